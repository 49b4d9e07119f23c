def F_X9_number_k1_2 (τ : St) (a1 : Int32) (a2 : Int32) (u1 : St) : Int32 × St := (if (u1.1 1548) = (2 : Int32) then (if (F_X9_in (u1.1 1550) a1 a2) = 0 then ((0 : Int32), u1) else ((1 : Int32), u1)) else ((0 : Int32), u1))
def F_X9_number (τ : St) (a1 : Int32) (a2 : Int32) : Int32 × St := (F_X9_number_k1_2 τ a1 a2 (F_X9_token τ))
abbrev I_X9_number : List Nat := [1547, 1548, 1549, 1550]
abbrev A_X9_number : List Nat := []
theorem fr_F_X9_number_k1_2 (τ : St) (a1 : Int32) (a2 : Int32) (u1 : St) (hfr : Fr I_X9_number A_X9_number false τ (u1)) : Fr I_X9_number A_X9_number false τ (F_X9_number_k1_2  τ a1 a2 u1).2 := (fr_ite2 (fr_ite2 hfr hfr) hfr)
theorem fr_F_X9_number (τ : St) (a1 : Int32) (a2 : Int32) : Fr I_X9_number A_X9_number false τ (F_X9_number τ a1 a2).2 := (fr_F_X9_number_k1_2 τ a1 a2 (F_X9_token τ) (Fr.tr Fr.rf (Fr.mono (by decide) (by decide) (by decide) (fr_F_X9_token τ))))
set_option maxHeartbeats 4000000 in
set_option maxRecDepth 20000 in
theorem c_X9_number (l : Launch) (D : va_G) (cI cZ : ClassId) (z : Nat) (ad : Nat → Nat) (σ τ : St) (a1 a2 : Int32) (hk_ : 0 ≤ (τ.1 1547).toInt ∧ (τ.1 1547).toInt ≤ 200) (ht_ : 0 ≤ (τ.1 1538).toInt ∧ (τ.1 1538).toInt ≤ 200) : gM l yX9_number cX9_number 3 (some .boolean) 4 D cI cZ z (gws ad cI cZ σ τ) [.ref (ad 48), .int a1, .int a2] (some (.int (F_X9_number τ a1 a2).1)) (gws ad cI cZ σ (F_X9_number τ a1 a2).2) := by
  refine g_met (own := RX9) (by decide) rfl (Nat.le_of_ble_eq_true rfl) (fun p e s m below meth c ls Q E hr hlk h hl hQ => ?_)
  have hx := E.1
  have hb := E.2.1
  have hF : (F_X9_number τ a1 a2) = (F_X9_number τ a1 a2) := rfl
  have hl : lv_has ls 3 [(0, .ref (ad 48)), (1, .int a1), (2, .int a2)] := hl
  refine lv_aload_n hx hb dX9_number_0 rfl (lv_at hl 0 rfl) ?_
  refine g_callVUv (F_X9_token τ) (fun u => gws ad cI cZ σ u) (rest := []) E h (c_X9_token l D cI cZ z ad σ τ (show 0 ≤ (τ.1 1547).toInt ∧ (τ.1 1547).toInt ≤ 200 from by omega) (show 0 ≤ (τ.1 1538).toInt ∧ (τ.1 1538).toInt ≤ 200 from by omega)) mw_778 cbX9_token 48 rfl rfl ⟨by decide, by decide⟩ rfl rfl hl.1 (Nat.le_of_ble_eq_true rfl) ⟨Nat.zero_le _, Nat.zero_le _⟩ dX9_number_1 (fun u1 huu1 H locs h => ?_)
  have hF : F_X9_number_k1_2 τ a1 a2 u1 = (F_X9_number τ a1 a2) := by rw [← huu1]; exact hF
  refine lv_aload_n hx hb dX9_number_4 rfl (lv_at hl 0 rfl) ?_
  refine g_get (v := .int (u1.1 1548)) E h 48 rfl rfl layX9 12 (by decide) rfl mw_831 rfl dX9_number_5 ?_
  refine lv_iconst (v := 2) hx hb dX9_number_8 (by decide) ?_
  refine lv_icmp_ne (tgt := 28) hx hb dX9_number_9 (by decide) (fun c3 => ?_) (fun c3 => ?_)
  · have ic3 : (u1.1 1548).toInt ≠ 2 := i_ne c3
    have hF := (if_neg c3).symm.trans hF
    refine lv_iconst (v := 0) hx hb dX9_number_28 (by decide) ?_
    exact g_zret E hr hlk h hQ (rfl) (fst_of hF) (snd_of hF (fun u => gws ad cI cZ σ u)) dX9_number_29
  · have ic3 : (u1.1 1548).toInt = 2 := i_eq c3
    have hF := (if_pos c3).symm.trans hF
    refine lv_aload_n hx hb dX9_number_12 rfl (lv_at hl 0 rfl) ?_
    refine g_get (v := .int (u1.1 1550)) E h 48 rfl rfl layX9 14 (by decide) rfl mw_833 rfl dX9_number_13 ?_
    refine lv_iload_n hx hb dX9_number_16 rfl (lv_at hl 1 rfl) ?_
    refine lv_iload_n hx hb dX9_number_17 rfl (lv_at hl 2 rfl) ?_
    refine g_callSi (rest := []) E h (c_X9_in l D cI cZ z (gws ad cI cZ σ u1) (u1.1 1550) a1 a2) mw_789 cbX9_in ⟨by decide, by decide⟩ rfl rfl hl.1 (Nat.le_of_ble_eq_true rfl) ⟨Nat.zero_le _, Nat.zero_le _⟩ dX9_number_18 (fun H locs h => ?_)
    refine lv_if_eq (tgt := 28) hx hb dX9_number_21 (by decide) (fun c4 => ?_) (fun c4 => ?_)
    · have ic4 : (F_X9_in (u1.1 1550) a1 a2).toInt = 0 := i_eq c4
      have hF := (if_pos c4).symm.trans hF
      refine lv_iconst (v := 0) hx hb dX9_number_28 (by decide) ?_
      exact g_zret E hr hlk h hQ (rfl) (fst_of hF) (snd_of hF (fun u => gws ad cI cZ σ u)) dX9_number_29
    · have ic4 : (F_X9_in (u1.1 1550) a1 a2).toInt ≠ 0 := i_ne c4
      have jc4 : a1.toInt ≤ (u1.1 1550).toInt ∧ (u1.1 1550).toInt ≤ a2.toInt := fz_in c4
      have hF := (if_neg c4).symm.trans hF
      refine lv_iconst (v := 1) hx hb dX9_number_24 (by decide) ?_
      refine lv_goto (tgt := 29) hx hb dX9_number_25 (by decide) ?_
      exact g_zret E hr hlk h hQ (rfl) (fst_of hF) (snd_of hF (fun u => gws ad cI cZ σ u)) dX9_number_29

theorem b01_F_X9_number_k1_2 (τ : St) (a1 : Int32) (a2 : Int32) (u1 : St) : (F_X9_number_k1_2 τ a1 a2 u1).1 = 0 ∨ (F_X9_number_k1_2 τ a1 a2 u1).1 = 1 := (b01_ite (b01_ite (Or.inl rfl) (Or.inr rfl)) (Or.inl rfl))
theorem b01_F_X9_number (τ : St) (a1 : Int32) (a2 : Int32) : (F_X9_number τ a1 a2).1 = 0 ∨ (F_X9_number τ a1 a2).1 = 1 := (b01_F_X9_number_k1_2 τ a1 a2 (F_X9_token τ))

theorem num_st (τ : St) (a b : Int32) : (F_X9_number τ a b).2 = F_X9_token τ := by
  show (F_X9_number_k1_2 τ a b (F_X9_token τ)).2 = _
  generalize F_X9_token τ = u
  unfold F_X9_number_k1_2
  split
  · split <;> rfl
  · rfl
theorem num_val (τ : St) (a b : Int32) : ¬ (F_X9_number τ a b).1 = 0 → (F_X9_number τ a b).2.1 1548 = 2 ∧ a.toInt ≤ ((F_X9_number τ a b).2.1 1550).toInt ∧ ((F_X9_number τ a b).2.1 1550).toInt ≤ b.toInt := by
  show ¬ (F_X9_number_k1_2 τ a b (F_X9_token τ)).1 = 0 → (F_X9_number_k1_2 τ a b (F_X9_token τ)).2.1 1548 = 2 ∧ a.toInt ≤ ((F_X9_number_k1_2 τ a b (F_X9_token τ)).2.1 1550).toInt ∧ ((F_X9_number_k1_2 τ a b (F_X9_token τ)).2.1 1550).toInt ≤ b.toInt
  generalize F_X9_token τ = u
  unfold F_X9_number_k1_2
  intro h
  by_cases c : (u.1 1548) = (2 : Int32)
  · rw [if_pos c] at h ⊢
    by_cases d : (F_X9_in (u.1 1550) a b) = 0
    · rw [if_pos d] at h; exact absurd rfl h
    · rw [if_neg d]; exact ⟨c, fz_in d⟩
  · rw [if_neg c] at h; exact absurd rfl h
theorem num_ab {τ : St} {a b : Int32} (h : AB τ) : AB (F_X9_number τ a b).2 := by
  rw [num_st]; exact (tok_ab τ h).1

def F_X9_readsStage_k138_16 (τ : St) (u2 : Int32 × St) (u5 : Int32 × St) (u9 : Int32 × St) (u12 : Int32 × St) (u15 : Int32 × St) : Int32 × St := (if u15.1 = 0 then ((0 : Int32), u15.2) else ((1 : Int32), (sa u15.2 51 (upd (upd (u15.2.2.1 51) ((42 : Int32) + ((τ.2.1 51) 1)).toNatClampNeg (u15.2.1 1550)) 1 (((upd (u15.2.2.1 51) ((42 : Int32) + ((τ.2.1 51) 1)).toNatClampNeg (u15.2.1 1550)) 1) + (1 : Int32))))))
def F_X9_readsStage_k114_13 (τ : St) (u2 : Int32 × St) (u5 : Int32 × St) (u9 : Int32 × St) (u12 : Int32 × St) : Int32 × St := (if u12.1 = 0 then ((0 : Int32), u12.2) else (F_X9_readsStage_k138_16 τ u2 u5 u9 u12 (F_X9_number (sa u12.2 51 (upd (u12.2.2.1 51) ((34 : Int32) + ((τ.2.1 51) 1)).toNatClampNeg (u12.2.1 1550))) (0 : Int32) (((τ.2.1 51) 0) - (1 : Int32)))))
def F_X9_readsStage_k90_10 (τ : St) (u2 : Int32 × St) (u5 : Int32 × St) (u9 : Int32 × St) : Int32 × St := (if u9.1 = 0 then ((0 : Int32), u9.2) else (F_X9_readsStage_k114_13 τ u2 u5 u9 (F_X9_number (sa u9.2 51 (upd (u9.2.2.1 51) ((26 : Int32) + ((τ.2.1 51) 1)).toNatClampNeg (u9.2.1 1550))) (0 : Int32) (1 : Int32))))
def F_X9_readsStage_k49_6 (τ : St) (u2 : Int32 × St) (u5 : Int32 × St) : Int32 × St := (if u5.1 = 0 then ((0 : Int32), u5.2) else (if (u5.2.1 1550) = ((u5.2.2.1 51) ((10 : Int32) + ((τ.2.1 51) 1)).toNatClampNeg) then ((0 : Int32), u5.2) else (F_X9_readsStage_k90_10 τ u2 u5 (F_X9_number (sa u5.2 51 (upd (u5.2.2.1 51) ((18 : Int32) + ((τ.2.1 51) 1)).toNatClampNeg (u5.2.1 1550))) (1 : Int32) (9 : Int32)))))
def F_X9_readsStage_k25_3 (τ : St) (u2 : Int32 × St) : Int32 × St := (if u2.1 = 0 then ((0 : Int32), u2.2) else (F_X9_readsStage_k49_6 τ u2 (F_X9_number (sa u2.2 51 (upd (u2.2.2.1 51) ((10 : Int32) + ((τ.2.1 51) 1)).toNatClampNeg (u2.2.1 1550))) (0 : Int32) (((τ.2.1 51) 0) - (1 : Int32)))))
def F_X9_readsStage (τ : St) : Int32 × St := (if ((τ.2.1 51) 1) = (8 : Int32) then ((0 : Int32), τ) else (F_X9_readsStage_k25_3 τ (F_X9_number τ (0 : Int32) (((τ.2.1 51) 0) - (1 : Int32)))))
abbrev I_X9_readsStage : List Nat := [1547, 1548, 1549, 1550]
abbrev A_X9_readsStage : List Nat := [51]
theorem fr_F_X9_readsStage_k138_16 (τ : St) (u2 : Int32 × St) (u5 : Int32 × St) (u9 : Int32 × St) (u12 : Int32 × St) (u15 : Int32 × St) (hfr : Fr I_X9_readsStage A_X9_readsStage false τ (u15.2)) : Fr I_X9_readsStage A_X9_readsStage false τ (F_X9_readsStage_k138_16  τ u2 u5 u9 u12 u15).2 := (fr_ite2 hfr (Fr.sa (by decide) hfr))
theorem fr_F_X9_readsStage_k114_13 (τ : St) (u2 : Int32 × St) (u5 : Int32 × St) (u9 : Int32 × St) (u12 : Int32 × St) (hfr : Fr I_X9_readsStage A_X9_readsStage false τ (u12.2)) : Fr I_X9_readsStage A_X9_readsStage false τ (F_X9_readsStage_k114_13  τ u2 u5 u9 u12).2 := (fr_ite2 hfr (fr_F_X9_readsStage_k138_16 τ u2 u5 u9 u12 (F_X9_number (sa u12.2 51 (upd (u12.2.2.1 51) ((34 : Int32) + ((τ.2.1 51) 1)).toNatClampNeg (u12.2.1 1550))) (0 : Int32) (((τ.2.1 51) 0) - (1 : Int32))) (Fr.tr (Fr.sa (by decide) hfr) (Fr.mono (by decide) (by decide) (by decide) (fr_F_X9_number (sa u12.2 51 (upd (u12.2.2.1 51) ((34 : Int32) + ((τ.2.1 51) 1)).toNatClampNeg (u12.2.1 1550))) (0 : Int32) (((τ.2.1 51) 0) - (1 : Int32)))))))
theorem fr_F_X9_readsStage_k90_10 (τ : St) (u2 : Int32 × St) (u5 : Int32 × St) (u9 : Int32 × St) (hfr : Fr I_X9_readsStage A_X9_readsStage false τ (u9.2)) : Fr I_X9_readsStage A_X9_readsStage false τ (F_X9_readsStage_k90_10  τ u2 u5 u9).2 := (fr_ite2 hfr (fr_F_X9_readsStage_k114_13 τ u2 u5 u9 (F_X9_number (sa u9.2 51 (upd (u9.2.2.1 51) ((26 : Int32) + ((τ.2.1 51) 1)).toNatClampNeg (u9.2.1 1550))) (0 : Int32) (1 : Int32)) (Fr.tr (Fr.sa (by decide) hfr) (Fr.mono (by decide) (by decide) (by decide) (fr_F_X9_number (sa u9.2 51 (upd (u9.2.2.1 51) ((26 : Int32) + ((τ.2.1 51) 1)).toNatClampNeg (u9.2.1 1550))) (0 : Int32) (1 : Int32))))))
theorem fr_F_X9_readsStage_k49_6 (τ : St) (u2 : Int32 × St) (u5 : Int32 × St) (hfr : Fr I_X9_readsStage A_X9_readsStage false τ (u5.2)) : Fr I_X9_readsStage A_X9_readsStage false τ (F_X9_readsStage_k49_6  τ u2 u5).2 := (fr_ite2 hfr (fr_ite2 hfr (fr_F_X9_readsStage_k90_10 τ u2 u5 (F_X9_number (sa u5.2 51 (upd (u5.2.2.1 51) ((18 : Int32) + ((τ.2.1 51) 1)).toNatClampNeg (u5.2.1 1550))) (1 : Int32) (9 : Int32)) (Fr.tr (Fr.sa (by decide) hfr) (Fr.mono (by decide) (by decide) (by decide) (fr_F_X9_number (sa u5.2 51 (upd (u5.2.2.1 51) ((18 : Int32) + ((τ.2.1 51) 1)).toNatClampNeg (u5.2.1 1550))) (1 : Int32) (9 : Int32)))))))
theorem fr_F_X9_readsStage_k25_3 (τ : St) (u2 : Int32 × St) (hfr : Fr I_X9_readsStage A_X9_readsStage false τ (u2.2)) : Fr I_X9_readsStage A_X9_readsStage false τ (F_X9_readsStage_k25_3  τ u2).2 := (fr_ite2 hfr (fr_F_X9_readsStage_k49_6 τ u2 (F_X9_number (sa u2.2 51 (upd (u2.2.2.1 51) ((10 : Int32) + ((τ.2.1 51) 1)).toNatClampNeg (u2.2.1 1550))) (0 : Int32) (((τ.2.1 51) 0) - (1 : Int32))) (Fr.tr (Fr.sa (by decide) hfr) (Fr.mono (by decide) (by decide) (by decide) (fr_F_X9_number (sa u2.2 51 (upd (u2.2.2.1 51) ((10 : Int32) + ((τ.2.1 51) 1)).toNatClampNeg (u2.2.1 1550))) (0 : Int32) (((τ.2.1 51) 0) - (1 : Int32)))))))
theorem fr_F_X9_readsStage (τ : St) : Fr I_X9_readsStage A_X9_readsStage false τ (F_X9_readsStage τ).2 := (fr_ite2 Fr.rf (fr_F_X9_readsStage_k25_3 τ (F_X9_number τ (0 : Int32) (((τ.2.1 51) 0) - (1 : Int32))) (Fr.tr Fr.rf (Fr.mono (by decide) (by decide) (by decide) (fr_F_X9_number τ (0 : Int32) (((τ.2.1 51) 0) - (1 : Int32)))))))
set_option maxHeartbeats 4000000 in
set_option maxRecDepth 20000 in
theorem c_X9_readsStage (l : Launch) (D : va_G) (cI cZ : ClassId) (z : Nat) (ad : Nat → Nat) (σ τ : St) (hk_ : 0 ≤ (τ.1 1547).toInt ∧ (τ.1 1547).toInt ≤ 200) (ht_ : 0 ≤ (τ.1 1538).toInt ∧ (τ.1 1538).toInt ≤ 200) (h1_ : 0 ≤ ((τ.2.1 51) 1).toInt ∧ ((τ.2.1 51) 1).toInt ≤ 8) : gM l yX9_readsStage cX9_readsStage 3 (some .boolean) 5 D cI cZ z (gws ad cI cZ σ τ) [.ref (ad 48)] (some (.int (F_X9_readsStage τ).1)) (gws ad cI cZ σ (F_X9_readsStage τ).2) := by
  refine g_met (own := RX9) (by decide) rfl (Nat.le_of_ble_eq_true rfl) (fun p e s m below meth c ls Q E hr hlk h hl hQ => ?_)
  have hx := E.1
  have hb := E.2.1
  have hF : (F_X9_readsStage τ) = (F_X9_readsStage τ) := rfl
  have hl : lv_has ls 3 [(0, .ref (ad 48))] := hl
  have hab : AB τ := ⟨hk_, ht_⟩
  refine lv_aload_n hx hb dX9_readsStage_0 rfl (lv_at hl 0 rfl) ?_
  refine g_get (v := .ref (ad 51)) E h 48 rfl rfl layX9 4 (by decide) rfl mw_823 rfl dX9_readsStage_1 ?_
  refine lv_iconst (v := 1) hx hb dX9_readsStage_4 (by decide) ?_
  refine g_ialdk (f := (τ.2.1 51)) E h 51 rfl 1 rfl (ix_of (oI_lit (x := 1) (a := 1) rfl) (by omega) (by decide)) dX9_readsStage_5 ?_
  refine lv_istore_n (lv' := [(1, .int ((τ.2.1 51) 1)), (0, .ref (ad 48))]) hx hb dX9_readsStage_6 rfl hl (by decide) rfl (fun ls hl => ?_)
  refine lv_aload_n hx hb dX9_readsStage_7 rfl (lv_at hl 1 rfl) ?_
  refine g_get (v := .ref (ad 51)) E h 48 rfl rfl layX9 4 (by decide) rfl mw_823 rfl dX9_readsStage_8 ?_
  refine lv_iconst (v := 0) hx hb dX9_readsStage_11 (by decide) ?_
  refine g_ialdk (f := (τ.2.1 51)) E h 51 rfl 0 rfl (ix_of (oI_lit (x := 0) (a := 0) rfl) (by omega) (by decide)) dX9_readsStage_12 ?_
  refine lv_iconst (v := 1) hx hb dX9_readsStage_13 (by decide) ?_
  refine lv_isub hx hb dX9_readsStage_14 ?_
  refine lv_istore_n (lv' := [(2, .int (((τ.2.1 51) 0) - (1 : Int32))), (1, .int ((τ.2.1 51) 1)), (0, .ref (ad 48))]) hx hb dX9_readsStage_15 rfl hl (by decide) rfl (fun ls hl => ?_)
  refine lv_iload_n hx hb dX9_readsStage_16 rfl (lv_at hl 1 rfl) ?_
  refine lv_bipush (v := 8) hx hb dX9_readsStage_17 (by decide) ?_
  refine lv_icmp_eq (tgt := 31) hx hb dX9_readsStage_19 (by decide) (fun c1 => ?_) (fun c1 => ?_)
  · have ic1 : ((τ.2.1 51) 1).toInt = 8 := i_eq c1
    have hF := (if_pos c1).symm.trans hF
    refine lv_iconst (v := 0) hx hb dX9_readsStage_31 (by decide) ?_
    exact g_zret E hr hlk h hQ (rfl) (fst_of hF) (snd_of hF (fun u => gws ad cI cZ σ u)) dX9_readsStage_32
  · have ic1 : ((τ.2.1 51) 1).toInt ≠ 8 := i_ne c1
    have hF := (if_neg c1).symm.trans hF
    refine lv_aload_n hx hb dX9_readsStage_22 rfl (lv_at hl 2 rfl) ?_
    refine lv_iconst (v := 0) hx hb dX9_readsStage_23 (by decide) ?_
    refine lv_iload_n hx hb dX9_readsStage_24 rfl (lv_at hl 0 rfl) ?_
    refine g_callVU (F_X9_number τ (0 : Int32) (((τ.2.1 51) 0) - (1 : Int32))) (fun u => gws ad cI cZ σ u) (rest := []) E h (c_X9_number l D cI cZ z ad σ τ (0 : Int32) (((τ.2.1 51) 0) - (1 : Int32)) (show 0 ≤ (τ.1 1547).toInt ∧ (τ.1 1547).toInt ≤ 200 from by omega) (show 0 ≤ (τ.1 1538).toInt ∧ (τ.1 1538).toInt ≤ 200 from by omega)) mw_799 cbX9_number 48 rfl rfl ⟨by decide, by decide⟩ rfl rfl hl.1 (Nat.le_of_ble_eq_true rfl) ⟨Nat.zero_le _, Nat.zero_le _⟩ dX9_readsStage_25 (fun u2 huu2 H locs h => ?_)
    have hF : F_X9_readsStage_k25_3 τ u2 = (F_X9_readsStage τ) := by rw [← huu2]; exact hF
    have hab : AB u2.2 := by rw [← huu2]; exact num_ab (τ := τ) hab
    have hab_ : (0 ≤ (u2.2.1 1547).toInt ∧ (u2.2.1 1547).toInt ≤ 200) ∧ 0 ≤ (u2.2.1 1538).toInt ∧ (u2.2.1 1538).toInt ≤ 200 := hab
    refine lv_if_ne (tgt := 33) hx hb dX9_readsStage_28 (by decide) (fun c4 => ?_) (fun c4 => ?_)
    · have ic4 : u2.1.toInt ≠ 0 := i_ne c4
      have hF := (if_neg c4).symm.trans hF
      refine lv_aload_n hx hb dX9_readsStage_33 rfl (lv_at hl 2 rfl) ?_
      refine g_get (v := .ref (ad 51)) E h 48 rfl rfl layX9 4 (by decide) rfl mw_823 rfl dX9_readsStage_34 ?_
      refine lv_bipush (v := 10) hx hb dX9_readsStage_37 (by decide) ?_
      refine lv_iload_n hx hb dX9_readsStage_39 rfl (lv_at hl 1 rfl) ?_
      refine lv_iadd hx hb dX9_readsStage_40 ?_
      refine lv_aload_n hx hb dX9_readsStage_41 rfl (lv_at hl 2 rfl) ?_
      refine g_get (v := .int (u2.2.1 1550)) E h 48 rfl rfl layX9 14 (by decide) rfl mw_833 rfl dX9_readsStage_42 ?_
      refine g_iast (f := (u2.2.2.1 51)) (ws' := gws ad cI cZ σ (sa u2.2 51 (upd (u2.2.2.1 51) ((10 : Int32) + ((τ.2.1 51) 1)).toNatClampNeg (u2.2.1 1550)))) E h 51 rfl (ix_of (oI_add (oI_lit (x := 10) (a := 10) rfl) (oI_at ((τ.2.1 51) 1))) (by omega) (by decide)) (ga_51 ad cI cZ σ u2.2 (upd (u2.2.2.1 51) ((10 : Int32) + ((τ.2.1 51) 1)).toNatClampNeg (u2.2.1 1550))) dX9_readsStage_45 (fun H locs h => ?_)
      refine lv_aload_n hx hb dX9_readsStage_46 rfl (lv_at hl 2 rfl) ?_
      refine lv_iconst (v := 0) hx hb dX9_readsStage_47 (by decide) ?_
      refine lv_iload_n hx hb dX9_readsStage_48 rfl (lv_at hl 0 rfl) ?_
      refine g_callVU (F_X9_number (sa u2.2 51 (upd (u2.2.2.1 51) ((10 : Int32) + ((τ.2.1 51) 1)).toNatClampNeg (u2.2.1 1550))) (0 : Int32) (((τ.2.1 51) 0) - (1 : Int32))) (fun u => gws ad cI cZ σ u) (rest := []) E h (c_X9_number l D cI cZ z ad σ (sa u2.2 51 (upd (u2.2.2.1 51) ((10 : Int32) + ((τ.2.1 51) 1)).toNatClampNeg (u2.2.1 1550))) (0 : Int32) (((τ.2.1 51) 0) - (1 : Int32)) (show 0 ≤ (u2.2.1 1547).toInt ∧ (u2.2.1 1547).toInt ≤ 200 from by omega) (show 0 ≤ (u2.2.1 1538).toInt ∧ (u2.2.1 1538).toInt ≤ 200 from by omega)) mw_799 cbX9_number 48 rfl rfl ⟨by decide, by decide⟩ rfl rfl hl.1 (Nat.le_of_ble_eq_true rfl) ⟨Nat.zero_le _, Nat.zero_le _⟩ dX9_readsStage_49 (fun u5 huu5 H locs h => ?_)
      have hF : F_X9_readsStage_k49_6 τ u2 u5 = (F_X9_readsStage τ) := by rw [← huu5]; exact hF
      have hab : AB u5.2 := by rw [← huu5]; exact num_ab (τ := (sa u2.2 51 (upd (u2.2.2.1 51) ((10 : Int32) + ((τ.2.1 51) 1)).toNatClampNeg (u2.2.1 1550)))) hab
      have hab_ : (0 ≤ (u5.2.1 1547).toInt ∧ (u5.2.1 1547).toInt ≤ 200) ∧ 0 ≤ (u5.2.1 1538).toInt ∧ (u5.2.1 1538).toInt ≤ 200 := hab
      refine lv_if_eq (tgt := 71) hx hb dX9_readsStage_52 (by decide) (fun c7 => ?_) (fun c7 => ?_)
      · have ic7 : u5.1.toInt = 0 := i_eq c7
        have hF := (if_pos c7).symm.trans hF
        refine lv_iconst (v := 0) hx hb dX9_readsStage_71 (by decide) ?_
        exact g_zret E hr hlk h hQ (rfl) (fst_of hF) (snd_of hF (fun u => gws ad cI cZ σ u)) dX9_readsStage_72
      · have ic7 : u5.1.toInt ≠ 0 := i_ne c7
        have hF := (if_neg c7).symm.trans hF
        refine lv_aload_n hx hb dX9_readsStage_55 rfl (lv_at hl 2 rfl) ?_
        refine g_get (v := .int (u5.2.1 1550)) E h 48 rfl rfl layX9 14 (by decide) rfl mw_833 rfl dX9_readsStage_56 ?_
        refine lv_aload_n hx hb dX9_readsStage_59 rfl (lv_at hl 2 rfl) ?_
        refine g_get (v := .ref (ad 51)) E h 48 rfl rfl layX9 4 (by decide) rfl mw_823 rfl dX9_readsStage_60 ?_
        refine lv_bipush (v := 10) hx hb dX9_readsStage_63 (by decide) ?_
        refine lv_iload_n hx hb dX9_readsStage_65 rfl (lv_at hl 1 rfl) ?_
        refine lv_iadd hx hb dX9_readsStage_66 ?_
        refine g_iald (f := (u5.2.2.1 51)) E h 51 rfl (ix_of (oI_add (oI_lit (x := 10) (a := 10) rfl) (oI_at ((τ.2.1 51) 1))) (by omega) (by decide)) dX9_readsStage_67 ?_
        refine lv_icmp_ne (tgt := 73) hx hb dX9_readsStage_68 (by decide) (fun c8 => ?_) (fun c8 => ?_)
        · have ic8 : (u5.2.1 1550).toInt ≠ ((u5.2.2.1 51) ((10 : Int32) + ((τ.2.1 51) 1)).toNatClampNeg).toInt := i_ne c8
          have hF := (if_neg c8).symm.trans hF
          refine lv_aload_n hx hb dX9_readsStage_73 rfl (lv_at hl 2 rfl) ?_
          refine g_get (v := .ref (ad 51)) E h 48 rfl rfl layX9 4 (by decide) rfl mw_823 rfl dX9_readsStage_74 ?_
          refine lv_bipush (v := 18) hx hb dX9_readsStage_77 (by decide) ?_
          refine lv_iload_n hx hb dX9_readsStage_79 rfl (lv_at hl 1 rfl) ?_
          refine lv_iadd hx hb dX9_readsStage_80 ?_
          refine lv_aload_n hx hb dX9_readsStage_81 rfl (lv_at hl 2 rfl) ?_
          refine g_get (v := .int (u5.2.1 1550)) E h 48 rfl rfl layX9 14 (by decide) rfl mw_833 rfl dX9_readsStage_82 ?_
          refine g_iast (f := (u5.2.2.1 51)) (ws' := gws ad cI cZ σ (sa u5.2 51 (upd (u5.2.2.1 51) ((18 : Int32) + ((τ.2.1 51) 1)).toNatClampNeg (u5.2.1 1550)))) E h 51 rfl (ix_of (oI_add (oI_lit (x := 18) (a := 18) rfl) (oI_at ((τ.2.1 51) 1))) (by omega) (by decide)) (ga_51 ad cI cZ σ u5.2 (upd (u5.2.2.1 51) ((18 : Int32) + ((τ.2.1 51) 1)).toNatClampNeg (u5.2.1 1550))) dX9_readsStage_85 (fun H locs h => ?_)
          refine lv_aload_n hx hb dX9_readsStage_86 rfl (lv_at hl 2 rfl) ?_
          refine lv_iconst (v := 1) hx hb dX9_readsStage_87 (by decide) ?_
          refine lv_bipush (v := 9) hx hb dX9_readsStage_88 (by decide) ?_
          refine g_callVU (F_X9_number (sa u5.2 51 (upd (u5.2.2.1 51) ((18 : Int32) + ((τ.2.1 51) 1)).toNatClampNeg (u5.2.1 1550))) (1 : Int32) (9 : Int32)) (fun u => gws ad cI cZ σ u) (rest := []) E h (c_X9_number l D cI cZ z ad σ (sa u5.2 51 (upd (u5.2.2.1 51) ((18 : Int32) + ((τ.2.1 51) 1)).toNatClampNeg (u5.2.1 1550))) (1 : Int32) (9 : Int32) (show 0 ≤ (u5.2.1 1547).toInt ∧ (u5.2.1 1547).toInt ≤ 200 from by omega) (show 0 ≤ (u5.2.1 1538).toInt ∧ (u5.2.1 1538).toInt ≤ 200 from by omega)) mw_799 cbX9_number 48 rfl rfl ⟨by decide, by decide⟩ rfl rfl hl.1 (Nat.le_of_ble_eq_true rfl) ⟨Nat.zero_le _, Nat.zero_le _⟩ dX9_readsStage_90 (fun u9 huu9 H locs h => ?_)
          have hF : F_X9_readsStage_k90_10 τ u2 u5 u9 = (F_X9_readsStage τ) := by rw [← huu9]; exact hF
          have hab : AB u9.2 := by rw [← huu9]; exact num_ab (τ := (sa u5.2 51 (upd (u5.2.2.1 51) ((18 : Int32) + ((τ.2.1 51) 1)).toNatClampNeg (u5.2.1 1550)))) hab
          have hab_ : (0 ≤ (u9.2.1 1547).toInt ∧ (u9.2.1 1547).toInt ≤ 200) ∧ 0 ≤ (u9.2.1 1538).toInt ∧ (u9.2.1 1538).toInt ≤ 200 := hab
          refine lv_if_ne (tgt := 98) hx hb dX9_readsStage_93 (by decide) (fun c11 => ?_) (fun c11 => ?_)
          · have ic11 : u9.1.toInt ≠ 0 := i_ne c11
            have hF := (if_neg c11).symm.trans hF
            refine lv_aload_n hx hb dX9_readsStage_98 rfl (lv_at hl 2 rfl) ?_
            refine g_get (v := .ref (ad 51)) E h 48 rfl rfl layX9 4 (by decide) rfl mw_823 rfl dX9_readsStage_99 ?_
            refine lv_bipush (v := 26) hx hb dX9_readsStage_102 (by decide) ?_
            refine lv_iload_n hx hb dX9_readsStage_104 rfl (lv_at hl 1 rfl) ?_
            refine lv_iadd hx hb dX9_readsStage_105 ?_
            refine lv_aload_n hx hb dX9_readsStage_106 rfl (lv_at hl 2 rfl) ?_
            refine g_get (v := .int (u9.2.1 1550)) E h 48 rfl rfl layX9 14 (by decide) rfl mw_833 rfl dX9_readsStage_107 ?_
            refine g_iast (f := (u9.2.2.1 51)) (ws' := gws ad cI cZ σ (sa u9.2 51 (upd (u9.2.2.1 51) ((26 : Int32) + ((τ.2.1 51) 1)).toNatClampNeg (u9.2.1 1550)))) E h 51 rfl (ix_of (oI_add (oI_lit (x := 26) (a := 26) rfl) (oI_at ((τ.2.1 51) 1))) (by omega) (by decide)) (ga_51 ad cI cZ σ u9.2 (upd (u9.2.2.1 51) ((26 : Int32) + ((τ.2.1 51) 1)).toNatClampNeg (u9.2.1 1550))) dX9_readsStage_110 (fun H locs h => ?_)
            refine lv_aload_n hx hb dX9_readsStage_111 rfl (lv_at hl 2 rfl) ?_
            refine lv_iconst (v := 0) hx hb dX9_readsStage_112 (by decide) ?_
            refine lv_iconst (v := 1) hx hb dX9_readsStage_113 (by decide) ?_
            refine g_callVU (F_X9_number (sa u9.2 51 (upd (u9.2.2.1 51) ((26 : Int32) + ((τ.2.1 51) 1)).toNatClampNeg (u9.2.1 1550))) (0 : Int32) (1 : Int32)) (fun u => gws ad cI cZ σ u) (rest := []) E h (c_X9_number l D cI cZ z ad σ (sa u9.2 51 (upd (u9.2.2.1 51) ((26 : Int32) + ((τ.2.1 51) 1)).toNatClampNeg (u9.2.1 1550))) (0 : Int32) (1 : Int32) (show 0 ≤ (u9.2.1 1547).toInt ∧ (u9.2.1 1547).toInt ≤ 200 from by omega) (show 0 ≤ (u9.2.1 1538).toInt ∧ (u9.2.1 1538).toInt ≤ 200 from by omega)) mw_799 cbX9_number 48 rfl rfl ⟨by decide, by decide⟩ rfl rfl hl.1 (Nat.le_of_ble_eq_true rfl) ⟨Nat.zero_le _, Nat.zero_le _⟩ dX9_readsStage_114 (fun u12 huu12 H locs h => ?_)
            have hF : F_X9_readsStage_k114_13 τ u2 u5 u9 u12 = (F_X9_readsStage τ) := by rw [← huu12]; exact hF
            have hab : AB u12.2 := by rw [← huu12]; exact num_ab (τ := (sa u9.2 51 (upd (u9.2.2.1 51) ((26 : Int32) + ((τ.2.1 51) 1)).toNatClampNeg (u9.2.1 1550)))) hab
            have hab_ : (0 ≤ (u12.2.1 1547).toInt ∧ (u12.2.1 1547).toInt ≤ 200) ∧ 0 ≤ (u12.2.1 1538).toInt ∧ (u12.2.1 1538).toInt ≤ 200 := hab
            refine lv_if_ne (tgt := 122) hx hb dX9_readsStage_117 (by decide) (fun c14 => ?_) (fun c14 => ?_)
            · have ic14 : u12.1.toInt ≠ 0 := i_ne c14
              have hF := (if_neg c14).symm.trans hF
              refine lv_aload_n hx hb dX9_readsStage_122 rfl (lv_at hl 2 rfl) ?_
              refine g_get (v := .ref (ad 51)) E h 48 rfl rfl layX9 4 (by decide) rfl mw_823 rfl dX9_readsStage_123 ?_
              refine lv_bipush (v := 34) hx hb dX9_readsStage_126 (by decide) ?_
              refine lv_iload_n hx hb dX9_readsStage_128 rfl (lv_at hl 1 rfl) ?_
              refine lv_iadd hx hb dX9_readsStage_129 ?_
              refine lv_aload_n hx hb dX9_readsStage_130 rfl (lv_at hl 2 rfl) ?_
              refine g_get (v := .int (u12.2.1 1550)) E h 48 rfl rfl layX9 14 (by decide) rfl mw_833 rfl dX9_readsStage_131 ?_
              refine g_iast (f := (u12.2.2.1 51)) (ws' := gws ad cI cZ σ (sa u12.2 51 (upd (u12.2.2.1 51) ((34 : Int32) + ((τ.2.1 51) 1)).toNatClampNeg (u12.2.1 1550)))) E h 51 rfl (ix_of (oI_add (oI_lit (x := 34) (a := 34) rfl) (oI_at ((τ.2.1 51) 1))) (by omega) (by decide)) (ga_51 ad cI cZ σ u12.2 (upd (u12.2.2.1 51) ((34 : Int32) + ((τ.2.1 51) 1)).toNatClampNeg (u12.2.1 1550))) dX9_readsStage_134 (fun H locs h => ?_)
              refine lv_aload_n hx hb dX9_readsStage_135 rfl (lv_at hl 2 rfl) ?_
              refine lv_iconst (v := 0) hx hb dX9_readsStage_136 (by decide) ?_
              refine lv_iload_n hx hb dX9_readsStage_137 rfl (lv_at hl 0 rfl) ?_
              refine g_callVU (F_X9_number (sa u12.2 51 (upd (u12.2.2.1 51) ((34 : Int32) + ((τ.2.1 51) 1)).toNatClampNeg (u12.2.1 1550))) (0 : Int32) (((τ.2.1 51) 0) - (1 : Int32))) (fun u => gws ad cI cZ σ u) (rest := []) E h (c_X9_number l D cI cZ z ad σ (sa u12.2 51 (upd (u12.2.2.1 51) ((34 : Int32) + ((τ.2.1 51) 1)).toNatClampNeg (u12.2.1 1550))) (0 : Int32) (((τ.2.1 51) 0) - (1 : Int32)) (show 0 ≤ (u12.2.1 1547).toInt ∧ (u12.2.1 1547).toInt ≤ 200 from by omega) (show 0 ≤ (u12.2.1 1538).toInt ∧ (u12.2.1 1538).toInt ≤ 200 from by omega)) mw_799 cbX9_number 48 rfl rfl ⟨by decide, by decide⟩ rfl rfl hl.1 (Nat.le_of_ble_eq_true rfl) ⟨Nat.zero_le _, Nat.zero_le _⟩ dX9_readsStage_138 (fun u15 huu15 H locs h => ?_)
              have hF : F_X9_readsStage_k138_16 τ u2 u5 u9 u12 u15 = (F_X9_readsStage τ) := by rw [← huu15]; exact hF
              have hab : AB u15.2 := by rw [← huu15]; exact num_ab (τ := (sa u12.2 51 (upd (u12.2.2.1 51) ((34 : Int32) + ((τ.2.1 51) 1)).toNatClampNeg (u12.2.1 1550)))) hab
              have hab_ : (0 ≤ (u15.2.1 1547).toInt ∧ (u15.2.1 1547).toInt ≤ 200) ∧ 0 ≤ (u15.2.1 1538).toInt ∧ (u15.2.1 1538).toInt ≤ 200 := hab
              refine lv_if_ne (tgt := 146) hx hb dX9_readsStage_141 (by decide) (fun c17 => ?_) (fun c17 => ?_)
              · have ic17 : u15.1.toInt ≠ 0 := i_ne c17
                have hF := (if_neg c17).symm.trans hF
                refine lv_aload_n hx hb dX9_readsStage_146 rfl (lv_at hl 2 rfl) ?_
                refine g_get (v := .ref (ad 51)) E h 48 rfl rfl layX9 4 (by decide) rfl mw_823 rfl dX9_readsStage_147 ?_
                refine lv_bipush (v := 42) hx hb dX9_readsStage_150 (by decide) ?_
                refine lv_iload_n hx hb dX9_readsStage_152 rfl (lv_at hl 1 rfl) ?_
                refine lv_iadd hx hb dX9_readsStage_153 ?_
                refine lv_aload_n hx hb dX9_readsStage_154 rfl (lv_at hl 2 rfl) ?_
                refine g_get (v := .int (u15.2.1 1550)) E h 48 rfl rfl layX9 14 (by decide) rfl mw_833 rfl dX9_readsStage_155 ?_
                refine g_iast (f := (u15.2.2.1 51)) (ws' := gws ad cI cZ σ (sa u15.2 51 (upd (u15.2.2.1 51) ((42 : Int32) + ((τ.2.1 51) 1)).toNatClampNeg (u15.2.1 1550)))) E h 51 rfl (ix_of (oI_add (oI_lit (x := 42) (a := 42) rfl) (oI_at ((τ.2.1 51) 1))) (by omega) (by decide)) (ga_51 ad cI cZ σ u15.2 (upd (u15.2.2.1 51) ((42 : Int32) + ((τ.2.1 51) 1)).toNatClampNeg (u15.2.1 1550))) dX9_readsStage_158 (fun H locs h => ?_)
                refine lv_aload_n hx hb dX9_readsStage_159 rfl (lv_at hl 2 rfl) ?_
                refine g_get (v := .ref (ad 51)) E h 48 rfl rfl layX9 4 (by decide) rfl mw_823 rfl dX9_readsStage_160 ?_
                refine lv_iconst (v := 1) hx hb dX9_readsStage_163 (by decide) ?_
                refine lv_dup2_11 hx hb dX9_readsStage_164 rfl rfl ?_
                refine g_ialdk (f := (upd (u15.2.2.1 51) ((42 : Int32) + ((τ.2.1 51) 1)).toNatClampNeg (u15.2.1 1550))) E h 51 rfl 1 rfl (ix_of (oI_lit (x := 1) (a := 1) rfl) (by omega) (by decide)) dX9_readsStage_165 ?_
                refine lv_iconst (v := 1) hx hb dX9_readsStage_166 (by decide) ?_
                refine lv_iadd hx hb dX9_readsStage_167 ?_
                refine g_iastk (f := (upd (u15.2.2.1 51) ((42 : Int32) + ((τ.2.1 51) 1)).toNatClampNeg (u15.2.1 1550))) (ws' := gws ad cI cZ σ (sa u15.2 51 (upd (upd (u15.2.2.1 51) ((42 : Int32) + ((τ.2.1 51) 1)).toNatClampNeg (u15.2.1 1550)) 1 (((upd (u15.2.2.1 51) ((42 : Int32) + ((τ.2.1 51) 1)).toNatClampNeg (u15.2.1 1550)) 1) + (1 : Int32))))) E h 51 rfl 1 rfl (ix_of (oI_lit (x := 1) (a := 1) rfl) (by omega) (by decide)) ((ga_51 ad cI cZ σ (sa u15.2 51 (upd (u15.2.2.1 51) ((42 : Int32) + ((τ.2.1 51) 1)).toNatClampNeg (u15.2.1 1550))) (upd (upd (u15.2.2.1 51) ((42 : Int32) + ((τ.2.1 51) 1)).toNatClampNeg (u15.2.1 1550)) 1 (((upd (u15.2.2.1 51) ((42 : Int32) + ((τ.2.1 51) 1)).toNatClampNeg (u15.2.1 1550)) 1) + (1 : Int32)))).trans (congrArg (fun u => gws ad cI cZ σ u) (sa_sa _ _ _ _))) dX9_readsStage_168 (fun H locs h => ?_)
                refine lv_iconst (v := 1) hx hb dX9_readsStage_169 (by decide) ?_
                exact g_zret E hr hlk h hQ (rfl) (fst_of hF) (snd_of hF (fun u => gws ad cI cZ σ u)) dX9_readsStage_170
              · have ic17 : u15.1.toInt = 0 := i_eq c17
                have hF := (if_pos c17).symm.trans hF
                refine lv_iconst (v := 0) hx hb dX9_readsStage_144 (by decide) ?_
                exact g_zret E hr hlk h hQ (rfl) (fst_of hF) (snd_of hF (fun u => gws ad cI cZ σ u)) dX9_readsStage_145
            · have ic14 : u12.1.toInt = 0 := i_eq c14
              have hF := (if_pos c14).symm.trans hF
              refine lv_iconst (v := 0) hx hb dX9_readsStage_120 (by decide) ?_
              exact g_zret E hr hlk h hQ (rfl) (fst_of hF) (snd_of hF (fun u => gws ad cI cZ σ u)) dX9_readsStage_121
          · have ic11 : u9.1.toInt = 0 := i_eq c11
            have hF := (if_pos c11).symm.trans hF
            refine lv_iconst (v := 0) hx hb dX9_readsStage_96 (by decide) ?_
            exact g_zret E hr hlk h hQ (rfl) (fst_of hF) (snd_of hF (fun u => gws ad cI cZ σ u)) dX9_readsStage_97
        · have ic8 : (u5.2.1 1550).toInt = ((u5.2.2.1 51) ((10 : Int32) + ((τ.2.1 51) 1)).toNatClampNeg).toInt := i_eq c8
          have hF := (if_pos c8).symm.trans hF
          refine lv_iconst (v := 0) hx hb dX9_readsStage_71 (by decide) ?_
          exact g_zret E hr hlk h hQ (rfl) (fst_of hF) (snd_of hF (fun u => gws ad cI cZ σ u)) dX9_readsStage_72
    · have ic4 : u2.1.toInt = 0 := i_eq c4
      have hF := (if_pos c4).symm.trans hF
      refine lv_iconst (v := 0) hx hb dX9_readsStage_31 (by decide) ?_
      exact g_zret E hr hlk h hQ (rfl) (fst_of hF) (snd_of hF (fun u => gws ad cI cZ σ u)) dX9_readsStage_32

def F_X9_readsCaravan_k68_9 (τ : St) (u2 : Int32 × St) (u5 : Int32 × St) (u8 : Int32 × St) : Int32 × St := (if u8.1 = 0 then ((0 : Int32), u8.2) else ((1 : Int32), (sa u8.2 51 (upd (upd (u8.2.2.1 51) ((50 : Int32) + ((τ.2.1 51) 2)).toNatClampNeg (u8.2.1 1550)) 2 (((upd (u8.2.2.1 51) ((50 : Int32) + ((τ.2.1 51) 2)).toNatClampNeg (u8.2.1 1550)) 2) + (1 : Int32))))))
def F_X9_readsCaravan_k44_6 (τ : St) (u2 : Int32 × St) (u5 : Int32 × St) : Int32 × St := (if u5.1 = 0 then ((0 : Int32), u5.2) else (F_X9_readsCaravan_k68_9 τ u2 u5 (F_X9_number (sa u5.2 52 (upd (u5.2.2.1 52) ((4 : Int32) + ((τ.2.1 51) 2)).toNatClampNeg (u5.2.1 1550))) (1 : Int32) (20 : Int32))))
def F_X9_readsCaravan_k22_3 (τ : St) (u2 : Int32 × St) : Int32 × St := (if u2.1 = 0 then ((0 : Int32), u2.2) else (F_X9_readsCaravan_k44_6 τ u2 (F_X9_number (sa u2.2 52 (upd (u2.2.2.1 52) ((τ.2.1 51) 2).toNatClampNeg (u2.2.1 1550))) (0 : Int32) (20 : Int32))))
def F_X9_readsCaravan (τ : St) : Int32 × St := (if ((τ.2.1 51) 2) = (4 : Int32) then ((0 : Int32), τ) else (F_X9_readsCaravan_k22_3 τ (F_X9_number τ (0 : Int32) (((τ.2.1 51) 0) - (1 : Int32)))))
abbrev I_X9_readsCaravan : List Nat := [1547, 1548, 1549, 1550]
abbrev A_X9_readsCaravan : List Nat := [51, 52]
theorem fr_F_X9_readsCaravan_k68_9 (τ : St) (u2 : Int32 × St) (u5 : Int32 × St) (u8 : Int32 × St) (hfr : Fr I_X9_readsCaravan A_X9_readsCaravan false τ (u8.2)) : Fr I_X9_readsCaravan A_X9_readsCaravan false τ (F_X9_readsCaravan_k68_9  τ u2 u5 u8).2 := (fr_ite2 hfr (Fr.sa (by decide) hfr))
theorem fr_F_X9_readsCaravan_k44_6 (τ : St) (u2 : Int32 × St) (u5 : Int32 × St) (hfr : Fr I_X9_readsCaravan A_X9_readsCaravan false τ (u5.2)) : Fr I_X9_readsCaravan A_X9_readsCaravan false τ (F_X9_readsCaravan_k44_6  τ u2 u5).2 := (fr_ite2 hfr (fr_F_X9_readsCaravan_k68_9 τ u2 u5 (F_X9_number (sa u5.2 52 (upd (u5.2.2.1 52) ((4 : Int32) + ((τ.2.1 51) 2)).toNatClampNeg (u5.2.1 1550))) (1 : Int32) (20 : Int32)) (Fr.tr (Fr.sa (by decide) hfr) (Fr.mono (by decide) (by decide) (by decide) (fr_F_X9_number (sa u5.2 52 (upd (u5.2.2.1 52) ((4 : Int32) + ((τ.2.1 51) 2)).toNatClampNeg (u5.2.1 1550))) (1 : Int32) (20 : Int32))))))
theorem fr_F_X9_readsCaravan_k22_3 (τ : St) (u2 : Int32 × St) (hfr : Fr I_X9_readsCaravan A_X9_readsCaravan false τ (u2.2)) : Fr I_X9_readsCaravan A_X9_readsCaravan false τ (F_X9_readsCaravan_k22_3  τ u2).2 := (fr_ite2 hfr (fr_F_X9_readsCaravan_k44_6 τ u2 (F_X9_number (sa u2.2 52 (upd (u2.2.2.1 52) ((τ.2.1 51) 2).toNatClampNeg (u2.2.1 1550))) (0 : Int32) (20 : Int32)) (Fr.tr (Fr.sa (by decide) hfr) (Fr.mono (by decide) (by decide) (by decide) (fr_F_X9_number (sa u2.2 52 (upd (u2.2.2.1 52) ((τ.2.1 51) 2).toNatClampNeg (u2.2.1 1550))) (0 : Int32) (20 : Int32))))))
theorem fr_F_X9_readsCaravan (τ : St) : Fr I_X9_readsCaravan A_X9_readsCaravan false τ (F_X9_readsCaravan τ).2 := (fr_ite2 Fr.rf (fr_F_X9_readsCaravan_k22_3 τ (F_X9_number τ (0 : Int32) (((τ.2.1 51) 0) - (1 : Int32))) (Fr.tr Fr.rf (Fr.mono (by decide) (by decide) (by decide) (fr_F_X9_number τ (0 : Int32) (((τ.2.1 51) 0) - (1 : Int32)))))))
set_option maxHeartbeats 4000000 in
set_option maxRecDepth 20000 in
theorem c_X9_readsCaravan (l : Launch) (D : va_G) (cI cZ : ClassId) (z : Nat) (ad : Nat → Nat) (σ τ : St) (hk_ : 0 ≤ (τ.1 1547).toInt ∧ (τ.1 1547).toInt ≤ 200) (ht_ : 0 ≤ (τ.1 1538).toInt ∧ (τ.1 1538).toInt ≤ 200) (h2_ : 0 ≤ ((τ.2.1 51) 2).toInt ∧ ((τ.2.1 51) 2).toInt ≤ 4) : gM l yX9_readsCaravan cX9_readsCaravan 2 (some .boolean) 5 D cI cZ z (gws ad cI cZ σ τ) [.ref (ad 48)] (some (.int (F_X9_readsCaravan τ).1)) (gws ad cI cZ σ (F_X9_readsCaravan τ).2) := by
  refine g_met (own := RX9) (by decide) rfl (Nat.le_of_ble_eq_true rfl) (fun p e s m below meth c ls Q E hr hlk h hl hQ => ?_)
  have hx := E.1
  have hb := E.2.1
  have hF : (F_X9_readsCaravan τ) = (F_X9_readsCaravan τ) := rfl
  have hl : lv_has ls 2 [(0, .ref (ad 48))] := hl
  have hab : AB τ := ⟨hk_, ht_⟩
  refine lv_aload_n hx hb dX9_readsCaravan_0 rfl (lv_at hl 0 rfl) ?_
  refine g_get (v := .ref (ad 51)) E h 48 rfl rfl layX9 4 (by decide) rfl mw_823 rfl dX9_readsCaravan_1 ?_
  refine lv_iconst (v := 2) hx hb dX9_readsCaravan_4 (by decide) ?_
  refine g_ialdk (f := (τ.2.1 51)) E h 51 rfl 2 rfl (ix_of (oI_lit (x := 2) (a := 2) rfl) (by omega) (by decide)) dX9_readsCaravan_5 ?_
  refine lv_istore_n (lv' := [(1, .int ((τ.2.1 51) 2)), (0, .ref (ad 48))]) hx hb dX9_readsCaravan_6 rfl hl (by decide) rfl (fun ls hl => ?_)
  refine lv_iload_n hx hb dX9_readsCaravan_7 rfl (lv_at hl 0 rfl) ?_
  refine lv_iconst (v := 4) hx hb dX9_readsCaravan_8 (by decide) ?_
  refine lv_icmp_eq (tgt := 28) hx hb dX9_readsCaravan_9 (by decide) (fun c1 => ?_) (fun c1 => ?_)
  · have ic1 : ((τ.2.1 51) 2).toInt = 4 := i_eq c1
    have hF := (if_pos c1).symm.trans hF
    refine lv_iconst (v := 0) hx hb dX9_readsCaravan_28 (by decide) ?_
    exact g_zret E hr hlk h hQ (rfl) (fst_of hF) (snd_of hF (fun u => gws ad cI cZ σ u)) dX9_readsCaravan_29
  · have ic1 : ((τ.2.1 51) 2).toInt ≠ 4 := i_ne c1
    have hF := (if_neg c1).symm.trans hF
    refine lv_aload_n hx hb dX9_readsCaravan_12 rfl (lv_at hl 1 rfl) ?_
    refine lv_iconst (v := 0) hx hb dX9_readsCaravan_13 (by decide) ?_
    refine lv_aload_n hx hb dX9_readsCaravan_14 rfl (lv_at hl 1 rfl) ?_
    refine g_get (v := .ref (ad 51)) E h 48 rfl rfl layX9 4 (by decide) rfl mw_823 rfl dX9_readsCaravan_15 ?_
    refine lv_iconst (v := 0) hx hb dX9_readsCaravan_18 (by decide) ?_
    refine g_ialdk (f := (τ.2.1 51)) E h 51 rfl 0 rfl (ix_of (oI_lit (x := 0) (a := 0) rfl) (by omega) (by decide)) dX9_readsCaravan_19 ?_
    refine lv_iconst (v := 1) hx hb dX9_readsCaravan_20 (by decide) ?_
    refine lv_isub hx hb dX9_readsCaravan_21 ?_
    refine g_callVU (F_X9_number τ (0 : Int32) (((τ.2.1 51) 0) - (1 : Int32))) (fun u => gws ad cI cZ σ u) (rest := []) E h (c_X9_number l D cI cZ z ad σ τ (0 : Int32) (((τ.2.1 51) 0) - (1 : Int32)) (show 0 ≤ (τ.1 1547).toInt ∧ (τ.1 1547).toInt ≤ 200 from by omega) (show 0 ≤ (τ.1 1538).toInt ∧ (τ.1 1538).toInt ≤ 200 from by omega)) mw_799 cbX9_number 48 rfl rfl ⟨by decide, by decide⟩ rfl rfl hl.1 (Nat.le_of_ble_eq_true rfl) ⟨Nat.zero_le _, Nat.zero_le _⟩ dX9_readsCaravan_22 (fun u2 huu2 H locs h => ?_)
    have hF : F_X9_readsCaravan_k22_3 τ u2 = (F_X9_readsCaravan τ) := by rw [← huu2]; exact hF
    have hab : AB u2.2 := by rw [← huu2]; exact num_ab (τ := τ) hab
    have hab_ : (0 ≤ (u2.2.1 1547).toInt ∧ (u2.2.1 1547).toInt ≤ 200) ∧ 0 ≤ (u2.2.1 1538).toInt ∧ (u2.2.1 1538).toInt ≤ 200 := hab
    refine lv_if_ne (tgt := 30) hx hb dX9_readsCaravan_25 (by decide) (fun c4 => ?_) (fun c4 => ?_)
    · have ic4 : u2.1.toInt ≠ 0 := i_ne c4
      have hF := (if_neg c4).symm.trans hF
      refine lv_aload_n hx hb dX9_readsCaravan_30 rfl (lv_at hl 1 rfl) ?_
      refine g_get (v := .ref (ad 52)) E h 48 rfl rfl layX9 5 (by decide) rfl mw_824 rfl dX9_readsCaravan_31 ?_
      refine lv_iload_n hx hb dX9_readsCaravan_34 rfl (lv_at hl 0 rfl) ?_
      refine lv_aload_n hx hb dX9_readsCaravan_35 rfl (lv_at hl 1 rfl) ?_
      refine g_get (v := .int (u2.2.1 1550)) E h 48 rfl rfl layX9 14 (by decide) rfl mw_833 rfl dX9_readsCaravan_36 ?_
      refine g_iast (f := (u2.2.2.1 52)) (ws' := gws ad cI cZ σ (sa u2.2 52 (upd (u2.2.2.1 52) ((τ.2.1 51) 2).toNatClampNeg (u2.2.1 1550)))) E h 52 rfl (ix_of (oI_at ((τ.2.1 51) 2)) (by omega) (by decide)) (ga_52 ad cI cZ σ u2.2 (upd (u2.2.2.1 52) ((τ.2.1 51) 2).toNatClampNeg (u2.2.1 1550))) dX9_readsCaravan_39 (fun H locs h => ?_)
      refine lv_aload_n hx hb dX9_readsCaravan_40 rfl (lv_at hl 1 rfl) ?_
      refine lv_iconst (v := 0) hx hb dX9_readsCaravan_41 (by decide) ?_
      refine lv_bipush (v := 20) hx hb dX9_readsCaravan_42 (by decide) ?_
      refine g_callVU (F_X9_number (sa u2.2 52 (upd (u2.2.2.1 52) ((τ.2.1 51) 2).toNatClampNeg (u2.2.1 1550))) (0 : Int32) (20 : Int32)) (fun u => gws ad cI cZ σ u) (rest := []) E h (c_X9_number l D cI cZ z ad σ (sa u2.2 52 (upd (u2.2.2.1 52) ((τ.2.1 51) 2).toNatClampNeg (u2.2.1 1550))) (0 : Int32) (20 : Int32) (show 0 ≤ (u2.2.1 1547).toInt ∧ (u2.2.1 1547).toInt ≤ 200 from by omega) (show 0 ≤ (u2.2.1 1538).toInt ∧ (u2.2.1 1538).toInt ≤ 200 from by omega)) mw_799 cbX9_number 48 rfl rfl ⟨by decide, by decide⟩ rfl rfl hl.1 (Nat.le_of_ble_eq_true rfl) ⟨Nat.zero_le _, Nat.zero_le _⟩ dX9_readsCaravan_44 (fun u5 huu5 H locs h => ?_)
      have hF : F_X9_readsCaravan_k44_6 τ u2 u5 = (F_X9_readsCaravan τ) := by rw [← huu5]; exact hF
      have hab : AB u5.2 := by rw [← huu5]; exact num_ab (τ := (sa u2.2 52 (upd (u2.2.2.1 52) ((τ.2.1 51) 2).toNatClampNeg (u2.2.1 1550)))) hab
      have hab_ : (0 ≤ (u5.2.1 1547).toInt ∧ (u5.2.1 1547).toInt ≤ 200) ∧ 0 ≤ (u5.2.1 1538).toInt ∧ (u5.2.1 1538).toInt ≤ 200 := hab
      refine lv_if_ne (tgt := 52) hx hb dX9_readsCaravan_47 (by decide) (fun c7 => ?_) (fun c7 => ?_)
      · have ic7 : u5.1.toInt ≠ 0 := i_ne c7
        have hF := (if_neg c7).symm.trans hF
        refine lv_aload_n hx hb dX9_readsCaravan_52 rfl (lv_at hl 1 rfl) ?_
        refine g_get (v := .ref (ad 52)) E h 48 rfl rfl layX9 5 (by decide) rfl mw_824 rfl dX9_readsCaravan_53 ?_
        refine lv_iconst (v := 4) hx hb dX9_readsCaravan_56 (by decide) ?_
        refine lv_iload_n hx hb dX9_readsCaravan_57 rfl (lv_at hl 0 rfl) ?_
        refine lv_iadd hx hb dX9_readsCaravan_58 ?_
        refine lv_aload_n hx hb dX9_readsCaravan_59 rfl (lv_at hl 1 rfl) ?_
        refine g_get (v := .int (u5.2.1 1550)) E h 48 rfl rfl layX9 14 (by decide) rfl mw_833 rfl dX9_readsCaravan_60 ?_
        refine g_iast (f := (u5.2.2.1 52)) (ws' := gws ad cI cZ σ (sa u5.2 52 (upd (u5.2.2.1 52) ((4 : Int32) + ((τ.2.1 51) 2)).toNatClampNeg (u5.2.1 1550)))) E h 52 rfl (ix_of (oI_add (oI_lit (x := 4) (a := 4) rfl) (oI_at ((τ.2.1 51) 2))) (by omega) (by decide)) (ga_52 ad cI cZ σ u5.2 (upd (u5.2.2.1 52) ((4 : Int32) + ((τ.2.1 51) 2)).toNatClampNeg (u5.2.1 1550))) dX9_readsCaravan_63 (fun H locs h => ?_)
        refine lv_aload_n hx hb dX9_readsCaravan_64 rfl (lv_at hl 1 rfl) ?_
        refine lv_iconst (v := 1) hx hb dX9_readsCaravan_65 (by decide) ?_
        refine lv_bipush (v := 20) hx hb dX9_readsCaravan_66 (by decide) ?_
        refine g_callVU (F_X9_number (sa u5.2 52 (upd (u5.2.2.1 52) ((4 : Int32) + ((τ.2.1 51) 2)).toNatClampNeg (u5.2.1 1550))) (1 : Int32) (20 : Int32)) (fun u => gws ad cI cZ σ u) (rest := []) E h (c_X9_number l D cI cZ z ad σ (sa u5.2 52 (upd (u5.2.2.1 52) ((4 : Int32) + ((τ.2.1 51) 2)).toNatClampNeg (u5.2.1 1550))) (1 : Int32) (20 : Int32) (show 0 ≤ (u5.2.1 1547).toInt ∧ (u5.2.1 1547).toInt ≤ 200 from by omega) (show 0 ≤ (u5.2.1 1538).toInt ∧ (u5.2.1 1538).toInt ≤ 200 from by omega)) mw_799 cbX9_number 48 rfl rfl ⟨by decide, by decide⟩ rfl rfl hl.1 (Nat.le_of_ble_eq_true rfl) ⟨Nat.zero_le _, Nat.zero_le _⟩ dX9_readsCaravan_68 (fun u8 huu8 H locs h => ?_)
        have hF : F_X9_readsCaravan_k68_9 τ u2 u5 u8 = (F_X9_readsCaravan τ) := by rw [← huu8]; exact hF
        have hab : AB u8.2 := by rw [← huu8]; exact num_ab (τ := (sa u5.2 52 (upd (u5.2.2.1 52) ((4 : Int32) + ((τ.2.1 51) 2)).toNatClampNeg (u5.2.1 1550)))) hab
        have hab_ : (0 ≤ (u8.2.1 1547).toInt ∧ (u8.2.1 1547).toInt ≤ 200) ∧ 0 ≤ (u8.2.1 1538).toInt ∧ (u8.2.1 1538).toInt ≤ 200 := hab
        refine lv_if_ne (tgt := 76) hx hb dX9_readsCaravan_71 (by decide) (fun c10 => ?_) (fun c10 => ?_)
        · have ic10 : u8.1.toInt ≠ 0 := i_ne c10
          have hF := (if_neg c10).symm.trans hF
          refine lv_aload_n hx hb dX9_readsCaravan_76 rfl (lv_at hl 1 rfl) ?_
          refine g_get (v := .ref (ad 51)) E h 48 rfl rfl layX9 4 (by decide) rfl mw_823 rfl dX9_readsCaravan_77 ?_
          refine lv_bipush (v := 50) hx hb dX9_readsCaravan_80 (by decide) ?_
          refine lv_iload_n hx hb dX9_readsCaravan_82 rfl (lv_at hl 0 rfl) ?_
          refine lv_iadd hx hb dX9_readsCaravan_83 ?_
          refine lv_aload_n hx hb dX9_readsCaravan_84 rfl (lv_at hl 1 rfl) ?_
          refine g_get (v := .int (u8.2.1 1550)) E h 48 rfl rfl layX9 14 (by decide) rfl mw_833 rfl dX9_readsCaravan_85 ?_
          refine g_iast (f := (u8.2.2.1 51)) (ws' := gws ad cI cZ σ (sa u8.2 51 (upd (u8.2.2.1 51) ((50 : Int32) + ((τ.2.1 51) 2)).toNatClampNeg (u8.2.1 1550)))) E h 51 rfl (ix_of (oI_add (oI_lit (x := 50) (a := 50) rfl) (oI_at ((τ.2.1 51) 2))) (by omega) (by decide)) (ga_51 ad cI cZ σ u8.2 (upd (u8.2.2.1 51) ((50 : Int32) + ((τ.2.1 51) 2)).toNatClampNeg (u8.2.1 1550))) dX9_readsCaravan_88 (fun H locs h => ?_)
          refine lv_aload_n hx hb dX9_readsCaravan_89 rfl (lv_at hl 1 rfl) ?_
          refine g_get (v := .ref (ad 51)) E h 48 rfl rfl layX9 4 (by decide) rfl mw_823 rfl dX9_readsCaravan_90 ?_
          refine lv_iconst (v := 2) hx hb dX9_readsCaravan_93 (by decide) ?_
          refine lv_dup2_11 hx hb dX9_readsCaravan_94 rfl rfl ?_
          refine g_ialdk (f := (upd (u8.2.2.1 51) ((50 : Int32) + ((τ.2.1 51) 2)).toNatClampNeg (u8.2.1 1550))) E h 51 rfl 2 rfl (ix_of (oI_lit (x := 2) (a := 2) rfl) (by omega) (by decide)) dX9_readsCaravan_95 ?_
          refine lv_iconst (v := 1) hx hb dX9_readsCaravan_96 (by decide) ?_
          refine lv_iadd hx hb dX9_readsCaravan_97 ?_
          refine g_iastk (f := (upd (u8.2.2.1 51) ((50 : Int32) + ((τ.2.1 51) 2)).toNatClampNeg (u8.2.1 1550))) (ws' := gws ad cI cZ σ (sa u8.2 51 (upd (upd (u8.2.2.1 51) ((50 : Int32) + ((τ.2.1 51) 2)).toNatClampNeg (u8.2.1 1550)) 2 (((upd (u8.2.2.1 51) ((50 : Int32) + ((τ.2.1 51) 2)).toNatClampNeg (u8.2.1 1550)) 2) + (1 : Int32))))) E h 51 rfl 2 rfl (ix_of (oI_lit (x := 2) (a := 2) rfl) (by omega) (by decide)) ((ga_51 ad cI cZ σ (sa u8.2 51 (upd (u8.2.2.1 51) ((50 : Int32) + ((τ.2.1 51) 2)).toNatClampNeg (u8.2.1 1550))) (upd (upd (u8.2.2.1 51) ((50 : Int32) + ((τ.2.1 51) 2)).toNatClampNeg (u8.2.1 1550)) 2 (((upd (u8.2.2.1 51) ((50 : Int32) + ((τ.2.1 51) 2)).toNatClampNeg (u8.2.1 1550)) 2) + (1 : Int32)))).trans (congrArg (fun u => gws ad cI cZ σ u) (sa_sa _ _ _ _))) dX9_readsCaravan_98 (fun H locs h => ?_)
          refine lv_iconst (v := 1) hx hb dX9_readsCaravan_99 (by decide) ?_
          exact g_zret E hr hlk h hQ (rfl) (fst_of hF) (snd_of hF (fun u => gws ad cI cZ σ u)) dX9_readsCaravan_100
        · have ic10 : u8.1.toInt = 0 := i_eq c10
          have hF := (if_pos c10).symm.trans hF
          refine lv_iconst (v := 0) hx hb dX9_readsCaravan_74 (by decide) ?_
          exact g_zret E hr hlk h hQ (rfl) (fst_of hF) (snd_of hF (fun u => gws ad cI cZ σ u)) dX9_readsCaravan_75
      · have ic7 : u5.1.toInt = 0 := i_eq c7
        have hF := (if_pos c7).symm.trans hF
        refine lv_iconst (v := 0) hx hb dX9_readsCaravan_50 (by decide) ?_
        exact g_zret E hr hlk h hQ (rfl) (fst_of hF) (snd_of hF (fun u => gws ad cI cZ σ u)) dX9_readsCaravan_51
    · have ic4 : u2.1.toInt = 0 := i_eq c4
      have hF := (if_pos c4).symm.trans hF
      refine lv_iconst (v := 0) hx hb dX9_readsCaravan_28 (by decide) ?_
      exact g_zret E hr hlk h hQ (rfl) (fst_of hF) (snd_of hF (fun u => gws ad cI cZ σ u)) dX9_readsCaravan_29

theorem debt_ix {a1 a v : Int32} {d : Nat → Int32} (h0 : 0 ≤ (d 0).toInt ∧ (d 0).toInt ≤ 6) (h2 : 0 ≤ (d 2).toInt ∧ (d 2).toInt ≤ 4) (ha : 0 ≤ a.toInt ∧ a.toInt ≤ ((d (if a1 = 0 then (2 : Int32) else (0 : Int32)).toNatClampNeg) - (1 : Int32)).toInt) (hv : 0 ≤ v.toInt ∧ v.toInt ≤ ((d 0) - (1 : Int32)).toInt) : 0 ≤ (if a1 = 0 then (14 : Int32) else (38 : Int32)).toInt + 6 * a.toInt + v.toInt ∧ (if a1 = 0 then (14 : Int32) else (38 : Int32)).toInt + 6 * a.toInt + v.toInt < 74 := by
  have e0 : ((d 0) - (1 : Int32)).toInt = (d 0).toInt - 1 := ti_of (oI_sub (oI_at _) (oI_lit (x := 1) (a := 1) rfl)) (by omega)
  have e2 : ((d 2) - (1 : Int32)).toInt = (d 2).toInt - 1 := ti_of (oI_sub (oI_at _) (oI_lit (x := 1) (a := 1) rfl)) (by omega)
  have k14 : (14 : Int32).toInt = 14 := rfl
  have k38 : (38 : Int32).toInt = 38 := rfl
  by_cases c : a1 = 0
  · rw [if_pos c] at ha ⊢
    have ha2 : a.toInt ≤ ((d 2) - (1 : Int32)).toInt := ha.2
    omega
  · rw [if_neg c] at ha ⊢
    have ha2 : a.toInt ≤ ((d 0) - (1 : Int32)).toInt := ha.2
    omega

def F_X9_readsDebt_k87_15 (τ : St) (a1 : Int32) (u4 : Int32 × St) (u7 : Int32 × St) (u14 : Int32 × St) : Int32 × St := (u14.1, (sa u14.2 52 (upd (u14.2.2.1 52) (((if a1 = 0 then (14 : Int32) else (38 : Int32)) + ((6 : Int32) * (u4.2.1 1550))) + (u7.2.1 1550)).toNatClampNeg (u14.2.1 1550))))
def F_X9_readsDebt_k87_21 (τ : St) (a1 : Int32) (u4 : Int32 × St) (u7 : Int32 × St) (u20 : Int32 × St) : Int32 × St := (u20.1, (sa u20.2 52 (upd (u20.2.2.1 52) (((if a1 = 0 then (14 : Int32) else (38 : Int32)) + ((6 : Int32) * (u4.2.1 1550))) + (u7.2.1 1550)).toNatClampNeg (u20.2.1 1550))))
def F_X9_readsDebt_k41_8 (τ : St) (a1 : Int32) (u4 : Int32 × St) (u7 : Int32 × St) : Int32 × St := (if u7.1 = 0 then ((0 : Int32), u7.2) else (if a1 = 0 then (F_X9_readsDebt_k87_15 τ a1 u4 u7 (F_X9_number u7.2 (0 : Int32) (60 : Int32))) else (if (u7.2.1 1550) = (u4.2.1 1550) then ((0 : Int32), u7.2) else (F_X9_readsDebt_k87_21 τ a1 u4 u7 (F_X9_number u7.2 (0 : Int32) (60 : Int32))))))
def F_X9_readsDebt_k18_5 (τ : St) (a1 : Int32) (u4 : Int32 × St) : Int32 × St := (if u4.1 = 0 then ((0 : Int32), u4.2) else (F_X9_readsDebt_k41_8 τ a1 u4 (F_X9_number u4.2 (0 : Int32) (((u4.2.2.1 51) 0) - (1 : Int32)))))
def F_X9_readsDebt (τ : St) (a1 : Int32) : Int32 × St := (F_X9_readsDebt_k18_5 τ a1 (F_X9_number τ (0 : Int32) (((τ.2.1 51) (if a1 = 0 then (2 : Int32) else (0 : Int32)).toNatClampNeg) - (1 : Int32))))
abbrev I_X9_readsDebt : List Nat := [1547, 1548, 1549, 1550]
abbrev A_X9_readsDebt : List Nat := [52]
theorem fr_F_X9_readsDebt_k87_15 (τ : St) (a1 : Int32) (u4 : Int32 × St) (u7 : Int32 × St) (u14 : Int32 × St) (hfr : Fr I_X9_readsDebt A_X9_readsDebt false τ (u14.2)) : Fr I_X9_readsDebt A_X9_readsDebt false τ (F_X9_readsDebt_k87_15  τ a1 u4 u7 u14).2 := (Fr.sa (by decide) hfr)
theorem fr_F_X9_readsDebt_k87_21 (τ : St) (a1 : Int32) (u4 : Int32 × St) (u7 : Int32 × St) (u20 : Int32 × St) (hfr : Fr I_X9_readsDebt A_X9_readsDebt false τ (u20.2)) : Fr I_X9_readsDebt A_X9_readsDebt false τ (F_X9_readsDebt_k87_21  τ a1 u4 u7 u20).2 := (Fr.sa (by decide) hfr)
theorem fr_F_X9_readsDebt_k41_8 (τ : St) (a1 : Int32) (u4 : Int32 × St) (u7 : Int32 × St) (hfr : Fr I_X9_readsDebt A_X9_readsDebt false τ (u7.2)) : Fr I_X9_readsDebt A_X9_readsDebt false τ (F_X9_readsDebt_k41_8  τ a1 u4 u7).2 := (fr_ite2 hfr (fr_ite2 (fr_F_X9_readsDebt_k87_15 τ a1 u4 u7 (F_X9_number u7.2 (0 : Int32) (60 : Int32)) (Fr.tr hfr (Fr.mono (by decide) (by decide) (by decide) (fr_F_X9_number u7.2 (0 : Int32) (60 : Int32))))) (fr_ite2 hfr (fr_F_X9_readsDebt_k87_21 τ a1 u4 u7 (F_X9_number u7.2 (0 : Int32) (60 : Int32)) (Fr.tr hfr (Fr.mono (by decide) (by decide) (by decide) (fr_F_X9_number u7.2 (0 : Int32) (60 : Int32))))))))
theorem fr_F_X9_readsDebt_k18_5 (τ : St) (a1 : Int32) (u4 : Int32 × St) (hfr : Fr I_X9_readsDebt A_X9_readsDebt false τ (u4.2)) : Fr I_X9_readsDebt A_X9_readsDebt false τ (F_X9_readsDebt_k18_5  τ a1 u4).2 := (fr_ite2 hfr (fr_F_X9_readsDebt_k41_8 τ a1 u4 (F_X9_number u4.2 (0 : Int32) (((u4.2.2.1 51) 0) - (1 : Int32))) (Fr.tr hfr (Fr.mono (by decide) (by decide) (by decide) (fr_F_X9_number u4.2 (0 : Int32) (((u4.2.2.1 51) 0) - (1 : Int32)))))))
theorem fr_F_X9_readsDebt (τ : St) (a1 : Int32) : Fr I_X9_readsDebt A_X9_readsDebt false τ (F_X9_readsDebt τ a1).2 := (fr_F_X9_readsDebt_k18_5 τ a1 (F_X9_number τ (0 : Int32) (((τ.2.1 51) (if a1 = 0 then (2 : Int32) else (0 : Int32)).toNatClampNeg) - (1 : Int32))) (Fr.tr Fr.rf (Fr.mono (by decide) (by decide) (by decide) (fr_F_X9_number τ (0 : Int32) (((τ.2.1 51) (if a1 = 0 then (2 : Int32) else (0 : Int32)).toNatClampNeg) - (1 : Int32))))))
set_option maxHeartbeats 4000000 in
set_option maxRecDepth 20000 in
theorem c_X9_readsDebt (l : Launch) (D : va_G) (cI cZ : ClassId) (z : Nat) (ad : Nat → Nat) (σ τ : St) (a1 : Int32) (hk_ : 0 ≤ (τ.1 1547).toInt ∧ (τ.1 1547).toInt ≤ 200) (ht_ : 0 ≤ (τ.1 1538).toInt ∧ (τ.1 1538).toInt ≤ 200) (h0_ : 0 ≤ ((τ.2.1 51) 0).toInt ∧ ((τ.2.1 51) 0).toInt ≤ 6) (h2_ : 0 ≤ ((τ.2.1 51) 2).toInt ∧ ((τ.2.1 51) 2).toInt ≤ 4) : gM l yX9_readsDebt cX9_readsDebt 5 (some .boolean) 5 D cI cZ z (gws ad cI cZ σ τ) [.ref (ad 48), .int a1] (some (.int (F_X9_readsDebt τ a1).1)) (gws ad cI cZ σ (F_X9_readsDebt τ a1).2) := by
  refine g_met (own := RX9) (by decide) rfl (Nat.le_of_ble_eq_true rfl) (fun p e s m below meth c ls Q E hr hlk h hl hQ => ?_)
  have hx := E.1
  have hb := E.2.1
  have hF : (F_X9_readsDebt τ a1) = (F_X9_readsDebt τ a1) := rfl
  have hl : lv_has ls 5 [(0, .ref (ad 48)), (1, .int a1)] := hl
  have hab : AB τ := ⟨hk_, ht_⟩
  refine lv_aload_n hx hb dX9_readsDebt_0 rfl (lv_at hl 0 rfl) ?_
  refine lv_iconst (v := 0) hx hb dX9_readsDebt_1 (by decide) ?_
  refine lv_aload_n hx hb dX9_readsDebt_2 rfl (lv_at hl 0 rfl) ?_
  refine g_get (v := .ref (ad 51)) E h 48 rfl rfl layX9 4 (by decide) rfl mw_823 rfl dX9_readsDebt_3 ?_
  refine lv_iload_n hx hb dX9_readsDebt_6 rfl (lv_at hl 1 rfl) ?_
  refine g_dia (D := D) (z := z) (ws := gws ad cI cZ σ τ) (rest := [.ref (ad 51), .int (0 : Int32), .ref (ad 48)]) 15 (if a1 = 0 then (2 : Int32) else (0 : Int32)) (fun H locs h => ?_) (fun K2 => ?_)
  · have hx15 : 0 ≤ (if a1 = 0 then (2 : Int32) else (0 : Int32)).toInt ∧ (if a1 = 0 then (2 : Int32) else (0 : Int32)).toInt ≤ 2 := ite_b _ (by decide) (by decide)
    refine g_iald (f := (τ.2.1 51)) E h 51 rfl (ix_of (oI_at (if a1 = 0 then (2 : Int32) else (0 : Int32))) (by omega) (by decide)) dX9_readsDebt_15 ?_
    refine lv_iconst (v := 1) hx hb dX9_readsDebt_16 (by decide) ?_
    refine lv_isub hx hb dX9_readsDebt_17 ?_
    refine g_callVU (F_X9_number τ (0 : Int32) (((τ.2.1 51) (if a1 = 0 then (2 : Int32) else (0 : Int32)).toNatClampNeg) - (1 : Int32))) (fun u => gws ad cI cZ σ u) (rest := []) E h (c_X9_number l D cI cZ z ad σ τ (0 : Int32) (((τ.2.1 51) (if a1 = 0 then (2 : Int32) else (0 : Int32)).toNatClampNeg) - (1 : Int32)) (show 0 ≤ (τ.1 1547).toInt ∧ (τ.1 1547).toInt ≤ 200 from by omega) (show 0 ≤ (τ.1 1538).toInt ∧ (τ.1 1538).toInt ≤ 200 from by omega)) mw_799 cbX9_number 48 rfl rfl ⟨by decide, by decide⟩ rfl rfl hl.1 (Nat.le_of_ble_eq_true rfl) ⟨Nat.zero_le _, Nat.zero_le _⟩ dX9_readsDebt_18 (fun u4 huu4 H locs h => ?_)
    have hF : F_X9_readsDebt_k18_5 τ a1 u4 = (F_X9_readsDebt τ a1) := by rw [← huu4]; exact hF
    have bu4 : u4.1 = 0 ∨ u4.1 = 1 := by rw [← huu4]; exact b01_F_X9_number τ (0 : Int32) (((τ.2.1 51) (if a1 = 0 then (2 : Int32) else (0 : Int32)).toNatClampNeg) - (1 : Int32))
    have hab : AB u4.2 := by rw [← huu4]; exact num_ab (τ := τ) hab
    have hab_ : (0 ≤ (u4.2.1 1547).toInt ∧ (u4.2.1 1547).toInt ≤ 200) ∧ 0 ≤ (u4.2.1 1538).toInt ∧ (u4.2.1 1538).toInt ≤ 200 := hab
    have nvu4 := num_val τ (0 : Int32) (((τ.2.1 51) (if a1 = 0 then (2 : Int32) else (0 : Int32)).toNatClampNeg) - (1 : Int32))
    rw [huu4] at nvu4
    have d51u4 : u4.2.2.1 51 = (τ).2.1 51 := by rw [← huu4]; exact (fr_F_X9_number τ (0 : Int32) (((τ.2.1 51) (if a1 = 0 then (2 : Int32) else (0 : Int32)).toNatClampNeg) - (1 : Int32))).2.1 51 (by decide)
    refine lv_if_ne (tgt := 26) hx hb dX9_readsDebt_21 (by decide) (fun c6 => ?_) (fun c6 => ?_)
    · have ic6 : u4.1.toInt ≠ 0 := i_ne c6
      have hF := (if_neg c6).symm.trans hF
      refine lv_aload_n hx hb dX9_readsDebt_26 rfl (lv_at hl 0 rfl) ?_
      refine g_get (v := .int (u4.2.1 1550)) E h 48 rfl rfl layX9 14 (by decide) rfl mw_833 rfl dX9_readsDebt_27 ?_
      refine lv_istore_n (lv' := [(2, .int (u4.2.1 1550)), (0, .ref (ad 48)), (1, .int a1)]) hx hb dX9_readsDebt_30 rfl hl (by decide) rfl (fun ls hl => ?_)
      refine lv_aload_n hx hb dX9_readsDebt_31 rfl (lv_at hl 1 rfl) ?_
      refine lv_iconst (v := 0) hx hb dX9_readsDebt_32 (by decide) ?_
      refine lv_aload_n hx hb dX9_readsDebt_33 rfl (lv_at hl 1 rfl) ?_
      refine g_get (v := .ref (ad 51)) E h 48 rfl rfl layX9 4 (by decide) rfl mw_823 rfl dX9_readsDebt_34 ?_
      refine lv_iconst (v := 0) hx hb dX9_readsDebt_37 (by decide) ?_
      refine g_ialdk (f := (u4.2.2.1 51)) E h 51 rfl 0 rfl (ix_of (oI_lit (x := 0) (a := 0) rfl) (by omega) (by decide)) dX9_readsDebt_38 ?_
      refine lv_iconst (v := 1) hx hb dX9_readsDebt_39 (by decide) ?_
      refine lv_isub hx hb dX9_readsDebt_40 ?_
      refine g_callVU (F_X9_number u4.2 (0 : Int32) (((u4.2.2.1 51) 0) - (1 : Int32))) (fun u => gws ad cI cZ σ u) (rest := []) E h (c_X9_number l D cI cZ z ad σ u4.2 (0 : Int32) (((u4.2.2.1 51) 0) - (1 : Int32)) (show 0 ≤ (u4.2.1 1547).toInt ∧ (u4.2.1 1547).toInt ≤ 200 from by omega) (show 0 ≤ (u4.2.1 1538).toInt ∧ (u4.2.1 1538).toInt ≤ 200 from by omega)) mw_799 cbX9_number 48 rfl rfl ⟨by decide, by decide⟩ rfl rfl hl.1 (Nat.le_of_ble_eq_true rfl) ⟨Nat.zero_le _, Nat.zero_le _⟩ dX9_readsDebt_41 (fun u7 huu7 H locs h => ?_)
      have hF : F_X9_readsDebt_k41_8 τ a1 u4 u7 = (F_X9_readsDebt τ a1) := by rw [← huu7]; exact hF
      have bu7 : u7.1 = 0 ∨ u7.1 = 1 := by rw [← huu7]; exact b01_F_X9_number u4.2 (0 : Int32) (((u4.2.2.1 51) 0) - (1 : Int32))
      have hab : AB u7.2 := by rw [← huu7]; exact num_ab (τ := u4.2) hab
      have hab_ : (0 ≤ (u7.2.1 1547).toInt ∧ (u7.2.1 1547).toInt ≤ 200) ∧ 0 ≤ (u7.2.1 1538).toInt ∧ (u7.2.1 1538).toInt ≤ 200 := hab
      have nvu7 := num_val u4.2 (0 : Int32) (((u4.2.2.1 51) 0) - (1 : Int32))
      rw [huu7] at nvu7
      have d51u7 : u7.2.2.1 51 = (u4.2).2.1 51 := by rw [← huu7]; exact (fr_F_X9_number u4.2 (0 : Int32) (((u4.2.2.1 51) 0) - (1 : Int32))).2.1 51 (by decide)
      refine lv_if_eq (tgt := 59) hx hb dX9_readsDebt_44 (by decide) (fun c9 => ?_) (fun c9 => ?_)
      · have ic9 : u7.1.toInt = 0 := i_eq c9
        have hF := (if_pos c9).symm.trans hF
        refine lv_iconst (v := 0) hx hb dX9_readsDebt_59 (by decide) ?_
        exact g_zret E hr hlk h hQ (rfl) (fst_of hF) (snd_of hF (fun u => gws ad cI cZ σ u)) dX9_readsDebt_60
      · have ic9 : u7.1.toInt ≠ 0 := i_ne c9
        have hF := (if_neg c9).symm.trans hF
        refine lv_iload_n hx hb dX9_readsDebt_47 rfl (lv_at hl 2 rfl) ?_
        refine lv_if_eq (tgt := 61) hx hb dX9_readsDebt_48 (by decide) (fun c10 => ?_) (fun c10 => ?_)
        · have ic10 : a1.toInt = 0 := i_eq c10
          have hF := (if_pos c10).symm.trans hF
          have hdx := debt_ix (a1 := a1) (a := (u4.2.1 1550)) (v := (u7.2.1 1550)) (d := τ.2.1 51) h0_ h2_ (nvu4 (by assumption)).2 (by have q := (nvu7 (by assumption)).2; rw [d51u4] at q; exact q)
          refine lv_iload_n hx hb dX9_readsDebt_61 rfl (lv_at hl 2 rfl) ?_
          refine g_dia (D := D) (z := z) (ws := gws ad cI cZ σ u7.2) (rest := []) 72 (if a1 = 0 then (14 : Int32) else (38 : Int32)) (fun H locs h => ?_) (fun K12 => ?_)
          · refine lv_bipush (v := 6) hx hb dX9_readsDebt_72 (by decide) ?_
            refine lv_iload_n hx hb dX9_readsDebt_74 rfl (lv_at hl 0 rfl) ?_
            refine lv_imul hx hb dX9_readsDebt_75 ?_
            refine lv_iadd hx hb dX9_readsDebt_76 ?_
            refine lv_aload_n hx hb dX9_readsDebt_77 rfl (lv_at hl 1 rfl) ?_
            refine g_get (v := .int (u7.2.1 1550)) E h 48 rfl rfl layX9 14 (by decide) rfl mw_833 rfl dX9_readsDebt_78 ?_
            refine lv_iadd hx hb dX9_readsDebt_81 ?_
            refine lv_istore_n (lv' := [(3, .int (((if a1 = 0 then (14 : Int32) else (38 : Int32)) + ((6 : Int32) * (u4.2.1 1550))) + (u7.2.1 1550))), (2, .int (u4.2.1 1550)), (0, .ref (ad 48)), (1, .int a1)]) hx hb dX9_readsDebt_82 rfl hl (by decide) rfl (fun ls hl => ?_)
            refine lv_aload_n hx hb dX9_readsDebt_83 rfl (lv_at hl 2 rfl) ?_
            refine lv_iconst (v := 0) hx hb dX9_readsDebt_84 (by decide) ?_
            refine lv_bipush (v := 60) hx hb dX9_readsDebt_85 (by decide) ?_
            refine g_callVU (F_X9_number u7.2 (0 : Int32) (60 : Int32)) (fun u => gws ad cI cZ σ u) (rest := []) E h (c_X9_number l D cI cZ z ad σ u7.2 (0 : Int32) (60 : Int32) (show 0 ≤ (u7.2.1 1547).toInt ∧ (u7.2.1 1547).toInt ≤ 200 from by omega) (show 0 ≤ (u7.2.1 1538).toInt ∧ (u7.2.1 1538).toInt ≤ 200 from by omega)) mw_799 cbX9_number 48 rfl rfl ⟨by decide, by decide⟩ rfl rfl hl.1 (Nat.le_of_ble_eq_true rfl) ⟨Nat.zero_le _, Nat.zero_le _⟩ dX9_readsDebt_87 (fun u14 huu14 H locs h => ?_)
            have hF : F_X9_readsDebt_k87_15 τ a1 u4 u7 u14 = (F_X9_readsDebt τ a1) := by rw [← huu14]; exact hF
            have bu14 : u14.1 = 0 ∨ u14.1 = 1 := by rw [← huu14]; exact b01_F_X9_number u7.2 (0 : Int32) (60 : Int32)
            have hab : AB u14.2 := by rw [← huu14]; exact num_ab (τ := u7.2) hab
            have hab_ : (0 ≤ (u14.2.1 1547).toInt ∧ (u14.2.1 1547).toInt ≤ 200) ∧ 0 ≤ (u14.2.1 1538).toInt ∧ (u14.2.1 1538).toInt ≤ 200 := hab
            refine lv_istore (lv' := [(4, .int u14.1), (3, .int (((if a1 = 0 then (14 : Int32) else (38 : Int32)) + ((6 : Int32) * (u4.2.1 1550))) + (u7.2.1 1550))), (2, .int (u4.2.1 1550)), (0, .ref (ad 48)), (1, .int a1)]) hx hb dX9_readsDebt_90 hl (by decide) rfl (fun ls hl => ?_)
            refine lv_aload_n hx hb dX9_readsDebt_92 rfl (lv_at hl 3 rfl) ?_
            refine g_get (v := .ref (ad 52)) E h 48 rfl rfl layX9 5 (by decide) rfl mw_824 rfl dX9_readsDebt_93 ?_
            refine lv_iload_n hx hb dX9_readsDebt_96 rfl (lv_at hl 1 rfl) ?_
            refine lv_aload_n hx hb dX9_readsDebt_97 rfl (lv_at hl 3 rfl) ?_
            refine g_get (v := .int (u14.2.1 1550)) E h 48 rfl rfl layX9 14 (by decide) rfl mw_833 rfl dX9_readsDebt_98 ?_
            refine g_iast (f := (u14.2.2.1 52)) (ws' := gws ad cI cZ σ (sa u14.2 52 (upd (u14.2.2.1 52) (((if a1 = 0 then (14 : Int32) else (38 : Int32)) + ((6 : Int32) * (u4.2.1 1550))) + (u7.2.1 1550)).toNatClampNeg (u14.2.1 1550)))) E h 52 rfl (ix_of (oI_add (oI_add (oI_at (if a1 = 0 then (14 : Int32) else (38 : Int32))) (oI_mul (oI_lit (x := 6) (a := 6) rfl) (oI_at (u4.2.1 1550)))) (oI_at (u7.2.1 1550))) (by omega) (by decide)) (ga_52 ad cI cZ σ u14.2 (upd (u14.2.2.1 52) (((if a1 = 0 then (14 : Int32) else (38 : Int32)) + ((6 : Int32) * (u4.2.1 1550))) + (u7.2.1 1550)).toNatClampNeg (u14.2.1 1550))) dX9_readsDebt_101 (fun H locs h => ?_)
            refine lv_iload hx hb dX9_readsDebt_102 (lv_at hl 0 rfl) ?_
            exact g_zret E hr hlk h hQ (nar01 bu14) (fst_of hF) (snd_of hF (fun u => gws ad cI cZ σ u)) dX9_readsDebt_104
          · refine lv_if_eq (tgt := 70) hx hb dX9_readsDebt_62 (by decide) (fun c13 => ?_) (fun c13 => ?_)
            · have ic13 : a1.toInt = 0 := i_eq c13
              refine lv_bipush (v := 14) hx hb dX9_readsDebt_70 (by decide) ?_
              exact K12 _ _ _ ((if_pos c13).symm) h
            · have ic13 : a1.toInt ≠ 0 := i_ne c13
              refine lv_bipush (v := 38) hx hb dX9_readsDebt_65 (by decide) ?_
              refine lv_goto (tgt := 72) hx hb dX9_readsDebt_67 (by decide) ?_
              exact K12 _ _ _ ((if_neg c13).symm) h
        · have ic10 : a1.toInt ≠ 0 := i_ne c10
          have hF := (if_neg c10).symm.trans hF
          refine lv_aload_n hx hb dX9_readsDebt_51 rfl (lv_at hl 1 rfl) ?_
          refine g_get (v := .int (u7.2.1 1550)) E h 48 rfl rfl layX9 14 (by decide) rfl mw_833 rfl dX9_readsDebt_52 ?_
          refine lv_iload_n hx hb dX9_readsDebt_55 rfl (lv_at hl 0 rfl) ?_
          refine lv_icmp_ne (tgt := 61) hx hb dX9_readsDebt_56 (by decide) (fun c16 => ?_) (fun c16 => ?_)
          · have ic16 : (u7.2.1 1550).toInt ≠ (u4.2.1 1550).toInt := i_ne c16
            have hF := (if_neg c16).symm.trans hF
            have hdx := debt_ix (a1 := a1) (a := (u4.2.1 1550)) (v := (u7.2.1 1550)) (d := τ.2.1 51) h0_ h2_ (nvu4 (by assumption)).2 (by have q := (nvu7 (by assumption)).2; rw [d51u4] at q; exact q)
            refine lv_iload_n hx hb dX9_readsDebt_61 rfl (lv_at hl 2 rfl) ?_
            refine g_dia (D := D) (z := z) (ws := gws ad cI cZ σ u7.2) (rest := []) 72 (if a1 = 0 then (14 : Int32) else (38 : Int32)) (fun H locs h => ?_) (fun K18 => ?_)
            · refine lv_bipush (v := 6) hx hb dX9_readsDebt_72 (by decide) ?_
              refine lv_iload_n hx hb dX9_readsDebt_74 rfl (lv_at hl 0 rfl) ?_
              refine lv_imul hx hb dX9_readsDebt_75 ?_
              refine lv_iadd hx hb dX9_readsDebt_76 ?_
              refine lv_aload_n hx hb dX9_readsDebt_77 rfl (lv_at hl 1 rfl) ?_
              refine g_get (v := .int (u7.2.1 1550)) E h 48 rfl rfl layX9 14 (by decide) rfl mw_833 rfl dX9_readsDebt_78 ?_
              refine lv_iadd hx hb dX9_readsDebt_81 ?_
              refine lv_istore_n (lv' := [(3, .int (((if a1 = 0 then (14 : Int32) else (38 : Int32)) + ((6 : Int32) * (u4.2.1 1550))) + (u7.2.1 1550))), (2, .int (u4.2.1 1550)), (0, .ref (ad 48)), (1, .int a1)]) hx hb dX9_readsDebt_82 rfl hl (by decide) rfl (fun ls hl => ?_)
              refine lv_aload_n hx hb dX9_readsDebt_83 rfl (lv_at hl 2 rfl) ?_
              refine lv_iconst (v := 0) hx hb dX9_readsDebt_84 (by decide) ?_
              refine lv_bipush (v := 60) hx hb dX9_readsDebt_85 (by decide) ?_
              refine g_callVU (F_X9_number u7.2 (0 : Int32) (60 : Int32)) (fun u => gws ad cI cZ σ u) (rest := []) E h (c_X9_number l D cI cZ z ad σ u7.2 (0 : Int32) (60 : Int32) (show 0 ≤ (u7.2.1 1547).toInt ∧ (u7.2.1 1547).toInt ≤ 200 from by omega) (show 0 ≤ (u7.2.1 1538).toInt ∧ (u7.2.1 1538).toInt ≤ 200 from by omega)) mw_799 cbX9_number 48 rfl rfl ⟨by decide, by decide⟩ rfl rfl hl.1 (Nat.le_of_ble_eq_true rfl) ⟨Nat.zero_le _, Nat.zero_le _⟩ dX9_readsDebt_87 (fun u20 huu20 H locs h => ?_)
              have hF : F_X9_readsDebt_k87_21 τ a1 u4 u7 u20 = (F_X9_readsDebt τ a1) := by rw [← huu20]; exact hF
              have bu20 : u20.1 = 0 ∨ u20.1 = 1 := by rw [← huu20]; exact b01_F_X9_number u7.2 (0 : Int32) (60 : Int32)
              have hab : AB u20.2 := by rw [← huu20]; exact num_ab (τ := u7.2) hab
              have hab_ : (0 ≤ (u20.2.1 1547).toInt ∧ (u20.2.1 1547).toInt ≤ 200) ∧ 0 ≤ (u20.2.1 1538).toInt ∧ (u20.2.1 1538).toInt ≤ 200 := hab
              refine lv_istore (lv' := [(4, .int u20.1), (3, .int (((if a1 = 0 then (14 : Int32) else (38 : Int32)) + ((6 : Int32) * (u4.2.1 1550))) + (u7.2.1 1550))), (2, .int (u4.2.1 1550)), (0, .ref (ad 48)), (1, .int a1)]) hx hb dX9_readsDebt_90 hl (by decide) rfl (fun ls hl => ?_)
              refine lv_aload_n hx hb dX9_readsDebt_92 rfl (lv_at hl 3 rfl) ?_
              refine g_get (v := .ref (ad 52)) E h 48 rfl rfl layX9 5 (by decide) rfl mw_824 rfl dX9_readsDebt_93 ?_
              refine lv_iload_n hx hb dX9_readsDebt_96 rfl (lv_at hl 1 rfl) ?_
              refine lv_aload_n hx hb dX9_readsDebt_97 rfl (lv_at hl 3 rfl) ?_
              refine g_get (v := .int (u20.2.1 1550)) E h 48 rfl rfl layX9 14 (by decide) rfl mw_833 rfl dX9_readsDebt_98 ?_
              refine g_iast (f := (u20.2.2.1 52)) (ws' := gws ad cI cZ σ (sa u20.2 52 (upd (u20.2.2.1 52) (((if a1 = 0 then (14 : Int32) else (38 : Int32)) + ((6 : Int32) * (u4.2.1 1550))) + (u7.2.1 1550)).toNatClampNeg (u20.2.1 1550)))) E h 52 rfl (ix_of (oI_add (oI_add (oI_at (if a1 = 0 then (14 : Int32) else (38 : Int32))) (oI_mul (oI_lit (x := 6) (a := 6) rfl) (oI_at (u4.2.1 1550)))) (oI_at (u7.2.1 1550))) (by omega) (by decide)) (ga_52 ad cI cZ σ u20.2 (upd (u20.2.2.1 52) (((if a1 = 0 then (14 : Int32) else (38 : Int32)) + ((6 : Int32) * (u4.2.1 1550))) + (u7.2.1 1550)).toNatClampNeg (u20.2.1 1550))) dX9_readsDebt_101 (fun H locs h => ?_)
              refine lv_iload hx hb dX9_readsDebt_102 (lv_at hl 0 rfl) ?_
              exact g_zret E hr hlk h hQ (nar01 bu20) (fst_of hF) (snd_of hF (fun u => gws ad cI cZ σ u)) dX9_readsDebt_104
            · refine lv_if_eq (tgt := 70) hx hb dX9_readsDebt_62 (by decide) (fun c19 => ?_) (fun c19 => ?_)
              · have ic19 : a1.toInt = 0 := i_eq c19
                refine lv_bipush (v := 14) hx hb dX9_readsDebt_70 (by decide) ?_
                exact K18 _ _ _ ((if_pos c19).symm) h
              · have ic19 : a1.toInt ≠ 0 := i_ne c19
                refine lv_bipush (v := 38) hx hb dX9_readsDebt_65 (by decide) ?_
                refine lv_goto (tgt := 72) hx hb dX9_readsDebt_67 (by decide) ?_
                exact K18 _ _ _ ((if_neg c19).symm) h
          · have ic16 : (u7.2.1 1550).toInt = (u4.2.1 1550).toInt := i_eq c16
            have hF := (if_pos c16).symm.trans hF
            refine lv_iconst (v := 0) hx hb dX9_readsDebt_59 (by decide) ?_
            exact g_zret E hr hlk h hQ (rfl) (fst_of hF) (snd_of hF (fun u => gws ad cI cZ σ u)) dX9_readsDebt_60
    · have ic6 : u4.1.toInt = 0 := i_eq c6
      have hF := (if_pos c6).symm.trans hF
      refine lv_iconst (v := 0) hx hb dX9_readsDebt_24 (by decide) ?_
      exact g_zret E hr hlk h hQ (rfl) (fst_of hF) (snd_of hF (fun u => gws ad cI cZ σ u)) dX9_readsDebt_25
  · refine lv_if_eq (tgt := 14) hx hb dX9_readsDebt_7 (by decide) (fun c3 => ?_) (fun c3 => ?_)
    · have ic3 : a1.toInt = 0 := i_eq c3
      refine lv_iconst (v := 2) hx hb dX9_readsDebt_14 (by decide) ?_
      exact K2 _ _ _ ((if_pos c3).symm) h
    · have ic3 : a1.toInt ≠ 0 := i_ne c3
      refine lv_iconst (v := 0) hx hb dX9_readsDebt_10 (by decide) ?_
      refine lv_goto (tgt := 15) hx hb dX9_readsDebt_11 (by decide) ?_
      exact K2 _ _ _ ((if_neg c3).symm) h

theorem b01_F_X9_readsDebt (τ : St) (a1 : Int32) : (F_X9_readsDebt τ a1).1 = 0 ∨ (F_X9_readsDebt τ a1).1 = 1 := by
  show (F_X9_readsDebt_k18_5 τ a1 (F_X9_number τ _ _)).1 = 0 ∨ (F_X9_readsDebt_k18_5 τ a1 (F_X9_number τ _ _)).1 = 1
  generalize F_X9_number τ _ _ = u
  unfold F_X9_readsDebt_k18_5
  split
  · exact Or.inl rfl
  · have hb : ∀ w : Int32 × St, (F_X9_readsDebt_k41_8 τ a1 u w).1 = 0 ∨ (F_X9_readsDebt_k41_8 τ a1 u w).1 = 1 := by
      intro w
      have hc : ∀ (S : St) (x y : Int32), (F_X9_readsDebt_k87_21 τ a1 u w (F_X9_number S x y)).1 = 0 ∨ (F_X9_readsDebt_k87_21 τ a1 u w (F_X9_number S x y)).1 = 1 := fun S x y => b01_F_X9_number S x y
      unfold F_X9_readsDebt_k41_8
      split
      · exact Or.inl rfl
      · split
        · exact hc _ _ _
        · split
          · exact Or.inl rfl
          · exact hc _ _ _
    exact hb _

theorem b01_F_X9_readsStage_k138_16 (τ : St) (u2 : Int32 × St) (u5 : Int32 × St) (u9 : Int32 × St) (u12 : Int32 × St) (u15 : Int32 × St) : (F_X9_readsStage_k138_16 τ u2 u5 u9 u12 u15).1 = 0 ∨ (F_X9_readsStage_k138_16 τ u2 u5 u9 u12 u15).1 = 1 := (b01_ite (Or.inl rfl) (Or.inr rfl))
theorem b01_F_X9_readsStage_k114_13 (τ : St) (u2 : Int32 × St) (u5 : Int32 × St) (u9 : Int32 × St) (u12 : Int32 × St) : (F_X9_readsStage_k114_13 τ u2 u5 u9 u12).1 = 0 ∨ (F_X9_readsStage_k114_13 τ u2 u5 u9 u12).1 = 1 := (b01_ite (Or.inl rfl) (b01_F_X9_readsStage_k138_16 τ u2 u5 u9 u12 (F_X9_number (sa u12.2 51 (upd (u12.2.2.1 51) ((34 : Int32) + ((τ.2.1 51) 1)).toNatClampNeg (u12.2.1 1550))) (0 : Int32) (((τ.2.1 51) 0) - (1 : Int32)))))
theorem b01_F_X9_readsStage_k90_10 (τ : St) (u2 : Int32 × St) (u5 : Int32 × St) (u9 : Int32 × St) : (F_X9_readsStage_k90_10 τ u2 u5 u9).1 = 0 ∨ (F_X9_readsStage_k90_10 τ u2 u5 u9).1 = 1 := (b01_ite (Or.inl rfl) (b01_F_X9_readsStage_k114_13 τ u2 u5 u9 (F_X9_number (sa u9.2 51 (upd (u9.2.2.1 51) ((26 : Int32) + ((τ.2.1 51) 1)).toNatClampNeg (u9.2.1 1550))) (0 : Int32) (1 : Int32))))
theorem b01_F_X9_readsStage_k49_6 (τ : St) (u2 : Int32 × St) (u5 : Int32 × St) : (F_X9_readsStage_k49_6 τ u2 u5).1 = 0 ∨ (F_X9_readsStage_k49_6 τ u2 u5).1 = 1 := (b01_ite (Or.inl rfl) (b01_ite (Or.inl rfl) (b01_F_X9_readsStage_k90_10 τ u2 u5 (F_X9_number (sa u5.2 51 (upd (u5.2.2.1 51) ((18 : Int32) + ((τ.2.1 51) 1)).toNatClampNeg (u5.2.1 1550))) (1 : Int32) (9 : Int32)))))
theorem b01_F_X9_readsStage_k25_3 (τ : St) (u2 : Int32 × St) : (F_X9_readsStage_k25_3 τ u2).1 = 0 ∨ (F_X9_readsStage_k25_3 τ u2).1 = 1 := (b01_ite (Or.inl rfl) (b01_F_X9_readsStage_k49_6 τ u2 (F_X9_number (sa u2.2 51 (upd (u2.2.2.1 51) ((10 : Int32) + ((τ.2.1 51) 1)).toNatClampNeg (u2.2.1 1550))) (0 : Int32) (((τ.2.1 51) 0) - (1 : Int32)))))
theorem b01_F_X9_readsStage (τ : St) : (F_X9_readsStage τ).1 = 0 ∨ (F_X9_readsStage τ).1 = 1 := (b01_ite (Or.inl rfl) (b01_F_X9_readsStage_k25_3 τ (F_X9_number τ (0 : Int32) (((τ.2.1 51) 0) - (1 : Int32)))))

theorem b01_F_X9_readsCaravan_k68_9 (τ : St) (u2 : Int32 × St) (u5 : Int32 × St) (u8 : Int32 × St) : (F_X9_readsCaravan_k68_9 τ u2 u5 u8).1 = 0 ∨ (F_X9_readsCaravan_k68_9 τ u2 u5 u8).1 = 1 := (b01_ite (Or.inl rfl) (Or.inr rfl))
theorem b01_F_X9_readsCaravan_k44_6 (τ : St) (u2 : Int32 × St) (u5 : Int32 × St) : (F_X9_readsCaravan_k44_6 τ u2 u5).1 = 0 ∨ (F_X9_readsCaravan_k44_6 τ u2 u5).1 = 1 := (b01_ite (Or.inl rfl) (b01_F_X9_readsCaravan_k68_9 τ u2 u5 (F_X9_number (sa u5.2 52 (upd (u5.2.2.1 52) ((4 : Int32) + ((τ.2.1 51) 2)).toNatClampNeg (u5.2.1 1550))) (1 : Int32) (20 : Int32))))
theorem b01_F_X9_readsCaravan_k22_3 (τ : St) (u2 : Int32 × St) : (F_X9_readsCaravan_k22_3 τ u2).1 = 0 ∨ (F_X9_readsCaravan_k22_3 τ u2).1 = 1 := (b01_ite (Or.inl rfl) (b01_F_X9_readsCaravan_k44_6 τ u2 (F_X9_number (sa u2.2 52 (upd (u2.2.2.1 52) ((τ.2.1 51) 2).toNatClampNeg (u2.2.1 1550))) (0 : Int32) (20 : Int32))))
theorem b01_F_X9_readsCaravan (τ : St) : (F_X9_readsCaravan τ).1 = 0 ∨ (F_X9_readsCaravan τ).1 = 1 := (b01_ite (Or.inl rfl) (b01_F_X9_readsCaravan_k22_3 τ (F_X9_number τ (0 : Int32) (((τ.2.1 51) 0) - (1 : Int32)))))

/-- the draft's numbers are in bounds too -/
def PD (τ : St) : Prop := AB τ ∧ (0 ≤ ((τ.2.1 51) 0).toInt ∧ ((τ.2.1 51) 0).toInt ≤ 6) ∧ (0 ≤ ((τ.2.1 51) 1).toInt ∧ ((τ.2.1 51) 1).toInt ≤ 8) ∧ (0 ≤ ((τ.2.1 51) 2).toInt ∧ ((τ.2.1 51) 2).toInt ≤ 4)
def HD (τ s : St) : Prop := AB s ∧ (τ.1 1547).toInt ≤ (s.1 1547).toInt ∧ ∀ j, j < 4 → s.2.1 51 j = τ.2.1 51 j
def Go (τ s : St) : Prop := PD s ∧ (τ.1 1547).toInt ≤ (s.1 1547).toInt
theorem HD.rf {τ : St} (h : AB τ) : HD τ τ := ⟨h, Int.le_refl _, fun _ _ => rfl⟩
theorem HD.go {τ s : St} (h : HD τ s) (hp : PD τ) : Go τ s := by
  obtain ⟨h1, h2, h3⟩ := h
  obtain ⟨-, p0, p1, p2⟩ := hp
  refine ⟨⟨h1, ?_, ?_, ?_⟩, h2⟩
  · rw [h3 0 (by decide)]; exact p0
  · rw [h3 1 (by decide)]; exact p1
  · rw [h3 2 (by decide)]; exact p2
theorem HD.num {τ s : St} {a b : Int32} (h : HD τ s) : HD τ (F_X9_number s a b).2 := by
  obtain ⟨h1, h2, h3⟩ := h
  refine ⟨num_ab h1, ?_, fun j q => ?_⟩
  · rw [num_st]; exact Int.le_trans h2 (tok_ab s h1).2.1
  · rw [(fr_F_X9_number s a b).2.1 51 (by decide)]; exact h3 j q
theorem HD.set {τ s : St} {i : Nat} {v : Int32} (hi : 4 ≤ i) (h : HD τ s) : HD τ (sa s 51 (upd (s.2.1 51) i v)) := ⟨h.1, h.2.1, fun j q => (show upd (s.2.1 51) i v j = _ from pk_un (by omega)).trans (h.2.2 j q)⟩
theorem HD.set52 {τ s : St} {f : Nat → Int32} (h : HD τ s) : HD τ (sa s 52 f) := h
theorem ge4 {b : Int} {B k : Int32} (hB : B = Int32.ofInt b) (hb : 4 ≤ b ∧ b ≤ 100) (hk : 0 ≤ k.toInt ∧ k.toInt ≤ 8) : 4 ≤ (B + k).toNatClampNeg := by
  rw [cn_of (oI_add hB (oI_at k)) (by omega)]
  omega
theorem go_fin {τ s : St} {c i : Nat} {v : Int32} (h : HD τ s) (hp : PD τ) (hi : 4 ≤ i) (hc : (c = 0 ∧ ((τ.2.1 51) 0).toInt < 6) ∨ (c = 1 ∧ ((τ.2.1 51) 1).toInt < 8) ∨ (c = 2 ∧ ((τ.2.1 51) 2).toInt < 4)) : Go τ (sa s 51 (upd (upd (s.2.1 51) i v) c (((upd (s.2.1 51) i v) c) + (1 : Int32)))) := by
  obtain ⟨h1, h2, h3⟩ := h
  obtain ⟨-, p0, p1, p2⟩ := hp
  have hg : ∀ j, j < 3 → (upd (s.2.1 51) i v) j = τ.2.1 51 j := fun j q => (pk_un (by omega)).trans (h3 j (by omega))
  have hin : ∀ j, j < 3 → ((τ.2.1 51) j).toInt < 8 → 0 ≤ ((τ.2.1 51) j).toInt → (((upd (s.2.1 51) i v) j) + (1 : Int32)).toInt = ((τ.2.1 51) j).toInt + 1 := fun j q q2 q3 => by
    rw [hg j q]
    exact ti_of (oI_add (oI_at _) (oI_lit (x := 1) (a := 1) rfl)) (by omega)
  refine ⟨⟨h1, ?_, ?_, ?_⟩, h2⟩
  · show 0 ≤ ((upd (upd (s.2.1 51) i v) c (((upd (s.2.1 51) i v) c) + (1 : Int32))) 0).toInt ∧ ((upd (upd (s.2.1 51) i v) c (((upd (s.2.1 51) i v) c) + (1 : Int32))) 0).toInt ≤ 6
    by_cases e : c = 0
    · subst e
      rw [pk_us, hin 0 (by decide) (by omega) (by omega)]
      omega
    · rw [pk_un (by omega), hg 0 (by decide)]; exact p0
  · show 0 ≤ ((upd (upd (s.2.1 51) i v) c (((upd (s.2.1 51) i v) c) + (1 : Int32))) 1).toInt ∧ ((upd (upd (s.2.1 51) i v) c (((upd (s.2.1 51) i v) c) + (1 : Int32))) 1).toInt ≤ 8
    by_cases e : c = 1
    · subst e
      rw [pk_us, hin 1 (by decide) (by omega) (by omega)]
      omega
    · rw [pk_un (by omega), hg 1 (by decide)]; exact p1
  · show 0 ≤ ((upd (upd (s.2.1 51) i v) c (((upd (s.2.1 51) i v) c) + (1 : Int32))) 2).toInt ∧ ((upd (upd (s.2.1 51) i v) c (((upd (s.2.1 51) i v) c) + (1 : Int32))) 2).toInt ≤ 4
    by_cases e : c = 2
    · subst e
      rw [pk_us, hin 2 (by decide) (by omega) (by omega)]
      omega
    · rw [pk_un (by omega), hg 2 (by decide)]; exact p2
theorem pd_init {m : St} (ht : 0 ≤ (m.1 1538).toInt ∧ (m.1 1538).toInt ≤ 200) (hz : ∀ j, j < 3 → m.2.1 51 j = 0) : PD (si m 1547 (0 : Int32)) := by
  have h0 : (0 : Int32).toInt = 0 := rfl
  refine ⟨⟨(by decide : 0 ≤ (0 : Int32).toInt ∧ (0 : Int32).toInt ≤ 200), ht⟩, ?_, ?_, ?_⟩
  · show 0 ≤ (m.2.1 51 0).toInt ∧ (m.2.1 51 0).toInt ≤ 6
    rw [hz 0 (by decide)]; decide
  · show 0 ≤ (m.2.1 51 1).toInt ∧ (m.2.1 51 1).toInt ≤ 8
    rw [hz 1 (by decide)]; decide
  · show 0 ≤ (m.2.1 51 2).toInt ∧ (m.2.1 51 2).toInt ≤ 4
    rw [hz 2 (by decide)]; decide
theorem tok_pd {τ : St} (h : PD τ) : PD (F_X9_token τ) := by
  refine ⟨(tok_ab τ h.1).1, ?_⟩
  rw [(fr_F_X9_token τ).2.1 51 (by decide)]
  exact h.2
theorem pd_set3 {m : St} {v : Int32} (h : PD m) : PD (sa m 51 (upd (m.2.1 51) 3 v)) := h

theorem go_F_X9_readsStage_k138_16 (τ : St) (u2 : Int32 × St) (u5 : Int32 × St) (u9 : Int32 × St) (u12 : Int32 × St) (u15 : Int32 × St) (hp : PD τ) (hk : 0 ≤ ((τ.2.1 51) 1).toInt ∧ ((τ.2.1 51) 1).toInt < 8) (h : HD τ u15.2) : Go τ (F_X9_readsStage_k138_16 τ u2 u5 u9 u12 u15).2 := by
  unfold F_X9_readsStage_k138_16
  split
  · exact h.go hp
  · exact go_fin h hp (ge4 (b := 42) rfl (by decide) (by omega)) (by omega)
theorem go_F_X9_readsStage_k114_13 (τ : St) (u2 : Int32 × St) (u5 : Int32 × St) (u9 : Int32 × St) (u12 : Int32 × St) (hp : PD τ) (hk : 0 ≤ ((τ.2.1 51) 1).toInt ∧ ((τ.2.1 51) 1).toInt < 8) (h : HD τ u12.2) : Go τ (F_X9_readsStage_k114_13 τ u2 u5 u9 u12).2 := by
  unfold F_X9_readsStage_k114_13
  split
  · exact h.go hp
  · exact go_F_X9_readsStage_k138_16 τ u2 u5 u9 u12 (F_X9_number (sa u12.2 51 (upd (u12.2.2.1 51) ((34 : Int32) + ((τ.2.1 51) 1)).toNatClampNeg (u12.2.1 1550))) (0 : Int32) (((τ.2.1 51) 0) - (1 : Int32))) hp hk (HD.num (HD.set (ge4 (b := 34) rfl (by decide) (by omega)) h))
theorem go_F_X9_readsStage_k90_10 (τ : St) (u2 : Int32 × St) (u5 : Int32 × St) (u9 : Int32 × St) (hp : PD τ) (hk : 0 ≤ ((τ.2.1 51) 1).toInt ∧ ((τ.2.1 51) 1).toInt < 8) (h : HD τ u9.2) : Go τ (F_X9_readsStage_k90_10 τ u2 u5 u9).2 := by
  unfold F_X9_readsStage_k90_10
  split
  · exact h.go hp
  · exact go_F_X9_readsStage_k114_13 τ u2 u5 u9 (F_X9_number (sa u9.2 51 (upd (u9.2.2.1 51) ((26 : Int32) + ((τ.2.1 51) 1)).toNatClampNeg (u9.2.1 1550))) (0 : Int32) (1 : Int32)) hp hk (HD.num (HD.set (ge4 (b := 26) rfl (by decide) (by omega)) h))
theorem go_F_X9_readsStage_k49_6 (τ : St) (u2 : Int32 × St) (u5 : Int32 × St) (hp : PD τ) (hk : 0 ≤ ((τ.2.1 51) 1).toInt ∧ ((τ.2.1 51) 1).toInt < 8) (h : HD τ u5.2) : Go τ (F_X9_readsStage_k49_6 τ u2 u5).2 := by
  unfold F_X9_readsStage_k49_6
  split
  · exact h.go hp
  · split
    · exact h.go hp
    · exact go_F_X9_readsStage_k90_10 τ u2 u5 (F_X9_number (sa u5.2 51 (upd (u5.2.2.1 51) ((18 : Int32) + ((τ.2.1 51) 1)).toNatClampNeg (u5.2.1 1550))) (1 : Int32) (9 : Int32)) hp hk (HD.num (HD.set (ge4 (b := 18) rfl (by decide) (by omega)) h))
theorem go_F_X9_readsStage_k25_3 (τ : St) (u2 : Int32 × St) (hp : PD τ) (hk : 0 ≤ ((τ.2.1 51) 1).toInt ∧ ((τ.2.1 51) 1).toInt < 8) (h : HD τ u2.2) : Go τ (F_X9_readsStage_k25_3 τ u2).2 := by
  unfold F_X9_readsStage_k25_3
  split
  · exact h.go hp
  · exact go_F_X9_readsStage_k49_6 τ u2 (F_X9_number (sa u2.2 51 (upd (u2.2.2.1 51) ((10 : Int32) + ((τ.2.1 51) 1)).toNatClampNeg (u2.2.1 1550))) (0 : Int32) (((τ.2.1 51) 0) - (1 : Int32))) hp hk (HD.num (HD.set (ge4 (b := 10) rfl (by decide) (by omega)) h))

theorem go_F_X9_readsCaravan_k68_9 (τ : St) (u2 : Int32 × St) (u5 : Int32 × St) (u8 : Int32 × St) (hp : PD τ) (hk : 0 ≤ ((τ.2.1 51) 2).toInt ∧ ((τ.2.1 51) 2).toInt < 4) (h : HD τ u8.2) : Go τ (F_X9_readsCaravan_k68_9 τ u2 u5 u8).2 := by
  unfold F_X9_readsCaravan_k68_9
  split
  · exact h.go hp
  · exact go_fin h hp (ge4 (b := 50) rfl (by decide) (by omega)) (by omega)
theorem go_F_X9_readsCaravan_k44_6 (τ : St) (u2 : Int32 × St) (u5 : Int32 × St) (hp : PD τ) (hk : 0 ≤ ((τ.2.1 51) 2).toInt ∧ ((τ.2.1 51) 2).toInt < 4) (h : HD τ u5.2) : Go τ (F_X9_readsCaravan_k44_6 τ u2 u5).2 := by
  unfold F_X9_readsCaravan_k44_6
  split
  · exact h.go hp
  · exact go_F_X9_readsCaravan_k68_9 τ u2 u5 (F_X9_number (sa u5.2 52 (upd (u5.2.2.1 52) ((4 : Int32) + ((τ.2.1 51) 2)).toNatClampNeg (u5.2.1 1550))) (1 : Int32) (20 : Int32)) hp hk (HD.num h)
theorem go_F_X9_readsCaravan_k22_3 (τ : St) (u2 : Int32 × St) (hp : PD τ) (hk : 0 ≤ ((τ.2.1 51) 2).toInt ∧ ((τ.2.1 51) 2).toInt < 4) (h : HD τ u2.2) : Go τ (F_X9_readsCaravan_k22_3 τ u2).2 := by
  unfold F_X9_readsCaravan_k22_3
  split
  · exact h.go hp
  · exact go_F_X9_readsCaravan_k44_6 τ u2 (F_X9_number (sa u2.2 52 (upd (u2.2.2.1 52) ((τ.2.1 51) 2).toNatClampNeg (u2.2.1 1550))) (0 : Int32) (20 : Int32)) hp hk (HD.num h)

theorem go_F_X9_readsDebt_k87_15 (τ : St) (a1 : Int32) (u4 : Int32 × St) (u7 : Int32 × St) (u14 : Int32 × St) (hp : PD τ) (h : HD τ u14.2) : Go τ (F_X9_readsDebt_k87_15 τ a1 u4 u7 u14).2 := by
  unfold F_X9_readsDebt_k87_15
  exact h.go hp
theorem go_F_X9_readsDebt_k87_21 (τ : St) (a1 : Int32) (u4 : Int32 × St) (u7 : Int32 × St) (u20 : Int32 × St) (hp : PD τ) (h : HD τ u20.2) : Go τ (F_X9_readsDebt_k87_21 τ a1 u4 u7 u20).2 := by
  unfold F_X9_readsDebt_k87_21
  exact h.go hp
theorem go_F_X9_readsDebt_k41_8 (τ : St) (a1 : Int32) (u4 : Int32 × St) (u7 : Int32 × St) (hp : PD τ) (h : HD τ u7.2) : Go τ (F_X9_readsDebt_k41_8 τ a1 u4 u7).2 := by
  unfold F_X9_readsDebt_k41_8
  split
  · exact h.go hp
  · split
    · exact go_F_X9_readsDebt_k87_15 τ a1 u4 u7 (F_X9_number u7.2 (0 : Int32) (60 : Int32)) hp (HD.num h)
    · split
      · exact h.go hp
      · exact go_F_X9_readsDebt_k87_21 τ a1 u4 u7 (F_X9_number u7.2 (0 : Int32) (60 : Int32)) hp (HD.num h)
theorem go_F_X9_readsDebt_k18_5 (τ : St) (a1 : Int32) (u4 : Int32 × St) (hp : PD τ) (h : HD τ u4.2) : Go τ (F_X9_readsDebt_k18_5 τ a1 u4).2 := by
  unfold F_X9_readsDebt_k18_5
  split
  · exact h.go hp
  · exact go_F_X9_readsDebt_k41_8 τ a1 u4 (F_X9_number u4.2 (0 : Int32) (((u4.2.2.1 51) 0) - (1 : Int32))) hp (HD.num h)

theorem go_readsStage (τ : St) (hp : PD τ) : Go τ (F_X9_readsStage τ).2 := by
  unfold F_X9_readsStage
  split
  · exact (HD.rf hp.1).go hp
  · rename_i c
    have c := i_ne c
    have c8 : (8 : Int32).toInt = 8 := rfl
    have q := hp.2.2.1
    exact go_F_X9_readsStage_k25_3 _ _ hp (by omega) (HD.num (HD.rf hp.1))
theorem go_readsCaravan (τ : St) (hp : PD τ) : Go τ (F_X9_readsCaravan τ).2 := by
  unfold F_X9_readsCaravan
  split
  · exact (HD.rf hp.1).go hp
  · rename_i c
    have c := i_ne c
    have c8 : (4 : Int32).toInt = 4 := rfl
    have q := hp.2.2.2
    exact go_F_X9_readsCaravan_k22_3 _ _ hp (by omega) (HD.num (HD.rf hp.1))
theorem go_readsDebt (τ : St) (a1 : Int32) (hp : PD τ) : Go τ (F_X9_readsDebt τ a1).2 := go_F_X9_readsDebt_k18_5 _ _ _ hp (HD.num (HD.rf hp.1))

def F_X9_readsItem_k123_6 (τ : St) (u5 : Int32 × St) : Int32 × St := (u5.1, u5.2)
def F_X9_readsItem_k135_9 (τ : St) (u8 : Int32 × St) : Int32 × St := (u8.1, u8.2)
def F_X9_readsItem_k129_12 (τ : St) (u11 : Int32 × St) : Int32 × St := (u11.1, u11.2)
def F_X9_readsItem_k118_15 (τ : St) (u14 : Int32 × St) : Int32 × St := (u14.1, u14.2)
def F_X9_readsItem_k85_19 (τ : St) (u18 : Int32 × St) : Int32 × St := (if u18.1 = 0 then ((0 : Int32), u18.2) else ((1 : Int32), (sa u18.2 51 (upd (upd (u18.2.2.1 51) ((4 : Int32) + ((τ.2.1 51) 0)).toNatClampNeg (u18.2.1 1550)) 0 (((upd (u18.2.2.1 51) ((4 : Int32) + ((τ.2.1 51) 0)).toNatClampNeg (u18.2.1 1550)) 0) + (1 : Int32))))))
def F_X9_readsItem (τ : St) : Int32 × St := (if (if (τ.1 1548) = (1 : Int32) then (τ.1 1550) else (0 : Int32)) = 99 then (F_X9_readsItem_k123_6 τ (F_X9_readsCaravan τ)) else (if (if (τ.1 1548) = (1 : Int32) then (τ.1 1550) else (0 : Int32)) = 100 then (F_X9_readsItem_k135_9 τ (F_X9_readsDebt τ (1 : Int32))) else (if (if (τ.1 1548) = (1 : Int32) then (τ.1 1550) else (0 : Int32)) = 107 then (F_X9_readsItem_k129_12 τ (F_X9_readsDebt τ (0 : Int32))) else (if (if (τ.1 1548) = (1 : Int32) then (τ.1 1550) else (0 : Int32)) = 115 then (F_X9_readsItem_k118_15 τ (F_X9_readsStage τ)) else (if (if (τ.1 1548) = (1 : Int32) then (τ.1 1550) else (0 : Int32)) = 119 then (if ((τ.2.1 51) 0) = (6 : Int32) then ((0 : Int32), τ) else (F_X9_readsItem_k85_19 τ (F_X9_number τ (0 : Int32) (1 : Int32)))) else ((0 : Int32), τ))))))
abbrev I_X9_readsItem : List Nat := [1547, 1548, 1549, 1550]
abbrev A_X9_readsItem : List Nat := [51, 52]
theorem fr_F_X9_readsItem_k123_6 (τ : St) (u5 : Int32 × St) (hfr : Fr I_X9_readsItem A_X9_readsItem false τ (u5.2)) : Fr I_X9_readsItem A_X9_readsItem false τ (F_X9_readsItem_k123_6  τ u5).2 := hfr
theorem fr_F_X9_readsItem_k135_9 (τ : St) (u8 : Int32 × St) (hfr : Fr I_X9_readsItem A_X9_readsItem false τ (u8.2)) : Fr I_X9_readsItem A_X9_readsItem false τ (F_X9_readsItem_k135_9  τ u8).2 := hfr
theorem fr_F_X9_readsItem_k129_12 (τ : St) (u11 : Int32 × St) (hfr : Fr I_X9_readsItem A_X9_readsItem false τ (u11.2)) : Fr I_X9_readsItem A_X9_readsItem false τ (F_X9_readsItem_k129_12  τ u11).2 := hfr
theorem fr_F_X9_readsItem_k118_15 (τ : St) (u14 : Int32 × St) (hfr : Fr I_X9_readsItem A_X9_readsItem false τ (u14.2)) : Fr I_X9_readsItem A_X9_readsItem false τ (F_X9_readsItem_k118_15  τ u14).2 := hfr
theorem fr_F_X9_readsItem_k85_19 (τ : St) (u18 : Int32 × St) (hfr : Fr I_X9_readsItem A_X9_readsItem false τ (u18.2)) : Fr I_X9_readsItem A_X9_readsItem false τ (F_X9_readsItem_k85_19  τ u18).2 := (fr_ite2 hfr (Fr.sa (by decide) hfr))
theorem fr_F_X9_readsItem (τ : St) : Fr I_X9_readsItem A_X9_readsItem false τ (F_X9_readsItem τ).2 := (fr_ite2 (fr_F_X9_readsItem_k123_6 τ (F_X9_readsCaravan τ) (Fr.tr Fr.rf (Fr.mono (by decide) (by decide) (by decide) (fr_F_X9_readsCaravan τ)))) (fr_ite2 (fr_F_X9_readsItem_k135_9 τ (F_X9_readsDebt τ (1 : Int32)) (Fr.tr Fr.rf (Fr.mono (by decide) (by decide) (by decide) (fr_F_X9_readsDebt τ (1 : Int32))))) (fr_ite2 (fr_F_X9_readsItem_k129_12 τ (F_X9_readsDebt τ (0 : Int32)) (Fr.tr Fr.rf (Fr.mono (by decide) (by decide) (by decide) (fr_F_X9_readsDebt τ (0 : Int32))))) (fr_ite2 (fr_F_X9_readsItem_k118_15 τ (F_X9_readsStage τ) (Fr.tr Fr.rf (Fr.mono (by decide) (by decide) (by decide) (fr_F_X9_readsStage τ)))) (fr_ite2 (fr_ite2 Fr.rf (fr_F_X9_readsItem_k85_19 τ (F_X9_number τ (0 : Int32) (1 : Int32)) (Fr.tr Fr.rf (Fr.mono (by decide) (by decide) (by decide) (fr_F_X9_number τ (0 : Int32) (1 : Int32)))))) Fr.rf)))))
set_option maxHeartbeats 4000000 in
set_option maxRecDepth 20000 in
theorem c_X9_readsItem (l : Launch) (D : va_G) (cI cZ : ClassId) (z : Nat) (ad : Nat → Nat) (σ τ : St) (hk_ : 0 ≤ (τ.1 1547).toInt ∧ (τ.1 1547).toInt ≤ 200) (ht_ : 0 ≤ (τ.1 1538).toInt ∧ (τ.1 1538).toInt ≤ 200) (h0_ : 0 ≤ ((τ.2.1 51) 0).toInt ∧ ((τ.2.1 51) 0).toInt ≤ 6) (h1_ : 0 ≤ ((τ.2.1 51) 1).toInt ∧ ((τ.2.1 51) 1).toInt ≤ 8) (h2_ : 0 ≤ ((τ.2.1 51) 2).toInt ∧ ((τ.2.1 51) 2).toInt ≤ 4) : gM l yX9_readsItem cX9_readsItem 3 (some .boolean) 6 D cI cZ z (gws ad cI cZ σ τ) [.ref (ad 48)] (some (.int (F_X9_readsItem τ).1)) (gws ad cI cZ σ (F_X9_readsItem τ).2) := by
  refine g_met (own := RX9) (by decide) rfl (Nat.le_of_ble_eq_true rfl) (fun p e s m below meth c ls Q E hr hlk h hl hQ => ?_)
  have hx := E.1
  have hb := E.2.1
  have hF : (F_X9_readsItem τ) = (F_X9_readsItem τ) := rfl
  have hl : lv_has ls 3 [(0, .ref (ad 48))] := hl
  have hab : AB τ := ⟨hk_, ht_⟩
  refine lv_aload_n hx hb dX9_readsItem_0 rfl (lv_at hl 0 rfl) ?_
  refine g_get (v := .int (τ.1 1548)) E h 48 rfl rfl layX9 12 (by decide) rfl mw_831 rfl dX9_readsItem_1 ?_
  refine lv_iconst (v := 1) hx hb dX9_readsItem_4 (by decide) ?_
  refine g_dia (D := D) (z := z) (ws := gws ad cI cZ σ τ) (rest := []) 16 (if (τ.1 1548) = (1 : Int32) then (τ.1 1550) else (0 : Int32)) (fun H locs h => ?_) (fun K2 => ?_)
  · refine lv_istore_n (lv' := [(1, .int (if (τ.1 1548) = (1 : Int32) then (τ.1 1550) else (0 : Int32))), (0, .ref (ad 48))]) hx hb dX9_readsItem_16 rfl hl (by decide) rfl (fun ls hl => ?_)
    refine lv_aload_n hx hb dX9_readsItem_17 rfl (lv_at hl 1 rfl) ?_
    refine g_get (v := .ref (ad 51)) E h 48 rfl rfl layX9 4 (by decide) rfl mw_823 rfl dX9_readsItem_18 ?_
    refine lv_iconst (v := 0) hx hb dX9_readsItem_21 (by decide) ?_
    refine g_ialdk (f := (τ.2.1 51)) E h 51 rfl 0 rfl (ix_of (oI_lit (x := 0) (a := 0) rfl) (by omega) (by decide)) dX9_readsItem_22 ?_
    refine lv_istore_n (lv' := [(2, .int ((τ.2.1 51) 0)), (1, .int (if (τ.1 1548) = (1 : Int32) then (τ.1 1550) else (0 : Int32))), (0, .ref (ad 48))]) hx hb dX9_readsItem_23 rfl hl (by decide) rfl (fun ls hl => ?_)
    refine lv_iload_n hx hb dX9_readsItem_24 rfl (lv_at hl 1 rfl) ?_
    by_cases t4 : (if (τ.1 1548) = (1 : Int32) then (τ.1 1550) else (0 : Int32)) = 99
    · have it4 : (if (τ.1 1548) = (1 : Int32) then (τ.1 1550) else (0 : Int32)).toInt = 99 := i_eq t4
      have hF := (if_pos t4).symm.trans hF
      refine lv_lookup (off := 97) (tgt := 122) hx hb dX9_readsItem_25 (by decide) (by rw [it4]; rfl) (by decide) ?_
      refine lv_aload_n hx hb dX9_readsItem_122 rfl (lv_at hl 2 rfl) ?_
      refine g_callVU (F_X9_readsCaravan τ) (fun u => gws ad cI cZ σ u) (rest := []) E h (c_X9_readsCaravan l D cI cZ z ad σ τ (show 0 ≤ (τ.1 1547).toInt ∧ (τ.1 1547).toInt ≤ 200 from by omega) (show 0 ≤ (τ.1 1538).toInt ∧ (τ.1 1538).toInt ≤ 200 from by omega) (show 0 ≤ ((τ.2.1 51) 2).toInt ∧ ((τ.2.1 51) 2).toInt ≤ 4 from by omega)) mw_807 cbX9_readsCaravan 48 rfl rfl ⟨by decide, by decide⟩ rfl rfl hl.1 (Nat.le_of_ble_eq_true rfl) ⟨Nat.zero_le _, Nat.zero_le _⟩ dX9_readsItem_123 (fun u5 huu5 H locs h => ?_)
      have hF : F_X9_readsItem_k123_6 τ u5 = (F_X9_readsItem τ) := by rw [← huu5]; exact hF
      have bu5 : u5.1 = 0 ∨ u5.1 = 1 := by rw [← huu5]; exact b01_F_X9_readsCaravan τ
      exact g_zret E hr hlk h hQ (nar01 bu5) (fst_of hF) (snd_of hF (fun u => gws ad cI cZ σ u)) dX9_readsItem_126
    · have it4 : (if (τ.1 1548) = (1 : Int32) then (τ.1 1550) else (0 : Int32)).toInt ≠ 99 := i_ne t4
      have hF := (if_neg t4).symm.trans hF
      by_cases t7 : (if (τ.1 1548) = (1 : Int32) then (τ.1 1550) else (0 : Int32)) = 100
      · have it7 : (if (τ.1 1548) = (1 : Int32) then (τ.1 1550) else (0 : Int32)).toInt = 100 := i_eq t7
        have hF := (if_pos t7).symm.trans hF
        refine lv_lookup (off := 108) (tgt := 133) hx hb dX9_readsItem_25 (by decide) (by rw [it7]; rfl) (by decide) ?_
        refine lv_aload_n hx hb dX9_readsItem_133 rfl (lv_at hl 2 rfl) ?_
        refine lv_iconst (v := 1) hx hb dX9_readsItem_134 (by decide) ?_
        refine g_callVU (F_X9_readsDebt τ (1 : Int32)) (fun u => gws ad cI cZ σ u) (rest := []) E h (c_X9_readsDebt l D cI cZ z ad σ τ (1 : Int32) (show 0 ≤ (τ.1 1547).toInt ∧ (τ.1 1547).toInt ≤ 200 from by omega) (show 0 ≤ (τ.1 1538).toInt ∧ (τ.1 1538).toInt ≤ 200 from by omega) (show 0 ≤ ((τ.2.1 51) 0).toInt ∧ ((τ.2.1 51) 0).toInt ≤ 6 from by omega) (show 0 ≤ ((τ.2.1 51) 2).toInt ∧ ((τ.2.1 51) 2).toInt ≤ 4 from by omega)) mw_811 cbX9_readsDebt 48 rfl rfl ⟨by decide, by decide⟩ rfl rfl hl.1 (Nat.le_of_ble_eq_true rfl) ⟨Nat.zero_le _, Nat.zero_le _⟩ dX9_readsItem_135 (fun u8 huu8 H locs h => ?_)
        have hF : F_X9_readsItem_k135_9 τ u8 = (F_X9_readsItem τ) := by rw [← huu8]; exact hF
        have bu8 : u8.1 = 0 ∨ u8.1 = 1 := by rw [← huu8]; exact b01_F_X9_readsDebt τ (1 : Int32)
        exact g_zret E hr hlk h hQ (nar01 bu8) (fst_of hF) (snd_of hF (fun u => gws ad cI cZ σ u)) dX9_readsItem_138
      · have it7 : (if (τ.1 1548) = (1 : Int32) then (τ.1 1550) else (0 : Int32)).toInt ≠ 100 := i_ne t7
        have hF := (if_neg t7).symm.trans hF
        by_cases t10 : (if (τ.1 1548) = (1 : Int32) then (τ.1 1550) else (0 : Int32)) = 107
        · have it10 : (if (τ.1 1548) = (1 : Int32) then (τ.1 1550) else (0 : Int32)).toInt = 107 := i_eq t10
          have hF := (if_pos t10).symm.trans hF
          refine lv_lookup (off := 102) (tgt := 127) hx hb dX9_readsItem_25 (by decide) (by rw [it10]; rfl) (by decide) ?_
          refine lv_aload_n hx hb dX9_readsItem_127 rfl (lv_at hl 2 rfl) ?_
          refine lv_iconst (v := 0) hx hb dX9_readsItem_128 (by decide) ?_
          refine g_callVU (F_X9_readsDebt τ (0 : Int32)) (fun u => gws ad cI cZ σ u) (rest := []) E h (c_X9_readsDebt l D cI cZ z ad σ τ (0 : Int32) (show 0 ≤ (τ.1 1547).toInt ∧ (τ.1 1547).toInt ≤ 200 from by omega) (show 0 ≤ (τ.1 1538).toInt ∧ (τ.1 1538).toInt ≤ 200 from by omega) (show 0 ≤ ((τ.2.1 51) 0).toInt ∧ ((τ.2.1 51) 0).toInt ≤ 6 from by omega) (show 0 ≤ ((τ.2.1 51) 2).toInt ∧ ((τ.2.1 51) 2).toInt ≤ 4 from by omega)) mw_811 cbX9_readsDebt 48 rfl rfl ⟨by decide, by decide⟩ rfl rfl hl.1 (Nat.le_of_ble_eq_true rfl) ⟨Nat.zero_le _, Nat.zero_le _⟩ dX9_readsItem_129 (fun u11 huu11 H locs h => ?_)
          have hF : F_X9_readsItem_k129_12 τ u11 = (F_X9_readsItem τ) := by rw [← huu11]; exact hF
          have bu11 : u11.1 = 0 ∨ u11.1 = 1 := by rw [← huu11]; exact b01_F_X9_readsDebt τ (0 : Int32)
          exact g_zret E hr hlk h hQ (nar01 bu11) (fst_of hF) (snd_of hF (fun u => gws ad cI cZ σ u)) dX9_readsItem_132
        · have it10 : (if (τ.1 1548) = (1 : Int32) then (τ.1 1550) else (0 : Int32)).toInt ≠ 107 := i_ne t10
          have hF := (if_neg t10).symm.trans hF
          by_cases t13 : (if (τ.1 1548) = (1 : Int32) then (τ.1 1550) else (0 : Int32)) = 115
          · have it13 : (if (τ.1 1548) = (1 : Int32) then (τ.1 1550) else (0 : Int32)).toInt = 115 := i_eq t13
            have hF := (if_pos t13).symm.trans hF
            refine lv_lookup (off := 92) (tgt := 117) hx hb dX9_readsItem_25 (by decide) (by rw [it13]; rfl) (by decide) ?_
            refine lv_aload_n hx hb dX9_readsItem_117 rfl (lv_at hl 2 rfl) ?_
            refine g_callVU (F_X9_readsStage τ) (fun u => gws ad cI cZ σ u) (rest := []) E h (c_X9_readsStage l D cI cZ z ad σ τ (show 0 ≤ (τ.1 1547).toInt ∧ (τ.1 1547).toInt ≤ 200 from by omega) (show 0 ≤ (τ.1 1538).toInt ∧ (τ.1 1538).toInt ≤ 200 from by omega) (show 0 ≤ ((τ.2.1 51) 1).toInt ∧ ((τ.2.1 51) 1).toInt ≤ 8 from by omega)) mw_803 cbX9_readsStage 48 rfl rfl ⟨by decide, by decide⟩ rfl rfl hl.1 (Nat.le_of_ble_eq_true rfl) ⟨Nat.zero_le _, Nat.zero_le _⟩ dX9_readsItem_118 (fun u14 huu14 H locs h => ?_)
            have hF : F_X9_readsItem_k118_15 τ u14 = (F_X9_readsItem τ) := by rw [← huu14]; exact hF
            have bu14 : u14.1 = 0 ∨ u14.1 = 1 := by rw [← huu14]; exact b01_F_X9_readsStage τ
            exact g_zret E hr hlk h hQ (nar01 bu14) (fst_of hF) (snd_of hF (fun u => gws ad cI cZ σ u)) dX9_readsItem_121
          · have it13 : (if (τ.1 1548) = (1 : Int32) then (τ.1 1550) else (0 : Int32)).toInt ≠ 115 := i_ne t13
            have hF := (if_neg t13).symm.trans hF
            by_cases t16 : (if (τ.1 1548) = (1 : Int32) then (τ.1 1550) else (0 : Int32)) = 119
            · have it16 : (if (τ.1 1548) = (1 : Int32) then (τ.1 1550) else (0 : Int32)).toInt = 119 := i_eq t16
              have hF := (if_pos t16).symm.trans hF
              refine lv_lookup (off := 51) (tgt := 76) hx hb dX9_readsItem_25 (by decide) (by rw [it16]; rfl) (by decide) ?_
              refine lv_iload_n hx hb dX9_readsItem_76 rfl (lv_at hl 0 rfl) ?_
              refine lv_bipush (v := 6) hx hb dX9_readsItem_77 (by decide) ?_
              refine lv_icmp_eq (tgt := 91) hx hb dX9_readsItem_79 (by decide) (fun c17 => ?_) (fun c17 => ?_)
              · have ic17 : ((τ.2.1 51) 0).toInt = 6 := i_eq c17
                have hF := (if_pos c17).symm.trans hF
                refine lv_iconst (v := 0) hx hb dX9_readsItem_91 (by decide) ?_
                exact g_zret E hr hlk h hQ (rfl) (fst_of hF) (snd_of hF (fun u => gws ad cI cZ σ u)) dX9_readsItem_92
              · have ic17 : ((τ.2.1 51) 0).toInt ≠ 6 := i_ne c17
                have hF := (if_neg c17).symm.trans hF
                refine lv_aload_n hx hb dX9_readsItem_82 rfl (lv_at hl 2 rfl) ?_
                refine lv_iconst (v := 0) hx hb dX9_readsItem_83 (by decide) ?_
                refine lv_iconst (v := 1) hx hb dX9_readsItem_84 (by decide) ?_
                refine g_callVU (F_X9_number τ (0 : Int32) (1 : Int32)) (fun u => gws ad cI cZ σ u) (rest := []) E h (c_X9_number l D cI cZ z ad σ τ (0 : Int32) (1 : Int32) (show 0 ≤ (τ.1 1547).toInt ∧ (τ.1 1547).toInt ≤ 200 from by omega) (show 0 ≤ (τ.1 1538).toInt ∧ (τ.1 1538).toInt ≤ 200 from by omega)) mw_799 cbX9_number 48 rfl rfl ⟨by decide, by decide⟩ rfl rfl hl.1 (Nat.le_of_ble_eq_true rfl) ⟨Nat.zero_le _, Nat.zero_le _⟩ dX9_readsItem_85 (fun u18 huu18 H locs h => ?_)
                have hF : F_X9_readsItem_k85_19 τ u18 = (F_X9_readsItem τ) := by rw [← huu18]; exact hF
                have bu18 : u18.1 = 0 ∨ u18.1 = 1 := by rw [← huu18]; exact b01_F_X9_number τ (0 : Int32) (1 : Int32)
                have hab : AB u18.2 := by rw [← huu18]; exact num_ab (τ := τ) hab
                have hab_ : (0 ≤ (u18.2.1 1547).toInt ∧ (u18.2.1 1547).toInt ≤ 200) ∧ 0 ≤ (u18.2.1 1538).toInt ∧ (u18.2.1 1538).toInt ≤ 200 := hab
                refine lv_if_ne (tgt := 93) hx hb dX9_readsItem_88 (by decide) (fun c20 => ?_) (fun c20 => ?_)
                · have ic20 : u18.1.toInt ≠ 0 := i_ne c20
                  have hF := (if_neg c20).symm.trans hF
                  refine lv_aload_n hx hb dX9_readsItem_93 rfl (lv_at hl 2 rfl) ?_
                  refine g_get (v := .ref (ad 51)) E h 48 rfl rfl layX9 4 (by decide) rfl mw_823 rfl dX9_readsItem_94 ?_
                  refine lv_iconst (v := 4) hx hb dX9_readsItem_97 (by decide) ?_
                  refine lv_iload_n hx hb dX9_readsItem_98 rfl (lv_at hl 0 rfl) ?_
                  refine lv_iadd hx hb dX9_readsItem_99 ?_
                  refine lv_aload_n hx hb dX9_readsItem_100 rfl (lv_at hl 2 rfl) ?_
                  refine g_get (v := .int (u18.2.1 1550)) E h 48 rfl rfl layX9 14 (by decide) rfl mw_833 rfl dX9_readsItem_101 ?_
                  refine g_iast (f := (u18.2.2.1 51)) (ws' := gws ad cI cZ σ (sa u18.2 51 (upd (u18.2.2.1 51) ((4 : Int32) + ((τ.2.1 51) 0)).toNatClampNeg (u18.2.1 1550)))) E h 51 rfl (ix_of (oI_add (oI_lit (x := 4) (a := 4) rfl) (oI_at ((τ.2.1 51) 0))) (by omega) (by decide)) (ga_51 ad cI cZ σ u18.2 (upd (u18.2.2.1 51) ((4 : Int32) + ((τ.2.1 51) 0)).toNatClampNeg (u18.2.1 1550))) dX9_readsItem_104 (fun H locs h => ?_)
                  refine lv_aload_n hx hb dX9_readsItem_105 rfl (lv_at hl 2 rfl) ?_
                  refine g_get (v := .ref (ad 51)) E h 48 rfl rfl layX9 4 (by decide) rfl mw_823 rfl dX9_readsItem_106 ?_
                  refine lv_iconst (v := 0) hx hb dX9_readsItem_109 (by decide) ?_
                  refine lv_dup2_11 hx hb dX9_readsItem_110 rfl rfl ?_
                  refine g_ialdk (f := (upd (u18.2.2.1 51) ((4 : Int32) + ((τ.2.1 51) 0)).toNatClampNeg (u18.2.1 1550))) E h 51 rfl 0 rfl (ix_of (oI_lit (x := 0) (a := 0) rfl) (by omega) (by decide)) dX9_readsItem_111 ?_
                  refine lv_iconst (v := 1) hx hb dX9_readsItem_112 (by decide) ?_
                  refine lv_iadd hx hb dX9_readsItem_113 ?_
                  refine g_iastk (f := (upd (u18.2.2.1 51) ((4 : Int32) + ((τ.2.1 51) 0)).toNatClampNeg (u18.2.1 1550))) (ws' := gws ad cI cZ σ (sa u18.2 51 (upd (upd (u18.2.2.1 51) ((4 : Int32) + ((τ.2.1 51) 0)).toNatClampNeg (u18.2.1 1550)) 0 (((upd (u18.2.2.1 51) ((4 : Int32) + ((τ.2.1 51) 0)).toNatClampNeg (u18.2.1 1550)) 0) + (1 : Int32))))) E h 51 rfl 0 rfl (ix_of (oI_lit (x := 0) (a := 0) rfl) (by omega) (by decide)) ((ga_51 ad cI cZ σ (sa u18.2 51 (upd (u18.2.2.1 51) ((4 : Int32) + ((τ.2.1 51) 0)).toNatClampNeg (u18.2.1 1550))) (upd (upd (u18.2.2.1 51) ((4 : Int32) + ((τ.2.1 51) 0)).toNatClampNeg (u18.2.1 1550)) 0 (((upd (u18.2.2.1 51) ((4 : Int32) + ((τ.2.1 51) 0)).toNatClampNeg (u18.2.1 1550)) 0) + (1 : Int32)))).trans (congrArg (fun u => gws ad cI cZ σ u) (sa_sa _ _ _ _))) dX9_readsItem_114 (fun H locs h => ?_)
                  refine lv_iconst (v := 1) hx hb dX9_readsItem_115 (by decide) ?_
                  exact g_zret E hr hlk h hQ (rfl) (fst_of hF) (snd_of hF (fun u => gws ad cI cZ σ u)) dX9_readsItem_116
                · have ic20 : u18.1.toInt = 0 := i_eq c20
                  have hF := (if_pos c20).symm.trans hF
                  refine lv_iconst (v := 0) hx hb dX9_readsItem_91 (by decide) ?_
                  exact g_zret E hr hlk h hQ (rfl) (fst_of hF) (snd_of hF (fun u => gws ad cI cZ σ u)) dX9_readsItem_92
            · have it16 : (if (τ.1 1548) = (1 : Int32) then (τ.1 1550) else (0 : Int32)).toInt ≠ 119 := i_ne t16
              have hF := (if_neg t16).symm.trans hF
              refine lv_lookup (off := 114) (tgt := 139) hx hb dX9_readsItem_25 (by decide) (by simp [Op.lookupswitch.offset, it4.symm, it7.symm, it10.symm, it13.symm, it16.symm]) (by decide) ?_
              refine lv_iconst (v := 0) hx hb dX9_readsItem_139 (by decide) ?_
              exact g_zret E hr hlk h hQ (rfl) (fst_of hF) (snd_of hF (fun u => gws ad cI cZ σ u)) dX9_readsItem_140
  · refine lv_icmp_ne (tgt := 15) hx hb dX9_readsItem_5 (by decide) (fun c3 => ?_) (fun c3 => ?_)
    · have ic3 : (τ.1 1548).toInt ≠ 1 := i_ne c3
      refine lv_iconst (v := 0) hx hb dX9_readsItem_15 (by decide) ?_
      exact K2 _ _ _ ((if_neg c3).symm) h
    · have ic3 : (τ.1 1548).toInt = 1 := i_eq c3
      refine lv_aload_n hx hb dX9_readsItem_8 rfl (lv_at hl 0 rfl) ?_
      refine g_get (v := .int (τ.1 1550)) E h 48 rfl rfl layX9 14 (by decide) rfl mw_833 rfl dX9_readsItem_9 ?_
      refine lv_goto (tgt := 16) hx hb dX9_readsItem_12 (by decide) ?_
      exact K2 _ _ _ ((if_pos c3).symm) h
