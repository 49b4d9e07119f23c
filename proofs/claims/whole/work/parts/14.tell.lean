def F_X4_hear_k1_2 (σ : St) (a2 : Int32) (a3 : Int32) (a4 : Int32) (u1 : St) : Int32 × St := (if (F_X6_tokenKind u1) = (2 : Int32) then (if (F_X6_tokenValue u1) < a3 then ((0 : Int32), u1) else (if a4 < (F_X6_tokenValue u1) then ((0 : Int32), u1) else (if a2 < 0 then ((0 : Int32), u1) else (if a2 < (5 : Int32) then ((1 : Int32), (sa u1 24 (upd (u1.2.1 24) a2.toNatClampNeg (F_X6_tokenValue u1)))) else ((0 : Int32), u1))))) else ((0 : Int32), u1))
def F_X4_hear (σ : St) (a2 : Int32) (a3 : Int32) (a4 : Int32) : Int32 × St := (F_X4_hear_k1_2 σ a2 a3 a4 (F_X6_scan σ))
abbrev I_X4_hear : List Nat := [34, 35, 36, 37]
abbrev A_X4_hear : List Nat := [24]
theorem fr_F_X4_hear_k1_2 (σ : St) (a2 : Int32) (a3 : Int32) (a4 : Int32) (u1 : St) (hfr : Fr I_X4_hear A_X4_hear false σ (u1)) : Fr I_X4_hear A_X4_hear false σ (F_X4_hear_k1_2  σ a2 a3 a4 u1).2 := (fr_ite2 (fr_ite2 hfr (fr_ite2 hfr (fr_ite2 hfr (fr_ite2 (Fr.sa (by decide) hfr) hfr)))) hfr)
theorem fr_F_X4_hear (σ : St) (a2 : Int32) (a3 : Int32) (a4 : Int32) : Fr I_X4_hear A_X4_hear false σ (F_X4_hear σ a2 a3 a4).2 := (fr_F_X4_hear_k1_2 σ a2 a3 a4 (F_X6_scan σ) (Fr.tr Fr.rf (Fr.mono (by decide) (by decide) (by decide) (fr_F_X6_scan σ))))
set_option maxHeartbeats 4000000 in
set_option maxRecDepth 20000 in
theorem c_X4_hear (l : Launch) (D : va_G) (cI cZ : ClassId) (z : Nat) (ad : Nat → Nat) (σ τ : St) (a2 a3 a4 : Int32) : gM l yX4_hear cX4_hear 6 (some .boolean) 3 D cI cZ z (gws ad cI cZ σ τ) [.ref (ad 14), .ref (ad 1), .int a2, .int a3, .int a4] (some (.int (F_X4_hear σ a2 a3 a4).1)) (gws ad cI cZ (F_X4_hear σ a2 a3 a4).2 τ) := by
  refine g_met (own := RX4) (by decide) rfl (Nat.le_of_ble_eq_true rfl) (fun p e s m below meth c ls Q E hr hlk h hl hQ => ?_)
  have hx := E.1
  have hb := E.2.1
  have hF : (F_X4_hear σ a2 a3 a4) = (F_X4_hear σ a2 a3 a4) := rfl
  have hl : lv_has ls 6 [(0, .ref (ad 14)), (1, .ref (ad 1)), (2, .int a2), (3, .int a3), (4, .int a4)] := hl
  refine lv_aload_n hx hb dX4_hear_0 rfl (lv_at hl 1 rfl) ?_
  refine g_callVUv (F_X6_scan σ) (fun u => gws ad cI cZ u τ) (rest := []) E h (c_X6_scan l D cI cZ z ad σ τ) mw_281 cbX6_scan 1 rfl rfl ⟨by decide, by decide⟩ rfl rfl hl.1 (Nat.le_of_ble_eq_true rfl) ⟨Nat.zero_le _, Nat.zero_le _⟩ dX4_hear_1 (fun u1 huu1 H locs h => ?_)
  have hF : F_X4_hear_k1_2 σ a2 a3 a4 u1 = (F_X4_hear σ a2 a3 a4) := by rw [← huu1]; exact hF
  refine lv_aload_n hx hb dX4_hear_4 rfl (lv_at hl 1 rfl) ?_
  refine g_callVi (rest := []) E h (c_X6_tokenValue l D cI cZ z ad u1 τ) mw_308 cbX6_tokenValue 1 rfl rfl ⟨by decide, by decide⟩ rfl rfl hl.1 (Nat.le_of_ble_eq_true rfl) ⟨Nat.zero_le _, Nat.zero_le _⟩ dX4_hear_5 (fun H locs h => ?_)
  refine lv_istore (lv' := [(5, .int (F_X6_tokenValue u1)), (0, .ref (ad 14)), (1, .ref (ad 1)), (2, .int a2), (3, .int a3), (4, .int a4)]) hx hb dX4_hear_8 hl (by decide) rfl (fun ls hl => ?_)
  refine lv_aload_n hx hb dX4_hear_10 rfl (lv_at hl 2 rfl) ?_
  refine g_callVi (rest := []) E h (c_X6_tokenKind l D cI cZ z ad u1 τ) mw_300 cbX6_tokenKind 1 rfl rfl ⟨by decide, by decide⟩ rfl rfl hl.1 (Nat.le_of_ble_eq_true rfl) ⟨Nat.zero_le _, Nat.zero_le _⟩ dX4_hear_11 (fun H locs h => ?_)
  refine lv_iconst (v := 2) hx hb dX4_hear_14 (by decide) ?_
  refine lv_icmp_ne (tgt := 44) hx hb dX4_hear_15 (by decide) (fun c3 => ?_) (fun c3 => ?_)
  · have ic3 : (F_X6_tokenKind u1).toInt ≠ 2 := i_ne c3
    have hF := (if_neg c3).symm.trans hF
    refine lv_iconst (v := 0) hx hb dX4_hear_44 (by decide) ?_
    exact g_zret E hr hlk h hQ (rfl) (fst_of hF) (snd_of hF (fun u => gws ad cI cZ u τ)) dX4_hear_45
  · have ic3 : (F_X6_tokenKind u1).toInt = 2 := i_eq c3
    have hF := (if_pos c3).symm.trans hF
    refine lv_iload hx hb dX4_hear_18 (lv_at hl 0 rfl) ?_
    refine lv_iload_n hx hb dX4_hear_20 rfl (lv_at hl 4 rfl) ?_
    refine lv_icmp_lt (tgt := 44) hx hb dX4_hear_21 (by decide) (fun c4 => ?_) (fun c4 => ?_)
    · have ic4 : (F_X6_tokenValue u1).toInt < a3.toInt := i_lt c4
      have hF := (if_pos c4).symm.trans hF
      refine lv_iconst (v := 0) hx hb dX4_hear_44 (by decide) ?_
      exact g_zret E hr hlk h hQ (rfl) (fst_of hF) (snd_of hF (fun u => gws ad cI cZ u τ)) dX4_hear_45
    · have ic4 : a3.toInt ≤ (F_X6_tokenValue u1).toInt := i_nlt c4
      have hF := (if_neg c4).symm.trans hF
      refine lv_iload hx hb dX4_hear_24 (lv_at hl 0 rfl) ?_
      refine lv_iload hx hb dX4_hear_26 (lv_at hl 5 rfl) ?_
      refine lv_icmp_gt (tgt := 44) hx hb dX4_hear_28 (by decide) (fun c5 => ?_) (fun c5 => ?_)
      · have ic5 : a4.toInt < (F_X6_tokenValue u1).toInt := i_lt c5
        have hF := (if_pos c5).symm.trans hF
        refine lv_iconst (v := 0) hx hb dX4_hear_44 (by decide) ?_
        exact g_zret E hr hlk h hQ (rfl) (fst_of hF) (snd_of hF (fun u => gws ad cI cZ u τ)) dX4_hear_45
      · have ic5 : (F_X6_tokenValue u1).toInt ≤ a4.toInt := i_nlt c5
        have hF := (if_neg c5).symm.trans hF
        refine lv_iload_n hx hb dX4_hear_31 rfl (lv_at hl 3 rfl) ?_
        refine lv_if_lt (tgt := 44) hx hb dX4_hear_32 (by decide) (fun c6 => ?_) (fun c6 => ?_)
        · have ic6 : a2.toInt < 0 := i_lt c6
          have hF := (if_pos c6).symm.trans hF
          refine lv_iconst (v := 0) hx hb dX4_hear_44 (by decide) ?_
          exact g_zret E hr hlk h hQ (rfl) (fst_of hF) (snd_of hF (fun u => gws ad cI cZ u τ)) dX4_hear_45
        · have ic6 : 0 ≤ a2.toInt := i_nlt c6
          have hF := (if_neg c6).symm.trans hF
          refine lv_iload_n hx hb dX4_hear_35 rfl (lv_at hl 3 rfl) ?_
          refine lv_aload_n hx hb dX4_hear_36 rfl (lv_at hl 1 rfl) ?_
          refine g_get (v := .ref (ad 24)) E h 14 rfl rfl layX4 11 (by decide) rfl mw_83 rfl dX4_hear_37 ?_
          refine g_alen (v := 5) (f := (u1.2.1 24)) E h 24 rfl (by decide) dX4_hear_40 ?_
          refine lv_icmp_lt (tgt := 46) hx hb dX4_hear_41 (by decide) (fun c7 => ?_) (fun c7 => ?_)
          · have ic7 : a2.toInt < 5 := i_lt c7
            have hF := (if_pos c7).symm.trans hF
            refine lv_aload_n hx hb dX4_hear_46 rfl (lv_at hl 1 rfl) ?_
            refine g_get (v := .ref (ad 24)) E h 14 rfl rfl layX4 11 (by decide) rfl mw_83 rfl dX4_hear_47 ?_
            refine lv_iload_n hx hb dX4_hear_50 rfl (lv_at hl 3 rfl) ?_
            refine lv_iload hx hb dX4_hear_51 (lv_at hl 0 rfl) ?_
            refine g_iast (f := (u1.2.1 24)) (ws' := gws ad cI cZ (sa u1 24 (upd (u1.2.1 24) a2.toNatClampNeg (F_X6_tokenValue u1))) τ) E h 24 rfl (ix_of (oI_at a2) (by omega) (by decide)) (ga_24 ad cI cZ u1 τ (upd (u1.2.1 24) a2.toNatClampNeg (F_X6_tokenValue u1))) dX4_hear_53 (fun H locs h => ?_)
            refine lv_iconst (v := 1) hx hb dX4_hear_54 (by decide) ?_
            exact g_zret E hr hlk h hQ (rfl) (fst_of hF) (snd_of hF (fun u => gws ad cI cZ u τ)) dX4_hear_55
          · have ic7 : 5 ≤ a2.toInt := i_nlt c7
            have hF := (if_neg c7).symm.trans hF
            refine lv_iconst (v := 0) hx hb dX4_hear_44 (by decide) ?_
            exact g_zret E hr hlk h hQ (rfl) (fst_of hF) (snd_of hF (fun u => gws ad cI cZ u τ)) dX4_hear_45

def F_X4_hearStop_k1_2 (σ : St) (u1 : St) : Int32 × St := (if (F_X6_tokenKind u1) = (3 : Int32) then ((1 : Int32), u1) else ((0 : Int32), u1))
def F_X4_hearStop (σ : St) : Int32 × St := (F_X4_hearStop_k1_2 σ (F_X6_scan σ))
abbrev I_X4_hearStop : List Nat := [34, 35, 36, 37]
abbrev A_X4_hearStop : List Nat := []
theorem fr_F_X4_hearStop_k1_2 (σ : St) (u1 : St) (hfr : Fr I_X4_hearStop A_X4_hearStop false σ (u1)) : Fr I_X4_hearStop A_X4_hearStop false σ (F_X4_hearStop_k1_2  σ u1).2 := (fr_ite2 hfr hfr)
theorem fr_F_X4_hearStop (σ : St) : Fr I_X4_hearStop A_X4_hearStop false σ (F_X4_hearStop σ).2 := (fr_F_X4_hearStop_k1_2 σ (F_X6_scan σ) (Fr.tr Fr.rf (Fr.mono (by decide) (by decide) (by decide) (fr_F_X6_scan σ))))
set_option maxHeartbeats 4000000 in
set_option maxRecDepth 20000 in
theorem c_X4_hearStop (l : Launch) (D : va_G) (cI cZ : ClassId) (z : Nat) (ad : Nat → Nat) (σ τ : St) : gM l yX4_hearStop cX4_hearStop 1 (some .boolean) 3 D cI cZ z (gws ad cI cZ σ τ) [.ref (ad 1)] (some (.int (F_X4_hearStop σ).1)) (gws ad cI cZ (F_X4_hearStop σ).2 τ) := by
  refine g_met (own := RX4) (by decide) rfl (Nat.le_of_ble_eq_true rfl) (fun p e s m below meth c ls Q E hr hlk h hl hQ => ?_)
  have hx := E.1
  have hb := E.2.1
  have hF : (F_X4_hearStop σ) = (F_X4_hearStop σ) := rfl
  have hl : lv_has ls 1 [(0, .ref (ad 1))] := hl
  refine lv_aload_n hx hb dX4_hearStop_0 rfl (lv_at hl 0 rfl) ?_
  refine g_callVUv (F_X6_scan σ) (fun u => gws ad cI cZ u τ) (rest := []) E h (c_X6_scan l D cI cZ z ad σ τ) mw_281 cbX6_scan 1 rfl rfl ⟨by decide, by decide⟩ rfl rfl hl.1 (Nat.le_of_ble_eq_true rfl) ⟨Nat.zero_le _, Nat.zero_le _⟩ dX4_hearStop_1 (fun u1 huu1 H locs h => ?_)
  have hF : F_X4_hearStop_k1_2 σ u1 = (F_X4_hearStop σ) := by rw [← huu1]; exact hF
  refine lv_aload_n hx hb dX4_hearStop_4 rfl (lv_at hl 0 rfl) ?_
  refine g_callVi (rest := []) E h (c_X6_tokenKind l D cI cZ z ad u1 τ) mw_300 cbX6_tokenKind 1 rfl rfl ⟨by decide, by decide⟩ rfl rfl hl.1 (Nat.le_of_ble_eq_true rfl) ⟨Nat.zero_le _, Nat.zero_le _⟩ dX4_hearStop_5 (fun H locs h => ?_)
  refine lv_iconst (v := 3) hx hb dX4_hearStop_8 (by decide) ?_
  refine lv_icmp_ne (tgt := 16) hx hb dX4_hearStop_9 (by decide) (fun c3 => ?_) (fun c3 => ?_)
  · have ic3 : (F_X6_tokenKind u1).toInt ≠ 3 := i_ne c3
    have hF := (if_neg c3).symm.trans hF
    refine lv_iconst (v := 0) hx hb dX4_hearStop_16 (by decide) ?_
    exact g_zret E hr hlk h hQ (rfl) (fst_of hF) (snd_of hF (fun u => gws ad cI cZ u τ)) dX4_hearStop_17
  · have ic3 : (F_X6_tokenKind u1).toInt = 3 := i_eq c3
    have hF := (if_pos c3).symm.trans hF
    refine lv_iconst (v := 1) hx hb dX4_hearStop_12 (by decide) ?_
    refine lv_goto (tgt := 17) hx hb dX4_hearStop_13 (by decide) ?_
    exact g_zret E hr hlk h hQ (rfl) (fst_of hF) (snd_of hF (fun u => gws ad cI cZ u τ)) dX4_hearStop_17

theorem b01_ite {α : Type} {c : Prop} [Decidable c] {a b : Int32 × α} (h : a.1 = 0 ∨ a.1 = 1) (g : b.1 = 0 ∨ b.1 = 1) : (if c then a else b).1 = 0 ∨ (if c then a else b).1 = 1 := by
  by_cases q : c
  · rw [if_pos q]; exact h
  · rw [if_neg q]; exact g
theorem cn_ite {c : Prop} [Decidable c] {k : Nat} {a b : Int32 × St} (h : 0 ≤ (a.2.1 k).toInt) (g : 0 ≤ (b.2.1 k).toInt) : 0 ≤ ((if c then a else b).2.1 k).toInt := by
  by_cases q : c
  · rw [if_pos q]; exact h
  · rw [if_neg q]; exact g
theorem cn3_ite {c : Prop} [Decidable c] {i j k : Nat} {a b : Int32 × St} (h : 0 ≤ (a.2.1 i).toInt ∧ 0 ≤ (a.2.1 j).toInt ∧ 0 ≤ (a.2.1 k).toInt) (g : 0 ≤ (b.2.1 i).toInt ∧ 0 ≤ (b.2.1 j).toInt ∧ 0 ≤ (b.2.1 k).toInt) : 0 ≤ ((if c then a else b).2.1 i).toInt ∧ 0 ≤ ((if c then a else b).2.1 j).toInt ∧ 0 ≤ ((if c then a else b).2.1 k).toInt := by
  by_cases q : c
  · rw [if_pos q]; exact h
  · rw [if_neg q]; exact g
theorem inc_nn {v : Int32} {N : Int} (h : 0 ≤ v.toInt ∧ v.toInt < N) (hN : N ≤ 1000 := by decide) : 0 ≤ (v + 1).toInt := by
  rw [ti_of (oI_add (oI_at v) (oI_lit (x := 1) (a := 1) rfl)) (by omega)]
  omega
theorem nar01 {v : Int32} (h : v = 0 ∨ v = 1) : narrow .boolean (.int v) = .int v := by rcases h with h | h <;> rw [h] <;> rfl

def F_X4_tellWell_k21_6 (σ : St) (u2 : Int32 × St) (u5 : Int32 × St) : Int32 × St := (if u5.1 = 0 then ((0 : Int32), u5.2) else ((1 : Int32), (si (sa u5.2 15 (upd (u5.2.2.1 15) (u5.2.1 448).toNatClampNeg (if ((u5.2.2.1 24) 0) = (1 : Int32) then (1 : Int32) else (0 : Int32)))) 448 ((u5.2.1 448) + (1 : Int32)))))
def F_X4_tellWell_k14_3 (σ : St) (u2 : Int32 × St) : Int32 × St := (if u2.1 = 0 then ((0 : Int32), u2.2) else (F_X4_tellWell_k21_6 σ u2 (F_X4_hearStop u2.2)))
def F_X4_tellWell (σ : St) : Int32 × St := (if (6 : Int32) ≤ (σ.1 448) then ((0 : Int32), σ) else (F_X4_tellWell_k14_3 σ (F_X4_hear σ (0 : Int32) (0 : Int32) (1 : Int32))))
abbrev I_X4_tellWell : List Nat := [34, 35, 36, 37, 448]
abbrev A_X4_tellWell : List Nat := [15, 24]
theorem fr_F_X4_tellWell_k21_6 (σ : St) (u2 : Int32 × St) (u5 : Int32 × St) (hfr : Fr I_X4_tellWell A_X4_tellWell false σ (u5.2)) : Fr I_X4_tellWell A_X4_tellWell false σ (F_X4_tellWell_k21_6  σ u2 u5).2 := (fr_ite2 hfr (Fr.si (by decide) (Fr.sa (by decide) hfr)))
theorem fr_F_X4_tellWell_k14_3 (σ : St) (u2 : Int32 × St) (hfr : Fr I_X4_tellWell A_X4_tellWell false σ (u2.2)) : Fr I_X4_tellWell A_X4_tellWell false σ (F_X4_tellWell_k14_3  σ u2).2 := (fr_ite2 hfr (fr_F_X4_tellWell_k21_6 σ u2 (F_X4_hearStop u2.2) (Fr.tr hfr (Fr.mono (by decide) (by decide) (by decide) (fr_F_X4_hearStop u2.2)))))
theorem fr_F_X4_tellWell (σ : St) : Fr I_X4_tellWell A_X4_tellWell false σ (F_X4_tellWell σ).2 := (fr_ite2 Fr.rf (fr_F_X4_tellWell_k14_3 σ (F_X4_hear σ (0 : Int32) (0 : Int32) (1 : Int32)) (Fr.tr Fr.rf (Fr.mono (by decide) (by decide) (by decide) (fr_F_X4_hear σ (0 : Int32) (0 : Int32) (1 : Int32))))))
set_option maxHeartbeats 4000000 in
set_option maxRecDepth 20000 in
theorem c_X4_tellWell (l : Launch) (D : va_G) (cI cZ : ClassId) (z : Nat) (ad : Nat → Nat) (σ τ : St) (hp : 0 ≤ (σ.1 448).toInt) : gM l yX4_tellWell cX4_tellWell 2 (some .boolean) 4 D cI cZ z (gws ad cI cZ σ τ) [.ref (ad 14), .ref (ad 1)] (some (.int (F_X4_tellWell σ).1)) (gws ad cI cZ (F_X4_tellWell σ).2 τ) := by
  refine g_met (own := RX4) (by decide) rfl (Nat.le_of_ble_eq_true rfl) (fun p e s m below meth c ls Q E hr hlk h hl hQ => ?_)
  have hx := E.1
  have hb := E.2.1
  have hF : (F_X4_tellWell σ) = (F_X4_tellWell σ) := rfl
  have hl : lv_has ls 2 [(0, .ref (ad 14)), (1, .ref (ad 1))] := hl
  refine lv_aload_n hx hb dX4_tellWell_0 rfl (lv_at hl 0 rfl) ?_
  refine g_get (v := .int (σ.1 448)) E h 14 rfl rfl layX4 0 (by decide) rfl mw_66 rfl dX4_tellWell_1 ?_
  refine lv_bipush (v := 6) hx hb dX4_tellWell_4 (by decide) ?_
  refine lv_icmp_ge (tgt := 27) hx hb dX4_tellWell_6 (by decide) (fun c1 => ?_) (fun c1 => ?_)
  · have ic1 : 6 ≤ (σ.1 448).toInt := i_le c1
    have hF := (if_pos c1).symm.trans hF
    refine lv_iconst (v := 0) hx hb dX4_tellWell_27 (by decide) ?_
    exact g_zret E hr hlk h hQ (rfl) (fst_of hF) (snd_of hF (fun u => gws ad cI cZ u τ)) dX4_tellWell_28
  · have ic1 : (σ.1 448).toInt < 6 := i_nle c1
    have hF := (if_neg c1).symm.trans hF
    refine lv_aload_n hx hb dX4_tellWell_9 rfl (lv_at hl 0 rfl) ?_
    refine lv_aload_n hx hb dX4_tellWell_10 rfl (lv_at hl 1 rfl) ?_
    refine lv_iconst (v := 0) hx hb dX4_tellWell_11 (by decide) ?_
    refine lv_iconst (v := 0) hx hb dX4_tellWell_12 (by decide) ?_
    refine lv_iconst (v := 1) hx hb dX4_tellWell_13 (by decide) ?_
    refine g_callVU (F_X4_hear σ (0 : Int32) (0 : Int32) (1 : Int32)) (fun u => gws ad cI cZ u τ) (rest := []) E h (c_X4_hear l D cI cZ z ad σ τ (0 : Int32) (0 : Int32) (1 : Int32)) mw_316 cbX4_hear 14 rfl rfl ⟨by decide, by decide⟩ rfl rfl hl.1 (Nat.le_of_ble_eq_true rfl) ⟨Nat.zero_le _, Nat.zero_le _⟩ dX4_tellWell_14 (fun u2 huu2 H locs h => ?_)
    have hF : F_X4_tellWell_k14_3 σ u2 = (F_X4_tellWell σ) := by rw [← huu2]; exact hF
    have k448_u2 : (u2.2.1 448).toInt = (σ.1 448).toInt := by rw [← huu2]; exact congrArg Int32.toInt ((fr_F_X4_hear σ (0 : Int32) (0 : Int32) (1 : Int32)).1 448 (by decide))
    have k449_u2 : (u2.2.1 449).toInt = (σ.1 449).toInt := by rw [← huu2]; exact congrArg Int32.toInt ((fr_F_X4_hear σ (0 : Int32) (0 : Int32) (1 : Int32)).1 449 (by decide))
    have k450_u2 : (u2.2.1 450).toInt = (σ.1 450).toInt := by rw [← huu2]; exact congrArg Int32.toInt ((fr_F_X4_hear σ (0 : Int32) (0 : Int32) (1 : Int32)).1 450 (by decide))
    refine lv_if_eq (tgt := 27) hx hb dX4_tellWell_17 (by decide) (fun c4 => ?_) (fun c4 => ?_)
    · have ic4 : u2.1.toInt = 0 := i_eq c4
      have hF := (if_pos c4).symm.trans hF
      refine lv_iconst (v := 0) hx hb dX4_tellWell_27 (by decide) ?_
      exact g_zret E hr hlk h hQ (rfl) (fst_of hF) (snd_of hF (fun u => gws ad cI cZ u τ)) dX4_tellWell_28
    · have ic4 : u2.1.toInt ≠ 0 := i_ne c4
      have hF := (if_neg c4).symm.trans hF
      refine lv_aload_n hx hb dX4_tellWell_20 rfl (lv_at hl 1 rfl) ?_
      refine g_callSU (F_X4_hearStop u2.2) (fun u => gws ad cI cZ u τ) (rest := []) E h (c_X4_hearStop l D cI cZ z ad u2.2 τ) mw_320 cbX4_hearStop ⟨by decide, by decide⟩ rfl rfl hl.1 (Nat.le_of_ble_eq_true rfl) ⟨Nat.zero_le _, Nat.zero_le _⟩ dX4_tellWell_21 (fun u5 huu5 H locs h => ?_)
      have hF : F_X4_tellWell_k21_6 σ u2 u5 = (F_X4_tellWell σ) := by rw [← huu5]; exact hF
      have k448_u5 : (u5.2.1 448).toInt = (u2.2.1 448).toInt := by rw [← huu5]; exact congrArg Int32.toInt ((fr_F_X4_hearStop u2.2).1 448 (by decide))
      have k449_u5 : (u5.2.1 449).toInt = (u2.2.1 449).toInt := by rw [← huu5]; exact congrArg Int32.toInt ((fr_F_X4_hearStop u2.2).1 449 (by decide))
      have k450_u5 : (u5.2.1 450).toInt = (u2.2.1 450).toInt := by rw [← huu5]; exact congrArg Int32.toInt ((fr_F_X4_hearStop u2.2).1 450 (by decide))
      refine lv_if_ne (tgt := 29) hx hb dX4_tellWell_24 (by decide) (fun c7 => ?_) (fun c7 => ?_)
      · have ic7 : u5.1.toInt ≠ 0 := i_ne c7
        have hF := (if_neg c7).symm.trans hF
        refine lv_aload_n hx hb dX4_tellWell_29 rfl (lv_at hl 0 rfl) ?_
        refine g_get (v := .ref (ad 15)) E h 14 rfl rfl layX4 3 (by decide) rfl mw_74 rfl dX4_tellWell_30 ?_
        refine lv_aload_n hx hb dX4_tellWell_33 rfl (lv_at hl 0 rfl) ?_
        refine g_get (v := .int (u5.2.1 448)) E h 14 rfl rfl layX4 0 (by decide) rfl mw_66 rfl dX4_tellWell_34 ?_
        refine lv_aload_n hx hb dX4_tellWell_37 rfl (lv_at hl 0 rfl) ?_
        refine g_get (v := .ref (ad 24)) E h 14 rfl rfl layX4 11 (by decide) rfl mw_83 rfl dX4_tellWell_38 ?_
        refine lv_iconst (v := 0) hx hb dX4_tellWell_41 (by decide) ?_
        refine g_ialdk (f := (u5.2.2.1 24)) E h 24 rfl 0 rfl (ix_of (oI_lit (x := 0) (a := 0) rfl) (by omega) (by decide)) dX4_tellWell_42 ?_
        refine lv_iconst (v := 1) hx hb dX4_tellWell_43 (by decide) ?_
        refine g_dia (D := D) (z := z) (ws := gws ad cI cZ u5.2 τ) (rest := [.int (u5.2.1 448), .ref (ad 15)]) 52 (if ((u5.2.2.1 24) 0) = (1 : Int32) then (1 : Int32) else (0 : Int32)) (fun H locs h => ?_) (fun K9 => ?_)
        · refine g_zast (f := (u5.2.2.1 15)) (ws' := gws ad cI cZ (sa u5.2 15 (upd (u5.2.2.1 15) (u5.2.1 448).toNatClampNeg (if ((u5.2.2.1 24) 0) = (1 : Int32) then (1 : Int32) else (0 : Int32)))) τ) E h 15 rfl (ix_of (oI_at (u5.2.1 448)) (by omega) (by decide)) (nar_ite _) (ga_15 ad cI cZ u5.2 τ (upd (u5.2.2.1 15) (u5.2.1 448).toNatClampNeg (if ((u5.2.2.1 24) 0) = (1 : Int32) then (1 : Int32) else (0 : Int32)))) dX4_tellWell_52 (fun H locs h => ?_)
          refine lv_aload_n hx hb dX4_tellWell_53 rfl (lv_at hl 0 rfl) ?_
          refine lv_dup hx hb dX4_tellWell_54 rfl ?_
          refine g_get (v := .int (u5.2.1 448)) E h 14 rfl rfl layX4 0 (by decide) rfl mw_66 rfl dX4_tellWell_55 ?_
          refine lv_iconst (v := 1) hx hb dX4_tellWell_58 (by decide) ?_
          refine lv_iadd hx hb dX4_tellWell_59 ?_
          refine g_put (v := .int ((u5.2.1 448) + (1 : Int32))) (ty := .int) (ws' := gws ad cI cZ (si (sa u5.2 15 (upd (u5.2.2.1 15) (u5.2.1 448).toNatClampNeg (if ((u5.2.2.1 24) 0) = (1 : Int32) then (1 : Int32) else (0 : Int32)))) 448 ((u5.2.1 448) + (1 : Int32))) τ) E h 14 rfl rfl layX4 tyX4 tyX4_ok nmX4 0 (by decide) rfl mw_66 rfl rfl rfl rfl (Nat.le_of_ble_eq_true rfl) (gi_448 ad cI cZ (sa u5.2 15 (upd (u5.2.2.1 15) (u5.2.1 448).toNatClampNeg (if ((u5.2.2.1 24) 0) = (1 : Int32) then (1 : Int32) else (0 : Int32)))) τ ((u5.2.1 448) + (1 : Int32))) dX4_tellWell_60 (fun H locs h => ?_)
          refine lv_iconst (v := 1) hx hb dX4_tellWell_63 (by decide) ?_
          exact g_zret E hr hlk h hQ (rfl) (fst_of hF) (snd_of hF (fun u => gws ad cI cZ u τ)) dX4_tellWell_64
        · refine lv_icmp_ne (tgt := 51) hx hb dX4_tellWell_44 (by decide) (fun c10 => ?_) (fun c10 => ?_)
          · have ic10 : ((u5.2.2.1 24) 0).toInt ≠ 1 := i_ne c10
            refine lv_iconst (v := 0) hx hb dX4_tellWell_51 (by decide) ?_
            exact K9 _ _ _ ((if_neg c10).symm) h
          · have ic10 : ((u5.2.2.1 24) 0).toInt = 1 := i_eq c10
            refine lv_iconst (v := 1) hx hb dX4_tellWell_47 (by decide) ?_
            refine lv_goto (tgt := 52) hx hb dX4_tellWell_48 (by decide) ?_
            exact K9 _ _ _ ((if_pos c10).symm) h
      · have ic7 : u5.1.toInt = 0 := i_eq c7
        have hF := (if_pos c7).symm.trans hF
        refine lv_iconst (v := 0) hx hb dX4_tellWell_27 (by decide) ?_
        exact g_zret E hr hlk h hQ (rfl) (fst_of hF) (snd_of hF (fun u => gws ad cI cZ u τ)) dX4_tellWell_28

theorem b01_F_X4_tellWell_k21_6 (σ : St) (u2 : Int32 × St) (u5 : Int32 × St) : (F_X4_tellWell_k21_6 σ u2 u5).1 = 0 ∨ (F_X4_tellWell_k21_6 σ u2 u5).1 = 1 := (b01_ite (Or.inl rfl) (Or.inr rfl))
theorem b01_F_X4_tellWell_k14_3 (σ : St) (u2 : Int32 × St) : (F_X4_tellWell_k14_3 σ u2).1 = 0 ∨ (F_X4_tellWell_k14_3 σ u2).1 = 1 := (b01_ite (Or.inl rfl) (b01_F_X4_tellWell_k21_6 σ u2 (F_X4_hearStop u2.2)))
theorem b01_F_X4_tellWell (σ : St) : (F_X4_tellWell σ).1 = 0 ∨ (F_X4_tellWell σ).1 = 1 := (b01_ite (Or.inl rfl) (b01_F_X4_tellWell_k14_3 σ (F_X4_hear σ (0 : Int32) (0 : Int32) (1 : Int32))))

def F_X4_tellStage_k100_19 (σ : St) (u2 : Int32 × St) (u5 : Int32 × St) (u9 : Int32 × St) (u12 : Int32 × St) (u15 : Int32 × St) (u18 : Int32 × St) : Int32 × St := (if u18.1 = 0 then ((0 : Int32), u18.2) else ((1 : Int32), (si (sa (sa (sa (sa (sa u18.2 16 (upd (u18.2.2.1 16) (u18.2.1 449).toNatClampNeg ((u18.2.2.1 24) 0))) 17 (upd (u18.2.2.1 17) (u18.2.1 449).toNatClampNeg ((u18.2.2.1 24) 1))) 18 (upd (u18.2.2.1 18) (u18.2.1 449).toNatClampNeg ((u18.2.2.1 24) 2))) 19 (upd (u18.2.2.1 19) (u18.2.1 449).toNatClampNeg (if ((u18.2.2.1 24) 3) = (1 : Int32) then (1 : Int32) else (0 : Int32)))) 20 (upd (u18.2.2.1 20) (u18.2.1 449).toNatClampNeg ((u18.2.2.1 24) 4))) 449 ((u18.2.1 449) + (1 : Int32)))))
def F_X4_tellStage_k93_16 (σ : St) (u2 : Int32 × St) (u5 : Int32 × St) (u9 : Int32 × St) (u12 : Int32 × St) (u15 : Int32 × St) : Int32 × St := (if u15.1 = 0 then ((0 : Int32), u15.2) else (F_X4_tellStage_k100_19 σ u2 u5 u9 u12 u15 (F_X4_hearStop u15.2)))
def F_X4_tellStage_k75_13 (σ : St) (u2 : Int32 × St) (u5 : Int32 × St) (u9 : Int32 × St) (u12 : Int32 × St) : Int32 × St := (if u12.1 = 0 then ((0 : Int32), u12.2) else (F_X4_tellStage_k93_16 σ u2 u5 u9 u12 (F_X4_hear u12.2 (4 : Int32) (0 : Int32) ((u12.2.1 448) - (1 : Int32)))))
def F_X4_tellStage_k64_10 (σ : St) (u2 : Int32 × St) (u5 : Int32 × St) (u9 : Int32 × St) : Int32 × St := (if u9.1 = 0 then ((0 : Int32), u9.2) else (F_X4_tellStage_k75_13 σ u2 u5 u9 (F_X4_hear u9.2 (3 : Int32) (0 : Int32) (1 : Int32))))
def F_X4_tellStage_k35_6 (σ : St) (u2 : Int32 × St) (u5 : Int32 × St) : Int32 × St := (if u5.1 = 0 then ((0 : Int32), u5.2) else (if ((u5.2.2.1 24) 0) = ((u5.2.2.1 24) 1) then ((0 : Int32), u5.2) else (F_X4_tellStage_k64_10 σ u2 u5 (F_X4_hear u5.2 (2 : Int32) (1 : Int32) (9 : Int32)))))
def F_X4_tellStage_k19_3 (σ : St) (u2 : Int32 × St) : Int32 × St := (if u2.1 = 0 then ((0 : Int32), u2.2) else (F_X4_tellStage_k35_6 σ u2 (F_X4_hear u2.2 (1 : Int32) (0 : Int32) ((u2.2.1 448) - (1 : Int32)))))
def F_X4_tellStage (σ : St) : Int32 × St := (if (8 : Int32) ≤ (σ.1 449) then ((0 : Int32), σ) else (F_X4_tellStage_k19_3 σ (F_X4_hear σ (0 : Int32) (0 : Int32) ((σ.1 448) - (1 : Int32)))))
abbrev I_X4_tellStage : List Nat := [34, 35, 36, 37, 449]
abbrev A_X4_tellStage : List Nat := [16, 17, 18, 19, 20, 24]
theorem fr_F_X4_tellStage_k100_19 (σ : St) (u2 : Int32 × St) (u5 : Int32 × St) (u9 : Int32 × St) (u12 : Int32 × St) (u15 : Int32 × St) (u18 : Int32 × St) (hfr : Fr I_X4_tellStage A_X4_tellStage false σ (u18.2)) : Fr I_X4_tellStage A_X4_tellStage false σ (F_X4_tellStage_k100_19  σ u2 u5 u9 u12 u15 u18).2 := (fr_ite2 hfr (Fr.si (by decide) (Fr.sa (by decide) (Fr.sa (by decide) (Fr.sa (by decide) (Fr.sa (by decide) (Fr.sa (by decide) hfr)))))))
theorem fr_F_X4_tellStage_k93_16 (σ : St) (u2 : Int32 × St) (u5 : Int32 × St) (u9 : Int32 × St) (u12 : Int32 × St) (u15 : Int32 × St) (hfr : Fr I_X4_tellStage A_X4_tellStage false σ (u15.2)) : Fr I_X4_tellStage A_X4_tellStage false σ (F_X4_tellStage_k93_16  σ u2 u5 u9 u12 u15).2 := (fr_ite2 hfr (fr_F_X4_tellStage_k100_19 σ u2 u5 u9 u12 u15 (F_X4_hearStop u15.2) (Fr.tr hfr (Fr.mono (by decide) (by decide) (by decide) (fr_F_X4_hearStop u15.2)))))
theorem fr_F_X4_tellStage_k75_13 (σ : St) (u2 : Int32 × St) (u5 : Int32 × St) (u9 : Int32 × St) (u12 : Int32 × St) (hfr : Fr I_X4_tellStage A_X4_tellStage false σ (u12.2)) : Fr I_X4_tellStage A_X4_tellStage false σ (F_X4_tellStage_k75_13  σ u2 u5 u9 u12).2 := (fr_ite2 hfr (fr_F_X4_tellStage_k93_16 σ u2 u5 u9 u12 (F_X4_hear u12.2 (4 : Int32) (0 : Int32) ((u12.2.1 448) - (1 : Int32))) (Fr.tr hfr (Fr.mono (by decide) (by decide) (by decide) (fr_F_X4_hear u12.2 (4 : Int32) (0 : Int32) ((u12.2.1 448) - (1 : Int32)))))))
theorem fr_F_X4_tellStage_k64_10 (σ : St) (u2 : Int32 × St) (u5 : Int32 × St) (u9 : Int32 × St) (hfr : Fr I_X4_tellStage A_X4_tellStage false σ (u9.2)) : Fr I_X4_tellStage A_X4_tellStage false σ (F_X4_tellStage_k64_10  σ u2 u5 u9).2 := (fr_ite2 hfr (fr_F_X4_tellStage_k75_13 σ u2 u5 u9 (F_X4_hear u9.2 (3 : Int32) (0 : Int32) (1 : Int32)) (Fr.tr hfr (Fr.mono (by decide) (by decide) (by decide) (fr_F_X4_hear u9.2 (3 : Int32) (0 : Int32) (1 : Int32))))))
theorem fr_F_X4_tellStage_k35_6 (σ : St) (u2 : Int32 × St) (u5 : Int32 × St) (hfr : Fr I_X4_tellStage A_X4_tellStage false σ (u5.2)) : Fr I_X4_tellStage A_X4_tellStage false σ (F_X4_tellStage_k35_6  σ u2 u5).2 := (fr_ite2 hfr (fr_ite2 hfr (fr_F_X4_tellStage_k64_10 σ u2 u5 (F_X4_hear u5.2 (2 : Int32) (1 : Int32) (9 : Int32)) (Fr.tr hfr (Fr.mono (by decide) (by decide) (by decide) (fr_F_X4_hear u5.2 (2 : Int32) (1 : Int32) (9 : Int32)))))))
theorem fr_F_X4_tellStage_k19_3 (σ : St) (u2 : Int32 × St) (hfr : Fr I_X4_tellStage A_X4_tellStage false σ (u2.2)) : Fr I_X4_tellStage A_X4_tellStage false σ (F_X4_tellStage_k19_3  σ u2).2 := (fr_ite2 hfr (fr_F_X4_tellStage_k35_6 σ u2 (F_X4_hear u2.2 (1 : Int32) (0 : Int32) ((u2.2.1 448) - (1 : Int32))) (Fr.tr hfr (Fr.mono (by decide) (by decide) (by decide) (fr_F_X4_hear u2.2 (1 : Int32) (0 : Int32) ((u2.2.1 448) - (1 : Int32)))))))
theorem fr_F_X4_tellStage (σ : St) : Fr I_X4_tellStage A_X4_tellStage false σ (F_X4_tellStage σ).2 := (fr_ite2 Fr.rf (fr_F_X4_tellStage_k19_3 σ (F_X4_hear σ (0 : Int32) (0 : Int32) ((σ.1 448) - (1 : Int32))) (Fr.tr Fr.rf (Fr.mono (by decide) (by decide) (by decide) (fr_F_X4_hear σ (0 : Int32) (0 : Int32) ((σ.1 448) - (1 : Int32)))))))
set_option maxHeartbeats 4000000 in
set_option maxRecDepth 20000 in
theorem c_X4_tellStage (l : Launch) (D : va_G) (cI cZ : ClassId) (z : Nat) (ad : Nat → Nat) (σ τ : St) (hp : 0 ≤ (σ.1 449).toInt) : gM l yX4_tellStage cX4_tellStage 2 (some .boolean) 4 D cI cZ z (gws ad cI cZ σ τ) [.ref (ad 14), .ref (ad 1)] (some (.int (F_X4_tellStage σ).1)) (gws ad cI cZ (F_X4_tellStage σ).2 τ) := by
  refine g_met (own := RX4) (by decide) rfl (Nat.le_of_ble_eq_true rfl) (fun p e s m below meth c ls Q E hr hlk h hl hQ => ?_)
  have hx := E.1
  have hb := E.2.1
  have hF : (F_X4_tellStage σ) = (F_X4_tellStage σ) := rfl
  have hl : lv_has ls 2 [(0, .ref (ad 14)), (1, .ref (ad 1))] := hl
  refine lv_aload_n hx hb dX4_tellStage_0 rfl (lv_at hl 0 rfl) ?_
  refine g_get (v := .int (σ.1 449)) E h 14 rfl rfl layX4 1 (by decide) rfl mw_70 rfl dX4_tellStage_1 ?_
  refine lv_bipush (v := 8) hx hb dX4_tellStage_4 (by decide) ?_
  refine lv_icmp_ge (tgt := 41) hx hb dX4_tellStage_6 (by decide) (fun c1 => ?_) (fun c1 => ?_)
  · have ic1 : 8 ≤ (σ.1 449).toInt := i_le c1
    have hF := (if_pos c1).symm.trans hF
    refine lv_iconst (v := 0) hx hb dX4_tellStage_41 (by decide) ?_
    exact g_zret E hr hlk h hQ (rfl) (fst_of hF) (snd_of hF (fun u => gws ad cI cZ u τ)) dX4_tellStage_42
  · have ic1 : (σ.1 449).toInt < 8 := i_nle c1
    have hF := (if_neg c1).symm.trans hF
    refine lv_aload_n hx hb dX4_tellStage_9 rfl (lv_at hl 0 rfl) ?_
    refine lv_aload_n hx hb dX4_tellStage_10 rfl (lv_at hl 1 rfl) ?_
    refine lv_iconst (v := 0) hx hb dX4_tellStage_11 (by decide) ?_
    refine lv_iconst (v := 0) hx hb dX4_tellStage_12 (by decide) ?_
    refine lv_aload_n hx hb dX4_tellStage_13 rfl (lv_at hl 0 rfl) ?_
    refine g_get (v := .int (σ.1 448)) E h 14 rfl rfl layX4 0 (by decide) rfl mw_66 rfl dX4_tellStage_14 ?_
    refine lv_iconst (v := 1) hx hb dX4_tellStage_17 (by decide) ?_
    refine lv_isub hx hb dX4_tellStage_18 ?_
    refine g_callVU (F_X4_hear σ (0 : Int32) (0 : Int32) ((σ.1 448) - (1 : Int32))) (fun u => gws ad cI cZ u τ) (rest := []) E h (c_X4_hear l D cI cZ z ad σ τ (0 : Int32) (0 : Int32) ((σ.1 448) - (1 : Int32))) mw_316 cbX4_hear 14 rfl rfl ⟨by decide, by decide⟩ rfl rfl hl.1 (Nat.le_of_ble_eq_true rfl) ⟨Nat.zero_le _, Nat.zero_le _⟩ dX4_tellStage_19 (fun u2 huu2 H locs h => ?_)
    have hF : F_X4_tellStage_k19_3 σ u2 = (F_X4_tellStage σ) := by rw [← huu2]; exact hF
    have k448_u2 : (u2.2.1 448).toInt = (σ.1 448).toInt := by rw [← huu2]; exact congrArg Int32.toInt ((fr_F_X4_hear σ (0 : Int32) (0 : Int32) ((σ.1 448) - (1 : Int32))).1 448 (by decide))
    have k449_u2 : (u2.2.1 449).toInt = (σ.1 449).toInt := by rw [← huu2]; exact congrArg Int32.toInt ((fr_F_X4_hear σ (0 : Int32) (0 : Int32) ((σ.1 448) - (1 : Int32))).1 449 (by decide))
    have k450_u2 : (u2.2.1 450).toInt = (σ.1 450).toInt := by rw [← huu2]; exact congrArg Int32.toInt ((fr_F_X4_hear σ (0 : Int32) (0 : Int32) ((σ.1 448) - (1 : Int32))).1 450 (by decide))
    refine lv_if_eq (tgt := 41) hx hb dX4_tellStage_22 (by decide) (fun c4 => ?_) (fun c4 => ?_)
    · have ic4 : u2.1.toInt = 0 := i_eq c4
      have hF := (if_pos c4).symm.trans hF
      refine lv_iconst (v := 0) hx hb dX4_tellStage_41 (by decide) ?_
      exact g_zret E hr hlk h hQ (rfl) (fst_of hF) (snd_of hF (fun u => gws ad cI cZ u τ)) dX4_tellStage_42
    · have ic4 : u2.1.toInt ≠ 0 := i_ne c4
      have hF := (if_neg c4).symm.trans hF
      refine lv_aload_n hx hb dX4_tellStage_25 rfl (lv_at hl 0 rfl) ?_
      refine lv_aload_n hx hb dX4_tellStage_26 rfl (lv_at hl 1 rfl) ?_
      refine lv_iconst (v := 1) hx hb dX4_tellStage_27 (by decide) ?_
      refine lv_iconst (v := 0) hx hb dX4_tellStage_28 (by decide) ?_
      refine lv_aload_n hx hb dX4_tellStage_29 rfl (lv_at hl 0 rfl) ?_
      refine g_get (v := .int (u2.2.1 448)) E h 14 rfl rfl layX4 0 (by decide) rfl mw_66 rfl dX4_tellStage_30 ?_
      refine lv_iconst (v := 1) hx hb dX4_tellStage_33 (by decide) ?_
      refine lv_isub hx hb dX4_tellStage_34 ?_
      refine g_callVU (F_X4_hear u2.2 (1 : Int32) (0 : Int32) ((u2.2.1 448) - (1 : Int32))) (fun u => gws ad cI cZ u τ) (rest := []) E h (c_X4_hear l D cI cZ z ad u2.2 τ (1 : Int32) (0 : Int32) ((u2.2.1 448) - (1 : Int32))) mw_316 cbX4_hear 14 rfl rfl ⟨by decide, by decide⟩ rfl rfl hl.1 (Nat.le_of_ble_eq_true rfl) ⟨Nat.zero_le _, Nat.zero_le _⟩ dX4_tellStage_35 (fun u5 huu5 H locs h => ?_)
      have hF : F_X4_tellStage_k35_6 σ u2 u5 = (F_X4_tellStage σ) := by rw [← huu5]; exact hF
      have k448_u5 : (u5.2.1 448).toInt = (u2.2.1 448).toInt := by rw [← huu5]; exact congrArg Int32.toInt ((fr_F_X4_hear u2.2 (1 : Int32) (0 : Int32) ((u2.2.1 448) - (1 : Int32))).1 448 (by decide))
      have k449_u5 : (u5.2.1 449).toInt = (u2.2.1 449).toInt := by rw [← huu5]; exact congrArg Int32.toInt ((fr_F_X4_hear u2.2 (1 : Int32) (0 : Int32) ((u2.2.1 448) - (1 : Int32))).1 449 (by decide))
      have k450_u5 : (u5.2.1 450).toInt = (u2.2.1 450).toInt := by rw [← huu5]; exact congrArg Int32.toInt ((fr_F_X4_hear u2.2 (1 : Int32) (0 : Int32) ((u2.2.1 448) - (1 : Int32))).1 450 (by decide))
      refine lv_if_ne (tgt := 43) hx hb dX4_tellStage_38 (by decide) (fun c7 => ?_) (fun c7 => ?_)
      · have ic7 : u5.1.toInt ≠ 0 := i_ne c7
        have hF := (if_neg c7).symm.trans hF
        refine lv_aload_n hx hb dX4_tellStage_43 rfl (lv_at hl 0 rfl) ?_
        refine g_get (v := .ref (ad 24)) E h 14 rfl rfl layX4 11 (by decide) rfl mw_83 rfl dX4_tellStage_44 ?_
        refine lv_iconst (v := 0) hx hb dX4_tellStage_47 (by decide) ?_
        refine g_ialdk (f := (u5.2.2.1 24)) E h 24 rfl 0 rfl (ix_of (oI_lit (x := 0) (a := 0) rfl) (by omega) (by decide)) dX4_tellStage_48 ?_
        refine lv_aload_n hx hb dX4_tellStage_49 rfl (lv_at hl 0 rfl) ?_
        refine g_get (v := .ref (ad 24)) E h 14 rfl rfl layX4 11 (by decide) rfl mw_83 rfl dX4_tellStage_50 ?_
        refine lv_iconst (v := 1) hx hb dX4_tellStage_53 (by decide) ?_
        refine g_ialdk (f := (u5.2.2.1 24)) E h 24 rfl 1 rfl (ix_of (oI_lit (x := 1) (a := 1) rfl) (by omega) (by decide)) dX4_tellStage_54 ?_
        refine lv_icmp_eq (tgt := 81) hx hb dX4_tellStage_55 (by decide) (fun c8 => ?_) (fun c8 => ?_)
        · have ic8 : ((u5.2.2.1 24) 0).toInt = ((u5.2.2.1 24) 1).toInt := i_eq c8
          have hF := (if_pos c8).symm.trans hF
          refine lv_iconst (v := 0) hx hb dX4_tellStage_81 (by decide) ?_
          exact g_zret E hr hlk h hQ (rfl) (fst_of hF) (snd_of hF (fun u => gws ad cI cZ u τ)) dX4_tellStage_82
        · have ic8 : ((u5.2.2.1 24) 0).toInt ≠ ((u5.2.2.1 24) 1).toInt := i_ne c8
          have hF := (if_neg c8).symm.trans hF
          refine lv_aload_n hx hb dX4_tellStage_58 rfl (lv_at hl 0 rfl) ?_
          refine lv_aload_n hx hb dX4_tellStage_59 rfl (lv_at hl 1 rfl) ?_
          refine lv_iconst (v := 2) hx hb dX4_tellStage_60 (by decide) ?_
          refine lv_iconst (v := 1) hx hb dX4_tellStage_61 (by decide) ?_
          refine lv_bipush (v := 9) hx hb dX4_tellStage_62 (by decide) ?_
          refine g_callVU (F_X4_hear u5.2 (2 : Int32) (1 : Int32) (9 : Int32)) (fun u => gws ad cI cZ u τ) (rest := []) E h (c_X4_hear l D cI cZ z ad u5.2 τ (2 : Int32) (1 : Int32) (9 : Int32)) mw_316 cbX4_hear 14 rfl rfl ⟨by decide, by decide⟩ rfl rfl hl.1 (Nat.le_of_ble_eq_true rfl) ⟨Nat.zero_le _, Nat.zero_le _⟩ dX4_tellStage_64 (fun u9 huu9 H locs h => ?_)
          have hF : F_X4_tellStage_k64_10 σ u2 u5 u9 = (F_X4_tellStage σ) := by rw [← huu9]; exact hF
          have k448_u9 : (u9.2.1 448).toInt = (u5.2.1 448).toInt := by rw [← huu9]; exact congrArg Int32.toInt ((fr_F_X4_hear u5.2 (2 : Int32) (1 : Int32) (9 : Int32)).1 448 (by decide))
          have k449_u9 : (u9.2.1 449).toInt = (u5.2.1 449).toInt := by rw [← huu9]; exact congrArg Int32.toInt ((fr_F_X4_hear u5.2 (2 : Int32) (1 : Int32) (9 : Int32)).1 449 (by decide))
          have k450_u9 : (u9.2.1 450).toInt = (u5.2.1 450).toInt := by rw [← huu9]; exact congrArg Int32.toInt ((fr_F_X4_hear u5.2 (2 : Int32) (1 : Int32) (9 : Int32)).1 450 (by decide))
          refine lv_if_eq (tgt := 81) hx hb dX4_tellStage_67 (by decide) (fun c11 => ?_) (fun c11 => ?_)
          · have ic11 : u9.1.toInt = 0 := i_eq c11
            have hF := (if_pos c11).symm.trans hF
            refine lv_iconst (v := 0) hx hb dX4_tellStage_81 (by decide) ?_
            exact g_zret E hr hlk h hQ (rfl) (fst_of hF) (snd_of hF (fun u => gws ad cI cZ u τ)) dX4_tellStage_82
          · have ic11 : u9.1.toInt ≠ 0 := i_ne c11
            have hF := (if_neg c11).symm.trans hF
            refine lv_aload_n hx hb dX4_tellStage_70 rfl (lv_at hl 0 rfl) ?_
            refine lv_aload_n hx hb dX4_tellStage_71 rfl (lv_at hl 1 rfl) ?_
            refine lv_iconst (v := 3) hx hb dX4_tellStage_72 (by decide) ?_
            refine lv_iconst (v := 0) hx hb dX4_tellStage_73 (by decide) ?_
            refine lv_iconst (v := 1) hx hb dX4_tellStage_74 (by decide) ?_
            refine g_callVU (F_X4_hear u9.2 (3 : Int32) (0 : Int32) (1 : Int32)) (fun u => gws ad cI cZ u τ) (rest := []) E h (c_X4_hear l D cI cZ z ad u9.2 τ (3 : Int32) (0 : Int32) (1 : Int32)) mw_316 cbX4_hear 14 rfl rfl ⟨by decide, by decide⟩ rfl rfl hl.1 (Nat.le_of_ble_eq_true rfl) ⟨Nat.zero_le _, Nat.zero_le _⟩ dX4_tellStage_75 (fun u12 huu12 H locs h => ?_)
            have hF : F_X4_tellStage_k75_13 σ u2 u5 u9 u12 = (F_X4_tellStage σ) := by rw [← huu12]; exact hF
            have k448_u12 : (u12.2.1 448).toInt = (u9.2.1 448).toInt := by rw [← huu12]; exact congrArg Int32.toInt ((fr_F_X4_hear u9.2 (3 : Int32) (0 : Int32) (1 : Int32)).1 448 (by decide))
            have k449_u12 : (u12.2.1 449).toInt = (u9.2.1 449).toInt := by rw [← huu12]; exact congrArg Int32.toInt ((fr_F_X4_hear u9.2 (3 : Int32) (0 : Int32) (1 : Int32)).1 449 (by decide))
            have k450_u12 : (u12.2.1 450).toInt = (u9.2.1 450).toInt := by rw [← huu12]; exact congrArg Int32.toInt ((fr_F_X4_hear u9.2 (3 : Int32) (0 : Int32) (1 : Int32)).1 450 (by decide))
            refine lv_if_ne (tgt := 83) hx hb dX4_tellStage_78 (by decide) (fun c14 => ?_) (fun c14 => ?_)
            · have ic14 : u12.1.toInt ≠ 0 := i_ne c14
              have hF := (if_neg c14).symm.trans hF
              refine lv_aload_n hx hb dX4_tellStage_83 rfl (lv_at hl 0 rfl) ?_
              refine lv_aload_n hx hb dX4_tellStage_84 rfl (lv_at hl 1 rfl) ?_
              refine lv_iconst (v := 4) hx hb dX4_tellStage_85 (by decide) ?_
              refine lv_iconst (v := 0) hx hb dX4_tellStage_86 (by decide) ?_
              refine lv_aload_n hx hb dX4_tellStage_87 rfl (lv_at hl 0 rfl) ?_
              refine g_get (v := .int (u12.2.1 448)) E h 14 rfl rfl layX4 0 (by decide) rfl mw_66 rfl dX4_tellStage_88 ?_
              refine lv_iconst (v := 1) hx hb dX4_tellStage_91 (by decide) ?_
              refine lv_isub hx hb dX4_tellStage_92 ?_
              refine g_callVU (F_X4_hear u12.2 (4 : Int32) (0 : Int32) ((u12.2.1 448) - (1 : Int32))) (fun u => gws ad cI cZ u τ) (rest := []) E h (c_X4_hear l D cI cZ z ad u12.2 τ (4 : Int32) (0 : Int32) ((u12.2.1 448) - (1 : Int32))) mw_316 cbX4_hear 14 rfl rfl ⟨by decide, by decide⟩ rfl rfl hl.1 (Nat.le_of_ble_eq_true rfl) ⟨Nat.zero_le _, Nat.zero_le _⟩ dX4_tellStage_93 (fun u15 huu15 H locs h => ?_)
              have hF : F_X4_tellStage_k93_16 σ u2 u5 u9 u12 u15 = (F_X4_tellStage σ) := by rw [← huu15]; exact hF
              have k448_u15 : (u15.2.1 448).toInt = (u12.2.1 448).toInt := by rw [← huu15]; exact congrArg Int32.toInt ((fr_F_X4_hear u12.2 (4 : Int32) (0 : Int32) ((u12.2.1 448) - (1 : Int32))).1 448 (by decide))
              have k449_u15 : (u15.2.1 449).toInt = (u12.2.1 449).toInt := by rw [← huu15]; exact congrArg Int32.toInt ((fr_F_X4_hear u12.2 (4 : Int32) (0 : Int32) ((u12.2.1 448) - (1 : Int32))).1 449 (by decide))
              have k450_u15 : (u15.2.1 450).toInt = (u12.2.1 450).toInt := by rw [← huu15]; exact congrArg Int32.toInt ((fr_F_X4_hear u12.2 (4 : Int32) (0 : Int32) ((u12.2.1 448) - (1 : Int32))).1 450 (by decide))
              refine lv_if_eq (tgt := 106) hx hb dX4_tellStage_96 (by decide) (fun c17 => ?_) (fun c17 => ?_)
              · have ic17 : u15.1.toInt = 0 := i_eq c17
                have hF := (if_pos c17).symm.trans hF
                refine lv_iconst (v := 0) hx hb dX4_tellStage_106 (by decide) ?_
                exact g_zret E hr hlk h hQ (rfl) (fst_of hF) (snd_of hF (fun u => gws ad cI cZ u τ)) dX4_tellStage_107
              · have ic17 : u15.1.toInt ≠ 0 := i_ne c17
                have hF := (if_neg c17).symm.trans hF
                refine lv_aload_n hx hb dX4_tellStage_99 rfl (lv_at hl 1 rfl) ?_
                refine g_callSU (F_X4_hearStop u15.2) (fun u => gws ad cI cZ u τ) (rest := []) E h (c_X4_hearStop l D cI cZ z ad u15.2 τ) mw_320 cbX4_hearStop ⟨by decide, by decide⟩ rfl rfl hl.1 (Nat.le_of_ble_eq_true rfl) ⟨Nat.zero_le _, Nat.zero_le _⟩ dX4_tellStage_100 (fun u18 huu18 H locs h => ?_)
                have hF : F_X4_tellStage_k100_19 σ u2 u5 u9 u12 u15 u18 = (F_X4_tellStage σ) := by rw [← huu18]; exact hF
                have k448_u18 : (u18.2.1 448).toInt = (u15.2.1 448).toInt := by rw [← huu18]; exact congrArg Int32.toInt ((fr_F_X4_hearStop u15.2).1 448 (by decide))
                have k449_u18 : (u18.2.1 449).toInt = (u15.2.1 449).toInt := by rw [← huu18]; exact congrArg Int32.toInt ((fr_F_X4_hearStop u15.2).1 449 (by decide))
                have k450_u18 : (u18.2.1 450).toInt = (u15.2.1 450).toInt := by rw [← huu18]; exact congrArg Int32.toInt ((fr_F_X4_hearStop u15.2).1 450 (by decide))
                refine lv_if_ne (tgt := 108) hx hb dX4_tellStage_103 (by decide) (fun c20 => ?_) (fun c20 => ?_)
                · have ic20 : u18.1.toInt ≠ 0 := i_ne c20
                  have hF := (if_neg c20).symm.trans hF
                  refine lv_aload_n hx hb dX4_tellStage_108 rfl (lv_at hl 0 rfl) ?_
                  refine g_get (v := .ref (ad 16)) E h 14 rfl rfl layX4 4 (by decide) rfl mw_75 rfl dX4_tellStage_109 ?_
                  refine lv_aload_n hx hb dX4_tellStage_112 rfl (lv_at hl 0 rfl) ?_
                  refine g_get (v := .int (u18.2.1 449)) E h 14 rfl rfl layX4 1 (by decide) rfl mw_70 rfl dX4_tellStage_113 ?_
                  refine lv_aload_n hx hb dX4_tellStage_116 rfl (lv_at hl 0 rfl) ?_
                  refine g_get (v := .ref (ad 24)) E h 14 rfl rfl layX4 11 (by decide) rfl mw_83 rfl dX4_tellStage_117 ?_
                  refine lv_iconst (v := 0) hx hb dX4_tellStage_120 (by decide) ?_
                  refine g_ialdk (f := (u18.2.2.1 24)) E h 24 rfl 0 rfl (ix_of (oI_lit (x := 0) (a := 0) rfl) (by omega) (by decide)) dX4_tellStage_121 ?_
                  refine g_iast (f := (u18.2.2.1 16)) (ws' := gws ad cI cZ (sa u18.2 16 (upd (u18.2.2.1 16) (u18.2.1 449).toNatClampNeg ((u18.2.2.1 24) 0))) τ) E h 16 rfl (ix_of (oI_at (u18.2.1 449)) (by omega) (by decide)) (ga_16 ad cI cZ u18.2 τ (upd (u18.2.2.1 16) (u18.2.1 449).toNatClampNeg ((u18.2.2.1 24) 0))) dX4_tellStage_122 (fun H locs h => ?_)
                  refine lv_aload_n hx hb dX4_tellStage_123 rfl (lv_at hl 0 rfl) ?_
                  refine g_get (v := .ref (ad 17)) E h 14 rfl rfl layX4 5 (by decide) rfl mw_76 rfl dX4_tellStage_124 ?_
                  refine lv_aload_n hx hb dX4_tellStage_127 rfl (lv_at hl 0 rfl) ?_
                  refine g_get (v := .int (u18.2.1 449)) E h 14 rfl rfl layX4 1 (by decide) rfl mw_70 rfl dX4_tellStage_128 ?_
                  refine lv_aload_n hx hb dX4_tellStage_131 rfl (lv_at hl 0 rfl) ?_
                  refine g_get (v := .ref (ad 24)) E h 14 rfl rfl layX4 11 (by decide) rfl mw_83 rfl dX4_tellStage_132 ?_
                  refine lv_iconst (v := 1) hx hb dX4_tellStage_135 (by decide) ?_
                  refine g_ialdk (f := (u18.2.2.1 24)) E h 24 rfl 1 rfl (ix_of (oI_lit (x := 1) (a := 1) rfl) (by omega) (by decide)) dX4_tellStage_136 ?_
                  refine g_iast (f := (u18.2.2.1 17)) (ws' := gws ad cI cZ (sa (sa u18.2 16 (upd (u18.2.2.1 16) (u18.2.1 449).toNatClampNeg ((u18.2.2.1 24) 0))) 17 (upd (u18.2.2.1 17) (u18.2.1 449).toNatClampNeg ((u18.2.2.1 24) 1))) τ) E h 17 rfl (ix_of (oI_at (u18.2.1 449)) (by omega) (by decide)) (ga_17 ad cI cZ (sa u18.2 16 (upd (u18.2.2.1 16) (u18.2.1 449).toNatClampNeg ((u18.2.2.1 24) 0))) τ (upd (u18.2.2.1 17) (u18.2.1 449).toNatClampNeg ((u18.2.2.1 24) 1))) dX4_tellStage_137 (fun H locs h => ?_)
                  refine lv_aload_n hx hb dX4_tellStage_138 rfl (lv_at hl 0 rfl) ?_
                  refine g_get (v := .ref (ad 18)) E h 14 rfl rfl layX4 6 (by decide) rfl mw_77 rfl dX4_tellStage_139 ?_
                  refine lv_aload_n hx hb dX4_tellStage_142 rfl (lv_at hl 0 rfl) ?_
                  refine g_get (v := .int (u18.2.1 449)) E h 14 rfl rfl layX4 1 (by decide) rfl mw_70 rfl dX4_tellStage_143 ?_
                  refine lv_aload_n hx hb dX4_tellStage_146 rfl (lv_at hl 0 rfl) ?_
                  refine g_get (v := .ref (ad 24)) E h 14 rfl rfl layX4 11 (by decide) rfl mw_83 rfl dX4_tellStage_147 ?_
                  refine lv_iconst (v := 2) hx hb dX4_tellStage_150 (by decide) ?_
                  refine g_ialdk (f := (u18.2.2.1 24)) E h 24 rfl 2 rfl (ix_of (oI_lit (x := 2) (a := 2) rfl) (by omega) (by decide)) dX4_tellStage_151 ?_
                  refine g_iast (f := (u18.2.2.1 18)) (ws' := gws ad cI cZ (sa (sa (sa u18.2 16 (upd (u18.2.2.1 16) (u18.2.1 449).toNatClampNeg ((u18.2.2.1 24) 0))) 17 (upd (u18.2.2.1 17) (u18.2.1 449).toNatClampNeg ((u18.2.2.1 24) 1))) 18 (upd (u18.2.2.1 18) (u18.2.1 449).toNatClampNeg ((u18.2.2.1 24) 2))) τ) E h 18 rfl (ix_of (oI_at (u18.2.1 449)) (by omega) (by decide)) (ga_18 ad cI cZ (sa (sa u18.2 16 (upd (u18.2.2.1 16) (u18.2.1 449).toNatClampNeg ((u18.2.2.1 24) 0))) 17 (upd (u18.2.2.1 17) (u18.2.1 449).toNatClampNeg ((u18.2.2.1 24) 1))) τ (upd (u18.2.2.1 18) (u18.2.1 449).toNatClampNeg ((u18.2.2.1 24) 2))) dX4_tellStage_152 (fun H locs h => ?_)
                  refine lv_aload_n hx hb dX4_tellStage_153 rfl (lv_at hl 0 rfl) ?_
                  refine g_get (v := .ref (ad 19)) E h 14 rfl rfl layX4 7 (by decide) rfl mw_78 rfl dX4_tellStage_154 ?_
                  refine lv_aload_n hx hb dX4_tellStage_157 rfl (lv_at hl 0 rfl) ?_
                  refine g_get (v := .int (u18.2.1 449)) E h 14 rfl rfl layX4 1 (by decide) rfl mw_70 rfl dX4_tellStage_158 ?_
                  refine lv_aload_n hx hb dX4_tellStage_161 rfl (lv_at hl 0 rfl) ?_
                  refine g_get (v := .ref (ad 24)) E h 14 rfl rfl layX4 11 (by decide) rfl mw_83 rfl dX4_tellStage_162 ?_
                  refine lv_iconst (v := 3) hx hb dX4_tellStage_165 (by decide) ?_
                  refine g_ialdk (f := (u18.2.2.1 24)) E h 24 rfl 3 rfl (ix_of (oI_lit (x := 3) (a := 3) rfl) (by omega) (by decide)) dX4_tellStage_166 ?_
                  refine lv_iconst (v := 1) hx hb dX4_tellStage_167 (by decide) ?_
                  refine g_dia (D := D) (z := z) (ws := gws ad cI cZ (sa (sa (sa u18.2 16 (upd (u18.2.2.1 16) (u18.2.1 449).toNatClampNeg ((u18.2.2.1 24) 0))) 17 (upd (u18.2.2.1 17) (u18.2.1 449).toNatClampNeg ((u18.2.2.1 24) 1))) 18 (upd (u18.2.2.1 18) (u18.2.1 449).toNatClampNeg ((u18.2.2.1 24) 2))) τ) (rest := [.int (u18.2.1 449), .ref (ad 19)]) 176 (if ((u18.2.2.1 24) 3) = (1 : Int32) then (1 : Int32) else (0 : Int32)) (fun H locs h => ?_) (fun K22 => ?_)
                  · refine g_zast (f := (u18.2.2.1 19)) (ws' := gws ad cI cZ (sa (sa (sa (sa u18.2 16 (upd (u18.2.2.1 16) (u18.2.1 449).toNatClampNeg ((u18.2.2.1 24) 0))) 17 (upd (u18.2.2.1 17) (u18.2.1 449).toNatClampNeg ((u18.2.2.1 24) 1))) 18 (upd (u18.2.2.1 18) (u18.2.1 449).toNatClampNeg ((u18.2.2.1 24) 2))) 19 (upd (u18.2.2.1 19) (u18.2.1 449).toNatClampNeg (if ((u18.2.2.1 24) 3) = (1 : Int32) then (1 : Int32) else (0 : Int32)))) τ) E h 19 rfl (ix_of (oI_at (u18.2.1 449)) (by omega) (by decide)) (nar_ite _) (ga_19 ad cI cZ (sa (sa (sa u18.2 16 (upd (u18.2.2.1 16) (u18.2.1 449).toNatClampNeg ((u18.2.2.1 24) 0))) 17 (upd (u18.2.2.1 17) (u18.2.1 449).toNatClampNeg ((u18.2.2.1 24) 1))) 18 (upd (u18.2.2.1 18) (u18.2.1 449).toNatClampNeg ((u18.2.2.1 24) 2))) τ (upd (u18.2.2.1 19) (u18.2.1 449).toNatClampNeg (if ((u18.2.2.1 24) 3) = (1 : Int32) then (1 : Int32) else (0 : Int32)))) dX4_tellStage_176 (fun H locs h => ?_)
                    refine lv_aload_n hx hb dX4_tellStage_177 rfl (lv_at hl 0 rfl) ?_
                    refine g_get (v := .ref (ad 20)) E h 14 rfl rfl layX4 8 (by decide) rfl mw_79 rfl dX4_tellStage_178 ?_
                    refine lv_aload_n hx hb dX4_tellStage_181 rfl (lv_at hl 0 rfl) ?_
                    refine g_get (v := .int (u18.2.1 449)) E h 14 rfl rfl layX4 1 (by decide) rfl mw_70 rfl dX4_tellStage_182 ?_
                    refine lv_aload_n hx hb dX4_tellStage_185 rfl (lv_at hl 0 rfl) ?_
                    refine g_get (v := .ref (ad 24)) E h 14 rfl rfl layX4 11 (by decide) rfl mw_83 rfl dX4_tellStage_186 ?_
                    refine lv_iconst (v := 4) hx hb dX4_tellStage_189 (by decide) ?_
                    refine g_ialdk (f := (u18.2.2.1 24)) E h 24 rfl 4 rfl (ix_of (oI_lit (x := 4) (a := 4) rfl) (by omega) (by decide)) dX4_tellStage_190 ?_
                    refine g_iast (f := (u18.2.2.1 20)) (ws' := gws ad cI cZ (sa (sa (sa (sa (sa u18.2 16 (upd (u18.2.2.1 16) (u18.2.1 449).toNatClampNeg ((u18.2.2.1 24) 0))) 17 (upd (u18.2.2.1 17) (u18.2.1 449).toNatClampNeg ((u18.2.2.1 24) 1))) 18 (upd (u18.2.2.1 18) (u18.2.1 449).toNatClampNeg ((u18.2.2.1 24) 2))) 19 (upd (u18.2.2.1 19) (u18.2.1 449).toNatClampNeg (if ((u18.2.2.1 24) 3) = (1 : Int32) then (1 : Int32) else (0 : Int32)))) 20 (upd (u18.2.2.1 20) (u18.2.1 449).toNatClampNeg ((u18.2.2.1 24) 4))) τ) E h 20 rfl (ix_of (oI_at (u18.2.1 449)) (by omega) (by decide)) (ga_20 ad cI cZ (sa (sa (sa (sa u18.2 16 (upd (u18.2.2.1 16) (u18.2.1 449).toNatClampNeg ((u18.2.2.1 24) 0))) 17 (upd (u18.2.2.1 17) (u18.2.1 449).toNatClampNeg ((u18.2.2.1 24) 1))) 18 (upd (u18.2.2.1 18) (u18.2.1 449).toNatClampNeg ((u18.2.2.1 24) 2))) 19 (upd (u18.2.2.1 19) (u18.2.1 449).toNatClampNeg (if ((u18.2.2.1 24) 3) = (1 : Int32) then (1 : Int32) else (0 : Int32)))) τ (upd (u18.2.2.1 20) (u18.2.1 449).toNatClampNeg ((u18.2.2.1 24) 4))) dX4_tellStage_191 (fun H locs h => ?_)
                    refine lv_aload_n hx hb dX4_tellStage_192 rfl (lv_at hl 0 rfl) ?_
                    refine lv_dup hx hb dX4_tellStage_193 rfl ?_
                    refine g_get (v := .int (u18.2.1 449)) E h 14 rfl rfl layX4 1 (by decide) rfl mw_70 rfl dX4_tellStage_194 ?_
                    refine lv_iconst (v := 1) hx hb dX4_tellStage_197 (by decide) ?_
                    refine lv_iadd hx hb dX4_tellStage_198 ?_
                    refine g_put (v := .int ((u18.2.1 449) + (1 : Int32))) (ty := .int) (ws' := gws ad cI cZ (si (sa (sa (sa (sa (sa u18.2 16 (upd (u18.2.2.1 16) (u18.2.1 449).toNatClampNeg ((u18.2.2.1 24) 0))) 17 (upd (u18.2.2.1 17) (u18.2.1 449).toNatClampNeg ((u18.2.2.1 24) 1))) 18 (upd (u18.2.2.1 18) (u18.2.1 449).toNatClampNeg ((u18.2.2.1 24) 2))) 19 (upd (u18.2.2.1 19) (u18.2.1 449).toNatClampNeg (if ((u18.2.2.1 24) 3) = (1 : Int32) then (1 : Int32) else (0 : Int32)))) 20 (upd (u18.2.2.1 20) (u18.2.1 449).toNatClampNeg ((u18.2.2.1 24) 4))) 449 ((u18.2.1 449) + (1 : Int32))) τ) E h 14 rfl rfl layX4 tyX4 tyX4_ok nmX4 1 (by decide) rfl mw_70 rfl rfl rfl rfl (Nat.le_of_ble_eq_true rfl) (gi_449 ad cI cZ (sa (sa (sa (sa (sa u18.2 16 (upd (u18.2.2.1 16) (u18.2.1 449).toNatClampNeg ((u18.2.2.1 24) 0))) 17 (upd (u18.2.2.1 17) (u18.2.1 449).toNatClampNeg ((u18.2.2.1 24) 1))) 18 (upd (u18.2.2.1 18) (u18.2.1 449).toNatClampNeg ((u18.2.2.1 24) 2))) 19 (upd (u18.2.2.1 19) (u18.2.1 449).toNatClampNeg (if ((u18.2.2.1 24) 3) = (1 : Int32) then (1 : Int32) else (0 : Int32)))) 20 (upd (u18.2.2.1 20) (u18.2.1 449).toNatClampNeg ((u18.2.2.1 24) 4))) τ ((u18.2.1 449) + (1 : Int32))) dX4_tellStage_199 (fun H locs h => ?_)
                    refine lv_iconst (v := 1) hx hb dX4_tellStage_202 (by decide) ?_
                    exact g_zret E hr hlk h hQ (rfl) (fst_of hF) (snd_of hF (fun u => gws ad cI cZ u τ)) dX4_tellStage_203
                  · refine lv_icmp_ne (tgt := 175) hx hb dX4_tellStage_168 (by decide) (fun c23 => ?_) (fun c23 => ?_)
                    · have ic23 : ((u18.2.2.1 24) 3).toInt ≠ 1 := i_ne c23
                      refine lv_iconst (v := 0) hx hb dX4_tellStage_175 (by decide) ?_
                      exact K22 _ _ _ ((if_neg c23).symm) h
                    · have ic23 : ((u18.2.2.1 24) 3).toInt = 1 := i_eq c23
                      refine lv_iconst (v := 1) hx hb dX4_tellStage_171 (by decide) ?_
                      refine lv_goto (tgt := 176) hx hb dX4_tellStage_172 (by decide) ?_
                      exact K22 _ _ _ ((if_pos c23).symm) h
                · have ic20 : u18.1.toInt = 0 := i_eq c20
                  have hF := (if_pos c20).symm.trans hF
                  refine lv_iconst (v := 0) hx hb dX4_tellStage_106 (by decide) ?_
                  exact g_zret E hr hlk h hQ (rfl) (fst_of hF) (snd_of hF (fun u => gws ad cI cZ u τ)) dX4_tellStage_107
            · have ic14 : u12.1.toInt = 0 := i_eq c14
              have hF := (if_pos c14).symm.trans hF
              refine lv_iconst (v := 0) hx hb dX4_tellStage_81 (by decide) ?_
              exact g_zret E hr hlk h hQ (rfl) (fst_of hF) (snd_of hF (fun u => gws ad cI cZ u τ)) dX4_tellStage_82
      · have ic7 : u5.1.toInt = 0 := i_eq c7
        have hF := (if_pos c7).symm.trans hF
        refine lv_iconst (v := 0) hx hb dX4_tellStage_41 (by decide) ?_
        exact g_zret E hr hlk h hQ (rfl) (fst_of hF) (snd_of hF (fun u => gws ad cI cZ u τ)) dX4_tellStage_42

theorem b01_F_X4_tellStage_k100_19 (σ : St) (u2 : Int32 × St) (u5 : Int32 × St) (u9 : Int32 × St) (u12 : Int32 × St) (u15 : Int32 × St) (u18 : Int32 × St) : (F_X4_tellStage_k100_19 σ u2 u5 u9 u12 u15 u18).1 = 0 ∨ (F_X4_tellStage_k100_19 σ u2 u5 u9 u12 u15 u18).1 = 1 := (b01_ite (Or.inl rfl) (Or.inr rfl))
theorem b01_F_X4_tellStage_k93_16 (σ : St) (u2 : Int32 × St) (u5 : Int32 × St) (u9 : Int32 × St) (u12 : Int32 × St) (u15 : Int32 × St) : (F_X4_tellStage_k93_16 σ u2 u5 u9 u12 u15).1 = 0 ∨ (F_X4_tellStage_k93_16 σ u2 u5 u9 u12 u15).1 = 1 := (b01_ite (Or.inl rfl) (b01_F_X4_tellStage_k100_19 σ u2 u5 u9 u12 u15 (F_X4_hearStop u15.2)))
theorem b01_F_X4_tellStage_k75_13 (σ : St) (u2 : Int32 × St) (u5 : Int32 × St) (u9 : Int32 × St) (u12 : Int32 × St) : (F_X4_tellStage_k75_13 σ u2 u5 u9 u12).1 = 0 ∨ (F_X4_tellStage_k75_13 σ u2 u5 u9 u12).1 = 1 := (b01_ite (Or.inl rfl) (b01_F_X4_tellStage_k93_16 σ u2 u5 u9 u12 (F_X4_hear u12.2 (4 : Int32) (0 : Int32) ((u12.2.1 448) - (1 : Int32)))))
theorem b01_F_X4_tellStage_k64_10 (σ : St) (u2 : Int32 × St) (u5 : Int32 × St) (u9 : Int32 × St) : (F_X4_tellStage_k64_10 σ u2 u5 u9).1 = 0 ∨ (F_X4_tellStage_k64_10 σ u2 u5 u9).1 = 1 := (b01_ite (Or.inl rfl) (b01_F_X4_tellStage_k75_13 σ u2 u5 u9 (F_X4_hear u9.2 (3 : Int32) (0 : Int32) (1 : Int32))))
theorem b01_F_X4_tellStage_k35_6 (σ : St) (u2 : Int32 × St) (u5 : Int32 × St) : (F_X4_tellStage_k35_6 σ u2 u5).1 = 0 ∨ (F_X4_tellStage_k35_6 σ u2 u5).1 = 1 := (b01_ite (Or.inl rfl) (b01_ite (Or.inl rfl) (b01_F_X4_tellStage_k64_10 σ u2 u5 (F_X4_hear u5.2 (2 : Int32) (1 : Int32) (9 : Int32)))))
theorem b01_F_X4_tellStage_k19_3 (σ : St) (u2 : Int32 × St) : (F_X4_tellStage_k19_3 σ u2).1 = 0 ∨ (F_X4_tellStage_k19_3 σ u2).1 = 1 := (b01_ite (Or.inl rfl) (b01_F_X4_tellStage_k35_6 σ u2 (F_X4_hear u2.2 (1 : Int32) (0 : Int32) ((u2.2.1 448) - (1 : Int32)))))
theorem b01_F_X4_tellStage (σ : St) : (F_X4_tellStage σ).1 = 0 ∨ (F_X4_tellStage σ).1 = 1 := (b01_ite (Or.inl rfl) (b01_F_X4_tellStage_k19_3 σ (F_X4_hear σ (0 : Int32) (0 : Int32) ((σ.1 448) - (1 : Int32)))))

def F_X4_tellCaravan_k101_19 (σ : St) (u2 : Int32 × St) (u5 : Int32 × St) (u8 : Int32 × St) (u11 : Int32 × St) (u14 : St) (u16 : St) (u18 : St) : Int32 × St := ((1 : Int32), (si (sa u18 21 (upd (u18.2.1 21) (u18.1 450).toNatClampNeg ((u18.2.1 24) 2))) 450 ((u18.1 450) + (1 : Int32))))
def F_X4_tellCaravan_k90_17 (σ : St) (u2 : Int32 × St) (u5 : Int32 × St) (u8 : Int32 × St) (u11 : Int32 × St) (u14 : St) (u16 : St) : Int32 × St := (F_X4_tellCaravan_k101_19 σ u2 u5 u8 u11 u14 u16 (F_X2_wakeD u16 (u16.1 450)))
def F_X4_tellCaravan_k73_15 (σ : St) (u2 : Int32 × St) (u5 : Int32 × St) (u8 : Int32 × St) (u11 : Int32 × St) (u14 : St) : Int32 × St := (F_X4_tellCaravan_k90_17 σ u2 u5 u8 u11 u14 (F_X2_setCupsD u14 (u14.1 450) ((u14.2.1 24) 1)))
def F_X4_tellCaravan_k51_12 (σ : St) (u2 : Int32 × St) (u5 : Int32 × St) (u8 : Int32 × St) (u11 : Int32 × St) : Int32 × St := (if u11.1 = 0 then ((0 : Int32), u11.2) else (F_X4_tellCaravan_k73_15 σ u2 u5 u8 u11 (F_X2_setPlaceD u11.2 (u11.2.1 450) ((u11.2.2.1 24) 0))))
def F_X4_tellCaravan_k44_9 (σ : St) (u2 : Int32 × St) (u5 : Int32 × St) (u8 : Int32 × St) : Int32 × St := (if u8.1 = 0 then ((0 : Int32), u8.2) else (F_X4_tellCaravan_k51_12 σ u2 u5 u8 (F_X4_hearStop u8.2)))
def F_X4_tellCaravan_k32_6 (σ : St) (u2 : Int32 × St) (u5 : Int32 × St) : Int32 × St := (if u5.1 = 0 then ((0 : Int32), u5.2) else (F_X4_tellCaravan_k44_9 σ u2 u5 (F_X4_hear u5.2 (2 : Int32) (1 : Int32) (20 : Int32))))
def F_X4_tellCaravan_k18_3 (σ : St) (u2 : Int32 × St) : Int32 × St := (if u2.1 = 0 then ((0 : Int32), u2.2) else (F_X4_tellCaravan_k32_6 σ u2 (F_X4_hear u2.2 (1 : Int32) (0 : Int32) (20 : Int32))))
def F_X4_tellCaravan (σ : St) : Int32 × St := (if (4 : Int32) ≤ (σ.1 450) then ((0 : Int32), σ) else (F_X4_tellCaravan_k18_3 σ (F_X4_hear σ (0 : Int32) (0 : Int32) ((σ.1 448) - (1 : Int32)))))
abbrev I_X4_tellCaravan : List Nat := [34, 35, 36, 37, 450]
abbrev A_X4_tellCaravan : List Nat := [21, 23, 24]
theorem fr_F_X4_tellCaravan_k101_19 (σ : St) (u2 : Int32 × St) (u5 : Int32 × St) (u8 : Int32 × St) (u11 : Int32 × St) (u14 : St) (u16 : St) (u18 : St) (hfr : Fr I_X4_tellCaravan A_X4_tellCaravan false σ (u18)) : Fr I_X4_tellCaravan A_X4_tellCaravan false σ (F_X4_tellCaravan_k101_19  σ u2 u5 u8 u11 u14 u16 u18).2 := (Fr.si (by decide) (Fr.sa (by decide) hfr))
theorem fr_F_X4_tellCaravan_k90_17 (σ : St) (u2 : Int32 × St) (u5 : Int32 × St) (u8 : Int32 × St) (u11 : Int32 × St) (u14 : St) (u16 : St) (hfr : Fr I_X4_tellCaravan A_X4_tellCaravan false σ (u16)) : Fr I_X4_tellCaravan A_X4_tellCaravan false σ (F_X4_tellCaravan_k90_17  σ u2 u5 u8 u11 u14 u16).2 := (fr_F_X4_tellCaravan_k101_19 σ u2 u5 u8 u11 u14 u16 (F_X2_wakeD u16 (u16.1 450)) (Fr.tr hfr (Fr.mono (by decide) (by decide) (by decide) (fr_F_X2_wakeD u16 (u16.1 450)))))
theorem fr_F_X4_tellCaravan_k73_15 (σ : St) (u2 : Int32 × St) (u5 : Int32 × St) (u8 : Int32 × St) (u11 : Int32 × St) (u14 : St) (hfr : Fr I_X4_tellCaravan A_X4_tellCaravan false σ (u14)) : Fr I_X4_tellCaravan A_X4_tellCaravan false σ (F_X4_tellCaravan_k73_15  σ u2 u5 u8 u11 u14).2 := (fr_F_X4_tellCaravan_k90_17 σ u2 u5 u8 u11 u14 (F_X2_setCupsD u14 (u14.1 450) ((u14.2.1 24) 1)) (Fr.tr hfr (Fr.mono (by decide) (by decide) (by decide) (fr_F_X2_setCupsD u14 (u14.1 450) ((u14.2.1 24) 1)))))
theorem fr_F_X4_tellCaravan_k51_12 (σ : St) (u2 : Int32 × St) (u5 : Int32 × St) (u8 : Int32 × St) (u11 : Int32 × St) (hfr : Fr I_X4_tellCaravan A_X4_tellCaravan false σ (u11.2)) : Fr I_X4_tellCaravan A_X4_tellCaravan false σ (F_X4_tellCaravan_k51_12  σ u2 u5 u8 u11).2 := (fr_ite2 hfr (fr_F_X4_tellCaravan_k73_15 σ u2 u5 u8 u11 (F_X2_setPlaceD u11.2 (u11.2.1 450) ((u11.2.2.1 24) 0)) (Fr.tr hfr (Fr.mono (by decide) (by decide) (by decide) (fr_F_X2_setPlaceD u11.2 (u11.2.1 450) ((u11.2.2.1 24) 0))))))
theorem fr_F_X4_tellCaravan_k44_9 (σ : St) (u2 : Int32 × St) (u5 : Int32 × St) (u8 : Int32 × St) (hfr : Fr I_X4_tellCaravan A_X4_tellCaravan false σ (u8.2)) : Fr I_X4_tellCaravan A_X4_tellCaravan false σ (F_X4_tellCaravan_k44_9  σ u2 u5 u8).2 := (fr_ite2 hfr (fr_F_X4_tellCaravan_k51_12 σ u2 u5 u8 (F_X4_hearStop u8.2) (Fr.tr hfr (Fr.mono (by decide) (by decide) (by decide) (fr_F_X4_hearStop u8.2)))))
theorem fr_F_X4_tellCaravan_k32_6 (σ : St) (u2 : Int32 × St) (u5 : Int32 × St) (hfr : Fr I_X4_tellCaravan A_X4_tellCaravan false σ (u5.2)) : Fr I_X4_tellCaravan A_X4_tellCaravan false σ (F_X4_tellCaravan_k32_6  σ u2 u5).2 := (fr_ite2 hfr (fr_F_X4_tellCaravan_k44_9 σ u2 u5 (F_X4_hear u5.2 (2 : Int32) (1 : Int32) (20 : Int32)) (Fr.tr hfr (Fr.mono (by decide) (by decide) (by decide) (fr_F_X4_hear u5.2 (2 : Int32) (1 : Int32) (20 : Int32))))))
theorem fr_F_X4_tellCaravan_k18_3 (σ : St) (u2 : Int32 × St) (hfr : Fr I_X4_tellCaravan A_X4_tellCaravan false σ (u2.2)) : Fr I_X4_tellCaravan A_X4_tellCaravan false σ (F_X4_tellCaravan_k18_3  σ u2).2 := (fr_ite2 hfr (fr_F_X4_tellCaravan_k32_6 σ u2 (F_X4_hear u2.2 (1 : Int32) (0 : Int32) (20 : Int32)) (Fr.tr hfr (Fr.mono (by decide) (by decide) (by decide) (fr_F_X4_hear u2.2 (1 : Int32) (0 : Int32) (20 : Int32))))))
theorem fr_F_X4_tellCaravan (σ : St) : Fr I_X4_tellCaravan A_X4_tellCaravan false σ (F_X4_tellCaravan σ).2 := (fr_ite2 Fr.rf (fr_F_X4_tellCaravan_k18_3 σ (F_X4_hear σ (0 : Int32) (0 : Int32) ((σ.1 448) - (1 : Int32))) (Fr.tr Fr.rf (Fr.mono (by decide) (by decide) (by decide) (fr_F_X4_hear σ (0 : Int32) (0 : Int32) ((σ.1 448) - (1 : Int32)))))))
set_option maxHeartbeats 4000000 in
set_option maxRecDepth 20000 in
theorem c_X4_tellCaravan (l : Launch) (D : va_G) (cI cZ : ClassId) (z : Nat) (ad : Nat → Nat) (σ τ : St) (hp : 0 ≤ (σ.1 450).toInt) : gM l yX4_tellCaravan cX4_tellCaravan 2 (some .boolean) 4 D cI cZ z (gws ad cI cZ σ τ) [.ref (ad 14), .ref (ad 1)] (some (.int (F_X4_tellCaravan σ).1)) (gws ad cI cZ (F_X4_tellCaravan σ).2 τ) := by
  refine g_met (own := RX4) (by decide) rfl (Nat.le_of_ble_eq_true rfl) (fun p e s m below meth c ls Q E hr hlk h hl hQ => ?_)
  have hx := E.1
  have hb := E.2.1
  have hF : (F_X4_tellCaravan σ) = (F_X4_tellCaravan σ) := rfl
  have hl : lv_has ls 2 [(0, .ref (ad 14)), (1, .ref (ad 1))] := hl
  refine lv_aload_n hx hb dX4_tellCaravan_0 rfl (lv_at hl 0 rfl) ?_
  refine g_get (v := .int (σ.1 450)) E h 14 rfl rfl layX4 2 (by decide) rfl mw_72 rfl dX4_tellCaravan_1 ?_
  refine lv_iconst (v := 4) hx hb dX4_tellCaravan_4 (by decide) ?_
  refine lv_icmp_ge (tgt := 24) hx hb dX4_tellCaravan_5 (by decide) (fun c1 => ?_) (fun c1 => ?_)
  · have ic1 : 4 ≤ (σ.1 450).toInt := i_le c1
    have hF := (if_pos c1).symm.trans hF
    refine lv_iconst (v := 0) hx hb dX4_tellCaravan_24 (by decide) ?_
    exact g_zret E hr hlk h hQ (rfl) (fst_of hF) (snd_of hF (fun u => gws ad cI cZ u τ)) dX4_tellCaravan_25
  · have ic1 : (σ.1 450).toInt < 4 := i_nle c1
    have hF := (if_neg c1).symm.trans hF
    refine lv_aload_n hx hb dX4_tellCaravan_8 rfl (lv_at hl 0 rfl) ?_
    refine lv_aload_n hx hb dX4_tellCaravan_9 rfl (lv_at hl 1 rfl) ?_
    refine lv_iconst (v := 0) hx hb dX4_tellCaravan_10 (by decide) ?_
    refine lv_iconst (v := 0) hx hb dX4_tellCaravan_11 (by decide) ?_
    refine lv_aload_n hx hb dX4_tellCaravan_12 rfl (lv_at hl 0 rfl) ?_
    refine g_get (v := .int (σ.1 448)) E h 14 rfl rfl layX4 0 (by decide) rfl mw_66 rfl dX4_tellCaravan_13 ?_
    refine lv_iconst (v := 1) hx hb dX4_tellCaravan_16 (by decide) ?_
    refine lv_isub hx hb dX4_tellCaravan_17 ?_
    refine g_callVU (F_X4_hear σ (0 : Int32) (0 : Int32) ((σ.1 448) - (1 : Int32))) (fun u => gws ad cI cZ u τ) (rest := []) E h (c_X4_hear l D cI cZ z ad σ τ (0 : Int32) (0 : Int32) ((σ.1 448) - (1 : Int32))) mw_316 cbX4_hear 14 rfl rfl ⟨by decide, by decide⟩ rfl rfl hl.1 (Nat.le_of_ble_eq_true rfl) ⟨Nat.zero_le _, Nat.zero_le _⟩ dX4_tellCaravan_18 (fun u2 huu2 H locs h => ?_)
    have hF : F_X4_tellCaravan_k18_3 σ u2 = (F_X4_tellCaravan σ) := by rw [← huu2]; exact hF
    have k448_u2 : (u2.2.1 448).toInt = (σ.1 448).toInt := by rw [← huu2]; exact congrArg Int32.toInt ((fr_F_X4_hear σ (0 : Int32) (0 : Int32) ((σ.1 448) - (1 : Int32))).1 448 (by decide))
    have k449_u2 : (u2.2.1 449).toInt = (σ.1 449).toInt := by rw [← huu2]; exact congrArg Int32.toInt ((fr_F_X4_hear σ (0 : Int32) (0 : Int32) ((σ.1 448) - (1 : Int32))).1 449 (by decide))
    have k450_u2 : (u2.2.1 450).toInt = (σ.1 450).toInt := by rw [← huu2]; exact congrArg Int32.toInt ((fr_F_X4_hear σ (0 : Int32) (0 : Int32) ((σ.1 448) - (1 : Int32))).1 450 (by decide))
    refine lv_if_ne (tgt := 26) hx hb dX4_tellCaravan_21 (by decide) (fun c4 => ?_) (fun c4 => ?_)
    · have ic4 : u2.1.toInt ≠ 0 := i_ne c4
      have hF := (if_neg c4).symm.trans hF
      refine lv_aload_n hx hb dX4_tellCaravan_26 rfl (lv_at hl 0 rfl) ?_
      refine lv_aload_n hx hb dX4_tellCaravan_27 rfl (lv_at hl 1 rfl) ?_
      refine lv_iconst (v := 1) hx hb dX4_tellCaravan_28 (by decide) ?_
      refine lv_iconst (v := 0) hx hb dX4_tellCaravan_29 (by decide) ?_
      refine lv_bipush (v := 20) hx hb dX4_tellCaravan_30 (by decide) ?_
      refine g_callVU (F_X4_hear u2.2 (1 : Int32) (0 : Int32) (20 : Int32)) (fun u => gws ad cI cZ u τ) (rest := []) E h (c_X4_hear l D cI cZ z ad u2.2 τ (1 : Int32) (0 : Int32) (20 : Int32)) mw_316 cbX4_hear 14 rfl rfl ⟨by decide, by decide⟩ rfl rfl hl.1 (Nat.le_of_ble_eq_true rfl) ⟨Nat.zero_le _, Nat.zero_le _⟩ dX4_tellCaravan_32 (fun u5 huu5 H locs h => ?_)
      have hF : F_X4_tellCaravan_k32_6 σ u2 u5 = (F_X4_tellCaravan σ) := by rw [← huu5]; exact hF
      have k448_u5 : (u5.2.1 448).toInt = (u2.2.1 448).toInt := by rw [← huu5]; exact congrArg Int32.toInt ((fr_F_X4_hear u2.2 (1 : Int32) (0 : Int32) (20 : Int32)).1 448 (by decide))
      have k449_u5 : (u5.2.1 449).toInt = (u2.2.1 449).toInt := by rw [← huu5]; exact congrArg Int32.toInt ((fr_F_X4_hear u2.2 (1 : Int32) (0 : Int32) (20 : Int32)).1 449 (by decide))
      have k450_u5 : (u5.2.1 450).toInt = (u2.2.1 450).toInt := by rw [← huu5]; exact congrArg Int32.toInt ((fr_F_X4_hear u2.2 (1 : Int32) (0 : Int32) (20 : Int32)).1 450 (by decide))
      refine lv_if_eq (tgt := 57) hx hb dX4_tellCaravan_35 (by decide) (fun c7 => ?_) (fun c7 => ?_)
      · have ic7 : u5.1.toInt = 0 := i_eq c7
        have hF := (if_pos c7).symm.trans hF
        refine lv_iconst (v := 0) hx hb dX4_tellCaravan_57 (by decide) ?_
        exact g_zret E hr hlk h hQ (rfl) (fst_of hF) (snd_of hF (fun u => gws ad cI cZ u τ)) dX4_tellCaravan_58
      · have ic7 : u5.1.toInt ≠ 0 := i_ne c7
        have hF := (if_neg c7).symm.trans hF
        refine lv_aload_n hx hb dX4_tellCaravan_38 rfl (lv_at hl 0 rfl) ?_
        refine lv_aload_n hx hb dX4_tellCaravan_39 rfl (lv_at hl 1 rfl) ?_
        refine lv_iconst (v := 2) hx hb dX4_tellCaravan_40 (by decide) ?_
        refine lv_iconst (v := 1) hx hb dX4_tellCaravan_41 (by decide) ?_
        refine lv_bipush (v := 20) hx hb dX4_tellCaravan_42 (by decide) ?_
        refine g_callVU (F_X4_hear u5.2 (2 : Int32) (1 : Int32) (20 : Int32)) (fun u => gws ad cI cZ u τ) (rest := []) E h (c_X4_hear l D cI cZ z ad u5.2 τ (2 : Int32) (1 : Int32) (20 : Int32)) mw_316 cbX4_hear 14 rfl rfl ⟨by decide, by decide⟩ rfl rfl hl.1 (Nat.le_of_ble_eq_true rfl) ⟨Nat.zero_le _, Nat.zero_le _⟩ dX4_tellCaravan_44 (fun u8 huu8 H locs h => ?_)
        have hF : F_X4_tellCaravan_k44_9 σ u2 u5 u8 = (F_X4_tellCaravan σ) := by rw [← huu8]; exact hF
        have k448_u8 : (u8.2.1 448).toInt = (u5.2.1 448).toInt := by rw [← huu8]; exact congrArg Int32.toInt ((fr_F_X4_hear u5.2 (2 : Int32) (1 : Int32) (20 : Int32)).1 448 (by decide))
        have k449_u8 : (u8.2.1 449).toInt = (u5.2.1 449).toInt := by rw [← huu8]; exact congrArg Int32.toInt ((fr_F_X4_hear u5.2 (2 : Int32) (1 : Int32) (20 : Int32)).1 449 (by decide))
        have k450_u8 : (u8.2.1 450).toInt = (u5.2.1 450).toInt := by rw [← huu8]; exact congrArg Int32.toInt ((fr_F_X4_hear u5.2 (2 : Int32) (1 : Int32) (20 : Int32)).1 450 (by decide))
        refine lv_if_eq (tgt := 57) hx hb dX4_tellCaravan_47 (by decide) (fun c10 => ?_) (fun c10 => ?_)
        · have ic10 : u8.1.toInt = 0 := i_eq c10
          have hF := (if_pos c10).symm.trans hF
          refine lv_iconst (v := 0) hx hb dX4_tellCaravan_57 (by decide) ?_
          exact g_zret E hr hlk h hQ (rfl) (fst_of hF) (snd_of hF (fun u => gws ad cI cZ u τ)) dX4_tellCaravan_58
        · have ic10 : u8.1.toInt ≠ 0 := i_ne c10
          have hF := (if_neg c10).symm.trans hF
          refine lv_aload_n hx hb dX4_tellCaravan_50 rfl (lv_at hl 1 rfl) ?_
          refine g_callSU (F_X4_hearStop u8.2) (fun u => gws ad cI cZ u τ) (rest := []) E h (c_X4_hearStop l D cI cZ z ad u8.2 τ) mw_320 cbX4_hearStop ⟨by decide, by decide⟩ rfl rfl hl.1 (Nat.le_of_ble_eq_true rfl) ⟨Nat.zero_le _, Nat.zero_le _⟩ dX4_tellCaravan_51 (fun u11 huu11 H locs h => ?_)
          have hF : F_X4_tellCaravan_k51_12 σ u2 u5 u8 u11 = (F_X4_tellCaravan σ) := by rw [← huu11]; exact hF
          have k448_u11 : (u11.2.1 448).toInt = (u8.2.1 448).toInt := by rw [← huu11]; exact congrArg Int32.toInt ((fr_F_X4_hearStop u8.2).1 448 (by decide))
          have k449_u11 : (u11.2.1 449).toInt = (u8.2.1 449).toInt := by rw [← huu11]; exact congrArg Int32.toInt ((fr_F_X4_hearStop u8.2).1 449 (by decide))
          have k450_u11 : (u11.2.1 450).toInt = (u8.2.1 450).toInt := by rw [← huu11]; exact congrArg Int32.toInt ((fr_F_X4_hearStop u8.2).1 450 (by decide))
          refine lv_if_ne (tgt := 59) hx hb dX4_tellCaravan_54 (by decide) (fun c13 => ?_) (fun c13 => ?_)
          · have ic13 : u11.1.toInt ≠ 0 := i_ne c13
            have hF := (if_neg c13).symm.trans hF
            refine lv_aload_n hx hb dX4_tellCaravan_59 rfl (lv_at hl 0 rfl) ?_
            refine g_get (v := .ref (ad 22)) E h 14 rfl rfl layX4 10 (by decide) rfl mw_81 rfl dX4_tellCaravan_60 ?_
            refine lv_aload_n hx hb dX4_tellCaravan_63 rfl (lv_at hl 0 rfl) ?_
            refine g_get (v := .int (u11.2.1 450)) E h 14 rfl rfl layX4 2 (by decide) rfl mw_72 rfl dX4_tellCaravan_64 ?_
            refine lv_aload_n hx hb dX4_tellCaravan_67 rfl (lv_at hl 0 rfl) ?_
            refine g_get (v := .ref (ad 24)) E h 14 rfl rfl layX4 11 (by decide) rfl mw_83 rfl dX4_tellCaravan_68 ?_
            refine lv_iconst (v := 0) hx hb dX4_tellCaravan_71 (by decide) ?_
            refine g_ialdk (f := (u11.2.2.1 24)) E h 24 rfl 0 rfl (ix_of (oI_lit (x := 0) (a := 0) rfl) (by omega) (by decide)) dX4_tellCaravan_72 ?_
            refine g_callVUv (F_X2_setPlaceD u11.2 (u11.2.1 450) ((u11.2.2.1 24) 0)) (fun u => gws ad cI cZ u τ) (rest := []) E h (c_X2_setPlaceD l D cI cZ z ad u11.2 τ (u11.2.1 450) ((u11.2.2.1 24) 0)) mw_331 cbX2_setPlace 22 rfl rfl ⟨by decide, by decide⟩ rfl rfl hl.1 (Nat.le_of_ble_eq_true rfl) ⟨Nat.zero_le _, Nat.zero_le _⟩ dX4_tellCaravan_73 (fun u14 huu14 H locs h => ?_)
            have hF : F_X4_tellCaravan_k73_15 σ u2 u5 u8 u11 u14 = (F_X4_tellCaravan σ) := by rw [← huu14]; exact hF
            have k448_u14 : (u14.1 448).toInt = (u11.2.1 448).toInt := by rw [← huu14]; exact congrArg Int32.toInt ((fr_F_X2_setPlaceD u11.2 (u11.2.1 450) ((u11.2.2.1 24) 0)).1 448 (by decide))
            have k449_u14 : (u14.1 449).toInt = (u11.2.1 449).toInt := by rw [← huu14]; exact congrArg Int32.toInt ((fr_F_X2_setPlaceD u11.2 (u11.2.1 450) ((u11.2.2.1 24) 0)).1 449 (by decide))
            have k450_u14 : (u14.1 450).toInt = (u11.2.1 450).toInt := by rw [← huu14]; exact congrArg Int32.toInt ((fr_F_X2_setPlaceD u11.2 (u11.2.1 450) ((u11.2.2.1 24) 0)).1 450 (by decide))
            refine lv_aload_n hx hb dX4_tellCaravan_76 rfl (lv_at hl 0 rfl) ?_
            refine g_get (v := .ref (ad 22)) E h 14 rfl rfl layX4 10 (by decide) rfl mw_81 rfl dX4_tellCaravan_77 ?_
            refine lv_aload_n hx hb dX4_tellCaravan_80 rfl (lv_at hl 0 rfl) ?_
            refine g_get (v := .int (u14.1 450)) E h 14 rfl rfl layX4 2 (by decide) rfl mw_72 rfl dX4_tellCaravan_81 ?_
            refine lv_aload_n hx hb dX4_tellCaravan_84 rfl (lv_at hl 0 rfl) ?_
            refine g_get (v := .ref (ad 24)) E h 14 rfl rfl layX4 11 (by decide) rfl mw_83 rfl dX4_tellCaravan_85 ?_
            refine lv_iconst (v := 1) hx hb dX4_tellCaravan_88 (by decide) ?_
            refine g_ialdk (f := (u14.2.1 24)) E h 24 rfl 1 rfl (ix_of (oI_lit (x := 1) (a := 1) rfl) (by omega) (by decide)) dX4_tellCaravan_89 ?_
            refine g_callVUv (F_X2_setCupsD u14 (u14.1 450) ((u14.2.1 24) 1)) (fun u => gws ad cI cZ u τ) (rest := []) E h (c_X2_setCupsD l D cI cZ z ad u14 τ (u14.1 450) ((u14.2.1 24) 1)) mw_338 cbX2_setCups 22 rfl rfl ⟨by decide, by decide⟩ rfl rfl hl.1 (Nat.le_of_ble_eq_true rfl) ⟨Nat.zero_le _, Nat.zero_le _⟩ dX4_tellCaravan_90 (fun u16 huu16 H locs h => ?_)
            have hF : F_X4_tellCaravan_k90_17 σ u2 u5 u8 u11 u14 u16 = (F_X4_tellCaravan σ) := by rw [← huu16]; exact hF
            have k448_u16 : (u16.1 448).toInt = (u14.1 448).toInt := by rw [← huu16]; exact congrArg Int32.toInt ((fr_F_X2_setCupsD u14 (u14.1 450) ((u14.2.1 24) 1)).1 448 (by decide))
            have k449_u16 : (u16.1 449).toInt = (u14.1 449).toInt := by rw [← huu16]; exact congrArg Int32.toInt ((fr_F_X2_setCupsD u14 (u14.1 450) ((u14.2.1 24) 1)).1 449 (by decide))
            have k450_u16 : (u16.1 450).toInt = (u14.1 450).toInt := by rw [← huu16]; exact congrArg Int32.toInt ((fr_F_X2_setCupsD u14 (u14.1 450) ((u14.2.1 24) 1)).1 450 (by decide))
            refine lv_aload_n hx hb dX4_tellCaravan_93 rfl (lv_at hl 0 rfl) ?_
            refine g_get (v := .ref (ad 22)) E h 14 rfl rfl layX4 10 (by decide) rfl mw_81 rfl dX4_tellCaravan_94 ?_
            refine lv_aload_n hx hb dX4_tellCaravan_97 rfl (lv_at hl 0 rfl) ?_
            refine g_get (v := .int (u16.1 450)) E h 14 rfl rfl layX4 2 (by decide) rfl mw_72 rfl dX4_tellCaravan_98 ?_
            refine g_callVUv (F_X2_wakeD u16 (u16.1 450)) (fun u => gws ad cI cZ u τ) (rest := []) E h (c_X2_wakeD l D cI cZ z ad u16 τ (u16.1 450)) mw_342 cbX2_wake 22 rfl rfl ⟨by decide, by decide⟩ rfl rfl hl.1 (Nat.le_of_ble_eq_true rfl) ⟨Nat.zero_le _, Nat.zero_le _⟩ dX4_tellCaravan_101 (fun u18 huu18 H locs h => ?_)
            have hF : F_X4_tellCaravan_k101_19 σ u2 u5 u8 u11 u14 u16 u18 = (F_X4_tellCaravan σ) := by rw [← huu18]; exact hF
            have k448_u18 : (u18.1 448).toInt = (u16.1 448).toInt := by rw [← huu18]; exact congrArg Int32.toInt ((fr_F_X2_wakeD u16 (u16.1 450)).1 448 (by decide))
            have k449_u18 : (u18.1 449).toInt = (u16.1 449).toInt := by rw [← huu18]; exact congrArg Int32.toInt ((fr_F_X2_wakeD u16 (u16.1 450)).1 449 (by decide))
            have k450_u18 : (u18.1 450).toInt = (u16.1 450).toInt := by rw [← huu18]; exact congrArg Int32.toInt ((fr_F_X2_wakeD u16 (u16.1 450)).1 450 (by decide))
            refine lv_aload_n hx hb dX4_tellCaravan_104 rfl (lv_at hl 0 rfl) ?_
            refine g_get (v := .ref (ad 21)) E h 14 rfl rfl layX4 9 (by decide) rfl mw_80 rfl dX4_tellCaravan_105 ?_
            refine lv_aload_n hx hb dX4_tellCaravan_108 rfl (lv_at hl 0 rfl) ?_
            refine g_get (v := .int (u18.1 450)) E h 14 rfl rfl layX4 2 (by decide) rfl mw_72 rfl dX4_tellCaravan_109 ?_
            refine lv_aload_n hx hb dX4_tellCaravan_112 rfl (lv_at hl 0 rfl) ?_
            refine g_get (v := .ref (ad 24)) E h 14 rfl rfl layX4 11 (by decide) rfl mw_83 rfl dX4_tellCaravan_113 ?_
            refine lv_iconst (v := 2) hx hb dX4_tellCaravan_116 (by decide) ?_
            refine g_ialdk (f := (u18.2.1 24)) E h 24 rfl 2 rfl (ix_of (oI_lit (x := 2) (a := 2) rfl) (by omega) (by decide)) dX4_tellCaravan_117 ?_
            refine g_iast (f := (u18.2.1 21)) (ws' := gws ad cI cZ (sa u18 21 (upd (u18.2.1 21) (u18.1 450).toNatClampNeg ((u18.2.1 24) 2))) τ) E h 21 rfl (ix_of (oI_at (u18.1 450)) (by omega) (by decide)) (ga_21 ad cI cZ u18 τ (upd (u18.2.1 21) (u18.1 450).toNatClampNeg ((u18.2.1 24) 2))) dX4_tellCaravan_118 (fun H locs h => ?_)
            refine lv_aload_n hx hb dX4_tellCaravan_119 rfl (lv_at hl 0 rfl) ?_
            refine lv_dup hx hb dX4_tellCaravan_120 rfl ?_
            refine g_get (v := .int (u18.1 450)) E h 14 rfl rfl layX4 2 (by decide) rfl mw_72 rfl dX4_tellCaravan_121 ?_
            refine lv_iconst (v := 1) hx hb dX4_tellCaravan_124 (by decide) ?_
            refine lv_iadd hx hb dX4_tellCaravan_125 ?_
            refine g_put (v := .int ((u18.1 450) + (1 : Int32))) (ty := .int) (ws' := gws ad cI cZ (si (sa u18 21 (upd (u18.2.1 21) (u18.1 450).toNatClampNeg ((u18.2.1 24) 2))) 450 ((u18.1 450) + (1 : Int32))) τ) E h 14 rfl rfl layX4 tyX4 tyX4_ok nmX4 2 (by decide) rfl mw_72 rfl rfl rfl rfl (Nat.le_of_ble_eq_true rfl) (gi_450 ad cI cZ (sa u18 21 (upd (u18.2.1 21) (u18.1 450).toNatClampNeg ((u18.2.1 24) 2))) τ ((u18.1 450) + (1 : Int32))) dX4_tellCaravan_126 (fun H locs h => ?_)
            refine lv_iconst (v := 1) hx hb dX4_tellCaravan_129 (by decide) ?_
            exact g_zret E hr hlk h hQ (rfl) (fst_of hF) (snd_of hF (fun u => gws ad cI cZ u τ)) dX4_tellCaravan_130
          · have ic13 : u11.1.toInt = 0 := i_eq c13
            have hF := (if_pos c13).symm.trans hF
            refine lv_iconst (v := 0) hx hb dX4_tellCaravan_57 (by decide) ?_
            exact g_zret E hr hlk h hQ (rfl) (fst_of hF) (snd_of hF (fun u => gws ad cI cZ u τ)) dX4_tellCaravan_58
    · have ic4 : u2.1.toInt = 0 := i_eq c4
      have hF := (if_pos c4).symm.trans hF
      refine lv_iconst (v := 0) hx hb dX4_tellCaravan_24 (by decide) ?_
      exact g_zret E hr hlk h hQ (rfl) (fst_of hF) (snd_of hF (fun u => gws ad cI cZ u τ)) dX4_tellCaravan_25

theorem b01_F_X4_tellCaravan_k101_19 (σ : St) (u2 : Int32 × St) (u5 : Int32 × St) (u8 : Int32 × St) (u11 : Int32 × St) (u14 : St) (u16 : St) (u18 : St) : (F_X4_tellCaravan_k101_19 σ u2 u5 u8 u11 u14 u16 u18).1 = 0 ∨ (F_X4_tellCaravan_k101_19 σ u2 u5 u8 u11 u14 u16 u18).1 = 1 := (Or.inr rfl)
theorem b01_F_X4_tellCaravan_k90_17 (σ : St) (u2 : Int32 × St) (u5 : Int32 × St) (u8 : Int32 × St) (u11 : Int32 × St) (u14 : St) (u16 : St) : (F_X4_tellCaravan_k90_17 σ u2 u5 u8 u11 u14 u16).1 = 0 ∨ (F_X4_tellCaravan_k90_17 σ u2 u5 u8 u11 u14 u16).1 = 1 := (b01_F_X4_tellCaravan_k101_19 σ u2 u5 u8 u11 u14 u16 (F_X2_wakeD u16 (u16.1 450)))
theorem b01_F_X4_tellCaravan_k73_15 (σ : St) (u2 : Int32 × St) (u5 : Int32 × St) (u8 : Int32 × St) (u11 : Int32 × St) (u14 : St) : (F_X4_tellCaravan_k73_15 σ u2 u5 u8 u11 u14).1 = 0 ∨ (F_X4_tellCaravan_k73_15 σ u2 u5 u8 u11 u14).1 = 1 := (b01_F_X4_tellCaravan_k90_17 σ u2 u5 u8 u11 u14 (F_X2_setCupsD u14 (u14.1 450) ((u14.2.1 24) 1)))
theorem b01_F_X4_tellCaravan_k51_12 (σ : St) (u2 : Int32 × St) (u5 : Int32 × St) (u8 : Int32 × St) (u11 : Int32 × St) : (F_X4_tellCaravan_k51_12 σ u2 u5 u8 u11).1 = 0 ∨ (F_X4_tellCaravan_k51_12 σ u2 u5 u8 u11).1 = 1 := (b01_ite (Or.inl rfl) (b01_F_X4_tellCaravan_k73_15 σ u2 u5 u8 u11 (F_X2_setPlaceD u11.2 (u11.2.1 450) ((u11.2.2.1 24) 0))))
theorem b01_F_X4_tellCaravan_k44_9 (σ : St) (u2 : Int32 × St) (u5 : Int32 × St) (u8 : Int32 × St) : (F_X4_tellCaravan_k44_9 σ u2 u5 u8).1 = 0 ∨ (F_X4_tellCaravan_k44_9 σ u2 u5 u8).1 = 1 := (b01_ite (Or.inl rfl) (b01_F_X4_tellCaravan_k51_12 σ u2 u5 u8 (F_X4_hearStop u8.2)))
theorem b01_F_X4_tellCaravan_k32_6 (σ : St) (u2 : Int32 × St) (u5 : Int32 × St) : (F_X4_tellCaravan_k32_6 σ u2 u5).1 = 0 ∨ (F_X4_tellCaravan_k32_6 σ u2 u5).1 = 1 := (b01_ite (Or.inl rfl) (b01_F_X4_tellCaravan_k44_9 σ u2 u5 (F_X4_hear u5.2 (2 : Int32) (1 : Int32) (20 : Int32))))
theorem b01_F_X4_tellCaravan_k18_3 (σ : St) (u2 : Int32 × St) : (F_X4_tellCaravan_k18_3 σ u2).1 = 0 ∨ (F_X4_tellCaravan_k18_3 σ u2).1 = 1 := (b01_ite (Or.inl rfl) (b01_F_X4_tellCaravan_k32_6 σ u2 (F_X4_hear u2.2 (1 : Int32) (0 : Int32) (20 : Int32))))
theorem b01_F_X4_tellCaravan (σ : St) : (F_X4_tellCaravan σ).1 = 0 ∨ (F_X4_tellCaravan σ).1 = 1 := (b01_ite (Or.inl rfl) (b01_F_X4_tellCaravan_k18_3 σ (F_X4_hear σ (0 : Int32) (0 : Int32) ((σ.1 448) - (1 : Int32)))))

def F_X4_tellKnots_k77_14 (σ : St) (u1 : Int32 × St) (u4 : Int32 × St) (u7 : Int32 × St) (u10 : Int32 × St) (u13 : St) : Int32 × St := ((1 : Int32), u13)
def F_X4_tellKnots_k47_11 (σ : St) (u1 : Int32 × St) (u4 : Int32 × St) (u7 : Int32 × St) (u10 : Int32 × St) : Int32 × St := (if u10.1 = 0 then ((0 : Int32), u10.2) else (F_X4_tellKnots_k77_14 σ u1 u4 u7 u10 (F_X2_setKnotsD u10.2 ((u10.2.2.1 24) 0) ((u10.2.2.1 24) 1) ((u10.2.2.1 24) 2))))
def F_X4_tellKnots_k40_8 (σ : St) (u1 : Int32 × St) (u4 : Int32 × St) (u7 : Int32 × St) : Int32 × St := (if u7.1 = 0 then ((0 : Int32), u7.2) else (F_X4_tellKnots_k47_11 σ u1 u4 u7 (F_X4_hearStop u7.2)))
def F_X4_tellKnots_k26_5 (σ : St) (u1 : Int32 × St) (u4 : Int32 × St) : Int32 × St := (if u4.1 = 0 then ((0 : Int32), u4.2) else (F_X4_tellKnots_k40_8 σ u1 u4 (F_X4_hear u4.2 (2 : Int32) (0 : Int32) (60 : Int32))))
def F_X4_tellKnots_k10_2 (σ : St) (u1 : Int32 × St) : Int32 × St := (if u1.1 = 0 then ((0 : Int32), u1.2) else (F_X4_tellKnots_k26_5 σ u1 (F_X4_hear u1.2 (1 : Int32) (0 : Int32) ((u1.2.1 448) - (1 : Int32)))))
def F_X4_tellKnots (σ : St) : Int32 × St := (F_X4_tellKnots_k10_2 σ (F_X4_hear σ (0 : Int32) (0 : Int32) ((σ.1 450) - (1 : Int32))))
abbrev I_X4_tellKnots : List Nat := [34, 35, 36, 37]
abbrev A_X4_tellKnots : List Nat := [23, 24]
theorem fr_F_X4_tellKnots_k77_14 (σ : St) (u1 : Int32 × St) (u4 : Int32 × St) (u7 : Int32 × St) (u10 : Int32 × St) (u13 : St) (hfr : Fr I_X4_tellKnots A_X4_tellKnots false σ (u13)) : Fr I_X4_tellKnots A_X4_tellKnots false σ (F_X4_tellKnots_k77_14  σ u1 u4 u7 u10 u13).2 := hfr
theorem fr_F_X4_tellKnots_k47_11 (σ : St) (u1 : Int32 × St) (u4 : Int32 × St) (u7 : Int32 × St) (u10 : Int32 × St) (hfr : Fr I_X4_tellKnots A_X4_tellKnots false σ (u10.2)) : Fr I_X4_tellKnots A_X4_tellKnots false σ (F_X4_tellKnots_k47_11  σ u1 u4 u7 u10).2 := (fr_ite2 hfr (fr_F_X4_tellKnots_k77_14 σ u1 u4 u7 u10 (F_X2_setKnotsD u10.2 ((u10.2.2.1 24) 0) ((u10.2.2.1 24) 1) ((u10.2.2.1 24) 2)) (Fr.tr hfr (Fr.mono (by decide) (by decide) (by decide) (fr_F_X2_setKnotsD u10.2 ((u10.2.2.1 24) 0) ((u10.2.2.1 24) 1) ((u10.2.2.1 24) 2))))))
theorem fr_F_X4_tellKnots_k40_8 (σ : St) (u1 : Int32 × St) (u4 : Int32 × St) (u7 : Int32 × St) (hfr : Fr I_X4_tellKnots A_X4_tellKnots false σ (u7.2)) : Fr I_X4_tellKnots A_X4_tellKnots false σ (F_X4_tellKnots_k40_8  σ u1 u4 u7).2 := (fr_ite2 hfr (fr_F_X4_tellKnots_k47_11 σ u1 u4 u7 (F_X4_hearStop u7.2) (Fr.tr hfr (Fr.mono (by decide) (by decide) (by decide) (fr_F_X4_hearStop u7.2)))))
theorem fr_F_X4_tellKnots_k26_5 (σ : St) (u1 : Int32 × St) (u4 : Int32 × St) (hfr : Fr I_X4_tellKnots A_X4_tellKnots false σ (u4.2)) : Fr I_X4_tellKnots A_X4_tellKnots false σ (F_X4_tellKnots_k26_5  σ u1 u4).2 := (fr_ite2 hfr (fr_F_X4_tellKnots_k40_8 σ u1 u4 (F_X4_hear u4.2 (2 : Int32) (0 : Int32) (60 : Int32)) (Fr.tr hfr (Fr.mono (by decide) (by decide) (by decide) (fr_F_X4_hear u4.2 (2 : Int32) (0 : Int32) (60 : Int32))))))
theorem fr_F_X4_tellKnots_k10_2 (σ : St) (u1 : Int32 × St) (hfr : Fr I_X4_tellKnots A_X4_tellKnots false σ (u1.2)) : Fr I_X4_tellKnots A_X4_tellKnots false σ (F_X4_tellKnots_k10_2  σ u1).2 := (fr_ite2 hfr (fr_F_X4_tellKnots_k26_5 σ u1 (F_X4_hear u1.2 (1 : Int32) (0 : Int32) ((u1.2.1 448) - (1 : Int32))) (Fr.tr hfr (Fr.mono (by decide) (by decide) (by decide) (fr_F_X4_hear u1.2 (1 : Int32) (0 : Int32) ((u1.2.1 448) - (1 : Int32)))))))
theorem fr_F_X4_tellKnots (σ : St) : Fr I_X4_tellKnots A_X4_tellKnots false σ (F_X4_tellKnots σ).2 := (fr_F_X4_tellKnots_k10_2 σ (F_X4_hear σ (0 : Int32) (0 : Int32) ((σ.1 450) - (1 : Int32))) (Fr.tr Fr.rf (Fr.mono (by decide) (by decide) (by decide) (fr_F_X4_hear σ (0 : Int32) (0 : Int32) ((σ.1 450) - (1 : Int32))))))
set_option maxHeartbeats 4000000 in
set_option maxRecDepth 20000 in
theorem c_X4_tellKnots (l : Launch) (D : va_G) (cI cZ : ClassId) (z : Nat) (ad : Nat → Nat) (σ τ : St) : gM l yX4_tellKnots cX4_tellKnots 2 (some .boolean) 4 D cI cZ z (gws ad cI cZ σ τ) [.ref (ad 14), .ref (ad 1)] (some (.int (F_X4_tellKnots σ).1)) (gws ad cI cZ (F_X4_tellKnots σ).2 τ) := by
  refine g_met (own := RX4) (by decide) rfl (Nat.le_of_ble_eq_true rfl) (fun p e s m below meth c ls Q E hr hlk h hl hQ => ?_)
  have hx := E.1
  have hb := E.2.1
  have hF : (F_X4_tellKnots σ) = (F_X4_tellKnots σ) := rfl
  have hl : lv_has ls 2 [(0, .ref (ad 14)), (1, .ref (ad 1))] := hl
  refine lv_aload_n hx hb dX4_tellKnots_0 rfl (lv_at hl 0 rfl) ?_
  refine lv_aload_n hx hb dX4_tellKnots_1 rfl (lv_at hl 1 rfl) ?_
  refine lv_iconst (v := 0) hx hb dX4_tellKnots_2 (by decide) ?_
  refine lv_iconst (v := 0) hx hb dX4_tellKnots_3 (by decide) ?_
  refine lv_aload_n hx hb dX4_tellKnots_4 rfl (lv_at hl 0 rfl) ?_
  refine g_get (v := .int (σ.1 450)) E h 14 rfl rfl layX4 2 (by decide) rfl mw_72 rfl dX4_tellKnots_5 ?_
  refine lv_iconst (v := 1) hx hb dX4_tellKnots_8 (by decide) ?_
  refine lv_isub hx hb dX4_tellKnots_9 ?_
  refine g_callVU (F_X4_hear σ (0 : Int32) (0 : Int32) ((σ.1 450) - (1 : Int32))) (fun u => gws ad cI cZ u τ) (rest := []) E h (c_X4_hear l D cI cZ z ad σ τ (0 : Int32) (0 : Int32) ((σ.1 450) - (1 : Int32))) mw_316 cbX4_hear 14 rfl rfl ⟨by decide, by decide⟩ rfl rfl hl.1 (Nat.le_of_ble_eq_true rfl) ⟨Nat.zero_le _, Nat.zero_le _⟩ dX4_tellKnots_10 (fun u1 huu1 H locs h => ?_)
  have hF : F_X4_tellKnots_k10_2 σ u1 = (F_X4_tellKnots σ) := by rw [← huu1]; exact hF
  refine lv_if_eq (tgt := 32) hx hb dX4_tellKnots_13 (by decide) (fun c3 => ?_) (fun c3 => ?_)
  · have ic3 : u1.1.toInt = 0 := i_eq c3
    have hF := (if_pos c3).symm.trans hF
    refine lv_iconst (v := 0) hx hb dX4_tellKnots_32 (by decide) ?_
    exact g_zret E hr hlk h hQ (rfl) (fst_of hF) (snd_of hF (fun u => gws ad cI cZ u τ)) dX4_tellKnots_33
  · have ic3 : u1.1.toInt ≠ 0 := i_ne c3
    have hF := (if_neg c3).symm.trans hF
    refine lv_aload_n hx hb dX4_tellKnots_16 rfl (lv_at hl 0 rfl) ?_
    refine lv_aload_n hx hb dX4_tellKnots_17 rfl (lv_at hl 1 rfl) ?_
    refine lv_iconst (v := 1) hx hb dX4_tellKnots_18 (by decide) ?_
    refine lv_iconst (v := 0) hx hb dX4_tellKnots_19 (by decide) ?_
    refine lv_aload_n hx hb dX4_tellKnots_20 rfl (lv_at hl 0 rfl) ?_
    refine g_get (v := .int (u1.2.1 448)) E h 14 rfl rfl layX4 0 (by decide) rfl mw_66 rfl dX4_tellKnots_21 ?_
    refine lv_iconst (v := 1) hx hb dX4_tellKnots_24 (by decide) ?_
    refine lv_isub hx hb dX4_tellKnots_25 ?_
    refine g_callVU (F_X4_hear u1.2 (1 : Int32) (0 : Int32) ((u1.2.1 448) - (1 : Int32))) (fun u => gws ad cI cZ u τ) (rest := []) E h (c_X4_hear l D cI cZ z ad u1.2 τ (1 : Int32) (0 : Int32) ((u1.2.1 448) - (1 : Int32))) mw_316 cbX4_hear 14 rfl rfl ⟨by decide, by decide⟩ rfl rfl hl.1 (Nat.le_of_ble_eq_true rfl) ⟨Nat.zero_le _, Nat.zero_le _⟩ dX4_tellKnots_26 (fun u4 huu4 H locs h => ?_)
    have hF : F_X4_tellKnots_k26_5 σ u1 u4 = (F_X4_tellKnots σ) := by rw [← huu4]; exact hF
    refine lv_if_ne (tgt := 34) hx hb dX4_tellKnots_29 (by decide) (fun c6 => ?_) (fun c6 => ?_)
    · have ic6 : u4.1.toInt ≠ 0 := i_ne c6
      have hF := (if_neg c6).symm.trans hF
      refine lv_aload_n hx hb dX4_tellKnots_34 rfl (lv_at hl 0 rfl) ?_
      refine lv_aload_n hx hb dX4_tellKnots_35 rfl (lv_at hl 1 rfl) ?_
      refine lv_iconst (v := 2) hx hb dX4_tellKnots_36 (by decide) ?_
      refine lv_iconst (v := 0) hx hb dX4_tellKnots_37 (by decide) ?_
      refine lv_bipush (v := 60) hx hb dX4_tellKnots_38 (by decide) ?_
      refine g_callVU (F_X4_hear u4.2 (2 : Int32) (0 : Int32) (60 : Int32)) (fun u => gws ad cI cZ u τ) (rest := []) E h (c_X4_hear l D cI cZ z ad u4.2 τ (2 : Int32) (0 : Int32) (60 : Int32)) mw_316 cbX4_hear 14 rfl rfl ⟨by decide, by decide⟩ rfl rfl hl.1 (Nat.le_of_ble_eq_true rfl) ⟨Nat.zero_le _, Nat.zero_le _⟩ dX4_tellKnots_40 (fun u7 huu7 H locs h => ?_)
      have hF : F_X4_tellKnots_k40_8 σ u1 u4 u7 = (F_X4_tellKnots σ) := by rw [← huu7]; exact hF
      refine lv_if_eq (tgt := 53) hx hb dX4_tellKnots_43 (by decide) (fun c9 => ?_) (fun c9 => ?_)
      · have ic9 : u7.1.toInt = 0 := i_eq c9
        have hF := (if_pos c9).symm.trans hF
        refine lv_iconst (v := 0) hx hb dX4_tellKnots_53 (by decide) ?_
        exact g_zret E hr hlk h hQ (rfl) (fst_of hF) (snd_of hF (fun u => gws ad cI cZ u τ)) dX4_tellKnots_54
      · have ic9 : u7.1.toInt ≠ 0 := i_ne c9
        have hF := (if_neg c9).symm.trans hF
        refine lv_aload_n hx hb dX4_tellKnots_46 rfl (lv_at hl 1 rfl) ?_
        refine g_callSU (F_X4_hearStop u7.2) (fun u => gws ad cI cZ u τ) (rest := []) E h (c_X4_hearStop l D cI cZ z ad u7.2 τ) mw_320 cbX4_hearStop ⟨by decide, by decide⟩ rfl rfl hl.1 (Nat.le_of_ble_eq_true rfl) ⟨Nat.zero_le _, Nat.zero_le _⟩ dX4_tellKnots_47 (fun u10 huu10 H locs h => ?_)
        have hF : F_X4_tellKnots_k47_11 σ u1 u4 u7 u10 = (F_X4_tellKnots σ) := by rw [← huu10]; exact hF
        refine lv_if_ne (tgt := 55) hx hb dX4_tellKnots_50 (by decide) (fun c12 => ?_) (fun c12 => ?_)
        · have ic12 : u10.1.toInt ≠ 0 := i_ne c12
          have hF := (if_neg c12).symm.trans hF
          refine lv_aload_n hx hb dX4_tellKnots_55 rfl (lv_at hl 0 rfl) ?_
          refine g_get (v := .ref (ad 22)) E h 14 rfl rfl layX4 10 (by decide) rfl mw_81 rfl dX4_tellKnots_56 ?_
          refine lv_aload_n hx hb dX4_tellKnots_59 rfl (lv_at hl 0 rfl) ?_
          refine g_get (v := .ref (ad 24)) E h 14 rfl rfl layX4 11 (by decide) rfl mw_83 rfl dX4_tellKnots_60 ?_
          refine lv_iconst (v := 0) hx hb dX4_tellKnots_63 (by decide) ?_
          refine g_ialdk (f := (u10.2.2.1 24)) E h 24 rfl 0 rfl (ix_of (oI_lit (x := 0) (a := 0) rfl) (by omega) (by decide)) dX4_tellKnots_64 ?_
          refine lv_aload_n hx hb dX4_tellKnots_65 rfl (lv_at hl 0 rfl) ?_
          refine g_get (v := .ref (ad 24)) E h 14 rfl rfl layX4 11 (by decide) rfl mw_83 rfl dX4_tellKnots_66 ?_
          refine lv_iconst (v := 1) hx hb dX4_tellKnots_69 (by decide) ?_
          refine g_ialdk (f := (u10.2.2.1 24)) E h 24 rfl 1 rfl (ix_of (oI_lit (x := 1) (a := 1) rfl) (by omega) (by decide)) dX4_tellKnots_70 ?_
          refine lv_aload_n hx hb dX4_tellKnots_71 rfl (lv_at hl 0 rfl) ?_
          refine g_get (v := .ref (ad 24)) E h 14 rfl rfl layX4 11 (by decide) rfl mw_83 rfl dX4_tellKnots_72 ?_
          refine lv_iconst (v := 2) hx hb dX4_tellKnots_75 (by decide) ?_
          refine g_ialdk (f := (u10.2.2.1 24)) E h 24 rfl 2 rfl (ix_of (oI_lit (x := 2) (a := 2) rfl) (by omega) (by decide)) dX4_tellKnots_76 ?_
          refine g_callVUv (F_X2_setKnotsD u10.2 ((u10.2.2.1 24) 0) ((u10.2.2.1 24) 1) ((u10.2.2.1 24) 2)) (fun u => gws ad cI cZ u τ) (rest := []) E h (c_X2_setKnotsD l D cI cZ z ad u10.2 τ ((u10.2.2.1 24) 0) ((u10.2.2.1 24) 1) ((u10.2.2.1 24) 2)) mw_350 cbX2_setKnots 22 rfl rfl ⟨by decide, by decide⟩ rfl rfl hl.1 (Nat.le_of_ble_eq_true rfl) ⟨Nat.zero_le _, Nat.zero_le _⟩ dX4_tellKnots_77 (fun u13 huu13 H locs h => ?_)
          have hF : F_X4_tellKnots_k77_14 σ u1 u4 u7 u10 u13 = (F_X4_tellKnots σ) := by rw [← huu13]; exact hF
          refine lv_iconst (v := 1) hx hb dX4_tellKnots_80 (by decide) ?_
          exact g_zret E hr hlk h hQ (rfl) (fst_of hF) (snd_of hF (fun u => gws ad cI cZ u τ)) dX4_tellKnots_81
        · have ic12 : u10.1.toInt = 0 := i_eq c12
          have hF := (if_pos c12).symm.trans hF
          refine lv_iconst (v := 0) hx hb dX4_tellKnots_53 (by decide) ?_
          exact g_zret E hr hlk h hQ (rfl) (fst_of hF) (snd_of hF (fun u => gws ad cI cZ u τ)) dX4_tellKnots_54
    · have ic6 : u4.1.toInt = 0 := i_eq c6
      have hF := (if_pos c6).symm.trans hF
      refine lv_iconst (v := 0) hx hb dX4_tellKnots_32 (by decide) ?_
      exact g_zret E hr hlk h hQ (rfl) (fst_of hF) (snd_of hF (fun u => gws ad cI cZ u τ)) dX4_tellKnots_33

theorem b01_F_X4_tellKnots_k77_14 (σ : St) (u1 : Int32 × St) (u4 : Int32 × St) (u7 : Int32 × St) (u10 : Int32 × St) (u13 : St) : (F_X4_tellKnots_k77_14 σ u1 u4 u7 u10 u13).1 = 0 ∨ (F_X4_tellKnots_k77_14 σ u1 u4 u7 u10 u13).1 = 1 := (Or.inr rfl)
theorem b01_F_X4_tellKnots_k47_11 (σ : St) (u1 : Int32 × St) (u4 : Int32 × St) (u7 : Int32 × St) (u10 : Int32 × St) : (F_X4_tellKnots_k47_11 σ u1 u4 u7 u10).1 = 0 ∨ (F_X4_tellKnots_k47_11 σ u1 u4 u7 u10).1 = 1 := (b01_ite (Or.inl rfl) (b01_F_X4_tellKnots_k77_14 σ u1 u4 u7 u10 (F_X2_setKnotsD u10.2 ((u10.2.2.1 24) 0) ((u10.2.2.1 24) 1) ((u10.2.2.1 24) 2))))
theorem b01_F_X4_tellKnots_k40_8 (σ : St) (u1 : Int32 × St) (u4 : Int32 × St) (u7 : Int32 × St) : (F_X4_tellKnots_k40_8 σ u1 u4 u7).1 = 0 ∨ (F_X4_tellKnots_k40_8 σ u1 u4 u7).1 = 1 := (b01_ite (Or.inl rfl) (b01_F_X4_tellKnots_k47_11 σ u1 u4 u7 (F_X4_hearStop u7.2)))
theorem b01_F_X4_tellKnots_k26_5 (σ : St) (u1 : Int32 × St) (u4 : Int32 × St) : (F_X4_tellKnots_k26_5 σ u1 u4).1 = 0 ∨ (F_X4_tellKnots_k26_5 σ u1 u4).1 = 1 := (b01_ite (Or.inl rfl) (b01_F_X4_tellKnots_k40_8 σ u1 u4 (F_X4_hear u4.2 (2 : Int32) (0 : Int32) (60 : Int32))))
theorem b01_F_X4_tellKnots_k10_2 (σ : St) (u1 : Int32 × St) : (F_X4_tellKnots_k10_2 σ u1).1 = 0 ∨ (F_X4_tellKnots_k10_2 σ u1).1 = 1 := (b01_ite (Or.inl rfl) (b01_F_X4_tellKnots_k26_5 σ u1 (F_X4_hear u1.2 (1 : Int32) (0 : Int32) ((u1.2.1 448) - (1 : Int32)))))
theorem b01_F_X4_tellKnots (σ : St) : (F_X4_tellKnots σ).1 = 0 ∨ (F_X4_tellKnots σ).1 = 1 := (b01_F_X4_tellKnots_k10_2 σ (F_X4_hear σ (0 : Int32) (0 : Int32) ((σ.1 450) - (1 : Int32))))

def F_X4_tellDues_k92_15 (σ : St) (u1 : Int32 × St) (u4 : Int32 × St) (u8 : Int32 × St) (u11 : Int32 × St) (u14 : St) : Int32 × St := ((1 : Int32), u14)
def F_X4_tellDues_k62_12 (σ : St) (u1 : Int32 × St) (u4 : Int32 × St) (u8 : Int32 × St) (u11 : Int32 × St) : Int32 × St := (if u11.1 = 0 then ((0 : Int32), u11.2) else (F_X4_tellDues_k92_15 σ u1 u4 u8 u11 (F_X2_setDuesD u11.2 ((u11.2.2.1 24) 0) ((u11.2.2.1 24) 1) ((u11.2.2.1 24) 2))))
def F_X4_tellDues_k55_9 (σ : St) (u1 : Int32 × St) (u4 : Int32 × St) (u8 : Int32 × St) : Int32 × St := (if u8.1 = 0 then ((0 : Int32), u8.2) else (F_X4_tellDues_k62_12 σ u1 u4 u8 (F_X4_hearStop u8.2)))
def F_X4_tellDues_k26_5 (σ : St) (u1 : Int32 × St) (u4 : Int32 × St) : Int32 × St := (if u4.1 = 0 then ((0 : Int32), u4.2) else (if ((u4.2.2.1 24) 0) = ((u4.2.2.1 24) 1) then ((0 : Int32), u4.2) else (F_X4_tellDues_k55_9 σ u1 u4 (F_X4_hear u4.2 (2 : Int32) (0 : Int32) (60 : Int32)))))
def F_X4_tellDues_k10_2 (σ : St) (u1 : Int32 × St) : Int32 × St := (if u1.1 = 0 then ((0 : Int32), u1.2) else (F_X4_tellDues_k26_5 σ u1 (F_X4_hear u1.2 (1 : Int32) (0 : Int32) ((u1.2.1 448) - (1 : Int32)))))
def F_X4_tellDues (σ : St) : Int32 × St := (F_X4_tellDues_k10_2 σ (F_X4_hear σ (0 : Int32) (0 : Int32) ((σ.1 448) - (1 : Int32))))
abbrev I_X4_tellDues : List Nat := [34, 35, 36, 37]
abbrev A_X4_tellDues : List Nat := [23, 24]
theorem fr_F_X4_tellDues_k92_15 (σ : St) (u1 : Int32 × St) (u4 : Int32 × St) (u8 : Int32 × St) (u11 : Int32 × St) (u14 : St) (hfr : Fr I_X4_tellDues A_X4_tellDues false σ (u14)) : Fr I_X4_tellDues A_X4_tellDues false σ (F_X4_tellDues_k92_15  σ u1 u4 u8 u11 u14).2 := hfr
theorem fr_F_X4_tellDues_k62_12 (σ : St) (u1 : Int32 × St) (u4 : Int32 × St) (u8 : Int32 × St) (u11 : Int32 × St) (hfr : Fr I_X4_tellDues A_X4_tellDues false σ (u11.2)) : Fr I_X4_tellDues A_X4_tellDues false σ (F_X4_tellDues_k62_12  σ u1 u4 u8 u11).2 := (fr_ite2 hfr (fr_F_X4_tellDues_k92_15 σ u1 u4 u8 u11 (F_X2_setDuesD u11.2 ((u11.2.2.1 24) 0) ((u11.2.2.1 24) 1) ((u11.2.2.1 24) 2)) (Fr.tr hfr (Fr.mono (by decide) (by decide) (by decide) (fr_F_X2_setDuesD u11.2 ((u11.2.2.1 24) 0) ((u11.2.2.1 24) 1) ((u11.2.2.1 24) 2))))))
theorem fr_F_X4_tellDues_k55_9 (σ : St) (u1 : Int32 × St) (u4 : Int32 × St) (u8 : Int32 × St) (hfr : Fr I_X4_tellDues A_X4_tellDues false σ (u8.2)) : Fr I_X4_tellDues A_X4_tellDues false σ (F_X4_tellDues_k55_9  σ u1 u4 u8).2 := (fr_ite2 hfr (fr_F_X4_tellDues_k62_12 σ u1 u4 u8 (F_X4_hearStop u8.2) (Fr.tr hfr (Fr.mono (by decide) (by decide) (by decide) (fr_F_X4_hearStop u8.2)))))
theorem fr_F_X4_tellDues_k26_5 (σ : St) (u1 : Int32 × St) (u4 : Int32 × St) (hfr : Fr I_X4_tellDues A_X4_tellDues false σ (u4.2)) : Fr I_X4_tellDues A_X4_tellDues false σ (F_X4_tellDues_k26_5  σ u1 u4).2 := (fr_ite2 hfr (fr_ite2 hfr (fr_F_X4_tellDues_k55_9 σ u1 u4 (F_X4_hear u4.2 (2 : Int32) (0 : Int32) (60 : Int32)) (Fr.tr hfr (Fr.mono (by decide) (by decide) (by decide) (fr_F_X4_hear u4.2 (2 : Int32) (0 : Int32) (60 : Int32)))))))
theorem fr_F_X4_tellDues_k10_2 (σ : St) (u1 : Int32 × St) (hfr : Fr I_X4_tellDues A_X4_tellDues false σ (u1.2)) : Fr I_X4_tellDues A_X4_tellDues false σ (F_X4_tellDues_k10_2  σ u1).2 := (fr_ite2 hfr (fr_F_X4_tellDues_k26_5 σ u1 (F_X4_hear u1.2 (1 : Int32) (0 : Int32) ((u1.2.1 448) - (1 : Int32))) (Fr.tr hfr (Fr.mono (by decide) (by decide) (by decide) (fr_F_X4_hear u1.2 (1 : Int32) (0 : Int32) ((u1.2.1 448) - (1 : Int32)))))))
theorem fr_F_X4_tellDues (σ : St) : Fr I_X4_tellDues A_X4_tellDues false σ (F_X4_tellDues σ).2 := (fr_F_X4_tellDues_k10_2 σ (F_X4_hear σ (0 : Int32) (0 : Int32) ((σ.1 448) - (1 : Int32))) (Fr.tr Fr.rf (Fr.mono (by decide) (by decide) (by decide) (fr_F_X4_hear σ (0 : Int32) (0 : Int32) ((σ.1 448) - (1 : Int32))))))
set_option maxHeartbeats 4000000 in
set_option maxRecDepth 20000 in
theorem c_X4_tellDues (l : Launch) (D : va_G) (cI cZ : ClassId) (z : Nat) (ad : Nat → Nat) (σ τ : St) : gM l yX4_tellDues cX4_tellDues 2 (some .boolean) 4 D cI cZ z (gws ad cI cZ σ τ) [.ref (ad 14), .ref (ad 1)] (some (.int (F_X4_tellDues σ).1)) (gws ad cI cZ (F_X4_tellDues σ).2 τ) := by
  refine g_met (own := RX4) (by decide) rfl (Nat.le_of_ble_eq_true rfl) (fun p e s m below meth c ls Q E hr hlk h hl hQ => ?_)
  have hx := E.1
  have hb := E.2.1
  have hF : (F_X4_tellDues σ) = (F_X4_tellDues σ) := rfl
  have hl : lv_has ls 2 [(0, .ref (ad 14)), (1, .ref (ad 1))] := hl
  refine lv_aload_n hx hb dX4_tellDues_0 rfl (lv_at hl 0 rfl) ?_
  refine lv_aload_n hx hb dX4_tellDues_1 rfl (lv_at hl 1 rfl) ?_
  refine lv_iconst (v := 0) hx hb dX4_tellDues_2 (by decide) ?_
  refine lv_iconst (v := 0) hx hb dX4_tellDues_3 (by decide) ?_
  refine lv_aload_n hx hb dX4_tellDues_4 rfl (lv_at hl 0 rfl) ?_
  refine g_get (v := .int (σ.1 448)) E h 14 rfl rfl layX4 0 (by decide) rfl mw_66 rfl dX4_tellDues_5 ?_
  refine lv_iconst (v := 1) hx hb dX4_tellDues_8 (by decide) ?_
  refine lv_isub hx hb dX4_tellDues_9 ?_
  refine g_callVU (F_X4_hear σ (0 : Int32) (0 : Int32) ((σ.1 448) - (1 : Int32))) (fun u => gws ad cI cZ u τ) (rest := []) E h (c_X4_hear l D cI cZ z ad σ τ (0 : Int32) (0 : Int32) ((σ.1 448) - (1 : Int32))) mw_316 cbX4_hear 14 rfl rfl ⟨by decide, by decide⟩ rfl rfl hl.1 (Nat.le_of_ble_eq_true rfl) ⟨Nat.zero_le _, Nat.zero_le _⟩ dX4_tellDues_10 (fun u1 huu1 H locs h => ?_)
  have hF : F_X4_tellDues_k10_2 σ u1 = (F_X4_tellDues σ) := by rw [← huu1]; exact hF
  refine lv_if_eq (tgt := 47) hx hb dX4_tellDues_13 (by decide) (fun c3 => ?_) (fun c3 => ?_)
  · have ic3 : u1.1.toInt = 0 := i_eq c3
    have hF := (if_pos c3).symm.trans hF
    refine lv_iconst (v := 0) hx hb dX4_tellDues_47 (by decide) ?_
    exact g_zret E hr hlk h hQ (rfl) (fst_of hF) (snd_of hF (fun u => gws ad cI cZ u τ)) dX4_tellDues_48
  · have ic3 : u1.1.toInt ≠ 0 := i_ne c3
    have hF := (if_neg c3).symm.trans hF
    refine lv_aload_n hx hb dX4_tellDues_16 rfl (lv_at hl 0 rfl) ?_
    refine lv_aload_n hx hb dX4_tellDues_17 rfl (lv_at hl 1 rfl) ?_
    refine lv_iconst (v := 1) hx hb dX4_tellDues_18 (by decide) ?_
    refine lv_iconst (v := 0) hx hb dX4_tellDues_19 (by decide) ?_
    refine lv_aload_n hx hb dX4_tellDues_20 rfl (lv_at hl 0 rfl) ?_
    refine g_get (v := .int (u1.2.1 448)) E h 14 rfl rfl layX4 0 (by decide) rfl mw_66 rfl dX4_tellDues_21 ?_
    refine lv_iconst (v := 1) hx hb dX4_tellDues_24 (by decide) ?_
    refine lv_isub hx hb dX4_tellDues_25 ?_
    refine g_callVU (F_X4_hear u1.2 (1 : Int32) (0 : Int32) ((u1.2.1 448) - (1 : Int32))) (fun u => gws ad cI cZ u τ) (rest := []) E h (c_X4_hear l D cI cZ z ad u1.2 τ (1 : Int32) (0 : Int32) ((u1.2.1 448) - (1 : Int32))) mw_316 cbX4_hear 14 rfl rfl ⟨by decide, by decide⟩ rfl rfl hl.1 (Nat.le_of_ble_eq_true rfl) ⟨Nat.zero_le _, Nat.zero_le _⟩ dX4_tellDues_26 (fun u4 huu4 H locs h => ?_)
    have hF : F_X4_tellDues_k26_5 σ u1 u4 = (F_X4_tellDues σ) := by rw [← huu4]; exact hF
    refine lv_if_eq (tgt := 47) hx hb dX4_tellDues_29 (by decide) (fun c6 => ?_) (fun c6 => ?_)
    · have ic6 : u4.1.toInt = 0 := i_eq c6
      have hF := (if_pos c6).symm.trans hF
      refine lv_iconst (v := 0) hx hb dX4_tellDues_47 (by decide) ?_
      exact g_zret E hr hlk h hQ (rfl) (fst_of hF) (snd_of hF (fun u => gws ad cI cZ u τ)) dX4_tellDues_48
    · have ic6 : u4.1.toInt ≠ 0 := i_ne c6
      have hF := (if_neg c6).symm.trans hF
      refine lv_aload_n hx hb dX4_tellDues_32 rfl (lv_at hl 0 rfl) ?_
      refine g_get (v := .ref (ad 24)) E h 14 rfl rfl layX4 11 (by decide) rfl mw_83 rfl dX4_tellDues_33 ?_
      refine lv_iconst (v := 0) hx hb dX4_tellDues_36 (by decide) ?_
      refine g_ialdk (f := (u4.2.2.1 24)) E h 24 rfl 0 rfl (ix_of (oI_lit (x := 0) (a := 0) rfl) (by omega) (by decide)) dX4_tellDues_37 ?_
      refine lv_aload_n hx hb dX4_tellDues_38 rfl (lv_at hl 0 rfl) ?_
      refine g_get (v := .ref (ad 24)) E h 14 rfl rfl layX4 11 (by decide) rfl mw_83 rfl dX4_tellDues_39 ?_
      refine lv_iconst (v := 1) hx hb dX4_tellDues_42 (by decide) ?_
      refine g_ialdk (f := (u4.2.2.1 24)) E h 24 rfl 1 rfl (ix_of (oI_lit (x := 1) (a := 1) rfl) (by omega) (by decide)) dX4_tellDues_43 ?_
      refine lv_icmp_ne (tgt := 49) hx hb dX4_tellDues_44 (by decide) (fun c7 => ?_) (fun c7 => ?_)
      · have ic7 : ((u4.2.2.1 24) 0).toInt ≠ ((u4.2.2.1 24) 1).toInt := i_ne c7
        have hF := (if_neg c7).symm.trans hF
        refine lv_aload_n hx hb dX4_tellDues_49 rfl (lv_at hl 0 rfl) ?_
        refine lv_aload_n hx hb dX4_tellDues_50 rfl (lv_at hl 1 rfl) ?_
        refine lv_iconst (v := 2) hx hb dX4_tellDues_51 (by decide) ?_
        refine lv_iconst (v := 0) hx hb dX4_tellDues_52 (by decide) ?_
        refine lv_bipush (v := 60) hx hb dX4_tellDues_53 (by decide) ?_
        refine g_callVU (F_X4_hear u4.2 (2 : Int32) (0 : Int32) (60 : Int32)) (fun u => gws ad cI cZ u τ) (rest := []) E h (c_X4_hear l D cI cZ z ad u4.2 τ (2 : Int32) (0 : Int32) (60 : Int32)) mw_316 cbX4_hear 14 rfl rfl ⟨by decide, by decide⟩ rfl rfl hl.1 (Nat.le_of_ble_eq_true rfl) ⟨Nat.zero_le _, Nat.zero_le _⟩ dX4_tellDues_55 (fun u8 huu8 H locs h => ?_)
        have hF : F_X4_tellDues_k55_9 σ u1 u4 u8 = (F_X4_tellDues σ) := by rw [← huu8]; exact hF
        refine lv_if_eq (tgt := 68) hx hb dX4_tellDues_58 (by decide) (fun c10 => ?_) (fun c10 => ?_)
        · have ic10 : u8.1.toInt = 0 := i_eq c10
          have hF := (if_pos c10).symm.trans hF
          refine lv_iconst (v := 0) hx hb dX4_tellDues_68 (by decide) ?_
          exact g_zret E hr hlk h hQ (rfl) (fst_of hF) (snd_of hF (fun u => gws ad cI cZ u τ)) dX4_tellDues_69
        · have ic10 : u8.1.toInt ≠ 0 := i_ne c10
          have hF := (if_neg c10).symm.trans hF
          refine lv_aload_n hx hb dX4_tellDues_61 rfl (lv_at hl 1 rfl) ?_
          refine g_callSU (F_X4_hearStop u8.2) (fun u => gws ad cI cZ u τ) (rest := []) E h (c_X4_hearStop l D cI cZ z ad u8.2 τ) mw_320 cbX4_hearStop ⟨by decide, by decide⟩ rfl rfl hl.1 (Nat.le_of_ble_eq_true rfl) ⟨Nat.zero_le _, Nat.zero_le _⟩ dX4_tellDues_62 (fun u11 huu11 H locs h => ?_)
          have hF : F_X4_tellDues_k62_12 σ u1 u4 u8 u11 = (F_X4_tellDues σ) := by rw [← huu11]; exact hF
          refine lv_if_ne (tgt := 70) hx hb dX4_tellDues_65 (by decide) (fun c13 => ?_) (fun c13 => ?_)
          · have ic13 : u11.1.toInt ≠ 0 := i_ne c13
            have hF := (if_neg c13).symm.trans hF
            refine lv_aload_n hx hb dX4_tellDues_70 rfl (lv_at hl 0 rfl) ?_
            refine g_get (v := .ref (ad 22)) E h 14 rfl rfl layX4 10 (by decide) rfl mw_81 rfl dX4_tellDues_71 ?_
            refine lv_aload_n hx hb dX4_tellDues_74 rfl (lv_at hl 0 rfl) ?_
            refine g_get (v := .ref (ad 24)) E h 14 rfl rfl layX4 11 (by decide) rfl mw_83 rfl dX4_tellDues_75 ?_
            refine lv_iconst (v := 0) hx hb dX4_tellDues_78 (by decide) ?_
            refine g_ialdk (f := (u11.2.2.1 24)) E h 24 rfl 0 rfl (ix_of (oI_lit (x := 0) (a := 0) rfl) (by omega) (by decide)) dX4_tellDues_79 ?_
            refine lv_aload_n hx hb dX4_tellDues_80 rfl (lv_at hl 0 rfl) ?_
            refine g_get (v := .ref (ad 24)) E h 14 rfl rfl layX4 11 (by decide) rfl mw_83 rfl dX4_tellDues_81 ?_
            refine lv_iconst (v := 1) hx hb dX4_tellDues_84 (by decide) ?_
            refine g_ialdk (f := (u11.2.2.1 24)) E h 24 rfl 1 rfl (ix_of (oI_lit (x := 1) (a := 1) rfl) (by omega) (by decide)) dX4_tellDues_85 ?_
            refine lv_aload_n hx hb dX4_tellDues_86 rfl (lv_at hl 0 rfl) ?_
            refine g_get (v := .ref (ad 24)) E h 14 rfl rfl layX4 11 (by decide) rfl mw_83 rfl dX4_tellDues_87 ?_
            refine lv_iconst (v := 2) hx hb dX4_tellDues_90 (by decide) ?_
            refine g_ialdk (f := (u11.2.2.1 24)) E h 24 rfl 2 rfl (ix_of (oI_lit (x := 2) (a := 2) rfl) (by omega) (by decide)) dX4_tellDues_91 ?_
            refine g_callVUv (F_X2_setDuesD u11.2 ((u11.2.2.1 24) 0) ((u11.2.2.1 24) 1) ((u11.2.2.1 24) 2)) (fun u => gws ad cI cZ u τ) (rest := []) E h (c_X2_setDuesD l D cI cZ z ad u11.2 τ ((u11.2.2.1 24) 0) ((u11.2.2.1 24) 1) ((u11.2.2.1 24) 2)) mw_361 cbX2_setDues 22 rfl rfl ⟨by decide, by decide⟩ rfl rfl hl.1 (Nat.le_of_ble_eq_true rfl) ⟨Nat.zero_le _, Nat.zero_le _⟩ dX4_tellDues_92 (fun u14 huu14 H locs h => ?_)
            have hF : F_X4_tellDues_k92_15 σ u1 u4 u8 u11 u14 = (F_X4_tellDues σ) := by rw [← huu14]; exact hF
            refine lv_iconst (v := 1) hx hb dX4_tellDues_95 (by decide) ?_
            exact g_zret E hr hlk h hQ (rfl) (fst_of hF) (snd_of hF (fun u => gws ad cI cZ u τ)) dX4_tellDues_96
          · have ic13 : u11.1.toInt = 0 := i_eq c13
            have hF := (if_pos c13).symm.trans hF
            refine lv_iconst (v := 0) hx hb dX4_tellDues_68 (by decide) ?_
            exact g_zret E hr hlk h hQ (rfl) (fst_of hF) (snd_of hF (fun u => gws ad cI cZ u τ)) dX4_tellDues_69
      · have ic7 : ((u4.2.2.1 24) 0).toInt = ((u4.2.2.1 24) 1).toInt := i_eq c7
        have hF := (if_pos c7).symm.trans hF
        refine lv_iconst (v := 0) hx hb dX4_tellDues_47 (by decide) ?_
        exact g_zret E hr hlk h hQ (rfl) (fst_of hF) (snd_of hF (fun u => gws ad cI cZ u τ)) dX4_tellDues_48

theorem b01_F_X4_tellDues_k92_15 (σ : St) (u1 : Int32 × St) (u4 : Int32 × St) (u8 : Int32 × St) (u11 : Int32 × St) (u14 : St) : (F_X4_tellDues_k92_15 σ u1 u4 u8 u11 u14).1 = 0 ∨ (F_X4_tellDues_k92_15 σ u1 u4 u8 u11 u14).1 = 1 := (Or.inr rfl)
theorem b01_F_X4_tellDues_k62_12 (σ : St) (u1 : Int32 × St) (u4 : Int32 × St) (u8 : Int32 × St) (u11 : Int32 × St) : (F_X4_tellDues_k62_12 σ u1 u4 u8 u11).1 = 0 ∨ (F_X4_tellDues_k62_12 σ u1 u4 u8 u11).1 = 1 := (b01_ite (Or.inl rfl) (b01_F_X4_tellDues_k92_15 σ u1 u4 u8 u11 (F_X2_setDuesD u11.2 ((u11.2.2.1 24) 0) ((u11.2.2.1 24) 1) ((u11.2.2.1 24) 2))))
theorem b01_F_X4_tellDues_k55_9 (σ : St) (u1 : Int32 × St) (u4 : Int32 × St) (u8 : Int32 × St) : (F_X4_tellDues_k55_9 σ u1 u4 u8).1 = 0 ∨ (F_X4_tellDues_k55_9 σ u1 u4 u8).1 = 1 := (b01_ite (Or.inl rfl) (b01_F_X4_tellDues_k62_12 σ u1 u4 u8 (F_X4_hearStop u8.2)))
theorem b01_F_X4_tellDues_k26_5 (σ : St) (u1 : Int32 × St) (u4 : Int32 × St) : (F_X4_tellDues_k26_5 σ u1 u4).1 = 0 ∨ (F_X4_tellDues_k26_5 σ u1 u4).1 = 1 := (b01_ite (Or.inl rfl) (b01_ite (Or.inl rfl) (b01_F_X4_tellDues_k55_9 σ u1 u4 (F_X4_hear u4.2 (2 : Int32) (0 : Int32) (60 : Int32)))))
theorem b01_F_X4_tellDues_k10_2 (σ : St) (u1 : Int32 × St) : (F_X4_tellDues_k10_2 σ u1).1 = 0 ∨ (F_X4_tellDues_k10_2 σ u1).1 = 1 := (b01_ite (Or.inl rfl) (b01_F_X4_tellDues_k26_5 σ u1 (F_X4_hear u1.2 (1 : Int32) (0 : Int32) ((u1.2.1 448) - (1 : Int32)))))
theorem b01_F_X4_tellDues (σ : St) : (F_X4_tellDues σ).1 = 0 ∨ (F_X4_tellDues σ).1 = 1 := (b01_F_X4_tellDues_k10_2 σ (F_X4_hear σ (0 : Int32) (0 : Int32) ((σ.1 448) - (1 : Int32))))

theorem cn_F_X4_tellWell_k21_6 (σ : St) (u2 : Int32 × St) (u5 : Int32 × St) (hc : 0 ≤ (u5.2.1 448).toInt ∧ (u5.2.1 448).toInt < 6) : 0 ≤ ((F_X4_tellWell_k21_6 σ u2 u5).2.1 448).toInt := (cn_ite hc.1 (inc_nn hc))
theorem cn_F_X4_tellWell_k14_3 (σ : St) (u2 : Int32 × St) (hc : 0 ≤ (u2.2.1 448).toInt ∧ (u2.2.1 448).toInt < 6) : 0 ≤ ((F_X4_tellWell_k14_3 σ u2).2.1 448).toInt := (cn_ite hc.1 (cn_F_X4_tellWell_k21_6 σ u2 (F_X4_hearStop u2.2) (by rw [(fr_F_X4_hearStop u2.2).1 448 (by decide)]; exact hc)))
theorem cn_F_X4_tellWell (σ : St) (h : 0 ≤ (σ.1 448).toInt) : 0 ≤ ((F_X4_tellWell σ).2.1 448).toInt := by
  unfold F_X4_tellWell
  by_cases c : (6 : Int32) ≤ (σ.1 448)
  · rw [if_pos c]; exact h
  · rw [if_neg c]
    have hc : 0 ≤ (σ.1 448).toInt ∧ (σ.1 448).toInt < 6 := ⟨h, i_nle c⟩
    exact (cn_F_X4_tellWell_k14_3 σ (F_X4_hear σ (0 : Int32) (0 : Int32) (1 : Int32)) (by rw [(fr_F_X4_hear σ (0 : Int32) (0 : Int32) (1 : Int32)).1 448 (by decide)]; exact hc))

theorem cn_F_X4_tellStage_k100_19 (σ : St) (u2 : Int32 × St) (u5 : Int32 × St) (u9 : Int32 × St) (u12 : Int32 × St) (u15 : Int32 × St) (u18 : Int32 × St) (hc : 0 ≤ (u18.2.1 449).toInt ∧ (u18.2.1 449).toInt < 8) : 0 ≤ ((F_X4_tellStage_k100_19 σ u2 u5 u9 u12 u15 u18).2.1 449).toInt := (cn_ite hc.1 (inc_nn hc))
theorem cn_F_X4_tellStage_k93_16 (σ : St) (u2 : Int32 × St) (u5 : Int32 × St) (u9 : Int32 × St) (u12 : Int32 × St) (u15 : Int32 × St) (hc : 0 ≤ (u15.2.1 449).toInt ∧ (u15.2.1 449).toInt < 8) : 0 ≤ ((F_X4_tellStage_k93_16 σ u2 u5 u9 u12 u15).2.1 449).toInt := (cn_ite hc.1 (cn_F_X4_tellStage_k100_19 σ u2 u5 u9 u12 u15 (F_X4_hearStop u15.2) (by rw [(fr_F_X4_hearStop u15.2).1 449 (by decide)]; exact hc)))
theorem cn_F_X4_tellStage_k75_13 (σ : St) (u2 : Int32 × St) (u5 : Int32 × St) (u9 : Int32 × St) (u12 : Int32 × St) (hc : 0 ≤ (u12.2.1 449).toInt ∧ (u12.2.1 449).toInt < 8) : 0 ≤ ((F_X4_tellStage_k75_13 σ u2 u5 u9 u12).2.1 449).toInt := (cn_ite hc.1 (cn_F_X4_tellStage_k93_16 σ u2 u5 u9 u12 (F_X4_hear u12.2 (4 : Int32) (0 : Int32) ((u12.2.1 448) - (1 : Int32))) (by rw [(fr_F_X4_hear u12.2 (4 : Int32) (0 : Int32) ((u12.2.1 448) - (1 : Int32))).1 449 (by decide)]; exact hc)))
theorem cn_F_X4_tellStage_k64_10 (σ : St) (u2 : Int32 × St) (u5 : Int32 × St) (u9 : Int32 × St) (hc : 0 ≤ (u9.2.1 449).toInt ∧ (u9.2.1 449).toInt < 8) : 0 ≤ ((F_X4_tellStage_k64_10 σ u2 u5 u9).2.1 449).toInt := (cn_ite hc.1 (cn_F_X4_tellStage_k75_13 σ u2 u5 u9 (F_X4_hear u9.2 (3 : Int32) (0 : Int32) (1 : Int32)) (by rw [(fr_F_X4_hear u9.2 (3 : Int32) (0 : Int32) (1 : Int32)).1 449 (by decide)]; exact hc)))
theorem cn_F_X4_tellStage_k35_6 (σ : St) (u2 : Int32 × St) (u5 : Int32 × St) (hc : 0 ≤ (u5.2.1 449).toInt ∧ (u5.2.1 449).toInt < 8) : 0 ≤ ((F_X4_tellStage_k35_6 σ u2 u5).2.1 449).toInt := (cn_ite hc.1 (cn_ite hc.1 (cn_F_X4_tellStage_k64_10 σ u2 u5 (F_X4_hear u5.2 (2 : Int32) (1 : Int32) (9 : Int32)) (by rw [(fr_F_X4_hear u5.2 (2 : Int32) (1 : Int32) (9 : Int32)).1 449 (by decide)]; exact hc))))
theorem cn_F_X4_tellStage_k19_3 (σ : St) (u2 : Int32 × St) (hc : 0 ≤ (u2.2.1 449).toInt ∧ (u2.2.1 449).toInt < 8) : 0 ≤ ((F_X4_tellStage_k19_3 σ u2).2.1 449).toInt := (cn_ite hc.1 (cn_F_X4_tellStage_k35_6 σ u2 (F_X4_hear u2.2 (1 : Int32) (0 : Int32) ((u2.2.1 448) - (1 : Int32))) (by rw [(fr_F_X4_hear u2.2 (1 : Int32) (0 : Int32) ((u2.2.1 448) - (1 : Int32))).1 449 (by decide)]; exact hc)))
theorem cn_F_X4_tellStage (σ : St) (h : 0 ≤ (σ.1 449).toInt) : 0 ≤ ((F_X4_tellStage σ).2.1 449).toInt := by
  unfold F_X4_tellStage
  by_cases c : (8 : Int32) ≤ (σ.1 449)
  · rw [if_pos c]; exact h
  · rw [if_neg c]
    have hc : 0 ≤ (σ.1 449).toInt ∧ (σ.1 449).toInt < 8 := ⟨h, i_nle c⟩
    exact (cn_F_X4_tellStage_k19_3 σ (F_X4_hear σ (0 : Int32) (0 : Int32) ((σ.1 448) - (1 : Int32))) (by rw [(fr_F_X4_hear σ (0 : Int32) (0 : Int32) ((σ.1 448) - (1 : Int32))).1 449 (by decide)]; exact hc))

theorem cn_F_X4_tellCaravan_k101_19 (σ : St) (u2 : Int32 × St) (u5 : Int32 × St) (u8 : Int32 × St) (u11 : Int32 × St) (u14 : St) (u16 : St) (u18 : St) (hc : 0 ≤ (u18.1 450).toInt ∧ (u18.1 450).toInt < 4) : 0 ≤ ((F_X4_tellCaravan_k101_19 σ u2 u5 u8 u11 u14 u16 u18).2.1 450).toInt := (inc_nn hc)
theorem cn_F_X4_tellCaravan_k90_17 (σ : St) (u2 : Int32 × St) (u5 : Int32 × St) (u8 : Int32 × St) (u11 : Int32 × St) (u14 : St) (u16 : St) (hc : 0 ≤ (u16.1 450).toInt ∧ (u16.1 450).toInt < 4) : 0 ≤ ((F_X4_tellCaravan_k90_17 σ u2 u5 u8 u11 u14 u16).2.1 450).toInt := (cn_F_X4_tellCaravan_k101_19 σ u2 u5 u8 u11 u14 u16 (F_X2_wakeD u16 (u16.1 450)) (by rw [(fr_F_X2_wakeD u16 (u16.1 450)).1 450 (by decide)]; exact hc))
theorem cn_F_X4_tellCaravan_k73_15 (σ : St) (u2 : Int32 × St) (u5 : Int32 × St) (u8 : Int32 × St) (u11 : Int32 × St) (u14 : St) (hc : 0 ≤ (u14.1 450).toInt ∧ (u14.1 450).toInt < 4) : 0 ≤ ((F_X4_tellCaravan_k73_15 σ u2 u5 u8 u11 u14).2.1 450).toInt := (cn_F_X4_tellCaravan_k90_17 σ u2 u5 u8 u11 u14 (F_X2_setCupsD u14 (u14.1 450) ((u14.2.1 24) 1)) (by rw [(fr_F_X2_setCupsD u14 (u14.1 450) ((u14.2.1 24) 1)).1 450 (by decide)]; exact hc))
theorem cn_F_X4_tellCaravan_k51_12 (σ : St) (u2 : Int32 × St) (u5 : Int32 × St) (u8 : Int32 × St) (u11 : Int32 × St) (hc : 0 ≤ (u11.2.1 450).toInt ∧ (u11.2.1 450).toInt < 4) : 0 ≤ ((F_X4_tellCaravan_k51_12 σ u2 u5 u8 u11).2.1 450).toInt := (cn_ite hc.1 (cn_F_X4_tellCaravan_k73_15 σ u2 u5 u8 u11 (F_X2_setPlaceD u11.2 (u11.2.1 450) ((u11.2.2.1 24) 0)) (by rw [(fr_F_X2_setPlaceD u11.2 (u11.2.1 450) ((u11.2.2.1 24) 0)).1 450 (by decide)]; exact hc)))
theorem cn_F_X4_tellCaravan_k44_9 (σ : St) (u2 : Int32 × St) (u5 : Int32 × St) (u8 : Int32 × St) (hc : 0 ≤ (u8.2.1 450).toInt ∧ (u8.2.1 450).toInt < 4) : 0 ≤ ((F_X4_tellCaravan_k44_9 σ u2 u5 u8).2.1 450).toInt := (cn_ite hc.1 (cn_F_X4_tellCaravan_k51_12 σ u2 u5 u8 (F_X4_hearStop u8.2) (by rw [(fr_F_X4_hearStop u8.2).1 450 (by decide)]; exact hc)))
theorem cn_F_X4_tellCaravan_k32_6 (σ : St) (u2 : Int32 × St) (u5 : Int32 × St) (hc : 0 ≤ (u5.2.1 450).toInt ∧ (u5.2.1 450).toInt < 4) : 0 ≤ ((F_X4_tellCaravan_k32_6 σ u2 u5).2.1 450).toInt := (cn_ite hc.1 (cn_F_X4_tellCaravan_k44_9 σ u2 u5 (F_X4_hear u5.2 (2 : Int32) (1 : Int32) (20 : Int32)) (by rw [(fr_F_X4_hear u5.2 (2 : Int32) (1 : Int32) (20 : Int32)).1 450 (by decide)]; exact hc)))
theorem cn_F_X4_tellCaravan_k18_3 (σ : St) (u2 : Int32 × St) (hc : 0 ≤ (u2.2.1 450).toInt ∧ (u2.2.1 450).toInt < 4) : 0 ≤ ((F_X4_tellCaravan_k18_3 σ u2).2.1 450).toInt := (cn_ite hc.1 (cn_F_X4_tellCaravan_k32_6 σ u2 (F_X4_hear u2.2 (1 : Int32) (0 : Int32) (20 : Int32)) (by rw [(fr_F_X4_hear u2.2 (1 : Int32) (0 : Int32) (20 : Int32)).1 450 (by decide)]; exact hc)))
theorem cn_F_X4_tellCaravan (σ : St) (h : 0 ≤ (σ.1 450).toInt) : 0 ≤ ((F_X4_tellCaravan σ).2.1 450).toInt := by
  unfold F_X4_tellCaravan
  by_cases c : (4 : Int32) ≤ (σ.1 450)
  · rw [if_pos c]; exact h
  · rw [if_neg c]
    have hc : 0 ≤ (σ.1 450).toInt ∧ (σ.1 450).toInt < 4 := ⟨h, i_nle c⟩
    exact (cn_F_X4_tellCaravan_k18_3 σ (F_X4_hear σ (0 : Int32) (0 : Int32) ((σ.1 448) - (1 : Int32))) (by rw [(fr_F_X4_hear σ (0 : Int32) (0 : Int32) ((σ.1 448) - (1 : Int32))).1 450 (by decide)]; exact hc))

def F_X4_tellItem_k78_4 (σ : St) (u3 : Int32 × St) : Int32 × St := (u3.1, u3.2)
def F_X4_tellItem_k90_7 (σ : St) (u6 : Int32 × St) : Int32 × St := (u6.1, u6.2)
def F_X4_tellItem_k84_10 (σ : St) (u9 : Int32 × St) : Int32 × St := (u9.1, u9.2)
def F_X4_tellItem_k72_13 (σ : St) (u12 : Int32 × St) : Int32 × St := (u12.1, u12.2)
def F_X4_tellItem_k66_16 (σ : St) (u15 : Int32 × St) : Int32 × St := (u15.1, u15.2)
def F_X4_tellItem (σ : St) : Int32 × St := (if (F_X6_tokenKind σ) = (1 : Int32) then (if (F_X6_tokenValue σ) = 99 then (F_X4_tellItem_k78_4 σ (F_X4_tellCaravan σ)) else (if (F_X6_tokenValue σ) = 100 then (F_X4_tellItem_k90_7 σ (F_X4_tellDues σ)) else (if (F_X6_tokenValue σ) = 107 then (F_X4_tellItem_k84_10 σ (F_X4_tellKnots σ)) else (if (F_X6_tokenValue σ) = 115 then (F_X4_tellItem_k72_13 σ (F_X4_tellStage σ)) else (if (F_X6_tokenValue σ) = 119 then (F_X4_tellItem_k66_16 σ (F_X4_tellWell σ)) else ((0 : Int32), σ)))))) else ((0 : Int32), σ))
abbrev I_X4_tellItem : List Nat := [34, 35, 36, 37, 448, 449, 450]
abbrev A_X4_tellItem : List Nat := [15, 16, 17, 18, 19, 20, 21, 23, 24]
theorem fr_F_X4_tellItem_k78_4 (σ : St) (u3 : Int32 × St) (hfr : Fr I_X4_tellItem A_X4_tellItem false σ (u3.2)) : Fr I_X4_tellItem A_X4_tellItem false σ (F_X4_tellItem_k78_4  σ u3).2 := hfr
theorem fr_F_X4_tellItem_k90_7 (σ : St) (u6 : Int32 × St) (hfr : Fr I_X4_tellItem A_X4_tellItem false σ (u6.2)) : Fr I_X4_tellItem A_X4_tellItem false σ (F_X4_tellItem_k90_7  σ u6).2 := hfr
theorem fr_F_X4_tellItem_k84_10 (σ : St) (u9 : Int32 × St) (hfr : Fr I_X4_tellItem A_X4_tellItem false σ (u9.2)) : Fr I_X4_tellItem A_X4_tellItem false σ (F_X4_tellItem_k84_10  σ u9).2 := hfr
theorem fr_F_X4_tellItem_k72_13 (σ : St) (u12 : Int32 × St) (hfr : Fr I_X4_tellItem A_X4_tellItem false σ (u12.2)) : Fr I_X4_tellItem A_X4_tellItem false σ (F_X4_tellItem_k72_13  σ u12).2 := hfr
theorem fr_F_X4_tellItem_k66_16 (σ : St) (u15 : Int32 × St) (hfr : Fr I_X4_tellItem A_X4_tellItem false σ (u15.2)) : Fr I_X4_tellItem A_X4_tellItem false σ (F_X4_tellItem_k66_16  σ u15).2 := hfr
theorem fr_F_X4_tellItem (σ : St) : Fr I_X4_tellItem A_X4_tellItem false σ (F_X4_tellItem σ).2 := (fr_ite2 (fr_ite2 (fr_F_X4_tellItem_k78_4 σ (F_X4_tellCaravan σ) (Fr.tr Fr.rf (Fr.mono (by decide) (by decide) (by decide) (fr_F_X4_tellCaravan σ)))) (fr_ite2 (fr_F_X4_tellItem_k90_7 σ (F_X4_tellDues σ) (Fr.tr Fr.rf (Fr.mono (by decide) (by decide) (by decide) (fr_F_X4_tellDues σ)))) (fr_ite2 (fr_F_X4_tellItem_k84_10 σ (F_X4_tellKnots σ) (Fr.tr Fr.rf (Fr.mono (by decide) (by decide) (by decide) (fr_F_X4_tellKnots σ)))) (fr_ite2 (fr_F_X4_tellItem_k72_13 σ (F_X4_tellStage σ) (Fr.tr Fr.rf (Fr.mono (by decide) (by decide) (by decide) (fr_F_X4_tellStage σ)))) (fr_ite2 (fr_F_X4_tellItem_k66_16 σ (F_X4_tellWell σ) (Fr.tr Fr.rf (Fr.mono (by decide) (by decide) (by decide) (fr_F_X4_tellWell σ)))) Fr.rf))))) Fr.rf)
set_option maxHeartbeats 4000000 in
set_option maxRecDepth 20000 in
theorem c_X4_tellItem (l : Launch) (D : va_G) (cI cZ : ClassId) (z : Nat) (ad : Nat → Nat) (σ τ : St) (hp : 0 ≤ (σ.1 448).toInt) (hq : 0 ≤ (σ.1 449).toInt) (hr_ : 0 ≤ (σ.1 450).toInt) : gM l yX4_tellItem cX4_tellItem 2 (some .boolean) 5 D cI cZ z (gws ad cI cZ σ τ) [.ref (ad 14), .ref (ad 1)] (some (.int (F_X4_tellItem σ).1)) (gws ad cI cZ (F_X4_tellItem σ).2 τ) := by
  refine g_met (own := RX4) (by decide) rfl (Nat.le_of_ble_eq_true rfl) (fun p e s m below meth c ls Q E hr hlk h hl hQ => ?_)
  have hx := E.1
  have hb := E.2.1
  have hF : (F_X4_tellItem σ) = (F_X4_tellItem σ) := rfl
  have hl : lv_has ls 2 [(0, .ref (ad 14)), (1, .ref (ad 1))] := hl
  refine lv_aload_n hx hb dX4_tellItem_0 rfl (lv_at hl 1 rfl) ?_
  refine g_callVi (rest := []) E h (c_X6_tokenKind l D cI cZ z ad σ τ) mw_300 cbX6_tokenKind 1 rfl rfl ⟨by decide, by decide⟩ rfl rfl hl.1 (Nat.le_of_ble_eq_true rfl) ⟨Nat.zero_le _, Nat.zero_le _⟩ dX4_tellItem_1 (fun H locs h => ?_)
  refine lv_iconst (v := 1) hx hb dX4_tellItem_4 (by decide) ?_
  refine lv_icmp_eq (tgt := 10) hx hb dX4_tellItem_5 (by decide) (fun c1 => ?_) (fun c1 => ?_)
  · have ic1 : (F_X6_tokenKind σ).toInt = 1 := i_eq c1
    have hF := (if_pos c1).symm.trans hF
    refine lv_aload_n hx hb dX4_tellItem_10 rfl (lv_at hl 1 rfl) ?_
    refine g_callVi (rest := []) E h (c_X6_tokenValue l D cI cZ z ad σ τ) mw_308 cbX6_tokenValue 1 rfl rfl ⟨by decide, by decide⟩ rfl rfl hl.1 (Nat.le_of_ble_eq_true rfl) ⟨Nat.zero_le _, Nat.zero_le _⟩ dX4_tellItem_11 (fun H locs h => ?_)
    by_cases t2 : (F_X6_tokenValue σ) = 99
    · have it2 : (F_X6_tokenValue σ).toInt = 99 := i_eq t2
      have hF := (if_pos t2).symm.trans hF
      refine lv_lookup (off := 62) (tgt := 76) hx hb dX4_tellItem_14 (by decide) (by rw [it2]; rfl) (by decide) ?_
      refine lv_aload_n hx hb dX4_tellItem_76 rfl (lv_at hl 0 rfl) ?_
      refine lv_aload_n hx hb dX4_tellItem_77 rfl (lv_at hl 1 rfl) ?_
      refine g_callVU (F_X4_tellCaravan σ) (fun u => gws ad cI cZ u τ) (rest := []) E h (c_X4_tellCaravan l D cI cZ z ad σ τ (show 0 ≤ (σ.1 450).toInt from by omega)) mw_327 cbX4_tellCaravan 14 rfl rfl ⟨by decide, by decide⟩ rfl rfl hl.1 (Nat.le_of_ble_eq_true rfl) ⟨Nat.zero_le _, Nat.zero_le _⟩ dX4_tellItem_78 (fun u3 huu3 H locs h => ?_)
      have hF : F_X4_tellItem_k78_4 σ u3 = (F_X4_tellItem σ) := by rw [← huu3]; exact hF
      have bu3 : u3.1 = 0 ∨ u3.1 = 1 := by rw [← huu3]; exact b01_F_X4_tellCaravan σ
      exact g_zret E hr hlk h hQ (nar01 bu3) (fst_of hF) (snd_of hF (fun u => gws ad cI cZ u τ)) dX4_tellItem_81
    · have it2 : (F_X6_tokenValue σ).toInt ≠ 99 := i_ne t2
      have hF := (if_neg t2).symm.trans hF
      by_cases t5 : (F_X6_tokenValue σ) = 100
      · have it5 : (F_X6_tokenValue σ).toInt = 100 := i_eq t5
        have hF := (if_pos t5).symm.trans hF
        refine lv_lookup (off := 74) (tgt := 88) hx hb dX4_tellItem_14 (by decide) (by rw [it5]; rfl) (by decide) ?_
        refine lv_aload_n hx hb dX4_tellItem_88 rfl (lv_at hl 0 rfl) ?_
        refine lv_aload_n hx hb dX4_tellItem_89 rfl (lv_at hl 1 rfl) ?_
        refine g_callVU (F_X4_tellDues σ) (fun u => gws ad cI cZ u τ) (rest := []) E h (c_X4_tellDues l D cI cZ z ad σ τ) mw_357 cbX4_tellDues 14 rfl rfl ⟨by decide, by decide⟩ rfl rfl hl.1 (Nat.le_of_ble_eq_true rfl) ⟨Nat.zero_le _, Nat.zero_le _⟩ dX4_tellItem_90 (fun u6 huu6 H locs h => ?_)
        have hF : F_X4_tellItem_k90_7 σ u6 = (F_X4_tellItem σ) := by rw [← huu6]; exact hF
        have bu6 : u6.1 = 0 ∨ u6.1 = 1 := by rw [← huu6]; exact b01_F_X4_tellDues σ
        exact g_zret E hr hlk h hQ (nar01 bu6) (fst_of hF) (snd_of hF (fun u => gws ad cI cZ u τ)) dX4_tellItem_93
      · have it5 : (F_X6_tokenValue σ).toInt ≠ 100 := i_ne t5
        have hF := (if_neg t5).symm.trans hF
        by_cases t8 : (F_X6_tokenValue σ) = 107
        · have it8 : (F_X6_tokenValue σ).toInt = 107 := i_eq t8
          have hF := (if_pos t8).symm.trans hF
          refine lv_lookup (off := 68) (tgt := 82) hx hb dX4_tellItem_14 (by decide) (by rw [it8]; rfl) (by decide) ?_
          refine lv_aload_n hx hb dX4_tellItem_82 rfl (lv_at hl 0 rfl) ?_
          refine lv_aload_n hx hb dX4_tellItem_83 rfl (lv_at hl 1 rfl) ?_
          refine g_callVU (F_X4_tellKnots σ) (fun u => gws ad cI cZ u τ) (rest := []) E h (c_X4_tellKnots l D cI cZ z ad σ τ) mw_346 cbX4_tellKnots 14 rfl rfl ⟨by decide, by decide⟩ rfl rfl hl.1 (Nat.le_of_ble_eq_true rfl) ⟨Nat.zero_le _, Nat.zero_le _⟩ dX4_tellItem_84 (fun u9 huu9 H locs h => ?_)
          have hF : F_X4_tellItem_k84_10 σ u9 = (F_X4_tellItem σ) := by rw [← huu9]; exact hF
          have bu9 : u9.1 = 0 ∨ u9.1 = 1 := by rw [← huu9]; exact b01_F_X4_tellKnots σ
          exact g_zret E hr hlk h hQ (nar01 bu9) (fst_of hF) (snd_of hF (fun u => gws ad cI cZ u τ)) dX4_tellItem_87
        · have it8 : (F_X6_tokenValue σ).toInt ≠ 107 := i_ne t8
          have hF := (if_neg t8).symm.trans hF
          by_cases t11 : (F_X6_tokenValue σ) = 115
          · have it11 : (F_X6_tokenValue σ).toInt = 115 := i_eq t11
            have hF := (if_pos t11).symm.trans hF
            refine lv_lookup (off := 56) (tgt := 70) hx hb dX4_tellItem_14 (by decide) (by rw [it11]; rfl) (by decide) ?_
            refine lv_aload_n hx hb dX4_tellItem_70 rfl (lv_at hl 0 rfl) ?_
            refine lv_aload_n hx hb dX4_tellItem_71 rfl (lv_at hl 1 rfl) ?_
            refine g_callVU (F_X4_tellStage σ) (fun u => gws ad cI cZ u τ) (rest := []) E h (c_X4_tellStage l D cI cZ z ad σ τ (show 0 ≤ (σ.1 449).toInt from by omega)) mw_323 cbX4_tellStage 14 rfl rfl ⟨by decide, by decide⟩ rfl rfl hl.1 (Nat.le_of_ble_eq_true rfl) ⟨Nat.zero_le _, Nat.zero_le _⟩ dX4_tellItem_72 (fun u12 huu12 H locs h => ?_)
            have hF : F_X4_tellItem_k72_13 σ u12 = (F_X4_tellItem σ) := by rw [← huu12]; exact hF
            have bu12 : u12.1 = 0 ∨ u12.1 = 1 := by rw [← huu12]; exact b01_F_X4_tellStage σ
            exact g_zret E hr hlk h hQ (nar01 bu12) (fst_of hF) (snd_of hF (fun u => gws ad cI cZ u τ)) dX4_tellItem_75
          · have it11 : (F_X6_tokenValue σ).toInt ≠ 115 := i_ne t11
            have hF := (if_neg t11).symm.trans hF
            by_cases t14 : (F_X6_tokenValue σ) = 119
            · have it14 : (F_X6_tokenValue σ).toInt = 119 := i_eq t14
              have hF := (if_pos t14).symm.trans hF
              refine lv_lookup (off := 50) (tgt := 64) hx hb dX4_tellItem_14 (by decide) (by rw [it14]; rfl) (by decide) ?_
              refine lv_aload_n hx hb dX4_tellItem_64 rfl (lv_at hl 0 rfl) ?_
              refine lv_aload_n hx hb dX4_tellItem_65 rfl (lv_at hl 1 rfl) ?_
              refine g_callVU (F_X4_tellWell σ) (fun u => gws ad cI cZ u τ) (rest := []) E h (c_X4_tellWell l D cI cZ z ad σ τ (show 0 ≤ (σ.1 448).toInt from by omega)) mw_312 cbX4_tellWell 14 rfl rfl ⟨by decide, by decide⟩ rfl rfl hl.1 (Nat.le_of_ble_eq_true rfl) ⟨Nat.zero_le _, Nat.zero_le _⟩ dX4_tellItem_66 (fun u15 huu15 H locs h => ?_)
              have hF : F_X4_tellItem_k66_16 σ u15 = (F_X4_tellItem σ) := by rw [← huu15]; exact hF
              have bu15 : u15.1 = 0 ∨ u15.1 = 1 := by rw [← huu15]; exact b01_F_X4_tellWell σ
              exact g_zret E hr hlk h hQ (nar01 bu15) (fst_of hF) (snd_of hF (fun u => gws ad cI cZ u τ)) dX4_tellItem_69
            · have it14 : (F_X6_tokenValue σ).toInt ≠ 119 := i_ne t14
              have hF := (if_neg t14).symm.trans hF
              refine lv_lookup (off := 80) (tgt := 94) hx hb dX4_tellItem_14 (by decide) (by simp [Op.lookupswitch.offset, it2.symm, it5.symm, it8.symm, it11.symm, it14.symm]) (by decide) ?_
              refine lv_iconst (v := 0) hx hb dX4_tellItem_94 (by decide) ?_
              exact g_zret E hr hlk h hQ (rfl) (fst_of hF) (snd_of hF (fun u => gws ad cI cZ u τ)) dX4_tellItem_95
  · have ic1 : (F_X6_tokenKind σ).toInt ≠ 1 := i_ne c1
    have hF := (if_neg c1).symm.trans hF
    refine lv_iconst (v := 0) hx hb dX4_tellItem_8 (by decide) ?_
    exact g_zret E hr hlk h hQ (rfl) (fst_of hF) (snd_of hF (fun u => gws ad cI cZ u τ)) dX4_tellItem_9

theorem e_F_X4_tellItem_k78_4 (σ : St) (u : Int32 × St) : F_X4_tellItem_k78_4 σ u = u := rfl
theorem e_F_X4_tellItem_k90_7 (σ : St) (u : Int32 × St) : F_X4_tellItem_k90_7 σ u = u := rfl
theorem e_F_X4_tellItem_k84_10 (σ : St) (u : Int32 × St) : F_X4_tellItem_k84_10 σ u = u := rfl
theorem e_F_X4_tellItem_k72_13 (σ : St) (u : Int32 × St) : F_X4_tellItem_k72_13 σ u = u := rfl
theorem e_F_X4_tellItem_k66_16 (σ : St) (u : Int32 × St) : F_X4_tellItem_k66_16 σ u = u := rfl
theorem cn_tellItem (σ : St) (h1 : 0 ≤ (σ.1 448).toInt) (h2 : 0 ≤ (σ.1 449).toInt) (h3 : 0 ≤ (σ.1 450).toInt) : 0 ≤ ((F_X4_tellItem σ).2.1 448).toInt ∧ 0 ≤ ((F_X4_tellItem σ).2.1 449).toInt ∧ 0 ≤ ((F_X4_tellItem σ).2.1 450).toInt := (cn3_ite (cn3_ite (by rw [e_F_X4_tellItem_k78_4]; exact ⟨(show 0 ≤ ((F_X4_tellCaravan σ).2.1 448).toInt from by rw [(fr_F_X4_tellCaravan σ).1 448 (by decide)]; exact h1), (show 0 ≤ ((F_X4_tellCaravan σ).2.1 449).toInt from by rw [(fr_F_X4_tellCaravan σ).1 449 (by decide)]; exact h2), (cn_F_X4_tellCaravan σ h3)⟩) (cn3_ite (by rw [e_F_X4_tellItem_k90_7]; exact ⟨(show 0 ≤ ((F_X4_tellDues σ).2.1 448).toInt from by rw [(fr_F_X4_tellDues σ).1 448 (by decide)]; exact h1), (show 0 ≤ ((F_X4_tellDues σ).2.1 449).toInt from by rw [(fr_F_X4_tellDues σ).1 449 (by decide)]; exact h2), (show 0 ≤ ((F_X4_tellDues σ).2.1 450).toInt from by rw [(fr_F_X4_tellDues σ).1 450 (by decide)]; exact h3)⟩) (cn3_ite (by rw [e_F_X4_tellItem_k84_10]; exact ⟨(show 0 ≤ ((F_X4_tellKnots σ).2.1 448).toInt from by rw [(fr_F_X4_tellKnots σ).1 448 (by decide)]; exact h1), (show 0 ≤ ((F_X4_tellKnots σ).2.1 449).toInt from by rw [(fr_F_X4_tellKnots σ).1 449 (by decide)]; exact h2), (show 0 ≤ ((F_X4_tellKnots σ).2.1 450).toInt from by rw [(fr_F_X4_tellKnots σ).1 450 (by decide)]; exact h3)⟩) (cn3_ite (by rw [e_F_X4_tellItem_k72_13]; exact ⟨(show 0 ≤ ((F_X4_tellStage σ).2.1 448).toInt from by rw [(fr_F_X4_tellStage σ).1 448 (by decide)]; exact h1), (cn_F_X4_tellStage σ h2), (show 0 ≤ ((F_X4_tellStage σ).2.1 450).toInt from by rw [(fr_F_X4_tellStage σ).1 450 (by decide)]; exact h3)⟩) (cn3_ite (by rw [e_F_X4_tellItem_k66_16]; exact ⟨(cn_F_X4_tellWell σ h1), (show 0 ≤ ((F_X4_tellWell σ).2.1 449).toInt from by rw [(fr_F_X4_tellWell σ).1 449 (by decide)]; exact h2), (show 0 ≤ ((F_X4_tellWell σ).2.1 450).toInt from by rw [(fr_F_X4_tellWell σ).1 450 (by decide)]; exact h3)⟩) ⟨h1, h2, h3⟩))))) ⟨h1, h2, h3⟩)

def F_X4_tellAll_k66_14 (lf32 : Int32 → St → (Int32 × St)) (σ : St) (u1 : St) (u3 : St) (u5 : St) (x2_32 : Int32) (m32 : St) (u10 : Int32 × St) (u13 : St) : Int32 × St := (lf32 (x2_32 + (1 : Int32)) u13)
def F_X4_tellAll_k48_11 (lf32 : Int32 → St → (Int32 × St)) (σ : St) (u1 : St) (u3 : St) (u5 : St) (x2_32 : Int32) (m32 : St) (u10 : Int32 × St) : Int32 × St := (if u10.1 = 0 then ((((-10) : Int32) - (F_X6_tokenPlace u10.2)), u10.2) else (F_X4_tellAll_k66_14 lf32 σ u1 u3 u5 x2_32 m32 u10 (F_X6_scan u10.2)))
def F_X4_tellAll_L32 : Nat → St → St → St → St → Int32 → St → Int32 × St
  | 0, _, _, _, _, _, m32 => (0, m32)
  | n + 1, σ, u1, u3, u5, x2_32, m32 => (if (F_X6_tokenKind m32) = 0 then (x2_32, m32) else (if (200 : Int32) ≤ x2_32 then (x2_32, m32) else (F_X4_tellAll_k48_11 (fun y1 y2 => F_X4_tellAll_L32  n σ u1 u3 u5 y1 y2) σ u1 u3 u5 x2_32 m32 (F_X4_tellItem m32))))
def F_X4_tellAll_k29_6 (σ : St) (u1 : St) (u3 : St) (u5 : St) : Int32 × St := (F_X4_tellAll_L32  201 σ u1 u3 u5 (0 : Int32) u5)
def F_X4_tellAll_k23_4 (σ : St) (u1 : St) (u3 : St) : Int32 × St := (F_X4_tellAll_k29_6 σ u1 u3 (F_X6_scan u3))
def F_X4_tellAll_k19_2 (σ : St) (u1 : St) : Int32 × St := (F_X4_tellAll_k23_4 σ u1 (F_X6_rewind u1))
def F_X4_tellAll (σ : St) : Int32 × St := (F_X4_tellAll_k19_2 σ (F_X2_wipe (si (si (si σ 448 (0 : Int32)) 449 (0 : Int32)) 450 (0 : Int32))))
abbrev I_X4_tellAll : List Nat := [34, 35, 36, 37, 448, 449, 450]
abbrev A_X4_tellAll : List Nat := [15, 16, 17, 18, 19, 20, 21, 23, 24]
theorem fr_F_X4_tellAll_k66_14 (lf32 : Int32 → St → (Int32 × St)) (σ : St) (u1 : St) (u3 : St) (u5 : St) (x2_32 : Int32) (m32 : St) (u10 : Int32 × St) (u13 : St) (hlf32 : ∀ (y1 : Int32) (m : St), Fr I_X4_tellAll A_X4_tellAll false σ m → Fr I_X4_tellAll A_X4_tellAll false σ (lf32 y1 m).2) (hfr : Fr I_X4_tellAll A_X4_tellAll false σ (u13)) : Fr I_X4_tellAll A_X4_tellAll false σ (F_X4_tellAll_k66_14 lf32 σ u1 u3 u5 x2_32 m32 u10 u13).2 := (hlf32 (x2_32 + (1 : Int32)) u13 hfr)
theorem fr_F_X4_tellAll_k48_11 (lf32 : Int32 → St → (Int32 × St)) (σ : St) (u1 : St) (u3 : St) (u5 : St) (x2_32 : Int32) (m32 : St) (u10 : Int32 × St) (hlf32 : ∀ (y1 : Int32) (m : St), Fr I_X4_tellAll A_X4_tellAll false σ m → Fr I_X4_tellAll A_X4_tellAll false σ (lf32 y1 m).2) (hfr : Fr I_X4_tellAll A_X4_tellAll false σ (u10.2)) : Fr I_X4_tellAll A_X4_tellAll false σ (F_X4_tellAll_k48_11 lf32 σ u1 u3 u5 x2_32 m32 u10).2 := (fr_ite2 hfr (fr_F_X4_tellAll_k66_14 lf32 σ u1 u3 u5 x2_32 m32 u10 (F_X6_scan u10.2) hlf32 (Fr.tr hfr (Fr.mono (by decide) (by decide) (by decide) (fr_F_X6_scan u10.2)))))
theorem fr_F_X4_tellAll_L32_w (σ : St) (u1 : St) (u3 : St) (u5 : St) : ∀ (n : Nat) (x2_32 : Int32) (m32 : St), Fr I_X4_tellAll A_X4_tellAll false σ m32 → Fr I_X4_tellAll A_X4_tellAll false σ (F_X4_tellAll_L32  n σ u1 u3 u5 x2_32 m32).2
  | 0, x2_32, m32, hfr => hfr
  | n + 1, x2_32, m32, hfr => (fr_ite2 hfr (fr_ite2 hfr (fr_F_X4_tellAll_k48_11 (fun y1 y2 => F_X4_tellAll_L32  n σ u1 u3 u5 y1 y2) σ u1 u3 u5 x2_32 m32 (F_X4_tellItem m32) (fun y1 y2 hy => fr_F_X4_tellAll_L32_w  σ u1 u3 u5  n y1 y2 hy) (Fr.tr hfr (Fr.mono (by decide) (by decide) (by decide) (fr_F_X4_tellItem m32))))))
theorem fr_F_X4_tellAll_L32 (n : Nat) (σ : St) (u1 : St) (u3 : St) (u5 : St) (x2_32 : Int32) (m32 : St) (hfr : Fr I_X4_tellAll A_X4_tellAll false σ (m32)) : Fr I_X4_tellAll A_X4_tellAll false σ (F_X4_tellAll_L32  n σ u1 u3 u5 x2_32 m32).2 := fr_F_X4_tellAll_L32_w  σ u1 u3 u5  n x2_32 m32 hfr
theorem fr_F_X4_tellAll_k29_6 (σ : St) (u1 : St) (u3 : St) (u5 : St) (hfr : Fr I_X4_tellAll A_X4_tellAll false σ (u5)) : Fr I_X4_tellAll A_X4_tellAll false σ (F_X4_tellAll_k29_6  σ u1 u3 u5).2 := (fr_F_X4_tellAll_L32  201 σ u1 u3 u5 (0 : Int32) u5 hfr)
theorem fr_F_X4_tellAll_k23_4 (σ : St) (u1 : St) (u3 : St) (hfr : Fr I_X4_tellAll A_X4_tellAll false σ (u3)) : Fr I_X4_tellAll A_X4_tellAll false σ (F_X4_tellAll_k23_4  σ u1 u3).2 := (fr_F_X4_tellAll_k29_6 σ u1 u3 (F_X6_scan u3) (Fr.tr hfr (Fr.mono (by decide) (by decide) (by decide) (fr_F_X6_scan u3))))
theorem fr_F_X4_tellAll_k19_2 (σ : St) (u1 : St) (hfr : Fr I_X4_tellAll A_X4_tellAll false σ (u1)) : Fr I_X4_tellAll A_X4_tellAll false σ (F_X4_tellAll_k19_2  σ u1).2 := (fr_F_X4_tellAll_k23_4 σ u1 (F_X6_rewind u1) (Fr.tr hfr (Fr.mono (by decide) (by decide) (by decide) (fr_F_X6_rewind u1))))
theorem fr_F_X4_tellAll (σ : St) : Fr I_X4_tellAll A_X4_tellAll false σ (F_X4_tellAll σ).2 := (fr_F_X4_tellAll_k19_2 σ (F_X2_wipe (si (si (si σ 448 (0 : Int32)) 449 (0 : Int32)) 450 (0 : Int32))) (Fr.tr (Fr.si (by decide) (Fr.si (by decide) (Fr.si (by decide) Fr.rf))) (Fr.mono (by decide) (by decide) (by decide) (fr_F_X2_wipe (si (si (si σ 448 (0 : Int32)) 449 (0 : Int32)) 450 (0 : Int32))))))
set_option maxHeartbeats 4000000 in
set_option maxRecDepth 20000 in
theorem c_X4_tellAll (l : Launch) (D : va_G) (cI cZ : ClassId) (z : Nat) (ad : Nat → Nat) (σ τ : St) : gM l yX4_tellAll cX4_tellAll 3 (some .int) 6 D cI cZ z (gws ad cI cZ σ τ) [.ref (ad 14), .ref (ad 1)] (some (.int (F_X4_tellAll σ).1)) (gws ad cI cZ (F_X4_tellAll σ).2 τ) := by
  refine g_met (own := RX4) (by decide) rfl (Nat.le_of_ble_eq_true rfl) (fun p e s m below meth c ls Q E hr hlk h hl hQ => ?_)
  have hx := E.1
  have hb := E.2.1
  have hF : (F_X4_tellAll σ) = (F_X4_tellAll σ) := rfl
  have hl : lv_has ls 3 [(0, .ref (ad 14)), (1, .ref (ad 1))] := hl
  refine lv_aload_n hx hb dX4_tellAll_0 rfl (lv_at hl 0 rfl) ?_
  refine lv_iconst (v := 0) hx hb dX4_tellAll_1 (by decide) ?_
  refine g_put (v := .int (0 : Int32)) (ty := .int) (ws' := gws ad cI cZ (si σ 448 (0 : Int32)) τ) E h 14 rfl rfl layX4 tyX4 tyX4_ok nmX4 0 (by decide) rfl mw_66 rfl rfl rfl rfl (Nat.le_of_ble_eq_true rfl) (gi_448 ad cI cZ σ τ (0 : Int32)) dX4_tellAll_2 (fun H locs h => ?_)
  refine lv_aload_n hx hb dX4_tellAll_5 rfl (lv_at hl 0 rfl) ?_
  refine lv_iconst (v := 0) hx hb dX4_tellAll_6 (by decide) ?_
  refine g_put (v := .int (0 : Int32)) (ty := .int) (ws' := gws ad cI cZ (si (si σ 448 (0 : Int32)) 449 (0 : Int32)) τ) E h 14 rfl rfl layX4 tyX4 tyX4_ok nmX4 1 (by decide) rfl mw_70 rfl rfl rfl rfl (Nat.le_of_ble_eq_true rfl) (gi_449 ad cI cZ (si σ 448 (0 : Int32)) τ (0 : Int32)) dX4_tellAll_7 (fun H locs h => ?_)
  refine lv_aload_n hx hb dX4_tellAll_10 rfl (lv_at hl 0 rfl) ?_
  refine lv_iconst (v := 0) hx hb dX4_tellAll_11 (by decide) ?_
  refine g_put (v := .int (0 : Int32)) (ty := .int) (ws' := gws ad cI cZ (si (si (si σ 448 (0 : Int32)) 449 (0 : Int32)) 450 (0 : Int32)) τ) E h 14 rfl rfl layX4 tyX4 tyX4_ok nmX4 2 (by decide) rfl mw_72 rfl rfl rfl rfl (Nat.le_of_ble_eq_true rfl) (gi_450 ad cI cZ (si (si σ 448 (0 : Int32)) 449 (0 : Int32)) τ (0 : Int32)) dX4_tellAll_12 (fun H locs h => ?_)
  refine lv_aload_n hx hb dX4_tellAll_15 rfl (lv_at hl 0 rfl) ?_
  refine g_get (v := .ref (ad 22)) E h 14 rfl rfl layX4 10 (by decide) rfl mw_81 rfl dX4_tellAll_16 ?_
  refine g_callVUv (F_X2_wipe (si (si (si σ 448 (0 : Int32)) 449 (0 : Int32)) 450 (0 : Int32))) (fun u => gws ad cI cZ u τ) (rest := []) E h (c_X2_wipe l D cI cZ z ad (si (si (si σ 448 (0 : Int32)) 449 (0 : Int32)) 450 (0 : Int32)) τ) mw_270 cbX2_wipe 22 rfl rfl ⟨by decide, by decide⟩ rfl rfl hl.1 (Nat.le_of_ble_eq_true rfl) ⟨Nat.zero_le _, Nat.zero_le _⟩ dX4_tellAll_19 (fun u1 huu1 H locs h => ?_)
  have hF : F_X4_tellAll_k19_2 σ u1 = (F_X4_tellAll σ) := by rw [← huu1]; exact hF
  have k448_u1 : (u1.1 448).toInt = 0 := by rw [← huu1]; exact congrArg Int32.toInt ((fr_F_X2_wipe (si (si (si σ 448 (0 : Int32)) 449 (0 : Int32)) 450 (0 : Int32))).1 448 (by decide))
  have k449_u1 : (u1.1 449).toInt = 0 := by rw [← huu1]; exact congrArg Int32.toInt ((fr_F_X2_wipe (si (si (si σ 448 (0 : Int32)) 449 (0 : Int32)) 450 (0 : Int32))).1 449 (by decide))
  have k450_u1 : (u1.1 450).toInt = 0 := by rw [← huu1]; exact congrArg Int32.toInt ((fr_F_X2_wipe (si (si (si σ 448 (0 : Int32)) 449 (0 : Int32)) 450 (0 : Int32))).1 450 (by decide))
  refine lv_aload_n hx hb dX4_tellAll_22 rfl (lv_at hl 1 rfl) ?_
  refine g_callVUv (F_X6_rewind u1) (fun u => gws ad cI cZ u τ) (rest := []) E h (c_X6_rewind l D cI cZ z ad u1 τ) mw_277 cbX6_rewind 1 rfl rfl ⟨by decide, by decide⟩ rfl rfl hl.1 (Nat.le_of_ble_eq_true rfl) ⟨Nat.zero_le _, Nat.zero_le _⟩ dX4_tellAll_23 (fun u3 huu3 H locs h => ?_)
  have hF : F_X4_tellAll_k23_4 σ u1 u3 = (F_X4_tellAll σ) := by rw [← huu3]; exact hF
  have k448_u3 : (u3.1 448).toInt = (u1.1 448).toInt := by rw [← huu3]; exact congrArg Int32.toInt ((fr_F_X6_rewind u1).1 448 (by decide))
  have k449_u3 : (u3.1 449).toInt = (u1.1 449).toInt := by rw [← huu3]; exact congrArg Int32.toInt ((fr_F_X6_rewind u1).1 449 (by decide))
  have k450_u3 : (u3.1 450).toInt = (u1.1 450).toInt := by rw [← huu3]; exact congrArg Int32.toInt ((fr_F_X6_rewind u1).1 450 (by decide))
  refine lv_iconst (v := 0) hx hb dX4_tellAll_26 (by decide) ?_
  refine lv_istore_n (lv' := [(2, .int (0 : Int32)), (0, .ref (ad 14)), (1, .ref (ad 1))]) hx hb dX4_tellAll_27 rfl hl (by decide) rfl (fun ls hl => ?_)
  refine lv_aload_n hx hb dX4_tellAll_28 rfl (lv_at hl 2 rfl) ?_
  refine g_callVUv (F_X6_scan u3) (fun u => gws ad cI cZ u τ) (rest := []) E h (c_X6_scan l D cI cZ z ad u3 τ) mw_281 cbX6_scan 1 rfl rfl ⟨by decide, by decide⟩ rfl rfl hl.1 (Nat.le_of_ble_eq_true rfl) ⟨Nat.zero_le _, Nat.zero_le _⟩ dX4_tellAll_29 (fun u5 huu5 H locs h => ?_)
  have hF : F_X4_tellAll_k29_6 σ u1 u3 u5 = (F_X4_tellAll σ) := by rw [← huu5]; exact hF
  have k448_u5 : (u5.1 448).toInt = (u3.1 448).toInt := by rw [← huu5]; exact congrArg Int32.toInt ((fr_F_X6_scan u3).1 448 (by decide))
  have k449_u5 : (u5.1 449).toInt = (u3.1 449).toInt := by rw [← huu5]; exact congrArg Int32.toInt ((fr_F_X6_scan u3).1 449 (by decide))
  have k450_u5 : (u5.1 450).toInt = (u3.1 450).toInt := by rw [← huu5]; exact congrArg Int32.toInt ((fr_F_X6_scan u3).1 450 (by decide))
  have L32 : ∀ (n32 : Nat) (x2_32 : Int32) (m32 : St) (H : Heap) (locs : List Loc) (ls : Array Slot), (0 ≤ x2_32.toInt ∧ x2_32.toInt ≤ 200 ∧ x2_32.toInt + n32 = 201 ∧ 0 ≤ (m32.1 448).toInt ∧ 0 ≤ (m32.1 449).toInt ∧ 0 ≤ (m32.1 450).toInt) → F_X4_tellAll_L32  n32 σ u1 u3 u5 x2_32 m32 = (F_X4_tellAll σ) → gH D z s (gws ad cI cZ m32 τ) H locs → lv_has ls 3 [(2, .int x2_32), (0, .ref (ad 14)), (1, .ref (ad 1))] → W p l e (rmH 6) s m ([.ref (ad 14), .ref (ad 1)] : List Value).toArray below meth c H locs 0 0 Q (F0 m 32 ls []) := by
    clear hF h hl
    intro n32
    induction n32 with
    | zero =>
      intro x2_32 m32 H locs ls hI
      exact absurd hI (by omega)
    | succ n32 ih32 =>
      intro x2_32 m32 H locs ls hI32 hF h hl
      refine lv_aload_n hx hb dX4_tellAll_32 rfl (lv_at hl 2 rfl) ?_
      refine g_callVi (rest := []) E h (c_X6_tokenKind l D cI cZ z ad m32 τ) mw_300 cbX6_tokenKind 1 rfl rfl ⟨by decide, by decide⟩ rfl rfl hl.1 (Nat.le_of_ble_eq_true rfl) ⟨Nat.zero_le _, Nat.zero_le _⟩ dX4_tellAll_33 (fun H locs h => ?_)
      refine lv_if_eq (tgt := 72) hx hb dX4_tellAll_36 (by decide) (fun c8 => ?_) (fun c8 => ?_)
      · have ic8 : (F_X6_tokenKind m32).toInt = 0 := i_eq c8
        have hF := (if_pos c8).symm.trans hF
        refine lv_iload_n hx hb dX4_tellAll_72 rfl (lv_at hl 0 rfl) ?_
        exact g_iret E hr hlk h hQ (fst_of hF) (snd_of hF (fun u => gws ad cI cZ u τ)) dX4_tellAll_73
      · have ic8 : (F_X6_tokenKind m32).toInt ≠ 0 := i_ne c8
        have hF := (if_neg c8).symm.trans hF
        refine lv_iload_n hx hb dX4_tellAll_39 rfl (lv_at hl 0 rfl) ?_
        refine lv_sipush (v := 200) hx hb dX4_tellAll_40 (by decide) ?_
        refine lv_icmp_ge (tgt := 72) hx hb dX4_tellAll_43 (by decide) (fun c9 => ?_) (fun c9 => ?_)
        · have ic9 : 200 ≤ x2_32.toInt := i_le c9
          have hF := (if_pos c9).symm.trans hF
          refine lv_iload_n hx hb dX4_tellAll_72 rfl (lv_at hl 0 rfl) ?_
          exact g_iret E hr hlk h hQ (fst_of hF) (snd_of hF (fun u => gws ad cI cZ u τ)) dX4_tellAll_73
        · have ic9 : x2_32.toInt < 200 := i_nle c9
          have hF := (if_neg c9).symm.trans hF
          refine lv_aload_n hx hb dX4_tellAll_46 rfl (lv_at hl 1 rfl) ?_
          refine lv_aload_n hx hb dX4_tellAll_47 rfl (lv_at hl 2 rfl) ?_
          refine g_callVU (F_X4_tellItem m32) (fun u => gws ad cI cZ u τ) (rest := []) E h (c_X4_tellItem l D cI cZ z ad m32 τ (show 0 ≤ (m32.1 448).toInt from by omega) (show 0 ≤ (m32.1 449).toInt from by omega) (show 0 ≤ (m32.1 450).toInt from by omega)) mw_304 cbX4_tellItem 14 rfl rfl ⟨by decide, by decide⟩ rfl rfl hl.1 (Nat.le_of_ble_eq_true rfl) ⟨Nat.zero_le _, Nat.zero_le _⟩ dX4_tellAll_48 (fun u10 huu10 H locs h => ?_)
          have hF : F_X4_tellAll_k48_11 (fun y1 y2 => F_X4_tellAll_L32  n32 σ u1 u3 u5 y1 y2) σ u1 u3 u5 x2_32 m32 u10 = (F_X4_tellAll σ) := by rw [← huu10]; exact hF
          have ctu10 := cn_tellItem m32 (by omega) (by omega) (by omega)
          rw [huu10] at ctu10
          refine lv_if_ne (tgt := 62) hx hb dX4_tellAll_51 (by decide) (fun c12 => ?_) (fun c12 => ?_)
          · have ic12 : u10.1.toInt ≠ 0 := i_ne c12
            have hF := (if_neg c12).symm.trans hF
            refine lv_iinc (v := (x2_32 + (1 : Int32))) (lv' := [(2, .int (x2_32 + (1 : Int32))), (0, .ref (ad 14)), (1, .ref (ad 1))]) hx hb dX4_tellAll_62 hl (k := 0) rfl rfl (by decide) rfl (fun ls hl => ?_)
            refine lv_aload_n hx hb dX4_tellAll_65 rfl (lv_at hl 2 rfl) ?_
            refine g_callVUv (F_X6_scan u10.2) (fun u => gws ad cI cZ u τ) (rest := []) E h (c_X6_scan l D cI cZ z ad u10.2 τ) mw_281 cbX6_scan 1 rfl rfl ⟨by decide, by decide⟩ rfl rfl hl.1 (Nat.le_of_ble_eq_true rfl) ⟨Nat.zero_le _, Nat.zero_le _⟩ dX4_tellAll_66 (fun u13 huu13 H locs h => ?_)
            have hF : F_X4_tellAll_k66_14 (fun y1 y2 => F_X4_tellAll_L32  n32 σ u1 u3 u5 y1 y2) σ u1 u3 u5 x2_32 m32 u10 u13 = (F_X4_tellAll σ) := by rw [← huu13]; exact hF
            have k448_u13 : (u13.1 448).toInt = (u10.2.1 448).toInt := by rw [← huu13]; exact congrArg Int32.toInt ((fr_F_X6_scan u10.2).1 448 (by decide))
            have k449_u13 : (u13.1 449).toInt = (u10.2.1 449).toInt := by rw [← huu13]; exact congrArg Int32.toInt ((fr_F_X6_scan u10.2).1 449 (by decide))
            have k450_u13 : (u13.1 450).toInt = (u10.2.1 450).toInt := by rw [← huu13]; exact congrArg Int32.toInt ((fr_F_X6_scan u10.2).1 450 (by decide))
            refine lv_goto (tgt := 32) hx hb dX4_tellAll_69 (by decide) ?_
            have e32_2 : (x2_32 + (1 : Int32)).toInt = _ := ti_of (oI_add (oI_at x2_32) (oI_lit (x := 1) (a := 1) rfl)) (by omega)
            exact ih32 (x2_32 + (1 : Int32)) u13 _ _ ls ((show 0 ≤ (x2_32 + (1 : Int32)).toInt ∧ (x2_32 + (1 : Int32)).toInt ≤ 200 ∧ (x2_32 + (1 : Int32)).toInt + n32 = 201 ∧ 0 ≤ (u13.1 448).toInt ∧ 0 ≤ (u13.1 449).toInt ∧ 0 ≤ (u13.1 450).toInt from by omega)) hF h (lv_sub hl [0, 1, 2] rfl)
          · have ic12 : u10.1.toInt = 0 := i_eq c12
            have hF := (if_pos c12).symm.trans hF
            refine lv_bipush (v := (-10)) hx hb dX4_tellAll_54 (by decide) ?_
            refine lv_aload_n hx hb dX4_tellAll_56 rfl (lv_at hl 2 rfl) ?_
            refine g_callVi (rest := [.int ((-10) : Int32)]) E h (c_X6_tokenPlace l D cI cZ z ad u10.2 τ) mw_365 cbX6_tokenPlace 1 rfl rfl ⟨by decide, by decide⟩ rfl rfl hl.1 (Nat.le_of_ble_eq_true rfl) ⟨Nat.zero_le _, Nat.zero_le _⟩ dX4_tellAll_57 (fun H locs h => ?_)
            refine lv_isub hx hb dX4_tellAll_60 ?_
            exact g_iret E hr hlk h hQ (fst_of hF) (snd_of hF (fun u => gws ad cI cZ u τ)) dX4_tellAll_61
  have q32_2 : (0 : Int32).toInt = 0 := rfl
  exact L32 201 (0 : Int32) u5 _ _ ls ((show 0 ≤ (0 : Int32).toInt ∧ (0 : Int32).toInt ≤ 200 ∧ (0 : Int32).toInt + (201 : Nat) = 201 ∧ 0 ≤ (u5.1 448).toInt ∧ 0 ≤ (u5.1 449).toInt ∧ 0 ≤ (u5.1 450).toInt from by omega)) hF h (lv_sub hl [0, 1, 2] rfl)
