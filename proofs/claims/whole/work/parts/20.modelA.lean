def F_X9_in (a1 : Int32) (a2 : Int32) (a3 : Int32) : Int32 := (if a1 < a2 then (0 : Int32) else (if a3 < a1 then (0 : Int32) else (1 : Int32)))
set_option maxHeartbeats 4000000 in
set_option maxRecDepth 20000 in
theorem c_X9_in (l : Launch) (D : va_G) (cI cZ : ClassId) (z : Nat) (ws : va_W) (a1 a2 a3 : Int32) : gM l yX9_in cX9_in 3 (some .boolean) 1 D cI cZ z ws [.int a1, .int a2, .int a3] (some (.int (F_X9_in a1 a2 a3))) ws := by
  refine g_met (own := RX9) (by decide) rfl (Nat.le_of_ble_eq_true rfl) (fun p e s m below meth c ls Q E hr hlk h hl hQ => ?_)
  have hx := E.1
  have hb := E.2.1
  have hF : (F_X9_in a1 a2 a3) = (F_X9_in a1 a2 a3) := rfl
  have hl : lv_has ls 3 [(0, .int a1), (1, .int a2), (2, .int a3)] := hl
  refine lv_iload_n hx hb dX9_in_0 rfl (lv_at hl 0 rfl) ?_
  refine lv_iload_n hx hb dX9_in_1 rfl (lv_at hl 1 rfl) ?_
  refine lv_icmp_lt (tgt := 14) hx hb dX9_in_2 (by decide) (fun c1 => ?_) (fun c1 => ?_)
  · have ic1 : a1.toInt < a2.toInt := i_lt c1
    have hF := (if_pos c1).symm.trans hF
    refine lv_iconst (v := 0) hx hb dX9_in_14 (by decide) ?_
    exact g_zret E hr hlk h hQ (rfl) hF rfl dX9_in_15
  · have ic1 : a2.toInt ≤ a1.toInt := i_nlt c1
    have hF := (if_neg c1).symm.trans hF
    refine lv_iload_n hx hb dX9_in_5 rfl (lv_at hl 0 rfl) ?_
    refine lv_iload_n hx hb dX9_in_6 rfl (lv_at hl 2 rfl) ?_
    refine lv_icmp_gt (tgt := 14) hx hb dX9_in_7 (by decide) (fun c2 => ?_) (fun c2 => ?_)
    · have ic2 : a3.toInt < a1.toInt := i_lt c2
      have hF := (if_pos c2).symm.trans hF
      refine lv_iconst (v := 0) hx hb dX9_in_14 (by decide) ?_
      exact g_zret E hr hlk h hQ (rfl) hF rfl dX9_in_15
    · have ic2 : a1.toInt ≤ a3.toInt := i_nlt c2
      have hF := (if_neg c2).symm.trans hF
      refine lv_iconst (v := 1) hx hb dX9_in_10 (by decide) ?_
      refine lv_goto (tgt := 15) hx hb dX9_in_11 (by decide) ?_
      exact g_zret E hr hlk h hQ (rfl) hF rfl dX9_in_15

theorem fz_in {n lo hi : Int32} (h : ¬ F_X9_in n lo hi = 0) : lo.toInt ≤ n.toInt ∧ n.toInt ≤ hi.toInt := by
  unfold F_X9_in at h
  split at h
  · exact absurd rfl h
  · rename_i h1
    split at h
    · exact absurd rfl h
    · rename_i h2
      exact ⟨i_nlt h1, i_nlt h2⟩

def F_X9_has (a1 : Int32) (a2 : Int32) : Int32 := (if ((a1 >>> (a2 &&& 31)) &&& (1 : Int32)) = (1 : Int32) then (1 : Int32) else (0 : Int32))
set_option maxHeartbeats 4000000 in
set_option maxRecDepth 20000 in
theorem c_X9_has (l : Launch) (D : va_G) (cI cZ : ClassId) (z : Nat) (ws : va_W) (a1 a2 : Int32) : gM l yX9_has cX9_has 2 (some .boolean) 1 D cI cZ z ws [.int a1, .int a2] (some (.int (F_X9_has a1 a2))) ws := by
  refine g_met (own := RX9) (by decide) rfl (Nat.le_of_ble_eq_true rfl) (fun p e s m below meth c ls Q E hr hlk h hl hQ => ?_)
  have hx := E.1
  have hb := E.2.1
  have hF : (F_X9_has a1 a2) = (F_X9_has a1 a2) := rfl
  have hl : lv_has ls 2 [(0, .int a1), (1, .int a2)] := hl
  refine lv_iload_n hx hb dX9_has_0 rfl (lv_at hl 0 rfl) ?_
  refine lv_iload_n hx hb dX9_has_1 rfl (lv_at hl 1 rfl) ?_
  refine lv_ishr hx hb dX9_has_2 ?_
  refine lv_iconst (v := 1) hx hb dX9_has_3 (by decide) ?_
  refine lv_iand hx hb dX9_has_4 ?_
  refine lv_iconst (v := 1) hx hb dX9_has_5 (by decide) ?_
  refine lv_icmp_ne (tgt := 13) hx hb dX9_has_6 (by decide) (fun c1 => ?_) (fun c1 => ?_)
  · have ic1 : ((a1 >>> (a2 &&& 31)) &&& (1 : Int32)).toInt ≠ 1 := i_ne c1
    have hF := (if_neg c1).symm.trans hF
    refine lv_iconst (v := 0) hx hb dX9_has_13 (by decide) ?_
    exact g_zret E hr hlk h hQ (rfl) hF rfl dX9_has_14
  · have ic1 : ((a1 >>> (a2 &&& 31)) &&& (1 : Int32)).toInt = 1 := i_eq c1
    have hF := (if_pos c1).symm.trans hF
    refine lv_iconst (v := 1) hx hb dX9_has_9 (by decide) ?_
    refine lv_goto (tgt := 14) hx hb dX9_has_10 (by decide) ?_
    exact g_zret E hr hlk h hQ (rfl) hF rfl dX9_has_14

theorem b1_F_X9_in (a b c : Int32) : F_X9_in a b c = 0 ∨ F_X9_in a b c = 1 := by
  unfold F_X9_in
  split
  · exact Or.inl rfl
  · split
    · exact Or.inl rfl
    · exact Or.inr rfl
theorem b1_F_X9_has (a b : Int32) : F_X9_has a b = 0 ∨ F_X9_has a b = 1 := by
  unfold F_X9_has
  split
  · first | exact Or.inl rfl | exact Or.inr rfl
  · first | exact Or.inl rfl | exact Or.inr rfl

def F_X9_ones_L4 : Nat → Int32 → Int32 → Int32 → Int32
  | 0, _, _, _ => 0
  | n + 1, a1, x2_4, x1_4 => (if (6 : Int32) ≤ x2_4 then x1_4 else (F_X9_ones_L4  n a1 (x2_4 + (1 : Int32)) (x1_4 + ((a1 >>> (x2_4 &&& 31)) &&& (1 : Int32)))))
def F_X9_ones (a1 : Int32) : Int32 := (F_X9_ones_L4  7 a1 (0 : Int32) (0 : Int32))
set_option maxHeartbeats 4000000 in
set_option maxRecDepth 20000 in
theorem c_X9_ones (l : Launch) (D : va_G) (cI cZ : ClassId) (z : Nat) (ws : va_W) (a1 : Int32) : gM l yX9_ones cX9_ones 3 (some .int) 1 D cI cZ z ws [.int a1] (some (.int (F_X9_ones a1))) ws := by
  refine g_met (own := RX9) (by decide) rfl (Nat.le_of_ble_eq_true rfl) (fun p e s m below meth c ls Q E hr hlk h hl hQ => ?_)
  have hx := E.1
  have hb := E.2.1
  have hF : (F_X9_ones a1) = (F_X9_ones a1) := rfl
  have hl : lv_has ls 3 [(0, .int a1)] := hl
  refine lv_iconst (v := 0) hx hb dX9_ones_0 (by decide) ?_
  refine lv_istore_n (lv' := [(1, .int (0 : Int32)), (0, .int a1)]) hx hb dX9_ones_1 rfl hl (by decide) rfl (fun ls hl => ?_)
  refine lv_iconst (v := 0) hx hb dX9_ones_2 (by decide) ?_
  refine lv_istore_n (lv' := [(2, .int (0 : Int32)), (1, .int (0 : Int32)), (0, .int a1)]) hx hb dX9_ones_3 rfl hl (by decide) rfl (fun ls hl => ?_)
  have L4 : ∀ (n4 : Nat) (x2_4 : Int32) (x1_4 : Int32) (H : Heap) (locs : List Loc) (ls : Array Slot), (0 ≤ x2_4.toInt ∧ x2_4.toInt ≤ 6 ∧ x2_4.toInt + n4 = 7) → F_X9_ones_L4  n4 a1 x2_4 x1_4 = (F_X9_ones a1) → gH D z s (ws) H locs → lv_has ls 3 [(2, .int x2_4), (1, .int x1_4), (0, .int a1)] → W p l e (rmH 1) s m ([.int a1] : List Value).toArray below meth c H locs 0 0 Q (F0 m 4 ls []) := by
    clear hF h hl
    intro n4
    induction n4 with
    | zero =>
      intro x2_4 x1_4 H locs ls hI
      exact absurd hI (by omega)
    | succ n4 ih4 =>
      intro x2_4 x1_4 H locs ls hI4 hF h hl
      refine lv_iload_n hx hb dX9_ones_4 rfl (lv_at hl 0 rfl) ?_
      refine lv_bipush (v := 6) hx hb dX9_ones_5 (by decide) ?_
      refine lv_icmp_ge (tgt := 24) hx hb dX9_ones_7 (by decide) (fun c2 => ?_) (fun c2 => ?_)
      · have ic2 : 6 ≤ x2_4.toInt := i_le c2
        have hF := (if_pos c2).symm.trans hF
        refine lv_iload_n hx hb dX9_ones_24 rfl (lv_at hl 1 rfl) ?_
        exact g_iret E hr hlk h hQ hF rfl dX9_ones_25
      · have ic2 : x2_4.toInt < 6 := i_nle c2
        have hF := (if_neg c2).symm.trans hF
        refine lv_iload_n hx hb dX9_ones_10 rfl (lv_at hl 1 rfl) ?_
        refine lv_iload_n hx hb dX9_ones_11 rfl (lv_at hl 2 rfl) ?_
        refine lv_iload_n hx hb dX9_ones_12 rfl (lv_at hl 0 rfl) ?_
        refine lv_ishr hx hb dX9_ones_13 ?_
        refine lv_iconst (v := 1) hx hb dX9_ones_14 (by decide) ?_
        refine lv_iand hx hb dX9_ones_15 ?_
        refine lv_iadd hx hb dX9_ones_16 ?_
        refine lv_istore_n (lv' := [(1, .int (x1_4 + ((a1 >>> (x2_4 &&& 31)) &&& (1 : Int32)))), (2, .int x2_4), (0, .int a1)]) hx hb dX9_ones_17 rfl hl (by decide) rfl (fun ls hl => ?_)
        refine lv_iinc (v := (x2_4 + (1 : Int32))) (lv' := [(2, .int (x2_4 + (1 : Int32))), (1, .int (x1_4 + ((a1 >>> (x2_4 &&& 31)) &&& (1 : Int32)))), (0, .int a1)]) hx hb dX9_ones_18 hl (k := 1) rfl rfl (by decide) rfl (fun ls hl => ?_)
        refine lv_goto (tgt := 4) hx hb dX9_ones_21 (by decide) ?_
        have e4_2 : (x2_4 + (1 : Int32)).toInt = _ := ti_of (oI_add (oI_at x2_4) (oI_lit (x := 1) (a := 1) rfl)) (by omega)
        exact ih4 (x2_4 + (1 : Int32)) (x1_4 + ((a1 >>> (x2_4 &&& 31)) &&& (1 : Int32))) _ _ ls ((show 0 ≤ (x2_4 + (1 : Int32)).toInt ∧ (x2_4 + (1 : Int32)).toInt ≤ 6 ∧ (x2_4 + (1 : Int32)).toInt + n4 = 7 from by omega)) hF h (lv_sub hl [0, 1, 2] rfl)
  have q4_2 : (0 : Int32).toInt = 0 := rfl
  exact L4 7 (0 : Int32) (0 : Int32) _ _ ls ((show 0 ≤ (0 : Int32).toInt ∧ (0 : Int32).toInt ≤ 6 ∧ (0 : Int32).toInt + (7 : Nat) = 7 from by omega)) hF h (lv_sub hl [0, 1, 2] rfl)

def F_X9_isWell (τ : St) (a1 : Int32) : Int32 := (F_X9_in a1 (0 : Int32) (((τ.2.1 50) 0) - (1 : Int32)))
set_option maxHeartbeats 4000000 in
set_option maxRecDepth 20000 in
theorem c_X9_isWell (l : Launch) (D : va_G) (cI cZ : ClassId) (z : Nat) (ad : Nat → Nat) (σ τ : St) (a1 : Int32) : gM l yX9_isWell cX9_isWell 2 (some .boolean) 2 D cI cZ z (gws ad cI cZ σ τ) [.ref (ad 48), .int a1] (some (.int (F_X9_isWell τ a1))) (gws ad cI cZ σ τ) := by
  refine g_met (own := RX9) (by decide) rfl (Nat.le_of_ble_eq_true rfl) (fun p e s m below meth c ls Q E hr hlk h hl hQ => ?_)
  have hx := E.1
  have hb := E.2.1
  have hF : (F_X9_isWell τ a1) = (F_X9_isWell τ a1) := rfl
  have hl : lv_has ls 2 [(0, .ref (ad 48)), (1, .int a1)] := hl
  refine lv_iload_n hx hb dX9_isWell_0 rfl (lv_at hl 1 rfl) ?_
  refine lv_iconst (v := 0) hx hb dX9_isWell_1 (by decide) ?_
  refine lv_aload_n hx hb dX9_isWell_2 rfl (lv_at hl 0 rfl) ?_
  refine g_get (v := .ref (ad 50)) E h 48 rfl rfl layX9 3 (by decide) rfl mw_822 rfl dX9_isWell_3 ?_
  refine lv_iconst (v := 0) hx hb dX9_isWell_6 (by decide) ?_
  refine g_ialdk (f := (τ.2.1 50)) E h 50 rfl 0 rfl (ix_of (oI_lit (x := 0) (a := 0) rfl) (by omega) (by decide)) dX9_isWell_7 ?_
  refine lv_iconst (v := 1) hx hb dX9_isWell_8 (by decide) ?_
  refine lv_isub hx hb dX9_isWell_9 ?_
  refine g_callSi (rest := []) E h (c_X9_in l D cI cZ z (gws ad cI cZ σ τ) a1 (0 : Int32) (((τ.2.1 50) 0) - (1 : Int32))) mw_789 cbX9_in ⟨by decide, by decide⟩ rfl rfl hl.1 (Nat.le_of_ble_eq_true rfl) ⟨Nat.zero_le _, Nat.zero_le _⟩ dX9_isWell_10 (fun H locs h => ?_)
  exact g_zret E hr hlk h hQ (nar01 (b1_F_X9_in a1 (0 : Int32) (((τ.2.1 50) 0) - (1 : Int32)))) hF rfl dX9_isWell_13

theorem fz9_isWell {τ : St} {w : Int32} (h : ¬ F_X9_isWell τ w = 0) (h2 : 0 ≤ (τ.2.1 50 0).toInt) : 0 ≤ w.toInt ∧ w.toInt < (τ.2.1 50 0).toInt := by
  have := fz_in (n := w) (lo := 0) (hi := τ.2.1 50 0 - 1) h
  rw [ti_of (oI_sub (oI_at (τ.2.1 50 0)) (oI_lit (x := 1) (a := 1) rfl)) (by have := Int32.toInt_lt (τ.2.1 50 0); omega)] at this
  have h0 : (0 : Int32).toInt = 0 := rfl
  omega

def F_X9_isStage (τ : St) (a1 : Int32) : Int32 := (F_X9_in a1 (0 : Int32) (((τ.2.1 50) 1) - (1 : Int32)))
set_option maxHeartbeats 4000000 in
set_option maxRecDepth 20000 in
theorem c_X9_isStage (l : Launch) (D : va_G) (cI cZ : ClassId) (z : Nat) (ad : Nat → Nat) (σ τ : St) (a1 : Int32) : gM l yX9_isStage cX9_isStage 2 (some .boolean) 2 D cI cZ z (gws ad cI cZ σ τ) [.ref (ad 48), .int a1] (some (.int (F_X9_isStage τ a1))) (gws ad cI cZ σ τ) := by
  refine g_met (own := RX9) (by decide) rfl (Nat.le_of_ble_eq_true rfl) (fun p e s m below meth c ls Q E hr hlk h hl hQ => ?_)
  have hx := E.1
  have hb := E.2.1
  have hF : (F_X9_isStage τ a1) = (F_X9_isStage τ a1) := rfl
  have hl : lv_has ls 2 [(0, .ref (ad 48)), (1, .int a1)] := hl
  refine lv_iload_n hx hb dX9_isStage_0 rfl (lv_at hl 1 rfl) ?_
  refine lv_iconst (v := 0) hx hb dX9_isStage_1 (by decide) ?_
  refine lv_aload_n hx hb dX9_isStage_2 rfl (lv_at hl 0 rfl) ?_
  refine g_get (v := .ref (ad 50)) E h 48 rfl rfl layX9 3 (by decide) rfl mw_822 rfl dX9_isStage_3 ?_
  refine lv_iconst (v := 1) hx hb dX9_isStage_6 (by decide) ?_
  refine g_ialdk (f := (τ.2.1 50)) E h 50 rfl 1 rfl (ix_of (oI_lit (x := 1) (a := 1) rfl) (by omega) (by decide)) dX9_isStage_7 ?_
  refine lv_iconst (v := 1) hx hb dX9_isStage_8 (by decide) ?_
  refine lv_isub hx hb dX9_isStage_9 ?_
  refine g_callSi (rest := []) E h (c_X9_in l D cI cZ z (gws ad cI cZ σ τ) a1 (0 : Int32) (((τ.2.1 50) 1) - (1 : Int32))) mw_789 cbX9_in ⟨by decide, by decide⟩ rfl rfl hl.1 (Nat.le_of_ble_eq_true rfl) ⟨Nat.zero_le _, Nat.zero_le _⟩ dX9_isStage_10 (fun H locs h => ?_)
  exact g_zret E hr hlk h hQ (nar01 (b1_F_X9_in a1 (0 : Int32) (((τ.2.1 50) 1) - (1 : Int32)))) hF rfl dX9_isStage_13

theorem fz9_isStage {τ : St} {w : Int32} (h : ¬ F_X9_isStage τ w = 0) (h2 : 0 ≤ (τ.2.1 50 1).toInt) : 0 ≤ w.toInt ∧ w.toInt < (τ.2.1 50 1).toInt := by
  have := fz_in (n := w) (lo := 0) (hi := τ.2.1 50 1 - 1) h
  rw [ti_of (oI_sub (oI_at (τ.2.1 50 1)) (oI_lit (x := 1) (a := 1) rfl)) (by have := Int32.toInt_lt (τ.2.1 50 1); omega)] at this
  have h0 : (0 : Int32).toInt = 0 := rfl
  omega

def F_X9_isCaravan (τ : St) (a1 : Int32) : Int32 := (F_X9_in a1 (0 : Int32) (((τ.2.1 50) 2) - (1 : Int32)))
set_option maxHeartbeats 4000000 in
set_option maxRecDepth 20000 in
theorem c_X9_isCaravan (l : Launch) (D : va_G) (cI cZ : ClassId) (z : Nat) (ad : Nat → Nat) (σ τ : St) (a1 : Int32) : gM l yX9_isCaravan cX9_isCaravan 2 (some .boolean) 2 D cI cZ z (gws ad cI cZ σ τ) [.ref (ad 48), .int a1] (some (.int (F_X9_isCaravan τ a1))) (gws ad cI cZ σ τ) := by
  refine g_met (own := RX9) (by decide) rfl (Nat.le_of_ble_eq_true rfl) (fun p e s m below meth c ls Q E hr hlk h hl hQ => ?_)
  have hx := E.1
  have hb := E.2.1
  have hF : (F_X9_isCaravan τ a1) = (F_X9_isCaravan τ a1) := rfl
  have hl : lv_has ls 2 [(0, .ref (ad 48)), (1, .int a1)] := hl
  refine lv_iload_n hx hb dX9_isCaravan_0 rfl (lv_at hl 1 rfl) ?_
  refine lv_iconst (v := 0) hx hb dX9_isCaravan_1 (by decide) ?_
  refine lv_aload_n hx hb dX9_isCaravan_2 rfl (lv_at hl 0 rfl) ?_
  refine g_get (v := .ref (ad 50)) E h 48 rfl rfl layX9 3 (by decide) rfl mw_822 rfl dX9_isCaravan_3 ?_
  refine lv_iconst (v := 2) hx hb dX9_isCaravan_6 (by decide) ?_
  refine g_ialdk (f := (τ.2.1 50)) E h 50 rfl 2 rfl (ix_of (oI_lit (x := 2) (a := 2) rfl) (by omega) (by decide)) dX9_isCaravan_7 ?_
  refine lv_iconst (v := 1) hx hb dX9_isCaravan_8 (by decide) ?_
  refine lv_isub hx hb dX9_isCaravan_9 ?_
  refine g_callSi (rest := []) E h (c_X9_in l D cI cZ z (gws ad cI cZ σ τ) a1 (0 : Int32) (((τ.2.1 50) 2) - (1 : Int32))) mw_789 cbX9_in ⟨by decide, by decide⟩ rfl rfl hl.1 (Nat.le_of_ble_eq_true rfl) ⟨Nat.zero_le _, Nat.zero_le _⟩ dX9_isCaravan_10 (fun H locs h => ?_)
  exact g_zret E hr hlk h hQ (nar01 (b1_F_X9_in a1 (0 : Int32) (((τ.2.1 50) 2) - (1 : Int32)))) hF rfl dX9_isCaravan_13

theorem fz9_isCaravan {τ : St} {w : Int32} (h : ¬ F_X9_isCaravan τ w = 0) (h2 : 0 ≤ (τ.2.1 50 2).toInt) : 0 ≤ w.toInt ∧ w.toInt < (τ.2.1 50 2).toInt := by
  have := fz_in (n := w) (lo := 0) (hi := τ.2.1 50 2 - 1) h
  rw [ti_of (oI_sub (oI_at (τ.2.1 50 2)) (oI_lit (x := 1) (a := 1) rfl)) (by have := Int32.toInt_lt (τ.2.1 50 2); omega)] at this
  have h0 : (0 : Int32).toInt = 0 := rfl
  omega

def F_X9_type (τ : St) (a1 : Int32) : Int32 × St := (if (F_X9_in a1 (0 : Int32) (255 : Int32)) = 0 then (((-1) : Int32), τ) else (if (τ.1 1538) = (200 : Int32) then (((-3) : Int32), τ) else (((τ.1 1538) + (1 : Int32)), (si (sa τ 49 (upd (τ.2.1 49) (τ.1 1538).toNatClampNeg a1)) 1538 ((τ.1 1538) + (1 : Int32))))))
abbrev I_X9_type : List Nat := [1538]
abbrev A_X9_type : List Nat := [49]
theorem fr_F_X9_type (τ : St) (a1 : Int32) : Fr I_X9_type A_X9_type false τ (F_X9_type τ a1).2 := (fr_ite2 Fr.rf (fr_ite2 Fr.rf (Fr.si (by decide) (Fr.sa (by decide) Fr.rf))))
set_option maxHeartbeats 4000000 in
set_option maxRecDepth 20000 in
theorem c_X9_type (l : Launch) (D : va_G) (cI cZ : ClassId) (z : Nat) (ad : Nat → Nat) (σ τ : St) (a1 : Int32) (ht_ : 0 ≤ (τ.1 1538).toInt ∧ (τ.1 1538).toInt ≤ 200) : gM l yX9_type cX9_type 2 (some .int) 2 D cI cZ z (gws ad cI cZ σ τ) [.ref (ad 48), .int a1] (some (.int (F_X9_type τ a1).1)) (gws ad cI cZ σ (F_X9_type τ a1).2) := by
  refine g_met (own := RX9) (by decide) rfl (Nat.le_of_ble_eq_true rfl) (fun p e s m below meth c ls Q E hr hlk h hl hQ => ?_)
  have hx := E.1
  have hb := E.2.1
  have hF : (F_X9_type τ a1) = (F_X9_type τ a1) := rfl
  have hl : lv_has ls 2 [(0, .ref (ad 48)), (1, .int a1)] := hl
  refine lv_iload_n hx hb dX9_type_0 rfl (lv_at hl 1 rfl) ?_
  refine lv_iconst (v := 0) hx hb dX9_type_1 (by decide) ?_
  refine lv_sipush (v := 255) hx hb dX9_type_2 (by decide) ?_
  refine g_callSi (rest := []) E h (c_X9_in l D cI cZ z (gws ad cI cZ σ τ) a1 (0 : Int32) (255 : Int32)) mw_789 cbX9_in ⟨by decide, by decide⟩ rfl rfl hl.1 (Nat.le_of_ble_eq_true rfl) ⟨Nat.zero_le _, Nat.zero_le _⟩ dX9_type_5 (fun H locs h => ?_)
  refine lv_if_ne (tgt := 13) hx hb dX9_type_8 (by decide) (fun c1 => ?_) (fun c1 => ?_)
  · have ic1 : (F_X9_in a1 (0 : Int32) (255 : Int32)).toInt ≠ 0 := i_ne c1
    have jc1 : 0 ≤ a1.toInt ∧ a1.toInt ≤ 255 := fz_in c1
    have hF := (if_neg c1).symm.trans hF
    refine lv_aload_n hx hb dX9_type_13 rfl (lv_at hl 0 rfl) ?_
    refine g_get (v := .int (τ.1 1538)) E h 48 rfl rfl layX9 2 (by decide) rfl mw_821 rfl dX9_type_14 ?_
    refine lv_sipush (v := 200) hx hb dX9_type_17 (by decide) ?_
    refine lv_icmp_ne (tgt := 26) hx hb dX9_type_20 (by decide) (fun c2 => ?_) (fun c2 => ?_)
    · have ic2 : (τ.1 1538).toInt ≠ 200 := i_ne c2
      have hF := (if_neg c2).symm.trans hF
      refine lv_aload_n hx hb dX9_type_26 rfl (lv_at hl 0 rfl) ?_
      refine g_get (v := .ref (ad 49)) E h 48 rfl rfl layX9 1 (by decide) rfl mw_820 rfl dX9_type_27 ?_
      refine lv_aload_n hx hb dX9_type_30 rfl (lv_at hl 0 rfl) ?_
      refine g_get (v := .int (τ.1 1538)) E h 48 rfl rfl layX9 2 (by decide) rfl mw_821 rfl dX9_type_31 ?_
      refine lv_iload_n hx hb dX9_type_34 rfl (lv_at hl 1 rfl) ?_
      refine g_iast (f := (τ.2.1 49)) (ws' := gws ad cI cZ σ (sa τ 49 (upd (τ.2.1 49) (τ.1 1538).toNatClampNeg a1))) E h 49 rfl (ix_of (oI_at (τ.1 1538)) (by omega) (by decide)) (ga_49 ad cI cZ σ τ (upd (τ.2.1 49) (τ.1 1538).toNatClampNeg a1)) dX9_type_35 (fun H locs h => ?_)
      refine lv_aload_n hx hb dX9_type_36 rfl (lv_at hl 0 rfl) ?_
      refine lv_dup hx hb dX9_type_37 rfl ?_
      refine g_get (v := .int (τ.1 1538)) E h 48 rfl rfl layX9 2 (by decide) rfl mw_821 rfl dX9_type_38 ?_
      refine lv_iconst (v := 1) hx hb dX9_type_41 (by decide) ?_
      refine lv_iadd hx hb dX9_type_42 ?_
      refine g_put (v := .int ((τ.1 1538) + (1 : Int32))) (ty := .int) (ws' := gws ad cI cZ σ (si (sa τ 49 (upd (τ.2.1 49) (τ.1 1538).toNatClampNeg a1)) 1538 ((τ.1 1538) + (1 : Int32)))) E h 48 rfl rfl layX9 tyX9 tyX9_ok nmX9 2 (by decide) rfl mw_821 rfl rfl rfl rfl (Nat.le_of_ble_eq_true rfl) (gi_1538 ad cI cZ σ (sa τ 49 (upd (τ.2.1 49) (τ.1 1538).toNatClampNeg a1)) ((τ.1 1538) + (1 : Int32))) dX9_type_43 (fun H locs h => ?_)
      refine lv_aload_n hx hb dX9_type_46 rfl (lv_at hl 0 rfl) ?_
      refine g_get (v := .int ((τ.1 1538) + (1 : Int32))) E h 48 rfl rfl layX9 2 (by decide) rfl mw_821 rfl dX9_type_47 ?_
      exact g_iret E hr hlk h hQ (fst_of hF) (snd_of hF (fun u => gws ad cI cZ σ u)) dX9_type_50
    · have ic2 : (τ.1 1538).toInt = 200 := i_eq c2
      have hF := (if_pos c2).symm.trans hF
      refine lv_bipush (v := (-3)) hx hb dX9_type_23 (by decide) ?_
      exact g_iret E hr hlk h hQ (fst_of hF) (snd_of hF (fun u => gws ad cI cZ σ u)) dX9_type_25
  · have ic1 : (F_X9_in a1 (0 : Int32) (255 : Int32)).toInt = 0 := i_eq c1
    have hF := (if_pos c1).symm.trans hF
    refine lv_iconst (v := (-1)) hx hb dX9_type_11 (by decide) ?_
    exact g_iret E hr hlk h hQ (fst_of hF) (snd_of hF (fun u => gws ad cI cZ σ u)) dX9_type_12

def F_X9_clear (τ : St) : Int32 × St := ((τ.1 1538), (si τ 1538 (0 : Int32)))
abbrev I_X9_clear : List Nat := [1538]
abbrev A_X9_clear : List Nat := []
theorem fr_F_X9_clear (τ : St) : Fr I_X9_clear A_X9_clear false τ (F_X9_clear τ).2 := (Fr.si (by decide) Fr.rf)
set_option maxHeartbeats 4000000 in
set_option maxRecDepth 20000 in
theorem c_X9_clear (l : Launch) (D : va_G) (cI cZ : ClassId) (z : Nat) (ad : Nat → Nat) (σ τ : St) : gM l yX9_clear cX9_clear 2 (some .int) 1 D cI cZ z (gws ad cI cZ σ τ) [.ref (ad 48)] (some (.int (F_X9_clear τ).1)) (gws ad cI cZ σ (F_X9_clear τ).2) := by
  refine g_met (own := RX9) (by decide) rfl (Nat.le_of_ble_eq_true rfl) (fun p e s m below meth c ls Q E hr hlk h hl hQ => ?_)
  have hx := E.1
  have hb := E.2.1
  have hF : (F_X9_clear τ) = (F_X9_clear τ) := rfl
  have hl : lv_has ls 2 [(0, .ref (ad 48))] := hl
  refine lv_aload_n hx hb dX9_clear_0 rfl (lv_at hl 0 rfl) ?_
  refine g_get (v := .int (τ.1 1538)) E h 48 rfl rfl layX9 2 (by decide) rfl mw_821 rfl dX9_clear_1 ?_
  refine lv_istore_n (lv' := [(1, .int (τ.1 1538)), (0, .ref (ad 48))]) hx hb dX9_clear_4 rfl hl (by decide) rfl (fun ls hl => ?_)
  refine lv_aload_n hx hb dX9_clear_5 rfl (lv_at hl 1 rfl) ?_
  refine lv_iconst (v := 0) hx hb dX9_clear_6 (by decide) ?_
  refine g_put (v := .int (0 : Int32)) (ty := .int) (ws' := gws ad cI cZ σ (si τ 1538 (0 : Int32))) E h 48 rfl rfl layX9 tyX9 tyX9_ok nmX9 2 (by decide) rfl mw_821 rfl rfl rfl rfl (Nat.le_of_ble_eq_true rfl) (gi_1538 ad cI cZ σ τ (0 : Int32)) dX9_clear_7 (fun H locs h => ?_)
  refine lv_iload_n hx hb dX9_clear_10 rfl (lv_at hl 0 rfl) ?_
  exact g_iret E hr hlk h hQ (fst_of hF) (snd_of hF (fun u => gws ad cI cZ σ u)) dX9_clear_11

def F_X9_letterAt (τ : St) (a1 : Int32) : Int32 := (if (τ.1 1538) ≤ a1 then ((-1) : Int32) else ((τ.2.1 49) a1.toNatClampNeg))
set_option maxHeartbeats 4000000 in
set_option maxRecDepth 20000 in
theorem c_X9_letterAt (l : Launch) (D : va_G) (cI cZ : ClassId) (z : Nat) (ad : Nat → Nat) (σ τ : St) (a1 : Int32) (hk_ : 0 ≤ a1.toInt) (ht_ : (τ.1 1538).toInt ≤ 200) : gM l yX9_letterAt cX9_letterAt 2 (some .int) 1 D cI cZ z (gws ad cI cZ σ τ) [.ref (ad 48), .int a1] (some (.int (F_X9_letterAt τ a1))) (gws ad cI cZ σ τ) := by
  refine g_met (own := RX9) (by decide) rfl (Nat.le_of_ble_eq_true rfl) (fun p e s m below meth c ls Q E hr hlk h hl hQ => ?_)
  have hx := E.1
  have hb := E.2.1
  have hF : (F_X9_letterAt τ a1) = (F_X9_letterAt τ a1) := rfl
  have hl : lv_has ls 2 [(0, .ref (ad 48)), (1, .int a1)] := hl
  refine lv_iload_n hx hb dX9_letterAt_0 rfl (lv_at hl 1 rfl) ?_
  refine lv_aload_n hx hb dX9_letterAt_1 rfl (lv_at hl 0 rfl) ?_
  refine g_get (v := .int (τ.1 1538)) E h 48 rfl rfl layX9 2 (by decide) rfl mw_821 rfl dX9_letterAt_2 ?_
  refine lv_icmp_ge (tgt := 17) hx hb dX9_letterAt_5 (by decide) (fun c1 => ?_) (fun c1 => ?_)
  · have ic1 : (τ.1 1538).toInt ≤ a1.toInt := i_le c1
    have hF := (if_pos c1).symm.trans hF
    refine lv_iconst (v := (-1)) hx hb dX9_letterAt_17 (by decide) ?_
    exact g_iret E hr hlk h hQ hF rfl dX9_letterAt_18
  · have ic1 : a1.toInt < (τ.1 1538).toInt := i_nle c1
    have hF := (if_neg c1).symm.trans hF
    refine lv_aload_n hx hb dX9_letterAt_8 rfl (lv_at hl 0 rfl) ?_
    refine g_get (v := .ref (ad 49)) E h 48 rfl rfl layX9 1 (by decide) rfl mw_820 rfl dX9_letterAt_9 ?_
    refine lv_iload_n hx hb dX9_letterAt_12 rfl (lv_at hl 1 rfl) ?_
    refine g_iald (f := (τ.2.1 49)) E h 49 rfl (ix_of (oI_at a1) (by omega) (by decide)) dX9_letterAt_13 ?_
    refine lv_goto (tgt := 18) hx hb dX9_letterAt_14 (by decide) ?_
    exact g_iret E hr hlk h hQ hF rfl dX9_letterAt_18

def F_X9_isLetter (a1 : Int32) : Int32 := (F_X9_in a1 (97 : Int32) (122 : Int32))
set_option maxHeartbeats 4000000 in
set_option maxRecDepth 20000 in
theorem c_X9_isLetter (l : Launch) (D : va_G) (cI cZ : ClassId) (z : Nat) (ws : va_W) (a1 : Int32) : gM l yX9_isLetter cX9_isLetter 1 (some .boolean) 2 D cI cZ z ws [.int a1] (some (.int (F_X9_isLetter a1))) ws := by
  refine g_met (own := RX9) (by decide) rfl (Nat.le_of_ble_eq_true rfl) (fun p e s m below meth c ls Q E hr hlk h hl hQ => ?_)
  have hx := E.1
  have hb := E.2.1
  have hF : (F_X9_isLetter a1) = (F_X9_isLetter a1) := rfl
  have hl : lv_has ls 1 [(0, .int a1)] := hl
  refine lv_iload_n hx hb dX9_isLetter_0 rfl (lv_at hl 0 rfl) ?_
  refine lv_bipush (v := 97) hx hb dX9_isLetter_1 (by decide) ?_
  refine lv_bipush (v := 122) hx hb dX9_isLetter_3 (by decide) ?_
  refine g_callSi (rest := []) E h (c_X9_in l D cI cZ z (ws) a1 (97 : Int32) (122 : Int32)) mw_789 cbX9_in ⟨by decide, by decide⟩ rfl rfl hl.1 (Nat.le_of_ble_eq_true rfl) ⟨Nat.zero_le _, Nat.zero_le _⟩ dX9_isLetter_5 (fun H locs h => ?_)
  exact g_zret E hr hlk h hQ (nar01 (b1_F_X9_in a1 (97 : Int32) (122 : Int32))) hF rfl dX9_isLetter_8

def F_X9_isDigit (a1 : Int32) : Int32 := (F_X9_in a1 (48 : Int32) (57 : Int32))
set_option maxHeartbeats 4000000 in
set_option maxRecDepth 20000 in
theorem c_X9_isDigit (l : Launch) (D : va_G) (cI cZ : ClassId) (z : Nat) (ws : va_W) (a1 : Int32) : gM l yX9_isDigit cX9_isDigit 1 (some .boolean) 2 D cI cZ z ws [.int a1] (some (.int (F_X9_isDigit a1))) ws := by
  refine g_met (own := RX9) (by decide) rfl (Nat.le_of_ble_eq_true rfl) (fun p e s m below meth c ls Q E hr hlk h hl hQ => ?_)
  have hx := E.1
  have hb := E.2.1
  have hF : (F_X9_isDigit a1) = (F_X9_isDigit a1) := rfl
  have hl : lv_has ls 1 [(0, .int a1)] := hl
  refine lv_iload_n hx hb dX9_isDigit_0 rfl (lv_at hl 0 rfl) ?_
  refine lv_bipush (v := 48) hx hb dX9_isDigit_1 (by decide) ?_
  refine lv_bipush (v := 57) hx hb dX9_isDigit_3 (by decide) ?_
  refine g_callSi (rest := []) E h (c_X9_in l D cI cZ z (ws) a1 (48 : Int32) (57 : Int32)) mw_789 cbX9_in ⟨by decide, by decide⟩ rfl rfl hl.1 (Nat.le_of_ble_eq_true rfl) ⟨Nat.zero_le _, Nat.zero_le _⟩ dX9_isDigit_5 (fun H locs h => ?_)
  exact g_zret E hr hlk h hQ (nar01 (b1_F_X9_in a1 (48 : Int32) (57 : Int32))) hF rfl dX9_isDigit_8

def F_X9_stage (τ : St) (a1 : Int32) (a2 : Int32) : Int32 := (if (F_X9_isStage τ a1) = 0 then ((-1) : Int32) else (if a2 = 0 then ((τ.2.1 50) ((10 : Int32) + a1).toNatClampNeg) else (if a2 = 1 then ((τ.2.1 50) ((18 : Int32) + a1).toNatClampNeg) else (if a2 = 2 then ((τ.2.1 50) ((26 : Int32) + a1).toNatClampNeg) else (if a2 = 3 then ((τ.2.1 50) ((34 : Int32) + a1).toNatClampNeg) else (if a2 = 4 then ((τ.2.1 50) ((42 : Int32) + a1).toNatClampNeg) else ((-1) : Int32)))))))
set_option maxHeartbeats 4000000 in
set_option maxRecDepth 20000 in
theorem c_X9_stage (l : Launch) (D : va_G) (cI cZ : ClassId) (z : Nat) (ad : Nat → Nat) (σ τ : St) (a1 a2 : Int32) (hs_ : 0 ≤ ((τ.2.1 50) 1).toInt ∧ ((τ.2.1 50) 1).toInt ≤ 8) : gM l yX9_stage cX9_stage 3 (some .int) 3 D cI cZ z (gws ad cI cZ σ τ) [.ref (ad 48), .int a1, .int a2] (some (.int (F_X9_stage τ a1 a2))) (gws ad cI cZ σ τ) := by
  refine g_met (own := RX9) (by decide) rfl (Nat.le_of_ble_eq_true rfl) (fun p e s m below meth c ls Q E hr hlk h hl hQ => ?_)
  have hx := E.1
  have hb := E.2.1
  have hF : (F_X9_stage τ a1 a2) = (F_X9_stage τ a1 a2) := rfl
  have hl : lv_has ls 3 [(0, .ref (ad 48)), (1, .int a1), (2, .int a2)] := hl
  refine lv_aload_n hx hb dX9_stage_0 rfl (lv_at hl 0 rfl) ?_
  refine lv_iload_n hx hb dX9_stage_1 rfl (lv_at hl 1 rfl) ?_
  refine g_callVi (rest := []) E h (c_X9_isStage l D cI cZ z ad σ τ a1) mw_899 cbX9_isStage 48 rfl rfl ⟨by decide, by decide⟩ rfl rfl hl.1 (Nat.le_of_ble_eq_true rfl) ⟨Nat.zero_le _, Nat.zero_le _⟩ dX9_stage_2 (fun H locs h => ?_)
  refine lv_if_ne (tgt := 10) hx hb dX9_stage_5 (by decide) (fun c1 => ?_) (fun c1 => ?_)
  · have ic1 : (F_X9_isStage τ a1).toInt ≠ 0 := i_ne c1
    have jc1 := (fun c => fz9_isStage c (by omega)) c1
    have hF := (if_neg c1).symm.trans hF
    refine lv_iload_n hx hb dX9_stage_10 rfl (lv_at hl 2 rfl) ?_
    by_cases t2 : a2 = 0
    · have it2 : a2.toInt = 0 := i_eq t2
      have hF := (if_pos t2).symm.trans hF
      refine lv_tableIn (off := 33) (tgt := 44) hx hb dX9_stage_11 (by rw [it2]; decide) (by rw [it2]; decide) (by rw [it2]; rfl) (by decide) ?_
      refine lv_aload_n hx hb dX9_stage_44 rfl (lv_at hl 0 rfl) ?_
      refine g_get (v := .ref (ad 50)) E h 48 rfl rfl layX9 3 (by decide) rfl mw_822 rfl dX9_stage_45 ?_
      refine lv_bipush (v := 10) hx hb dX9_stage_48 (by decide) ?_
      refine lv_iload_n hx hb dX9_stage_50 rfl (lv_at hl 1 rfl) ?_
      refine lv_iadd hx hb dX9_stage_51 ?_
      refine g_iald (f := (τ.2.1 50)) E h 50 rfl (ix_of (oI_add (oI_lit (x := 10) (a := 10) rfl) (oI_at a1)) (by omega) (by decide)) dX9_stage_52 ?_
      exact g_iret E hr hlk h hQ hF rfl dX9_stage_53
    · have it2 : a2.toInt ≠ 0 := i_ne t2
      have hF := (if_neg t2).symm.trans hF
      by_cases t3 : a2 = 1
      · have it3 : a2.toInt = 1 := i_eq t3
        have hF := (if_pos t3).symm.trans hF
        refine lv_tableIn (off := 43) (tgt := 54) hx hb dX9_stage_11 (by rw [it3]; decide) (by rw [it3]; decide) (by rw [it3]; rfl) (by decide) ?_
        refine lv_aload_n hx hb dX9_stage_54 rfl (lv_at hl 0 rfl) ?_
        refine g_get (v := .ref (ad 50)) E h 48 rfl rfl layX9 3 (by decide) rfl mw_822 rfl dX9_stage_55 ?_
        refine lv_bipush (v := 18) hx hb dX9_stage_58 (by decide) ?_
        refine lv_iload_n hx hb dX9_stage_60 rfl (lv_at hl 1 rfl) ?_
        refine lv_iadd hx hb dX9_stage_61 ?_
        refine g_iald (f := (τ.2.1 50)) E h 50 rfl (ix_of (oI_add (oI_lit (x := 18) (a := 18) rfl) (oI_at a1)) (by omega) (by decide)) dX9_stage_62 ?_
        exact g_iret E hr hlk h hQ hF rfl dX9_stage_63
      · have it3 : a2.toInt ≠ 1 := i_ne t3
        have hF := (if_neg t3).symm.trans hF
        by_cases t4 : a2 = 2
        · have it4 : a2.toInt = 2 := i_eq t4
          have hF := (if_pos t4).symm.trans hF
          refine lv_tableIn (off := 53) (tgt := 64) hx hb dX9_stage_11 (by rw [it4]; decide) (by rw [it4]; decide) (by rw [it4]; rfl) (by decide) ?_
          refine lv_aload_n hx hb dX9_stage_64 rfl (lv_at hl 0 rfl) ?_
          refine g_get (v := .ref (ad 50)) E h 48 rfl rfl layX9 3 (by decide) rfl mw_822 rfl dX9_stage_65 ?_
          refine lv_bipush (v := 26) hx hb dX9_stage_68 (by decide) ?_
          refine lv_iload_n hx hb dX9_stage_70 rfl (lv_at hl 1 rfl) ?_
          refine lv_iadd hx hb dX9_stage_71 ?_
          refine g_iald (f := (τ.2.1 50)) E h 50 rfl (ix_of (oI_add (oI_lit (x := 26) (a := 26) rfl) (oI_at a1)) (by omega) (by decide)) dX9_stage_72 ?_
          exact g_iret E hr hlk h hQ hF rfl dX9_stage_73
        · have it4 : a2.toInt ≠ 2 := i_ne t4
          have hF := (if_neg t4).symm.trans hF
          by_cases t5 : a2 = 3
          · have it5 : a2.toInt = 3 := i_eq t5
            have hF := (if_pos t5).symm.trans hF
            refine lv_tableIn (off := 63) (tgt := 74) hx hb dX9_stage_11 (by rw [it5]; decide) (by rw [it5]; decide) (by rw [it5]; rfl) (by decide) ?_
            refine lv_aload_n hx hb dX9_stage_74 rfl (lv_at hl 0 rfl) ?_
            refine g_get (v := .ref (ad 50)) E h 48 rfl rfl layX9 3 (by decide) rfl mw_822 rfl dX9_stage_75 ?_
            refine lv_bipush (v := 34) hx hb dX9_stage_78 (by decide) ?_
            refine lv_iload_n hx hb dX9_stage_80 rfl (lv_at hl 1 rfl) ?_
            refine lv_iadd hx hb dX9_stage_81 ?_
            refine g_iald (f := (τ.2.1 50)) E h 50 rfl (ix_of (oI_add (oI_lit (x := 34) (a := 34) rfl) (oI_at a1)) (by omega) (by decide)) dX9_stage_82 ?_
            exact g_iret E hr hlk h hQ hF rfl dX9_stage_83
          · have it5 : a2.toInt ≠ 3 := i_ne t5
            have hF := (if_neg t5).symm.trans hF
            by_cases t6 : a2 = 4
            · have it6 : a2.toInt = 4 := i_eq t6
              have hF := (if_pos t6).symm.trans hF
              refine lv_tableIn (off := 73) (tgt := 84) hx hb dX9_stage_11 (by rw [it6]; decide) (by rw [it6]; decide) (by rw [it6]; rfl) (by decide) ?_
              refine lv_aload_n hx hb dX9_stage_84 rfl (lv_at hl 0 rfl) ?_
              refine g_get (v := .ref (ad 50)) E h 48 rfl rfl layX9 3 (by decide) rfl mw_822 rfl dX9_stage_85 ?_
              refine lv_bipush (v := 42) hx hb dX9_stage_88 (by decide) ?_
              refine lv_iload_n hx hb dX9_stage_90 rfl (lv_at hl 1 rfl) ?_
              refine lv_iadd hx hb dX9_stage_91 ?_
              refine g_iald (f := (τ.2.1 50)) E h 50 rfl (ix_of (oI_add (oI_lit (x := 42) (a := 42) rfl) (oI_at a1)) (by omega) (by decide)) dX9_stage_92 ?_
              exact g_iret E hr hlk h hQ hF rfl dX9_stage_93
            · have it6 : a2.toInt ≠ 4 := i_ne t6
              have hF := (if_neg t6).symm.trans hF
              refine lv_tableOut (tgt := 94) hx hb dX9_stage_11 (by omega) (by decide) ?_
              refine lv_iconst (v := (-1)) hx hb dX9_stage_94 (by decide) ?_
              exact g_iret E hr hlk h hQ hF rfl dX9_stage_95
  · have ic1 : (F_X9_isStage τ a1).toInt = 0 := i_eq c1
    have hF := (if_pos c1).symm.trans hF
    refine lv_iconst (v := (-1)) hx hb dX9_stage_8 (by decide) ?_
    exact g_iret E hr hlk h hQ hF rfl dX9_stage_9

def F_X9_isAlive (τ : St) (a1 : Int32) : Int32 := (F_X9_has ((τ.2.1 53) 12) a1)
set_option maxHeartbeats 4000000 in
set_option maxRecDepth 20000 in
theorem c_X9_isAlive (l : Launch) (D : va_G) (cI cZ : ClassId) (z : Nat) (ad : Nat → Nat) (σ τ : St) (a1 : Int32) : gM l yX9_isAlive cX9_isAlive 2 (some .boolean) 2 D cI cZ z (gws ad cI cZ σ τ) [.ref (ad 48), .int a1] (some (.int (F_X9_isAlive τ a1))) (gws ad cI cZ σ τ) := by
  refine g_met (own := RX9) (by decide) rfl (Nat.le_of_ble_eq_true rfl) (fun p e s m below meth c ls Q E hr hlk h hl hQ => ?_)
  have hx := E.1
  have hb := E.2.1
  have hF : (F_X9_isAlive τ a1) = (F_X9_isAlive τ a1) := rfl
  have hl : lv_has ls 2 [(0, .ref (ad 48)), (1, .int a1)] := hl
  refine lv_aload_n hx hb dX9_isAlive_0 rfl (lv_at hl 0 rfl) ?_
  refine g_get (v := .ref (ad 53)) E h 48 rfl rfl layX9 6 (by decide) rfl mw_825 rfl dX9_isAlive_1 ?_
  refine lv_bipush (v := 12) hx hb dX9_isAlive_4 (by decide) ?_
  refine g_ialdk (f := (τ.2.1 53)) E h 53 rfl 12 rfl (ix_of (oI_lit (x := 12) (a := 12) rfl) (by omega) (by decide)) dX9_isAlive_6 ?_
  refine lv_iload_n hx hb dX9_isAlive_7 rfl (lv_at hl 1 rfl) ?_
  refine g_callSi (rest := []) E h (c_X9_has l D cI cZ z (gws ad cI cZ σ τ) ((τ.2.1 53) 12) a1) mw_915 cbX9_has ⟨by decide, by decide⟩ rfl rfl hl.1 (Nat.le_of_ble_eq_true rfl) ⟨Nat.zero_le _, Nat.zero_le _⟩ dX9_isAlive_8 (fun H locs h => ?_)
  exact g_zret E hr hlk h hQ (nar01 (b1_F_X9_has ((τ.2.1 53) 12) a1)) hF rfl dX9_isAlive_11

def F_X9_knotsOf_L4 : Nat → St → Int32 → Int32 → Int32 → Int32
  | 0, _, _, _, _ => 0
  | n + 1, τ, a1, x3_4, x2_4 => (if (6 : Int32) ≤ x3_4 then x2_4 else (F_X9_knotsOf_L4  n τ a1 (x3_4 + (1 : Int32)) (x2_4 + ((τ.2.1 53) (((14 : Int32) + ((6 : Int32) * a1)) + x3_4).toNatClampNeg))))
def F_X9_knotsOf (τ : St) (a1 : Int32) : Int32 := (F_X9_knotsOf_L4  7 τ a1 (0 : Int32) (0 : Int32))
set_option maxHeartbeats 4000000 in
set_option maxRecDepth 20000 in
theorem c_X9_knotsOf (l : Launch) (D : va_G) (cI cZ : ClassId) (z : Nat) (ad : Nat → Nat) (σ τ : St) (a1 : Int32) (hc_ : 0 ≤ a1.toInt ∧ a1.toInt < 4) : gM l yX9_knotsOf cX9_knotsOf 4 (some .int) 1 D cI cZ z (gws ad cI cZ σ τ) [.ref (ad 48), .int a1] (some (.int (F_X9_knotsOf τ a1))) (gws ad cI cZ σ τ) := by
  refine g_met (own := RX9) (by decide) rfl (Nat.le_of_ble_eq_true rfl) (fun p e s m below meth c ls Q E hr hlk h hl hQ => ?_)
  have hx := E.1
  have hb := E.2.1
  have hF : (F_X9_knotsOf τ a1) = (F_X9_knotsOf τ a1) := rfl
  have hl : lv_has ls 4 [(0, .ref (ad 48)), (1, .int a1)] := hl
  refine lv_iconst (v := 0) hx hb dX9_knotsOf_0 (by decide) ?_
  refine lv_istore_n (lv' := [(2, .int (0 : Int32)), (0, .ref (ad 48)), (1, .int a1)]) hx hb dX9_knotsOf_1 rfl hl (by decide) rfl (fun ls hl => ?_)
  refine lv_iconst (v := 0) hx hb dX9_knotsOf_2 (by decide) ?_
  refine lv_istore_n (lv' := [(3, .int (0 : Int32)), (2, .int (0 : Int32)), (0, .ref (ad 48)), (1, .int a1)]) hx hb dX9_knotsOf_3 rfl hl (by decide) rfl (fun ls hl => ?_)
  have L4 : ∀ (n4 : Nat) (x3_4 : Int32) (x2_4 : Int32) (H : Heap) (locs : List Loc) (ls : Array Slot), (0 ≤ x3_4.toInt ∧ x3_4.toInt ≤ 6 ∧ x3_4.toInt + n4 = 7) → F_X9_knotsOf_L4  n4 τ a1 x3_4 x2_4 = (F_X9_knotsOf τ a1) → gH D z s (gws ad cI cZ σ τ) H locs → lv_has ls 4 [(3, .int x3_4), (2, .int x2_4), (0, .ref (ad 48)), (1, .int a1)] → W p l e (rmH 1) s m ([.ref (ad 48), .int a1] : List Value).toArray below meth c H locs 0 0 Q (F0 m 4 ls []) := by
    clear hF h hl
    intro n4
    induction n4 with
    | zero =>
      intro x3_4 x2_4 H locs ls hI
      exact absurd hI (by omega)
    | succ n4 ih4 =>
      intro x3_4 x2_4 H locs ls hI4 hF h hl
      refine lv_iload_n hx hb dX9_knotsOf_4 rfl (lv_at hl 0 rfl) ?_
      refine lv_bipush (v := 6) hx hb dX9_knotsOf_5 (by decide) ?_
      refine lv_icmp_ge (tgt := 33) hx hb dX9_knotsOf_7 (by decide) (fun c2 => ?_) (fun c2 => ?_)
      · have ic2 : 6 ≤ x3_4.toInt := i_le c2
        have hF := (if_pos c2).symm.trans hF
        refine lv_iload_n hx hb dX9_knotsOf_33 rfl (lv_at hl 1 rfl) ?_
        exact g_iret E hr hlk h hQ hF rfl dX9_knotsOf_34
      · have ic2 : x3_4.toInt < 6 := i_nle c2
        have hF := (if_neg c2).symm.trans hF
        refine lv_iload_n hx hb dX9_knotsOf_10 rfl (lv_at hl 1 rfl) ?_
        refine lv_aload_n hx hb dX9_knotsOf_11 rfl (lv_at hl 2 rfl) ?_
        refine g_get (v := .ref (ad 53)) E h 48 rfl rfl layX9 6 (by decide) rfl mw_825 rfl dX9_knotsOf_12 ?_
        refine lv_bipush (v := 14) hx hb dX9_knotsOf_15 (by decide) ?_
        refine lv_bipush (v := 6) hx hb dX9_knotsOf_17 (by decide) ?_
        refine lv_iload_n hx hb dX9_knotsOf_19 rfl (lv_at hl 3 rfl) ?_
        refine lv_imul hx hb dX9_knotsOf_20 ?_
        refine lv_iadd hx hb dX9_knotsOf_21 ?_
        refine lv_iload_n hx hb dX9_knotsOf_22 rfl (lv_at hl 0 rfl) ?_
        refine lv_iadd hx hb dX9_knotsOf_23 ?_
        refine g_iald (f := (τ.2.1 53)) E h 53 rfl (ix_of (oI_add (oI_add (oI_lit (x := 14) (a := 14) rfl) (oI_mul (oI_lit (x := 6) (a := 6) rfl) (oI_at a1))) (oI_at x3_4)) (by omega) (by decide)) dX9_knotsOf_24 ?_
        refine lv_iadd hx hb dX9_knotsOf_25 ?_
        refine lv_istore_n (lv' := [(2, .int (x2_4 + ((τ.2.1 53) (((14 : Int32) + ((6 : Int32) * a1)) + x3_4).toNatClampNeg))), (3, .int x3_4), (0, .ref (ad 48)), (1, .int a1)]) hx hb dX9_knotsOf_26 rfl hl (by decide) rfl (fun ls hl => ?_)
        refine lv_iinc (v := (x3_4 + (1 : Int32))) (lv' := [(3, .int (x3_4 + (1 : Int32))), (2, .int (x2_4 + ((τ.2.1 53) (((14 : Int32) + ((6 : Int32) * a1)) + x3_4).toNatClampNeg))), (0, .ref (ad 48)), (1, .int a1)]) hx hb dX9_knotsOf_27 hl (k := 1) rfl rfl (by decide) rfl (fun ls hl => ?_)
        refine lv_goto (tgt := 4) hx hb dX9_knotsOf_30 (by decide) ?_
        have e4_3 : (x3_4 + (1 : Int32)).toInt = _ := ti_of (oI_add (oI_at x3_4) (oI_lit (x := 1) (a := 1) rfl)) (by omega)
        exact ih4 (x3_4 + (1 : Int32)) (x2_4 + ((τ.2.1 53) (((14 : Int32) + ((6 : Int32) * a1)) + x3_4).toNatClampNeg)) _ _ ls ((show 0 ≤ (x3_4 + (1 : Int32)).toInt ∧ (x3_4 + (1 : Int32)).toInt ≤ 6 ∧ (x3_4 + (1 : Int32)).toInt + n4 = 7 from by omega)) hF h (lv_sub hl [0, 1, 2, 3] rfl)
  have q4_3 : (0 : Int32).toInt = 0 := rfl
  exact L4 7 (0 : Int32) (0 : Int32) _ _ ls ((show 0 ≤ (0 : Int32).toInt ∧ (0 : Int32).toInt ≤ 6 ∧ (0 : Int32).toInt + (7 : Nat) = 7 from by omega)) hF h (lv_sub hl [0, 1, 2, 3] rfl)

def F_X9_caravan_k100_10 (τ : St) (a1 : Int32) (a2 : Int32) (v9 : Int32) : Int32 := v9
def F_X9_caravan (τ : St) (a1 : Int32) (a2 : Int32) : Int32 := (if (F_X9_isCaravan τ a1) = 0 then ((-1) : Int32) else (if a2 = 0 then ((τ.2.1 53) a1.toNatClampNeg) else (if a2 = 1 then ((τ.2.1 53) ((4 : Int32) + a1).toNatClampNeg) else (if a2 = 2 then ((τ.2.1 50) ((50 : Int32) + a1).toNatClampNeg) else (if a2 = 3 then ((τ.2.1 53) ((8 : Int32) + a1).toNatClampNeg) else (if a2 = 4 then (if (F_X9_isAlive τ a1) = 0 then (0 : Int32) else (1 : Int32)) else (if a2 = 5 then (F_X9_caravan_k100_10 τ a1 a2 (F_X9_knotsOf τ a1)) else ((-1) : Int32))))))))
set_option maxHeartbeats 4000000 in
set_option maxRecDepth 20000 in
theorem c_X9_caravan (l : Launch) (D : va_G) (cI cZ : ClassId) (z : Nat) (ad : Nat → Nat) (σ τ : St) (a1 a2 : Int32) (hc_ : 0 ≤ ((τ.2.1 50) 2).toInt ∧ ((τ.2.1 50) 2).toInt ≤ 4) : gM l yX9_caravan cX9_caravan 3 (some .int) 3 D cI cZ z (gws ad cI cZ σ τ) [.ref (ad 48), .int a1, .int a2] (some (.int (F_X9_caravan τ a1 a2))) (gws ad cI cZ σ τ) := by
  refine g_met (own := RX9) (by decide) rfl (Nat.le_of_ble_eq_true rfl) (fun p e s m below meth c ls Q E hr hlk h hl hQ => ?_)
  have hx := E.1
  have hb := E.2.1
  have hF : (F_X9_caravan τ a1 a2) = (F_X9_caravan τ a1 a2) := rfl
  have hl : lv_has ls 3 [(0, .ref (ad 48)), (1, .int a1), (2, .int a2)] := hl
  refine lv_aload_n hx hb dX9_caravan_0 rfl (lv_at hl 0 rfl) ?_
  refine lv_iload_n hx hb dX9_caravan_1 rfl (lv_at hl 1 rfl) ?_
  refine g_callVi (rest := []) E h (c_X9_isCaravan l D cI cZ z ad σ τ a1) mw_907 cbX9_isCaravan 48 rfl rfl ⟨by decide, by decide⟩ rfl rfl hl.1 (Nat.le_of_ble_eq_true rfl) ⟨Nat.zero_le _, Nat.zero_le _⟩ dX9_caravan_2 (fun H locs h => ?_)
  refine lv_if_ne (tgt := 10) hx hb dX9_caravan_5 (by decide) (fun c1 => ?_) (fun c1 => ?_)
  · have ic1 : (F_X9_isCaravan τ a1).toInt ≠ 0 := i_ne c1
    have jc1 := (fun c => fz9_isCaravan c (by omega)) c1
    have hF := (if_neg c1).symm.trans hF
    refine lv_iload_n hx hb dX9_caravan_10 rfl (lv_at hl 2 rfl) ?_
    by_cases t2 : a2 = 0
    · have it2 : a2.toInt = 0 := i_eq t2
      have hF := (if_pos t2).symm.trans hF
      refine lv_tableIn (off := 37) (tgt := 48) hx hb dX9_caravan_11 (by rw [it2]; decide) (by rw [it2]; decide) (by rw [it2]; rfl) (by decide) ?_
      refine lv_aload_n hx hb dX9_caravan_48 rfl (lv_at hl 0 rfl) ?_
      refine g_get (v := .ref (ad 53)) E h 48 rfl rfl layX9 6 (by decide) rfl mw_825 rfl dX9_caravan_49 ?_
      refine lv_iload_n hx hb dX9_caravan_52 rfl (lv_at hl 1 rfl) ?_
      refine g_iald (f := (τ.2.1 53)) E h 53 rfl (ix_of (oI_at a1) (by omega) (by decide)) dX9_caravan_53 ?_
      exact g_iret E hr hlk h hQ hF rfl dX9_caravan_54
    · have it2 : a2.toInt ≠ 0 := i_ne t2
      have hF := (if_neg t2).symm.trans hF
      by_cases t3 : a2 = 1
      · have it3 : a2.toInt = 1 := i_eq t3
        have hF := (if_pos t3).symm.trans hF
        refine lv_tableIn (off := 44) (tgt := 55) hx hb dX9_caravan_11 (by rw [it3]; decide) (by rw [it3]; decide) (by rw [it3]; rfl) (by decide) ?_
        refine lv_aload_n hx hb dX9_caravan_55 rfl (lv_at hl 0 rfl) ?_
        refine g_get (v := .ref (ad 53)) E h 48 rfl rfl layX9 6 (by decide) rfl mw_825 rfl dX9_caravan_56 ?_
        refine lv_iconst (v := 4) hx hb dX9_caravan_59 (by decide) ?_
        refine lv_iload_n hx hb dX9_caravan_60 rfl (lv_at hl 1 rfl) ?_
        refine lv_iadd hx hb dX9_caravan_61 ?_
        refine g_iald (f := (τ.2.1 53)) E h 53 rfl (ix_of (oI_add (oI_lit (x := 4) (a := 4) rfl) (oI_at a1)) (by omega) (by decide)) dX9_caravan_62 ?_
        exact g_iret E hr hlk h hQ hF rfl dX9_caravan_63
      · have it3 : a2.toInt ≠ 1 := i_ne t3
        have hF := (if_neg t3).symm.trans hF
        by_cases t4 : a2 = 2
        · have it4 : a2.toInt = 2 := i_eq t4
          have hF := (if_pos t4).symm.trans hF
          refine lv_tableIn (off := 53) (tgt := 64) hx hb dX9_caravan_11 (by rw [it4]; decide) (by rw [it4]; decide) (by rw [it4]; rfl) (by decide) ?_
          refine lv_aload_n hx hb dX9_caravan_64 rfl (lv_at hl 0 rfl) ?_
          refine g_get (v := .ref (ad 50)) E h 48 rfl rfl layX9 3 (by decide) rfl mw_822 rfl dX9_caravan_65 ?_
          refine lv_bipush (v := 50) hx hb dX9_caravan_68 (by decide) ?_
          refine lv_iload_n hx hb dX9_caravan_70 rfl (lv_at hl 1 rfl) ?_
          refine lv_iadd hx hb dX9_caravan_71 ?_
          refine g_iald (f := (τ.2.1 50)) E h 50 rfl (ix_of (oI_add (oI_lit (x := 50) (a := 50) rfl) (oI_at a1)) (by omega) (by decide)) dX9_caravan_72 ?_
          exact g_iret E hr hlk h hQ hF rfl dX9_caravan_73
        · have it4 : a2.toInt ≠ 2 := i_ne t4
          have hF := (if_neg t4).symm.trans hF
          by_cases t5 : a2 = 3
          · have it5 : a2.toInt = 3 := i_eq t5
            have hF := (if_pos t5).symm.trans hF
            refine lv_tableIn (off := 63) (tgt := 74) hx hb dX9_caravan_11 (by rw [it5]; decide) (by rw [it5]; decide) (by rw [it5]; rfl) (by decide) ?_
            refine lv_aload_n hx hb dX9_caravan_74 rfl (lv_at hl 0 rfl) ?_
            refine g_get (v := .ref (ad 53)) E h 48 rfl rfl layX9 6 (by decide) rfl mw_825 rfl dX9_caravan_75 ?_
            refine lv_bipush (v := 8) hx hb dX9_caravan_78 (by decide) ?_
            refine lv_iload_n hx hb dX9_caravan_80 rfl (lv_at hl 1 rfl) ?_
            refine lv_iadd hx hb dX9_caravan_81 ?_
            refine g_iald (f := (τ.2.1 53)) E h 53 rfl (ix_of (oI_add (oI_lit (x := 8) (a := 8) rfl) (oI_at a1)) (by omega) (by decide)) dX9_caravan_82 ?_
            exact g_iret E hr hlk h hQ hF rfl dX9_caravan_83
          · have it5 : a2.toInt ≠ 3 := i_ne t5
            have hF := (if_neg t5).symm.trans hF
            by_cases t6 : a2 = 4
            · have it6 : a2.toInt = 4 := i_eq t6
              have hF := (if_pos t6).symm.trans hF
              refine lv_tableIn (off := 73) (tgt := 84) hx hb dX9_caravan_11 (by rw [it6]; decide) (by rw [it6]; decide) (by rw [it6]; rfl) (by decide) ?_
              refine lv_aload_n hx hb dX9_caravan_84 rfl (lv_at hl 0 rfl) ?_
              refine lv_iload_n hx hb dX9_caravan_85 rfl (lv_at hl 1 rfl) ?_
              refine g_callVi (rest := []) E h (c_X9_isAlive l D cI cZ z ad σ τ a1) mw_911 cbX9_isAlive 48 rfl rfl ⟨by decide, by decide⟩ rfl rfl hl.1 (Nat.le_of_ble_eq_true rfl) ⟨Nat.zero_le _, Nat.zero_le _⟩ dX9_caravan_86 (fun H locs h => ?_)
              refine lv_if_eq (tgt := 96) hx hb dX9_caravan_89 (by decide) (fun c7 => ?_) (fun c7 => ?_)
              · have ic7 : (F_X9_isAlive τ a1).toInt = 0 := i_eq c7
                have hF := (if_pos c7).symm.trans hF
                refine lv_iconst (v := 0) hx hb dX9_caravan_96 (by decide) ?_
                exact g_iret E hr hlk h hQ hF rfl dX9_caravan_97
              · have ic7 : (F_X9_isAlive τ a1).toInt ≠ 0 := i_ne c7
                have hF := (if_neg c7).symm.trans hF
                refine lv_iconst (v := 1) hx hb dX9_caravan_92 (by decide) ?_
                refine lv_goto (tgt := 97) hx hb dX9_caravan_93 (by decide) ?_
                exact g_iret E hr hlk h hQ hF rfl dX9_caravan_97
            · have it6 : a2.toInt ≠ 4 := i_ne t6
              have hF := (if_neg t6).symm.trans hF
              by_cases t8 : a2 = 5
              · have it8 : a2.toInt = 5 := i_eq t8
                have hF := (if_pos t8).symm.trans hF
                refine lv_tableIn (off := 87) (tgt := 98) hx hb dX9_caravan_11 (by rw [it8]; decide) (by rw [it8]; decide) (by rw [it8]; rfl) (by decide) ?_
                refine lv_aload_n hx hb dX9_caravan_98 rfl (lv_at hl 0 rfl) ?_
                refine lv_iload_n hx hb dX9_caravan_99 rfl (lv_at hl 1 rfl) ?_
                refine g_callVh (F_X9_knotsOf τ a1) (rest := []) E h (c_X9_knotsOf l D cI cZ z ad σ τ a1 (show 0 ≤ a1.toInt ∧ a1.toInt < 4 from by omega)) mw_918 cbX9_knotsOf 48 rfl rfl ⟨by decide, by decide⟩ rfl rfl hl.1 (Nat.le_of_ble_eq_true rfl) ⟨Nat.zero_le _, Nat.zero_le _⟩ dX9_caravan_100 (fun v9 huv9 H locs h => ?_)
                have hF : F_X9_caravan_k100_10 τ a1 a2 v9 = (F_X9_caravan τ a1 a2) := by rw [← huv9]; exact hF
                exact g_iret E hr hlk h hQ hF rfl dX9_caravan_103
              · have it8 : a2.toInt ≠ 5 := i_ne t8
                have hF := (if_neg t8).symm.trans hF
                refine lv_tableOut (tgt := 104) hx hb dX9_caravan_11 (by omega) (by decide) ?_
                refine lv_iconst (v := (-1)) hx hb dX9_caravan_104 (by decide) ?_
                exact g_iret E hr hlk h hQ hF rfl dX9_caravan_105
  · have ic1 : (F_X9_isCaravan τ a1).toInt = 0 := i_eq c1
    have hF := (if_pos c1).symm.trans hF
    refine lv_iconst (v := (-1)) hx hb dX9_caravan_8 (by decide) ?_
    exact g_iret E hr hlk h hQ hF rfl dX9_caravan_9

def F_X9_knotsAt_L4 : Nat → St → Int32 → Int32 → Int32 → Int32
  | 0, _, _, _, _ => 0
  | n + 1, τ, a1, x3_4, x2_4 => (if (4 : Int32) ≤ x3_4 then x2_4 else (F_X9_knotsAt_L4  n τ a1 (x3_4 + (1 : Int32)) (x2_4 + ((τ.2.1 53) (((14 : Int32) + ((6 : Int32) * x3_4)) + a1).toNatClampNeg))))
def F_X9_knotsAt (τ : St) (a1 : Int32) : Int32 := (F_X9_knotsAt_L4  5 τ a1 (0 : Int32) (0 : Int32))
set_option maxHeartbeats 4000000 in
set_option maxRecDepth 20000 in
theorem c_X9_knotsAt (l : Launch) (D : va_G) (cI cZ : ClassId) (z : Nat) (ad : Nat → Nat) (σ τ : St) (a1 : Int32) (hw_ : 0 ≤ a1.toInt ∧ a1.toInt < 6) : gM l yX9_knotsAt cX9_knotsAt 4 (some .int) 1 D cI cZ z (gws ad cI cZ σ τ) [.ref (ad 48), .int a1] (some (.int (F_X9_knotsAt τ a1))) (gws ad cI cZ σ τ) := by
  refine g_met (own := RX9) (by decide) rfl (Nat.le_of_ble_eq_true rfl) (fun p e s m below meth c ls Q E hr hlk h hl hQ => ?_)
  have hx := E.1
  have hb := E.2.1
  have hF : (F_X9_knotsAt τ a1) = (F_X9_knotsAt τ a1) := rfl
  have hl : lv_has ls 4 [(0, .ref (ad 48)), (1, .int a1)] := hl
  refine lv_iconst (v := 0) hx hb dX9_knotsAt_0 (by decide) ?_
  refine lv_istore_n (lv' := [(2, .int (0 : Int32)), (0, .ref (ad 48)), (1, .int a1)]) hx hb dX9_knotsAt_1 rfl hl (by decide) rfl (fun ls hl => ?_)
  refine lv_iconst (v := 0) hx hb dX9_knotsAt_2 (by decide) ?_
  refine lv_istore_n (lv' := [(3, .int (0 : Int32)), (2, .int (0 : Int32)), (0, .ref (ad 48)), (1, .int a1)]) hx hb dX9_knotsAt_3 rfl hl (by decide) rfl (fun ls hl => ?_)
  have L4 : ∀ (n4 : Nat) (x3_4 : Int32) (x2_4 : Int32) (H : Heap) (locs : List Loc) (ls : Array Slot), (0 ≤ x3_4.toInt ∧ x3_4.toInt ≤ 4 ∧ x3_4.toInt + n4 = 5) → F_X9_knotsAt_L4  n4 τ a1 x3_4 x2_4 = (F_X9_knotsAt τ a1) → gH D z s (gws ad cI cZ σ τ) H locs → lv_has ls 4 [(3, .int x3_4), (2, .int x2_4), (0, .ref (ad 48)), (1, .int a1)] → W p l e (rmH 1) s m ([.ref (ad 48), .int a1] : List Value).toArray below meth c H locs 0 0 Q (F0 m 4 ls []) := by
    clear hF h hl
    intro n4
    induction n4 with
    | zero =>
      intro x3_4 x2_4 H locs ls hI
      exact absurd hI (by omega)
    | succ n4 ih4 =>
      intro x3_4 x2_4 H locs ls hI4 hF h hl
      refine lv_iload_n hx hb dX9_knotsAt_4 rfl (lv_at hl 0 rfl) ?_
      refine lv_iconst (v := 4) hx hb dX9_knotsAt_5 (by decide) ?_
      refine lv_icmp_ge (tgt := 32) hx hb dX9_knotsAt_6 (by decide) (fun c2 => ?_) (fun c2 => ?_)
      · have ic2 : 4 ≤ x3_4.toInt := i_le c2
        have hF := (if_pos c2).symm.trans hF
        refine lv_iload_n hx hb dX9_knotsAt_32 rfl (lv_at hl 1 rfl) ?_
        exact g_iret E hr hlk h hQ hF rfl dX9_knotsAt_33
      · have ic2 : x3_4.toInt < 4 := i_nle c2
        have hF := (if_neg c2).symm.trans hF
        refine lv_iload_n hx hb dX9_knotsAt_9 rfl (lv_at hl 1 rfl) ?_
        refine lv_aload_n hx hb dX9_knotsAt_10 rfl (lv_at hl 2 rfl) ?_
        refine g_get (v := .ref (ad 53)) E h 48 rfl rfl layX9 6 (by decide) rfl mw_825 rfl dX9_knotsAt_11 ?_
        refine lv_bipush (v := 14) hx hb dX9_knotsAt_14 (by decide) ?_
        refine lv_bipush (v := 6) hx hb dX9_knotsAt_16 (by decide) ?_
        refine lv_iload_n hx hb dX9_knotsAt_18 rfl (lv_at hl 0 rfl) ?_
        refine lv_imul hx hb dX9_knotsAt_19 ?_
        refine lv_iadd hx hb dX9_knotsAt_20 ?_
        refine lv_iload_n hx hb dX9_knotsAt_21 rfl (lv_at hl 3 rfl) ?_
        refine lv_iadd hx hb dX9_knotsAt_22 ?_
        refine g_iald (f := (τ.2.1 53)) E h 53 rfl (ix_of (oI_add (oI_add (oI_lit (x := 14) (a := 14) rfl) (oI_mul (oI_lit (x := 6) (a := 6) rfl) (oI_at x3_4))) (oI_at a1)) (by omega) (by decide)) dX9_knotsAt_23 ?_
        refine lv_iadd hx hb dX9_knotsAt_24 ?_
        refine lv_istore_n (lv' := [(2, .int (x2_4 + ((τ.2.1 53) (((14 : Int32) + ((6 : Int32) * x3_4)) + a1).toNatClampNeg))), (3, .int x3_4), (0, .ref (ad 48)), (1, .int a1)]) hx hb dX9_knotsAt_25 rfl hl (by decide) rfl (fun ls hl => ?_)
        refine lv_iinc (v := (x3_4 + (1 : Int32))) (lv' := [(3, .int (x3_4 + (1 : Int32))), (2, .int (x2_4 + ((τ.2.1 53) (((14 : Int32) + ((6 : Int32) * x3_4)) + a1).toNatClampNeg))), (0, .ref (ad 48)), (1, .int a1)]) hx hb dX9_knotsAt_26 hl (k := 1) rfl rfl (by decide) rfl (fun ls hl => ?_)
        refine lv_goto (tgt := 4) hx hb dX9_knotsAt_29 (by decide) ?_
        have e4_3 : (x3_4 + (1 : Int32)).toInt = _ := ti_of (oI_add (oI_at x3_4) (oI_lit (x := 1) (a := 1) rfl)) (by omega)
        exact ih4 (x3_4 + (1 : Int32)) (x2_4 + ((τ.2.1 53) (((14 : Int32) + ((6 : Int32) * x3_4)) + a1).toNatClampNeg)) _ _ ls ((show 0 ≤ (x3_4 + (1 : Int32)).toInt ∧ (x3_4 + (1 : Int32)).toInt ≤ 4 ∧ (x3_4 + (1 : Int32)).toInt + n4 = 5 from by omega)) hF h (lv_sub hl [0, 1, 2, 3] rfl)
  have q4_3 : (0 : Int32).toInt = 0 := rfl
  exact L4 5 (0 : Int32) (0 : Int32) _ _ ls ((show 0 ≤ (0 : Int32).toInt ∧ (0 : Int32).toInt ≤ 4 ∧ (0 : Int32).toInt + (5 : Nat) = 5 from by omega)) hF h (lv_sub hl [0, 1, 2, 3] rfl)

def F_X9_duesOf_L4 : Nat → St → Int32 → Int32 → Int32 → Int32
  | 0, _, _, _, _ => 0
  | n + 1, τ, a1, x3_4, x2_4 => (if (6 : Int32) ≤ x3_4 then x2_4 else (F_X9_duesOf_L4  n τ a1 (x3_4 + (1 : Int32)) (x2_4 + ((τ.2.1 53) (((38 : Int32) + ((6 : Int32) * a1)) + x3_4).toNatClampNeg))))
def F_X9_duesOf (τ : St) (a1 : Int32) : Int32 := (F_X9_duesOf_L4  7 τ a1 (0 : Int32) (0 : Int32))
set_option maxHeartbeats 4000000 in
set_option maxRecDepth 20000 in
theorem c_X9_duesOf (l : Launch) (D : va_G) (cI cZ : ClassId) (z : Nat) (ad : Nat → Nat) (σ τ : St) (a1 : Int32) (hw_ : 0 ≤ a1.toInt ∧ a1.toInt < 6) : gM l yX9_duesOf cX9_duesOf 4 (some .int) 1 D cI cZ z (gws ad cI cZ σ τ) [.ref (ad 48), .int a1] (some (.int (F_X9_duesOf τ a1))) (gws ad cI cZ σ τ) := by
  refine g_met (own := RX9) (by decide) rfl (Nat.le_of_ble_eq_true rfl) (fun p e s m below meth c ls Q E hr hlk h hl hQ => ?_)
  have hx := E.1
  have hb := E.2.1
  have hF : (F_X9_duesOf τ a1) = (F_X9_duesOf τ a1) := rfl
  have hl : lv_has ls 4 [(0, .ref (ad 48)), (1, .int a1)] := hl
  refine lv_iconst (v := 0) hx hb dX9_duesOf_0 (by decide) ?_
  refine lv_istore_n (lv' := [(2, .int (0 : Int32)), (0, .ref (ad 48)), (1, .int a1)]) hx hb dX9_duesOf_1 rfl hl (by decide) rfl (fun ls hl => ?_)
  refine lv_iconst (v := 0) hx hb dX9_duesOf_2 (by decide) ?_
  refine lv_istore_n (lv' := [(3, .int (0 : Int32)), (2, .int (0 : Int32)), (0, .ref (ad 48)), (1, .int a1)]) hx hb dX9_duesOf_3 rfl hl (by decide) rfl (fun ls hl => ?_)
  have L4 : ∀ (n4 : Nat) (x3_4 : Int32) (x2_4 : Int32) (H : Heap) (locs : List Loc) (ls : Array Slot), (0 ≤ x3_4.toInt ∧ x3_4.toInt ≤ 6 ∧ x3_4.toInt + n4 = 7) → F_X9_duesOf_L4  n4 τ a1 x3_4 x2_4 = (F_X9_duesOf τ a1) → gH D z s (gws ad cI cZ σ τ) H locs → lv_has ls 4 [(3, .int x3_4), (2, .int x2_4), (0, .ref (ad 48)), (1, .int a1)] → W p l e (rmH 1) s m ([.ref (ad 48), .int a1] : List Value).toArray below meth c H locs 0 0 Q (F0 m 4 ls []) := by
    clear hF h hl
    intro n4
    induction n4 with
    | zero =>
      intro x3_4 x2_4 H locs ls hI
      exact absurd hI (by omega)
    | succ n4 ih4 =>
      intro x3_4 x2_4 H locs ls hI4 hF h hl
      refine lv_iload_n hx hb dX9_duesOf_4 rfl (lv_at hl 0 rfl) ?_
      refine lv_bipush (v := 6) hx hb dX9_duesOf_5 (by decide) ?_
      refine lv_icmp_ge (tgt := 33) hx hb dX9_duesOf_7 (by decide) (fun c2 => ?_) (fun c2 => ?_)
      · have ic2 : 6 ≤ x3_4.toInt := i_le c2
        have hF := (if_pos c2).symm.trans hF
        refine lv_iload_n hx hb dX9_duesOf_33 rfl (lv_at hl 1 rfl) ?_
        exact g_iret E hr hlk h hQ hF rfl dX9_duesOf_34
      · have ic2 : x3_4.toInt < 6 := i_nle c2
        have hF := (if_neg c2).symm.trans hF
        refine lv_iload_n hx hb dX9_duesOf_10 rfl (lv_at hl 1 rfl) ?_
        refine lv_aload_n hx hb dX9_duesOf_11 rfl (lv_at hl 2 rfl) ?_
        refine g_get (v := .ref (ad 53)) E h 48 rfl rfl layX9 6 (by decide) rfl mw_825 rfl dX9_duesOf_12 ?_
        refine lv_bipush (v := 38) hx hb dX9_duesOf_15 (by decide) ?_
        refine lv_bipush (v := 6) hx hb dX9_duesOf_17 (by decide) ?_
        refine lv_iload_n hx hb dX9_duesOf_19 rfl (lv_at hl 3 rfl) ?_
        refine lv_imul hx hb dX9_duesOf_20 ?_
        refine lv_iadd hx hb dX9_duesOf_21 ?_
        refine lv_iload_n hx hb dX9_duesOf_22 rfl (lv_at hl 0 rfl) ?_
        refine lv_iadd hx hb dX9_duesOf_23 ?_
        refine g_iald (f := (τ.2.1 53)) E h 53 rfl (ix_of (oI_add (oI_add (oI_lit (x := 38) (a := 38) rfl) (oI_mul (oI_lit (x := 6) (a := 6) rfl) (oI_at a1))) (oI_at x3_4)) (by omega) (by decide)) dX9_duesOf_24 ?_
        refine lv_iadd hx hb dX9_duesOf_25 ?_
        refine lv_istore_n (lv' := [(2, .int (x2_4 + ((τ.2.1 53) (((38 : Int32) + ((6 : Int32) * a1)) + x3_4).toNatClampNeg))), (3, .int x3_4), (0, .ref (ad 48)), (1, .int a1)]) hx hb dX9_duesOf_26 rfl hl (by decide) rfl (fun ls hl => ?_)
        refine lv_iinc (v := (x3_4 + (1 : Int32))) (lv' := [(3, .int (x3_4 + (1 : Int32))), (2, .int (x2_4 + ((τ.2.1 53) (((38 : Int32) + ((6 : Int32) * a1)) + x3_4).toNatClampNeg))), (0, .ref (ad 48)), (1, .int a1)]) hx hb dX9_duesOf_27 hl (k := 1) rfl rfl (by decide) rfl (fun ls hl => ?_)
        refine lv_goto (tgt := 4) hx hb dX9_duesOf_30 (by decide) ?_
        have e4_3 : (x3_4 + (1 : Int32)).toInt = _ := ti_of (oI_add (oI_at x3_4) (oI_lit (x := 1) (a := 1) rfl)) (by omega)
        exact ih4 (x3_4 + (1 : Int32)) (x2_4 + ((τ.2.1 53) (((38 : Int32) + ((6 : Int32) * a1)) + x3_4).toNatClampNeg)) _ _ ls ((show 0 ≤ (x3_4 + (1 : Int32)).toInt ∧ (x3_4 + (1 : Int32)).toInt ≤ 6 ∧ (x3_4 + (1 : Int32)).toInt + n4 = 7 from by omega)) hF h (lv_sub hl [0, 1, 2, 3] rfl)
  have q4_3 : (0 : Int32).toInt = 0 := rfl
  exact L4 7 (0 : Int32) (0 : Int32) _ _ ls ((show 0 ≤ (0 : Int32).toInt ∧ (0 : Int32).toInt ≤ 6 ∧ (0 : Int32).toInt + (7 : Nat) = 7 from by omega)) hF h (lv_sub hl [0, 1, 2, 3] rfl)

def F_X9_net_k36_4 (lf4 : Int32 → Int32 → Int32) (τ : St) (a1 : Int32) (x3_4 : Int32) (x2_4 : Int32) (v3 : Int32) : Int32 := (x2_4 - v3)
def F_X9_net_L4 : Nat → St → Int32 → Int32 → Int32 → Int32
  | 0, _, _, _, _ => 0
  | n + 1, τ, a1, x3_4, x2_4 => (if (6 : Int32) ≤ x3_4 then (F_X9_net_k36_4 (fun y1 y2 => F_X9_net_L4  n τ a1 y1 y2) τ a1 x3_4 x2_4 (F_X9_duesOf τ a1)) else (F_X9_net_L4  n τ a1 (x3_4 + (1 : Int32)) (x2_4 + ((τ.2.1 53) (((38 : Int32) + ((6 : Int32) * x3_4)) + a1).toNatClampNeg))))
def F_X9_net (τ : St) (a1 : Int32) : Int32 := (F_X9_net_L4  7 τ a1 (0 : Int32) (0 : Int32))
set_option maxHeartbeats 4000000 in
set_option maxRecDepth 20000 in
theorem c_X9_net (l : Launch) (D : va_G) (cI cZ : ClassId) (z : Nat) (ad : Nat → Nat) (σ τ : St) (a1 : Int32) (hw_ : 0 ≤ a1.toInt ∧ a1.toInt < 6) : gM l yX9_net cX9_net 4 (some .int) 2 D cI cZ z (gws ad cI cZ σ τ) [.ref (ad 48), .int a1] (some (.int (F_X9_net τ a1))) (gws ad cI cZ σ τ) := by
  refine g_met (own := RX9) (by decide) rfl (Nat.le_of_ble_eq_true rfl) (fun p e s m below meth c ls Q E hr hlk h hl hQ => ?_)
  have hx := E.1
  have hb := E.2.1
  have hF : (F_X9_net τ a1) = (F_X9_net τ a1) := rfl
  have hl : lv_has ls 4 [(0, .ref (ad 48)), (1, .int a1)] := hl
  refine lv_iconst (v := 0) hx hb dX9_net_0 (by decide) ?_
  refine lv_istore_n (lv' := [(2, .int (0 : Int32)), (0, .ref (ad 48)), (1, .int a1)]) hx hb dX9_net_1 rfl hl (by decide) rfl (fun ls hl => ?_)
  refine lv_iconst (v := 0) hx hb dX9_net_2 (by decide) ?_
  refine lv_istore_n (lv' := [(3, .int (0 : Int32)), (2, .int (0 : Int32)), (0, .ref (ad 48)), (1, .int a1)]) hx hb dX9_net_3 rfl hl (by decide) rfl (fun ls hl => ?_)
  have L4 : ∀ (n4 : Nat) (x3_4 : Int32) (x2_4 : Int32) (H : Heap) (locs : List Loc) (ls : Array Slot), (0 ≤ x3_4.toInt ∧ x3_4.toInt ≤ 6 ∧ x3_4.toInt + n4 = 7) → F_X9_net_L4  n4 τ a1 x3_4 x2_4 = (F_X9_net τ a1) → gH D z s (gws ad cI cZ σ τ) H locs → lv_has ls 4 [(3, .int x3_4), (2, .int x2_4), (0, .ref (ad 48)), (1, .int a1)] → W p l e (rmH 2) s m ([.ref (ad 48), .int a1] : List Value).toArray below meth c H locs 0 0 Q (F0 m 4 ls []) := by
    clear hF h hl
    intro n4
    induction n4 with
    | zero =>
      intro x3_4 x2_4 H locs ls hI
      exact absurd hI (by omega)
    | succ n4 ih4 =>
      intro x3_4 x2_4 H locs ls hI4 hF h hl
      refine lv_iload_n hx hb dX9_net_4 rfl (lv_at hl 0 rfl) ?_
      refine lv_bipush (v := 6) hx hb dX9_net_5 (by decide) ?_
      refine lv_icmp_ge (tgt := 33) hx hb dX9_net_7 (by decide) (fun c2 => ?_) (fun c2 => ?_)
      · have ic2 : 6 ≤ x3_4.toInt := i_le c2
        have hF := (if_pos c2).symm.trans hF
        refine lv_iload_n hx hb dX9_net_33 rfl (lv_at hl 1 rfl) ?_
        refine lv_aload_n hx hb dX9_net_34 rfl (lv_at hl 2 rfl) ?_
        refine lv_iload_n hx hb dX9_net_35 rfl (lv_at hl 3 rfl) ?_
        refine g_callVh (F_X9_duesOf τ a1) (rest := [.int x2_4]) E h (c_X9_duesOf l D cI cZ z ad σ τ a1 (show 0 ≤ a1.toInt ∧ a1.toInt < 6 from by omega)) mw_935 cbX9_duesOf 48 rfl rfl ⟨by decide, by decide⟩ rfl rfl hl.1 (Nat.le_of_ble_eq_true rfl) ⟨Nat.zero_le _, Nat.zero_le _⟩ dX9_net_36 (fun v3 huv3 H locs h => ?_)
        have hF : F_X9_net_k36_4 (fun y1 y2 => F_X9_net_L4  n4 τ a1 y1 y2) τ a1 x3_4 x2_4 v3 = (F_X9_net τ a1) := by rw [← huv3]; exact hF
        refine lv_isub hx hb dX9_net_39 ?_
        exact g_iret E hr hlk h hQ hF rfl dX9_net_40
      · have ic2 : x3_4.toInt < 6 := i_nle c2
        have hF := (if_neg c2).symm.trans hF
        refine lv_iload_n hx hb dX9_net_10 rfl (lv_at hl 1 rfl) ?_
        refine lv_aload_n hx hb dX9_net_11 rfl (lv_at hl 2 rfl) ?_
        refine g_get (v := .ref (ad 53)) E h 48 rfl rfl layX9 6 (by decide) rfl mw_825 rfl dX9_net_12 ?_
        refine lv_bipush (v := 38) hx hb dX9_net_15 (by decide) ?_
        refine lv_bipush (v := 6) hx hb dX9_net_17 (by decide) ?_
        refine lv_iload_n hx hb dX9_net_19 rfl (lv_at hl 0 rfl) ?_
        refine lv_imul hx hb dX9_net_20 ?_
        refine lv_iadd hx hb dX9_net_21 ?_
        refine lv_iload_n hx hb dX9_net_22 rfl (lv_at hl 3 rfl) ?_
        refine lv_iadd hx hb dX9_net_23 ?_
        refine g_iald (f := (τ.2.1 53)) E h 53 rfl (ix_of (oI_add (oI_add (oI_lit (x := 38) (a := 38) rfl) (oI_mul (oI_lit (x := 6) (a := 6) rfl) (oI_at x3_4))) (oI_at a1)) (by omega) (by decide)) dX9_net_24 ?_
        refine lv_iadd hx hb dX9_net_25 ?_
        refine lv_istore_n (lv' := [(2, .int (x2_4 + ((τ.2.1 53) (((38 : Int32) + ((6 : Int32) * x3_4)) + a1).toNatClampNeg))), (3, .int x3_4), (0, .ref (ad 48)), (1, .int a1)]) hx hb dX9_net_26 rfl hl (by decide) rfl (fun ls hl => ?_)
        refine lv_iinc (v := (x3_4 + (1 : Int32))) (lv' := [(3, .int (x3_4 + (1 : Int32))), (2, .int (x2_4 + ((τ.2.1 53) (((38 : Int32) + ((6 : Int32) * x3_4)) + a1).toNatClampNeg))), (0, .ref (ad 48)), (1, .int a1)]) hx hb dX9_net_27 hl (k := 1) rfl rfl (by decide) rfl (fun ls hl => ?_)
        refine lv_goto (tgt := 4) hx hb dX9_net_30 (by decide) ?_
        have e4_3 : (x3_4 + (1 : Int32)).toInt = _ := ti_of (oI_add (oI_at x3_4) (oI_lit (x := 1) (a := 1) rfl)) (by omega)
        exact ih4 (x3_4 + (1 : Int32)) (x2_4 + ((τ.2.1 53) (((38 : Int32) + ((6 : Int32) * x3_4)) + a1).toNatClampNeg)) _ _ ls ((show 0 ≤ (x3_4 + (1 : Int32)).toInt ∧ (x3_4 + (1 : Int32)).toInt ≤ 6 ∧ (x3_4 + (1 : Int32)).toInt + n4 = 7 from by omega)) hF h (lv_sub hl [0, 1, 2, 3] rfl)
  have q4_3 : (0 : Int32).toInt = 0 := rfl
  exact L4 7 (0 : Int32) (0 : Int32) _ _ ls ((show 0 ≤ (0 : Int32).toInt ∧ (0 : Int32).toInt ≤ 6 ∧ (0 : Int32).toInt + (7 : Nat) = 7 from by omega)) hF h (lv_sub hl [0, 1, 2, 3] rfl)

def F_X9_well_k55_5 (τ : St) (a1 : Int32) (a2 : Int32) (v4 : Int32) : Int32 := v4
def F_X9_well_k61_8 (τ : St) (a1 : Int32) (a2 : Int32) (v7 : Int32) : Int32 := v7
def F_X9_well_k67_11 (τ : St) (a1 : Int32) (a2 : Int32) (v10 : Int32) : Int32 := v10
def F_X9_well (τ : St) (a1 : Int32) (a2 : Int32) : Int32 := (if (F_X9_isWell τ a1) = 0 then ((-1000000) : Int32) else (if a2 = 0 then ((τ.2.1 50) ((4 : Int32) + a1).toNatClampNeg) else (if a2 = 1 then (F_X9_well_k55_5 τ a1 a2 (F_X9_knotsAt τ a1)) else (if a2 = 2 then (F_X9_well_k61_8 τ a1 a2 (F_X9_duesOf τ a1)) else (if a2 = 3 then (F_X9_well_k67_11 τ a1 a2 (F_X9_net τ a1)) else ((-1000000) : Int32))))))
set_option maxHeartbeats 4000000 in
set_option maxRecDepth 20000 in
theorem c_X9_well (l : Launch) (D : va_G) (cI cZ : ClassId) (z : Nat) (ad : Nat → Nat) (σ τ : St) (a1 a2 : Int32) (hw_ : 0 ≤ ((τ.2.1 50) 0).toInt ∧ ((τ.2.1 50) 0).toInt ≤ 6) : gM l yX9_well cX9_well 3 (some .int) 3 D cI cZ z (gws ad cI cZ σ τ) [.ref (ad 48), .int a1, .int a2] (some (.int (F_X9_well τ a1 a2))) (gws ad cI cZ σ τ) := by
  refine g_met (own := RX9) (by decide) rfl (Nat.le_of_ble_eq_true rfl) (fun p e s m below meth c ls Q E hr hlk h hl hQ => ?_)
  have hx := E.1
  have hb := E.2.1
  have hF : (F_X9_well τ a1 a2) = (F_X9_well τ a1 a2) := rfl
  have hl : lv_has ls 3 [(0, .ref (ad 48)), (1, .int a1), (2, .int a2)] := hl
  refine lv_aload_n hx hb dX9_well_0 rfl (lv_at hl 0 rfl) ?_
  refine lv_iload_n hx hb dX9_well_1 rfl (lv_at hl 1 rfl) ?_
  refine g_callVi (rest := []) E h (c_X9_isWell l D cI cZ z ad σ τ a1) mw_926 cbX9_isWell 48 rfl rfl ⟨by decide, by decide⟩ rfl rfl hl.1 (Nat.le_of_ble_eq_true rfl) ⟨Nat.zero_le _, Nat.zero_le _⟩ dX9_well_2 (fun H locs h => ?_)
  refine lv_if_ne (tgt := 11) hx hb dX9_well_5 (by decide) (fun c1 => ?_) (fun c1 => ?_)
  · have ic1 : (F_X9_isWell τ a1).toInt ≠ 0 := i_ne c1
    have jc1 := (fun c => fz9_isWell c (by omega)) c1
    have hF := (if_neg c1).symm.trans hF
    refine lv_iload_n hx hb dX9_well_11 rfl (lv_at hl 2 rfl) ?_
    by_cases t2 : a2 = 0
    · have it2 : a2.toInt = 0 := i_eq t2
      have hF := (if_pos t2).symm.trans hF
      refine lv_tableIn (off := 32) (tgt := 44) hx hb dX9_well_12 (by rw [it2]; decide) (by rw [it2]; decide) (by rw [it2]; rfl) (by decide) ?_
      refine lv_aload_n hx hb dX9_well_44 rfl (lv_at hl 0 rfl) ?_
      refine g_get (v := .ref (ad 50)) E h 48 rfl rfl layX9 3 (by decide) rfl mw_822 rfl dX9_well_45 ?_
      refine lv_iconst (v := 4) hx hb dX9_well_48 (by decide) ?_
      refine lv_iload_n hx hb dX9_well_49 rfl (lv_at hl 1 rfl) ?_
      refine lv_iadd hx hb dX9_well_50 ?_
      refine g_iald (f := (τ.2.1 50)) E h 50 rfl (ix_of (oI_add (oI_lit (x := 4) (a := 4) rfl) (oI_at a1)) (by omega) (by decide)) dX9_well_51 ?_
      exact g_iret E hr hlk h hQ hF rfl dX9_well_52
    · have it2 : a2.toInt ≠ 0 := i_ne t2
      have hF := (if_neg t2).symm.trans hF
      by_cases t3 : a2 = 1
      · have it3 : a2.toInt = 1 := i_eq t3
        have hF := (if_pos t3).symm.trans hF
        refine lv_tableIn (off := 41) (tgt := 53) hx hb dX9_well_12 (by rw [it3]; decide) (by rw [it3]; decide) (by rw [it3]; rfl) (by decide) ?_
        refine lv_aload_n hx hb dX9_well_53 rfl (lv_at hl 0 rfl) ?_
        refine lv_iload_n hx hb dX9_well_54 rfl (lv_at hl 1 rfl) ?_
        refine g_callVh (F_X9_knotsAt τ a1) (rest := []) E h (c_X9_knotsAt l D cI cZ z ad σ τ a1 (show 0 ≤ a1.toInt ∧ a1.toInt < 6 from by omega)) mw_931 cbX9_knotsAt 48 rfl rfl ⟨by decide, by decide⟩ rfl rfl hl.1 (Nat.le_of_ble_eq_true rfl) ⟨Nat.zero_le _, Nat.zero_le _⟩ dX9_well_55 (fun v4 huv4 H locs h => ?_)
        have hF : F_X9_well_k55_5 τ a1 a2 v4 = (F_X9_well τ a1 a2) := by rw [← huv4]; exact hF
        exact g_iret E hr hlk h hQ hF rfl dX9_well_58
      · have it3 : a2.toInt ≠ 1 := i_ne t3
        have hF := (if_neg t3).symm.trans hF
        by_cases t6 : a2 = 2
        · have it6 : a2.toInt = 2 := i_eq t6
          have hF := (if_pos t6).symm.trans hF
          refine lv_tableIn (off := 47) (tgt := 59) hx hb dX9_well_12 (by rw [it6]; decide) (by rw [it6]; decide) (by rw [it6]; rfl) (by decide) ?_
          refine lv_aload_n hx hb dX9_well_59 rfl (lv_at hl 0 rfl) ?_
          refine lv_iload_n hx hb dX9_well_60 rfl (lv_at hl 1 rfl) ?_
          refine g_callVh (F_X9_duesOf τ a1) (rest := []) E h (c_X9_duesOf l D cI cZ z ad σ τ a1 (show 0 ≤ a1.toInt ∧ a1.toInt < 6 from by omega)) mw_935 cbX9_duesOf 48 rfl rfl ⟨by decide, by decide⟩ rfl rfl hl.1 (Nat.le_of_ble_eq_true rfl) ⟨Nat.zero_le _, Nat.zero_le _⟩ dX9_well_61 (fun v7 huv7 H locs h => ?_)
          have hF : F_X9_well_k61_8 τ a1 a2 v7 = (F_X9_well τ a1 a2) := by rw [← huv7]; exact hF
          exact g_iret E hr hlk h hQ hF rfl dX9_well_64
        · have it6 : a2.toInt ≠ 2 := i_ne t6
          have hF := (if_neg t6).symm.trans hF
          by_cases t9 : a2 = 3
          · have it9 : a2.toInt = 3 := i_eq t9
            have hF := (if_pos t9).symm.trans hF
            refine lv_tableIn (off := 53) (tgt := 65) hx hb dX9_well_12 (by rw [it9]; decide) (by rw [it9]; decide) (by rw [it9]; rfl) (by decide) ?_
            refine lv_aload_n hx hb dX9_well_65 rfl (lv_at hl 0 rfl) ?_
            refine lv_iload_n hx hb dX9_well_66 rfl (lv_at hl 1 rfl) ?_
            refine g_callVh (F_X9_net τ a1) (rest := []) E h (c_X9_net l D cI cZ z ad σ τ a1 (show 0 ≤ a1.toInt ∧ a1.toInt < 6 from by omega)) mw_939 cbX9_net 48 rfl rfl ⟨by decide, by decide⟩ rfl rfl hl.1 (Nat.le_of_ble_eq_true rfl) ⟨Nat.zero_le _, Nat.zero_le _⟩ dX9_well_67 (fun v10 huv10 H locs h => ?_)
            have hF : F_X9_well_k67_11 τ a1 a2 v10 = (F_X9_well τ a1 a2) := by rw [← huv10]; exact hF
            exact g_iret E hr hlk h hQ hF rfl dX9_well_70
          · have it9 : a2.toInt ≠ 3 := i_ne t9
            have hF := (if_neg t9).symm.trans hF
            refine lv_tableOut (tgt := 71) hx hb dX9_well_12 (by omega) (by decide) ?_
            refine g_ldc (v := (-1000000)) E mw_930 dX9_well_71 ?_
            exact g_iret E hr hlk h hQ hF rfl dX9_well_73
  · have ic1 : (F_X9_isWell τ a1).toInt = 0 := i_eq c1
    have hF := (if_pos c1).symm.trans hF
    refine g_ldc (v := (-1000000)) E mw_930 dX9_well_8 ?_
    exact g_iret E hr hlk h hQ hF rfl dX9_well_10

def F_X9_knots (τ : St) (a1 : Int32) (a2 : Int32) : Int32 := (if (F_X9_isCaravan τ a1) = 0 then ((-1) : Int32) else (if (F_X9_isWell τ a2) = 0 then ((-1) : Int32) else ((τ.2.1 53) (((14 : Int32) + ((6 : Int32) * a1)) + a2).toNatClampNeg)))
set_option maxHeartbeats 4000000 in
set_option maxRecDepth 20000 in
theorem c_X9_knots (l : Launch) (D : va_G) (cI cZ : ClassId) (z : Nat) (ad : Nat → Nat) (σ τ : St) (a1 a2 : Int32) (hw_ : 0 ≤ ((τ.2.1 50) 0).toInt ∧ ((τ.2.1 50) 0).toInt ≤ 6) (hc_ : 0 ≤ ((τ.2.1 50) 2).toInt ∧ ((τ.2.1 50) 2).toInt ≤ 4) : gM l yX9_knots cX9_knots 3 (some .int) 3 D cI cZ z (gws ad cI cZ σ τ) [.ref (ad 48), .int a1, .int a2] (some (.int (F_X9_knots τ a1 a2))) (gws ad cI cZ σ τ) := by
  refine g_met (own := RX9) (by decide) rfl (Nat.le_of_ble_eq_true rfl) (fun p e s m below meth c ls Q E hr hlk h hl hQ => ?_)
  have hx := E.1
  have hb := E.2.1
  have hF : (F_X9_knots τ a1 a2) = (F_X9_knots τ a1 a2) := rfl
  have hl : lv_has ls 3 [(0, .ref (ad 48)), (1, .int a1), (2, .int a2)] := hl
  refine lv_aload_n hx hb dX9_knots_0 rfl (lv_at hl 0 rfl) ?_
  refine lv_iload_n hx hb dX9_knots_1 rfl (lv_at hl 1 rfl) ?_
  refine g_callVi (rest := []) E h (c_X9_isCaravan l D cI cZ z ad σ τ a1) mw_907 cbX9_isCaravan 48 rfl rfl ⟨by decide, by decide⟩ rfl rfl hl.1 (Nat.le_of_ble_eq_true rfl) ⟨Nat.zero_le _, Nat.zero_le _⟩ dX9_knots_2 (fun H locs h => ?_)
  refine lv_if_eq (tgt := 33) hx hb dX9_knots_5 (by decide) (fun c1 => ?_) (fun c1 => ?_)
  · have ic1 : (F_X9_isCaravan τ a1).toInt = 0 := i_eq c1
    have hF := (if_pos c1).symm.trans hF
    refine lv_iconst (v := (-1)) hx hb dX9_knots_33 (by decide) ?_
    exact g_iret E hr hlk h hQ hF rfl dX9_knots_34
  · have ic1 : (F_X9_isCaravan τ a1).toInt ≠ 0 := i_ne c1
    have jc1 := (fun c => fz9_isCaravan c (by omega)) c1
    have hF := (if_neg c1).symm.trans hF
    refine lv_aload_n hx hb dX9_knots_8 rfl (lv_at hl 0 rfl) ?_
    refine lv_iload_n hx hb dX9_knots_9 rfl (lv_at hl 2 rfl) ?_
    refine g_callVi (rest := []) E h (c_X9_isWell l D cI cZ z ad σ τ a2) mw_926 cbX9_isWell 48 rfl rfl ⟨by decide, by decide⟩ rfl rfl hl.1 (Nat.le_of_ble_eq_true rfl) ⟨Nat.zero_le _, Nat.zero_le _⟩ dX9_knots_10 (fun H locs h => ?_)
    refine lv_if_eq (tgt := 33) hx hb dX9_knots_13 (by decide) (fun c2 => ?_) (fun c2 => ?_)
    · have ic2 : (F_X9_isWell τ a2).toInt = 0 := i_eq c2
      have hF := (if_pos c2).symm.trans hF
      refine lv_iconst (v := (-1)) hx hb dX9_knots_33 (by decide) ?_
      exact g_iret E hr hlk h hQ hF rfl dX9_knots_34
    · have ic2 : (F_X9_isWell τ a2).toInt ≠ 0 := i_ne c2
      have jc2 := (fun c => fz9_isWell c (by omega)) c2
      have hF := (if_neg c2).symm.trans hF
      refine lv_aload_n hx hb dX9_knots_16 rfl (lv_at hl 0 rfl) ?_
      refine g_get (v := .ref (ad 53)) E h 48 rfl rfl layX9 6 (by decide) rfl mw_825 rfl dX9_knots_17 ?_
      refine lv_bipush (v := 14) hx hb dX9_knots_20 (by decide) ?_
      refine lv_bipush (v := 6) hx hb dX9_knots_22 (by decide) ?_
      refine lv_iload_n hx hb dX9_knots_24 rfl (lv_at hl 1 rfl) ?_
      refine lv_imul hx hb dX9_knots_25 ?_
      refine lv_iadd hx hb dX9_knots_26 ?_
      refine lv_iload_n hx hb dX9_knots_27 rfl (lv_at hl 2 rfl) ?_
      refine lv_iadd hx hb dX9_knots_28 ?_
      refine g_iald (f := (τ.2.1 53)) E h 53 rfl (ix_of (oI_add (oI_add (oI_lit (x := 14) (a := 14) rfl) (oI_mul (oI_lit (x := 6) (a := 6) rfl) (oI_at a1))) (oI_at a2)) (by omega) (by decide)) dX9_knots_29 ?_
      refine lv_goto (tgt := 34) hx hb dX9_knots_30 (by decide) ?_
      exact g_iret E hr hlk h hQ hF rfl dX9_knots_34

def F_X9_dues (τ : St) (a1 : Int32) (a2 : Int32) : Int32 := (if (F_X9_isWell τ a1) = 0 then ((-1) : Int32) else (if (F_X9_isWell τ a2) = 0 then ((-1) : Int32) else (if a1 = a2 then ((-1) : Int32) else ((τ.2.1 53) (((38 : Int32) + ((6 : Int32) * a1)) + a2).toNatClampNeg))))
set_option maxHeartbeats 4000000 in
set_option maxRecDepth 20000 in
theorem c_X9_dues (l : Launch) (D : va_G) (cI cZ : ClassId) (z : Nat) (ad : Nat → Nat) (σ τ : St) (a1 a2 : Int32) (hw_ : 0 ≤ ((τ.2.1 50) 0).toInt ∧ ((τ.2.1 50) 0).toInt ≤ 6) : gM l yX9_dues cX9_dues 3 (some .int) 3 D cI cZ z (gws ad cI cZ σ τ) [.ref (ad 48), .int a1, .int a2] (some (.int (F_X9_dues τ a1 a2))) (gws ad cI cZ σ τ) := by
  refine g_met (own := RX9) (by decide) rfl (Nat.le_of_ble_eq_true rfl) (fun p e s m below meth c ls Q E hr hlk h hl hQ => ?_)
  have hx := E.1
  have hb := E.2.1
  have hF : (F_X9_dues τ a1 a2) = (F_X9_dues τ a1 a2) := rfl
  have hl : lv_has ls 3 [(0, .ref (ad 48)), (1, .int a1), (2, .int a2)] := hl
  refine lv_aload_n hx hb dX9_dues_0 rfl (lv_at hl 0 rfl) ?_
  refine lv_iload_n hx hb dX9_dues_1 rfl (lv_at hl 1 rfl) ?_
  refine g_callVi (rest := []) E h (c_X9_isWell l D cI cZ z ad σ τ a1) mw_926 cbX9_isWell 48 rfl rfl ⟨by decide, by decide⟩ rfl rfl hl.1 (Nat.le_of_ble_eq_true rfl) ⟨Nat.zero_le _, Nat.zero_le _⟩ dX9_dues_2 (fun H locs h => ?_)
  refine lv_if_eq (tgt := 38) hx hb dX9_dues_5 (by decide) (fun c1 => ?_) (fun c1 => ?_)
  · have ic1 : (F_X9_isWell τ a1).toInt = 0 := i_eq c1
    have hF := (if_pos c1).symm.trans hF
    refine lv_iconst (v := (-1)) hx hb dX9_dues_38 (by decide) ?_
    exact g_iret E hr hlk h hQ hF rfl dX9_dues_39
  · have ic1 : (F_X9_isWell τ a1).toInt ≠ 0 := i_ne c1
    have jc1 := (fun c => fz9_isWell c (by omega)) c1
    have hF := (if_neg c1).symm.trans hF
    refine lv_aload_n hx hb dX9_dues_8 rfl (lv_at hl 0 rfl) ?_
    refine lv_iload_n hx hb dX9_dues_9 rfl (lv_at hl 2 rfl) ?_
    refine g_callVi (rest := []) E h (c_X9_isWell l D cI cZ z ad σ τ a2) mw_926 cbX9_isWell 48 rfl rfl ⟨by decide, by decide⟩ rfl rfl hl.1 (Nat.le_of_ble_eq_true rfl) ⟨Nat.zero_le _, Nat.zero_le _⟩ dX9_dues_10 (fun H locs h => ?_)
    refine lv_if_eq (tgt := 38) hx hb dX9_dues_13 (by decide) (fun c2 => ?_) (fun c2 => ?_)
    · have ic2 : (F_X9_isWell τ a2).toInt = 0 := i_eq c2
      have hF := (if_pos c2).symm.trans hF
      refine lv_iconst (v := (-1)) hx hb dX9_dues_38 (by decide) ?_
      exact g_iret E hr hlk h hQ hF rfl dX9_dues_39
    · have ic2 : (F_X9_isWell τ a2).toInt ≠ 0 := i_ne c2
      have jc2 := (fun c => fz9_isWell c (by omega)) c2
      have hF := (if_neg c2).symm.trans hF
      refine lv_iload_n hx hb dX9_dues_16 rfl (lv_at hl 1 rfl) ?_
      refine lv_iload_n hx hb dX9_dues_17 rfl (lv_at hl 2 rfl) ?_
      refine lv_icmp_eq (tgt := 38) hx hb dX9_dues_18 (by decide) (fun c3 => ?_) (fun c3 => ?_)
      · have ic3 : a1.toInt = a2.toInt := i_eq c3
        have hF := (if_pos c3).symm.trans hF
        refine lv_iconst (v := (-1)) hx hb dX9_dues_38 (by decide) ?_
        exact g_iret E hr hlk h hQ hF rfl dX9_dues_39
      · have ic3 : a1.toInt ≠ a2.toInt := i_ne c3
        have hF := (if_neg c3).symm.trans hF
        refine lv_aload_n hx hb dX9_dues_21 rfl (lv_at hl 0 rfl) ?_
        refine g_get (v := .ref (ad 53)) E h 48 rfl rfl layX9 6 (by decide) rfl mw_825 rfl dX9_dues_22 ?_
        refine lv_bipush (v := 38) hx hb dX9_dues_25 (by decide) ?_
        refine lv_bipush (v := 6) hx hb dX9_dues_27 (by decide) ?_
        refine lv_iload_n hx hb dX9_dues_29 rfl (lv_at hl 1 rfl) ?_
        refine lv_imul hx hb dX9_dues_30 ?_
        refine lv_iadd hx hb dX9_dues_31 ?_
        refine lv_iload_n hx hb dX9_dues_32 rfl (lv_at hl 2 rfl) ?_
        refine lv_iadd hx hb dX9_dues_33 ?_
        refine g_iald (f := (τ.2.1 53)) E h 53 rfl (ix_of (oI_add (oI_add (oI_lit (x := 38) (a := 38) rfl) (oI_mul (oI_lit (x := 6) (a := 6) rfl) (oI_at a1))) (oI_at a2)) (by omega) (by decide)) dX9_dues_34 ?_
        refine lv_goto (tgt := 39) hx hb dX9_dues_35 (by decide) ?_
        exact g_iret E hr hlk h hQ hF rfl dX9_dues_39
