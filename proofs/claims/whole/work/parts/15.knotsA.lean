def F_X8_canBorrow (σ : St) (a1 : Int32) (a2 : Int32) : Int32 := (if (F_X2_isAlive σ a1) = 0 then (0 : Int32) else (if (99 : Int32) < ((F_X2_knotsOf σ a1 (F_X2_placeOf σ a1)) + a2) then (0 : Int32) else (1 : Int32)))
set_option maxHeartbeats 4000000 in
set_option maxRecDepth 20000 in
theorem c_X8_canBorrow (l : Launch) (D : va_G) (cI cZ : ClassId) (z : Nat) (ad : Nat → Nat) (σ τ : St) (a1 a2 : Int32) : gM l yX8_canBorrow cX8_canBorrow 4 (some .boolean) 3 D cI cZ z (gws ad cI cZ σ τ) [.ref (ad 0), .int a1, .int a2] (some (.int (F_X8_canBorrow σ a1 a2))) (gws ad cI cZ σ τ) := by
  refine g_met (own := RX8) (by decide) rfl (Nat.le_of_ble_eq_true rfl) (fun p e s m below meth c ls Q E hr hlk h hl hQ => ?_)
  have hx := E.1
  have hb := E.2.1
  have hF : (F_X8_canBorrow σ a1 a2) = (F_X8_canBorrow σ a1 a2) := rfl
  have hl : lv_has ls 4 [(0, .ref (ad 0)), (1, .int a1), (2, .int a2)] := hl
  refine lv_aload_n hx hb dX8_canBorrow_0 rfl (lv_at hl 0 rfl) ?_
  refine g_get (v := .ref (ad 25)) E h 0 rfl rfl layX8 3 (by decide) rfl mw_205 rfl dX8_canBorrow_1 ?_
  refine g_getN (v := .ref (ad 26)) E h 25 rfl rfl layX1 0 (by decide) rfl nf_RX8_123 rfl dX8_canBorrow_4 ?_
  refine lv_astore_n (lv' := [(3, .ref (ad 26)), (0, .ref (ad 0)), (1, .int a1), (2, .int a2)]) hx hb dX8_canBorrow_7 rfl hl (by decide) rfl (fun ls hl => ?_)
  refine lv_aload_n hx hb dX8_canBorrow_8 rfl (lv_at hl 0 rfl) ?_
  refine lv_iload_n hx hb dX8_canBorrow_9 rfl (lv_at hl 2 rfl) ?_
  refine g_callVi (rest := []) E h (c_X2_isAlive l D cI cZ z ad σ τ a1) mw_438 cbX2_isAlive 26 rfl rfl ⟨by decide, by decide⟩ rfl rfl hl.1 (Nat.le_of_ble_eq_true rfl) ⟨Nat.zero_le _, Nat.zero_le _⟩ dX8_canBorrow_10 (fun H locs h => ?_)
  refine lv_if_eq (tgt := 37) hx hb dX8_canBorrow_13 (by decide) (fun c1 => ?_) (fun c1 => ?_)
  · have ic1 : (F_X2_isAlive σ a1).toInt = 0 := i_eq c1
    have hF := (if_pos c1).symm.trans hF
    refine lv_iconst (v := 0) hx hb dX8_canBorrow_37 (by decide) ?_
    exact g_zret E hr hlk h hQ (rfl) hF rfl dX8_canBorrow_38
  · have ic1 : (F_X2_isAlive σ a1).toInt ≠ 0 := i_ne c1
    have hF := (if_neg c1).symm.trans hF
    refine lv_aload_n hx hb dX8_canBorrow_16 rfl (lv_at hl 0 rfl) ?_
    refine lv_iload_n hx hb dX8_canBorrow_17 rfl (lv_at hl 2 rfl) ?_
    refine lv_aload_n hx hb dX8_canBorrow_18 rfl (lv_at hl 0 rfl) ?_
    refine lv_iload_n hx hb dX8_canBorrow_19 rfl (lv_at hl 2 rfl) ?_
    refine g_callVi (rest := [.int a1, .ref (ad 26)]) E h (c_X2_placeOf l D cI cZ z ad σ τ a1) mw_421 cbX2_placeOf 26 rfl rfl ⟨by decide, by decide⟩ rfl rfl hl.1 (Nat.le_of_ble_eq_true rfl) ⟨Nat.zero_le _, Nat.zero_le _⟩ dX8_canBorrow_20 (fun H locs h => ?_)
    refine g_callVi (rest := []) E h (c_X2_knotsOf l D cI cZ z ad σ τ a1 (F_X2_placeOf σ a1)) mw_492 cbX2_knotsOf 26 rfl rfl ⟨by decide, by decide⟩ rfl rfl hl.1 (Nat.le_of_ble_eq_true rfl) ⟨Nat.zero_le _, Nat.zero_le _⟩ dX8_canBorrow_23 (fun H locs h => ?_)
    refine lv_iload_n hx hb dX8_canBorrow_26 rfl (lv_at hl 3 rfl) ?_
    refine lv_iadd hx hb dX8_canBorrow_27 ?_
    refine lv_bipush (v := 99) hx hb dX8_canBorrow_28 (by decide) ?_
    refine lv_icmp_gt (tgt := 37) hx hb dX8_canBorrow_30 (by decide) (fun c2 => ?_) (fun c2 => ?_)
    · have ic2 : 99 < ((F_X2_knotsOf σ a1 (F_X2_placeOf σ a1)) + a2).toInt := i_lt c2
      have hF := (if_pos c2).symm.trans hF
      refine lv_iconst (v := 0) hx hb dX8_canBorrow_37 (by decide) ?_
      exact g_zret E hr hlk h hQ (rfl) hF rfl dX8_canBorrow_38
    · have ic2 : ((F_X2_knotsOf σ a1 (F_X2_placeOf σ a1)) + a2).toInt ≤ 99 := i_nlt c2
      have hF := (if_neg c2).symm.trans hF
      refine lv_iconst (v := 1) hx hb dX8_canBorrow_33 (by decide) ?_
      refine lv_goto (tgt := 38) hx hb dX8_canBorrow_34 (by decide) ?_
      exact g_zret E hr hlk h hQ (rfl) hF rfl dX8_canBorrow_38

def F_X8_borrow_k32_2 (σ : St) (a1 : Int32) (a2 : Int32) (u1 : St) : Int32 × St := (((F_X2_knotsOf σ a1 (F_X2_placeOf σ a1)) + a2), u1)
def F_X8_borrow (σ : St) (a1 : Int32) (a2 : Int32) : Int32 × St := (F_X8_borrow_k32_2 σ a1 a2 (F_X2_setKnots σ a1 (F_X2_placeOf σ a1) ((F_X2_knotsOf σ a1 (F_X2_placeOf σ a1)) + a2)))
abbrev I_X8_borrow : List Nat := []
abbrev A_X8_borrow : List Nat := [27]
theorem fr_F_X8_borrow_k32_2 (σ : St) (a1 : Int32) (a2 : Int32) (u1 : St) (hfr : Fr I_X8_borrow A_X8_borrow false σ (u1)) : Fr I_X8_borrow A_X8_borrow false σ (F_X8_borrow_k32_2  σ a1 a2 u1).2 := hfr
theorem fr_F_X8_borrow (σ : St) (a1 : Int32) (a2 : Int32) : Fr I_X8_borrow A_X8_borrow false σ (F_X8_borrow σ a1 a2).2 := (fr_F_X8_borrow_k32_2 σ a1 a2 (F_X2_setKnots σ a1 (F_X2_placeOf σ a1) ((F_X2_knotsOf σ a1 (F_X2_placeOf σ a1)) + a2)) (Fr.tr Fr.rf (Fr.mono (by decide) (by decide) (by decide) (fr_F_X2_setKnots σ a1 (F_X2_placeOf σ a1) ((F_X2_knotsOf σ a1 (F_X2_placeOf σ a1)) + a2)))))
set_option maxHeartbeats 4000000 in
set_option maxRecDepth 20000 in
theorem c_X8_borrow (l : Launch) (D : va_G) (cI cZ : ClassId) (z : Nat) (ad : Nat → Nat) (σ τ : St) (a1 a2 : Int32) : gM l yX8_borrow cX8_borrow 6 (some .int) 3 D cI cZ z (gws ad cI cZ σ τ) [.ref (ad 0), .int a1, .int a2] (some (.int (F_X8_borrow σ a1 a2).1)) (gws ad cI cZ (F_X8_borrow σ a1 a2).2 τ) := by
  refine g_met (own := RX8) (by decide) rfl (Nat.le_of_ble_eq_true rfl) (fun p e s m below meth c ls Q E hr hlk h hl hQ => ?_)
  have hx := E.1
  have hb := E.2.1
  have hF : (F_X8_borrow σ a1 a2) = (F_X8_borrow σ a1 a2) := rfl
  have hl : lv_has ls 6 [(0, .ref (ad 0)), (1, .int a1), (2, .int a2)] := hl
  refine lv_aload_n hx hb dX8_borrow_0 rfl (lv_at hl 0 rfl) ?_
  refine g_get (v := .ref (ad 25)) E h 0 rfl rfl layX8 3 (by decide) rfl mw_205 rfl dX8_borrow_1 ?_
  refine g_getN (v := .ref (ad 26)) E h 25 rfl rfl layX1 0 (by decide) rfl nf_RX8_123 rfl dX8_borrow_4 ?_
  refine lv_astore_n (lv' := [(3, .ref (ad 26)), (0, .ref (ad 0)), (1, .int a1), (2, .int a2)]) hx hb dX8_borrow_7 rfl hl (by decide) rfl (fun ls hl => ?_)
  refine lv_aload_n hx hb dX8_borrow_8 rfl (lv_at hl 0 rfl) ?_
  refine lv_iload_n hx hb dX8_borrow_9 rfl (lv_at hl 2 rfl) ?_
  refine g_callVi (rest := []) E h (c_X2_placeOf l D cI cZ z ad σ τ a1) mw_421 cbX2_placeOf 26 rfl rfl ⟨by decide, by decide⟩ rfl rfl hl.1 (Nat.le_of_ble_eq_true rfl) ⟨Nat.zero_le _, Nat.zero_le _⟩ dX8_borrow_10 (fun H locs h => ?_)
  refine lv_istore (lv' := [(4, .int (F_X2_placeOf σ a1)), (3, .ref (ad 26)), (0, .ref (ad 0)), (1, .int a1), (2, .int a2)]) hx hb dX8_borrow_13 hl (by decide) rfl (fun ls hl => ?_)
  refine lv_aload_n hx hb dX8_borrow_15 rfl (lv_at hl 1 rfl) ?_
  refine lv_iload_n hx hb dX8_borrow_16 rfl (lv_at hl 3 rfl) ?_
  refine lv_iload hx hb dX8_borrow_17 (lv_at hl 0 rfl) ?_
  refine g_callVi (rest := []) E h (c_X2_knotsOf l D cI cZ z ad σ τ a1 (F_X2_placeOf σ a1)) mw_492 cbX2_knotsOf 26 rfl rfl ⟨by decide, by decide⟩ rfl rfl hl.1 (Nat.le_of_ble_eq_true rfl) ⟨Nat.zero_le _, Nat.zero_le _⟩ dX8_borrow_19 (fun H locs h => ?_)
  refine lv_iload_n hx hb dX8_borrow_22 rfl (lv_at hl 4 rfl) ?_
  refine lv_iadd hx hb dX8_borrow_23 ?_
  refine lv_istore (lv' := [(5, .int ((F_X2_knotsOf σ a1 (F_X2_placeOf σ a1)) + a2)), (4, .int (F_X2_placeOf σ a1)), (3, .ref (ad 26)), (0, .ref (ad 0)), (1, .int a1), (2, .int a2)]) hx hb dX8_borrow_24 hl (by decide) rfl (fun ls hl => ?_)
  refine lv_aload_n hx hb dX8_borrow_26 rfl (lv_at hl 2 rfl) ?_
  refine lv_iload_n hx hb dX8_borrow_27 rfl (lv_at hl 4 rfl) ?_
  refine lv_iload hx hb dX8_borrow_28 (lv_at hl 1 rfl) ?_
  refine lv_iload hx hb dX8_borrow_30 (lv_at hl 0 rfl) ?_
  refine g_callVUv (F_X2_setKnots σ a1 (F_X2_placeOf σ a1) ((F_X2_knotsOf σ a1 (F_X2_placeOf σ a1)) + a2)) (fun u => gws ad cI cZ u τ) (rest := []) E h (c_X2_setKnots l D cI cZ z ad σ τ a1 (F_X2_placeOf σ a1) ((F_X2_knotsOf σ a1 (F_X2_placeOf σ a1)) + a2)) mw_538 cbX2_setKnots 26 rfl rfl ⟨by decide, by decide⟩ rfl rfl hl.1 (Nat.le_of_ble_eq_true rfl) ⟨Nat.zero_le _, Nat.zero_le _⟩ dX8_borrow_32 (fun u1 huu1 H locs h => ?_)
  have hF : F_X8_borrow_k32_2 σ a1 a2 u1 = (F_X8_borrow σ a1 a2) := by rw [← huu1]; exact hF
  refine lv_iload hx hb dX8_borrow_35 (lv_at hl 0 rfl) ?_
  exact g_iret E hr hlk h hQ (fst_of hF) (snd_of hF (fun u => gws ad cI cZ u τ)) dX8_borrow_37

def F_X8_chancesAlive_k45_10 (rc : Int32 → Int32 → Int32 → Int32 → Int32 → Int32) (a1 : Int32) (a2 : Int32) (a3 : Int32) (a4 : Int32) (a5 : Int32) (v5 : Int32) (v9 : Int32) : Int32 := ((a5 * v5) + (((10 : Int32) - a5) * v9))
def F_X8_chancesAlive_k26_6 (rc : Int32 → Int32 → Int32 → Int32 → Int32 → Int32) (a1 : Int32) (a2 : Int32) (a3 : Int32) (a4 : Int32) (a5 : Int32) (v5 : Int32) : Int32 := (F_X8_chancesAlive_k45_10 rc a1 a2 a3 a4 a5 v5 (rc (a1 - (1 : Int32)) (a2 - a3) a3 a4 a5))
def F_X8_chancesAlive_B (rc : Int32 → Int32 → Int32 → Int32 → Int32 → Int32) (a1 : Int32) (a2 : Int32) (a3 : Int32) (a4 : Int32) (a5 : Int32) : Int32 := (if 0 ≤ a2 then (if 0 < a1 then (F_X8_chancesAlive_k26_6 rc a1 a2 a3 a4 a5 (rc (a1 - (1 : Int32)) ((a2 - a3) - a4) a3 a4 a5)) else (1 : Int32)) else (0 : Int32))
def F_X8_chancesAlive : Nat → Int32 → Int32 → Int32 → Int32 → Int32 → Int32
  | 0 => fun _ _ _ _ _ => 0
  | d + 1 => F_X8_chancesAlive_B (F_X8_chancesAlive d)
set_option maxHeartbeats 4000000 in
set_option maxRecDepth 20000 in
theorem c_X8_chancesAlive (l : Launch) (D : va_G) (cI cZ : ClassId) (z : Nat) (ws : va_W) : ∀ (d : Nat) (a1 a2 a3 a4 a5 : Int32), (0 < d ∧ a1.toInt < d ∧ a1.toInt ≤ 6) → gM l yX8_chancesAlive cX8_chancesAlive 5 (some .int) (d + 2) D cI cZ z ws [.int a1, .int a2, .int a3, .int a4, .int a5] (some (.int (F_X8_chancesAlive d a1 a2 a3 a4 a5))) ws := by
  intro d
  induction d with
  | zero => intro a1 a2 a3 a4 a5 hp; exact absurd hp (by omega)
  | succ d ihd =>
    intro a1 a2 a3 a4 a5 hp
    have hB : F_X8_chancesAlive_B (F_X8_chancesAlive d) a1 a2 a3 a4 a5 = (F_X8_chancesAlive (d + 1) a1 a2 a3 a4 a5) := rfl
    refine g_met (own := RX8) (by decide) rfl (Nat.le_of_ble_eq_true rfl) (fun p e s m below meth c ls Q E hr hlk h hl hQ => ?_)
    have hx := E.1
    have hb := E.2.1
    have hF := hB
    clear hB
    generalize F_X8_chancesAlive (d + 1) a1 a2 a3 a4 a5 = TG at hF hQ
    generalize F_X8_chancesAlive d = rc at ihd hF
    have hl : lv_has ls 5 [(0, .int a1), (1, .int a2), (2, .int a3), (3, .int a4), (4, .int a5)] := hl
    refine lv_iload_n hx hb dX8_chancesAlive_0 rfl (lv_at hl 1 rfl) ?_
    refine lv_if_ge (tgt := 6) hx hb dX8_chancesAlive_1 (by decide) (fun c1 => ?_) (fun c1 => ?_)
    · have ic1 : 0 ≤ a2.toInt := i_le c1
      have hF := (if_pos c1).symm.trans hF
      refine lv_iload_n hx hb dX8_chancesAlive_6 rfl (lv_at hl 0 rfl) ?_
      refine lv_if_gt (tgt := 12) hx hb dX8_chancesAlive_7 (by decide) (fun c2 => ?_) (fun c2 => ?_)
      · have ic2 : 0 < a1.toInt := i_lt c2
        have hF := (if_pos c2).symm.trans hF
        refine lv_iload hx hb dX8_chancesAlive_12 (lv_at hl 4 rfl) ?_
        refine lv_iload_n hx hb dX8_chancesAlive_14 rfl (lv_at hl 0 rfl) ?_
        refine lv_iconst (v := 1) hx hb dX8_chancesAlive_15 (by decide) ?_
        refine lv_isub hx hb dX8_chancesAlive_16 ?_
        refine lv_iload_n hx hb dX8_chancesAlive_17 rfl (lv_at hl 1 rfl) ?_
        refine lv_iload_n hx hb dX8_chancesAlive_18 rfl (lv_at hl 2 rfl) ?_
        refine lv_isub hx hb dX8_chancesAlive_19 ?_
        refine lv_iload_n hx hb dX8_chancesAlive_20 rfl (lv_at hl 3 rfl) ?_
        refine lv_isub hx hb dX8_chancesAlive_21 ?_
        refine lv_iload_n hx hb dX8_chancesAlive_22 rfl (lv_at hl 2 rfl) ?_
        refine lv_iload_n hx hb dX8_chancesAlive_23 rfl (lv_at hl 3 rfl) ?_
        refine lv_iload hx hb dX8_chancesAlive_24 (lv_at hl 4 rfl) ?_
        have w3 : (a1 - (1 : Int32)).toInt = _ := ti_of (oI_sub (oI_at a1) (oI_lit (x := 1) (a := 1) rfl)) (by omega)
        have w4 : (a1 - (1 : Int32)).toInt = _ := ti_of (oI_sub (oI_at a1) (oI_lit (x := 1) (a := 1) rfl)) (by omega)
        refine g_callSh (rc (a1 - (1 : Int32)) ((a2 - a3) - a4) a3 a4 a5) (rest := [.int a5]) E h (ihd (a1 - (1 : Int32)) ((a2 - a3) - a4) a3 a4 a5 (show 0 < d ∧ (a1 - (1 : Int32)).toInt < d ∧ (a1 - (1 : Int32)).toInt ≤ 6 from by omega)) mw_678 cbX8_chancesAlive ⟨by show d + 2 + 1 ≤ d + 1 + 2; omega, by show 8 + (5 + 11) + 100 * (d + 2) ≤ 100 * (d + 1 + 2); omega⟩ rfl rfl hl.1 (Nat.le_of_ble_eq_true rfl) ⟨Nat.zero_le _, Nat.zero_le _⟩ dX8_chancesAlive_26 (fun v5 huv5 H locs h => ?_)
        have hF : F_X8_chancesAlive_k26_6 rc a1 a2 a3 a4 a5 v5 = TG := by rw [← huv5]; exact hF
        refine lv_imul hx hb dX8_chancesAlive_29 ?_
        refine lv_bipush (v := 10) hx hb dX8_chancesAlive_30 (by decide) ?_
        refine lv_iload hx hb dX8_chancesAlive_32 (lv_at hl 4 rfl) ?_
        refine lv_isub hx hb dX8_chancesAlive_34 ?_
        refine lv_iload_n hx hb dX8_chancesAlive_35 rfl (lv_at hl 0 rfl) ?_
        refine lv_iconst (v := 1) hx hb dX8_chancesAlive_36 (by decide) ?_
        refine lv_isub hx hb dX8_chancesAlive_37 ?_
        refine lv_iload_n hx hb dX8_chancesAlive_38 rfl (lv_at hl 1 rfl) ?_
        refine lv_iload_n hx hb dX8_chancesAlive_39 rfl (lv_at hl 2 rfl) ?_
        refine lv_isub hx hb dX8_chancesAlive_40 ?_
        refine lv_iload_n hx hb dX8_chancesAlive_41 rfl (lv_at hl 2 rfl) ?_
        refine lv_iload_n hx hb dX8_chancesAlive_42 rfl (lv_at hl 3 rfl) ?_
        refine lv_iload hx hb dX8_chancesAlive_43 (lv_at hl 4 rfl) ?_
        have w7 : (a1 - (1 : Int32)).toInt = _ := ti_of (oI_sub (oI_at a1) (oI_lit (x := 1) (a := 1) rfl)) (by omega)
        have w8 : (a1 - (1 : Int32)).toInt = _ := ti_of (oI_sub (oI_at a1) (oI_lit (x := 1) (a := 1) rfl)) (by omega)
        refine g_callSh (rc (a1 - (1 : Int32)) (a2 - a3) a3 a4 a5) (rest := [.int ((10 : Int32) - a5), .int (a5 * v5)]) E h (ihd (a1 - (1 : Int32)) (a2 - a3) a3 a4 a5 (show 0 < d ∧ (a1 - (1 : Int32)).toInt < d ∧ (a1 - (1 : Int32)).toInt ≤ 6 from by omega)) mw_678 cbX8_chancesAlive ⟨by show d + 2 + 1 ≤ d + 1 + 2; omega, by show 8 + (5 + 11) + 100 * (d + 2) ≤ 100 * (d + 1 + 2); omega⟩ rfl rfl hl.1 (Nat.le_of_ble_eq_true rfl) ⟨Nat.zero_le _, Nat.zero_le _⟩ dX8_chancesAlive_45 (fun v9 huv9 H locs h => ?_)
        have hF : F_X8_chancesAlive_k45_10 rc a1 a2 a3 a4 a5 v5 v9 = TG := by rw [← huv9]; exact hF
        refine lv_imul hx hb dX8_chancesAlive_48 ?_
        refine lv_iadd hx hb dX8_chancesAlive_49 ?_
        exact g_iret E hr hlk h hQ hF rfl dX8_chancesAlive_50
      · have ic2 : a1.toInt ≤ 0 := i_nlt c2
        have hF := (if_neg c2).symm.trans hF
        refine lv_iconst (v := 1) hx hb dX8_chancesAlive_10 (by decide) ?_
        exact g_iret E hr hlk h hQ hF rfl dX8_chancesAlive_11
    · have ic1 : a2.toInt < 0 := i_nle c1
      have hF := (if_neg c1).symm.trans hF
      refine lv_iconst (v := 0) hx hb dX8_chancesAlive_4 (by decide) ?_
      exact g_iret E hr hlk h hQ hF rfl dX8_chancesAlive_5

def F_X8_markAsWell_k18_2 (σ : St) (a1 : Int32) (v1 : Int32) : Int32 × St := (v1, (sl σ (σ.2.2 + (1 : Int64))))
def F_X8_markAsWell (σ : St) (a1 : Int32) : Int32 × St := (F_X8_markAsWell_k18_2 σ a1 (F_X2_knotsAtWell (sl σ (σ.2.2 + (1 : Int64))) a1))
abbrev I_X8_markAsWell : List Nat := []
abbrev A_X8_markAsWell : List Nat := []
theorem fr_F_X8_markAsWell_k18_2 (σ : St) (a1 : Int32) (v1 : Int32) : Fr I_X8_markAsWell A_X8_markAsWell true σ (F_X8_markAsWell_k18_2  σ a1 v1).2 := (Fr.sl rfl Fr.rf)
theorem fr_F_X8_markAsWell (σ : St) (a1 : Int32) : Fr I_X8_markAsWell A_X8_markAsWell true σ (F_X8_markAsWell σ a1).2 := (fr_F_X8_markAsWell_k18_2 σ a1 (F_X2_knotsAtWell (sl σ (σ.2.2 + (1 : Int64))) a1) )
set_option maxHeartbeats 4000000 in
set_option maxRecDepth 20000 in
theorem c_X8_markAsWell (l : Launch) (D : va_G) (cI cZ : ClassId) (z : Nat) (ad : Nat → Nat) (σ τ : St) (a1 : Int32) : gM l yX8_markAsWell cX8_markAsWell 2 (some .int) 4 D cI cZ z (gws ad cI cZ σ τ) [.ref (ad 0), .int a1] (some (.int (F_X8_markAsWell σ a1).1)) (gws ad cI cZ (F_X8_markAsWell σ a1).2 τ) := by
  refine g_met (own := RX8) (by decide) rfl (Nat.le_of_ble_eq_true rfl) (fun p e s m below meth c ls Q E hr hlk h hl hQ => ?_)
  have hx := E.1
  have hb := E.2.1
  have hF : (F_X8_markAsWell σ a1) = (F_X8_markAsWell σ a1) := rfl
  have hl : lv_has ls 2 [(0, .ref (ad 0)), (1, .int a1)] := hl
  refine lv_aload_n hx hb dX8_markAsWell_0 rfl (lv_at hl 0 rfl) ?_
  refine lv_dup hx hb dX8_markAsWell_1 rfl ?_
  refine g_get (v := .long σ.2.2) E h 0 rfl rfl layX8 11 (by decide) rfl mw_213 rfl dX8_markAsWell_2 ?_
  refine lv_lconst (v := 1) hx hb dX8_markAsWell_5 (by decide) ?_
  refine lv_ladd hx hb dX8_markAsWell_6 ?_
  refine g_put (v := .long (σ.2.2 + (1 : Int64))) (ty := .long) (ws' := gws ad cI cZ (sl σ (σ.2.2 + (1 : Int64))) τ) E h 0 rfl rfl layX8 tyX8 tyX8_ok nmX8 11 (by decide) rfl mw_213 rfl rfl rfl rfl (Nat.le_of_ble_eq_true rfl) (gl_0 ad cI cZ σ τ (σ.2.2 + (1 : Int64))) dX8_markAsWell_7 (fun H locs h => ?_)
  refine lv_aload_n hx hb dX8_markAsWell_10 rfl (lv_at hl 0 rfl) ?_
  refine g_get (v := .ref (ad 25)) E h 0 rfl rfl layX8 3 (by decide) rfl mw_205 rfl dX8_markAsWell_11 ?_
  refine g_getN (v := .ref (ad 26)) E h 25 rfl rfl layX1 0 (by decide) rfl nf_RX8_123 rfl dX8_markAsWell_14 ?_
  refine lv_iload_n hx hb dX8_markAsWell_17 rfl (lv_at hl 1 rfl) ?_
  refine g_callVh (F_X2_knotsAtWell (sl σ (σ.2.2 + (1 : Int64))) a1) (rest := []) E h (c_X2_knotsAtWell l D cI cZ z ad (sl σ (σ.2.2 + (1 : Int64))) τ a1) mw_467 cbX2_knotsAtWell 26 rfl rfl ⟨by decide, by decide⟩ rfl rfl hl.1 (Nat.le_of_ble_eq_true rfl) ⟨Nat.zero_le _, Nat.zero_le _⟩ dX8_markAsWell_18 (fun v1 huv1 H locs h => ?_)
  have hF : F_X8_markAsWell_k18_2 σ a1 v1 = (F_X8_markAsWell σ a1) := by rw [← huv1]; exact hF
  exact g_iret E hr hlk h hQ (fst_of hF) (snd_of hF (fun u => gws ad cI cZ u τ)) dX8_markAsWell_21

def F_X8_markAsKnot_k22_4 (σ : St) (a1 : Int32) (u1 : Int32 × St) (v3 : Int32) : Int32 × St := ((u1.1 + v3), u1.2)
def F_X8_markAsKnot_k14_2 (σ : St) (a1 : Int32) (u1 : Int32 × St) : Int32 × St := (F_X8_markAsKnot_k22_4 σ a1 u1 (F_X4_stagesLentBy u1.2 a1))
def F_X8_markAsKnot (σ : St) (a1 : Int32) : Int32 × St := (F_X8_markAsKnot_k14_2 σ a1 (F_X8_markAsWell (sl σ (σ.2.2 + (10 : Int64))) a1))
abbrev I_X8_markAsKnot : List Nat := []
abbrev A_X8_markAsKnot : List Nat := []
theorem fr_F_X8_markAsKnot_k22_4 (σ : St) (a1 : Int32) (u1 : Int32 × St) (v3 : Int32) (hfr : Fr I_X8_markAsKnot A_X8_markAsKnot true σ (u1.2)) : Fr I_X8_markAsKnot A_X8_markAsKnot true σ (F_X8_markAsKnot_k22_4  σ a1 u1 v3).2 := hfr
theorem fr_F_X8_markAsKnot_k14_2 (σ : St) (a1 : Int32) (u1 : Int32 × St) (hfr : Fr I_X8_markAsKnot A_X8_markAsKnot true σ (u1.2)) : Fr I_X8_markAsKnot A_X8_markAsKnot true σ (F_X8_markAsKnot_k14_2  σ a1 u1).2 := (fr_F_X8_markAsKnot_k22_4 σ a1 u1 (F_X4_stagesLentBy u1.2 a1) hfr)
theorem fr_F_X8_markAsKnot (σ : St) (a1 : Int32) : Fr I_X8_markAsKnot A_X8_markAsKnot true σ (F_X8_markAsKnot σ a1).2 := (fr_F_X8_markAsKnot_k14_2 σ a1 (F_X8_markAsWell (sl σ (σ.2.2 + (10 : Int64))) a1) (Fr.tr (Fr.sl rfl Fr.rf) (Fr.mono (by decide) (by decide) (by decide) (fr_F_X8_markAsWell (sl σ (σ.2.2 + (10 : Int64))) a1))))
set_option maxHeartbeats 4000000 in
set_option maxRecDepth 20000 in
theorem c_X8_markAsKnot (l : Launch) (D : va_G) (cI cZ : ClassId) (z : Nat) (ad : Nat → Nat) (σ τ : St) (a1 : Int32) (hs_ : (σ.1 97).toInt ≤ 8) : gM l yX8_markAsKnot cX8_markAsKnot 2 (some .int) 5 D cI cZ z (gws ad cI cZ σ τ) [.ref (ad 0), .int a1] (some (.int (F_X8_markAsKnot σ a1).1)) (gws ad cI cZ (F_X8_markAsKnot σ a1).2 τ) := by
  refine g_met (own := RX8) (by decide) rfl (Nat.le_of_ble_eq_true rfl) (fun p e s m below meth c ls Q E hr hlk h hl hQ => ?_)
  have hx := E.1
  have hb := E.2.1
  have hF : (F_X8_markAsKnot σ a1) = (F_X8_markAsKnot σ a1) := rfl
  have hl : lv_has ls 2 [(0, .ref (ad 0)), (1, .int a1)] := hl
  refine lv_aload_n hx hb dX8_markAsKnot_0 rfl (lv_at hl 0 rfl) ?_
  refine lv_dup hx hb dX8_markAsKnot_1 rfl ?_
  refine g_get (v := .long σ.2.2) E h 0 rfl rfl layX8 11 (by decide) rfl mw_213 rfl dX8_markAsKnot_2 ?_
  refine g_ldc2 (v := 10) E mw_718 dX8_markAsKnot_5 ?_
  refine lv_ladd hx hb dX8_markAsKnot_8 ?_
  refine g_put (v := .long (σ.2.2 + (10 : Int64))) (ty := .long) (ws' := gws ad cI cZ (sl σ (σ.2.2 + (10 : Int64))) τ) E h 0 rfl rfl layX8 tyX8 tyX8_ok nmX8 11 (by decide) rfl mw_213 rfl rfl rfl rfl (Nat.le_of_ble_eq_true rfl) (gl_0 ad cI cZ σ τ (σ.2.2 + (10 : Int64))) dX8_markAsKnot_9 (fun H locs h => ?_)
  refine lv_aload_n hx hb dX8_markAsKnot_12 rfl (lv_at hl 0 rfl) ?_
  refine lv_iload_n hx hb dX8_markAsKnot_13 rfl (lv_at hl 1 rfl) ?_
  refine g_callVU (F_X8_markAsWell (sl σ (σ.2.2 + (10 : Int64))) a1) (fun u => gws ad cI cZ u τ) (rest := []) E h (c_X8_markAsWell l D cI cZ z ad (sl σ (σ.2.2 + (10 : Int64))) τ a1) mw_710 cbX8_markAsWell 0 rfl rfl ⟨by decide, by decide⟩ rfl rfl hl.1 (Nat.le_of_ble_eq_true rfl) ⟨Nat.zero_le _, Nat.zero_le _⟩ dX8_markAsKnot_14 (fun u1 huu1 H locs h => ?_)
  have hF : F_X8_markAsKnot_k14_2 σ a1 u1 = (F_X8_markAsKnot σ a1) := by rw [← huu1]; exact hF
  have k97_u1 : (u1.2.1 97).toInt = (σ.1 97).toInt := by rw [← huu1]; exact congrArg Int32.toInt ((fr_F_X8_markAsWell (sl σ (σ.2.2 + (10 : Int64))) a1).1 97 (by decide))
  refine lv_aload_n hx hb dX8_markAsKnot_17 rfl (lv_at hl 0 rfl) ?_
  refine g_get (v := .ref (ad 3)) E h 0 rfl rfl layX8 1 (by decide) rfl mw_203 rfl dX8_markAsKnot_18 ?_
  refine lv_iload_n hx hb dX8_markAsKnot_21 rfl (lv_at hl 1 rfl) ?_
  refine g_callVh (F_X4_stagesLentBy u1.2 a1) (rest := [.int u1.1]) E h (c_X4_stagesLentBy l D cI cZ z ad u1.2 τ a1 (show (u1.2.1 97).toInt ≤ 8 from by omega)) mw_719 cbX4_stagesLentBy 3 rfl rfl ⟨by decide, by decide⟩ rfl rfl hl.1 (Nat.le_of_ble_eq_true rfl) ⟨Nat.zero_le _, Nat.zero_le _⟩ dX8_markAsKnot_22 (fun v3 huv3 H locs h => ?_)
  have hF : F_X8_markAsKnot_k22_4 σ a1 u1 v3 = (F_X8_markAsKnot σ a1) := by rw [← huv3]; exact hF
  refine lv_iadd hx hb dX8_markAsKnot_25 ?_
  exact g_iret E hr hlk h hQ (fst_of hF) (snd_of hF (fun u => gws ad cI cZ u τ)) dX8_markAsKnot_26

def F_X8_markAsDew_k25_4 (σ : St) (a1 : Int32) (u1 : Int32 × St) (v3 : Int32) : Int32 × St := ((u1.1 - v3), u1.2)
def F_X8_markAsDew_k14_2 (σ : St) (a1 : Int32) (u1 : Int32 × St) : Int32 × St := (F_X8_markAsDew_k25_4 σ a1 u1 (F_X2_duesBy u1.2 a1))
def F_X8_markAsDew (σ : St) (a1 : Int32) : Int32 × St := (F_X8_markAsDew_k14_2 σ a1 (F_X8_markAsWell (sl σ (σ.2.2 + (100 : Int64))) a1))
abbrev I_X8_markAsDew : List Nat := []
abbrev A_X8_markAsDew : List Nat := []
theorem fr_F_X8_markAsDew_k25_4 (σ : St) (a1 : Int32) (u1 : Int32 × St) (v3 : Int32) (hfr : Fr I_X8_markAsDew A_X8_markAsDew true σ (u1.2)) : Fr I_X8_markAsDew A_X8_markAsDew true σ (F_X8_markAsDew_k25_4  σ a1 u1 v3).2 := hfr
theorem fr_F_X8_markAsDew_k14_2 (σ : St) (a1 : Int32) (u1 : Int32 × St) (hfr : Fr I_X8_markAsDew A_X8_markAsDew true σ (u1.2)) : Fr I_X8_markAsDew A_X8_markAsDew true σ (F_X8_markAsDew_k14_2  σ a1 u1).2 := (fr_F_X8_markAsDew_k25_4 σ a1 u1 (F_X2_duesBy u1.2 a1) hfr)
theorem fr_F_X8_markAsDew (σ : St) (a1 : Int32) : Fr I_X8_markAsDew A_X8_markAsDew true σ (F_X8_markAsDew σ a1).2 := (fr_F_X8_markAsDew_k14_2 σ a1 (F_X8_markAsWell (sl σ (σ.2.2 + (100 : Int64))) a1) (Fr.tr (Fr.sl rfl Fr.rf) (Fr.mono (by decide) (by decide) (by decide) (fr_F_X8_markAsWell (sl σ (σ.2.2 + (100 : Int64))) a1))))
set_option maxHeartbeats 4000000 in
set_option maxRecDepth 20000 in
theorem c_X8_markAsDew (l : Launch) (D : va_G) (cI cZ : ClassId) (z : Nat) (ad : Nat → Nat) (σ τ : St) (a1 : Int32) : gM l yX8_markAsDew cX8_markAsDew 2 (some .int) 5 D cI cZ z (gws ad cI cZ σ τ) [.ref (ad 0), .int a1] (some (.int (F_X8_markAsDew σ a1).1)) (gws ad cI cZ (F_X8_markAsDew σ a1).2 τ) := by
  refine g_met (own := RX8) (by decide) rfl (Nat.le_of_ble_eq_true rfl) (fun p e s m below meth c ls Q E hr hlk h hl hQ => ?_)
  have hx := E.1
  have hb := E.2.1
  have hF : (F_X8_markAsDew σ a1) = (F_X8_markAsDew σ a1) := rfl
  have hl : lv_has ls 2 [(0, .ref (ad 0)), (1, .int a1)] := hl
  refine lv_aload_n hx hb dX8_markAsDew_0 rfl (lv_at hl 0 rfl) ?_
  refine lv_dup hx hb dX8_markAsDew_1 rfl ?_
  refine g_get (v := .long σ.2.2) E h 0 rfl rfl layX8 11 (by decide) rfl mw_213 rfl dX8_markAsDew_2 ?_
  refine g_ldc2 (v := 100) E mw_727 dX8_markAsDew_5 ?_
  refine lv_ladd hx hb dX8_markAsDew_8 ?_
  refine g_put (v := .long (σ.2.2 + (100 : Int64))) (ty := .long) (ws' := gws ad cI cZ (sl σ (σ.2.2 + (100 : Int64))) τ) E h 0 rfl rfl layX8 tyX8 tyX8_ok nmX8 11 (by decide) rfl mw_213 rfl rfl rfl rfl (Nat.le_of_ble_eq_true rfl) (gl_0 ad cI cZ σ τ (σ.2.2 + (100 : Int64))) dX8_markAsDew_9 (fun H locs h => ?_)
  refine lv_aload_n hx hb dX8_markAsDew_12 rfl (lv_at hl 0 rfl) ?_
  refine lv_iload_n hx hb dX8_markAsDew_13 rfl (lv_at hl 1 rfl) ?_
  refine g_callVU (F_X8_markAsWell (sl σ (σ.2.2 + (100 : Int64))) a1) (fun u => gws ad cI cZ u τ) (rest := []) E h (c_X8_markAsWell l D cI cZ z ad (sl σ (σ.2.2 + (100 : Int64))) τ a1) mw_710 cbX8_markAsWell 0 rfl rfl ⟨by decide, by decide⟩ rfl rfl hl.1 (Nat.le_of_ble_eq_true rfl) ⟨Nat.zero_le _, Nat.zero_le _⟩ dX8_markAsDew_14 (fun u1 huu1 H locs h => ?_)
  have hF : F_X8_markAsDew_k14_2 σ a1 u1 = (F_X8_markAsDew σ a1) := by rw [← huu1]; exact hF
  refine lv_aload_n hx hb dX8_markAsDew_17 rfl (lv_at hl 0 rfl) ?_
  refine g_get (v := .ref (ad 25)) E h 0 rfl rfl layX8 3 (by decide) rfl mw_205 rfl dX8_markAsDew_18 ?_
  refine g_getN (v := .ref (ad 26)) E h 25 rfl rfl layX1 0 (by decide) rfl nf_RX8_123 rfl dX8_markAsDew_21 ?_
  refine lv_iload_n hx hb dX8_markAsDew_24 rfl (lv_at hl 1 rfl) ?_
  refine g_callVh (F_X2_duesBy u1.2 a1) (rest := [.int u1.1]) E h (c_X2_duesBy l D cI cZ z ad u1.2 τ a1) mw_471 cbX2_duesBy 26 rfl rfl ⟨by decide, by decide⟩ rfl rfl hl.1 (Nat.le_of_ble_eq_true rfl) ⟨Nat.zero_le _, Nat.zero_le _⟩ dX8_markAsDew_25 (fun v3 huv3 H locs h => ?_)
  have hF : F_X8_markAsDew_k25_4 σ a1 u1 v3 = (F_X8_markAsDew σ a1) := by rw [← huv3]; exact hF
  refine lv_isub hx hb dX8_markAsDew_28 ?_
  exact g_iret E hr hlk h hQ (fst_of hF) (snd_of hF (fun u => gws ad cI cZ u τ)) dX8_markAsDew_29

def F_X8_markAsChild_k14_2 (σ : St) (a1 : Int32) (u1 : Int32 × St) : Int32 × St := ((u1.1 * (2 : Int32)), u1.2)
def F_X8_markAsChild (σ : St) (a1 : Int32) : Int32 × St := (F_X8_markAsChild_k14_2 σ a1 (F_X8_markAsKnot (sl σ (σ.2.2 + (1000 : Int64))) a1))
abbrev I_X8_markAsChild : List Nat := []
abbrev A_X8_markAsChild : List Nat := []
theorem fr_F_X8_markAsChild_k14_2 (σ : St) (a1 : Int32) (u1 : Int32 × St) (hfr : Fr I_X8_markAsChild A_X8_markAsChild true σ (u1.2)) : Fr I_X8_markAsChild A_X8_markAsChild true σ (F_X8_markAsChild_k14_2  σ a1 u1).2 := hfr
theorem fr_F_X8_markAsChild (σ : St) (a1 : Int32) : Fr I_X8_markAsChild A_X8_markAsChild true σ (F_X8_markAsChild σ a1).2 := (fr_F_X8_markAsChild_k14_2 σ a1 (F_X8_markAsKnot (sl σ (σ.2.2 + (1000 : Int64))) a1) (Fr.tr (Fr.sl rfl Fr.rf) (Fr.mono (by decide) (by decide) (by decide) (fr_F_X8_markAsKnot (sl σ (σ.2.2 + (1000 : Int64))) a1))))
set_option maxHeartbeats 4000000 in
set_option maxRecDepth 20000 in
theorem c_X8_markAsChild (l : Launch) (D : va_G) (cI cZ : ClassId) (z : Nat) (ad : Nat → Nat) (σ τ : St) (a1 : Int32) (hs_ : (σ.1 97).toInt ≤ 8) : gM l yX8_markAsChild cX8_markAsChild 2 (some .int) 6 D cI cZ z (gws ad cI cZ σ τ) [.ref (ad 0), .int a1] (some (.int (F_X8_markAsChild σ a1).1)) (gws ad cI cZ (F_X8_markAsChild σ a1).2 τ) := by
  refine g_met (own := RX8) (by decide) rfl (Nat.le_of_ble_eq_true rfl) (fun p e s m below meth c ls Q E hr hlk h hl hQ => ?_)
  have hx := E.1
  have hb := E.2.1
  have hF : (F_X8_markAsChild σ a1) = (F_X8_markAsChild σ a1) := rfl
  have hl : lv_has ls 2 [(0, .ref (ad 0)), (1, .int a1)] := hl
  refine lv_aload_n hx hb dX8_markAsChild_0 rfl (lv_at hl 0 rfl) ?_
  refine lv_dup hx hb dX8_markAsChild_1 rfl ?_
  refine g_get (v := .long σ.2.2) E h 0 rfl rfl layX8 11 (by decide) rfl mw_213 rfl dX8_markAsChild_2 ?_
  refine g_ldc2 (v := 1000) E mw_732 dX8_markAsChild_5 ?_
  refine lv_ladd hx hb dX8_markAsChild_8 ?_
  refine g_put (v := .long (σ.2.2 + (1000 : Int64))) (ty := .long) (ws' := gws ad cI cZ (sl σ (σ.2.2 + (1000 : Int64))) τ) E h 0 rfl rfl layX8 tyX8 tyX8_ok nmX8 11 (by decide) rfl mw_213 rfl rfl rfl rfl (Nat.le_of_ble_eq_true rfl) (gl_0 ad cI cZ σ τ (σ.2.2 + (1000 : Int64))) dX8_markAsChild_9 (fun H locs h => ?_)
  refine lv_aload_n hx hb dX8_markAsChild_12 rfl (lv_at hl 0 rfl) ?_
  refine lv_iload_n hx hb dX8_markAsChild_13 rfl (lv_at hl 1 rfl) ?_
  refine g_callVU (F_X8_markAsKnot (sl σ (σ.2.2 + (1000 : Int64))) a1) (fun u => gws ad cI cZ u τ) (rest := []) E h (c_X8_markAsKnot l D cI cZ z ad (sl σ (σ.2.2 + (1000 : Int64))) τ a1 (show (σ.1 97).toInt ≤ 8 from by omega)) mw_714 cbX8_markAsKnot 0 rfl rfl ⟨by decide, by decide⟩ rfl rfl hl.1 (Nat.le_of_ble_eq_true rfl) ⟨Nat.zero_le _, Nat.zero_le _⟩ dX8_markAsChild_14 (fun u1 huu1 H locs h => ?_)
  have hF : F_X8_markAsChild_k14_2 σ a1 u1 = (F_X8_markAsChild σ a1) := by rw [← huu1]; exact hF
  refine lv_iconst (v := 2) hx hb dX8_markAsChild_17 (by decide) ?_
  refine lv_imul hx hb dX8_markAsChild_18 ?_
  exact g_iret E hr hlk h hQ (fst_of hF) (snd_of hF (fun u => gws ad cI cZ u τ)) dX8_markAsChild_19

def F_X8_markAsCamel_k14_2 (σ : St) (a1 : Int32) (u1 : Int32 × St) : Int32 × St := ((u1.1 + a1), u1.2)
def F_X8_markAsCamel (σ : St) (a1 : Int32) : Int32 × St := (F_X8_markAsCamel_k14_2 σ a1 (F_X8_markAsDew (sl σ (σ.2.2 + (10000 : Int64))) a1))
abbrev I_X8_markAsCamel : List Nat := []
abbrev A_X8_markAsCamel : List Nat := []
theorem fr_F_X8_markAsCamel_k14_2 (σ : St) (a1 : Int32) (u1 : Int32 × St) (hfr : Fr I_X8_markAsCamel A_X8_markAsCamel true σ (u1.2)) : Fr I_X8_markAsCamel A_X8_markAsCamel true σ (F_X8_markAsCamel_k14_2  σ a1 u1).2 := hfr
theorem fr_F_X8_markAsCamel (σ : St) (a1 : Int32) : Fr I_X8_markAsCamel A_X8_markAsCamel true σ (F_X8_markAsCamel σ a1).2 := (fr_F_X8_markAsCamel_k14_2 σ a1 (F_X8_markAsDew (sl σ (σ.2.2 + (10000 : Int64))) a1) (Fr.tr (Fr.sl rfl Fr.rf) (Fr.mono (by decide) (by decide) (by decide) (fr_F_X8_markAsDew (sl σ (σ.2.2 + (10000 : Int64))) a1))))
set_option maxHeartbeats 4000000 in
set_option maxRecDepth 20000 in
theorem c_X8_markAsCamel (l : Launch) (D : va_G) (cI cZ : ClassId) (z : Nat) (ad : Nat → Nat) (σ τ : St) (a1 : Int32) : gM l yX8_markAsCamel cX8_markAsCamel 2 (some .int) 6 D cI cZ z (gws ad cI cZ σ τ) [.ref (ad 0), .int a1] (some (.int (F_X8_markAsCamel σ a1).1)) (gws ad cI cZ (F_X8_markAsCamel σ a1).2 τ) := by
  refine g_met (own := RX8) (by decide) rfl (Nat.le_of_ble_eq_true rfl) (fun p e s m below meth c ls Q E hr hlk h hl hQ => ?_)
  have hx := E.1
  have hb := E.2.1
  have hF : (F_X8_markAsCamel σ a1) = (F_X8_markAsCamel σ a1) := rfl
  have hl : lv_has ls 2 [(0, .ref (ad 0)), (1, .int a1)] := hl
  refine lv_aload_n hx hb dX8_markAsCamel_0 rfl (lv_at hl 0 rfl) ?_
  refine lv_dup hx hb dX8_markAsCamel_1 rfl ?_
  refine g_get (v := .long σ.2.2) E h 0 rfl rfl layX8 11 (by decide) rfl mw_213 rfl dX8_markAsCamel_2 ?_
  refine g_ldc2 (v := 10000) E mw_737 dX8_markAsCamel_5 ?_
  refine lv_ladd hx hb dX8_markAsCamel_8 ?_
  refine g_put (v := .long (σ.2.2 + (10000 : Int64))) (ty := .long) (ws' := gws ad cI cZ (sl σ (σ.2.2 + (10000 : Int64))) τ) E h 0 rfl rfl layX8 tyX8 tyX8_ok nmX8 11 (by decide) rfl mw_213 rfl rfl rfl rfl (Nat.le_of_ble_eq_true rfl) (gl_0 ad cI cZ σ τ (σ.2.2 + (10000 : Int64))) dX8_markAsCamel_9 (fun H locs h => ?_)
  refine lv_aload_n hx hb dX8_markAsCamel_12 rfl (lv_at hl 0 rfl) ?_
  refine lv_iload_n hx hb dX8_markAsCamel_13 rfl (lv_at hl 1 rfl) ?_
  refine g_callVU (F_X8_markAsDew (sl σ (σ.2.2 + (10000 : Int64))) a1) (fun u => gws ad cI cZ u τ) (rest := []) E h (c_X8_markAsDew l D cI cZ z ad (sl σ (σ.2.2 + (10000 : Int64))) τ a1) mw_723 cbX8_markAsDew 0 rfl rfl ⟨by decide, by decide⟩ rfl rfl hl.1 (Nat.le_of_ble_eq_true rfl) ⟨Nat.zero_le _, Nat.zero_le _⟩ dX8_markAsCamel_14 (fun u1 huu1 H locs h => ?_)
  have hF : F_X8_markAsCamel_k14_2 σ a1 u1 = (F_X8_markAsCamel σ a1) := by rw [← huu1]; exact hF
  refine lv_iload_n hx hb dX8_markAsCamel_17 rfl (lv_at hl 1 rfl) ?_
  refine lv_iadd hx hb dX8_markAsCamel_18 ?_
  exact g_iret E hr hlk h hQ (fst_of hF) (snd_of hF (fun u => gws ad cI cZ u τ)) dX8_markAsCamel_19

def F_X8_markAsMirage_k14_2 (σ : St) (a1 : Int32) (u1 : Int32 × St) : Int32 × St := ((u1.1 + (F_X2_sand u1.2)), u1.2)
def F_X8_markAsMirage (σ : St) (a1 : Int32) : Int32 × St := (F_X8_markAsMirage_k14_2 σ a1 (F_X8_markAsWell (sl σ (σ.2.2 + (100000 : Int64))) a1))
abbrev I_X8_markAsMirage : List Nat := []
abbrev A_X8_markAsMirage : List Nat := []
theorem fr_F_X8_markAsMirage_k14_2 (σ : St) (a1 : Int32) (u1 : Int32 × St) (hfr : Fr I_X8_markAsMirage A_X8_markAsMirage true σ (u1.2)) : Fr I_X8_markAsMirage A_X8_markAsMirage true σ (F_X8_markAsMirage_k14_2  σ a1 u1).2 := hfr
theorem fr_F_X8_markAsMirage (σ : St) (a1 : Int32) : Fr I_X8_markAsMirage A_X8_markAsMirage true σ (F_X8_markAsMirage σ a1).2 := (fr_F_X8_markAsMirage_k14_2 σ a1 (F_X8_markAsWell (sl σ (σ.2.2 + (100000 : Int64))) a1) (Fr.tr (Fr.sl rfl Fr.rf) (Fr.mono (by decide) (by decide) (by decide) (fr_F_X8_markAsWell (sl σ (σ.2.2 + (100000 : Int64))) a1))))
set_option maxHeartbeats 4000000 in
set_option maxRecDepth 20000 in
theorem c_X8_markAsMirage (l : Launch) (D : va_G) (cI cZ : ClassId) (z : Nat) (ad : Nat → Nat) (σ τ : St) (a1 : Int32) : gM l yX8_markAsMirage cX8_markAsMirage 2 (some .int) 5 D cI cZ z (gws ad cI cZ σ τ) [.ref (ad 0), .int a1] (some (.int (F_X8_markAsMirage σ a1).1)) (gws ad cI cZ (F_X8_markAsMirage σ a1).2 τ) := by
  refine g_met (own := RX8) (by decide) rfl (Nat.le_of_ble_eq_true rfl) (fun p e s m below meth c ls Q E hr hlk h hl hQ => ?_)
  have hx := E.1
  have hb := E.2.1
  have hF : (F_X8_markAsMirage σ a1) = (F_X8_markAsMirage σ a1) := rfl
  have hl : lv_has ls 2 [(0, .ref (ad 0)), (1, .int a1)] := hl
  refine lv_aload_n hx hb dX8_markAsMirage_0 rfl (lv_at hl 0 rfl) ?_
  refine lv_dup hx hb dX8_markAsMirage_1 rfl ?_
  refine g_get (v := .long σ.2.2) E h 0 rfl rfl layX8 11 (by decide) rfl mw_213 rfl dX8_markAsMirage_2 ?_
  refine g_ldc2 (v := 100000) E mw_742 dX8_markAsMirage_5 ?_
  refine lv_ladd hx hb dX8_markAsMirage_8 ?_
  refine g_put (v := .long (σ.2.2 + (100000 : Int64))) (ty := .long) (ws' := gws ad cI cZ (sl σ (σ.2.2 + (100000 : Int64))) τ) E h 0 rfl rfl layX8 tyX8 tyX8_ok nmX8 11 (by decide) rfl mw_213 rfl rfl rfl rfl (Nat.le_of_ble_eq_true rfl) (gl_0 ad cI cZ σ τ (σ.2.2 + (100000 : Int64))) dX8_markAsMirage_9 (fun H locs h => ?_)
  refine lv_aload_n hx hb dX8_markAsMirage_12 rfl (lv_at hl 0 rfl) ?_
  refine lv_iload_n hx hb dX8_markAsMirage_13 rfl (lv_at hl 1 rfl) ?_
  refine g_callVU (F_X8_markAsWell (sl σ (σ.2.2 + (100000 : Int64))) a1) (fun u => gws ad cI cZ u τ) (rest := []) E h (c_X8_markAsWell l D cI cZ z ad (sl σ (σ.2.2 + (100000 : Int64))) τ a1) mw_710 cbX8_markAsWell 0 rfl rfl ⟨by decide, by decide⟩ rfl rfl hl.1 (Nat.le_of_ble_eq_true rfl) ⟨Nat.zero_le _, Nat.zero_le _⟩ dX8_markAsMirage_14 (fun u1 huu1 H locs h => ?_)
  have hF : F_X8_markAsMirage_k14_2 σ a1 u1 = (F_X8_markAsMirage σ a1) := by rw [← huu1]; exact hF
  refine lv_aload_n hx hb dX8_markAsMirage_17 rfl (lv_at hl 0 rfl) ?_
  refine g_get (v := .ref (ad 25)) E h 0 rfl rfl layX8 3 (by decide) rfl mw_205 rfl dX8_markAsMirage_18 ?_
  refine g_getN (v := .ref (ad 26)) E h 25 rfl rfl layX1 0 (by decide) rfl nf_RX8_123 rfl dX8_markAsMirage_21 ?_
  refine g_callVi (rest := [.int u1.1]) E h (c_X2_sand l D cI cZ z ad u1.2 τ) mw_600 cbX2_sand 26 rfl rfl ⟨by decide, by decide⟩ rfl rfl hl.1 (Nat.le_of_ble_eq_true rfl) ⟨Nat.zero_le _, Nat.zero_le _⟩ dX8_markAsMirage_24 (fun H locs h => ?_)
  refine lv_iadd hx hb dX8_markAsMirage_27 ?_
  exact g_iret E hr hlk h hQ (fst_of hF) (snd_of hF (fun u => gws ad cI cZ u τ)) dX8_markAsMirage_28
