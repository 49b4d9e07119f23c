def F_X0_append (σ : St) (a1 : Int32) (a2 : Int32) : Int32 × St := (if (σ.1 1186) < (6 : Int32) then ((1 : Int32), (si (sa (sa σ 38 (upd (σ.2.1 38) (σ.1 1186).toNatClampNeg a1)) 39 (upd (σ.2.1 39) (σ.1 1186).toNatClampNeg a2)) 1186 ((σ.1 1186) + (1 : Int32)))) else ((0 : Int32), σ))
abbrev I_X0_append : List Nat := [1186]
abbrev A_X0_append : List Nat := [38, 39]
theorem fr_F_X0_append (σ : St) (a1 : Int32) (a2 : Int32) : Fr I_X0_append A_X0_append false σ (F_X0_append σ a1 a2).2 := (fr_ite2 (Fr.si (by decide) (Fr.sa (by decide) (Fr.sa (by decide) Fr.rf))) Fr.rf)
set_option maxHeartbeats 4000000 in
set_option maxRecDepth 20000 in
theorem c_X0_append (l : Launch) (D : va_G) (cI cZ : ClassId) (z : Nat) (ad : Nat → Nat) (σ τ : St) (a1 a2 : Int32) (hp : 0 ≤ (σ.1 1186).toInt) : gM l yX0_append cX0_append 3 (some .boolean) 1 D cI cZ z (gws ad cI cZ σ τ) [.ref (ad 37), .int a1, .int a2] (some (.int (F_X0_append σ a1 a2).1)) (gws ad cI cZ (F_X0_append σ a1 a2).2 τ) := by
  refine g_met (own := RX0) (by decide) rfl (Nat.le_of_ble_eq_true rfl) (fun p e s m below meth c ls Q E hr hlk h hl hQ => ?_)
  have hx := E.1
  have hb := E.2.1
  have hF : (F_X0_append σ a1 a2) = (F_X0_append σ a1 a2) := rfl
  have hl : lv_has ls 3 [(0, .ref (ad 37)), (1, .int a1), (2, .int a2)] := hl
  refine lv_aload_n hx hb dX0_append_0 rfl (lv_at hl 0 rfl) ?_
  refine g_get (v := .int (σ.1 1186)) E h 37 rfl rfl layX0 2 (by decide) rfl mw_137 rfl dX0_append_1 ?_
  refine lv_bipush (v := 6) hx hb dX0_append_4 (by decide) ?_
  refine lv_icmp_lt (tgt := 11) hx hb dX0_append_6 (by decide) (fun c1 => ?_) (fun c1 => ?_)
  · have ic1 : (σ.1 1186).toInt < 6 := i_lt c1
    have hF := (if_pos c1).symm.trans hF
    refine lv_aload_n hx hb dX0_append_11 rfl (lv_at hl 0 rfl) ?_
    refine g_get (v := .ref (ad 38)) E h 37 rfl rfl layX0 0 (by decide) rfl mw_135 rfl dX0_append_12 ?_
    refine lv_aload_n hx hb dX0_append_15 rfl (lv_at hl 0 rfl) ?_
    refine g_get (v := .int (σ.1 1186)) E h 37 rfl rfl layX0 2 (by decide) rfl mw_137 rfl dX0_append_16 ?_
    refine lv_iload_n hx hb dX0_append_19 rfl (lv_at hl 1 rfl) ?_
    refine g_iast (f := (σ.2.1 38)) (ws' := gws ad cI cZ (sa σ 38 (upd (σ.2.1 38) (σ.1 1186).toNatClampNeg a1)) τ) E h 38 rfl (ix_of (oI_at (σ.1 1186)) (by omega) (by decide)) (ga_38 ad cI cZ σ τ (upd (σ.2.1 38) (σ.1 1186).toNatClampNeg a1)) dX0_append_20 (fun H locs h => ?_)
    refine lv_aload_n hx hb dX0_append_21 rfl (lv_at hl 0 rfl) ?_
    refine g_get (v := .ref (ad 39)) E h 37 rfl rfl layX0 1 (by decide) rfl mw_136 rfl dX0_append_22 ?_
    refine lv_aload_n hx hb dX0_append_25 rfl (lv_at hl 0 rfl) ?_
    refine g_get (v := .int (σ.1 1186)) E h 37 rfl rfl layX0 2 (by decide) rfl mw_137 rfl dX0_append_26 ?_
    refine lv_iload_n hx hb dX0_append_29 rfl (lv_at hl 2 rfl) ?_
    refine g_iast (f := (σ.2.1 39)) (ws' := gws ad cI cZ (sa (sa σ 38 (upd (σ.2.1 38) (σ.1 1186).toNatClampNeg a1)) 39 (upd (σ.2.1 39) (σ.1 1186).toNatClampNeg a2)) τ) E h 39 rfl (ix_of (oI_at (σ.1 1186)) (by omega) (by decide)) (ga_39 ad cI cZ (sa σ 38 (upd (σ.2.1 38) (σ.1 1186).toNatClampNeg a1)) τ (upd (σ.2.1 39) (σ.1 1186).toNatClampNeg a2)) dX0_append_30 (fun H locs h => ?_)
    refine lv_aload_n hx hb dX0_append_31 rfl (lv_at hl 0 rfl) ?_
    refine lv_dup hx hb dX0_append_32 rfl ?_
    refine g_get (v := .int (σ.1 1186)) E h 37 rfl rfl layX0 2 (by decide) rfl mw_137 rfl dX0_append_33 ?_
    refine lv_iconst (v := 1) hx hb dX0_append_36 (by decide) ?_
    refine lv_iadd hx hb dX0_append_37 ?_
    refine g_put (v := .int ((σ.1 1186) + (1 : Int32))) (ty := .int) (ws' := gws ad cI cZ (si (sa (sa σ 38 (upd (σ.2.1 38) (σ.1 1186).toNatClampNeg a1)) 39 (upd (σ.2.1 39) (σ.1 1186).toNatClampNeg a2)) 1186 ((σ.1 1186) + (1 : Int32))) τ) E h 37 rfl rfl layX0 tyX0 tyX0_ok nmX0 2 (by decide) rfl mw_137 rfl rfl rfl rfl (Nat.le_of_ble_eq_true rfl) (gi_1186 ad cI cZ (sa (sa σ 38 (upd (σ.2.1 38) (σ.1 1186).toNatClampNeg a1)) 39 (upd (σ.2.1 39) (σ.1 1186).toNatClampNeg a2)) τ ((σ.1 1186) + (1 : Int32))) dX0_append_38 (fun H locs h => ?_)
    refine lv_iconst (v := 1) hx hb dX0_append_41 (by decide) ?_
    exact g_zret E hr hlk h hQ (rfl) (fst_of hF) (snd_of hF (fun u => gws ad cI cZ u τ)) dX0_append_42
  · have ic1 : 6 ≤ (σ.1 1186).toInt := i_nlt c1
    have hF := (if_neg c1).symm.trans hF
    refine lv_iconst (v := 0) hx hb dX0_append_9 (by decide) ?_
    exact g_zret E hr hlk h hQ (rfl) (fst_of hF) (snd_of hF (fun u => gws ad cI cZ u τ)) dX0_append_10

def F_X0_drop (σ : St) : Int32 × St := ((σ.1 1186), (si σ 1186 (0 : Int32)))
abbrev I_X0_drop : List Nat := [1186]
abbrev A_X0_drop : List Nat := []
theorem fr_F_X0_drop (σ : St) : Fr I_X0_drop A_X0_drop false σ (F_X0_drop σ).2 := (Fr.si (by decide) Fr.rf)
set_option maxHeartbeats 4000000 in
set_option maxRecDepth 20000 in
theorem c_X0_drop (l : Launch) (D : va_G) (cI cZ : ClassId) (z : Nat) (ad : Nat → Nat) (σ τ : St) : gM l yX0_drop cX0_drop 2 (some .int) 1 D cI cZ z (gws ad cI cZ σ τ) [.ref (ad 37)] (some (.int (F_X0_drop σ).1)) (gws ad cI cZ (F_X0_drop σ).2 τ) := by
  refine g_met (own := RX0) (by decide) rfl (Nat.le_of_ble_eq_true rfl) (fun p e s m below meth c ls Q E hr hlk h hl hQ => ?_)
  have hx := E.1
  have hb := E.2.1
  have hF : (F_X0_drop σ) = (F_X0_drop σ) := rfl
  have hl : lv_has ls 2 [(0, .ref (ad 37))] := hl
  refine lv_aload_n hx hb dX0_drop_0 rfl (lv_at hl 0 rfl) ?_
  refine g_get (v := .int (σ.1 1186)) E h 37 rfl rfl layX0 2 (by decide) rfl mw_137 rfl dX0_drop_1 ?_
  refine lv_istore_n (lv' := [(1, .int (σ.1 1186)), (0, .ref (ad 37))]) hx hb dX0_drop_4 rfl hl (by decide) rfl (fun ls hl => ?_)
  refine lv_aload_n hx hb dX0_drop_5 rfl (lv_at hl 1 rfl) ?_
  refine lv_iconst (v := 0) hx hb dX0_drop_6 (by decide) ?_
  refine g_put (v := .int (0 : Int32)) (ty := .int) (ws' := gws ad cI cZ (si σ 1186 (0 : Int32)) τ) E h 37 rfl rfl layX0 tyX0 tyX0_ok nmX0 2 (by decide) rfl mw_137 rfl rfl rfl rfl (Nat.le_of_ble_eq_true rfl) (gi_1186 ad cI cZ σ τ (0 : Int32)) dX0_drop_7 (fun H locs h => ?_)
  refine lv_iload_n hx hb dX0_drop_10 rfl (lv_at hl 0 rfl) ?_
  exact g_iret E hr hlk h hQ (fst_of hF) (snd_of hF (fun u => gws ad cI cZ u τ)) dX0_drop_11

def F_X0_sucked_L4 : Nat → St → Int32 → Int32 → Int32
  | 0, _, _, _ => 0
  | n + 1, σ, x2_4, x1_4 => (if (σ.1 1186) ≤ x2_4 then x1_4 else (if (6 : Int32) ≤ x2_4 then x1_4 else (if (F_X8_within ((σ.2.1 39) x2_4.toNatClampNeg) (1 : Int32) (3 : Int32)) = 0 then (F_X0_sucked_L4  n σ (x2_4 + (1 : Int32)) x1_4) else (F_X0_sucked_L4  n σ (x2_4 + (1 : Int32)) (x1_4 ||| ((1 : Int32) <<< (((σ.2.1 38) x2_4.toNatClampNeg) &&& 31)))))))
def F_X0_sucked (σ : St) : Int32 := (F_X0_sucked_L4  7 σ (0 : Int32) (0 : Int32))
set_option maxHeartbeats 4000000 in
set_option maxRecDepth 20000 in
theorem c_X0_sucked (l : Launch) (D : va_G) (cI cZ : ClassId) (z : Nat) (ad : Nat → Nat) (σ τ : St) : gM l yX0_sucked cX0_sucked 3 (some .int) 2 D cI cZ z (gws ad cI cZ σ τ) [.ref (ad 37)] (some (.int (F_X0_sucked σ))) (gws ad cI cZ σ τ) := by
  refine g_met (own := RX0) (by decide) rfl (Nat.le_of_ble_eq_true rfl) (fun p e s m below meth c ls Q E hr hlk h hl hQ => ?_)
  have hx := E.1
  have hb := E.2.1
  have hF : (F_X0_sucked σ) = (F_X0_sucked σ) := rfl
  have hl : lv_has ls 3 [(0, .ref (ad 37))] := hl
  refine lv_iconst (v := 0) hx hb dX0_sucked_0 (by decide) ?_
  refine lv_istore_n (lv' := [(1, .int (0 : Int32)), (0, .ref (ad 37))]) hx hb dX0_sucked_1 rfl hl (by decide) rfl (fun ls hl => ?_)
  refine lv_iconst (v := 0) hx hb dX0_sucked_2 (by decide) ?_
  refine lv_istore_n (lv' := [(2, .int (0 : Int32)), (1, .int (0 : Int32)), (0, .ref (ad 37))]) hx hb dX0_sucked_3 rfl hl (by decide) rfl (fun ls hl => ?_)
  have L4 : ∀ (n4 : Nat) (x2_4 : Int32) (x1_4 : Int32) (H : Heap) (locs : List Loc) (ls : Array Slot), (0 ≤ x2_4.toInt ∧ x2_4.toInt ≤ 6 ∧ x2_4.toInt + n4 = 7) → F_X0_sucked_L4  n4 σ x2_4 x1_4 = (F_X0_sucked σ) → gH D z s (gws ad cI cZ σ τ) H locs → lv_has ls 3 [(2, .int x2_4), (1, .int x1_4), (0, .ref (ad 37))] → W p l e (rmH 2) s m ([.ref (ad 37)] : List Value).toArray below meth c H locs 0 0 Q (F0 m 4 ls []) := by
    clear hF h hl
    intro n4
    induction n4 with
    | zero =>
      intro x2_4 x1_4 H locs ls hI
      exact absurd hI (by omega)
    | succ n4 ih4 =>
      intro x2_4 x1_4 H locs ls hI4 hF h hl
      refine lv_iload_n hx hb dX0_sucked_4 rfl (lv_at hl 0 rfl) ?_
      refine lv_aload_n hx hb dX0_sucked_5 rfl (lv_at hl 2 rfl) ?_
      refine g_get (v := .int (σ.1 1186)) E h 37 rfl rfl layX0 2 (by decide) rfl mw_137 rfl dX0_sucked_6 ?_
      refine lv_icmp_ge (tgt := 49) hx hb dX0_sucked_9 (by decide) (fun c2 => ?_) (fun c2 => ?_)
      · have ic2 : (σ.1 1186).toInt ≤ x2_4.toInt := i_le c2
        have hF := (if_pos c2).symm.trans hF
        refine lv_iload_n hx hb dX0_sucked_49 rfl (lv_at hl 1 rfl) ?_
        exact g_iret E hr hlk h hQ hF rfl dX0_sucked_50
      · have ic2 : x2_4.toInt < (σ.1 1186).toInt := i_nle c2
        have hF := (if_neg c2).symm.trans hF
        refine lv_iload_n hx hb dX0_sucked_12 rfl (lv_at hl 0 rfl) ?_
        refine lv_bipush (v := 6) hx hb dX0_sucked_13 (by decide) ?_
        refine lv_icmp_ge (tgt := 49) hx hb dX0_sucked_15 (by decide) (fun c3 => ?_) (fun c3 => ?_)
        · have ic3 : 6 ≤ x2_4.toInt := i_le c3
          have hF := (if_pos c3).symm.trans hF
          refine lv_iload_n hx hb dX0_sucked_49 rfl (lv_at hl 1 rfl) ?_
          exact g_iret E hr hlk h hQ hF rfl dX0_sucked_50
        · have ic3 : x2_4.toInt < 6 := i_nle c3
          have hF := (if_neg c3).symm.trans hF
          refine lv_aload_n hx hb dX0_sucked_18 rfl (lv_at hl 2 rfl) ?_
          refine g_get (v := .ref (ad 39)) E h 37 rfl rfl layX0 1 (by decide) rfl mw_136 rfl dX0_sucked_19 ?_
          refine lv_iload_n hx hb dX0_sucked_22 rfl (lv_at hl 0 rfl) ?_
          refine g_iald (f := (σ.2.1 39)) E h 39 rfl (ix_of (oI_at x2_4) (by omega) (by decide)) dX0_sucked_23 ?_
          refine lv_iconst (v := 1) hx hb dX0_sucked_24 (by decide) ?_
          refine lv_iconst (v := 3) hx hb dX0_sucked_25 (by decide) ?_
          refine g_callSNi (rest := []) E h (c_X8_within l D cI cZ z (gws ad cI cZ σ τ) ((σ.2.1 39) x2_4.toNatClampNeg) (1 : Int32) (3 : Int32)) nm_RX0_22 cbX8_within ⟨by decide, by decide⟩ rfl rfl hl.1 (Nat.le_of_ble_eq_true rfl) ⟨Nat.zero_le _, Nat.zero_le _⟩ dX0_sucked_26 (fun H locs h => ?_)
          refine lv_if_eq (tgt := 43) hx hb dX0_sucked_29 (by decide) (fun c4 => ?_) (fun c4 => ?_)
          · have ic4 : (F_X8_within ((σ.2.1 39) x2_4.toNatClampNeg) (1 : Int32) (3 : Int32)).toInt = 0 := i_eq c4
            have hF := (if_pos c4).symm.trans hF
            refine lv_iinc (v := (x2_4 + (1 : Int32))) (lv' := [(2, .int (x2_4 + (1 : Int32))), (1, .int x1_4), (0, .ref (ad 37))]) hx hb dX0_sucked_43 hl (k := 0) rfl rfl (by decide) rfl (fun ls hl => ?_)
            refine lv_goto (tgt := 4) hx hb dX0_sucked_46 (by decide) ?_
            have e4_2 : (x2_4 + (1 : Int32)).toInt = _ := ti_of (oI_add (oI_at x2_4) (oI_lit (x := 1) (a := 1) rfl)) (by omega)
            exact ih4 (x2_4 + (1 : Int32)) x1_4 _ _ ls ((show 0 ≤ (x2_4 + (1 : Int32)).toInt ∧ (x2_4 + (1 : Int32)).toInt ≤ 6 ∧ (x2_4 + (1 : Int32)).toInt + n4 = 7 from by omega)) hF h (lv_sub hl [0, 1, 2] rfl)
          · have ic4 : (F_X8_within ((σ.2.1 39) x2_4.toNatClampNeg) (1 : Int32) (3 : Int32)).toInt ≠ 0 := i_ne c4
            have jc4 : 1 ≤ ((σ.2.1 39) x2_4.toNatClampNeg).toInt ∧ ((σ.2.1 39) x2_4.toNatClampNeg).toInt ≤ 3 := fz_within c4
            have hF := (if_neg c4).symm.trans hF
            refine lv_iload_n hx hb dX0_sucked_32 rfl (lv_at hl 1 rfl) ?_
            refine lv_iconst (v := 1) hx hb dX0_sucked_33 (by decide) ?_
            refine lv_aload_n hx hb dX0_sucked_34 rfl (lv_at hl 2 rfl) ?_
            refine g_get (v := .ref (ad 38)) E h 37 rfl rfl layX0 0 (by decide) rfl mw_135 rfl dX0_sucked_35 ?_
            refine lv_iload_n hx hb dX0_sucked_38 rfl (lv_at hl 0 rfl) ?_
            refine g_iald (f := (σ.2.1 38)) E h 38 rfl (ix_of (oI_at x2_4) (by omega) (by decide)) dX0_sucked_39 ?_
            refine lv_ishl hx hb dX0_sucked_40 ?_
            refine lv_ior hx hb dX0_sucked_41 ?_
            refine lv_istore_n (lv' := [(1, .int (x1_4 ||| ((1 : Int32) <<< (((σ.2.1 38) x2_4.toNatClampNeg) &&& 31)))), (2, .int x2_4), (0, .ref (ad 37))]) hx hb dX0_sucked_42 rfl hl (by decide) rfl (fun ls hl => ?_)
            refine lv_iinc (v := (x2_4 + (1 : Int32))) (lv' := [(2, .int (x2_4 + (1 : Int32))), (1, .int (x1_4 ||| ((1 : Int32) <<< (((σ.2.1 38) x2_4.toNatClampNeg) &&& 31)))), (0, .ref (ad 37))]) hx hb dX0_sucked_43 hl (k := 1) rfl rfl (by decide) rfl (fun ls hl => ?_)
            refine lv_goto (tgt := 4) hx hb dX0_sucked_46 (by decide) ?_
            have e4_2 : (x2_4 + (1 : Int32)).toInt = _ := ti_of (oI_add (oI_at x2_4) (oI_lit (x := 1) (a := 1) rfl)) (by omega)
            exact ih4 (x2_4 + (1 : Int32)) (x1_4 ||| ((1 : Int32) <<< (((σ.2.1 38) x2_4.toNatClampNeg) &&& 31))) _ _ ls ((show 0 ≤ (x2_4 + (1 : Int32)).toInt ∧ (x2_4 + (1 : Int32)).toInt ≤ 6 ∧ (x2_4 + (1 : Int32)).toInt + n4 = 7 from by omega)) hF h (lv_sub hl [0, 1, 2] rfl)
  have q4_2 : (0 : Int32).toInt = 0 := rfl
  exact L4 7 (0 : Int32) (0 : Int32) _ _ ls ((show 0 ≤ (0 : Int32).toInt ∧ (0 : Int32).toInt ≤ 6 ∧ (0 : Int32).toInt + (7 : Nat) = 7 from by omega)) hF h (lv_sub hl [0, 1, 2] rfl)

def F_X0_liars_L4 : Nat → St → Int32 → Int32 → Int32
  | 0, _, _, _ => 0
  | n + 1, σ, x2_4, x1_4 => (if (σ.1 1186) ≤ x2_4 then x1_4 else (if (6 : Int32) ≤ x2_4 then x1_4 else (if (F_X8_within ((σ.2.1 39) x2_4.toNatClampNeg) (0 : Int32) (3 : Int32)) = 0 then (F_X0_liars_L4  n σ (x2_4 + (1 : Int32)) (x1_4 ||| ((1 : Int32) <<< (((σ.2.1 38) x2_4.toNatClampNeg) &&& 31)))) else (F_X0_liars_L4  n σ (x2_4 + (1 : Int32)) x1_4))))
def F_X0_liars (σ : St) : Int32 := (F_X0_liars_L4  7 σ (0 : Int32) (0 : Int32))
set_option maxHeartbeats 4000000 in
set_option maxRecDepth 20000 in
theorem c_X0_liars (l : Launch) (D : va_G) (cI cZ : ClassId) (z : Nat) (ad : Nat → Nat) (σ τ : St) : gM l yX0_liars cX0_liars 3 (some .int) 2 D cI cZ z (gws ad cI cZ σ τ) [.ref (ad 37)] (some (.int (F_X0_liars σ))) (gws ad cI cZ σ τ) := by
  refine g_met (own := RX0) (by decide) rfl (Nat.le_of_ble_eq_true rfl) (fun p e s m below meth c ls Q E hr hlk h hl hQ => ?_)
  have hx := E.1
  have hb := E.2.1
  have hF : (F_X0_liars σ) = (F_X0_liars σ) := rfl
  have hl : lv_has ls 3 [(0, .ref (ad 37))] := hl
  refine lv_iconst (v := 0) hx hb dX0_liars_0 (by decide) ?_
  refine lv_istore_n (lv' := [(1, .int (0 : Int32)), (0, .ref (ad 37))]) hx hb dX0_liars_1 rfl hl (by decide) rfl (fun ls hl => ?_)
  refine lv_iconst (v := 0) hx hb dX0_liars_2 (by decide) ?_
  refine lv_istore_n (lv' := [(2, .int (0 : Int32)), (1, .int (0 : Int32)), (0, .ref (ad 37))]) hx hb dX0_liars_3 rfl hl (by decide) rfl (fun ls hl => ?_)
  have L4 : ∀ (n4 : Nat) (x2_4 : Int32) (x1_4 : Int32) (H : Heap) (locs : List Loc) (ls : Array Slot), (0 ≤ x2_4.toInt ∧ x2_4.toInt ≤ 6 ∧ x2_4.toInt + n4 = 7) → F_X0_liars_L4  n4 σ x2_4 x1_4 = (F_X0_liars σ) → gH D z s (gws ad cI cZ σ τ) H locs → lv_has ls 3 [(2, .int x2_4), (1, .int x1_4), (0, .ref (ad 37))] → W p l e (rmH 2) s m ([.ref (ad 37)] : List Value).toArray below meth c H locs 0 0 Q (F0 m 4 ls []) := by
    clear hF h hl
    intro n4
    induction n4 with
    | zero =>
      intro x2_4 x1_4 H locs ls hI
      exact absurd hI (by omega)
    | succ n4 ih4 =>
      intro x2_4 x1_4 H locs ls hI4 hF h hl
      refine lv_iload_n hx hb dX0_liars_4 rfl (lv_at hl 0 rfl) ?_
      refine lv_aload_n hx hb dX0_liars_5 rfl (lv_at hl 2 rfl) ?_
      refine g_get (v := .int (σ.1 1186)) E h 37 rfl rfl layX0 2 (by decide) rfl mw_137 rfl dX0_liars_6 ?_
      refine lv_icmp_ge (tgt := 49) hx hb dX0_liars_9 (by decide) (fun c2 => ?_) (fun c2 => ?_)
      · have ic2 : (σ.1 1186).toInt ≤ x2_4.toInt := i_le c2
        have hF := (if_pos c2).symm.trans hF
        refine lv_iload_n hx hb dX0_liars_49 rfl (lv_at hl 1 rfl) ?_
        exact g_iret E hr hlk h hQ hF rfl dX0_liars_50
      · have ic2 : x2_4.toInt < (σ.1 1186).toInt := i_nle c2
        have hF := (if_neg c2).symm.trans hF
        refine lv_iload_n hx hb dX0_liars_12 rfl (lv_at hl 0 rfl) ?_
        refine lv_bipush (v := 6) hx hb dX0_liars_13 (by decide) ?_
        refine lv_icmp_ge (tgt := 49) hx hb dX0_liars_15 (by decide) (fun c3 => ?_) (fun c3 => ?_)
        · have ic3 : 6 ≤ x2_4.toInt := i_le c3
          have hF := (if_pos c3).symm.trans hF
          refine lv_iload_n hx hb dX0_liars_49 rfl (lv_at hl 1 rfl) ?_
          exact g_iret E hr hlk h hQ hF rfl dX0_liars_50
        · have ic3 : x2_4.toInt < 6 := i_nle c3
          have hF := (if_neg c3).symm.trans hF
          refine lv_aload_n hx hb dX0_liars_18 rfl (lv_at hl 2 rfl) ?_
          refine g_get (v := .ref (ad 39)) E h 37 rfl rfl layX0 1 (by decide) rfl mw_136 rfl dX0_liars_19 ?_
          refine lv_iload_n hx hb dX0_liars_22 rfl (lv_at hl 0 rfl) ?_
          refine g_iald (f := (σ.2.1 39)) E h 39 rfl (ix_of (oI_at x2_4) (by omega) (by decide)) dX0_liars_23 ?_
          refine lv_iconst (v := 0) hx hb dX0_liars_24 (by decide) ?_
          refine lv_iconst (v := 3) hx hb dX0_liars_25 (by decide) ?_
          refine g_callSNi (rest := []) E h (c_X8_within l D cI cZ z (gws ad cI cZ σ τ) ((σ.2.1 39) x2_4.toNatClampNeg) (0 : Int32) (3 : Int32)) nm_RX0_22 cbX8_within ⟨by decide, by decide⟩ rfl rfl hl.1 (Nat.le_of_ble_eq_true rfl) ⟨Nat.zero_le _, Nat.zero_le _⟩ dX0_liars_26 (fun H locs h => ?_)
          refine lv_if_ne (tgt := 43) hx hb dX0_liars_29 (by decide) (fun c4 => ?_) (fun c4 => ?_)
          · have ic4 : (F_X8_within ((σ.2.1 39) x2_4.toNatClampNeg) (0 : Int32) (3 : Int32)).toInt ≠ 0 := i_ne c4
            have jc4 : 0 ≤ ((σ.2.1 39) x2_4.toNatClampNeg).toInt ∧ ((σ.2.1 39) x2_4.toNatClampNeg).toInt ≤ 3 := fz_within c4
            have hF := (if_neg c4).symm.trans hF
            refine lv_iinc (v := (x2_4 + (1 : Int32))) (lv' := [(2, .int (x2_4 + (1 : Int32))), (1, .int x1_4), (0, .ref (ad 37))]) hx hb dX0_liars_43 hl (k := 0) rfl rfl (by decide) rfl (fun ls hl => ?_)
            refine lv_goto (tgt := 4) hx hb dX0_liars_46 (by decide) ?_
            have e4_2 : (x2_4 + (1 : Int32)).toInt = _ := ti_of (oI_add (oI_at x2_4) (oI_lit (x := 1) (a := 1) rfl)) (by omega)
            exact ih4 (x2_4 + (1 : Int32)) x1_4 _ _ ls ((show 0 ≤ (x2_4 + (1 : Int32)).toInt ∧ (x2_4 + (1 : Int32)).toInt ≤ 6 ∧ (x2_4 + (1 : Int32)).toInt + n4 = 7 from by omega)) hF h (lv_sub hl [0, 1, 2] rfl)
          · have ic4 : (F_X8_within ((σ.2.1 39) x2_4.toNatClampNeg) (0 : Int32) (3 : Int32)).toInt = 0 := i_eq c4
            have hF := (if_pos c4).symm.trans hF
            refine lv_iload_n hx hb dX0_liars_32 rfl (lv_at hl 1 rfl) ?_
            refine lv_iconst (v := 1) hx hb dX0_liars_33 (by decide) ?_
            refine lv_aload_n hx hb dX0_liars_34 rfl (lv_at hl 2 rfl) ?_
            refine g_get (v := .ref (ad 38)) E h 37 rfl rfl layX0 0 (by decide) rfl mw_135 rfl dX0_liars_35 ?_
            refine lv_iload_n hx hb dX0_liars_38 rfl (lv_at hl 0 rfl) ?_
            refine g_iald (f := (σ.2.1 38)) E h 38 rfl (ix_of (oI_at x2_4) (by omega) (by decide)) dX0_liars_39 ?_
            refine lv_ishl hx hb dX0_liars_40 ?_
            refine lv_ior hx hb dX0_liars_41 ?_
            refine lv_istore_n (lv' := [(1, .int (x1_4 ||| ((1 : Int32) <<< (((σ.2.1 38) x2_4.toNatClampNeg) &&& 31)))), (2, .int x2_4), (0, .ref (ad 37))]) hx hb dX0_liars_42 rfl hl (by decide) rfl (fun ls hl => ?_)
            refine lv_iinc (v := (x2_4 + (1 : Int32))) (lv' := [(2, .int (x2_4 + (1 : Int32))), (1, .int (x1_4 ||| ((1 : Int32) <<< (((σ.2.1 38) x2_4.toNatClampNeg) &&& 31)))), (0, .ref (ad 37))]) hx hb dX0_liars_43 hl (k := 1) rfl rfl (by decide) rfl (fun ls hl => ?_)
            refine lv_goto (tgt := 4) hx hb dX0_liars_46 (by decide) ?_
            have e4_2 : (x2_4 + (1 : Int32)).toInt = _ := ti_of (oI_add (oI_at x2_4) (oI_lit (x := 1) (a := 1) rfl)) (by omega)
            exact ih4 (x2_4 + (1 : Int32)) (x1_4 ||| ((1 : Int32) <<< (((σ.2.1 38) x2_4.toNatClampNeg) &&& 31))) _ _ ls ((show 0 ≤ (x2_4 + (1 : Int32)).toInt ∧ (x2_4 + (1 : Int32)).toInt ≤ 6 ∧ (x2_4 + (1 : Int32)).toInt + n4 = 7 from by omega)) hF h (lv_sub hl [0, 1, 2] rfl)
  have q4_2 : (0 : Int32).toInt = 0 := rfl
  exact L4 7 (0 : Int32) (0 : Int32) _ _ ls ((show 0 ≤ (0 : Int32).toInt ∧ (0 : Int32).toInt ≤ 6 ∧ (0 : Int32).toInt + (7 : Nat) = 7 from by omega)) hF h (lv_sub hl [0, 1, 2] rfl)
