theorem mx_start (x : Int32) : 0 ≤ (if (0 : Int32) < x then x else 0).toInt ∧ 0 < 201 ∧ 200 < (if (0 : Int32) < x then x else 0).toInt + (201 : Nat) := by
  have h0 : (0 : Int32).toInt = 0 := rfl
  split
  · rename_i h
    have := i_lt h
    omega
  · omega

def F_X6_append (σ : St) (a1 : Int32) : Int32 × St := (if (σ.1 33) < (200 : Int32) then ((1 : Int32), (si (sa σ 2 (upd (σ.2.1 2) (σ.1 33).toNatClampNeg a1)) 33 ((σ.1 33) + (1 : Int32)))) else ((0 : Int32), σ))
abbrev I_X6_append : List Nat := [33]
abbrev A_X6_append : List Nat := [2]
theorem fr_F_X6_append (σ : St) (a1 : Int32) : Fr I_X6_append A_X6_append false σ (F_X6_append σ a1).2 := (fr_ite2 (Fr.si (by decide) (Fr.sa (by decide) Fr.rf)) Fr.rf)
set_option maxHeartbeats 4000000 in
set_option maxRecDepth 20000 in
theorem c_X6_append (l : Launch) (D : va_G) (cI cZ : ClassId) (z : Nat) (ad : Nat → Nat) (σ τ : St) (a1 : Int32) (hp : 0 ≤ (σ.1 33).toInt) : gM l yX6_append cX6_append 2 (some .boolean) 1 D cI cZ z (gws ad cI cZ σ τ) [.ref (ad 1), .int a1] (some (.int (F_X6_append σ a1).1)) (gws ad cI cZ (F_X6_append σ a1).2 τ) := by
  refine g_met (own := RX6) (by decide) rfl (Nat.le_of_ble_eq_true rfl) (fun p e s m below meth c ls Q E hr hlk h hl hQ => ?_)
  have hx := E.1
  have hb := E.2.1
  have hF : (F_X6_append σ a1) = (F_X6_append σ a1) := rfl
  have hl : lv_has ls 2 [(0, .ref (ad 1)), (1, .int a1)] := hl
  refine lv_aload_n hx hb dX6_append_0 rfl (lv_at hl 0 rfl) ?_
  refine g_get (v := .int (σ.1 33)) E h 1 rfl rfl layX6 1 (by decide) rfl mw_30 rfl dX6_append_1 ?_
  refine lv_sipush (v := 200) hx hb dX6_append_4 (by decide) ?_
  refine lv_icmp_lt (tgt := 12) hx hb dX6_append_7 (by decide) (fun c1 => ?_) (fun c1 => ?_)
  · have ic1 : (σ.1 33).toInt < 200 := i_lt c1
    have hF := (if_pos c1).symm.trans hF
    refine lv_aload_n hx hb dX6_append_12 rfl (lv_at hl 0 rfl) ?_
    refine g_get (v := .ref (ad 2)) E h 1 rfl rfl layX6 0 (by decide) rfl mw_29 rfl dX6_append_13 ?_
    refine lv_aload_n hx hb dX6_append_16 rfl (lv_at hl 0 rfl) ?_
    refine g_get (v := .int (σ.1 33)) E h 1 rfl rfl layX6 1 (by decide) rfl mw_30 rfl dX6_append_17 ?_
    refine lv_iload_n hx hb dX6_append_20 rfl (lv_at hl 1 rfl) ?_
    refine g_iast (f := (σ.2.1 2)) (ws' := gws ad cI cZ (sa σ 2 (upd (σ.2.1 2) (σ.1 33).toNatClampNeg a1)) τ) E h 2 rfl (ix_of (oI_at (σ.1 33)) (by omega) (by decide)) (ga_2 ad cI cZ σ τ (upd (σ.2.1 2) (σ.1 33).toNatClampNeg a1)) dX6_append_21 (fun H locs h => ?_)
    refine lv_aload_n hx hb dX6_append_22 rfl (lv_at hl 0 rfl) ?_
    refine lv_dup hx hb dX6_append_23 rfl ?_
    refine g_get (v := .int (σ.1 33)) E h 1 rfl rfl layX6 1 (by decide) rfl mw_30 rfl dX6_append_24 ?_
    refine lv_iconst (v := 1) hx hb dX6_append_27 (by decide) ?_
    refine lv_iadd hx hb dX6_append_28 ?_
    refine g_put (v := .int ((σ.1 33) + (1 : Int32))) (ty := .int) (ws' := gws ad cI cZ (si (sa σ 2 (upd (σ.2.1 2) (σ.1 33).toNatClampNeg a1)) 33 ((σ.1 33) + (1 : Int32))) τ) E h 1 rfl rfl layX6 tyX6 tyX6_ok nmX6 1 (by decide) rfl mw_30 rfl rfl rfl rfl (Nat.le_of_ble_eq_true rfl) (gi_33 ad cI cZ (sa σ 2 (upd (σ.2.1 2) (σ.1 33).toNatClampNeg a1)) τ ((σ.1 33) + (1 : Int32))) dX6_append_29 (fun H locs h => ?_)
    refine lv_iconst (v := 1) hx hb dX6_append_32 (by decide) ?_
    exact g_zret E hr hlk h hQ (rfl) (fst_of hF) (snd_of hF (fun u => gws ad cI cZ u τ)) dX6_append_33
  · have ic1 : 200 ≤ (σ.1 33).toInt := i_nlt c1
    have hF := (if_neg c1).symm.trans hF
    refine lv_iconst (v := 0) hx hb dX6_append_10 (by decide) ?_
    exact g_zret E hr hlk h hQ (rfl) (fst_of hF) (snd_of hF (fun u => gws ad cI cZ u τ)) dX6_append_11

def F_X6_size (σ : St) : Int32 := (σ.1 33)
set_option maxHeartbeats 4000000 in
set_option maxRecDepth 20000 in
theorem c_X6_size (l : Launch) (D : va_G) (cI cZ : ClassId) (z : Nat) (ad : Nat → Nat) (σ τ : St) : gM l yX6_size cX6_size 1 (some .int) 1 D cI cZ z (gws ad cI cZ σ τ) [.ref (ad 1)] (some (.int (F_X6_size σ))) (gws ad cI cZ σ τ) := by
  refine g_met (own := RX6) (by decide) rfl (Nat.le_of_ble_eq_true rfl) (fun p e s m below meth c ls Q E hr hlk h hl hQ => ?_)
  have hx := E.1
  have hb := E.2.1
  have hF : (F_X6_size σ) = (F_X6_size σ) := rfl
  have hl : lv_has ls 1 [(0, .ref (ad 1))] := hl
  refine lv_aload_n hx hb dX6_size_0 rfl (lv_at hl 0 rfl) ?_
  refine g_get (v := .int (σ.1 33)) E h 1 rfl rfl layX6 1 (by decide) rfl mw_30 rfl dX6_size_1 ?_
  exact g_iret E hr hlk h hQ hF rfl dX6_size_4

def F_X6_empty (σ : St) : Int32 × St := ((σ.1 33), (si σ 33 (0 : Int32)))
abbrev I_X6_empty : List Nat := [33]
abbrev A_X6_empty : List Nat := []
theorem fr_F_X6_empty (σ : St) : Fr I_X6_empty A_X6_empty false σ (F_X6_empty σ).2 := (Fr.si (by decide) Fr.rf)
set_option maxHeartbeats 4000000 in
set_option maxRecDepth 20000 in
theorem c_X6_empty (l : Launch) (D : va_G) (cI cZ : ClassId) (z : Nat) (ad : Nat → Nat) (σ τ : St) : gM l yX6_empty cX6_empty 2 (some .int) 1 D cI cZ z (gws ad cI cZ σ τ) [.ref (ad 1)] (some (.int (F_X6_empty σ).1)) (gws ad cI cZ (F_X6_empty σ).2 τ) := by
  refine g_met (own := RX6) (by decide) rfl (Nat.le_of_ble_eq_true rfl) (fun p e s m below meth c ls Q E hr hlk h hl hQ => ?_)
  have hx := E.1
  have hb := E.2.1
  have hF : (F_X6_empty σ) = (F_X6_empty σ) := rfl
  have hl : lv_has ls 2 [(0, .ref (ad 1))] := hl
  refine lv_aload_n hx hb dX6_empty_0 rfl (lv_at hl 0 rfl) ?_
  refine g_get (v := .int (σ.1 33)) E h 1 rfl rfl layX6 1 (by decide) rfl mw_30 rfl dX6_empty_1 ?_
  refine lv_istore_n (lv' := [(1, .int (σ.1 33)), (0, .ref (ad 1))]) hx hb dX6_empty_4 rfl hl (by decide) rfl (fun ls hl => ?_)
  refine lv_aload_n hx hb dX6_empty_5 rfl (lv_at hl 1 rfl) ?_
  refine lv_iconst (v := 0) hx hb dX6_empty_6 (by decide) ?_
  refine g_put (v := .int (0 : Int32)) (ty := .int) (ws' := gws ad cI cZ (si σ 33 (0 : Int32)) τ) E h 1 rfl rfl layX6 tyX6 tyX6_ok nmX6 1 (by decide) rfl mw_30 rfl rfl rfl rfl (Nat.le_of_ble_eq_true rfl) (gi_33 ad cI cZ σ τ (0 : Int32)) dX6_empty_7 (fun H locs h => ?_)
  refine lv_iload_n hx hb dX6_empty_10 rfl (lv_at hl 0 rfl) ?_
  exact g_iret E hr hlk h hQ (fst_of hF) (snd_of hF (fun u => gws ad cI cZ u τ)) dX6_empty_11

def F_X6_rewind (σ : St) : St := (si σ 34 (0 : Int32))
abbrev I_X6_rewind : List Nat := [34]
abbrev A_X6_rewind : List Nat := []
theorem fr_F_X6_rewind (σ : St) : Fr I_X6_rewind A_X6_rewind false σ (F_X6_rewind σ) := (Fr.si (by decide) Fr.rf)
set_option maxHeartbeats 4000000 in
set_option maxRecDepth 20000 in
theorem c_X6_rewind (l : Launch) (D : va_G) (cI cZ : ClassId) (z : Nat) (ad : Nat → Nat) (σ τ : St) : gM l yX6_rewind cX6_rewind 1 none 1 D cI cZ z (gws ad cI cZ σ τ) [.ref (ad 1)] none (gws ad cI cZ (F_X6_rewind σ) τ) := by
  refine g_met (own := RX6) (by decide) rfl (Nat.le_of_ble_eq_true rfl) (fun p e s m below meth c ls Q E hr hlk h hl hQ => ?_)
  have hx := E.1
  have hb := E.2.1
  have hF : (F_X6_rewind σ) = (F_X6_rewind σ) := rfl
  have hl : lv_has ls 1 [(0, .ref (ad 1))] := hl
  refine lv_aload_n hx hb dX6_rewind_0 rfl (lv_at hl 0 rfl) ?_
  refine lv_iconst (v := 0) hx hb dX6_rewind_1 (by decide) ?_
  refine g_put (v := .int (0 : Int32)) (ty := .int) (ws' := gws ad cI cZ (si σ 34 (0 : Int32)) τ) E h 1 rfl rfl layX6 tyX6 tyX6_ok nmX6 2 (by decide) rfl mw_31 rfl rfl rfl rfl (Nat.le_of_ble_eq_true rfl) (gi_34 ad cI cZ σ τ (0 : Int32)) dX6_rewind_2 (fun H locs h => ?_)
  exact g_vret E hr hlk h hQ (congrArg (fun u => gws ad cI cZ u τ) hF) dX6_rewind_5

def F_X6_tokenKind (σ : St) : Int32 := (σ.1 35)
set_option maxHeartbeats 4000000 in
set_option maxRecDepth 20000 in
theorem c_X6_tokenKind (l : Launch) (D : va_G) (cI cZ : ClassId) (z : Nat) (ad : Nat → Nat) (σ τ : St) : gM l yX6_tokenKind cX6_tokenKind 1 (some .int) 1 D cI cZ z (gws ad cI cZ σ τ) [.ref (ad 1)] (some (.int (F_X6_tokenKind σ))) (gws ad cI cZ σ τ) := by
  refine g_met (own := RX6) (by decide) rfl (Nat.le_of_ble_eq_true rfl) (fun p e s m below meth c ls Q E hr hlk h hl hQ => ?_)
  have hx := E.1
  have hb := E.2.1
  have hF : (F_X6_tokenKind σ) = (F_X6_tokenKind σ) := rfl
  have hl : lv_has ls 1 [(0, .ref (ad 1))] := hl
  refine lv_aload_n hx hb dX6_tokenKind_0 rfl (lv_at hl 0 rfl) ?_
  refine g_get (v := .int (σ.1 35)) E h 1 rfl rfl layX6 3 (by decide) rfl mw_32 rfl dX6_tokenKind_1 ?_
  exact g_iret E hr hlk h hQ hF rfl dX6_tokenKind_4

def F_X6_tokenPlace (σ : St) : Int32 := (σ.1 36)
set_option maxHeartbeats 4000000 in
set_option maxRecDepth 20000 in
theorem c_X6_tokenPlace (l : Launch) (D : va_G) (cI cZ : ClassId) (z : Nat) (ad : Nat → Nat) (σ τ : St) : gM l yX6_tokenPlace cX6_tokenPlace 1 (some .int) 1 D cI cZ z (gws ad cI cZ σ τ) [.ref (ad 1)] (some (.int (F_X6_tokenPlace σ))) (gws ad cI cZ σ τ) := by
  refine g_met (own := RX6) (by decide) rfl (Nat.le_of_ble_eq_true rfl) (fun p e s m below meth c ls Q E hr hlk h hl hQ => ?_)
  have hx := E.1
  have hb := E.2.1
  have hF : (F_X6_tokenPlace σ) = (F_X6_tokenPlace σ) := rfl
  have hl : lv_has ls 1 [(0, .ref (ad 1))] := hl
  refine lv_aload_n hx hb dX6_tokenPlace_0 rfl (lv_at hl 0 rfl) ?_
  refine g_get (v := .int (σ.1 36)) E h 1 rfl rfl layX6 4 (by decide) rfl mw_33 rfl dX6_tokenPlace_1 ?_
  exact g_iret E hr hlk h hQ hF rfl dX6_tokenPlace_4

def F_X6_tokenValue (σ : St) : Int32 := (σ.1 37)
set_option maxHeartbeats 4000000 in
set_option maxRecDepth 20000 in
theorem c_X6_tokenValue (l : Launch) (D : va_G) (cI cZ : ClassId) (z : Nat) (ad : Nat → Nat) (σ τ : St) : gM l yX6_tokenValue cX6_tokenValue 1 (some .int) 1 D cI cZ z (gws ad cI cZ σ τ) [.ref (ad 1)] (some (.int (F_X6_tokenValue σ))) (gws ad cI cZ σ τ) := by
  refine g_met (own := RX6) (by decide) rfl (Nat.le_of_ble_eq_true rfl) (fun p e s m below meth c ls Q E hr hlk h hl hQ => ?_)
  have hx := E.1
  have hb := E.2.1
  have hF : (F_X6_tokenValue σ) = (F_X6_tokenValue σ) := rfl
  have hl : lv_has ls 1 [(0, .ref (ad 1))] := hl
  refine lv_aload_n hx hb dX6_tokenValue_0 rfl (lv_at hl 0 rfl) ?_
  refine g_get (v := .int (σ.1 37)) E h 1 rfl rfl layX6 5 (by decide) rfl mw_34 rfl dX6_tokenValue_1 ?_
  exact g_iret E hr hlk h hQ hF rfl dX6_tokenValue_4

def F_X6_endOfRow_L7 : Nat → St → Int32 → Int32 → Int32 → Int32 → Int32
  | 0, _, _, _, _, _ => 0
  | n + 1, σ, a1, a2, a3, x4_7 => (if (σ.1 33) ≤ x4_7 then x4_7 else (if (200 : Int32) ≤ x4_7 then x4_7 else (if ((σ.2.1 2) x4_7.toNatClampNeg) < a2 then x4_7 else (if a3 < ((σ.2.1 2) x4_7.toNatClampNeg) then x4_7 else (F_X6_endOfRow_L7  n σ a1 a2 a3 (x4_7 + (1 : Int32)))))))
def F_X6_endOfRow (σ : St) (a1 : Int32) (a2 : Int32) (a3 : Int32) : Int32 := (F_X6_endOfRow_L7  201 σ a1 a2 a3 (if (0 : Int32) < a1 then a1 else (0 : Int32)))
set_option maxHeartbeats 4000000 in
set_option maxRecDepth 20000 in
theorem c_X6_endOfRow (l : Launch) (D : va_G) (cI cZ : ClassId) (z : Nat) (ad : Nat → Nat) (σ τ : St) (a1 a2 a3 : Int32) : gM l yX6_endOfRow cX6_endOfRow 5 (some .int) 1 D cI cZ z (gws ad cI cZ σ τ) [.ref (ad 1), .int a1, .int a2, .int a3] (some (.int (F_X6_endOfRow σ a1 a2 a3))) (gws ad cI cZ σ τ) := by
  refine g_met (own := RX6) (by decide) rfl (Nat.le_of_ble_eq_true rfl) (fun p e s m below meth c ls Q E hr hlk h hl hQ => ?_)
  have hx := E.1
  have hb := E.2.1
  have hF : (F_X6_endOfRow σ a1 a2 a3) = (F_X6_endOfRow σ a1 a2 a3) := rfl
  have hl : lv_has ls 5 [(0, .ref (ad 1)), (1, .int a1), (2, .int a2), (3, .int a3)] := hl
  refine lv_iconst (v := 0) hx hb dX6_endOfRow_0 (by decide) ?_
  refine lv_iload_n hx hb dX6_endOfRow_1 rfl (lv_at hl 1 rfl) ?_
  refine g_max E hl.1 mw_289 mw_290 mw_12 mw_291 (by decide) (Nat.le_of_ble_eq_true rfl) ⟨Nat.zero_le _, Nat.zero_le _⟩ dX6_endOfRow_2 ?_
  refine lv_istore (lv' := [(4, .int (if (0 : Int32) < a1 then a1 else (0 : Int32))), (0, .ref (ad 1)), (1, .int a1), (2, .int a2), (3, .int a3)]) hx hb dX6_endOfRow_5 hl (by decide) rfl (fun ls hl => ?_)
  have L7 : ∀ (n7 : Nat) (x4_7 : Int32) (H : Heap) (locs : List Loc) (ls : Array Slot), (0 ≤ x4_7.toInt ∧ 0 < n7 ∧ 200 < x4_7.toInt + n7) → F_X6_endOfRow_L7  n7 σ a1 a2 a3 x4_7 = (F_X6_endOfRow σ a1 a2 a3) → gH D z s (gws ad cI cZ σ τ) H locs → lv_has ls 5 [(4, .int x4_7), (0, .ref (ad 1)), (1, .int a1), (2, .int a2), (3, .int a3)] → W p l e (rmH 1) s m ([.ref (ad 1), .int a1, .int a2, .int a3] : List Value).toArray below meth c H locs 0 0 Q (F0 m 7 ls []) := by
    clear hF h hl
    intro n7
    induction n7 with
    | zero =>
      intro x4_7 H locs ls hI
      exact absurd hI (by omega)
    | succ n7 ih7 =>
      intro x4_7 H locs ls hI7 hF h hl
      refine lv_iload hx hb dX6_endOfRow_7 (lv_at hl 0 rfl) ?_
      refine lv_aload_n hx hb dX6_endOfRow_9 rfl (lv_at hl 1 rfl) ?_
      refine g_get (v := .int (σ.1 33)) E h 1 rfl rfl layX6 1 (by decide) rfl mw_30 rfl dX6_endOfRow_10 ?_
      refine lv_icmp_ge (tgt := 52) hx hb dX6_endOfRow_13 (by decide) (fun c2 => ?_) (fun c2 => ?_)
      · have ic2 : (σ.1 33).toInt ≤ x4_7.toInt := i_le c2
        have hF := (if_pos c2).symm.trans hF
        refine lv_iload hx hb dX6_endOfRow_52 (lv_at hl 0 rfl) ?_
        exact g_iret E hr hlk h hQ hF rfl dX6_endOfRow_54
      · have ic2 : x4_7.toInt < (σ.1 33).toInt := i_nle c2
        have hF := (if_neg c2).symm.trans hF
        refine lv_iload hx hb dX6_endOfRow_16 (lv_at hl 0 rfl) ?_
        refine lv_sipush (v := 200) hx hb dX6_endOfRow_18 (by decide) ?_
        refine lv_icmp_ge (tgt := 52) hx hb dX6_endOfRow_21 (by decide) (fun c3 => ?_) (fun c3 => ?_)
        · have ic3 : 200 ≤ x4_7.toInt := i_le c3
          have hF := (if_pos c3).symm.trans hF
          refine lv_iload hx hb dX6_endOfRow_52 (lv_at hl 0 rfl) ?_
          exact g_iret E hr hlk h hQ hF rfl dX6_endOfRow_54
        · have ic3 : x4_7.toInt < 200 := i_nle c3
          have hF := (if_neg c3).symm.trans hF
          refine lv_iload_n hx hb dX6_endOfRow_24 rfl (lv_at hl 3 rfl) ?_
          refine lv_aload_n hx hb dX6_endOfRow_25 rfl (lv_at hl 1 rfl) ?_
          refine g_get (v := .ref (ad 2)) E h 1 rfl rfl layX6 0 (by decide) rfl mw_29 rfl dX6_endOfRow_26 ?_
          refine lv_iload hx hb dX6_endOfRow_29 (lv_at hl 0 rfl) ?_
          refine g_iald (f := (σ.2.1 2)) E h 2 rfl (ix_of (oI_at x4_7) (by omega) (by decide)) dX6_endOfRow_31 ?_
          refine lv_icmp_gt (tgt := 52) hx hb dX6_endOfRow_32 (by decide) (fun c4 => ?_) (fun c4 => ?_)
          · have ic4 : ((σ.2.1 2) x4_7.toNatClampNeg).toInt < a2.toInt := i_lt c4
            have hF := (if_pos c4).symm.trans hF
            refine lv_iload hx hb dX6_endOfRow_52 (lv_at hl 0 rfl) ?_
            exact g_iret E hr hlk h hQ hF rfl dX6_endOfRow_54
          · have ic4 : a2.toInt ≤ ((σ.2.1 2) x4_7.toNatClampNeg).toInt := i_nlt c4
            have hF := (if_neg c4).symm.trans hF
            refine lv_aload_n hx hb dX6_endOfRow_35 rfl (lv_at hl 1 rfl) ?_
            refine g_get (v := .ref (ad 2)) E h 1 rfl rfl layX6 0 (by decide) rfl mw_29 rfl dX6_endOfRow_36 ?_
            refine lv_iload hx hb dX6_endOfRow_39 (lv_at hl 0 rfl) ?_
            refine g_iald (f := (σ.2.1 2)) E h 2 rfl (ix_of (oI_at x4_7) (by omega) (by decide)) dX6_endOfRow_41 ?_
            refine lv_iload_n hx hb dX6_endOfRow_42 rfl (lv_at hl 4 rfl) ?_
            refine lv_icmp_gt (tgt := 52) hx hb dX6_endOfRow_43 (by decide) (fun c5 => ?_) (fun c5 => ?_)
            · have ic5 : a3.toInt < ((σ.2.1 2) x4_7.toNatClampNeg).toInt := i_lt c5
              have hF := (if_pos c5).symm.trans hF
              refine lv_iload hx hb dX6_endOfRow_52 (lv_at hl 0 rfl) ?_
              exact g_iret E hr hlk h hQ hF rfl dX6_endOfRow_54
            · have ic5 : ((σ.2.1 2) x4_7.toNatClampNeg).toInt ≤ a3.toInt := i_nlt c5
              have hF := (if_neg c5).symm.trans hF
              refine lv_iinc (v := (x4_7 + (1 : Int32))) (lv' := [(4, .int (x4_7 + (1 : Int32))), (0, .ref (ad 1)), (1, .int a1), (2, .int a2), (3, .int a3)]) hx hb dX6_endOfRow_46 hl (k := 0) rfl rfl (by decide) rfl (fun ls hl => ?_)
              refine lv_goto (tgt := 7) hx hb dX6_endOfRow_49 (by decide) ?_
              have e7_4 : (x4_7 + (1 : Int32)).toInt = _ := ti_of (oI_add (oI_at x4_7) (oI_lit (x := 1) (a := 1) rfl)) (by omega)
              exact ih7 (x4_7 + (1 : Int32)) _ _ ls ((show 0 ≤ (x4_7 + (1 : Int32)).toInt ∧ 0 < n7 ∧ 200 < (x4_7 + (1 : Int32)).toInt + n7 from by omega)) hF h (lv_sub hl [0, 1, 2, 3, 4] rfl)
  exact L7 201 (if (0 : Int32) < a1 then a1 else (0 : Int32)) _ _ ls (mx_start a1) hF h (lv_sub hl [0, 1, 2, 3, 4] rfl)

def F_X6_readNumber_L5 : Nat → St → Int32 → Int32 → St → St
  | 0, _, _, _, m5 => m5
  | n + 1, σ, a1, x2_5, m5 => (if (m5.1 34) ≤ x2_5 then (if (99 : Int32) < (m5.1 37) then (si m5 35 (4 : Int32)) else (if a1 = 0 then (si m5 35 (2 : Int32)) else (if ((m5.1 34) - (m5.1 36)) ≤ (1 : Int32) then (si m5 35 (2 : Int32)) else (si m5 35 (4 : Int32))))) else (if (200 : Int32) ≤ x2_5 then (if (99 : Int32) < (m5.1 37) then (si m5 35 (4 : Int32)) else (if a1 = 0 then (si m5 35 (2 : Int32)) else (if ((m5.1 34) - (m5.1 36)) ≤ (1 : Int32) then (si m5 35 (2 : Int32)) else (si m5 35 (4 : Int32))))) else (F_X6_readNumber_L5  n σ a1 (x2_5 + (1 : Int32)) (si m5 37 (if ((((m5.1 37) * (10 : Int32)) + ((m5.2.1 2) x2_5.toNatClampNeg)) - (48 : Int32)) < (100 : Int32) then ((((m5.1 37) * (10 : Int32)) + ((m5.2.1 2) x2_5.toNatClampNeg)) - (48 : Int32)) else (100 : Int32))))))
def F_X6_readNumber (σ : St) (a1 : Int32) : St := (F_X6_readNumber_L5  201 σ a1 (σ.1 36) σ)
abbrev I_X6_readNumber : List Nat := [35, 37]
abbrev A_X6_readNumber : List Nat := []
theorem fr_F_X6_readNumber_L5_w (σ : St) (a1 : Int32) : ∀ (n : Nat) (x2_5 : Int32) (m5 : St), Fr I_X6_readNumber A_X6_readNumber false σ m5 → Fr I_X6_readNumber A_X6_readNumber false σ (F_X6_readNumber_L5  n σ a1 x2_5 m5)
  | 0, x2_5, m5, hfr => hfr
  | n + 1, x2_5, m5, hfr => (fr_ite1 (fr_ite1 (Fr.si (by decide) hfr) (fr_ite1 (Fr.si (by decide) hfr) (fr_ite1 (Fr.si (by decide) hfr) (Fr.si (by decide) hfr)))) (fr_ite1 (fr_ite1 (Fr.si (by decide) hfr) (fr_ite1 (Fr.si (by decide) hfr) (fr_ite1 (Fr.si (by decide) hfr) (Fr.si (by decide) hfr)))) ((fun y1 y2 hy => fr_F_X6_readNumber_L5_w  σ a1  n y1 y2 hy) (x2_5 + (1 : Int32)) (si m5 37 (if ((((m5.1 37) * (10 : Int32)) + ((m5.2.1 2) x2_5.toNatClampNeg)) - (48 : Int32)) < (100 : Int32) then ((((m5.1 37) * (10 : Int32)) + ((m5.2.1 2) x2_5.toNatClampNeg)) - (48 : Int32)) else (100 : Int32))) (Fr.si (by decide) hfr))))
theorem fr_F_X6_readNumber_L5 (n : Nat) (σ : St) (a1 : Int32) (x2_5 : Int32) (m5 : St) (hfr : Fr I_X6_readNumber A_X6_readNumber false σ (m5)) : Fr I_X6_readNumber A_X6_readNumber false σ (F_X6_readNumber_L5  n σ a1 x2_5 m5) := fr_F_X6_readNumber_L5_w  σ a1  n x2_5 m5 hfr
theorem fr_F_X6_readNumber (σ : St) (a1 : Int32) : Fr I_X6_readNumber A_X6_readNumber false σ (F_X6_readNumber σ a1) := (fr_F_X6_readNumber_L5  201 σ a1 (σ.1 36) σ Fr.rf)
set_option maxHeartbeats 4000000 in
set_option maxRecDepth 20000 in
theorem c_X6_readNumber (l : Launch) (D : va_G) (cI cZ : ClassId) (z : Nat) (ad : Nat → Nat) (σ τ : St) (a1 : Int32) (hp : 0 ≤ (σ.1 36).toInt) : gM l yX6_readNumber cX6_readNumber 3 none 1 D cI cZ z (gws ad cI cZ σ τ) [.ref (ad 1), .int a1] none (gws ad cI cZ (F_X6_readNumber σ a1) τ) := by
  refine g_met (own := RX6) (by decide) rfl (Nat.le_of_ble_eq_true rfl) (fun p e s m below meth c ls Q E hr hlk h hl hQ => ?_)
  have hx := E.1
  have hb := E.2.1
  have hF : (F_X6_readNumber σ a1) = (F_X6_readNumber σ a1) := rfl
  have hl : lv_has ls 3 [(0, .ref (ad 1)), (1, .int a1)] := hl
  refine lv_aload_n hx hb dX6_readNumber_0 rfl (lv_at hl 0 rfl) ?_
  refine g_get (v := .int (σ.1 36)) E h 1 rfl rfl layX6 4 (by decide) rfl mw_33 rfl dX6_readNumber_1 ?_
  refine lv_istore_n (lv' := [(2, .int (σ.1 36)), (0, .ref (ad 1)), (1, .int a1)]) hx hb dX6_readNumber_4 rfl hl (by decide) rfl (fun ls hl => ?_)
  have L5 : ∀ (n5 : Nat) (x2_5 : Int32) (m5 : St) (H : Heap) (locs : List Loc) (ls : Array Slot), (0 ≤ x2_5.toInt ∧ 0 < n5 ∧ 200 < x2_5.toInt + n5) → F_X6_readNumber_L5  n5 σ a1 x2_5 m5 = (F_X6_readNumber σ a1) → gH D z s (gws ad cI cZ m5 τ) H locs → lv_has ls 3 [(2, .int x2_5), (0, .ref (ad 1)), (1, .int a1)] → W p l e (rmH 1) s m ([.ref (ad 1), .int a1] : List Value).toArray below meth c H locs 0 0 Q (F0 m 5 ls []) := by
    clear hF h hl
    intro n5
    induction n5 with
    | zero =>
      intro x2_5 m5 H locs ls hI
      exact absurd hI (by omega)
    | succ n5 ih5 =>
      intro x2_5 m5 H locs ls hI5 hF h hl
      refine lv_iload_n hx hb dX6_readNumber_5 rfl (lv_at hl 0 rfl) ?_
      refine lv_aload_n hx hb dX6_readNumber_6 rfl (lv_at hl 1 rfl) ?_
      refine g_get (v := .int (m5.1 34)) E h 1 rfl rfl layX6 2 (by decide) rfl mw_31 rfl dX6_readNumber_7 ?_
      refine lv_icmp_ge (tgt := 52) hx hb dX6_readNumber_10 (by decide) (fun c2 => ?_) (fun c2 => ?_)
      · have ic2 : (m5.1 34).toInt ≤ x2_5.toInt := i_le c2
        have hF := (if_pos c2).symm.trans hF
        refine lv_aload_n hx hb dX6_readNumber_52 rfl (lv_at hl 1 rfl) ?_
        refine lv_aload_n hx hb dX6_readNumber_53 rfl (lv_at hl 1 rfl) ?_
        refine g_get (v := .int (m5.1 37)) E h 1 rfl rfl layX6 5 (by decide) rfl mw_34 rfl dX6_readNumber_54 ?_
        refine lv_bipush (v := 99) hx hb dX6_readNumber_57 (by decide) ?_
        refine lv_icmp_gt (tgt := 79) hx hb dX6_readNumber_59 (by decide) (fun c3 => ?_) (fun c3 => ?_)
        · have ic3 : 99 < (m5.1 37).toInt := i_lt c3
          have hF := (if_pos c3).symm.trans hF
          refine lv_iconst (v := 4) hx hb dX6_readNumber_79 (by decide) ?_
          refine lv_goto (tgt := 84) hx hb dX6_readNumber_80 (by decide) ?_
          refine g_put (v := .int (4 : Int32)) (ty := .int) (ws' := gws ad cI cZ (si m5 35 (4 : Int32)) τ) E h 1 rfl rfl layX6 tyX6 tyX6_ok nmX6 3 (by decide) rfl mw_32 rfl rfl rfl rfl (Nat.le_of_ble_eq_true rfl) (gi_35 ad cI cZ m5 τ (4 : Int32)) dX6_readNumber_84 (fun H locs h => ?_)
          exact g_vret E hr hlk h hQ (congrArg (fun u => gws ad cI cZ u τ) hF) dX6_readNumber_87
        · have ic3 : (m5.1 37).toInt ≤ 99 := i_nlt c3
          have hF := (if_neg c3).symm.trans hF
          refine lv_iload_n hx hb dX6_readNumber_62 rfl (lv_at hl 2 rfl) ?_
          refine lv_if_eq (tgt := 83) hx hb dX6_readNumber_63 (by decide) (fun c4 => ?_) (fun c4 => ?_)
          · have ic4 : a1.toInt = 0 := i_eq c4
            have hF := (if_pos c4).symm.trans hF
            refine lv_iconst (v := 2) hx hb dX6_readNumber_83 (by decide) ?_
            refine g_put (v := .int (2 : Int32)) (ty := .int) (ws' := gws ad cI cZ (si m5 35 (2 : Int32)) τ) E h 1 rfl rfl layX6 tyX6 tyX6_ok nmX6 3 (by decide) rfl mw_32 rfl rfl rfl rfl (Nat.le_of_ble_eq_true rfl) (gi_35 ad cI cZ m5 τ (2 : Int32)) dX6_readNumber_84 (fun H locs h => ?_)
            exact g_vret E hr hlk h hQ (congrArg (fun u => gws ad cI cZ u τ) hF) dX6_readNumber_87
          · have ic4 : a1.toInt ≠ 0 := i_ne c4
            have hF := (if_neg c4).symm.trans hF
            refine lv_aload_n hx hb dX6_readNumber_66 rfl (lv_at hl 1 rfl) ?_
            refine g_get (v := .int (m5.1 34)) E h 1 rfl rfl layX6 2 (by decide) rfl mw_31 rfl dX6_readNumber_67 ?_
            refine lv_aload_n hx hb dX6_readNumber_70 rfl (lv_at hl 1 rfl) ?_
            refine g_get (v := .int (m5.1 36)) E h 1 rfl rfl layX6 4 (by decide) rfl mw_33 rfl dX6_readNumber_71 ?_
            refine lv_isub hx hb dX6_readNumber_74 ?_
            refine lv_iconst (v := 1) hx hb dX6_readNumber_75 (by decide) ?_
            refine lv_icmp_le (tgt := 83) hx hb dX6_readNumber_76 (by decide) (fun c5 => ?_) (fun c5 => ?_)
            · have ic5 : ((m5.1 34) - (m5.1 36)).toInt ≤ 1 := i_le c5
              have hF := (if_pos c5).symm.trans hF
              refine lv_iconst (v := 2) hx hb dX6_readNumber_83 (by decide) ?_
              refine g_put (v := .int (2 : Int32)) (ty := .int) (ws' := gws ad cI cZ (si m5 35 (2 : Int32)) τ) E h 1 rfl rfl layX6 tyX6 tyX6_ok nmX6 3 (by decide) rfl mw_32 rfl rfl rfl rfl (Nat.le_of_ble_eq_true rfl) (gi_35 ad cI cZ m5 τ (2 : Int32)) dX6_readNumber_84 (fun H locs h => ?_)
              exact g_vret E hr hlk h hQ (congrArg (fun u => gws ad cI cZ u τ) hF) dX6_readNumber_87
            · have ic5 : 1 < ((m5.1 34) - (m5.1 36)).toInt := i_nle c5
              have hF := (if_neg c5).symm.trans hF
              refine lv_iconst (v := 4) hx hb dX6_readNumber_79 (by decide) ?_
              refine lv_goto (tgt := 84) hx hb dX6_readNumber_80 (by decide) ?_
              refine g_put (v := .int (4 : Int32)) (ty := .int) (ws' := gws ad cI cZ (si m5 35 (4 : Int32)) τ) E h 1 rfl rfl layX6 tyX6 tyX6_ok nmX6 3 (by decide) rfl mw_32 rfl rfl rfl rfl (Nat.le_of_ble_eq_true rfl) (gi_35 ad cI cZ m5 τ (4 : Int32)) dX6_readNumber_84 (fun H locs h => ?_)
              exact g_vret E hr hlk h hQ (congrArg (fun u => gws ad cI cZ u τ) hF) dX6_readNumber_87
      · have ic2 : x2_5.toInt < (m5.1 34).toInt := i_nle c2
        have hF := (if_neg c2).symm.trans hF
        refine lv_iload_n hx hb dX6_readNumber_13 rfl (lv_at hl 0 rfl) ?_
        refine lv_sipush (v := 200) hx hb dX6_readNumber_14 (by decide) ?_
        refine lv_icmp_ge (tgt := 52) hx hb dX6_readNumber_17 (by decide) (fun c6 => ?_) (fun c6 => ?_)
        · have ic6 : 200 ≤ x2_5.toInt := i_le c6
          have hF := (if_pos c6).symm.trans hF
          refine lv_aload_n hx hb dX6_readNumber_52 rfl (lv_at hl 1 rfl) ?_
          refine lv_aload_n hx hb dX6_readNumber_53 rfl (lv_at hl 1 rfl) ?_
          refine g_get (v := .int (m5.1 37)) E h 1 rfl rfl layX6 5 (by decide) rfl mw_34 rfl dX6_readNumber_54 ?_
          refine lv_bipush (v := 99) hx hb dX6_readNumber_57 (by decide) ?_
          refine lv_icmp_gt (tgt := 79) hx hb dX6_readNumber_59 (by decide) (fun c7 => ?_) (fun c7 => ?_)
          · have ic7 : 99 < (m5.1 37).toInt := i_lt c7
            have hF := (if_pos c7).symm.trans hF
            refine lv_iconst (v := 4) hx hb dX6_readNumber_79 (by decide) ?_
            refine lv_goto (tgt := 84) hx hb dX6_readNumber_80 (by decide) ?_
            refine g_put (v := .int (4 : Int32)) (ty := .int) (ws' := gws ad cI cZ (si m5 35 (4 : Int32)) τ) E h 1 rfl rfl layX6 tyX6 tyX6_ok nmX6 3 (by decide) rfl mw_32 rfl rfl rfl rfl (Nat.le_of_ble_eq_true rfl) (gi_35 ad cI cZ m5 τ (4 : Int32)) dX6_readNumber_84 (fun H locs h => ?_)
            exact g_vret E hr hlk h hQ (congrArg (fun u => gws ad cI cZ u τ) hF) dX6_readNumber_87
          · have ic7 : (m5.1 37).toInt ≤ 99 := i_nlt c7
            have hF := (if_neg c7).symm.trans hF
            refine lv_iload_n hx hb dX6_readNumber_62 rfl (lv_at hl 2 rfl) ?_
            refine lv_if_eq (tgt := 83) hx hb dX6_readNumber_63 (by decide) (fun c8 => ?_) (fun c8 => ?_)
            · have ic8 : a1.toInt = 0 := i_eq c8
              have hF := (if_pos c8).symm.trans hF
              refine lv_iconst (v := 2) hx hb dX6_readNumber_83 (by decide) ?_
              refine g_put (v := .int (2 : Int32)) (ty := .int) (ws' := gws ad cI cZ (si m5 35 (2 : Int32)) τ) E h 1 rfl rfl layX6 tyX6 tyX6_ok nmX6 3 (by decide) rfl mw_32 rfl rfl rfl rfl (Nat.le_of_ble_eq_true rfl) (gi_35 ad cI cZ m5 τ (2 : Int32)) dX6_readNumber_84 (fun H locs h => ?_)
              exact g_vret E hr hlk h hQ (congrArg (fun u => gws ad cI cZ u τ) hF) dX6_readNumber_87
            · have ic8 : a1.toInt ≠ 0 := i_ne c8
              have hF := (if_neg c8).symm.trans hF
              refine lv_aload_n hx hb dX6_readNumber_66 rfl (lv_at hl 1 rfl) ?_
              refine g_get (v := .int (m5.1 34)) E h 1 rfl rfl layX6 2 (by decide) rfl mw_31 rfl dX6_readNumber_67 ?_
              refine lv_aload_n hx hb dX6_readNumber_70 rfl (lv_at hl 1 rfl) ?_
              refine g_get (v := .int (m5.1 36)) E h 1 rfl rfl layX6 4 (by decide) rfl mw_33 rfl dX6_readNumber_71 ?_
              refine lv_isub hx hb dX6_readNumber_74 ?_
              refine lv_iconst (v := 1) hx hb dX6_readNumber_75 (by decide) ?_
              refine lv_icmp_le (tgt := 83) hx hb dX6_readNumber_76 (by decide) (fun c9 => ?_) (fun c9 => ?_)
              · have ic9 : ((m5.1 34) - (m5.1 36)).toInt ≤ 1 := i_le c9
                have hF := (if_pos c9).symm.trans hF
                refine lv_iconst (v := 2) hx hb dX6_readNumber_83 (by decide) ?_
                refine g_put (v := .int (2 : Int32)) (ty := .int) (ws' := gws ad cI cZ (si m5 35 (2 : Int32)) τ) E h 1 rfl rfl layX6 tyX6 tyX6_ok nmX6 3 (by decide) rfl mw_32 rfl rfl rfl rfl (Nat.le_of_ble_eq_true rfl) (gi_35 ad cI cZ m5 τ (2 : Int32)) dX6_readNumber_84 (fun H locs h => ?_)
                exact g_vret E hr hlk h hQ (congrArg (fun u => gws ad cI cZ u τ) hF) dX6_readNumber_87
              · have ic9 : 1 < ((m5.1 34) - (m5.1 36)).toInt := i_nle c9
                have hF := (if_neg c9).symm.trans hF
                refine lv_iconst (v := 4) hx hb dX6_readNumber_79 (by decide) ?_
                refine lv_goto (tgt := 84) hx hb dX6_readNumber_80 (by decide) ?_
                refine g_put (v := .int (4 : Int32)) (ty := .int) (ws' := gws ad cI cZ (si m5 35 (4 : Int32)) τ) E h 1 rfl rfl layX6 tyX6 tyX6_ok nmX6 3 (by decide) rfl mw_32 rfl rfl rfl rfl (Nat.le_of_ble_eq_true rfl) (gi_35 ad cI cZ m5 τ (4 : Int32)) dX6_readNumber_84 (fun H locs h => ?_)
                exact g_vret E hr hlk h hQ (congrArg (fun u => gws ad cI cZ u τ) hF) dX6_readNumber_87
        · have ic6 : x2_5.toInt < 200 := i_nle c6
          have hF := (if_neg c6).symm.trans hF
          refine lv_aload_n hx hb dX6_readNumber_20 rfl (lv_at hl 1 rfl) ?_
          refine lv_bipush (v := 100) hx hb dX6_readNumber_21 (by decide) ?_
          refine lv_aload_n hx hb dX6_readNumber_23 rfl (lv_at hl 1 rfl) ?_
          refine g_get (v := .int (m5.1 37)) E h 1 rfl rfl layX6 5 (by decide) rfl mw_34 rfl dX6_readNumber_24 ?_
          refine lv_bipush (v := 10) hx hb dX6_readNumber_27 (by decide) ?_
          refine lv_imul hx hb dX6_readNumber_29 ?_
          refine lv_aload_n hx hb dX6_readNumber_30 rfl (lv_at hl 1 rfl) ?_
          refine g_get (v := .ref (ad 2)) E h 1 rfl rfl layX6 0 (by decide) rfl mw_29 rfl dX6_readNumber_31 ?_
          refine lv_iload_n hx hb dX6_readNumber_34 rfl (lv_at hl 0 rfl) ?_
          refine g_iald (f := (m5.2.1 2)) E h 2 rfl (ix_of (oI_at x2_5) (by omega) (by decide)) dX6_readNumber_35 ?_
          refine lv_iadd hx hb dX6_readNumber_36 ?_
          refine lv_bipush (v := 48) hx hb dX6_readNumber_37 (by decide) ?_
          refine lv_isub hx hb dX6_readNumber_39 ?_
          refine g_min E hl.1 mw_297 mw_298 mw_12 mw_299 (by decide) (Nat.le_of_ble_eq_true rfl) ⟨Nat.zero_le _, Nat.zero_le _⟩ dX6_readNumber_40 ?_
          refine g_put (v := .int (if ((((m5.1 37) * (10 : Int32)) + ((m5.2.1 2) x2_5.toNatClampNeg)) - (48 : Int32)) < (100 : Int32) then ((((m5.1 37) * (10 : Int32)) + ((m5.2.1 2) x2_5.toNatClampNeg)) - (48 : Int32)) else (100 : Int32))) (ty := .int) (ws' := gws ad cI cZ (si m5 37 (if ((((m5.1 37) * (10 : Int32)) + ((m5.2.1 2) x2_5.toNatClampNeg)) - (48 : Int32)) < (100 : Int32) then ((((m5.1 37) * (10 : Int32)) + ((m5.2.1 2) x2_5.toNatClampNeg)) - (48 : Int32)) else (100 : Int32))) τ) E h 1 rfl rfl layX6 tyX6 tyX6_ok nmX6 5 (by decide) rfl mw_34 rfl rfl rfl rfl (Nat.le_of_ble_eq_true rfl) (gi_37 ad cI cZ m5 τ (if ((((m5.1 37) * (10 : Int32)) + ((m5.2.1 2) x2_5.toNatClampNeg)) - (48 : Int32)) < (100 : Int32) then ((((m5.1 37) * (10 : Int32)) + ((m5.2.1 2) x2_5.toNatClampNeg)) - (48 : Int32)) else (100 : Int32))) dX6_readNumber_43 (fun H locs h => ?_)
          refine lv_iinc (v := (x2_5 + (1 : Int32))) (lv' := [(2, .int (x2_5 + (1 : Int32))), (0, .ref (ad 1)), (1, .int a1)]) hx hb dX6_readNumber_46 hl (k := 0) rfl rfl (by decide) rfl (fun ls hl => ?_)
          refine lv_goto (tgt := 5) hx hb dX6_readNumber_49 (by decide) ?_
          have e5_2 : (x2_5 + (1 : Int32)).toInt = _ := ti_of (oI_add (oI_at x2_5) (oI_lit (x := 1) (a := 1) rfl)) (by omega)
          exact ih5 (x2_5 + (1 : Int32)) (si m5 37 (if ((((m5.1 37) * (10 : Int32)) + ((m5.2.1 2) x2_5.toNatClampNeg)) - (48 : Int32)) < (100 : Int32) then ((((m5.1 37) * (10 : Int32)) + ((m5.2.1 2) x2_5.toNatClampNeg)) - (48 : Int32)) else (100 : Int32))) _ _ ls ((show 0 ≤ (x2_5 + (1 : Int32)).toInt ∧ 0 < n5 ∧ 200 < (x2_5 + (1 : Int32)).toInt + n5 from by omega)) hF h (lv_sub hl [0, 1, 2] rfl)
  exact L5 201 (σ.1 36) σ _ _ ls ((show 0 ≤ (σ.1 36).toInt ∧ 0 < (201 : Nat) ∧ 200 < (σ.1 36).toInt + (201 : Nat) from by omega)) hF h (lv_sub hl [0, 1, 2] rfl)

def F_X6_scan_k139_10 (σ : St) (v1 : Int32) (v9 : Int32) : St := (if (v9 - v1) = (1 : Int32) then (si (si (si (si (si (si σ 36 v1) 34 v1) 37 (0 : Int32)) 34 v9) 35 (1 : Int32)) 37 ((σ.2.1 2) v1.toNatClampNeg)) else (si (si (si (si (si (si σ 36 v1) 34 v1) 37 (0 : Int32)) 34 v9) 35 (1 : Int32)) 37 (0 : Int32)))
def F_X6_scan_k112_18 (σ : St) (v1 : Int32) (v12 : Int32) (u17 : St) : St := u17
def F_X6_scan_k94_13 (σ : St) (v1 : Int32) (v12 : Int32) : St := (F_X6_scan_k112_18 σ v1 v12 (F_X6_readNumber (si (si (si (si σ 36 v1) 34 v1) 37 (0 : Int32)) 34 v12) (if ((σ.2.1 2) v1.toNatClampNeg) = (48 : Int32) then (1 : Int32) else (0 : Int32))))
def F_X6_scan_k10_2 (σ : St) (v1 : Int32) : St := (if v1 < 0 then (si (si (si (si σ 36 v1) 34 v1) 37 (0 : Int32)) 35 (0 : Int32)) else (if (σ.1 33) ≤ v1 then (si (si (si (si σ 36 v1) 34 v1) 37 (0 : Int32)) 35 (0 : Int32)) else (if v1 < (200 : Int32) then (if (F_X8_within ((σ.2.1 2) v1.toNatClampNeg) (48 : Int32) (57 : Int32)) = 0 then (if (F_X8_within ((σ.2.1 2) v1.toNatClampNeg) (97 : Int32) (122 : Int32)) = 0 then (if ((σ.2.1 2) v1.toNatClampNeg) = (59 : Int32) then (si (si (si (si (si σ 36 v1) 34 v1) 37 (0 : Int32)) 34 (v1 + (1 : Int32))) 35 (3 : Int32)) else (si (si (si (si (si σ 36 v1) 34 v1) 37 (0 : Int32)) 34 (v1 + (1 : Int32))) 35 (4 : Int32))) else (F_X6_scan_k139_10 σ v1 (F_X6_endOfRow (si (si (si σ 36 v1) 34 v1) 37 (0 : Int32)) v1 (97 : Int32) (122 : Int32)))) else (F_X6_scan_k94_13 σ v1 (F_X6_endOfRow (si (si (si σ 36 v1) 34 v1) 37 (0 : Int32)) v1 (48 : Int32) (57 : Int32)))) else (si (si (si (si σ 36 v1) 34 v1) 37 (0 : Int32)) 35 (0 : Int32)))))
def F_X6_scan (σ : St) : St := (F_X6_scan_k10_2 σ (F_X6_endOfRow σ (σ.1 34) (32 : Int32) (32 : Int32)))
abbrev I_X6_scan : List Nat := [34, 35, 36, 37]
abbrev A_X6_scan : List Nat := []
theorem fr_F_X6_scan_k139_10 (σ : St) (v1 : Int32) (v9 : Int32) : Fr I_X6_scan A_X6_scan false σ (F_X6_scan_k139_10  σ v1 v9) := (fr_ite1 (Fr.si (by decide) (Fr.si (by decide) (Fr.si (by decide) (Fr.si (by decide) (Fr.si (by decide) (Fr.si (by decide) Fr.rf)))))) (Fr.si (by decide) (Fr.si (by decide) (Fr.si (by decide) (Fr.si (by decide) (Fr.si (by decide) (Fr.si (by decide) Fr.rf)))))))
theorem fr_F_X6_scan_k112_18 (σ : St) (v1 : Int32) (v12 : Int32) (u17 : St) (hfr : Fr I_X6_scan A_X6_scan false σ (u17)) : Fr I_X6_scan A_X6_scan false σ (F_X6_scan_k112_18  σ v1 v12 u17) := hfr
theorem fr_F_X6_scan_k94_13 (σ : St) (v1 : Int32) (v12 : Int32) : Fr I_X6_scan A_X6_scan false σ (F_X6_scan_k94_13  σ v1 v12) := (fr_F_X6_scan_k112_18 σ v1 v12 (F_X6_readNumber (si (si (si (si σ 36 v1) 34 v1) 37 (0 : Int32)) 34 v12) (if ((σ.2.1 2) v1.toNatClampNeg) = (48 : Int32) then (1 : Int32) else (0 : Int32))) (Fr.tr (Fr.si (by decide) (Fr.si (by decide) (Fr.si (by decide) (Fr.si (by decide) Fr.rf)))) (Fr.mono (by decide) (by decide) (by decide) (fr_F_X6_readNumber (si (si (si (si σ 36 v1) 34 v1) 37 (0 : Int32)) 34 v12) (if ((σ.2.1 2) v1.toNatClampNeg) = (48 : Int32) then (1 : Int32) else (0 : Int32))))))
theorem fr_F_X6_scan_k10_2 (σ : St) (v1 : Int32) : Fr I_X6_scan A_X6_scan false σ (F_X6_scan_k10_2  σ v1) := (fr_ite1 (Fr.si (by decide) (Fr.si (by decide) (Fr.si (by decide) (Fr.si (by decide) Fr.rf)))) (fr_ite1 (Fr.si (by decide) (Fr.si (by decide) (Fr.si (by decide) (Fr.si (by decide) Fr.rf)))) (fr_ite1 (fr_ite1 (fr_ite1 (fr_ite1 (Fr.si (by decide) (Fr.si (by decide) (Fr.si (by decide) (Fr.si (by decide) (Fr.si (by decide) Fr.rf))))) (Fr.si (by decide) (Fr.si (by decide) (Fr.si (by decide) (Fr.si (by decide) (Fr.si (by decide) Fr.rf)))))) (fr_F_X6_scan_k139_10 σ v1 (F_X6_endOfRow (si (si (si σ 36 v1) 34 v1) 37 (0 : Int32)) v1 (97 : Int32) (122 : Int32)) )) (fr_F_X6_scan_k94_13 σ v1 (F_X6_endOfRow (si (si (si σ 36 v1) 34 v1) 37 (0 : Int32)) v1 (48 : Int32) (57 : Int32)) )) (Fr.si (by decide) (Fr.si (by decide) (Fr.si (by decide) (Fr.si (by decide) Fr.rf)))))))
theorem fr_F_X6_scan (σ : St) : Fr I_X6_scan A_X6_scan false σ (F_X6_scan σ) := (fr_F_X6_scan_k10_2 σ (F_X6_endOfRow σ (σ.1 34) (32 : Int32) (32 : Int32)) )
set_option maxHeartbeats 4000000 in
set_option maxRecDepth 20000 in
theorem c_X6_scan (l : Launch) (D : va_G) (cI cZ : ClassId) (z : Nat) (ad : Nat → Nat) (σ τ : St) : gM l yX6_scan cX6_scan 2 none 2 D cI cZ z (gws ad cI cZ σ τ) [.ref (ad 1)] none (gws ad cI cZ (F_X6_scan σ) τ) := by
  refine g_met (own := RX6) (by decide) rfl (Nat.le_of_ble_eq_true rfl) (fun p e s m below meth c ls Q E hr hlk h hl hQ => ?_)
  have hx := E.1
  have hb := E.2.1
  have hF : (F_X6_scan σ) = (F_X6_scan σ) := rfl
  have hl : lv_has ls 2 [(0, .ref (ad 1))] := hl
  refine lv_aload_n hx hb dX6_scan_0 rfl (lv_at hl 0 rfl) ?_
  refine lv_aload_n hx hb dX6_scan_1 rfl (lv_at hl 0 rfl) ?_
  refine lv_aload_n hx hb dX6_scan_2 rfl (lv_at hl 0 rfl) ?_
  refine g_get (v := .int (σ.1 34)) E h 1 rfl rfl layX6 2 (by decide) rfl mw_31 rfl dX6_scan_3 ?_
  refine lv_bipush (v := 32) hx hb dX6_scan_6 (by decide) ?_
  refine lv_bipush (v := 32) hx hb dX6_scan_8 (by decide) ?_
  refine g_callVh (F_X6_endOfRow σ (σ.1 34) (32 : Int32) (32 : Int32)) (rest := [.ref (ad 1)]) E h (c_X6_endOfRow l D cI cZ z ad σ τ (σ.1 34) (32 : Int32) (32 : Int32)) mw_285 cbX6_endOfRow 1 rfl rfl ⟨by decide, by decide⟩ rfl rfl hl.1 (Nat.le_of_ble_eq_true rfl) ⟨Nat.zero_le _, Nat.zero_le _⟩ dX6_scan_10 (fun v1 huv1 H locs h => ?_)
  have hF : F_X6_scan_k10_2 σ v1 = (F_X6_scan σ) := by rw [← huv1]; exact hF
  refine g_put (v := .int v1) (ty := .int) (ws' := gws ad cI cZ (si σ 36 v1) τ) E h 1 rfl rfl layX6 tyX6 tyX6_ok nmX6 4 (by decide) rfl mw_33 rfl rfl rfl rfl (Nat.le_of_ble_eq_true rfl) (gi_36 ad cI cZ σ τ v1) dX6_scan_13 (fun H locs h => ?_)
  refine lv_aload_n hx hb dX6_scan_16 rfl (lv_at hl 0 rfl) ?_
  refine lv_aload_n hx hb dX6_scan_17 rfl (lv_at hl 0 rfl) ?_
  refine g_get (v := .int v1) E h 1 rfl rfl layX6 4 (by decide) rfl mw_33 rfl dX6_scan_18 ?_
  refine g_put (v := .int v1) (ty := .int) (ws' := gws ad cI cZ (si (si σ 36 v1) 34 v1) τ) E h 1 rfl rfl layX6 tyX6 tyX6_ok nmX6 2 (by decide) rfl mw_31 rfl rfl rfl rfl (Nat.le_of_ble_eq_true rfl) (gi_34 ad cI cZ (si σ 36 v1) τ v1) dX6_scan_21 (fun H locs h => ?_)
  refine lv_aload_n hx hb dX6_scan_24 rfl (lv_at hl 0 rfl) ?_
  refine lv_iconst (v := 0) hx hb dX6_scan_25 (by decide) ?_
  refine g_put (v := .int (0 : Int32)) (ty := .int) (ws' := gws ad cI cZ (si (si (si σ 36 v1) 34 v1) 37 (0 : Int32)) τ) E h 1 rfl rfl layX6 tyX6 tyX6_ok nmX6 5 (by decide) rfl mw_34 rfl rfl rfl rfl (Nat.le_of_ble_eq_true rfl) (gi_37 ad cI cZ (si (si σ 36 v1) 34 v1) τ (0 : Int32)) dX6_scan_26 (fun H locs h => ?_)
  refine lv_aload_n hx hb dX6_scan_29 rfl (lv_at hl 0 rfl) ?_
  refine g_get (v := .int v1) E h 1 rfl rfl layX6 4 (by decide) rfl mw_33 rfl dX6_scan_30 ?_
  refine lv_if_lt (tgt := 57) hx hb dX6_scan_33 (by decide) (fun c3 => ?_) (fun c3 => ?_)
  · have ic3 : v1.toInt < 0 := i_lt c3
    have hF := (if_pos c3).symm.trans hF
    refine lv_aload_n hx hb dX6_scan_57 rfl (lv_at hl 0 rfl) ?_
    refine lv_iconst (v := 0) hx hb dX6_scan_58 (by decide) ?_
    refine g_put (v := .int (0 : Int32)) (ty := .int) (ws' := gws ad cI cZ (si (si (si (si σ 36 v1) 34 v1) 37 (0 : Int32)) 35 (0 : Int32)) τ) E h 1 rfl rfl layX6 tyX6 tyX6_ok nmX6 3 (by decide) rfl mw_32 rfl rfl rfl rfl (Nat.le_of_ble_eq_true rfl) (gi_35 ad cI cZ (si (si (si σ 36 v1) 34 v1) 37 (0 : Int32)) τ (0 : Int32)) dX6_scan_59 (fun H locs h => ?_)
    exact g_vret E hr hlk h hQ (congrArg (fun u => gws ad cI cZ u τ) hF) dX6_scan_62
  · have ic3 : 0 ≤ v1.toInt := i_nlt c3
    have hF := (if_neg c3).symm.trans hF
    refine lv_aload_n hx hb dX6_scan_36 rfl (lv_at hl 0 rfl) ?_
    refine g_get (v := .int v1) E h 1 rfl rfl layX6 4 (by decide) rfl mw_33 rfl dX6_scan_37 ?_
    refine lv_aload_n hx hb dX6_scan_40 rfl (lv_at hl 0 rfl) ?_
    refine g_get (v := .int (σ.1 33)) E h 1 rfl rfl layX6 1 (by decide) rfl mw_30 rfl dX6_scan_41 ?_
    refine lv_icmp_ge (tgt := 57) hx hb dX6_scan_44 (by decide) (fun c4 => ?_) (fun c4 => ?_)
    · have ic4 : (σ.1 33).toInt ≤ v1.toInt := i_le c4
      have hF := (if_pos c4).symm.trans hF
      refine lv_aload_n hx hb dX6_scan_57 rfl (lv_at hl 0 rfl) ?_
      refine lv_iconst (v := 0) hx hb dX6_scan_58 (by decide) ?_
      refine g_put (v := .int (0 : Int32)) (ty := .int) (ws' := gws ad cI cZ (si (si (si (si σ 36 v1) 34 v1) 37 (0 : Int32)) 35 (0 : Int32)) τ) E h 1 rfl rfl layX6 tyX6 tyX6_ok nmX6 3 (by decide) rfl mw_32 rfl rfl rfl rfl (Nat.le_of_ble_eq_true rfl) (gi_35 ad cI cZ (si (si (si σ 36 v1) 34 v1) 37 (0 : Int32)) τ (0 : Int32)) dX6_scan_59 (fun H locs h => ?_)
      exact g_vret E hr hlk h hQ (congrArg (fun u => gws ad cI cZ u τ) hF) dX6_scan_62
    · have ic4 : v1.toInt < (σ.1 33).toInt := i_nle c4
      have hF := (if_neg c4).symm.trans hF
      refine lv_aload_n hx hb dX6_scan_47 rfl (lv_at hl 0 rfl) ?_
      refine g_get (v := .int v1) E h 1 rfl rfl layX6 4 (by decide) rfl mw_33 rfl dX6_scan_48 ?_
      refine lv_sipush (v := 200) hx hb dX6_scan_51 (by decide) ?_
      refine lv_icmp_lt (tgt := 63) hx hb dX6_scan_54 (by decide) (fun c5 => ?_) (fun c5 => ?_)
      · have ic5 : v1.toInt < 200 := i_lt c5
        have hF := (if_pos c5).symm.trans hF
        refine lv_aload_n hx hb dX6_scan_63 rfl (lv_at hl 0 rfl) ?_
        refine g_get (v := .ref (ad 2)) E h 1 rfl rfl layX6 0 (by decide) rfl mw_29 rfl dX6_scan_64 ?_
        refine lv_aload_n hx hb dX6_scan_67 rfl (lv_at hl 0 rfl) ?_
        refine g_get (v := .int v1) E h 1 rfl rfl layX6 4 (by decide) rfl mw_33 rfl dX6_scan_68 ?_
        refine g_iald (f := (σ.2.1 2)) E h 2 rfl (ix_of (oI_at v1) (by omega) (by decide)) dX6_scan_71 ?_
        refine lv_istore_n (lv' := [(1, .int ((σ.2.1 2) v1.toNatClampNeg)), (0, .ref (ad 1))]) hx hb dX6_scan_72 rfl hl (by decide) rfl (fun ls hl => ?_)
        refine lv_iload_n hx hb dX6_scan_73 rfl (lv_at hl 0 rfl) ?_
        refine lv_bipush (v := 48) hx hb dX6_scan_74 (by decide) ?_
        refine lv_bipush (v := 57) hx hb dX6_scan_76 (by decide) ?_
        refine g_callSNi (rest := []) E h (c_X8_within l D cI cZ z (gws ad cI cZ (si (si (si σ 36 v1) 34 v1) 37 (0 : Int32)) τ) ((σ.2.1 2) v1.toNatClampNeg) (48 : Int32) (57 : Int32)) nm_RX6_35 cbX8_within ⟨by decide, by decide⟩ rfl rfl hl.1 (Nat.le_of_ble_eq_true rfl) ⟨Nat.zero_le _, Nat.zero_le _⟩ dX6_scan_78 (fun H locs h => ?_)
        refine lv_if_eq (tgt := 118) hx hb dX6_scan_81 (by decide) (fun c6 => ?_) (fun c6 => ?_)
        · have ic6 : (F_X8_within ((σ.2.1 2) v1.toNatClampNeg) (48 : Int32) (57 : Int32)).toInt = 0 := i_eq c6
          have hF := (if_pos c6).symm.trans hF
          refine lv_iload_n hx hb dX6_scan_118 rfl (lv_at hl 0 rfl) ?_
          refine lv_bipush (v := 97) hx hb dX6_scan_119 (by decide) ?_
          refine lv_bipush (v := 122) hx hb dX6_scan_121 (by decide) ?_
          refine g_callSNi (rest := []) E h (c_X8_within l D cI cZ z (gws ad cI cZ (si (si (si σ 36 v1) 34 v1) 37 (0 : Int32)) τ) ((σ.2.1 2) v1.toNatClampNeg) (97 : Int32) (122 : Int32)) nm_RX6_35 cbX8_within ⟨by decide, by decide⟩ rfl rfl hl.1 (Nat.le_of_ble_eq_true rfl) ⟨Nat.zero_le _, Nat.zero_le _⟩ dX6_scan_123 (fun H locs h => ?_)
          refine lv_if_eq (tgt := 175) hx hb dX6_scan_126 (by decide) (fun c7 => ?_) (fun c7 => ?_)
          · have ic7 : (F_X8_within ((σ.2.1 2) v1.toNatClampNeg) (97 : Int32) (122 : Int32)).toInt = 0 := i_eq c7
            have hF := (if_pos c7).symm.trans hF
            refine lv_aload_n hx hb dX6_scan_175 rfl (lv_at hl 1 rfl) ?_
            refine lv_aload_n hx hb dX6_scan_176 rfl (lv_at hl 1 rfl) ?_
            refine g_get (v := .int v1) E h 1 rfl rfl layX6 4 (by decide) rfl mw_33 rfl dX6_scan_177 ?_
            refine lv_iconst (v := 1) hx hb dX6_scan_180 (by decide) ?_
            refine lv_iadd hx hb dX6_scan_181 ?_
            refine g_put (v := .int (v1 + (1 : Int32))) (ty := .int) (ws' := gws ad cI cZ (si (si (si (si σ 36 v1) 34 v1) 37 (0 : Int32)) 34 (v1 + (1 : Int32))) τ) E h 1 rfl rfl layX6 tyX6 tyX6_ok nmX6 2 (by decide) rfl mw_31 rfl rfl rfl rfl (Nat.le_of_ble_eq_true rfl) (gi_34 ad cI cZ (si (si (si σ 36 v1) 34 v1) 37 (0 : Int32)) τ (v1 + (1 : Int32))) dX6_scan_182 (fun H locs h => ?_)
            refine lv_aload_n hx hb dX6_scan_185 rfl (lv_at hl 1 rfl) ?_
            refine lv_iload_n hx hb dX6_scan_186 rfl (lv_at hl 0 rfl) ?_
            refine lv_bipush (v := 59) hx hb dX6_scan_187 (by decide) ?_
            refine lv_icmp_ne (tgt := 196) hx hb dX6_scan_189 (by decide) (fun c8 => ?_) (fun c8 => ?_)
            · have ic8 : ((σ.2.1 2) v1.toNatClampNeg).toInt ≠ 59 := i_ne c8
              have hF := (if_neg c8).symm.trans hF
              refine lv_iconst (v := 4) hx hb dX6_scan_196 (by decide) ?_
              refine g_put (v := .int (4 : Int32)) (ty := .int) (ws' := gws ad cI cZ (si (si (si (si (si σ 36 v1) 34 v1) 37 (0 : Int32)) 34 (v1 + (1 : Int32))) 35 (4 : Int32)) τ) E h 1 rfl rfl layX6 tyX6 tyX6_ok nmX6 3 (by decide) rfl mw_32 rfl rfl rfl rfl (Nat.le_of_ble_eq_true rfl) (gi_35 ad cI cZ (si (si (si (si σ 36 v1) 34 v1) 37 (0 : Int32)) 34 (v1 + (1 : Int32))) τ (4 : Int32)) dX6_scan_197 (fun H locs h => ?_)
              exact g_vret E hr hlk h hQ (congrArg (fun u => gws ad cI cZ u τ) hF) dX6_scan_200
            · have ic8 : ((σ.2.1 2) v1.toNatClampNeg).toInt = 59 := i_eq c8
              have hF := (if_pos c8).symm.trans hF
              refine lv_iconst (v := 3) hx hb dX6_scan_192 (by decide) ?_
              refine lv_goto (tgt := 197) hx hb dX6_scan_193 (by decide) ?_
              refine g_put (v := .int (3 : Int32)) (ty := .int) (ws' := gws ad cI cZ (si (si (si (si (si σ 36 v1) 34 v1) 37 (0 : Int32)) 34 (v1 + (1 : Int32))) 35 (3 : Int32)) τ) E h 1 rfl rfl layX6 tyX6 tyX6_ok nmX6 3 (by decide) rfl mw_32 rfl rfl rfl rfl (Nat.le_of_ble_eq_true rfl) (gi_35 ad cI cZ (si (si (si (si σ 36 v1) 34 v1) 37 (0 : Int32)) 34 (v1 + (1 : Int32))) τ (3 : Int32)) dX6_scan_197 (fun H locs h => ?_)
              exact g_vret E hr hlk h hQ (congrArg (fun u => gws ad cI cZ u τ) hF) dX6_scan_200
          · have ic7 : (F_X8_within ((σ.2.1 2) v1.toNatClampNeg) (97 : Int32) (122 : Int32)).toInt ≠ 0 := i_ne c7
            have jc7 : 97 ≤ ((σ.2.1 2) v1.toNatClampNeg).toInt ∧ ((σ.2.1 2) v1.toNatClampNeg).toInt ≤ 122 := fz_within c7
            have hF := (if_neg c7).symm.trans hF
            refine lv_aload_n hx hb dX6_scan_129 rfl (lv_at hl 1 rfl) ?_
            refine lv_aload_n hx hb dX6_scan_130 rfl (lv_at hl 1 rfl) ?_
            refine lv_aload_n hx hb dX6_scan_131 rfl (lv_at hl 1 rfl) ?_
            refine g_get (v := .int v1) E h 1 rfl rfl layX6 4 (by decide) rfl mw_33 rfl dX6_scan_132 ?_
            refine lv_bipush (v := 97) hx hb dX6_scan_135 (by decide) ?_
            refine lv_bipush (v := 122) hx hb dX6_scan_137 (by decide) ?_
            refine g_callVh (F_X6_endOfRow (si (si (si σ 36 v1) 34 v1) 37 (0 : Int32)) v1 (97 : Int32) (122 : Int32)) (rest := [.ref (ad 1)]) E h (c_X6_endOfRow l D cI cZ z ad (si (si (si σ 36 v1) 34 v1) 37 (0 : Int32)) τ v1 (97 : Int32) (122 : Int32)) mw_285 cbX6_endOfRow 1 rfl rfl ⟨by decide, by decide⟩ rfl rfl hl.1 (Nat.le_of_ble_eq_true rfl) ⟨Nat.zero_le _, Nat.zero_le _⟩ dX6_scan_139 (fun v9 huv9 H locs h => ?_)
            have hF : F_X6_scan_k139_10 σ v1 v9 = (F_X6_scan σ) := by rw [← huv9]; exact hF
            refine g_put (v := .int v9) (ty := .int) (ws' := gws ad cI cZ (si (si (si (si σ 36 v1) 34 v1) 37 (0 : Int32)) 34 v9) τ) E h 1 rfl rfl layX6 tyX6 tyX6_ok nmX6 2 (by decide) rfl mw_31 rfl rfl rfl rfl (Nat.le_of_ble_eq_true rfl) (gi_34 ad cI cZ (si (si (si σ 36 v1) 34 v1) 37 (0 : Int32)) τ v9) dX6_scan_142 (fun H locs h => ?_)
            refine lv_aload_n hx hb dX6_scan_145 rfl (lv_at hl 1 rfl) ?_
            refine lv_iconst (v := 1) hx hb dX6_scan_146 (by decide) ?_
            refine g_put (v := .int (1 : Int32)) (ty := .int) (ws' := gws ad cI cZ (si (si (si (si (si σ 36 v1) 34 v1) 37 (0 : Int32)) 34 v9) 35 (1 : Int32)) τ) E h 1 rfl rfl layX6 tyX6 tyX6_ok nmX6 3 (by decide) rfl mw_32 rfl rfl rfl rfl (Nat.le_of_ble_eq_true rfl) (gi_35 ad cI cZ (si (si (si (si σ 36 v1) 34 v1) 37 (0 : Int32)) 34 v9) τ (1 : Int32)) dX6_scan_147 (fun H locs h => ?_)
            refine lv_aload_n hx hb dX6_scan_150 rfl (lv_at hl 1 rfl) ?_
            refine lv_aload_n hx hb dX6_scan_151 rfl (lv_at hl 1 rfl) ?_
            refine g_get (v := .int v9) E h 1 rfl rfl layX6 2 (by decide) rfl mw_31 rfl dX6_scan_152 ?_
            refine lv_aload_n hx hb dX6_scan_155 rfl (lv_at hl 1 rfl) ?_
            refine g_get (v := .int v1) E h 1 rfl rfl layX6 4 (by decide) rfl mw_33 rfl dX6_scan_156 ?_
            refine lv_isub hx hb dX6_scan_159 ?_
            refine lv_iconst (v := 1) hx hb dX6_scan_160 (by decide) ?_
            refine lv_icmp_ne (tgt := 168) hx hb dX6_scan_161 (by decide) (fun c11 => ?_) (fun c11 => ?_)
            · have ic11 : (v9 - v1).toInt ≠ 1 := i_ne c11
              have hF := (if_neg c11).symm.trans hF
              refine lv_iconst (v := 0) hx hb dX6_scan_168 (by decide) ?_
              refine g_put (v := .int (0 : Int32)) (ty := .int) (ws' := gws ad cI cZ (si (si (si (si (si (si σ 36 v1) 34 v1) 37 (0 : Int32)) 34 v9) 35 (1 : Int32)) 37 (0 : Int32)) τ) E h 1 rfl rfl layX6 tyX6 tyX6_ok nmX6 5 (by decide) rfl mw_34 rfl rfl rfl rfl (Nat.le_of_ble_eq_true rfl) (gi_37 ad cI cZ (si (si (si (si (si σ 36 v1) 34 v1) 37 (0 : Int32)) 34 v9) 35 (1 : Int32)) τ (0 : Int32)) dX6_scan_169 (fun H locs h => ?_)
              refine lv_goto (tgt := 200) hx hb dX6_scan_172 (by decide) ?_
              exact g_vret E hr hlk h hQ (congrArg (fun u => gws ad cI cZ u τ) hF) dX6_scan_200
            · have ic11 : (v9 - v1).toInt = 1 := i_eq c11
              have hF := (if_pos c11).symm.trans hF
              refine lv_iload_n hx hb dX6_scan_164 rfl (lv_at hl 0 rfl) ?_
              refine lv_goto (tgt := 169) hx hb dX6_scan_165 (by decide) ?_
              refine g_put (v := .int ((σ.2.1 2) v1.toNatClampNeg)) (ty := .int) (ws' := gws ad cI cZ (si (si (si (si (si (si σ 36 v1) 34 v1) 37 (0 : Int32)) 34 v9) 35 (1 : Int32)) 37 ((σ.2.1 2) v1.toNatClampNeg)) τ) E h 1 rfl rfl layX6 tyX6 tyX6_ok nmX6 5 (by decide) rfl mw_34 rfl rfl rfl rfl (Nat.le_of_ble_eq_true rfl) (gi_37 ad cI cZ (si (si (si (si (si σ 36 v1) 34 v1) 37 (0 : Int32)) 34 v9) 35 (1 : Int32)) τ ((σ.2.1 2) v1.toNatClampNeg)) dX6_scan_169 (fun H locs h => ?_)
              refine lv_goto (tgt := 200) hx hb dX6_scan_172 (by decide) ?_
              exact g_vret E hr hlk h hQ (congrArg (fun u => gws ad cI cZ u τ) hF) dX6_scan_200
        · have ic6 : (F_X8_within ((σ.2.1 2) v1.toNatClampNeg) (48 : Int32) (57 : Int32)).toInt ≠ 0 := i_ne c6
          have jc6 : 48 ≤ ((σ.2.1 2) v1.toNatClampNeg).toInt ∧ ((σ.2.1 2) v1.toNatClampNeg).toInt ≤ 57 := fz_within c6
          have hF := (if_neg c6).symm.trans hF
          refine lv_aload_n hx hb dX6_scan_84 rfl (lv_at hl 1 rfl) ?_
          refine lv_aload_n hx hb dX6_scan_85 rfl (lv_at hl 1 rfl) ?_
          refine lv_aload_n hx hb dX6_scan_86 rfl (lv_at hl 1 rfl) ?_
          refine g_get (v := .int v1) E h 1 rfl rfl layX6 4 (by decide) rfl mw_33 rfl dX6_scan_87 ?_
          refine lv_bipush (v := 48) hx hb dX6_scan_90 (by decide) ?_
          refine lv_bipush (v := 57) hx hb dX6_scan_92 (by decide) ?_
          refine g_callVh (F_X6_endOfRow (si (si (si σ 36 v1) 34 v1) 37 (0 : Int32)) v1 (48 : Int32) (57 : Int32)) (rest := [.ref (ad 1)]) E h (c_X6_endOfRow l D cI cZ z ad (si (si (si σ 36 v1) 34 v1) 37 (0 : Int32)) τ v1 (48 : Int32) (57 : Int32)) mw_285 cbX6_endOfRow 1 rfl rfl ⟨by decide, by decide⟩ rfl rfl hl.1 (Nat.le_of_ble_eq_true rfl) ⟨Nat.zero_le _, Nat.zero_le _⟩ dX6_scan_94 (fun v12 huv12 H locs h => ?_)
          have hF : F_X6_scan_k94_13 σ v1 v12 = (F_X6_scan σ) := by rw [← huv12]; exact hF
          refine g_put (v := .int v12) (ty := .int) (ws' := gws ad cI cZ (si (si (si (si σ 36 v1) 34 v1) 37 (0 : Int32)) 34 v12) τ) E h 1 rfl rfl layX6 tyX6 tyX6_ok nmX6 2 (by decide) rfl mw_31 rfl rfl rfl rfl (Nat.le_of_ble_eq_true rfl) (gi_34 ad cI cZ (si (si (si σ 36 v1) 34 v1) 37 (0 : Int32)) τ v12) dX6_scan_97 (fun H locs h => ?_)
          refine lv_aload_n hx hb dX6_scan_100 rfl (lv_at hl 1 rfl) ?_
          refine lv_iload_n hx hb dX6_scan_101 rfl (lv_at hl 0 rfl) ?_
          refine lv_bipush (v := 48) hx hb dX6_scan_102 (by decide) ?_
          refine g_dia (D := D) (z := z) (ws := gws ad cI cZ (si (si (si (si σ 36 v1) 34 v1) 37 (0 : Int32)) 34 v12) τ) (rest := [.ref (ad 1)]) 112 (if ((σ.2.1 2) v1.toNatClampNeg) = (48 : Int32) then (1 : Int32) else (0 : Int32)) (fun H locs h => ?_) (fun K15 => ?_)
          · refine g_callVUv (F_X6_readNumber (si (si (si (si σ 36 v1) 34 v1) 37 (0 : Int32)) 34 v12) (if ((σ.2.1 2) v1.toNatClampNeg) = (48 : Int32) then (1 : Int32) else (0 : Int32))) (fun u => gws ad cI cZ u τ) (rest := []) E h (c_X6_readNumber l D cI cZ z ad (si (si (si (si σ 36 v1) 34 v1) 37 (0 : Int32)) 34 v12) τ (if ((σ.2.1 2) v1.toNatClampNeg) = (48 : Int32) then (1 : Int32) else (0 : Int32)) (show 0 ≤ v1.toInt from by omega)) mw_293 cbX6_readNumber 1 rfl rfl ⟨by decide, by decide⟩ rfl rfl hl.1 (Nat.le_of_ble_eq_true rfl) ⟨Nat.zero_le _, Nat.zero_le _⟩ dX6_scan_112 (fun u17 huu17 H locs h => ?_)
            have hF : F_X6_scan_k112_18 σ v1 v12 u17 = (F_X6_scan σ) := by rw [← huu17]; exact hF
            refine lv_goto (tgt := 200) hx hb dX6_scan_115 (by decide) ?_
            exact g_vret E hr hlk h hQ (congrArg (fun u => gws ad cI cZ u τ) hF) dX6_scan_200
          · refine lv_icmp_ne (tgt := 111) hx hb dX6_scan_104 (by decide) (fun c16 => ?_) (fun c16 => ?_)
            · have ic16 : ((σ.2.1 2) v1.toNatClampNeg).toInt ≠ 48 := i_ne c16
              refine lv_iconst (v := 0) hx hb dX6_scan_111 (by decide) ?_
              exact K15 _ _ _ ((if_neg c16).symm) h
            · have ic16 : ((σ.2.1 2) v1.toNatClampNeg).toInt = 48 := i_eq c16
              refine lv_iconst (v := 1) hx hb dX6_scan_107 (by decide) ?_
              refine lv_goto (tgt := 112) hx hb dX6_scan_108 (by decide) ?_
              exact K15 _ _ _ ((if_pos c16).symm) h
      · have ic5 : 200 ≤ v1.toInt := i_nlt c5
        have hF := (if_neg c5).symm.trans hF
        refine lv_aload_n hx hb dX6_scan_57 rfl (lv_at hl 0 rfl) ?_
        refine lv_iconst (v := 0) hx hb dX6_scan_58 (by decide) ?_
        refine g_put (v := .int (0 : Int32)) (ty := .int) (ws' := gws ad cI cZ (si (si (si (si σ 36 v1) 34 v1) 37 (0 : Int32)) 35 (0 : Int32)) τ) E h 1 rfl rfl layX6 tyX6 tyX6_ok nmX6 3 (by decide) rfl mw_32 rfl rfl rfl rfl (Nat.le_of_ble_eq_true rfl) (gi_35 ad cI cZ (si (si (si σ 36 v1) 34 v1) 37 (0 : Int32)) τ (0 : Int32)) dX6_scan_59 (fun H locs h => ?_)
        exact g_vret E hr hlk h hQ (congrArg (fun u => gws ad cI cZ u τ) hF) dX6_scan_62
