def F_J7_fill_53178_23_L5 : Nat → St → Int32 → Int32 → St → St
  | 0, _, _, _, m5 => m5
  | n + 1, σ, a2, x2_5, m5 => (if (74 : Int32) ≤ x2_5 then m5 else (F_J7_fill_53178_23_L5  n σ a2 (x2_5 + (1 : Int32)) (sa m5 23 (upd (m5.2.1 23) x2_5.toNatClampNeg a2))))
def F_J7_fill_53178_23 (σ : St) (a2 : Int32) : St := (F_J7_fill_53178_23_L5  75 σ a2 (0 : Int32) σ)
abbrev I_J7_fill_53178_23 : List Nat := []
abbrev A_J7_fill_53178_23 : List Nat := [23]
theorem fr_F_J7_fill_53178_23_L5_w (σ : St) (a2 : Int32) : ∀ (n : Nat) (x2_5 : Int32) (m5 : St), Fr I_J7_fill_53178_23 A_J7_fill_53178_23 false σ m5 → Fr I_J7_fill_53178_23 A_J7_fill_53178_23 false σ (F_J7_fill_53178_23_L5  n σ a2 x2_5 m5)
  | 0, x2_5, m5, hfr => hfr
  | n + 1, x2_5, m5, hfr => (fr_ite1 hfr ((fun y1 y2 hy => fr_F_J7_fill_53178_23_L5_w  σ a2  n y1 y2 hy) (x2_5 + (1 : Int32)) (sa m5 23 (upd (m5.2.1 23) x2_5.toNatClampNeg a2)) (Fr.sa (by decide) hfr)))
theorem fr_F_J7_fill_53178_23_L5 (n : Nat) (σ : St) (a2 : Int32) (x2_5 : Int32) (m5 : St) (hfr : Fr I_J7_fill_53178_23 A_J7_fill_53178_23 false σ (m5)) : Fr I_J7_fill_53178_23 A_J7_fill_53178_23 false σ (F_J7_fill_53178_23_L5  n σ a2 x2_5 m5) := fr_F_J7_fill_53178_23_L5_w  σ a2  n x2_5 m5 hfr
theorem fr_F_J7_fill_53178_23 (σ : St) (a2 : Int32) : Fr I_J7_fill_53178_23 A_J7_fill_53178_23 false σ (F_J7_fill_53178_23 σ a2) := (fr_F_J7_fill_53178_23_L5  75 σ a2 (0 : Int32) σ Fr.rf)
set_option maxHeartbeats 4000000 in
set_option maxRecDepth 20000 in
theorem c_J7_fill_53178_23 (l : Launch) (D : va_G) (cI cZ : ClassId) (z : Nat) (ad : Nat → Nat) (σ τ : St) (a2 : Int32) : gM l yJ7_fill_53178 cJ7_fill_53178 4 none 1 D cI cZ z (gws ad cI cZ σ τ) [.ref (ad 23), .int a2] none (gws ad cI cZ (F_J7_fill_53178_23 σ a2) τ) := by
  refine g_met (own := RJ7) (by decide) rfl (Nat.le_of_ble_eq_true rfl) (fun p e s m below meth c ls Q E hr hlk h hl hQ => ?_)
  have hx := E.1
  have hb := E.2.1
  have hF : (F_J7_fill_53178_23 σ a2) = (F_J7_fill_53178_23 σ a2) := rfl
  have hl : lv_has ls 4 [(0, .ref (ad 23)), (1, .int a2)] := hl
  refine lv_iconst (v := 0) hx hb dJ7_fill_53178_0 (by decide) ?_
  refine lv_istore_n (lv' := [(2, .int (0 : Int32)), (0, .ref (ad 23)), (1, .int a2)]) hx hb dJ7_fill_53178_1 rfl hl (by decide) rfl (fun ls hl => ?_)
  refine lv_aload_n hx hb dJ7_fill_53178_2 rfl (lv_at hl 1 rfl) ?_
  refine g_alen (v := 74) (f := (σ.2.1 23)) E h 23 rfl (by decide) dJ7_fill_53178_3 ?_
  refine lv_istore_n (lv' := [(3, .int (74 : Int32)), (2, .int (0 : Int32)), (0, .ref (ad 23)), (1, .int a2)]) hx hb dJ7_fill_53178_4 rfl hl (by decide) rfl (fun ls hl => ?_)
  have L5 : ∀ (n5 : Nat) (x2_5 : Int32) (m5 : St) (H : Heap) (locs : List Loc) (ls : Array Slot), (0 ≤ x2_5.toInt ∧ x2_5.toInt ≤ 74 ∧ x2_5.toInt + n5 = 75) → F_J7_fill_53178_23_L5  n5 σ a2 x2_5 m5 = (F_J7_fill_53178_23 σ a2) → gH D z s (gws ad cI cZ m5 τ) H locs → lv_has ls 4 [(3, .int (74 : Int32)), (2, .int x2_5), (0, .ref (ad 23)), (1, .int a2)] → W p l e (rmH 1) s m ([.ref (ad 23), .int a2] : List Value).toArray below meth c H locs 0 0 Q (F0 m 5 ls []) := by
    clear hF h hl
    intro n5
    induction n5 with
    | zero =>
      intro x2_5 m5 H locs ls hI
      exact absurd hI (by omega)
    | succ n5 ih5 =>
      intro x2_5 m5 H locs ls hI5 hF h hl
      refine lv_iload_n hx hb dJ7_fill_53178_5 rfl (lv_at hl 1 rfl) ?_
      refine lv_iload_n hx hb dJ7_fill_53178_6 rfl (lv_at hl 0 rfl) ?_
      refine lv_icmp_ge (tgt := 20) hx hb dJ7_fill_53178_7 (by decide) (fun c2 => ?_) (fun c2 => ?_)
      · have ic2 : 74 ≤ x2_5.toInt := i_le c2
        have hF := (if_pos c2).symm.trans hF
        exact g_vret E hr hlk h hQ (congrArg (fun u => gws ad cI cZ u τ) hF) dJ7_fill_53178_20
      · have ic2 : x2_5.toInt < 74 := i_nle c2
        have hF := (if_neg c2).symm.trans hF
        refine lv_aload_n hx hb dJ7_fill_53178_10 rfl (lv_at hl 2 rfl) ?_
        refine lv_iload_n hx hb dJ7_fill_53178_11 rfl (lv_at hl 1 rfl) ?_
        refine lv_iload_n hx hb dJ7_fill_53178_12 rfl (lv_at hl 3 rfl) ?_
        refine g_iast (f := (m5.2.1 23)) (ws' := gws ad cI cZ (sa m5 23 (upd (m5.2.1 23) x2_5.toNatClampNeg a2)) τ) E h 23 rfl (ix_of (oI_at x2_5) (by omega) (by decide)) (ga_23 ad cI cZ m5 τ (upd (m5.2.1 23) x2_5.toNatClampNeg a2)) dJ7_fill_53178_13 (fun H locs h => ?_)
        refine lv_iinc (v := (x2_5 + (1 : Int32))) (lv' := [(2, .int (x2_5 + (1 : Int32))), (3, .int (74 : Int32)), (0, .ref (ad 23)), (1, .int a2)]) hx hb dJ7_fill_53178_14 hl (k := 1) rfl rfl (by decide) rfl (fun ls hl => ?_)
        refine lv_goto (tgt := 5) hx hb dJ7_fill_53178_17 (by decide) ?_
        have e5_2 : (x2_5 + (1 : Int32)).toInt = _ := ti_of (oI_add (oI_at x2_5) (oI_lit (x := 1) (a := 1) rfl)) (by omega)
        exact ih5 (x2_5 + (1 : Int32)) (sa m5 23 (upd (m5.2.1 23) x2_5.toNatClampNeg a2)) _ _ ls ((show 0 ≤ (x2_5 + (1 : Int32)).toInt ∧ (x2_5 + (1 : Int32)).toInt ≤ 74 ∧ (x2_5 + (1 : Int32)).toInt + n5 = 75 from by omega)) hF h (lv_sub hl [1, 0, 2, 3] rfl)
  have q5_2 : (0 : Int32).toInt = 0 := rfl
  exact L5 75 (0 : Int32) σ _ _ ls ((show 0 ≤ (0 : Int32).toInt ∧ (0 : Int32).toInt ≤ 74 ∧ (0 : Int32).toInt + (75 : Nat) = 75 from by omega)) hF h (lv_sub hl [0, 1, 2, 3] rfl)

def F_J7_fill_53178_44_L5 : Nat → St → Int32 → Int32 → St → St
  | 0, _, _, _, m5 => m5
  | n + 1, σ, a2, x2_5, m5 => (if (6 : Int32) ≤ x2_5 then m5 else (F_J7_fill_53178_44_L5  n σ a2 (x2_5 + (1 : Int32)) (sa m5 44 (upd (m5.2.1 44) x2_5.toNatClampNeg a2))))
def F_J7_fill_53178_44 (σ : St) (a2 : Int32) : St := (F_J7_fill_53178_44_L5  7 σ a2 (0 : Int32) σ)
abbrev I_J7_fill_53178_44 : List Nat := []
abbrev A_J7_fill_53178_44 : List Nat := [44]
theorem fr_F_J7_fill_53178_44_L5_w (σ : St) (a2 : Int32) : ∀ (n : Nat) (x2_5 : Int32) (m5 : St), Fr I_J7_fill_53178_44 A_J7_fill_53178_44 false σ m5 → Fr I_J7_fill_53178_44 A_J7_fill_53178_44 false σ (F_J7_fill_53178_44_L5  n σ a2 x2_5 m5)
  | 0, x2_5, m5, hfr => hfr
  | n + 1, x2_5, m5, hfr => (fr_ite1 hfr ((fun y1 y2 hy => fr_F_J7_fill_53178_44_L5_w  σ a2  n y1 y2 hy) (x2_5 + (1 : Int32)) (sa m5 44 (upd (m5.2.1 44) x2_5.toNatClampNeg a2)) (Fr.sa (by decide) hfr)))
theorem fr_F_J7_fill_53178_44_L5 (n : Nat) (σ : St) (a2 : Int32) (x2_5 : Int32) (m5 : St) (hfr : Fr I_J7_fill_53178_44 A_J7_fill_53178_44 false σ (m5)) : Fr I_J7_fill_53178_44 A_J7_fill_53178_44 false σ (F_J7_fill_53178_44_L5  n σ a2 x2_5 m5) := fr_F_J7_fill_53178_44_L5_w  σ a2  n x2_5 m5 hfr
theorem fr_F_J7_fill_53178_44 (σ : St) (a2 : Int32) : Fr I_J7_fill_53178_44 A_J7_fill_53178_44 false σ (F_J7_fill_53178_44 σ a2) := (fr_F_J7_fill_53178_44_L5  7 σ a2 (0 : Int32) σ Fr.rf)
set_option maxHeartbeats 4000000 in
set_option maxRecDepth 20000 in
theorem c_J7_fill_53178_44 (l : Launch) (D : va_G) (cI cZ : ClassId) (z : Nat) (ad : Nat → Nat) (σ τ : St) (a2 : Int32) : gM l yJ7_fill_53178 cJ7_fill_53178 4 none 1 D cI cZ z (gws ad cI cZ σ τ) [.ref (ad 44), .int a2] none (gws ad cI cZ (F_J7_fill_53178_44 σ a2) τ) := by
  refine g_met (own := RJ7) (by decide) rfl (Nat.le_of_ble_eq_true rfl) (fun p e s m below meth c ls Q E hr hlk h hl hQ => ?_)
  have hx := E.1
  have hb := E.2.1
  have hF : (F_J7_fill_53178_44 σ a2) = (F_J7_fill_53178_44 σ a2) := rfl
  have hl : lv_has ls 4 [(0, .ref (ad 44)), (1, .int a2)] := hl
  refine lv_iconst (v := 0) hx hb dJ7_fill_53178_0 (by decide) ?_
  refine lv_istore_n (lv' := [(2, .int (0 : Int32)), (0, .ref (ad 44)), (1, .int a2)]) hx hb dJ7_fill_53178_1 rfl hl (by decide) rfl (fun ls hl => ?_)
  refine lv_aload_n hx hb dJ7_fill_53178_2 rfl (lv_at hl 1 rfl) ?_
  refine g_alen (v := 6) (f := (σ.2.1 44)) E h 44 rfl (by decide) dJ7_fill_53178_3 ?_
  refine lv_istore_n (lv' := [(3, .int (6 : Int32)), (2, .int (0 : Int32)), (0, .ref (ad 44)), (1, .int a2)]) hx hb dJ7_fill_53178_4 rfl hl (by decide) rfl (fun ls hl => ?_)
  have L5 : ∀ (n5 : Nat) (x2_5 : Int32) (m5 : St) (H : Heap) (locs : List Loc) (ls : Array Slot), (0 ≤ x2_5.toInt ∧ x2_5.toInt ≤ 6 ∧ x2_5.toInt + n5 = 7) → F_J7_fill_53178_44_L5  n5 σ a2 x2_5 m5 = (F_J7_fill_53178_44 σ a2) → gH D z s (gws ad cI cZ m5 τ) H locs → lv_has ls 4 [(3, .int (6 : Int32)), (2, .int x2_5), (0, .ref (ad 44)), (1, .int a2)] → W p l e (rmH 1) s m ([.ref (ad 44), .int a2] : List Value).toArray below meth c H locs 0 0 Q (F0 m 5 ls []) := by
    clear hF h hl
    intro n5
    induction n5 with
    | zero =>
      intro x2_5 m5 H locs ls hI
      exact absurd hI (by omega)
    | succ n5 ih5 =>
      intro x2_5 m5 H locs ls hI5 hF h hl
      refine lv_iload_n hx hb dJ7_fill_53178_5 rfl (lv_at hl 1 rfl) ?_
      refine lv_iload_n hx hb dJ7_fill_53178_6 rfl (lv_at hl 0 rfl) ?_
      refine lv_icmp_ge (tgt := 20) hx hb dJ7_fill_53178_7 (by decide) (fun c2 => ?_) (fun c2 => ?_)
      · have ic2 : 6 ≤ x2_5.toInt := i_le c2
        have hF := (if_pos c2).symm.trans hF
        exact g_vret E hr hlk h hQ (congrArg (fun u => gws ad cI cZ u τ) hF) dJ7_fill_53178_20
      · have ic2 : x2_5.toInt < 6 := i_nle c2
        have hF := (if_neg c2).symm.trans hF
        refine lv_aload_n hx hb dJ7_fill_53178_10 rfl (lv_at hl 2 rfl) ?_
        refine lv_iload_n hx hb dJ7_fill_53178_11 rfl (lv_at hl 1 rfl) ?_
        refine lv_iload_n hx hb dJ7_fill_53178_12 rfl (lv_at hl 3 rfl) ?_
        refine g_iast (f := (m5.2.1 44)) (ws' := gws ad cI cZ (sa m5 44 (upd (m5.2.1 44) x2_5.toNatClampNeg a2)) τ) E h 44 rfl (ix_of (oI_at x2_5) (by omega) (by decide)) (ga_44 ad cI cZ m5 τ (upd (m5.2.1 44) x2_5.toNatClampNeg a2)) dJ7_fill_53178_13 (fun H locs h => ?_)
        refine lv_iinc (v := (x2_5 + (1 : Int32))) (lv' := [(2, .int (x2_5 + (1 : Int32))), (3, .int (6 : Int32)), (0, .ref (ad 44)), (1, .int a2)]) hx hb dJ7_fill_53178_14 hl (k := 1) rfl rfl (by decide) rfl (fun ls hl => ?_)
        refine lv_goto (tgt := 5) hx hb dJ7_fill_53178_17 (by decide) ?_
        have e5_2 : (x2_5 + (1 : Int32)).toInt = _ := ti_of (oI_add (oI_at x2_5) (oI_lit (x := 1) (a := 1) rfl)) (by omega)
        exact ih5 (x2_5 + (1 : Int32)) (sa m5 44 (upd (m5.2.1 44) x2_5.toNatClampNeg a2)) _ _ ls ((show 0 ≤ (x2_5 + (1 : Int32)).toInt ∧ (x2_5 + (1 : Int32)).toInt ≤ 6 ∧ (x2_5 + (1 : Int32)).toInt + n5 = 7 from by omega)) hF h (lv_sub hl [1, 0, 2, 3] rfl)
  have q5_2 : (0 : Int32).toInt = 0 := rfl
  exact L5 7 (0 : Int32) σ _ _ ls ((show 0 ≤ (0 : Int32).toInt ∧ (0 : Int32).toInt ≤ 6 ∧ (0 : Int32).toInt + (7 : Nat) = 7 from by omega)) hF h (lv_sub hl [0, 1, 2, 3] rfl)

def F_J6_bitCount_0f7a4 (a1 : Int32) : Int32 := ((((((((a1 - (((a1.toUInt32 >>> ((1 : Int32).toUInt32 &&& Int32.toUInt32 31)).toInt32) &&& (1431655765 : Int32))) &&& (858993459 : Int32)) + ((((a1 - (((a1.toUInt32 >>> ((1 : Int32).toUInt32 &&& Int32.toUInt32 31)).toInt32) &&& (1431655765 : Int32))).toUInt32 >>> ((2 : Int32).toUInt32 &&& Int32.toUInt32 31)).toInt32) &&& (858993459 : Int32))) + (((((a1 - (((a1.toUInt32 >>> ((1 : Int32).toUInt32 &&& Int32.toUInt32 31)).toInt32) &&& (1431655765 : Int32))) &&& (858993459 : Int32)) + ((((a1 - (((a1.toUInt32 >>> ((1 : Int32).toUInt32 &&& Int32.toUInt32 31)).toInt32) &&& (1431655765 : Int32))).toUInt32 >>> ((2 : Int32).toUInt32 &&& Int32.toUInt32 31)).toInt32) &&& (858993459 : Int32))).toUInt32 >>> ((4 : Int32).toUInt32 &&& Int32.toUInt32 31)).toInt32)) &&& (252645135 : Int32)) + (((((((a1 - (((a1.toUInt32 >>> ((1 : Int32).toUInt32 &&& Int32.toUInt32 31)).toInt32) &&& (1431655765 : Int32))) &&& (858993459 : Int32)) + ((((a1 - (((a1.toUInt32 >>> ((1 : Int32).toUInt32 &&& Int32.toUInt32 31)).toInt32) &&& (1431655765 : Int32))).toUInt32 >>> ((2 : Int32).toUInt32 &&& Int32.toUInt32 31)).toInt32) &&& (858993459 : Int32))) + (((((a1 - (((a1.toUInt32 >>> ((1 : Int32).toUInt32 &&& Int32.toUInt32 31)).toInt32) &&& (1431655765 : Int32))) &&& (858993459 : Int32)) + ((((a1 - (((a1.toUInt32 >>> ((1 : Int32).toUInt32 &&& Int32.toUInt32 31)).toInt32) &&& (1431655765 : Int32))).toUInt32 >>> ((2 : Int32).toUInt32 &&& Int32.toUInt32 31)).toInt32) &&& (858993459 : Int32))).toUInt32 >>> ((4 : Int32).toUInt32 &&& Int32.toUInt32 31)).toInt32)) &&& (252645135 : Int32)).toUInt32 >>> ((8 : Int32).toUInt32 &&& Int32.toUInt32 31)).toInt32)) + ((((((((a1 - (((a1.toUInt32 >>> ((1 : Int32).toUInt32 &&& Int32.toUInt32 31)).toInt32) &&& (1431655765 : Int32))) &&& (858993459 : Int32)) + ((((a1 - (((a1.toUInt32 >>> ((1 : Int32).toUInt32 &&& Int32.toUInt32 31)).toInt32) &&& (1431655765 : Int32))).toUInt32 >>> ((2 : Int32).toUInt32 &&& Int32.toUInt32 31)).toInt32) &&& (858993459 : Int32))) + (((((a1 - (((a1.toUInt32 >>> ((1 : Int32).toUInt32 &&& Int32.toUInt32 31)).toInt32) &&& (1431655765 : Int32))) &&& (858993459 : Int32)) + ((((a1 - (((a1.toUInt32 >>> ((1 : Int32).toUInt32 &&& Int32.toUInt32 31)).toInt32) &&& (1431655765 : Int32))).toUInt32 >>> ((2 : Int32).toUInt32 &&& Int32.toUInt32 31)).toInt32) &&& (858993459 : Int32))).toUInt32 >>> ((4 : Int32).toUInt32 &&& Int32.toUInt32 31)).toInt32)) &&& (252645135 : Int32)) + (((((((a1 - (((a1.toUInt32 >>> ((1 : Int32).toUInt32 &&& Int32.toUInt32 31)).toInt32) &&& (1431655765 : Int32))) &&& (858993459 : Int32)) + ((((a1 - (((a1.toUInt32 >>> ((1 : Int32).toUInt32 &&& Int32.toUInt32 31)).toInt32) &&& (1431655765 : Int32))).toUInt32 >>> ((2 : Int32).toUInt32 &&& Int32.toUInt32 31)).toInt32) &&& (858993459 : Int32))) + (((((a1 - (((a1.toUInt32 >>> ((1 : Int32).toUInt32 &&& Int32.toUInt32 31)).toInt32) &&& (1431655765 : Int32))) &&& (858993459 : Int32)) + ((((a1 - (((a1.toUInt32 >>> ((1 : Int32).toUInt32 &&& Int32.toUInt32 31)).toInt32) &&& (1431655765 : Int32))).toUInt32 >>> ((2 : Int32).toUInt32 &&& Int32.toUInt32 31)).toInt32) &&& (858993459 : Int32))).toUInt32 >>> ((4 : Int32).toUInt32 &&& Int32.toUInt32 31)).toInt32)) &&& (252645135 : Int32)).toUInt32 >>> ((8 : Int32).toUInt32 &&& Int32.toUInt32 31)).toInt32)).toUInt32 >>> ((16 : Int32).toUInt32 &&& Int32.toUInt32 31)).toInt32)) &&& (63 : Int32))
set_option maxHeartbeats 4000000 in
set_option maxRecDepth 20000 in
theorem c_J6_bitCount_0f7a4 (l : Launch) (D : va_G) (cI cZ : ClassId) (z : Nat) (ws : va_W) (a1 : Int32) : gM l yJ6_bitCount_0f7a4 cJ6_bitCount_0f7a4 1 (some .int) 1 D cI cZ z ws [.int a1] (some (.int (F_J6_bitCount_0f7a4 a1))) ws := by
  refine g_met (own := RJ6) (by decide) rfl (Nat.le_of_ble_eq_true rfl) (fun p e s m below meth c ls Q E hr hlk h hl hQ => ?_)
  have hx := E.1
  have hb := E.2.1
  have hF : (F_J6_bitCount_0f7a4 a1) = (F_J6_bitCount_0f7a4 a1) := rfl
  have hl : lv_has ls 1 [(0, .int a1)] := hl
  refine lv_iload_n hx hb dJ6_bitCount_0f7a4_0 rfl (lv_at hl 0 rfl) ?_
  refine lv_iload_n hx hb dJ6_bitCount_0f7a4_1 rfl (lv_at hl 0 rfl) ?_
  refine lv_iconst (v := 1) hx hb dJ6_bitCount_0f7a4_2 (by decide) ?_
  refine lv_iushr (v := (a1.toUInt32 >>> ((1 : Int32).toUInt32 &&& Int32.toUInt32 31)).toInt32) hx hb dJ6_bitCount_0f7a4_3 rfl ?_
  refine g_ldcw (v := 1431655765) E mw_632 dJ6_bitCount_0f7a4_4 ?_
  refine lv_iand hx hb dJ6_bitCount_0f7a4_7 ?_
  refine lv_isub hx hb dJ6_bitCount_0f7a4_8 ?_
  refine lv_istore_n (lv' := [(0, .int (a1 - (((a1.toUInt32 >>> ((1 : Int32).toUInt32 &&& Int32.toUInt32 31)).toInt32) &&& (1431655765 : Int32))))]) hx hb dJ6_bitCount_0f7a4_9 rfl hl (by decide) rfl (fun ls hl => ?_)
  refine lv_iload_n hx hb dJ6_bitCount_0f7a4_10 rfl (lv_at hl 0 rfl) ?_
  refine g_ldcw (v := 858993459) E mw_633 dJ6_bitCount_0f7a4_11 ?_
  refine lv_iand hx hb dJ6_bitCount_0f7a4_14 ?_
  refine lv_iload_n hx hb dJ6_bitCount_0f7a4_15 rfl (lv_at hl 0 rfl) ?_
  refine lv_iconst (v := 2) hx hb dJ6_bitCount_0f7a4_16 (by decide) ?_
  refine lv_iushr (v := ((a1 - (((a1.toUInt32 >>> ((1 : Int32).toUInt32 &&& Int32.toUInt32 31)).toInt32) &&& (1431655765 : Int32))).toUInt32 >>> ((2 : Int32).toUInt32 &&& Int32.toUInt32 31)).toInt32) hx hb dJ6_bitCount_0f7a4_17 rfl ?_
  refine g_ldcw (v := 858993459) E mw_633 dJ6_bitCount_0f7a4_18 ?_
  refine lv_iand hx hb dJ6_bitCount_0f7a4_21 ?_
  refine lv_iadd hx hb dJ6_bitCount_0f7a4_22 ?_
  refine lv_istore_n (lv' := [(0, .int (((a1 - (((a1.toUInt32 >>> ((1 : Int32).toUInt32 &&& Int32.toUInt32 31)).toInt32) &&& (1431655765 : Int32))) &&& (858993459 : Int32)) + ((((a1 - (((a1.toUInt32 >>> ((1 : Int32).toUInt32 &&& Int32.toUInt32 31)).toInt32) &&& (1431655765 : Int32))).toUInt32 >>> ((2 : Int32).toUInt32 &&& Int32.toUInt32 31)).toInt32) &&& (858993459 : Int32))))]) hx hb dJ6_bitCount_0f7a4_23 rfl hl (by decide) rfl (fun ls hl => ?_)
  refine lv_iload_n hx hb dJ6_bitCount_0f7a4_24 rfl (lv_at hl 0 rfl) ?_
  refine lv_iload_n hx hb dJ6_bitCount_0f7a4_25 rfl (lv_at hl 0 rfl) ?_
  refine lv_iconst (v := 4) hx hb dJ6_bitCount_0f7a4_26 (by decide) ?_
  refine lv_iushr (v := ((((a1 - (((a1.toUInt32 >>> ((1 : Int32).toUInt32 &&& Int32.toUInt32 31)).toInt32) &&& (1431655765 : Int32))) &&& (858993459 : Int32)) + ((((a1 - (((a1.toUInt32 >>> ((1 : Int32).toUInt32 &&& Int32.toUInt32 31)).toInt32) &&& (1431655765 : Int32))).toUInt32 >>> ((2 : Int32).toUInt32 &&& Int32.toUInt32 31)).toInt32) &&& (858993459 : Int32))).toUInt32 >>> ((4 : Int32).toUInt32 &&& Int32.toUInt32 31)).toInt32) hx hb dJ6_bitCount_0f7a4_27 rfl ?_
  refine lv_iadd hx hb dJ6_bitCount_0f7a4_28 ?_
  refine g_ldcw (v := 252645135) E mw_634 dJ6_bitCount_0f7a4_29 ?_
  refine lv_iand hx hb dJ6_bitCount_0f7a4_32 ?_
  refine lv_istore_n (lv' := [(0, .int (((((a1 - (((a1.toUInt32 >>> ((1 : Int32).toUInt32 &&& Int32.toUInt32 31)).toInt32) &&& (1431655765 : Int32))) &&& (858993459 : Int32)) + ((((a1 - (((a1.toUInt32 >>> ((1 : Int32).toUInt32 &&& Int32.toUInt32 31)).toInt32) &&& (1431655765 : Int32))).toUInt32 >>> ((2 : Int32).toUInt32 &&& Int32.toUInt32 31)).toInt32) &&& (858993459 : Int32))) + (((((a1 - (((a1.toUInt32 >>> ((1 : Int32).toUInt32 &&& Int32.toUInt32 31)).toInt32) &&& (1431655765 : Int32))) &&& (858993459 : Int32)) + ((((a1 - (((a1.toUInt32 >>> ((1 : Int32).toUInt32 &&& Int32.toUInt32 31)).toInt32) &&& (1431655765 : Int32))).toUInt32 >>> ((2 : Int32).toUInt32 &&& Int32.toUInt32 31)).toInt32) &&& (858993459 : Int32))).toUInt32 >>> ((4 : Int32).toUInt32 &&& Int32.toUInt32 31)).toInt32)) &&& (252645135 : Int32)))]) hx hb dJ6_bitCount_0f7a4_33 rfl hl (by decide) rfl (fun ls hl => ?_)
  refine lv_iload_n hx hb dJ6_bitCount_0f7a4_34 rfl (lv_at hl 0 rfl) ?_
  refine lv_iload_n hx hb dJ6_bitCount_0f7a4_35 rfl (lv_at hl 0 rfl) ?_
  refine lv_bipush (v := 8) hx hb dJ6_bitCount_0f7a4_36 (by decide) ?_
  refine lv_iushr (v := ((((((a1 - (((a1.toUInt32 >>> ((1 : Int32).toUInt32 &&& Int32.toUInt32 31)).toInt32) &&& (1431655765 : Int32))) &&& (858993459 : Int32)) + ((((a1 - (((a1.toUInt32 >>> ((1 : Int32).toUInt32 &&& Int32.toUInt32 31)).toInt32) &&& (1431655765 : Int32))).toUInt32 >>> ((2 : Int32).toUInt32 &&& Int32.toUInt32 31)).toInt32) &&& (858993459 : Int32))) + (((((a1 - (((a1.toUInt32 >>> ((1 : Int32).toUInt32 &&& Int32.toUInt32 31)).toInt32) &&& (1431655765 : Int32))) &&& (858993459 : Int32)) + ((((a1 - (((a1.toUInt32 >>> ((1 : Int32).toUInt32 &&& Int32.toUInt32 31)).toInt32) &&& (1431655765 : Int32))).toUInt32 >>> ((2 : Int32).toUInt32 &&& Int32.toUInt32 31)).toInt32) &&& (858993459 : Int32))).toUInt32 >>> ((4 : Int32).toUInt32 &&& Int32.toUInt32 31)).toInt32)) &&& (252645135 : Int32)).toUInt32 >>> ((8 : Int32).toUInt32 &&& Int32.toUInt32 31)).toInt32) hx hb dJ6_bitCount_0f7a4_38 rfl ?_
  refine lv_iadd hx hb dJ6_bitCount_0f7a4_39 ?_
  refine lv_istore_n (lv' := [(0, .int ((((((a1 - (((a1.toUInt32 >>> ((1 : Int32).toUInt32 &&& Int32.toUInt32 31)).toInt32) &&& (1431655765 : Int32))) &&& (858993459 : Int32)) + ((((a1 - (((a1.toUInt32 >>> ((1 : Int32).toUInt32 &&& Int32.toUInt32 31)).toInt32) &&& (1431655765 : Int32))).toUInt32 >>> ((2 : Int32).toUInt32 &&& Int32.toUInt32 31)).toInt32) &&& (858993459 : Int32))) + (((((a1 - (((a1.toUInt32 >>> ((1 : Int32).toUInt32 &&& Int32.toUInt32 31)).toInt32) &&& (1431655765 : Int32))) &&& (858993459 : Int32)) + ((((a1 - (((a1.toUInt32 >>> ((1 : Int32).toUInt32 &&& Int32.toUInt32 31)).toInt32) &&& (1431655765 : Int32))).toUInt32 >>> ((2 : Int32).toUInt32 &&& Int32.toUInt32 31)).toInt32) &&& (858993459 : Int32))).toUInt32 >>> ((4 : Int32).toUInt32 &&& Int32.toUInt32 31)).toInt32)) &&& (252645135 : Int32)) + (((((((a1 - (((a1.toUInt32 >>> ((1 : Int32).toUInt32 &&& Int32.toUInt32 31)).toInt32) &&& (1431655765 : Int32))) &&& (858993459 : Int32)) + ((((a1 - (((a1.toUInt32 >>> ((1 : Int32).toUInt32 &&& Int32.toUInt32 31)).toInt32) &&& (1431655765 : Int32))).toUInt32 >>> ((2 : Int32).toUInt32 &&& Int32.toUInt32 31)).toInt32) &&& (858993459 : Int32))) + (((((a1 - (((a1.toUInt32 >>> ((1 : Int32).toUInt32 &&& Int32.toUInt32 31)).toInt32) &&& (1431655765 : Int32))) &&& (858993459 : Int32)) + ((((a1 - (((a1.toUInt32 >>> ((1 : Int32).toUInt32 &&& Int32.toUInt32 31)).toInt32) &&& (1431655765 : Int32))).toUInt32 >>> ((2 : Int32).toUInt32 &&& Int32.toUInt32 31)).toInt32) &&& (858993459 : Int32))).toUInt32 >>> ((4 : Int32).toUInt32 &&& Int32.toUInt32 31)).toInt32)) &&& (252645135 : Int32)).toUInt32 >>> ((8 : Int32).toUInt32 &&& Int32.toUInt32 31)).toInt32)))]) hx hb dJ6_bitCount_0f7a4_40 rfl hl (by decide) rfl (fun ls hl => ?_)
  refine lv_iload_n hx hb dJ6_bitCount_0f7a4_41 rfl (lv_at hl 0 rfl) ?_
  refine lv_iload_n hx hb dJ6_bitCount_0f7a4_42 rfl (lv_at hl 0 rfl) ?_
  refine lv_bipush (v := 16) hx hb dJ6_bitCount_0f7a4_43 (by decide) ?_
  refine lv_iushr (v := (((((((a1 - (((a1.toUInt32 >>> ((1 : Int32).toUInt32 &&& Int32.toUInt32 31)).toInt32) &&& (1431655765 : Int32))) &&& (858993459 : Int32)) + ((((a1 - (((a1.toUInt32 >>> ((1 : Int32).toUInt32 &&& Int32.toUInt32 31)).toInt32) &&& (1431655765 : Int32))).toUInt32 >>> ((2 : Int32).toUInt32 &&& Int32.toUInt32 31)).toInt32) &&& (858993459 : Int32))) + (((((a1 - (((a1.toUInt32 >>> ((1 : Int32).toUInt32 &&& Int32.toUInt32 31)).toInt32) &&& (1431655765 : Int32))) &&& (858993459 : Int32)) + ((((a1 - (((a1.toUInt32 >>> ((1 : Int32).toUInt32 &&& Int32.toUInt32 31)).toInt32) &&& (1431655765 : Int32))).toUInt32 >>> ((2 : Int32).toUInt32 &&& Int32.toUInt32 31)).toInt32) &&& (858993459 : Int32))).toUInt32 >>> ((4 : Int32).toUInt32 &&& Int32.toUInt32 31)).toInt32)) &&& (252645135 : Int32)) + (((((((a1 - (((a1.toUInt32 >>> ((1 : Int32).toUInt32 &&& Int32.toUInt32 31)).toInt32) &&& (1431655765 : Int32))) &&& (858993459 : Int32)) + ((((a1 - (((a1.toUInt32 >>> ((1 : Int32).toUInt32 &&& Int32.toUInt32 31)).toInt32) &&& (1431655765 : Int32))).toUInt32 >>> ((2 : Int32).toUInt32 &&& Int32.toUInt32 31)).toInt32) &&& (858993459 : Int32))) + (((((a1 - (((a1.toUInt32 >>> ((1 : Int32).toUInt32 &&& Int32.toUInt32 31)).toInt32) &&& (1431655765 : Int32))) &&& (858993459 : Int32)) + ((((a1 - (((a1.toUInt32 >>> ((1 : Int32).toUInt32 &&& Int32.toUInt32 31)).toInt32) &&& (1431655765 : Int32))).toUInt32 >>> ((2 : Int32).toUInt32 &&& Int32.toUInt32 31)).toInt32) &&& (858993459 : Int32))).toUInt32 >>> ((4 : Int32).toUInt32 &&& Int32.toUInt32 31)).toInt32)) &&& (252645135 : Int32)).toUInt32 >>> ((8 : Int32).toUInt32 &&& Int32.toUInt32 31)).toInt32)).toUInt32 >>> ((16 : Int32).toUInt32 &&& Int32.toUInt32 31)).toInt32) hx hb dJ6_bitCount_0f7a4_45 rfl ?_
  refine lv_iadd hx hb dJ6_bitCount_0f7a4_46 ?_
  refine lv_istore_n (lv' := [(0, .int (((((((a1 - (((a1.toUInt32 >>> ((1 : Int32).toUInt32 &&& Int32.toUInt32 31)).toInt32) &&& (1431655765 : Int32))) &&& (858993459 : Int32)) + ((((a1 - (((a1.toUInt32 >>> ((1 : Int32).toUInt32 &&& Int32.toUInt32 31)).toInt32) &&& (1431655765 : Int32))).toUInt32 >>> ((2 : Int32).toUInt32 &&& Int32.toUInt32 31)).toInt32) &&& (858993459 : Int32))) + (((((a1 - (((a1.toUInt32 >>> ((1 : Int32).toUInt32 &&& Int32.toUInt32 31)).toInt32) &&& (1431655765 : Int32))) &&& (858993459 : Int32)) + ((((a1 - (((a1.toUInt32 >>> ((1 : Int32).toUInt32 &&& Int32.toUInt32 31)).toInt32) &&& (1431655765 : Int32))).toUInt32 >>> ((2 : Int32).toUInt32 &&& Int32.toUInt32 31)).toInt32) &&& (858993459 : Int32))).toUInt32 >>> ((4 : Int32).toUInt32 &&& Int32.toUInt32 31)).toInt32)) &&& (252645135 : Int32)) + (((((((a1 - (((a1.toUInt32 >>> ((1 : Int32).toUInt32 &&& Int32.toUInt32 31)).toInt32) &&& (1431655765 : Int32))) &&& (858993459 : Int32)) + ((((a1 - (((a1.toUInt32 >>> ((1 : Int32).toUInt32 &&& Int32.toUInt32 31)).toInt32) &&& (1431655765 : Int32))).toUInt32 >>> ((2 : Int32).toUInt32 &&& Int32.toUInt32 31)).toInt32) &&& (858993459 : Int32))) + (((((a1 - (((a1.toUInt32 >>> ((1 : Int32).toUInt32 &&& Int32.toUInt32 31)).toInt32) &&& (1431655765 : Int32))) &&& (858993459 : Int32)) + ((((a1 - (((a1.toUInt32 >>> ((1 : Int32).toUInt32 &&& Int32.toUInt32 31)).toInt32) &&& (1431655765 : Int32))).toUInt32 >>> ((2 : Int32).toUInt32 &&& Int32.toUInt32 31)).toInt32) &&& (858993459 : Int32))).toUInt32 >>> ((4 : Int32).toUInt32 &&& Int32.toUInt32 31)).toInt32)) &&& (252645135 : Int32)).toUInt32 >>> ((8 : Int32).toUInt32 &&& Int32.toUInt32 31)).toInt32)) + ((((((((a1 - (((a1.toUInt32 >>> ((1 : Int32).toUInt32 &&& Int32.toUInt32 31)).toInt32) &&& (1431655765 : Int32))) &&& (858993459 : Int32)) + ((((a1 - (((a1.toUInt32 >>> ((1 : Int32).toUInt32 &&& Int32.toUInt32 31)).toInt32) &&& (1431655765 : Int32))).toUInt32 >>> ((2 : Int32).toUInt32 &&& Int32.toUInt32 31)).toInt32) &&& (858993459 : Int32))) + (((((a1 - (((a1.toUInt32 >>> ((1 : Int32).toUInt32 &&& Int32.toUInt32 31)).toInt32) &&& (1431655765 : Int32))) &&& (858993459 : Int32)) + ((((a1 - (((a1.toUInt32 >>> ((1 : Int32).toUInt32 &&& Int32.toUInt32 31)).toInt32) &&& (1431655765 : Int32))).toUInt32 >>> ((2 : Int32).toUInt32 &&& Int32.toUInt32 31)).toInt32) &&& (858993459 : Int32))).toUInt32 >>> ((4 : Int32).toUInt32 &&& Int32.toUInt32 31)).toInt32)) &&& (252645135 : Int32)) + (((((((a1 - (((a1.toUInt32 >>> ((1 : Int32).toUInt32 &&& Int32.toUInt32 31)).toInt32) &&& (1431655765 : Int32))) &&& (858993459 : Int32)) + ((((a1 - (((a1.toUInt32 >>> ((1 : Int32).toUInt32 &&& Int32.toUInt32 31)).toInt32) &&& (1431655765 : Int32))).toUInt32 >>> ((2 : Int32).toUInt32 &&& Int32.toUInt32 31)).toInt32) &&& (858993459 : Int32))) + (((((a1 - (((a1.toUInt32 >>> ((1 : Int32).toUInt32 &&& Int32.toUInt32 31)).toInt32) &&& (1431655765 : Int32))) &&& (858993459 : Int32)) + ((((a1 - (((a1.toUInt32 >>> ((1 : Int32).toUInt32 &&& Int32.toUInt32 31)).toInt32) &&& (1431655765 : Int32))).toUInt32 >>> ((2 : Int32).toUInt32 &&& Int32.toUInt32 31)).toInt32) &&& (858993459 : Int32))).toUInt32 >>> ((4 : Int32).toUInt32 &&& Int32.toUInt32 31)).toInt32)) &&& (252645135 : Int32)).toUInt32 >>> ((8 : Int32).toUInt32 &&& Int32.toUInt32 31)).toInt32)).toUInt32 >>> ((16 : Int32).toUInt32 &&& Int32.toUInt32 31)).toInt32)))]) hx hb dJ6_bitCount_0f7a4_47 rfl hl (by decide) rfl (fun ls hl => ?_)
  refine lv_iload_n hx hb dJ6_bitCount_0f7a4_48 rfl (lv_at hl 0 rfl) ?_
  refine lv_bipush (v := 63) hx hb dJ6_bitCount_0f7a4_49 (by decide) ?_
  refine lv_iand hx hb dJ6_bitCount_0f7a4_51 ?_
  exact g_iret E hr hlk h hQ hF rfl dJ6_bitCount_0f7a4_52

def F_X2_wipe_k5_2 (σ : St) (u1 : St) : St := u1
def F_X2_wipe (σ : St) : St := (F_X2_wipe_k5_2 σ (F_J7_fill_53178_23 σ (0 : Int32)))
abbrev I_X2_wipe : List Nat := []
abbrev A_X2_wipe : List Nat := [23]
theorem fr_F_X2_wipe_k5_2 (σ : St) (u1 : St) (hfr : Fr I_X2_wipe A_X2_wipe false σ (u1)) : Fr I_X2_wipe A_X2_wipe false σ (F_X2_wipe_k5_2  σ u1) := hfr
theorem fr_F_X2_wipe (σ : St) : Fr I_X2_wipe A_X2_wipe false σ (F_X2_wipe σ) := (fr_F_X2_wipe_k5_2 σ (F_J7_fill_53178_23 σ (0 : Int32)) (Fr.tr Fr.rf (Fr.mono (by decide) (by decide) (by decide) (fr_F_J7_fill_53178_23 σ (0 : Int32)))))
set_option maxHeartbeats 4000000 in
set_option maxRecDepth 20000 in
theorem c_X2_wipe (l : Launch) (D : va_G) (cI cZ : ClassId) (z : Nat) (ad : Nat → Nat) (σ τ : St) : gM l yX2_wipe cX2_wipe 1 none 2 D cI cZ z (gws ad cI cZ σ τ) [.ref (ad 22)] none (gws ad cI cZ (F_X2_wipe σ) τ) := by
  refine g_met (own := RX2) (by decide) rfl (Nat.le_of_ble_eq_true rfl) (fun p e s m below meth c ls Q E hr hlk h hl hQ => ?_)
  have hx := E.1
  have hb := E.2.1
  have hF : (F_X2_wipe σ) = (F_X2_wipe σ) := rfl
  have hl : lv_has ls 1 [(0, .ref (ad 22))] := hl
  refine lv_aload_n hx hb dX2_wipe_0 rfl (lv_at hl 0 rfl) ?_
  refine g_get (v := .ref (ad 23)) E h 22 rfl rfl layX2 0 (by decide) rfl mw_61 rfl dX2_wipe_1 ?_
  refine lv_iconst (v := 0) hx hb dX2_wipe_4 (by decide) ?_
  refine g_callSUv (F_J7_fill_53178_23 σ (0 : Int32)) (fun u => gws ad cI cZ u τ) (rest := []) E h (c_J7_fill_53178_23 l D cI cZ z ad σ τ (0 : Int32)) mw_274 cbJ7_fill_53178 ⟨by decide, by decide⟩ rfl rfl hl.1 (Nat.le_of_ble_eq_true rfl) ⟨Nat.zero_le _, Nat.zero_le _⟩ dX2_wipe_5 (fun u1 huu1 H locs h => ?_)
  have hF : F_X2_wipe_k5_2 σ u1 = (F_X2_wipe σ) := by rw [← huu1]; exact hF
  exact g_vret E hr hlk h hQ (congrArg (fun u => gws ad cI cZ u τ) hF) dX2_wipe_8

def F_X2_become_NT (σ : St) : St := (sa σ 27 (va_cpy (σ.2.1 12) (σ.2.1 27) 0 0 74))
abbrev I_X2_become_NT : List Nat := []
abbrev A_X2_become_NT : List Nat := [27]
theorem fr_F_X2_become_NT (σ : St) : Fr I_X2_become_NT A_X2_become_NT false σ (F_X2_become_NT σ) := (Fr.sa (by decide) Fr.rf)
set_option maxHeartbeats 4000000 in
set_option maxRecDepth 20000 in
theorem c_X2_become_NT (l : Launch) (D : va_G) (cI cZ : ClassId) (z : Nat) (ad : Nat → Nat) (σ τ : St) : gM l yX2_become cX2_become 2 none 1 D cI cZ z (gws ad cI cZ σ τ) [.ref (ad 26), .ref (ad 11)] none (gws ad cI cZ (F_X2_become_NT σ) τ) := by
  refine g_met (own := RX2) (by decide) rfl (Nat.le_of_ble_eq_true rfl) (fun p e s m below meth c ls Q E hr hlk h hl hQ => ?_)
  have hx := E.1
  have hb := E.2.1
  have hF : (F_X2_become_NT σ) = (F_X2_become_NT σ) := rfl
  have hl : lv_has ls 2 [(0, .ref (ad 26)), (1, .ref (ad 11))] := hl
  refine lv_aload_n hx hb dX2_become_0 rfl (lv_at hl 1 rfl) ?_
  refine g_get (v := .ref (ad 12)) E h 11 rfl rfl layX2 0 (by decide) rfl mw_61 rfl dX2_become_1 ?_
  refine lv_iconst (v := 0) hx hb dX2_become_4 (by decide) ?_
  refine lv_aload_n hx hb dX2_become_5 rfl (lv_at hl 0 rfl) ?_
  refine g_get (v := .ref (ad 27)) E h 26 rfl rfl layX2 0 (by decide) rfl mw_61 rfl dX2_become_6 ?_
  refine lv_iconst (v := 0) hx hb dX2_become_9 (by decide) ?_
  refine lv_bipush (v := 74) hx hb dX2_become_10 (by decide) ?_
  refine g_copy (sp := (0 : Int32)) (dp := (0 : Int32)) (n := (74 : Int32)) (f := (σ.2.1 12)) (g := (σ.2.1 27)) (ws' := gws ad cI cZ (sa σ 27 (va_cpy (σ.2.1 12) (σ.2.1 27) 0 0 74)) τ) E h 12 27 rfl rfl (by decide) (by decide) (by decide) (by decide) (by decide) hl.1 mw_377 mw_379 mw_378 mw_13 (by decide) (Nat.le_of_ble_eq_true rfl) (ga_27 ad cI cZ σ τ (va_cpy (σ.2.1 12) (σ.2.1 27) 0 0 74)) dX2_become_12 (fun H locs h => ?_)
  exact g_vret E hr hlk h hQ (congrArg (fun u => gws ad cI cZ u τ) hF) dX2_become_15

def F_X2_become_NZ (σ : St) : St := (sa σ 27 (va_cpy (σ.2.1 31) (σ.2.1 27) 0 0 74))
abbrev I_X2_become_NZ : List Nat := []
abbrev A_X2_become_NZ : List Nat := [27]
theorem fr_F_X2_become_NZ (σ : St) : Fr I_X2_become_NZ A_X2_become_NZ false σ (F_X2_become_NZ σ) := (Fr.sa (by decide) Fr.rf)
set_option maxHeartbeats 4000000 in
set_option maxRecDepth 20000 in
theorem c_X2_become_NZ (l : Launch) (D : va_G) (cI cZ : ClassId) (z : Nat) (ad : Nat → Nat) (σ τ : St) : gM l yX2_become cX2_become 2 none 1 D cI cZ z (gws ad cI cZ σ τ) [.ref (ad 26), .ref (ad 30)] none (gws ad cI cZ (F_X2_become_NZ σ) τ) := by
  refine g_met (own := RX2) (by decide) rfl (Nat.le_of_ble_eq_true rfl) (fun p e s m below meth c ls Q E hr hlk h hl hQ => ?_)
  have hx := E.1
  have hb := E.2.1
  have hF : (F_X2_become_NZ σ) = (F_X2_become_NZ σ) := rfl
  have hl : lv_has ls 2 [(0, .ref (ad 26)), (1, .ref (ad 30))] := hl
  refine lv_aload_n hx hb dX2_become_0 rfl (lv_at hl 1 rfl) ?_
  refine g_get (v := .ref (ad 31)) E h 30 rfl rfl layX2 0 (by decide) rfl mw_61 rfl dX2_become_1 ?_
  refine lv_iconst (v := 0) hx hb dX2_become_4 (by decide) ?_
  refine lv_aload_n hx hb dX2_become_5 rfl (lv_at hl 0 rfl) ?_
  refine g_get (v := .ref (ad 27)) E h 26 rfl rfl layX2 0 (by decide) rfl mw_61 rfl dX2_become_6 ?_
  refine lv_iconst (v := 0) hx hb dX2_become_9 (by decide) ?_
  refine lv_bipush (v := 74) hx hb dX2_become_10 (by decide) ?_
  refine g_copy (sp := (0 : Int32)) (dp := (0 : Int32)) (n := (74 : Int32)) (f := (σ.2.1 31)) (g := (σ.2.1 27)) (ws' := gws ad cI cZ (sa σ 27 (va_cpy (σ.2.1 31) (σ.2.1 27) 0 0 74)) τ) E h 31 27 rfl rfl (by decide) (by decide) (by decide) (by decide) (by decide) hl.1 mw_377 mw_379 mw_378 mw_13 (by decide) (Nat.le_of_ble_eq_true rfl) (ga_27 ad cI cZ σ τ (va_cpy (σ.2.1 31) (σ.2.1 27) 0 0 74)) dX2_become_12 (fun H locs h => ?_)
  exact g_vret E hr hlk h hQ (congrArg (fun u => gws ad cI cZ u τ) hF) dX2_become_15

def F_X2_become_NO (σ : St) : St := (sa σ 27 (va_cpy (σ.2.1 35) (σ.2.1 27) 0 0 74))
abbrev I_X2_become_NO : List Nat := []
abbrev A_X2_become_NO : List Nat := [27]
theorem fr_F_X2_become_NO (σ : St) : Fr I_X2_become_NO A_X2_become_NO false σ (F_X2_become_NO σ) := (Fr.sa (by decide) Fr.rf)
set_option maxHeartbeats 4000000 in
set_option maxRecDepth 20000 in
theorem c_X2_become_NO (l : Launch) (D : va_G) (cI cZ : ClassId) (z : Nat) (ad : Nat → Nat) (σ τ : St) : gM l yX2_become cX2_become 2 none 1 D cI cZ z (gws ad cI cZ σ τ) [.ref (ad 26), .ref (ad 34)] none (gws ad cI cZ (F_X2_become_NO σ) τ) := by
  refine g_met (own := RX2) (by decide) rfl (Nat.le_of_ble_eq_true rfl) (fun p e s m below meth c ls Q E hr hlk h hl hQ => ?_)
  have hx := E.1
  have hb := E.2.1
  have hF : (F_X2_become_NO σ) = (F_X2_become_NO σ) := rfl
  have hl : lv_has ls 2 [(0, .ref (ad 26)), (1, .ref (ad 34))] := hl
  refine lv_aload_n hx hb dX2_become_0 rfl (lv_at hl 1 rfl) ?_
  refine g_get (v := .ref (ad 35)) E h 34 rfl rfl layX2 0 (by decide) rfl mw_61 rfl dX2_become_1 ?_
  refine lv_iconst (v := 0) hx hb dX2_become_4 (by decide) ?_
  refine lv_aload_n hx hb dX2_become_5 rfl (lv_at hl 0 rfl) ?_
  refine g_get (v := .ref (ad 27)) E h 26 rfl rfl layX2 0 (by decide) rfl mw_61 rfl dX2_become_6 ?_
  refine lv_iconst (v := 0) hx hb dX2_become_9 (by decide) ?_
  refine lv_bipush (v := 74) hx hb dX2_become_10 (by decide) ?_
  refine g_copy (sp := (0 : Int32)) (dp := (0 : Int32)) (n := (74 : Int32)) (f := (σ.2.1 35)) (g := (σ.2.1 27)) (ws' := gws ad cI cZ (sa σ 27 (va_cpy (σ.2.1 35) (σ.2.1 27) 0 0 74)) τ) E h 35 27 rfl rfl (by decide) (by decide) (by decide) (by decide) (by decide) hl.1 mw_377 mw_379 mw_378 mw_13 (by decide) (Nat.le_of_ble_eq_true rfl) (ga_27 ad cI cZ σ τ (va_cpy (σ.2.1 35) (σ.2.1 27) 0 0 74)) dX2_become_12 (fun H locs h => ?_)
  exact g_vret E hr hlk h hQ (congrArg (fun u => gws ad cI cZ u τ) hF) dX2_become_15

def F_X2_become_ZN (σ : St) : St := (sa σ 31 (va_cpy (σ.2.1 27) (σ.2.1 31) 0 0 74))
abbrev I_X2_become_ZN : List Nat := []
abbrev A_X2_become_ZN : List Nat := [31]
theorem fr_F_X2_become_ZN (σ : St) : Fr I_X2_become_ZN A_X2_become_ZN false σ (F_X2_become_ZN σ) := (Fr.sa (by decide) Fr.rf)
set_option maxHeartbeats 4000000 in
set_option maxRecDepth 20000 in
theorem c_X2_become_ZN (l : Launch) (D : va_G) (cI cZ : ClassId) (z : Nat) (ad : Nat → Nat) (σ τ : St) : gM l yX2_become cX2_become 2 none 1 D cI cZ z (gws ad cI cZ σ τ) [.ref (ad 30), .ref (ad 26)] none (gws ad cI cZ (F_X2_become_ZN σ) τ) := by
  refine g_met (own := RX2) (by decide) rfl (Nat.le_of_ble_eq_true rfl) (fun p e s m below meth c ls Q E hr hlk h hl hQ => ?_)
  have hx := E.1
  have hb := E.2.1
  have hF : (F_X2_become_ZN σ) = (F_X2_become_ZN σ) := rfl
  have hl : lv_has ls 2 [(0, .ref (ad 30)), (1, .ref (ad 26))] := hl
  refine lv_aload_n hx hb dX2_become_0 rfl (lv_at hl 1 rfl) ?_
  refine g_get (v := .ref (ad 27)) E h 26 rfl rfl layX2 0 (by decide) rfl mw_61 rfl dX2_become_1 ?_
  refine lv_iconst (v := 0) hx hb dX2_become_4 (by decide) ?_
  refine lv_aload_n hx hb dX2_become_5 rfl (lv_at hl 0 rfl) ?_
  refine g_get (v := .ref (ad 31)) E h 30 rfl rfl layX2 0 (by decide) rfl mw_61 rfl dX2_become_6 ?_
  refine lv_iconst (v := 0) hx hb dX2_become_9 (by decide) ?_
  refine lv_bipush (v := 74) hx hb dX2_become_10 (by decide) ?_
  refine g_copy (sp := (0 : Int32)) (dp := (0 : Int32)) (n := (74 : Int32)) (f := (σ.2.1 27)) (g := (σ.2.1 31)) (ws' := gws ad cI cZ (sa σ 31 (va_cpy (σ.2.1 27) (σ.2.1 31) 0 0 74)) τ) E h 27 31 rfl rfl (by decide) (by decide) (by decide) (by decide) (by decide) hl.1 mw_377 mw_379 mw_378 mw_13 (by decide) (Nat.le_of_ble_eq_true rfl) (ga_31 ad cI cZ σ τ (va_cpy (σ.2.1 27) (σ.2.1 31) 0 0 74)) dX2_become_12 (fun H locs h => ?_)
  exact g_vret E hr hlk h hQ (congrArg (fun u => gws ad cI cZ u τ) hF) dX2_become_15

def F_X2_become_ON (σ : St) : St := (sa σ 35 (va_cpy (σ.2.1 27) (σ.2.1 35) 0 0 74))
abbrev I_X2_become_ON : List Nat := []
abbrev A_X2_become_ON : List Nat := [35]
theorem fr_F_X2_become_ON (σ : St) : Fr I_X2_become_ON A_X2_become_ON false σ (F_X2_become_ON σ) := (Fr.sa (by decide) Fr.rf)
set_option maxHeartbeats 4000000 in
set_option maxRecDepth 20000 in
theorem c_X2_become_ON (l : Launch) (D : va_G) (cI cZ : ClassId) (z : Nat) (ad : Nat → Nat) (σ τ : St) : gM l yX2_become cX2_become 2 none 1 D cI cZ z (gws ad cI cZ σ τ) [.ref (ad 34), .ref (ad 26)] none (gws ad cI cZ (F_X2_become_ON σ) τ) := by
  refine g_met (own := RX2) (by decide) rfl (Nat.le_of_ble_eq_true rfl) (fun p e s m below meth c ls Q E hr hlk h hl hQ => ?_)
  have hx := E.1
  have hb := E.2.1
  have hF : (F_X2_become_ON σ) = (F_X2_become_ON σ) := rfl
  have hl : lv_has ls 2 [(0, .ref (ad 34)), (1, .ref (ad 26))] := hl
  refine lv_aload_n hx hb dX2_become_0 rfl (lv_at hl 1 rfl) ?_
  refine g_get (v := .ref (ad 27)) E h 26 rfl rfl layX2 0 (by decide) rfl mw_61 rfl dX2_become_1 ?_
  refine lv_iconst (v := 0) hx hb dX2_become_4 (by decide) ?_
  refine lv_aload_n hx hb dX2_become_5 rfl (lv_at hl 0 rfl) ?_
  refine g_get (v := .ref (ad 35)) E h 34 rfl rfl layX2 0 (by decide) rfl mw_61 rfl dX2_become_6 ?_
  refine lv_iconst (v := 0) hx hb dX2_become_9 (by decide) ?_
  refine lv_bipush (v := 74) hx hb dX2_become_10 (by decide) ?_
  refine g_copy (sp := (0 : Int32)) (dp := (0 : Int32)) (n := (74 : Int32)) (f := (σ.2.1 27)) (g := (σ.2.1 35)) (ws' := gws ad cI cZ (sa σ 35 (va_cpy (σ.2.1 27) (σ.2.1 35) 0 0 74)) τ) E h 27 35 rfl rfl (by decide) (by decide) (by decide) (by decide) (by decide) hl.1 mw_377 mw_379 mw_378 mw_13 (by decide) (Nat.le_of_ble_eq_true rfl) (ga_35 ad cI cZ σ τ (va_cpy (σ.2.1 27) (σ.2.1 35) 0 0 74)) dX2_become_12 (fun H locs h => ?_)
  exact g_vret E hr hlk h hQ (congrArg (fun u => gws ad cI cZ u τ) hF) dX2_become_15

def F_X2_writeTo (σ : St) (a2 : Int32) : St := (if a2 < 0 then σ else (if (740 : Int32) < ((a2 + (1 : Int32)) * (74 : Int32)) then σ else (sa σ 28 (va_cpy (σ.2.1 27) (σ.2.1 28) 0 (a2 * (74 : Int32)).toNatClampNeg 74))))
abbrev I_X2_writeTo : List Nat := []
abbrev A_X2_writeTo : List Nat := [28]
theorem fr_F_X2_writeTo (σ : St) (a2 : Int32) : Fr I_X2_writeTo A_X2_writeTo false σ (F_X2_writeTo σ a2) := (fr_ite1 Fr.rf (fr_ite1 Fr.rf (Fr.sa (by decide) Fr.rf)))
set_option maxHeartbeats 4000000 in
set_option maxRecDepth 20000 in
theorem c_X2_writeTo (l : Launch) (D : va_G) (cI cZ : ClassId) (z : Nat) (ad : Nat → Nat) (σ τ : St) (a2 : Int32) (hp : 0 ≤ a2.toInt ∧ a2.toInt < 10) : gM l yX2_writeTo cX2_writeTo 3 none 1 D cI cZ z (gws ad cI cZ σ τ) [.ref (ad 26), .ref (ad 28), .int a2] none (gws ad cI cZ (F_X2_writeTo σ a2) τ) := by
  refine g_met (own := RX2) (by decide) rfl (Nat.le_of_ble_eq_true rfl) (fun p e s m below meth c ls Q E hr hlk h hl hQ => ?_)
  have hx := E.1
  have hb := E.2.1
  have hF : (F_X2_writeTo σ a2) = (F_X2_writeTo σ a2) := rfl
  have hl : lv_has ls 3 [(0, .ref (ad 26)), (1, .ref (ad 28)), (2, .int a2)] := hl
  refine lv_iload_n hx hb dX2_writeTo_0 rfl (lv_at hl 2 rfl) ?_
  refine lv_if_lt (tgt := 30) hx hb dX2_writeTo_1 (by decide) (fun c1 => ?_) (fun c1 => ?_)
  · have ic1 : a2.toInt < 0 := i_lt c1
    have hF := (if_pos c1).symm.trans hF
    exact g_vret E hr hlk h hQ (congrArg (fun u => gws ad cI cZ u τ) hF) dX2_writeTo_30
  · have ic1 : 0 ≤ a2.toInt := i_nlt c1
    have hF := (if_neg c1).symm.trans hF
    refine lv_iload_n hx hb dX2_writeTo_4 rfl (lv_at hl 2 rfl) ?_
    refine lv_iconst (v := 1) hx hb dX2_writeTo_5 (by decide) ?_
    refine lv_iadd hx hb dX2_writeTo_6 ?_
    refine lv_bipush (v := 74) hx hb dX2_writeTo_7 (by decide) ?_
    refine lv_imul hx hb dX2_writeTo_9 ?_
    refine lv_aload_n hx hb dX2_writeTo_10 rfl (lv_at hl 1 rfl) ?_
    refine g_alen (v := 740) (f := (σ.2.1 28)) E h 28 rfl (by decide) dX2_writeTo_11 ?_
    refine lv_icmp_gt (tgt := 30) hx hb dX2_writeTo_12 (by decide) (fun c2 => ?_) (fun c2 => ?_)
    · have ic2 : 740 < ((a2 + (1 : Int32)) * (74 : Int32)).toInt := i_lt c2
      have hF := (if_pos c2).symm.trans hF
      exact g_vret E hr hlk h hQ (congrArg (fun u => gws ad cI cZ u τ) hF) dX2_writeTo_30
    · have ic2 : ((a2 + (1 : Int32)) * (74 : Int32)).toInt ≤ 740 := i_nlt c2
      have hF := (if_neg c2).symm.trans hF
      refine lv_aload_n hx hb dX2_writeTo_15 rfl (lv_at hl 0 rfl) ?_
      refine g_get (v := .ref (ad 27)) E h 26 rfl rfl layX2 0 (by decide) rfl mw_61 rfl dX2_writeTo_16 ?_
      refine lv_iconst (v := 0) hx hb dX2_writeTo_19 (by decide) ?_
      refine lv_aload_n hx hb dX2_writeTo_20 rfl (lv_at hl 1 rfl) ?_
      refine lv_iload_n hx hb dX2_writeTo_21 rfl (lv_at hl 2 rfl) ?_
      refine lv_bipush (v := 74) hx hb dX2_writeTo_22 (by decide) ?_
      refine lv_imul hx hb dX2_writeTo_24 ?_
      refine lv_bipush (v := 74) hx hb dX2_writeTo_25 (by decide) ?_
      refine g_copy (sp := (0 : Int32)) (dp := (a2 * (74 : Int32))) (n := (74 : Int32)) (f := (σ.2.1 27)) (g := (σ.2.1 28)) (ws' := gws ad cI cZ (sa σ 28 (va_cpy (σ.2.1 27) (σ.2.1 28) 0 (a2 * (74 : Int32)).toNatClampNeg 74)) τ) E h 27 28 rfl rfl (by decide) (nn_of (oI_mul (oI_at a2) (oI_lit (x := 74) (a := 74) rfl)) (by omega)) (by decide) (by decide) (by rw [cn_of (oI_mul (oI_at a2) (oI_lit (x := 74) (a := 74) rfl)) (by omega), cn_of (oI_lit (x := 74) (a := 74) rfl) (by omega)]; omega) hl.1 mw_377 mw_379 mw_378 mw_13 (by decide) (Nat.le_of_ble_eq_true rfl) (ga_28 ad cI cZ σ τ (va_cpy (σ.2.1 27) (σ.2.1 28) 0 (a2 * (74 : Int32)).toNatClampNeg 74)) dX2_writeTo_27 (fun H locs h => ?_)
      exact g_vret E hr hlk h hQ (congrArg (fun u => gws ad cI cZ u τ) hF) dX2_writeTo_30

def F_X2_readFrom (σ : St) (a2 : Int32) : St := (if a2 < 0 then σ else (if (740 : Int32) < ((a2 + (1 : Int32)) * (74 : Int32)) then σ else (sa σ 27 (va_cpy (σ.2.1 28) (σ.2.1 27) (a2 * (74 : Int32)).toNatClampNeg 0 74))))
abbrev I_X2_readFrom : List Nat := []
abbrev A_X2_readFrom : List Nat := [27]
theorem fr_F_X2_readFrom (σ : St) (a2 : Int32) : Fr I_X2_readFrom A_X2_readFrom false σ (F_X2_readFrom σ a2) := (fr_ite1 Fr.rf (fr_ite1 Fr.rf (Fr.sa (by decide) Fr.rf)))
set_option maxHeartbeats 4000000 in
set_option maxRecDepth 20000 in
theorem c_X2_readFrom (l : Launch) (D : va_G) (cI cZ : ClassId) (z : Nat) (ad : Nat → Nat) (σ τ : St) (a2 : Int32) (hp : 0 ≤ a2.toInt ∧ a2.toInt < 10) : gM l yX2_readFrom cX2_readFrom 3 none 1 D cI cZ z (gws ad cI cZ σ τ) [.ref (ad 26), .ref (ad 28), .int a2] none (gws ad cI cZ (F_X2_readFrom σ a2) τ) := by
  refine g_met (own := RX2) (by decide) rfl (Nat.le_of_ble_eq_true rfl) (fun p e s m below meth c ls Q E hr hlk h hl hQ => ?_)
  have hx := E.1
  have hb := E.2.1
  have hF : (F_X2_readFrom σ a2) = (F_X2_readFrom σ a2) := rfl
  have hl : lv_has ls 3 [(0, .ref (ad 26)), (1, .ref (ad 28)), (2, .int a2)] := hl
  refine lv_iload_n hx hb dX2_readFrom_0 rfl (lv_at hl 2 rfl) ?_
  refine lv_if_lt (tgt := 30) hx hb dX2_readFrom_1 (by decide) (fun c1 => ?_) (fun c1 => ?_)
  · have ic1 : a2.toInt < 0 := i_lt c1
    have hF := (if_pos c1).symm.trans hF
    exact g_vret E hr hlk h hQ (congrArg (fun u => gws ad cI cZ u τ) hF) dX2_readFrom_30
  · have ic1 : 0 ≤ a2.toInt := i_nlt c1
    have hF := (if_neg c1).symm.trans hF
    refine lv_iload_n hx hb dX2_readFrom_4 rfl (lv_at hl 2 rfl) ?_
    refine lv_iconst (v := 1) hx hb dX2_readFrom_5 (by decide) ?_
    refine lv_iadd hx hb dX2_readFrom_6 ?_
    refine lv_bipush (v := 74) hx hb dX2_readFrom_7 (by decide) ?_
    refine lv_imul hx hb dX2_readFrom_9 ?_
    refine lv_aload_n hx hb dX2_readFrom_10 rfl (lv_at hl 1 rfl) ?_
    refine g_alen (v := 740) (f := (σ.2.1 28)) E h 28 rfl (by decide) dX2_readFrom_11 ?_
    refine lv_icmp_gt (tgt := 30) hx hb dX2_readFrom_12 (by decide) (fun c2 => ?_) (fun c2 => ?_)
    · have ic2 : 740 < ((a2 + (1 : Int32)) * (74 : Int32)).toInt := i_lt c2
      have hF := (if_pos c2).symm.trans hF
      exact g_vret E hr hlk h hQ (congrArg (fun u => gws ad cI cZ u τ) hF) dX2_readFrom_30
    · have ic2 : ((a2 + (1 : Int32)) * (74 : Int32)).toInt ≤ 740 := i_nlt c2
      have hF := (if_neg c2).symm.trans hF
      refine lv_aload_n hx hb dX2_readFrom_15 rfl (lv_at hl 1 rfl) ?_
      refine lv_iload_n hx hb dX2_readFrom_16 rfl (lv_at hl 2 rfl) ?_
      refine lv_bipush (v := 74) hx hb dX2_readFrom_17 (by decide) ?_
      refine lv_imul hx hb dX2_readFrom_19 ?_
      refine lv_aload_n hx hb dX2_readFrom_20 rfl (lv_at hl 0 rfl) ?_
      refine g_get (v := .ref (ad 27)) E h 26 rfl rfl layX2 0 (by decide) rfl mw_61 rfl dX2_readFrom_21 ?_
      refine lv_iconst (v := 0) hx hb dX2_readFrom_24 (by decide) ?_
      refine lv_bipush (v := 74) hx hb dX2_readFrom_25 (by decide) ?_
      refine g_copy (sp := (a2 * (74 : Int32))) (dp := (0 : Int32)) (n := (74 : Int32)) (f := (σ.2.1 28)) (g := (σ.2.1 27)) (ws' := gws ad cI cZ (sa σ 27 (va_cpy (σ.2.1 28) (σ.2.1 27) (a2 * (74 : Int32)).toNatClampNeg 0 74)) τ) E h 28 27 rfl rfl (nn_of (oI_mul (oI_at a2) (oI_lit (x := 74) (a := 74) rfl)) (by omega)) (by decide) (by decide) (by rw [cn_of (oI_mul (oI_at a2) (oI_lit (x := 74) (a := 74) rfl)) (by omega), cn_of (oI_lit (x := 74) (a := 74) rfl) (by omega)]; omega) (by decide) hl.1 mw_377 mw_379 mw_378 mw_13 (by decide) (Nat.le_of_ble_eq_true rfl) (ga_27 ad cI cZ σ τ (va_cpy (σ.2.1 28) (σ.2.1 27) (a2 * (74 : Int32)).toNatClampNeg 0 74)) dX2_readFrom_27 (fun H locs h => ?_)
      exact g_vret E hr hlk h hQ (congrArg (fun u => gws ad cI cZ u τ) hF) dX2_readFrom_30

def F_X2_die_k58_7 (lf48 : Int32 → St → St) (σ : St) (a1 : Int32) (v2 : Int32) (x2_48 : Int32) (m48 : St) (u6 : St) : St := (lf48 (x2_48 + (1 : Int32)) u6)
def F_X2_die_L48 : Nat → St → Int32 → Int32 → Int32 → St → St
  | 0, _, _, _, _, m48 => m48
  | n + 1, σ, a1, v2, x2_48, m48 => (if (6 : Int32) ≤ x2_48 then m48 else (F_X2_die_k58_7 (fun y1 y2 => F_X2_die_L48  n σ a1 v2 y1 y2) σ a1 v2 x2_48 m48 (F_X2_setKnots m48 a1 x2_48 (0 : Int32))))
def F_X2_die_k38_3 (σ : St) (a1 : Int32) (v2 : Int32) : St := (F_X2_die_L48  7 σ a1 v2 (0 : Int32) (sa σ 27 (upd (upd (σ.2.1 27) 1 (((σ.2.1 27) 1) &&& (((1 : Int32) <<< (a1 &&& 31)) ^^^ ((-1) : Int32)))) 0 (if (((σ.2.1 27) 0) + v2) < (9999 : Int32) then (((σ.2.1 27) 0) + v2) else (9999 : Int32)))))
def F_X2_die (σ : St) (a1 : Int32) : St := (if (F_X2_isCaravan a1) = 0 then σ else (F_X2_die_k38_3 σ a1 (F_X2_knotsOfCaravan (sa σ 27 (upd (σ.2.1 27) 1 (((σ.2.1 27) 1) &&& (((1 : Int32) <<< (a1 &&& 31)) ^^^ ((-1) : Int32))))) a1)))
abbrev I_X2_die : List Nat := []
abbrev A_X2_die : List Nat := [27]
theorem fr_F_X2_die_k58_7 (lf48 : Int32 → St → St) (σ : St) (a1 : Int32) (v2 : Int32) (x2_48 : Int32) (m48 : St) (u6 : St) (hlf48 : ∀ (y1 : Int32) (m : St), Fr I_X2_die A_X2_die false σ m → Fr I_X2_die A_X2_die false σ (lf48 y1 m)) (hfr : Fr I_X2_die A_X2_die false σ (u6)) : Fr I_X2_die A_X2_die false σ (F_X2_die_k58_7 lf48 σ a1 v2 x2_48 m48 u6) := (hlf48 (x2_48 + (1 : Int32)) u6 hfr)
theorem fr_F_X2_die_L48_w (σ : St) (a1 : Int32) (v2 : Int32) : ∀ (n : Nat) (x2_48 : Int32) (m48 : St), Fr I_X2_die A_X2_die false σ m48 → Fr I_X2_die A_X2_die false σ (F_X2_die_L48  n σ a1 v2 x2_48 m48)
  | 0, x2_48, m48, hfr => hfr
  | n + 1, x2_48, m48, hfr => (fr_ite1 hfr (fr_F_X2_die_k58_7 (fun y1 y2 => F_X2_die_L48  n σ a1 v2 y1 y2) σ a1 v2 x2_48 m48 (F_X2_setKnots m48 a1 x2_48 (0 : Int32)) (fun y1 y2 hy => fr_F_X2_die_L48_w  σ a1 v2  n y1 y2 hy) (Fr.tr hfr (Fr.mono (by decide) (by decide) (by decide) (fr_F_X2_setKnots m48 a1 x2_48 (0 : Int32))))))
theorem fr_F_X2_die_L48 (n : Nat) (σ : St) (a1 : Int32) (v2 : Int32) (x2_48 : Int32) (m48 : St) (hfr : Fr I_X2_die A_X2_die false σ (m48)) : Fr I_X2_die A_X2_die false σ (F_X2_die_L48  n σ a1 v2 x2_48 m48) := fr_F_X2_die_L48_w  σ a1 v2  n x2_48 m48 hfr
theorem fr_F_X2_die_k38_3 (σ : St) (a1 : Int32) (v2 : Int32) : Fr I_X2_die A_X2_die false σ (F_X2_die_k38_3  σ a1 v2) := (fr_F_X2_die_L48  7 σ a1 v2 (0 : Int32) (sa σ 27 (upd (upd (σ.2.1 27) 1 (((σ.2.1 27) 1) &&& (((1 : Int32) <<< (a1 &&& 31)) ^^^ ((-1) : Int32)))) 0 (if (((σ.2.1 27) 0) + v2) < (9999 : Int32) then (((σ.2.1 27) 0) + v2) else (9999 : Int32)))) (Fr.sa (by decide) Fr.rf))
theorem fr_F_X2_die (σ : St) (a1 : Int32) : Fr I_X2_die A_X2_die false σ (F_X2_die σ a1) := (fr_ite1 Fr.rf (fr_F_X2_die_k38_3 σ a1 (F_X2_knotsOfCaravan (sa σ 27 (upd (σ.2.1 27) 1 (((σ.2.1 27) 1) &&& (((1 : Int32) <<< (a1 &&& 31)) ^^^ ((-1) : Int32))))) a1) ))
set_option maxHeartbeats 4000000 in
set_option maxRecDepth 20000 in
theorem c_X2_die (l : Launch) (D : va_G) (cI cZ : ClassId) (z : Nat) (ad : Nat → Nat) (σ τ : St) (a1 : Int32) : gM l yX2_die cX2_die 3 none 4 D cI cZ z (gws ad cI cZ σ τ) [.ref (ad 26), .int a1] none (gws ad cI cZ (F_X2_die σ a1) τ) := by
  refine g_met (own := RX2) (by decide) rfl (Nat.le_of_ble_eq_true rfl) (fun p e s m below meth c ls Q E hr hlk h hl hQ => ?_)
  have hx := E.1
  have hb := E.2.1
  have hF : (F_X2_die σ a1) = (F_X2_die σ a1) := rfl
  have hl : lv_has ls 3 [(0, .ref (ad 26)), (1, .int a1)] := hl
  refine lv_iload_n hx hb dX2_die_0 rfl (lv_at hl 1 rfl) ?_
  refine g_callSi (rest := []) E h (c_X2_isCaravan l D cI cZ z (gws ad cI cZ σ τ) a1) mw_335 cbX2_isCaravan ⟨by decide, by decide⟩ rfl rfl hl.1 (Nat.le_of_ble_eq_true rfl) ⟨Nat.zero_le _, Nat.zero_le _⟩ dX2_die_1 (fun H locs h => ?_)
  refine lv_if_ne (tgt := 8) hx hb dX2_die_4 (by decide) (fun c1 => ?_) (fun c1 => ?_)
  · have ic1 : (F_X2_isCaravan a1).toInt ≠ 0 := i_ne c1
    have jc1 := fz_isCaravan c1
    have hF := (if_neg c1).symm.trans hF
    refine lv_aload_n hx hb dX2_die_8 rfl (lv_at hl 0 rfl) ?_
    refine g_get (v := .ref (ad 27)) E h 26 rfl rfl layX2 0 (by decide) rfl mw_61 rfl dX2_die_9 ?_
    refine lv_iconst (v := 1) hx hb dX2_die_12 (by decide) ?_
    refine lv_dup2_11 hx hb dX2_die_13 rfl rfl ?_
    refine g_ialdk (f := (σ.2.1 27)) E h 27 rfl 1 rfl (ix_of (oI_lit (x := 1) (a := 1) rfl) (by omega) (by decide)) dX2_die_14 ?_
    refine lv_iconst (v := 1) hx hb dX2_die_15 (by decide) ?_
    refine lv_iload_n hx hb dX2_die_16 rfl (lv_at hl 1 rfl) ?_
    refine lv_ishl hx hb dX2_die_17 ?_
    refine lv_iconst (v := (-1)) hx hb dX2_die_18 (by decide) ?_
    refine lv_ixor hx hb dX2_die_19 ?_
    refine lv_iand hx hb dX2_die_20 ?_
    refine g_iastk (f := (σ.2.1 27)) (ws' := gws ad cI cZ (sa σ 27 (upd (σ.2.1 27) 1 (((σ.2.1 27) 1) &&& (((1 : Int32) <<< (a1 &&& 31)) ^^^ ((-1) : Int32))))) τ) E h 27 rfl 1 rfl (ix_of (oI_lit (x := 1) (a := 1) rfl) (by omega) (by decide)) (ga_27 ad cI cZ σ τ (upd (σ.2.1 27) 1 (((σ.2.1 27) 1) &&& (((1 : Int32) <<< (a1 &&& 31)) ^^^ ((-1) : Int32))))) dX2_die_21 (fun H locs h => ?_)
    refine lv_aload_n hx hb dX2_die_22 rfl (lv_at hl 0 rfl) ?_
    refine g_get (v := .ref (ad 27)) E h 26 rfl rfl layX2 0 (by decide) rfl mw_61 rfl dX2_die_23 ?_
    refine lv_iconst (v := 0) hx hb dX2_die_26 (by decide) ?_
    refine lv_sipush (v := 9999) hx hb dX2_die_27 (by decide) ?_
    refine lv_aload_n hx hb dX2_die_30 rfl (lv_at hl 0 rfl) ?_
    refine g_get (v := .ref (ad 27)) E h 26 rfl rfl layX2 0 (by decide) rfl mw_61 rfl dX2_die_31 ?_
    refine lv_iconst (v := 0) hx hb dX2_die_34 (by decide) ?_
    refine g_ialdw (f := (upd (σ.2.1 27) 1 (((σ.2.1 27) 1) &&& (((1 : Int32) <<< (a1 &&& 31)) ^^^ ((-1) : Int32))))) (w := ((σ.2.1 27) 0)) E h 27 rfl 0 rfl (pk_un (by decide)) (ix_of (oI_lit (x := 0) (a := 0) rfl) (by omega) (by decide)) dX2_die_35 ?_
    refine lv_aload_n hx hb dX2_die_36 rfl (lv_at hl 0 rfl) ?_
    refine lv_iload_n hx hb dX2_die_37 rfl (lv_at hl 1 rfl) ?_
    refine g_callVh (F_X2_knotsOfCaravan (sa σ 27 (upd (σ.2.1 27) 1 (((σ.2.1 27) 1) &&& (((1 : Int32) <<< (a1 &&& 31)) ^^^ ((-1) : Int32))))) a1) (rest := [.int ((σ.2.1 27) 0), .int (9999 : Int32), .int (0 : Int32), .ref (ad 27)]) E h (c_X2_knotsOfCaravan l D cI cZ z ad (sa σ 27 (upd (σ.2.1 27) 1 (((σ.2.1 27) 1) &&& (((1 : Int32) <<< (a1 &&& 31)) ^^^ ((-1) : Int32))))) τ a1) mw_527 cbX2_knotsOfCaravan 26 rfl rfl ⟨by decide, by decide⟩ rfl rfl hl.1 (Nat.le_of_ble_eq_true rfl) ⟨Nat.zero_le _, Nat.zero_le _⟩ dX2_die_38 (fun v2 huv2 H locs h => ?_)
    have hF : F_X2_die_k38_3 σ a1 v2 = (F_X2_die σ a1) := by rw [← huv2]; exact hF
    refine lv_iadd hx hb dX2_die_41 ?_
    refine g_min E hl.1 mw_528 mw_298 mw_12 mw_299 (by decide) (Nat.le_of_ble_eq_true rfl) ⟨Nat.zero_le _, Nat.zero_le _⟩ dX2_die_42 ?_
    refine g_iastk (f := (upd (σ.2.1 27) 1 (((σ.2.1 27) 1) &&& (((1 : Int32) <<< (a1 &&& 31)) ^^^ ((-1) : Int32))))) (ws' := gws ad cI cZ (sa σ 27 (upd (upd (σ.2.1 27) 1 (((σ.2.1 27) 1) &&& (((1 : Int32) <<< (a1 &&& 31)) ^^^ ((-1) : Int32)))) 0 (if (((σ.2.1 27) 0) + v2) < (9999 : Int32) then (((σ.2.1 27) 0) + v2) else (9999 : Int32)))) τ) E h 27 rfl 0 rfl (ix_of (oI_lit (x := 0) (a := 0) rfl) (by omega) (by decide)) ((ga_27 ad cI cZ (sa σ 27 (upd (σ.2.1 27) 1 (((σ.2.1 27) 1) &&& (((1 : Int32) <<< (a1 &&& 31)) ^^^ ((-1) : Int32))))) τ (upd (upd (σ.2.1 27) 1 (((σ.2.1 27) 1) &&& (((1 : Int32) <<< (a1 &&& 31)) ^^^ ((-1) : Int32)))) 0 (if (((σ.2.1 27) 0) + v2) < (9999 : Int32) then (((σ.2.1 27) 0) + v2) else (9999 : Int32)))).trans (congrArg (fun u => gws ad cI cZ u τ) (sa_sa _ _ _ _))) dX2_die_45 (fun H locs h => ?_)
    refine lv_iconst (v := 0) hx hb dX2_die_46 (by decide) ?_
    refine lv_istore_n (lv' := [(2, .int (0 : Int32)), (0, .ref (ad 26)), (1, .int a1)]) hx hb dX2_die_47 rfl hl (by decide) rfl (fun ls hl => ?_)
    have L48 : ∀ (n48 : Nat) (x2_48 : Int32) (m48 : St) (H : Heap) (locs : List Loc) (ls : Array Slot), (0 ≤ x2_48.toInt ∧ x2_48.toInt ≤ 6 ∧ x2_48.toInt + n48 = 7) → F_X2_die_L48  n48 σ a1 v2 x2_48 m48 = (F_X2_die σ a1) → gH D z s (gws ad cI cZ m48 τ) H locs → lv_has ls 3 [(2, .int x2_48), (0, .ref (ad 26)), (1, .int a1)] → W p l e (rmH 4) s m ([.ref (ad 26), .int a1] : List Value).toArray below meth c H locs 0 0 Q (F0 m 48 ls []) := by
      clear hF h hl
      intro n48
      induction n48 with
      | zero =>
        intro x2_48 m48 H locs ls hI
        exact absurd hI (by omega)
      | succ n48 ih48 =>
        intro x2_48 m48 H locs ls hI48 hF h hl
        refine lv_iload_n hx hb dX2_die_48 rfl (lv_at hl 0 rfl) ?_
        refine lv_bipush (v := 6) hx hb dX2_die_49 (by decide) ?_
        refine lv_icmp_ge (tgt := 67) hx hb dX2_die_51 (by decide) (fun c5 => ?_) (fun c5 => ?_)
        · have ic5 : 6 ≤ x2_48.toInt := i_le c5
          have hF := (if_pos c5).symm.trans hF
          exact g_vret E hr hlk h hQ (congrArg (fun u => gws ad cI cZ u τ) hF) dX2_die_67
        · have ic5 : x2_48.toInt < 6 := i_nle c5
          have hF := (if_neg c5).symm.trans hF
          refine lv_aload_n hx hb dX2_die_54 rfl (lv_at hl 1 rfl) ?_
          refine lv_iload_n hx hb dX2_die_55 rfl (lv_at hl 2 rfl) ?_
          refine lv_iload_n hx hb dX2_die_56 rfl (lv_at hl 0 rfl) ?_
          refine lv_iconst (v := 0) hx hb dX2_die_57 (by decide) ?_
          refine g_callVUv (F_X2_setKnots m48 a1 x2_48 (0 : Int32)) (fun u => gws ad cI cZ u τ) (rest := []) E h (c_X2_setKnots l D cI cZ z ad m48 τ a1 x2_48 (0 : Int32)) mw_529 cbX2_setKnots 26 rfl rfl ⟨by decide, by decide⟩ rfl rfl hl.1 (Nat.le_of_ble_eq_true rfl) ⟨Nat.zero_le _, Nat.zero_le _⟩ dX2_die_58 (fun u6 huu6 H locs h => ?_)
          have hF : F_X2_die_k58_7 (fun y1 y2 => F_X2_die_L48  n48 σ a1 v2 y1 y2) σ a1 v2 x2_48 m48 u6 = (F_X2_die σ a1) := by rw [← huu6]; exact hF
          refine lv_iinc (v := (x2_48 + (1 : Int32))) (lv' := [(2, .int (x2_48 + (1 : Int32))), (0, .ref (ad 26)), (1, .int a1)]) hx hb dX2_die_61 hl (k := 0) rfl rfl (by decide) rfl (fun ls hl => ?_)
          refine lv_goto (tgt := 48) hx hb dX2_die_64 (by decide) ?_
          have e48_2 : (x2_48 + (1 : Int32)).toInt = _ := ti_of (oI_add (oI_at x2_48) (oI_lit (x := 1) (a := 1) rfl)) (by omega)
          exact ih48 (x2_48 + (1 : Int32)) u6 _ _ ls ((show 0 ≤ (x2_48 + (1 : Int32)).toInt ∧ (x2_48 + (1 : Int32)).toInt ≤ 6 ∧ (x2_48 + (1 : Int32)).toInt + n48 = 7 from by omega)) hF h (lv_sub hl [0, 1, 2] rfl)
    have q48_2 : (0 : Int32).toInt = 0 := rfl
    exact L48 7 (0 : Int32) (sa σ 27 (upd (upd (σ.2.1 27) 1 (((σ.2.1 27) 1) &&& (((1 : Int32) <<< (a1 &&& 31)) ^^^ ((-1) : Int32)))) 0 (if (((σ.2.1 27) 0) + v2) < (9999 : Int32) then (((σ.2.1 27) 0) + v2) else (9999 : Int32)))) _ _ ls ((show 0 ≤ (0 : Int32).toInt ∧ (0 : Int32).toInt ≤ 6 ∧ (0 : Int32).toInt + (7 : Nat) = 7 from by omega)) hF h (lv_sub hl [0, 1, 2] rfl)
  · have ic1 : (F_X2_isCaravan a1).toInt = 0 := i_eq c1
    have hF := (if_pos c1).symm.trans hF
    exact g_vret E hr hlk h hQ (congrArg (fun u => gws ad cI cZ u τ) hF) dX2_die_7

def F_X1_begin_k5_2 (σ : St) (u1 : St) : St := (si u1 802 (0 : Int32))
def F_X1_begin (σ : St) : St := (F_X1_begin_k5_2 σ (F_X2_become_NT σ))
abbrev I_X1_begin : List Nat := [802]
abbrev A_X1_begin : List Nat := [27]
theorem fr_F_X1_begin_k5_2 (σ : St) (u1 : St) (hfr : Fr I_X1_begin A_X1_begin false σ (u1)) : Fr I_X1_begin A_X1_begin false σ (F_X1_begin_k5_2  σ u1) := (Fr.si (by decide) hfr)
theorem fr_F_X1_begin (σ : St) : Fr I_X1_begin A_X1_begin false σ (F_X1_begin σ) := (fr_F_X1_begin_k5_2 σ (F_X2_become_NT σ) (Fr.tr Fr.rf (Fr.mono (by decide) (by decide) (by decide) (fr_F_X2_become_NT σ))))
set_option maxHeartbeats 4000000 in
set_option maxRecDepth 20000 in
theorem c_X1_begin (l : Launch) (D : va_G) (cI cZ : ClassId) (z : Nat) (ad : Nat → Nat) (σ τ : St) : gM l yX1_begin cX1_begin 2 none 2 D cI cZ z (gws ad cI cZ σ τ) [.ref (ad 25), .ref (ad 11)] none (gws ad cI cZ (F_X1_begin σ) τ) := by
  refine g_met (own := RX1) (by decide) rfl (Nat.le_of_ble_eq_true rfl) (fun p e s m below meth c ls Q E hr hlk h hl hQ => ?_)
  have hx := E.1
  have hb := E.2.1
  have hF : (F_X1_begin σ) = (F_X1_begin σ) := rfl
  have hl : lv_has ls 2 [(0, .ref (ad 25)), (1, .ref (ad 11))] := hl
  refine lv_aload_n hx hb dX1_begin_0 rfl (lv_at hl 0 rfl) ?_
  refine g_get (v := .ref (ad 26)) E h 25 rfl rfl layX1 0 (by decide) rfl mw_117 rfl dX1_begin_1 ?_
  refine lv_aload_n hx hb dX1_begin_4 rfl (lv_at hl 1 rfl) ?_
  refine g_callVUv (F_X2_become_NT σ) (fun u => gws ad cI cZ u τ) (rest := []) E h (c_X2_become_NT l D cI cZ z ad σ τ) mw_373 cbX2_become 26 rfl rfl ⟨by decide, by decide⟩ rfl rfl hl.1 (Nat.le_of_ble_eq_true rfl) ⟨Nat.zero_le _, Nat.zero_le _⟩ dX1_begin_5 (fun u1 huu1 H locs h => ?_)
  have hF : F_X1_begin_k5_2 σ u1 = (F_X1_begin σ) := by rw [← huu1]; exact hF
  refine lv_aload_n hx hb dX1_begin_8 rfl (lv_at hl 0 rfl) ?_
  refine lv_iconst (v := 0) hx hb dX1_begin_9 (by decide) ?_
  refine g_put (v := .int (0 : Int32)) (ty := .int) (ws' := gws ad cI cZ (si u1 802 (0 : Int32)) τ) E h 25 rfl rfl layX1 tyX1 tyX1_ok nmX1 2 (by decide) rfl mw_120 rfl rfl rfl rfl (Nat.le_of_ble_eq_true rfl) (gi_802 ad cI cZ u1 τ (0 : Int32)) dX1_begin_10 (fun H locs h => ?_)
  exact g_vret E hr hlk h hQ (congrArg (fun u => gws ad cI cZ u τ) hF) dX1_begin_13

def F_X1_remember_k44_3 (σ : St) (u2 : St) : St := (si u2 802 ((u2.1 802) + (1 : Int32)))
def F_X1_remember_k44_6 (σ : St) (u5 : St) : St := (si u5 802 ((u5.1 802) + (1 : Int32)))
def F_X1_remember (σ : St) : St := (if (σ.1 802) < (10 : Int32) then (F_X1_remember_k44_3 σ (F_X2_writeTo σ (σ.1 802))) else (F_X1_remember_k44_6 σ (F_X2_writeTo (si (sa σ 28 (va_cpy (σ.2.1 28) (σ.2.1 28) 74 0 666)) 802 (9 : Int32)) (9 : Int32))))
abbrev I_X1_remember : List Nat := [802]
abbrev A_X1_remember : List Nat := [28]
theorem fr_F_X1_remember_k44_3 (σ : St) (u2 : St) (hfr : Fr I_X1_remember A_X1_remember false σ (u2)) : Fr I_X1_remember A_X1_remember false σ (F_X1_remember_k44_3  σ u2) := (Fr.si (by decide) hfr)
theorem fr_F_X1_remember_k44_6 (σ : St) (u5 : St) (hfr : Fr I_X1_remember A_X1_remember false σ (u5)) : Fr I_X1_remember A_X1_remember false σ (F_X1_remember_k44_6  σ u5) := (Fr.si (by decide) hfr)
theorem fr_F_X1_remember (σ : St) : Fr I_X1_remember A_X1_remember false σ (F_X1_remember σ) := (fr_ite1 (fr_F_X1_remember_k44_3 σ (F_X2_writeTo σ (σ.1 802)) (Fr.tr Fr.rf (Fr.mono (by decide) (by decide) (by decide) (fr_F_X2_writeTo σ (σ.1 802))))) (fr_F_X1_remember_k44_6 σ (F_X2_writeTo (si (sa σ 28 (va_cpy (σ.2.1 28) (σ.2.1 28) 74 0 666)) 802 (9 : Int32)) (9 : Int32)) (Fr.tr (Fr.si (by decide) (Fr.sa (by decide) Fr.rf)) (Fr.mono (by decide) (by decide) (by decide) (fr_F_X2_writeTo (si (sa σ 28 (va_cpy (σ.2.1 28) (σ.2.1 28) 74 0 666)) 802 (9 : Int32)) (9 : Int32))))))
set_option maxHeartbeats 4000000 in
set_option maxRecDepth 20000 in
theorem c_X1_remember (l : Launch) (D : va_G) (cI cZ : ClassId) (z : Nat) (ad : Nat → Nat) (σ τ : St) (hp : 0 ≤ (σ.1 802).toInt ∧ (σ.1 802).toInt ≤ 10) : gM l yX1_remember cX1_remember 1 none 2 D cI cZ z (gws ad cI cZ σ τ) [.ref (ad 25)] none (gws ad cI cZ (F_X1_remember σ) τ) := by
  refine g_met (own := RX1) (by decide) rfl (Nat.le_of_ble_eq_true rfl) (fun p e s m below meth c ls Q E hr hlk h hl hQ => ?_)
  have hx := E.1
  have hb := E.2.1
  have hF : (F_X1_remember σ) = (F_X1_remember σ) := rfl
  have hl : lv_has ls 1 [(0, .ref (ad 25))] := hl
  refine lv_aload_n hx hb dX1_remember_0 rfl (lv_at hl 0 rfl) ?_
  refine g_get (v := .int (σ.1 802)) E h 25 rfl rfl layX1 2 (by decide) rfl mw_120 rfl dX1_remember_1 ?_
  refine lv_bipush (v := 10) hx hb dX1_remember_4 (by decide) ?_
  refine lv_icmp_lt (tgt := 32) hx hb dX1_remember_6 (by decide) (fun c1 => ?_) (fun c1 => ?_)
  · have ic1 : (σ.1 802).toInt < 10 := i_lt c1
    have hF := (if_pos c1).symm.trans hF
    refine lv_aload_n hx hb dX1_remember_32 rfl (lv_at hl 0 rfl) ?_
    refine g_get (v := .ref (ad 26)) E h 25 rfl rfl layX1 0 (by decide) rfl mw_117 rfl dX1_remember_33 ?_
    refine lv_aload_n hx hb dX1_remember_36 rfl (lv_at hl 0 rfl) ?_
    refine g_get (v := .ref (ad 28)) E h 25 rfl rfl layX1 1 (by decide) rfl mw_119 rfl dX1_remember_37 ?_
    refine lv_aload_n hx hb dX1_remember_40 rfl (lv_at hl 0 rfl) ?_
    refine g_get (v := .int (σ.1 802)) E h 25 rfl rfl layX1 2 (by decide) rfl mw_120 rfl dX1_remember_41 ?_
    refine g_callVUv (F_X2_writeTo σ (σ.1 802)) (fun u => gws ad cI cZ u τ) (rest := []) E h (c_X2_writeTo l D cI cZ z ad σ τ (σ.1 802) (show 0 ≤ (σ.1 802).toInt ∧ (σ.1 802).toInt < 10 from by omega)) mw_513 cbX2_writeTo 26 rfl rfl ⟨by decide, by decide⟩ rfl rfl hl.1 (Nat.le_of_ble_eq_true rfl) ⟨Nat.zero_le _, Nat.zero_le _⟩ dX1_remember_44 (fun u2 huu2 H locs h => ?_)
    have hF : F_X1_remember_k44_3 σ u2 = (F_X1_remember σ) := by rw [← huu2]; exact hF
    refine lv_aload_n hx hb dX1_remember_47 rfl (lv_at hl 0 rfl) ?_
    refine lv_dup hx hb dX1_remember_48 rfl ?_
    refine g_get (v := .int (u2.1 802)) E h 25 rfl rfl layX1 2 (by decide) rfl mw_120 rfl dX1_remember_49 ?_
    refine lv_iconst (v := 1) hx hb dX1_remember_52 (by decide) ?_
    refine lv_iadd hx hb dX1_remember_53 ?_
    refine g_put (v := .int ((u2.1 802) + (1 : Int32))) (ty := .int) (ws' := gws ad cI cZ (si u2 802 ((u2.1 802) + (1 : Int32))) τ) E h 25 rfl rfl layX1 tyX1 tyX1_ok nmX1 2 (by decide) rfl mw_120 rfl rfl rfl rfl (Nat.le_of_ble_eq_true rfl) (gi_802 ad cI cZ u2 τ ((u2.1 802) + (1 : Int32))) dX1_remember_54 (fun H locs h => ?_)
    exact g_vret E hr hlk h hQ (congrArg (fun u => gws ad cI cZ u τ) hF) dX1_remember_57
  · have ic1 : 10 ≤ (σ.1 802).toInt := i_nlt c1
    have hF := (if_neg c1).symm.trans hF
    refine lv_aload_n hx hb dX1_remember_9 rfl (lv_at hl 0 rfl) ?_
    refine g_get (v := .ref (ad 28)) E h 25 rfl rfl layX1 1 (by decide) rfl mw_119 rfl dX1_remember_10 ?_
    refine lv_bipush (v := 74) hx hb dX1_remember_13 (by decide) ?_
    refine lv_aload_n hx hb dX1_remember_15 rfl (lv_at hl 0 rfl) ?_
    refine g_get (v := .ref (ad 28)) E h 25 rfl rfl layX1 1 (by decide) rfl mw_119 rfl dX1_remember_16 ?_
    refine lv_iconst (v := 0) hx hb dX1_remember_19 (by decide) ?_
    refine lv_sipush (v := 666) hx hb dX1_remember_20 (by decide) ?_
    refine g_copy (sp := (74 : Int32)) (dp := (0 : Int32)) (n := (666 : Int32)) (f := (σ.2.1 28)) (g := (σ.2.1 28)) (ws' := gws ad cI cZ (sa σ 28 (va_cpy (σ.2.1 28) (σ.2.1 28) 74 0 666)) τ) E h 28 28 rfl rfl (by decide) (by decide) (by decide) (by decide) (by decide) hl.1 mw_512 mw_379 mw_378 mw_13 (by decide) (Nat.le_of_ble_eq_true rfl) (ga_28 ad cI cZ σ τ (va_cpy (σ.2.1 28) (σ.2.1 28) 74 0 666)) dX1_remember_23 (fun H locs h => ?_)
    refine lv_aload_n hx hb dX1_remember_26 rfl (lv_at hl 0 rfl) ?_
    refine lv_bipush (v := 9) hx hb dX1_remember_27 (by decide) ?_
    refine g_put (v := .int (9 : Int32)) (ty := .int) (ws' := gws ad cI cZ (si (sa σ 28 (va_cpy (σ.2.1 28) (σ.2.1 28) 74 0 666)) 802 (9 : Int32)) τ) E h 25 rfl rfl layX1 tyX1 tyX1_ok nmX1 2 (by decide) rfl mw_120 rfl rfl rfl rfl (Nat.le_of_ble_eq_true rfl) (gi_802 ad cI cZ (sa σ 28 (va_cpy (σ.2.1 28) (σ.2.1 28) 74 0 666)) τ (9 : Int32)) dX1_remember_29 (fun H locs h => ?_)
    refine lv_aload_n hx hb dX1_remember_32 rfl (lv_at hl 0 rfl) ?_
    refine g_get (v := .ref (ad 26)) E h 25 rfl rfl layX1 0 (by decide) rfl mw_117 rfl dX1_remember_33 ?_
    refine lv_aload_n hx hb dX1_remember_36 rfl (lv_at hl 0 rfl) ?_
    refine g_get (v := .ref (ad 28)) E h 25 rfl rfl layX1 1 (by decide) rfl mw_119 rfl dX1_remember_37 ?_
    refine lv_aload_n hx hb dX1_remember_40 rfl (lv_at hl 0 rfl) ?_
    refine g_get (v := .int (9 : Int32)) E h 25 rfl rfl layX1 2 (by decide) rfl mw_120 rfl dX1_remember_41 ?_
    have w4 : (9 : Int32).toInt = 9 := rfl
    refine g_callVUv (F_X2_writeTo (si (sa σ 28 (va_cpy (σ.2.1 28) (σ.2.1 28) 74 0 666)) 802 (9 : Int32)) (9 : Int32)) (fun u => gws ad cI cZ u τ) (rest := []) E h (c_X2_writeTo l D cI cZ z ad (si (sa σ 28 (va_cpy (σ.2.1 28) (σ.2.1 28) 74 0 666)) 802 (9 : Int32)) τ (9 : Int32) (show 0 ≤ (9 : Int32).toInt ∧ (9 : Int32).toInt < 10 from by omega)) mw_513 cbX2_writeTo 26 rfl rfl ⟨by decide, by decide⟩ rfl rfl hl.1 (Nat.le_of_ble_eq_true rfl) ⟨Nat.zero_le _, Nat.zero_le _⟩ dX1_remember_44 (fun u5 huu5 H locs h => ?_)
    have hF : F_X1_remember_k44_6 σ u5 = (F_X1_remember σ) := by rw [← huu5]; exact hF
    refine lv_aload_n hx hb dX1_remember_47 rfl (lv_at hl 0 rfl) ?_
    refine lv_dup hx hb dX1_remember_48 rfl ?_
    refine g_get (v := .int (u5.1 802)) E h 25 rfl rfl layX1 2 (by decide) rfl mw_120 rfl dX1_remember_49 ?_
    refine lv_iconst (v := 1) hx hb dX1_remember_52 (by decide) ?_
    refine lv_iadd hx hb dX1_remember_53 ?_
    refine g_put (v := .int ((u5.1 802) + (1 : Int32))) (ty := .int) (ws' := gws ad cI cZ (si u5 802 ((u5.1 802) + (1 : Int32))) τ) E h 25 rfl rfl layX1 tyX1 tyX1_ok nmX1 2 (by decide) rfl mw_120 rfl rfl rfl rfl (Nat.le_of_ble_eq_true rfl) (gi_802 ad cI cZ u5 τ ((u5.1 802) + (1 : Int32))) dX1_remember_54 (fun H locs h => ?_)
    exact g_vret E hr hlk h hQ (congrArg (fun u => gws ad cI cZ u τ) hF) dX1_remember_57

def F_X1_takeBack_k31_4 (σ : St) (u3 : St) : Int32 × St := ((1 : Int32), u3)
def F_X1_takeBack (σ : St) : Int32 × St := (if 0 < (σ.1 802) then (F_X1_takeBack_k31_4 σ (F_X2_readFrom (si σ 802 ((σ.1 802) - (1 : Int32))) ((σ.1 802) - (1 : Int32)))) else ((0 : Int32), σ))
abbrev I_X1_takeBack : List Nat := [802]
abbrev A_X1_takeBack : List Nat := [27]
theorem fr_F_X1_takeBack_k31_4 (σ : St) (u3 : St) (hfr : Fr I_X1_takeBack A_X1_takeBack false σ (u3)) : Fr I_X1_takeBack A_X1_takeBack false σ (F_X1_takeBack_k31_4  σ u3).2 := hfr
theorem fr_F_X1_takeBack (σ : St) : Fr I_X1_takeBack A_X1_takeBack false σ (F_X1_takeBack σ).2 := (fr_ite2 (fr_F_X1_takeBack_k31_4 σ (F_X2_readFrom (si σ 802 ((σ.1 802) - (1 : Int32))) ((σ.1 802) - (1 : Int32))) (Fr.tr (Fr.si (by decide) Fr.rf) (Fr.mono (by decide) (by decide) (by decide) (fr_F_X2_readFrom (si σ 802 ((σ.1 802) - (1 : Int32))) ((σ.1 802) - (1 : Int32)))))) Fr.rf)
set_option maxHeartbeats 4000000 in
set_option maxRecDepth 20000 in
theorem c_X1_takeBack (l : Launch) (D : va_G) (cI cZ : ClassId) (z : Nat) (ad : Nat → Nat) (σ τ : St) (hp : 0 ≤ (σ.1 802).toInt ∧ (σ.1 802).toInt ≤ 10) : gM l yX1_takeBack cX1_takeBack 1 (some .boolean) 2 D cI cZ z (gws ad cI cZ σ τ) [.ref (ad 25)] (some (.int (F_X1_takeBack σ).1)) (gws ad cI cZ (F_X1_takeBack σ).2 τ) := by
  refine g_met (own := RX1) (by decide) rfl (Nat.le_of_ble_eq_true rfl) (fun p e s m below meth c ls Q E hr hlk h hl hQ => ?_)
  have hx := E.1
  have hb := E.2.1
  have hF : (F_X1_takeBack σ) = (F_X1_takeBack σ) := rfl
  have hl : lv_has ls 1 [(0, .ref (ad 25))] := hl
  refine lv_aload_n hx hb dX1_takeBack_0 rfl (lv_at hl 0 rfl) ?_
  refine g_get (v := .int (σ.1 802)) E h 25 rfl rfl layX1 2 (by decide) rfl mw_120 rfl dX1_takeBack_1 ?_
  refine lv_if_gt (tgt := 9) hx hb dX1_takeBack_4 (by decide) (fun c1 => ?_) (fun c1 => ?_)
  · have ic1 : 0 < (σ.1 802).toInt := i_lt c1
    have hF := (if_pos c1).symm.trans hF
    refine lv_aload_n hx hb dX1_takeBack_9 rfl (lv_at hl 0 rfl) ?_
    refine lv_dup hx hb dX1_takeBack_10 rfl ?_
    refine g_get (v := .int (σ.1 802)) E h 25 rfl rfl layX1 2 (by decide) rfl mw_120 rfl dX1_takeBack_11 ?_
    refine lv_iconst (v := 1) hx hb dX1_takeBack_14 (by decide) ?_
    refine lv_isub hx hb dX1_takeBack_15 ?_
    refine g_put (v := .int ((σ.1 802) - (1 : Int32))) (ty := .int) (ws' := gws ad cI cZ (si σ 802 ((σ.1 802) - (1 : Int32))) τ) E h 25 rfl rfl layX1 tyX1 tyX1_ok nmX1 2 (by decide) rfl mw_120 rfl rfl rfl rfl (Nat.le_of_ble_eq_true rfl) (gi_802 ad cI cZ σ τ ((σ.1 802) - (1 : Int32))) dX1_takeBack_16 (fun H locs h => ?_)
    refine lv_aload_n hx hb dX1_takeBack_19 rfl (lv_at hl 0 rfl) ?_
    refine g_get (v := .ref (ad 26)) E h 25 rfl rfl layX1 0 (by decide) rfl mw_117 rfl dX1_takeBack_20 ?_
    refine lv_aload_n hx hb dX1_takeBack_23 rfl (lv_at hl 0 rfl) ?_
    refine g_get (v := .ref (ad 28)) E h 25 rfl rfl layX1 1 (by decide) rfl mw_119 rfl dX1_takeBack_24 ?_
    refine lv_aload_n hx hb dX1_takeBack_27 rfl (lv_at hl 0 rfl) ?_
    refine g_get (v := .int ((σ.1 802) - (1 : Int32))) E h 25 rfl rfl layX1 2 (by decide) rfl mw_120 rfl dX1_takeBack_28 ?_
    have w2 : ((σ.1 802) - (1 : Int32)).toInt = _ := ti_of (oI_sub (oI_at (σ.1 802)) (oI_lit (x := 1) (a := 1) rfl)) (by omega)
    refine g_callVUv (F_X2_readFrom (si σ 802 ((σ.1 802) - (1 : Int32))) ((σ.1 802) - (1 : Int32))) (fun u => gws ad cI cZ u τ) (rest := []) E h (c_X2_readFrom l D cI cZ z ad (si σ 802 ((σ.1 802) - (1 : Int32))) τ ((σ.1 802) - (1 : Int32)) (show 0 ≤ ((σ.1 802) - (1 : Int32)).toInt ∧ ((σ.1 802) - (1 : Int32)).toInt < 10 from by omega)) mw_592 cbX2_readFrom 26 rfl rfl ⟨by decide, by decide⟩ rfl rfl hl.1 (Nat.le_of_ble_eq_true rfl) ⟨Nat.zero_le _, Nat.zero_le _⟩ dX1_takeBack_31 (fun u3 huu3 H locs h => ?_)
    have hF : F_X1_takeBack_k31_4 σ u3 = (F_X1_takeBack σ) := by rw [← huu3]; exact hF
    refine lv_iconst (v := 1) hx hb dX1_takeBack_34 (by decide) ?_
    exact g_zret E hr hlk h hQ (rfl) (fst_of hF) (snd_of hF (fun u => gws ad cI cZ u τ)) dX1_takeBack_35
  · have ic1 : (σ.1 802).toInt ≤ 0 := i_nlt c1
    have hF := (if_neg c1).symm.trans hF
    refine lv_iconst (v := 0) hx hb dX1_takeBack_7 (by decide) ?_
    exact g_zret E hr hlk h hQ (rfl) (fst_of hF) (snd_of hF (fun u => gws ad cI cZ u τ)) dX1_takeBack_8

def F_X1_become_NZ_k8_2 (σ : St) (u1 : St) : St := (si (sa u1 28 (va_cpy (u1.2.1 32) (u1.2.1 28) 0 0 740)) 802 (u1.1 930))
def F_X1_become_NZ (σ : St) : St := (F_X1_become_NZ_k8_2 σ (F_X2_become_NZ σ))
abbrev I_X1_become_NZ : List Nat := [802]
abbrev A_X1_become_NZ : List Nat := [27, 28]
theorem fr_F_X1_become_NZ_k8_2 (σ : St) (u1 : St) (hfr : Fr I_X1_become_NZ A_X1_become_NZ false σ (u1)) : Fr I_X1_become_NZ A_X1_become_NZ false σ (F_X1_become_NZ_k8_2  σ u1) := (Fr.si (by decide) (Fr.sa (by decide) hfr))
theorem fr_F_X1_become_NZ (σ : St) : Fr I_X1_become_NZ A_X1_become_NZ false σ (F_X1_become_NZ σ) := (fr_F_X1_become_NZ_k8_2 σ (F_X2_become_NZ σ) (Fr.tr Fr.rf (Fr.mono (by decide) (by decide) (by decide) (fr_F_X2_become_NZ σ))))
set_option maxHeartbeats 4000000 in
set_option maxRecDepth 20000 in
theorem c_X1_become_NZ (l : Launch) (D : va_G) (cI cZ : ClassId) (z : Nat) (ad : Nat → Nat) (σ τ : St) : gM l yX1_become cX1_become 2 none 2 D cI cZ z (gws ad cI cZ σ τ) [.ref (ad 25), .ref (ad 29)] none (gws ad cI cZ (F_X1_become_NZ σ) τ) := by
  refine g_met (own := RX1) (by decide) rfl (Nat.le_of_ble_eq_true rfl) (fun p e s m below meth c ls Q E hr hlk h hl hQ => ?_)
  have hx := E.1
  have hb := E.2.1
  have hF : (F_X1_become_NZ σ) = (F_X1_become_NZ σ) := rfl
  have hl : lv_has ls 2 [(0, .ref (ad 25)), (1, .ref (ad 29))] := hl
  refine lv_aload_n hx hb dX1_become_0 rfl (lv_at hl 0 rfl) ?_
  refine g_get (v := .ref (ad 26)) E h 25 rfl rfl layX1 0 (by decide) rfl mw_117 rfl dX1_become_1 ?_
  refine lv_aload_n hx hb dX1_become_4 rfl (lv_at hl 1 rfl) ?_
  refine g_get (v := .ref (ad 30)) E h 29 rfl rfl layX1 0 (by decide) rfl mw_117 rfl dX1_become_5 ?_
  refine g_callVUv (F_X2_become_NZ σ) (fun u => gws ad cI cZ u τ) (rest := []) E h (c_X2_become_NZ l D cI cZ z ad σ τ) mw_373 cbX2_become 26 rfl rfl ⟨by decide, by decide⟩ rfl rfl hl.1 (Nat.le_of_ble_eq_true rfl) ⟨Nat.zero_le _, Nat.zero_le _⟩ dX1_become_8 (fun u1 huu1 H locs h => ?_)
  have hF : F_X1_become_NZ_k8_2 σ u1 = (F_X1_become_NZ σ) := by rw [← huu1]; exact hF
  refine lv_aload_n hx hb dX1_become_11 rfl (lv_at hl 1 rfl) ?_
  refine g_get (v := .ref (ad 32)) E h 29 rfl rfl layX1 1 (by decide) rfl mw_119 rfl dX1_become_12 ?_
  refine lv_iconst (v := 0) hx hb dX1_become_15 (by decide) ?_
  refine lv_aload_n hx hb dX1_become_16 rfl (lv_at hl 0 rfl) ?_
  refine g_get (v := .ref (ad 28)) E h 25 rfl rfl layX1 1 (by decide) rfl mw_119 rfl dX1_become_17 ?_
  refine lv_iconst (v := 0) hx hb dX1_become_20 (by decide) ?_
  refine lv_aload_n hx hb dX1_become_21 rfl (lv_at hl 0 rfl) ?_
  refine g_get (v := .ref (ad 28)) E h 25 rfl rfl layX1 1 (by decide) rfl mw_119 rfl dX1_become_22 ?_
  refine g_alen (v := 740) (f := (u1.2.1 28)) E h 28 rfl (by decide) dX1_become_25 ?_
  refine g_copy (sp := (0 : Int32)) (dp := (0 : Int32)) (n := (740 : Int32)) (f := (u1.2.1 32)) (g := (u1.2.1 28)) (ws' := gws ad cI cZ (sa u1 28 (va_cpy (u1.2.1 32) (u1.2.1 28) 0 0 740)) τ) E h 32 28 rfl rfl (by decide) (by decide) (by decide) (by decide) (by decide) hl.1 mw_512 mw_379 mw_378 mw_13 (by decide) (Nat.le_of_ble_eq_true rfl) (ga_28 ad cI cZ u1 τ (va_cpy (u1.2.1 32) (u1.2.1 28) 0 0 740)) dX1_become_26 (fun H locs h => ?_)
  refine lv_aload_n hx hb dX1_become_29 rfl (lv_at hl 0 rfl) ?_
  refine lv_aload_n hx hb dX1_become_30 rfl (lv_at hl 1 rfl) ?_
  refine g_get (v := .int (u1.1 930)) E h 29 rfl rfl layX1 2 (by decide) rfl mw_120 rfl dX1_become_31 ?_
  refine g_put (v := .int (u1.1 930)) (ty := .int) (ws' := gws ad cI cZ (si (sa u1 28 (va_cpy (u1.2.1 32) (u1.2.1 28) 0 0 740)) 802 (u1.1 930)) τ) E h 25 rfl rfl layX1 tyX1 tyX1_ok nmX1 2 (by decide) rfl mw_120 rfl rfl rfl rfl (Nat.le_of_ble_eq_true rfl) (gi_802 ad cI cZ (sa u1 28 (va_cpy (u1.2.1 32) (u1.2.1 28) 0 0 740)) τ (u1.1 930)) dX1_become_34 (fun H locs h => ?_)
  exact g_vret E hr hlk h hQ (congrArg (fun u => gws ad cI cZ u τ) hF) dX1_become_37

def F_X1_become_NO_k8_2 (σ : St) (u1 : St) : St := (si (sa u1 28 (va_cpy (u1.2.1 36) (u1.2.1 28) 0 0 740)) 802 (u1.1 1058))
def F_X1_become_NO (σ : St) : St := (F_X1_become_NO_k8_2 σ (F_X2_become_NO σ))
abbrev I_X1_become_NO : List Nat := [802]
abbrev A_X1_become_NO : List Nat := [27, 28]
theorem fr_F_X1_become_NO_k8_2 (σ : St) (u1 : St) (hfr : Fr I_X1_become_NO A_X1_become_NO false σ (u1)) : Fr I_X1_become_NO A_X1_become_NO false σ (F_X1_become_NO_k8_2  σ u1) := (Fr.si (by decide) (Fr.sa (by decide) hfr))
theorem fr_F_X1_become_NO (σ : St) : Fr I_X1_become_NO A_X1_become_NO false σ (F_X1_become_NO σ) := (fr_F_X1_become_NO_k8_2 σ (F_X2_become_NO σ) (Fr.tr Fr.rf (Fr.mono (by decide) (by decide) (by decide) (fr_F_X2_become_NO σ))))
set_option maxHeartbeats 4000000 in
set_option maxRecDepth 20000 in
theorem c_X1_become_NO (l : Launch) (D : va_G) (cI cZ : ClassId) (z : Nat) (ad : Nat → Nat) (σ τ : St) : gM l yX1_become cX1_become 2 none 2 D cI cZ z (gws ad cI cZ σ τ) [.ref (ad 25), .ref (ad 33)] none (gws ad cI cZ (F_X1_become_NO σ) τ) := by
  refine g_met (own := RX1) (by decide) rfl (Nat.le_of_ble_eq_true rfl) (fun p e s m below meth c ls Q E hr hlk h hl hQ => ?_)
  have hx := E.1
  have hb := E.2.1
  have hF : (F_X1_become_NO σ) = (F_X1_become_NO σ) := rfl
  have hl : lv_has ls 2 [(0, .ref (ad 25)), (1, .ref (ad 33))] := hl
  refine lv_aload_n hx hb dX1_become_0 rfl (lv_at hl 0 rfl) ?_
  refine g_get (v := .ref (ad 26)) E h 25 rfl rfl layX1 0 (by decide) rfl mw_117 rfl dX1_become_1 ?_
  refine lv_aload_n hx hb dX1_become_4 rfl (lv_at hl 1 rfl) ?_
  refine g_get (v := .ref (ad 34)) E h 33 rfl rfl layX1 0 (by decide) rfl mw_117 rfl dX1_become_5 ?_
  refine g_callVUv (F_X2_become_NO σ) (fun u => gws ad cI cZ u τ) (rest := []) E h (c_X2_become_NO l D cI cZ z ad σ τ) mw_373 cbX2_become 26 rfl rfl ⟨by decide, by decide⟩ rfl rfl hl.1 (Nat.le_of_ble_eq_true rfl) ⟨Nat.zero_le _, Nat.zero_le _⟩ dX1_become_8 (fun u1 huu1 H locs h => ?_)
  have hF : F_X1_become_NO_k8_2 σ u1 = (F_X1_become_NO σ) := by rw [← huu1]; exact hF
  refine lv_aload_n hx hb dX1_become_11 rfl (lv_at hl 1 rfl) ?_
  refine g_get (v := .ref (ad 36)) E h 33 rfl rfl layX1 1 (by decide) rfl mw_119 rfl dX1_become_12 ?_
  refine lv_iconst (v := 0) hx hb dX1_become_15 (by decide) ?_
  refine lv_aload_n hx hb dX1_become_16 rfl (lv_at hl 0 rfl) ?_
  refine g_get (v := .ref (ad 28)) E h 25 rfl rfl layX1 1 (by decide) rfl mw_119 rfl dX1_become_17 ?_
  refine lv_iconst (v := 0) hx hb dX1_become_20 (by decide) ?_
  refine lv_aload_n hx hb dX1_become_21 rfl (lv_at hl 0 rfl) ?_
  refine g_get (v := .ref (ad 28)) E h 25 rfl rfl layX1 1 (by decide) rfl mw_119 rfl dX1_become_22 ?_
  refine g_alen (v := 740) (f := (u1.2.1 28)) E h 28 rfl (by decide) dX1_become_25 ?_
  refine g_copy (sp := (0 : Int32)) (dp := (0 : Int32)) (n := (740 : Int32)) (f := (u1.2.1 36)) (g := (u1.2.1 28)) (ws' := gws ad cI cZ (sa u1 28 (va_cpy (u1.2.1 36) (u1.2.1 28) 0 0 740)) τ) E h 36 28 rfl rfl (by decide) (by decide) (by decide) (by decide) (by decide) hl.1 mw_512 mw_379 mw_378 mw_13 (by decide) (Nat.le_of_ble_eq_true rfl) (ga_28 ad cI cZ u1 τ (va_cpy (u1.2.1 36) (u1.2.1 28) 0 0 740)) dX1_become_26 (fun H locs h => ?_)
  refine lv_aload_n hx hb dX1_become_29 rfl (lv_at hl 0 rfl) ?_
  refine lv_aload_n hx hb dX1_become_30 rfl (lv_at hl 1 rfl) ?_
  refine g_get (v := .int (u1.1 1058)) E h 33 rfl rfl layX1 2 (by decide) rfl mw_120 rfl dX1_become_31 ?_
  refine g_put (v := .int (u1.1 1058)) (ty := .int) (ws' := gws ad cI cZ (si (sa u1 28 (va_cpy (u1.2.1 36) (u1.2.1 28) 0 0 740)) 802 (u1.1 1058)) τ) E h 25 rfl rfl layX1 tyX1 tyX1_ok nmX1 2 (by decide) rfl mw_120 rfl rfl rfl rfl (Nat.le_of_ble_eq_true rfl) (gi_802 ad cI cZ (sa u1 28 (va_cpy (u1.2.1 36) (u1.2.1 28) 0 0 740)) τ (u1.1 1058)) dX1_become_34 (fun H locs h => ?_)
  exact g_vret E hr hlk h hQ (congrArg (fun u => gws ad cI cZ u τ) hF) dX1_become_37

def F_X1_become_ZN_k8_2 (σ : St) (u1 : St) : St := (si (sa u1 32 (va_cpy (u1.2.1 28) (u1.2.1 32) 0 0 740)) 930 (u1.1 802))
def F_X1_become_ZN (σ : St) : St := (F_X1_become_ZN_k8_2 σ (F_X2_become_ZN σ))
abbrev I_X1_become_ZN : List Nat := [930]
abbrev A_X1_become_ZN : List Nat := [31, 32]
theorem fr_F_X1_become_ZN_k8_2 (σ : St) (u1 : St) (hfr : Fr I_X1_become_ZN A_X1_become_ZN false σ (u1)) : Fr I_X1_become_ZN A_X1_become_ZN false σ (F_X1_become_ZN_k8_2  σ u1) := (Fr.si (by decide) (Fr.sa (by decide) hfr))
theorem fr_F_X1_become_ZN (σ : St) : Fr I_X1_become_ZN A_X1_become_ZN false σ (F_X1_become_ZN σ) := (fr_F_X1_become_ZN_k8_2 σ (F_X2_become_ZN σ) (Fr.tr Fr.rf (Fr.mono (by decide) (by decide) (by decide) (fr_F_X2_become_ZN σ))))
set_option maxHeartbeats 4000000 in
set_option maxRecDepth 20000 in
theorem c_X1_become_ZN (l : Launch) (D : va_G) (cI cZ : ClassId) (z : Nat) (ad : Nat → Nat) (σ τ : St) : gM l yX1_become cX1_become 2 none 2 D cI cZ z (gws ad cI cZ σ τ) [.ref (ad 29), .ref (ad 25)] none (gws ad cI cZ (F_X1_become_ZN σ) τ) := by
  refine g_met (own := RX1) (by decide) rfl (Nat.le_of_ble_eq_true rfl) (fun p e s m below meth c ls Q E hr hlk h hl hQ => ?_)
  have hx := E.1
  have hb := E.2.1
  have hF : (F_X1_become_ZN σ) = (F_X1_become_ZN σ) := rfl
  have hl : lv_has ls 2 [(0, .ref (ad 29)), (1, .ref (ad 25))] := hl
  refine lv_aload_n hx hb dX1_become_0 rfl (lv_at hl 0 rfl) ?_
  refine g_get (v := .ref (ad 30)) E h 29 rfl rfl layX1 0 (by decide) rfl mw_117 rfl dX1_become_1 ?_
  refine lv_aload_n hx hb dX1_become_4 rfl (lv_at hl 1 rfl) ?_
  refine g_get (v := .ref (ad 26)) E h 25 rfl rfl layX1 0 (by decide) rfl mw_117 rfl dX1_become_5 ?_
  refine g_callVUv (F_X2_become_ZN σ) (fun u => gws ad cI cZ u τ) (rest := []) E h (c_X2_become_ZN l D cI cZ z ad σ τ) mw_373 cbX2_become 30 rfl rfl ⟨by decide, by decide⟩ rfl rfl hl.1 (Nat.le_of_ble_eq_true rfl) ⟨Nat.zero_le _, Nat.zero_le _⟩ dX1_become_8 (fun u1 huu1 H locs h => ?_)
  have hF : F_X1_become_ZN_k8_2 σ u1 = (F_X1_become_ZN σ) := by rw [← huu1]; exact hF
  refine lv_aload_n hx hb dX1_become_11 rfl (lv_at hl 1 rfl) ?_
  refine g_get (v := .ref (ad 28)) E h 25 rfl rfl layX1 1 (by decide) rfl mw_119 rfl dX1_become_12 ?_
  refine lv_iconst (v := 0) hx hb dX1_become_15 (by decide) ?_
  refine lv_aload_n hx hb dX1_become_16 rfl (lv_at hl 0 rfl) ?_
  refine g_get (v := .ref (ad 32)) E h 29 rfl rfl layX1 1 (by decide) rfl mw_119 rfl dX1_become_17 ?_
  refine lv_iconst (v := 0) hx hb dX1_become_20 (by decide) ?_
  refine lv_aload_n hx hb dX1_become_21 rfl (lv_at hl 0 rfl) ?_
  refine g_get (v := .ref (ad 32)) E h 29 rfl rfl layX1 1 (by decide) rfl mw_119 rfl dX1_become_22 ?_
  refine g_alen (v := 740) (f := (u1.2.1 32)) E h 32 rfl (by decide) dX1_become_25 ?_
  refine g_copy (sp := (0 : Int32)) (dp := (0 : Int32)) (n := (740 : Int32)) (f := (u1.2.1 28)) (g := (u1.2.1 32)) (ws' := gws ad cI cZ (sa u1 32 (va_cpy (u1.2.1 28) (u1.2.1 32) 0 0 740)) τ) E h 28 32 rfl rfl (by decide) (by decide) (by decide) (by decide) (by decide) hl.1 mw_512 mw_379 mw_378 mw_13 (by decide) (Nat.le_of_ble_eq_true rfl) (ga_32 ad cI cZ u1 τ (va_cpy (u1.2.1 28) (u1.2.1 32) 0 0 740)) dX1_become_26 (fun H locs h => ?_)
  refine lv_aload_n hx hb dX1_become_29 rfl (lv_at hl 0 rfl) ?_
  refine lv_aload_n hx hb dX1_become_30 rfl (lv_at hl 1 rfl) ?_
  refine g_get (v := .int (u1.1 802)) E h 25 rfl rfl layX1 2 (by decide) rfl mw_120 rfl dX1_become_31 ?_
  refine g_put (v := .int (u1.1 802)) (ty := .int) (ws' := gws ad cI cZ (si (sa u1 32 (va_cpy (u1.2.1 28) (u1.2.1 32) 0 0 740)) 930 (u1.1 802)) τ) E h 29 rfl rfl layX1 tyX1 tyX1_ok nmX1 2 (by decide) rfl mw_120 rfl rfl rfl rfl (Nat.le_of_ble_eq_true rfl) (gi_930 ad cI cZ (sa u1 32 (va_cpy (u1.2.1 28) (u1.2.1 32) 0 0 740)) τ (u1.1 802)) dX1_become_34 (fun H locs h => ?_)
  exact g_vret E hr hlk h hQ (congrArg (fun u => gws ad cI cZ u τ) hF) dX1_become_37

def F_X1_become_ON_k8_2 (σ : St) (u1 : St) : St := (si (sa u1 36 (va_cpy (u1.2.1 28) (u1.2.1 36) 0 0 740)) 1058 (u1.1 802))
def F_X1_become_ON (σ : St) : St := (F_X1_become_ON_k8_2 σ (F_X2_become_ON σ))
abbrev I_X1_become_ON : List Nat := [1058]
abbrev A_X1_become_ON : List Nat := [35, 36]
theorem fr_F_X1_become_ON_k8_2 (σ : St) (u1 : St) (hfr : Fr I_X1_become_ON A_X1_become_ON false σ (u1)) : Fr I_X1_become_ON A_X1_become_ON false σ (F_X1_become_ON_k8_2  σ u1) := (Fr.si (by decide) (Fr.sa (by decide) hfr))
theorem fr_F_X1_become_ON (σ : St) : Fr I_X1_become_ON A_X1_become_ON false σ (F_X1_become_ON σ) := (fr_F_X1_become_ON_k8_2 σ (F_X2_become_ON σ) (Fr.tr Fr.rf (Fr.mono (by decide) (by decide) (by decide) (fr_F_X2_become_ON σ))))
set_option maxHeartbeats 4000000 in
set_option maxRecDepth 20000 in
theorem c_X1_become_ON (l : Launch) (D : va_G) (cI cZ : ClassId) (z : Nat) (ad : Nat → Nat) (σ τ : St) : gM l yX1_become cX1_become 2 none 2 D cI cZ z (gws ad cI cZ σ τ) [.ref (ad 33), .ref (ad 25)] none (gws ad cI cZ (F_X1_become_ON σ) τ) := by
  refine g_met (own := RX1) (by decide) rfl (Nat.le_of_ble_eq_true rfl) (fun p e s m below meth c ls Q E hr hlk h hl hQ => ?_)
  have hx := E.1
  have hb := E.2.1
  have hF : (F_X1_become_ON σ) = (F_X1_become_ON σ) := rfl
  have hl : lv_has ls 2 [(0, .ref (ad 33)), (1, .ref (ad 25))] := hl
  refine lv_aload_n hx hb dX1_become_0 rfl (lv_at hl 0 rfl) ?_
  refine g_get (v := .ref (ad 34)) E h 33 rfl rfl layX1 0 (by decide) rfl mw_117 rfl dX1_become_1 ?_
  refine lv_aload_n hx hb dX1_become_4 rfl (lv_at hl 1 rfl) ?_
  refine g_get (v := .ref (ad 26)) E h 25 rfl rfl layX1 0 (by decide) rfl mw_117 rfl dX1_become_5 ?_
  refine g_callVUv (F_X2_become_ON σ) (fun u => gws ad cI cZ u τ) (rest := []) E h (c_X2_become_ON l D cI cZ z ad σ τ) mw_373 cbX2_become 34 rfl rfl ⟨by decide, by decide⟩ rfl rfl hl.1 (Nat.le_of_ble_eq_true rfl) ⟨Nat.zero_le _, Nat.zero_le _⟩ dX1_become_8 (fun u1 huu1 H locs h => ?_)
  have hF : F_X1_become_ON_k8_2 σ u1 = (F_X1_become_ON σ) := by rw [← huu1]; exact hF
  refine lv_aload_n hx hb dX1_become_11 rfl (lv_at hl 1 rfl) ?_
  refine g_get (v := .ref (ad 28)) E h 25 rfl rfl layX1 1 (by decide) rfl mw_119 rfl dX1_become_12 ?_
  refine lv_iconst (v := 0) hx hb dX1_become_15 (by decide) ?_
  refine lv_aload_n hx hb dX1_become_16 rfl (lv_at hl 0 rfl) ?_
  refine g_get (v := .ref (ad 36)) E h 33 rfl rfl layX1 1 (by decide) rfl mw_119 rfl dX1_become_17 ?_
  refine lv_iconst (v := 0) hx hb dX1_become_20 (by decide) ?_
  refine lv_aload_n hx hb dX1_become_21 rfl (lv_at hl 0 rfl) ?_
  refine g_get (v := .ref (ad 36)) E h 33 rfl rfl layX1 1 (by decide) rfl mw_119 rfl dX1_become_22 ?_
  refine g_alen (v := 740) (f := (u1.2.1 36)) E h 36 rfl (by decide) dX1_become_25 ?_
  refine g_copy (sp := (0 : Int32)) (dp := (0 : Int32)) (n := (740 : Int32)) (f := (u1.2.1 28)) (g := (u1.2.1 36)) (ws' := gws ad cI cZ (sa u1 36 (va_cpy (u1.2.1 28) (u1.2.1 36) 0 0 740)) τ) E h 28 36 rfl rfl (by decide) (by decide) (by decide) (by decide) (by decide) hl.1 mw_512 mw_379 mw_378 mw_13 (by decide) (Nat.le_of_ble_eq_true rfl) (ga_36 ad cI cZ u1 τ (va_cpy (u1.2.1 28) (u1.2.1 36) 0 0 740)) dX1_become_26 (fun H locs h => ?_)
  refine lv_aload_n hx hb dX1_become_29 rfl (lv_at hl 0 rfl) ?_
  refine lv_aload_n hx hb dX1_become_30 rfl (lv_at hl 1 rfl) ?_
  refine g_get (v := .int (u1.1 802)) E h 25 rfl rfl layX1 2 (by decide) rfl mw_120 rfl dX1_become_31 ?_
  refine g_put (v := .int (u1.1 802)) (ty := .int) (ws' := gws ad cI cZ (si (sa u1 36 (va_cpy (u1.2.1 28) (u1.2.1 36) 0 0 740)) 1058 (u1.1 802)) τ) E h 33 rfl rfl layX1 tyX1 tyX1_ok nmX1 2 (by decide) rfl mw_120 rfl rfl rfl rfl (Nat.le_of_ble_eq_true rfl) (gi_1058 ad cI cZ (sa u1 36 (va_cpy (u1.2.1 28) (u1.2.1 36) 0 0 740)) τ (u1.1 802)) dX1_become_34 (fun H locs h => ?_)
  exact g_vret E hr hlk h hQ (congrArg (fun u => gws ad cI cZ u τ) hF) dX1_become_37
