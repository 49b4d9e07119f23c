def F_X7_heatOver (σ : St) (a2 : Int32) (a3 : Int32) : Int32 := (if (F_X4_otherEnd σ a2 a3) < (0 : Int32) then (1000 : Int32) else (if (6 : Int32) ≤ (F_X4_otherEnd σ a2 a3) then (1000 : Int32) else (if ((F_X4_heatOf σ a2) + ((σ.2.1 44) (F_X4_otherEnd σ a2 a3).toNatClampNeg)) < (1000 : Int32) then ((F_X4_heatOf σ a2) + ((σ.2.1 44) (F_X4_otherEnd σ a2 a3).toNatClampNeg)) else (1000 : Int32))))
set_option maxHeartbeats 4000000 in
set_option maxRecDepth 20000 in
theorem c_X7_heatOver (l : Launch) (D : va_G) (cI cZ : ClassId) (z : Nat) (ad : Nat → Nat) (σ τ : St) (a2 a3 : Int32) : gM l yX7_heatOver cX7_heatOver 5 (some .int) 4 D cI cZ z (gws ad cI cZ σ τ) [.ref (ad 43), .ref (ad 3), .int a2, .int a3] (some (.int (F_X7_heatOver σ a2 a3))) (gws ad cI cZ σ τ) := by
  refine g_met (own := RX7) (by decide) rfl (Nat.le_of_ble_eq_true rfl) (fun p e s m below meth c ls Q E hr hlk h hl hQ => ?_)
  have hx := E.1
  have hb := E.2.1
  have hF : (F_X7_heatOver σ a2 a3) = (F_X7_heatOver σ a2 a3) := rfl
  have hl : lv_has ls 5 [(0, .ref (ad 43)), (1, .ref (ad 3)), (2, .int a2), (3, .int a3)] := hl
  refine lv_aload_n hx hb dX7_heatOver_0 rfl (lv_at hl 1 rfl) ?_
  refine lv_iload_n hx hb dX7_heatOver_1 rfl (lv_at hl 2 rfl) ?_
  refine lv_iload_n hx hb dX7_heatOver_2 rfl (lv_at hl 3 rfl) ?_
  refine g_callVi (rest := []) E h (c_X4_otherEnd l D cI cZ z ad σ τ a2 a3) mw_661 cbX4_otherEnd 3 rfl rfl ⟨by decide, by decide⟩ rfl rfl hl.1 (Nat.le_of_ble_eq_true rfl) ⟨Nat.zero_le _, Nat.zero_le _⟩ dX7_heatOver_3 (fun H locs h => ?_)
  refine lv_istore (lv' := [(4, .int (F_X4_otherEnd σ a2 a3)), (0, .ref (ad 43)), (1, .ref (ad 3)), (2, .int a2), (3, .int a3)]) hx hb dX7_heatOver_6 hl (by decide) rfl (fun ls hl => ?_)
  refine lv_iconst (v := 0) hx hb dX7_heatOver_8 (by decide) ?_
  refine lv_iload hx hb dX7_heatOver_9 (lv_at hl 0 rfl) ?_
  refine lv_icmp_gt (tgt := 43) hx hb dX7_heatOver_11 (by decide) (fun c1 => ?_) (fun c1 => ?_)
  · have ic1 : (F_X4_otherEnd σ a2 a3).toInt < 0 := i_lt c1
    have hF := (if_pos c1).symm.trans hF
    refine lv_sipush (v := 1000) hx hb dX7_heatOver_43 (by decide) ?_
    exact g_iret E hr hlk h hQ hF rfl dX7_heatOver_46
  · have ic1 : 0 ≤ (F_X4_otherEnd σ a2 a3).toInt := i_nlt c1
    have hF := (if_neg c1).symm.trans hF
    refine lv_iload hx hb dX7_heatOver_14 (lv_at hl 0 rfl) ?_
    refine lv_bipush (v := 6) hx hb dX7_heatOver_16 (by decide) ?_
    refine lv_icmp_ge (tgt := 43) hx hb dX7_heatOver_18 (by decide) (fun c2 => ?_) (fun c2 => ?_)
    · have ic2 : 6 ≤ (F_X4_otherEnd σ a2 a3).toInt := i_le c2
      have hF := (if_pos c2).symm.trans hF
      refine lv_sipush (v := 1000) hx hb dX7_heatOver_43 (by decide) ?_
      exact g_iret E hr hlk h hQ hF rfl dX7_heatOver_46
    · have ic2 : (F_X4_otherEnd σ a2 a3).toInt < 6 := i_nle c2
      have hF := (if_neg c2).symm.trans hF
      refine lv_sipush (v := 1000) hx hb dX7_heatOver_21 (by decide) ?_
      refine lv_aload_n hx hb dX7_heatOver_24 rfl (lv_at hl 2 rfl) ?_
      refine lv_iload_n hx hb dX7_heatOver_25 rfl (lv_at hl 3 rfl) ?_
      refine g_callVi (rest := [.int (1000 : Int32)]) E h (c_X4_heatOf l D cI cZ z ad σ τ a2) mw_662 cbX4_heatOf 3 rfl rfl ⟨by decide, by decide⟩ rfl rfl hl.1 (Nat.le_of_ble_eq_true rfl) ⟨Nat.zero_le _, Nat.zero_le _⟩ dX7_heatOver_26 (fun H locs h => ?_)
      refine lv_aload_n hx hb dX7_heatOver_29 rfl (lv_at hl 1 rfl) ?_
      refine g_get (v := .ref (ad 44)) E h 43 rfl rfl layX7 0 (by decide) rfl mw_173 rfl dX7_heatOver_30 ?_
      refine lv_iload hx hb dX7_heatOver_33 (lv_at hl 0 rfl) ?_
      refine g_iald (f := (σ.2.1 44)) E h 44 rfl (ix_of (oI_at (F_X4_otherEnd σ a2 a3)) (by omega) (by decide)) dX7_heatOver_35 ?_
      refine lv_iadd hx hb dX7_heatOver_36 ?_
      refine g_min E hl.1 mw_663 mw_298 mw_12 mw_299 (by decide) (Nat.le_of_ble_eq_true rfl) ⟨Nat.zero_le _, Nat.zero_le _⟩ dX7_heatOver_37 ?_
      refine lv_goto (tgt := 46) hx hb dX7_heatOver_40 (by decide) ?_
      exact g_iret E hr hlk h hQ hF rfl dX7_heatOver_46

def F_X7_firstOnto_L3 : Nat → St → Int32 → Int32 → Int32 → Int32
  | 0, _, _, _, _ => 0
  | n + 1, σ, a2, a3, x4_3 => (if (σ.1 97) ≤ x4_3 then ((-9) : Int32) else (if a3 < (F_X7_heatOver σ x4_3 a2) then (F_X7_firstOnto_L3  n σ a2 a3 (x4_3 + (1 : Int32))) else x4_3))
def F_X7_firstOnto (σ : St) (a2 : Int32) (a3 : Int32) : Int32 := (F_X7_firstOnto_L3  9 σ a2 a3 (0 : Int32))
set_option maxHeartbeats 4000000 in
set_option maxRecDepth 20000 in
theorem c_X7_firstOnto (l : Launch) (D : va_G) (cI cZ : ClassId) (z : Nat) (ad : Nat → Nat) (σ τ : St) (a2 a3 : Int32) (hp : (σ.1 97).toInt ≤ 8) : gM l yX7_firstOnto cX7_firstOnto 5 (some .int) 5 D cI cZ z (gws ad cI cZ σ τ) [.ref (ad 43), .ref (ad 3), .int a2, .int a3] (some (.int (F_X7_firstOnto σ a2 a3))) (gws ad cI cZ σ τ) := by
  refine g_met (own := RX7) (by decide) rfl (Nat.le_of_ble_eq_true rfl) (fun p e s m below meth c ls Q E hr hlk h hl hQ => ?_)
  have hx := E.1
  have hb := E.2.1
  have hF : (F_X7_firstOnto σ a2 a3) = (F_X7_firstOnto σ a2 a3) := rfl
  have hl : lv_has ls 5 [(0, .ref (ad 43)), (1, .ref (ad 3)), (2, .int a2), (3, .int a3)] := hl
  refine lv_iconst (v := 0) hx hb dX7_firstOnto_0 (by decide) ?_
  refine lv_istore (lv' := [(4, .int (0 : Int32)), (0, .ref (ad 43)), (1, .ref (ad 3)), (2, .int a2), (3, .int a3)]) hx hb dX7_firstOnto_1 hl (by decide) rfl (fun ls hl => ?_)
  have L3 : ∀ (n3 : Nat) (x4_3 : Int32) (H : Heap) (locs : List Loc) (ls : Array Slot), (0 ≤ x4_3.toInt ∧ x4_3.toInt ≤ 8 ∧ x4_3.toInt + n3 = 9) → F_X7_firstOnto_L3  n3 σ a2 a3 x4_3 = (F_X7_firstOnto σ a2 a3) → gH D z s (gws ad cI cZ σ τ) H locs → lv_has ls 5 [(4, .int x4_3), (0, .ref (ad 43)), (1, .ref (ad 3)), (2, .int a2), (3, .int a3)] → W p l e (rmH 5) s m ([.ref (ad 43), .ref (ad 3), .int a2, .int a3] : List Value).toArray below meth c H locs 0 0 Q (F0 m 3 ls []) := by
    clear hF h hl
    intro n3
    induction n3 with
    | zero =>
      intro x4_3 H locs ls hI
      exact absurd hI (by omega)
    | succ n3 ih3 =>
      intro x4_3 H locs ls hI3 hF h hl
      refine lv_iload hx hb dX7_firstOnto_3 (lv_at hl 0 rfl) ?_
      refine lv_aload_n hx hb dX7_firstOnto_5 rfl (lv_at hl 2 rfl) ?_
      refine g_getN (v := .int (σ.1 97)) E h 3 rfl rfl layX4 1 (by decide) rfl nf_RX7_71 rfl dX7_firstOnto_6 ?_
      refine lv_icmp_ge (tgt := 33) hx hb dX7_firstOnto_9 (by decide) (fun c2 => ?_) (fun c2 => ?_)
      · have ic2 : (σ.1 97).toInt ≤ x4_3.toInt := i_le c2
        have hF := (if_pos c2).symm.trans hF
        refine lv_bipush (v := (-9)) hx hb dX7_firstOnto_33 (by decide) ?_
        exact g_iret E hr hlk h hQ hF rfl dX7_firstOnto_35
      · have ic2 : x4_3.toInt < (σ.1 97).toInt := i_nle c2
        have hF := (if_neg c2).symm.trans hF
        refine lv_aload_n hx hb dX7_firstOnto_12 rfl (lv_at hl 1 rfl) ?_
        refine lv_aload_n hx hb dX7_firstOnto_13 rfl (lv_at hl 2 rfl) ?_
        refine lv_iload hx hb dX7_firstOnto_14 (lv_at hl 0 rfl) ?_
        refine lv_iload_n hx hb dX7_firstOnto_16 rfl (lv_at hl 3 rfl) ?_
        refine g_callVi (rest := []) E h (c_X7_heatOver l D cI cZ z ad σ τ x4_3 a2) mw_657 cbX7_heatOver 43 rfl rfl ⟨by decide, by decide⟩ rfl rfl hl.1 (Nat.le_of_ble_eq_true rfl) ⟨Nat.zero_le _, Nat.zero_le _⟩ dX7_firstOnto_17 (fun H locs h => ?_)
        refine lv_iload_n hx hb dX7_firstOnto_20 rfl (lv_at hl 4 rfl) ?_
        refine lv_icmp_gt (tgt := 27) hx hb dX7_firstOnto_21 (by decide) (fun c3 => ?_) (fun c3 => ?_)
        · have ic3 : a3.toInt < (F_X7_heatOver σ x4_3 a2).toInt := i_lt c3
          have hF := (if_pos c3).symm.trans hF
          refine lv_iinc (v := (x4_3 + (1 : Int32))) (lv' := [(4, .int (x4_3 + (1 : Int32))), (0, .ref (ad 43)), (1, .ref (ad 3)), (2, .int a2), (3, .int a3)]) hx hb dX7_firstOnto_27 hl (k := 0) rfl rfl (by decide) rfl (fun ls hl => ?_)
          refine lv_goto (tgt := 3) hx hb dX7_firstOnto_30 (by decide) ?_
          have e3_4 : (x4_3 + (1 : Int32)).toInt = _ := ti_of (oI_add (oI_at x4_3) (oI_lit (x := 1) (a := 1) rfl)) (by omega)
          exact ih3 (x4_3 + (1 : Int32)) _ _ ls ((show 0 ≤ (x4_3 + (1 : Int32)).toInt ∧ (x4_3 + (1 : Int32)).toInt ≤ 8 ∧ (x4_3 + (1 : Int32)).toInt + n3 = 9 from by omega)) hF h (lv_sub hl [0, 1, 2, 3, 4] rfl)
        · have ic3 : (F_X7_heatOver σ x4_3 a2).toInt ≤ a3.toInt := i_nlt c3
          have hF := (if_neg c3).symm.trans hF
          refine lv_iload hx hb dX7_firstOnto_24 (lv_at hl 0 rfl) ?_
          exact g_iret E hr hlk h hQ hF rfl dX7_firstOnto_26
  have q3_4 : (0 : Int32).toInt = 0 := rfl
  exact L3 9 (0 : Int32) _ _ ls ((show 0 ≤ (0 : Int32).toInt ∧ (0 : Int32).toInt ≤ 8 ∧ (0 : Int32).toInt + (9 : Nat) = 9 from by omega)) hF h (lv_sub hl [0, 1, 2, 3, 4] rfl)

def F_X7_lengthen_L19 (lf2 : Int32 → St → St) : Nat → St → Int32 → St → Int32 → St → St
  | 0, _, _, _, _, m19 => m19
  | n + 1, σ, x2_2, m2, x3_19, m19 => (if (m19.1 97) ≤ x3_19 then (lf2 (x2_2 + (1 : Int32)) m19) else (F_X7_lengthen_L19 lf2 n σ x2_2 m2 (x3_19 + (1 : Int32)) (sa m19 45 (upd (m19.2.1 45) x2_2.toNatClampNeg (if (F_X7_heatOver m19 x3_19 x2_2) < ((m19.2.1 45) x2_2.toNatClampNeg) then (F_X7_heatOver m19 x3_19 x2_2) else ((m19.2.1 45) x2_2.toNatClampNeg))))))
def F_X7_lengthen_L2 : Nat → St → Int32 → St → St
  | 0, _, _, m2 => m2
  | n + 1, σ, x2_2, m2 => (if (6 : Int32) ≤ x2_2 then (sa m2 44 (va_cpy (m2.2.1 45) (m2.2.1 44) 0 0 6)) else (F_X7_lengthen_L19 (fun y1 y2 => F_X7_lengthen_L2  n σ y1 y2) 9 σ x2_2 m2 (0 : Int32) (sa m2 45 (upd (m2.2.1 45) x2_2.toNatClampNeg (1000 : Int32)))))
def F_X7_lengthen (σ : St) : St := (F_X7_lengthen_L2  7 σ (0 : Int32) σ)
abbrev I_X7_lengthen : List Nat := []
abbrev A_X7_lengthen : List Nat := [44, 45]
theorem fr_F_X7_lengthen_L19_w (lf2 : Int32 → St → St) (σ : St) (x2_2 : Int32) (m2 : St) (hlf2 : ∀ (y1 : Int32) (m : St), Fr I_X7_lengthen A_X7_lengthen false σ m → Fr I_X7_lengthen A_X7_lengthen false σ (lf2 y1 m)) : ∀ (n : Nat) (x3_19 : Int32) (m19 : St), Fr I_X7_lengthen A_X7_lengthen false σ m19 → Fr I_X7_lengthen A_X7_lengthen false σ (F_X7_lengthen_L19 lf2 n σ x2_2 m2 x3_19 m19)
  | 0, x3_19, m19, hfr => hfr
  | n + 1, x3_19, m19, hfr => (fr_ite1 (hlf2 (x2_2 + (1 : Int32)) m19 hfr) ((fun y1 y2 hy => fr_F_X7_lengthen_L19_w lf2 σ x2_2 m2 hlf2 n y1 y2 hy) (x3_19 + (1 : Int32)) (sa m19 45 (upd (m19.2.1 45) x2_2.toNatClampNeg (if (F_X7_heatOver m19 x3_19 x2_2) < ((m19.2.1 45) x2_2.toNatClampNeg) then (F_X7_heatOver m19 x3_19 x2_2) else ((m19.2.1 45) x2_2.toNatClampNeg)))) (Fr.sa (by decide) hfr)))
theorem fr_F_X7_lengthen_L19 (lf2 : Int32 → St → St) (n : Nat) (σ : St) (x2_2 : Int32) (m2 : St) (x3_19 : Int32) (m19 : St) (hlf2 : ∀ (y1 : Int32) (m : St), Fr I_X7_lengthen A_X7_lengthen false σ m → Fr I_X7_lengthen A_X7_lengthen false σ (lf2 y1 m)) (hfr : Fr I_X7_lengthen A_X7_lengthen false σ (m19)) : Fr I_X7_lengthen A_X7_lengthen false σ (F_X7_lengthen_L19 lf2 n σ x2_2 m2 x3_19 m19) := fr_F_X7_lengthen_L19_w lf2 σ x2_2 m2 hlf2 n x3_19 m19 hfr
theorem fr_F_X7_lengthen_L2_w (σ : St) : ∀ (n : Nat) (x2_2 : Int32) (m2 : St), Fr I_X7_lengthen A_X7_lengthen false σ m2 → Fr I_X7_lengthen A_X7_lengthen false σ (F_X7_lengthen_L2  n σ x2_2 m2)
  | 0, x2_2, m2, hfr => hfr
  | n + 1, x2_2, m2, hfr => (fr_ite1 (Fr.sa (by decide) hfr) (fr_F_X7_lengthen_L19 (fun y1 y2 => F_X7_lengthen_L2  n σ y1 y2) 9 σ x2_2 m2 (0 : Int32) (sa m2 45 (upd (m2.2.1 45) x2_2.toNatClampNeg (1000 : Int32))) (fun y1 y2 hy => fr_F_X7_lengthen_L2_w  σ  n y1 y2 hy) (Fr.sa (by decide) hfr)))
theorem fr_F_X7_lengthen_L2 (n : Nat) (σ : St) (x2_2 : Int32) (m2 : St) (hfr : Fr I_X7_lengthen A_X7_lengthen false σ (m2)) : Fr I_X7_lengthen A_X7_lengthen false σ (F_X7_lengthen_L2  n σ x2_2 m2) := fr_F_X7_lengthen_L2_w  σ  n x2_2 m2 hfr
theorem fr_F_X7_lengthen (σ : St) : Fr I_X7_lengthen A_X7_lengthen false σ (F_X7_lengthen σ) := (fr_F_X7_lengthen_L2  7 σ (0 : Int32) σ Fr.rf)
set_option maxHeartbeats 4000000 in
set_option maxRecDepth 20000 in
theorem c_X7_lengthen (l : Launch) (D : va_G) (cI cZ : ClassId) (z : Nat) (ad : Nat → Nat) (σ τ : St) (hp : (σ.1 97).toInt ≤ 8) : gM l yX7_lengthen cX7_lengthen 4 none 5 D cI cZ z (gws ad cI cZ σ τ) [.ref (ad 43), .ref (ad 3)] none (gws ad cI cZ (F_X7_lengthen σ) τ) := by
  refine g_met (own := RX7) (by decide) rfl (Nat.le_of_ble_eq_true rfl) (fun p e s m below meth c ls Q E hr hlk h hl hQ => ?_)
  have hx := E.1
  have hb := E.2.1
  have hF : (F_X7_lengthen σ) = (F_X7_lengthen σ) := rfl
  have hl : lv_has ls 4 [(0, .ref (ad 43)), (1, .ref (ad 3))] := hl
  refine lv_iconst (v := 0) hx hb dX7_lengthen_0 (by decide) ?_
  refine lv_istore_n (lv' := [(2, .int (0 : Int32)), (0, .ref (ad 43)), (1, .ref (ad 3))]) hx hb dX7_lengthen_1 rfl hl (by decide) rfl (fun ls hl => ?_)
  have L2 : ∀ (n2 : Nat) (x2_2 : Int32) (m2 : St) (H : Heap) (locs : List Loc) (ls : Array Slot), (0 ≤ x2_2.toInt ∧ x2_2.toInt ≤ 6 ∧ x2_2.toInt + n2 = 7 ∧ (m2.1 97).toInt ≤ 8) → F_X7_lengthen_L2  n2 σ x2_2 m2 = (F_X7_lengthen σ) → gH D z s (gws ad cI cZ m2 τ) H locs → lv_has ls 4 [(2, .int x2_2), (0, .ref (ad 43)), (1, .ref (ad 3))] → W p l e (rmH 5) s m ([.ref (ad 43), .ref (ad 3)] : List Value).toArray below meth c H locs 0 0 Q (F0 m 2 ls []) := by
    clear hF h hl
    intro n2
    induction n2 with
    | zero =>
      intro x2_2 m2 H locs ls hI
      exact absurd hI (by omega)
    | succ n2 ih2 =>
      intro x2_2 m2 H locs ls hI2 hF h hl
      refine lv_iload_n hx hb dX7_lengthen_2 rfl (lv_at hl 0 rfl) ?_
      refine lv_bipush (v := 6) hx hb dX7_lengthen_3 (by decide) ?_
      refine lv_icmp_ge (tgt := 61) hx hb dX7_lengthen_5 (by decide) (fun c2 => ?_) (fun c2 => ?_)
      · have ic2 : 6 ≤ x2_2.toInt := i_le c2
        have hF := (if_pos c2).symm.trans hF
        refine lv_aload_n hx hb dX7_lengthen_61 rfl (lv_at hl 1 rfl) ?_
        refine g_get (v := .ref (ad 45)) E h 43 rfl rfl layX7 1 (by decide) rfl mw_174 rfl dX7_lengthen_62 ?_
        refine lv_iconst (v := 0) hx hb dX7_lengthen_65 (by decide) ?_
        refine lv_aload_n hx hb dX7_lengthen_66 rfl (lv_at hl 1 rfl) ?_
        refine g_get (v := .ref (ad 44)) E h 43 rfl rfl layX7 0 (by decide) rfl mw_173 rfl dX7_lengthen_67 ?_
        refine lv_iconst (v := 0) hx hb dX7_lengthen_70 (by decide) ?_
        refine lv_bipush (v := 6) hx hb dX7_lengthen_71 (by decide) ?_
        refine g_copy (sp := (0 : Int32)) (dp := (0 : Int32)) (n := (6 : Int32)) (f := (m2.2.1 45)) (g := (m2.2.1 44)) (ws' := gws ad cI cZ (sa m2 44 (va_cpy (m2.2.1 45) (m2.2.1 44) 0 0 6)) τ) E h 45 44 rfl rfl (by decide) (by decide) (by decide) (by decide) (by decide) hl.1 mw_669 mw_379 mw_378 mw_13 (by decide) (Nat.le_of_ble_eq_true rfl) (ga_44 ad cI cZ m2 τ (va_cpy (m2.2.1 45) (m2.2.1 44) 0 0 6)) dX7_lengthen_73 (fun H locs h => ?_)
        exact g_vret E hr hlk h hQ (congrArg (fun u => gws ad cI cZ u τ) hF) dX7_lengthen_76
      · have ic2 : x2_2.toInt < 6 := i_nle c2
        have hF := (if_neg c2).symm.trans hF
        refine lv_aload_n hx hb dX7_lengthen_8 rfl (lv_at hl 1 rfl) ?_
        refine g_get (v := .ref (ad 45)) E h 43 rfl rfl layX7 1 (by decide) rfl mw_174 rfl dX7_lengthen_9 ?_
        refine lv_iload_n hx hb dX7_lengthen_12 rfl (lv_at hl 0 rfl) ?_
        refine lv_sipush (v := 1000) hx hb dX7_lengthen_13 (by decide) ?_
        refine g_iast (f := (m2.2.1 45)) (ws' := gws ad cI cZ (sa m2 45 (upd (m2.2.1 45) x2_2.toNatClampNeg (1000 : Int32))) τ) E h 45 rfl (ix_of (oI_at x2_2) (by omega) (by decide)) (ga_45 ad cI cZ m2 τ (upd (m2.2.1 45) x2_2.toNatClampNeg (1000 : Int32))) dX7_lengthen_16 (fun H locs h => ?_)
        refine lv_iconst (v := 0) hx hb dX7_lengthen_17 (by decide) ?_
        refine lv_istore_n (lv' := [(3, .int (0 : Int32)), (2, .int x2_2), (0, .ref (ad 43)), (1, .ref (ad 3))]) hx hb dX7_lengthen_18 rfl hl (by decide) rfl (fun ls hl => ?_)
        have L19 : ∀ (n19 : Nat) (x3_19 : Int32) (m19 : St) (H : Heap) (locs : List Loc) (ls : Array Slot), (0 ≤ x3_19.toInt ∧ x3_19.toInt ≤ 8 ∧ x3_19.toInt + n19 = 9 ∧ (m19.1 97).toInt ≤ 8) → F_X7_lengthen_L19 (fun y1 y2 => F_X7_lengthen_L2  n2 σ y1 y2) n19 σ x2_2 m2 x3_19 m19 = (F_X7_lengthen σ) → gH D z s (gws ad cI cZ m19 τ) H locs → lv_has ls 4 [(3, .int x3_19), (2, .int x2_2), (0, .ref (ad 43)), (1, .ref (ad 3))] → W p l e (rmH 5) s m ([.ref (ad 43), .ref (ad 3)] : List Value).toArray below meth c H locs 0 0 Q (F0 m 19 ls []) := by
          clear hF h hl
          intro n19
          induction n19 with
          | zero =>
            intro x3_19 m19 H locs ls hI
            exact absurd hI (by omega)
          | succ n19 ih19 =>
            intro x3_19 m19 H locs ls hI19 hF h hl
            refine lv_iload_n hx hb dX7_lengthen_19 rfl (lv_at hl 0 rfl) ?_
            refine lv_aload_n hx hb dX7_lengthen_20 rfl (lv_at hl 3 rfl) ?_
            refine g_getN (v := .int (m19.1 97)) E h 3 rfl rfl layX4 1 (by decide) rfl nf_RX7_71 rfl dX7_lengthen_21 ?_
            refine lv_icmp_ge (tgt := 55) hx hb dX7_lengthen_24 (by decide) (fun c4 => ?_) (fun c4 => ?_)
            · have ic4 : (m19.1 97).toInt ≤ x3_19.toInt := i_le c4
              have hF := (if_pos c4).symm.trans hF
              refine lv_iinc (v := (x2_2 + (1 : Int32))) (lv' := [(2, .int (x2_2 + (1 : Int32))), (3, .int x3_19), (0, .ref (ad 43)), (1, .ref (ad 3))]) hx hb dX7_lengthen_55 hl (k := 1) rfl rfl (by decide) rfl (fun ls hl => ?_)
              refine lv_goto (tgt := 2) hx hb dX7_lengthen_58 (by decide) ?_
              have e2_2 : (x2_2 + (1 : Int32)).toInt = _ := ti_of (oI_add (oI_at x2_2) (oI_lit (x := 1) (a := 1) rfl)) (by omega)
              exact ih2 (x2_2 + (1 : Int32)) m19 _ _ ls ((show 0 ≤ (x2_2 + (1 : Int32)).toInt ∧ (x2_2 + (1 : Int32)).toInt ≤ 6 ∧ (x2_2 + (1 : Int32)).toInt + n2 = 7 ∧ (m19.1 97).toInt ≤ 8 from by omega)) hF h (lv_sub hl [0, 2, 3] rfl)
            · have ic4 : x3_19.toInt < (m19.1 97).toInt := i_nle c4
              have hF := (if_neg c4).symm.trans hF
              refine lv_aload_n hx hb dX7_lengthen_27 rfl (lv_at hl 2 rfl) ?_
              refine g_get (v := .ref (ad 45)) E h 43 rfl rfl layX7 1 (by decide) rfl mw_174 rfl dX7_lengthen_28 ?_
              refine lv_iload_n hx hb dX7_lengthen_31 rfl (lv_at hl 1 rfl) ?_
              refine lv_aload_n hx hb dX7_lengthen_32 rfl (lv_at hl 2 rfl) ?_
              refine g_get (v := .ref (ad 45)) E h 43 rfl rfl layX7 1 (by decide) rfl mw_174 rfl dX7_lengthen_33 ?_
              refine lv_iload_n hx hb dX7_lengthen_36 rfl (lv_at hl 1 rfl) ?_
              refine g_iald (f := (m19.2.1 45)) E h 45 rfl (ix_of (oI_at x2_2) (by omega) (by decide)) dX7_lengthen_37 ?_
              refine lv_aload_n hx hb dX7_lengthen_38 rfl (lv_at hl 2 rfl) ?_
              refine lv_aload_n hx hb dX7_lengthen_39 rfl (lv_at hl 3 rfl) ?_
              refine lv_iload_n hx hb dX7_lengthen_40 rfl (lv_at hl 0 rfl) ?_
              refine lv_iload_n hx hb dX7_lengthen_41 rfl (lv_at hl 1 rfl) ?_
              refine g_callVi (rest := [.int ((m19.2.1 45) x2_2.toNatClampNeg), .int x2_2, .ref (ad 45)]) E h (c_X7_heatOver l D cI cZ z ad m19 τ x3_19 x2_2) mw_657 cbX7_heatOver 43 rfl rfl ⟨by decide, by decide⟩ rfl rfl hl.1 (Nat.le_of_ble_eq_true rfl) ⟨Nat.zero_le _, Nat.zero_le _⟩ dX7_lengthen_42 (fun H locs h => ?_)
              refine g_min E hl.1 mw_663 mw_298 mw_12 mw_299 (by decide) (Nat.le_of_ble_eq_true rfl) ⟨Nat.zero_le _, Nat.zero_le _⟩ dX7_lengthen_45 ?_
              refine g_iast (f := (m19.2.1 45)) (ws' := gws ad cI cZ (sa m19 45 (upd (m19.2.1 45) x2_2.toNatClampNeg (if (F_X7_heatOver m19 x3_19 x2_2) < ((m19.2.1 45) x2_2.toNatClampNeg) then (F_X7_heatOver m19 x3_19 x2_2) else ((m19.2.1 45) x2_2.toNatClampNeg)))) τ) E h 45 rfl (ix_of (oI_at x2_2) (by omega) (by decide)) (ga_45 ad cI cZ m19 τ (upd (m19.2.1 45) x2_2.toNatClampNeg (if (F_X7_heatOver m19 x3_19 x2_2) < ((m19.2.1 45) x2_2.toNatClampNeg) then (F_X7_heatOver m19 x3_19 x2_2) else ((m19.2.1 45) x2_2.toNatClampNeg)))) dX7_lengthen_48 (fun H locs h => ?_)
              refine lv_iinc (v := (x3_19 + (1 : Int32))) (lv' := [(3, .int (x3_19 + (1 : Int32))), (2, .int x2_2), (0, .ref (ad 43)), (1, .ref (ad 3))]) hx hb dX7_lengthen_49 hl (k := 0) rfl rfl (by decide) rfl (fun ls hl => ?_)
              refine lv_goto (tgt := 19) hx hb dX7_lengthen_52 (by decide) ?_
              have e19_3 : (x3_19 + (1 : Int32)).toInt = _ := ti_of (oI_add (oI_at x3_19) (oI_lit (x := 1) (a := 1) rfl)) (by omega)
              exact ih19 (x3_19 + (1 : Int32)) (sa m19 45 (upd (m19.2.1 45) x2_2.toNatClampNeg (if (F_X7_heatOver m19 x3_19 x2_2) < ((m19.2.1 45) x2_2.toNatClampNeg) then (F_X7_heatOver m19 x3_19 x2_2) else ((m19.2.1 45) x2_2.toNatClampNeg)))) _ _ ls ((show 0 ≤ (x3_19 + (1 : Int32)).toInt ∧ (x3_19 + (1 : Int32)).toInt ≤ 8 ∧ (x3_19 + (1 : Int32)).toInt + n19 = 9 ∧ (m19.1 97).toInt ≤ 8 from by omega)) hF h (lv_sub hl [0, 1, 2, 3] rfl)
        have q19_3 : (0 : Int32).toInt = 0 := rfl
        exact L19 9 (0 : Int32) (sa m2 45 (upd (m2.2.1 45) x2_2.toNatClampNeg (1000 : Int32))) _ _ ls ((show 0 ≤ (0 : Int32).toInt ∧ (0 : Int32).toInt ≤ 8 ∧ (0 : Int32).toInt + (9 : Nat) = 9 ∧ (m2.1 97).toInt ≤ 8 from by omega)) hF h (lv_sub hl [0, 1, 2, 3] rfl)
  have q2_2 : (0 : Int32).toInt = 0 := rfl
  exact L2 7 (0 : Int32) σ _ _ ls ((show 0 ≤ (0 : Int32).toInt ∧ (0 : Int32).toInt ≤ 6 ∧ (0 : Int32).toInt + (7 : Nat) = 7 ∧ (σ.1 97).toInt ≤ 8 from by omega)) hF h (lv_sub hl [0, 1, 2] rfl)

def F_X7_find_k156_14 (lf83 : Int32 → St → St) (σ : St) (a3 : Int32) (a4 : Int32) (u4 : St) (x7_83 : Int32) (m83 : St) (v10 : Int32) (u13 : St) : St := (lf83 (x7_83 + (1 : Int32)) u13)
def F_X7_find_k156_16 (lf83 : Int32 → St → St) (σ : St) (a3 : Int32) (a4 : Int32) (u4 : St) (x7_83 : Int32) (m83 : St) (v10 : Int32) (u15 : St) : St := (lf83 (x7_83 + (1 : Int32)) u15)
def F_X7_find_k113_11 (lf83 : Int32 → St → St) (σ : St) (a3 : Int32) (a4 : Int32) (u4 : St) (x7_83 : Int32) (m83 : St) (v10 : Int32) : St := (if v10 = ((-9) : Int32) then (F_X7_find_k156_14 lf83 σ a3 a4 u4 x7_83 m83 v10 (F_X7_lengthen m83)) else (F_X7_find_k156_16 lf83 σ a3 a4 u4 x7_83 m83 v10 (F_X7_lengthen (si (si (si m83 1378 x7_83) 1379 v10) 1380 (if (0 : Int32) < ((F_X4_heatOf (si (si m83 1378 x7_83) 1379 v10) v10) - ((F_X4_bearsOf σ a3) - (F_X2_dryOf σ a3))) then ((F_X4_heatOf (si (si m83 1378 x7_83) 1379 v10) v10) - ((F_X4_bearsOf σ a3) - (F_X2_dryOf σ a3))) else (0 : Int32))))))
def F_X7_find_L83 : Nat → St → Int32 → Int32 → St → Int32 → St → St
  | 0, _, _, _, _, _, m83 => m83
  | n + 1, σ, a3, a4, u4, x7_83, m83 => (if (m83.1 96) ≤ x7_83 then m83 else (if (m83.1 1378) = ((-9) : Int32) then (F_X7_find_k113_11 (fun y1 y2 => F_X7_find_L83  n σ a3 a4 u4 y1 y2) σ a3 a4 u4 x7_83 m83 (F_X7_firstOnto m83 (F_X2_placeOf σ a3) ((F_X2_cupsOf m83 a3) + ((F_X4_bearsOf σ a3) - (F_X2_dryOf σ a3))))) else m83))
def F_X7_find_k156_25 (lf83 : Int32 → St → St) (σ : St) (a3 : Int32) (a4 : Int32) (u4 : St) (x7_83 : Int32) (m83 : St) (v21 : Int32) (u24 : St) : St := (lf83 (x7_83 + (1 : Int32)) u24)
def F_X7_find_k156_27 (lf83 : Int32 → St → St) (σ : St) (a3 : Int32) (a4 : Int32) (u4 : St) (x7_83 : Int32) (m83 : St) (v21 : Int32) (u26 : St) : St := (lf83 (x7_83 + (1 : Int32)) u26)
def F_X7_find_k113_22 (lf83 : Int32 → St → St) (σ : St) (a3 : Int32) (a4 : Int32) (u4 : St) (x7_83 : Int32) (m83 : St) (v21 : Int32) : St := (if v21 = ((-9) : Int32) then (F_X7_find_k156_25 lf83 σ a3 a4 u4 x7_83 m83 v21 (F_X7_lengthen m83)) else (F_X7_find_k156_27 lf83 σ a3 a4 u4 x7_83 m83 v21 (F_X7_lengthen (si (si (si m83 1378 x7_83) 1379 v21) 1380 (if (0 : Int32) < ((F_X4_heatOf (si (si m83 1378 x7_83) 1379 v21) v21) - ((F_X4_bearsOf σ a3) - (F_X2_dryOf σ a3))) then ((F_X4_heatOf (si (si m83 1378 x7_83) 1379 v21) v21) - ((F_X4_bearsOf σ a3) - (F_X2_dryOf σ a3))) else (0 : Int32))))))
def F_X7_find_L83_18 : Nat → St → Int32 → Int32 → St → Int32 → St → St
  | 0, _, _, _, _, _, m83 => m83
  | n + 1, σ, a3, a4, u4, x7_83, m83 => (if (m83.1 96) ≤ x7_83 then m83 else (if (m83.1 1378) = ((-9) : Int32) then (F_X7_find_k113_22 (fun y1 y2 => F_X7_find_L83_18  n σ a3 a4 u4 y1 y2) σ a3 a4 u4 x7_83 m83 (F_X7_firstOnto m83 (F_X2_placeOf σ a3) ((F_X2_cupsOf m83 a3) + ((F_X4_bearsOf σ a3) - (F_X2_dryOf σ a3))))) else m83))
def F_X7_find_k156_35 (lf83 : Int32 → St → St) (σ : St) (a3 : Int32) (a4 : Int32) (u4 : St) (x7_83 : Int32) (m83 : St) (v31 : Int32) (u34 : St) : St := (lf83 (x7_83 + (1 : Int32)) u34)
def F_X7_find_k156_37 (lf83 : Int32 → St → St) (σ : St) (a3 : Int32) (a4 : Int32) (u4 : St) (x7_83 : Int32) (m83 : St) (v31 : Int32) (u36 : St) : St := (lf83 (x7_83 + (1 : Int32)) u36)
def F_X7_find_k113_32 (lf83 : Int32 → St → St) (σ : St) (a3 : Int32) (a4 : Int32) (u4 : St) (x7_83 : Int32) (m83 : St) (v31 : Int32) : St := (if v31 = ((-9) : Int32) then (F_X7_find_k156_35 lf83 σ a3 a4 u4 x7_83 m83 v31 (F_X7_lengthen m83)) else (F_X7_find_k156_37 lf83 σ a3 a4 u4 x7_83 m83 v31 (F_X7_lengthen (si (si (si m83 1378 x7_83) 1379 v31) 1380 (if (0 : Int32) < ((F_X4_heatOf (si (si m83 1378 x7_83) 1379 v31) v31) - ((F_X4_bearsOf σ a3) - (F_X2_dryOf σ a3))) then ((F_X4_heatOf (si (si m83 1378 x7_83) 1379 v31) v31) - ((F_X4_bearsOf σ a3) - (F_X2_dryOf σ a3))) else (0 : Int32))))))
def F_X7_find_L83_28 : Nat → St → Int32 → Int32 → St → Int32 → St → St
  | 0, _, _, _, _, _, m83 => m83
  | n + 1, σ, a3, a4, u4, x7_83, m83 => (if (m83.1 96) ≤ x7_83 then m83 else (if (m83.1 1378) = ((-9) : Int32) then (F_X7_find_k113_32 (fun y1 y2 => F_X7_find_L83_28  n σ a3 a4 u4 y1 y2) σ a3 a4 u4 x7_83 m83 (F_X7_firstOnto m83 (F_X2_placeOf σ a3) ((F_X2_cupsOf m83 a3) + ((F_X4_bearsOf σ a3) - (F_X2_dryOf σ a3))))) else m83))
def F_X7_find_k56_5 (σ : St) (a3 : Int32) (a4 : Int32) (u4 : St) : St := (if a4 < (0 : Int32) then (F_X7_find_L83  7 σ a3 a4 u4 (1 : Int32) u4) else (if (6 : Int32) ≤ a4 then (F_X7_find_L83_18  7 σ a3 a4 u4 (1 : Int32) u4) else (F_X7_find_L83_28  7 σ a3 a4 u4 (1 : Int32) (sa u4 44 (upd (u4.2.1 44) a4.toNatClampNeg (0 : Int32))))))
def F_X7_find (σ : St) (a3 : Int32) (a4 : Int32) : St := (F_X7_find_k56_5 σ a3 a4 (F_J7_fill_53178_44 (si (si (si σ 1378 (if (F_X2_placeOf σ a3) = a4 then (0 : Int32) else ((-9) : Int32))) 1379 ((-9) : Int32)) 1380 ((-9) : Int32)) (1000 : Int32)))
abbrev I_X7_find : List Nat := [1378, 1379, 1380]
abbrev A_X7_find : List Nat := [44, 45]
theorem fr_F_X7_find_k156_14 (lf83 : Int32 → St → St) (σ : St) (a3 : Int32) (a4 : Int32) (u4 : St) (x7_83 : Int32) (m83 : St) (v10 : Int32) (u13 : St) (hlf83 : ∀ (y1 : Int32) (m : St), Fr I_X7_find A_X7_find false σ m → Fr I_X7_find A_X7_find false σ (lf83 y1 m)) (hfr : Fr I_X7_find A_X7_find false σ (u13)) : Fr I_X7_find A_X7_find false σ (F_X7_find_k156_14 lf83 σ a3 a4 u4 x7_83 m83 v10 u13) := (hlf83 (x7_83 + (1 : Int32)) u13 hfr)
theorem fr_F_X7_find_k156_16 (lf83 : Int32 → St → St) (σ : St) (a3 : Int32) (a4 : Int32) (u4 : St) (x7_83 : Int32) (m83 : St) (v10 : Int32) (u15 : St) (hlf83 : ∀ (y1 : Int32) (m : St), Fr I_X7_find A_X7_find false σ m → Fr I_X7_find A_X7_find false σ (lf83 y1 m)) (hfr : Fr I_X7_find A_X7_find false σ (u15)) : Fr I_X7_find A_X7_find false σ (F_X7_find_k156_16 lf83 σ a3 a4 u4 x7_83 m83 v10 u15) := (hlf83 (x7_83 + (1 : Int32)) u15 hfr)
theorem fr_F_X7_find_k113_11 (lf83 : Int32 → St → St) (σ : St) (a3 : Int32) (a4 : Int32) (u4 : St) (x7_83 : Int32) (m83 : St) (v10 : Int32) (hlf83 : ∀ (y1 : Int32) (m : St), Fr I_X7_find A_X7_find false σ m → Fr I_X7_find A_X7_find false σ (lf83 y1 m)) (hfr : Fr I_X7_find A_X7_find false σ (m83)) : Fr I_X7_find A_X7_find false σ (F_X7_find_k113_11 lf83 σ a3 a4 u4 x7_83 m83 v10) := (fr_ite1 (fr_F_X7_find_k156_14 lf83 σ a3 a4 u4 x7_83 m83 v10 (F_X7_lengthen m83) hlf83 (Fr.tr hfr (Fr.mono (by decide) (by decide) (by decide) (fr_F_X7_lengthen m83)))) (fr_F_X7_find_k156_16 lf83 σ a3 a4 u4 x7_83 m83 v10 (F_X7_lengthen (si (si (si m83 1378 x7_83) 1379 v10) 1380 (if (0 : Int32) < ((F_X4_heatOf (si (si m83 1378 x7_83) 1379 v10) v10) - ((F_X4_bearsOf σ a3) - (F_X2_dryOf σ a3))) then ((F_X4_heatOf (si (si m83 1378 x7_83) 1379 v10) v10) - ((F_X4_bearsOf σ a3) - (F_X2_dryOf σ a3))) else (0 : Int32)))) hlf83 (Fr.tr (Fr.si (by decide) (Fr.si (by decide) (Fr.si (by decide) hfr))) (Fr.mono (by decide) (by decide) (by decide) (fr_F_X7_lengthen (si (si (si m83 1378 x7_83) 1379 v10) 1380 (if (0 : Int32) < ((F_X4_heatOf (si (si m83 1378 x7_83) 1379 v10) v10) - ((F_X4_bearsOf σ a3) - (F_X2_dryOf σ a3))) then ((F_X4_heatOf (si (si m83 1378 x7_83) 1379 v10) v10) - ((F_X4_bearsOf σ a3) - (F_X2_dryOf σ a3))) else (0 : Int32))))))))
theorem fr_F_X7_find_L83_w (σ : St) (a3 : Int32) (a4 : Int32) (u4 : St) : ∀ (n : Nat) (x7_83 : Int32) (m83 : St), Fr I_X7_find A_X7_find false σ m83 → Fr I_X7_find A_X7_find false σ (F_X7_find_L83  n σ a3 a4 u4 x7_83 m83)
  | 0, x7_83, m83, hfr => hfr
  | n + 1, x7_83, m83, hfr => (fr_ite1 hfr (fr_ite1 (fr_F_X7_find_k113_11 (fun y1 y2 => F_X7_find_L83  n σ a3 a4 u4 y1 y2) σ a3 a4 u4 x7_83 m83 (F_X7_firstOnto m83 (F_X2_placeOf σ a3) ((F_X2_cupsOf m83 a3) + ((F_X4_bearsOf σ a3) - (F_X2_dryOf σ a3)))) (fun y1 y2 hy => fr_F_X7_find_L83_w  σ a3 a4 u4  n y1 y2 hy) hfr) hfr))
theorem fr_F_X7_find_L83 (n : Nat) (σ : St) (a3 : Int32) (a4 : Int32) (u4 : St) (x7_83 : Int32) (m83 : St) (hfr : Fr I_X7_find A_X7_find false σ (m83)) : Fr I_X7_find A_X7_find false σ (F_X7_find_L83  n σ a3 a4 u4 x7_83 m83) := fr_F_X7_find_L83_w  σ a3 a4 u4  n x7_83 m83 hfr
theorem fr_F_X7_find_k156_25 (lf83 : Int32 → St → St) (σ : St) (a3 : Int32) (a4 : Int32) (u4 : St) (x7_83 : Int32) (m83 : St) (v21 : Int32) (u24 : St) (hlf83 : ∀ (y1 : Int32) (m : St), Fr I_X7_find A_X7_find false σ m → Fr I_X7_find A_X7_find false σ (lf83 y1 m)) (hfr : Fr I_X7_find A_X7_find false σ (u24)) : Fr I_X7_find A_X7_find false σ (F_X7_find_k156_25 lf83 σ a3 a4 u4 x7_83 m83 v21 u24) := (hlf83 (x7_83 + (1 : Int32)) u24 hfr)
theorem fr_F_X7_find_k156_27 (lf83 : Int32 → St → St) (σ : St) (a3 : Int32) (a4 : Int32) (u4 : St) (x7_83 : Int32) (m83 : St) (v21 : Int32) (u26 : St) (hlf83 : ∀ (y1 : Int32) (m : St), Fr I_X7_find A_X7_find false σ m → Fr I_X7_find A_X7_find false σ (lf83 y1 m)) (hfr : Fr I_X7_find A_X7_find false σ (u26)) : Fr I_X7_find A_X7_find false σ (F_X7_find_k156_27 lf83 σ a3 a4 u4 x7_83 m83 v21 u26) := (hlf83 (x7_83 + (1 : Int32)) u26 hfr)
theorem fr_F_X7_find_k113_22 (lf83 : Int32 → St → St) (σ : St) (a3 : Int32) (a4 : Int32) (u4 : St) (x7_83 : Int32) (m83 : St) (v21 : Int32) (hlf83 : ∀ (y1 : Int32) (m : St), Fr I_X7_find A_X7_find false σ m → Fr I_X7_find A_X7_find false σ (lf83 y1 m)) (hfr : Fr I_X7_find A_X7_find false σ (m83)) : Fr I_X7_find A_X7_find false σ (F_X7_find_k113_22 lf83 σ a3 a4 u4 x7_83 m83 v21) := (fr_ite1 (fr_F_X7_find_k156_25 lf83 σ a3 a4 u4 x7_83 m83 v21 (F_X7_lengthen m83) hlf83 (Fr.tr hfr (Fr.mono (by decide) (by decide) (by decide) (fr_F_X7_lengthen m83)))) (fr_F_X7_find_k156_27 lf83 σ a3 a4 u4 x7_83 m83 v21 (F_X7_lengthen (si (si (si m83 1378 x7_83) 1379 v21) 1380 (if (0 : Int32) < ((F_X4_heatOf (si (si m83 1378 x7_83) 1379 v21) v21) - ((F_X4_bearsOf σ a3) - (F_X2_dryOf σ a3))) then ((F_X4_heatOf (si (si m83 1378 x7_83) 1379 v21) v21) - ((F_X4_bearsOf σ a3) - (F_X2_dryOf σ a3))) else (0 : Int32)))) hlf83 (Fr.tr (Fr.si (by decide) (Fr.si (by decide) (Fr.si (by decide) hfr))) (Fr.mono (by decide) (by decide) (by decide) (fr_F_X7_lengthen (si (si (si m83 1378 x7_83) 1379 v21) 1380 (if (0 : Int32) < ((F_X4_heatOf (si (si m83 1378 x7_83) 1379 v21) v21) - ((F_X4_bearsOf σ a3) - (F_X2_dryOf σ a3))) then ((F_X4_heatOf (si (si m83 1378 x7_83) 1379 v21) v21) - ((F_X4_bearsOf σ a3) - (F_X2_dryOf σ a3))) else (0 : Int32))))))))
theorem fr_F_X7_find_L83_18_w (σ : St) (a3 : Int32) (a4 : Int32) (u4 : St) : ∀ (n : Nat) (x7_83 : Int32) (m83 : St), Fr I_X7_find A_X7_find false σ m83 → Fr I_X7_find A_X7_find false σ (F_X7_find_L83_18  n σ a3 a4 u4 x7_83 m83)
  | 0, x7_83, m83, hfr => hfr
  | n + 1, x7_83, m83, hfr => (fr_ite1 hfr (fr_ite1 (fr_F_X7_find_k113_22 (fun y1 y2 => F_X7_find_L83_18  n σ a3 a4 u4 y1 y2) σ a3 a4 u4 x7_83 m83 (F_X7_firstOnto m83 (F_X2_placeOf σ a3) ((F_X2_cupsOf m83 a3) + ((F_X4_bearsOf σ a3) - (F_X2_dryOf σ a3)))) (fun y1 y2 hy => fr_F_X7_find_L83_18_w  σ a3 a4 u4  n y1 y2 hy) hfr) hfr))
theorem fr_F_X7_find_L83_18 (n : Nat) (σ : St) (a3 : Int32) (a4 : Int32) (u4 : St) (x7_83 : Int32) (m83 : St) (hfr : Fr I_X7_find A_X7_find false σ (m83)) : Fr I_X7_find A_X7_find false σ (F_X7_find_L83_18  n σ a3 a4 u4 x7_83 m83) := fr_F_X7_find_L83_18_w  σ a3 a4 u4  n x7_83 m83 hfr
theorem fr_F_X7_find_k156_35 (lf83 : Int32 → St → St) (σ : St) (a3 : Int32) (a4 : Int32) (u4 : St) (x7_83 : Int32) (m83 : St) (v31 : Int32) (u34 : St) (hlf83 : ∀ (y1 : Int32) (m : St), Fr I_X7_find A_X7_find false σ m → Fr I_X7_find A_X7_find false σ (lf83 y1 m)) (hfr : Fr I_X7_find A_X7_find false σ (u34)) : Fr I_X7_find A_X7_find false σ (F_X7_find_k156_35 lf83 σ a3 a4 u4 x7_83 m83 v31 u34) := (hlf83 (x7_83 + (1 : Int32)) u34 hfr)
theorem fr_F_X7_find_k156_37 (lf83 : Int32 → St → St) (σ : St) (a3 : Int32) (a4 : Int32) (u4 : St) (x7_83 : Int32) (m83 : St) (v31 : Int32) (u36 : St) (hlf83 : ∀ (y1 : Int32) (m : St), Fr I_X7_find A_X7_find false σ m → Fr I_X7_find A_X7_find false σ (lf83 y1 m)) (hfr : Fr I_X7_find A_X7_find false σ (u36)) : Fr I_X7_find A_X7_find false σ (F_X7_find_k156_37 lf83 σ a3 a4 u4 x7_83 m83 v31 u36) := (hlf83 (x7_83 + (1 : Int32)) u36 hfr)
theorem fr_F_X7_find_k113_32 (lf83 : Int32 → St → St) (σ : St) (a3 : Int32) (a4 : Int32) (u4 : St) (x7_83 : Int32) (m83 : St) (v31 : Int32) (hlf83 : ∀ (y1 : Int32) (m : St), Fr I_X7_find A_X7_find false σ m → Fr I_X7_find A_X7_find false σ (lf83 y1 m)) (hfr : Fr I_X7_find A_X7_find false σ (m83)) : Fr I_X7_find A_X7_find false σ (F_X7_find_k113_32 lf83 σ a3 a4 u4 x7_83 m83 v31) := (fr_ite1 (fr_F_X7_find_k156_35 lf83 σ a3 a4 u4 x7_83 m83 v31 (F_X7_lengthen m83) hlf83 (Fr.tr hfr (Fr.mono (by decide) (by decide) (by decide) (fr_F_X7_lengthen m83)))) (fr_F_X7_find_k156_37 lf83 σ a3 a4 u4 x7_83 m83 v31 (F_X7_lengthen (si (si (si m83 1378 x7_83) 1379 v31) 1380 (if (0 : Int32) < ((F_X4_heatOf (si (si m83 1378 x7_83) 1379 v31) v31) - ((F_X4_bearsOf σ a3) - (F_X2_dryOf σ a3))) then ((F_X4_heatOf (si (si m83 1378 x7_83) 1379 v31) v31) - ((F_X4_bearsOf σ a3) - (F_X2_dryOf σ a3))) else (0 : Int32)))) hlf83 (Fr.tr (Fr.si (by decide) (Fr.si (by decide) (Fr.si (by decide) hfr))) (Fr.mono (by decide) (by decide) (by decide) (fr_F_X7_lengthen (si (si (si m83 1378 x7_83) 1379 v31) 1380 (if (0 : Int32) < ((F_X4_heatOf (si (si m83 1378 x7_83) 1379 v31) v31) - ((F_X4_bearsOf σ a3) - (F_X2_dryOf σ a3))) then ((F_X4_heatOf (si (si m83 1378 x7_83) 1379 v31) v31) - ((F_X4_bearsOf σ a3) - (F_X2_dryOf σ a3))) else (0 : Int32))))))))
theorem fr_F_X7_find_L83_28_w (σ : St) (a3 : Int32) (a4 : Int32) (u4 : St) : ∀ (n : Nat) (x7_83 : Int32) (m83 : St), Fr I_X7_find A_X7_find false σ m83 → Fr I_X7_find A_X7_find false σ (F_X7_find_L83_28  n σ a3 a4 u4 x7_83 m83)
  | 0, x7_83, m83, hfr => hfr
  | n + 1, x7_83, m83, hfr => (fr_ite1 hfr (fr_ite1 (fr_F_X7_find_k113_32 (fun y1 y2 => F_X7_find_L83_28  n σ a3 a4 u4 y1 y2) σ a3 a4 u4 x7_83 m83 (F_X7_firstOnto m83 (F_X2_placeOf σ a3) ((F_X2_cupsOf m83 a3) + ((F_X4_bearsOf σ a3) - (F_X2_dryOf σ a3)))) (fun y1 y2 hy => fr_F_X7_find_L83_28_w  σ a3 a4 u4  n y1 y2 hy) hfr) hfr))
theorem fr_F_X7_find_L83_28 (n : Nat) (σ : St) (a3 : Int32) (a4 : Int32) (u4 : St) (x7_83 : Int32) (m83 : St) (hfr : Fr I_X7_find A_X7_find false σ (m83)) : Fr I_X7_find A_X7_find false σ (F_X7_find_L83_28  n σ a3 a4 u4 x7_83 m83) := fr_F_X7_find_L83_28_w  σ a3 a4 u4  n x7_83 m83 hfr
theorem fr_F_X7_find_k56_5 (σ : St) (a3 : Int32) (a4 : Int32) (u4 : St) (hfr : Fr I_X7_find A_X7_find false σ (u4)) : Fr I_X7_find A_X7_find false σ (F_X7_find_k56_5  σ a3 a4 u4) := (fr_ite1 (fr_F_X7_find_L83  7 σ a3 a4 u4 (1 : Int32) u4 hfr) (fr_ite1 (fr_F_X7_find_L83_18  7 σ a3 a4 u4 (1 : Int32) u4 hfr) (fr_F_X7_find_L83_28  7 σ a3 a4 u4 (1 : Int32) (sa u4 44 (upd (u4.2.1 44) a4.toNatClampNeg (0 : Int32))) (Fr.sa (by decide) hfr))))
theorem fr_F_X7_find (σ : St) (a3 : Int32) (a4 : Int32) : Fr I_X7_find A_X7_find false σ (F_X7_find σ a3 a4) := (fr_F_X7_find_k56_5 σ a3 a4 (F_J7_fill_53178_44 (si (si (si σ 1378 (if (F_X2_placeOf σ a3) = a4 then (0 : Int32) else ((-9) : Int32))) 1379 ((-9) : Int32)) 1380 ((-9) : Int32)) (1000 : Int32)) (Fr.tr (Fr.si (by decide) (Fr.si (by decide) (Fr.si (by decide) Fr.rf))) (Fr.mono (by decide) (by decide) (by decide) (fr_F_J7_fill_53178_44 (si (si (si σ 1378 (if (F_X2_placeOf σ a3) = a4 then (0 : Int32) else ((-9) : Int32))) 1379 ((-9) : Int32)) 1380 ((-9) : Int32)) (1000 : Int32)))))
set_option maxHeartbeats 4000000 in
set_option maxRecDepth 20000 in
theorem c_X7_find (l : Launch) (D : va_G) (cI cZ : ClassId) (z : Nat) (ad : Nat → Nat) (σ τ : St) (a3 a4 : Int32) (hq : (σ.1 96).toInt ≤ 6) (hp : (σ.1 97).toInt ≤ 8) : gM l yX7_find cX7_find 9 none 6 D cI cZ z (gws ad cI cZ σ τ) [.ref (ad 43), .ref (ad 3), .ref (ad 26), .int a3, .int a4] none (gws ad cI cZ (F_X7_find σ a3 a4) τ) := by
  refine g_met (own := RX7) (by decide) rfl (Nat.le_of_ble_eq_true rfl) (fun p e s m below meth c ls Q E hr hlk h hl hQ => ?_)
  have hx := E.1
  have hb := E.2.1
  have hF : (F_X7_find σ a3 a4) = (F_X7_find σ a3 a4) := rfl
  have hl : lv_has ls 9 [(0, .ref (ad 43)), (1, .ref (ad 3)), (2, .ref (ad 26)), (3, .int a3), (4, .int a4)] := hl
  refine lv_aload_n hx hb dX7_find_0 rfl (lv_at hl 2 rfl) ?_
  refine lv_iload_n hx hb dX7_find_1 rfl (lv_at hl 3 rfl) ?_
  refine g_callVi (rest := []) E h (c_X2_placeOf l D cI cZ z ad σ τ a3) mw_648 cbX2_placeOf 26 rfl rfl ⟨by decide, by decide⟩ rfl rfl hl.1 (Nat.le_of_ble_eq_true rfl) ⟨Nat.zero_le _, Nat.zero_le _⟩ dX7_find_2 (fun H locs h => ?_)
  refine lv_istore (lv' := [(5, .int (F_X2_placeOf σ a3)), (0, .ref (ad 43)), (1, .ref (ad 3)), (2, .ref (ad 26)), (3, .int a3), (4, .int a4)]) hx hb dX7_find_5 hl (by decide) rfl (fun ls hl => ?_)
  refine lv_aload_n hx hb dX7_find_7 rfl (lv_at hl 2 rfl) ?_
  refine lv_iload_n hx hb dX7_find_8 rfl (lv_at hl 4 rfl) ?_
  refine g_callVi (rest := []) E h (c_X4_bearsOf l D cI cZ z ad σ τ a3) mw_649 cbX4_bearsOf 3 rfl rfl ⟨by decide, by decide⟩ rfl rfl hl.1 (Nat.le_of_ble_eq_true rfl) ⟨Nat.zero_le _, Nat.zero_le _⟩ dX7_find_9 (fun H locs h => ?_)
  refine lv_aload_n hx hb dX7_find_12 rfl (lv_at hl 3 rfl) ?_
  refine lv_iload_n hx hb dX7_find_13 rfl (lv_at hl 4 rfl) ?_
  refine g_callVi (rest := [.int (F_X4_bearsOf σ a3)]) E h (c_X2_dryOf l D cI cZ z ad σ τ a3) mw_650 cbX2_dryOf 26 rfl rfl ⟨by decide, by decide⟩ rfl rfl hl.1 (Nat.le_of_ble_eq_true rfl) ⟨Nat.zero_le _, Nat.zero_le _⟩ dX7_find_14 (fun H locs h => ?_)
  refine lv_isub hx hb dX7_find_17 ?_
  refine lv_istore (lv' := [(6, .int ((F_X4_bearsOf σ a3) - (F_X2_dryOf σ a3))), (5, .int (F_X2_placeOf σ a3)), (0, .ref (ad 43)), (1, .ref (ad 3)), (2, .ref (ad 26)), (3, .int a3), (4, .int a4)]) hx hb dX7_find_18 hl (by decide) rfl (fun ls hl => ?_)
  refine lv_aload_n hx hb dX7_find_20 rfl (lv_at hl 2 rfl) ?_
  refine lv_iload hx hb dX7_find_21 (lv_at hl 1 rfl) ?_
  refine lv_iload hx hb dX7_find_23 (lv_at hl 6 rfl) ?_
  refine g_dia (D := D) (z := z) (ws := gws ad cI cZ σ τ) (rest := [.ref (ad 43)]) 34 (if (F_X2_placeOf σ a3) = a4 then (0 : Int32) else ((-9) : Int32)) (fun H locs h => ?_) (fun K2 => ?_)
  · refine g_put (v := .int (if (F_X2_placeOf σ a3) = a4 then (0 : Int32) else ((-9) : Int32))) (ty := .int) (ws' := gws ad cI cZ (si σ 1378 (if (F_X2_placeOf σ a3) = a4 then (0 : Int32) else ((-9) : Int32))) τ) E h 43 rfl rfl layX7 tyX7 tyX7_ok nmX7 2 (by decide) rfl mw_175 rfl rfl rfl rfl (Nat.le_of_ble_eq_true rfl) (gi_1378 ad cI cZ σ τ (if (F_X2_placeOf σ a3) = a4 then (0 : Int32) else ((-9) : Int32))) dX7_find_34 (fun H locs h => ?_)
    refine lv_aload_n hx hb dX7_find_37 rfl (lv_at hl 2 rfl) ?_
    refine lv_bipush (v := (-9)) hx hb dX7_find_38 (by decide) ?_
    refine g_put (v := .int ((-9) : Int32)) (ty := .int) (ws' := gws ad cI cZ (si (si σ 1378 (if (F_X2_placeOf σ a3) = a4 then (0 : Int32) else ((-9) : Int32))) 1379 ((-9) : Int32)) τ) E h 43 rfl rfl layX7 tyX7 tyX7_ok nmX7 3 (by decide) rfl mw_177 rfl rfl rfl rfl (Nat.le_of_ble_eq_true rfl) (gi_1379 ad cI cZ (si σ 1378 (if (F_X2_placeOf σ a3) = a4 then (0 : Int32) else ((-9) : Int32))) τ ((-9) : Int32)) dX7_find_40 (fun H locs h => ?_)
    refine lv_aload_n hx hb dX7_find_43 rfl (lv_at hl 2 rfl) ?_
    refine lv_bipush (v := (-9)) hx hb dX7_find_44 (by decide) ?_
    refine g_put (v := .int ((-9) : Int32)) (ty := .int) (ws' := gws ad cI cZ (si (si (si σ 1378 (if (F_X2_placeOf σ a3) = a4 then (0 : Int32) else ((-9) : Int32))) 1379 ((-9) : Int32)) 1380 ((-9) : Int32)) τ) E h 43 rfl rfl layX7 tyX7 tyX7_ok nmX7 4 (by decide) rfl mw_179 rfl rfl rfl rfl (Nat.le_of_ble_eq_true rfl) (gi_1380 ad cI cZ (si (si σ 1378 (if (F_X2_placeOf σ a3) = a4 then (0 : Int32) else ((-9) : Int32))) 1379 ((-9) : Int32)) τ ((-9) : Int32)) dX7_find_46 (fun H locs h => ?_)
    refine lv_aload_n hx hb dX7_find_49 rfl (lv_at hl 2 rfl) ?_
    refine g_get (v := .ref (ad 44)) E h 43 rfl rfl layX7 0 (by decide) rfl mw_173 rfl dX7_find_50 ?_
    refine lv_sipush (v := 1000) hx hb dX7_find_53 (by decide) ?_
    refine g_callSUv (F_J7_fill_53178_44 (si (si (si σ 1378 (if (F_X2_placeOf σ a3) = a4 then (0 : Int32) else ((-9) : Int32))) 1379 ((-9) : Int32)) 1380 ((-9) : Int32)) (1000 : Int32)) (fun u => gws ad cI cZ u τ) (rest := []) E h (c_J7_fill_53178_44 l D cI cZ z ad (si (si (si σ 1378 (if (F_X2_placeOf σ a3) = a4 then (0 : Int32) else ((-9) : Int32))) 1379 ((-9) : Int32)) 1380 ((-9) : Int32)) τ (1000 : Int32)) mw_651 cbJ7_fill_53178 ⟨by decide, by decide⟩ rfl rfl hl.1 (Nat.le_of_ble_eq_true rfl) ⟨Nat.zero_le _, Nat.zero_le _⟩ dX7_find_56 (fun u4 huu4 H locs h => ?_)
    have hF : F_X7_find_k56_5 σ a3 a4 u4 = (F_X7_find σ a3 a4) := by rw [← huu4]; exact hF
    have k96_u4 : (u4.1 96).toInt = (σ.1 96).toInt := by rw [← huu4]; exact congrArg Int32.toInt ((fr_F_J7_fill_53178_44 (si (si (si σ 1378 (if (F_X2_placeOf σ a3) = a4 then (0 : Int32) else ((-9) : Int32))) 1379 ((-9) : Int32)) 1380 ((-9) : Int32)) (1000 : Int32)).1 96 (by decide))
    have k97_u4 : (u4.1 97).toInt = (σ.1 97).toInt := by rw [← huu4]; exact congrArg Int32.toInt ((fr_F_J7_fill_53178_44 (si (si (si σ 1378 (if (F_X2_placeOf σ a3) = a4 then (0 : Int32) else ((-9) : Int32))) 1379 ((-9) : Int32)) 1380 ((-9) : Int32)) (1000 : Int32)).1 97 (by decide))
    refine lv_iconst (v := 0) hx hb dX7_find_59 (by decide) ?_
    refine lv_iload hx hb dX7_find_60 (lv_at hl 6 rfl) ?_
    refine lv_icmp_gt (tgt := 80) hx hb dX7_find_62 (by decide) (fun c6 => ?_) (fun c6 => ?_)
    · have ic6 : a4.toInt < 0 := i_lt c6
      have hF := (if_pos c6).symm.trans hF
      refine lv_iconst (v := 1) hx hb dX7_find_80 (by decide) ?_
      refine lv_istore (lv' := [(7, .int (1 : Int32)), (6, .int ((F_X4_bearsOf σ a3) - (F_X2_dryOf σ a3))), (5, .int (F_X2_placeOf σ a3)), (0, .ref (ad 43)), (1, .ref (ad 3)), (2, .ref (ad 26)), (3, .int a3), (4, .int a4)]) hx hb dX7_find_81 hl (by decide) rfl (fun ls hl => ?_)
      have L83 : ∀ (n83 : Nat) (x7_83 : Int32) (m83 : St) (H : Heap) (locs : List Loc) (ls : Array Slot), (1 ≤ x7_83.toInt ∧ 0 < n83 ∧ 6 < x7_83.toInt + n83 ∧ (m83.1 96).toInt ≤ 6 ∧ (m83.1 97).toInt ≤ 8) → F_X7_find_L83  n83 σ a3 a4 u4 x7_83 m83 = (F_X7_find σ a3 a4) → gH D z s (gws ad cI cZ m83 τ) H locs → lv_has ls 9 [(7, .int x7_83), (6, .int ((F_X4_bearsOf σ a3) - (F_X2_dryOf σ a3))), (5, .int (F_X2_placeOf σ a3)), (0, .ref (ad 43)), (1, .ref (ad 3)), (2, .ref (ad 26)), (3, .int a3), (4, .int a4)] → W p l e (rmH 6) s m ([.ref (ad 43), .ref (ad 3), .ref (ad 26), .int a3, .int a4] : List Value).toArray below meth c H locs 0 0 Q (F0 m 83 ls []) := by
        clear hF h hl
        intro n83
        induction n83 with
        | zero =>
          intro x7_83 m83 H locs ls hI
          exact absurd hI (by omega)
        | succ n83 ih83 =>
          intro x7_83 m83 H locs ls hI83 hF h hl
          refine lv_iload hx hb dX7_find_83 (lv_at hl 0 rfl) ?_
          refine lv_aload_n hx hb dX7_find_85 rfl (lv_at hl 4 rfl) ?_
          refine g_getN (v := .int (m83.1 96)) E h 3 rfl rfl layX4 0 (by decide) rfl nf_RX7_48 rfl dX7_find_86 ?_
          refine lv_icmp_ge (tgt := 165) hx hb dX7_find_89 (by decide) (fun c8 => ?_) (fun c8 => ?_)
          · have ic8 : (m83.1 96).toInt ≤ x7_83.toInt := i_le c8
            have hF := (if_pos c8).symm.trans hF
            exact g_vret E hr hlk h hQ (congrArg (fun u => gws ad cI cZ u τ) hF) dX7_find_165
          · have ic8 : x7_83.toInt < (m83.1 96).toInt := i_nle c8
            have hF := (if_neg c8).symm.trans hF
            refine lv_aload_n hx hb dX7_find_92 rfl (lv_at hl 3 rfl) ?_
            refine g_get (v := .int (m83.1 1378)) E h 43 rfl rfl layX7 2 (by decide) rfl mw_175 rfl dX7_find_93 ?_
            refine lv_bipush (v := (-9)) hx hb dX7_find_96 (by decide) ?_
            refine lv_icmp_ne (tgt := 165) hx hb dX7_find_98 (by decide) (fun c9 => ?_) (fun c9 => ?_)
            · have ic9 : (m83.1 1378).toInt ≠ (-9) := i_ne c9
              have hF := (if_neg c9).symm.trans hF
              exact g_vret E hr hlk h hQ (congrArg (fun u => gws ad cI cZ u τ) hF) dX7_find_165
            · have ic9 : (m83.1 1378).toInt = (-9) := i_eq c9
              have hF := (if_pos c9).symm.trans hF
              refine lv_aload_n hx hb dX7_find_101 rfl (lv_at hl 3 rfl) ?_
              refine lv_aload_n hx hb dX7_find_102 rfl (lv_at hl 4 rfl) ?_
              refine lv_iload hx hb dX7_find_103 (lv_at hl 2 rfl) ?_
              refine lv_aload_n hx hb dX7_find_105 rfl (lv_at hl 5 rfl) ?_
              refine lv_iload_n hx hb dX7_find_106 rfl (lv_at hl 6 rfl) ?_
              refine g_callVi (rest := [.int (F_X2_placeOf σ a3), .ref (ad 3), .ref (ad 43)]) E h (c_X2_cupsOf l D cI cZ z ad m83 τ a3) mw_652 cbX2_cupsOf 26 rfl rfl ⟨by decide, by decide⟩ rfl rfl hl.1 (Nat.le_of_ble_eq_true rfl) ⟨Nat.zero_le _, Nat.zero_le _⟩ dX7_find_107 (fun H locs h => ?_)
              refine lv_iload hx hb dX7_find_110 (lv_at hl 1 rfl) ?_
              refine lv_iadd hx hb dX7_find_112 ?_
              refine g_callVh (F_X7_firstOnto m83 (F_X2_placeOf σ a3) ((F_X2_cupsOf m83 a3) + ((F_X4_bearsOf σ a3) - (F_X2_dryOf σ a3)))) (rest := []) E h (c_X7_firstOnto l D cI cZ z ad m83 τ (F_X2_placeOf σ a3) ((F_X2_cupsOf m83 a3) + ((F_X4_bearsOf σ a3) - (F_X2_dryOf σ a3))) (show (m83.1 97).toInt ≤ 8 from by omega)) mw_653 cbX7_firstOnto 43 rfl rfl ⟨by decide, by decide⟩ rfl rfl hl.1 (Nat.le_of_ble_eq_true rfl) ⟨Nat.zero_le _, Nat.zero_le _⟩ dX7_find_113 (fun v10 huv10 H locs h => ?_)
              have hF : F_X7_find_k113_11 (fun y1 y2 => F_X7_find_L83  n83 σ a3 a4 u4 y1 y2) σ a3 a4 u4 x7_83 m83 v10 = (F_X7_find σ a3 a4) := by rw [← huv10]; exact hF
              refine lv_istore (lv' := [(8, .int v10), (7, .int x7_83), (6, .int ((F_X4_bearsOf σ a3) - (F_X2_dryOf σ a3))), (5, .int (F_X2_placeOf σ a3)), (0, .ref (ad 43)), (1, .ref (ad 3)), (2, .ref (ad 26)), (3, .int a3), (4, .int a4)]) hx hb dX7_find_116 hl (by decide) rfl (fun ls hl => ?_)
              refine lv_iload hx hb dX7_find_118 (lv_at hl 0 rfl) ?_
              refine lv_bipush (v := (-9)) hx hb dX7_find_120 (by decide) ?_
              refine lv_icmp_eq (tgt := 154) hx hb dX7_find_122 (by decide) (fun c12 => ?_) (fun c12 => ?_)
              · have ic12 : v10.toInt = (-9) := i_eq c12
                have hF := (if_pos c12).symm.trans hF
                refine lv_aload_n hx hb dX7_find_154 rfl (lv_at hl 4 rfl) ?_
                refine lv_aload_n hx hb dX7_find_155 rfl (lv_at hl 5 rfl) ?_
                refine g_callVUv (F_X7_lengthen m83) (fun u => gws ad cI cZ u τ) (rest := []) E h (c_X7_lengthen l D cI cZ z ad m83 τ (show (m83.1 97).toInt ≤ 8 from by omega)) mw_665 cbX7_lengthen 43 rfl rfl ⟨by decide, by decide⟩ rfl rfl hl.1 (Nat.le_of_ble_eq_true rfl) ⟨Nat.zero_le _, Nat.zero_le _⟩ dX7_find_156 (fun u13 huu13 H locs h => ?_)
                have hF : F_X7_find_k156_14 (fun y1 y2 => F_X7_find_L83  n83 σ a3 a4 u4 y1 y2) σ a3 a4 u4 x7_83 m83 v10 u13 = (F_X7_find σ a3 a4) := by rw [← huu13]; exact hF
                have k96_u13 : (u13.1 96).toInt = (m83.1 96).toInt := by rw [← huu13]; exact congrArg Int32.toInt ((fr_F_X7_lengthen m83).1 96 (by decide))
                have k97_u13 : (u13.1 97).toInt = (m83.1 97).toInt := by rw [← huu13]; exact congrArg Int32.toInt ((fr_F_X7_lengthen m83).1 97 (by decide))
                refine lv_iinc (v := (x7_83 + (1 : Int32))) (lv' := [(7, .int (x7_83 + (1 : Int32))), (8, .int v10), (6, .int ((F_X4_bearsOf σ a3) - (F_X2_dryOf σ a3))), (5, .int (F_X2_placeOf σ a3)), (0, .ref (ad 43)), (1, .ref (ad 3)), (2, .ref (ad 26)), (3, .int a3), (4, .int a4)]) hx hb dX7_find_159 hl (k := 1) rfl rfl (by decide) rfl (fun ls hl => ?_)
                refine lv_goto (tgt := 83) hx hb dX7_find_162 (by decide) ?_
                have e83_7 : (x7_83 + (1 : Int32)).toInt = _ := ti_of (oI_add (oI_at x7_83) (oI_lit (x := 1) (a := 1) rfl)) (by omega)
                exact ih83 (x7_83 + (1 : Int32)) u13 _ _ ls ((show 1 ≤ (x7_83 + (1 : Int32)).toInt ∧ 0 < n83 ∧ 6 < (x7_83 + (1 : Int32)).toInt + n83 ∧ (u13.1 96).toInt ≤ 6 ∧ (u13.1 97).toInt ≤ 8 from by omega)) hF h (lv_sub hl [0, 2, 3, 4, 5, 6, 7, 8] rfl)
              · have ic12 : v10.toInt ≠ (-9) := i_ne c12
                have hF := (if_neg c12).symm.trans hF
                refine lv_aload_n hx hb dX7_find_125 rfl (lv_at hl 4 rfl) ?_
                refine lv_iload hx hb dX7_find_126 (lv_at hl 1 rfl) ?_
                refine g_put (v := .int x7_83) (ty := .int) (ws' := gws ad cI cZ (si m83 1378 x7_83) τ) E h 43 rfl rfl layX7 tyX7 tyX7_ok nmX7 2 (by decide) rfl mw_175 rfl rfl rfl rfl (Nat.le_of_ble_eq_true rfl) (gi_1378 ad cI cZ m83 τ x7_83) dX7_find_128 (fun H locs h => ?_)
                refine lv_aload_n hx hb dX7_find_131 rfl (lv_at hl 4 rfl) ?_
                refine lv_iload hx hb dX7_find_132 (lv_at hl 0 rfl) ?_
                refine g_put (v := .int v10) (ty := .int) (ws' := gws ad cI cZ (si (si m83 1378 x7_83) 1379 v10) τ) E h 43 rfl rfl layX7 tyX7 tyX7_ok nmX7 3 (by decide) rfl mw_177 rfl rfl rfl rfl (Nat.le_of_ble_eq_true rfl) (gi_1379 ad cI cZ (si m83 1378 x7_83) τ v10) dX7_find_134 (fun H locs h => ?_)
                refine lv_aload_n hx hb dX7_find_137 rfl (lv_at hl 4 rfl) ?_
                refine lv_iconst (v := 0) hx hb dX7_find_138 (by decide) ?_
                refine lv_aload_n hx hb dX7_find_139 rfl (lv_at hl 5 rfl) ?_
                refine lv_iload hx hb dX7_find_140 (lv_at hl 0 rfl) ?_
                refine g_callVi (rest := [.int (0 : Int32), .ref (ad 43)]) E h (c_X4_heatOf l D cI cZ z ad (si (si m83 1378 x7_83) 1379 v10) τ v10) mw_662 cbX4_heatOf 3 rfl rfl ⟨by decide, by decide⟩ rfl rfl hl.1 (Nat.le_of_ble_eq_true rfl) ⟨Nat.zero_le _, Nat.zero_le _⟩ dX7_find_142 (fun H locs h => ?_)
                refine lv_iload hx hb dX7_find_145 (lv_at hl 2 rfl) ?_
                refine lv_isub hx hb dX7_find_147 ?_
                refine g_max E hl.1 mw_664 mw_290 mw_12 mw_291 (by decide) (Nat.le_of_ble_eq_true rfl) ⟨Nat.zero_le _, Nat.zero_le _⟩ dX7_find_148 ?_
                refine g_put (v := .int (if (0 : Int32) < ((F_X4_heatOf (si (si m83 1378 x7_83) 1379 v10) v10) - ((F_X4_bearsOf σ a3) - (F_X2_dryOf σ a3))) then ((F_X4_heatOf (si (si m83 1378 x7_83) 1379 v10) v10) - ((F_X4_bearsOf σ a3) - (F_X2_dryOf σ a3))) else (0 : Int32))) (ty := .int) (ws' := gws ad cI cZ (si (si (si m83 1378 x7_83) 1379 v10) 1380 (if (0 : Int32) < ((F_X4_heatOf (si (si m83 1378 x7_83) 1379 v10) v10) - ((F_X4_bearsOf σ a3) - (F_X2_dryOf σ a3))) then ((F_X4_heatOf (si (si m83 1378 x7_83) 1379 v10) v10) - ((F_X4_bearsOf σ a3) - (F_X2_dryOf σ a3))) else (0 : Int32))) τ) E h 43 rfl rfl layX7 tyX7 tyX7_ok nmX7 4 (by decide) rfl mw_179 rfl rfl rfl rfl (Nat.le_of_ble_eq_true rfl) (gi_1380 ad cI cZ (si (si m83 1378 x7_83) 1379 v10) τ (if (0 : Int32) < ((F_X4_heatOf (si (si m83 1378 x7_83) 1379 v10) v10) - ((F_X4_bearsOf σ a3) - (F_X2_dryOf σ a3))) then ((F_X4_heatOf (si (si m83 1378 x7_83) 1379 v10) v10) - ((F_X4_bearsOf σ a3) - (F_X2_dryOf σ a3))) else (0 : Int32))) dX7_find_151 (fun H locs h => ?_)
                refine lv_aload_n hx hb dX7_find_154 rfl (lv_at hl 4 rfl) ?_
                refine lv_aload_n hx hb dX7_find_155 rfl (lv_at hl 5 rfl) ?_
                refine g_callVUv (F_X7_lengthen (si (si (si m83 1378 x7_83) 1379 v10) 1380 (if (0 : Int32) < ((F_X4_heatOf (si (si m83 1378 x7_83) 1379 v10) v10) - ((F_X4_bearsOf σ a3) - (F_X2_dryOf σ a3))) then ((F_X4_heatOf (si (si m83 1378 x7_83) 1379 v10) v10) - ((F_X4_bearsOf σ a3) - (F_X2_dryOf σ a3))) else (0 : Int32)))) (fun u => gws ad cI cZ u τ) (rest := []) E h (c_X7_lengthen l D cI cZ z ad (si (si (si m83 1378 x7_83) 1379 v10) 1380 (if (0 : Int32) < ((F_X4_heatOf (si (si m83 1378 x7_83) 1379 v10) v10) - ((F_X4_bearsOf σ a3) - (F_X2_dryOf σ a3))) then ((F_X4_heatOf (si (si m83 1378 x7_83) 1379 v10) v10) - ((F_X4_bearsOf σ a3) - (F_X2_dryOf σ a3))) else (0 : Int32))) τ (show (m83.1 97).toInt ≤ 8 from by omega)) mw_665 cbX7_lengthen 43 rfl rfl ⟨by decide, by decide⟩ rfl rfl hl.1 (Nat.le_of_ble_eq_true rfl) ⟨Nat.zero_le _, Nat.zero_le _⟩ dX7_find_156 (fun u15 huu15 H locs h => ?_)
                have hF : F_X7_find_k156_16 (fun y1 y2 => F_X7_find_L83  n83 σ a3 a4 u4 y1 y2) σ a3 a4 u4 x7_83 m83 v10 u15 = (F_X7_find σ a3 a4) := by rw [← huu15]; exact hF
                have k96_u15 : (u15.1 96).toInt = (m83.1 96).toInt := by rw [← huu15]; exact congrArg Int32.toInt ((fr_F_X7_lengthen (si (si (si m83 1378 x7_83) 1379 v10) 1380 (if (0 : Int32) < ((F_X4_heatOf (si (si m83 1378 x7_83) 1379 v10) v10) - ((F_X4_bearsOf σ a3) - (F_X2_dryOf σ a3))) then ((F_X4_heatOf (si (si m83 1378 x7_83) 1379 v10) v10) - ((F_X4_bearsOf σ a3) - (F_X2_dryOf σ a3))) else (0 : Int32)))).1 96 (by decide))
                have k97_u15 : (u15.1 97).toInt = (m83.1 97).toInt := by rw [← huu15]; exact congrArg Int32.toInt ((fr_F_X7_lengthen (si (si (si m83 1378 x7_83) 1379 v10) 1380 (if (0 : Int32) < ((F_X4_heatOf (si (si m83 1378 x7_83) 1379 v10) v10) - ((F_X4_bearsOf σ a3) - (F_X2_dryOf σ a3))) then ((F_X4_heatOf (si (si m83 1378 x7_83) 1379 v10) v10) - ((F_X4_bearsOf σ a3) - (F_X2_dryOf σ a3))) else (0 : Int32)))).1 97 (by decide))
                refine lv_iinc (v := (x7_83 + (1 : Int32))) (lv' := [(7, .int (x7_83 + (1 : Int32))), (8, .int v10), (6, .int ((F_X4_bearsOf σ a3) - (F_X2_dryOf σ a3))), (5, .int (F_X2_placeOf σ a3)), (0, .ref (ad 43)), (1, .ref (ad 3)), (2, .ref (ad 26)), (3, .int a3), (4, .int a4)]) hx hb dX7_find_159 hl (k := 1) rfl rfl (by decide) rfl (fun ls hl => ?_)
                refine lv_goto (tgt := 83) hx hb dX7_find_162 (by decide) ?_
                have e83_7 : (x7_83 + (1 : Int32)).toInt = _ := ti_of (oI_add (oI_at x7_83) (oI_lit (x := 1) (a := 1) rfl)) (by omega)
                exact ih83 (x7_83 + (1 : Int32)) u15 _ _ ls ((show 1 ≤ (x7_83 + (1 : Int32)).toInt ∧ 0 < n83 ∧ 6 < (x7_83 + (1 : Int32)).toInt + n83 ∧ (u15.1 96).toInt ≤ 6 ∧ (u15.1 97).toInt ≤ 8 from by omega)) hF h (lv_sub hl [0, 2, 3, 4, 5, 6, 7, 8] rfl)
      have q83_7 : (1 : Int32).toInt = 1 := rfl
      exact L83 7 (1 : Int32) u4 _ _ ls ((show 1 ≤ (1 : Int32).toInt ∧ 0 < (7 : Nat) ∧ 6 < (1 : Int32).toInt + (7 : Nat) ∧ (u4.1 96).toInt ≤ 6 ∧ (u4.1 97).toInt ≤ 8 from by omega)) hF h (lv_sub hl [0, 1, 2, 3, 4, 5, 6, 7] rfl)
    · have ic6 : 0 ≤ a4.toInt := i_nlt c6
      have hF := (if_neg c6).symm.trans hF
      refine lv_iload hx hb dX7_find_65 (lv_at hl 6 rfl) ?_
      refine lv_bipush (v := 6) hx hb dX7_find_67 (by decide) ?_
      refine lv_icmp_ge (tgt := 80) hx hb dX7_find_69 (by decide) (fun c17 => ?_) (fun c17 => ?_)
      · have ic17 : 6 ≤ a4.toInt := i_le c17
        have hF := (if_pos c17).symm.trans hF
        refine lv_iconst (v := 1) hx hb dX7_find_80 (by decide) ?_
        refine lv_istore (lv' := [(7, .int (1 : Int32)), (6, .int ((F_X4_bearsOf σ a3) - (F_X2_dryOf σ a3))), (5, .int (F_X2_placeOf σ a3)), (0, .ref (ad 43)), (1, .ref (ad 3)), (2, .ref (ad 26)), (3, .int a3), (4, .int a4)]) hx hb dX7_find_81 hl (by decide) rfl (fun ls hl => ?_)
        have L83 : ∀ (n83 : Nat) (x7_83 : Int32) (m83 : St) (H : Heap) (locs : List Loc) (ls : Array Slot), (1 ≤ x7_83.toInt ∧ 0 < n83 ∧ 6 < x7_83.toInt + n83 ∧ (m83.1 96).toInt ≤ 6 ∧ (m83.1 97).toInt ≤ 8) → F_X7_find_L83_18  n83 σ a3 a4 u4 x7_83 m83 = (F_X7_find σ a3 a4) → gH D z s (gws ad cI cZ m83 τ) H locs → lv_has ls 9 [(7, .int x7_83), (6, .int ((F_X4_bearsOf σ a3) - (F_X2_dryOf σ a3))), (5, .int (F_X2_placeOf σ a3)), (0, .ref (ad 43)), (1, .ref (ad 3)), (2, .ref (ad 26)), (3, .int a3), (4, .int a4)] → W p l e (rmH 6) s m ([.ref (ad 43), .ref (ad 3), .ref (ad 26), .int a3, .int a4] : List Value).toArray below meth c H locs 0 0 Q (F0 m 83 ls []) := by
          clear hF h hl
          intro n83
          induction n83 with
          | zero =>
            intro x7_83 m83 H locs ls hI
            exact absurd hI (by omega)
          | succ n83 ih83 =>
            intro x7_83 m83 H locs ls hI83 hF h hl
            refine lv_iload hx hb dX7_find_83 (lv_at hl 0 rfl) ?_
            refine lv_aload_n hx hb dX7_find_85 rfl (lv_at hl 4 rfl) ?_
            refine g_getN (v := .int (m83.1 96)) E h 3 rfl rfl layX4 0 (by decide) rfl nf_RX7_48 rfl dX7_find_86 ?_
            refine lv_icmp_ge (tgt := 165) hx hb dX7_find_89 (by decide) (fun c19 => ?_) (fun c19 => ?_)
            · have ic19 : (m83.1 96).toInt ≤ x7_83.toInt := i_le c19
              have hF := (if_pos c19).symm.trans hF
              exact g_vret E hr hlk h hQ (congrArg (fun u => gws ad cI cZ u τ) hF) dX7_find_165
            · have ic19 : x7_83.toInt < (m83.1 96).toInt := i_nle c19
              have hF := (if_neg c19).symm.trans hF
              refine lv_aload_n hx hb dX7_find_92 rfl (lv_at hl 3 rfl) ?_
              refine g_get (v := .int (m83.1 1378)) E h 43 rfl rfl layX7 2 (by decide) rfl mw_175 rfl dX7_find_93 ?_
              refine lv_bipush (v := (-9)) hx hb dX7_find_96 (by decide) ?_
              refine lv_icmp_ne (tgt := 165) hx hb dX7_find_98 (by decide) (fun c20 => ?_) (fun c20 => ?_)
              · have ic20 : (m83.1 1378).toInt ≠ (-9) := i_ne c20
                have hF := (if_neg c20).symm.trans hF
                exact g_vret E hr hlk h hQ (congrArg (fun u => gws ad cI cZ u τ) hF) dX7_find_165
              · have ic20 : (m83.1 1378).toInt = (-9) := i_eq c20
                have hF := (if_pos c20).symm.trans hF
                refine lv_aload_n hx hb dX7_find_101 rfl (lv_at hl 3 rfl) ?_
                refine lv_aload_n hx hb dX7_find_102 rfl (lv_at hl 4 rfl) ?_
                refine lv_iload hx hb dX7_find_103 (lv_at hl 2 rfl) ?_
                refine lv_aload_n hx hb dX7_find_105 rfl (lv_at hl 5 rfl) ?_
                refine lv_iload_n hx hb dX7_find_106 rfl (lv_at hl 6 rfl) ?_
                refine g_callVi (rest := [.int (F_X2_placeOf σ a3), .ref (ad 3), .ref (ad 43)]) E h (c_X2_cupsOf l D cI cZ z ad m83 τ a3) mw_652 cbX2_cupsOf 26 rfl rfl ⟨by decide, by decide⟩ rfl rfl hl.1 (Nat.le_of_ble_eq_true rfl) ⟨Nat.zero_le _, Nat.zero_le _⟩ dX7_find_107 (fun H locs h => ?_)
                refine lv_iload hx hb dX7_find_110 (lv_at hl 1 rfl) ?_
                refine lv_iadd hx hb dX7_find_112 ?_
                refine g_callVh (F_X7_firstOnto m83 (F_X2_placeOf σ a3) ((F_X2_cupsOf m83 a3) + ((F_X4_bearsOf σ a3) - (F_X2_dryOf σ a3)))) (rest := []) E h (c_X7_firstOnto l D cI cZ z ad m83 τ (F_X2_placeOf σ a3) ((F_X2_cupsOf m83 a3) + ((F_X4_bearsOf σ a3) - (F_X2_dryOf σ a3))) (show (m83.1 97).toInt ≤ 8 from by omega)) mw_653 cbX7_firstOnto 43 rfl rfl ⟨by decide, by decide⟩ rfl rfl hl.1 (Nat.le_of_ble_eq_true rfl) ⟨Nat.zero_le _, Nat.zero_le _⟩ dX7_find_113 (fun v21 huv21 H locs h => ?_)
                have hF : F_X7_find_k113_22 (fun y1 y2 => F_X7_find_L83_18  n83 σ a3 a4 u4 y1 y2) σ a3 a4 u4 x7_83 m83 v21 = (F_X7_find σ a3 a4) := by rw [← huv21]; exact hF
                refine lv_istore (lv' := [(8, .int v21), (7, .int x7_83), (6, .int ((F_X4_bearsOf σ a3) - (F_X2_dryOf σ a3))), (5, .int (F_X2_placeOf σ a3)), (0, .ref (ad 43)), (1, .ref (ad 3)), (2, .ref (ad 26)), (3, .int a3), (4, .int a4)]) hx hb dX7_find_116 hl (by decide) rfl (fun ls hl => ?_)
                refine lv_iload hx hb dX7_find_118 (lv_at hl 0 rfl) ?_
                refine lv_bipush (v := (-9)) hx hb dX7_find_120 (by decide) ?_
                refine lv_icmp_eq (tgt := 154) hx hb dX7_find_122 (by decide) (fun c23 => ?_) (fun c23 => ?_)
                · have ic23 : v21.toInt = (-9) := i_eq c23
                  have hF := (if_pos c23).symm.trans hF
                  refine lv_aload_n hx hb dX7_find_154 rfl (lv_at hl 4 rfl) ?_
                  refine lv_aload_n hx hb dX7_find_155 rfl (lv_at hl 5 rfl) ?_
                  refine g_callVUv (F_X7_lengthen m83) (fun u => gws ad cI cZ u τ) (rest := []) E h (c_X7_lengthen l D cI cZ z ad m83 τ (show (m83.1 97).toInt ≤ 8 from by omega)) mw_665 cbX7_lengthen 43 rfl rfl ⟨by decide, by decide⟩ rfl rfl hl.1 (Nat.le_of_ble_eq_true rfl) ⟨Nat.zero_le _, Nat.zero_le _⟩ dX7_find_156 (fun u24 huu24 H locs h => ?_)
                  have hF : F_X7_find_k156_25 (fun y1 y2 => F_X7_find_L83_18  n83 σ a3 a4 u4 y1 y2) σ a3 a4 u4 x7_83 m83 v21 u24 = (F_X7_find σ a3 a4) := by rw [← huu24]; exact hF
                  have k96_u24 : (u24.1 96).toInt = (m83.1 96).toInt := by rw [← huu24]; exact congrArg Int32.toInt ((fr_F_X7_lengthen m83).1 96 (by decide))
                  have k97_u24 : (u24.1 97).toInt = (m83.1 97).toInt := by rw [← huu24]; exact congrArg Int32.toInt ((fr_F_X7_lengthen m83).1 97 (by decide))
                  refine lv_iinc (v := (x7_83 + (1 : Int32))) (lv' := [(7, .int (x7_83 + (1 : Int32))), (8, .int v21), (6, .int ((F_X4_bearsOf σ a3) - (F_X2_dryOf σ a3))), (5, .int (F_X2_placeOf σ a3)), (0, .ref (ad 43)), (1, .ref (ad 3)), (2, .ref (ad 26)), (3, .int a3), (4, .int a4)]) hx hb dX7_find_159 hl (k := 1) rfl rfl (by decide) rfl (fun ls hl => ?_)
                  refine lv_goto (tgt := 83) hx hb dX7_find_162 (by decide) ?_
                  have e83_7 : (x7_83 + (1 : Int32)).toInt = _ := ti_of (oI_add (oI_at x7_83) (oI_lit (x := 1) (a := 1) rfl)) (by omega)
                  exact ih83 (x7_83 + (1 : Int32)) u24 _ _ ls ((show 1 ≤ (x7_83 + (1 : Int32)).toInt ∧ 0 < n83 ∧ 6 < (x7_83 + (1 : Int32)).toInt + n83 ∧ (u24.1 96).toInt ≤ 6 ∧ (u24.1 97).toInt ≤ 8 from by omega)) hF h (lv_sub hl [0, 2, 3, 4, 5, 6, 7, 8] rfl)
                · have ic23 : v21.toInt ≠ (-9) := i_ne c23
                  have hF := (if_neg c23).symm.trans hF
                  refine lv_aload_n hx hb dX7_find_125 rfl (lv_at hl 4 rfl) ?_
                  refine lv_iload hx hb dX7_find_126 (lv_at hl 1 rfl) ?_
                  refine g_put (v := .int x7_83) (ty := .int) (ws' := gws ad cI cZ (si m83 1378 x7_83) τ) E h 43 rfl rfl layX7 tyX7 tyX7_ok nmX7 2 (by decide) rfl mw_175 rfl rfl rfl rfl (Nat.le_of_ble_eq_true rfl) (gi_1378 ad cI cZ m83 τ x7_83) dX7_find_128 (fun H locs h => ?_)
                  refine lv_aload_n hx hb dX7_find_131 rfl (lv_at hl 4 rfl) ?_
                  refine lv_iload hx hb dX7_find_132 (lv_at hl 0 rfl) ?_
                  refine g_put (v := .int v21) (ty := .int) (ws' := gws ad cI cZ (si (si m83 1378 x7_83) 1379 v21) τ) E h 43 rfl rfl layX7 tyX7 tyX7_ok nmX7 3 (by decide) rfl mw_177 rfl rfl rfl rfl (Nat.le_of_ble_eq_true rfl) (gi_1379 ad cI cZ (si m83 1378 x7_83) τ v21) dX7_find_134 (fun H locs h => ?_)
                  refine lv_aload_n hx hb dX7_find_137 rfl (lv_at hl 4 rfl) ?_
                  refine lv_iconst (v := 0) hx hb dX7_find_138 (by decide) ?_
                  refine lv_aload_n hx hb dX7_find_139 rfl (lv_at hl 5 rfl) ?_
                  refine lv_iload hx hb dX7_find_140 (lv_at hl 0 rfl) ?_
                  refine g_callVi (rest := [.int (0 : Int32), .ref (ad 43)]) E h (c_X4_heatOf l D cI cZ z ad (si (si m83 1378 x7_83) 1379 v21) τ v21) mw_662 cbX4_heatOf 3 rfl rfl ⟨by decide, by decide⟩ rfl rfl hl.1 (Nat.le_of_ble_eq_true rfl) ⟨Nat.zero_le _, Nat.zero_le _⟩ dX7_find_142 (fun H locs h => ?_)
                  refine lv_iload hx hb dX7_find_145 (lv_at hl 2 rfl) ?_
                  refine lv_isub hx hb dX7_find_147 ?_
                  refine g_max E hl.1 mw_664 mw_290 mw_12 mw_291 (by decide) (Nat.le_of_ble_eq_true rfl) ⟨Nat.zero_le _, Nat.zero_le _⟩ dX7_find_148 ?_
                  refine g_put (v := .int (if (0 : Int32) < ((F_X4_heatOf (si (si m83 1378 x7_83) 1379 v21) v21) - ((F_X4_bearsOf σ a3) - (F_X2_dryOf σ a3))) then ((F_X4_heatOf (si (si m83 1378 x7_83) 1379 v21) v21) - ((F_X4_bearsOf σ a3) - (F_X2_dryOf σ a3))) else (0 : Int32))) (ty := .int) (ws' := gws ad cI cZ (si (si (si m83 1378 x7_83) 1379 v21) 1380 (if (0 : Int32) < ((F_X4_heatOf (si (si m83 1378 x7_83) 1379 v21) v21) - ((F_X4_bearsOf σ a3) - (F_X2_dryOf σ a3))) then ((F_X4_heatOf (si (si m83 1378 x7_83) 1379 v21) v21) - ((F_X4_bearsOf σ a3) - (F_X2_dryOf σ a3))) else (0 : Int32))) τ) E h 43 rfl rfl layX7 tyX7 tyX7_ok nmX7 4 (by decide) rfl mw_179 rfl rfl rfl rfl (Nat.le_of_ble_eq_true rfl) (gi_1380 ad cI cZ (si (si m83 1378 x7_83) 1379 v21) τ (if (0 : Int32) < ((F_X4_heatOf (si (si m83 1378 x7_83) 1379 v21) v21) - ((F_X4_bearsOf σ a3) - (F_X2_dryOf σ a3))) then ((F_X4_heatOf (si (si m83 1378 x7_83) 1379 v21) v21) - ((F_X4_bearsOf σ a3) - (F_X2_dryOf σ a3))) else (0 : Int32))) dX7_find_151 (fun H locs h => ?_)
                  refine lv_aload_n hx hb dX7_find_154 rfl (lv_at hl 4 rfl) ?_
                  refine lv_aload_n hx hb dX7_find_155 rfl (lv_at hl 5 rfl) ?_
                  refine g_callVUv (F_X7_lengthen (si (si (si m83 1378 x7_83) 1379 v21) 1380 (if (0 : Int32) < ((F_X4_heatOf (si (si m83 1378 x7_83) 1379 v21) v21) - ((F_X4_bearsOf σ a3) - (F_X2_dryOf σ a3))) then ((F_X4_heatOf (si (si m83 1378 x7_83) 1379 v21) v21) - ((F_X4_bearsOf σ a3) - (F_X2_dryOf σ a3))) else (0 : Int32)))) (fun u => gws ad cI cZ u τ) (rest := []) E h (c_X7_lengthen l D cI cZ z ad (si (si (si m83 1378 x7_83) 1379 v21) 1380 (if (0 : Int32) < ((F_X4_heatOf (si (si m83 1378 x7_83) 1379 v21) v21) - ((F_X4_bearsOf σ a3) - (F_X2_dryOf σ a3))) then ((F_X4_heatOf (si (si m83 1378 x7_83) 1379 v21) v21) - ((F_X4_bearsOf σ a3) - (F_X2_dryOf σ a3))) else (0 : Int32))) τ (show (m83.1 97).toInt ≤ 8 from by omega)) mw_665 cbX7_lengthen 43 rfl rfl ⟨by decide, by decide⟩ rfl rfl hl.1 (Nat.le_of_ble_eq_true rfl) ⟨Nat.zero_le _, Nat.zero_le _⟩ dX7_find_156 (fun u26 huu26 H locs h => ?_)
                  have hF : F_X7_find_k156_27 (fun y1 y2 => F_X7_find_L83_18  n83 σ a3 a4 u4 y1 y2) σ a3 a4 u4 x7_83 m83 v21 u26 = (F_X7_find σ a3 a4) := by rw [← huu26]; exact hF
                  have k96_u26 : (u26.1 96).toInt = (m83.1 96).toInt := by rw [← huu26]; exact congrArg Int32.toInt ((fr_F_X7_lengthen (si (si (si m83 1378 x7_83) 1379 v21) 1380 (if (0 : Int32) < ((F_X4_heatOf (si (si m83 1378 x7_83) 1379 v21) v21) - ((F_X4_bearsOf σ a3) - (F_X2_dryOf σ a3))) then ((F_X4_heatOf (si (si m83 1378 x7_83) 1379 v21) v21) - ((F_X4_bearsOf σ a3) - (F_X2_dryOf σ a3))) else (0 : Int32)))).1 96 (by decide))
                  have k97_u26 : (u26.1 97).toInt = (m83.1 97).toInt := by rw [← huu26]; exact congrArg Int32.toInt ((fr_F_X7_lengthen (si (si (si m83 1378 x7_83) 1379 v21) 1380 (if (0 : Int32) < ((F_X4_heatOf (si (si m83 1378 x7_83) 1379 v21) v21) - ((F_X4_bearsOf σ a3) - (F_X2_dryOf σ a3))) then ((F_X4_heatOf (si (si m83 1378 x7_83) 1379 v21) v21) - ((F_X4_bearsOf σ a3) - (F_X2_dryOf σ a3))) else (0 : Int32)))).1 97 (by decide))
                  refine lv_iinc (v := (x7_83 + (1 : Int32))) (lv' := [(7, .int (x7_83 + (1 : Int32))), (8, .int v21), (6, .int ((F_X4_bearsOf σ a3) - (F_X2_dryOf σ a3))), (5, .int (F_X2_placeOf σ a3)), (0, .ref (ad 43)), (1, .ref (ad 3)), (2, .ref (ad 26)), (3, .int a3), (4, .int a4)]) hx hb dX7_find_159 hl (k := 1) rfl rfl (by decide) rfl (fun ls hl => ?_)
                  refine lv_goto (tgt := 83) hx hb dX7_find_162 (by decide) ?_
                  have e83_7 : (x7_83 + (1 : Int32)).toInt = _ := ti_of (oI_add (oI_at x7_83) (oI_lit (x := 1) (a := 1) rfl)) (by omega)
                  exact ih83 (x7_83 + (1 : Int32)) u26 _ _ ls ((show 1 ≤ (x7_83 + (1 : Int32)).toInt ∧ 0 < n83 ∧ 6 < (x7_83 + (1 : Int32)).toInt + n83 ∧ (u26.1 96).toInt ≤ 6 ∧ (u26.1 97).toInt ≤ 8 from by omega)) hF h (lv_sub hl [0, 2, 3, 4, 5, 6, 7, 8] rfl)
        have q83_7 : (1 : Int32).toInt = 1 := rfl
        exact L83 7 (1 : Int32) u4 _ _ ls ((show 1 ≤ (1 : Int32).toInt ∧ 0 < (7 : Nat) ∧ 6 < (1 : Int32).toInt + (7 : Nat) ∧ (u4.1 96).toInt ≤ 6 ∧ (u4.1 97).toInt ≤ 8 from by omega)) hF h (lv_sub hl [0, 1, 2, 3, 4, 5, 6, 7] rfl)
      · have ic17 : a4.toInt < 6 := i_nle c17
        have hF := (if_neg c17).symm.trans hF
        refine lv_aload_n hx hb dX7_find_72 rfl (lv_at hl 2 rfl) ?_
        refine g_get (v := .ref (ad 44)) E h 43 rfl rfl layX7 0 (by decide) rfl mw_173 rfl dX7_find_73 ?_
        refine lv_iload hx hb dX7_find_76 (lv_at hl 6 rfl) ?_
        refine lv_iconst (v := 0) hx hb dX7_find_78 (by decide) ?_
        refine g_iast (f := (u4.2.1 44)) (ws' := gws ad cI cZ (sa u4 44 (upd (u4.2.1 44) a4.toNatClampNeg (0 : Int32))) τ) E h 44 rfl (ix_of (oI_at a4) (by omega) (by decide)) (ga_44 ad cI cZ u4 τ (upd (u4.2.1 44) a4.toNatClampNeg (0 : Int32))) dX7_find_79 (fun H locs h => ?_)
        refine lv_iconst (v := 1) hx hb dX7_find_80 (by decide) ?_
        refine lv_istore (lv' := [(7, .int (1 : Int32)), (6, .int ((F_X4_bearsOf σ a3) - (F_X2_dryOf σ a3))), (5, .int (F_X2_placeOf σ a3)), (0, .ref (ad 43)), (1, .ref (ad 3)), (2, .ref (ad 26)), (3, .int a3), (4, .int a4)]) hx hb dX7_find_81 hl (by decide) rfl (fun ls hl => ?_)
        have L83 : ∀ (n83 : Nat) (x7_83 : Int32) (m83 : St) (H : Heap) (locs : List Loc) (ls : Array Slot), (1 ≤ x7_83.toInt ∧ 0 < n83 ∧ 6 < x7_83.toInt + n83 ∧ (m83.1 96).toInt ≤ 6 ∧ (m83.1 97).toInt ≤ 8) → F_X7_find_L83_28  n83 σ a3 a4 u4 x7_83 m83 = (F_X7_find σ a3 a4) → gH D z s (gws ad cI cZ m83 τ) H locs → lv_has ls 9 [(7, .int x7_83), (6, .int ((F_X4_bearsOf σ a3) - (F_X2_dryOf σ a3))), (5, .int (F_X2_placeOf σ a3)), (0, .ref (ad 43)), (1, .ref (ad 3)), (2, .ref (ad 26)), (3, .int a3), (4, .int a4)] → W p l e (rmH 6) s m ([.ref (ad 43), .ref (ad 3), .ref (ad 26), .int a3, .int a4] : List Value).toArray below meth c H locs 0 0 Q (F0 m 83 ls []) := by
          clear hF h hl
          intro n83
          induction n83 with
          | zero =>
            intro x7_83 m83 H locs ls hI
            exact absurd hI (by omega)
          | succ n83 ih83 =>
            intro x7_83 m83 H locs ls hI83 hF h hl
            refine lv_iload hx hb dX7_find_83 (lv_at hl 0 rfl) ?_
            refine lv_aload_n hx hb dX7_find_85 rfl (lv_at hl 4 rfl) ?_
            refine g_getN (v := .int (m83.1 96)) E h 3 rfl rfl layX4 0 (by decide) rfl nf_RX7_48 rfl dX7_find_86 ?_
            refine lv_icmp_ge (tgt := 165) hx hb dX7_find_89 (by decide) (fun c29 => ?_) (fun c29 => ?_)
            · have ic29 : (m83.1 96).toInt ≤ x7_83.toInt := i_le c29
              have hF := (if_pos c29).symm.trans hF
              exact g_vret E hr hlk h hQ (congrArg (fun u => gws ad cI cZ u τ) hF) dX7_find_165
            · have ic29 : x7_83.toInt < (m83.1 96).toInt := i_nle c29
              have hF := (if_neg c29).symm.trans hF
              refine lv_aload_n hx hb dX7_find_92 rfl (lv_at hl 3 rfl) ?_
              refine g_get (v := .int (m83.1 1378)) E h 43 rfl rfl layX7 2 (by decide) rfl mw_175 rfl dX7_find_93 ?_
              refine lv_bipush (v := (-9)) hx hb dX7_find_96 (by decide) ?_
              refine lv_icmp_ne (tgt := 165) hx hb dX7_find_98 (by decide) (fun c30 => ?_) (fun c30 => ?_)
              · have ic30 : (m83.1 1378).toInt ≠ (-9) := i_ne c30
                have hF := (if_neg c30).symm.trans hF
                exact g_vret E hr hlk h hQ (congrArg (fun u => gws ad cI cZ u τ) hF) dX7_find_165
              · have ic30 : (m83.1 1378).toInt = (-9) := i_eq c30
                have hF := (if_pos c30).symm.trans hF
                refine lv_aload_n hx hb dX7_find_101 rfl (lv_at hl 3 rfl) ?_
                refine lv_aload_n hx hb dX7_find_102 rfl (lv_at hl 4 rfl) ?_
                refine lv_iload hx hb dX7_find_103 (lv_at hl 2 rfl) ?_
                refine lv_aload_n hx hb dX7_find_105 rfl (lv_at hl 5 rfl) ?_
                refine lv_iload_n hx hb dX7_find_106 rfl (lv_at hl 6 rfl) ?_
                refine g_callVi (rest := [.int (F_X2_placeOf σ a3), .ref (ad 3), .ref (ad 43)]) E h (c_X2_cupsOf l D cI cZ z ad m83 τ a3) mw_652 cbX2_cupsOf 26 rfl rfl ⟨by decide, by decide⟩ rfl rfl hl.1 (Nat.le_of_ble_eq_true rfl) ⟨Nat.zero_le _, Nat.zero_le _⟩ dX7_find_107 (fun H locs h => ?_)
                refine lv_iload hx hb dX7_find_110 (lv_at hl 1 rfl) ?_
                refine lv_iadd hx hb dX7_find_112 ?_
                refine g_callVh (F_X7_firstOnto m83 (F_X2_placeOf σ a3) ((F_X2_cupsOf m83 a3) + ((F_X4_bearsOf σ a3) - (F_X2_dryOf σ a3)))) (rest := []) E h (c_X7_firstOnto l D cI cZ z ad m83 τ (F_X2_placeOf σ a3) ((F_X2_cupsOf m83 a3) + ((F_X4_bearsOf σ a3) - (F_X2_dryOf σ a3))) (show (m83.1 97).toInt ≤ 8 from by omega)) mw_653 cbX7_firstOnto 43 rfl rfl ⟨by decide, by decide⟩ rfl rfl hl.1 (Nat.le_of_ble_eq_true rfl) ⟨Nat.zero_le _, Nat.zero_le _⟩ dX7_find_113 (fun v31 huv31 H locs h => ?_)
                have hF : F_X7_find_k113_32 (fun y1 y2 => F_X7_find_L83_28  n83 σ a3 a4 u4 y1 y2) σ a3 a4 u4 x7_83 m83 v31 = (F_X7_find σ a3 a4) := by rw [← huv31]; exact hF
                refine lv_istore (lv' := [(8, .int v31), (7, .int x7_83), (6, .int ((F_X4_bearsOf σ a3) - (F_X2_dryOf σ a3))), (5, .int (F_X2_placeOf σ a3)), (0, .ref (ad 43)), (1, .ref (ad 3)), (2, .ref (ad 26)), (3, .int a3), (4, .int a4)]) hx hb dX7_find_116 hl (by decide) rfl (fun ls hl => ?_)
                refine lv_iload hx hb dX7_find_118 (lv_at hl 0 rfl) ?_
                refine lv_bipush (v := (-9)) hx hb dX7_find_120 (by decide) ?_
                refine lv_icmp_eq (tgt := 154) hx hb dX7_find_122 (by decide) (fun c33 => ?_) (fun c33 => ?_)
                · have ic33 : v31.toInt = (-9) := i_eq c33
                  have hF := (if_pos c33).symm.trans hF
                  refine lv_aload_n hx hb dX7_find_154 rfl (lv_at hl 4 rfl) ?_
                  refine lv_aload_n hx hb dX7_find_155 rfl (lv_at hl 5 rfl) ?_
                  refine g_callVUv (F_X7_lengthen m83) (fun u => gws ad cI cZ u τ) (rest := []) E h (c_X7_lengthen l D cI cZ z ad m83 τ (show (m83.1 97).toInt ≤ 8 from by omega)) mw_665 cbX7_lengthen 43 rfl rfl ⟨by decide, by decide⟩ rfl rfl hl.1 (Nat.le_of_ble_eq_true rfl) ⟨Nat.zero_le _, Nat.zero_le _⟩ dX7_find_156 (fun u34 huu34 H locs h => ?_)
                  have hF : F_X7_find_k156_35 (fun y1 y2 => F_X7_find_L83_28  n83 σ a3 a4 u4 y1 y2) σ a3 a4 u4 x7_83 m83 v31 u34 = (F_X7_find σ a3 a4) := by rw [← huu34]; exact hF
                  have k96_u34 : (u34.1 96).toInt = (m83.1 96).toInt := by rw [← huu34]; exact congrArg Int32.toInt ((fr_F_X7_lengthen m83).1 96 (by decide))
                  have k97_u34 : (u34.1 97).toInt = (m83.1 97).toInt := by rw [← huu34]; exact congrArg Int32.toInt ((fr_F_X7_lengthen m83).1 97 (by decide))
                  refine lv_iinc (v := (x7_83 + (1 : Int32))) (lv' := [(7, .int (x7_83 + (1 : Int32))), (8, .int v31), (6, .int ((F_X4_bearsOf σ a3) - (F_X2_dryOf σ a3))), (5, .int (F_X2_placeOf σ a3)), (0, .ref (ad 43)), (1, .ref (ad 3)), (2, .ref (ad 26)), (3, .int a3), (4, .int a4)]) hx hb dX7_find_159 hl (k := 1) rfl rfl (by decide) rfl (fun ls hl => ?_)
                  refine lv_goto (tgt := 83) hx hb dX7_find_162 (by decide) ?_
                  have e83_7 : (x7_83 + (1 : Int32)).toInt = _ := ti_of (oI_add (oI_at x7_83) (oI_lit (x := 1) (a := 1) rfl)) (by omega)
                  exact ih83 (x7_83 + (1 : Int32)) u34 _ _ ls ((show 1 ≤ (x7_83 + (1 : Int32)).toInt ∧ 0 < n83 ∧ 6 < (x7_83 + (1 : Int32)).toInt + n83 ∧ (u34.1 96).toInt ≤ 6 ∧ (u34.1 97).toInt ≤ 8 from by omega)) hF h (lv_sub hl [0, 2, 3, 4, 5, 6, 7, 8] rfl)
                · have ic33 : v31.toInt ≠ (-9) := i_ne c33
                  have hF := (if_neg c33).symm.trans hF
                  refine lv_aload_n hx hb dX7_find_125 rfl (lv_at hl 4 rfl) ?_
                  refine lv_iload hx hb dX7_find_126 (lv_at hl 1 rfl) ?_
                  refine g_put (v := .int x7_83) (ty := .int) (ws' := gws ad cI cZ (si m83 1378 x7_83) τ) E h 43 rfl rfl layX7 tyX7 tyX7_ok nmX7 2 (by decide) rfl mw_175 rfl rfl rfl rfl (Nat.le_of_ble_eq_true rfl) (gi_1378 ad cI cZ m83 τ x7_83) dX7_find_128 (fun H locs h => ?_)
                  refine lv_aload_n hx hb dX7_find_131 rfl (lv_at hl 4 rfl) ?_
                  refine lv_iload hx hb dX7_find_132 (lv_at hl 0 rfl) ?_
                  refine g_put (v := .int v31) (ty := .int) (ws' := gws ad cI cZ (si (si m83 1378 x7_83) 1379 v31) τ) E h 43 rfl rfl layX7 tyX7 tyX7_ok nmX7 3 (by decide) rfl mw_177 rfl rfl rfl rfl (Nat.le_of_ble_eq_true rfl) (gi_1379 ad cI cZ (si m83 1378 x7_83) τ v31) dX7_find_134 (fun H locs h => ?_)
                  refine lv_aload_n hx hb dX7_find_137 rfl (lv_at hl 4 rfl) ?_
                  refine lv_iconst (v := 0) hx hb dX7_find_138 (by decide) ?_
                  refine lv_aload_n hx hb dX7_find_139 rfl (lv_at hl 5 rfl) ?_
                  refine lv_iload hx hb dX7_find_140 (lv_at hl 0 rfl) ?_
                  refine g_callVi (rest := [.int (0 : Int32), .ref (ad 43)]) E h (c_X4_heatOf l D cI cZ z ad (si (si m83 1378 x7_83) 1379 v31) τ v31) mw_662 cbX4_heatOf 3 rfl rfl ⟨by decide, by decide⟩ rfl rfl hl.1 (Nat.le_of_ble_eq_true rfl) ⟨Nat.zero_le _, Nat.zero_le _⟩ dX7_find_142 (fun H locs h => ?_)
                  refine lv_iload hx hb dX7_find_145 (lv_at hl 2 rfl) ?_
                  refine lv_isub hx hb dX7_find_147 ?_
                  refine g_max E hl.1 mw_664 mw_290 mw_12 mw_291 (by decide) (Nat.le_of_ble_eq_true rfl) ⟨Nat.zero_le _, Nat.zero_le _⟩ dX7_find_148 ?_
                  refine g_put (v := .int (if (0 : Int32) < ((F_X4_heatOf (si (si m83 1378 x7_83) 1379 v31) v31) - ((F_X4_bearsOf σ a3) - (F_X2_dryOf σ a3))) then ((F_X4_heatOf (si (si m83 1378 x7_83) 1379 v31) v31) - ((F_X4_bearsOf σ a3) - (F_X2_dryOf σ a3))) else (0 : Int32))) (ty := .int) (ws' := gws ad cI cZ (si (si (si m83 1378 x7_83) 1379 v31) 1380 (if (0 : Int32) < ((F_X4_heatOf (si (si m83 1378 x7_83) 1379 v31) v31) - ((F_X4_bearsOf σ a3) - (F_X2_dryOf σ a3))) then ((F_X4_heatOf (si (si m83 1378 x7_83) 1379 v31) v31) - ((F_X4_bearsOf σ a3) - (F_X2_dryOf σ a3))) else (0 : Int32))) τ) E h 43 rfl rfl layX7 tyX7 tyX7_ok nmX7 4 (by decide) rfl mw_179 rfl rfl rfl rfl (Nat.le_of_ble_eq_true rfl) (gi_1380 ad cI cZ (si (si m83 1378 x7_83) 1379 v31) τ (if (0 : Int32) < ((F_X4_heatOf (si (si m83 1378 x7_83) 1379 v31) v31) - ((F_X4_bearsOf σ a3) - (F_X2_dryOf σ a3))) then ((F_X4_heatOf (si (si m83 1378 x7_83) 1379 v31) v31) - ((F_X4_bearsOf σ a3) - (F_X2_dryOf σ a3))) else (0 : Int32))) dX7_find_151 (fun H locs h => ?_)
                  refine lv_aload_n hx hb dX7_find_154 rfl (lv_at hl 4 rfl) ?_
                  refine lv_aload_n hx hb dX7_find_155 rfl (lv_at hl 5 rfl) ?_
                  refine g_callVUv (F_X7_lengthen (si (si (si m83 1378 x7_83) 1379 v31) 1380 (if (0 : Int32) < ((F_X4_heatOf (si (si m83 1378 x7_83) 1379 v31) v31) - ((F_X4_bearsOf σ a3) - (F_X2_dryOf σ a3))) then ((F_X4_heatOf (si (si m83 1378 x7_83) 1379 v31) v31) - ((F_X4_bearsOf σ a3) - (F_X2_dryOf σ a3))) else (0 : Int32)))) (fun u => gws ad cI cZ u τ) (rest := []) E h (c_X7_lengthen l D cI cZ z ad (si (si (si m83 1378 x7_83) 1379 v31) 1380 (if (0 : Int32) < ((F_X4_heatOf (si (si m83 1378 x7_83) 1379 v31) v31) - ((F_X4_bearsOf σ a3) - (F_X2_dryOf σ a3))) then ((F_X4_heatOf (si (si m83 1378 x7_83) 1379 v31) v31) - ((F_X4_bearsOf σ a3) - (F_X2_dryOf σ a3))) else (0 : Int32))) τ (show (m83.1 97).toInt ≤ 8 from by omega)) mw_665 cbX7_lengthen 43 rfl rfl ⟨by decide, by decide⟩ rfl rfl hl.1 (Nat.le_of_ble_eq_true rfl) ⟨Nat.zero_le _, Nat.zero_le _⟩ dX7_find_156 (fun u36 huu36 H locs h => ?_)
                  have hF : F_X7_find_k156_37 (fun y1 y2 => F_X7_find_L83_28  n83 σ a3 a4 u4 y1 y2) σ a3 a4 u4 x7_83 m83 v31 u36 = (F_X7_find σ a3 a4) := by rw [← huu36]; exact hF
                  have k96_u36 : (u36.1 96).toInt = (m83.1 96).toInt := by rw [← huu36]; exact congrArg Int32.toInt ((fr_F_X7_lengthen (si (si (si m83 1378 x7_83) 1379 v31) 1380 (if (0 : Int32) < ((F_X4_heatOf (si (si m83 1378 x7_83) 1379 v31) v31) - ((F_X4_bearsOf σ a3) - (F_X2_dryOf σ a3))) then ((F_X4_heatOf (si (si m83 1378 x7_83) 1379 v31) v31) - ((F_X4_bearsOf σ a3) - (F_X2_dryOf σ a3))) else (0 : Int32)))).1 96 (by decide))
                  have k97_u36 : (u36.1 97).toInt = (m83.1 97).toInt := by rw [← huu36]; exact congrArg Int32.toInt ((fr_F_X7_lengthen (si (si (si m83 1378 x7_83) 1379 v31) 1380 (if (0 : Int32) < ((F_X4_heatOf (si (si m83 1378 x7_83) 1379 v31) v31) - ((F_X4_bearsOf σ a3) - (F_X2_dryOf σ a3))) then ((F_X4_heatOf (si (si m83 1378 x7_83) 1379 v31) v31) - ((F_X4_bearsOf σ a3) - (F_X2_dryOf σ a3))) else (0 : Int32)))).1 97 (by decide))
                  refine lv_iinc (v := (x7_83 + (1 : Int32))) (lv' := [(7, .int (x7_83 + (1 : Int32))), (8, .int v31), (6, .int ((F_X4_bearsOf σ a3) - (F_X2_dryOf σ a3))), (5, .int (F_X2_placeOf σ a3)), (0, .ref (ad 43)), (1, .ref (ad 3)), (2, .ref (ad 26)), (3, .int a3), (4, .int a4)]) hx hb dX7_find_159 hl (k := 1) rfl rfl (by decide) rfl (fun ls hl => ?_)
                  refine lv_goto (tgt := 83) hx hb dX7_find_162 (by decide) ?_
                  have e83_7 : (x7_83 + (1 : Int32)).toInt = _ := ti_of (oI_add (oI_at x7_83) (oI_lit (x := 1) (a := 1) rfl)) (by omega)
                  exact ih83 (x7_83 + (1 : Int32)) u36 _ _ ls ((show 1 ≤ (x7_83 + (1 : Int32)).toInt ∧ 0 < n83 ∧ 6 < (x7_83 + (1 : Int32)).toInt + n83 ∧ (u36.1 96).toInt ≤ 6 ∧ (u36.1 97).toInt ≤ 8 from by omega)) hF h (lv_sub hl [0, 2, 3, 4, 5, 6, 7, 8] rfl)
        have q83_7 : (1 : Int32).toInt = 1 := rfl
        exact L83 7 (1 : Int32) (sa u4 44 (upd (u4.2.1 44) a4.toNatClampNeg (0 : Int32))) _ _ ls ((show 1 ≤ (1 : Int32).toInt ∧ 0 < (7 : Nat) ∧ 6 < (1 : Int32).toInt + (7 : Nat) ∧ (u4.1 96).toInt ≤ 6 ∧ (u4.1 97).toInt ≤ 8 from by omega)) hF h (lv_sub hl [0, 1, 2, 3, 4, 5, 6, 7] rfl)
  · refine lv_icmp_ne (tgt := 32) hx hb dX7_find_25 (by decide) (fun c3 => ?_) (fun c3 => ?_)
    · have ic3 : (F_X2_placeOf σ a3).toInt ≠ a4.toInt := i_ne c3
      refine lv_bipush (v := (-9)) hx hb dX7_find_32 (by decide) ?_
      exact K2 _ _ _ ((if_neg c3).symm) h
    · have ic3 : (F_X2_placeOf σ a3).toInt = a4.toInt := i_eq c3
      refine lv_iconst (v := 0) hx hb dX7_find_28 (by decide) ?_
      refine lv_goto (tgt := 34) hx hb dX7_find_29 (by decide) ?_
      exact K2 _ _ _ ((if_pos c3).symm) h
