def F_X9_keeps_L70 : Nat → St → St → Int32 → St → St
  | 0, _, _, _, m70 => m70
  | n + 1, τ, m54, x2_70, m70 => (if (74 : Int32) ≤ x2_70 then (sa m70 53 (upd (m70.2.1 53) 74 (((m70.2.1 53) 74) + (1 : Int32)))) else (F_X9_keeps_L70  n τ m54 (x2_70 + (1 : Int32)) (sa m70 53 (upd (m70.2.1 53) (((75 : Int32) + ((74 : Int32) * ((m54.2.1 53) 74))) + x2_70).toNatClampNeg ((m70.2.1 53) x2_70.toNatClampNeg)))))
def F_X9_keeps_J54 (τ : St) (m54 : St) : St := (F_X9_keeps_L70  75 τ m54 (0 : Int32) m54)
def F_X9_keeps_L15 (jf54 : St → St) : Nat → St → Int32 → St → St
  | 0, _, _, m15 => m15
  | n + 1, τ, x1_15, m15 => (if (741 : Int32) ≤ x1_15 then (jf54 (sa m15 53 (upd (m15.2.1 53) 74 (((m15.2.1 53) 74) - (1 : Int32))))) else (F_X9_keeps_L15 jf54 n τ (x1_15 + (1 : Int32)) (sa m15 53 (upd (m15.2.1 53) x1_15.toNatClampNeg ((m15.2.1 53) (x1_15 + (74 : Int32)).toNatClampNeg)))))
def F_X9_keeps (τ : St) : St := (if ((τ.2.1 53) 74) = (10 : Int32) then (F_X9_keeps_L15 (fun y1 => F_X9_keeps_J54  τ y1) 667 τ (75 : Int32) τ) else ((fun y1 => F_X9_keeps_J54  τ y1) τ))
abbrev I_X9_keeps : List Nat := []
abbrev A_X9_keeps : List Nat := [53]
theorem fr_F_X9_keeps_L70_w (τ : St) (m54 : St) : ∀ (n : Nat) (x2_70 : Int32) (m70 : St), Fr I_X9_keeps A_X9_keeps false τ m70 → Fr I_X9_keeps A_X9_keeps false τ (F_X9_keeps_L70  n τ m54 x2_70 m70)
  | 0, x2_70, m70, hfr => hfr
  | n + 1, x2_70, m70, hfr => (fr_ite1 (Fr.sa (by decide) hfr) ((fun y1 y2 hy => fr_F_X9_keeps_L70_w  τ m54  n y1 y2 hy) (x2_70 + (1 : Int32)) (sa m70 53 (upd (m70.2.1 53) (((75 : Int32) + ((74 : Int32) * ((m54.2.1 53) 74))) + x2_70).toNatClampNeg ((m70.2.1 53) x2_70.toNatClampNeg))) (Fr.sa (by decide) hfr)))
theorem fr_F_X9_keeps_L70 (n : Nat) (τ : St) (m54 : St) (x2_70 : Int32) (m70 : St) (hfr : Fr I_X9_keeps A_X9_keeps false τ (m70)) : Fr I_X9_keeps A_X9_keeps false τ (F_X9_keeps_L70  n τ m54 x2_70 m70) := fr_F_X9_keeps_L70_w  τ m54  n x2_70 m70 hfr
theorem fr_F_X9_keeps_J54 (τ : St) (m54 : St) (hfr : Fr I_X9_keeps A_X9_keeps false τ (m54)) : Fr I_X9_keeps A_X9_keeps false τ (F_X9_keeps_J54  τ m54) := (fr_F_X9_keeps_L70  75 τ m54 (0 : Int32) m54 hfr)
theorem fr_F_X9_keeps_L15_w (jf54 : St → St) (τ : St) (hjf54 : ∀  (m : St), Fr I_X9_keeps A_X9_keeps false τ m → Fr I_X9_keeps A_X9_keeps false τ (jf54  m)) : ∀ (n : Nat) (x1_15 : Int32) (m15 : St), Fr I_X9_keeps A_X9_keeps false τ m15 → Fr I_X9_keeps A_X9_keeps false τ (F_X9_keeps_L15 jf54 n τ x1_15 m15)
  | 0, x1_15, m15, hfr => hfr
  | n + 1, x1_15, m15, hfr => (fr_ite1 (hjf54 (sa m15 53 (upd (m15.2.1 53) 74 (((m15.2.1 53) 74) - (1 : Int32)))) (Fr.sa (by decide) hfr)) ((fun y1 y2 hy => fr_F_X9_keeps_L15_w jf54 τ hjf54 n y1 y2 hy) (x1_15 + (1 : Int32)) (sa m15 53 (upd (m15.2.1 53) x1_15.toNatClampNeg ((m15.2.1 53) (x1_15 + (74 : Int32)).toNatClampNeg))) (Fr.sa (by decide) hfr)))
theorem fr_F_X9_keeps_L15 (jf54 : St → St) (n : Nat) (τ : St) (x1_15 : Int32) (m15 : St) (hjf54 : ∀  (m : St), Fr I_X9_keeps A_X9_keeps false τ m → Fr I_X9_keeps A_X9_keeps false τ (jf54  m)) (hfr : Fr I_X9_keeps A_X9_keeps false τ (m15)) : Fr I_X9_keeps A_X9_keeps false τ (F_X9_keeps_L15 jf54 n τ x1_15 m15) := fr_F_X9_keeps_L15_w jf54 τ hjf54 n x1_15 m15 hfr
theorem fr_F_X9_keeps (τ : St) : Fr I_X9_keeps A_X9_keeps false τ (F_X9_keeps τ) := (fr_ite1 (fr_F_X9_keeps_L15 (fun y1 => F_X9_keeps_J54  τ y1) 667 τ (75 : Int32) τ (fun y1 hy => fr_F_X9_keeps_J54  τ y1 hy) Fr.rf) ((fun y1 hy => fr_F_X9_keeps_J54  τ y1 hy) τ Fr.rf))
set_option maxHeartbeats 4000000 in
set_option maxRecDepth 20000 in
theorem c_X9_keeps (l : Launch) (D : va_G) (cI cZ : ClassId) (z : Nat) (ad : Nat → Nat) (σ τ : St) (hn_ : 0 ≤ ((τ.2.1 53) 74).toInt ∧ ((τ.2.1 53) 74).toInt ≤ 10) : gM l yX9_keeps cX9_keeps 3 none 1 D cI cZ z (gws ad cI cZ σ τ) [.ref (ad 48)] none (gws ad cI cZ σ (F_X9_keeps τ)) := by
  refine g_met (own := RX9) (by decide) rfl (Nat.le_of_ble_eq_true rfl) (fun p e s m below meth c ls Q E hr hlk h hl hQ => ?_)
  have hx := E.1
  have hb := E.2.1
  have hF : (F_X9_keeps τ) = (F_X9_keeps τ) := rfl
  have hl : lv_has ls 3 [(0, .ref (ad 48))] := hl
  have J54 : ∀ (m54 : St) (H : Heap) (locs : List Loc) (ls : Array Slot), (0 ≤ ((m54.2.1 53) 74).toInt ∧ ((m54.2.1 53) 74).toInt ≤ 9) → F_X9_keeps_J54  τ m54 = (F_X9_keeps τ) → gH D z s (gws ad cI cZ σ m54) H locs → lv_has ls 3 [(0, .ref (ad 48))] → W p l e (rmH 1) s m ([.ref (ad 48)] : List Value).toArray below meth c H locs 0 0 Q (F0 m 54 ls []) := by
    clear hF h hl
    intro m54 H locs ls hJ54 hF h hl
    refine lv_bipush (v := 75) hx hb dX9_keeps_54 (by decide) ?_
    refine lv_bipush (v := 74) hx hb dX9_keeps_56 (by decide) ?_
    refine lv_aload_n hx hb dX9_keeps_58 rfl (lv_at hl 0 rfl) ?_
    refine g_get (v := .ref (ad 53)) E h 48 rfl rfl layX9 6 (by decide) rfl mw_825 rfl dX9_keeps_59 ?_
    refine lv_bipush (v := 74) hx hb dX9_keeps_62 (by decide) ?_
    refine g_ialdk (f := (m54.2.1 53)) E h 53 rfl 74 rfl (ix_of (oI_lit (x := 74) (a := 74) rfl) (by omega) (by decide)) dX9_keeps_64 ?_
    refine lv_imul hx hb dX9_keeps_65 ?_
    refine lv_iadd hx hb dX9_keeps_66 ?_
    refine lv_istore_n (lv' := [(1, .int ((75 : Int32) + ((74 : Int32) * ((m54.2.1 53) 74)))), (0, .ref (ad 48))]) hx hb dX9_keeps_67 rfl hl (by decide) rfl (fun ls hl => ?_)
    refine lv_iconst (v := 0) hx hb dX9_keeps_68 (by decide) ?_
    refine lv_istore_n (lv' := [(2, .int (0 : Int32)), (1, .int ((75 : Int32) + ((74 : Int32) * ((m54.2.1 53) 74)))), (0, .ref (ad 48))]) hx hb dX9_keeps_69 rfl hl (by decide) rfl (fun ls hl => ?_)
    have L70 : ∀ (n70 : Nat) (x2_70 : Int32) (m70 : St) (H : Heap) (locs : List Loc) (ls : Array Slot), (0 ≤ x2_70.toInt ∧ x2_70.toInt ≤ 74 ∧ x2_70.toInt + n70 = 75) → F_X9_keeps_L70  n70 τ m54 x2_70 m70 = (F_X9_keeps τ) → gH D z s (gws ad cI cZ σ m70) H locs → lv_has ls 3 [(2, .int x2_70), (1, .int ((75 : Int32) + ((74 : Int32) * ((m54.2.1 53) 74)))), (0, .ref (ad 48))] → W p l e (rmH 1) s m ([.ref (ad 48)] : List Value).toArray below meth c H locs 0 0 Q (F0 m 70 ls []) := by
      clear hF h hl
      intro n70
      induction n70 with
      | zero =>
        intro x2_70 m70 H locs ls hI
        exact absurd hI (by omega)
      | succ n70 ih70 =>
        intro x2_70 m70 H locs ls hI70 hF h hl
        refine lv_iload_n hx hb dX9_keeps_70 rfl (lv_at hl 0 rfl) ?_
        refine lv_bipush (v := 74) hx hb dX9_keeps_71 (by decide) ?_
        refine lv_icmp_ge (tgt := 96) hx hb dX9_keeps_73 (by decide) (fun c2 => ?_) (fun c2 => ?_)
        · have ic2 : 74 ≤ x2_70.toInt := i_le c2
          have hF := (if_pos c2).symm.trans hF
          refine lv_aload_n hx hb dX9_keeps_96 rfl (lv_at hl 2 rfl) ?_
          refine g_get (v := .ref (ad 53)) E h 48 rfl rfl layX9 6 (by decide) rfl mw_825 rfl dX9_keeps_97 ?_
          refine lv_bipush (v := 74) hx hb dX9_keeps_100 (by decide) ?_
          refine lv_dup2_11 hx hb dX9_keeps_102 rfl rfl ?_
          refine g_ialdk (f := (m70.2.1 53)) E h 53 rfl 74 rfl (ix_of (oI_lit (x := 74) (a := 74) rfl) (by omega) (by decide)) dX9_keeps_103 ?_
          refine lv_iconst (v := 1) hx hb dX9_keeps_104 (by decide) ?_
          refine lv_iadd hx hb dX9_keeps_105 ?_
          refine g_iastk (f := (m70.2.1 53)) (ws' := gws ad cI cZ σ (sa m70 53 (upd (m70.2.1 53) 74 (((m70.2.1 53) 74) + (1 : Int32))))) E h 53 rfl 74 rfl (ix_of (oI_lit (x := 74) (a := 74) rfl) (by omega) (by decide)) (ga_53 ad cI cZ σ m70 (upd (m70.2.1 53) 74 (((m70.2.1 53) 74) + (1 : Int32)))) dX9_keeps_106 (fun H locs h => ?_)
          exact g_vret E hr hlk h hQ (congrArg (fun u => gws ad cI cZ σ u) hF) dX9_keeps_107
        · have ic2 : x2_70.toInt < 74 := i_nle c2
          have hF := (if_neg c2).symm.trans hF
          refine lv_aload_n hx hb dX9_keeps_76 rfl (lv_at hl 2 rfl) ?_
          refine g_get (v := .ref (ad 53)) E h 48 rfl rfl layX9 6 (by decide) rfl mw_825 rfl dX9_keeps_77 ?_
          refine lv_iload_n hx hb dX9_keeps_80 rfl (lv_at hl 1 rfl) ?_
          refine lv_iload_n hx hb dX9_keeps_81 rfl (lv_at hl 0 rfl) ?_
          refine lv_iadd hx hb dX9_keeps_82 ?_
          refine lv_aload_n hx hb dX9_keeps_83 rfl (lv_at hl 2 rfl) ?_
          refine g_get (v := .ref (ad 53)) E h 48 rfl rfl layX9 6 (by decide) rfl mw_825 rfl dX9_keeps_84 ?_
          refine lv_iload_n hx hb dX9_keeps_87 rfl (lv_at hl 0 rfl) ?_
          refine g_iald (f := (m70.2.1 53)) E h 53 rfl (ix_of (oI_at x2_70) (by omega) (by decide)) dX9_keeps_88 ?_
          refine g_iast (f := (m70.2.1 53)) (ws' := gws ad cI cZ σ (sa m70 53 (upd (m70.2.1 53) (((75 : Int32) + ((74 : Int32) * ((m54.2.1 53) 74))) + x2_70).toNatClampNeg ((m70.2.1 53) x2_70.toNatClampNeg)))) E h 53 rfl (ix_of (oI_add (oI_add (oI_lit (x := 75) (a := 75) rfl) (oI_mul (oI_lit (x := 74) (a := 74) rfl) (oI_at ((m54.2.1 53) 74)))) (oI_at x2_70)) (by omega) (by decide)) (ga_53 ad cI cZ σ m70 (upd (m70.2.1 53) (((75 : Int32) + ((74 : Int32) * ((m54.2.1 53) 74))) + x2_70).toNatClampNeg ((m70.2.1 53) x2_70.toNatClampNeg))) dX9_keeps_89 (fun H locs h => ?_)
          refine lv_iinc (v := (x2_70 + (1 : Int32))) (lv' := [(2, .int (x2_70 + (1 : Int32))), (1, .int ((75 : Int32) + ((74 : Int32) * ((m54.2.1 53) 74)))), (0, .ref (ad 48))]) hx hb dX9_keeps_90 hl (k := 0) rfl rfl (by decide) rfl (fun ls hl => ?_)
          refine lv_goto (tgt := 70) hx hb dX9_keeps_93 (by decide) ?_
          have e70_2 : (x2_70 + (1 : Int32)).toInt = _ := ti_of (oI_add (oI_at x2_70) (oI_lit (x := 1) (a := 1) rfl)) (by omega)
          exact ih70 (x2_70 + (1 : Int32)) (sa m70 53 (upd (m70.2.1 53) (((75 : Int32) + ((74 : Int32) * ((m54.2.1 53) 74))) + x2_70).toNatClampNeg ((m70.2.1 53) x2_70.toNatClampNeg))) _ _ ls ((show 0 ≤ (x2_70 + (1 : Int32)).toInt ∧ (x2_70 + (1 : Int32)).toInt ≤ 74 ∧ (x2_70 + (1 : Int32)).toInt + n70 = 75 from by omega)) hF h (lv_sub hl [0, 1, 2] rfl)
    have q70_2 : (0 : Int32).toInt = 0 := rfl
    exact L70 75 (0 : Int32) m54 _ _ ls ((show 0 ≤ (0 : Int32).toInt ∧ (0 : Int32).toInt ≤ 74 ∧ (0 : Int32).toInt + (75 : Nat) = 75 from by omega)) hF h (lv_sub hl [0, 1, 2] rfl)
  refine lv_aload_n hx hb dX9_keeps_0 rfl (lv_at hl 0 rfl) ?_
  refine g_get (v := .ref (ad 53)) E h 48 rfl rfl layX9 6 (by decide) rfl mw_825 rfl dX9_keeps_1 ?_
  refine lv_bipush (v := 74) hx hb dX9_keeps_4 (by decide) ?_
  refine g_ialdk (f := (τ.2.1 53)) E h 53 rfl 74 rfl (ix_of (oI_lit (x := 74) (a := 74) rfl) (by omega) (by decide)) dX9_keeps_6 ?_
  refine lv_bipush (v := 10) hx hb dX9_keeps_7 (by decide) ?_
  refine lv_icmp_ne (tgt := 54) hx hb dX9_keeps_9 (by decide) (fun c3 => ?_) (fun c3 => ?_)
  · have ic3 : ((τ.2.1 53) 74).toInt ≠ 10 := i_ne c3
    have hF := (if_neg c3).symm.trans hF
    exact J54 τ _ _ ls ((show 0 ≤ ((τ.2.1 53) 74).toInt ∧ ((τ.2.1 53) 74).toInt ≤ 9 from by first | omega | (rw [pk_us, ti_of (oI_sub (oI_at _) (oI_lit (x := 1) (a := 1) rfl)) (by omega)]; omega))) hF h (lv_sub hl [0] rfl)
  · have ic3 : ((τ.2.1 53) 74).toInt = 10 := i_eq c3
    have hF := (if_pos c3).symm.trans hF
    refine lv_bipush (v := 75) hx hb dX9_keeps_12 (by decide) ?_
    refine lv_istore_n (lv' := [(1, .int (75 : Int32)), (0, .ref (ad 48))]) hx hb dX9_keeps_14 rfl hl (by decide) rfl (fun ls hl => ?_)
    have L15 : ∀ (n15 : Nat) (x1_15 : Int32) (m15 : St) (H : Heap) (locs : List Loc) (ls : Array Slot), (75 ≤ x1_15.toInt ∧ x1_15.toInt ≤ 741 ∧ x1_15.toInt + n15 = 742 ∧ ((m15.2.1 53) 74).toInt = 10) → F_X9_keeps_L15 (fun y1 => F_X9_keeps_J54  τ y1) n15 τ x1_15 m15 = (F_X9_keeps τ) → gH D z s (gws ad cI cZ σ m15) H locs → lv_has ls 3 [(1, .int x1_15), (0, .ref (ad 48))] → W p l e (rmH 1) s m ([.ref (ad 48)] : List Value).toArray below meth c H locs 0 0 Q (F0 m 15 ls []) := by
      clear hF h hl
      intro n15
      induction n15 with
      | zero =>
        intro x1_15 m15 H locs ls hI
        exact absurd hI (by omega)
      | succ n15 ih15 =>
        intro x1_15 m15 H locs ls hI15 hF h hl
        refine lv_iload_n hx hb dX9_keeps_15 rfl (lv_at hl 0 rfl) ?_
        refine lv_sipush (v := 741) hx hb dX9_keeps_16 (by decide) ?_
        refine lv_icmp_ge (tgt := 43) hx hb dX9_keeps_19 (by decide) (fun c5 => ?_) (fun c5 => ?_)
        · have ic5 : 741 ≤ x1_15.toInt := i_le c5
          have hF := (if_pos c5).symm.trans hF
          refine lv_aload_n hx hb dX9_keeps_43 rfl (lv_at hl 1 rfl) ?_
          refine g_get (v := .ref (ad 53)) E h 48 rfl rfl layX9 6 (by decide) rfl mw_825 rfl dX9_keeps_44 ?_
          refine lv_bipush (v := 74) hx hb dX9_keeps_47 (by decide) ?_
          refine lv_dup2_11 hx hb dX9_keeps_49 rfl rfl ?_
          refine g_ialdk (f := (m15.2.1 53)) E h 53 rfl 74 rfl (ix_of (oI_lit (x := 74) (a := 74) rfl) (by omega) (by decide)) dX9_keeps_50 ?_
          refine lv_iconst (v := 1) hx hb dX9_keeps_51 (by decide) ?_
          refine lv_isub hx hb dX9_keeps_52 ?_
          refine g_iastk (f := (m15.2.1 53)) (ws' := gws ad cI cZ σ (sa m15 53 (upd (m15.2.1 53) 74 (((m15.2.1 53) 74) - (1 : Int32))))) E h 53 rfl 74 rfl (ix_of (oI_lit (x := 74) (a := 74) rfl) (by omega) (by decide)) (ga_53 ad cI cZ σ m15 (upd (m15.2.1 53) 74 (((m15.2.1 53) 74) - (1 : Int32)))) dX9_keeps_53 (fun H locs h => ?_)
          exact J54 (sa m15 53 (upd (m15.2.1 53) 74 (((m15.2.1 53) 74) - (1 : Int32)))) _ _ ls ((show 0 ≤ ((upd (m15.2.1 53) 74 (((m15.2.1 53) 74) - (1 : Int32))) 74).toInt ∧ ((upd (m15.2.1 53) 74 (((m15.2.1 53) 74) - (1 : Int32))) 74).toInt ≤ 9 from by first | omega | (rw [pk_us, ti_of (oI_sub (oI_at _) (oI_lit (x := 1) (a := 1) rfl)) (by omega)]; omega))) hF h (lv_sub hl [1] rfl)
        · have ic5 : x1_15.toInt < 741 := i_nle c5
          have hF := (if_neg c5).symm.trans hF
          refine lv_aload_n hx hb dX9_keeps_22 rfl (lv_at hl 1 rfl) ?_
          refine g_get (v := .ref (ad 53)) E h 48 rfl rfl layX9 6 (by decide) rfl mw_825 rfl dX9_keeps_23 ?_
          refine lv_iload_n hx hb dX9_keeps_26 rfl (lv_at hl 0 rfl) ?_
          refine lv_aload_n hx hb dX9_keeps_27 rfl (lv_at hl 1 rfl) ?_
          refine g_get (v := .ref (ad 53)) E h 48 rfl rfl layX9 6 (by decide) rfl mw_825 rfl dX9_keeps_28 ?_
          refine lv_iload_n hx hb dX9_keeps_31 rfl (lv_at hl 0 rfl) ?_
          refine lv_bipush (v := 74) hx hb dX9_keeps_32 (by decide) ?_
          refine lv_iadd hx hb dX9_keeps_34 ?_
          refine g_iald (f := (m15.2.1 53)) E h 53 rfl (ix_of (oI_add (oI_at x1_15) (oI_lit (x := 74) (a := 74) rfl)) (by omega) (by decide)) dX9_keeps_35 ?_
          refine g_iast (f := (m15.2.1 53)) (ws' := gws ad cI cZ σ (sa m15 53 (upd (m15.2.1 53) x1_15.toNatClampNeg ((m15.2.1 53) (x1_15 + (74 : Int32)).toNatClampNeg)))) E h 53 rfl (ix_of (oI_at x1_15) (by omega) (by decide)) (ga_53 ad cI cZ σ m15 (upd (m15.2.1 53) x1_15.toNatClampNeg ((m15.2.1 53) (x1_15 + (74 : Int32)).toNatClampNeg))) dX9_keeps_36 (fun H locs h => ?_)
          refine lv_iinc (v := (x1_15 + (1 : Int32))) (lv' := [(1, .int (x1_15 + (1 : Int32))), (0, .ref (ad 48))]) hx hb dX9_keeps_37 hl (k := 0) rfl rfl (by decide) rfl (fun ls hl => ?_)
          refine lv_goto (tgt := 15) hx hb dX9_keeps_40 (by decide) ?_
          have e15_1 : (x1_15 + (1 : Int32)).toInt = _ := ti_of (oI_add (oI_at x1_15) (oI_lit (x := 1) (a := 1) rfl)) (by omega)
          exact ih15 (x1_15 + (1 : Int32)) (sa m15 53 (upd (m15.2.1 53) x1_15.toNatClampNeg ((m15.2.1 53) (x1_15 + (74 : Int32)).toNatClampNeg))) _ _ ls ((show 75 ≤ (x1_15 + (1 : Int32)).toInt ∧ (x1_15 + (1 : Int32)).toInt ≤ 741 ∧ (x1_15 + (1 : Int32)).toInt + n15 = 742 ∧ ((upd (m15.2.1 53) x1_15.toNatClampNeg ((m15.2.1 53) (x1_15 + (74 : Int32)).toNatClampNeg)) 74).toInt = 10 from by rw [pk_un (fun q => by have := cn_of (oI_at x1_15) (by omega); omega)]; omega)) hF h (lv_sub hl [0, 1] rfl)
    have q15_1 : (75 : Int32).toInt = 75 := rfl
    exact L15 667 (75 : Int32) τ _ _ ls ((show 75 ≤ (75 : Int32).toInt ∧ (75 : Int32).toInt ≤ 741 ∧ (75 : Int32).toInt + (667 : Nat) = 742 ∧ ((τ.2.1 53) 74).toInt = 10 from by omega)) hF h (lv_sub hl [0, 1] rfl)

def F_X9_paid (τ : St) (a1 : Int32) (a2 : Int32) : Int32 := (if (if (if ((τ.2.1 50) ((34 : Int32) + a1).toNatClampNeg) = (1 : Int32) then (1 : Int32) else (0 : Int32)) = 0 then (0 : Int32) else (if ((τ.2.1 50) ((4 : Int32) + ((τ.2.1 50) ((42 : Int32) + a1).toNatClampNeg)).toNatClampNeg) = (1 : Int32) then (1 : Int32) else (0 : Int32))) = 0 then (if (if ((τ.2.1 50) ((34 : Int32) + a1).toNatClampNeg) = (1 : Int32) then (1 : Int32) else (0 : Int32)) = 0 then a2 else (a2 / (2 : Int32))) else (0 : Int32))
set_option maxHeartbeats 4000000 in
set_option maxRecDepth 20000 in
theorem c_X9_paid (l : Launch) (D : va_G) (cI cZ : ClassId) (z : Nat) (ad : Nat → Nat) (σ τ : St) (a1 a2 : Int32) (ha_ : 0 ≤ a1.toInt ∧ a1.toInt < 8) (hl_ : ∀ x : Int32, 0 ≤ x.toInt → x.toInt < 8 → 0 ≤ ((τ.2.1 50) ((42 : Int32) + x).toNatClampNeg).toInt ∧ ((τ.2.1 50) ((42 : Int32) + x).toNatClampNeg).toInt ≤ 5) : gM l yX9_paid cX9_paid 5 (some .int) 1 D cI cZ z (gws ad cI cZ σ τ) [.ref (ad 48), .int a1, .int a2] (some (.int (F_X9_paid τ a1 a2))) (gws ad cI cZ σ τ) := by
  refine g_met (own := RX9) (by decide) rfl (Nat.le_of_ble_eq_true rfl) (fun p e s m below meth c ls Q E hr hlk h hl hQ => ?_)
  have hx := E.1
  have hb := E.2.1
  have hF : (F_X9_paid τ a1 a2) = (F_X9_paid τ a1 a2) := rfl
  have hl : lv_has ls 5 [(0, .ref (ad 48)), (1, .int a1), (2, .int a2)] := hl
  refine lv_aload_n hx hb dX9_paid_0 rfl (lv_at hl 0 rfl) ?_
  refine g_get (v := .ref (ad 50)) E h 48 rfl rfl layX9 3 (by decide) rfl mw_822 rfl dX9_paid_1 ?_
  refine lv_bipush (v := 34) hx hb dX9_paid_4 (by decide) ?_
  refine lv_iload_n hx hb dX9_paid_6 rfl (lv_at hl 1 rfl) ?_
  refine lv_iadd hx hb dX9_paid_7 ?_
  refine g_iald (f := (τ.2.1 50)) E h 50 rfl (ix_of (oI_add (oI_lit (x := 34) (a := 34) rfl) (oI_at a1)) (by omega) (by decide)) dX9_paid_8 ?_
  refine lv_iconst (v := 1) hx hb dX9_paid_9 (by decide) ?_
  refine g_dia (D := D) (z := z) (ws := gws ad cI cZ σ τ) (rest := []) 18 (if ((τ.2.1 50) ((34 : Int32) + a1).toNatClampNeg) = (1 : Int32) then (1 : Int32) else (0 : Int32)) (fun H locs h => ?_) (fun K2 => ?_)
  · refine lv_istore_n (lv' := [(3, .int (if ((τ.2.1 50) ((34 : Int32) + a1).toNatClampNeg) = (1 : Int32) then (1 : Int32) else (0 : Int32))), (0, .ref (ad 48)), (1, .int a1), (2, .int a2)]) hx hb dX9_paid_18 rfl hl (by decide) rfl (fun ls hl => ?_)
    refine lv_iload_n hx hb dX9_paid_19 rfl (lv_at hl 0 rfl) ?_
    refine g_dia (D := D) (z := z) (ws := gws ad cI cZ σ τ) (rest := []) 48 (if (if ((τ.2.1 50) ((34 : Int32) + a1).toNatClampNeg) = (1 : Int32) then (1 : Int32) else (0 : Int32)) = 0 then (0 : Int32) else (if ((τ.2.1 50) ((4 : Int32) + ((τ.2.1 50) ((42 : Int32) + a1).toNatClampNeg)).toNatClampNeg) = (1 : Int32) then (1 : Int32) else (0 : Int32))) (fun H locs h => ?_) (fun K6 => ?_)
    · refine lv_istore (lv' := [(4, .int (if (if ((τ.2.1 50) ((34 : Int32) + a1).toNatClampNeg) = (1 : Int32) then (1 : Int32) else (0 : Int32)) = 0 then (0 : Int32) else (if ((τ.2.1 50) ((4 : Int32) + ((τ.2.1 50) ((42 : Int32) + a1).toNatClampNeg)).toNatClampNeg) = (1 : Int32) then (1 : Int32) else (0 : Int32)))), (3, .int (if ((τ.2.1 50) ((34 : Int32) + a1).toNatClampNeg) = (1 : Int32) then (1 : Int32) else (0 : Int32))), (0, .ref (ad 48)), (1, .int a1), (2, .int a2)]) hx hb dX9_paid_48 hl (by decide) rfl (fun ls hl => ?_)
      refine lv_iload hx hb dX9_paid_50 (lv_at hl 0 rfl) ?_
      refine lv_if_eq (tgt := 59) hx hb dX9_paid_52 (by decide) (fun c9 => ?_) (fun c9 => ?_)
      · have ic9 : (if (if ((τ.2.1 50) ((34 : Int32) + a1).toNatClampNeg) = (1 : Int32) then (1 : Int32) else (0 : Int32)) = 0 then (0 : Int32) else (if ((τ.2.1 50) ((4 : Int32) + ((τ.2.1 50) ((42 : Int32) + a1).toNatClampNeg)).toNatClampNeg) = (1 : Int32) then (1 : Int32) else (0 : Int32))).toInt = 0 := i_eq c9
        have hF := (if_pos c9).symm.trans hF
        refine lv_iload_n hx hb dX9_paid_59 rfl (lv_at hl 1 rfl) ?_
        refine lv_if_eq (tgt := 69) hx hb dX9_paid_60 (by decide) (fun c10 => ?_) (fun c10 => ?_)
        · have ic10 : (if ((τ.2.1 50) ((34 : Int32) + a1).toNatClampNeg) = (1 : Int32) then (1 : Int32) else (0 : Int32)).toInt = 0 := i_eq c10
          have hF := (if_pos c10).symm.trans hF
          refine lv_iload_n hx hb dX9_paid_69 rfl (lv_at hl 4 rfl) ?_
          exact g_iret E hr hlk h hQ hF rfl dX9_paid_70
        · have ic10 : (if ((τ.2.1 50) ((34 : Int32) + a1).toNatClampNeg) = (1 : Int32) then (1 : Int32) else (0 : Int32)).toInt ≠ 0 := i_ne c10
          have hF := (if_neg c10).symm.trans hF
          refine lv_iload_n hx hb dX9_paid_63 rfl (lv_at hl 4 rfl) ?_
          refine lv_iconst (v := 2) hx hb dX9_paid_64 (by decide) ?_
          refine lv_idiv hx hb dX9_paid_65 (by decide) ?_
          refine lv_goto (tgt := 70) hx hb dX9_paid_66 (by decide) ?_
          exact g_iret E hr hlk h hQ hF rfl dX9_paid_70
      · have ic9 : (if (if ((τ.2.1 50) ((34 : Int32) + a1).toNatClampNeg) = (1 : Int32) then (1 : Int32) else (0 : Int32)) = 0 then (0 : Int32) else (if ((τ.2.1 50) ((4 : Int32) + ((τ.2.1 50) ((42 : Int32) + a1).toNatClampNeg)).toNatClampNeg) = (1 : Int32) then (1 : Int32) else (0 : Int32))).toInt ≠ 0 := i_ne c9
        have hF := (if_neg c9).symm.trans hF
        refine lv_iconst (v := 0) hx hb dX9_paid_55 (by decide) ?_
        refine lv_goto (tgt := 70) hx hb dX9_paid_56 (by decide) ?_
        exact g_iret E hr hlk h hQ hF rfl dX9_paid_70
    · refine lv_if_eq (tgt := 47) hx hb dX9_paid_20 (by decide) (fun c7 => ?_) (fun c7 => ?_)
      · have ic7 : (if ((τ.2.1 50) ((34 : Int32) + a1).toNatClampNeg) = (1 : Int32) then (1 : Int32) else (0 : Int32)).toInt = 0 := i_eq c7
        refine lv_iconst (v := 0) hx hb dX9_paid_47 (by decide) ?_
        exact K6 _ _ _ ((if_pos c7).symm) h
      · have ic7 : (if ((τ.2.1 50) ((34 : Int32) + a1).toNatClampNeg) = (1 : Int32) then (1 : Int32) else (0 : Int32)).toInt ≠ 0 := i_ne c7
        refine lv_aload_n hx hb dX9_paid_23 rfl (lv_at hl 1 rfl) ?_
        refine g_get (v := .ref (ad 50)) E h 48 rfl rfl layX9 3 (by decide) rfl mw_822 rfl dX9_paid_24 ?_
        refine lv_iconst (v := 4) hx hb dX9_paid_27 (by decide) ?_
        refine lv_aload_n hx hb dX9_paid_28 rfl (lv_at hl 1 rfl) ?_
        refine g_get (v := .ref (ad 50)) E h 48 rfl rfl layX9 3 (by decide) rfl mw_822 rfl dX9_paid_29 ?_
        refine lv_bipush (v := 42) hx hb dX9_paid_32 (by decide) ?_
        refine lv_iload_n hx hb dX9_paid_34 rfl (lv_at hl 2 rfl) ?_
        refine lv_iadd hx hb dX9_paid_35 ?_
        have hl1 := hl_ a1 (by omega) (by omega)
        refine g_iald (f := (τ.2.1 50)) E h 50 rfl (ix_of (oI_add (oI_lit (x := 42) (a := 42) rfl) (oI_at a1)) (by omega) (by decide)) dX9_paid_36 ?_
        refine lv_iadd hx hb dX9_paid_37 ?_
        refine g_iald (f := (τ.2.1 50)) E h 50 rfl (ix_of (oI_add (oI_lit (x := 4) (a := 4) rfl) (oI_at ((τ.2.1 50) ((42 : Int32) + a1).toNatClampNeg))) (by omega) (by decide)) dX9_paid_38 ?_
        refine lv_iconst (v := 1) hx hb dX9_paid_39 (by decide) ?_
        refine lv_icmp_ne (tgt := 47) hx hb dX9_paid_40 (by decide) (fun c8 => ?_) (fun c8 => ?_)
        · have ic8 : ((τ.2.1 50) ((4 : Int32) + ((τ.2.1 50) ((42 : Int32) + a1).toNatClampNeg)).toNatClampNeg).toInt ≠ 1 := i_ne c8
          refine lv_iconst (v := 0) hx hb dX9_paid_47 (by decide) ?_
          exact K6 _ _ _ (((if_neg c7).trans (if_neg c8)).symm) h
        · have ic8 : ((τ.2.1 50) ((4 : Int32) + ((τ.2.1 50) ((42 : Int32) + a1).toNatClampNeg)).toNatClampNeg).toInt = 1 := i_eq c8
          refine lv_iconst (v := 1) hx hb dX9_paid_43 (by decide) ?_
          refine lv_goto (tgt := 48) hx hb dX9_paid_44 (by decide) ?_
          exact K6 _ _ _ (((if_neg c7).trans (if_pos c8)).symm) h
  · refine lv_icmp_ne (tgt := 17) hx hb dX9_paid_10 (by decide) (fun c3 => ?_) (fun c3 => ?_)
    · have ic3 : ((τ.2.1 50) ((34 : Int32) + a1).toNatClampNeg).toInt ≠ 1 := i_ne c3
      refine lv_iconst (v := 0) hx hb dX9_paid_17 (by decide) ?_
      exact K2 _ _ _ ((if_neg c3).symm) h
    · have ic3 : ((τ.2.1 50) ((34 : Int32) + a1).toNatClampNeg).toInt = 1 := i_eq c3
      refine lv_iconst (v := 1) hx hb dX9_paid_13 (by decide) ?_
      refine lv_goto (tgt := 18) hx hb dX9_paid_14 (by decide) ?_
      exact K2 _ _ _ ((if_pos c3).symm) h

def F_X9_dies_L63 : Nat → St → Int32 → Int32 → Int32 → St → St
  | 0, _, _, _, _, m63 => m63
  | n + 1, τ, a1, v1, x2_63, m63 => (if (6 : Int32) ≤ x2_63 then m63 else (F_X9_dies_L63  n τ a1 v1 (x2_63 + (1 : Int32)) (sa m63 53 (upd (m63.2.1 53) (((14 : Int32) + ((6 : Int32) * a1)) + x2_63).toNatClampNeg (0 : Int32)))))
def F_X9_dies_k23_2 (τ : St) (a1 : Int32) (v1 : Int32) : St := (F_X9_dies_L63  7 τ a1 v1 (0 : Int32) (sa τ 53 (upd (upd (upd (τ.2.1 53) 12 (((τ.2.1 53) 12) ^^^ ((1 : Int32) <<< (a1 &&& 31)))) 13 (((τ.2.1 53) 13) + v1)) 13 (if (((τ.2.1 53) 13) + v1) ≤ (9999 : Int32) then (((τ.2.1 53) 13) + v1) else (9999 : Int32)))))
def F_X9_dies (τ : St) (a1 : Int32) : St := (F_X9_dies_k23_2 τ a1 (F_X9_knotsOf (sa τ 53 (upd (τ.2.1 53) 12 (((τ.2.1 53) 12) ^^^ ((1 : Int32) <<< (a1 &&& 31))))) a1))
abbrev I_X9_dies : List Nat := []
abbrev A_X9_dies : List Nat := [53]
theorem fr_F_X9_dies_L63_w (τ : St) (a1 : Int32) (v1 : Int32) : ∀ (n : Nat) (x2_63 : Int32) (m63 : St), Fr I_X9_dies A_X9_dies false τ m63 → Fr I_X9_dies A_X9_dies false τ (F_X9_dies_L63  n τ a1 v1 x2_63 m63)
  | 0, x2_63, m63, hfr => hfr
  | n + 1, x2_63, m63, hfr => (fr_ite1 hfr ((fun y1 y2 hy => fr_F_X9_dies_L63_w  τ a1 v1  n y1 y2 hy) (x2_63 + (1 : Int32)) (sa m63 53 (upd (m63.2.1 53) (((14 : Int32) + ((6 : Int32) * a1)) + x2_63).toNatClampNeg (0 : Int32))) (Fr.sa (by decide) hfr)))
theorem fr_F_X9_dies_L63 (n : Nat) (τ : St) (a1 : Int32) (v1 : Int32) (x2_63 : Int32) (m63 : St) (hfr : Fr I_X9_dies A_X9_dies false τ (m63)) : Fr I_X9_dies A_X9_dies false τ (F_X9_dies_L63  n τ a1 v1 x2_63 m63) := fr_F_X9_dies_L63_w  τ a1 v1  n x2_63 m63 hfr
theorem fr_F_X9_dies_k23_2 (τ : St) (a1 : Int32) (v1 : Int32) : Fr I_X9_dies A_X9_dies false τ (F_X9_dies_k23_2  τ a1 v1) := (fr_F_X9_dies_L63  7 τ a1 v1 (0 : Int32) (sa τ 53 (upd (upd (upd (τ.2.1 53) 12 (((τ.2.1 53) 12) ^^^ ((1 : Int32) <<< (a1 &&& 31)))) 13 (((τ.2.1 53) 13) + v1)) 13 (if (((τ.2.1 53) 13) + v1) ≤ (9999 : Int32) then (((τ.2.1 53) 13) + v1) else (9999 : Int32)))) (Fr.sa (by decide) Fr.rf))
theorem fr_F_X9_dies (τ : St) (a1 : Int32) : Fr I_X9_dies A_X9_dies false τ (F_X9_dies τ a1) := (fr_F_X9_dies_k23_2 τ a1 (F_X9_knotsOf (sa τ 53 (upd (τ.2.1 53) 12 (((τ.2.1 53) 12) ^^^ ((1 : Int32) <<< (a1 &&& 31))))) a1) )
set_option maxHeartbeats 4000000 in
set_option maxRecDepth 20000 in
theorem c_X9_dies (l : Launch) (D : va_G) (cI cZ : ClassId) (z : Nat) (ad : Nat → Nat) (σ τ : St) (a1 : Int32) (hc_ : 0 ≤ a1.toInt ∧ a1.toInt < 4) : gM l yX9_dies cX9_dies 3 none 2 D cI cZ z (gws ad cI cZ σ τ) [.ref (ad 48), .int a1] none (gws ad cI cZ σ (F_X9_dies τ a1)) := by
  refine g_met (own := RX9) (by decide) rfl (Nat.le_of_ble_eq_true rfl) (fun p e s m below meth c ls Q E hr hlk h hl hQ => ?_)
  have hx := E.1
  have hb := E.2.1
  have hF : (F_X9_dies τ a1) = (F_X9_dies τ a1) := rfl
  have hl : lv_has ls 3 [(0, .ref (ad 48)), (1, .int a1)] := hl
  refine lv_aload_n hx hb dX9_dies_0 rfl (lv_at hl 0 rfl) ?_
  refine g_get (v := .ref (ad 53)) E h 48 rfl rfl layX9 6 (by decide) rfl mw_825 rfl dX9_dies_1 ?_
  refine lv_bipush (v := 12) hx hb dX9_dies_4 (by decide) ?_
  refine lv_dup2_11 hx hb dX9_dies_6 rfl rfl ?_
  refine g_ialdk (f := (τ.2.1 53)) E h 53 rfl 12 rfl (ix_of (oI_lit (x := 12) (a := 12) rfl) (by omega) (by decide)) dX9_dies_7 ?_
  refine lv_iconst (v := 1) hx hb dX9_dies_8 (by decide) ?_
  refine lv_iload_n hx hb dX9_dies_9 rfl (lv_at hl 1 rfl) ?_
  refine lv_ishl hx hb dX9_dies_10 ?_
  refine lv_ixor hx hb dX9_dies_11 ?_
  refine g_iastk (f := (τ.2.1 53)) (ws' := gws ad cI cZ σ (sa τ 53 (upd (τ.2.1 53) 12 (((τ.2.1 53) 12) ^^^ ((1 : Int32) <<< (a1 &&& 31)))))) E h 53 rfl 12 rfl (ix_of (oI_lit (x := 12) (a := 12) rfl) (by omega) (by decide)) (ga_53 ad cI cZ σ τ (upd (τ.2.1 53) 12 (((τ.2.1 53) 12) ^^^ ((1 : Int32) <<< (a1 &&& 31))))) dX9_dies_12 (fun H locs h => ?_)
  refine lv_aload_n hx hb dX9_dies_13 rfl (lv_at hl 0 rfl) ?_
  refine g_get (v := .ref (ad 53)) E h 48 rfl rfl layX9 6 (by decide) rfl mw_825 rfl dX9_dies_14 ?_
  refine lv_bipush (v := 13) hx hb dX9_dies_17 (by decide) ?_
  refine lv_dup2_11 hx hb dX9_dies_19 rfl rfl ?_
  refine g_ialdw (f := (upd (τ.2.1 53) 12 (((τ.2.1 53) 12) ^^^ ((1 : Int32) <<< (a1 &&& 31))))) (w := ((τ.2.1 53) 13)) E h 53 rfl 13 rfl (pk_un (by decide)) (ix_of (oI_lit (x := 13) (a := 13) rfl) (by omega) (by decide)) dX9_dies_20 ?_
  refine lv_aload_n hx hb dX9_dies_21 rfl (lv_at hl 0 rfl) ?_
  refine lv_iload_n hx hb dX9_dies_22 rfl (lv_at hl 1 rfl) ?_
  refine g_callVh (F_X9_knotsOf (sa τ 53 (upd (τ.2.1 53) 12 (((τ.2.1 53) 12) ^^^ ((1 : Int32) <<< (a1 &&& 31))))) a1) (rest := [.int ((τ.2.1 53) 13), .int (13 : Int32), .ref (ad 53)]) E h (c_X9_knotsOf l D cI cZ z ad σ (sa τ 53 (upd (τ.2.1 53) 12 (((τ.2.1 53) 12) ^^^ ((1 : Int32) <<< (a1 &&& 31))))) a1 (show 0 ≤ a1.toInt ∧ a1.toInt < 4 from by omega)) mw_918 cbX9_knotsOf 48 rfl rfl ⟨by decide, by decide⟩ rfl rfl hl.1 (Nat.le_of_ble_eq_true rfl) ⟨Nat.zero_le _, Nat.zero_le _⟩ dX9_dies_23 (fun v1 huv1 H locs h => ?_)
  have hF : F_X9_dies_k23_2 τ a1 v1 = (F_X9_dies τ a1) := by rw [← huv1]; exact hF
  refine lv_iadd hx hb dX9_dies_26 ?_
  refine g_iastk (f := (upd (τ.2.1 53) 12 (((τ.2.1 53) 12) ^^^ ((1 : Int32) <<< (a1 &&& 31))))) (ws' := gws ad cI cZ σ (sa τ 53 (upd (upd (τ.2.1 53) 12 (((τ.2.1 53) 12) ^^^ ((1 : Int32) <<< (a1 &&& 31)))) 13 (((τ.2.1 53) 13) + v1)))) E h 53 rfl 13 rfl (ix_of (oI_lit (x := 13) (a := 13) rfl) (by omega) (by decide)) ((ga_53 ad cI cZ σ (sa τ 53 (upd (τ.2.1 53) 12 (((τ.2.1 53) 12) ^^^ ((1 : Int32) <<< (a1 &&& 31))))) (upd (upd (τ.2.1 53) 12 (((τ.2.1 53) 12) ^^^ ((1 : Int32) <<< (a1 &&& 31)))) 13 (((τ.2.1 53) 13) + v1))).trans (congrArg (fun u => gws ad cI cZ σ u) (sa_sa _ _ _ _))) dX9_dies_27 (fun H locs h => ?_)
  refine lv_aload_n hx hb dX9_dies_28 rfl (lv_at hl 0 rfl) ?_
  refine g_get (v := .ref (ad 53)) E h 48 rfl rfl layX9 6 (by decide) rfl mw_825 rfl dX9_dies_29 ?_
  refine lv_bipush (v := 13) hx hb dX9_dies_32 (by decide) ?_
  refine lv_aload_n hx hb dX9_dies_34 rfl (lv_at hl 0 rfl) ?_
  refine g_get (v := .ref (ad 53)) E h 48 rfl rfl layX9 6 (by decide) rfl mw_825 rfl dX9_dies_35 ?_
  refine lv_bipush (v := 13) hx hb dX9_dies_38 (by decide) ?_
  refine g_ialdw (f := (upd (upd (τ.2.1 53) 12 (((τ.2.1 53) 12) ^^^ ((1 : Int32) <<< (a1 &&& 31)))) 13 (((τ.2.1 53) 13) + v1))) (w := (((τ.2.1 53) 13) + v1)) E h 53 rfl 13 rfl pk_us (ix_of (oI_lit (x := 13) (a := 13) rfl) (by omega) (by decide)) dX9_dies_40 ?_
  refine lv_sipush (v := 9999) hx hb dX9_dies_41 (by decide) ?_
  refine g_dia (D := D) (z := z) (ws := gws ad cI cZ σ (sa τ 53 (upd (upd (τ.2.1 53) 12 (((τ.2.1 53) 12) ^^^ ((1 : Int32) <<< (a1 &&& 31)))) 13 (((τ.2.1 53) 13) + v1)))) (rest := [.int (13 : Int32), .ref (ad 53)]) 60 (if (((τ.2.1 53) 13) + v1) ≤ (9999 : Int32) then (((τ.2.1 53) 13) + v1) else (9999 : Int32)) (fun H locs h => ?_) (fun K4 => ?_)
  · refine g_iastk (f := (upd (upd (τ.2.1 53) 12 (((τ.2.1 53) 12) ^^^ ((1 : Int32) <<< (a1 &&& 31)))) 13 (((τ.2.1 53) 13) + v1))) (ws' := gws ad cI cZ σ (sa τ 53 (upd (upd (upd (τ.2.1 53) 12 (((τ.2.1 53) 12) ^^^ ((1 : Int32) <<< (a1 &&& 31)))) 13 (((τ.2.1 53) 13) + v1)) 13 (if (((τ.2.1 53) 13) + v1) ≤ (9999 : Int32) then (((τ.2.1 53) 13) + v1) else (9999 : Int32))))) E h 53 rfl 13 rfl (ix_of (oI_lit (x := 13) (a := 13) rfl) (by omega) (by decide)) ((ga_53 ad cI cZ σ (sa τ 53 (upd (upd (τ.2.1 53) 12 (((τ.2.1 53) 12) ^^^ ((1 : Int32) <<< (a1 &&& 31)))) 13 (((τ.2.1 53) 13) + v1))) (upd (upd (upd (τ.2.1 53) 12 (((τ.2.1 53) 12) ^^^ ((1 : Int32) <<< (a1 &&& 31)))) 13 (((τ.2.1 53) 13) + v1)) 13 (if (((τ.2.1 53) 13) + v1) ≤ (9999 : Int32) then (((τ.2.1 53) 13) + v1) else (9999 : Int32)))).trans (congrArg (fun u => gws ad cI cZ σ u) (sa_sa _ _ _ _))) dX9_dies_60 (fun H locs h => ?_)
    refine lv_iconst (v := 0) hx hb dX9_dies_61 (by decide) ?_
    refine lv_istore_n (lv' := [(2, .int (0 : Int32)), (0, .ref (ad 48)), (1, .int a1)]) hx hb dX9_dies_62 rfl hl (by decide) rfl (fun ls hl => ?_)
    have L63 : ∀ (n63 : Nat) (x2_63 : Int32) (m63 : St) (H : Heap) (locs : List Loc) (ls : Array Slot), (0 ≤ x2_63.toInt ∧ x2_63.toInt ≤ 6 ∧ x2_63.toInt + n63 = 7) → F_X9_dies_L63  n63 τ a1 v1 x2_63 m63 = (F_X9_dies τ a1) → gH D z s (gws ad cI cZ σ m63) H locs → lv_has ls 3 [(2, .int x2_63), (0, .ref (ad 48)), (1, .int a1)] → W p l e (rmH 2) s m ([.ref (ad 48), .int a1] : List Value).toArray below meth c H locs 0 0 Q (F0 m 63 ls []) := by
      clear hF h hl
      intro n63
      induction n63 with
      | zero =>
        intro x2_63 m63 H locs ls hI
        exact absurd hI (by omega)
      | succ n63 ih63 =>
        intro x2_63 m63 H locs ls hI63 hF h hl
        refine lv_iload_n hx hb dX9_dies_63 rfl (lv_at hl 0 rfl) ?_
        refine lv_bipush (v := 6) hx hb dX9_dies_64 (by decide) ?_
        refine lv_icmp_ge (tgt := 90) hx hb dX9_dies_66 (by decide) (fun c7 => ?_) (fun c7 => ?_)
        · have ic7 : 6 ≤ x2_63.toInt := i_le c7
          have hF := (if_pos c7).symm.trans hF
          exact g_vret E hr hlk h hQ (congrArg (fun u => gws ad cI cZ σ u) hF) dX9_dies_90
        · have ic7 : x2_63.toInt < 6 := i_nle c7
          have hF := (if_neg c7).symm.trans hF
          refine lv_aload_n hx hb dX9_dies_69 rfl (lv_at hl 1 rfl) ?_
          refine g_get (v := .ref (ad 53)) E h 48 rfl rfl layX9 6 (by decide) rfl mw_825 rfl dX9_dies_70 ?_
          refine lv_bipush (v := 14) hx hb dX9_dies_73 (by decide) ?_
          refine lv_bipush (v := 6) hx hb dX9_dies_75 (by decide) ?_
          refine lv_iload_n hx hb dX9_dies_77 rfl (lv_at hl 2 rfl) ?_
          refine lv_imul hx hb dX9_dies_78 ?_
          refine lv_iadd hx hb dX9_dies_79 ?_
          refine lv_iload_n hx hb dX9_dies_80 rfl (lv_at hl 0 rfl) ?_
          refine lv_iadd hx hb dX9_dies_81 ?_
          refine lv_iconst (v := 0) hx hb dX9_dies_82 (by decide) ?_
          refine g_iast (f := (m63.2.1 53)) (ws' := gws ad cI cZ σ (sa m63 53 (upd (m63.2.1 53) (((14 : Int32) + ((6 : Int32) * a1)) + x2_63).toNatClampNeg (0 : Int32)))) E h 53 rfl (ix_of (oI_add (oI_add (oI_lit (x := 14) (a := 14) rfl) (oI_mul (oI_lit (x := 6) (a := 6) rfl) (oI_at a1))) (oI_at x2_63)) (by omega) (by decide)) (ga_53 ad cI cZ σ m63 (upd (m63.2.1 53) (((14 : Int32) + ((6 : Int32) * a1)) + x2_63).toNatClampNeg (0 : Int32))) dX9_dies_83 (fun H locs h => ?_)
          refine lv_iinc (v := (x2_63 + (1 : Int32))) (lv' := [(2, .int (x2_63 + (1 : Int32))), (0, .ref (ad 48)), (1, .int a1)]) hx hb dX9_dies_84 hl (k := 0) rfl rfl (by decide) rfl (fun ls hl => ?_)
          refine lv_goto (tgt := 63) hx hb dX9_dies_87 (by decide) ?_
          have e63_2 : (x2_63 + (1 : Int32)).toInt = _ := ti_of (oI_add (oI_at x2_63) (oI_lit (x := 1) (a := 1) rfl)) (by omega)
          exact ih63 (x2_63 + (1 : Int32)) (sa m63 53 (upd (m63.2.1 53) (((14 : Int32) + ((6 : Int32) * a1)) + x2_63).toNatClampNeg (0 : Int32))) _ _ ls ((show 0 ≤ (x2_63 + (1 : Int32)).toInt ∧ (x2_63 + (1 : Int32)).toInt ≤ 6 ∧ (x2_63 + (1 : Int32)).toInt + n63 = 7 from by omega)) hF h (lv_sub hl [0, 1, 2] rfl)
    have q63_2 : (0 : Int32).toInt = 0 := rfl
    exact L63 7 (0 : Int32) (sa τ 53 (upd (upd (upd (τ.2.1 53) 12 (((τ.2.1 53) 12) ^^^ ((1 : Int32) <<< (a1 &&& 31)))) 13 (((τ.2.1 53) 13) + v1)) 13 (if (((τ.2.1 53) 13) + v1) ≤ (9999 : Int32) then (((τ.2.1 53) 13) + v1) else (9999 : Int32)))) _ _ ls ((show 0 ≤ (0 : Int32).toInt ∧ (0 : Int32).toInt ≤ 6 ∧ (0 : Int32).toInt + (7 : Nat) = 7 from by omega)) hF h (lv_sub hl [0, 1, 2] rfl)
  · refine lv_icmp_le (tgt := 53) hx hb dX9_dies_44 (by decide) (fun c5 => ?_) (fun c5 => ?_)
    · have ic5 : (((τ.2.1 53) 13) + v1).toInt ≤ 9999 := i_le c5
      refine lv_aload_n hx hb dX9_dies_53 rfl (lv_at hl 0 rfl) ?_
      refine g_get (v := .ref (ad 53)) E h 48 rfl rfl layX9 6 (by decide) rfl mw_825 rfl dX9_dies_54 ?_
      refine lv_bipush (v := 13) hx hb dX9_dies_57 (by decide) ?_
      refine g_ialdw (f := (upd (upd (τ.2.1 53) 12 (((τ.2.1 53) 12) ^^^ ((1 : Int32) <<< (a1 &&& 31)))) 13 (((τ.2.1 53) 13) + v1))) (w := (((τ.2.1 53) 13) + v1)) E h 53 rfl 13 rfl pk_us (ix_of (oI_lit (x := 13) (a := 13) rfl) (by omega) (by decide)) dX9_dies_59 ?_
      exact K4 _ _ _ ((if_pos c5).symm) h
    · have ic5 : 9999 < (((τ.2.1 53) 13) + v1).toInt := i_nle c5
      refine lv_sipush (v := 9999) hx hb dX9_dies_47 (by decide) ?_
      refine lv_goto (tgt := 60) hx hb dX9_dies_50 (by decide) ?_
      exact K4 _ _ _ ((if_neg c5).symm) h

def F_X9_drinks_k73_7 (τ : St) (a1 : Int32) (a2 : Int32) (u6 : St) : Int32 × St := (((upd (upd (u6.2.1 53) ((8 : Int32) + a1).toNatClampNeg (((u6.2.1 53) ((8 : Int32) + a1).toNatClampNeg) - a2)) (((14 : Int32) + ((6 : Int32) * a1)) + ((τ.2.1 53) a1.toNatClampNeg)).toNatClampNeg (((upd (u6.2.1 53) ((8 : Int32) + a1).toNatClampNeg (((u6.2.1 53) ((8 : Int32) + a1).toNatClampNeg) - a2)) (((14 : Int32) + ((6 : Int32) * a1)) + ((τ.2.1 53) a1.toNatClampNeg)).toNatClampNeg) + a2)) (((14 : Int32) + ((6 : Int32) * a1)) + ((τ.2.1 53) a1.toNatClampNeg)).toNatClampNeg), (sa u6 53 (upd (upd (u6.2.1 53) ((8 : Int32) + a1).toNatClampNeg (((u6.2.1 53) ((8 : Int32) + a1).toNatClampNeg) - a2)) (((14 : Int32) + ((6 : Int32) * a1)) + ((τ.2.1 53) a1.toNatClampNeg)).toNatClampNeg (((upd (u6.2.1 53) ((8 : Int32) + a1).toNatClampNeg (((u6.2.1 53) ((8 : Int32) + a1).toNatClampNeg) - a2)) (((14 : Int32) + ((6 : Int32) * a1)) + ((τ.2.1 53) a1.toNatClampNeg)).toNatClampNeg) + a2))))
def F_X9_drinks (τ : St) (a1 : Int32) (a2 : Int32) : Int32 × St := (if (F_X9_isCaravan τ a1) = 0 then (((-1) : Int32), τ) else (if (F_X9_in a2 (1 : Int32) (20 : Int32)) = 0 then (((-1) : Int32), τ) else (if (F_X9_isAlive τ a1) = 0 then (((-2) : Int32), τ) else (if ((τ.2.1 53) ((8 : Int32) + a1).toNatClampNeg) < a2 then (((-2) : Int32), τ) else (if (((τ.2.1 53) (((14 : Int32) + ((6 : Int32) * a1)) + ((τ.2.1 53) a1.toNatClampNeg)).toNatClampNeg) + a2) ≤ (99 : Int32) then (F_X9_drinks_k73_7 τ a1 a2 (F_X9_keeps τ)) else (((-2) : Int32), τ))))))
abbrev I_X9_drinks : List Nat := []
abbrev A_X9_drinks : List Nat := [53]
theorem fr_F_X9_drinks_k73_7 (τ : St) (a1 : Int32) (a2 : Int32) (u6 : St) (hfr : Fr I_X9_drinks A_X9_drinks false τ (u6)) : Fr I_X9_drinks A_X9_drinks false τ (F_X9_drinks_k73_7  τ a1 a2 u6).2 := (Fr.sa (by decide) hfr)
theorem fr_F_X9_drinks (τ : St) (a1 : Int32) (a2 : Int32) : Fr I_X9_drinks A_X9_drinks false τ (F_X9_drinks τ a1 a2).2 := (fr_ite2 Fr.rf (fr_ite2 Fr.rf (fr_ite2 Fr.rf (fr_ite2 Fr.rf (fr_ite2 (fr_F_X9_drinks_k73_7 τ a1 a2 (F_X9_keeps τ) (Fr.tr Fr.rf (Fr.mono (by decide) (by decide) (by decide) (fr_F_X9_keeps τ)))) Fr.rf)))))
set_option maxHeartbeats 4000000 in
set_option maxRecDepth 20000 in
theorem c_X9_drinks (l : Launch) (D : va_G) (cI cZ : ClassId) (z : Nat) (ad : Nat → Nat) (σ τ : St) (a1 a2 : Int32) (hc_ : 0 ≤ ((τ.2.1 50) 2).toInt ∧ ((τ.2.1 50) 2).toInt ≤ 4) (hn_ : 0 ≤ ((τ.2.1 53) 74).toInt ∧ ((τ.2.1 53) 74).toInt ≤ 10) (hp_ : ∀ x : Int32, 0 ≤ x.toInt → x.toInt < 4 → 0 ≤ ((τ.2.1 53) x.toNatClampNeg).toInt ∧ ((τ.2.1 53) x.toNatClampNeg).toInt ≤ 5) : gM l yX9_drinks cX9_drinks 4 (some .int) 3 D cI cZ z (gws ad cI cZ σ τ) [.ref (ad 48), .int a1, .int a2] (some (.int (F_X9_drinks τ a1 a2).1)) (gws ad cI cZ σ (F_X9_drinks τ a1 a2).2) := by
  refine g_met (own := RX9) (by decide) rfl (Nat.le_of_ble_eq_true rfl) (fun p e s m below meth c ls Q E hr hlk h hl hQ => ?_)
  have hx := E.1
  have hb := E.2.1
  have hF : (F_X9_drinks τ a1 a2) = (F_X9_drinks τ a1 a2) := rfl
  have hl : lv_has ls 4 [(0, .ref (ad 48)), (1, .int a1), (2, .int a2)] := hl
  refine lv_aload_n hx hb dX9_drinks_0 rfl (lv_at hl 0 rfl) ?_
  refine lv_iload_n hx hb dX9_drinks_1 rfl (lv_at hl 1 rfl) ?_
  refine g_callVi (rest := []) E h (c_X9_isCaravan l D cI cZ z ad σ τ a1) mw_907 cbX9_isCaravan 48 rfl rfl ⟨by decide, by decide⟩ rfl rfl hl.1 (Nat.le_of_ble_eq_true rfl) ⟨Nat.zero_le _, Nat.zero_le _⟩ dX9_drinks_2 (fun H locs h => ?_)
  refine lv_if_eq (tgt := 18) hx hb dX9_drinks_5 (by decide) (fun c1 => ?_) (fun c1 => ?_)
  · have ic1 : (F_X9_isCaravan τ a1).toInt = 0 := i_eq c1
    have hF := (if_pos c1).symm.trans hF
    refine lv_iconst (v := (-1)) hx hb dX9_drinks_18 (by decide) ?_
    exact g_iret E hr hlk h hQ (fst_of hF) (snd_of hF (fun u => gws ad cI cZ σ u)) dX9_drinks_19
  · have ic1 : (F_X9_isCaravan τ a1).toInt ≠ 0 := i_ne c1
    have jc1 := (fun c => fz9_isCaravan c (by omega)) c1
    have hF := (if_neg c1).symm.trans hF
    refine lv_iload_n hx hb dX9_drinks_8 rfl (lv_at hl 2 rfl) ?_
    refine lv_iconst (v := 1) hx hb dX9_drinks_9 (by decide) ?_
    refine lv_bipush (v := 20) hx hb dX9_drinks_10 (by decide) ?_
    refine g_callSi (rest := []) E h (c_X9_in l D cI cZ z (gws ad cI cZ σ τ) a2 (1 : Int32) (20 : Int32)) mw_789 cbX9_in ⟨by decide, by decide⟩ rfl rfl hl.1 (Nat.le_of_ble_eq_true rfl) ⟨Nat.zero_le _, Nat.zero_le _⟩ dX9_drinks_12 (fun H locs h => ?_)
    refine lv_if_ne (tgt := 20) hx hb dX9_drinks_15 (by decide) (fun c2 => ?_) (fun c2 => ?_)
    · have ic2 : (F_X9_in a2 (1 : Int32) (20 : Int32)).toInt ≠ 0 := i_ne c2
      have jc2 : 1 ≤ a2.toInt ∧ a2.toInt ≤ 20 := fz_in c2
      have hF := (if_neg c2).symm.trans hF
      refine lv_bipush (v := 14) hx hb dX9_drinks_20 (by decide) ?_
      refine lv_bipush (v := 6) hx hb dX9_drinks_22 (by decide) ?_
      refine lv_iload_n hx hb dX9_drinks_24 rfl (lv_at hl 1 rfl) ?_
      refine lv_imul hx hb dX9_drinks_25 ?_
      refine lv_iadd hx hb dX9_drinks_26 ?_
      refine lv_aload_n hx hb dX9_drinks_27 rfl (lv_at hl 0 rfl) ?_
      refine g_get (v := .ref (ad 53)) E h 48 rfl rfl layX9 6 (by decide) rfl mw_825 rfl dX9_drinks_28 ?_
      refine lv_iload_n hx hb dX9_drinks_31 rfl (lv_at hl 1 rfl) ?_
      refine g_iald (f := (τ.2.1 53)) E h 53 rfl (ix_of (oI_at a1) (by omega) (by decide)) dX9_drinks_32 ?_
      have hp1 := hp_ a1 (by omega) (by omega)
      refine lv_iadd hx hb dX9_drinks_33 ?_
      refine lv_istore_n (lv' := [(3, .int (((14 : Int32) + ((6 : Int32) * a1)) + ((τ.2.1 53) a1.toNatClampNeg))), (0, .ref (ad 48)), (1, .int a1), (2, .int a2)]) hx hb dX9_drinks_34 rfl hl (by decide) rfl (fun ls hl => ?_)
      refine lv_aload_n hx hb dX9_drinks_35 rfl (lv_at hl 1 rfl) ?_
      refine lv_iload_n hx hb dX9_drinks_36 rfl (lv_at hl 2 rfl) ?_
      refine g_callVi (rest := []) E h (c_X9_isAlive l D cI cZ z ad σ τ a1) mw_911 cbX9_isAlive 48 rfl rfl ⟨by decide, by decide⟩ rfl rfl hl.1 (Nat.le_of_ble_eq_true rfl) ⟨Nat.zero_le _, Nat.zero_le _⟩ dX9_drinks_37 (fun H locs h => ?_)
      refine lv_if_eq (tgt := 69) hx hb dX9_drinks_40 (by decide) (fun c3 => ?_) (fun c3 => ?_)
      · have ic3 : (F_X9_isAlive τ a1).toInt = 0 := i_eq c3
        have hF := (if_pos c3).symm.trans hF
        refine lv_bipush (v := (-2)) hx hb dX9_drinks_69 (by decide) ?_
        exact g_iret E hr hlk h hQ (fst_of hF) (snd_of hF (fun u => gws ad cI cZ σ u)) dX9_drinks_71
      · have ic3 : (F_X9_isAlive τ a1).toInt ≠ 0 := i_ne c3
        have hF := (if_neg c3).symm.trans hF
        refine lv_iload_n hx hb dX9_drinks_43 rfl (lv_at hl 3 rfl) ?_
        refine lv_aload_n hx hb dX9_drinks_44 rfl (lv_at hl 1 rfl) ?_
        refine g_get (v := .ref (ad 53)) E h 48 rfl rfl layX9 6 (by decide) rfl mw_825 rfl dX9_drinks_45 ?_
        refine lv_bipush (v := 8) hx hb dX9_drinks_48 (by decide) ?_
        refine lv_iload_n hx hb dX9_drinks_50 rfl (lv_at hl 2 rfl) ?_
        refine lv_iadd hx hb dX9_drinks_51 ?_
        refine g_iald (f := (τ.2.1 53)) E h 53 rfl (ix_of (oI_add (oI_lit (x := 8) (a := 8) rfl) (oI_at a1)) (by omega) (by decide)) dX9_drinks_52 ?_
        refine lv_icmp_gt (tgt := 69) hx hb dX9_drinks_53 (by decide) (fun c4 => ?_) (fun c4 => ?_)
        · have ic4 : ((τ.2.1 53) ((8 : Int32) + a1).toNatClampNeg).toInt < a2.toInt := i_lt c4
          have hF := (if_pos c4).symm.trans hF
          refine lv_bipush (v := (-2)) hx hb dX9_drinks_69 (by decide) ?_
          exact g_iret E hr hlk h hQ (fst_of hF) (snd_of hF (fun u => gws ad cI cZ σ u)) dX9_drinks_71
        · have ic4 : a2.toInt ≤ ((τ.2.1 53) ((8 : Int32) + a1).toNatClampNeg).toInt := i_nlt c4
          have hF := (if_neg c4).symm.trans hF
          refine lv_aload_n hx hb dX9_drinks_56 rfl (lv_at hl 1 rfl) ?_
          refine g_get (v := .ref (ad 53)) E h 48 rfl rfl layX9 6 (by decide) rfl mw_825 rfl dX9_drinks_57 ?_
          refine lv_iload_n hx hb dX9_drinks_60 rfl (lv_at hl 0 rfl) ?_
          refine g_iald (f := (τ.2.1 53)) E h 53 rfl (ix_of (oI_add (oI_add (oI_lit (x := 14) (a := 14) rfl) (oI_mul (oI_lit (x := 6) (a := 6) rfl) (oI_at a1))) (oI_at ((τ.2.1 53) a1.toNatClampNeg))) (by omega) (by decide)) dX9_drinks_61 ?_
          refine lv_iload_n hx hb dX9_drinks_62 rfl (lv_at hl 3 rfl) ?_
          refine lv_iadd hx hb dX9_drinks_63 ?_
          refine lv_bipush (v := 99) hx hb dX9_drinks_64 (by decide) ?_
          refine lv_icmp_le (tgt := 72) hx hb dX9_drinks_66 (by decide) (fun c5 => ?_) (fun c5 => ?_)
          · have ic5 : (((τ.2.1 53) (((14 : Int32) + ((6 : Int32) * a1)) + ((τ.2.1 53) a1.toNatClampNeg)).toNatClampNeg) + a2).toInt ≤ 99 := i_le c5
            have hF := (if_pos c5).symm.trans hF
            refine lv_aload_n hx hb dX9_drinks_72 rfl (lv_at hl 1 rfl) ?_
            refine g_callVUv (F_X9_keeps τ) (fun u => gws ad cI cZ σ u) (rest := []) E h (c_X9_keeps l D cI cZ z ad σ τ (show 0 ≤ ((τ.2.1 53) 74).toInt ∧ ((τ.2.1 53) 74).toInt ≤ 10 from by omega)) mw_955 cbX9_keeps 48 rfl rfl ⟨by decide, by decide⟩ rfl rfl hl.1 (Nat.le_of_ble_eq_true rfl) ⟨Nat.zero_le _, Nat.zero_le _⟩ dX9_drinks_73 (fun u6 huu6 H locs h => ?_)
            have hF : F_X9_drinks_k73_7 τ a1 a2 u6 = (F_X9_drinks τ a1 a2) := by rw [← huu6]; exact hF
            refine lv_aload_n hx hb dX9_drinks_76 rfl (lv_at hl 1 rfl) ?_
            refine g_get (v := .ref (ad 53)) E h 48 rfl rfl layX9 6 (by decide) rfl mw_825 rfl dX9_drinks_77 ?_
            refine lv_bipush (v := 8) hx hb dX9_drinks_80 (by decide) ?_
            refine lv_iload_n hx hb dX9_drinks_82 rfl (lv_at hl 2 rfl) ?_
            refine lv_iadd hx hb dX9_drinks_83 ?_
            refine lv_dup2_11 hx hb dX9_drinks_84 rfl rfl ?_
            refine g_iald (f := (u6.2.1 53)) E h 53 rfl (ix_of (oI_add (oI_lit (x := 8) (a := 8) rfl) (oI_at a1)) (by omega) (by decide)) dX9_drinks_85 ?_
            refine lv_iload_n hx hb dX9_drinks_86 rfl (lv_at hl 3 rfl) ?_
            refine lv_isub hx hb dX9_drinks_87 ?_
            refine g_iast (f := (u6.2.1 53)) (ws' := gws ad cI cZ σ (sa u6 53 (upd (u6.2.1 53) ((8 : Int32) + a1).toNatClampNeg (((u6.2.1 53) ((8 : Int32) + a1).toNatClampNeg) - a2)))) E h 53 rfl (ix_of (oI_add (oI_lit (x := 8) (a := 8) rfl) (oI_at a1)) (by omega) (by decide)) (ga_53 ad cI cZ σ u6 (upd (u6.2.1 53) ((8 : Int32) + a1).toNatClampNeg (((u6.2.1 53) ((8 : Int32) + a1).toNatClampNeg) - a2))) dX9_drinks_88 (fun H locs h => ?_)
            refine lv_aload_n hx hb dX9_drinks_89 rfl (lv_at hl 1 rfl) ?_
            refine g_get (v := .ref (ad 53)) E h 48 rfl rfl layX9 6 (by decide) rfl mw_825 rfl dX9_drinks_90 ?_
            refine lv_iload_n hx hb dX9_drinks_93 rfl (lv_at hl 0 rfl) ?_
            refine lv_dup2_11 hx hb dX9_drinks_94 rfl rfl ?_
            refine g_iald (f := (upd (u6.2.1 53) ((8 : Int32) + a1).toNatClampNeg (((u6.2.1 53) ((8 : Int32) + a1).toNatClampNeg) - a2))) E h 53 rfl (ix_of (oI_add (oI_add (oI_lit (x := 14) (a := 14) rfl) (oI_mul (oI_lit (x := 6) (a := 6) rfl) (oI_at a1))) (oI_at ((τ.2.1 53) a1.toNatClampNeg))) (by omega) (by decide)) dX9_drinks_95 ?_
            refine lv_iload_n hx hb dX9_drinks_96 rfl (lv_at hl 3 rfl) ?_
            refine lv_iadd hx hb dX9_drinks_97 ?_
            refine g_iast (f := (upd (u6.2.1 53) ((8 : Int32) + a1).toNatClampNeg (((u6.2.1 53) ((8 : Int32) + a1).toNatClampNeg) - a2))) (ws' := gws ad cI cZ σ (sa u6 53 (upd (upd (u6.2.1 53) ((8 : Int32) + a1).toNatClampNeg (((u6.2.1 53) ((8 : Int32) + a1).toNatClampNeg) - a2)) (((14 : Int32) + ((6 : Int32) * a1)) + ((τ.2.1 53) a1.toNatClampNeg)).toNatClampNeg (((upd (u6.2.1 53) ((8 : Int32) + a1).toNatClampNeg (((u6.2.1 53) ((8 : Int32) + a1).toNatClampNeg) - a2)) (((14 : Int32) + ((6 : Int32) * a1)) + ((τ.2.1 53) a1.toNatClampNeg)).toNatClampNeg) + a2)))) E h 53 rfl (ix_of (oI_add (oI_add (oI_lit (x := 14) (a := 14) rfl) (oI_mul (oI_lit (x := 6) (a := 6) rfl) (oI_at a1))) (oI_at ((τ.2.1 53) a1.toNatClampNeg))) (by omega) (by decide)) ((ga_53 ad cI cZ σ (sa u6 53 (upd (u6.2.1 53) ((8 : Int32) + a1).toNatClampNeg (((u6.2.1 53) ((8 : Int32) + a1).toNatClampNeg) - a2))) (upd (upd (u6.2.1 53) ((8 : Int32) + a1).toNatClampNeg (((u6.2.1 53) ((8 : Int32) + a1).toNatClampNeg) - a2)) (((14 : Int32) + ((6 : Int32) * a1)) + ((τ.2.1 53) a1.toNatClampNeg)).toNatClampNeg (((upd (u6.2.1 53) ((8 : Int32) + a1).toNatClampNeg (((u6.2.1 53) ((8 : Int32) + a1).toNatClampNeg) - a2)) (((14 : Int32) + ((6 : Int32) * a1)) + ((τ.2.1 53) a1.toNatClampNeg)).toNatClampNeg) + a2))).trans (congrArg (fun u => gws ad cI cZ σ u) (sa_sa _ _ _ _))) dX9_drinks_98 (fun H locs h => ?_)
            refine lv_aload_n hx hb dX9_drinks_99 rfl (lv_at hl 1 rfl) ?_
            refine g_get (v := .ref (ad 53)) E h 48 rfl rfl layX9 6 (by decide) rfl mw_825 rfl dX9_drinks_100 ?_
            refine lv_iload_n hx hb dX9_drinks_103 rfl (lv_at hl 0 rfl) ?_
            refine g_iald (f := (upd (upd (u6.2.1 53) ((8 : Int32) + a1).toNatClampNeg (((u6.2.1 53) ((8 : Int32) + a1).toNatClampNeg) - a2)) (((14 : Int32) + ((6 : Int32) * a1)) + ((τ.2.1 53) a1.toNatClampNeg)).toNatClampNeg (((upd (u6.2.1 53) ((8 : Int32) + a1).toNatClampNeg (((u6.2.1 53) ((8 : Int32) + a1).toNatClampNeg) - a2)) (((14 : Int32) + ((6 : Int32) * a1)) + ((τ.2.1 53) a1.toNatClampNeg)).toNatClampNeg) + a2))) E h 53 rfl (ix_of (oI_add (oI_add (oI_lit (x := 14) (a := 14) rfl) (oI_mul (oI_lit (x := 6) (a := 6) rfl) (oI_at a1))) (oI_at ((τ.2.1 53) a1.toNatClampNeg))) (by omega) (by decide)) dX9_drinks_104 ?_
            exact g_iret E hr hlk h hQ (fst_of hF) (snd_of hF (fun u => gws ad cI cZ σ u)) dX9_drinks_105
          · have ic5 : 99 < (((τ.2.1 53) (((14 : Int32) + ((6 : Int32) * a1)) + ((τ.2.1 53) a1.toNatClampNeg)).toNatClampNeg) + a2).toInt := i_nle c5
            have hF := (if_neg c5).symm.trans hF
            refine lv_bipush (v := (-2)) hx hb dX9_drinks_69 (by decide) ?_
            exact g_iret E hr hlk h hQ (fst_of hF) (snd_of hF (fun u => gws ad cI cZ σ u)) dX9_drinks_71
    · have ic2 : (F_X9_in a2 (1 : Int32) (20 : Int32)).toInt = 0 := i_eq c2
      have hF := (if_pos c2).symm.trans hF
      refine lv_iconst (v := (-1)) hx hb dX9_drinks_18 (by decide) ?_
      exact g_iret E hr hlk h hQ (fst_of hF) (snd_of hF (fun u => gws ad cI cZ σ u)) dX9_drinks_19

def F_X9_fills_k75_7 (τ : St) (a1 : Int32) (a2 : Int32) (u6 : St) : Int32 × St := (((upd (upd (u6.2.1 53) ((4 : Int32) + a1).toNatClampNeg (((u6.2.1 53) ((4 : Int32) + a1).toNatClampNeg) + a2)) (((14 : Int32) + ((6 : Int32) * a1)) + ((τ.2.1 53) a1.toNatClampNeg)).toNatClampNeg (((upd (u6.2.1 53) ((4 : Int32) + a1).toNatClampNeg (((u6.2.1 53) ((4 : Int32) + a1).toNatClampNeg) + a2)) (((14 : Int32) + ((6 : Int32) * a1)) + ((τ.2.1 53) a1.toNatClampNeg)).toNatClampNeg) + a2)) (((14 : Int32) + ((6 : Int32) * a1)) + ((τ.2.1 53) a1.toNatClampNeg)).toNatClampNeg), (sa u6 53 (upd (upd (u6.2.1 53) ((4 : Int32) + a1).toNatClampNeg (((u6.2.1 53) ((4 : Int32) + a1).toNatClampNeg) + a2)) (((14 : Int32) + ((6 : Int32) * a1)) + ((τ.2.1 53) a1.toNatClampNeg)).toNatClampNeg (((upd (u6.2.1 53) ((4 : Int32) + a1).toNatClampNeg (((u6.2.1 53) ((4 : Int32) + a1).toNatClampNeg) + a2)) (((14 : Int32) + ((6 : Int32) * a1)) + ((τ.2.1 53) a1.toNatClampNeg)).toNatClampNeg) + a2))))
def F_X9_fills (τ : St) (a1 : Int32) (a2 : Int32) : Int32 × St := (if (F_X9_isCaravan τ a1) = 0 then (((-1) : Int32), τ) else (if (F_X9_in a2 (1 : Int32) (20 : Int32)) = 0 then (((-1) : Int32), τ) else (if (F_X9_isAlive τ a1) = 0 then (((-2) : Int32), τ) else (if (20 : Int32) < (((τ.2.1 53) ((4 : Int32) + a1).toNatClampNeg) + a2) then (((-2) : Int32), τ) else (if (((τ.2.1 53) (((14 : Int32) + ((6 : Int32) * a1)) + ((τ.2.1 53) a1.toNatClampNeg)).toNatClampNeg) + a2) ≤ (99 : Int32) then (F_X9_fills_k75_7 τ a1 a2 (F_X9_keeps τ)) else (((-2) : Int32), τ))))))
abbrev I_X9_fills : List Nat := []
abbrev A_X9_fills : List Nat := [53]
theorem fr_F_X9_fills_k75_7 (τ : St) (a1 : Int32) (a2 : Int32) (u6 : St) (hfr : Fr I_X9_fills A_X9_fills false τ (u6)) : Fr I_X9_fills A_X9_fills false τ (F_X9_fills_k75_7  τ a1 a2 u6).2 := (Fr.sa (by decide) hfr)
theorem fr_F_X9_fills (τ : St) (a1 : Int32) (a2 : Int32) : Fr I_X9_fills A_X9_fills false τ (F_X9_fills τ a1 a2).2 := (fr_ite2 Fr.rf (fr_ite2 Fr.rf (fr_ite2 Fr.rf (fr_ite2 Fr.rf (fr_ite2 (fr_F_X9_fills_k75_7 τ a1 a2 (F_X9_keeps τ) (Fr.tr Fr.rf (Fr.mono (by decide) (by decide) (by decide) (fr_F_X9_keeps τ)))) Fr.rf)))))
set_option maxHeartbeats 4000000 in
set_option maxRecDepth 20000 in
theorem c_X9_fills (l : Launch) (D : va_G) (cI cZ : ClassId) (z : Nat) (ad : Nat → Nat) (σ τ : St) (a1 a2 : Int32) (hc_ : 0 ≤ ((τ.2.1 50) 2).toInt ∧ ((τ.2.1 50) 2).toInt ≤ 4) (hn_ : 0 ≤ ((τ.2.1 53) 74).toInt ∧ ((τ.2.1 53) 74).toInt ≤ 10) (hp_ : ∀ x : Int32, 0 ≤ x.toInt → x.toInt < 4 → 0 ≤ ((τ.2.1 53) x.toNatClampNeg).toInt ∧ ((τ.2.1 53) x.toNatClampNeg).toInt ≤ 5) : gM l yX9_fills cX9_fills 4 (some .int) 3 D cI cZ z (gws ad cI cZ σ τ) [.ref (ad 48), .int a1, .int a2] (some (.int (F_X9_fills τ a1 a2).1)) (gws ad cI cZ σ (F_X9_fills τ a1 a2).2) := by
  refine g_met (own := RX9) (by decide) rfl (Nat.le_of_ble_eq_true rfl) (fun p e s m below meth c ls Q E hr hlk h hl hQ => ?_)
  have hx := E.1
  have hb := E.2.1
  have hF : (F_X9_fills τ a1 a2) = (F_X9_fills τ a1 a2) := rfl
  have hl : lv_has ls 4 [(0, .ref (ad 48)), (1, .int a1), (2, .int a2)] := hl
  refine lv_aload_n hx hb dX9_fills_0 rfl (lv_at hl 0 rfl) ?_
  refine lv_iload_n hx hb dX9_fills_1 rfl (lv_at hl 1 rfl) ?_
  refine g_callVi (rest := []) E h (c_X9_isCaravan l D cI cZ z ad σ τ a1) mw_907 cbX9_isCaravan 48 rfl rfl ⟨by decide, by decide⟩ rfl rfl hl.1 (Nat.le_of_ble_eq_true rfl) ⟨Nat.zero_le _, Nat.zero_le _⟩ dX9_fills_2 (fun H locs h => ?_)
  refine lv_if_eq (tgt := 18) hx hb dX9_fills_5 (by decide) (fun c1 => ?_) (fun c1 => ?_)
  · have ic1 : (F_X9_isCaravan τ a1).toInt = 0 := i_eq c1
    have hF := (if_pos c1).symm.trans hF
    refine lv_iconst (v := (-1)) hx hb dX9_fills_18 (by decide) ?_
    exact g_iret E hr hlk h hQ (fst_of hF) (snd_of hF (fun u => gws ad cI cZ σ u)) dX9_fills_19
  · have ic1 : (F_X9_isCaravan τ a1).toInt ≠ 0 := i_ne c1
    have jc1 := (fun c => fz9_isCaravan c (by omega)) c1
    have hF := (if_neg c1).symm.trans hF
    refine lv_iload_n hx hb dX9_fills_8 rfl (lv_at hl 2 rfl) ?_
    refine lv_iconst (v := 1) hx hb dX9_fills_9 (by decide) ?_
    refine lv_bipush (v := 20) hx hb dX9_fills_10 (by decide) ?_
    refine g_callSi (rest := []) E h (c_X9_in l D cI cZ z (gws ad cI cZ σ τ) a2 (1 : Int32) (20 : Int32)) mw_789 cbX9_in ⟨by decide, by decide⟩ rfl rfl hl.1 (Nat.le_of_ble_eq_true rfl) ⟨Nat.zero_le _, Nat.zero_le _⟩ dX9_fills_12 (fun H locs h => ?_)
    refine lv_if_ne (tgt := 20) hx hb dX9_fills_15 (by decide) (fun c2 => ?_) (fun c2 => ?_)
    · have ic2 : (F_X9_in a2 (1 : Int32) (20 : Int32)).toInt ≠ 0 := i_ne c2
      have jc2 : 1 ≤ a2.toInt ∧ a2.toInt ≤ 20 := fz_in c2
      have hF := (if_neg c2).symm.trans hF
      refine lv_bipush (v := 14) hx hb dX9_fills_20 (by decide) ?_
      refine lv_bipush (v := 6) hx hb dX9_fills_22 (by decide) ?_
      refine lv_iload_n hx hb dX9_fills_24 rfl (lv_at hl 1 rfl) ?_
      refine lv_imul hx hb dX9_fills_25 ?_
      refine lv_iadd hx hb dX9_fills_26 ?_
      refine lv_aload_n hx hb dX9_fills_27 rfl (lv_at hl 0 rfl) ?_
      refine g_get (v := .ref (ad 53)) E h 48 rfl rfl layX9 6 (by decide) rfl mw_825 rfl dX9_fills_28 ?_
      refine lv_iload_n hx hb dX9_fills_31 rfl (lv_at hl 1 rfl) ?_
      refine g_iald (f := (τ.2.1 53)) E h 53 rfl (ix_of (oI_at a1) (by omega) (by decide)) dX9_fills_32 ?_
      have hp1 := hp_ a1 (by omega) (by omega)
      refine lv_iadd hx hb dX9_fills_33 ?_
      refine lv_istore_n (lv' := [(3, .int (((14 : Int32) + ((6 : Int32) * a1)) + ((τ.2.1 53) a1.toNatClampNeg))), (0, .ref (ad 48)), (1, .int a1), (2, .int a2)]) hx hb dX9_fills_34 rfl hl (by decide) rfl (fun ls hl => ?_)
      refine lv_aload_n hx hb dX9_fills_35 rfl (lv_at hl 1 rfl) ?_
      refine lv_iload_n hx hb dX9_fills_36 rfl (lv_at hl 2 rfl) ?_
      refine g_callVi (rest := []) E h (c_X9_isAlive l D cI cZ z ad σ τ a1) mw_911 cbX9_isAlive 48 rfl rfl ⟨by decide, by decide⟩ rfl rfl hl.1 (Nat.le_of_ble_eq_true rfl) ⟨Nat.zero_le _, Nat.zero_le _⟩ dX9_fills_37 (fun H locs h => ?_)
      refine lv_if_eq (tgt := 71) hx hb dX9_fills_40 (by decide) (fun c3 => ?_) (fun c3 => ?_)
      · have ic3 : (F_X9_isAlive τ a1).toInt = 0 := i_eq c3
        have hF := (if_pos c3).symm.trans hF
        refine lv_bipush (v := (-2)) hx hb dX9_fills_71 (by decide) ?_
        exact g_iret E hr hlk h hQ (fst_of hF) (snd_of hF (fun u => gws ad cI cZ σ u)) dX9_fills_73
      · have ic3 : (F_X9_isAlive τ a1).toInt ≠ 0 := i_ne c3
        have hF := (if_neg c3).symm.trans hF
        refine lv_aload_n hx hb dX9_fills_43 rfl (lv_at hl 1 rfl) ?_
        refine g_get (v := .ref (ad 53)) E h 48 rfl rfl layX9 6 (by decide) rfl mw_825 rfl dX9_fills_44 ?_
        refine lv_iconst (v := 4) hx hb dX9_fills_47 (by decide) ?_
        refine lv_iload_n hx hb dX9_fills_48 rfl (lv_at hl 2 rfl) ?_
        refine lv_iadd hx hb dX9_fills_49 ?_
        refine g_iald (f := (τ.2.1 53)) E h 53 rfl (ix_of (oI_add (oI_lit (x := 4) (a := 4) rfl) (oI_at a1)) (by omega) (by decide)) dX9_fills_50 ?_
        refine lv_iload_n hx hb dX9_fills_51 rfl (lv_at hl 3 rfl) ?_
        refine lv_iadd hx hb dX9_fills_52 ?_
        refine lv_bipush (v := 20) hx hb dX9_fills_53 (by decide) ?_
        refine lv_icmp_gt (tgt := 71) hx hb dX9_fills_55 (by decide) (fun c4 => ?_) (fun c4 => ?_)
        · have ic4 : 20 < (((τ.2.1 53) ((4 : Int32) + a1).toNatClampNeg) + a2).toInt := i_lt c4
          have hF := (if_pos c4).symm.trans hF
          refine lv_bipush (v := (-2)) hx hb dX9_fills_71 (by decide) ?_
          exact g_iret E hr hlk h hQ (fst_of hF) (snd_of hF (fun u => gws ad cI cZ σ u)) dX9_fills_73
        · have ic4 : (((τ.2.1 53) ((4 : Int32) + a1).toNatClampNeg) + a2).toInt ≤ 20 := i_nlt c4
          have hF := (if_neg c4).symm.trans hF
          refine lv_aload_n hx hb dX9_fills_58 rfl (lv_at hl 1 rfl) ?_
          refine g_get (v := .ref (ad 53)) E h 48 rfl rfl layX9 6 (by decide) rfl mw_825 rfl dX9_fills_59 ?_
          refine lv_iload_n hx hb dX9_fills_62 rfl (lv_at hl 0 rfl) ?_
          refine g_iald (f := (τ.2.1 53)) E h 53 rfl (ix_of (oI_add (oI_add (oI_lit (x := 14) (a := 14) rfl) (oI_mul (oI_lit (x := 6) (a := 6) rfl) (oI_at a1))) (oI_at ((τ.2.1 53) a1.toNatClampNeg))) (by omega) (by decide)) dX9_fills_63 ?_
          refine lv_iload_n hx hb dX9_fills_64 rfl (lv_at hl 3 rfl) ?_
          refine lv_iadd hx hb dX9_fills_65 ?_
          refine lv_bipush (v := 99) hx hb dX9_fills_66 (by decide) ?_
          refine lv_icmp_le (tgt := 74) hx hb dX9_fills_68 (by decide) (fun c5 => ?_) (fun c5 => ?_)
          · have ic5 : (((τ.2.1 53) (((14 : Int32) + ((6 : Int32) * a1)) + ((τ.2.1 53) a1.toNatClampNeg)).toNatClampNeg) + a2).toInt ≤ 99 := i_le c5
            have hF := (if_pos c5).symm.trans hF
            refine lv_aload_n hx hb dX9_fills_74 rfl (lv_at hl 1 rfl) ?_
            refine g_callVUv (F_X9_keeps τ) (fun u => gws ad cI cZ σ u) (rest := []) E h (c_X9_keeps l D cI cZ z ad σ τ (show 0 ≤ ((τ.2.1 53) 74).toInt ∧ ((τ.2.1 53) 74).toInt ≤ 10 from by omega)) mw_955 cbX9_keeps 48 rfl rfl ⟨by decide, by decide⟩ rfl rfl hl.1 (Nat.le_of_ble_eq_true rfl) ⟨Nat.zero_le _, Nat.zero_le _⟩ dX9_fills_75 (fun u6 huu6 H locs h => ?_)
            have hF : F_X9_fills_k75_7 τ a1 a2 u6 = (F_X9_fills τ a1 a2) := by rw [← huu6]; exact hF
            refine lv_aload_n hx hb dX9_fills_78 rfl (lv_at hl 1 rfl) ?_
            refine g_get (v := .ref (ad 53)) E h 48 rfl rfl layX9 6 (by decide) rfl mw_825 rfl dX9_fills_79 ?_
            refine lv_iconst (v := 4) hx hb dX9_fills_82 (by decide) ?_
            refine lv_iload_n hx hb dX9_fills_83 rfl (lv_at hl 2 rfl) ?_
            refine lv_iadd hx hb dX9_fills_84 ?_
            refine lv_dup2_11 hx hb dX9_fills_85 rfl rfl ?_
            refine g_iald (f := (u6.2.1 53)) E h 53 rfl (ix_of (oI_add (oI_lit (x := 4) (a := 4) rfl) (oI_at a1)) (by omega) (by decide)) dX9_fills_86 ?_
            refine lv_iload_n hx hb dX9_fills_87 rfl (lv_at hl 3 rfl) ?_
            refine lv_iadd hx hb dX9_fills_88 ?_
            refine g_iast (f := (u6.2.1 53)) (ws' := gws ad cI cZ σ (sa u6 53 (upd (u6.2.1 53) ((4 : Int32) + a1).toNatClampNeg (((u6.2.1 53) ((4 : Int32) + a1).toNatClampNeg) + a2)))) E h 53 rfl (ix_of (oI_add (oI_lit (x := 4) (a := 4) rfl) (oI_at a1)) (by omega) (by decide)) (ga_53 ad cI cZ σ u6 (upd (u6.2.1 53) ((4 : Int32) + a1).toNatClampNeg (((u6.2.1 53) ((4 : Int32) + a1).toNatClampNeg) + a2))) dX9_fills_89 (fun H locs h => ?_)
            refine lv_aload_n hx hb dX9_fills_90 rfl (lv_at hl 1 rfl) ?_
            refine g_get (v := .ref (ad 53)) E h 48 rfl rfl layX9 6 (by decide) rfl mw_825 rfl dX9_fills_91 ?_
            refine lv_iload_n hx hb dX9_fills_94 rfl (lv_at hl 0 rfl) ?_
            refine lv_dup2_11 hx hb dX9_fills_95 rfl rfl ?_
            refine g_iald (f := (upd (u6.2.1 53) ((4 : Int32) + a1).toNatClampNeg (((u6.2.1 53) ((4 : Int32) + a1).toNatClampNeg) + a2))) E h 53 rfl (ix_of (oI_add (oI_add (oI_lit (x := 14) (a := 14) rfl) (oI_mul (oI_lit (x := 6) (a := 6) rfl) (oI_at a1))) (oI_at ((τ.2.1 53) a1.toNatClampNeg))) (by omega) (by decide)) dX9_fills_96 ?_
            refine lv_iload_n hx hb dX9_fills_97 rfl (lv_at hl 3 rfl) ?_
            refine lv_iadd hx hb dX9_fills_98 ?_
            refine g_iast (f := (upd (u6.2.1 53) ((4 : Int32) + a1).toNatClampNeg (((u6.2.1 53) ((4 : Int32) + a1).toNatClampNeg) + a2))) (ws' := gws ad cI cZ σ (sa u6 53 (upd (upd (u6.2.1 53) ((4 : Int32) + a1).toNatClampNeg (((u6.2.1 53) ((4 : Int32) + a1).toNatClampNeg) + a2)) (((14 : Int32) + ((6 : Int32) * a1)) + ((τ.2.1 53) a1.toNatClampNeg)).toNatClampNeg (((upd (u6.2.1 53) ((4 : Int32) + a1).toNatClampNeg (((u6.2.1 53) ((4 : Int32) + a1).toNatClampNeg) + a2)) (((14 : Int32) + ((6 : Int32) * a1)) + ((τ.2.1 53) a1.toNatClampNeg)).toNatClampNeg) + a2)))) E h 53 rfl (ix_of (oI_add (oI_add (oI_lit (x := 14) (a := 14) rfl) (oI_mul (oI_lit (x := 6) (a := 6) rfl) (oI_at a1))) (oI_at ((τ.2.1 53) a1.toNatClampNeg))) (by omega) (by decide)) ((ga_53 ad cI cZ σ (sa u6 53 (upd (u6.2.1 53) ((4 : Int32) + a1).toNatClampNeg (((u6.2.1 53) ((4 : Int32) + a1).toNatClampNeg) + a2))) (upd (upd (u6.2.1 53) ((4 : Int32) + a1).toNatClampNeg (((u6.2.1 53) ((4 : Int32) + a1).toNatClampNeg) + a2)) (((14 : Int32) + ((6 : Int32) * a1)) + ((τ.2.1 53) a1.toNatClampNeg)).toNatClampNeg (((upd (u6.2.1 53) ((4 : Int32) + a1).toNatClampNeg (((u6.2.1 53) ((4 : Int32) + a1).toNatClampNeg) + a2)) (((14 : Int32) + ((6 : Int32) * a1)) + ((τ.2.1 53) a1.toNatClampNeg)).toNatClampNeg) + a2))).trans (congrArg (fun u => gws ad cI cZ σ u) (sa_sa _ _ _ _))) dX9_fills_99 (fun H locs h => ?_)
            refine lv_aload_n hx hb dX9_fills_100 rfl (lv_at hl 1 rfl) ?_
            refine g_get (v := .ref (ad 53)) E h 48 rfl rfl layX9 6 (by decide) rfl mw_825 rfl dX9_fills_101 ?_
            refine lv_iload_n hx hb dX9_fills_104 rfl (lv_at hl 0 rfl) ?_
            refine g_iald (f := (upd (upd (u6.2.1 53) ((4 : Int32) + a1).toNatClampNeg (((u6.2.1 53) ((4 : Int32) + a1).toNatClampNeg) + a2)) (((14 : Int32) + ((6 : Int32) * a1)) + ((τ.2.1 53) a1.toNatClampNeg)).toNatClampNeg (((upd (u6.2.1 53) ((4 : Int32) + a1).toNatClampNeg (((u6.2.1 53) ((4 : Int32) + a1).toNatClampNeg) + a2)) (((14 : Int32) + ((6 : Int32) * a1)) + ((τ.2.1 53) a1.toNatClampNeg)).toNatClampNeg) + a2))) E h 53 rfl (ix_of (oI_add (oI_add (oI_lit (x := 14) (a := 14) rfl) (oI_mul (oI_lit (x := 6) (a := 6) rfl) (oI_at a1))) (oI_at ((τ.2.1 53) a1.toNatClampNeg))) (by omega) (by decide)) dX9_fills_105 ?_
            exact g_iret E hr hlk h hQ (fst_of hF) (snd_of hF (fun u => gws ad cI cZ σ u)) dX9_fills_106
          · have ic5 : 99 < (((τ.2.1 53) (((14 : Int32) + ((6 : Int32) * a1)) + ((τ.2.1 53) a1.toNatClampNeg)).toNatClampNeg) + a2).toInt := i_nle c5
            have hF := (if_neg c5).symm.trans hF
            refine lv_bipush (v := (-2)) hx hb dX9_fills_71 (by decide) ?_
            exact g_iret E hr hlk h hQ (fst_of hF) (snd_of hF (fun u => gws ad cI cZ σ u)) dX9_fills_73
    · have ic2 : (F_X9_in a2 (1 : Int32) (20 : Int32)).toInt = 0 := i_eq c2
      have hF := (if_pos c2).symm.trans hF
      refine lv_iconst (v := (-1)) hx hb dX9_fills_18 (by decide) ?_
      exact g_iret E hr hlk h hQ (fst_of hF) (snd_of hF (fun u => gws ad cI cZ σ u)) dX9_fills_19

def F_X9_hands_k111_11 (τ : St) (a1 : Int32) (a2 : Int32) (a3 : Int32) (a4 : Int32) (u10 : St) : Int32 × St := (((upd (upd (u10.2.1 53) (((14 : Int32) + ((6 : Int32) * a1)) + a3).toNatClampNeg (((u10.2.1 53) (((14 : Int32) + ((6 : Int32) * a1)) + a3).toNatClampNeg) - a4)) (((14 : Int32) + ((6 : Int32) * a2)) + a3).toNatClampNeg (((upd (u10.2.1 53) (((14 : Int32) + ((6 : Int32) * a1)) + a3).toNatClampNeg (((u10.2.1 53) (((14 : Int32) + ((6 : Int32) * a1)) + a3).toNatClampNeg) - a4)) (((14 : Int32) + ((6 : Int32) * a2)) + a3).toNatClampNeg) + a4)) (((14 : Int32) + ((6 : Int32) * a2)) + a3).toNatClampNeg), (sa u10 53 (upd (upd (u10.2.1 53) (((14 : Int32) + ((6 : Int32) * a1)) + a3).toNatClampNeg (((u10.2.1 53) (((14 : Int32) + ((6 : Int32) * a1)) + a3).toNatClampNeg) - a4)) (((14 : Int32) + ((6 : Int32) * a2)) + a3).toNatClampNeg (((upd (u10.2.1 53) (((14 : Int32) + ((6 : Int32) * a1)) + a3).toNatClampNeg (((u10.2.1 53) (((14 : Int32) + ((6 : Int32) * a1)) + a3).toNatClampNeg) - a4)) (((14 : Int32) + ((6 : Int32) * a2)) + a3).toNatClampNeg) + a4))))
def F_X9_hands (τ : St) (a1 : Int32) (a2 : Int32) (a3 : Int32) (a4 : Int32) : Int32 × St := (if (F_X9_isCaravan τ a1) = 0 then (((-1) : Int32), τ) else (if (F_X9_isCaravan τ a2) = 0 then (((-1) : Int32), τ) else (if a1 = a2 then (((-1) : Int32), τ) else (if (F_X9_isWell τ a3) = 0 then (((-1) : Int32), τ) else (if (F_X9_in a4 (1 : Int32) (99 : Int32)) = 0 then (((-1) : Int32), τ) else (if (F_X9_isAlive τ a1) = 0 then (((-2) : Int32), τ) else (if (F_X9_isAlive τ a2) = 0 then (((-2) : Int32), τ) else (if ((τ.2.1 53) (((14 : Int32) + ((6 : Int32) * a1)) + a3).toNatClampNeg) < a4 then (((-2) : Int32), τ) else (if (((τ.2.1 53) (((14 : Int32) + ((6 : Int32) * a2)) + a3).toNatClampNeg) + a4) ≤ (99 : Int32) then (F_X9_hands_k111_11 τ a1 a2 a3 a4 (F_X9_keeps τ)) else (((-2) : Int32), τ))))))))))
abbrev I_X9_hands : List Nat := []
abbrev A_X9_hands : List Nat := [53]
theorem fr_F_X9_hands_k111_11 (τ : St) (a1 : Int32) (a2 : Int32) (a3 : Int32) (a4 : Int32) (u10 : St) (hfr : Fr I_X9_hands A_X9_hands false τ (u10)) : Fr I_X9_hands A_X9_hands false τ (F_X9_hands_k111_11  τ a1 a2 a3 a4 u10).2 := (Fr.sa (by decide) hfr)
theorem fr_F_X9_hands (τ : St) (a1 : Int32) (a2 : Int32) (a3 : Int32) (a4 : Int32) : Fr I_X9_hands A_X9_hands false τ (F_X9_hands τ a1 a2 a3 a4).2 := (fr_ite2 Fr.rf (fr_ite2 Fr.rf (fr_ite2 Fr.rf (fr_ite2 Fr.rf (fr_ite2 Fr.rf (fr_ite2 Fr.rf (fr_ite2 Fr.rf (fr_ite2 Fr.rf (fr_ite2 (fr_F_X9_hands_k111_11 τ a1 a2 a3 a4 (F_X9_keeps τ) (Fr.tr Fr.rf (Fr.mono (by decide) (by decide) (by decide) (fr_F_X9_keeps τ)))) Fr.rf)))))))))
set_option maxHeartbeats 4000000 in
set_option maxRecDepth 20000 in
theorem c_X9_hands (l : Launch) (D : va_G) (cI cZ : ClassId) (z : Nat) (ad : Nat → Nat) (σ τ : St) (a1 a2 a3 a4 : Int32) (hw_ : 0 ≤ ((τ.2.1 50) 0).toInt ∧ ((τ.2.1 50) 0).toInt ≤ 6) (hc_ : 0 ≤ ((τ.2.1 50) 2).toInt ∧ ((τ.2.1 50) 2).toInt ≤ 4) (hn_ : 0 ≤ ((τ.2.1 53) 74).toInt ∧ ((τ.2.1 53) 74).toInt ≤ 10) : gM l yX9_hands cX9_hands 7 (some .int) 3 D cI cZ z (gws ad cI cZ σ τ) [.ref (ad 48), .int a1, .int a2, .int a3, .int a4] (some (.int (F_X9_hands τ a1 a2 a3 a4).1)) (gws ad cI cZ σ (F_X9_hands τ a1 a2 a3 a4).2) := by
  refine g_met (own := RX9) (by decide) rfl (Nat.le_of_ble_eq_true rfl) (fun p e s m below meth c ls Q E hr hlk h hl hQ => ?_)
  have hx := E.1
  have hb := E.2.1
  have hF : (F_X9_hands τ a1 a2 a3 a4) = (F_X9_hands τ a1 a2 a3 a4) := rfl
  have hl : lv_has ls 7 [(0, .ref (ad 48)), (1, .int a1), (2, .int a2), (3, .int a3), (4, .int a4)] := hl
  refine lv_aload_n hx hb dX9_hands_0 rfl (lv_at hl 0 rfl) ?_
  refine lv_iload_n hx hb dX9_hands_1 rfl (lv_at hl 1 rfl) ?_
  refine g_callVi (rest := []) E h (c_X9_isCaravan l D cI cZ z ad σ τ a1) mw_907 cbX9_isCaravan 48 rfl rfl ⟨by decide, by decide⟩ rfl rfl hl.1 (Nat.le_of_ble_eq_true rfl) ⟨Nat.zero_le _, Nat.zero_le _⟩ dX9_hands_2 (fun H locs h => ?_)
  refine lv_if_eq (tgt := 40) hx hb dX9_hands_5 (by decide) (fun c1 => ?_) (fun c1 => ?_)
  · have ic1 : (F_X9_isCaravan τ a1).toInt = 0 := i_eq c1
    have hF := (if_pos c1).symm.trans hF
    refine lv_iconst (v := (-1)) hx hb dX9_hands_40 (by decide) ?_
    exact g_iret E hr hlk h hQ (fst_of hF) (snd_of hF (fun u => gws ad cI cZ σ u)) dX9_hands_41
  · have ic1 : (F_X9_isCaravan τ a1).toInt ≠ 0 := i_ne c1
    have jc1 := (fun c => fz9_isCaravan c (by omega)) c1
    have hF := (if_neg c1).symm.trans hF
    refine lv_aload_n hx hb dX9_hands_8 rfl (lv_at hl 0 rfl) ?_
    refine lv_iload_n hx hb dX9_hands_9 rfl (lv_at hl 2 rfl) ?_
    refine g_callVi (rest := []) E h (c_X9_isCaravan l D cI cZ z ad σ τ a2) mw_907 cbX9_isCaravan 48 rfl rfl ⟨by decide, by decide⟩ rfl rfl hl.1 (Nat.le_of_ble_eq_true rfl) ⟨Nat.zero_le _, Nat.zero_le _⟩ dX9_hands_10 (fun H locs h => ?_)
    refine lv_if_eq (tgt := 40) hx hb dX9_hands_13 (by decide) (fun c2 => ?_) (fun c2 => ?_)
    · have ic2 : (F_X9_isCaravan τ a2).toInt = 0 := i_eq c2
      have hF := (if_pos c2).symm.trans hF
      refine lv_iconst (v := (-1)) hx hb dX9_hands_40 (by decide) ?_
      exact g_iret E hr hlk h hQ (fst_of hF) (snd_of hF (fun u => gws ad cI cZ σ u)) dX9_hands_41
    · have ic2 : (F_X9_isCaravan τ a2).toInt ≠ 0 := i_ne c2
      have jc2 := (fun c => fz9_isCaravan c (by omega)) c2
      have hF := (if_neg c2).symm.trans hF
      refine lv_iload_n hx hb dX9_hands_16 rfl (lv_at hl 1 rfl) ?_
      refine lv_iload_n hx hb dX9_hands_17 rfl (lv_at hl 2 rfl) ?_
      refine lv_icmp_eq (tgt := 40) hx hb dX9_hands_18 (by decide) (fun c3 => ?_) (fun c3 => ?_)
      · have ic3 : a1.toInt = a2.toInt := i_eq c3
        have hF := (if_pos c3).symm.trans hF
        refine lv_iconst (v := (-1)) hx hb dX9_hands_40 (by decide) ?_
        exact g_iret E hr hlk h hQ (fst_of hF) (snd_of hF (fun u => gws ad cI cZ σ u)) dX9_hands_41
      · have ic3 : a1.toInt ≠ a2.toInt := i_ne c3
        have hF := (if_neg c3).symm.trans hF
        refine lv_aload_n hx hb dX9_hands_21 rfl (lv_at hl 0 rfl) ?_
        refine lv_iload_n hx hb dX9_hands_22 rfl (lv_at hl 3 rfl) ?_
        refine g_callVi (rest := []) E h (c_X9_isWell l D cI cZ z ad σ τ a3) mw_926 cbX9_isWell 48 rfl rfl ⟨by decide, by decide⟩ rfl rfl hl.1 (Nat.le_of_ble_eq_true rfl) ⟨Nat.zero_le _, Nat.zero_le _⟩ dX9_hands_23 (fun H locs h => ?_)
        refine lv_if_eq (tgt := 40) hx hb dX9_hands_26 (by decide) (fun c4 => ?_) (fun c4 => ?_)
        · have ic4 : (F_X9_isWell τ a3).toInt = 0 := i_eq c4
          have hF := (if_pos c4).symm.trans hF
          refine lv_iconst (v := (-1)) hx hb dX9_hands_40 (by decide) ?_
          exact g_iret E hr hlk h hQ (fst_of hF) (snd_of hF (fun u => gws ad cI cZ σ u)) dX9_hands_41
        · have ic4 : (F_X9_isWell τ a3).toInt ≠ 0 := i_ne c4
          have jc4 := (fun c => fz9_isWell c (by omega)) c4
          have hF := (if_neg c4).symm.trans hF
          refine lv_iload hx hb dX9_hands_29 (lv_at hl 4 rfl) ?_
          refine lv_iconst (v := 1) hx hb dX9_hands_31 (by decide) ?_
          refine lv_bipush (v := 99) hx hb dX9_hands_32 (by decide) ?_
          refine g_callSi (rest := []) E h (c_X9_in l D cI cZ z (gws ad cI cZ σ τ) a4 (1 : Int32) (99 : Int32)) mw_789 cbX9_in ⟨by decide, by decide⟩ rfl rfl hl.1 (Nat.le_of_ble_eq_true rfl) ⟨Nat.zero_le _, Nat.zero_le _⟩ dX9_hands_34 (fun H locs h => ?_)
          refine lv_if_ne (tgt := 42) hx hb dX9_hands_37 (by decide) (fun c5 => ?_) (fun c5 => ?_)
          · have ic5 : (F_X9_in a4 (1 : Int32) (99 : Int32)).toInt ≠ 0 := i_ne c5
            have jc5 : 1 ≤ a4.toInt ∧ a4.toInt ≤ 99 := fz_in c5
            have hF := (if_neg c5).symm.trans hF
            refine lv_bipush (v := 14) hx hb dX9_hands_42 (by decide) ?_
            refine lv_bipush (v := 6) hx hb dX9_hands_44 (by decide) ?_
            refine lv_iload_n hx hb dX9_hands_46 rfl (lv_at hl 1 rfl) ?_
            refine lv_imul hx hb dX9_hands_47 ?_
            refine lv_iadd hx hb dX9_hands_48 ?_
            refine lv_iload_n hx hb dX9_hands_49 rfl (lv_at hl 3 rfl) ?_
            refine lv_iadd hx hb dX9_hands_50 ?_
            refine lv_istore (lv' := [(5, .int (((14 : Int32) + ((6 : Int32) * a1)) + a3)), (0, .ref (ad 48)), (1, .int a1), (2, .int a2), (3, .int a3), (4, .int a4)]) hx hb dX9_hands_51 hl (by decide) rfl (fun ls hl => ?_)
            refine lv_bipush (v := 14) hx hb dX9_hands_53 (by decide) ?_
            refine lv_bipush (v := 6) hx hb dX9_hands_55 (by decide) ?_
            refine lv_iload_n hx hb dX9_hands_57 rfl (lv_at hl 3 rfl) ?_
            refine lv_imul hx hb dX9_hands_58 ?_
            refine lv_iadd hx hb dX9_hands_59 ?_
            refine lv_iload_n hx hb dX9_hands_60 rfl (lv_at hl 4 rfl) ?_
            refine lv_iadd hx hb dX9_hands_61 ?_
            refine lv_istore (lv' := [(6, .int (((14 : Int32) + ((6 : Int32) * a2)) + a3)), (5, .int (((14 : Int32) + ((6 : Int32) * a1)) + a3)), (0, .ref (ad 48)), (1, .int a1), (2, .int a2), (3, .int a3), (4, .int a4)]) hx hb dX9_hands_62 hl (by decide) rfl (fun ls hl => ?_)
            refine lv_aload_n hx hb dX9_hands_64 rfl (lv_at hl 2 rfl) ?_
            refine lv_iload_n hx hb dX9_hands_65 rfl (lv_at hl 3 rfl) ?_
            refine g_callVi (rest := []) E h (c_X9_isAlive l D cI cZ z ad σ τ a1) mw_911 cbX9_isAlive 48 rfl rfl ⟨by decide, by decide⟩ rfl rfl hl.1 (Nat.le_of_ble_eq_true rfl) ⟨Nat.zero_le _, Nat.zero_le _⟩ dX9_hands_66 (fun H locs h => ?_)
            refine lv_if_eq (tgt := 107) hx hb dX9_hands_69 (by decide) (fun c6 => ?_) (fun c6 => ?_)
            · have ic6 : (F_X9_isAlive τ a1).toInt = 0 := i_eq c6
              have hF := (if_pos c6).symm.trans hF
              refine lv_bipush (v := (-2)) hx hb dX9_hands_107 (by decide) ?_
              exact g_iret E hr hlk h hQ (fst_of hF) (snd_of hF (fun u => gws ad cI cZ σ u)) dX9_hands_109
            · have ic6 : (F_X9_isAlive τ a1).toInt ≠ 0 := i_ne c6
              have hF := (if_neg c6).symm.trans hF
              refine lv_aload_n hx hb dX9_hands_72 rfl (lv_at hl 2 rfl) ?_
              refine lv_iload_n hx hb dX9_hands_73 rfl (lv_at hl 4 rfl) ?_
              refine g_callVi (rest := []) E h (c_X9_isAlive l D cI cZ z ad σ τ a2) mw_911 cbX9_isAlive 48 rfl rfl ⟨by decide, by decide⟩ rfl rfl hl.1 (Nat.le_of_ble_eq_true rfl) ⟨Nat.zero_le _, Nat.zero_le _⟩ dX9_hands_74 (fun H locs h => ?_)
              refine lv_if_eq (tgt := 107) hx hb dX9_hands_77 (by decide) (fun c7 => ?_) (fun c7 => ?_)
              · have ic7 : (F_X9_isAlive τ a2).toInt = 0 := i_eq c7
                have hF := (if_pos c7).symm.trans hF
                refine lv_bipush (v := (-2)) hx hb dX9_hands_107 (by decide) ?_
                exact g_iret E hr hlk h hQ (fst_of hF) (snd_of hF (fun u => gws ad cI cZ σ u)) dX9_hands_109
              · have ic7 : (F_X9_isAlive τ a2).toInt ≠ 0 := i_ne c7
                have hF := (if_neg c7).symm.trans hF
                refine lv_aload_n hx hb dX9_hands_80 rfl (lv_at hl 2 rfl) ?_
                refine g_get (v := .ref (ad 53)) E h 48 rfl rfl layX9 6 (by decide) rfl mw_825 rfl dX9_hands_81 ?_
                refine lv_iload hx hb dX9_hands_84 (lv_at hl 1 rfl) ?_
                refine g_iald (f := (τ.2.1 53)) E h 53 rfl (ix_of (oI_add (oI_add (oI_lit (x := 14) (a := 14) rfl) (oI_mul (oI_lit (x := 6) (a := 6) rfl) (oI_at a1))) (oI_at a3)) (by omega) (by decide)) dX9_hands_86 ?_
                refine lv_iload hx hb dX9_hands_87 (lv_at hl 6 rfl) ?_
                refine lv_icmp_lt (tgt := 107) hx hb dX9_hands_89 (by decide) (fun c8 => ?_) (fun c8 => ?_)
                · have ic8 : ((τ.2.1 53) (((14 : Int32) + ((6 : Int32) * a1)) + a3).toNatClampNeg).toInt < a4.toInt := i_lt c8
                  have hF := (if_pos c8).symm.trans hF
                  refine lv_bipush (v := (-2)) hx hb dX9_hands_107 (by decide) ?_
                  exact g_iret E hr hlk h hQ (fst_of hF) (snd_of hF (fun u => gws ad cI cZ σ u)) dX9_hands_109
                · have ic8 : a4.toInt ≤ ((τ.2.1 53) (((14 : Int32) + ((6 : Int32) * a1)) + a3).toNatClampNeg).toInt := i_nlt c8
                  have hF := (if_neg c8).symm.trans hF
                  refine lv_aload_n hx hb dX9_hands_92 rfl (lv_at hl 2 rfl) ?_
                  refine g_get (v := .ref (ad 53)) E h 48 rfl rfl layX9 6 (by decide) rfl mw_825 rfl dX9_hands_93 ?_
                  refine lv_iload hx hb dX9_hands_96 (lv_at hl 0 rfl) ?_
                  refine g_iald (f := (τ.2.1 53)) E h 53 rfl (ix_of (oI_add (oI_add (oI_lit (x := 14) (a := 14) rfl) (oI_mul (oI_lit (x := 6) (a := 6) rfl) (oI_at a2))) (oI_at a3)) (by omega) (by decide)) dX9_hands_98 ?_
                  refine lv_iload hx hb dX9_hands_99 (lv_at hl 6 rfl) ?_
                  refine lv_iadd hx hb dX9_hands_101 ?_
                  refine lv_bipush (v := 99) hx hb dX9_hands_102 (by decide) ?_
                  refine lv_icmp_le (tgt := 110) hx hb dX9_hands_104 (by decide) (fun c9 => ?_) (fun c9 => ?_)
                  · have ic9 : (((τ.2.1 53) (((14 : Int32) + ((6 : Int32) * a2)) + a3).toNatClampNeg) + a4).toInt ≤ 99 := i_le c9
                    have hF := (if_pos c9).symm.trans hF
                    refine lv_aload_n hx hb dX9_hands_110 rfl (lv_at hl 2 rfl) ?_
                    refine g_callVUv (F_X9_keeps τ) (fun u => gws ad cI cZ σ u) (rest := []) E h (c_X9_keeps l D cI cZ z ad σ τ (show 0 ≤ ((τ.2.1 53) 74).toInt ∧ ((τ.2.1 53) 74).toInt ≤ 10 from by omega)) mw_955 cbX9_keeps 48 rfl rfl ⟨by decide, by decide⟩ rfl rfl hl.1 (Nat.le_of_ble_eq_true rfl) ⟨Nat.zero_le _, Nat.zero_le _⟩ dX9_hands_111 (fun u10 huu10 H locs h => ?_)
                    have hF : F_X9_hands_k111_11 τ a1 a2 a3 a4 u10 = (F_X9_hands τ a1 a2 a3 a4) := by rw [← huu10]; exact hF
                    refine lv_aload_n hx hb dX9_hands_114 rfl (lv_at hl 2 rfl) ?_
                    refine g_get (v := .ref (ad 53)) E h 48 rfl rfl layX9 6 (by decide) rfl mw_825 rfl dX9_hands_115 ?_
                    refine lv_iload hx hb dX9_hands_118 (lv_at hl 1 rfl) ?_
                    refine lv_dup2_11 hx hb dX9_hands_120 rfl rfl ?_
                    refine g_iald (f := (u10.2.1 53)) E h 53 rfl (ix_of (oI_add (oI_add (oI_lit (x := 14) (a := 14) rfl) (oI_mul (oI_lit (x := 6) (a := 6) rfl) (oI_at a1))) (oI_at a3)) (by omega) (by decide)) dX9_hands_121 ?_
                    refine lv_iload hx hb dX9_hands_122 (lv_at hl 6 rfl) ?_
                    refine lv_isub hx hb dX9_hands_124 ?_
                    refine g_iast (f := (u10.2.1 53)) (ws' := gws ad cI cZ σ (sa u10 53 (upd (u10.2.1 53) (((14 : Int32) + ((6 : Int32) * a1)) + a3).toNatClampNeg (((u10.2.1 53) (((14 : Int32) + ((6 : Int32) * a1)) + a3).toNatClampNeg) - a4)))) E h 53 rfl (ix_of (oI_add (oI_add (oI_lit (x := 14) (a := 14) rfl) (oI_mul (oI_lit (x := 6) (a := 6) rfl) (oI_at a1))) (oI_at a3)) (by omega) (by decide)) (ga_53 ad cI cZ σ u10 (upd (u10.2.1 53) (((14 : Int32) + ((6 : Int32) * a1)) + a3).toNatClampNeg (((u10.2.1 53) (((14 : Int32) + ((6 : Int32) * a1)) + a3).toNatClampNeg) - a4))) dX9_hands_125 (fun H locs h => ?_)
                    refine lv_aload_n hx hb dX9_hands_126 rfl (lv_at hl 2 rfl) ?_
                    refine g_get (v := .ref (ad 53)) E h 48 rfl rfl layX9 6 (by decide) rfl mw_825 rfl dX9_hands_127 ?_
                    refine lv_iload hx hb dX9_hands_130 (lv_at hl 0 rfl) ?_
                    refine lv_dup2_11 hx hb dX9_hands_132 rfl rfl ?_
                    refine g_iald (f := (upd (u10.2.1 53) (((14 : Int32) + ((6 : Int32) * a1)) + a3).toNatClampNeg (((u10.2.1 53) (((14 : Int32) + ((6 : Int32) * a1)) + a3).toNatClampNeg) - a4))) E h 53 rfl (ix_of (oI_add (oI_add (oI_lit (x := 14) (a := 14) rfl) (oI_mul (oI_lit (x := 6) (a := 6) rfl) (oI_at a2))) (oI_at a3)) (by omega) (by decide)) dX9_hands_133 ?_
                    refine lv_iload hx hb dX9_hands_134 (lv_at hl 6 rfl) ?_
                    refine lv_iadd hx hb dX9_hands_136 ?_
                    refine g_iast (f := (upd (u10.2.1 53) (((14 : Int32) + ((6 : Int32) * a1)) + a3).toNatClampNeg (((u10.2.1 53) (((14 : Int32) + ((6 : Int32) * a1)) + a3).toNatClampNeg) - a4))) (ws' := gws ad cI cZ σ (sa u10 53 (upd (upd (u10.2.1 53) (((14 : Int32) + ((6 : Int32) * a1)) + a3).toNatClampNeg (((u10.2.1 53) (((14 : Int32) + ((6 : Int32) * a1)) + a3).toNatClampNeg) - a4)) (((14 : Int32) + ((6 : Int32) * a2)) + a3).toNatClampNeg (((upd (u10.2.1 53) (((14 : Int32) + ((6 : Int32) * a1)) + a3).toNatClampNeg (((u10.2.1 53) (((14 : Int32) + ((6 : Int32) * a1)) + a3).toNatClampNeg) - a4)) (((14 : Int32) + ((6 : Int32) * a2)) + a3).toNatClampNeg) + a4)))) E h 53 rfl (ix_of (oI_add (oI_add (oI_lit (x := 14) (a := 14) rfl) (oI_mul (oI_lit (x := 6) (a := 6) rfl) (oI_at a2))) (oI_at a3)) (by omega) (by decide)) ((ga_53 ad cI cZ σ (sa u10 53 (upd (u10.2.1 53) (((14 : Int32) + ((6 : Int32) * a1)) + a3).toNatClampNeg (((u10.2.1 53) (((14 : Int32) + ((6 : Int32) * a1)) + a3).toNatClampNeg) - a4))) (upd (upd (u10.2.1 53) (((14 : Int32) + ((6 : Int32) * a1)) + a3).toNatClampNeg (((u10.2.1 53) (((14 : Int32) + ((6 : Int32) * a1)) + a3).toNatClampNeg) - a4)) (((14 : Int32) + ((6 : Int32) * a2)) + a3).toNatClampNeg (((upd (u10.2.1 53) (((14 : Int32) + ((6 : Int32) * a1)) + a3).toNatClampNeg (((u10.2.1 53) (((14 : Int32) + ((6 : Int32) * a1)) + a3).toNatClampNeg) - a4)) (((14 : Int32) + ((6 : Int32) * a2)) + a3).toNatClampNeg) + a4))).trans (congrArg (fun u => gws ad cI cZ σ u) (sa_sa _ _ _ _))) dX9_hands_137 (fun H locs h => ?_)
                    refine lv_aload_n hx hb dX9_hands_138 rfl (lv_at hl 2 rfl) ?_
                    refine g_get (v := .ref (ad 53)) E h 48 rfl rfl layX9 6 (by decide) rfl mw_825 rfl dX9_hands_139 ?_
                    refine lv_iload hx hb dX9_hands_142 (lv_at hl 0 rfl) ?_
                    refine g_iald (f := (upd (upd (u10.2.1 53) (((14 : Int32) + ((6 : Int32) * a1)) + a3).toNatClampNeg (((u10.2.1 53) (((14 : Int32) + ((6 : Int32) * a1)) + a3).toNatClampNeg) - a4)) (((14 : Int32) + ((6 : Int32) * a2)) + a3).toNatClampNeg (((upd (u10.2.1 53) (((14 : Int32) + ((6 : Int32) * a1)) + a3).toNatClampNeg (((u10.2.1 53) (((14 : Int32) + ((6 : Int32) * a1)) + a3).toNatClampNeg) - a4)) (((14 : Int32) + ((6 : Int32) * a2)) + a3).toNatClampNeg) + a4))) E h 53 rfl (ix_of (oI_add (oI_add (oI_lit (x := 14) (a := 14) rfl) (oI_mul (oI_lit (x := 6) (a := 6) rfl) (oI_at a2))) (oI_at a3)) (by omega) (by decide)) dX9_hands_144 ?_
                    exact g_iret E hr hlk h hQ (fst_of hF) (snd_of hF (fun u => gws ad cI cZ σ u)) dX9_hands_145
                  · have ic9 : 99 < (((τ.2.1 53) (((14 : Int32) + ((6 : Int32) * a2)) + a3).toNatClampNeg) + a4).toInt := i_nle c9
                    have hF := (if_neg c9).symm.trans hF
                    refine lv_bipush (v := (-2)) hx hb dX9_hands_107 (by decide) ?_
                    exact g_iret E hr hlk h hQ (fst_of hF) (snd_of hF (fun u => gws ad cI cZ σ u)) dX9_hands_109
          · have ic5 : (F_X9_in a4 (1 : Int32) (99 : Int32)).toInt = 0 := i_eq c5
            have hF := (if_pos c5).symm.trans hF
            refine lv_iconst (v := (-1)) hx hb dX9_hands_40 (by decide) ?_
            exact g_iret E hr hlk h hQ (fst_of hF) (snd_of hF (fun u => gws ad cI cZ σ u)) dX9_hands_41

def F_X9_undo_L40 : Nat → St → Int32 → St → Int32 × St
  | 0, _, _, m40 => (0, m40)
  | n + 1, τ, x2_40, m40 => (if (74 : Int32) ≤ x2_40 then (((m40.2.1 53) 74), m40) else (F_X9_undo_L40  n τ (x2_40 + (1 : Int32)) (sa m40 53 (upd (m40.2.1 53) x2_40.toNatClampNeg ((m40.2.1 53) (((75 : Int32) + ((74 : Int32) * (((τ.2.1 53) 74) - (1 : Int32)))) + x2_40).toNatClampNeg)))))
def F_X9_undo (τ : St) : Int32 × St := (if ((τ.2.1 53) 74) = 0 then (((-2) : Int32), τ) else (F_X9_undo_L40  75 τ (0 : Int32) (sa τ 53 (upd (τ.2.1 53) 74 (((τ.2.1 53) 74) - (1 : Int32))))))
abbrev I_X9_undo : List Nat := []
abbrev A_X9_undo : List Nat := [53]
theorem fr_F_X9_undo_L40_w (τ : St) : ∀ (n : Nat) (x2_40 : Int32) (m40 : St), Fr I_X9_undo A_X9_undo false τ m40 → Fr I_X9_undo A_X9_undo false τ (F_X9_undo_L40  n τ x2_40 m40).2
  | 0, x2_40, m40, hfr => hfr
  | n + 1, x2_40, m40, hfr => (fr_ite2 hfr ((fun y1 y2 hy => fr_F_X9_undo_L40_w  τ  n y1 y2 hy) (x2_40 + (1 : Int32)) (sa m40 53 (upd (m40.2.1 53) x2_40.toNatClampNeg ((m40.2.1 53) (((75 : Int32) + ((74 : Int32) * (((τ.2.1 53) 74) - (1 : Int32)))) + x2_40).toNatClampNeg))) (Fr.sa (by decide) hfr)))
theorem fr_F_X9_undo_L40 (n : Nat) (τ : St) (x2_40 : Int32) (m40 : St) (hfr : Fr I_X9_undo A_X9_undo false τ (m40)) : Fr I_X9_undo A_X9_undo false τ (F_X9_undo_L40  n τ x2_40 m40).2 := fr_F_X9_undo_L40_w  τ  n x2_40 m40 hfr
theorem fr_F_X9_undo (τ : St) : Fr I_X9_undo A_X9_undo false τ (F_X9_undo τ).2 := (fr_ite2 Fr.rf (fr_F_X9_undo_L40  75 τ (0 : Int32) (sa τ 53 (upd (τ.2.1 53) 74 (((τ.2.1 53) 74) - (1 : Int32)))) (Fr.sa (by decide) Fr.rf)))
set_option maxHeartbeats 4000000 in
set_option maxRecDepth 20000 in
theorem c_X9_undo (l : Launch) (D : va_G) (cI cZ : ClassId) (z : Nat) (ad : Nat → Nat) (σ τ : St) (hn_ : 0 ≤ ((τ.2.1 53) 74).toInt ∧ ((τ.2.1 53) 74).toInt ≤ 10) : gM l yX9_undo cX9_undo 3 (some .int) 1 D cI cZ z (gws ad cI cZ σ τ) [.ref (ad 48)] (some (.int (F_X9_undo τ).1)) (gws ad cI cZ σ (F_X9_undo τ).2) := by
  refine g_met (own := RX9) (by decide) rfl (Nat.le_of_ble_eq_true rfl) (fun p e s m below meth c ls Q E hr hlk h hl hQ => ?_)
  have hx := E.1
  have hb := E.2.1
  have hF : (F_X9_undo τ) = (F_X9_undo τ) := rfl
  have hl : lv_has ls 3 [(0, .ref (ad 48))] := hl
  refine lv_aload_n hx hb dX9_undo_0 rfl (lv_at hl 0 rfl) ?_
  refine g_get (v := .ref (ad 53)) E h 48 rfl rfl layX9 6 (by decide) rfl mw_825 rfl dX9_undo_1 ?_
  refine lv_bipush (v := 74) hx hb dX9_undo_4 (by decide) ?_
  refine g_ialdk (f := (τ.2.1 53)) E h 53 rfl 74 rfl (ix_of (oI_lit (x := 74) (a := 74) rfl) (by omega) (by decide)) dX9_undo_6 ?_
  refine lv_if_ne (tgt := 13) hx hb dX9_undo_7 (by decide) (fun c1 => ?_) (fun c1 => ?_)
  · have ic1 : ((τ.2.1 53) 74).toInt ≠ 0 := i_ne c1
    have hF := (if_neg c1).symm.trans hF
    refine lv_aload_n hx hb dX9_undo_13 rfl (lv_at hl 0 rfl) ?_
    refine g_get (v := .ref (ad 53)) E h 48 rfl rfl layX9 6 (by decide) rfl mw_825 rfl dX9_undo_14 ?_
    refine lv_bipush (v := 74) hx hb dX9_undo_17 (by decide) ?_
    refine lv_dup2_11 hx hb dX9_undo_19 rfl rfl ?_
    refine g_ialdk (f := (τ.2.1 53)) E h 53 rfl 74 rfl (ix_of (oI_lit (x := 74) (a := 74) rfl) (by omega) (by decide)) dX9_undo_20 ?_
    refine lv_iconst (v := 1) hx hb dX9_undo_21 (by decide) ?_
    refine lv_isub hx hb dX9_undo_22 ?_
    refine g_iastk (f := (τ.2.1 53)) (ws' := gws ad cI cZ σ (sa τ 53 (upd (τ.2.1 53) 74 (((τ.2.1 53) 74) - (1 : Int32))))) E h 53 rfl 74 rfl (ix_of (oI_lit (x := 74) (a := 74) rfl) (by omega) (by decide)) (ga_53 ad cI cZ σ τ (upd (τ.2.1 53) 74 (((τ.2.1 53) 74) - (1 : Int32)))) dX9_undo_23 (fun H locs h => ?_)
    refine lv_bipush (v := 75) hx hb dX9_undo_24 (by decide) ?_
    refine lv_bipush (v := 74) hx hb dX9_undo_26 (by decide) ?_
    refine lv_aload_n hx hb dX9_undo_28 rfl (lv_at hl 0 rfl) ?_
    refine g_get (v := .ref (ad 53)) E h 48 rfl rfl layX9 6 (by decide) rfl mw_825 rfl dX9_undo_29 ?_
    refine lv_bipush (v := 74) hx hb dX9_undo_32 (by decide) ?_
    refine g_ialdw (f := (upd (τ.2.1 53) 74 (((τ.2.1 53) 74) - (1 : Int32)))) (w := (((τ.2.1 53) 74) - (1 : Int32))) E h 53 rfl 74 rfl pk_us (ix_of (oI_lit (x := 74) (a := 74) rfl) (by omega) (by decide)) dX9_undo_34 ?_
    refine lv_imul hx hb dX9_undo_35 ?_
    refine lv_iadd hx hb dX9_undo_36 ?_
    refine lv_istore_n (lv' := [(1, .int ((75 : Int32) + ((74 : Int32) * (((τ.2.1 53) 74) - (1 : Int32))))), (0, .ref (ad 48))]) hx hb dX9_undo_37 rfl hl (by decide) rfl (fun ls hl => ?_)
    refine lv_iconst (v := 0) hx hb dX9_undo_38 (by decide) ?_
    refine lv_istore_n (lv' := [(2, .int (0 : Int32)), (1, .int ((75 : Int32) + ((74 : Int32) * (((τ.2.1 53) 74) - (1 : Int32))))), (0, .ref (ad 48))]) hx hb dX9_undo_39 rfl hl (by decide) rfl (fun ls hl => ?_)
    have L40 : ∀ (n40 : Nat) (x2_40 : Int32) (m40 : St) (H : Heap) (locs : List Loc) (ls : Array Slot), (0 ≤ x2_40.toInt ∧ x2_40.toInt ≤ 74 ∧ x2_40.toInt + n40 = 75) → F_X9_undo_L40  n40 τ x2_40 m40 = (F_X9_undo τ) → gH D z s (gws ad cI cZ σ m40) H locs → lv_has ls 3 [(2, .int x2_40), (1, .int ((75 : Int32) + ((74 : Int32) * (((τ.2.1 53) 74) - (1 : Int32))))), (0, .ref (ad 48))] → W p l e (rmH 1) s m ([.ref (ad 48)] : List Value).toArray below meth c H locs 0 0 Q (F0 m 40 ls []) := by
      clear hF h hl
      intro n40
      induction n40 with
      | zero =>
        intro x2_40 m40 H locs ls hI
        exact absurd hI (by omega)
      | succ n40 ih40 =>
        intro x2_40 m40 H locs ls hI40 hF h hl
        refine lv_iload_n hx hb dX9_undo_40 rfl (lv_at hl 0 rfl) ?_
        refine lv_bipush (v := 74) hx hb dX9_undo_41 (by decide) ?_
        refine lv_icmp_ge (tgt := 66) hx hb dX9_undo_43 (by decide) (fun c3 => ?_) (fun c3 => ?_)
        · have ic3 : 74 ≤ x2_40.toInt := i_le c3
          have hF := (if_pos c3).symm.trans hF
          refine lv_aload_n hx hb dX9_undo_66 rfl (lv_at hl 2 rfl) ?_
          refine g_get (v := .ref (ad 53)) E h 48 rfl rfl layX9 6 (by decide) rfl mw_825 rfl dX9_undo_67 ?_
          refine lv_bipush (v := 74) hx hb dX9_undo_70 (by decide) ?_
          refine g_ialdk (f := (m40.2.1 53)) E h 53 rfl 74 rfl (ix_of (oI_lit (x := 74) (a := 74) rfl) (by omega) (by decide)) dX9_undo_72 ?_
          exact g_iret E hr hlk h hQ (fst_of hF) (snd_of hF (fun u => gws ad cI cZ σ u)) dX9_undo_73
        · have ic3 : x2_40.toInt < 74 := i_nle c3
          have hF := (if_neg c3).symm.trans hF
          refine lv_aload_n hx hb dX9_undo_46 rfl (lv_at hl 2 rfl) ?_
          refine g_get (v := .ref (ad 53)) E h 48 rfl rfl layX9 6 (by decide) rfl mw_825 rfl dX9_undo_47 ?_
          refine lv_iload_n hx hb dX9_undo_50 rfl (lv_at hl 0 rfl) ?_
          refine lv_aload_n hx hb dX9_undo_51 rfl (lv_at hl 2 rfl) ?_
          refine g_get (v := .ref (ad 53)) E h 48 rfl rfl layX9 6 (by decide) rfl mw_825 rfl dX9_undo_52 ?_
          refine lv_iload_n hx hb dX9_undo_55 rfl (lv_at hl 1 rfl) ?_
          refine lv_iload_n hx hb dX9_undo_56 rfl (lv_at hl 0 rfl) ?_
          refine lv_iadd hx hb dX9_undo_57 ?_
          refine g_iald (f := (m40.2.1 53)) E h 53 rfl (ix_of (oI_add (oI_add (oI_lit (x := 75) (a := 75) rfl) (oI_mul (oI_lit (x := 74) (a := 74) rfl) (oI_sub (oI_at ((τ.2.1 53) 74)) (oI_lit (x := 1) (a := 1) rfl)))) (oI_at x2_40)) (by omega) (by decide)) dX9_undo_58 ?_
          refine g_iast (f := (m40.2.1 53)) (ws' := gws ad cI cZ σ (sa m40 53 (upd (m40.2.1 53) x2_40.toNatClampNeg ((m40.2.1 53) (((75 : Int32) + ((74 : Int32) * (((τ.2.1 53) 74) - (1 : Int32)))) + x2_40).toNatClampNeg)))) E h 53 rfl (ix_of (oI_at x2_40) (by omega) (by decide)) (ga_53 ad cI cZ σ m40 (upd (m40.2.1 53) x2_40.toNatClampNeg ((m40.2.1 53) (((75 : Int32) + ((74 : Int32) * (((τ.2.1 53) 74) - (1 : Int32)))) + x2_40).toNatClampNeg))) dX9_undo_59 (fun H locs h => ?_)
          refine lv_iinc (v := (x2_40 + (1 : Int32))) (lv' := [(2, .int (x2_40 + (1 : Int32))), (1, .int ((75 : Int32) + ((74 : Int32) * (((τ.2.1 53) 74) - (1 : Int32))))), (0, .ref (ad 48))]) hx hb dX9_undo_60 hl (k := 0) rfl rfl (by decide) rfl (fun ls hl => ?_)
          refine lv_goto (tgt := 40) hx hb dX9_undo_63 (by decide) ?_
          have e40_2 : (x2_40 + (1 : Int32)).toInt = _ := ti_of (oI_add (oI_at x2_40) (oI_lit (x := 1) (a := 1) rfl)) (by omega)
          exact ih40 (x2_40 + (1 : Int32)) (sa m40 53 (upd (m40.2.1 53) x2_40.toNatClampNeg ((m40.2.1 53) (((75 : Int32) + ((74 : Int32) * (((τ.2.1 53) 74) - (1 : Int32)))) + x2_40).toNatClampNeg))) _ _ ls ((show 0 ≤ (x2_40 + (1 : Int32)).toInt ∧ (x2_40 + (1 : Int32)).toInt ≤ 74 ∧ (x2_40 + (1 : Int32)).toInt + n40 = 75 from by omega)) hF h (lv_sub hl [0, 1, 2] rfl)
    have q40_2 : (0 : Int32).toInt = 0 := rfl
    exact L40 75 (0 : Int32) (sa τ 53 (upd (τ.2.1 53) 74 (((τ.2.1 53) 74) - (1 : Int32)))) _ _ ls ((show 0 ≤ (0 : Int32).toInt ∧ (0 : Int32).toInt ≤ 74 ∧ (0 : Int32).toInt + (75 : Nat) = 75 from by omega)) hF h (lv_sub hl [0, 1, 2] rfl)
  · have ic1 : ((τ.2.1 53) 74).toInt = 0 := i_eq c1
    have hF := (if_pos c1).symm.trans hF
    refine lv_bipush (v := (-2)) hx hb dX9_undo_10 (by decide) ?_
    exact g_iret E hr hlk h hQ (fst_of hF) (snd_of hF (fun u => gws ad cI cZ σ u)) dX9_undo_12

def F_X9_hears (τ : St) (a1 : Int32) (a2 : Int32) (a3 : Int32) (a4 : Int32) : Int32 × St := (if (F_X9_isCaravan τ a1) = 0 then (((-1) : Int32), τ) else (if (F_X9_isStage τ a2) = 0 then (((-1) : Int32), τ) else (if (F_X9_in a3 (0 : Int32) (9 : Int32)) = 0 then (((-1) : Int32), τ) else (if (F_X9_in a4 (0 : Int32) (9 : Int32)) = 0 then (((-1) : Int32), τ) else (if (τ.1 1546) = (6 : Int32) then (((-3) : Int32), τ) else (((τ.1 1546) + (1 : Int32)), (si (sa τ 56 (upd (τ.2.1 56) (τ.1 1546).toNatClampNeg ((((((100 : Int32) * a1) + (50 : Int32)) + ((τ.2.1 50) ((26 : Int32) + a2).toNatClampNeg)) - a3) - a4))) 1546 ((τ.1 1546) + (1 : Int32)))))))))
abbrev I_X9_hears : List Nat := [1546]
abbrev A_X9_hears : List Nat := [56]
theorem fr_F_X9_hears (τ : St) (a1 : Int32) (a2 : Int32) (a3 : Int32) (a4 : Int32) : Fr I_X9_hears A_X9_hears false τ (F_X9_hears τ a1 a2 a3 a4).2 := (fr_ite2 Fr.rf (fr_ite2 Fr.rf (fr_ite2 Fr.rf (fr_ite2 Fr.rf (fr_ite2 Fr.rf (Fr.si (by decide) (Fr.sa (by decide) Fr.rf)))))))
set_option maxHeartbeats 4000000 in
set_option maxRecDepth 20000 in
theorem c_X9_hears (l : Launch) (D : va_G) (cI cZ : ClassId) (z : Nat) (ad : Nat → Nat) (σ τ : St) (a1 a2 a3 a4 : Int32) (hs_ : 0 ≤ ((τ.2.1 50) 1).toInt ∧ ((τ.2.1 50) 1).toInt ≤ 8) (hc_ : 0 ≤ ((τ.2.1 50) 2).toInt ∧ ((τ.2.1 50) 2).toInt ≤ 4) (hn_ : 0 ≤ (τ.1 1546).toInt ∧ (τ.1 1546).toInt ≤ 6) : gM l yX9_hears cX9_hears 5 (some .int) 3 D cI cZ z (gws ad cI cZ σ τ) [.ref (ad 48), .int a1, .int a2, .int a3, .int a4] (some (.int (F_X9_hears τ a1 a2 a3 a4).1)) (gws ad cI cZ σ (F_X9_hears τ a1 a2 a3 a4).2) := by
  refine g_met (own := RX9) (by decide) rfl (Nat.le_of_ble_eq_true rfl) (fun p e s m below meth c ls Q E hr hlk h hl hQ => ?_)
  have hx := E.1
  have hb := E.2.1
  have hF : (F_X9_hears τ a1 a2 a3 a4) = (F_X9_hears τ a1 a2 a3 a4) := rfl
  have hl : lv_has ls 5 [(0, .ref (ad 48)), (1, .int a1), (2, .int a2), (3, .int a3), (4, .int a4)] := hl
  refine lv_aload_n hx hb dX9_hears_0 rfl (lv_at hl 0 rfl) ?_
  refine lv_iload_n hx hb dX9_hears_1 rfl (lv_at hl 1 rfl) ?_
  refine g_callVi (rest := []) E h (c_X9_isCaravan l D cI cZ z ad σ τ a1) mw_907 cbX9_isCaravan 48 rfl rfl ⟨by decide, by decide⟩ rfl rfl hl.1 (Nat.le_of_ble_eq_true rfl) ⟨Nat.zero_le _, Nat.zero_le _⟩ dX9_hears_2 (fun H locs h => ?_)
  refine lv_if_eq (tgt := 37) hx hb dX9_hears_5 (by decide) (fun c1 => ?_) (fun c1 => ?_)
  · have ic1 : (F_X9_isCaravan τ a1).toInt = 0 := i_eq c1
    have hF := (if_pos c1).symm.trans hF
    refine lv_iconst (v := (-1)) hx hb dX9_hears_37 (by decide) ?_
    exact g_iret E hr hlk h hQ (fst_of hF) (snd_of hF (fun u => gws ad cI cZ σ u)) dX9_hears_38
  · have ic1 : (F_X9_isCaravan τ a1).toInt ≠ 0 := i_ne c1
    have jc1 := (fun c => fz9_isCaravan c (by omega)) c1
    have hF := (if_neg c1).symm.trans hF
    refine lv_aload_n hx hb dX9_hears_8 rfl (lv_at hl 0 rfl) ?_
    refine lv_iload_n hx hb dX9_hears_9 rfl (lv_at hl 2 rfl) ?_
    refine g_callVi (rest := []) E h (c_X9_isStage l D cI cZ z ad σ τ a2) mw_899 cbX9_isStage 48 rfl rfl ⟨by decide, by decide⟩ rfl rfl hl.1 (Nat.le_of_ble_eq_true rfl) ⟨Nat.zero_le _, Nat.zero_le _⟩ dX9_hears_10 (fun H locs h => ?_)
    refine lv_if_eq (tgt := 37) hx hb dX9_hears_13 (by decide) (fun c2 => ?_) (fun c2 => ?_)
    · have ic2 : (F_X9_isStage τ a2).toInt = 0 := i_eq c2
      have hF := (if_pos c2).symm.trans hF
      refine lv_iconst (v := (-1)) hx hb dX9_hears_37 (by decide) ?_
      exact g_iret E hr hlk h hQ (fst_of hF) (snd_of hF (fun u => gws ad cI cZ σ u)) dX9_hears_38
    · have ic2 : (F_X9_isStage τ a2).toInt ≠ 0 := i_ne c2
      have jc2 := (fun c => fz9_isStage c (by omega)) c2
      have hF := (if_neg c2).symm.trans hF
      refine lv_iload_n hx hb dX9_hears_16 rfl (lv_at hl 3 rfl) ?_
      refine lv_iconst (v := 0) hx hb dX9_hears_17 (by decide) ?_
      refine lv_bipush (v := 9) hx hb dX9_hears_18 (by decide) ?_
      refine g_callSi (rest := []) E h (c_X9_in l D cI cZ z (gws ad cI cZ σ τ) a3 (0 : Int32) (9 : Int32)) mw_789 cbX9_in ⟨by decide, by decide⟩ rfl rfl hl.1 (Nat.le_of_ble_eq_true rfl) ⟨Nat.zero_le _, Nat.zero_le _⟩ dX9_hears_20 (fun H locs h => ?_)
      refine lv_if_eq (tgt := 37) hx hb dX9_hears_23 (by decide) (fun c3 => ?_) (fun c3 => ?_)
      · have ic3 : (F_X9_in a3 (0 : Int32) (9 : Int32)).toInt = 0 := i_eq c3
        have hF := (if_pos c3).symm.trans hF
        refine lv_iconst (v := (-1)) hx hb dX9_hears_37 (by decide) ?_
        exact g_iret E hr hlk h hQ (fst_of hF) (snd_of hF (fun u => gws ad cI cZ σ u)) dX9_hears_38
      · have ic3 : (F_X9_in a3 (0 : Int32) (9 : Int32)).toInt ≠ 0 := i_ne c3
        have jc3 : 0 ≤ a3.toInt ∧ a3.toInt ≤ 9 := fz_in c3
        have hF := (if_neg c3).symm.trans hF
        refine lv_iload hx hb dX9_hears_26 (lv_at hl 4 rfl) ?_
        refine lv_iconst (v := 0) hx hb dX9_hears_28 (by decide) ?_
        refine lv_bipush (v := 9) hx hb dX9_hears_29 (by decide) ?_
        refine g_callSi (rest := []) E h (c_X9_in l D cI cZ z (gws ad cI cZ σ τ) a4 (0 : Int32) (9 : Int32)) mw_789 cbX9_in ⟨by decide, by decide⟩ rfl rfl hl.1 (Nat.le_of_ble_eq_true rfl) ⟨Nat.zero_le _, Nat.zero_le _⟩ dX9_hears_31 (fun H locs h => ?_)
        refine lv_if_ne (tgt := 39) hx hb dX9_hears_34 (by decide) (fun c4 => ?_) (fun c4 => ?_)
        · have ic4 : (F_X9_in a4 (0 : Int32) (9 : Int32)).toInt ≠ 0 := i_ne c4
          have jc4 : 0 ≤ a4.toInt ∧ a4.toInt ≤ 9 := fz_in c4
          have hF := (if_neg c4).symm.trans hF
          refine lv_aload_n hx hb dX9_hears_39 rfl (lv_at hl 0 rfl) ?_
          refine g_get (v := .int (τ.1 1546)) E h 48 rfl rfl layX9 10 (by decide) rfl mw_829 rfl dX9_hears_40 ?_
          refine lv_bipush (v := 6) hx hb dX9_hears_43 (by decide) ?_
          refine lv_icmp_ne (tgt := 51) hx hb dX9_hears_45 (by decide) (fun c5 => ?_) (fun c5 => ?_)
          · have ic5 : (τ.1 1546).toInt ≠ 6 := i_ne c5
            have hF := (if_neg c5).symm.trans hF
            refine lv_aload_n hx hb dX9_hears_51 rfl (lv_at hl 0 rfl) ?_
            refine g_get (v := .ref (ad 56)) E h 48 rfl rfl layX9 9 (by decide) rfl mw_828 rfl dX9_hears_52 ?_
            refine lv_aload_n hx hb dX9_hears_55 rfl (lv_at hl 0 rfl) ?_
            refine g_get (v := .int (τ.1 1546)) E h 48 rfl rfl layX9 10 (by decide) rfl mw_829 rfl dX9_hears_56 ?_
            refine lv_bipush (v := 100) hx hb dX9_hears_59 (by decide) ?_
            refine lv_iload_n hx hb dX9_hears_61 rfl (lv_at hl 1 rfl) ?_
            refine lv_imul hx hb dX9_hears_62 ?_
            refine lv_bipush (v := 50) hx hb dX9_hears_63 (by decide) ?_
            refine lv_iadd hx hb dX9_hears_65 ?_
            refine lv_aload_n hx hb dX9_hears_66 rfl (lv_at hl 0 rfl) ?_
            refine g_get (v := .ref (ad 50)) E h 48 rfl rfl layX9 3 (by decide) rfl mw_822 rfl dX9_hears_67 ?_
            refine lv_bipush (v := 26) hx hb dX9_hears_70 (by decide) ?_
            refine lv_iload_n hx hb dX9_hears_72 rfl (lv_at hl 2 rfl) ?_
            refine lv_iadd hx hb dX9_hears_73 ?_
            refine g_iald (f := (τ.2.1 50)) E h 50 rfl (ix_of (oI_add (oI_lit (x := 26) (a := 26) rfl) (oI_at a2)) (by omega) (by decide)) dX9_hears_74 ?_
            refine lv_iadd hx hb dX9_hears_75 ?_
            refine lv_iload_n hx hb dX9_hears_76 rfl (lv_at hl 3 rfl) ?_
            refine lv_isub hx hb dX9_hears_77 ?_
            refine lv_iload hx hb dX9_hears_78 (lv_at hl 4 rfl) ?_
            refine lv_isub hx hb dX9_hears_80 ?_
            refine g_iast (f := (τ.2.1 56)) (ws' := gws ad cI cZ σ (sa τ 56 (upd (τ.2.1 56) (τ.1 1546).toNatClampNeg ((((((100 : Int32) * a1) + (50 : Int32)) + ((τ.2.1 50) ((26 : Int32) + a2).toNatClampNeg)) - a3) - a4)))) E h 56 rfl (ix_of (oI_at (τ.1 1546)) (by omega) (by decide)) (ga_56 ad cI cZ σ τ (upd (τ.2.1 56) (τ.1 1546).toNatClampNeg ((((((100 : Int32) * a1) + (50 : Int32)) + ((τ.2.1 50) ((26 : Int32) + a2).toNatClampNeg)) - a3) - a4))) dX9_hears_81 (fun H locs h => ?_)
            refine lv_aload_n hx hb dX9_hears_82 rfl (lv_at hl 0 rfl) ?_
            refine lv_dup hx hb dX9_hears_83 rfl ?_
            refine g_get (v := .int (τ.1 1546)) E h 48 rfl rfl layX9 10 (by decide) rfl mw_829 rfl dX9_hears_84 ?_
            refine lv_iconst (v := 1) hx hb dX9_hears_87 (by decide) ?_
            refine lv_iadd hx hb dX9_hears_88 ?_
            refine g_put (v := .int ((τ.1 1546) + (1 : Int32))) (ty := .int) (ws' := gws ad cI cZ σ (si (sa τ 56 (upd (τ.2.1 56) (τ.1 1546).toNatClampNeg ((((((100 : Int32) * a1) + (50 : Int32)) + ((τ.2.1 50) ((26 : Int32) + a2).toNatClampNeg)) - a3) - a4))) 1546 ((τ.1 1546) + (1 : Int32)))) E h 48 rfl rfl layX9 tyX9 tyX9_ok nmX9 10 (by decide) rfl mw_829 rfl rfl rfl rfl (Nat.le_of_ble_eq_true rfl) (gi_1546 ad cI cZ σ (sa τ 56 (upd (τ.2.1 56) (τ.1 1546).toNatClampNeg ((((((100 : Int32) * a1) + (50 : Int32)) + ((τ.2.1 50) ((26 : Int32) + a2).toNatClampNeg)) - a3) - a4))) ((τ.1 1546) + (1 : Int32))) dX9_hears_89 (fun H locs h => ?_)
            refine lv_aload_n hx hb dX9_hears_92 rfl (lv_at hl 0 rfl) ?_
            refine g_get (v := .int ((τ.1 1546) + (1 : Int32))) E h 48 rfl rfl layX9 10 (by decide) rfl mw_829 rfl dX9_hears_93 ?_
            exact g_iret E hr hlk h hQ (fst_of hF) (snd_of hF (fun u => gws ad cI cZ σ u)) dX9_hears_96
          · have ic5 : (τ.1 1546).toInt = 6 := i_eq c5
            have hF := (if_pos c5).symm.trans hF
            refine lv_bipush (v := (-3)) hx hb dX9_hears_48 (by decide) ?_
            exact g_iret E hr hlk h hQ (fst_of hF) (snd_of hF (fun u => gws ad cI cZ σ u)) dX9_hears_50
        · have ic4 : (F_X9_in a4 (0 : Int32) (9 : Int32)).toInt = 0 := i_eq c4
          have hF := (if_pos c4).symm.trans hF
          refine lv_iconst (v := (-1)) hx hb dX9_hears_37 (by decide) ?_
          exact g_iret E hr hlk h hQ (fst_of hF) (snd_of hF (fun u => gws ad cI cZ σ u)) dX9_hears_38

def F_X9_forget (τ : St) : Int32 × St := ((τ.1 1546), (si τ 1546 (0 : Int32)))
abbrev I_X9_forget : List Nat := [1546]
abbrev A_X9_forget : List Nat := []
theorem fr_F_X9_forget (τ : St) : Fr I_X9_forget A_X9_forget false τ (F_X9_forget τ).2 := (Fr.si (by decide) Fr.rf)
set_option maxHeartbeats 4000000 in
set_option maxRecDepth 20000 in
theorem c_X9_forget (l : Launch) (D : va_G) (cI cZ : ClassId) (z : Nat) (ad : Nat → Nat) (σ τ : St) : gM l yX9_forget cX9_forget 2 (some .int) 1 D cI cZ z (gws ad cI cZ σ τ) [.ref (ad 48)] (some (.int (F_X9_forget τ).1)) (gws ad cI cZ σ (F_X9_forget τ).2) := by
  refine g_met (own := RX9) (by decide) rfl (Nat.le_of_ble_eq_true rfl) (fun p e s m below meth c ls Q E hr hlk h hl hQ => ?_)
  have hx := E.1
  have hb := E.2.1
  have hF : (F_X9_forget τ) = (F_X9_forget τ) := rfl
  have hl : lv_has ls 2 [(0, .ref (ad 48))] := hl
  refine lv_aload_n hx hb dX9_forget_0 rfl (lv_at hl 0 rfl) ?_
  refine g_get (v := .int (τ.1 1546)) E h 48 rfl rfl layX9 10 (by decide) rfl mw_829 rfl dX9_forget_1 ?_
  refine lv_istore_n (lv' := [(1, .int (τ.1 1546)), (0, .ref (ad 48))]) hx hb dX9_forget_4 rfl hl (by decide) rfl (fun ls hl => ?_)
  refine lv_aload_n hx hb dX9_forget_5 rfl (lv_at hl 1 rfl) ?_
  refine lv_iconst (v := 0) hx hb dX9_forget_6 (by decide) ?_
  refine g_put (v := .int (0 : Int32)) (ty := .int) (ws' := gws ad cI cZ σ (si τ 1546 (0 : Int32))) E h 48 rfl rfl layX9 tyX9 tyX9_ok nmX9 10 (by decide) rfl mw_829 rfl rfl rfl rfl (Nat.le_of_ble_eq_true rfl) (gi_1546 ad cI cZ σ τ (0 : Int32)) dX9_forget_7 (fun H locs h => ?_)
  refine lv_iload_n hx hb dX9_forget_10 rfl (lv_at hl 0 rfl) ?_
  exact g_iret E hr hlk h hQ (fst_of hF) (snd_of hF (fun u => gws ad cI cZ σ u)) dX9_forget_11

def F_X9_stones_L15 : Nat → St → Int32 → Int32 → Int32 → Int32
  | 0, _, _, _, _ => 0
  | n + 1, τ, a1, x3_15, x2_15 => (if (τ.1 1546) ≤ x3_15 then x2_15 else (F_X9_stones_L15  n τ a1 (x3_15 + (1 : Int32)) (x2_15 ||| (if (if a1 = 0 then (F_X9_in ((((τ.2.1 56) x3_15.toNatClampNeg) - ((τ.2.1 56) x3_15.toNatClampNeg) / (100 : Int32) * (100 : Int32)) - (50 : Int32)) (1 : Int32) (3 : Int32)) else (if (F_X9_in ((((τ.2.1 56) x3_15.toNatClampNeg) - ((τ.2.1 56) x3_15.toNatClampNeg) / (100 : Int32) * (100 : Int32)) - (50 : Int32)) (0 : Int32) (3 : Int32)) = 0 then (1 : Int32) else (0 : Int32))) = 0 then (0 : Int32) else ((1 : Int32) <<< ((((τ.2.1 56) x3_15.toNatClampNeg) / (100 : Int32)) &&& 31))))))
def F_X9_stones (τ : St) (a1 : Int32) : Int32 := (if (F_X9_in a1 (0 : Int32) (1 : Int32)) = 0 then ((-1) : Int32) else (F_X9_stones_L15  7 τ a1 (0 : Int32) (0 : Int32)))
set_option maxHeartbeats 4000000 in
set_option maxRecDepth 20000 in
theorem c_X9_stones (l : Launch) (D : va_G) (cI cZ : ClassId) (z : Nat) (ad : Nat → Nat) (σ τ : St) (a1 : Int32) (hn_ : 0 ≤ (τ.1 1546).toInt ∧ (τ.1 1546).toInt ≤ 6) : gM l yX9_stones cX9_stones 6 (some .int) 2 D cI cZ z (gws ad cI cZ σ τ) [.ref (ad 48), .int a1] (some (.int (F_X9_stones τ a1))) (gws ad cI cZ σ τ) := by
  refine g_met (own := RX9) (by decide) rfl (Nat.le_of_ble_eq_true rfl) (fun p e s m below meth c ls Q E hr hlk h hl hQ => ?_)
  have hx := E.1
  have hb := E.2.1
  have hF : (F_X9_stones τ a1) = (F_X9_stones τ a1) := rfl
  have hl : lv_has ls 6 [(0, .ref (ad 48)), (1, .int a1)] := hl
  refine lv_iload_n hx hb dX9_stones_0 rfl (lv_at hl 1 rfl) ?_
  refine lv_iconst (v := 0) hx hb dX9_stones_1 (by decide) ?_
  refine lv_iconst (v := 1) hx hb dX9_stones_2 (by decide) ?_
  refine g_callSi (rest := []) E h (c_X9_in l D cI cZ z (gws ad cI cZ σ τ) a1 (0 : Int32) (1 : Int32)) mw_789 cbX9_in ⟨by decide, by decide⟩ rfl rfl hl.1 (Nat.le_of_ble_eq_true rfl) ⟨Nat.zero_le _, Nat.zero_le _⟩ dX9_stones_3 (fun H locs h => ?_)
  refine lv_if_ne (tgt := 11) hx hb dX9_stones_6 (by decide) (fun c1 => ?_) (fun c1 => ?_)
  · have ic1 : (F_X9_in a1 (0 : Int32) (1 : Int32)).toInt ≠ 0 := i_ne c1
    have jc1 : 0 ≤ a1.toInt ∧ a1.toInt ≤ 1 := fz_in c1
    have hF := (if_neg c1).symm.trans hF
    refine lv_iconst (v := 0) hx hb dX9_stones_11 (by decide) ?_
    refine lv_istore_n (lv' := [(2, .int (0 : Int32)), (0, .ref (ad 48)), (1, .int a1)]) hx hb dX9_stones_12 rfl hl (by decide) rfl (fun ls hl => ?_)
    refine lv_iconst (v := 0) hx hb dX9_stones_13 (by decide) ?_
    refine lv_istore_n (lv' := [(3, .int (0 : Int32)), (2, .int (0 : Int32)), (0, .ref (ad 48)), (1, .int a1)]) hx hb dX9_stones_14 rfl hl (by decide) rfl (fun ls hl => ?_)
    have L15 : ∀ (n15 : Nat) (x3_15 : Int32) (x2_15 : Int32) (H : Heap) (locs : List Loc) (ls : Array Slot), (0 ≤ x3_15.toInt ∧ x3_15.toInt ≤ 6 ∧ x3_15.toInt + n15 = 7) → F_X9_stones_L15  n15 τ a1 x3_15 x2_15 = (F_X9_stones τ a1) → gH D z s (gws ad cI cZ σ τ) H locs → lv_has ls 6 [(3, .int x3_15), (2, .int x2_15), (0, .ref (ad 48)), (1, .int a1)] → W p l e (rmH 2) s m ([.ref (ad 48), .int a1] : List Value).toArray below meth c H locs 0 0 Q (F0 m 15 ls []) := by
      clear hF h hl
      intro n15
      induction n15 with
      | zero =>
        intro x3_15 x2_15 H locs ls hI
        exact absurd hI (by omega)
      | succ n15 ih15 =>
        intro x3_15 x2_15 H locs ls hI15 hF h hl
        refine lv_iload_n hx hb dX9_stones_15 rfl (lv_at hl 0 rfl) ?_
        refine lv_aload_n hx hb dX9_stones_16 rfl (lv_at hl 2 rfl) ?_
        refine g_get (v := .int (τ.1 1546)) E h 48 rfl rfl layX9 10 (by decide) rfl mw_829 rfl dX9_stones_17 ?_
        refine lv_icmp_ge (tgt := 97) hx hb dX9_stones_20 (by decide) (fun c3 => ?_) (fun c3 => ?_)
        · have ic3 : (τ.1 1546).toInt ≤ x3_15.toInt := i_le c3
          have hF := (if_pos c3).symm.trans hF
          refine lv_iload_n hx hb dX9_stones_97 rfl (lv_at hl 1 rfl) ?_
          exact g_iret E hr hlk h hQ hF rfl dX9_stones_98
        · have ic3 : x3_15.toInt < (τ.1 1546).toInt := i_nle c3
          have hF := (if_neg c3).symm.trans hF
          refine lv_aload_n hx hb dX9_stones_23 rfl (lv_at hl 2 rfl) ?_
          refine g_get (v := .ref (ad 56)) E h 48 rfl rfl layX9 9 (by decide) rfl mw_828 rfl dX9_stones_24 ?_
          refine lv_iload_n hx hb dX9_stones_27 rfl (lv_at hl 0 rfl) ?_
          refine g_iald (f := (τ.2.1 56)) E h 56 rfl (ix_of (oI_at x3_15) (by omega) (by decide)) dX9_stones_28 ?_
          refine lv_bipush (v := 100) hx hb dX9_stones_29 (by decide) ?_
          refine lv_irem hx hb dX9_stones_31 (by decide) ?_
          refine lv_bipush (v := 50) hx hb dX9_stones_32 (by decide) ?_
          refine lv_isub hx hb dX9_stones_34 ?_
          refine lv_istore (lv' := [(4, .int ((((τ.2.1 56) x3_15.toNatClampNeg) - ((τ.2.1 56) x3_15.toNatClampNeg) / (100 : Int32) * (100 : Int32)) - (50 : Int32))), (3, .int x3_15), (2, .int x2_15), (0, .ref (ad 48)), (1, .int a1)]) hx hb dX9_stones_35 hl (by decide) rfl (fun ls hl => ?_)
          refine lv_iload_n hx hb dX9_stones_37 rfl (lv_at hl 4 rfl) ?_
          refine g_dia (D := D) (z := z) (ws := gws ad cI cZ σ τ) (rest := []) 66 (if a1 = 0 then (F_X9_in ((((τ.2.1 56) x3_15.toNatClampNeg) - ((τ.2.1 56) x3_15.toNatClampNeg) / (100 : Int32) * (100 : Int32)) - (50 : Int32)) (1 : Int32) (3 : Int32)) else (if (F_X9_in ((((τ.2.1 56) x3_15.toNatClampNeg) - ((τ.2.1 56) x3_15.toNatClampNeg) / (100 : Int32) * (100 : Int32)) - (50 : Int32)) (0 : Int32) (3 : Int32)) = 0 then (1 : Int32) else (0 : Int32))) (fun H locs h => ?_) (fun K6 => ?_)
          · refine lv_istore (lv' := [(5, .int (if a1 = 0 then (F_X9_in ((((τ.2.1 56) x3_15.toNatClampNeg) - ((τ.2.1 56) x3_15.toNatClampNeg) / (100 : Int32) * (100 : Int32)) - (50 : Int32)) (1 : Int32) (3 : Int32)) else (if (F_X9_in ((((τ.2.1 56) x3_15.toNatClampNeg) - ((τ.2.1 56) x3_15.toNatClampNeg) / (100 : Int32) * (100 : Int32)) - (50 : Int32)) (0 : Int32) (3 : Int32)) = 0 then (1 : Int32) else (0 : Int32)))), (4, .int ((((τ.2.1 56) x3_15.toNatClampNeg) - ((τ.2.1 56) x3_15.toNatClampNeg) / (100 : Int32) * (100 : Int32)) - (50 : Int32))), (3, .int x3_15), (2, .int x2_15), (0, .ref (ad 48)), (1, .int a1)]) hx hb dX9_stones_66 hl (by decide) rfl (fun ls hl => ?_)
            refine lv_iload_n hx hb dX9_stones_68 rfl (lv_at hl 3 rfl) ?_
            refine lv_iload hx hb dX9_stones_69 (lv_at hl 0 rfl) ?_
            refine g_dia (D := D) (z := z) (ws := gws ad cI cZ σ τ) (rest := [.int x2_15]) 89 (if (if a1 = 0 then (F_X9_in ((((τ.2.1 56) x3_15.toNatClampNeg) - ((τ.2.1 56) x3_15.toNatClampNeg) / (100 : Int32) * (100 : Int32)) - (50 : Int32)) (1 : Int32) (3 : Int32)) else (if (F_X9_in ((((τ.2.1 56) x3_15.toNatClampNeg) - ((τ.2.1 56) x3_15.toNatClampNeg) / (100 : Int32) * (100 : Int32)) - (50 : Int32)) (0 : Int32) (3 : Int32)) = 0 then (1 : Int32) else (0 : Int32))) = 0 then (0 : Int32) else ((1 : Int32) <<< ((((τ.2.1 56) x3_15.toNatClampNeg) / (100 : Int32)) &&& 31))) (fun H locs h => ?_) (fun K10 => ?_)
            · refine lv_ior hx hb dX9_stones_89 ?_
              refine lv_istore_n (lv' := [(2, .int (x2_15 ||| (if (if a1 = 0 then (F_X9_in ((((τ.2.1 56) x3_15.toNatClampNeg) - ((τ.2.1 56) x3_15.toNatClampNeg) / (100 : Int32) * (100 : Int32)) - (50 : Int32)) (1 : Int32) (3 : Int32)) else (if (F_X9_in ((((τ.2.1 56) x3_15.toNatClampNeg) - ((τ.2.1 56) x3_15.toNatClampNeg) / (100 : Int32) * (100 : Int32)) - (50 : Int32)) (0 : Int32) (3 : Int32)) = 0 then (1 : Int32) else (0 : Int32))) = 0 then (0 : Int32) else ((1 : Int32) <<< ((((τ.2.1 56) x3_15.toNatClampNeg) / (100 : Int32)) &&& 31))))), (5, .int (if a1 = 0 then (F_X9_in ((((τ.2.1 56) x3_15.toNatClampNeg) - ((τ.2.1 56) x3_15.toNatClampNeg) / (100 : Int32) * (100 : Int32)) - (50 : Int32)) (1 : Int32) (3 : Int32)) else (if (F_X9_in ((((τ.2.1 56) x3_15.toNatClampNeg) - ((τ.2.1 56) x3_15.toNatClampNeg) / (100 : Int32) * (100 : Int32)) - (50 : Int32)) (0 : Int32) (3 : Int32)) = 0 then (1 : Int32) else (0 : Int32)))), (4, .int ((((τ.2.1 56) x3_15.toNatClampNeg) - ((τ.2.1 56) x3_15.toNatClampNeg) / (100 : Int32) * (100 : Int32)) - (50 : Int32))), (3, .int x3_15), (0, .ref (ad 48)), (1, .int a1)]) hx hb dX9_stones_90 rfl hl (by decide) rfl (fun ls hl => ?_)
              refine lv_iinc (v := (x3_15 + (1 : Int32))) (lv' := [(3, .int (x3_15 + (1 : Int32))), (2, .int (x2_15 ||| (if (if a1 = 0 then (F_X9_in ((((τ.2.1 56) x3_15.toNatClampNeg) - ((τ.2.1 56) x3_15.toNatClampNeg) / (100 : Int32) * (100 : Int32)) - (50 : Int32)) (1 : Int32) (3 : Int32)) else (if (F_X9_in ((((τ.2.1 56) x3_15.toNatClampNeg) - ((τ.2.1 56) x3_15.toNatClampNeg) / (100 : Int32) * (100 : Int32)) - (50 : Int32)) (0 : Int32) (3 : Int32)) = 0 then (1 : Int32) else (0 : Int32))) = 0 then (0 : Int32) else ((1 : Int32) <<< ((((τ.2.1 56) x3_15.toNatClampNeg) / (100 : Int32)) &&& 31))))), (5, .int (if a1 = 0 then (F_X9_in ((((τ.2.1 56) x3_15.toNatClampNeg) - ((τ.2.1 56) x3_15.toNatClampNeg) / (100 : Int32) * (100 : Int32)) - (50 : Int32)) (1 : Int32) (3 : Int32)) else (if (F_X9_in ((((τ.2.1 56) x3_15.toNatClampNeg) - ((τ.2.1 56) x3_15.toNatClampNeg) / (100 : Int32) * (100 : Int32)) - (50 : Int32)) (0 : Int32) (3 : Int32)) = 0 then (1 : Int32) else (0 : Int32)))), (4, .int ((((τ.2.1 56) x3_15.toNatClampNeg) - ((τ.2.1 56) x3_15.toNatClampNeg) / (100 : Int32) * (100 : Int32)) - (50 : Int32))), (0, .ref (ad 48)), (1, .int a1)]) hx hb dX9_stones_91 hl (k := 3) rfl rfl (by decide) rfl (fun ls hl => ?_)
              refine lv_goto (tgt := 15) hx hb dX9_stones_94 (by decide) ?_
              have e15_3 : (x3_15 + (1 : Int32)).toInt = _ := ti_of (oI_add (oI_at x3_15) (oI_lit (x := 1) (a := 1) rfl)) (by omega)
              exact ih15 (x3_15 + (1 : Int32)) (x2_15 ||| (if (if a1 = 0 then (F_X9_in ((((τ.2.1 56) x3_15.toNatClampNeg) - ((τ.2.1 56) x3_15.toNatClampNeg) / (100 : Int32) * (100 : Int32)) - (50 : Int32)) (1 : Int32) (3 : Int32)) else (if (F_X9_in ((((τ.2.1 56) x3_15.toNatClampNeg) - ((τ.2.1 56) x3_15.toNatClampNeg) / (100 : Int32) * (100 : Int32)) - (50 : Int32)) (0 : Int32) (3 : Int32)) = 0 then (1 : Int32) else (0 : Int32))) = 0 then (0 : Int32) else ((1 : Int32) <<< ((((τ.2.1 56) x3_15.toNatClampNeg) / (100 : Int32)) &&& 31)))) _ _ ls ((show 0 ≤ (x3_15 + (1 : Int32)).toInt ∧ (x3_15 + (1 : Int32)).toInt ≤ 6 ∧ (x3_15 + (1 : Int32)).toInt + n15 = 7 from by omega)) hF h (lv_sub hl [0, 1, 4, 5] rfl)
            · refine lv_if_eq (tgt := 88) hx hb dX9_stones_71 (by decide) (fun c11 => ?_) (fun c11 => ?_)
              · have ic11 : (if a1 = 0 then (F_X9_in ((((τ.2.1 56) x3_15.toNatClampNeg) - ((τ.2.1 56) x3_15.toNatClampNeg) / (100 : Int32) * (100 : Int32)) - (50 : Int32)) (1 : Int32) (3 : Int32)) else (if (F_X9_in ((((τ.2.1 56) x3_15.toNatClampNeg) - ((τ.2.1 56) x3_15.toNatClampNeg) / (100 : Int32) * (100 : Int32)) - (50 : Int32)) (0 : Int32) (3 : Int32)) = 0 then (1 : Int32) else (0 : Int32))).toInt = 0 := i_eq c11
                refine lv_iconst (v := 0) hx hb dX9_stones_88 (by decide) ?_
                exact K10 _ _ _ ((if_pos c11).symm) h
              · have ic11 : (if a1 = 0 then (F_X9_in ((((τ.2.1 56) x3_15.toNatClampNeg) - ((τ.2.1 56) x3_15.toNatClampNeg) / (100 : Int32) * (100 : Int32)) - (50 : Int32)) (1 : Int32) (3 : Int32)) else (if (F_X9_in ((((τ.2.1 56) x3_15.toNatClampNeg) - ((τ.2.1 56) x3_15.toNatClampNeg) / (100 : Int32) * (100 : Int32)) - (50 : Int32)) (0 : Int32) (3 : Int32)) = 0 then (1 : Int32) else (0 : Int32))).toInt ≠ 0 := i_ne c11
                refine lv_iconst (v := 1) hx hb dX9_stones_74 (by decide) ?_
                refine lv_aload_n hx hb dX9_stones_75 rfl (lv_at hl 4 rfl) ?_
                refine g_get (v := .ref (ad 56)) E h 48 rfl rfl layX9 9 (by decide) rfl mw_828 rfl dX9_stones_76 ?_
                refine lv_iload_n hx hb dX9_stones_79 rfl (lv_at hl 2 rfl) ?_
                refine g_iald (f := (τ.2.1 56)) E h 56 rfl (ix_of (oI_at x3_15) (by omega) (by decide)) dX9_stones_80 ?_
                refine lv_bipush (v := 100) hx hb dX9_stones_81 (by decide) ?_
                refine lv_idiv hx hb dX9_stones_83 (by decide) ?_
                refine lv_ishl hx hb dX9_stones_84 ?_
                refine lv_goto (tgt := 89) hx hb dX9_stones_85 (by decide) ?_
                exact K10 _ _ _ ((if_neg c11).symm) h
          · refine lv_if_ne (tgt := 51) hx hb dX9_stones_38 (by decide) (fun c7 => ?_) (fun c7 => ?_)
            · have ic7 : a1.toInt ≠ 0 := i_ne c7
              refine lv_iload hx hb dX9_stones_51 (lv_at hl 0 rfl) ?_
              refine lv_iconst (v := 0) hx hb dX9_stones_53 (by decide) ?_
              refine lv_iconst (v := 3) hx hb dX9_stones_54 (by decide) ?_
              refine g_callSi (rest := []) E h (c_X9_in l D cI cZ z (gws ad cI cZ σ τ) ((((τ.2.1 56) x3_15.toNatClampNeg) - ((τ.2.1 56) x3_15.toNatClampNeg) / (100 : Int32) * (100 : Int32)) - (50 : Int32)) (0 : Int32) (3 : Int32)) mw_789 cbX9_in ⟨by decide, by decide⟩ rfl rfl hl.1 (Nat.le_of_ble_eq_true rfl) ⟨Nat.zero_le _, Nat.zero_le _⟩ dX9_stones_55 (fun H locs h => ?_)
              refine lv_if_ne (tgt := 65) hx hb dX9_stones_58 (by decide) (fun c8 => ?_) (fun c8 => ?_)
              · have ic8 : (F_X9_in ((((τ.2.1 56) x3_15.toNatClampNeg) - ((τ.2.1 56) x3_15.toNatClampNeg) / (100 : Int32) * (100 : Int32)) - (50 : Int32)) (0 : Int32) (3 : Int32)).toInt ≠ 0 := i_ne c8
                have jc8 : 0 ≤ ((((τ.2.1 56) x3_15.toNatClampNeg) - ((τ.2.1 56) x3_15.toNatClampNeg) / (100 : Int32) * (100 : Int32)) - (50 : Int32)).toInt ∧ ((((τ.2.1 56) x3_15.toNatClampNeg) - ((τ.2.1 56) x3_15.toNatClampNeg) / (100 : Int32) * (100 : Int32)) - (50 : Int32)).toInt ≤ 3 := fz_in c8
                refine lv_iconst (v := 0) hx hb dX9_stones_65 (by decide) ?_
                exact K6 _ _ _ (((if_neg c7).trans (if_neg c8)).symm) h
              · have ic8 : (F_X9_in ((((τ.2.1 56) x3_15.toNatClampNeg) - ((τ.2.1 56) x3_15.toNatClampNeg) / (100 : Int32) * (100 : Int32)) - (50 : Int32)) (0 : Int32) (3 : Int32)).toInt = 0 := i_eq c8
                refine lv_iconst (v := 1) hx hb dX9_stones_61 (by decide) ?_
                refine lv_goto (tgt := 66) hx hb dX9_stones_62 (by decide) ?_
                exact K6 _ _ _ (((if_neg c7).trans (if_pos c8)).symm) h
            · have ic7 : a1.toInt = 0 := i_eq c7
              refine lv_iload hx hb dX9_stones_41 (lv_at hl 0 rfl) ?_
              refine lv_iconst (v := 1) hx hb dX9_stones_43 (by decide) ?_
              refine lv_iconst (v := 3) hx hb dX9_stones_44 (by decide) ?_
              refine g_callSi (rest := []) E h (c_X9_in l D cI cZ z (gws ad cI cZ σ τ) ((((τ.2.1 56) x3_15.toNatClampNeg) - ((τ.2.1 56) x3_15.toNatClampNeg) / (100 : Int32) * (100 : Int32)) - (50 : Int32)) (1 : Int32) (3 : Int32)) mw_789 cbX9_in ⟨by decide, by decide⟩ rfl rfl hl.1 (Nat.le_of_ble_eq_true rfl) ⟨Nat.zero_le _, Nat.zero_le _⟩ dX9_stones_45 (fun H locs h => ?_)
              refine lv_goto (tgt := 66) hx hb dX9_stones_48 (by decide) ?_
              exact K6 _ _ _ ((if_pos c7).symm) h
    have q15_3 : (0 : Int32).toInt = 0 := rfl
    exact L15 7 (0 : Int32) (0 : Int32) _ _ ls ((show 0 ≤ (0 : Int32).toInt ∧ (0 : Int32).toInt ≤ 6 ∧ (0 : Int32).toInt + (7 : Nat) = 7 from by omega)) hF h (lv_sub hl [0, 1, 2, 3] rfl)
  · have ic1 : (F_X9_in a1 (0 : Int32) (1 : Int32)).toInt = 0 := i_eq c1
    have hF := (if_pos c1).symm.trans hF
    refine lv_iconst (v := (-1)) hx hb dX9_stones_9 (by decide) ?_
    exact g_iret E hr hlk h hQ hF rfl dX9_stones_10

def F_X9_mark_k140_19 (lf96 : Int32 → Int32 → (Int32 × St)) (τ : St) (a1 : Int32) (a2 : Int32) (v14 : Int32) (x5_96 : Int32) (x4_96 : Int32) (v18 : Int32) : Int32 × St := (if a1 = 0 then (v14, (sl τ (τ.2.2 + (if a1 = 0 then (1 : Int64) else (if a1 = (1 : Int32) then (11 : Int64) else (if a1 = (2 : Int32) then (101 : Int64) else (if a1 = (3 : Int32) then (1011 : Int64) else (if a1 = (4 : Int32) then (10101 : Int64) else (100001 : Int64))))))))) else (if a1 = (1 : Int32) then (x4_96, (sl τ (τ.2.2 + (if a1 = 0 then (1 : Int64) else (if a1 = (1 : Int32) then (11 : Int64) else (if a1 = (2 : Int32) then (101 : Int64) else (if a1 = (3 : Int32) then (1011 : Int64) else (if a1 = (4 : Int32) then (10101 : Int64) else (100001 : Int64))))))))) else (if a1 = (2 : Int32) then ((v14 - v18), (sl τ (τ.2.2 + (if a1 = 0 then (1 : Int64) else (if a1 = (1 : Int32) then (11 : Int64) else (if a1 = (2 : Int32) then (101 : Int64) else (if a1 = (3 : Int32) then (1011 : Int64) else (if a1 = (4 : Int32) then (10101 : Int64) else (100001 : Int64))))))))) else (if a1 = (3 : Int32) then (((2 : Int32) * x4_96), (sl τ (τ.2.2 + (if a1 = 0 then (1 : Int64) else (if a1 = (1 : Int32) then (11 : Int64) else (if a1 = (2 : Int32) then (101 : Int64) else (if a1 = (3 : Int32) then (1011 : Int64) else (if a1 = (4 : Int32) then (10101 : Int64) else (100001 : Int64))))))))) else (if a1 = (4 : Int32) then (((v14 - v18) + a2), (sl τ (τ.2.2 + (if a1 = 0 then (1 : Int64) else (if a1 = (1 : Int32) then (11 : Int64) else (if a1 = (2 : Int32) then (101 : Int64) else (if a1 = (3 : Int32) then (1011 : Int64) else (if a1 = (4 : Int32) then (10101 : Int64) else (100001 : Int64))))))))) else ((v14 + ((τ.2.1 53) 13)), (sl τ (τ.2.2 + (if a1 = 0 then (1 : Int64) else (if a1 = (1 : Int32) then (11 : Int64) else (if a1 = (2 : Int32) then (101 : Int64) else (if a1 = (3 : Int32) then (1011 : Int64) else (if a1 = (4 : Int32) then (10101 : Int64) else (100001 : Int64))))))))))))))
def F_X9_mark_L96 : Nat → St → Int32 → Int32 → Int32 → Int32 → Int32 → Int32 × St
  | 0, τ, _, _, _, _, _ => (0, τ)
  | n + 1, τ, a1, a2, v14, x5_96, x4_96 => (if ((τ.2.1 50) 1) ≤ x5_96 then (F_X9_mark_k140_19 (fun y1 y2 => F_X9_mark_L96  n τ a1 a2 v14 y1 y2) τ a1 a2 v14 x5_96 x4_96 (F_X9_duesOf (sl τ (τ.2.2 + (if a1 = 0 then (1 : Int64) else (if a1 = (1 : Int32) then (11 : Int64) else (if a1 = (2 : Int32) then (101 : Int64) else (if a1 = (3 : Int32) then (1011 : Int64) else (if a1 = (4 : Int32) then (10101 : Int64) else (100001 : Int64)))))))) a2)) else (F_X9_mark_L96  n τ a1 a2 v14 (x5_96 + (1 : Int32)) (x4_96 + (if ((τ.2.1 50) ((42 : Int32) + x5_96).toNatClampNeg) = a2 then (1 : Int32) else (0 : Int32)))))
def F_X9_mark_k86_15 (τ : St) (a1 : Int32) (a2 : Int32) (v14 : Int32) : Int32 × St := (F_X9_mark_L96  9 τ a1 a2 v14 (0 : Int32) v14)
def F_X9_mark (τ : St) (a1 : Int32) (a2 : Int32) : Int32 × St := (if (F_X9_in a1 (0 : Int32) (5 : Int32)) = 0 then (((-1000000) : Int32), τ) else (if (F_X9_isWell τ a2) = 0 then (((-1000000) : Int32), τ) else (F_X9_mark_k86_15 τ a1 a2 (F_X9_knotsAt (sl τ (τ.2.2 + (if a1 = 0 then (1 : Int64) else (if a1 = (1 : Int32) then (11 : Int64) else (if a1 = (2 : Int32) then (101 : Int64) else (if a1 = (3 : Int32) then (1011 : Int64) else (if a1 = (4 : Int32) then (10101 : Int64) else (100001 : Int64)))))))) a2))))
abbrev I_X9_mark : List Nat := []
abbrev A_X9_mark : List Nat := []
theorem fr_F_X9_mark_k140_19 (lf96 : Int32 → Int32 → (Int32 × St)) (τ : St) (a1 : Int32) (a2 : Int32) (v14 : Int32) (x5_96 : Int32) (x4_96 : Int32) (v18 : Int32) (hlf96 : ∀ (y1 : Int32) (y2 : Int32), Fr I_X9_mark A_X9_mark true τ (lf96 y1 y2).2) : Fr I_X9_mark A_X9_mark true τ (F_X9_mark_k140_19 lf96 τ a1 a2 v14 x5_96 x4_96 v18).2 := (fr_ite2 (Fr.sl rfl Fr.rf) (fr_ite2 (Fr.sl rfl Fr.rf) (fr_ite2 (Fr.sl rfl Fr.rf) (fr_ite2 (Fr.sl rfl Fr.rf) (fr_ite2 (Fr.sl rfl Fr.rf) (Fr.sl rfl Fr.rf))))))
theorem fr_F_X9_mark_L96_w (τ : St) (a1 : Int32) (a2 : Int32) (v14 : Int32) : ∀ (n : Nat) (x5_96 : Int32) (x4_96 : Int32), Fr I_X9_mark A_X9_mark true τ (F_X9_mark_L96  n τ a1 a2 v14 x5_96 x4_96).2
  | 0, x5_96, x4_96 => Fr.rf
  | n + 1, x5_96, x4_96 => (fr_ite2 (fr_F_X9_mark_k140_19 (fun y1 y2 => F_X9_mark_L96  n τ a1 a2 v14 y1 y2) τ a1 a2 v14 x5_96 x4_96 (F_X9_duesOf (sl τ (τ.2.2 + (if a1 = 0 then (1 : Int64) else (if a1 = (1 : Int32) then (11 : Int64) else (if a1 = (2 : Int32) then (101 : Int64) else (if a1 = (3 : Int32) then (1011 : Int64) else (if a1 = (4 : Int32) then (10101 : Int64) else (100001 : Int64)))))))) a2) (fun y1 y2 => fr_F_X9_mark_L96_w  τ a1 a2 v14  n y1 y2)) ((fun y1 y2 => fr_F_X9_mark_L96_w  τ a1 a2 v14  n y1 y2) (x5_96 + (1 : Int32)) (x4_96 + (if ((τ.2.1 50) ((42 : Int32) + x5_96).toNatClampNeg) = a2 then (1 : Int32) else (0 : Int32))) ))
theorem fr_F_X9_mark_L96 (n : Nat) (τ : St) (a1 : Int32) (a2 : Int32) (v14 : Int32) (x5_96 : Int32) (x4_96 : Int32) : Fr I_X9_mark A_X9_mark true τ (F_X9_mark_L96  n τ a1 a2 v14 x5_96 x4_96).2 := fr_F_X9_mark_L96_w  τ a1 a2 v14  n x5_96 x4_96
theorem fr_F_X9_mark_k86_15 (τ : St) (a1 : Int32) (a2 : Int32) (v14 : Int32) : Fr I_X9_mark A_X9_mark true τ (F_X9_mark_k86_15  τ a1 a2 v14).2 := (fr_F_X9_mark_L96  9 τ a1 a2 v14 (0 : Int32) v14 )
theorem fr_F_X9_mark (τ : St) (a1 : Int32) (a2 : Int32) : Fr I_X9_mark A_X9_mark true τ (F_X9_mark τ a1 a2).2 := (fr_ite2 Fr.rf (fr_ite2 Fr.rf (fr_F_X9_mark_k86_15 τ a1 a2 (F_X9_knotsAt (sl τ (τ.2.2 + (if a1 = 0 then (1 : Int64) else (if a1 = (1 : Int32) then (11 : Int64) else (if a1 = (2 : Int32) then (101 : Int64) else (if a1 = (3 : Int32) then (1011 : Int64) else (if a1 = (4 : Int32) then (10101 : Int64) else (100001 : Int64)))))))) a2) )))
set_option maxHeartbeats 4000000 in
set_option maxRecDepth 20000 in
theorem c_X9_mark (l : Launch) (D : va_G) (cI cZ : ClassId) (z : Nat) (ad : Nat → Nat) (σ τ : St) (a1 a2 : Int32) (hw_ : 0 ≤ ((τ.2.1 50) 0).toInt ∧ ((τ.2.1 50) 0).toInt ≤ 6) (hs_ : 0 ≤ ((τ.2.1 50) 1).toInt ∧ ((τ.2.1 50) 1).toInt ≤ 8) : gM l yX9_mark cX9_mark 6 (some .int) 3 D cI cZ z (gws ad cI cZ σ τ) [.ref (ad 48), .int a1, .int a2] (some (.int (F_X9_mark τ a1 a2).1)) (gws ad cI cZ σ (F_X9_mark τ a1 a2).2) := by
  refine g_met (own := RX9) (by decide) rfl (Nat.le_of_ble_eq_true rfl) (fun p e s m below meth c ls Q E hr hlk h hl hQ => ?_)
  have hx := E.1
  have hb := E.2.1
  have hF : (F_X9_mark τ a1 a2) = (F_X9_mark τ a1 a2) := rfl
  have hl : lv_has ls 6 [(0, .ref (ad 48)), (1, .int a1), (2, .int a2)] := hl
  refine lv_iload_n hx hb dX9_mark_0 rfl (lv_at hl 1 rfl) ?_
  refine lv_iconst (v := 0) hx hb dX9_mark_1 (by decide) ?_
  refine lv_iconst (v := 5) hx hb dX9_mark_2 (by decide) ?_
  refine g_callSi (rest := []) E h (c_X9_in l D cI cZ z (gws ad cI cZ σ τ) a1 (0 : Int32) (5 : Int32)) mw_789 cbX9_in ⟨by decide, by decide⟩ rfl rfl hl.1 (Nat.le_of_ble_eq_true rfl) ⟨Nat.zero_le _, Nat.zero_le _⟩ dX9_mark_3 (fun H locs h => ?_)
  refine lv_if_eq (tgt := 17) hx hb dX9_mark_6 (by decide) (fun c1 => ?_) (fun c1 => ?_)
  · have ic1 : (F_X9_in a1 (0 : Int32) (5 : Int32)).toInt = 0 := i_eq c1
    have hF := (if_pos c1).symm.trans hF
    refine g_ldc (v := (-1000000)) E mw_930 dX9_mark_17 ?_
    exact g_iret E hr hlk h hQ (fst_of hF) (snd_of hF (fun u => gws ad cI cZ σ u)) dX9_mark_19
  · have ic1 : (F_X9_in a1 (0 : Int32) (5 : Int32)).toInt ≠ 0 := i_ne c1
    have jc1 : 0 ≤ a1.toInt ∧ a1.toInt ≤ 5 := fz_in c1
    have hF := (if_neg c1).symm.trans hF
    refine lv_aload_n hx hb dX9_mark_9 rfl (lv_at hl 0 rfl) ?_
    refine lv_iload_n hx hb dX9_mark_10 rfl (lv_at hl 2 rfl) ?_
    refine g_callVi (rest := []) E h (c_X9_isWell l D cI cZ z ad σ τ a2) mw_926 cbX9_isWell 48 rfl rfl ⟨by decide, by decide⟩ rfl rfl hl.1 (Nat.le_of_ble_eq_true rfl) ⟨Nat.zero_le _, Nat.zero_le _⟩ dX9_mark_11 (fun H locs h => ?_)
    refine lv_if_ne (tgt := 20) hx hb dX9_mark_14 (by decide) (fun c2 => ?_) (fun c2 => ?_)
    · have ic2 : (F_X9_isWell τ a2).toInt ≠ 0 := i_ne c2
      have jc2 := (fun c => fz9_isWell c (by omega)) c2
      have hF := (if_neg c2).symm.trans hF
      refine lv_aload_n hx hb dX9_mark_20 rfl (lv_at hl 0 rfl) ?_
      refine lv_dup hx hb dX9_mark_21 rfl ?_
      refine g_get (v := .long τ.2.2) E h 48 rfl rfl layX9 0 (by decide) rfl mw_819 rfl dX9_mark_22 ?_
      refine lv_iload_n hx hb dX9_mark_25 rfl (lv_at hl 1 rfl) ?_
      refine g_diaL (D := D) (z := z) (ws := gws ad cI cZ σ τ) (rest := [.long τ.2.2, .ref (ad 48)]) 80 (if a1 = 0 then (1 : Int64) else (if a1 = (1 : Int32) then (11 : Int64) else (if a1 = (2 : Int32) then (101 : Int64) else (if a1 = (3 : Int32) then (1011 : Int64) else (if a1 = (4 : Int32) then (10101 : Int64) else (100001 : Int64)))))) (fun H locs h => ?_) (fun K8 => ?_)
      · refine lv_ladd hx hb dX9_mark_80 ?_
        refine g_put (v := .long (τ.2.2 + (if a1 = 0 then (1 : Int64) else (if a1 = (1 : Int32) then (11 : Int64) else (if a1 = (2 : Int32) then (101 : Int64) else (if a1 = (3 : Int32) then (1011 : Int64) else (if a1 = (4 : Int32) then (10101 : Int64) else (100001 : Int64)))))))) (ty := .long) (ws' := gws ad cI cZ σ (sl τ (τ.2.2 + (if a1 = 0 then (1 : Int64) else (if a1 = (1 : Int32) then (11 : Int64) else (if a1 = (2 : Int32) then (101 : Int64) else (if a1 = (3 : Int32) then (1011 : Int64) else (if a1 = (4 : Int32) then (10101 : Int64) else (100001 : Int64))))))))) E h 48 rfl rfl layX9 tyX9 tyX9_ok nmX9 0 (by decide) rfl mw_819 rfl rfl rfl rfl (Nat.le_of_ble_eq_true rfl) (gl_48 ad cI cZ σ τ (τ.2.2 + (if a1 = 0 then (1 : Int64) else (if a1 = (1 : Int32) then (11 : Int64) else (if a1 = (2 : Int32) then (101 : Int64) else (if a1 = (3 : Int32) then (1011 : Int64) else (if a1 = (4 : Int32) then (10101 : Int64) else (100001 : Int64)))))))) dX9_mark_81 (fun H locs h => ?_)
        refine lv_aload_n hx hb dX9_mark_84 rfl (lv_at hl 0 rfl) ?_
        refine lv_iload_n hx hb dX9_mark_85 rfl (lv_at hl 2 rfl) ?_
        refine g_callVh (F_X9_knotsAt (sl τ (τ.2.2 + (if a1 = 0 then (1 : Int64) else (if a1 = (1 : Int32) then (11 : Int64) else (if a1 = (2 : Int32) then (101 : Int64) else (if a1 = (3 : Int32) then (1011 : Int64) else (if a1 = (4 : Int32) then (10101 : Int64) else (100001 : Int64)))))))) a2) (rest := []) E h (c_X9_knotsAt l D cI cZ z ad σ (sl τ (τ.2.2 + (if a1 = 0 then (1 : Int64) else (if a1 = (1 : Int32) then (11 : Int64) else (if a1 = (2 : Int32) then (101 : Int64) else (if a1 = (3 : Int32) then (1011 : Int64) else (if a1 = (4 : Int32) then (10101 : Int64) else (100001 : Int64)))))))) a2 (show 0 ≤ a2.toInt ∧ a2.toInt < 6 from by omega)) mw_931 cbX9_knotsAt 48 rfl rfl ⟨by decide, by decide⟩ rfl rfl hl.1 (Nat.le_of_ble_eq_true rfl) ⟨Nat.zero_le _, Nat.zero_le _⟩ dX9_mark_86 (fun v14 huv14 H locs h => ?_)
        have hF : F_X9_mark_k86_15 τ a1 a2 v14 = (F_X9_mark τ a1 a2) := by rw [← huv14]; exact hF
        refine lv_istore_n (lv' := [(3, .int v14), (0, .ref (ad 48)), (1, .int a1), (2, .int a2)]) hx hb dX9_mark_89 rfl hl (by decide) rfl (fun ls hl => ?_)
        refine lv_iload_n hx hb dX9_mark_90 rfl (lv_at hl 0 rfl) ?_
        refine lv_istore (lv' := [(4, .int v14), (3, .int v14), (0, .ref (ad 48)), (1, .int a1), (2, .int a2)]) hx hb dX9_mark_91 hl (by decide) rfl (fun ls hl => ?_)
        refine lv_iconst (v := 0) hx hb dX9_mark_93 (by decide) ?_
        refine lv_istore (lv' := [(5, .int (0 : Int32)), (4, .int v14), (3, .int v14), (0, .ref (ad 48)), (1, .int a1), (2, .int a2)]) hx hb dX9_mark_94 hl (by decide) rfl (fun ls hl => ?_)
        have L96 : ∀ (n96 : Nat) (x5_96 : Int32) (x4_96 : Int32) (H : Heap) (locs : List Loc) (ls : Array Slot), (0 ≤ x5_96.toInt ∧ x5_96.toInt ≤ 8 ∧ x5_96.toInt + n96 = 9) → F_X9_mark_L96  n96 τ a1 a2 v14 x5_96 x4_96 = (F_X9_mark τ a1 a2) → gH D z s (gws ad cI cZ σ (sl τ (τ.2.2 + (if a1 = 0 then (1 : Int64) else (if a1 = (1 : Int32) then (11 : Int64) else (if a1 = (2 : Int32) then (101 : Int64) else (if a1 = (3 : Int32) then (1011 : Int64) else (if a1 = (4 : Int32) then (10101 : Int64) else (100001 : Int64))))))))) H locs → lv_has ls 6 [(5, .int x5_96), (4, .int x4_96), (3, .int v14), (0, .ref (ad 48)), (1, .int a1), (2, .int a2)] → W p l e (rmH 3) s m ([.ref (ad 48), .int a1, .int a2] : List Value).toArray below meth c H locs 0 0 Q (F0 m 96 ls []) := by
          clear hF h hl
          intro n96
          induction n96 with
          | zero =>
            intro x5_96 x4_96 H locs ls hI
            exact absurd hI (by omega)
          | succ n96 ih96 =>
            intro x5_96 x4_96 H locs ls hI96 hF h hl
            refine lv_iload hx hb dX9_mark_96 (lv_at hl 0 rfl) ?_
            refine lv_aload_n hx hb dX9_mark_98 rfl (lv_at hl 3 rfl) ?_
            refine g_get (v := .ref (ad 50)) E h 48 rfl rfl layX9 3 (by decide) rfl mw_822 rfl dX9_mark_99 ?_
            refine lv_iconst (v := 1) hx hb dX9_mark_102 (by decide) ?_
            refine g_ialdk (f := (τ.2.1 50)) E h 50 rfl 1 rfl (ix_of (oI_lit (x := 1) (a := 1) rfl) (by omega) (by decide)) dX9_mark_103 ?_
            refine lv_icmp_ge (tgt := 137) hx hb dX9_mark_104 (by decide) (fun c17 => ?_) (fun c17 => ?_)
            · have ic17 : ((τ.2.1 50) 1).toInt ≤ x5_96.toInt := i_le c17
              have hF := (if_pos c17).symm.trans hF
              refine lv_iload_n hx hb dX9_mark_137 rfl (lv_at hl 2 rfl) ?_
              refine lv_aload_n hx hb dX9_mark_138 rfl (lv_at hl 3 rfl) ?_
              refine lv_iload_n hx hb dX9_mark_139 rfl (lv_at hl 5 rfl) ?_
              refine g_callVh (F_X9_duesOf (sl τ (τ.2.2 + (if a1 = 0 then (1 : Int64) else (if a1 = (1 : Int32) then (11 : Int64) else (if a1 = (2 : Int32) then (101 : Int64) else (if a1 = (3 : Int32) then (1011 : Int64) else (if a1 = (4 : Int32) then (10101 : Int64) else (100001 : Int64)))))))) a2) (rest := [.int v14]) E h (c_X9_duesOf l D cI cZ z ad σ (sl τ (τ.2.2 + (if a1 = 0 then (1 : Int64) else (if a1 = (1 : Int32) then (11 : Int64) else (if a1 = (2 : Int32) then (101 : Int64) else (if a1 = (3 : Int32) then (1011 : Int64) else (if a1 = (4 : Int32) then (10101 : Int64) else (100001 : Int64)))))))) a2 (show 0 ≤ a2.toInt ∧ a2.toInt < 6 from by omega)) mw_935 cbX9_duesOf 48 rfl rfl ⟨by decide, by decide⟩ rfl rfl hl.1 (Nat.le_of_ble_eq_true rfl) ⟨Nat.zero_le _, Nat.zero_le _⟩ dX9_mark_140 (fun v18 huv18 H locs h => ?_)
              have hF : F_X9_mark_k140_19 (fun y1 y2 => F_X9_mark_L96  n96 τ a1 a2 v14 y1 y2) τ a1 a2 v14 x5_96 x4_96 v18 = (F_X9_mark τ a1 a2) := by rw [← huv18]; exact hF
              refine lv_isub hx hb dX9_mark_143 ?_
              refine lv_istore (lv' := [(5, .int (v14 - v18)), (4, .int x4_96), (3, .int v14), (0, .ref (ad 48)), (1, .int a1), (2, .int a2)]) hx hb dX9_mark_144 hl (by decide) rfl (fun ls hl => ?_)
              refine lv_iload_n hx hb dX9_mark_146 rfl (lv_at hl 4 rfl) ?_
              refine lv_if_ne (tgt := 154) hx hb dX9_mark_147 (by decide) (fun c20 => ?_) (fun c20 => ?_)
              · have ic20 : a1.toInt ≠ 0 := i_ne c20
                have hF := (if_neg c20).symm.trans hF
                refine lv_iload_n hx hb dX9_mark_154 rfl (lv_at hl 4 rfl) ?_
                refine lv_iconst (v := 1) hx hb dX9_mark_155 (by decide) ?_
                refine lv_icmp_ne (tgt := 164) hx hb dX9_mark_156 (by decide) (fun c21 => ?_) (fun c21 => ?_)
                · have ic21 : a1.toInt ≠ 1 := i_ne c21
                  have hF := (if_neg c21).symm.trans hF
                  refine lv_iload_n hx hb dX9_mark_164 rfl (lv_at hl 4 rfl) ?_
                  refine lv_iconst (v := 2) hx hb dX9_mark_165 (by decide) ?_
                  refine lv_icmp_ne (tgt := 174) hx hb dX9_mark_166 (by decide) (fun c22 => ?_) (fun c22 => ?_)
                  · have ic22 : a1.toInt ≠ 2 := i_ne c22
                    have hF := (if_neg c22).symm.trans hF
                    refine lv_iload_n hx hb dX9_mark_174 rfl (lv_at hl 4 rfl) ?_
                    refine lv_iconst (v := 3) hx hb dX9_mark_175 (by decide) ?_
                    refine lv_icmp_ne (tgt := 186) hx hb dX9_mark_176 (by decide) (fun c23 => ?_) (fun c23 => ?_)
                    · have ic23 : a1.toInt ≠ 3 := i_ne c23
                      have hF := (if_neg c23).symm.trans hF
                      refine lv_iload_n hx hb dX9_mark_186 rfl (lv_at hl 4 rfl) ?_
                      refine lv_iconst (v := 4) hx hb dX9_mark_187 (by decide) ?_
                      refine lv_icmp_ne (tgt := 198) hx hb dX9_mark_188 (by decide) (fun c24 => ?_) (fun c24 => ?_)
                      · have ic24 : a1.toInt ≠ 4 := i_ne c24
                        have hF := (if_neg c24).symm.trans hF
                        refine lv_iload_n hx hb dX9_mark_198 rfl (lv_at hl 2 rfl) ?_
                        refine lv_aload_n hx hb dX9_mark_199 rfl (lv_at hl 3 rfl) ?_
                        refine g_get (v := .ref (ad 53)) E h 48 rfl rfl layX9 6 (by decide) rfl mw_825 rfl dX9_mark_200 ?_
                        refine lv_bipush (v := 13) hx hb dX9_mark_203 (by decide) ?_
                        refine g_ialdk (f := (τ.2.1 53)) E h 53 rfl 13 rfl (ix_of (oI_lit (x := 13) (a := 13) rfl) (by omega) (by decide)) dX9_mark_205 ?_
                        refine lv_iadd hx hb dX9_mark_206 ?_
                        exact g_iret E hr hlk h hQ (fst_of hF) (snd_of hF (fun u => gws ad cI cZ σ u)) dX9_mark_207
                      · have ic24 : a1.toInt = 4 := i_eq c24
                        have hF := (if_pos c24).symm.trans hF
                        refine lv_iload hx hb dX9_mark_191 (lv_at hl 0 rfl) ?_
                        refine lv_iload_n hx hb dX9_mark_193 rfl (lv_at hl 5 rfl) ?_
                        refine lv_iadd hx hb dX9_mark_194 ?_
                        refine lv_goto (tgt := 207) hx hb dX9_mark_195 (by decide) ?_
                        exact g_iret E hr hlk h hQ (fst_of hF) (snd_of hF (fun u => gws ad cI cZ σ u)) dX9_mark_207
                    · have ic23 : a1.toInt = 3 := i_eq c23
                      have hF := (if_pos c23).symm.trans hF
                      refine lv_iconst (v := 2) hx hb dX9_mark_179 (by decide) ?_
                      refine lv_iload hx hb dX9_mark_180 (lv_at hl 1 rfl) ?_
                      refine lv_imul hx hb dX9_mark_182 ?_
                      refine lv_goto (tgt := 207) hx hb dX9_mark_183 (by decide) ?_
                      exact g_iret E hr hlk h hQ (fst_of hF) (snd_of hF (fun u => gws ad cI cZ σ u)) dX9_mark_207
                  · have ic22 : a1.toInt = 2 := i_eq c22
                    have hF := (if_pos c22).symm.trans hF
                    refine lv_iload hx hb dX9_mark_169 (lv_at hl 0 rfl) ?_
                    refine lv_goto (tgt := 207) hx hb dX9_mark_171 (by decide) ?_
                    exact g_iret E hr hlk h hQ (fst_of hF) (snd_of hF (fun u => gws ad cI cZ σ u)) dX9_mark_207
                · have ic21 : a1.toInt = 1 := i_eq c21
                  have hF := (if_pos c21).symm.trans hF
                  refine lv_iload hx hb dX9_mark_159 (lv_at hl 1 rfl) ?_
                  refine lv_goto (tgt := 207) hx hb dX9_mark_161 (by decide) ?_
                  exact g_iret E hr hlk h hQ (fst_of hF) (snd_of hF (fun u => gws ad cI cZ σ u)) dX9_mark_207
              · have ic20 : a1.toInt = 0 := i_eq c20
                have hF := (if_pos c20).symm.trans hF
                refine lv_iload_n hx hb dX9_mark_150 rfl (lv_at hl 2 rfl) ?_
                refine lv_goto (tgt := 207) hx hb dX9_mark_151 (by decide) ?_
                exact g_iret E hr hlk h hQ (fst_of hF) (snd_of hF (fun u => gws ad cI cZ σ u)) dX9_mark_207
            · have ic17 : x5_96.toInt < ((τ.2.1 50) 1).toInt := i_nle c17
              have hF := (if_neg c17).symm.trans hF
              refine lv_iload hx hb dX9_mark_107 (lv_at hl 1 rfl) ?_
              refine lv_aload_n hx hb dX9_mark_109 rfl (lv_at hl 3 rfl) ?_
              refine g_get (v := .ref (ad 50)) E h 48 rfl rfl layX9 3 (by decide) rfl mw_822 rfl dX9_mark_110 ?_
              refine lv_bipush (v := 42) hx hb dX9_mark_113 (by decide) ?_
              refine lv_iload hx hb dX9_mark_115 (lv_at hl 0 rfl) ?_
              refine lv_iadd hx hb dX9_mark_117 ?_
              refine g_iald (f := (τ.2.1 50)) E h 50 rfl (ix_of (oI_add (oI_lit (x := 42) (a := 42) rfl) (oI_at x5_96)) (by omega) (by decide)) dX9_mark_118 ?_
              refine lv_iload_n hx hb dX9_mark_119 rfl (lv_at hl 5 rfl) ?_
              refine g_dia (D := D) (z := z) (ws := gws ad cI cZ σ (sl τ (τ.2.2 + (if a1 = 0 then (1 : Int64) else (if a1 = (1 : Int32) then (11 : Int64) else (if a1 = (2 : Int32) then (101 : Int64) else (if a1 = (3 : Int32) then (1011 : Int64) else (if a1 = (4 : Int32) then (10101 : Int64) else (100001 : Int64))))))))) (rest := [.int x4_96]) 128 (if ((τ.2.1 50) ((42 : Int32) + x5_96).toNatClampNeg) = a2 then (1 : Int32) else (0 : Int32)) (fun H locs h => ?_) (fun K26 => ?_)
              · refine lv_iadd hx hb dX9_mark_128 ?_
                refine lv_istore (lv' := [(4, .int (x4_96 + (if ((τ.2.1 50) ((42 : Int32) + x5_96).toNatClampNeg) = a2 then (1 : Int32) else (0 : Int32)))), (5, .int x5_96), (3, .int v14), (0, .ref (ad 48)), (1, .int a1), (2, .int a2)]) hx hb dX9_mark_129 hl (by decide) rfl (fun ls hl => ?_)
                refine lv_iinc (v := (x5_96 + (1 : Int32))) (lv' := [(5, .int (x5_96 + (1 : Int32))), (4, .int (x4_96 + (if ((τ.2.1 50) ((42 : Int32) + x5_96).toNatClampNeg) = a2 then (1 : Int32) else (0 : Int32)))), (3, .int v14), (0, .ref (ad 48)), (1, .int a1), (2, .int a2)]) hx hb dX9_mark_131 hl (k := 1) rfl rfl (by decide) rfl (fun ls hl => ?_)
                refine lv_goto (tgt := 96) hx hb dX9_mark_134 (by decide) ?_
                have e96_5 : (x5_96 + (1 : Int32)).toInt = _ := ti_of (oI_add (oI_at x5_96) (oI_lit (x := 1) (a := 1) rfl)) (by omega)
                exact ih96 (x5_96 + (1 : Int32)) (x4_96 + (if ((τ.2.1 50) ((42 : Int32) + x5_96).toNatClampNeg) = a2 then (1 : Int32) else (0 : Int32))) _ _ ls ((show 0 ≤ (x5_96 + (1 : Int32)).toInt ∧ (x5_96 + (1 : Int32)).toInt ≤ 8 ∧ (x5_96 + (1 : Int32)).toInt + n96 = 9 from by omega)) hF h (lv_sub hl [0, 1, 2, 3, 4, 5] rfl)
              · refine lv_icmp_ne (tgt := 127) hx hb dX9_mark_120 (by decide) (fun c27 => ?_) (fun c27 => ?_)
                · have ic27 : ((τ.2.1 50) ((42 : Int32) + x5_96).toNatClampNeg).toInt ≠ a2.toInt := i_ne c27
                  refine lv_iconst (v := 0) hx hb dX9_mark_127 (by decide) ?_
                  exact K26 _ _ _ ((if_neg c27).symm) h
                · have ic27 : ((τ.2.1 50) ((42 : Int32) + x5_96).toNatClampNeg).toInt = a2.toInt := i_eq c27
                  refine lv_iconst (v := 1) hx hb dX9_mark_123 (by decide) ?_
                  refine lv_goto (tgt := 128) hx hb dX9_mark_124 (by decide) ?_
                  exact K26 _ _ _ ((if_pos c27).symm) h
        have q96_5 : (0 : Int32).toInt = 0 := rfl
        exact L96 9 (0 : Int32) v14 _ _ ls ((show 0 ≤ (0 : Int32).toInt ∧ (0 : Int32).toInt ≤ 8 ∧ (0 : Int32).toInt + (9 : Nat) = 9 from by omega)) hF h (lv_sub hl [0, 1, 2, 3, 4, 5] rfl)
      · refine lv_if_ne (tgt := 33) hx hb dX9_mark_26 (by decide) (fun c9 => ?_) (fun c9 => ?_)
        · have ic9 : a1.toInt ≠ 0 := i_ne c9
          refine lv_iload_n hx hb dX9_mark_33 rfl (lv_at hl 1 rfl) ?_
          refine lv_iconst (v := 1) hx hb dX9_mark_34 (by decide) ?_
          refine lv_icmp_ne (tgt := 44) hx hb dX9_mark_35 (by decide) (fun c10 => ?_) (fun c10 => ?_)
          · have ic10 : a1.toInt ≠ 1 := i_ne c10
            refine lv_iload_n hx hb dX9_mark_44 rfl (lv_at hl 1 rfl) ?_
            refine lv_iconst (v := 2) hx hb dX9_mark_45 (by decide) ?_
            refine lv_icmp_ne (tgt := 55) hx hb dX9_mark_46 (by decide) (fun c11 => ?_) (fun c11 => ?_)
            · have ic11 : a1.toInt ≠ 2 := i_ne c11
              refine lv_iload_n hx hb dX9_mark_55 rfl (lv_at hl 1 rfl) ?_
              refine lv_iconst (v := 3) hx hb dX9_mark_56 (by decide) ?_
              refine lv_icmp_ne (tgt := 66) hx hb dX9_mark_57 (by decide) (fun c12 => ?_) (fun c12 => ?_)
              · have ic12 : a1.toInt ≠ 3 := i_ne c12
                refine lv_iload_n hx hb dX9_mark_66 rfl (lv_at hl 1 rfl) ?_
                refine lv_iconst (v := 4) hx hb dX9_mark_67 (by decide) ?_
                refine lv_icmp_ne (tgt := 77) hx hb dX9_mark_68 (by decide) (fun c13 => ?_) (fun c13 => ?_)
                · have ic13 : a1.toInt ≠ 4 := i_ne c13
                  refine g_ldc2 (v := 100001) E mw_1058 dX9_mark_77 ?_
                  exact K8 _ _ _ (((if_neg c9).trans ((if_neg c10).trans ((if_neg c11).trans ((if_neg c12).trans (if_neg c13))))).symm) h
                · have ic13 : a1.toInt = 4 := i_eq c13
                  refine g_ldc2 (v := 10101) E mw_1057 dX9_mark_71 ?_
                  refine lv_goto (tgt := 80) hx hb dX9_mark_74 (by decide) ?_
                  exact K8 _ _ _ (((if_neg c9).trans ((if_neg c10).trans ((if_neg c11).trans ((if_neg c12).trans (if_pos c13))))).symm) h
              · have ic12 : a1.toInt = 3 := i_eq c12
                refine g_ldc2 (v := 1011) E mw_1056 dX9_mark_60 ?_
                refine lv_goto (tgt := 80) hx hb dX9_mark_63 (by decide) ?_
                exact K8 _ _ _ (((if_neg c9).trans ((if_neg c10).trans ((if_neg c11).trans (if_pos c12)))).symm) h
            · have ic11 : a1.toInt = 2 := i_eq c11
              refine g_ldc2 (v := 101) E mw_1055 dX9_mark_49 ?_
              refine lv_goto (tgt := 80) hx hb dX9_mark_52 (by decide) ?_
              exact K8 _ _ _ (((if_neg c9).trans ((if_neg c10).trans (if_pos c11))).symm) h
          · have ic10 : a1.toInt = 1 := i_eq c10
            refine g_ldc2 (v := 11) E mw_1054 dX9_mark_38 ?_
            refine lv_goto (tgt := 80) hx hb dX9_mark_41 (by decide) ?_
            exact K8 _ _ _ (((if_neg c9).trans (if_pos c10)).symm) h
        · have ic9 : a1.toInt = 0 := i_eq c9
          refine lv_lconst (v := 1) hx hb dX9_mark_29 (by decide) ?_
          refine lv_goto (tgt := 80) hx hb dX9_mark_30 (by decide) ?_
          exact K8 _ _ _ ((if_pos c9).symm) h
    · have ic2 : (F_X9_isWell τ a2).toInt = 0 := i_eq c2
      have hF := (if_pos c2).symm.trans hF
      refine g_ldc (v := (-1000000)) E mw_930 dX9_mark_17 ?_
      exact g_iret E hr hlk h hQ (fst_of hF) (snd_of hF (fun u => gws ad cI cZ σ u)) dX9_mark_19

def F_X9_keep_L13 : Nat → St → Int32 → Int32 → St → Int32 × St
  | 0, _, _, _, m13 => (0, m13)
  | n + 1, τ, a1, x2_13, m13 => (if (815 : Int32) ≤ x2_13 then (((m13.2.1 53) 13), (sa m13 55 (upd (m13.2.1 55) a1.toNatClampNeg (1 : Int32)))) else (F_X9_keep_L13  n τ a1 (x2_13 + (1 : Int32)) (sa m13 54 (upd (m13.2.1 54) (((815 : Int32) * a1) + x2_13).toNatClampNeg ((m13.2.1 53) x2_13.toNatClampNeg)))))
def F_X9_keep (τ : St) (a1 : Int32) : Int32 × St := (if (F_X9_in a1 (0 : Int32) (1 : Int32)) = 0 then (((-1) : Int32), τ) else (F_X9_keep_L13  816 τ a1 (0 : Int32) τ))
abbrev I_X9_keep : List Nat := []
abbrev A_X9_keep : List Nat := [54, 55]
theorem fr_F_X9_keep_L13_w (τ : St) (a1 : Int32) : ∀ (n : Nat) (x2_13 : Int32) (m13 : St), Fr I_X9_keep A_X9_keep false τ m13 → Fr I_X9_keep A_X9_keep false τ (F_X9_keep_L13  n τ a1 x2_13 m13).2
  | 0, x2_13, m13, hfr => hfr
  | n + 1, x2_13, m13, hfr => (fr_ite2 (Fr.sa (by decide) hfr) ((fun y1 y2 hy => fr_F_X9_keep_L13_w  τ a1  n y1 y2 hy) (x2_13 + (1 : Int32)) (sa m13 54 (upd (m13.2.1 54) (((815 : Int32) * a1) + x2_13).toNatClampNeg ((m13.2.1 53) x2_13.toNatClampNeg))) (Fr.sa (by decide) hfr)))
theorem fr_F_X9_keep_L13 (n : Nat) (τ : St) (a1 : Int32) (x2_13 : Int32) (m13 : St) (hfr : Fr I_X9_keep A_X9_keep false τ (m13)) : Fr I_X9_keep A_X9_keep false τ (F_X9_keep_L13  n τ a1 x2_13 m13).2 := fr_F_X9_keep_L13_w  τ a1  n x2_13 m13 hfr
theorem fr_F_X9_keep (τ : St) (a1 : Int32) : Fr I_X9_keep A_X9_keep false τ (F_X9_keep τ a1).2 := (fr_ite2 Fr.rf (fr_F_X9_keep_L13  816 τ a1 (0 : Int32) τ Fr.rf))
set_option maxHeartbeats 4000000 in
set_option maxRecDepth 20000 in
theorem c_X9_keep (l : Launch) (D : va_G) (cI cZ : ClassId) (z : Nat) (ad : Nat → Nat) (σ τ : St) (a1 : Int32) : gM l yX9_keep cX9_keep 3 (some .int) 2 D cI cZ z (gws ad cI cZ σ τ) [.ref (ad 48), .int a1] (some (.int (F_X9_keep τ a1).1)) (gws ad cI cZ σ (F_X9_keep τ a1).2) := by
  refine g_met (own := RX9) (by decide) rfl (Nat.le_of_ble_eq_true rfl) (fun p e s m below meth c ls Q E hr hlk h hl hQ => ?_)
  have hx := E.1
  have hb := E.2.1
  have hF : (F_X9_keep τ a1) = (F_X9_keep τ a1) := rfl
  have hl : lv_has ls 3 [(0, .ref (ad 48)), (1, .int a1)] := hl
  refine lv_iload_n hx hb dX9_keep_0 rfl (lv_at hl 1 rfl) ?_
  refine lv_iconst (v := 0) hx hb dX9_keep_1 (by decide) ?_
  refine lv_iconst (v := 1) hx hb dX9_keep_2 (by decide) ?_
  refine g_callSi (rest := []) E h (c_X9_in l D cI cZ z (gws ad cI cZ σ τ) a1 (0 : Int32) (1 : Int32)) mw_789 cbX9_in ⟨by decide, by decide⟩ rfl rfl hl.1 (Nat.le_of_ble_eq_true rfl) ⟨Nat.zero_le _, Nat.zero_le _⟩ dX9_keep_3 (fun H locs h => ?_)
  refine lv_if_ne (tgt := 11) hx hb dX9_keep_6 (by decide) (fun c1 => ?_) (fun c1 => ?_)
  · have ic1 : (F_X9_in a1 (0 : Int32) (1 : Int32)).toInt ≠ 0 := i_ne c1
    have jc1 : 0 ≤ a1.toInt ∧ a1.toInt ≤ 1 := fz_in c1
    have hF := (if_neg c1).symm.trans hF
    refine lv_iconst (v := 0) hx hb dX9_keep_11 (by decide) ?_
    refine lv_istore_n (lv' := [(2, .int (0 : Int32)), (0, .ref (ad 48)), (1, .int a1)]) hx hb dX9_keep_12 rfl hl (by decide) rfl (fun ls hl => ?_)
    have L13 : ∀ (n13 : Nat) (x2_13 : Int32) (m13 : St) (H : Heap) (locs : List Loc) (ls : Array Slot), (0 ≤ x2_13.toInt ∧ x2_13.toInt ≤ 815 ∧ x2_13.toInt + n13 = 816) → F_X9_keep_L13  n13 τ a1 x2_13 m13 = (F_X9_keep τ a1) → gH D z s (gws ad cI cZ σ m13) H locs → lv_has ls 3 [(2, .int x2_13), (0, .ref (ad 48)), (1, .int a1)] → W p l e (rmH 2) s m ([.ref (ad 48), .int a1] : List Value).toArray below meth c H locs 0 0 Q (F0 m 13 ls []) := by
      clear hF h hl
      intro n13
      induction n13 with
      | zero =>
        intro x2_13 m13 H locs ls hI
        exact absurd hI (by omega)
      | succ n13 ih13 =>
        intro x2_13 m13 H locs ls hI13 hF h hl
        refine lv_iload_n hx hb dX9_keep_13 rfl (lv_at hl 0 rfl) ?_
        refine lv_sipush (v := 815) hx hb dX9_keep_14 (by decide) ?_
        refine lv_icmp_ge (tgt := 44) hx hb dX9_keep_17 (by decide) (fun c3 => ?_) (fun c3 => ?_)
        · have ic3 : 815 ≤ x2_13.toInt := i_le c3
          have hF := (if_pos c3).symm.trans hF
          refine lv_aload_n hx hb dX9_keep_44 rfl (lv_at hl 1 rfl) ?_
          refine g_get (v := .ref (ad 55)) E h 48 rfl rfl layX9 8 (by decide) rfl mw_827 rfl dX9_keep_45 ?_
          refine lv_iload_n hx hb dX9_keep_48 rfl (lv_at hl 2 rfl) ?_
          refine lv_iconst (v := 1) hx hb dX9_keep_49 (by decide) ?_
          refine g_zast (f := (m13.2.1 55)) (ws' := gws ad cI cZ σ (sa m13 55 (upd (m13.2.1 55) a1.toNatClampNeg (1 : Int32)))) E h 55 rfl (ix_of (oI_at a1) (by omega) (by decide)) rfl (ga_55 ad cI cZ σ m13 (upd (m13.2.1 55) a1.toNatClampNeg (1 : Int32))) dX9_keep_50 (fun H locs h => ?_)
          refine lv_aload_n hx hb dX9_keep_51 rfl (lv_at hl 1 rfl) ?_
          refine g_get (v := .ref (ad 53)) E h 48 rfl rfl layX9 6 (by decide) rfl mw_825 rfl dX9_keep_52 ?_
          refine lv_bipush (v := 13) hx hb dX9_keep_55 (by decide) ?_
          refine g_ialdk (f := (m13.2.1 53)) E h 53 rfl 13 rfl (ix_of (oI_lit (x := 13) (a := 13) rfl) (by omega) (by decide)) dX9_keep_57 ?_
          exact g_iret E hr hlk h hQ (fst_of hF) (snd_of hF (fun u => gws ad cI cZ σ u)) dX9_keep_58
        · have ic3 : x2_13.toInt < 815 := i_nle c3
          have hF := (if_neg c3).symm.trans hF
          refine lv_aload_n hx hb dX9_keep_20 rfl (lv_at hl 1 rfl) ?_
          refine g_get (v := .ref (ad 54)) E h 48 rfl rfl layX9 7 (by decide) rfl mw_826 rfl dX9_keep_21 ?_
          refine lv_sipush (v := 815) hx hb dX9_keep_24 (by decide) ?_
          refine lv_iload_n hx hb dX9_keep_27 rfl (lv_at hl 2 rfl) ?_
          refine lv_imul hx hb dX9_keep_28 ?_
          refine lv_iload_n hx hb dX9_keep_29 rfl (lv_at hl 0 rfl) ?_
          refine lv_iadd hx hb dX9_keep_30 ?_
          refine lv_aload_n hx hb dX9_keep_31 rfl (lv_at hl 1 rfl) ?_
          refine g_get (v := .ref (ad 53)) E h 48 rfl rfl layX9 6 (by decide) rfl mw_825 rfl dX9_keep_32 ?_
          refine lv_iload_n hx hb dX9_keep_35 rfl (lv_at hl 0 rfl) ?_
          refine g_iald (f := (m13.2.1 53)) E h 53 rfl (ix_of (oI_at x2_13) (by omega) (by decide)) dX9_keep_36 ?_
          refine g_iast (f := (m13.2.1 54)) (ws' := gws ad cI cZ σ (sa m13 54 (upd (m13.2.1 54) (((815 : Int32) * a1) + x2_13).toNatClampNeg ((m13.2.1 53) x2_13.toNatClampNeg)))) E h 54 rfl (ix_of (oI_add (oI_mul (oI_lit (x := 815) (a := 815) rfl) (oI_at a1)) (oI_at x2_13)) (by omega) (by decide)) (ga_54 ad cI cZ σ m13 (upd (m13.2.1 54) (((815 : Int32) * a1) + x2_13).toNatClampNeg ((m13.2.1 53) x2_13.toNatClampNeg))) dX9_keep_37 (fun H locs h => ?_)
          refine lv_iinc (v := (x2_13 + (1 : Int32))) (lv' := [(2, .int (x2_13 + (1 : Int32))), (0, .ref (ad 48)), (1, .int a1)]) hx hb dX9_keep_38 hl (k := 0) rfl rfl (by decide) rfl (fun ls hl => ?_)
          refine lv_goto (tgt := 13) hx hb dX9_keep_41 (by decide) ?_
          have e13_2 : (x2_13 + (1 : Int32)).toInt = _ := ti_of (oI_add (oI_at x2_13) (oI_lit (x := 1) (a := 1) rfl)) (by omega)
          exact ih13 (x2_13 + (1 : Int32)) (sa m13 54 (upd (m13.2.1 54) (((815 : Int32) * a1) + x2_13).toNatClampNeg ((m13.2.1 53) x2_13.toNatClampNeg))) _ _ ls ((show 0 ≤ (x2_13 + (1 : Int32)).toInt ∧ (x2_13 + (1 : Int32)).toInt ≤ 815 ∧ (x2_13 + (1 : Int32)).toInt + n13 = 816 from by omega)) hF h (lv_sub hl [0, 1, 2] rfl)
    have q13_2 : (0 : Int32).toInt = 0 := rfl
    exact L13 816 (0 : Int32) τ _ _ ls ((show 0 ≤ (0 : Int32).toInt ∧ (0 : Int32).toInt ≤ 815 ∧ (0 : Int32).toInt + (816 : Nat) = 816 from by omega)) hF h (lv_sub hl [0, 1, 2] rfl)
  · have ic1 : (F_X9_in a1 (0 : Int32) (1 : Int32)).toInt = 0 := i_eq c1
    have hF := (if_pos c1).symm.trans hF
    refine lv_iconst (v := (-1)) hx hb dX9_keep_9 (by decide) ?_
    exact g_iret E hr hlk h hQ (fst_of hF) (snd_of hF (fun u => gws ad cI cZ σ u)) dX9_keep_10

def F_X9_back_L25 : Nat → St → Int32 → Int32 → St → Int32 × St
  | 0, _, _, _, m25 => (0, m25)
  | n + 1, τ, a1, x2_25, m25 => (if (815 : Int32) ≤ x2_25 then (((m25.2.1 53) 13), m25) else (F_X9_back_L25  n τ a1 (x2_25 + (1 : Int32)) (sa m25 53 (upd (m25.2.1 53) x2_25.toNatClampNeg ((m25.2.1 54) (((815 : Int32) * a1) + x2_25).toNatClampNeg)))))
def F_X9_back (τ : St) (a1 : Int32) : Int32 × St := (if (F_X9_in a1 (0 : Int32) (1 : Int32)) = 0 then (((-1) : Int32), τ) else (if ((τ.2.1 55) a1.toNatClampNeg) = 0 then (((-2) : Int32), τ) else (F_X9_back_L25  816 τ a1 (0 : Int32) τ)))
abbrev I_X9_back : List Nat := []
abbrev A_X9_back : List Nat := [53]
theorem fr_F_X9_back_L25_w (τ : St) (a1 : Int32) : ∀ (n : Nat) (x2_25 : Int32) (m25 : St), Fr I_X9_back A_X9_back false τ m25 → Fr I_X9_back A_X9_back false τ (F_X9_back_L25  n τ a1 x2_25 m25).2
  | 0, x2_25, m25, hfr => hfr
  | n + 1, x2_25, m25, hfr => (fr_ite2 hfr ((fun y1 y2 hy => fr_F_X9_back_L25_w  τ a1  n y1 y2 hy) (x2_25 + (1 : Int32)) (sa m25 53 (upd (m25.2.1 53) x2_25.toNatClampNeg ((m25.2.1 54) (((815 : Int32) * a1) + x2_25).toNatClampNeg))) (Fr.sa (by decide) hfr)))
theorem fr_F_X9_back_L25 (n : Nat) (τ : St) (a1 : Int32) (x2_25 : Int32) (m25 : St) (hfr : Fr I_X9_back A_X9_back false τ (m25)) : Fr I_X9_back A_X9_back false τ (F_X9_back_L25  n τ a1 x2_25 m25).2 := fr_F_X9_back_L25_w  τ a1  n x2_25 m25 hfr
theorem fr_F_X9_back (τ : St) (a1 : Int32) : Fr I_X9_back A_X9_back false τ (F_X9_back τ a1).2 := (fr_ite2 Fr.rf (fr_ite2 Fr.rf (fr_F_X9_back_L25  816 τ a1 (0 : Int32) τ Fr.rf)))
set_option maxHeartbeats 4000000 in
set_option maxRecDepth 20000 in
theorem c_X9_back (l : Launch) (D : va_G) (cI cZ : ClassId) (z : Nat) (ad : Nat → Nat) (σ τ : St) (a1 : Int32) : gM l yX9_back cX9_back 3 (some .int) 2 D cI cZ z (gws ad cI cZ σ τ) [.ref (ad 48), .int a1] (some (.int (F_X9_back τ a1).1)) (gws ad cI cZ σ (F_X9_back τ a1).2) := by
  refine g_met (own := RX9) (by decide) rfl (Nat.le_of_ble_eq_true rfl) (fun p e s m below meth c ls Q E hr hlk h hl hQ => ?_)
  have hx := E.1
  have hb := E.2.1
  have hF : (F_X9_back τ a1) = (F_X9_back τ a1) := rfl
  have hl : lv_has ls 3 [(0, .ref (ad 48)), (1, .int a1)] := hl
  refine lv_iload_n hx hb dX9_back_0 rfl (lv_at hl 1 rfl) ?_
  refine lv_iconst (v := 0) hx hb dX9_back_1 (by decide) ?_
  refine lv_iconst (v := 1) hx hb dX9_back_2 (by decide) ?_
  refine g_callSi (rest := []) E h (c_X9_in l D cI cZ z (gws ad cI cZ σ τ) a1 (0 : Int32) (1 : Int32)) mw_789 cbX9_in ⟨by decide, by decide⟩ rfl rfl hl.1 (Nat.le_of_ble_eq_true rfl) ⟨Nat.zero_le _, Nat.zero_le _⟩ dX9_back_3 (fun H locs h => ?_)
  refine lv_if_ne (tgt := 11) hx hb dX9_back_6 (by decide) (fun c1 => ?_) (fun c1 => ?_)
  · have ic1 : (F_X9_in a1 (0 : Int32) (1 : Int32)).toInt ≠ 0 := i_ne c1
    have jc1 : 0 ≤ a1.toInt ∧ a1.toInt ≤ 1 := fz_in c1
    have hF := (if_neg c1).symm.trans hF
    refine lv_aload_n hx hb dX9_back_11 rfl (lv_at hl 0 rfl) ?_
    refine g_get (v := .ref (ad 55)) E h 48 rfl rfl layX9 8 (by decide) rfl mw_827 rfl dX9_back_12 ?_
    refine lv_iload_n hx hb dX9_back_15 rfl (lv_at hl 1 rfl) ?_
    refine g_zald (f := (τ.2.1 55)) E h 55 rfl (ix_of (oI_at a1) (by omega) (by decide)) dX9_back_16 ?_
    refine lv_if_ne (tgt := 23) hx hb dX9_back_17 (by decide) (fun c2 => ?_) (fun c2 => ?_)
    · have ic2 : ((τ.2.1 55) a1.toNatClampNeg).toInt ≠ 0 := i_ne c2
      have hF := (if_neg c2).symm.trans hF
      refine lv_iconst (v := 0) hx hb dX9_back_23 (by decide) ?_
      refine lv_istore_n (lv' := [(2, .int (0 : Int32)), (0, .ref (ad 48)), (1, .int a1)]) hx hb dX9_back_24 rfl hl (by decide) rfl (fun ls hl => ?_)
      have L25 : ∀ (n25 : Nat) (x2_25 : Int32) (m25 : St) (H : Heap) (locs : List Loc) (ls : Array Slot), (0 ≤ x2_25.toInt ∧ x2_25.toInt ≤ 815 ∧ x2_25.toInt + n25 = 816) → F_X9_back_L25  n25 τ a1 x2_25 m25 = (F_X9_back τ a1) → gH D z s (gws ad cI cZ σ m25) H locs → lv_has ls 3 [(2, .int x2_25), (0, .ref (ad 48)), (1, .int a1)] → W p l e (rmH 2) s m ([.ref (ad 48), .int a1] : List Value).toArray below meth c H locs 0 0 Q (F0 m 25 ls []) := by
        clear hF h hl
        intro n25
        induction n25 with
        | zero =>
          intro x2_25 m25 H locs ls hI
          exact absurd hI (by omega)
        | succ n25 ih25 =>
          intro x2_25 m25 H locs ls hI25 hF h hl
          refine lv_iload_n hx hb dX9_back_25 rfl (lv_at hl 0 rfl) ?_
          refine lv_sipush (v := 815) hx hb dX9_back_26 (by decide) ?_
          refine lv_icmp_ge (tgt := 56) hx hb dX9_back_29 (by decide) (fun c4 => ?_) (fun c4 => ?_)
          · have ic4 : 815 ≤ x2_25.toInt := i_le c4
            have hF := (if_pos c4).symm.trans hF
            refine lv_aload_n hx hb dX9_back_56 rfl (lv_at hl 1 rfl) ?_
            refine g_get (v := .ref (ad 53)) E h 48 rfl rfl layX9 6 (by decide) rfl mw_825 rfl dX9_back_57 ?_
            refine lv_bipush (v := 13) hx hb dX9_back_60 (by decide) ?_
            refine g_ialdk (f := (m25.2.1 53)) E h 53 rfl 13 rfl (ix_of (oI_lit (x := 13) (a := 13) rfl) (by omega) (by decide)) dX9_back_62 ?_
            exact g_iret E hr hlk h hQ (fst_of hF) (snd_of hF (fun u => gws ad cI cZ σ u)) dX9_back_63
          · have ic4 : x2_25.toInt < 815 := i_nle c4
            have hF := (if_neg c4).symm.trans hF
            refine lv_aload_n hx hb dX9_back_32 rfl (lv_at hl 1 rfl) ?_
            refine g_get (v := .ref (ad 53)) E h 48 rfl rfl layX9 6 (by decide) rfl mw_825 rfl dX9_back_33 ?_
            refine lv_iload_n hx hb dX9_back_36 rfl (lv_at hl 0 rfl) ?_
            refine lv_aload_n hx hb dX9_back_37 rfl (lv_at hl 1 rfl) ?_
            refine g_get (v := .ref (ad 54)) E h 48 rfl rfl layX9 7 (by decide) rfl mw_826 rfl dX9_back_38 ?_
            refine lv_sipush (v := 815) hx hb dX9_back_41 (by decide) ?_
            refine lv_iload_n hx hb dX9_back_44 rfl (lv_at hl 2 rfl) ?_
            refine lv_imul hx hb dX9_back_45 ?_
            refine lv_iload_n hx hb dX9_back_46 rfl (lv_at hl 0 rfl) ?_
            refine lv_iadd hx hb dX9_back_47 ?_
            refine g_iald (f := (m25.2.1 54)) E h 54 rfl (ix_of (oI_add (oI_mul (oI_lit (x := 815) (a := 815) rfl) (oI_at a1)) (oI_at x2_25)) (by omega) (by decide)) dX9_back_48 ?_
            refine g_iast (f := (m25.2.1 53)) (ws' := gws ad cI cZ σ (sa m25 53 (upd (m25.2.1 53) x2_25.toNatClampNeg ((m25.2.1 54) (((815 : Int32) * a1) + x2_25).toNatClampNeg)))) E h 53 rfl (ix_of (oI_at x2_25) (by omega) (by decide)) (ga_53 ad cI cZ σ m25 (upd (m25.2.1 53) x2_25.toNatClampNeg ((m25.2.1 54) (((815 : Int32) * a1) + x2_25).toNatClampNeg))) dX9_back_49 (fun H locs h => ?_)
            refine lv_iinc (v := (x2_25 + (1 : Int32))) (lv' := [(2, .int (x2_25 + (1 : Int32))), (0, .ref (ad 48)), (1, .int a1)]) hx hb dX9_back_50 hl (k := 0) rfl rfl (by decide) rfl (fun ls hl => ?_)
            refine lv_goto (tgt := 25) hx hb dX9_back_53 (by decide) ?_
            have e25_2 : (x2_25 + (1 : Int32)).toInt = _ := ti_of (oI_add (oI_at x2_25) (oI_lit (x := 1) (a := 1) rfl)) (by omega)
            exact ih25 (x2_25 + (1 : Int32)) (sa m25 53 (upd (m25.2.1 53) x2_25.toNatClampNeg ((m25.2.1 54) (((815 : Int32) * a1) + x2_25).toNatClampNeg))) _ _ ls ((show 0 ≤ (x2_25 + (1 : Int32)).toInt ∧ (x2_25 + (1 : Int32)).toInt ≤ 815 ∧ (x2_25 + (1 : Int32)).toInt + n25 = 816 from by omega)) hF h (lv_sub hl [0, 1, 2] rfl)
      have q25_2 : (0 : Int32).toInt = 0 := rfl
      exact L25 816 (0 : Int32) τ _ _ ls ((show 0 ≤ (0 : Int32).toInt ∧ (0 : Int32).toInt ≤ 815 ∧ (0 : Int32).toInt + (816 : Nat) = 816 from by omega)) hF h (lv_sub hl [0, 1, 2] rfl)
    · have ic2 : ((τ.2.1 55) a1.toNatClampNeg).toInt = 0 := i_eq c2
      have hF := (if_pos c2).symm.trans hF
      refine lv_bipush (v := (-2)) hx hb dX9_back_20 (by decide) ?_
      exact g_iret E hr hlk h hQ (fst_of hF) (snd_of hF (fun u => gws ad cI cZ σ u)) dX9_back_22
  · have ic1 : (F_X9_in a1 (0 : Int32) (1 : Int32)).toInt = 0 := i_eq c1
    have hF := (if_pos c1).symm.trans hF
    refine lv_iconst (v := (-1)) hx hb dX9_back_9 (by decide) ?_
    exact g_iret E hr hlk h hQ (fst_of hF) (snd_of hF (fun u => gws ad cI cZ σ u)) dX9_back_10

def F_X9_count (τ : St) (a1 : Int32) : Int32 := (if a1 = 0 then ((τ.2.1 50) 0) else (if a1 = 1 then ((τ.2.1 50) 1) else (if a1 = 2 then ((τ.2.1 50) 2) else (if a1 = 3 then (τ.1 1546) else (if a1 = 4 then ((τ.2.1 53) 74) else (if a1 = 5 then (τ.1 1538) else ((-1) : Int32)))))))
set_option maxHeartbeats 4000000 in
set_option maxRecDepth 20000 in
theorem c_X9_count (l : Launch) (D : va_G) (cI cZ : ClassId) (z : Nat) (ad : Nat → Nat) (σ τ : St) (a1 : Int32) : gM l yX9_count cX9_count 2 (some .int) 1 D cI cZ z (gws ad cI cZ σ τ) [.ref (ad 48), .int a1] (some (.int (F_X9_count τ a1))) (gws ad cI cZ σ τ) := by
  refine g_met (own := RX9) (by decide) rfl (Nat.le_of_ble_eq_true rfl) (fun p e s m below meth c ls Q E hr hlk h hl hQ => ?_)
  have hx := E.1
  have hb := E.2.1
  have hF : (F_X9_count τ a1) = (F_X9_count τ a1) := rfl
  have hl : lv_has ls 2 [(0, .ref (ad 48)), (1, .int a1)] := hl
  refine lv_iload_n hx hb dX9_count_0 rfl (lv_at hl 1 rfl) ?_
  by_cases t1 : a1 = 0
  · have it1 : a1.toInt = 0 := i_eq t1
    have hF := (if_pos t1).symm.trans hF
    refine lv_tableIn (off := 39) (tgt := 40) hx hb dX9_count_1 (by rw [it1]; decide) (by rw [it1]; decide) (by rw [it1]; rfl) (by decide) ?_
    refine lv_aload_n hx hb dX9_count_40 rfl (lv_at hl 0 rfl) ?_
    refine g_get (v := .ref (ad 50)) E h 48 rfl rfl layX9 3 (by decide) rfl mw_822 rfl dX9_count_41 ?_
    refine lv_iconst (v := 0) hx hb dX9_count_44 (by decide) ?_
    refine g_ialdk (f := (τ.2.1 50)) E h 50 rfl 0 rfl (ix_of (oI_lit (x := 0) (a := 0) rfl) (by omega) (by decide)) dX9_count_45 ?_
    exact g_iret E hr hlk h hQ hF rfl dX9_count_46
  · have it1 : a1.toInt ≠ 0 := i_ne t1
    have hF := (if_neg t1).symm.trans hF
    by_cases t2 : a1 = 1
    · have it2 : a1.toInt = 1 := i_eq t2
      have hF := (if_pos t2).symm.trans hF
      refine lv_tableIn (off := 46) (tgt := 47) hx hb dX9_count_1 (by rw [it2]; decide) (by rw [it2]; decide) (by rw [it2]; rfl) (by decide) ?_
      refine lv_aload_n hx hb dX9_count_47 rfl (lv_at hl 0 rfl) ?_
      refine g_get (v := .ref (ad 50)) E h 48 rfl rfl layX9 3 (by decide) rfl mw_822 rfl dX9_count_48 ?_
      refine lv_iconst (v := 1) hx hb dX9_count_51 (by decide) ?_
      refine g_ialdk (f := (τ.2.1 50)) E h 50 rfl 1 rfl (ix_of (oI_lit (x := 1) (a := 1) rfl) (by omega) (by decide)) dX9_count_52 ?_
      exact g_iret E hr hlk h hQ hF rfl dX9_count_53
    · have it2 : a1.toInt ≠ 1 := i_ne t2
      have hF := (if_neg t2).symm.trans hF
      by_cases t3 : a1 = 2
      · have it3 : a1.toInt = 2 := i_eq t3
        have hF := (if_pos t3).symm.trans hF
        refine lv_tableIn (off := 53) (tgt := 54) hx hb dX9_count_1 (by rw [it3]; decide) (by rw [it3]; decide) (by rw [it3]; rfl) (by decide) ?_
        refine lv_aload_n hx hb dX9_count_54 rfl (lv_at hl 0 rfl) ?_
        refine g_get (v := .ref (ad 50)) E h 48 rfl rfl layX9 3 (by decide) rfl mw_822 rfl dX9_count_55 ?_
        refine lv_iconst (v := 2) hx hb dX9_count_58 (by decide) ?_
        refine g_ialdk (f := (τ.2.1 50)) E h 50 rfl 2 rfl (ix_of (oI_lit (x := 2) (a := 2) rfl) (by omega) (by decide)) dX9_count_59 ?_
        exact g_iret E hr hlk h hQ hF rfl dX9_count_60
      · have it3 : a1.toInt ≠ 2 := i_ne t3
        have hF := (if_neg t3).symm.trans hF
        by_cases t4 : a1 = 3
        · have it4 : a1.toInt = 3 := i_eq t4
          have hF := (if_pos t4).symm.trans hF
          refine lv_tableIn (off := 60) (tgt := 61) hx hb dX9_count_1 (by rw [it4]; decide) (by rw [it4]; decide) (by rw [it4]; rfl) (by decide) ?_
          refine lv_aload_n hx hb dX9_count_61 rfl (lv_at hl 0 rfl) ?_
          refine g_get (v := .int (τ.1 1546)) E h 48 rfl rfl layX9 10 (by decide) rfl mw_829 rfl dX9_count_62 ?_
          exact g_iret E hr hlk h hQ hF rfl dX9_count_65
        · have it4 : a1.toInt ≠ 3 := i_ne t4
          have hF := (if_neg t4).symm.trans hF
          by_cases t5 : a1 = 4
          · have it5 : a1.toInt = 4 := i_eq t5
            have hF := (if_pos t5).symm.trans hF
            refine lv_tableIn (off := 65) (tgt := 66) hx hb dX9_count_1 (by rw [it5]; decide) (by rw [it5]; decide) (by rw [it5]; rfl) (by decide) ?_
            refine lv_aload_n hx hb dX9_count_66 rfl (lv_at hl 0 rfl) ?_
            refine g_get (v := .ref (ad 53)) E h 48 rfl rfl layX9 6 (by decide) rfl mw_825 rfl dX9_count_67 ?_
            refine lv_bipush (v := 74) hx hb dX9_count_70 (by decide) ?_
            refine g_ialdk (f := (τ.2.1 53)) E h 53 rfl 74 rfl (ix_of (oI_lit (x := 74) (a := 74) rfl) (by omega) (by decide)) dX9_count_72 ?_
            exact g_iret E hr hlk h hQ hF rfl dX9_count_73
          · have it5 : a1.toInt ≠ 4 := i_ne t5
            have hF := (if_neg t5).symm.trans hF
            by_cases t6 : a1 = 5
            · have it6 : a1.toInt = 5 := i_eq t6
              have hF := (if_pos t6).symm.trans hF
              refine lv_tableIn (off := 73) (tgt := 74) hx hb dX9_count_1 (by rw [it6]; decide) (by rw [it6]; decide) (by rw [it6]; rfl) (by decide) ?_
              refine lv_aload_n hx hb dX9_count_74 rfl (lv_at hl 0 rfl) ?_
              refine g_get (v := .int (τ.1 1538)) E h 48 rfl rfl layX9 2 (by decide) rfl mw_821 rfl dX9_count_75 ?_
              exact g_iret E hr hlk h hQ hF rfl dX9_count_78
            · have it6 : a1.toInt ≠ 5 := i_ne t6
              have hF := (if_neg t6).symm.trans hF
              refine lv_tableOut (tgt := 79) hx hb dX9_count_1 (by omega) (by decide) ?_
              refine lv_iconst (v := (-1)) hx hb dX9_count_79 (by decide) ?_
              exact g_iret E hr hlk h hQ hF rfl dX9_count_80

def F_X9_trace (τ : St) : Int64 := τ.2.2
set_option maxHeartbeats 4000000 in
set_option maxRecDepth 20000 in
theorem c_X9_trace (l : Launch) (D : va_G) (cI cZ : ClassId) (z : Nat) (ad : Nat → Nat) (σ τ : St) : gM l yX9_trace cX9_trace 1 (some .long) 1 D cI cZ z (gws ad cI cZ σ τ) [.ref (ad 48)] (some (.long (F_X9_trace τ))) (gws ad cI cZ σ τ) := by
  refine g_met (own := RX9) (by decide) rfl (Nat.le_of_ble_eq_true rfl) (fun p e s m below meth c ls Q E hr hlk h hl hQ => ?_)
  have hx := E.1
  have hb := E.2.1
  have hF : (F_X9_trace τ) = (F_X9_trace τ) := rfl
  have hl : lv_has ls 1 [(0, .ref (ad 48))] := hl
  refine lv_aload_n hx hb dX9_trace_0 rfl (lv_at hl 0 rfl) ?_
  refine g_get (v := .long τ.2.2) E h 48 rfl rfl layX9 0 (by decide) rfl mw_819 rfl dX9_trace_1 ?_
  exact g_lret E hr hlk h hQ hF rfl dX9_trace_4

def F_X9_begins_L28 (lf2 : Int32 → St → St) : Nat → St → Int32 → St → Int32 → St → St
  | 0, _, _, _, _, m28 => m28
  | n + 1, τ, x1_2, m2, x1_28, m28 => (if (74 : Int32) ≤ x1_28 then (sa (si (sa m28 53 (upd (upd (m28.2.1 53) 12 (((1 : Int32) <<< (((m28.2.1 50) 2) &&& 31)) - (1 : Int32))) 74 (0 : Int32))) 1546 (0 : Int32)) 55 (upd (upd (m28.2.1 55) 0 (0 : Int32)) 1 (0 : Int32))) else (F_X9_begins_L28 lf2 n τ x1_2 m2 (x1_28 + (1 : Int32)) (sa m28 53 (upd (m28.2.1 53) x1_28.toNatClampNeg ((m28.2.1 52) x1_28.toNatClampNeg)))))
def F_X9_begins_L2 : Nat → St → Int32 → St → St
  | 0, _, _, m2 => m2
  | n + 1, τ, x1_2, m2 => (if (54 : Int32) ≤ x1_2 then (F_X9_begins_L28 (fun y1 y2 => F_X9_begins_L2  n τ y1 y2) 75 τ x1_2 m2 (0 : Int32) m2) else (F_X9_begins_L2  n τ (x1_2 + (1 : Int32)) (sa m2 50 (upd (m2.2.1 50) x1_2.toNatClampNeg ((m2.2.1 51) x1_2.toNatClampNeg)))))
def F_X9_begins (τ : St) : St := (F_X9_begins_L2  55 τ (0 : Int32) τ)
abbrev I_X9_begins : List Nat := [1546]
abbrev A_X9_begins : List Nat := [50, 53, 55]
theorem fr_F_X9_begins_L28_w (lf2 : Int32 → St → St) (τ : St) (x1_2 : Int32) (m2 : St) (hlf2 : ∀ (y1 : Int32) (m : St), Fr I_X9_begins A_X9_begins false τ m → Fr I_X9_begins A_X9_begins false τ (lf2 y1 m)) : ∀ (n : Nat) (x1_28 : Int32) (m28 : St), Fr I_X9_begins A_X9_begins false τ m28 → Fr I_X9_begins A_X9_begins false τ (F_X9_begins_L28 lf2 n τ x1_2 m2 x1_28 m28)
  | 0, x1_28, m28, hfr => hfr
  | n + 1, x1_28, m28, hfr => (fr_ite1 (Fr.sa (by decide) (Fr.si (by decide) (Fr.sa (by decide) hfr))) ((fun y1 y2 hy => fr_F_X9_begins_L28_w lf2 τ x1_2 m2 hlf2 n y1 y2 hy) (x1_28 + (1 : Int32)) (sa m28 53 (upd (m28.2.1 53) x1_28.toNatClampNeg ((m28.2.1 52) x1_28.toNatClampNeg))) (Fr.sa (by decide) hfr)))
theorem fr_F_X9_begins_L28 (lf2 : Int32 → St → St) (n : Nat) (τ : St) (x1_2 : Int32) (m2 : St) (x1_28 : Int32) (m28 : St) (hlf2 : ∀ (y1 : Int32) (m : St), Fr I_X9_begins A_X9_begins false τ m → Fr I_X9_begins A_X9_begins false τ (lf2 y1 m)) (hfr : Fr I_X9_begins A_X9_begins false τ (m28)) : Fr I_X9_begins A_X9_begins false τ (F_X9_begins_L28 lf2 n τ x1_2 m2 x1_28 m28) := fr_F_X9_begins_L28_w lf2 τ x1_2 m2 hlf2 n x1_28 m28 hfr
theorem fr_F_X9_begins_L2_w (τ : St) : ∀ (n : Nat) (x1_2 : Int32) (m2 : St), Fr I_X9_begins A_X9_begins false τ m2 → Fr I_X9_begins A_X9_begins false τ (F_X9_begins_L2  n τ x1_2 m2)
  | 0, x1_2, m2, hfr => hfr
  | n + 1, x1_2, m2, hfr => (fr_ite1 (fr_F_X9_begins_L28 (fun y1 y2 => F_X9_begins_L2  n τ y1 y2) 75 τ x1_2 m2 (0 : Int32) m2 (fun y1 y2 hy => fr_F_X9_begins_L2_w  τ  n y1 y2 hy) hfr) ((fun y1 y2 hy => fr_F_X9_begins_L2_w  τ  n y1 y2 hy) (x1_2 + (1 : Int32)) (sa m2 50 (upd (m2.2.1 50) x1_2.toNatClampNeg ((m2.2.1 51) x1_2.toNatClampNeg))) (Fr.sa (by decide) hfr)))
theorem fr_F_X9_begins_L2 (n : Nat) (τ : St) (x1_2 : Int32) (m2 : St) (hfr : Fr I_X9_begins A_X9_begins false τ (m2)) : Fr I_X9_begins A_X9_begins false τ (F_X9_begins_L2  n τ x1_2 m2) := fr_F_X9_begins_L2_w  τ  n x1_2 m2 hfr
theorem fr_F_X9_begins (τ : St) : Fr I_X9_begins A_X9_begins false τ (F_X9_begins τ) := (fr_F_X9_begins_L2  55 τ (0 : Int32) τ Fr.rf)
set_option maxHeartbeats 4000000 in
set_option maxRecDepth 20000 in
theorem c_X9_begins (l : Launch) (D : va_G) (cI cZ : ClassId) (z : Nat) (ad : Nat → Nat) (σ τ : St) : gM l yX9_begins cX9_begins 2 none 1 D cI cZ z (gws ad cI cZ σ τ) [.ref (ad 48)] none (gws ad cI cZ σ (F_X9_begins τ)) := by
  refine g_met (own := RX9) (by decide) rfl (Nat.le_of_ble_eq_true rfl) (fun p e s m below meth c ls Q E hr hlk h hl hQ => ?_)
  have hx := E.1
  have hb := E.2.1
  have hF : (F_X9_begins τ) = (F_X9_begins τ) := rfl
  have hl : lv_has ls 2 [(0, .ref (ad 48))] := hl
  refine lv_iconst (v := 0) hx hb dX9_begins_0 (by decide) ?_
  refine lv_istore_n (lv' := [(1, .int (0 : Int32)), (0, .ref (ad 48))]) hx hb dX9_begins_1 rfl hl (by decide) rfl (fun ls hl => ?_)
  have L2 : ∀ (n2 : Nat) (x1_2 : Int32) (m2 : St) (H : Heap) (locs : List Loc) (ls : Array Slot), (0 ≤ x1_2.toInt ∧ x1_2.toInt ≤ 54 ∧ x1_2.toInt + n2 = 55) → F_X9_begins_L2  n2 τ x1_2 m2 = (F_X9_begins τ) → gH D z s (gws ad cI cZ σ m2) H locs → lv_has ls 2 [(1, .int x1_2), (0, .ref (ad 48))] → W p l e (rmH 1) s m ([.ref (ad 48)] : List Value).toArray below meth c H locs 0 0 Q (F0 m 2 ls []) := by
    clear hF h hl
    intro n2
    induction n2 with
    | zero =>
      intro x1_2 m2 H locs ls hI
      exact absurd hI (by omega)
    | succ n2 ih2 =>
      intro x1_2 m2 H locs ls hI2 hF h hl
      refine lv_iload_n hx hb dX9_begins_2 rfl (lv_at hl 0 rfl) ?_
      refine lv_bipush (v := 54) hx hb dX9_begins_3 (by decide) ?_
      refine lv_icmp_ge (tgt := 26) hx hb dX9_begins_5 (by decide) (fun c2 => ?_) (fun c2 => ?_)
      · have ic2 : 54 ≤ x1_2.toInt := i_le c2
        have hF := (if_pos c2).symm.trans hF
        refine lv_iconst (v := 0) hx hb dX9_begins_26 (by decide) ?_
        refine lv_istore_n (lv' := [(1, .int (0 : Int32)), (0, .ref (ad 48))]) hx hb dX9_begins_27 rfl hl (by decide) rfl (fun ls hl => ?_)
        have L28 : ∀ (n28 : Nat) (x1_28 : Int32) (m28 : St) (H : Heap) (locs : List Loc) (ls : Array Slot), (0 ≤ x1_28.toInt ∧ x1_28.toInt ≤ 74 ∧ x1_28.toInt + n28 = 75) → F_X9_begins_L28 (fun y1 y2 => F_X9_begins_L2  n2 τ y1 y2) n28 τ x1_2 m2 x1_28 m28 = (F_X9_begins τ) → gH D z s (gws ad cI cZ σ m28) H locs → lv_has ls 2 [(1, .int x1_28), (0, .ref (ad 48))] → W p l e (rmH 1) s m ([.ref (ad 48)] : List Value).toArray below meth c H locs 0 0 Q (F0 m 28 ls []) := by
          clear hF h hl
          intro n28
          induction n28 with
          | zero =>
            intro x1_28 m28 H locs ls hI
            exact absurd hI (by omega)
          | succ n28 ih28 =>
            intro x1_28 m28 H locs ls hI28 hF h hl
            refine lv_iload_n hx hb dX9_begins_28 rfl (lv_at hl 0 rfl) ?_
            refine lv_bipush (v := 74) hx hb dX9_begins_29 (by decide) ?_
            refine lv_icmp_ge (tgt := 52) hx hb dX9_begins_31 (by decide) (fun c4 => ?_) (fun c4 => ?_)
            · have ic4 : 74 ≤ x1_28.toInt := i_le c4
              have hF := (if_pos c4).symm.trans hF
              refine lv_aload_n hx hb dX9_begins_52 rfl (lv_at hl 1 rfl) ?_
              refine g_get (v := .ref (ad 53)) E h 48 rfl rfl layX9 6 (by decide) rfl mw_825 rfl dX9_begins_53 ?_
              refine lv_bipush (v := 12) hx hb dX9_begins_56 (by decide) ?_
              refine lv_iconst (v := 1) hx hb dX9_begins_58 (by decide) ?_
              refine lv_aload_n hx hb dX9_begins_59 rfl (lv_at hl 1 rfl) ?_
              refine g_get (v := .ref (ad 50)) E h 48 rfl rfl layX9 3 (by decide) rfl mw_822 rfl dX9_begins_60 ?_
              refine lv_iconst (v := 2) hx hb dX9_begins_63 (by decide) ?_
              refine g_ialdk (f := (m28.2.1 50)) E h 50 rfl 2 rfl (ix_of (oI_lit (x := 2) (a := 2) rfl) (by omega) (by decide)) dX9_begins_64 ?_
              refine lv_ishl hx hb dX9_begins_65 ?_
              refine lv_iconst (v := 1) hx hb dX9_begins_66 (by decide) ?_
              refine lv_isub hx hb dX9_begins_67 ?_
              refine g_iastk (f := (m28.2.1 53)) (ws' := gws ad cI cZ σ (sa m28 53 (upd (m28.2.1 53) 12 (((1 : Int32) <<< (((m28.2.1 50) 2) &&& 31)) - (1 : Int32))))) E h 53 rfl 12 rfl (ix_of (oI_lit (x := 12) (a := 12) rfl) (by omega) (by decide)) (ga_53 ad cI cZ σ m28 (upd (m28.2.1 53) 12 (((1 : Int32) <<< (((m28.2.1 50) 2) &&& 31)) - (1 : Int32)))) dX9_begins_68 (fun H locs h => ?_)
              refine lv_aload_n hx hb dX9_begins_69 rfl (lv_at hl 1 rfl) ?_
              refine g_get (v := .ref (ad 53)) E h 48 rfl rfl layX9 6 (by decide) rfl mw_825 rfl dX9_begins_70 ?_
              refine lv_bipush (v := 74) hx hb dX9_begins_73 (by decide) ?_
              refine lv_iconst (v := 0) hx hb dX9_begins_75 (by decide) ?_
              refine g_iastk (f := (upd (m28.2.1 53) 12 (((1 : Int32) <<< (((m28.2.1 50) 2) &&& 31)) - (1 : Int32)))) (ws' := gws ad cI cZ σ (sa m28 53 (upd (upd (m28.2.1 53) 12 (((1 : Int32) <<< (((m28.2.1 50) 2) &&& 31)) - (1 : Int32))) 74 (0 : Int32)))) E h 53 rfl 74 rfl (ix_of (oI_lit (x := 74) (a := 74) rfl) (by omega) (by decide)) ((ga_53 ad cI cZ σ (sa m28 53 (upd (m28.2.1 53) 12 (((1 : Int32) <<< (((m28.2.1 50) 2) &&& 31)) - (1 : Int32)))) (upd (upd (m28.2.1 53) 12 (((1 : Int32) <<< (((m28.2.1 50) 2) &&& 31)) - (1 : Int32))) 74 (0 : Int32))).trans (congrArg (fun u => gws ad cI cZ σ u) (sa_sa _ _ _ _))) dX9_begins_76 (fun H locs h => ?_)
              refine lv_aload_n hx hb dX9_begins_77 rfl (lv_at hl 1 rfl) ?_
              refine lv_iconst (v := 0) hx hb dX9_begins_78 (by decide) ?_
              refine g_put (v := .int (0 : Int32)) (ty := .int) (ws' := gws ad cI cZ σ (si (sa m28 53 (upd (upd (m28.2.1 53) 12 (((1 : Int32) <<< (((m28.2.1 50) 2) &&& 31)) - (1 : Int32))) 74 (0 : Int32))) 1546 (0 : Int32))) E h 48 rfl rfl layX9 tyX9 tyX9_ok nmX9 10 (by decide) rfl mw_829 rfl rfl rfl rfl (Nat.le_of_ble_eq_true rfl) (gi_1546 ad cI cZ σ (sa m28 53 (upd (upd (m28.2.1 53) 12 (((1 : Int32) <<< (((m28.2.1 50) 2) &&& 31)) - (1 : Int32))) 74 (0 : Int32))) (0 : Int32)) dX9_begins_79 (fun H locs h => ?_)
              refine lv_aload_n hx hb dX9_begins_82 rfl (lv_at hl 1 rfl) ?_
              refine g_get (v := .ref (ad 55)) E h 48 rfl rfl layX9 8 (by decide) rfl mw_827 rfl dX9_begins_83 ?_
              refine lv_iconst (v := 0) hx hb dX9_begins_86 (by decide) ?_
              refine lv_iconst (v := 0) hx hb dX9_begins_87 (by decide) ?_
              refine g_zastk (f := (m28.2.1 55)) (ws' := gws ad cI cZ σ (sa (si (sa m28 53 (upd (upd (m28.2.1 53) 12 (((1 : Int32) <<< (((m28.2.1 50) 2) &&& 31)) - (1 : Int32))) 74 (0 : Int32))) 1546 (0 : Int32)) 55 (upd (m28.2.1 55) 0 (0 : Int32)))) E h 55 rfl 0 rfl (ix_of (oI_lit (x := 0) (a := 0) rfl) (by omega) (by decide)) rfl (ga_55 ad cI cZ σ (si (sa m28 53 (upd (upd (m28.2.1 53) 12 (((1 : Int32) <<< (((m28.2.1 50) 2) &&& 31)) - (1 : Int32))) 74 (0 : Int32))) 1546 (0 : Int32)) (upd (m28.2.1 55) 0 (0 : Int32))) dX9_begins_88 (fun H locs h => ?_)
              refine lv_aload_n hx hb dX9_begins_89 rfl (lv_at hl 1 rfl) ?_
              refine g_get (v := .ref (ad 55)) E h 48 rfl rfl layX9 8 (by decide) rfl mw_827 rfl dX9_begins_90 ?_
              refine lv_iconst (v := 1) hx hb dX9_begins_93 (by decide) ?_
              refine lv_iconst (v := 0) hx hb dX9_begins_94 (by decide) ?_
              refine g_zastk (f := (upd (m28.2.1 55) 0 (0 : Int32))) (ws' := gws ad cI cZ σ (sa (si (sa m28 53 (upd (upd (m28.2.1 53) 12 (((1 : Int32) <<< (((m28.2.1 50) 2) &&& 31)) - (1 : Int32))) 74 (0 : Int32))) 1546 (0 : Int32)) 55 (upd (upd (m28.2.1 55) 0 (0 : Int32)) 1 (0 : Int32)))) E h 55 rfl 1 rfl (ix_of (oI_lit (x := 1) (a := 1) rfl) (by omega) (by decide)) rfl ((ga_55 ad cI cZ σ (sa (si (sa m28 53 (upd (upd (m28.2.1 53) 12 (((1 : Int32) <<< (((m28.2.1 50) 2) &&& 31)) - (1 : Int32))) 74 (0 : Int32))) 1546 (0 : Int32)) 55 (upd (m28.2.1 55) 0 (0 : Int32))) (upd (upd (m28.2.1 55) 0 (0 : Int32)) 1 (0 : Int32))).trans (congrArg (fun u => gws ad cI cZ σ u) (sa_sa _ _ _ _))) dX9_begins_95 (fun H locs h => ?_)
              exact g_vret E hr hlk h hQ (congrArg (fun u => gws ad cI cZ σ u) hF) dX9_begins_96
            · have ic4 : x1_28.toInt < 74 := i_nle c4
              have hF := (if_neg c4).symm.trans hF
              refine lv_aload_n hx hb dX9_begins_34 rfl (lv_at hl 1 rfl) ?_
              refine g_get (v := .ref (ad 53)) E h 48 rfl rfl layX9 6 (by decide) rfl mw_825 rfl dX9_begins_35 ?_
              refine lv_iload_n hx hb dX9_begins_38 rfl (lv_at hl 0 rfl) ?_
              refine lv_aload_n hx hb dX9_begins_39 rfl (lv_at hl 1 rfl) ?_
              refine g_get (v := .ref (ad 52)) E h 48 rfl rfl layX9 5 (by decide) rfl mw_824 rfl dX9_begins_40 ?_
              refine lv_iload_n hx hb dX9_begins_43 rfl (lv_at hl 0 rfl) ?_
              refine g_iald (f := (m28.2.1 52)) E h 52 rfl (ix_of (oI_at x1_28) (by omega) (by decide)) dX9_begins_44 ?_
              refine g_iast (f := (m28.2.1 53)) (ws' := gws ad cI cZ σ (sa m28 53 (upd (m28.2.1 53) x1_28.toNatClampNeg ((m28.2.1 52) x1_28.toNatClampNeg)))) E h 53 rfl (ix_of (oI_at x1_28) (by omega) (by decide)) (ga_53 ad cI cZ σ m28 (upd (m28.2.1 53) x1_28.toNatClampNeg ((m28.2.1 52) x1_28.toNatClampNeg))) dX9_begins_45 (fun H locs h => ?_)
              refine lv_iinc (v := (x1_28 + (1 : Int32))) (lv' := [(1, .int (x1_28 + (1 : Int32))), (0, .ref (ad 48))]) hx hb dX9_begins_46 hl (k := 0) rfl rfl (by decide) rfl (fun ls hl => ?_)
              refine lv_goto (tgt := 28) hx hb dX9_begins_49 (by decide) ?_
              have e28_1 : (x1_28 + (1 : Int32)).toInt = _ := ti_of (oI_add (oI_at x1_28) (oI_lit (x := 1) (a := 1) rfl)) (by omega)
              exact ih28 (x1_28 + (1 : Int32)) (sa m28 53 (upd (m28.2.1 53) x1_28.toNatClampNeg ((m28.2.1 52) x1_28.toNatClampNeg))) _ _ ls ((show 0 ≤ (x1_28 + (1 : Int32)).toInt ∧ (x1_28 + (1 : Int32)).toInt ≤ 74 ∧ (x1_28 + (1 : Int32)).toInt + n28 = 75 from by omega)) hF h (lv_sub hl [0, 1] rfl)
        have q28_1 : (0 : Int32).toInt = 0 := rfl
        exact L28 75 (0 : Int32) m2 _ _ ls ((show 0 ≤ (0 : Int32).toInt ∧ (0 : Int32).toInt ≤ 74 ∧ (0 : Int32).toInt + (75 : Nat) = 75 from by omega)) hF h (lv_sub hl [0, 1] rfl)
      · have ic2 : x1_2.toInt < 54 := i_nle c2
        have hF := (if_neg c2).symm.trans hF
        refine lv_aload_n hx hb dX9_begins_8 rfl (lv_at hl 1 rfl) ?_
        refine g_get (v := .ref (ad 50)) E h 48 rfl rfl layX9 3 (by decide) rfl mw_822 rfl dX9_begins_9 ?_
        refine lv_iload_n hx hb dX9_begins_12 rfl (lv_at hl 0 rfl) ?_
        refine lv_aload_n hx hb dX9_begins_13 rfl (lv_at hl 1 rfl) ?_
        refine g_get (v := .ref (ad 51)) E h 48 rfl rfl layX9 4 (by decide) rfl mw_823 rfl dX9_begins_14 ?_
        refine lv_iload_n hx hb dX9_begins_17 rfl (lv_at hl 0 rfl) ?_
        refine g_iald (f := (m2.2.1 51)) E h 51 rfl (ix_of (oI_at x1_2) (by omega) (by decide)) dX9_begins_18 ?_
        refine g_iast (f := (m2.2.1 50)) (ws' := gws ad cI cZ σ (sa m2 50 (upd (m2.2.1 50) x1_2.toNatClampNeg ((m2.2.1 51) x1_2.toNatClampNeg)))) E h 50 rfl (ix_of (oI_at x1_2) (by omega) (by decide)) (ga_50 ad cI cZ σ m2 (upd (m2.2.1 50) x1_2.toNatClampNeg ((m2.2.1 51) x1_2.toNatClampNeg))) dX9_begins_19 (fun H locs h => ?_)
        refine lv_iinc (v := (x1_2 + (1 : Int32))) (lv' := [(1, .int (x1_2 + (1 : Int32))), (0, .ref (ad 48))]) hx hb dX9_begins_20 hl (k := 0) rfl rfl (by decide) rfl (fun ls hl => ?_)
        refine lv_goto (tgt := 2) hx hb dX9_begins_23 (by decide) ?_
        have e2_1 : (x1_2 + (1 : Int32)).toInt = _ := ti_of (oI_add (oI_at x1_2) (oI_lit (x := 1) (a := 1) rfl)) (by omega)
        exact ih2 (x1_2 + (1 : Int32)) (sa m2 50 (upd (m2.2.1 50) x1_2.toNatClampNeg ((m2.2.1 51) x1_2.toNatClampNeg))) _ _ ls ((show 0 ≤ (x1_2 + (1 : Int32)).toInt ∧ (x1_2 + (1 : Int32)).toInt ≤ 54 ∧ (x1_2 + (1 : Int32)).toInt + n2 = 55 from by omega)) hF h (lv_sub hl [0, 1] rfl)
  have q2_1 : (0 : Int32).toInt = 0 := rfl
  exact L2 55 (0 : Int32) τ _ _ ls ((show 0 ≤ (0 : Int32).toInt ∧ (0 : Int32).toInt ≤ 54 ∧ (0 : Int32).toInt + (55 : Nat) = 55 from by omega)) hF h (lv_sub hl [0, 1] rfl)
