/-- the walk's entries are wells -/
def WK (τ : St) : Prop := ∀ j : Nat, j < 6 → 0 ≤ ((τ.2.1 57) j).toInt ∧ ((τ.2.1 57) j).toInt ≤ 5
def BK (τ : St) : Prop := (∀ j : Nat, j < 6 → 0 ≤ ((τ.2.1 58) j).toInt ∧ ((τ.2.1 58) j).toInt ≤ 5) ∧ 0 ≤ (τ.1 1553).toInt ∧ (τ.1 1553).toInt ≤ 6
theorem nm_lt {x : Int32} {N : Nat} (h : 0 ≤ x.toInt ∧ x.toInt < N) : x.toNatClampNeg < N := by
  show x.toInt.toNat < N
  omega
theorem WK.at {τ : St} (h : WK τ) (x : Int32) (hx : 0 ≤ x.toInt ∧ x.toInt < 6) : 0 ≤ ((τ.2.1 57) x.toNatClampNeg).toInt ∧ ((τ.2.1 57) x.toNatClampNeg).toInt ≤ 5 := h _ (nm_lt hx)
theorem nar01i {v : Int32} (h : v.toInt = 0 ∨ v.toInt = 1) : narrow .boolean (.int v) = .int v := nar01 (by
  rcases h with h | h
  · exact Or.inl (Int32.toInt_inj.mp h)
  · exact Or.inr (Int32.toInt_inj.mp h))
theorem ite01i {c : Prop} [Decidable c] {a b : Int32} (h : a.toInt = 0 ∨ a.toInt = 1) (g : b.toInt = 0 ∨ b.toInt = 1) : (if c then a else b).toInt = 0 ∨ (if c then a else b).toInt = 1 := by
  split
  · exact h
  · exact g

def F_X9_strikeOf_L6 : Nat → St → Int32 → Int32 → Int32 → Int32
  | 0, _, _, _, _ => 0
  | n + 1, τ, a1, x3_6, x2_6 => (if a1 ≤ x3_6 then x2_6 else (F_X9_strikeOf_L6  n τ a1 (x3_6 + (1 : Int32)) (if x2_6 ≤ ((τ.2.1 53) (((38 : Int32) + ((6 : Int32) * ((τ.2.1 57) x3_6.toNatClampNeg))) + ((τ.2.1 57) ((x3_6 + (1 : Int32)) - (x3_6 + (1 : Int32)) / a1 * a1).toNatClampNeg)).toNatClampNeg) then x2_6 else ((τ.2.1 53) (((38 : Int32) + ((6 : Int32) * ((τ.2.1 57) x3_6.toNatClampNeg))) + ((τ.2.1 57) ((x3_6 + (1 : Int32)) - (x3_6 + (1 : Int32)) / a1 * a1).toNatClampNeg)).toNatClampNeg))))
def F_X9_strikeOf (τ : St) (a1 : Int32) : Int32 := (F_X9_strikeOf_L6  7 τ a1 (0 : Int32) (999 : Int32))
set_option maxHeartbeats 4000000 in
set_option maxRecDepth 20000 in
theorem c_X9_strikeOf (l : Launch) (D : va_G) (cI cZ : ClassId) (z : Nat) (ad : Nat → Nat) (σ τ : St) (a1 : Int32) (ha_ : 2 ≤ a1.toInt ∧ a1.toInt ≤ 6) (hw1_ : WK τ) : gM l yX9_strikeOf cX9_strikeOf 5 (some .int) 1 D cI cZ z (gws ad cI cZ σ τ) [.ref (ad 48), .int a1] (some (.int (F_X9_strikeOf τ a1))) (gws ad cI cZ σ τ) := by
  refine g_met (own := RX9) (by decide) rfl (Nat.le_of_ble_eq_true rfl) (fun p e s m below meth c ls Q E hr hlk h hl hQ => ?_)
  have hx := E.1
  have hb := E.2.1
  have hF : (F_X9_strikeOf τ a1) = (F_X9_strikeOf τ a1) := rfl
  have hl : lv_has ls 5 [(0, .ref (ad 48)), (1, .int a1)] := hl
  refine lv_sipush (v := 999) hx hb dX9_strikeOf_0 (by decide) ?_
  refine lv_istore_n (lv' := [(2, .int (999 : Int32)), (0, .ref (ad 48)), (1, .int a1)]) hx hb dX9_strikeOf_3 rfl hl (by decide) rfl (fun ls hl => ?_)
  refine lv_iconst (v := 0) hx hb dX9_strikeOf_4 (by decide) ?_
  refine lv_istore_n (lv' := [(3, .int (0 : Int32)), (2, .int (999 : Int32)), (0, .ref (ad 48)), (1, .int a1)]) hx hb dX9_strikeOf_5 rfl hl (by decide) rfl (fun ls hl => ?_)
  have L6 : ∀ (n6 : Nat) (x3_6 : Int32) (x2_6 : Int32) (H : Heap) (locs : List Loc) (ls : Array Slot), (0 ≤ x3_6.toInt ∧ x3_6.toInt ≤ 6 ∧ x3_6.toInt + n6 = 7) → F_X9_strikeOf_L6  n6 τ a1 x3_6 x2_6 = (F_X9_strikeOf τ a1) → gH D z s (gws ad cI cZ σ τ) H locs → lv_has ls 5 [(3, .int x3_6), (2, .int x2_6), (0, .ref (ad 48)), (1, .int a1)] → W p l e (rmH 1) s m ([.ref (ad 48), .int a1] : List Value).toArray below meth c H locs 0 0 Q (F0 m 6 ls []) := by
    clear hF h hl
    intro n6
    induction n6 with
    | zero =>
      intro x3_6 x2_6 H locs ls hI
      exact absurd hI (by omega)
    | succ n6 ih6 =>
      intro x3_6 x2_6 H locs ls hI6 hF h hl
      refine lv_iload_n hx hb dX9_strikeOf_6 rfl (lv_at hl 0 rfl) ?_
      refine lv_iload_n hx hb dX9_strikeOf_7 rfl (lv_at hl 3 rfl) ?_
      refine lv_icmp_ge (tgt := 60) hx hb dX9_strikeOf_8 (by decide) (fun c2 => ?_) (fun c2 => ?_)
      · have ic2 : a1.toInt ≤ x3_6.toInt := i_le c2
        have hF := (if_pos c2).symm.trans hF
        refine lv_iload_n hx hb dX9_strikeOf_60 rfl (lv_at hl 1 rfl) ?_
        exact g_iret E hr hlk h hQ hF rfl dX9_strikeOf_61
      · have ic2 : x3_6.toInt < a1.toInt := i_nle c2
        have hF := (if_neg c2).symm.trans hF
        refine lv_aload_n hx hb dX9_strikeOf_11 rfl (lv_at hl 2 rfl) ?_
        refine g_get (v := .ref (ad 53)) E h 48 rfl rfl layX9 6 (by decide) rfl mw_825 rfl dX9_strikeOf_12 ?_
        refine lv_bipush (v := 38) hx hb dX9_strikeOf_15 (by decide) ?_
        refine lv_bipush (v := 6) hx hb dX9_strikeOf_17 (by decide) ?_
        have w1 := WK.at hw1_ x3_6 (by omega)
        refine lv_aload_n hx hb dX9_strikeOf_19 rfl (lv_at hl 2 rfl) ?_
        refine g_get (v := .ref (ad 57)) E h 48 rfl rfl layX9 15 (by decide) rfl mw_834 rfl dX9_strikeOf_20 ?_
        refine lv_iload_n hx hb dX9_strikeOf_23 rfl (lv_at hl 0 rfl) ?_
        refine g_iald (f := (τ.2.1 57)) E h 57 rfl (ix_of (oI_at x3_6) (by omega) (by decide)) dX9_strikeOf_24 ?_
        refine lv_imul hx hb dX9_strikeOf_25 ?_
        refine lv_iadd hx hb dX9_strikeOf_26 ?_
        refine lv_aload_n hx hb dX9_strikeOf_27 rfl (lv_at hl 2 rfl) ?_
        refine g_get (v := .ref (ad 57)) E h 48 rfl rfl layX9 15 (by decide) rfl mw_834 rfl dX9_strikeOf_28 ?_
        refine lv_iload_n hx hb dX9_strikeOf_31 rfl (lv_at hl 0 rfl) ?_
        refine lv_iconst (v := 1) hx hb dX9_strikeOf_32 (by decide) ?_
        refine lv_iadd hx hb dX9_strikeOf_33 ?_
        refine lv_iload_n hx hb dX9_strikeOf_34 rfl (lv_at hl 3 rfl) ?_
        refine lv_irem hx hb dX9_strikeOf_35 (by intro q; have q1 := i_eq q; have q2 : (0 : Int32).toInt = 0 := rfl; omega) ?_
        have er := rem_rng (a := (x3_6 + (1 : Int32))) (b := a1) (by rw [ti_of (oI_add (oI_at x3_6) (oI_lit (x := 1) (a := 1) rfl)) (by omega)]; omega) (by omega)
        have w2 := WK.at hw1_ ((x3_6 + (1 : Int32)) - (x3_6 + (1 : Int32)) / a1 * a1) (by omega)
        refine g_iald (f := (τ.2.1 57)) E h 57 rfl (ix_of (oI_at ((x3_6 + (1 : Int32)) - (x3_6 + (1 : Int32)) / a1 * a1)) (by omega) (by decide)) dX9_strikeOf_36 ?_
        refine lv_iadd hx hb dX9_strikeOf_37 ?_
        refine g_iald (f := (τ.2.1 53)) E h 53 rfl (ix_of (oI_add (oI_add (oI_lit (x := 38) (a := 38) rfl) (oI_mul (oI_lit (x := 6) (a := 6) rfl) (oI_at ((τ.2.1 57) x3_6.toNatClampNeg)))) (oI_at ((τ.2.1 57) ((x3_6 + (1 : Int32)) - (x3_6 + (1 : Int32)) / a1 * a1).toNatClampNeg))) (by omega) (by decide)) dX9_strikeOf_38 ?_
        refine lv_istore (lv' := [(4, .int ((τ.2.1 53) (((38 : Int32) + ((6 : Int32) * ((τ.2.1 57) x3_6.toNatClampNeg))) + ((τ.2.1 57) ((x3_6 + (1 : Int32)) - (x3_6 + (1 : Int32)) / a1 * a1).toNatClampNeg)).toNatClampNeg)), (3, .int x3_6), (2, .int x2_6), (0, .ref (ad 48)), (1, .int a1)]) hx hb dX9_strikeOf_39 hl (by decide) rfl (fun ls hl => ?_)
        refine lv_iload hx hb dX9_strikeOf_41 (lv_at hl 0 rfl) ?_
        refine lv_iload_n hx hb dX9_strikeOf_43 rfl (lv_at hl 2 rfl) ?_
        refine g_dia (D := D) (z := z) (ws := gws ad cI cZ σ τ) (rest := []) 53 (if x2_6 ≤ ((τ.2.1 53) (((38 : Int32) + ((6 : Int32) * ((τ.2.1 57) x3_6.toNatClampNeg))) + ((τ.2.1 57) ((x3_6 + (1 : Int32)) - (x3_6 + (1 : Int32)) / a1 * a1).toNatClampNeg)).toNatClampNeg) then x2_6 else ((τ.2.1 53) (((38 : Int32) + ((6 : Int32) * ((τ.2.1 57) x3_6.toNatClampNeg))) + ((τ.2.1 57) ((x3_6 + (1 : Int32)) - (x3_6 + (1 : Int32)) / a1 * a1).toNatClampNeg)).toNatClampNeg)) (fun H locs h => ?_) (fun K4 => ?_)
        · refine lv_istore_n (lv' := [(2, .int (if x2_6 ≤ ((τ.2.1 53) (((38 : Int32) + ((6 : Int32) * ((τ.2.1 57) x3_6.toNatClampNeg))) + ((τ.2.1 57) ((x3_6 + (1 : Int32)) - (x3_6 + (1 : Int32)) / a1 * a1).toNatClampNeg)).toNatClampNeg) then x2_6 else ((τ.2.1 53) (((38 : Int32) + ((6 : Int32) * ((τ.2.1 57) x3_6.toNatClampNeg))) + ((τ.2.1 57) ((x3_6 + (1 : Int32)) - (x3_6 + (1 : Int32)) / a1 * a1).toNatClampNeg)).toNatClampNeg))), (4, .int ((τ.2.1 53) (((38 : Int32) + ((6 : Int32) * ((τ.2.1 57) x3_6.toNatClampNeg))) + ((τ.2.1 57) ((x3_6 + (1 : Int32)) - (x3_6 + (1 : Int32)) / a1 * a1).toNatClampNeg)).toNatClampNeg)), (3, .int x3_6), (0, .ref (ad 48)), (1, .int a1)]) hx hb dX9_strikeOf_53 rfl hl (by decide) rfl (fun ls hl => ?_)
          refine lv_iinc (v := (x3_6 + (1 : Int32))) (lv' := [(3, .int (x3_6 + (1 : Int32))), (2, .int (if x2_6 ≤ ((τ.2.1 53) (((38 : Int32) + ((6 : Int32) * ((τ.2.1 57) x3_6.toNatClampNeg))) + ((τ.2.1 57) ((x3_6 + (1 : Int32)) - (x3_6 + (1 : Int32)) / a1 * a1).toNatClampNeg)).toNatClampNeg) then x2_6 else ((τ.2.1 53) (((38 : Int32) + ((6 : Int32) * ((τ.2.1 57) x3_6.toNatClampNeg))) + ((τ.2.1 57) ((x3_6 + (1 : Int32)) - (x3_6 + (1 : Int32)) / a1 * a1).toNatClampNeg)).toNatClampNeg))), (4, .int ((τ.2.1 53) (((38 : Int32) + ((6 : Int32) * ((τ.2.1 57) x3_6.toNatClampNeg))) + ((τ.2.1 57) ((x3_6 + (1 : Int32)) - (x3_6 + (1 : Int32)) / a1 * a1).toNatClampNeg)).toNatClampNeg)), (0, .ref (ad 48)), (1, .int a1)]) hx hb dX9_strikeOf_54 hl (k := 2) rfl rfl (by decide) rfl (fun ls hl => ?_)
          refine lv_goto (tgt := 6) hx hb dX9_strikeOf_57 (by decide) ?_
          have e6_3 : (x3_6 + (1 : Int32)).toInt = _ := ti_of (oI_add (oI_at x3_6) (oI_lit (x := 1) (a := 1) rfl)) (by omega)
          exact ih6 (x3_6 + (1 : Int32)) (if x2_6 ≤ ((τ.2.1 53) (((38 : Int32) + ((6 : Int32) * ((τ.2.1 57) x3_6.toNatClampNeg))) + ((τ.2.1 57) ((x3_6 + (1 : Int32)) - (x3_6 + (1 : Int32)) / a1 * a1).toNatClampNeg)).toNatClampNeg) then x2_6 else ((τ.2.1 53) (((38 : Int32) + ((6 : Int32) * ((τ.2.1 57) x3_6.toNatClampNeg))) + ((τ.2.1 57) ((x3_6 + (1 : Int32)) - (x3_6 + (1 : Int32)) / a1 * a1).toNatClampNeg)).toNatClampNeg)) _ _ ls ((show 0 ≤ (x3_6 + (1 : Int32)).toInt ∧ (x3_6 + (1 : Int32)).toInt ≤ 6 ∧ (x3_6 + (1 : Int32)).toInt + n6 = 7 from by omega)) hF h (lv_sub hl [0, 1, 3, 4] rfl)
        · refine lv_icmp_ge (tgt := 52) hx hb dX9_strikeOf_44 (by decide) (fun c5 => ?_) (fun c5 => ?_)
          · have ic5 : x2_6.toInt ≤ ((τ.2.1 53) (((38 : Int32) + ((6 : Int32) * ((τ.2.1 57) x3_6.toNatClampNeg))) + ((τ.2.1 57) ((x3_6 + (1 : Int32)) - (x3_6 + (1 : Int32)) / a1 * a1).toNatClampNeg)).toNatClampNeg).toInt := i_le c5
            refine lv_iload_n hx hb dX9_strikeOf_52 rfl (lv_at hl 2 rfl) ?_
            exact K4 _ _ _ ((if_pos c5).symm) h
          · have ic5 : ((τ.2.1 53) (((38 : Int32) + ((6 : Int32) * ((τ.2.1 57) x3_6.toNatClampNeg))) + ((τ.2.1 57) ((x3_6 + (1 : Int32)) - (x3_6 + (1 : Int32)) / a1 * a1).toNatClampNeg)).toNatClampNeg).toInt < x2_6.toInt := i_nle c5
            refine lv_iload hx hb dX9_strikeOf_47 (lv_at hl 0 rfl) ?_
            refine lv_goto (tgt := 53) hx hb dX9_strikeOf_49 (by decide) ?_
            exact K4 _ _ _ ((if_neg c5).symm) h
  have q6_3 : (0 : Int32).toInt = 0 := rfl
  exact L6 7 (0 : Int32) (999 : Int32) _ _ ls ((show 0 ≤ (0 : Int32).toInt ∧ (0 : Int32).toInt ≤ 6 ∧ (0 : Int32).toInt + (7 : Nat) = 7 from by omega)) hF h (lv_sub hl [0, 1, 2, 3] rfl)

def F_X9_tries_L62 : Nat → St → Int32 → Int32 → Int32 → St → St
  | 0, _, _, _, _, m62 => m62
  | n + 1, τ, a1, v2, x4_62, m62 => (if a1 ≤ x4_62 then m62 else (F_X9_tries_L62  n τ a1 v2 (x4_62 + (1 : Int32)) (sa m62 58 (upd (m62.2.1 58) x4_62.toNatClampNeg ((m62.2.1 57) x4_62.toNatClampNeg)))))
def F_X9_tries_L62_10 : Nat → St → Int32 → Int32 → Int32 → St → St
  | 0, _, _, _, _, m62 => m62
  | n + 1, τ, a1, v2, x4_62, m62 => (if a1 ≤ x4_62 then m62 else (F_X9_tries_L62_10  n τ a1 v2 (x4_62 + (1 : Int32)) (sa m62 58 (upd (m62.2.1 58) x4_62.toNatClampNeg ((m62.2.1 57) x4_62.toNatClampNeg)))))
def F_X9_tries_k11_3 (τ : St) (a1 : Int32) (v2 : Int32) : St := (if v2 ≤ 0 then τ else (if 0 < ((v2 * a1) - ((τ.1 1554) * (τ.1 1553))) then (F_X9_tries_L62  7 τ a1 v2 (0 : Int32) (si (si τ 1553 a1) 1554 v2)) else (if ((v2 * a1) - ((τ.1 1554) * (τ.1 1553))) = 0 then (if (τ.1 1553) ≤ a1 then τ else (F_X9_tries_L62_10  7 τ a1 v2 (0 : Int32) (si (si τ 1553 a1) 1554 v2))) else τ)))
def F_X9_tries (τ : St) (a1 : Int32) : St := (if (2 : Int32) ≤ a1 then (F_X9_tries_k11_3 τ a1 (F_X9_strikeOf τ a1)) else τ)
abbrev I_X9_tries : List Nat := [1553, 1554]
abbrev A_X9_tries : List Nat := [58]
theorem fr_F_X9_tries_L62_w (τ : St) (a1 : Int32) (v2 : Int32) : ∀ (n : Nat) (x4_62 : Int32) (m62 : St), Fr I_X9_tries A_X9_tries false τ m62 → Fr I_X9_tries A_X9_tries false τ (F_X9_tries_L62  n τ a1 v2 x4_62 m62)
  | 0, x4_62, m62, hfr => hfr
  | n + 1, x4_62, m62, hfr => (fr_ite1 hfr ((fun y1 y2 hy => fr_F_X9_tries_L62_w  τ a1 v2  n y1 y2 hy) (x4_62 + (1 : Int32)) (sa m62 58 (upd (m62.2.1 58) x4_62.toNatClampNeg ((m62.2.1 57) x4_62.toNatClampNeg))) (Fr.sa (by decide) hfr)))
theorem fr_F_X9_tries_L62 (n : Nat) (τ : St) (a1 : Int32) (v2 : Int32) (x4_62 : Int32) (m62 : St) (hfr : Fr I_X9_tries A_X9_tries false τ (m62)) : Fr I_X9_tries A_X9_tries false τ (F_X9_tries_L62  n τ a1 v2 x4_62 m62) := fr_F_X9_tries_L62_w  τ a1 v2  n x4_62 m62 hfr
theorem fr_F_X9_tries_L62_10_w (τ : St) (a1 : Int32) (v2 : Int32) : ∀ (n : Nat) (x4_62 : Int32) (m62 : St), Fr I_X9_tries A_X9_tries false τ m62 → Fr I_X9_tries A_X9_tries false τ (F_X9_tries_L62_10  n τ a1 v2 x4_62 m62)
  | 0, x4_62, m62, hfr => hfr
  | n + 1, x4_62, m62, hfr => (fr_ite1 hfr ((fun y1 y2 hy => fr_F_X9_tries_L62_10_w  τ a1 v2  n y1 y2 hy) (x4_62 + (1 : Int32)) (sa m62 58 (upd (m62.2.1 58) x4_62.toNatClampNeg ((m62.2.1 57) x4_62.toNatClampNeg))) (Fr.sa (by decide) hfr)))
theorem fr_F_X9_tries_L62_10 (n : Nat) (τ : St) (a1 : Int32) (v2 : Int32) (x4_62 : Int32) (m62 : St) (hfr : Fr I_X9_tries A_X9_tries false τ (m62)) : Fr I_X9_tries A_X9_tries false τ (F_X9_tries_L62_10  n τ a1 v2 x4_62 m62) := fr_F_X9_tries_L62_10_w  τ a1 v2  n x4_62 m62 hfr
theorem fr_F_X9_tries_k11_3 (τ : St) (a1 : Int32) (v2 : Int32) : Fr I_X9_tries A_X9_tries false τ (F_X9_tries_k11_3  τ a1 v2) := (fr_ite1 Fr.rf (fr_ite1 (fr_F_X9_tries_L62  7 τ a1 v2 (0 : Int32) (si (si τ 1553 a1) 1554 v2) (Fr.si (by decide) (Fr.si (by decide) Fr.rf))) (fr_ite1 (fr_ite1 Fr.rf (fr_F_X9_tries_L62_10  7 τ a1 v2 (0 : Int32) (si (si τ 1553 a1) 1554 v2) (Fr.si (by decide) (Fr.si (by decide) Fr.rf)))) Fr.rf)))
theorem fr_F_X9_tries (τ : St) (a1 : Int32) : Fr I_X9_tries A_X9_tries false τ (F_X9_tries τ a1) := (fr_ite1 (fr_F_X9_tries_k11_3 τ a1 (F_X9_strikeOf τ a1) ) Fr.rf)
set_option maxHeartbeats 4000000 in
set_option maxRecDepth 20000 in
theorem c_X9_tries (l : Launch) (D : va_G) (cI cZ : ClassId) (z : Nat) (ad : Nat → Nat) (σ τ : St) (a1 : Int32) (ha_ : 1 ≤ a1.toInt ∧ a1.toInt ≤ 6) (hw1_ : WK τ) : gM l yX9_tries cX9_tries 5 none 2 D cI cZ z (gws ad cI cZ σ τ) [.ref (ad 48), .int a1] none (gws ad cI cZ σ (F_X9_tries τ a1)) := by
  refine g_met (own := RX9) (by decide) rfl (Nat.le_of_ble_eq_true rfl) (fun p e s m below meth c ls Q E hr hlk h hl hQ => ?_)
  have hx := E.1
  have hb := E.2.1
  have hF : (F_X9_tries τ a1) = (F_X9_tries τ a1) := rfl
  have hl : lv_has ls 5 [(0, .ref (ad 48)), (1, .int a1)] := hl
  refine lv_iload_n hx hb dX9_tries_0 rfl (lv_at hl 1 rfl) ?_
  refine lv_iconst (v := 2) hx hb dX9_tries_1 (by decide) ?_
  refine lv_icmp_ge (tgt := 9) hx hb dX9_tries_2 (by decide) (fun c1 => ?_) (fun c1 => ?_)
  · have ic1 : 2 ≤ a1.toInt := i_le c1
    have hF := (if_pos c1).symm.trans hF
    refine lv_aload_n hx hb dX9_tries_9 rfl (lv_at hl 0 rfl) ?_
    refine lv_iload_n hx hb dX9_tries_10 rfl (lv_at hl 1 rfl) ?_
    refine g_callVh (F_X9_strikeOf τ a1) (rest := []) E h (c_X9_strikeOf l D cI cZ z ad σ τ a1 (show 2 ≤ a1.toInt ∧ a1.toInt ≤ 6 from by omega) (show WK τ from by omega)) mw_995 cbX9_strikeOf 48 rfl rfl ⟨by decide, by decide⟩ rfl rfl hl.1 (Nat.le_of_ble_eq_true rfl) ⟨Nat.zero_le _, Nat.zero_le _⟩ dX9_tries_11 (fun v2 huv2 H locs h => ?_)
    have hF : F_X9_tries_k11_3 τ a1 v2 = (F_X9_tries τ a1) := by rw [← huv2]; exact hF
    refine lv_istore_n (lv' := [(2, .int v2), (0, .ref (ad 48)), (1, .int a1)]) hx hb dX9_tries_14 rfl hl (by decide) rfl (fun ls hl => ?_)
    refine lv_iload_n hx hb dX9_tries_15 rfl (lv_at hl 0 rfl) ?_
    refine lv_iload_n hx hb dX9_tries_16 rfl (lv_at hl 2 rfl) ?_
    refine lv_imul hx hb dX9_tries_17 ?_
    refine lv_aload_n hx hb dX9_tries_18 rfl (lv_at hl 1 rfl) ?_
    refine g_get (v := .int (τ.1 1554)) E h 48 rfl rfl layX9 18 (by decide) rfl mw_837 rfl dX9_tries_19 ?_
    refine lv_aload_n hx hb dX9_tries_22 rfl (lv_at hl 1 rfl) ?_
    refine g_get (v := .int (τ.1 1553)) E h 48 rfl rfl layX9 17 (by decide) rfl mw_836 rfl dX9_tries_23 ?_
    refine lv_imul hx hb dX9_tries_26 ?_
    refine lv_isub hx hb dX9_tries_27 ?_
    refine lv_istore_n (lv' := [(3, .int ((v2 * a1) - ((τ.1 1554) * (τ.1 1553)))), (2, .int v2), (0, .ref (ad 48)), (1, .int a1)]) hx hb dX9_tries_28 rfl hl (by decide) rfl (fun ls hl => ?_)
    refine lv_iload_n hx hb dX9_tries_29 rfl (lv_at hl 1 rfl) ?_
    refine lv_if_le (tgt := 88) hx hb dX9_tries_30 (by decide) (fun c4 => ?_) (fun c4 => ?_)
    · have ic4 : v2.toInt ≤ 0 := i_le c4
      have hF := (if_pos c4).symm.trans hF
      exact g_vret E hr hlk h hQ (congrArg (fun u => gws ad cI cZ σ u) hF) dX9_tries_88
    · have ic4 : 0 < v2.toInt := i_nle c4
      have hF := (if_neg c4).symm.trans hF
      refine lv_iload_n hx hb dX9_tries_33 rfl (lv_at hl 0 rfl) ?_
      refine lv_if_gt (tgt := 49) hx hb dX9_tries_34 (by decide) (fun c5 => ?_) (fun c5 => ?_)
      · have ic5 : 0 < ((v2 * a1) - ((τ.1 1554) * (τ.1 1553))).toInt := i_lt c5
        have hF := (if_pos c5).symm.trans hF
        refine lv_aload_n hx hb dX9_tries_49 rfl (lv_at hl 2 rfl) ?_
        refine lv_iload_n hx hb dX9_tries_50 rfl (lv_at hl 3 rfl) ?_
        refine g_put (v := .int a1) (ty := .int) (ws' := gws ad cI cZ σ (si τ 1553 a1)) E h 48 rfl rfl layX9 tyX9 tyX9_ok nmX9 17 (by decide) rfl mw_836 rfl rfl rfl rfl (Nat.le_of_ble_eq_true rfl) (gi_1553 ad cI cZ σ τ a1) dX9_tries_51 (fun H locs h => ?_)
        refine lv_aload_n hx hb dX9_tries_54 rfl (lv_at hl 2 rfl) ?_
        refine lv_iload_n hx hb dX9_tries_55 rfl (lv_at hl 1 rfl) ?_
        refine g_put (v := .int v2) (ty := .int) (ws' := gws ad cI cZ σ (si (si τ 1553 a1) 1554 v2)) E h 48 rfl rfl layX9 tyX9 tyX9_ok nmX9 18 (by decide) rfl mw_837 rfl rfl rfl rfl (Nat.le_of_ble_eq_true rfl) (gi_1554 ad cI cZ σ (si τ 1553 a1) v2) dX9_tries_56 (fun H locs h => ?_)
        refine lv_iconst (v := 0) hx hb dX9_tries_59 (by decide) ?_
        refine lv_istore (lv' := [(4, .int (0 : Int32)), (3, .int ((v2 * a1) - ((τ.1 1554) * (τ.1 1553)))), (2, .int v2), (0, .ref (ad 48)), (1, .int a1)]) hx hb dX9_tries_60 hl (by decide) rfl (fun ls hl => ?_)
        have L62 : ∀ (n62 : Nat) (x4_62 : Int32) (m62 : St) (H : Heap) (locs : List Loc) (ls : Array Slot), (0 ≤ x4_62.toInt ∧ x4_62.toInt ≤ 6 ∧ x4_62.toInt + n62 = 7) → F_X9_tries_L62  n62 τ a1 v2 x4_62 m62 = (F_X9_tries τ a1) → gH D z s (gws ad cI cZ σ m62) H locs → lv_has ls 5 [(4, .int x4_62), (3, .int ((v2 * a1) - ((τ.1 1554) * (τ.1 1553)))), (2, .int v2), (0, .ref (ad 48)), (1, .int a1)] → W p l e (rmH 2) s m ([.ref (ad 48), .int a1] : List Value).toArray below meth c H locs 0 0 Q (F0 m 62 ls []) := by
          clear hF h hl
          intro n62
          induction n62 with
          | zero =>
            intro x4_62 m62 H locs ls hI
            exact absurd hI (by omega)
          | succ n62 ih62 =>
            intro x4_62 m62 H locs ls hI62 hF h hl
            refine lv_iload hx hb dX9_tries_62 (lv_at hl 0 rfl) ?_
            refine lv_iload_n hx hb dX9_tries_64 rfl (lv_at hl 4 rfl) ?_
            refine lv_icmp_ge (tgt := 88) hx hb dX9_tries_65 (by decide) (fun c7 => ?_) (fun c7 => ?_)
            · have ic7 : a1.toInt ≤ x4_62.toInt := i_le c7
              have hF := (if_pos c7).symm.trans hF
              exact g_vret E hr hlk h hQ (congrArg (fun u => gws ad cI cZ σ u) hF) dX9_tries_88
            · have ic7 : x4_62.toInt < a1.toInt := i_nle c7
              have hF := (if_neg c7).symm.trans hF
              refine lv_aload_n hx hb dX9_tries_68 rfl (lv_at hl 3 rfl) ?_
              refine g_get (v := .ref (ad 58)) E h 48 rfl rfl layX9 16 (by decide) rfl mw_835 rfl dX9_tries_69 ?_
              refine lv_iload hx hb dX9_tries_72 (lv_at hl 0 rfl) ?_
              refine lv_aload_n hx hb dX9_tries_74 rfl (lv_at hl 3 rfl) ?_
              refine g_get (v := .ref (ad 57)) E h 48 rfl rfl layX9 15 (by decide) rfl mw_834 rfl dX9_tries_75 ?_
              refine lv_iload hx hb dX9_tries_78 (lv_at hl 0 rfl) ?_
              refine g_iald (f := (m62.2.1 57)) E h 57 rfl (ix_of (oI_at x4_62) (by omega) (by decide)) dX9_tries_80 ?_
              refine g_iast (f := (m62.2.1 58)) (ws' := gws ad cI cZ σ (sa m62 58 (upd (m62.2.1 58) x4_62.toNatClampNeg ((m62.2.1 57) x4_62.toNatClampNeg)))) E h 58 rfl (ix_of (oI_at x4_62) (by omega) (by decide)) (ga_58 ad cI cZ σ m62 (upd (m62.2.1 58) x4_62.toNatClampNeg ((m62.2.1 57) x4_62.toNatClampNeg))) dX9_tries_81 (fun H locs h => ?_)
              refine lv_iinc (v := (x4_62 + (1 : Int32))) (lv' := [(4, .int (x4_62 + (1 : Int32))), (3, .int ((v2 * a1) - ((τ.1 1554) * (τ.1 1553)))), (2, .int v2), (0, .ref (ad 48)), (1, .int a1)]) hx hb dX9_tries_82 hl (k := 0) rfl rfl (by decide) rfl (fun ls hl => ?_)
              refine lv_goto (tgt := 62) hx hb dX9_tries_85 (by decide) ?_
              have e62_4 : (x4_62 + (1 : Int32)).toInt = _ := ti_of (oI_add (oI_at x4_62) (oI_lit (x := 1) (a := 1) rfl)) (by omega)
              exact ih62 (x4_62 + (1 : Int32)) (sa m62 58 (upd (m62.2.1 58) x4_62.toNatClampNeg ((m62.2.1 57) x4_62.toNatClampNeg))) _ _ ls ((show 0 ≤ (x4_62 + (1 : Int32)).toInt ∧ (x4_62 + (1 : Int32)).toInt ≤ 6 ∧ (x4_62 + (1 : Int32)).toInt + n62 = 7 from by omega)) hF h (lv_sub hl [0, 1, 2, 3, 4] rfl)
        have q62_4 : (0 : Int32).toInt = 0 := rfl
        exact L62 7 (0 : Int32) (si (si τ 1553 a1) 1554 v2) _ _ ls ((show 0 ≤ (0 : Int32).toInt ∧ (0 : Int32).toInt ≤ 6 ∧ (0 : Int32).toInt + (7 : Nat) = 7 from by omega)) hF h (lv_sub hl [0, 1, 2, 3, 4] rfl)
      · have ic5 : ((v2 * a1) - ((τ.1 1554) * (τ.1 1553))).toInt ≤ 0 := i_nlt c5
        have hF := (if_neg c5).symm.trans hF
        refine lv_iload_n hx hb dX9_tries_37 rfl (lv_at hl 0 rfl) ?_
        refine lv_if_ne (tgt := 88) hx hb dX9_tries_38 (by decide) (fun c8 => ?_) (fun c8 => ?_)
        · have ic8 : ((v2 * a1) - ((τ.1 1554) * (τ.1 1553))).toInt ≠ 0 := i_ne c8
          have hF := (if_neg c8).symm.trans hF
          exact g_vret E hr hlk h hQ (congrArg (fun u => gws ad cI cZ σ u) hF) dX9_tries_88
        · have ic8 : ((v2 * a1) - ((τ.1 1554) * (τ.1 1553))).toInt = 0 := i_eq c8
          have hF := (if_pos c8).symm.trans hF
          refine lv_iload_n hx hb dX9_tries_41 rfl (lv_at hl 3 rfl) ?_
          refine lv_aload_n hx hb dX9_tries_42 rfl (lv_at hl 2 rfl) ?_
          refine g_get (v := .int (τ.1 1553)) E h 48 rfl rfl layX9 17 (by decide) rfl mw_836 rfl dX9_tries_43 ?_
          refine lv_icmp_ge (tgt := 88) hx hb dX9_tries_46 (by decide) (fun c9 => ?_) (fun c9 => ?_)
          · have ic9 : (τ.1 1553).toInt ≤ a1.toInt := i_le c9
            have hF := (if_pos c9).symm.trans hF
            exact g_vret E hr hlk h hQ (congrArg (fun u => gws ad cI cZ σ u) hF) dX9_tries_88
          · have ic9 : a1.toInt < (τ.1 1553).toInt := i_nle c9
            have hF := (if_neg c9).symm.trans hF
            refine lv_aload_n hx hb dX9_tries_49 rfl (lv_at hl 2 rfl) ?_
            refine lv_iload_n hx hb dX9_tries_50 rfl (lv_at hl 3 rfl) ?_
            refine g_put (v := .int a1) (ty := .int) (ws' := gws ad cI cZ σ (si τ 1553 a1)) E h 48 rfl rfl layX9 tyX9 tyX9_ok nmX9 17 (by decide) rfl mw_836 rfl rfl rfl rfl (Nat.le_of_ble_eq_true rfl) (gi_1553 ad cI cZ σ τ a1) dX9_tries_51 (fun H locs h => ?_)
            refine lv_aload_n hx hb dX9_tries_54 rfl (lv_at hl 2 rfl) ?_
            refine lv_iload_n hx hb dX9_tries_55 rfl (lv_at hl 1 rfl) ?_
            refine g_put (v := .int v2) (ty := .int) (ws' := gws ad cI cZ σ (si (si τ 1553 a1) 1554 v2)) E h 48 rfl rfl layX9 tyX9 tyX9_ok nmX9 18 (by decide) rfl mw_837 rfl rfl rfl rfl (Nat.le_of_ble_eq_true rfl) (gi_1554 ad cI cZ σ (si τ 1553 a1) v2) dX9_tries_56 (fun H locs h => ?_)
            refine lv_iconst (v := 0) hx hb dX9_tries_59 (by decide) ?_
            refine lv_istore (lv' := [(4, .int (0 : Int32)), (3, .int ((v2 * a1) - ((τ.1 1554) * (τ.1 1553)))), (2, .int v2), (0, .ref (ad 48)), (1, .int a1)]) hx hb dX9_tries_60 hl (by decide) rfl (fun ls hl => ?_)
            have L62 : ∀ (n62 : Nat) (x4_62 : Int32) (m62 : St) (H : Heap) (locs : List Loc) (ls : Array Slot), (0 ≤ x4_62.toInt ∧ x4_62.toInt ≤ 6 ∧ x4_62.toInt + n62 = 7) → F_X9_tries_L62_10  n62 τ a1 v2 x4_62 m62 = (F_X9_tries τ a1) → gH D z s (gws ad cI cZ σ m62) H locs → lv_has ls 5 [(4, .int x4_62), (3, .int ((v2 * a1) - ((τ.1 1554) * (τ.1 1553)))), (2, .int v2), (0, .ref (ad 48)), (1, .int a1)] → W p l e (rmH 2) s m ([.ref (ad 48), .int a1] : List Value).toArray below meth c H locs 0 0 Q (F0 m 62 ls []) := by
              clear hF h hl
              intro n62
              induction n62 with
              | zero =>
                intro x4_62 m62 H locs ls hI
                exact absurd hI (by omega)
              | succ n62 ih62 =>
                intro x4_62 m62 H locs ls hI62 hF h hl
                refine lv_iload hx hb dX9_tries_62 (lv_at hl 0 rfl) ?_
                refine lv_iload_n hx hb dX9_tries_64 rfl (lv_at hl 4 rfl) ?_
                refine lv_icmp_ge (tgt := 88) hx hb dX9_tries_65 (by decide) (fun c11 => ?_) (fun c11 => ?_)
                · have ic11 : a1.toInt ≤ x4_62.toInt := i_le c11
                  have hF := (if_pos c11).symm.trans hF
                  exact g_vret E hr hlk h hQ (congrArg (fun u => gws ad cI cZ σ u) hF) dX9_tries_88
                · have ic11 : x4_62.toInt < a1.toInt := i_nle c11
                  have hF := (if_neg c11).symm.trans hF
                  refine lv_aload_n hx hb dX9_tries_68 rfl (lv_at hl 3 rfl) ?_
                  refine g_get (v := .ref (ad 58)) E h 48 rfl rfl layX9 16 (by decide) rfl mw_835 rfl dX9_tries_69 ?_
                  refine lv_iload hx hb dX9_tries_72 (lv_at hl 0 rfl) ?_
                  refine lv_aload_n hx hb dX9_tries_74 rfl (lv_at hl 3 rfl) ?_
                  refine g_get (v := .ref (ad 57)) E h 48 rfl rfl layX9 15 (by decide) rfl mw_834 rfl dX9_tries_75 ?_
                  refine lv_iload hx hb dX9_tries_78 (lv_at hl 0 rfl) ?_
                  refine g_iald (f := (m62.2.1 57)) E h 57 rfl (ix_of (oI_at x4_62) (by omega) (by decide)) dX9_tries_80 ?_
                  refine g_iast (f := (m62.2.1 58)) (ws' := gws ad cI cZ σ (sa m62 58 (upd (m62.2.1 58) x4_62.toNatClampNeg ((m62.2.1 57) x4_62.toNatClampNeg)))) E h 58 rfl (ix_of (oI_at x4_62) (by omega) (by decide)) (ga_58 ad cI cZ σ m62 (upd (m62.2.1 58) x4_62.toNatClampNeg ((m62.2.1 57) x4_62.toNatClampNeg))) dX9_tries_81 (fun H locs h => ?_)
                  refine lv_iinc (v := (x4_62 + (1 : Int32))) (lv' := [(4, .int (x4_62 + (1 : Int32))), (3, .int ((v2 * a1) - ((τ.1 1554) * (τ.1 1553)))), (2, .int v2), (0, .ref (ad 48)), (1, .int a1)]) hx hb dX9_tries_82 hl (k := 0) rfl rfl (by decide) rfl (fun ls hl => ?_)
                  refine lv_goto (tgt := 62) hx hb dX9_tries_85 (by decide) ?_
                  have e62_4 : (x4_62 + (1 : Int32)).toInt = _ := ti_of (oI_add (oI_at x4_62) (oI_lit (x := 1) (a := 1) rfl)) (by omega)
                  exact ih62 (x4_62 + (1 : Int32)) (sa m62 58 (upd (m62.2.1 58) x4_62.toNatClampNeg ((m62.2.1 57) x4_62.toNatClampNeg))) _ _ ls ((show 0 ≤ (x4_62 + (1 : Int32)).toInt ∧ (x4_62 + (1 : Int32)).toInt ≤ 6 ∧ (x4_62 + (1 : Int32)).toInt + n62 = 7 from by omega)) hF h (lv_sub hl [0, 1, 2, 3, 4] rfl)
            have q62_4 : (0 : Int32).toInt = 0 := rfl
            exact L62 7 (0 : Int32) (si (si τ 1553 a1) 1554 v2) _ _ ls ((show 0 ≤ (0 : Int32).toInt ∧ (0 : Int32).toInt ≤ 6 ∧ (0 : Int32).toInt + (7 : Nat) = 7 from by omega)) hF h (lv_sub hl [0, 1, 2, 3, 4] rfl)
  · have ic1 : a1.toInt < 2 := i_nle c1
    have hF := (if_neg c1).symm.trans hF
    refine lv_iconst (v := 0) hx hb dX9_tries_5 (by decide) ?_
    refine lv_goto (tgt := 14) hx hb dX9_tries_6 (by decide) ?_
    refine lv_istore_n (lv' := [(2, .int (0 : Int32)), (0, .ref (ad 48)), (1, .int a1)]) hx hb dX9_tries_14 rfl hl (by decide) rfl (fun ls hl => ?_)
    refine lv_iload_n hx hb dX9_tries_15 rfl (lv_at hl 0 rfl) ?_
    refine lv_iload_n hx hb dX9_tries_16 rfl (lv_at hl 2 rfl) ?_
    refine lv_imul hx hb dX9_tries_17 ?_
    refine lv_aload_n hx hb dX9_tries_18 rfl (lv_at hl 1 rfl) ?_
    refine g_get (v := .int (τ.1 1554)) E h 48 rfl rfl layX9 18 (by decide) rfl mw_837 rfl dX9_tries_19 ?_
    refine lv_aload_n hx hb dX9_tries_22 rfl (lv_at hl 1 rfl) ?_
    refine g_get (v := .int (τ.1 1553)) E h 48 rfl rfl layX9 17 (by decide) rfl mw_836 rfl dX9_tries_23 ?_
    refine lv_imul hx hb dX9_tries_26 ?_
    refine lv_isub hx hb dX9_tries_27 ?_
    refine lv_istore_n (lv' := [(3, .int (((0 : Int32) * a1) - ((τ.1 1554) * (τ.1 1553)))), (2, .int (0 : Int32)), (0, .ref (ad 48)), (1, .int a1)]) hx hb dX9_tries_28 rfl hl (by decide) rfl (fun ls hl => ?_)
    refine lv_iload_n hx hb dX9_tries_29 rfl (lv_at hl 1 rfl) ?_
    refine lv_if_le (tgt := 88) hx hb dX9_tries_30 (by decide) (fun c12 => ?_) (fun c12 => ?_)
    · exact g_vret E hr hlk h hQ (congrArg (fun u => gws ad cI cZ σ u) hF) dX9_tries_88
    · exact absurd c12 (by decide)

def F_X9_mayWalk_L43 : Nat → St → Int32 → Int32 → Int32 → Int32 → Int32
  | 0, _, _, _, _, _ => 0
  | n + 1, τ, a1, a2, x4_43, x3_43 => (if a1 ≤ x4_43 then x3_43 else (F_X9_mayWalk_L43  n τ a1 a2 (x4_43 + (1 : Int32)) (if x3_43 = 0 then (0 : Int32) else (if ((τ.2.1 57) x4_43.toNatClampNeg) = a2 then (0 : Int32) else (1 : Int32)))))
def F_X9_mayWalk (τ : St) (a1 : Int32) (a2 : Int32) : Int32 := (F_X9_mayWalk_L43  7 τ a1 a2 (0 : Int32) (if a2 ≤ ((τ.2.1 57) 0) then (0 : Int32) else (if ((τ.2.1 53) (((38 : Int32) + ((6 : Int32) * ((τ.2.1 57) (a1 - (1 : Int32)).toNatClampNeg))) + a2).toNatClampNeg) ≤ 0 then (0 : Int32) else (1 : Int32))))
set_option maxHeartbeats 4000000 in
set_option maxRecDepth 20000 in
theorem c_X9_mayWalk (l : Launch) (D : va_G) (cI cZ : ClassId) (z : Nat) (ad : Nat → Nat) (σ τ : St) (a1 a2 : Int32) (ha_ : 1 ≤ a1.toInt ∧ a1.toInt ≤ 6) (hb_ : 0 ≤ a2.toInt ∧ a2.toInt < 6) (hw1_ : WK τ) : gM l yX9_mayWalk cX9_mayWalk 5 (some .boolean) 1 D cI cZ z (gws ad cI cZ σ τ) [.ref (ad 48), .int a1, .int a2] (some (.int (F_X9_mayWalk τ a1 a2))) (gws ad cI cZ σ τ) := by
  refine g_met (own := RX9) (by decide) rfl (Nat.le_of_ble_eq_true rfl) (fun p e s m below meth c ls Q E hr hlk h hl hQ => ?_)
  have hx := E.1
  have hb := E.2.1
  have hF : (F_X9_mayWalk τ a1 a2) = (F_X9_mayWalk τ a1 a2) := rfl
  have hl : lv_has ls 5 [(0, .ref (ad 48)), (1, .int a1), (2, .int a2)] := hl
  refine lv_iload_n hx hb dX9_mayWalk_0 rfl (lv_at hl 2 rfl) ?_
  refine lv_aload_n hx hb dX9_mayWalk_1 rfl (lv_at hl 0 rfl) ?_
  refine g_get (v := .ref (ad 57)) E h 48 rfl rfl layX9 15 (by decide) rfl mw_834 rfl dX9_mayWalk_2 ?_
  refine lv_iconst (v := 0) hx hb dX9_mayWalk_5 (by decide) ?_
  refine g_ialdk (f := (τ.2.1 57)) E h 57 rfl 0 rfl (ix_of (oI_lit (x := 0) (a := 0) rfl) (by omega) (by decide)) dX9_mayWalk_6 ?_
  refine g_dia (D := D) (z := z) (ws := gws ad cI cZ σ τ) (rest := []) 39 (if a2 ≤ ((τ.2.1 57) 0) then (0 : Int32) else (if ((τ.2.1 53) (((38 : Int32) + ((6 : Int32) * ((τ.2.1 57) (a1 - (1 : Int32)).toNatClampNeg))) + a2).toNatClampNeg) ≤ 0 then (0 : Int32) else (1 : Int32))) (fun H locs h => ?_) (fun K3 => ?_)
  · refine lv_istore_n (lv' := [(3, .int (if a2 ≤ ((τ.2.1 57) 0) then (0 : Int32) else (if ((τ.2.1 53) (((38 : Int32) + ((6 : Int32) * ((τ.2.1 57) (a1 - (1 : Int32)).toNatClampNeg))) + a2).toNatClampNeg) ≤ 0 then (0 : Int32) else (1 : Int32)))), (0, .ref (ad 48)), (1, .int a1), (2, .int a2)]) hx hb dX9_mayWalk_39 rfl hl (by decide) rfl (fun ls hl => ?_)
    refine lv_iconst (v := 0) hx hb dX9_mayWalk_40 (by decide) ?_
    refine lv_istore (lv' := [(4, .int (0 : Int32)), (3, .int (if a2 ≤ ((τ.2.1 57) 0) then (0 : Int32) else (if ((τ.2.1 53) (((38 : Int32) + ((6 : Int32) * ((τ.2.1 57) (a1 - (1 : Int32)).toNatClampNeg))) + a2).toNatClampNeg) ≤ 0 then (0 : Int32) else (1 : Int32)))), (0, .ref (ad 48)), (1, .int a1), (2, .int a2)]) hx hb dX9_mayWalk_41 hl (by decide) rfl (fun ls hl => ?_)
    have L43 : ∀ (n43 : Nat) (x4_43 : Int32) (x3_43 : Int32) (H : Heap) (locs : List Loc) (ls : Array Slot), ((0 ≤ x4_43.toInt ∧ x4_43.toInt ≤ 6 ∧ x4_43.toInt + n43 = 7) ∧ (x3_43.toInt = 0 ∨ x3_43.toInt = 1)) → F_X9_mayWalk_L43  n43 τ a1 a2 x4_43 x3_43 = (F_X9_mayWalk τ a1 a2) → gH D z s (gws ad cI cZ σ τ) H locs → lv_has ls 5 [(4, .int x4_43), (3, .int x3_43), (0, .ref (ad 48)), (1, .int a1), (2, .int a2)] → W p l e (rmH 1) s m ([.ref (ad 48), .int a1, .int a2] : List Value).toArray below meth c H locs 0 0 Q (F0 m 43 ls []) := by
      clear hF h hl
      intro n43
      induction n43 with
      | zero =>
        intro x4_43 x3_43 H locs ls hI
        exact absurd hI (by omega)
      | succ n43 ih43 =>
        intro x4_43 x3_43 H locs ls hI43 hF h hl
        refine lv_iload hx hb dX9_mayWalk_43 (lv_at hl 0 rfl) ?_
        refine lv_iload_n hx hb dX9_mayWalk_45 rfl (lv_at hl 3 rfl) ?_
        refine lv_icmp_ge (tgt := 76) hx hb dX9_mayWalk_46 (by decide) (fun c7 => ?_) (fun c7 => ?_)
        · have ic7 : a1.toInt ≤ x4_43.toInt := i_le c7
          have hF := (if_pos c7).symm.trans hF
          refine lv_iload_n hx hb dX9_mayWalk_76 rfl (lv_at hl 1 rfl) ?_
          exact g_zret E hr hlk h hQ (nar01i hI43.2) hF rfl dX9_mayWalk_77
        · have ic7 : x4_43.toInt < a1.toInt := i_nle c7
          have hF := (if_neg c7).symm.trans hF
          refine lv_iload_n hx hb dX9_mayWalk_49 rfl (lv_at hl 1 rfl) ?_
          refine g_dia (D := D) (z := z) (ws := gws ad cI cZ σ τ) (rest := []) 69 (if x3_43 = 0 then (0 : Int32) else (if ((τ.2.1 57) x4_43.toNatClampNeg) = a2 then (0 : Int32) else (1 : Int32))) (fun H locs h => ?_) (fun K10 => ?_)
          · refine lv_istore_n (lv' := [(3, .int (if x3_43 = 0 then (0 : Int32) else (if ((τ.2.1 57) x4_43.toNatClampNeg) = a2 then (0 : Int32) else (1 : Int32)))), (4, .int x4_43), (0, .ref (ad 48)), (1, .int a1), (2, .int a2)]) hx hb dX9_mayWalk_69 rfl hl (by decide) rfl (fun ls hl => ?_)
            refine lv_iinc (v := (x4_43 + (1 : Int32))) (lv' := [(4, .int (x4_43 + (1 : Int32))), (3, .int (if x3_43 = 0 then (0 : Int32) else (if ((τ.2.1 57) x4_43.toNatClampNeg) = a2 then (0 : Int32) else (1 : Int32)))), (0, .ref (ad 48)), (1, .int a1), (2, .int a2)]) hx hb dX9_mayWalk_70 hl (k := 1) rfl rfl (by decide) rfl (fun ls hl => ?_)
            refine lv_goto (tgt := 43) hx hb dX9_mayWalk_73 (by decide) ?_
            have e43_4 : (x4_43 + (1 : Int32)).toInt = _ := ti_of (oI_add (oI_at x4_43) (oI_lit (x := 1) (a := 1) rfl)) (by omega)
            exact ih43 (x4_43 + (1 : Int32)) (if x3_43 = 0 then (0 : Int32) else (if ((τ.2.1 57) x4_43.toNatClampNeg) = a2 then (0 : Int32) else (1 : Int32))) _ _ ls ((show (0 ≤ (x4_43 + (1 : Int32)).toInt ∧ (x4_43 + (1 : Int32)).toInt ≤ 6 ∧ (x4_43 + (1 : Int32)).toInt + n43 = 7) ∧ ((if x3_43 = 0 then (0 : Int32) else (if ((τ.2.1 57) x4_43.toNatClampNeg) = a2 then (0 : Int32) else (1 : Int32))).toInt = 0 ∨ (if x3_43 = 0 then (0 : Int32) else (if ((τ.2.1 57) x4_43.toNatClampNeg) = a2 then (0 : Int32) else (1 : Int32))).toInt = 1) from by exact ⟨by omega, ite01i (by decide) (ite01i (by decide) (by decide))⟩)) hF h (lv_sub hl [0, 1, 2, 3, 4] rfl)
          · refine lv_if_eq (tgt := 68) hx hb dX9_mayWalk_50 (by decide) (fun c11 => ?_) (fun c11 => ?_)
            · have ic11 : x3_43.toInt = 0 := i_eq c11
              refine lv_iconst (v := 0) hx hb dX9_mayWalk_68 (by decide) ?_
              exact K10 _ _ _ ((if_pos c11).symm) h
            · have ic11 : x3_43.toInt ≠ 0 := i_ne c11
              refine lv_aload_n hx hb dX9_mayWalk_53 rfl (lv_at hl 2 rfl) ?_
              refine g_get (v := .ref (ad 57)) E h 48 rfl rfl layX9 15 (by decide) rfl mw_834 rfl dX9_mayWalk_54 ?_
              refine lv_iload hx hb dX9_mayWalk_57 (lv_at hl 0 rfl) ?_
              refine g_iald (f := (τ.2.1 57)) E h 57 rfl (ix_of (oI_at x4_43) (by omega) (by decide)) dX9_mayWalk_59 ?_
              refine lv_iload_n hx hb dX9_mayWalk_60 rfl (lv_at hl 4 rfl) ?_
              refine lv_icmp_eq (tgt := 68) hx hb dX9_mayWalk_61 (by decide) (fun c12 => ?_) (fun c12 => ?_)
              · have ic12 : ((τ.2.1 57) x4_43.toNatClampNeg).toInt = a2.toInt := i_eq c12
                refine lv_iconst (v := 0) hx hb dX9_mayWalk_68 (by decide) ?_
                exact K10 _ _ _ (((if_neg c11).trans (if_pos c12)).symm) h
              · have ic12 : ((τ.2.1 57) x4_43.toNatClampNeg).toInt ≠ a2.toInt := i_ne c12
                refine lv_iconst (v := 1) hx hb dX9_mayWalk_64 (by decide) ?_
                refine lv_goto (tgt := 69) hx hb dX9_mayWalk_65 (by decide) ?_
                exact K10 _ _ _ (((if_neg c11).trans (if_neg c12)).symm) h
    have q43_4 : (0 : Int32).toInt = 0 := rfl
    exact L43 7 (0 : Int32) (if a2 ≤ ((τ.2.1 57) 0) then (0 : Int32) else (if ((τ.2.1 53) (((38 : Int32) + ((6 : Int32) * ((τ.2.1 57) (a1 - (1 : Int32)).toNatClampNeg))) + a2).toNatClampNeg) ≤ 0 then (0 : Int32) else (1 : Int32))) _ _ ls ((show (0 ≤ (0 : Int32).toInt ∧ (0 : Int32).toInt ≤ 6 ∧ (0 : Int32).toInt + (7 : Nat) = 7) ∧ ((if a2 ≤ ((τ.2.1 57) 0) then (0 : Int32) else (if ((τ.2.1 53) (((38 : Int32) + ((6 : Int32) * ((τ.2.1 57) (a1 - (1 : Int32)).toNatClampNeg))) + a2).toNatClampNeg) ≤ 0 then (0 : Int32) else (1 : Int32))).toInt = 0 ∨ (if a2 ≤ ((τ.2.1 57) 0) then (0 : Int32) else (if ((τ.2.1 53) (((38 : Int32) + ((6 : Int32) * ((τ.2.1 57) (a1 - (1 : Int32)).toNatClampNeg))) + a2).toNatClampNeg) ≤ 0 then (0 : Int32) else (1 : Int32))).toInt = 1) from by exact ⟨by omega, ite01i (by decide) (ite01i (by decide) (by decide))⟩)) hF h (lv_sub hl [0, 1, 2, 3, 4] rfl)
  · refine lv_icmp_le (tgt := 38) hx hb dX9_mayWalk_7 (by decide) (fun c4 => ?_) (fun c4 => ?_)
    · have ic4 : a2.toInt ≤ ((τ.2.1 57) 0).toInt := i_le c4
      refine lv_iconst (v := 0) hx hb dX9_mayWalk_38 (by decide) ?_
      exact K3 _ _ _ ((if_pos c4).symm) h
    · have ic4 : ((τ.2.1 57) 0).toInt < a2.toInt := i_nle c4
      refine lv_aload_n hx hb dX9_mayWalk_10 rfl (lv_at hl 0 rfl) ?_
      refine g_get (v := .ref (ad 53)) E h 48 rfl rfl layX9 6 (by decide) rfl mw_825 rfl dX9_mayWalk_11 ?_
      refine lv_bipush (v := 38) hx hb dX9_mayWalk_14 (by decide) ?_
      refine lv_bipush (v := 6) hx hb dX9_mayWalk_16 (by decide) ?_
      have em : (a1 - (1 : Int32)).toInt = a1.toInt - 1 := ti_of (oI_sub (oI_at _) (oI_lit (x := 1) (a := 1) rfl)) (by omega)
      have w1 := WK.at hw1_ (a1 - (1 : Int32)) (by omega)
      refine lv_aload_n hx hb dX9_mayWalk_18 rfl (lv_at hl 0 rfl) ?_
      refine g_get (v := .ref (ad 57)) E h 48 rfl rfl layX9 15 (by decide) rfl mw_834 rfl dX9_mayWalk_19 ?_
      refine lv_iload_n hx hb dX9_mayWalk_22 rfl (lv_at hl 1 rfl) ?_
      refine lv_iconst (v := 1) hx hb dX9_mayWalk_23 (by decide) ?_
      refine lv_isub hx hb dX9_mayWalk_24 ?_
      refine g_iald (f := (τ.2.1 57)) E h 57 rfl (ix_of (oI_sub (oI_at a1) (oI_lit (x := 1) (a := 1) rfl)) (by omega) (by decide)) dX9_mayWalk_25 ?_
      refine lv_imul hx hb dX9_mayWalk_26 ?_
      refine lv_iadd hx hb dX9_mayWalk_27 ?_
      refine lv_iload_n hx hb dX9_mayWalk_28 rfl (lv_at hl 2 rfl) ?_
      refine lv_iadd hx hb dX9_mayWalk_29 ?_
      refine g_iald (f := (τ.2.1 53)) E h 53 rfl (ix_of (oI_add (oI_add (oI_lit (x := 38) (a := 38) rfl) (oI_mul (oI_lit (x := 6) (a := 6) rfl) (oI_at ((τ.2.1 57) (a1 - (1 : Int32)).toNatClampNeg)))) (oI_at a2)) (by omega) (by decide)) dX9_mayWalk_30 ?_
      refine lv_if_le (tgt := 38) hx hb dX9_mayWalk_31 (by decide) (fun c5 => ?_) (fun c5 => ?_)
      · have ic5 : ((τ.2.1 53) (((38 : Int32) + ((6 : Int32) * ((τ.2.1 57) (a1 - (1 : Int32)).toNatClampNeg))) + a2).toNatClampNeg).toInt ≤ 0 := i_le c5
        refine lv_iconst (v := 0) hx hb dX9_mayWalk_38 (by decide) ?_
        exact K3 _ _ _ (((if_neg c4).trans (if_pos c5)).symm) h
      · have ic5 : 0 < ((τ.2.1 53) (((38 : Int32) + ((6 : Int32) * ((τ.2.1 57) (a1 - (1 : Int32)).toNatClampNeg))) + a2).toNatClampNeg).toInt := i_nle c5
        refine lv_iconst (v := 1) hx hb dX9_mayWalk_34 (by decide) ?_
        refine lv_goto (tgt := 39) hx hb dX9_mayWalk_35 (by decide) ?_
        exact K3 _ _ _ (((if_neg c4).trans (if_neg c5)).symm) h
