def F_X9_strikes_L20 : Nat → St → St → St → Int32 → St → Int32 × St
  | 0, _, _, _, _, m20 => (0, m20)
  | n + 1, τ, u1, u4, x1_20, m20 => (if (m20.1 1553) ≤ x1_20 then (((m20.1 1553) * (m20.1 1554)), m20) else (F_X9_strikes_L20  n τ u1 u4 (x1_20 + (1 : Int32)) (sa m20 53 (upd (m20.2.1 53) (((38 : Int32) + ((6 : Int32) * ((m20.2.1 58) x1_20.toNatClampNeg))) + ((m20.2.1 58) ((x1_20 + (1 : Int32)) - (x1_20 + (1 : Int32)) / (m20.1 1553) * (m20.1 1553)).toNatClampNeg)).toNatClampNeg (((m20.2.1 53) (((38 : Int32) + ((6 : Int32) * ((m20.2.1 58) x1_20.toNatClampNeg))) + ((m20.2.1 58) ((x1_20 + (1 : Int32)) - (x1_20 + (1 : Int32)) / (m20.1 1553) * (m20.1 1553)).toNatClampNeg)).toNatClampNeg) - (m20.1 1554))))))
def F_X9_strikes_k15_5 (τ : St) (u1 : St) (u4 : St) : Int32 × St := (F_X9_strikes_L20  7 τ u1 u4 (0 : Int32) u4)
def F_X9_strikes_k1_2 (τ : St) (u1 : St) : Int32 × St := (if (u1.1 1553) = 0 then (((-2) : Int32), u1) else (F_X9_strikes_k15_5 τ u1 (F_X9_keeps u1)))
def F_X9_strikes (τ : St) : Int32 × St := (F_X9_strikes_k1_2 τ (F_X9_rings τ))
abbrev I_X9_strikes : List Nat := [1553, 1554]
abbrev A_X9_strikes : List Nat := [53, 57, 58]
theorem fr_F_X9_strikes_L20_w (τ : St) (u1 : St) (u4 : St) : ∀ (n : Nat) (x1_20 : Int32) (m20 : St), Fr I_X9_strikes A_X9_strikes false τ m20 → Fr I_X9_strikes A_X9_strikes false τ (F_X9_strikes_L20  n τ u1 u4 x1_20 m20).2
  | 0, x1_20, m20, hfr => hfr
  | n + 1, x1_20, m20, hfr => (fr_ite2 hfr ((fun y1 y2 hy => fr_F_X9_strikes_L20_w  τ u1 u4  n y1 y2 hy) (x1_20 + (1 : Int32)) (sa m20 53 (upd (m20.2.1 53) (((38 : Int32) + ((6 : Int32) * ((m20.2.1 58) x1_20.toNatClampNeg))) + ((m20.2.1 58) ((x1_20 + (1 : Int32)) - (x1_20 + (1 : Int32)) / (m20.1 1553) * (m20.1 1553)).toNatClampNeg)).toNatClampNeg (((m20.2.1 53) (((38 : Int32) + ((6 : Int32) * ((m20.2.1 58) x1_20.toNatClampNeg))) + ((m20.2.1 58) ((x1_20 + (1 : Int32)) - (x1_20 + (1 : Int32)) / (m20.1 1553) * (m20.1 1553)).toNatClampNeg)).toNatClampNeg) - (m20.1 1554)))) (Fr.sa (by decide) hfr)))
theorem fr_F_X9_strikes_L20 (n : Nat) (τ : St) (u1 : St) (u4 : St) (x1_20 : Int32) (m20 : St) (hfr : Fr I_X9_strikes A_X9_strikes false τ (m20)) : Fr I_X9_strikes A_X9_strikes false τ (F_X9_strikes_L20  n τ u1 u4 x1_20 m20).2 := fr_F_X9_strikes_L20_w  τ u1 u4  n x1_20 m20 hfr
theorem fr_F_X9_strikes_k15_5 (τ : St) (u1 : St) (u4 : St) (hfr : Fr I_X9_strikes A_X9_strikes false τ (u4)) : Fr I_X9_strikes A_X9_strikes false τ (F_X9_strikes_k15_5  τ u1 u4).2 := (fr_F_X9_strikes_L20  7 τ u1 u4 (0 : Int32) u4 hfr)
theorem fr_F_X9_strikes_k1_2 (τ : St) (u1 : St) (hfr : Fr I_X9_strikes A_X9_strikes false τ (u1)) : Fr I_X9_strikes A_X9_strikes false τ (F_X9_strikes_k1_2  τ u1).2 := (fr_ite2 hfr (fr_F_X9_strikes_k15_5 τ u1 (F_X9_keeps u1) (Fr.tr hfr (Fr.mono (by decide) (by decide) (by decide) (fr_F_X9_keeps u1)))))
theorem fr_F_X9_strikes (τ : St) : Fr I_X9_strikes A_X9_strikes false τ (F_X9_strikes τ).2 := (fr_F_X9_strikes_k1_2 τ (F_X9_rings τ) (Fr.tr Fr.rf (Fr.mono (by decide) (by decide) (by decide) (fr_F_X9_rings τ))))
set_option maxHeartbeats 4000000 in
set_option maxRecDepth 20000 in
theorem c_X9_strikes (l : Launch) (D : va_G) (cI cZ : ClassId) (z : Nat) (ad : Nat → Nat) (σ τ : St) (hw_ : 0 ≤ ((τ.2.1 50) 0).toInt ∧ ((τ.2.1 50) 0).toInt ≤ 6) (hw1_ : WK τ) (hn_ : 0 ≤ ((τ.2.1 53) 74).toInt ∧ ((τ.2.1 53) 74).toInt ≤ 10) (hb_ : BK (F_X9_rings τ)) : gM l yX9_strikes cX9_strikes 2 (some .int) 4 D cI cZ z (gws ad cI cZ σ τ) [.ref (ad 48)] (some (.int (F_X9_strikes τ).1)) (gws ad cI cZ σ (F_X9_strikes τ).2) := by
  refine g_met (own := RX9) (by decide) rfl (Nat.le_of_ble_eq_true rfl) (fun p e s m below meth c ls Q E hr hlk h hl hQ => ?_)
  have hx := E.1
  have hb := E.2.1
  have hF : (F_X9_strikes τ) = (F_X9_strikes τ) := rfl
  have hl : lv_has ls 2 [(0, .ref (ad 48))] := hl
  refine lv_aload_n hx hb dX9_strikes_0 rfl (lv_at hl 0 rfl) ?_
  refine g_callVUv (F_X9_rings τ) (fun u => gws ad cI cZ σ u) (rest := []) E h (c_X9_rings l D cI cZ z ad σ τ (show 0 ≤ ((τ.2.1 50) 0).toInt ∧ ((τ.2.1 50) 0).toInt ≤ 6 from by omega) (show WK τ from by omega)) mw_983 cbX9_rings 48 rfl rfl ⟨by decide, by decide⟩ rfl rfl hl.1 (Nat.le_of_ble_eq_true rfl) ⟨Nat.zero_le _, Nat.zero_le _⟩ dX9_strikes_1 (fun u1 huu1 H locs h => ?_)
  have hF : F_X9_strikes_k1_2 τ u1 = (F_X9_strikes τ) := by rw [← huu1]; exact hF
  have hbq : BK u1 := by rw [← huu1]; exact hb_
  have hb2 : 0 ≤ (u1.1 1553).toInt ∧ (u1.1 1553).toInt ≤ 6 := hbq.2
  have hn1 : 0 ≤ ((u1.2.1 53) 74).toInt ∧ ((u1.2.1 53) 74).toInt ≤ 10 := by rw [show u1.2.1 53 = τ.2.1 53 from by rw [← huu1]; exact (fr_F_X9_rings τ).2.1 53 (by decide)]; exact hn_
  refine lv_aload_n hx hb dX9_strikes_4 rfl (lv_at hl 0 rfl) ?_
  refine g_get (v := .int (u1.1 1553)) E h 48 rfl rfl layX9 17 (by decide) rfl mw_836 rfl dX9_strikes_5 ?_
  refine lv_if_ne (tgt := 14) hx hb dX9_strikes_8 (by decide) (fun c3 => ?_) (fun c3 => ?_)
  · have ic3 : (u1.1 1553).toInt ≠ 0 := i_ne c3
    have hF := (if_neg c3).symm.trans hF
    refine lv_aload_n hx hb dX9_strikes_14 rfl (lv_at hl 0 rfl) ?_
    refine g_callVUv (F_X9_keeps u1) (fun u => gws ad cI cZ σ u) (rest := []) E h (c_X9_keeps l D cI cZ z ad σ u1 (show 0 ≤ ((u1.2.1 53) 74).toInt ∧ ((u1.2.1 53) 74).toInt ≤ 10 from by omega)) mw_955 cbX9_keeps 48 rfl rfl ⟨by decide, by decide⟩ rfl rfl hl.1 (Nat.le_of_ble_eq_true rfl) ⟨Nat.zero_le _, Nat.zero_le _⟩ dX9_strikes_15 (fun u4 huu4 H locs h => ?_)
    have hF : F_X9_strikes_k15_5 τ u1 u4 = (F_X9_strikes τ) := by rw [← huu4]; exact hF
    have hbk : BK u4 := by rw [← huu4]; exact ⟨by rw [(fr_F_X9_keeps u1).2.1 58 (by decide)]; exact hbq.1, by rw [(fr_F_X9_keeps u1).1 1553 (by decide)]; exact hbq.2⟩
    refine lv_iconst (v := 0) hx hb dX9_strikes_18 (by decide) ?_
    refine lv_istore_n (lv' := [(1, .int (0 : Int32)), (0, .ref (ad 48))]) hx hb dX9_strikes_19 rfl hl (by decide) rfl (fun ls hl => ?_)
    have L20 : ∀ (n20 : Nat) (x1_20 : Int32) (m20 : St) (H : Heap) (locs : List Loc) (ls : Array Slot), ((0 ≤ x1_20.toInt ∧ x1_20.toInt ≤ 6 ∧ x1_20.toInt + n20 = 7) ∧ BK m20) → F_X9_strikes_L20  n20 τ u1 u4 x1_20 m20 = (F_X9_strikes τ) → gH D z s (gws ad cI cZ σ m20) H locs → lv_has ls 2 [(1, .int x1_20), (0, .ref (ad 48))] → W p l e (rmH 4) s m ([.ref (ad 48)] : List Value).toArray below meth c H locs 0 0 Q (F0 m 20 ls []) := by
      clear hF h hl
      intro n20
      induction n20 with
      | zero =>
        intro x1_20 m20 H locs ls hI
        exact absurd hI (by omega)
      | succ n20 ih20 =>
        intro x1_20 m20 H locs ls hI20 hF h hl
        have hbm0 : 0 ≤ (m20.1 1553).toInt ∧ (m20.1 1553).toInt ≤ 6 := hI20.2.2
        refine lv_iload_n hx hb dX9_strikes_20 rfl (lv_at hl 0 rfl) ?_
        refine lv_aload_n hx hb dX9_strikes_21 rfl (lv_at hl 1 rfl) ?_
        refine g_get (v := .int (m20.1 1553)) E h 48 rfl rfl layX9 17 (by decide) rfl mw_836 rfl dX9_strikes_22 ?_
        refine lv_icmp_ge (tgt := 72) hx hb dX9_strikes_25 (by decide) (fun c7 => ?_) (fun c7 => ?_)
        · have ic7 : (m20.1 1553).toInt ≤ x1_20.toInt := i_le c7
          have hF := (if_pos c7).symm.trans hF
          refine lv_aload_n hx hb dX9_strikes_72 rfl (lv_at hl 1 rfl) ?_
          refine g_get (v := .int (m20.1 1553)) E h 48 rfl rfl layX9 17 (by decide) rfl mw_836 rfl dX9_strikes_73 ?_
          refine lv_aload_n hx hb dX9_strikes_76 rfl (lv_at hl 1 rfl) ?_
          refine g_get (v := .int (m20.1 1554)) E h 48 rfl rfl layX9 18 (by decide) rfl mw_837 rfl dX9_strikes_77 ?_
          refine lv_imul hx hb dX9_strikes_80 ?_
          exact g_iret E hr hlk h hQ (fst_of hF) (snd_of hF (fun u => gws ad cI cZ σ u)) dX9_strikes_81
        · have ic7 : x1_20.toInt < (m20.1 1553).toInt := i_nle c7
          have hF := (if_neg c7).symm.trans hF
          refine lv_aload_n hx hb dX9_strikes_28 rfl (lv_at hl 1 rfl) ?_
          refine g_get (v := .ref (ad 53)) E h 48 rfl rfl layX9 6 (by decide) rfl mw_825 rfl dX9_strikes_29 ?_
          refine lv_bipush (v := 38) hx hb dX9_strikes_32 (by decide) ?_
          refine lv_bipush (v := 6) hx hb dX9_strikes_34 (by decide) ?_
          have hbm := hI20.2.2
          have b1 := hI20.2.1 x1_20.toNatClampNeg (nm_lt (by omega))
          refine lv_aload_n hx hb dX9_strikes_36 rfl (lv_at hl 1 rfl) ?_
          refine g_get (v := .ref (ad 58)) E h 48 rfl rfl layX9 16 (by decide) rfl mw_835 rfl dX9_strikes_37 ?_
          refine lv_iload_n hx hb dX9_strikes_40 rfl (lv_at hl 0 rfl) ?_
          refine g_iald (f := (m20.2.1 58)) E h 58 rfl (ix_of (oI_at x1_20) (by omega) (by decide)) dX9_strikes_41 ?_
          refine lv_imul hx hb dX9_strikes_42 ?_
          refine lv_iadd hx hb dX9_strikes_43 ?_
          refine lv_aload_n hx hb dX9_strikes_44 rfl (lv_at hl 1 rfl) ?_
          refine g_get (v := .ref (ad 58)) E h 48 rfl rfl layX9 16 (by decide) rfl mw_835 rfl dX9_strikes_45 ?_
          refine lv_iload_n hx hb dX9_strikes_48 rfl (lv_at hl 0 rfl) ?_
          refine lv_iconst (v := 1) hx hb dX9_strikes_49 (by decide) ?_
          refine lv_iadd hx hb dX9_strikes_50 ?_
          refine lv_aload_n hx hb dX9_strikes_51 rfl (lv_at hl 1 rfl) ?_
          refine g_get (v := .int (m20.1 1553)) E h 48 rfl rfl layX9 17 (by decide) rfl mw_836 rfl dX9_strikes_52 ?_
          refine lv_irem hx hb dX9_strikes_55 (by intro q; have q1 := i_eq q; have q2 : (0 : Int32).toInt = 0 := rfl; omega) ?_
          have er := rem_rng (a := (x1_20 + (1 : Int32))) (b := (m20.1 1553)) (by rw [ti_of (oI_add (oI_at x1_20) (oI_lit (x := 1) (a := 1) rfl)) (by omega)]; omega) (by omega)
          have b2 := hI20.2.1 ((x1_20 + (1 : Int32)) - (x1_20 + (1 : Int32)) / (m20.1 1553) * (m20.1 1553)).toNatClampNeg (nm_lt (by omega))
          refine g_iald (f := (m20.2.1 58)) E h 58 rfl (ix_of (oI_at ((x1_20 + (1 : Int32)) - (x1_20 + (1 : Int32)) / (m20.1 1553) * (m20.1 1553))) (by omega) (by decide)) dX9_strikes_56 ?_
          refine lv_iadd hx hb dX9_strikes_57 ?_
          refine lv_dup2_11 hx hb dX9_strikes_58 rfl rfl ?_
          refine g_iald (f := (m20.2.1 53)) E h 53 rfl (ix_of (oI_add (oI_add (oI_lit (x := 38) (a := 38) rfl) (oI_mul (oI_lit (x := 6) (a := 6) rfl) (oI_at ((m20.2.1 58) x1_20.toNatClampNeg)))) (oI_at ((m20.2.1 58) ((x1_20 + (1 : Int32)) - (x1_20 + (1 : Int32)) / (m20.1 1553) * (m20.1 1553)).toNatClampNeg))) (by omega) (by decide)) dX9_strikes_59 ?_
          refine lv_aload_n hx hb dX9_strikes_60 rfl (lv_at hl 1 rfl) ?_
          refine g_get (v := .int (m20.1 1554)) E h 48 rfl rfl layX9 18 (by decide) rfl mw_837 rfl dX9_strikes_61 ?_
          refine lv_isub hx hb dX9_strikes_64 ?_
          refine g_iast (f := (m20.2.1 53)) (ws' := gws ad cI cZ σ (sa m20 53 (upd (m20.2.1 53) (((38 : Int32) + ((6 : Int32) * ((m20.2.1 58) x1_20.toNatClampNeg))) + ((m20.2.1 58) ((x1_20 + (1 : Int32)) - (x1_20 + (1 : Int32)) / (m20.1 1553) * (m20.1 1553)).toNatClampNeg)).toNatClampNeg (((m20.2.1 53) (((38 : Int32) + ((6 : Int32) * ((m20.2.1 58) x1_20.toNatClampNeg))) + ((m20.2.1 58) ((x1_20 + (1 : Int32)) - (x1_20 + (1 : Int32)) / (m20.1 1553) * (m20.1 1553)).toNatClampNeg)).toNatClampNeg) - (m20.1 1554))))) E h 53 rfl (ix_of (oI_add (oI_add (oI_lit (x := 38) (a := 38) rfl) (oI_mul (oI_lit (x := 6) (a := 6) rfl) (oI_at ((m20.2.1 58) x1_20.toNatClampNeg)))) (oI_at ((m20.2.1 58) ((x1_20 + (1 : Int32)) - (x1_20 + (1 : Int32)) / (m20.1 1553) * (m20.1 1553)).toNatClampNeg))) (by omega) (by decide)) (ga_53 ad cI cZ σ m20 (upd (m20.2.1 53) (((38 : Int32) + ((6 : Int32) * ((m20.2.1 58) x1_20.toNatClampNeg))) + ((m20.2.1 58) ((x1_20 + (1 : Int32)) - (x1_20 + (1 : Int32)) / (m20.1 1553) * (m20.1 1553)).toNatClampNeg)).toNatClampNeg (((m20.2.1 53) (((38 : Int32) + ((6 : Int32) * ((m20.2.1 58) x1_20.toNatClampNeg))) + ((m20.2.1 58) ((x1_20 + (1 : Int32)) - (x1_20 + (1 : Int32)) / (m20.1 1553) * (m20.1 1553)).toNatClampNeg)).toNatClampNeg) - (m20.1 1554)))) dX9_strikes_65 (fun H locs h => ?_)
          refine lv_iinc (v := (x1_20 + (1 : Int32))) (lv' := [(1, .int (x1_20 + (1 : Int32))), (0, .ref (ad 48))]) hx hb dX9_strikes_66 hl (k := 0) rfl rfl (by decide) rfl (fun ls hl => ?_)
          refine lv_goto (tgt := 20) hx hb dX9_strikes_69 (by decide) ?_
          have e20_1 : (x1_20 + (1 : Int32)).toInt = _ := ti_of (oI_add (oI_at x1_20) (oI_lit (x := 1) (a := 1) rfl)) (by omega)
          exact ih20 (x1_20 + (1 : Int32)) (sa m20 53 (upd (m20.2.1 53) (((38 : Int32) + ((6 : Int32) * ((m20.2.1 58) x1_20.toNatClampNeg))) + ((m20.2.1 58) ((x1_20 + (1 : Int32)) - (x1_20 + (1 : Int32)) / (m20.1 1553) * (m20.1 1553)).toNatClampNeg)).toNatClampNeg (((m20.2.1 53) (((38 : Int32) + ((6 : Int32) * ((m20.2.1 58) x1_20.toNatClampNeg))) + ((m20.2.1 58) ((x1_20 + (1 : Int32)) - (x1_20 + (1 : Int32)) / (m20.1 1553) * (m20.1 1553)).toNatClampNeg)).toNatClampNeg) - (m20.1 1554)))) _ _ ls ((show (0 ≤ (x1_20 + (1 : Int32)).toInt ∧ (x1_20 + (1 : Int32)).toInt ≤ 6 ∧ (x1_20 + (1 : Int32)).toInt + n20 = 7) ∧ BK (sa m20 53 (upd (m20.2.1 53) (((38 : Int32) + ((6 : Int32) * ((m20.2.1 58) x1_20.toNatClampNeg))) + ((m20.2.1 58) ((x1_20 + (1 : Int32)) - (x1_20 + (1 : Int32)) / (m20.1 1553) * (m20.1 1553)).toNatClampNeg)).toNatClampNeg (((m20.2.1 53) (((38 : Int32) + ((6 : Int32) * ((m20.2.1 58) x1_20.toNatClampNeg))) + ((m20.2.1 58) ((x1_20 + (1 : Int32)) - (x1_20 + (1 : Int32)) / (m20.1 1553) * (m20.1 1553)).toNatClampNeg)).toNatClampNeg) - (m20.1 1554)))) from by exact ⟨by omega, hI20.2⟩)) hF h (lv_sub hl [0, 1] rfl)
    have q20_1 : (0 : Int32).toInt = 0 := rfl
    exact L20 7 (0 : Int32) u4 _ _ ls ((show (0 ≤ (0 : Int32).toInt ∧ (0 : Int32).toInt ≤ 6 ∧ (0 : Int32).toInt + (7 : Nat) = 7) ∧ BK u4 from by exact ⟨by omega, hbk⟩)) hF h (lv_sub hl [0, 1] rfl)
  · have ic3 : (u1.1 1553).toInt = 0 := i_eq c3
    have hF := (if_pos c3).symm.trans hF
    refine lv_bipush (v := (-2)) hx hb dX9_strikes_11 (by decide) ?_
    exact g_iret E hr hlk h hQ (fst_of hF) (snd_of hF (fun u => gws ad cI cZ σ u)) dX9_strikes_13

def F_X9_ring_k13_3 (τ : St) (a1 : Int32) (u2 : St) : Int32 × St := (if (u2.1 1553) = 0 then (((-9) : Int32), u2) else (if a1 = ((-1) : Int32) then ((u2.1 1553), u2) else (if a1 = ((-2) : Int32) then ((u2.1 1554), u2) else (if (u2.1 1553) ≤ a1 then (((-9) : Int32), u2) else (((u2.2.1 58) a1.toNatClampNeg), u2)))))
def F_X9_ring (τ : St) (a1 : Int32) : Int32 × St := (if (F_X9_in a1 ((-2) : Int32) (5 : Int32)) = 0 then (((-1) : Int32), τ) else (F_X9_ring_k13_3 τ a1 (F_X9_rings τ)))
abbrev I_X9_ring : List Nat := [1553, 1554]
abbrev A_X9_ring : List Nat := [57, 58]
theorem fr_F_X9_ring_k13_3 (τ : St) (a1 : Int32) (u2 : St) (hfr : Fr I_X9_ring A_X9_ring false τ (u2)) : Fr I_X9_ring A_X9_ring false τ (F_X9_ring_k13_3  τ a1 u2).2 := (fr_ite2 hfr (fr_ite2 hfr (fr_ite2 hfr (fr_ite2 hfr hfr))))
theorem fr_F_X9_ring (τ : St) (a1 : Int32) : Fr I_X9_ring A_X9_ring false τ (F_X9_ring τ a1).2 := (fr_ite2 Fr.rf (fr_F_X9_ring_k13_3 τ a1 (F_X9_rings τ) (Fr.tr Fr.rf (Fr.mono (by decide) (by decide) (by decide) (fr_F_X9_rings τ)))))
set_option maxHeartbeats 4000000 in
set_option maxRecDepth 20000 in
theorem c_X9_ring (l : Launch) (D : va_G) (cI cZ : ClassId) (z : Nat) (ad : Nat → Nat) (σ τ : St) (a1 : Int32) (hw_ : 0 ≤ ((τ.2.1 50) 0).toInt ∧ ((τ.2.1 50) 0).toInt ≤ 6) (hw1_ : WK τ) (hb_ : BK (F_X9_rings τ)) : gM l yX9_ring cX9_ring 2 (some .int) 4 D cI cZ z (gws ad cI cZ σ τ) [.ref (ad 48), .int a1] (some (.int (F_X9_ring τ a1).1)) (gws ad cI cZ σ (F_X9_ring τ a1).2) := by
  refine g_met (own := RX9) (by decide) rfl (Nat.le_of_ble_eq_true rfl) (fun p e s m below meth c ls Q E hr hlk h hl hQ => ?_)
  have hx := E.1
  have hb := E.2.1
  have hF : (F_X9_ring τ a1) = (F_X9_ring τ a1) := rfl
  have hl : lv_has ls 2 [(0, .ref (ad 48)), (1, .int a1)] := hl
  refine lv_iload_n hx hb dX9_ring_0 rfl (lv_at hl 1 rfl) ?_
  refine lv_bipush (v := (-2)) hx hb dX9_ring_1 (by decide) ?_
  refine lv_iconst (v := 5) hx hb dX9_ring_3 (by decide) ?_
  refine g_callSi (rest := []) E h (c_X9_in l D cI cZ z (gws ad cI cZ σ τ) a1 ((-2) : Int32) (5 : Int32)) mw_789 cbX9_in ⟨by decide, by decide⟩ rfl rfl hl.1 (Nat.le_of_ble_eq_true rfl) ⟨Nat.zero_le _, Nat.zero_le _⟩ dX9_ring_4 (fun H locs h => ?_)
  refine lv_if_ne (tgt := 12) hx hb dX9_ring_7 (by decide) (fun c1 => ?_) (fun c1 => ?_)
  · have ic1 : (F_X9_in a1 ((-2) : Int32) (5 : Int32)).toInt ≠ 0 := i_ne c1
    have jc1 : (-2) ≤ a1.toInt ∧ a1.toInt ≤ 5 := fz_in c1
    have hF := (if_neg c1).symm.trans hF
    refine lv_aload_n hx hb dX9_ring_12 rfl (lv_at hl 0 rfl) ?_
    refine g_callVUv (F_X9_rings τ) (fun u => gws ad cI cZ σ u) (rest := []) E h (c_X9_rings l D cI cZ z ad σ τ (show 0 ≤ ((τ.2.1 50) 0).toInt ∧ ((τ.2.1 50) 0).toInt ≤ 6 from by omega) (show WK τ from by omega)) mw_983 cbX9_rings 48 rfl rfl ⟨by decide, by decide⟩ rfl rfl hl.1 (Nat.le_of_ble_eq_true rfl) ⟨Nat.zero_le _, Nat.zero_le _⟩ dX9_ring_13 (fun u2 huu2 H locs h => ?_)
    have hF : F_X9_ring_k13_3 τ a1 u2 = (F_X9_ring τ a1) := by rw [← huu2]; exact hF
    have hbq : BK u2 := by rw [← huu2]; exact hb_
    have hb2 : 0 ≤ (u2.1 1553).toInt ∧ (u2.1 1553).toInt ≤ 6 := hbq.2
    refine lv_aload_n hx hb dX9_ring_16 rfl (lv_at hl 0 rfl) ?_
    refine g_get (v := .int (u2.1 1553)) E h 48 rfl rfl layX9 17 (by decide) rfl mw_836 rfl dX9_ring_17 ?_
    refine lv_if_ne (tgt := 26) hx hb dX9_ring_20 (by decide) (fun c4 => ?_) (fun c4 => ?_)
    · have ic4 : (u2.1 1553).toInt ≠ 0 := i_ne c4
      have hF := (if_neg c4).symm.trans hF
      refine lv_iload_n hx hb dX9_ring_26 rfl (lv_at hl 1 rfl) ?_
      refine lv_iconst (v := (-1)) hx hb dX9_ring_27 (by decide) ?_
      refine lv_icmp_ne (tgt := 38) hx hb dX9_ring_28 (by decide) (fun c5 => ?_) (fun c5 => ?_)
      · have ic5 : a1.toInt ≠ (-1) := i_ne c5
        have hF := (if_neg c5).symm.trans hF
        refine lv_iload_n hx hb dX9_ring_38 rfl (lv_at hl 1 rfl) ?_
        refine lv_bipush (v := (-2)) hx hb dX9_ring_39 (by decide) ?_
        refine lv_icmp_ne (tgt := 51) hx hb dX9_ring_41 (by decide) (fun c6 => ?_) (fun c6 => ?_)
        · have ic6 : a1.toInt ≠ (-2) := i_ne c6
          have hF := (if_neg c6).symm.trans hF
          refine lv_iload_n hx hb dX9_ring_51 rfl (lv_at hl 1 rfl) ?_
          refine lv_aload_n hx hb dX9_ring_52 rfl (lv_at hl 0 rfl) ?_
          refine g_get (v := .int (u2.1 1553)) E h 48 rfl rfl layX9 17 (by decide) rfl mw_836 rfl dX9_ring_53 ?_
          refine lv_icmp_ge (tgt := 68) hx hb dX9_ring_56 (by decide) (fun c7 => ?_) (fun c7 => ?_)
          · have ic7 : (u2.1 1553).toInt ≤ a1.toInt := i_le c7
            have hF := (if_pos c7).symm.trans hF
            refine lv_bipush (v := (-9)) hx hb dX9_ring_68 (by decide) ?_
            exact g_iret E hr hlk h hQ (fst_of hF) (snd_of hF (fun u => gws ad cI cZ σ u)) dX9_ring_70
          · have ic7 : a1.toInt < (u2.1 1553).toInt := i_nle c7
            have hF := (if_neg c7).symm.trans hF
            refine lv_aload_n hx hb dX9_ring_59 rfl (lv_at hl 0 rfl) ?_
            refine g_get (v := .ref (ad 58)) E h 48 rfl rfl layX9 16 (by decide) rfl mw_835 rfl dX9_ring_60 ?_
            refine lv_iload_n hx hb dX9_ring_63 rfl (lv_at hl 1 rfl) ?_
            refine g_iald (f := (u2.2.1 58)) E h 58 rfl (ix_of (oI_at a1) (by omega) (by decide)) dX9_ring_64 ?_
            refine lv_goto (tgt := 70) hx hb dX9_ring_65 (by decide) ?_
            exact g_iret E hr hlk h hQ (fst_of hF) (snd_of hF (fun u => gws ad cI cZ σ u)) dX9_ring_70
        · have ic6 : a1.toInt = (-2) := i_eq c6
          have hF := (if_pos c6).symm.trans hF
          refine lv_aload_n hx hb dX9_ring_44 rfl (lv_at hl 0 rfl) ?_
          refine g_get (v := .int (u2.1 1554)) E h 48 rfl rfl layX9 18 (by decide) rfl mw_837 rfl dX9_ring_45 ?_
          refine lv_goto (tgt := 70) hx hb dX9_ring_48 (by decide) ?_
          exact g_iret E hr hlk h hQ (fst_of hF) (snd_of hF (fun u => gws ad cI cZ σ u)) dX9_ring_70
      · have ic5 : a1.toInt = (-1) := i_eq c5
        have hF := (if_pos c5).symm.trans hF
        refine lv_aload_n hx hb dX9_ring_31 rfl (lv_at hl 0 rfl) ?_
        refine g_get (v := .int (u2.1 1553)) E h 48 rfl rfl layX9 17 (by decide) rfl mw_836 rfl dX9_ring_32 ?_
        refine lv_goto (tgt := 70) hx hb dX9_ring_35 (by decide) ?_
        exact g_iret E hr hlk h hQ (fst_of hF) (snd_of hF (fun u => gws ad cI cZ σ u)) dX9_ring_70
    · have ic4 : (u2.1 1553).toInt = 0 := i_eq c4
      have hF := (if_pos c4).symm.trans hF
      refine lv_bipush (v := (-9)) hx hb dX9_ring_23 (by decide) ?_
      exact g_iret E hr hlk h hQ (fst_of hF) (snd_of hF (fun u => gws ad cI cZ σ u)) dX9_ring_25
  · have ic1 : (F_X9_in a1 ((-2) : Int32) (5 : Int32)).toInt = 0 := i_eq c1
    have hF := (if_pos c1).symm.trans hF
    refine lv_iconst (v := (-1)) hx hb dX9_ring_10 (by decide) ?_
    exact g_iret E hr hlk h hQ (fst_of hF) (snd_of hF (fun u => gws ad cI cZ σ u)) dX9_ring_11
