theorem xor_tab : ∀ a, a < 64 → ∀ b, b < 6 → 0 ≤ ((nI a) ^^^ ((1 : Int32) <<< (nI b &&& 31))).toInt ∧ ((nI a) ^^^ ((1 : Int32) <<< (nI b &&& 31))).toInt < 64 := by decide +kernel
theorem nI_i {x : Int32} (h : 0 ≤ x.toInt) : ∃ j : Nat, x = nI j ∧ (j : Int) = x.toInt := by
  refine ⟨x.toInt.toNat, ?_, by omega⟩
  have h2 : x.toInt < 2147483648 := Int32.toInt_lt x
  rw [← Int32.toInt_inj, nI_toInt (by omega)]
  omega
theorem xor_in {s w : Int32} (hs : 0 ≤ s.toInt ∧ s.toInt < 64) (hw : 0 ≤ w.toInt ∧ w.toInt < 6) : vp_in (s ^^^ ((1 : Int32) <<< (w &&& 31))) 64 := by
  obtain ⟨a, ea, ha⟩ := nI_i hs.1
  obtain ⟨b, eb, hb⟩ := nI_i hw.1
  rw [vp_in_iff, ea, eb]
  exact xor_tab a (by omega) b (by omega)
theorem mm_rng (w : Int32) : 0 ≤ (if (0 : Int32) < (if (6 : Int32) < w then (6 : Int32) else w) then (if (6 : Int32) < w then (6 : Int32) else w) else (0 : Int32)).toInt ∧ (if (0 : Int32) < (if (6 : Int32) < w then (6 : Int32) else w) then (if (6 : Int32) < w then (6 : Int32) else w) else (0 : Int32)).toInt ≤ 6 := by
  have h0 : (0 : Int32).toInt = 0 := rfl
  have h6 : (6 : Int32).toInt = 6 := rfl
  by_cases c : (6 : Int32) < w
  · rw [if_pos c]; decide
  · rw [if_neg c]
    have := i_nlt c
    by_cases d : (0 : Int32) < w
    · rw [if_pos d]
      have := i_lt d
      omega
    · rw [if_neg d]; decide
theorem nar_ite (c : Prop) [Decidable c] : vp_nar .boolean (if c then (1 : Int32) else 0) = if c then (1 : Int32) else 0 := by split <;> rfl

def F_X5_fewestPayments_k60_11 (lf16 : Int32 → St → (Int32 × St)) (lf38 : Int32 → Int32 → Int32 → (Int32 × St)) (σ : St) (a2 : Int32) (x4_16 : Int32) (m16 : St) (x7_38 : Int32) (x6_38 : Int32) (x5_38 : Int32) (v10 : Int32) : Int32 × St := (lf38 (x7_38 + (1 : Int32)) (if x6_38 < ((m16.2.1 47) (x4_16 ^^^ ((1 : Int32) <<< (x7_38 &&& 31))).toNatClampNeg) then ((m16.2.1 47) (x4_16 ^^^ ((1 : Int32) <<< (x7_38 &&& 31))).toNatClampNeg) else x6_38) (x5_38 + v10))
def F_X5_fewestPayments_L38 (lf16 : Int32 → St → (Int32 × St)) : Nat → St → Int32 → Int32 → St → Int32 → Int32 → Int32 → Int32 × St
  | 0, σ, _, _, _, _, _, _ => (0, σ)
  | n + 1, σ, a2, x4_16, m16, x7_38, x6_38, x5_38 => (if (6 : Int32) ≤ x7_38 then (lf16 (x4_16 + (1 : Int32)) (sa m16 47 (upd (m16.2.1 47) x4_16.toNatClampNeg (if x5_38 = 0 then (x6_38 + (1 : Int32)) else x6_38)))) else (if (F_X8_hasBit x4_16 x7_38) = 0 then (F_X5_fewestPayments_L38 lf16 n σ a2 x4_16 m16 (x7_38 + (1 : Int32)) x6_38 x5_38) else (F_X5_fewestPayments_k60_11 lf16 (fun y1 y2 y3 => F_X5_fewestPayments_L38 lf16 n σ a2 x4_16 m16 y1 y2 y3) σ a2 x4_16 m16 x7_38 x6_38 x5_38 (F_X2_netOf m16 x7_38))))
def F_X5_fewestPayments_L16 : Nat → St → Int32 → Int32 → St → Int32 × St
  | 0, _, _, _, m16 => (0, m16)
  | n + 1, σ, a2, x4_16, m16 => (if ((1 : Int32) <<< ((if (0 : Int32) < (if (6 : Int32) < a2 then (6 : Int32) else a2) then (if (6 : Int32) < a2 then (6 : Int32) else a2) else (0 : Int32)) &&& 31)) ≤ x4_16 then ((a2 - ((m16.2.1 47) (((1 : Int32) <<< ((if (0 : Int32) < (if (6 : Int32) < a2 then (6 : Int32) else a2) then (if (6 : Int32) < a2 then (6 : Int32) else a2) else (0 : Int32)) &&& 31)) - (1 : Int32)).toNatClampNeg)), m16) else (if (64 : Int32) ≤ x4_16 then ((a2 - ((m16.2.1 47) (((1 : Int32) <<< ((if (0 : Int32) < (if (6 : Int32) < a2 then (6 : Int32) else a2) then (if (6 : Int32) < a2 then (6 : Int32) else a2) else (0 : Int32)) &&& 31)) - (1 : Int32)).toNatClampNeg)), m16) else (F_X5_fewestPayments_L38 (fun y1 y2 => F_X5_fewestPayments_L16  n σ a2 y1 y2) 7 σ a2 x4_16 m16 (0 : Int32) (0 : Int32) (0 : Int32))))
def F_X5_fewestPayments (σ : St) (a2 : Int32) : Int32 × St := (F_X5_fewestPayments_L16  64 σ a2 (1 : Int32) σ)
abbrev I_X5_fewestPayments : List Nat := []
abbrev A_X5_fewestPayments : List Nat := [47]
theorem fr_F_X5_fewestPayments_k60_11 (lf16 : Int32 → St → (Int32 × St)) (lf38 : Int32 → Int32 → Int32 → (Int32 × St)) (σ : St) (a2 : Int32) (x4_16 : Int32) (m16 : St) (x7_38 : Int32) (x6_38 : Int32) (x5_38 : Int32) (v10 : Int32) (hlf16 : ∀ (y1 : Int32) (m : St), Fr I_X5_fewestPayments A_X5_fewestPayments false σ m → Fr I_X5_fewestPayments A_X5_fewestPayments false σ (lf16 y1 m).2) (hlf38 : ∀ (y1 : Int32) (y2 : Int32) (y3 : Int32), Fr I_X5_fewestPayments A_X5_fewestPayments false σ (lf38 y1 y2 y3).2) (hfr : Fr I_X5_fewestPayments A_X5_fewestPayments false σ (m16)) : Fr I_X5_fewestPayments A_X5_fewestPayments false σ (F_X5_fewestPayments_k60_11 lf16 lf38 σ a2 x4_16 m16 x7_38 x6_38 x5_38 v10).2 := (hlf38 (x7_38 + (1 : Int32)) (if x6_38 < ((m16.2.1 47) (x4_16 ^^^ ((1 : Int32) <<< (x7_38 &&& 31))).toNatClampNeg) then ((m16.2.1 47) (x4_16 ^^^ ((1 : Int32) <<< (x7_38 &&& 31))).toNatClampNeg) else x6_38) (x5_38 + v10) )
theorem fr_F_X5_fewestPayments_L38_w (lf16 : Int32 → St → (Int32 × St)) (σ : St) (a2 : Int32) (x4_16 : Int32) (m16 : St) (hlf16 : ∀ (y1 : Int32) (m : St), Fr I_X5_fewestPayments A_X5_fewestPayments false σ m → Fr I_X5_fewestPayments A_X5_fewestPayments false σ (lf16 y1 m).2) (hfr : Fr I_X5_fewestPayments A_X5_fewestPayments false σ (m16)) : ∀ (n : Nat) (x7_38 : Int32) (x6_38 : Int32) (x5_38 : Int32), Fr I_X5_fewestPayments A_X5_fewestPayments false σ (F_X5_fewestPayments_L38 lf16 n σ a2 x4_16 m16 x7_38 x6_38 x5_38).2
  | 0, x7_38, x6_38, x5_38 => Fr.rf
  | n + 1, x7_38, x6_38, x5_38 => (fr_ite2 (hlf16 (x4_16 + (1 : Int32)) (sa m16 47 (upd (m16.2.1 47) x4_16.toNatClampNeg (if x5_38 = 0 then (x6_38 + (1 : Int32)) else x6_38))) (Fr.sa (by decide) hfr)) (fr_ite2 ((fun y1 y2 y3 => fr_F_X5_fewestPayments_L38_w lf16 σ a2 x4_16 m16 hlf16 hfr n y1 y2 y3) (x7_38 + (1 : Int32)) x6_38 x5_38 ) (fr_F_X5_fewestPayments_k60_11 lf16 (fun y1 y2 y3 => F_X5_fewestPayments_L38 lf16 n σ a2 x4_16 m16 y1 y2 y3) σ a2 x4_16 m16 x7_38 x6_38 x5_38 (F_X2_netOf m16 x7_38) hlf16 (fun y1 y2 y3 => fr_F_X5_fewestPayments_L38_w lf16 σ a2 x4_16 m16 hlf16 hfr n y1 y2 y3) hfr)))
theorem fr_F_X5_fewestPayments_L38 (lf16 : Int32 → St → (Int32 × St)) (n : Nat) (σ : St) (a2 : Int32) (x4_16 : Int32) (m16 : St) (x7_38 : Int32) (x6_38 : Int32) (x5_38 : Int32) (hlf16 : ∀ (y1 : Int32) (m : St), Fr I_X5_fewestPayments A_X5_fewestPayments false σ m → Fr I_X5_fewestPayments A_X5_fewestPayments false σ (lf16 y1 m).2) (hfr : Fr I_X5_fewestPayments A_X5_fewestPayments false σ (m16)) : Fr I_X5_fewestPayments A_X5_fewestPayments false σ (F_X5_fewestPayments_L38 lf16 n σ a2 x4_16 m16 x7_38 x6_38 x5_38).2 := fr_F_X5_fewestPayments_L38_w lf16 σ a2 x4_16 m16 hlf16 hfr n x7_38 x6_38 x5_38
theorem fr_F_X5_fewestPayments_L16_w (σ : St) (a2 : Int32) : ∀ (n : Nat) (x4_16 : Int32) (m16 : St), Fr I_X5_fewestPayments A_X5_fewestPayments false σ m16 → Fr I_X5_fewestPayments A_X5_fewestPayments false σ (F_X5_fewestPayments_L16  n σ a2 x4_16 m16).2
  | 0, x4_16, m16, hfr => hfr
  | n + 1, x4_16, m16, hfr => (fr_ite2 hfr (fr_ite2 hfr (fr_F_X5_fewestPayments_L38 (fun y1 y2 => F_X5_fewestPayments_L16  n σ a2 y1 y2) 7 σ a2 x4_16 m16 (0 : Int32) (0 : Int32) (0 : Int32) (fun y1 y2 hy => fr_F_X5_fewestPayments_L16_w  σ a2  n y1 y2 hy) hfr)))
theorem fr_F_X5_fewestPayments_L16 (n : Nat) (σ : St) (a2 : Int32) (x4_16 : Int32) (m16 : St) (hfr : Fr I_X5_fewestPayments A_X5_fewestPayments false σ (m16)) : Fr I_X5_fewestPayments A_X5_fewestPayments false σ (F_X5_fewestPayments_L16  n σ a2 x4_16 m16).2 := fr_F_X5_fewestPayments_L16_w  σ a2  n x4_16 m16 hfr
theorem fr_F_X5_fewestPayments (σ : St) (a2 : Int32) : Fr I_X5_fewestPayments A_X5_fewestPayments false σ (F_X5_fewestPayments σ a2).2 := (fr_F_X5_fewestPayments_L16  64 σ a2 (1 : Int32) σ Fr.rf)
set_option maxHeartbeats 4000000 in
set_option maxRecDepth 20000 in
theorem c_X5_fewestPayments (l : Launch) (D : va_G) (cI cZ : ClassId) (z : Nat) (ad : Nat → Nat) (σ τ : St) (a2 : Int32) : gM l yX5_fewestPayments cX5_fewestPayments 8 (some .int) 5 D cI cZ z (gws ad cI cZ σ τ) [.ref (ad 46), .ref (ad 26), .int a2] (some (.int (F_X5_fewestPayments σ a2).1)) (gws ad cI cZ (F_X5_fewestPayments σ a2).2 τ) := by
  refine g_met (own := RX5) (by decide) rfl (Nat.le_of_ble_eq_true rfl) (fun p e s m below meth c ls Q E hr hlk h hl hQ => ?_)
  have hx := E.1
  have hb := E.2.1
  have hF : (F_X5_fewestPayments σ a2) = (F_X5_fewestPayments σ a2) := rfl
  have hl : lv_has ls 8 [(0, .ref (ad 46)), (1, .ref (ad 26)), (2, .int a2)] := hl
  refine lv_iconst (v := 1) hx hb dX5_fewestPayments_0 (by decide) ?_
  refine lv_iconst (v := 0) hx hb dX5_fewestPayments_1 (by decide) ?_
  refine lv_iload_n hx hb dX5_fewestPayments_2 rfl (lv_at hl 2 rfl) ?_
  refine lv_bipush (v := 6) hx hb dX5_fewestPayments_3 (by decide) ?_
  refine g_min E hl.1 mw_621 mw_298 mw_12 mw_299 (by decide) (Nat.le_of_ble_eq_true rfl) ⟨Nat.zero_le _, Nat.zero_le _⟩ dX5_fewestPayments_5 ?_
  refine g_max E hl.1 mw_622 mw_290 mw_12 mw_291 (by decide) (Nat.le_of_ble_eq_true rfl) ⟨Nat.zero_le _, Nat.zero_le _⟩ dX5_fewestPayments_8 ?_
  refine lv_ishl hx hb dX5_fewestPayments_11 ?_
  refine lv_istore_n (lv' := [(3, .int ((1 : Int32) <<< ((if (0 : Int32) < (if (6 : Int32) < a2 then (6 : Int32) else a2) then (if (6 : Int32) < a2 then (6 : Int32) else a2) else (0 : Int32)) &&& 31))), (0, .ref (ad 46)), (1, .ref (ad 26)), (2, .int a2)]) hx hb dX5_fewestPayments_12 rfl hl (by decide) rfl (fun ls hl => ?_)
  have hsh := sh1_rng (mm_rng a2)
  refine lv_iconst (v := 1) hx hb dX5_fewestPayments_13 (by decide) ?_
  refine lv_istore (lv' := [(4, .int (1 : Int32)), (3, .int ((1 : Int32) <<< ((if (0 : Int32) < (if (6 : Int32) < a2 then (6 : Int32) else a2) then (if (6 : Int32) < a2 then (6 : Int32) else a2) else (0 : Int32)) &&& 31))), (0, .ref (ad 46)), (1, .ref (ad 26)), (2, .int a2)]) hx hb dX5_fewestPayments_14 hl (by decide) rfl (fun ls hl => ?_)
  have L16 : ∀ (n16 : Nat) (x4_16 : Int32) (m16 : St) (H : Heap) (locs : List Loc) (ls : Array Slot), (1 ≤ x4_16.toInt ∧ x4_16.toInt ≤ 64 ∧ x4_16.toInt + n16 = 65) → F_X5_fewestPayments_L16  n16 σ a2 x4_16 m16 = (F_X5_fewestPayments σ a2) → gH D z s (gws ad cI cZ m16 τ) H locs → lv_has ls 8 [(4, .int x4_16), (3, .int ((1 : Int32) <<< ((if (0 : Int32) < (if (6 : Int32) < a2 then (6 : Int32) else a2) then (if (6 : Int32) < a2 then (6 : Int32) else a2) else (0 : Int32)) &&& 31))), (0, .ref (ad 46)), (1, .ref (ad 26)), (2, .int a2)] → W p l e (rmH 5) s m ([.ref (ad 46), .ref (ad 26), .int a2] : List Value).toArray below meth c H locs 0 0 Q (F0 m 16 ls []) := by
    clear hF h hl
    intro n16
    induction n16 with
    | zero =>
      intro x4_16 m16 H locs ls hI
      exact absurd hI (by omega)
    | succ n16 ih16 =>
      intro x4_16 m16 H locs ls hI16 hF h hl
      refine lv_iload hx hb dX5_fewestPayments_16 (lv_at hl 0 rfl) ?_
      refine lv_iload_n hx hb dX5_fewestPayments_18 rfl (lv_at hl 1 rfl) ?_
      refine lv_icmp_ge (tgt := 118) hx hb dX5_fewestPayments_19 (by decide) (fun c2 => ?_) (fun c2 => ?_)
      · have ic2 : ((1 : Int32) <<< ((if (0 : Int32) < (if (6 : Int32) < a2 then (6 : Int32) else a2) then (if (6 : Int32) < a2 then (6 : Int32) else a2) else (0 : Int32)) &&& 31)).toInt ≤ x4_16.toInt := i_le c2
        have hF := (if_pos c2).symm.trans hF
        refine lv_iload_n hx hb dX5_fewestPayments_118 rfl (lv_at hl 4 rfl) ?_
        refine lv_aload_n hx hb dX5_fewestPayments_119 rfl (lv_at hl 2 rfl) ?_
        refine g_get (v := .ref (ad 47)) E h 46 rfl rfl layX5 0 (by decide) rfl mw_198 rfl dX5_fewestPayments_120 ?_
        refine lv_iload_n hx hb dX5_fewestPayments_123 rfl (lv_at hl 1 rfl) ?_
        refine lv_iconst (v := 1) hx hb dX5_fewestPayments_124 (by decide) ?_
        refine lv_isub hx hb dX5_fewestPayments_125 ?_
        refine g_iald (f := (m16.2.1 47)) E h 47 rfl (ix_of (oI_sub (oI_at ((1 : Int32) <<< ((if (0 : Int32) < (if (6 : Int32) < a2 then (6 : Int32) else a2) then (if (6 : Int32) < a2 then (6 : Int32) else a2) else (0 : Int32)) &&& 31))) (oI_lit (x := 1) (a := 1) rfl)) (by omega) (by decide)) dX5_fewestPayments_126 ?_
        refine lv_isub hx hb dX5_fewestPayments_127 ?_
        exact g_iret E hr hlk h hQ (fst_of hF) (snd_of hF (fun u => gws ad cI cZ u τ)) dX5_fewestPayments_128
      · have ic2 : x4_16.toInt < ((1 : Int32) <<< ((if (0 : Int32) < (if (6 : Int32) < a2 then (6 : Int32) else a2) then (if (6 : Int32) < a2 then (6 : Int32) else a2) else (0 : Int32)) &&& 31)).toInt := i_nle c2
        have hF := (if_neg c2).symm.trans hF
        refine lv_iload hx hb dX5_fewestPayments_22 (lv_at hl 0 rfl) ?_
        refine lv_bipush (v := 64) hx hb dX5_fewestPayments_24 (by decide) ?_
        refine lv_icmp_ge (tgt := 118) hx hb dX5_fewestPayments_26 (by decide) (fun c3 => ?_) (fun c3 => ?_)
        · have ic3 : 64 ≤ x4_16.toInt := i_le c3
          have hF := (if_pos c3).symm.trans hF
          refine lv_iload_n hx hb dX5_fewestPayments_118 rfl (lv_at hl 4 rfl) ?_
          refine lv_aload_n hx hb dX5_fewestPayments_119 rfl (lv_at hl 2 rfl) ?_
          refine g_get (v := .ref (ad 47)) E h 46 rfl rfl layX5 0 (by decide) rfl mw_198 rfl dX5_fewestPayments_120 ?_
          refine lv_iload_n hx hb dX5_fewestPayments_123 rfl (lv_at hl 1 rfl) ?_
          refine lv_iconst (v := 1) hx hb dX5_fewestPayments_124 (by decide) ?_
          refine lv_isub hx hb dX5_fewestPayments_125 ?_
          refine g_iald (f := (m16.2.1 47)) E h 47 rfl (ix_of (oI_sub (oI_at ((1 : Int32) <<< ((if (0 : Int32) < (if (6 : Int32) < a2 then (6 : Int32) else a2) then (if (6 : Int32) < a2 then (6 : Int32) else a2) else (0 : Int32)) &&& 31))) (oI_lit (x := 1) (a := 1) rfl)) (by omega) (by decide)) dX5_fewestPayments_126 ?_
          refine lv_isub hx hb dX5_fewestPayments_127 ?_
          exact g_iret E hr hlk h hQ (fst_of hF) (snd_of hF (fun u => gws ad cI cZ u τ)) dX5_fewestPayments_128
        · have ic3 : x4_16.toInt < 64 := i_nle c3
          have hF := (if_neg c3).symm.trans hF
          refine lv_iconst (v := 0) hx hb dX5_fewestPayments_29 (by decide) ?_
          refine lv_istore (lv' := [(5, .int (0 : Int32)), (4, .int x4_16), (3, .int ((1 : Int32) <<< ((if (0 : Int32) < (if (6 : Int32) < a2 then (6 : Int32) else a2) then (if (6 : Int32) < a2 then (6 : Int32) else a2) else (0 : Int32)) &&& 31))), (0, .ref (ad 46)), (1, .ref (ad 26)), (2, .int a2)]) hx hb dX5_fewestPayments_30 hl (by decide) rfl (fun ls hl => ?_)
          refine lv_iconst (v := 0) hx hb dX5_fewestPayments_32 (by decide) ?_
          refine lv_istore (lv' := [(6, .int (0 : Int32)), (5, .int (0 : Int32)), (4, .int x4_16), (3, .int ((1 : Int32) <<< ((if (0 : Int32) < (if (6 : Int32) < a2 then (6 : Int32) else a2) then (if (6 : Int32) < a2 then (6 : Int32) else a2) else (0 : Int32)) &&& 31))), (0, .ref (ad 46)), (1, .ref (ad 26)), (2, .int a2)]) hx hb dX5_fewestPayments_33 hl (by decide) rfl (fun ls hl => ?_)
          refine lv_iconst (v := 0) hx hb dX5_fewestPayments_35 (by decide) ?_
          refine lv_istore (lv' := [(7, .int (0 : Int32)), (6, .int (0 : Int32)), (5, .int (0 : Int32)), (4, .int x4_16), (3, .int ((1 : Int32) <<< ((if (0 : Int32) < (if (6 : Int32) < a2 then (6 : Int32) else a2) then (if (6 : Int32) < a2 then (6 : Int32) else a2) else (0 : Int32)) &&& 31))), (0, .ref (ad 46)), (1, .ref (ad 26)), (2, .int a2)]) hx hb dX5_fewestPayments_36 hl (by decide) rfl (fun ls hl => ?_)
          have L38 : ∀ (n38 : Nat) (x7_38 : Int32) (x6_38 : Int32) (x5_38 : Int32) (H : Heap) (locs : List Loc) (ls : Array Slot), (0 ≤ x7_38.toInt ∧ x7_38.toInt ≤ 6 ∧ x7_38.toInt + n38 = 7) → F_X5_fewestPayments_L38 (fun y1 y2 => F_X5_fewestPayments_L16  n16 σ a2 y1 y2) n38 σ a2 x4_16 m16 x7_38 x6_38 x5_38 = (F_X5_fewestPayments σ a2) → gH D z s (gws ad cI cZ m16 τ) H locs → lv_has ls 8 [(7, .int x7_38), (6, .int x6_38), (5, .int x5_38), (4, .int x4_16), (3, .int ((1 : Int32) <<< ((if (0 : Int32) < (if (6 : Int32) < a2 then (6 : Int32) else a2) then (if (6 : Int32) < a2 then (6 : Int32) else a2) else (0 : Int32)) &&& 31))), (0, .ref (ad 46)), (1, .ref (ad 26)), (2, .int a2)] → W p l e (rmH 5) s m ([.ref (ad 46), .ref (ad 26), .int a2] : List Value).toArray below meth c H locs 0 0 Q (F0 m 38 ls []) := by
            clear hF h hl
            intro n38
            induction n38 with
            | zero =>
              intro x7_38 x6_38 x5_38 H locs ls hI
              exact absurd hI (by omega)
            | succ n38 ih38 =>
              intro x7_38 x6_38 x5_38 H locs ls hI38 hF h hl
              refine lv_iload hx hb dX5_fewestPayments_38 (lv_at hl 0 rfl) ?_
              refine lv_bipush (v := 6) hx hb dX5_fewestPayments_40 (by decide) ?_
              refine lv_icmp_ge (tgt := 91) hx hb dX5_fewestPayments_42 (by decide) (fun c5 => ?_) (fun c5 => ?_)
              · have ic5 : 6 ≤ x7_38.toInt := i_le c5
                have hF := (if_pos c5).symm.trans hF
                refine lv_aload_n hx hb dX5_fewestPayments_91 rfl (lv_at hl 5 rfl) ?_
                refine g_get (v := .ref (ad 47)) E h 46 rfl rfl layX5 0 (by decide) rfl mw_198 rfl dX5_fewestPayments_92 ?_
                refine lv_iload hx hb dX5_fewestPayments_95 (lv_at hl 3 rfl) ?_
                refine lv_iload hx hb dX5_fewestPayments_97 (lv_at hl 2 rfl) ?_
                refine g_dia (D := D) (z := z) (ws := gws ad cI cZ m16 τ) (rest := [.int x4_16, .ref (ad 47)]) 111 (if x5_38 = 0 then (x6_38 + (1 : Int32)) else x6_38) (fun H locs h => ?_) (fun K7 => ?_)
                · refine g_iast (f := (m16.2.1 47)) (ws' := gws ad cI cZ (sa m16 47 (upd (m16.2.1 47) x4_16.toNatClampNeg (if x5_38 = 0 then (x6_38 + (1 : Int32)) else x6_38))) τ) E h 47 rfl (ix_of (oI_at x4_16) (by omega) (by decide)) (ga_47 ad cI cZ m16 τ (upd (m16.2.1 47) x4_16.toNatClampNeg (if x5_38 = 0 then (x6_38 + (1 : Int32)) else x6_38))) dX5_fewestPayments_111 (fun H locs h => ?_)
                  refine lv_iinc (v := (x4_16 + (1 : Int32))) (lv' := [(4, .int (x4_16 + (1 : Int32))), (7, .int x7_38), (6, .int x6_38), (5, .int x5_38), (3, .int ((1 : Int32) <<< ((if (0 : Int32) < (if (6 : Int32) < a2 then (6 : Int32) else a2) then (if (6 : Int32) < a2 then (6 : Int32) else a2) else (0 : Int32)) &&& 31))), (0, .ref (ad 46)), (1, .ref (ad 26)), (2, .int a2)]) hx hb dX5_fewestPayments_112 hl (k := 3) rfl rfl (by decide) rfl (fun ls hl => ?_)
                  refine lv_goto (tgt := 16) hx hb dX5_fewestPayments_115 (by decide) ?_
                  have e16_4 : (x4_16 + (1 : Int32)).toInt = _ := ti_of (oI_add (oI_at x4_16) (oI_lit (x := 1) (a := 1) rfl)) (by omega)
                  exact ih16 (x4_16 + (1 : Int32)) (sa m16 47 (upd (m16.2.1 47) x4_16.toNatClampNeg (if x5_38 = 0 then (x6_38 + (1 : Int32)) else x6_38))) _ _ ls ((show 1 ≤ (x4_16 + (1 : Int32)).toInt ∧ (x4_16 + (1 : Int32)).toInt ≤ 64 ∧ (x4_16 + (1 : Int32)).toInt + n16 = 65 from by omega)) hF h (lv_sub hl [0, 4, 5, 6, 7] rfl)
                · refine lv_if_ne (tgt := 109) hx hb dX5_fewestPayments_99 (by decide) (fun c8 => ?_) (fun c8 => ?_)
                  · have ic8 : x5_38.toInt ≠ 0 := i_ne c8
                    refine lv_iload hx hb dX5_fewestPayments_109 (lv_at hl 1 rfl) ?_
                    exact K7 _ _ _ ((if_neg c8).symm) h
                  · have ic8 : x5_38.toInt = 0 := i_eq c8
                    refine lv_iload hx hb dX5_fewestPayments_102 (lv_at hl 1 rfl) ?_
                    refine lv_iconst (v := 1) hx hb dX5_fewestPayments_104 (by decide) ?_
                    refine lv_iadd hx hb dX5_fewestPayments_105 ?_
                    refine lv_goto (tgt := 111) hx hb dX5_fewestPayments_106 (by decide) ?_
                    exact K7 _ _ _ ((if_pos c8).symm) h
              · have ic5 : x7_38.toInt < 6 := i_nle c5
                have hF := (if_neg c5).symm.trans hF
                refine lv_iload hx hb dX5_fewestPayments_45 (lv_at hl 3 rfl) ?_
                refine lv_iload hx hb dX5_fewestPayments_47 (lv_at hl 0 rfl) ?_
                refine g_callSNi (rest := []) E h (c_X8_hasBit l D cI cZ z (gws ad cI cZ m16 τ) x4_16 x7_38) nm_RX5_24 cbX8_hasBit ⟨by decide, by decide⟩ rfl rfl hl.1 (Nat.le_of_ble_eq_true rfl) ⟨Nat.zero_le _, Nat.zero_le _⟩ dX5_fewestPayments_49 (fun H locs h => ?_)
                refine lv_if_eq (tgt := 85) hx hb dX5_fewestPayments_52 (by decide) (fun c9 => ?_) (fun c9 => ?_)
                · have ic9 : (F_X8_hasBit x4_16 x7_38).toInt = 0 := i_eq c9
                  have hF := (if_pos c9).symm.trans hF
                  refine lv_iinc (v := (x7_38 + (1 : Int32))) (lv' := [(7, .int (x7_38 + (1 : Int32))), (6, .int x6_38), (5, .int x5_38), (4, .int x4_16), (3, .int ((1 : Int32) <<< ((if (0 : Int32) < (if (6 : Int32) < a2 then (6 : Int32) else a2) then (if (6 : Int32) < a2 then (6 : Int32) else a2) else (0 : Int32)) &&& 31))), (0, .ref (ad 46)), (1, .ref (ad 26)), (2, .int a2)]) hx hb dX5_fewestPayments_85 hl (k := 0) rfl rfl (by decide) rfl (fun ls hl => ?_)
                  refine lv_goto (tgt := 38) hx hb dX5_fewestPayments_88 (by decide) ?_
                  have e38_7 : (x7_38 + (1 : Int32)).toInt = _ := ti_of (oI_add (oI_at x7_38) (oI_lit (x := 1) (a := 1) rfl)) (by omega)
                  exact ih38 (x7_38 + (1 : Int32)) x6_38 x5_38 _ _ ls ((show 0 ≤ (x7_38 + (1 : Int32)).toInt ∧ (x7_38 + (1 : Int32)).toInt ≤ 6 ∧ (x7_38 + (1 : Int32)).toInt + n38 = 7 from by omega)) hF h (lv_sub hl [0, 1, 2, 3, 4, 5, 6, 7] rfl)
                · have ic9 : (F_X8_hasBit x4_16 x7_38).toInt ≠ 0 := i_ne c9
                  have hF := (if_neg c9).symm.trans hF
                  refine lv_iload hx hb dX5_fewestPayments_55 (lv_at hl 2 rfl) ?_
                  refine lv_aload_n hx hb dX5_fewestPayments_57 rfl (lv_at hl 6 rfl) ?_
                  refine lv_iload hx hb dX5_fewestPayments_58 (lv_at hl 0 rfl) ?_
                  refine g_callVh (F_X2_netOf m16 x7_38) (rest := [.int x5_38]) E h (c_X2_netOf l D cI cZ z ad m16 τ x7_38) mw_624 cbX2_netOf 26 rfl rfl ⟨by decide, by decide⟩ rfl rfl hl.1 (Nat.le_of_ble_eq_true rfl) ⟨Nat.zero_le _, Nat.zero_le _⟩ dX5_fewestPayments_60 (fun v10 huv10 H locs h => ?_)
                  have hF : F_X5_fewestPayments_k60_11 (fun y1 y2 => F_X5_fewestPayments_L16  n16 σ a2 y1 y2) (fun y1 y2 y3 => F_X5_fewestPayments_L38 (fun y1 y2 => F_X5_fewestPayments_L16  n16 σ a2 y1 y2) n38 σ a2 x4_16 m16 y1 y2 y3) σ a2 x4_16 m16 x7_38 x6_38 x5_38 v10 = (F_X5_fewestPayments σ a2) := by rw [← huv10]; exact hF
                  refine lv_iadd hx hb dX5_fewestPayments_63 ?_
                  refine lv_istore (lv' := [(5, .int (x5_38 + v10)), (7, .int x7_38), (6, .int x6_38), (4, .int x4_16), (3, .int ((1 : Int32) <<< ((if (0 : Int32) < (if (6 : Int32) < a2 then (6 : Int32) else a2) then (if (6 : Int32) < a2 then (6 : Int32) else a2) else (0 : Int32)) &&& 31))), (0, .ref (ad 46)), (1, .ref (ad 26)), (2, .int a2)]) hx hb dX5_fewestPayments_64 hl (by decide) rfl (fun ls hl => ?_)
                  refine lv_iload hx hb dX5_fewestPayments_66 (lv_at hl 2 rfl) ?_
                  refine lv_aload_n hx hb dX5_fewestPayments_68 rfl (lv_at hl 5 rfl) ?_
                  refine g_get (v := .ref (ad 47)) E h 46 rfl rfl layX5 0 (by decide) rfl mw_198 rfl dX5_fewestPayments_69 ?_
                  refine lv_iload hx hb dX5_fewestPayments_72 (lv_at hl 3 rfl) ?_
                  refine lv_iconst (v := 1) hx hb dX5_fewestPayments_74 (by decide) ?_
                  refine lv_iload hx hb dX5_fewestPayments_75 (lv_at hl 1 rfl) ?_
                  refine lv_ishl hx hb dX5_fewestPayments_77 ?_
                  refine lv_ixor hx hb dX5_fewestPayments_78 ?_
                  refine g_iald (f := (m16.2.1 47)) E h 47 rfl (xor_in (by omega) (by omega)) dX5_fewestPayments_79 ?_
                  refine g_max E hl.1 mw_622 mw_290 mw_12 mw_291 (by decide) (Nat.le_of_ble_eq_true rfl) ⟨Nat.zero_le _, Nat.zero_le _⟩ dX5_fewestPayments_80 ?_
                  refine lv_istore (lv' := [(6, .int (if x6_38 < ((m16.2.1 47) (x4_16 ^^^ ((1 : Int32) <<< (x7_38 &&& 31))).toNatClampNeg) then ((m16.2.1 47) (x4_16 ^^^ ((1 : Int32) <<< (x7_38 &&& 31))).toNatClampNeg) else x6_38)), (5, .int (x5_38 + v10)), (7, .int x7_38), (4, .int x4_16), (3, .int ((1 : Int32) <<< ((if (0 : Int32) < (if (6 : Int32) < a2 then (6 : Int32) else a2) then (if (6 : Int32) < a2 then (6 : Int32) else a2) else (0 : Int32)) &&& 31))), (0, .ref (ad 46)), (1, .ref (ad 26)), (2, .int a2)]) hx hb dX5_fewestPayments_83 hl (by decide) rfl (fun ls hl => ?_)
                  refine lv_iinc (v := (x7_38 + (1 : Int32))) (lv' := [(7, .int (x7_38 + (1 : Int32))), (6, .int (if x6_38 < ((m16.2.1 47) (x4_16 ^^^ ((1 : Int32) <<< (x7_38 &&& 31))).toNatClampNeg) then ((m16.2.1 47) (x4_16 ^^^ ((1 : Int32) <<< (x7_38 &&& 31))).toNatClampNeg) else x6_38)), (5, .int (x5_38 + v10)), (4, .int x4_16), (3, .int ((1 : Int32) <<< ((if (0 : Int32) < (if (6 : Int32) < a2 then (6 : Int32) else a2) then (if (6 : Int32) < a2 then (6 : Int32) else a2) else (0 : Int32)) &&& 31))), (0, .ref (ad 46)), (1, .ref (ad 26)), (2, .int a2)]) hx hb dX5_fewestPayments_85 hl (k := 2) rfl rfl (by decide) rfl (fun ls hl => ?_)
                  refine lv_goto (tgt := 38) hx hb dX5_fewestPayments_88 (by decide) ?_
                  have e38_7 : (x7_38 + (1 : Int32)).toInt = _ := ti_of (oI_add (oI_at x7_38) (oI_lit (x := 1) (a := 1) rfl)) (by omega)
                  exact ih38 (x7_38 + (1 : Int32)) (if x6_38 < ((m16.2.1 47) (x4_16 ^^^ ((1 : Int32) <<< (x7_38 &&& 31))).toNatClampNeg) then ((m16.2.1 47) (x4_16 ^^^ ((1 : Int32) <<< (x7_38 &&& 31))).toNatClampNeg) else x6_38) (x5_38 + v10) _ _ ls ((show 0 ≤ (x7_38 + (1 : Int32)).toInt ∧ (x7_38 + (1 : Int32)).toInt ≤ 6 ∧ (x7_38 + (1 : Int32)).toInt + n38 = 7 from by omega)) hF h (lv_sub hl [0, 1, 2, 3, 4, 5, 6, 7] rfl)
          have q38_7 : (0 : Int32).toInt = 0 := rfl
          exact L38 7 (0 : Int32) (0 : Int32) (0 : Int32) _ _ ls ((show 0 ≤ (0 : Int32).toInt ∧ (0 : Int32).toInt ≤ 6 ∧ (0 : Int32).toInt + (7 : Nat) = 7 from by omega)) hF h (lv_sub hl [0, 1, 2, 3, 4, 5, 6, 7] rfl)
  have q16_4 : (1 : Int32).toInt = 1 := rfl
  exact L16 64 (1 : Int32) σ _ _ ls ((show 1 ≤ (1 : Int32).toInt ∧ (1 : Int32).toInt ≤ 64 ∧ (1 : Int32).toInt + (64 : Nat) = 65 from by omega)) hF h (lv_sub hl [0, 1, 2, 3, 4] rfl)

def F_X3_wellAt (σ : St) (a1 : Int32) : Int32 := (if a1 < (0 : Int32) then ((-9) : Int32) else (if (σ.1 1282) ≤ a1 then ((-9) : Int32) else (if (6 : Int32) ≤ a1 then ((-9) : Int32) else ((σ.2.1 41) a1.toNatClampNeg))))
set_option maxHeartbeats 4000000 in
set_option maxRecDepth 20000 in
theorem c_X3_wellAt (l : Launch) (D : va_G) (cI cZ : ClassId) (z : Nat) (ad : Nat → Nat) (σ τ : St) (a1 : Int32) : gM l yX3_wellAt cX3_wellAt 2 (some .int) 1 D cI cZ z (gws ad cI cZ σ τ) [.ref (ad 40), .int a1] (some (.int (F_X3_wellAt σ a1))) (gws ad cI cZ σ τ) := by
  refine g_met (own := RX3) (by decide) rfl (Nat.le_of_ble_eq_true rfl) (fun p e s m below meth c ls Q E hr hlk h hl hQ => ?_)
  have hx := E.1
  have hb := E.2.1
  have hF : (F_X3_wellAt σ a1) = (F_X3_wellAt σ a1) := rfl
  have hl : lv_has ls 2 [(0, .ref (ad 40)), (1, .int a1)] := hl
  refine lv_iconst (v := 0) hx hb dX3_wellAt_0 (by decide) ?_
  refine lv_iload_n hx hb dX3_wellAt_1 rfl (lv_at hl 1 rfl) ?_
  refine lv_icmp_gt (tgt := 28) hx hb dX3_wellAt_2 (by decide) (fun c1 => ?_) (fun c1 => ?_)
  · have ic1 : a1.toInt < 0 := i_lt c1
    have hF := (if_pos c1).symm.trans hF
    refine lv_bipush (v := (-9)) hx hb dX3_wellAt_28 (by decide) ?_
    exact g_iret E hr hlk h hQ hF rfl dX3_wellAt_30
  · have ic1 : 0 ≤ a1.toInt := i_nlt c1
    have hF := (if_neg c1).symm.trans hF
    refine lv_iload_n hx hb dX3_wellAt_5 rfl (lv_at hl 1 rfl) ?_
    refine lv_aload_n hx hb dX3_wellAt_6 rfl (lv_at hl 0 rfl) ?_
    refine g_get (v := .int (σ.1 1282)) E h 40 rfl rfl layX3 2 (by decide) rfl mw_154 rfl dX3_wellAt_7 ?_
    refine lv_icmp_ge (tgt := 28) hx hb dX3_wellAt_10 (by decide) (fun c2 => ?_) (fun c2 => ?_)
    · have ic2 : (σ.1 1282).toInt ≤ a1.toInt := i_le c2
      have hF := (if_pos c2).symm.trans hF
      refine lv_bipush (v := (-9)) hx hb dX3_wellAt_28 (by decide) ?_
      exact g_iret E hr hlk h hQ hF rfl dX3_wellAt_30
    · have ic2 : a1.toInt < (σ.1 1282).toInt := i_nle c2
      have hF := (if_neg c2).symm.trans hF
      refine lv_iload_n hx hb dX3_wellAt_13 rfl (lv_at hl 1 rfl) ?_
      refine lv_bipush (v := 6) hx hb dX3_wellAt_14 (by decide) ?_
      refine lv_icmp_ge (tgt := 28) hx hb dX3_wellAt_16 (by decide) (fun c3 => ?_) (fun c3 => ?_)
      · have ic3 : 6 ≤ a1.toInt := i_le c3
        have hF := (if_pos c3).symm.trans hF
        refine lv_bipush (v := (-9)) hx hb dX3_wellAt_28 (by decide) ?_
        exact g_iret E hr hlk h hQ hF rfl dX3_wellAt_30
      · have ic3 : a1.toInt < 6 := i_nle c3
        have hF := (if_neg c3).symm.trans hF
        refine lv_aload_n hx hb dX3_wellAt_19 rfl (lv_at hl 0 rfl) ?_
        refine g_get (v := .ref (ad 41)) E h 40 rfl rfl layX3 0 (by decide) rfl mw_152 rfl dX3_wellAt_20 ?_
        refine lv_iload_n hx hb dX3_wellAt_23 rfl (lv_at hl 1 rfl) ?_
        refine g_iald (f := (σ.2.1 41)) E h 41 rfl (ix_of (oI_at a1) (by omega) (by decide)) dX3_wellAt_24 ?_
        refine lv_goto (tgt := 30) hx hb dX3_wellAt_25 (by decide) ?_
        exact g_iret E hr hlk h hQ hF rfl dX3_wellAt_30

def F_X3_offer (σ : St) (a1 : Int32) (a2 : Int32) : St := (if ((σ.1 1282) * (σ.1 1283)) < (a1 * a2) then (sa (si (si σ 1282 a1) 1283 a2) 41 (va_cpy (σ.2.1 42) (σ.2.1 41) 0 0 6)) else (if (a1 * a2) = ((σ.1 1282) * (σ.1 1283)) then (if (σ.1 1282) ≤ a1 then σ else (sa (si (si σ 1282 a1) 1283 a2) 41 (va_cpy (σ.2.1 42) (σ.2.1 41) 0 0 6))) else σ))
abbrev I_X3_offer : List Nat := [1282, 1283]
abbrev A_X3_offer : List Nat := [41]
theorem fr_F_X3_offer (σ : St) (a1 : Int32) (a2 : Int32) : Fr I_X3_offer A_X3_offer false σ (F_X3_offer σ a1 a2) := (fr_ite1 (Fr.sa (by decide) (Fr.si (by decide) (Fr.si (by decide) Fr.rf))) (fr_ite1 (fr_ite1 Fr.rf (Fr.sa (by decide) (Fr.si (by decide) (Fr.si (by decide) Fr.rf)))) Fr.rf))
set_option maxHeartbeats 4000000 in
set_option maxRecDepth 20000 in
theorem c_X3_offer (l : Launch) (D : va_G) (cI cZ : ClassId) (z : Nat) (ad : Nat → Nat) (σ τ : St) (a1 a2 : Int32) : gM l yX3_offer cX3_offer 5 none 1 D cI cZ z (gws ad cI cZ σ τ) [.ref (ad 40), .int a1, .int a2] none (gws ad cI cZ (F_X3_offer σ a1 a2) τ) := by
  refine g_met (own := RX3) (by decide) rfl (Nat.le_of_ble_eq_true rfl) (fun p e s m below meth c ls Q E hr hlk h hl hQ => ?_)
  have hx := E.1
  have hb := E.2.1
  have hF : (F_X3_offer σ a1 a2) = (F_X3_offer σ a1 a2) := rfl
  have hl : lv_has ls 5 [(0, .ref (ad 40)), (1, .int a1), (2, .int a2)] := hl
  refine lv_iload_n hx hb dX3_offer_0 rfl (lv_at hl 1 rfl) ?_
  refine lv_iload_n hx hb dX3_offer_1 rfl (lv_at hl 2 rfl) ?_
  refine lv_imul hx hb dX3_offer_2 ?_
  refine lv_istore_n (lv' := [(3, .int (a1 * a2)), (0, .ref (ad 40)), (1, .int a1), (2, .int a2)]) hx hb dX3_offer_3 rfl hl (by decide) rfl (fun ls hl => ?_)
  refine lv_aload_n hx hb dX3_offer_4 rfl (lv_at hl 1 rfl) ?_
  refine g_get (v := .int (σ.1 1282)) E h 40 rfl rfl layX3 2 (by decide) rfl mw_154 rfl dX3_offer_5 ?_
  refine lv_aload_n hx hb dX3_offer_8 rfl (lv_at hl 1 rfl) ?_
  refine g_get (v := .int (σ.1 1283)) E h 40 rfl rfl layX3 3 (by decide) rfl mw_156 rfl dX3_offer_9 ?_
  refine lv_imul hx hb dX3_offer_12 ?_
  refine lv_istore (lv' := [(4, .int ((σ.1 1282) * (σ.1 1283))), (3, .int (a1 * a2)), (0, .ref (ad 40)), (1, .int a1), (2, .int a2)]) hx hb dX3_offer_13 hl (by decide) rfl (fun ls hl => ?_)
  refine lv_iload_n hx hb dX3_offer_15 rfl (lv_at hl 1 rfl) ?_
  refine lv_iload hx hb dX3_offer_16 (lv_at hl 0 rfl) ?_
  refine lv_icmp_gt (tgt := 35) hx hb dX3_offer_18 (by decide) (fun c1 => ?_) (fun c1 => ?_)
  · have ic1 : ((σ.1 1282) * (σ.1 1283)).toInt < (a1 * a2).toInt := i_lt c1
    have hF := (if_pos c1).symm.trans hF
    refine lv_aload_n hx hb dX3_offer_35 rfl (lv_at hl 2 rfl) ?_
    refine lv_iload_n hx hb dX3_offer_36 rfl (lv_at hl 3 rfl) ?_
    refine g_put (v := .int a1) (ty := .int) (ws' := gws ad cI cZ (si σ 1282 a1) τ) E h 40 rfl rfl layX3 tyX3 tyX3_ok nmX3 2 (by decide) rfl mw_154 rfl rfl rfl rfl (Nat.le_of_ble_eq_true rfl) (gi_1282 ad cI cZ σ τ a1) dX3_offer_37 (fun H locs h => ?_)
    refine lv_aload_n hx hb dX3_offer_40 rfl (lv_at hl 2 rfl) ?_
    refine lv_iload_n hx hb dX3_offer_41 rfl (lv_at hl 4 rfl) ?_
    refine g_put (v := .int a2) (ty := .int) (ws' := gws ad cI cZ (si (si σ 1282 a1) 1283 a2) τ) E h 40 rfl rfl layX3 tyX3 tyX3_ok nmX3 3 (by decide) rfl mw_156 rfl rfl rfl rfl (Nat.le_of_ble_eq_true rfl) (gi_1283 ad cI cZ (si σ 1282 a1) τ a2) dX3_offer_42 (fun H locs h => ?_)
    refine lv_aload_n hx hb dX3_offer_45 rfl (lv_at hl 2 rfl) ?_
    refine g_get (v := .ref (ad 42)) E h 40 rfl rfl layX3 1 (by decide) rfl mw_153 rfl dX3_offer_46 ?_
    refine lv_iconst (v := 0) hx hb dX3_offer_49 (by decide) ?_
    refine lv_aload_n hx hb dX3_offer_50 rfl (lv_at hl 2 rfl) ?_
    refine g_get (v := .ref (ad 41)) E h 40 rfl rfl layX3 0 (by decide) rfl mw_152 rfl dX3_offer_51 ?_
    refine lv_iconst (v := 0) hx hb dX3_offer_54 (by decide) ?_
    refine lv_bipush (v := 6) hx hb dX3_offer_55 (by decide) ?_
    refine g_copy (sp := (0 : Int32)) (dp := (0 : Int32)) (n := (6 : Int32)) (f := (σ.2.1 42)) (g := (σ.2.1 41)) (ws' := gws ad cI cZ (sa (si (si σ 1282 a1) 1283 a2) 41 (va_cpy (σ.2.1 42) (σ.2.1 41) 0 0 6)) τ) E h 42 41 rfl rfl (by decide) (by decide) (by decide) (by decide) (by decide) hl.1 mw_577 mw_379 mw_378 mw_13 (by decide) (Nat.le_of_ble_eq_true rfl) (ga_41 ad cI cZ (si (si σ 1282 a1) 1283 a2) τ (va_cpy (σ.2.1 42) (σ.2.1 41) 0 0 6)) dX3_offer_57 (fun H locs h => ?_)
    exact g_vret E hr hlk h hQ (congrArg (fun u => gws ad cI cZ u τ) hF) dX3_offer_60
  · have ic1 : (a1 * a2).toInt ≤ ((σ.1 1282) * (σ.1 1283)).toInt := i_nlt c1
    have hF := (if_neg c1).symm.trans hF
    refine lv_iload_n hx hb dX3_offer_21 rfl (lv_at hl 1 rfl) ?_
    refine lv_iload hx hb dX3_offer_22 (lv_at hl 0 rfl) ?_
    refine lv_icmp_ne (tgt := 60) hx hb dX3_offer_24 (by decide) (fun c2 => ?_) (fun c2 => ?_)
    · have ic2 : (a1 * a2).toInt ≠ ((σ.1 1282) * (σ.1 1283)).toInt := i_ne c2
      have hF := (if_neg c2).symm.trans hF
      exact g_vret E hr hlk h hQ (congrArg (fun u => gws ad cI cZ u τ) hF) dX3_offer_60
    · have ic2 : (a1 * a2).toInt = ((σ.1 1282) * (σ.1 1283)).toInt := i_eq c2
      have hF := (if_pos c2).symm.trans hF
      refine lv_iload_n hx hb dX3_offer_27 rfl (lv_at hl 3 rfl) ?_
      refine lv_aload_n hx hb dX3_offer_28 rfl (lv_at hl 2 rfl) ?_
      refine g_get (v := .int (σ.1 1282)) E h 40 rfl rfl layX3 2 (by decide) rfl mw_154 rfl dX3_offer_29 ?_
      refine lv_icmp_ge (tgt := 60) hx hb dX3_offer_32 (by decide) (fun c3 => ?_) (fun c3 => ?_)
      · have ic3 : (σ.1 1282).toInt ≤ a1.toInt := i_le c3
        have hF := (if_pos c3).symm.trans hF
        exact g_vret E hr hlk h hQ (congrArg (fun u => gws ad cI cZ u τ) hF) dX3_offer_60
      · have ic3 : a1.toInt < (σ.1 1282).toInt := i_nle c3
        have hF := (if_neg c3).symm.trans hF
        refine lv_aload_n hx hb dX3_offer_35 rfl (lv_at hl 2 rfl) ?_
        refine lv_iload_n hx hb dX3_offer_36 rfl (lv_at hl 3 rfl) ?_
        refine g_put (v := .int a1) (ty := .int) (ws' := gws ad cI cZ (si σ 1282 a1) τ) E h 40 rfl rfl layX3 tyX3 tyX3_ok nmX3 2 (by decide) rfl mw_154 rfl rfl rfl rfl (Nat.le_of_ble_eq_true rfl) (gi_1282 ad cI cZ σ τ a1) dX3_offer_37 (fun H locs h => ?_)
        refine lv_aload_n hx hb dX3_offer_40 rfl (lv_at hl 2 rfl) ?_
        refine lv_iload_n hx hb dX3_offer_41 rfl (lv_at hl 4 rfl) ?_
        refine g_put (v := .int a2) (ty := .int) (ws' := gws ad cI cZ (si (si σ 1282 a1) 1283 a2) τ) E h 40 rfl rfl layX3 tyX3 tyX3_ok nmX3 3 (by decide) rfl mw_156 rfl rfl rfl rfl (Nat.le_of_ble_eq_true rfl) (gi_1283 ad cI cZ (si σ 1282 a1) τ a2) dX3_offer_42 (fun H locs h => ?_)
        refine lv_aload_n hx hb dX3_offer_45 rfl (lv_at hl 2 rfl) ?_
        refine g_get (v := .ref (ad 42)) E h 40 rfl rfl layX3 1 (by decide) rfl mw_153 rfl dX3_offer_46 ?_
        refine lv_iconst (v := 0) hx hb dX3_offer_49 (by decide) ?_
        refine lv_aload_n hx hb dX3_offer_50 rfl (lv_at hl 2 rfl) ?_
        refine g_get (v := .ref (ad 41)) E h 40 rfl rfl layX3 0 (by decide) rfl mw_152 rfl dX3_offer_51 ?_
        refine lv_iconst (v := 0) hx hb dX3_offer_54 (by decide) ?_
        refine lv_bipush (v := 6) hx hb dX3_offer_55 (by decide) ?_
        refine g_copy (sp := (0 : Int32)) (dp := (0 : Int32)) (n := (6 : Int32)) (f := (σ.2.1 42)) (g := (σ.2.1 41)) (ws' := gws ad cI cZ (sa (si (si σ 1282 a1) 1283 a2) 41 (va_cpy (σ.2.1 42) (σ.2.1 41) 0 0 6)) τ) E h 42 41 rfl rfl (by decide) (by decide) (by decide) (by decide) (by decide) hl.1 mw_577 mw_379 mw_378 mw_13 (by decide) (Nat.le_of_ble_eq_true rfl) (ga_41 ad cI cZ (si (si σ 1282 a1) 1283 a2) τ (va_cpy (σ.2.1 42) (σ.2.1 41) 0 0 6)) dX3_offer_57 (fun H locs h => ?_)
        exact g_vret E hr hlk h hQ (congrArg (fun u => gws ad cI cZ u τ) hF) dX3_offer_60

def F_X3_walk_k133_11 (lf68 : Int32 → St → St) (rc : St → Int32 → Int32 → Int32 → Int32 → St) (σ : St) (a2 : Int32) (a3 : Int32) (a4 : Int32) (a5 : Int32) (m58 : St) (x8_68 : Int32) (m68 : St) (u10 : St) : St := (lf68 (x8_68 + (1 : Int32)) u10)
def F_X3_walk_L68 : Nat → (St → Int32 → Int32 → Int32 → Int32 → St) → St → Int32 → Int32 → Int32 → Int32 → St → Int32 → St → St
  | 0, _, _, _, _, _, _, _, _, m68 => m68
  | n + 1, rc, σ, a2, a3, a4, a5, m58, x8_68, m68 => (if a2 ≤ x8_68 then m68 else (if (6 : Int32) ≤ a3 then m68 else (if (F_X2_duesOf m68 ((σ.2.1 42) (a3 - (1 : Int32)).toNatClampNeg) x8_68) ≤ 0 then (F_X3_walk_L68  n rc σ a2 a3 a4 a5 m58 (x8_68 + (1 : Int32)) m68) else (if (F_X8_hasBit a4 x8_68) = 0 then (F_X3_walk_k133_11 (fun y1 y2 => F_X3_walk_L68  n rc σ a2 a3 a4 a5 m58 y1 y2) rc σ a2 a3 a4 a5 m58 x8_68 m68 (rc (sa m68 42 (upd (m68.2.1 42) a3.toNatClampNeg x8_68)) a2 (a3 + (1 : Int32)) (a4 ||| ((1 : Int32) <<< (x8_68 &&& 31))) (if (F_X2_duesOf m68 ((σ.2.1 42) (a3 - (1 : Int32)).toNatClampNeg) x8_68) < a5 then (F_X2_duesOf m68 ((σ.2.1 42) (a3 - (1 : Int32)).toNatClampNeg) x8_68) else a5))) else (F_X3_walk_L68  n rc σ a2 a3 a4 a5 m58 (x8_68 + (1 : Int32)) m68)))))
def F_X3_walk_J58 (rc : St → Int32 → Int32 → Int32 → Int32 → St) (σ : St) (a2 : Int32) (a3 : Int32) (a4 : Int32) (a5 : Int32) (m58 : St) : St := (F_X3_walk_L68  7 rc σ a2 a3 a4 a5 m58 (((m58.2.1 42) 0) + (1 : Int32)) m58)
def F_X3_walk_k55_15 (jf58 : St → St) (rc : St → Int32 → Int32 → Int32 → Int32 → St) (σ : St) (a2 : Int32) (a3 : Int32) (a4 : Int32) (a5 : Int32) (u14 : St) : St := (jf58 u14)
def F_X3_walk_B (rc : St → Int32 → Int32 → Int32 → Int32 → St) (σ : St) (a2 : Int32) (a3 : Int32) (a4 : Int32) (a5 : Int32) : St := (if a3 < (1 : Int32) then σ else (if a3 ≤ (6 : Int32) then (if a3 < (2 : Int32) then ((fun y1 => F_X3_walk_J58  rc σ a2 a3 a4 a5 y1) σ) else (if (F_X2_duesOf σ ((σ.2.1 42) (a3 - (1 : Int32)).toNatClampNeg) ((σ.2.1 42) 0)) ≤ 0 then ((fun y1 => F_X3_walk_J58  rc σ a2 a3 a4 a5 y1) σ) else (F_X3_walk_k55_15 (fun y1 => F_X3_walk_J58  rc σ a2 a3 a4 a5 y1) rc σ a2 a3 a4 a5 (F_X3_offer σ a3 (if (F_X2_duesOf σ ((σ.2.1 42) (a3 - (1 : Int32)).toNatClampNeg) ((σ.2.1 42) 0)) < a5 then (F_X2_duesOf σ ((σ.2.1 42) (a3 - (1 : Int32)).toNatClampNeg) ((σ.2.1 42) 0)) else a5))))) else σ))
def F_X3_walk : Nat → St → Int32 → Int32 → Int32 → Int32 → St
  | 0 => fun σ _ _ _ _ => σ
  | d + 1 => F_X3_walk_B (F_X3_walk d)
abbrev I_X3_walk : List Nat := [1282, 1283]
abbrev A_X3_walk : List Nat := [41, 42]
theorem fr_F_X3_walk_k133_11 (lf68 : Int32 → St → St) (rc : St → Int32 → Int32 → Int32 → Int32 → St) (σ : St) (a2 : Int32) (a3 : Int32) (a4 : Int32) (a5 : Int32) (m58 : St) (x8_68 : Int32) (m68 : St) (u10 : St) (hlf68 : ∀ (y1 : Int32) (m : St), Fr I_X3_walk A_X3_walk false σ m → Fr I_X3_walk A_X3_walk false σ (lf68 y1 m)) (hrc : ∀ (σ : St) (a2 : Int32) (a3 : Int32) (a4 : Int32) (a5 : Int32), Fr I_X3_walk A_X3_walk false σ (rc σ a2 a3 a4 a5)) (hfr : Fr I_X3_walk A_X3_walk false σ (u10)) : Fr I_X3_walk A_X3_walk false σ (F_X3_walk_k133_11 lf68 rc σ a2 a3 a4 a5 m58 x8_68 m68 u10) := (hlf68 (x8_68 + (1 : Int32)) u10 hfr)
theorem fr_F_X3_walk_L68_w (rc : St → Int32 → Int32 → Int32 → Int32 → St) (σ : St) (a2 : Int32) (a3 : Int32) (a4 : Int32) (a5 : Int32) (m58 : St) (hrc : ∀ (σ : St) (a2 : Int32) (a3 : Int32) (a4 : Int32) (a5 : Int32), Fr I_X3_walk A_X3_walk false σ (rc σ a2 a3 a4 a5)) : ∀ (n : Nat) (x8_68 : Int32) (m68 : St), Fr I_X3_walk A_X3_walk false σ m68 → Fr I_X3_walk A_X3_walk false σ (F_X3_walk_L68  n rc σ a2 a3 a4 a5 m58 x8_68 m68)
  | 0, x8_68, m68, hfr => hfr
  | n + 1, x8_68, m68, hfr => (fr_ite1 hfr (fr_ite1 hfr (fr_ite1 ((fun y1 y2 hy => fr_F_X3_walk_L68_w  rc σ a2 a3 a4 a5 m58  hrc n y1 y2 hy) (x8_68 + (1 : Int32)) m68 hfr) (fr_ite1 (fr_F_X3_walk_k133_11 (fun y1 y2 => F_X3_walk_L68  n rc σ a2 a3 a4 a5 m58 y1 y2) rc σ a2 a3 a4 a5 m58 x8_68 m68 (rc (sa m68 42 (upd (m68.2.1 42) a3.toNatClampNeg x8_68)) a2 (a3 + (1 : Int32)) (a4 ||| ((1 : Int32) <<< (x8_68 &&& 31))) (if (F_X2_duesOf m68 ((σ.2.1 42) (a3 - (1 : Int32)).toNatClampNeg) x8_68) < a5 then (F_X2_duesOf m68 ((σ.2.1 42) (a3 - (1 : Int32)).toNatClampNeg) x8_68) else a5)) (fun y1 y2 hy => fr_F_X3_walk_L68_w  rc σ a2 a3 a4 a5 m58  hrc n y1 y2 hy) hrc (Fr.tr (Fr.sa (by decide) hfr) (hrc (sa m68 42 (upd (m68.2.1 42) a3.toNatClampNeg x8_68)) a2 (a3 + (1 : Int32)) (a4 ||| ((1 : Int32) <<< (x8_68 &&& 31))) (if (F_X2_duesOf m68 ((σ.2.1 42) (a3 - (1 : Int32)).toNatClampNeg) x8_68) < a5 then (F_X2_duesOf m68 ((σ.2.1 42) (a3 - (1 : Int32)).toNatClampNeg) x8_68) else a5)))) ((fun y1 y2 hy => fr_F_X3_walk_L68_w  rc σ a2 a3 a4 a5 m58  hrc n y1 y2 hy) (x8_68 + (1 : Int32)) m68 hfr)))))
theorem fr_F_X3_walk_L68 (n : Nat) (rc : St → Int32 → Int32 → Int32 → Int32 → St) (σ : St) (a2 : Int32) (a3 : Int32) (a4 : Int32) (a5 : Int32) (m58 : St) (x8_68 : Int32) (m68 : St) (hrc : ∀ (σ : St) (a2 : Int32) (a3 : Int32) (a4 : Int32) (a5 : Int32), Fr I_X3_walk A_X3_walk false σ (rc σ a2 a3 a4 a5)) (hfr : Fr I_X3_walk A_X3_walk false σ (m68)) : Fr I_X3_walk A_X3_walk false σ (F_X3_walk_L68  n rc σ a2 a3 a4 a5 m58 x8_68 m68) := fr_F_X3_walk_L68_w  rc σ a2 a3 a4 a5 m58  hrc n x8_68 m68 hfr
theorem fr_F_X3_walk_J58 (rc : St → Int32 → Int32 → Int32 → Int32 → St) (σ : St) (a2 : Int32) (a3 : Int32) (a4 : Int32) (a5 : Int32) (m58 : St) (hrc : ∀ (σ : St) (a2 : Int32) (a3 : Int32) (a4 : Int32) (a5 : Int32), Fr I_X3_walk A_X3_walk false σ (rc σ a2 a3 a4 a5)) (hfr : Fr I_X3_walk A_X3_walk false σ (m58)) : Fr I_X3_walk A_X3_walk false σ (F_X3_walk_J58  rc σ a2 a3 a4 a5 m58) := (fr_F_X3_walk_L68  7 rc σ a2 a3 a4 a5 m58 (((m58.2.1 42) 0) + (1 : Int32)) m58 hrc hfr)
theorem fr_F_X3_walk_k55_15 (jf58 : St → St) (rc : St → Int32 → Int32 → Int32 → Int32 → St) (σ : St) (a2 : Int32) (a3 : Int32) (a4 : Int32) (a5 : Int32) (u14 : St) (hjf58 : ∀  (m : St), Fr I_X3_walk A_X3_walk false σ m → Fr I_X3_walk A_X3_walk false σ (jf58  m)) (hrc : ∀ (σ : St) (a2 : Int32) (a3 : Int32) (a4 : Int32) (a5 : Int32), Fr I_X3_walk A_X3_walk false σ (rc σ a2 a3 a4 a5)) (hfr : Fr I_X3_walk A_X3_walk false σ (u14)) : Fr I_X3_walk A_X3_walk false σ (F_X3_walk_k55_15 jf58 rc σ a2 a3 a4 a5 u14) := (hjf58 u14 hfr)
theorem fr_F_X3_walk_B (rc : St → Int32 → Int32 → Int32 → Int32 → St) (σ : St) (a2 : Int32) (a3 : Int32) (a4 : Int32) (a5 : Int32) (hrc : ∀ (σ : St) (a2 : Int32) (a3 : Int32) (a4 : Int32) (a5 : Int32), Fr I_X3_walk A_X3_walk false σ (rc σ a2 a3 a4 a5)) : Fr I_X3_walk A_X3_walk false σ (F_X3_walk_B rc σ a2 a3 a4 a5) := (fr_ite1 Fr.rf (fr_ite1 (fr_ite1 ((fun y1 hy => fr_F_X3_walk_J58  rc σ a2 a3 a4 a5 y1 hrc hy) σ Fr.rf) (fr_ite1 ((fun y1 hy => fr_F_X3_walk_J58  rc σ a2 a3 a4 a5 y1 hrc hy) σ Fr.rf) (fr_F_X3_walk_k55_15 (fun y1 => F_X3_walk_J58  rc σ a2 a3 a4 a5 y1) rc σ a2 a3 a4 a5 (F_X3_offer σ a3 (if (F_X2_duesOf σ ((σ.2.1 42) (a3 - (1 : Int32)).toNatClampNeg) ((σ.2.1 42) 0)) < a5 then (F_X2_duesOf σ ((σ.2.1 42) (a3 - (1 : Int32)).toNatClampNeg) ((σ.2.1 42) 0)) else a5)) (fun y1 hy => fr_F_X3_walk_J58  rc σ a2 a3 a4 a5 y1 hrc hy) hrc (Fr.tr Fr.rf (Fr.mono (by decide) (by decide) (by decide) (fr_F_X3_offer σ a3 (if (F_X2_duesOf σ ((σ.2.1 42) (a3 - (1 : Int32)).toNatClampNeg) ((σ.2.1 42) 0)) < a5 then (F_X2_duesOf σ ((σ.2.1 42) (a3 - (1 : Int32)).toNatClampNeg) ((σ.2.1 42) 0)) else a5))))))) Fr.rf))
theorem fr_F_X3_walk : ∀ (d : Nat) (σ : St) (a2 : Int32) (a3 : Int32) (a4 : Int32) (a5 : Int32), Fr I_X3_walk A_X3_walk false σ (F_X3_walk d σ a2 a3 a4 a5)
  | 0, _, _, _, _, _ => Fr.rf
  | d + 1, σ, a2, a3, a4, a5 => fr_F_X3_walk_B (F_X3_walk d) σ a2 a3 a4 a5 (fr_F_X3_walk d)
theorem walk_L_p0 (rc : St → Int32 → Int32 → Int32 → Int32 → St) (hrc : ∀ (σ : St) (a2 a3 a4 a5 : Int32), 1 ≤ a3.toInt → (rc σ a2 a3 a4 a5).2.1 42 0 = σ.2.1 42 0) (σ : St) (a2 a3 a4 a5 : Int32) (m58 : St) (h3 : 1 ≤ a3.toInt ∧ a3.toInt ≤ 6) : ∀ (n : Nat) (x : Int32) (m : St), (F_X3_walk_L68 n rc σ a2 a3 a4 a5 m58 x m).2.1 42 0 = m.2.1 42 0
  | 0, _, _ => rfl
  | n + 1, x, m => by
    have e := ti_of (oI_add (oI_at a3) (oI_lit (x := 1) (a := 1) rfl)) (by omega)
    have ek := cn_of (oI_at a3) (by omega)
    rw [F_X3_walk_L68]
    split
    · rfl
    · split
      · rfl
      · split
        · exact walk_L_p0 rc hrc σ a2 a3 a4 a5 m58 h3 n _ _
        · split
          · show (F_X3_walk_L68 n rc σ a2 a3 a4 a5 m58 _ _).2.1 42 0 = _
            rw [walk_L_p0 rc hrc σ a2 a3 a4 a5 m58 h3 n _ _, hrc _ _ _ _ _ (by omega)]
            exact pk_un (fun q => by omega)
          · exact walk_L_p0 rc hrc σ a2 a3 a4 a5 m58 h3 n _ _
theorem F_X3_walk_p0 : ∀ (d : Nat) (σ : St) (a2 a3 a4 a5 : Int32), 1 ≤ a3.toInt → (F_X3_walk d σ a2 a3 a4 a5).2.1 42 0 = σ.2.1 42 0
  | 0, _, _, _, _, _, _ => rfl
  | d + 1, σ, a2, a3, a4, a5, h => by
    show (F_X3_walk_B (F_X3_walk d) σ a2 a3 a4 a5).2.1 42 0 = _
    unfold F_X3_walk_B
    split
    · rfl
    · split
      · rename_i h6
        have h6 : a3.toInt ≤ 6 := i_le h6
        split
        · exact walk_L_p0 _ (F_X3_walk_p0 d) σ a2 a3 a4 a5 _ ⟨h, h6⟩ 7 _ _
        · split
          · exact walk_L_p0 _ (F_X3_walk_p0 d) σ a2 a3 a4 a5 _ ⟨h, h6⟩ 7 _ _
          · refine (walk_L_p0 _ (F_X3_walk_p0 d) σ a2 a3 a4 a5 _ ⟨h, h6⟩ 7 _ _).trans ?_
            exact congrFun ((fr_F_X3_offer _ _ _).2.1 42 (by decide)) 0
      · rfl
set_option maxHeartbeats 4000000 in
set_option maxRecDepth 20000 in
theorem c_X3_walk (l : Launch) (D : va_G) (cI cZ : ClassId) (z : Nat) (ad : Nat → Nat) (τ : St) : ∀ (d : Nat) (σ : St) (a2 a3 a4 a5 : Int32), (0 < d ∧ 7 ≤ a3.toInt + d) → (a2.toInt ≤ 6) → (0 ≤ ((σ.2.1 42) 0).toInt ∧ ((σ.2.1 42) 0).toInt ≤ 5) → gM l yX3_walk cX3_walk 10 none (d + 4) D cI cZ z (gws ad cI cZ σ τ) [.ref (ad 40), .ref (ad 26), .int a2, .int a3, .int a4, .int a5] none (gws ad cI cZ (F_X3_walk d σ a2 a3 a4 a5) τ) := by
  intro d
  induction d with
  | zero => intro σ a2 a3 a4 a5 hp hw h0; exact absurd hp (by omega)
  | succ d ihd =>
    intro σ a2 a3 a4 a5 hp hw h0
    have hB : F_X3_walk_B (F_X3_walk d) σ a2 a3 a4 a5 = (F_X3_walk (d + 1) σ a2 a3 a4 a5) := rfl
    refine g_met (own := RX3) (by decide) rfl (Nat.le_of_ble_eq_true rfl) (fun p e s m below meth c ls Q E hr hlk h hl hQ => ?_)
    have hx := E.1
    have hb := E.2.1
    have hF := hB
    clear hB
    generalize F_X3_walk (d + 1) σ a2 a3 a4 a5 = TG at hF hQ
    have hk0 := F_X3_walk_p0 d
    generalize F_X3_walk d = rc at ihd hF hk0
    have hl : lv_has ls 10 [(0, .ref (ad 40)), (1, .ref (ad 26)), (2, .int a2), (3, .int a3), (4, .int a4), (5, .int a5)] := hl
    refine lv_iload_n hx hb dX3_walk_0 rfl (lv_at hl 3 rfl) ?_
    refine lv_iconst (v := 1) hx hb dX3_walk_1 (by decide) ?_
    refine lv_icmp_lt (tgt := 11) hx hb dX3_walk_2 (by decide) (fun c1 => ?_) (fun c1 => ?_)
    · have ic1 : a3.toInt < 1 := i_lt c1
      have hF := (if_pos c1).symm.trans hF
      exact g_vret E hr hlk h hQ (congrArg (fun u => gws ad cI cZ u τ) hF) dX3_walk_11
    · have ic1 : 1 ≤ a3.toInt := i_nlt c1
      have hF := (if_neg c1).symm.trans hF
      refine lv_iload_n hx hb dX3_walk_5 rfl (lv_at hl 3 rfl) ?_
      refine lv_bipush (v := 6) hx hb dX3_walk_6 (by decide) ?_
      refine lv_icmp_le (tgt := 12) hx hb dX3_walk_8 (by decide) (fun c2 => ?_) (fun c2 => ?_)
      · have ic2 : a3.toInt ≤ 6 := i_le c2
        have hF := (if_pos c2).symm.trans hF
        refine lv_aload_n hx hb dX3_walk_12 rfl (lv_at hl 0 rfl) ?_
        refine g_get (v := .ref (ad 42)) E h 40 rfl rfl layX3 1 (by decide) rfl mw_153 rfl dX3_walk_13 ?_
        refine lv_iload_n hx hb dX3_walk_16 rfl (lv_at hl 3 rfl) ?_
        refine lv_iconst (v := 1) hx hb dX3_walk_17 (by decide) ?_
        refine lv_isub hx hb dX3_walk_18 ?_
        refine g_iald (f := (σ.2.1 42)) E h 42 rfl (ix_of (oI_sub (oI_at a3) (oI_lit (x := 1) (a := 1) rfl)) (by omega) (by decide)) dX3_walk_19 ?_
        refine lv_istore (lv' := [(6, .int ((σ.2.1 42) (a3 - (1 : Int32)).toNatClampNeg)), (0, .ref (ad 40)), (1, .ref (ad 26)), (2, .int a2), (3, .int a3), (4, .int a4), (5, .int a5)]) hx hb dX3_walk_20 hl (by decide) rfl (fun ls hl => ?_)
        refine lv_aload_n hx hb dX3_walk_22 rfl (lv_at hl 2 rfl) ?_
        refine lv_iload hx hb dX3_walk_23 (lv_at hl 0 rfl) ?_
        refine lv_aload_n hx hb dX3_walk_25 rfl (lv_at hl 1 rfl) ?_
        refine g_get (v := .ref (ad 42)) E h 40 rfl rfl layX3 1 (by decide) rfl mw_153 rfl dX3_walk_26 ?_
        refine lv_iconst (v := 0) hx hb dX3_walk_29 (by decide) ?_
        refine g_ialdk (f := (σ.2.1 42)) E h 42 rfl 0 rfl (ix_of (oI_lit (x := 0) (a := 0) rfl) (by omega) (by decide)) dX3_walk_30 ?_
        refine g_callVi (rest := []) E h (c_X2_duesOf l D cI cZ z ad σ τ ((σ.2.1 42) (a3 - (1 : Int32)).toNatClampNeg) ((σ.2.1 42) 0)) mw_571 cbX2_duesOf 26 rfl rfl ⟨by show 2 + 1 ≤ d + 1 + 4; omega, by show 8 + (3 + 11) + 100 * (2) ≤ 100 * (d + 1 + 4); omega⟩ rfl rfl hl.1 (Nat.le_of_ble_eq_true rfl) ⟨Nat.zero_le _, Nat.zero_le _⟩ dX3_walk_31 (fun H locs h => ?_)
        refine lv_istore (lv' := [(7, .int (F_X2_duesOf σ ((σ.2.1 42) (a3 - (1 : Int32)).toNatClampNeg) ((σ.2.1 42) 0))), (6, .int ((σ.2.1 42) (a3 - (1 : Int32)).toNatClampNeg)), (0, .ref (ad 40)), (1, .ref (ad 26)), (2, .int a2), (3, .int a3), (4, .int a4), (5, .int a5)]) hx hb dX3_walk_34 hl (by decide) rfl (fun ls hl => ?_)
        have J58 : ∀ (m58 : St) (H : Heap) (locs : List Loc) (ls : Array Slot), (0 ≤ ((m58.2.1 42) 0).toInt ∧ ((m58.2.1 42) 0).toInt ≤ 5) → F_X3_walk_J58  rc σ a2 a3 a4 a5 m58 = TG → gH D z s (gws ad cI cZ m58 τ) H locs → lv_has ls 10 [(7, .int (F_X2_duesOf σ ((σ.2.1 42) (a3 - (1 : Int32)).toNatClampNeg) ((σ.2.1 42) 0))), (6, .int ((σ.2.1 42) (a3 - (1 : Int32)).toNatClampNeg)), (0, .ref (ad 40)), (1, .ref (ad 26)), (2, .int a2), (3, .int a3), (4, .int a4), (5, .int a5)] → W p l e (rmH (d + 1 + 4)) s m ([.ref (ad 40), .ref (ad 26), .int a2, .int a3, .int a4, .int a5] : List Value).toArray below meth c H locs 0 0 Q (F0 m 58 ls []) := by
          clear hF h hl
          intro m58 H locs ls hJ58 hF h hl
          refine lv_aload_n hx hb dX3_walk_58 rfl (lv_at hl 2 rfl) ?_
          refine g_get (v := .ref (ad 42)) E h 40 rfl rfl layX3 1 (by decide) rfl mw_153 rfl dX3_walk_59 ?_
          refine lv_iconst (v := 0) hx hb dX3_walk_62 (by decide) ?_
          refine g_ialdk (f := (m58.2.1 42)) E h 42 rfl 0 rfl (ix_of (oI_lit (x := 0) (a := 0) rfl) (by omega) (by decide)) dX3_walk_63 ?_
          refine lv_iconst (v := 1) hx hb dX3_walk_64 (by decide) ?_
          refine lv_iadd hx hb dX3_walk_65 ?_
          refine lv_istore (lv' := [(8, .int (((m58.2.1 42) 0) + (1 : Int32))), (7, .int (F_X2_duesOf σ ((σ.2.1 42) (a3 - (1 : Int32)).toNatClampNeg) ((σ.2.1 42) 0))), (6, .int ((σ.2.1 42) (a3 - (1 : Int32)).toNatClampNeg)), (0, .ref (ad 40)), (1, .ref (ad 26)), (2, .int a2), (3, .int a3), (4, .int a4), (5, .int a5)]) hx hb dX3_walk_66 hl (by decide) rfl (fun ls hl => ?_)
          have L68 : ∀ (n68 : Nat) (x8_68 : Int32) (m68 : St) (H : Heap) (locs : List Loc) (ls : Array Slot), ((1 ≤ x8_68.toInt ∧ 0 < n68 ∧ 6 < x8_68.toInt + n68) ∧ 0 ≤ ((m68.2.1 42) 0).toInt ∧ ((m68.2.1 42) 0).toInt ≤ 5) → F_X3_walk_L68  n68 rc σ a2 a3 a4 a5 m58 x8_68 m68 = TG → gH D z s (gws ad cI cZ m68 τ) H locs → lv_has ls 10 [(8, .int x8_68), (7, .int (F_X2_duesOf σ ((σ.2.1 42) (a3 - (1 : Int32)).toNatClampNeg) ((σ.2.1 42) 0))), (6, .int ((σ.2.1 42) (a3 - (1 : Int32)).toNatClampNeg)), (0, .ref (ad 40)), (1, .ref (ad 26)), (2, .int a2), (3, .int a3), (4, .int a4), (5, .int a5)] → W p l e (rmH (d + 1 + 4)) s m ([.ref (ad 40), .ref (ad 26), .int a2, .int a3, .int a4, .int a5] : List Value).toArray below meth c H locs 0 0 Q (F0 m 68 ls []) := by
            clear hF h hl
            intro n68
            induction n68 with
            | zero =>
              intro x8_68 m68 H locs ls hI
              exact absurd hI (by omega)
            | succ n68 ih68 =>
              intro x8_68 m68 H locs ls hI68 hF h hl
              refine lv_iload hx hb dX3_walk_68 (lv_at hl 0 rfl) ?_
              refine lv_iload_n hx hb dX3_walk_70 rfl (lv_at hl 5 rfl) ?_
              refine lv_icmp_ge (tgt := 142) hx hb dX3_walk_71 (by decide) (fun c4 => ?_) (fun c4 => ?_)
              · have ic4 : a2.toInt ≤ x8_68.toInt := i_le c4
                have hF := (if_pos c4).symm.trans hF
                exact g_vret E hr hlk h hQ (congrArg (fun u => gws ad cI cZ u τ) hF) dX3_walk_142
              · have ic4 : x8_68.toInt < a2.toInt := i_nle c4
                have hF := (if_neg c4).symm.trans hF
                refine lv_iload_n hx hb dX3_walk_74 rfl (lv_at hl 6 rfl) ?_
                refine lv_bipush (v := 6) hx hb dX3_walk_75 (by decide) ?_
                refine lv_icmp_ge (tgt := 142) hx hb dX3_walk_77 (by decide) (fun c5 => ?_) (fun c5 => ?_)
                · have ic5 : 6 ≤ a3.toInt := i_le c5
                  have hF := (if_pos c5).symm.trans hF
                  exact g_vret E hr hlk h hQ (congrArg (fun u => gws ad cI cZ u τ) hF) dX3_walk_142
                · have ic5 : a3.toInt < 6 := i_nle c5
                  have hF := (if_neg c5).symm.trans hF
                  refine lv_aload_n hx hb dX3_walk_80 rfl (lv_at hl 4 rfl) ?_
                  refine lv_iload hx hb dX3_walk_81 (lv_at hl 2 rfl) ?_
                  refine lv_iload hx hb dX3_walk_83 (lv_at hl 0 rfl) ?_
                  refine g_callVi (rest := []) E h (c_X2_duesOf l D cI cZ z ad m68 τ ((σ.2.1 42) (a3 - (1 : Int32)).toNatClampNeg) x8_68) mw_571 cbX2_duesOf 26 rfl rfl ⟨by show 2 + 1 ≤ d + 1 + 4; omega, by show 8 + (3 + 11) + 100 * (2) ≤ 100 * (d + 1 + 4); omega⟩ rfl rfl hl.1 (Nat.le_of_ble_eq_true rfl) ⟨Nat.zero_le _, Nat.zero_le _⟩ dX3_walk_85 (fun H locs h => ?_)
                  refine lv_istore (lv' := [(9, .int (F_X2_duesOf m68 ((σ.2.1 42) (a3 - (1 : Int32)).toNatClampNeg) x8_68)), (8, .int x8_68), (7, .int (F_X2_duesOf σ ((σ.2.1 42) (a3 - (1 : Int32)).toNatClampNeg) ((σ.2.1 42) 0))), (6, .int ((σ.2.1 42) (a3 - (1 : Int32)).toNatClampNeg)), (0, .ref (ad 40)), (1, .ref (ad 26)), (2, .int a2), (3, .int a3), (4, .int a4), (5, .int a5)]) hx hb dX3_walk_88 hl (by decide) rfl (fun ls hl => ?_)
                  refine lv_iload hx hb dX3_walk_90 (lv_at hl 0 rfl) ?_
                  refine lv_if_le (tgt := 136) hx hb dX3_walk_92 (by decide) (fun c6 => ?_) (fun c6 => ?_)
                  · have ic6 : (F_X2_duesOf m68 ((σ.2.1 42) (a3 - (1 : Int32)).toNatClampNeg) x8_68).toInt ≤ 0 := i_le c6
                    have hF := (if_pos c6).symm.trans hF
                    refine lv_iinc (v := (x8_68 + (1 : Int32))) (lv' := [(8, .int (x8_68 + (1 : Int32))), (9, .int (F_X2_duesOf m68 ((σ.2.1 42) (a3 - (1 : Int32)).toNatClampNeg) x8_68)), (7, .int (F_X2_duesOf σ ((σ.2.1 42) (a3 - (1 : Int32)).toNatClampNeg) ((σ.2.1 42) 0))), (6, .int ((σ.2.1 42) (a3 - (1 : Int32)).toNatClampNeg)), (0, .ref (ad 40)), (1, .ref (ad 26)), (2, .int a2), (3, .int a3), (4, .int a4), (5, .int a5)]) hx hb dX3_walk_136 hl (k := 1) rfl rfl (by decide) rfl (fun ls hl => ?_)
                    refine lv_goto (tgt := 68) hx hb dX3_walk_139 (by decide) ?_
                    have e68_8 : (x8_68 + (1 : Int32)).toInt = _ := ti_of (oI_add (oI_at x8_68) (oI_lit (x := 1) (a := 1) rfl)) (by omega)
                    exact ih68 (x8_68 + (1 : Int32)) m68 _ _ ls ((show (1 ≤ (x8_68 + (1 : Int32)).toInt ∧ 0 < n68 ∧ 6 < (x8_68 + (1 : Int32)).toInt + n68) ∧ 0 ≤ ((m68.2.1 42) 0).toInt ∧ ((m68.2.1 42) 0).toInt ≤ 5 from by omega)) hF h (lv_sub hl [0, 2, 3, 4, 5, 6, 7, 8, 9] rfl)
                  · have ic6 : 0 < (F_X2_duesOf m68 ((σ.2.1 42) (a3 - (1 : Int32)).toNatClampNeg) x8_68).toInt := i_nle c6
                    have hF := (if_neg c6).symm.trans hF
                    refine lv_iload hx hb dX3_walk_95 (lv_at hl 8 rfl) ?_
                    refine lv_iload hx hb dX3_walk_97 (lv_at hl 1 rfl) ?_
                    refine g_callSNi (rest := []) E h (c_X8_hasBit l D cI cZ z (gws ad cI cZ m68 τ) a4 x8_68) nm_RX3_44 cbX8_hasBit ⟨by show 1 + 1 ≤ d + 1 + 4; omega, by show 8 + (2 + 11) + 100 * (1) ≤ 100 * (d + 1 + 4); omega⟩ rfl rfl hl.1 (Nat.le_of_ble_eq_true rfl) ⟨Nat.zero_le _, Nat.zero_le _⟩ dX3_walk_99 (fun H locs h => ?_)
                    refine lv_if_ne (tgt := 136) hx hb dX3_walk_102 (by decide) (fun c7 => ?_) (fun c7 => ?_)
                    · have ic7 : (F_X8_hasBit a4 x8_68).toInt ≠ 0 := i_ne c7
                      have hF := (if_neg c7).symm.trans hF
                      refine lv_iinc (v := (x8_68 + (1 : Int32))) (lv' := [(8, .int (x8_68 + (1 : Int32))), (9, .int (F_X2_duesOf m68 ((σ.2.1 42) (a3 - (1 : Int32)).toNatClampNeg) x8_68)), (7, .int (F_X2_duesOf σ ((σ.2.1 42) (a3 - (1 : Int32)).toNatClampNeg) ((σ.2.1 42) 0))), (6, .int ((σ.2.1 42) (a3 - (1 : Int32)).toNatClampNeg)), (0, .ref (ad 40)), (1, .ref (ad 26)), (2, .int a2), (3, .int a3), (4, .int a4), (5, .int a5)]) hx hb dX3_walk_136 hl (k := 1) rfl rfl (by decide) rfl (fun ls hl => ?_)
                      refine lv_goto (tgt := 68) hx hb dX3_walk_139 (by decide) ?_
                      have e68_8 : (x8_68 + (1 : Int32)).toInt = _ := ti_of (oI_add (oI_at x8_68) (oI_lit (x := 1) (a := 1) rfl)) (by omega)
                      exact ih68 (x8_68 + (1 : Int32)) m68 _ _ ls ((show (1 ≤ (x8_68 + (1 : Int32)).toInt ∧ 0 < n68 ∧ 6 < (x8_68 + (1 : Int32)).toInt + n68) ∧ 0 ≤ ((m68.2.1 42) 0).toInt ∧ ((m68.2.1 42) 0).toInt ≤ 5 from by omega)) hF h (lv_sub hl [0, 2, 3, 4, 5, 6, 7, 8, 9] rfl)
                    · have ic7 : (F_X8_hasBit a4 x8_68).toInt = 0 := i_eq c7
                      have hF := (if_pos c7).symm.trans hF
                      refine lv_aload_n hx hb dX3_walk_105 rfl (lv_at hl 4 rfl) ?_
                      refine g_get (v := .ref (ad 42)) E h 40 rfl rfl layX3 1 (by decide) rfl mw_153 rfl dX3_walk_106 ?_
                      refine lv_iload_n hx hb dX3_walk_109 rfl (lv_at hl 7 rfl) ?_
                      refine lv_iload hx hb dX3_walk_110 (lv_at hl 1 rfl) ?_
                      refine g_iast (f := (m68.2.1 42)) (ws' := gws ad cI cZ (sa m68 42 (upd (m68.2.1 42) a3.toNatClampNeg x8_68)) τ) E h 42 rfl (ix_of (oI_at a3) (by omega) (by decide)) (ga_42 ad cI cZ m68 τ (upd (m68.2.1 42) a3.toNatClampNeg x8_68)) dX3_walk_112 (fun H locs h => ?_)
                      refine lv_aload_n hx hb dX3_walk_113 rfl (lv_at hl 4 rfl) ?_
                      refine lv_aload_n hx hb dX3_walk_114 rfl (lv_at hl 5 rfl) ?_
                      refine lv_iload_n hx hb dX3_walk_115 rfl (lv_at hl 6 rfl) ?_
                      refine lv_iload_n hx hb dX3_walk_116 rfl (lv_at hl 7 rfl) ?_
                      refine lv_iconst (v := 1) hx hb dX3_walk_117 (by decide) ?_
                      refine lv_iadd hx hb dX3_walk_118 ?_
                      refine lv_iload hx hb dX3_walk_119 (lv_at hl 8 rfl) ?_
                      refine lv_iconst (v := 1) hx hb dX3_walk_121 (by decide) ?_
                      refine lv_iload hx hb dX3_walk_122 (lv_at hl 1 rfl) ?_
                      refine lv_ishl hx hb dX3_walk_124 ?_
                      refine lv_ior hx hb dX3_walk_125 ?_
                      refine lv_iload hx hb dX3_walk_126 (lv_at hl 9 rfl) ?_
                      refine lv_iload hx hb dX3_walk_128 (lv_at hl 0 rfl) ?_
                      refine g_min E hl.1 mw_572 mw_298 mw_12 mw_299 (by show 1 ≤ d + 1 + 4; omega) (by show 5 + 13 ≤ 100 * (d + 1 + 4); omega) ⟨Nat.zero_le _, Nat.zero_le _⟩ dX3_walk_130 ?_
                      have w8 : (a3 + (1 : Int32)).toInt = _ := ti_of (oI_add (oI_at a3) (oI_lit (x := 1) (a := 1) rfl)) (by omega)
                      have w9 : (a3 + (1 : Int32)).toInt = _ := ti_of (oI_add (oI_at a3) (oI_lit (x := 1) (a := 1) rfl)) (by omega)
                      refine g_callVUv (rc (sa m68 42 (upd (m68.2.1 42) a3.toNatClampNeg x8_68)) a2 (a3 + (1 : Int32)) (a4 ||| ((1 : Int32) <<< (x8_68 &&& 31))) (if (F_X2_duesOf m68 ((σ.2.1 42) (a3 - (1 : Int32)).toNatClampNeg) x8_68) < a5 then (F_X2_duesOf m68 ((σ.2.1 42) (a3 - (1 : Int32)).toNatClampNeg) x8_68) else a5)) (fun u => gws ad cI cZ u τ) (rest := []) E h (ihd (sa m68 42 (upd (m68.2.1 42) a3.toNatClampNeg x8_68)) a2 (a3 + (1 : Int32)) (a4 ||| ((1 : Int32) <<< (x8_68 &&& 31))) (if (F_X2_duesOf m68 ((σ.2.1 42) (a3 - (1 : Int32)).toNatClampNeg) x8_68) < a5 then (F_X2_duesOf m68 ((σ.2.1 42) (a3 - (1 : Int32)).toNatClampNeg) x8_68) else a5) (show 0 < d ∧ 7 ≤ (a3 + (1 : Int32)).toInt + d from by omega) (show a2.toInt ≤ 6 from by omega) (show 0 ≤ ((upd (m68.2.1 42) a3.toNatClampNeg x8_68) 0).toInt ∧ ((upd (m68.2.1 42) a3.toNatClampNeg x8_68) 0).toInt ≤ 5 from by rw [show (upd (m68.2.1 42) a3.toNatClampNeg x8_68) 0 = m68.2.1 42 0 from pk_un (fun e => by have := cn_of (oI_at a3) (by omega); omega)]; exact hI68.2)) mw_567 cbX3_walk 40 rfl rfl ⟨by show d + 4 + 1 ≤ d + 1 + 4; omega, by show 8 + (10 + 11) + 100 * (d + 4) ≤ 100 * (d + 1 + 4); omega⟩ rfl rfl hl.1 (Nat.le_of_ble_eq_true rfl) ⟨Nat.zero_le _, Nat.zero_le _⟩ dX3_walk_133 (fun u10 huu10 H locs h => ?_)
                      have hF : F_X3_walk_k133_11 (fun y1 y2 => F_X3_walk_L68  n68 rc σ a2 a3 a4 a5 m58 y1 y2) rc σ a2 a3 a4 a5 m58 x8_68 m68 u10 = TG := by rw [← huu10]; exact hF
                      have q0u10 : (u10.2.1 42) 0 = m68.2.1 42 0 := by rw [← huu10, hk0 _ _ _ _ _ (by have e := ti_of (oI_add (oI_at a3) (oI_lit (x := 1) (a := 1) rfl)) (by omega); omega)]; exact pk_un (fun e => by have := cn_of (oI_at a3) (by omega); omega)
                      have q1u10 := congrArg Int32.toInt q0u10
                      refine lv_iinc (v := (x8_68 + (1 : Int32))) (lv' := [(8, .int (x8_68 + (1 : Int32))), (9, .int (F_X2_duesOf m68 ((σ.2.1 42) (a3 - (1 : Int32)).toNatClampNeg) x8_68)), (7, .int (F_X2_duesOf σ ((σ.2.1 42) (a3 - (1 : Int32)).toNatClampNeg) ((σ.2.1 42) 0))), (6, .int ((σ.2.1 42) (a3 - (1 : Int32)).toNatClampNeg)), (0, .ref (ad 40)), (1, .ref (ad 26)), (2, .int a2), (3, .int a3), (4, .int a4), (5, .int a5)]) hx hb dX3_walk_136 hl (k := 1) rfl rfl (by decide) rfl (fun ls hl => ?_)
                      refine lv_goto (tgt := 68) hx hb dX3_walk_139 (by decide) ?_
                      have e68_8 : (x8_68 + (1 : Int32)).toInt = _ := ti_of (oI_add (oI_at x8_68) (oI_lit (x := 1) (a := 1) rfl)) (by omega)
                      exact ih68 (x8_68 + (1 : Int32)) u10 _ _ ls ((show (1 ≤ (x8_68 + (1 : Int32)).toInt ∧ 0 < n68 ∧ 6 < (x8_68 + (1 : Int32)).toInt + n68) ∧ 0 ≤ ((u10.2.1 42) 0).toInt ∧ ((u10.2.1 42) 0).toInt ≤ 5 from by omega)) hF h (lv_sub hl [0, 2, 3, 4, 5, 6, 7, 8, 9] rfl)
          have q68_8 : (((m58.2.1 42) 0) + (1 : Int32)).toInt = _ := ti_of (oI_add (oI_at ((m58.2.1 42) 0)) (oI_lit (x := 1) (a := 1) rfl)) (by omega)
          exact L68 7 (((m58.2.1 42) 0) + (1 : Int32)) m58 _ _ ls ((show (1 ≤ (((m58.2.1 42) 0) + (1 : Int32)).toInt ∧ 0 < (7 : Nat) ∧ 6 < (((m58.2.1 42) 0) + (1 : Int32)).toInt + (7 : Nat)) ∧ 0 ≤ ((m58.2.1 42) 0).toInt ∧ ((m58.2.1 42) 0).toInt ≤ 5 from by omega)) hF h (lv_sub hl [0, 1, 2, 3, 4, 5, 6, 7, 8] rfl)
        refine lv_iload_n hx hb dX3_walk_36 rfl (lv_at hl 5 rfl) ?_
        refine lv_iconst (v := 2) hx hb dX3_walk_37 (by decide) ?_
        refine lv_icmp_lt (tgt := 58) hx hb dX3_walk_38 (by decide) (fun c12 => ?_) (fun c12 => ?_)
        · have ic12 : a3.toInt < 2 := i_lt c12
          have hF := (if_pos c12).symm.trans hF
          exact J58 σ _ _ ls ((show 0 ≤ ((σ.2.1 42) 0).toInt ∧ ((σ.2.1 42) 0).toInt ≤ 5 from by omega)) hF h (lv_sub hl [0, 1, 2, 3, 4, 5, 6, 7] rfl)
        · have ic12 : 2 ≤ a3.toInt := i_nlt c12
          have hF := (if_neg c12).symm.trans hF
          refine lv_iload hx hb dX3_walk_41 (lv_at hl 0 rfl) ?_
          refine lv_if_le (tgt := 58) hx hb dX3_walk_43 (by decide) (fun c13 => ?_) (fun c13 => ?_)
          · have ic13 : (F_X2_duesOf σ ((σ.2.1 42) (a3 - (1 : Int32)).toNatClampNeg) ((σ.2.1 42) 0)).toInt ≤ 0 := i_le c13
            have hF := (if_pos c13).symm.trans hF
            exact J58 σ _ _ ls ((show 0 ≤ ((σ.2.1 42) 0).toInt ∧ ((σ.2.1 42) 0).toInt ≤ 5 from by omega)) hF h (lv_sub hl [0, 1, 2, 3, 4, 5, 6, 7] rfl)
          · have ic13 : 0 < (F_X2_duesOf σ ((σ.2.1 42) (a3 - (1 : Int32)).toNatClampNeg) ((σ.2.1 42) 0)).toInt := i_nle c13
            have hF := (if_neg c13).symm.trans hF
            refine lv_aload_n hx hb dX3_walk_46 rfl (lv_at hl 2 rfl) ?_
            refine lv_iload_n hx hb dX3_walk_47 rfl (lv_at hl 5 rfl) ?_
            refine lv_iload hx hb dX3_walk_48 (lv_at hl 7 rfl) ?_
            refine lv_iload hx hb dX3_walk_50 (lv_at hl 0 rfl) ?_
            refine g_min E hl.1 mw_572 mw_298 mw_12 mw_299 (by show 1 ≤ d + 1 + 4; omega) (by show 2 + 13 ≤ 100 * (d + 1 + 4); omega) ⟨Nat.zero_le _, Nat.zero_le _⟩ dX3_walk_52 ?_
            refine g_callVUv (F_X3_offer σ a3 (if (F_X2_duesOf σ ((σ.2.1 42) (a3 - (1 : Int32)).toNatClampNeg) ((σ.2.1 42) 0)) < a5 then (F_X2_duesOf σ ((σ.2.1 42) (a3 - (1 : Int32)).toNatClampNeg) ((σ.2.1 42) 0)) else a5)) (fun u => gws ad cI cZ u τ) (rest := []) E h (c_X3_offer l D cI cZ z ad σ τ a3 (if (F_X2_duesOf σ ((σ.2.1 42) (a3 - (1 : Int32)).toNatClampNeg) ((σ.2.1 42) 0)) < a5 then (F_X2_duesOf σ ((σ.2.1 42) (a3 - (1 : Int32)).toNatClampNeg) ((σ.2.1 42) 0)) else a5)) mw_573 cbX3_offer 40 rfl rfl ⟨by show 1 + 1 ≤ d + 1 + 4; omega, by show 8 + (5 + 11) + 100 * (1) ≤ 100 * (d + 1 + 4); omega⟩ rfl rfl hl.1 (Nat.le_of_ble_eq_true rfl) ⟨Nat.zero_le _, Nat.zero_le _⟩ dX3_walk_55 (fun u14 huu14 H locs h => ?_)
            have hF : F_X3_walk_k55_15 (fun y1 => F_X3_walk_J58  rc σ a2 a3 a4 a5 y1) rc σ a2 a3 a4 a5 u14 = TG := by rw [← huu14]; exact hF
            have q0u14 : (u14.2.1 42) = σ.2.1 42 := by rw [← huu14]; exact (fr_F_X3_offer _ _ _).2.1 42 (by decide)
            rw [← q0u14] at h0
            exact J58 u14 _ _ ls ((show 0 ≤ ((u14.2.1 42) 0).toInt ∧ ((u14.2.1 42) 0).toInt ≤ 5 from by omega)) hF h (lv_sub hl [0, 1, 2, 3, 4, 5, 6, 7] rfl)
      · have ic2 : 6 < a3.toInt := i_nle c2
        have hF := (if_neg c2).symm.trans hF
        exact g_vret E hr hlk h hQ (congrArg (fun u => gws ad cI cZ u τ) hF) dX3_walk_11

def F_X3_find_k39_7 (lf12 : Int32 → St → St) (σ : St) (a2 : Int32) (x3_12 : Int32) (m12 : St) (u6 : St) : St := (lf12 (x3_12 + (1 : Int32)) u6)
def F_X3_find_L12 : Nat → St → Int32 → Int32 → St → St
  | 0, _, _, _, m12 => m12
  | n + 1, σ, a2, x3_12, m12 => (if a2 ≤ x3_12 then m12 else (if (6 : Int32) ≤ x3_12 then m12 else (F_X3_find_k39_7 (fun y1 y2 => F_X3_find_L12  n σ a2 y1 y2) σ a2 x3_12 m12 (F_X3_walk 6 (sa m12 42 (upd (m12.2.1 42) 0 x3_12)) a2 (1 : Int32) ((1 : Int32) <<< (x3_12 &&& 31)) (60 : Int32)))))
def F_X3_find (σ : St) (a2 : Int32) : St := (F_X3_find_L12  7 σ a2 (0 : Int32) (si (si σ 1282 (0 : Int32)) 1283 (0 : Int32)))
abbrev I_X3_find : List Nat := [1282, 1283]
abbrev A_X3_find : List Nat := [41, 42]
theorem fr_F_X3_find_k39_7 (lf12 : Int32 → St → St) (σ : St) (a2 : Int32) (x3_12 : Int32) (m12 : St) (u6 : St) (hlf12 : ∀ (y1 : Int32) (m : St), Fr I_X3_find A_X3_find false σ m → Fr I_X3_find A_X3_find false σ (lf12 y1 m)) (hfr : Fr I_X3_find A_X3_find false σ (u6)) : Fr I_X3_find A_X3_find false σ (F_X3_find_k39_7 lf12 σ a2 x3_12 m12 u6) := (hlf12 (x3_12 + (1 : Int32)) u6 hfr)
theorem fr_F_X3_find_L12_w (σ : St) (a2 : Int32) : ∀ (n : Nat) (x3_12 : Int32) (m12 : St), Fr I_X3_find A_X3_find false σ m12 → Fr I_X3_find A_X3_find false σ (F_X3_find_L12  n σ a2 x3_12 m12)
  | 0, x3_12, m12, hfr => hfr
  | n + 1, x3_12, m12, hfr => (fr_ite1 hfr (fr_ite1 hfr (fr_F_X3_find_k39_7 (fun y1 y2 => F_X3_find_L12  n σ a2 y1 y2) σ a2 x3_12 m12 (F_X3_walk 6 (sa m12 42 (upd (m12.2.1 42) 0 x3_12)) a2 (1 : Int32) ((1 : Int32) <<< (x3_12 &&& 31)) (60 : Int32)) (fun y1 y2 hy => fr_F_X3_find_L12_w  σ a2  n y1 y2 hy) (Fr.tr (Fr.sa (by decide) hfr) (Fr.mono (by decide) (by decide) (by decide) (fr_F_X3_walk 6 (sa m12 42 (upd (m12.2.1 42) 0 x3_12)) a2 (1 : Int32) ((1 : Int32) <<< (x3_12 &&& 31)) (60 : Int32)))))))
theorem fr_F_X3_find_L12 (n : Nat) (σ : St) (a2 : Int32) (x3_12 : Int32) (m12 : St) (hfr : Fr I_X3_find A_X3_find false σ (m12)) : Fr I_X3_find A_X3_find false σ (F_X3_find_L12  n σ a2 x3_12 m12) := fr_F_X3_find_L12_w  σ a2  n x3_12 m12 hfr
theorem fr_F_X3_find (σ : St) (a2 : Int32) : Fr I_X3_find A_X3_find false σ (F_X3_find σ a2) := (fr_F_X3_find_L12  7 σ a2 (0 : Int32) (si (si σ 1282 (0 : Int32)) 1283 (0 : Int32)) (Fr.si (by decide) (Fr.si (by decide) Fr.rf)))
set_option maxHeartbeats 4000000 in
set_option maxRecDepth 20000 in
theorem c_X3_find (l : Launch) (D : va_G) (cI cZ : ClassId) (z : Nat) (ad : Nat → Nat) (σ τ : St) (a2 : Int32) (hw : a2.toInt ≤ 6) : gM l yX3_find cX3_find 4 none 11 D cI cZ z (gws ad cI cZ σ τ) [.ref (ad 40), .ref (ad 26), .int a2] none (gws ad cI cZ (F_X3_find σ a2) τ) := by
  refine g_met (own := RX3) (by decide) rfl (Nat.le_of_ble_eq_true rfl) (fun p e s m below meth c ls Q E hr hlk h hl hQ => ?_)
  have hx := E.1
  have hb := E.2.1
  have hF : (F_X3_find σ a2) = (F_X3_find σ a2) := rfl
  have hl : lv_has ls 4 [(0, .ref (ad 40)), (1, .ref (ad 26)), (2, .int a2)] := hl
  refine lv_aload_n hx hb dX3_find_0 rfl (lv_at hl 0 rfl) ?_
  refine lv_iconst (v := 0) hx hb dX3_find_1 (by decide) ?_
  refine g_put (v := .int (0 : Int32)) (ty := .int) (ws' := gws ad cI cZ (si σ 1282 (0 : Int32)) τ) E h 40 rfl rfl layX3 tyX3 tyX3_ok nmX3 2 (by decide) rfl mw_154 rfl rfl rfl rfl (Nat.le_of_ble_eq_true rfl) (gi_1282 ad cI cZ σ τ (0 : Int32)) dX3_find_2 (fun H locs h => ?_)
  refine lv_aload_n hx hb dX3_find_5 rfl (lv_at hl 0 rfl) ?_
  refine lv_iconst (v := 0) hx hb dX3_find_6 (by decide) ?_
  refine g_put (v := .int (0 : Int32)) (ty := .int) (ws' := gws ad cI cZ (si (si σ 1282 (0 : Int32)) 1283 (0 : Int32)) τ) E h 40 rfl rfl layX3 tyX3 tyX3_ok nmX3 3 (by decide) rfl mw_156 rfl rfl rfl rfl (Nat.le_of_ble_eq_true rfl) (gi_1283 ad cI cZ (si σ 1282 (0 : Int32)) τ (0 : Int32)) dX3_find_7 (fun H locs h => ?_)
  refine lv_iconst (v := 0) hx hb dX3_find_10 (by decide) ?_
  refine lv_istore_n (lv' := [(3, .int (0 : Int32)), (0, .ref (ad 40)), (1, .ref (ad 26)), (2, .int a2)]) hx hb dX3_find_11 rfl hl (by decide) rfl (fun ls hl => ?_)
  have L12 : ∀ (n12 : Nat) (x3_12 : Int32) (m12 : St) (H : Heap) (locs : List Loc) (ls : Array Slot), (0 ≤ x3_12.toInt ∧ x3_12.toInt ≤ 6 ∧ x3_12.toInt + n12 = 7) → F_X3_find_L12  n12 σ a2 x3_12 m12 = (F_X3_find σ a2) → gH D z s (gws ad cI cZ m12 τ) H locs → lv_has ls 4 [(3, .int x3_12), (0, .ref (ad 40)), (1, .ref (ad 26)), (2, .int a2)] → W p l e (rmH 11) s m ([.ref (ad 40), .ref (ad 26), .int a2] : List Value).toArray below meth c H locs 0 0 Q (F0 m 12 ls []) := by
    clear hF h hl
    intro n12
    induction n12 with
    | zero =>
      intro x3_12 m12 H locs ls hI
      exact absurd hI (by omega)
    | succ n12 ih12 =>
      intro x3_12 m12 H locs ls hI12 hF h hl
      refine lv_iload_n hx hb dX3_find_12 rfl (lv_at hl 0 rfl) ?_
      refine lv_iload_n hx hb dX3_find_13 rfl (lv_at hl 3 rfl) ?_
      refine lv_icmp_ge (tgt := 48) hx hb dX3_find_14 (by decide) (fun c2 => ?_) (fun c2 => ?_)
      · have ic2 : a2.toInt ≤ x3_12.toInt := i_le c2
        have hF := (if_pos c2).symm.trans hF
        exact g_vret E hr hlk h hQ (congrArg (fun u => gws ad cI cZ u τ) hF) dX3_find_48
      · have ic2 : x3_12.toInt < a2.toInt := i_nle c2
        have hF := (if_neg c2).symm.trans hF
        refine lv_iload_n hx hb dX3_find_17 rfl (lv_at hl 0 rfl) ?_
        refine lv_bipush (v := 6) hx hb dX3_find_18 (by decide) ?_
        refine lv_icmp_ge (tgt := 48) hx hb dX3_find_20 (by decide) (fun c3 => ?_) (fun c3 => ?_)
        · have ic3 : 6 ≤ x3_12.toInt := i_le c3
          have hF := (if_pos c3).symm.trans hF
          exact g_vret E hr hlk h hQ (congrArg (fun u => gws ad cI cZ u τ) hF) dX3_find_48
        · have ic3 : x3_12.toInt < 6 := i_nle c3
          have hF := (if_neg c3).symm.trans hF
          refine lv_aload_n hx hb dX3_find_23 rfl (lv_at hl 1 rfl) ?_
          refine g_get (v := .ref (ad 42)) E h 40 rfl rfl layX3 1 (by decide) rfl mw_153 rfl dX3_find_24 ?_
          refine lv_iconst (v := 0) hx hb dX3_find_27 (by decide) ?_
          refine lv_iload_n hx hb dX3_find_28 rfl (lv_at hl 0 rfl) ?_
          refine g_iastk (f := (m12.2.1 42)) (ws' := gws ad cI cZ (sa m12 42 (upd (m12.2.1 42) 0 x3_12)) τ) E h 42 rfl 0 rfl (ix_of (oI_lit (x := 0) (a := 0) rfl) (by omega) (by decide)) (ga_42 ad cI cZ m12 τ (upd (m12.2.1 42) 0 x3_12)) dX3_find_29 (fun H locs h => ?_)
          refine lv_aload_n hx hb dX3_find_30 rfl (lv_at hl 1 rfl) ?_
          refine lv_aload_n hx hb dX3_find_31 rfl (lv_at hl 2 rfl) ?_
          refine lv_iload_n hx hb dX3_find_32 rfl (lv_at hl 3 rfl) ?_
          refine lv_iconst (v := 1) hx hb dX3_find_33 (by decide) ?_
          refine lv_iconst (v := 1) hx hb dX3_find_34 (by decide) ?_
          refine lv_iload_n hx hb dX3_find_35 rfl (lv_at hl 0 rfl) ?_
          refine lv_ishl hx hb dX3_find_36 ?_
          refine lv_bipush (v := 60) hx hb dX3_find_37 (by decide) ?_
          have w4 : (1 : Int32).toInt = 1 := rfl
          have w5 : (1 : Int32).toInt = 1 := rfl
          refine g_callVUv (F_X3_walk 6 (sa m12 42 (upd (m12.2.1 42) 0 x3_12)) a2 (1 : Int32) ((1 : Int32) <<< (x3_12 &&& 31)) (60 : Int32)) (fun u => gws ad cI cZ u τ) (rest := []) E h (c_X3_walk l D cI cZ z ad τ 6 (sa m12 42 (upd (m12.2.1 42) 0 x3_12)) a2 (1 : Int32) ((1 : Int32) <<< (x3_12 &&& 31)) (60 : Int32) (show 0 < 6 ∧ 7 ≤ (1 : Int32).toInt + 6 from by omega) (show a2.toInt ≤ 6 from by omega) (show 0 ≤ ((upd (m12.2.1 42) 0 x3_12) 0).toInt ∧ ((upd (m12.2.1 42) 0 x3_12) 0).toInt ≤ 5 from by rw [show (upd (m12.2.1 42) 0 x3_12) 0 = x3_12 from pk_us]; omega)) mw_567 cbX3_walk 40 rfl rfl ⟨by decide, by decide⟩ rfl rfl hl.1 (Nat.le_of_ble_eq_true rfl) ⟨Nat.zero_le _, Nat.zero_le _⟩ dX3_find_39 (fun u6 huu6 H locs h => ?_)
          have hF : F_X3_find_k39_7 (fun y1 y2 => F_X3_find_L12  n12 σ a2 y1 y2) σ a2 x3_12 m12 u6 = (F_X3_find σ a2) := by rw [← huu6]; exact hF
          refine lv_iinc (v := (x3_12 + (1 : Int32))) (lv' := [(3, .int (x3_12 + (1 : Int32))), (0, .ref (ad 40)), (1, .ref (ad 26)), (2, .int a2)]) hx hb dX3_find_42 hl (k := 0) rfl rfl (by decide) rfl (fun ls hl => ?_)
          refine lv_goto (tgt := 12) hx hb dX3_find_45 (by decide) ?_
          have e12_3 : (x3_12 + (1 : Int32)).toInt = _ := ti_of (oI_add (oI_at x3_12) (oI_lit (x := 1) (a := 1) rfl)) (by omega)
          exact ih12 (x3_12 + (1 : Int32)) u6 _ _ ls ((show 0 ≤ (x3_12 + (1 : Int32)).toInt ∧ (x3_12 + (1 : Int32)).toInt ≤ 6 ∧ (x3_12 + (1 : Int32)).toInt + n12 = 7 from by omega)) hF h (lv_sub hl [0, 1, 2, 3] rfl)
  have q12_3 : (0 : Int32).toInt = 0 := rfl
  exact L12 7 (0 : Int32) (si (si σ 1282 (0 : Int32)) 1283 (0 : Int32)) _ _ ls ((show 0 ≤ (0 : Int32).toInt ∧ (0 : Int32).toInt ≤ 6 ∧ (0 : Int32).toInt + (7 : Nat) = 7 from by omega)) hF h (lv_sub hl [0, 1, 2, 3] rfl)
