def F_X8_strikes_k113_12 (lf45 : Int32 → St → (Int32 × St)) (σ : St) (u1 : St) (u4 : St) (x2_45 : Int32) (m45 : St) (u11 : St) : Int32 × St := (lf45 (x2_45 + (1 : Int32)) u11)
def F_X8_strikes_L45 : Nat → St → St → St → Int32 → St → Int32 × St
  | 0, _, _, _, _, m45 => (0, m45)
  | n + 1, σ, u1, u4, x2_45, m45 => (if (m45.1 1282) ≤ x2_45 then (((m45.1 1282) * (m45.1 1283)), m45) else (F_X8_strikes_k113_12 (fun y1 y2 => F_X8_strikes_L45  n σ u1 u4 y1 y2) σ u1 u4 x2_45 m45 (F_X2_setDues m45 (F_X3_wellAt m45 x2_45) (F_X3_wellAt m45 (if (m45.1 1282) ≤ (x2_45 + (1 : Int32)) then (0 : Int32) else (x2_45 + (1 : Int32)))) ((F_X2_duesOf m45 (F_X3_wellAt m45 x2_45) (F_X3_wellAt m45 (if (m45.1 1282) ≤ (x2_45 + (1 : Int32)) then (0 : Int32) else (x2_45 + (1 : Int32))))) - (m45.1 1283)))))
def F_X8_strikes_k40_5 (σ : St) (u1 : St) (u4 : St) : Int32 × St := (F_X8_strikes_L45  7 σ u1 u4 (0 : Int32) u4)
def F_X8_strikes_k20_2 (σ : St) (u1 : St) : Int32 × St := (if (u1.1 1282) = 0 then (((-2) : Int32), u1) else (F_X8_strikes_k40_5 σ u1 (F_X1_remember u1)))
def F_X8_strikes (σ : St) : Int32 × St := (F_X8_strikes_k20_2 σ (F_X3_find σ (σ.1 96)))
abbrev I_X8_strikes : List Nat := [802, 1282, 1283]
abbrev A_X8_strikes : List Nat := [27, 28, 41, 42]
theorem fr_F_X8_strikes_k113_12 (lf45 : Int32 → St → (Int32 × St)) (σ : St) (u1 : St) (u4 : St) (x2_45 : Int32) (m45 : St) (u11 : St) (hlf45 : ∀ (y1 : Int32) (m : St), Fr I_X8_strikes A_X8_strikes false σ m → Fr I_X8_strikes A_X8_strikes false σ (lf45 y1 m).2) (hfr : Fr I_X8_strikes A_X8_strikes false σ (u11)) : Fr I_X8_strikes A_X8_strikes false σ (F_X8_strikes_k113_12 lf45 σ u1 u4 x2_45 m45 u11).2 := (hlf45 (x2_45 + (1 : Int32)) u11 hfr)
theorem fr_F_X8_strikes_L45_w (σ : St) (u1 : St) (u4 : St) : ∀ (n : Nat) (x2_45 : Int32) (m45 : St), Fr I_X8_strikes A_X8_strikes false σ m45 → Fr I_X8_strikes A_X8_strikes false σ (F_X8_strikes_L45  n σ u1 u4 x2_45 m45).2
  | 0, x2_45, m45, hfr => hfr
  | n + 1, x2_45, m45, hfr => (fr_ite2 hfr (fr_F_X8_strikes_k113_12 (fun y1 y2 => F_X8_strikes_L45  n σ u1 u4 y1 y2) σ u1 u4 x2_45 m45 (F_X2_setDues m45 (F_X3_wellAt m45 x2_45) (F_X3_wellAt m45 (if (m45.1 1282) ≤ (x2_45 + (1 : Int32)) then (0 : Int32) else (x2_45 + (1 : Int32)))) ((F_X2_duesOf m45 (F_X3_wellAt m45 x2_45) (F_X3_wellAt m45 (if (m45.1 1282) ≤ (x2_45 + (1 : Int32)) then (0 : Int32) else (x2_45 + (1 : Int32))))) - (m45.1 1283))) (fun y1 y2 hy => fr_F_X8_strikes_L45_w  σ u1 u4  n y1 y2 hy) (Fr.tr hfr (Fr.mono (by decide) (by decide) (by decide) (fr_F_X2_setDues m45 (F_X3_wellAt m45 x2_45) (F_X3_wellAt m45 (if (m45.1 1282) ≤ (x2_45 + (1 : Int32)) then (0 : Int32) else (x2_45 + (1 : Int32)))) ((F_X2_duesOf m45 (F_X3_wellAt m45 x2_45) (F_X3_wellAt m45 (if (m45.1 1282) ≤ (x2_45 + (1 : Int32)) then (0 : Int32) else (x2_45 + (1 : Int32))))) - (m45.1 1283)))))))
theorem fr_F_X8_strikes_L45 (n : Nat) (σ : St) (u1 : St) (u4 : St) (x2_45 : Int32) (m45 : St) (hfr : Fr I_X8_strikes A_X8_strikes false σ (m45)) : Fr I_X8_strikes A_X8_strikes false σ (F_X8_strikes_L45  n σ u1 u4 x2_45 m45).2 := fr_F_X8_strikes_L45_w  σ u1 u4  n x2_45 m45 hfr
theorem fr_F_X8_strikes_k40_5 (σ : St) (u1 : St) (u4 : St) (hfr : Fr I_X8_strikes A_X8_strikes false σ (u4)) : Fr I_X8_strikes A_X8_strikes false σ (F_X8_strikes_k40_5  σ u1 u4).2 := (fr_F_X8_strikes_L45  7 σ u1 u4 (0 : Int32) u4 hfr)
theorem fr_F_X8_strikes_k20_2 (σ : St) (u1 : St) (hfr : Fr I_X8_strikes A_X8_strikes false σ (u1)) : Fr I_X8_strikes A_X8_strikes false σ (F_X8_strikes_k20_2  σ u1).2 := (fr_ite2 hfr (fr_F_X8_strikes_k40_5 σ u1 (F_X1_remember u1) (Fr.tr hfr (Fr.mono (by decide) (by decide) (by decide) (fr_F_X1_remember u1)))))
theorem fr_F_X8_strikes (σ : St) : Fr I_X8_strikes A_X8_strikes false σ (F_X8_strikes σ).2 := (fr_F_X8_strikes_k20_2 σ (F_X3_find σ (σ.1 96)) (Fr.tr Fr.rf (Fr.mono (by decide) (by decide) (by decide) (fr_F_X3_find σ (σ.1 96)))))
set_option maxHeartbeats 4000000 in
set_option maxRecDepth 20000 in
theorem c_X8_strikes (l : Launch) (D : va_G) (cI cZ : ClassId) (z : Nat) (ad : Nat → Nat) (σ τ : St) (hu_ : 0 ≤ (σ.1 802).toInt ∧ (σ.1 802).toInt ≤ 10) (hw_ : (σ.1 96).toInt ≤ 6) (hz_ : ((F_X3_find σ (σ.1 96)).1 1282).toInt ≤ 6) : gM l yX8_strikes cX8_strikes 5 (some .int) 12 D cI cZ z (gws ad cI cZ σ τ) [.ref (ad 0)] (some (.int (F_X8_strikes σ).1)) (gws ad cI cZ (F_X8_strikes σ).2 τ) := by
  refine g_met (own := RX8) (by decide) rfl (Nat.le_of_ble_eq_true rfl) (fun p e s m below meth c ls Q E hr hlk h hl hQ => ?_)
  have hx := E.1
  have hb := E.2.1
  have hF : (F_X8_strikes σ) = (F_X8_strikes σ) := rfl
  have hl : lv_has ls 5 [(0, .ref (ad 0))] := hl
  refine lv_aload_n hx hb dX8_strikes_0 rfl (lv_at hl 0 rfl) ?_
  refine g_get (v := .ref (ad 25)) E h 0 rfl rfl layX8 3 (by decide) rfl mw_205 rfl dX8_strikes_1 ?_
  refine g_getN (v := .ref (ad 26)) E h 25 rfl rfl layX1 0 (by decide) rfl nf_RX8_123 rfl dX8_strikes_4 ?_
  refine lv_astore_n (lv' := [(1, .ref (ad 26)), (0, .ref (ad 0))]) hx hb dX8_strikes_7 rfl hl (by decide) rfl (fun ls hl => ?_)
  refine lv_aload_n hx hb dX8_strikes_8 rfl (lv_at hl 1 rfl) ?_
  refine g_get (v := .ref (ad 40)) E h 0 rfl rfl layX8 8 (by decide) rfl mw_210 rfl dX8_strikes_9 ?_
  refine lv_aload_n hx hb dX8_strikes_12 rfl (lv_at hl 0 rfl) ?_
  refine lv_aload_n hx hb dX8_strikes_13 rfl (lv_at hl 1 rfl) ?_
  refine g_get (v := .ref (ad 3)) E h 0 rfl rfl layX8 1 (by decide) rfl mw_203 rfl dX8_strikes_14 ?_
  refine g_getN (v := .int (σ.1 96)) E h 3 rfl rfl layX4 0 (by decide) rfl nf_RX8_208 rfl dX8_strikes_17 ?_
  refine g_callVUv (F_X3_find σ (σ.1 96)) (fun u => gws ad cI cZ u τ) (rest := []) E h (c_X3_find l D cI cZ z ad σ τ (σ.1 96) (show (σ.1 96).toInt ≤ 6 from by omega)) mw_563 cbX3_find 40 rfl rfl ⟨by decide, by decide⟩ rfl rfl hl.1 (Nat.le_of_ble_eq_true rfl) ⟨Nat.zero_le _, Nat.zero_le _⟩ dX8_strikes_20 (fun u1 huu1 H locs h => ?_)
  have hF : F_X8_strikes_k20_2 σ u1 = (F_X8_strikes σ) := by rw [← huu1]; exact hF
  have k802_u1 : (u1.1 802).toInt = (σ.1 802).toInt := by rw [← huu1]; exact congrArg Int32.toInt ((fr_F_X3_find σ (σ.1 96)).1 802 (by decide))
  have hz : (u1.1 1282).toInt ≤ 6 := by rw [← huu1]; exact hz_
  refine lv_aload_n hx hb dX8_strikes_23 rfl (lv_at hl 1 rfl) ?_
  refine g_get (v := .ref (ad 40)) E h 0 rfl rfl layX8 8 (by decide) rfl mw_210 rfl dX8_strikes_24 ?_
  refine g_getN (v := .int (u1.1 1282)) E h 40 rfl rfl layX3 2 (by decide) rfl nf_RX8_215 rfl dX8_strikes_27 ?_
  refine lv_if_ne (tgt := 36) hx hb dX8_strikes_30 (by decide) (fun c3 => ?_) (fun c3 => ?_)
  · have ic3 : (u1.1 1282).toInt ≠ 0 := i_ne c3
    have hF := (if_neg c3).symm.trans hF
    refine lv_aload_n hx hb dX8_strikes_36 rfl (lv_at hl 1 rfl) ?_
    refine g_get (v := .ref (ad 25)) E h 0 rfl rfl layX8 3 (by decide) rfl mw_205 rfl dX8_strikes_37 ?_
    refine g_callVUv (F_X1_remember u1) (fun u => gws ad cI cZ u τ) (rest := []) E h (c_X1_remember l D cI cZ z ad u1 τ (show 0 ≤ (u1.1 802).toInt ∧ (u1.1 802).toInt ≤ 10 from by omega)) mw_508 cbX1_remember 25 rfl rfl ⟨by decide, by decide⟩ rfl rfl hl.1 (Nat.le_of_ble_eq_true rfl) ⟨Nat.zero_le _, Nat.zero_le _⟩ dX8_strikes_40 (fun u4 huu4 H locs h => ?_)
    have hF : F_X8_strikes_k40_5 σ u1 u4 = (F_X8_strikes σ) := by rw [← huu4]; exact hF
    have k1282_u4 : (u4.1 1282).toInt = (u1.1 1282).toInt := by rw [← huu4]; exact congrArg Int32.toInt ((fr_F_X1_remember u1).1 1282 (by decide))
    refine lv_iconst (v := 0) hx hb dX8_strikes_43 (by decide) ?_
    refine lv_istore_n (lv' := [(2, .int (0 : Int32)), (1, .ref (ad 26)), (0, .ref (ad 0))]) hx hb dX8_strikes_44 rfl hl (by decide) rfl (fun ls hl => ?_)
    have L45 : ∀ (n45 : Nat) (x2_45 : Int32) (m45 : St) (H : Heap) (locs : List Loc) (ls : Array Slot), (0 ≤ x2_45.toInt ∧ x2_45.toInt ≤ 6 ∧ x2_45.toInt + n45 = 7 ∧ (m45.1 1282).toInt ≤ 6) → F_X8_strikes_L45  n45 σ u1 u4 x2_45 m45 = (F_X8_strikes σ) → gH D z s (gws ad cI cZ m45 τ) H locs → lv_has ls 5 [(2, .int x2_45), (1, .ref (ad 26)), (0, .ref (ad 0))] → W p l e (rmH 12) s m ([.ref (ad 0)] : List Value).toArray below meth c H locs 0 0 Q (F0 m 45 ls []) := by
      clear hF h hl
      intro n45
      induction n45 with
      | zero =>
        intro x2_45 m45 H locs ls hI
        exact absurd hI (by omega)
      | succ n45 ih45 =>
        intro x2_45 m45 H locs ls hI45 hF h hl
        refine lv_iload_n hx hb dX8_strikes_45 rfl (lv_at hl 0 rfl) ?_
        refine lv_aload_n hx hb dX8_strikes_46 rfl (lv_at hl 2 rfl) ?_
        refine g_get (v := .ref (ad 40)) E h 0 rfl rfl layX8 8 (by decide) rfl mw_210 rfl dX8_strikes_47 ?_
        refine g_getN (v := .int (m45.1 1282)) E h 40 rfl rfl layX3 2 (by decide) rfl nf_RX8_215 rfl dX8_strikes_50 ?_
        refine lv_icmp_ge (tgt := 122) hx hb dX8_strikes_53 (by decide) (fun c7 => ?_) (fun c7 => ?_)
        · have ic7 : (m45.1 1282).toInt ≤ x2_45.toInt := i_le c7
          have hF := (if_pos c7).symm.trans hF
          refine lv_aload_n hx hb dX8_strikes_122 rfl (lv_at hl 2 rfl) ?_
          refine g_get (v := .ref (ad 40)) E h 0 rfl rfl layX8 8 (by decide) rfl mw_210 rfl dX8_strikes_123 ?_
          refine g_getN (v := .int (m45.1 1282)) E h 40 rfl rfl layX3 2 (by decide) rfl nf_RX8_215 rfl dX8_strikes_126 ?_
          refine lv_aload_n hx hb dX8_strikes_129 rfl (lv_at hl 2 rfl) ?_
          refine g_get (v := .ref (ad 40)) E h 0 rfl rfl layX8 8 (by decide) rfl mw_210 rfl dX8_strikes_130 ?_
          refine g_getN (v := .int (m45.1 1283)) E h 40 rfl rfl layX3 3 (by decide) rfl nf_RX8_220 rfl dX8_strikes_133 ?_
          refine lv_imul hx hb dX8_strikes_136 ?_
          exact g_iret E hr hlk h hQ (fst_of hF) (snd_of hF (fun u => gws ad cI cZ u τ)) dX8_strikes_137
        · have ic7 : x2_45.toInt < (m45.1 1282).toInt := i_nle c7
          have hF := (if_neg c7).symm.trans hF
          refine lv_aload_n hx hb dX8_strikes_56 rfl (lv_at hl 2 rfl) ?_
          refine g_get (v := .ref (ad 40)) E h 0 rfl rfl layX8 8 (by decide) rfl mw_210 rfl dX8_strikes_57 ?_
          refine lv_iload_n hx hb dX8_strikes_60 rfl (lv_at hl 0 rfl) ?_
          refine g_callVi (rest := []) E h (c_X3_wellAt l D cI cZ z ad m45 τ x2_45) mw_579 cbX3_wellAt 40 rfl rfl ⟨by decide, by decide⟩ rfl rfl hl.1 (Nat.le_of_ble_eq_true rfl) ⟨Nat.zero_le _, Nat.zero_le _⟩ dX8_strikes_61 (fun H locs h => ?_)
          refine lv_istore_n (lv' := [(3, .int (F_X3_wellAt m45 x2_45)), (2, .int x2_45), (1, .ref (ad 26)), (0, .ref (ad 0))]) hx hb dX8_strikes_64 rfl hl (by decide) rfl (fun ls hl => ?_)
          refine lv_aload_n hx hb dX8_strikes_65 rfl (lv_at hl 3 rfl) ?_
          refine g_get (v := .ref (ad 40)) E h 0 rfl rfl layX8 8 (by decide) rfl mw_210 rfl dX8_strikes_66 ?_
          refine lv_iload_n hx hb dX8_strikes_69 rfl (lv_at hl 1 rfl) ?_
          refine lv_iconst (v := 1) hx hb dX8_strikes_70 (by decide) ?_
          refine lv_iadd hx hb dX8_strikes_71 ?_
          refine lv_aload_n hx hb dX8_strikes_72 rfl (lv_at hl 3 rfl) ?_
          refine g_get (v := .ref (ad 40)) E h 0 rfl rfl layX8 8 (by decide) rfl mw_210 rfl dX8_strikes_73 ?_
          refine g_getN (v := .int (m45.1 1282)) E h 40 rfl rfl layX3 2 (by decide) rfl nf_RX8_215 rfl dX8_strikes_76 ?_
          refine g_dia (D := D) (z := z) (ws := gws ad cI cZ m45 τ) (rest := [.ref (ad 40)]) 89 (if (m45.1 1282) ≤ (x2_45 + (1 : Int32)) then (0 : Int32) else (x2_45 + (1 : Int32))) (fun H locs h => ?_) (fun K9 => ?_)
          · refine g_callVi (rest := []) E h (c_X3_wellAt l D cI cZ z ad m45 τ (if (m45.1 1282) ≤ (x2_45 + (1 : Int32)) then (0 : Int32) else (x2_45 + (1 : Int32)))) mw_579 cbX3_wellAt 40 rfl rfl ⟨by decide, by decide⟩ rfl rfl hl.1 (Nat.le_of_ble_eq_true rfl) ⟨Nat.zero_le _, Nat.zero_le _⟩ dX8_strikes_89 (fun H locs h => ?_)
            refine lv_istore (lv' := [(4, .int (F_X3_wellAt m45 (if (m45.1 1282) ≤ (x2_45 + (1 : Int32)) then (0 : Int32) else (x2_45 + (1 : Int32))))), (3, .int (F_X3_wellAt m45 x2_45)), (2, .int x2_45), (1, .ref (ad 26)), (0, .ref (ad 0))]) hx hb dX8_strikes_92 hl (by decide) rfl (fun ls hl => ?_)
            refine lv_aload_n hx hb dX8_strikes_94 rfl (lv_at hl 3 rfl) ?_
            refine lv_iload_n hx hb dX8_strikes_95 rfl (lv_at hl 1 rfl) ?_
            refine lv_iload hx hb dX8_strikes_96 (lv_at hl 0 rfl) ?_
            refine lv_aload_n hx hb dX8_strikes_98 rfl (lv_at hl 3 rfl) ?_
            refine lv_iload_n hx hb dX8_strikes_99 rfl (lv_at hl 1 rfl) ?_
            refine lv_iload hx hb dX8_strikes_100 (lv_at hl 0 rfl) ?_
            refine g_callVi (rest := [.int (F_X3_wellAt m45 (if (m45.1 1282) ≤ (x2_45 + (1 : Int32)) then (0 : Int32) else (x2_45 + (1 : Int32)))), .int (F_X3_wellAt m45 x2_45), .ref (ad 26)]) E h (c_X2_duesOf l D cI cZ z ad m45 τ (F_X3_wellAt m45 x2_45) (F_X3_wellAt m45 (if (m45.1 1282) ≤ (x2_45 + (1 : Int32)) then (0 : Int32) else (x2_45 + (1 : Int32))))) mw_497 cbX2_duesOf 26 rfl rfl ⟨by decide, by decide⟩ rfl rfl hl.1 (Nat.le_of_ble_eq_true rfl) ⟨Nat.zero_le _, Nat.zero_le _⟩ dX8_strikes_102 (fun H locs h => ?_)
            refine lv_aload_n hx hb dX8_strikes_105 rfl (lv_at hl 4 rfl) ?_
            refine g_get (v := .ref (ad 40)) E h 0 rfl rfl layX8 8 (by decide) rfl mw_210 rfl dX8_strikes_106 ?_
            refine g_getN (v := .int (m45.1 1283)) E h 40 rfl rfl layX3 3 (by decide) rfl nf_RX8_220 rfl dX8_strikes_109 ?_
            refine lv_isub hx hb dX8_strikes_112 ?_
            refine g_callVUv (F_X2_setDues m45 (F_X3_wellAt m45 x2_45) (F_X3_wellAt m45 (if (m45.1 1282) ≤ (x2_45 + (1 : Int32)) then (0 : Int32) else (x2_45 + (1 : Int32)))) ((F_X2_duesOf m45 (F_X3_wellAt m45 x2_45) (F_X3_wellAt m45 (if (m45.1 1282) ≤ (x2_45 + (1 : Int32)) then (0 : Int32) else (x2_45 + (1 : Int32))))) - (m45.1 1283))) (fun u => gws ad cI cZ u τ) (rest := []) E h (c_X2_setDues l D cI cZ z ad m45 τ (F_X3_wellAt m45 x2_45) (F_X3_wellAt m45 (if (m45.1 1282) ≤ (x2_45 + (1 : Int32)) then (0 : Int32) else (x2_45 + (1 : Int32)))) ((F_X2_duesOf m45 (F_X3_wellAt m45 x2_45) (F_X3_wellAt m45 (if (m45.1 1282) ≤ (x2_45 + (1 : Int32)) then (0 : Int32) else (x2_45 + (1 : Int32))))) - (m45.1 1283))) mw_583 cbX2_setDues 26 rfl rfl ⟨by decide, by decide⟩ rfl rfl hl.1 (Nat.le_of_ble_eq_true rfl) ⟨Nat.zero_le _, Nat.zero_le _⟩ dX8_strikes_113 (fun u11 huu11 H locs h => ?_)
            have hF : F_X8_strikes_k113_12 (fun y1 y2 => F_X8_strikes_L45  n45 σ u1 u4 y1 y2) σ u1 u4 x2_45 m45 u11 = (F_X8_strikes σ) := by rw [← huu11]; exact hF
            have k802_u11 : (u11.1 802).toInt = (m45.1 802).toInt := by rw [← huu11]; exact congrArg Int32.toInt ((fr_F_X2_setDues m45 (F_X3_wellAt m45 x2_45) (F_X3_wellAt m45 (if (m45.1 1282) ≤ (x2_45 + (1 : Int32)) then (0 : Int32) else (x2_45 + (1 : Int32)))) ((F_X2_duesOf m45 (F_X3_wellAt m45 x2_45) (F_X3_wellAt m45 (if (m45.1 1282) ≤ (x2_45 + (1 : Int32)) then (0 : Int32) else (x2_45 + (1 : Int32))))) - (m45.1 1283))).1 802 (by decide))
            have k1282_u11 : (u11.1 1282).toInt = (m45.1 1282).toInt := by rw [← huu11]; exact congrArg Int32.toInt ((fr_F_X2_setDues m45 (F_X3_wellAt m45 x2_45) (F_X3_wellAt m45 (if (m45.1 1282) ≤ (x2_45 + (1 : Int32)) then (0 : Int32) else (x2_45 + (1 : Int32)))) ((F_X2_duesOf m45 (F_X3_wellAt m45 x2_45) (F_X3_wellAt m45 (if (m45.1 1282) ≤ (x2_45 + (1 : Int32)) then (0 : Int32) else (x2_45 + (1 : Int32))))) - (m45.1 1283))).1 1282 (by decide))
            refine lv_iinc (v := (x2_45 + (1 : Int32))) (lv' := [(2, .int (x2_45 + (1 : Int32))), (4, .int (F_X3_wellAt m45 (if (m45.1 1282) ≤ (x2_45 + (1 : Int32)) then (0 : Int32) else (x2_45 + (1 : Int32))))), (3, .int (F_X3_wellAt m45 x2_45)), (1, .ref (ad 26)), (0, .ref (ad 0))]) hx hb dX8_strikes_116 hl (k := 2) rfl rfl (by decide) rfl (fun ls hl => ?_)
            refine lv_goto (tgt := 45) hx hb dX8_strikes_119 (by decide) ?_
            have e45_2 : (x2_45 + (1 : Int32)).toInt = _ := ti_of (oI_add (oI_at x2_45) (oI_lit (x := 1) (a := 1) rfl)) (by omega)
            exact ih45 (x2_45 + (1 : Int32)) u11 _ _ ls ((show 0 ≤ (x2_45 + (1 : Int32)).toInt ∧ (x2_45 + (1 : Int32)).toInt ≤ 6 ∧ (x2_45 + (1 : Int32)).toInt + n45 = 7 ∧ (u11.1 1282).toInt ≤ 6 from by omega)) hF h (lv_sub hl [0, 3, 4] rfl)
          · refine lv_icmp_ge (tgt := 88) hx hb dX8_strikes_79 (by decide) (fun c10 => ?_) (fun c10 => ?_)
            · have ic10 : (m45.1 1282).toInt ≤ (x2_45 + (1 : Int32)).toInt := i_le c10
              refine lv_iconst (v := 0) hx hb dX8_strikes_88 (by decide) ?_
              exact K9 _ _ _ ((if_pos c10).symm) h
            · have ic10 : (x2_45 + (1 : Int32)).toInt < (m45.1 1282).toInt := i_nle c10
              refine lv_iload_n hx hb dX8_strikes_82 rfl (lv_at hl 1 rfl) ?_
              refine lv_iconst (v := 1) hx hb dX8_strikes_83 (by decide) ?_
              refine lv_iadd hx hb dX8_strikes_84 ?_
              refine lv_goto (tgt := 89) hx hb dX8_strikes_85 (by decide) ?_
              exact K9 _ _ _ ((if_neg c10).symm) h
    have q45_2 : (0 : Int32).toInt = 0 := rfl
    exact L45 7 (0 : Int32) u4 _ _ ls ((show 0 ≤ (0 : Int32).toInt ∧ (0 : Int32).toInt ≤ 6 ∧ (0 : Int32).toInt + (7 : Nat) = 7 ∧ (u4.1 1282).toInt ≤ 6 from by omega)) hF h (lv_sub hl [0, 1, 2] rfl)
  · have ic3 : (u1.1 1282).toInt = 0 := i_eq c3
    have hF := (if_pos c3).symm.trans hF
    refine lv_bipush (v := (-2)) hx hb dX8_strikes_33 (by decide) ?_
    exact g_iret E hr hlk h hQ (fst_of hF) (snd_of hF (fun u => gws ad cI cZ u τ)) dX8_strikes_35

set_option maxHeartbeats 4000000 in
theorem c_X8_imageOf_0 (l : Launch) (D : va_G) (cI cZ : ClassId) (z : Nat) (ad : Nat → Nat) (σ τ : St) (a1 : Int32) (h0_ : a1 = 0) : gM l yX8_imageOf cX8_imageOf 2 (some (.object "WellKnots$Ledger")) 1 D cI cZ z (gws ad cI cZ σ τ) [.ref (ad 0), .int a1] (some (.ref (ad 29))) (gws ad cI cZ σ τ) := by
  refine g_met (own := RX8) (by decide) rfl (Nat.le_of_ble_eq_true rfl) (fun p e s m below meth c ls Q E hr hlk h hl hQ => ?_)
  have hx := E.1
  have hb := E.2.1
  have hl : lv_has ls 2 [(0, .ref (ad 0)), (1, .int a1)] := hl
  refine lv_iload_n hx hb dX8_imageOf_0 rfl (lv_at hl 1 rfl) ?_
  refine lv_if_ne (tgt := 11) hx hb dX8_imageOf_1 (by decide) (fun c1 => absurd h0_ c1) (fun c1 => ?_)
  refine lv_aload_n hx hb dX8_imageOf_4 rfl (lv_at hl 0 rfl) ?_
  refine g_get (v := .ref (ad 29)) E h 0 rfl rfl layX8 4 (by decide) rfl mw_206 rfl dX8_imageOf_5 ?_
  refine lv_goto (tgt := 15) hx hb dX8_imageOf_8 (by decide) ?_
  exact g_aret E hr hlk h hQ rfl rfl dX8_imageOf_15

set_option maxHeartbeats 4000000 in
theorem c_X8_imageOf_1 (l : Launch) (D : va_G) (cI cZ : ClassId) (z : Nat) (ad : Nat → Nat) (σ τ : St) (a1 : Int32) (h0_ : ¬ a1 = 0) : gM l yX8_imageOf cX8_imageOf 2 (some (.object "WellKnots$Ledger")) 1 D cI cZ z (gws ad cI cZ σ τ) [.ref (ad 0), .int a1] (some (.ref (ad 33))) (gws ad cI cZ σ τ) := by
  refine g_met (own := RX8) (by decide) rfl (Nat.le_of_ble_eq_true rfl) (fun p e s m below meth c ls Q E hr hlk h hl hQ => ?_)
  have hx := E.1
  have hb := E.2.1
  have hl : lv_has ls 2 [(0, .ref (ad 0)), (1, .int a1)] := hl
  refine lv_iload_n hx hb dX8_imageOf_0 rfl (lv_at hl 1 rfl) ?_
  refine lv_if_ne (tgt := 11) hx hb dX8_imageOf_1 (by decide) (fun c1 => ?_) (fun c1 => absurd c1 h0_)
  refine lv_aload_n hx hb dX8_imageOf_11 rfl (lv_at hl 0 rfl) ?_
  refine g_get (v := .ref (ad 33)) E h 0 rfl rfl layX8 5 (by decide) rfl mw_207 rfl dX8_imageOf_12 ?_
  exact g_aret E hr hlk h hQ rfl rfl dX8_imageOf_15

def F_X8_keep_k20_4 (σ : St) (a1 : Int32) (u3 : St) : Int32 × St := ((F_X2_sand (si u3 6 ((u3.1 6) ||| ((1 : Int32) <<< (a1 &&& 31))))), (si u3 6 ((u3.1 6) ||| ((1 : Int32) <<< (a1 &&& 31)))))
def F_X8_keep_k20_6 (σ : St) (a1 : Int32) (u5 : St) : Int32 × St := ((F_X2_sand (si u5 6 ((u5.1 6) ||| ((1 : Int32) <<< (a1 &&& 31))))), (si u5 6 ((u5.1 6) ||| ((1 : Int32) <<< (a1 &&& 31)))))
def F_X8_keep (σ : St) (a1 : Int32) : Int32 × St := (if (F_X8_within a1 (0 : Int32) (1 : Int32)) = 0 then (((-1) : Int32), σ) else (if a1 = 0 then (F_X8_keep_k20_4 σ a1 (F_X1_become_ZN σ)) else (F_X8_keep_k20_6 σ a1 (F_X1_become_ON σ))))
abbrev I_X8_keep : List Nat := [6, 930, 1058]
abbrev A_X8_keep : List Nat := [31, 32, 35, 36]
theorem fr_F_X8_keep_k20_4 (σ : St) (a1 : Int32) (u3 : St) (hfr : Fr I_X8_keep A_X8_keep false σ (u3)) : Fr I_X8_keep A_X8_keep false σ (F_X8_keep_k20_4  σ a1 u3).2 := (Fr.si (by decide) hfr)
theorem fr_F_X8_keep_k20_6 (σ : St) (a1 : Int32) (u5 : St) (hfr : Fr I_X8_keep A_X8_keep false σ (u5)) : Fr I_X8_keep A_X8_keep false σ (F_X8_keep_k20_6  σ a1 u5).2 := (Fr.si (by decide) hfr)
theorem fr_F_X8_keep (σ : St) (a1 : Int32) : Fr I_X8_keep A_X8_keep false σ (F_X8_keep σ a1).2 := (fr_ite2 Fr.rf (fr_ite2 (fr_F_X8_keep_k20_4 σ a1 (F_X1_become_ZN σ) (Fr.tr Fr.rf (Fr.mono (by decide) (by decide) (by decide) (fr_F_X1_become_ZN σ)))) (fr_F_X8_keep_k20_6 σ a1 (F_X1_become_ON σ) (Fr.tr Fr.rf (Fr.mono (by decide) (by decide) (by decide) (fr_F_X1_become_ON σ))))))
set_option maxHeartbeats 4000000 in
set_option maxRecDepth 20000 in
theorem c_X8_keep (l : Launch) (D : va_G) (cI cZ : ClassId) (z : Nat) (ad : Nat → Nat) (σ τ : St) (a1 : Int32) : gM l yX8_keep cX8_keep 2 (some .int) 3 D cI cZ z (gws ad cI cZ σ τ) [.ref (ad 0), .int a1] (some (.int (F_X8_keep σ a1).1)) (gws ad cI cZ (F_X8_keep σ a1).2 τ) := by
  refine g_met (own := RX8) (by decide) rfl (Nat.le_of_ble_eq_true rfl) (fun p e s m below meth c ls Q E hr hlk h hl hQ => ?_)
  have hx := E.1
  have hb := E.2.1
  have hF : (F_X8_keep σ a1) = (F_X8_keep σ a1) := rfl
  have hl : lv_has ls 2 [(0, .ref (ad 0)), (1, .int a1)] := hl
  refine lv_iload_n hx hb dX8_keep_0 rfl (lv_at hl 1 rfl) ?_
  refine lv_iconst (v := 0) hx hb dX8_keep_1 (by decide) ?_
  refine lv_iconst (v := 1) hx hb dX8_keep_2 (by decide) ?_
  refine g_callSi (rest := []) E h (c_X8_within l D cI cZ z (gws ad cI cZ σ τ) a1 (0 : Int32) (1 : Int32)) mw_243 cbX8_within ⟨by decide, by decide⟩ rfl rfl hl.1 (Nat.le_of_ble_eq_true rfl) ⟨Nat.zero_le _, Nat.zero_le _⟩ dX8_keep_3 (fun H locs h => ?_)
  refine lv_if_ne (tgt := 11) hx hb dX8_keep_6 (by decide) (fun c1 => ?_) (fun c1 => ?_)
  · have ic1 : (F_X8_within a1 (0 : Int32) (1 : Int32)).toInt ≠ 0 := i_ne c1
    have jc1 : 0 ≤ a1.toInt ∧ a1.toInt ≤ 1 := fz_within c1
    have hF := (if_neg c1).symm.trans hF
    refine lv_aload_n hx hb dX8_keep_11 rfl (lv_at hl 0 rfl) ?_
    refine lv_iload_n hx hb dX8_keep_12 rfl (lv_at hl 1 rfl) ?_
    by_cases t2 : a1 = 0
    · have hF := (if_pos t2).symm.trans hF
      refine g_callVr (rest := []) E h (c_X8_imageOf_0 l D cI cZ z ad σ τ a1 t2) mw_747 cbX8_imageOf 0 rfl rfl ⟨by decide, by decide⟩ rfl rfl hl.1 (Nat.le_of_ble_eq_true rfl) ⟨Nat.zero_le _, Nat.zero_le _⟩ dX8_keep_13 (fun H locs h => ?_)
      refine lv_aload_n hx hb dX8_keep_16 rfl (lv_at hl 0 rfl) ?_
      refine g_get (v := .ref (ad 25)) E h 0 rfl rfl layX8 3 (by decide) rfl mw_205 rfl dX8_keep_17 ?_
      refine g_callVUv (F_X1_become_ZN σ) (fun u => gws ad cI cZ u τ) (rest := []) E h (c_X1_become_ZN l D cI cZ z ad σ τ) mw_751 cbX1_become 29 rfl rfl ⟨by decide, by decide⟩ rfl rfl hl.1 (Nat.le_of_ble_eq_true rfl) ⟨Nat.zero_le _, Nat.zero_le _⟩ dX8_keep_20 (fun u3 huu3 H locs h => ?_)
      have hF : F_X8_keep_k20_4 σ a1 u3 = (F_X8_keep σ a1) := by rw [← huu3]; exact hF
      refine lv_aload_n hx hb dX8_keep_23 rfl (lv_at hl 0 rfl) ?_
      refine lv_dup hx hb dX8_keep_24 rfl ?_
      refine g_get (v := .int (u3.1 6)) E h 0 rfl rfl layX8 6 (by decide) rfl mw_208 rfl dX8_keep_25 ?_
      refine lv_iconst (v := 1) hx hb dX8_keep_28 (by decide) ?_
      refine lv_iload_n hx hb dX8_keep_29 rfl (lv_at hl 1 rfl) ?_
      refine lv_ishl hx hb dX8_keep_30 ?_
      refine lv_ior hx hb dX8_keep_31 ?_
      refine g_put (v := .int ((u3.1 6) ||| ((1 : Int32) <<< (a1 &&& 31)))) (ty := .int) (ws' := gws ad cI cZ (si u3 6 ((u3.1 6) ||| ((1 : Int32) <<< (a1 &&& 31)))) τ) E h 0 rfl rfl layX8 tyX8 tyX8_ok nmX8 6 (by decide) rfl mw_208 rfl rfl rfl rfl (Nat.le_of_ble_eq_true rfl) (gi_6 ad cI cZ u3 τ ((u3.1 6) ||| ((1 : Int32) <<< (a1 &&& 31)))) dX8_keep_32 (fun H locs h => ?_)
      refine lv_aload_n hx hb dX8_keep_35 rfl (lv_at hl 0 rfl) ?_
      refine g_get (v := .ref (ad 25)) E h 0 rfl rfl layX8 3 (by decide) rfl mw_205 rfl dX8_keep_36 ?_
      refine g_getN (v := .ref (ad 26)) E h 25 rfl rfl layX1 0 (by decide) rfl nf_RX8_123 rfl dX8_keep_39 ?_
      refine g_callVi (rest := []) E h (c_X2_sand l D cI cZ z ad (si u3 6 ((u3.1 6) ||| ((1 : Int32) <<< (a1 &&& 31)))) τ) mw_600 cbX2_sand 26 rfl rfl ⟨by decide, by decide⟩ rfl rfl hl.1 (Nat.le_of_ble_eq_true rfl) ⟨Nat.zero_le _, Nat.zero_le _⟩ dX8_keep_42 (fun H locs h => ?_)
      exact g_iret E hr hlk h hQ (fst_of hF) (snd_of hF (fun u => gws ad cI cZ u τ)) dX8_keep_45
    · have hF := (if_neg t2).symm.trans hF
      refine g_callVr (rest := []) E h (c_X8_imageOf_1 l D cI cZ z ad σ τ a1 t2) mw_747 cbX8_imageOf 0 rfl rfl ⟨by decide, by decide⟩ rfl rfl hl.1 (Nat.le_of_ble_eq_true rfl) ⟨Nat.zero_le _, Nat.zero_le _⟩ dX8_keep_13 (fun H locs h => ?_)
      refine lv_aload_n hx hb dX8_keep_16 rfl (lv_at hl 0 rfl) ?_
      refine g_get (v := .ref (ad 25)) E h 0 rfl rfl layX8 3 (by decide) rfl mw_205 rfl dX8_keep_17 ?_
      refine g_callVUv (F_X1_become_ON σ) (fun u => gws ad cI cZ u τ) (rest := []) E h (c_X1_become_ON l D cI cZ z ad σ τ) mw_751 cbX1_become 33 rfl rfl ⟨by decide, by decide⟩ rfl rfl hl.1 (Nat.le_of_ble_eq_true rfl) ⟨Nat.zero_le _, Nat.zero_le _⟩ dX8_keep_20 (fun u5 huu5 H locs h => ?_)
      have hF : F_X8_keep_k20_6 σ a1 u5 = (F_X8_keep σ a1) := by rw [← huu5]; exact hF
      refine lv_aload_n hx hb dX8_keep_23 rfl (lv_at hl 0 rfl) ?_
      refine lv_dup hx hb dX8_keep_24 rfl ?_
      refine g_get (v := .int (u5.1 6)) E h 0 rfl rfl layX8 6 (by decide) rfl mw_208 rfl dX8_keep_25 ?_
      refine lv_iconst (v := 1) hx hb dX8_keep_28 (by decide) ?_
      refine lv_iload_n hx hb dX8_keep_29 rfl (lv_at hl 1 rfl) ?_
      refine lv_ishl hx hb dX8_keep_30 ?_
      refine lv_ior hx hb dX8_keep_31 ?_
      refine g_put (v := .int ((u5.1 6) ||| ((1 : Int32) <<< (a1 &&& 31)))) (ty := .int) (ws' := gws ad cI cZ (si u5 6 ((u5.1 6) ||| ((1 : Int32) <<< (a1 &&& 31)))) τ) E h 0 rfl rfl layX8 tyX8 tyX8_ok nmX8 6 (by decide) rfl mw_208 rfl rfl rfl rfl (Nat.le_of_ble_eq_true rfl) (gi_6 ad cI cZ u5 τ ((u5.1 6) ||| ((1 : Int32) <<< (a1 &&& 31)))) dX8_keep_32 (fun H locs h => ?_)
      refine lv_aload_n hx hb dX8_keep_35 rfl (lv_at hl 0 rfl) ?_
      refine g_get (v := .ref (ad 25)) E h 0 rfl rfl layX8 3 (by decide) rfl mw_205 rfl dX8_keep_36 ?_
      refine g_getN (v := .ref (ad 26)) E h 25 rfl rfl layX1 0 (by decide) rfl nf_RX8_123 rfl dX8_keep_39 ?_
      refine g_callVi (rest := []) E h (c_X2_sand l D cI cZ z ad (si u5 6 ((u5.1 6) ||| ((1 : Int32) <<< (a1 &&& 31)))) τ) mw_600 cbX2_sand 26 rfl rfl ⟨by decide, by decide⟩ rfl rfl hl.1 (Nat.le_of_ble_eq_true rfl) ⟨Nat.zero_le _, Nat.zero_le _⟩ dX8_keep_42 (fun H locs h => ?_)
      exact g_iret E hr hlk h hQ (fst_of hF) (snd_of hF (fun u => gws ad cI cZ u τ)) dX8_keep_45
  · have ic1 : (F_X8_within a1 (0 : Int32) (1 : Int32)).toInt = 0 := i_eq c1
    have hF := (if_pos c1).symm.trans hF
    refine lv_iconst (v := (-1)) hx hb dX8_keep_9 (by decide) ?_
    exact g_iret E hr hlk h hQ (fst_of hF) (snd_of hF (fun u => gws ad cI cZ u τ)) dX8_keep_10

def F_X8_back_k34_5 (σ : St) (a1 : Int32) (u4 : St) : Int32 × St := ((F_X2_sand u4), u4)
def F_X8_back_k34_7 (σ : St) (a1 : Int32) (u6 : St) : Int32 × St := ((F_X2_sand u6), u6)
def F_X8_back (σ : St) (a1 : Int32) : Int32 × St := (if (F_X8_within a1 (0 : Int32) (1 : Int32)) = 0 then (((-1) : Int32), σ) else (if (F_X8_hasBit (σ.1 6) a1) = 0 then (((-2) : Int32), σ) else (if a1 = 0 then (F_X8_back_k34_5 σ a1 (F_X1_become_NZ σ)) else (F_X8_back_k34_7 σ a1 (F_X1_become_NO σ)))))
abbrev I_X8_back : List Nat := [802]
abbrev A_X8_back : List Nat := [27, 28]
theorem fr_F_X8_back_k34_5 (σ : St) (a1 : Int32) (u4 : St) (hfr : Fr I_X8_back A_X8_back false σ (u4)) : Fr I_X8_back A_X8_back false σ (F_X8_back_k34_5  σ a1 u4).2 := hfr
theorem fr_F_X8_back_k34_7 (σ : St) (a1 : Int32) (u6 : St) (hfr : Fr I_X8_back A_X8_back false σ (u6)) : Fr I_X8_back A_X8_back false σ (F_X8_back_k34_7  σ a1 u6).2 := hfr
theorem fr_F_X8_back (σ : St) (a1 : Int32) : Fr I_X8_back A_X8_back false σ (F_X8_back σ a1).2 := (fr_ite2 Fr.rf (fr_ite2 Fr.rf (fr_ite2 (fr_F_X8_back_k34_5 σ a1 (F_X1_become_NZ σ) (Fr.tr Fr.rf (Fr.mono (by decide) (by decide) (by decide) (fr_F_X1_become_NZ σ)))) (fr_F_X8_back_k34_7 σ a1 (F_X1_become_NO σ) (Fr.tr Fr.rf (Fr.mono (by decide) (by decide) (by decide) (fr_F_X1_become_NO σ)))))))
set_option maxHeartbeats 4000000 in
set_option maxRecDepth 20000 in
theorem c_X8_back (l : Launch) (D : va_G) (cI cZ : ClassId) (z : Nat) (ad : Nat → Nat) (σ τ : St) (a1 : Int32) : gM l yX8_back cX8_back 2 (some .int) 3 D cI cZ z (gws ad cI cZ σ τ) [.ref (ad 0), .int a1] (some (.int (F_X8_back σ a1).1)) (gws ad cI cZ (F_X8_back σ a1).2 τ) := by
  refine g_met (own := RX8) (by decide) rfl (Nat.le_of_ble_eq_true rfl) (fun p e s m below meth c ls Q E hr hlk h hl hQ => ?_)
  have hx := E.1
  have hb := E.2.1
  have hF : (F_X8_back σ a1) = (F_X8_back σ a1) := rfl
  have hl : lv_has ls 2 [(0, .ref (ad 0)), (1, .int a1)] := hl
  refine lv_iload_n hx hb dX8_back_0 rfl (lv_at hl 1 rfl) ?_
  refine lv_iconst (v := 0) hx hb dX8_back_1 (by decide) ?_
  refine lv_iconst (v := 1) hx hb dX8_back_2 (by decide) ?_
  refine g_callSi (rest := []) E h (c_X8_within l D cI cZ z (gws ad cI cZ σ τ) a1 (0 : Int32) (1 : Int32)) mw_243 cbX8_within ⟨by decide, by decide⟩ rfl rfl hl.1 (Nat.le_of_ble_eq_true rfl) ⟨Nat.zero_le _, Nat.zero_le _⟩ dX8_back_3 (fun H locs h => ?_)
  refine lv_if_ne (tgt := 11) hx hb dX8_back_6 (by decide) (fun c1 => ?_) (fun c1 => ?_)
  · have ic1 : (F_X8_within a1 (0 : Int32) (1 : Int32)).toInt ≠ 0 := i_ne c1
    have jc1 : 0 ≤ a1.toInt ∧ a1.toInt ≤ 1 := fz_within c1
    have hF := (if_neg c1).symm.trans hF
    refine lv_aload_n hx hb dX8_back_11 rfl (lv_at hl 0 rfl) ?_
    refine g_get (v := .int (σ.1 6)) E h 0 rfl rfl layX8 6 (by decide) rfl mw_208 rfl dX8_back_12 ?_
    refine lv_iload_n hx hb dX8_back_15 rfl (lv_at hl 1 rfl) ?_
    refine g_callSi (rest := []) E h (c_X8_hasBit l D cI cZ z (gws ad cI cZ σ τ) (σ.1 6) a1) mw_759 cbX8_hasBit ⟨by decide, by decide⟩ rfl rfl hl.1 (Nat.le_of_ble_eq_true rfl) ⟨Nat.zero_le _, Nat.zero_le _⟩ dX8_back_16 (fun H locs h => ?_)
    refine lv_if_ne (tgt := 25) hx hb dX8_back_19 (by decide) (fun c2 => ?_) (fun c2 => ?_)
    · have ic2 : (F_X8_hasBit (σ.1 6) a1).toInt ≠ 0 := i_ne c2
      have hF := (if_neg c2).symm.trans hF
      refine lv_aload_n hx hb dX8_back_25 rfl (lv_at hl 0 rfl) ?_
      refine g_get (v := .ref (ad 25)) E h 0 rfl rfl layX8 3 (by decide) rfl mw_205 rfl dX8_back_26 ?_
      refine lv_aload_n hx hb dX8_back_29 rfl (lv_at hl 0 rfl) ?_
      refine lv_iload_n hx hb dX8_back_30 rfl (lv_at hl 1 rfl) ?_
      by_cases t3 : a1 = 0
      · have hF := (if_pos t3).symm.trans hF
        refine g_callVr (rest := [.ref (ad 25)]) E h (c_X8_imageOf_0 l D cI cZ z ad σ τ a1 t3) mw_747 cbX8_imageOf 0 rfl rfl ⟨by decide, by decide⟩ rfl rfl hl.1 (Nat.le_of_ble_eq_true rfl) ⟨Nat.zero_le _, Nat.zero_le _⟩ dX8_back_31 (fun H locs h => ?_)
        refine g_callVUv (F_X1_become_NZ σ) (fun u => gws ad cI cZ u τ) (rest := []) E h (c_X1_become_NZ l D cI cZ z ad σ τ) mw_751 cbX1_become 25 rfl rfl ⟨by decide, by decide⟩ rfl rfl hl.1 (Nat.le_of_ble_eq_true rfl) ⟨Nat.zero_le _, Nat.zero_le _⟩ dX8_back_34 (fun u4 huu4 H locs h => ?_)
        have hF : F_X8_back_k34_5 σ a1 u4 = (F_X8_back σ a1) := by rw [← huu4]; exact hF
        refine lv_aload_n hx hb dX8_back_37 rfl (lv_at hl 0 rfl) ?_
        refine g_get (v := .ref (ad 25)) E h 0 rfl rfl layX8 3 (by decide) rfl mw_205 rfl dX8_back_38 ?_
        refine g_getN (v := .ref (ad 26)) E h 25 rfl rfl layX1 0 (by decide) rfl nf_RX8_123 rfl dX8_back_41 ?_
        refine g_callVi (rest := []) E h (c_X2_sand l D cI cZ z ad u4 τ) mw_600 cbX2_sand 26 rfl rfl ⟨by decide, by decide⟩ rfl rfl hl.1 (Nat.le_of_ble_eq_true rfl) ⟨Nat.zero_le _, Nat.zero_le _⟩ dX8_back_44 (fun H locs h => ?_)
        exact g_iret E hr hlk h hQ (fst_of hF) (snd_of hF (fun u => gws ad cI cZ u τ)) dX8_back_47
      · have hF := (if_neg t3).symm.trans hF
        refine g_callVr (rest := [.ref (ad 25)]) E h (c_X8_imageOf_1 l D cI cZ z ad σ τ a1 t3) mw_747 cbX8_imageOf 0 rfl rfl ⟨by decide, by decide⟩ rfl rfl hl.1 (Nat.le_of_ble_eq_true rfl) ⟨Nat.zero_le _, Nat.zero_le _⟩ dX8_back_31 (fun H locs h => ?_)
        refine g_callVUv (F_X1_become_NO σ) (fun u => gws ad cI cZ u τ) (rest := []) E h (c_X1_become_NO l D cI cZ z ad σ τ) mw_751 cbX1_become 25 rfl rfl ⟨by decide, by decide⟩ rfl rfl hl.1 (Nat.le_of_ble_eq_true rfl) ⟨Nat.zero_le _, Nat.zero_le _⟩ dX8_back_34 (fun u6 huu6 H locs h => ?_)
        have hF : F_X8_back_k34_7 σ a1 u6 = (F_X8_back σ a1) := by rw [← huu6]; exact hF
        refine lv_aload_n hx hb dX8_back_37 rfl (lv_at hl 0 rfl) ?_
        refine g_get (v := .ref (ad 25)) E h 0 rfl rfl layX8 3 (by decide) rfl mw_205 rfl dX8_back_38 ?_
        refine g_getN (v := .ref (ad 26)) E h 25 rfl rfl layX1 0 (by decide) rfl nf_RX8_123 rfl dX8_back_41 ?_
        refine g_callVi (rest := []) E h (c_X2_sand l D cI cZ z ad u6 τ) mw_600 cbX2_sand 26 rfl rfl ⟨by decide, by decide⟩ rfl rfl hl.1 (Nat.le_of_ble_eq_true rfl) ⟨Nat.zero_le _, Nat.zero_le _⟩ dX8_back_44 (fun H locs h => ?_)
        exact g_iret E hr hlk h hQ (fst_of hF) (snd_of hF (fun u => gws ad cI cZ u τ)) dX8_back_47
    · have ic2 : (F_X8_hasBit (σ.1 6) a1).toInt = 0 := i_eq c2
      have hF := (if_pos c2).symm.trans hF
      refine lv_bipush (v := (-2)) hx hb dX8_back_22 (by decide) ?_
      exact g_iret E hr hlk h hQ (fst_of hF) (snd_of hF (fun u => gws ad cI cZ u τ)) dX8_back_24
  · have ic1 : (F_X8_within a1 (0 : Int32) (1 : Int32)).toInt = 0 := i_eq c1
    have hF := (if_pos c1).symm.trans hF
    refine lv_iconst (v := (-1)) hx hb dX8_back_9 (by decide) ?_
    exact g_iret E hr hlk h hQ (fst_of hF) (snd_of hF (fun u => gws ad cI cZ u τ)) dX8_back_10
