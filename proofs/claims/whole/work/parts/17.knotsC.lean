def F_X8_now_k59_5 (σ : St) (a1 : Int32) (v4 : Int32) : Int32 × St := (v4, σ)
def F_X8_now_k64_8 (σ : St) (a1 : Int32) (v7 : Int32) : Int32 × St := (v7, σ)
def F_X8_now_k80_11 (σ : St) (a1 : Int32) (u10 : Int32 × St) : Int32 × St := (u10.1, u10.2)
def F_X8_now_k88_14 (σ : St) (a1 : Int32) (v13 : Int32) : Int32 × St := (v13, σ)
def F_X8_now (σ : St) (a1 : Int32) : Int32 × St := (if a1 = 0 then ((F_X2_sand σ), σ) else (if a1 = 1 then ((F_X2_alive σ), σ) else (if a1 = 2 then (F_X8_now_k59_5 σ a1 (F_X2_allKnots σ)) else (if a1 = 3 then (F_X8_now_k64_8 σ a1 (F_X2_allDues σ)) else (if a1 = 4 then (F_X8_now_k80_11 σ a1 (F_X5_fewestPayments σ (σ.1 96))) else (if a1 = 5 then (F_X8_now_k88_14 σ a1 (F_X4_salt σ)) else (((-1) : Int32), σ)))))))
abbrev I_X8_now : List Nat := []
abbrev A_X8_now : List Nat := [47]
theorem fr_F_X8_now_k59_5 (σ : St) (a1 : Int32) (v4 : Int32) : Fr I_X8_now A_X8_now false σ (F_X8_now_k59_5  σ a1 v4).2 := Fr.rf
theorem fr_F_X8_now_k64_8 (σ : St) (a1 : Int32) (v7 : Int32) : Fr I_X8_now A_X8_now false σ (F_X8_now_k64_8  σ a1 v7).2 := Fr.rf
theorem fr_F_X8_now_k80_11 (σ : St) (a1 : Int32) (u10 : Int32 × St) (hfr : Fr I_X8_now A_X8_now false σ (u10.2)) : Fr I_X8_now A_X8_now false σ (F_X8_now_k80_11  σ a1 u10).2 := hfr
theorem fr_F_X8_now_k88_14 (σ : St) (a1 : Int32) (v13 : Int32) : Fr I_X8_now A_X8_now false σ (F_X8_now_k88_14  σ a1 v13).2 := Fr.rf
theorem fr_F_X8_now (σ : St) (a1 : Int32) : Fr I_X8_now A_X8_now false σ (F_X8_now σ a1).2 := (fr_ite2 Fr.rf (fr_ite2 Fr.rf (fr_ite2 (fr_F_X8_now_k59_5 σ a1 (F_X2_allKnots σ) ) (fr_ite2 (fr_F_X8_now_k64_8 σ a1 (F_X2_allDues σ) ) (fr_ite2 (fr_F_X8_now_k80_11 σ a1 (F_X5_fewestPayments σ (σ.1 96)) (Fr.tr Fr.rf (Fr.mono (by decide) (by decide) (by decide) (fr_F_X5_fewestPayments σ (σ.1 96))))) (fr_ite2 (fr_F_X8_now_k88_14 σ a1 (F_X4_salt σ) ) Fr.rf))))))
set_option maxHeartbeats 4000000 in
set_option maxRecDepth 20000 in
theorem c_X8_now (l : Launch) (D : va_G) (cI cZ : ClassId) (z : Nat) (ad : Nat → Nat) (σ τ : St) (a1 : Int32) (hw_ : 0 ≤ (σ.1 96).toInt ∧ (σ.1 96).toInt ≤ 6) (hs_ : (σ.1 97).toInt ≤ 8) : gM l yX8_now cX8_now 3 (some .int) 6 D cI cZ z (gws ad cI cZ σ τ) [.ref (ad 0), .int a1] (some (.int (F_X8_now σ a1).1)) (gws ad cI cZ (F_X8_now σ a1).2 τ) := by
  refine g_met (own := RX8) (by decide) rfl (Nat.le_of_ble_eq_true rfl) (fun p e s m below meth c ls Q E hr hlk h hl hQ => ?_)
  have hx := E.1
  have hb := E.2.1
  have hF : (F_X8_now σ a1) = (F_X8_now σ a1) := rfl
  have hl : lv_has ls 3 [(0, .ref (ad 0)), (1, .int a1)] := hl
  refine lv_aload_n hx hb dX8_now_0 rfl (lv_at hl 0 rfl) ?_
  refine g_get (v := .ref (ad 25)) E h 0 rfl rfl layX8 3 (by decide) rfl mw_205 rfl dX8_now_1 ?_
  refine g_getN (v := .ref (ad 26)) E h 25 rfl rfl layX1 0 (by decide) rfl nf_RX8_123 rfl dX8_now_4 ?_
  refine lv_astore_n (lv' := [(2, .ref (ad 26)), (0, .ref (ad 0)), (1, .int a1)]) hx hb dX8_now_7 rfl hl (by decide) rfl (fun ls hl => ?_)
  refine lv_iload_n hx hb dX8_now_8 rfl (lv_at hl 2 rfl) ?_
  by_cases t1 : a1 = 0
  · have it1 : a1.toInt = 0 := i_eq t1
    have hF := (if_pos t1).symm.trans hF
    refine lv_tableIn (off := 39) (tgt := 48) hx hb dX8_now_9 (by rw [it1]; decide) (by rw [it1]; decide) (by rw [it1]; rfl) (by decide) ?_
    refine lv_aload_n hx hb dX8_now_48 rfl (lv_at hl 0 rfl) ?_
    refine g_callVi (rest := []) E h (c_X2_sand l D cI cZ z ad σ τ) mw_600 cbX2_sand 26 rfl rfl ⟨by decide, by decide⟩ rfl rfl hl.1 (Nat.le_of_ble_eq_true rfl) ⟨Nat.zero_le _, Nat.zero_le _⟩ dX8_now_49 (fun H locs h => ?_)
    exact g_iret E hr hlk h hQ (fst_of hF) (snd_of hF (fun u => gws ad cI cZ u τ)) dX8_now_52
  · have it1 : a1.toInt ≠ 0 := i_ne t1
    have hF := (if_neg t1).symm.trans hF
    by_cases t2 : a1 = 1
    · have it2 : a1.toInt = 1 := i_eq t2
      have hF := (if_pos t2).symm.trans hF
      refine lv_tableIn (off := 44) (tgt := 53) hx hb dX8_now_9 (by rw [it2]; decide) (by rw [it2]; decide) (by rw [it2]; rfl) (by decide) ?_
      refine lv_aload_n hx hb dX8_now_53 rfl (lv_at hl 0 rfl) ?_
      refine g_callVi (rest := []) E h (c_X2_alive l D cI cZ z ad σ τ) mw_604 cbX2_alive 26 rfl rfl ⟨by decide, by decide⟩ rfl rfl hl.1 (Nat.le_of_ble_eq_true rfl) ⟨Nat.zero_le _, Nat.zero_le _⟩ dX8_now_54 (fun H locs h => ?_)
      exact g_iret E hr hlk h hQ (fst_of hF) (snd_of hF (fun u => gws ad cI cZ u τ)) dX8_now_57
    · have it2 : a1.toInt ≠ 1 := i_ne t2
      have hF := (if_neg t2).symm.trans hF
      by_cases t3 : a1 = 2
      · have it3 : a1.toInt = 2 := i_eq t3
        have hF := (if_pos t3).symm.trans hF
        refine lv_tableIn (off := 49) (tgt := 58) hx hb dX8_now_9 (by rw [it3]; decide) (by rw [it3]; decide) (by rw [it3]; rfl) (by decide) ?_
        refine lv_aload_n hx hb dX8_now_58 rfl (lv_at hl 0 rfl) ?_
        refine g_callVh (F_X2_allKnots σ) (rest := []) E h (c_X2_allKnots l D cI cZ z ad σ τ) mw_608 cbX2_allKnots 26 rfl rfl ⟨by decide, by decide⟩ rfl rfl hl.1 (Nat.le_of_ble_eq_true rfl) ⟨Nat.zero_le _, Nat.zero_le _⟩ dX8_now_59 (fun v4 huv4 H locs h => ?_)
        have hF : F_X8_now_k59_5 σ a1 v4 = (F_X8_now σ a1) := by rw [← huv4]; exact hF
        exact g_iret E hr hlk h hQ (fst_of hF) (snd_of hF (fun u => gws ad cI cZ u τ)) dX8_now_62
      · have it3 : a1.toInt ≠ 2 := i_ne t3
        have hF := (if_neg t3).symm.trans hF
        by_cases t6 : a1 = 3
        · have it6 : a1.toInt = 3 := i_eq t6
          have hF := (if_pos t6).symm.trans hF
          refine lv_tableIn (off := 54) (tgt := 63) hx hb dX8_now_9 (by rw [it6]; decide) (by rw [it6]; decide) (by rw [it6]; rfl) (by decide) ?_
          refine lv_aload_n hx hb dX8_now_63 rfl (lv_at hl 0 rfl) ?_
          refine g_callVh (F_X2_allDues σ) (rest := []) E h (c_X2_allDues l D cI cZ z ad σ τ) mw_613 cbX2_allDues 26 rfl rfl ⟨by decide, by decide⟩ rfl rfl hl.1 (Nat.le_of_ble_eq_true rfl) ⟨Nat.zero_le _, Nat.zero_le _⟩ dX8_now_64 (fun v7 huv7 H locs h => ?_)
          have hF : F_X8_now_k64_8 σ a1 v7 = (F_X8_now σ a1) := by rw [← huv7]; exact hF
          exact g_iret E hr hlk h hQ (fst_of hF) (snd_of hF (fun u => gws ad cI cZ u τ)) dX8_now_67
        · have it6 : a1.toInt ≠ 3 := i_ne t6
          have hF := (if_neg t6).symm.trans hF
          by_cases t9 : a1 = 4
          · have it9 : a1.toInt = 4 := i_eq t9
            have hF := (if_pos t9).symm.trans hF
            refine lv_tableIn (off := 59) (tgt := 68) hx hb dX8_now_9 (by rw [it9]; decide) (by rw [it9]; decide) (by rw [it9]; rfl) (by decide) ?_
            refine lv_aload_n hx hb dX8_now_68 rfl (lv_at hl 1 rfl) ?_
            refine g_get (v := .ref (ad 46)) E h 0 rfl rfl layX8 10 (by decide) rfl mw_212 rfl dX8_now_69 ?_
            refine lv_aload_n hx hb dX8_now_72 rfl (lv_at hl 0 rfl) ?_
            refine lv_aload_n hx hb dX8_now_73 rfl (lv_at hl 1 rfl) ?_
            refine g_get (v := .ref (ad 3)) E h 0 rfl rfl layX8 1 (by decide) rfl mw_203 rfl dX8_now_74 ?_
            refine g_getN (v := .int (σ.1 96)) E h 3 rfl rfl layX4 0 (by decide) rfl nf_RX8_208 rfl dX8_now_77 ?_
            refine g_callVU (F_X5_fewestPayments σ (σ.1 96)) (fun u => gws ad cI cZ u τ) (rest := []) E h (c_X5_fewestPayments l D cI cZ z ad σ τ (σ.1 96)) mw_617 cbX5_fewestPayments 46 rfl rfl ⟨by decide, by decide⟩ rfl rfl hl.1 (Nat.le_of_ble_eq_true rfl) ⟨Nat.zero_le _, Nat.zero_le _⟩ dX8_now_80 (fun u10 huu10 H locs h => ?_)
            have hF : F_X8_now_k80_11 σ a1 u10 = (F_X8_now σ a1) := by rw [← huu10]; exact hF
            exact g_iret E hr hlk h hQ (fst_of hF) (snd_of hF (fun u => gws ad cI cZ u τ)) dX8_now_83
          · have it9 : a1.toInt ≠ 4 := i_ne t9
            have hF := (if_neg t9).symm.trans hF
            by_cases t12 : a1 = 5
            · have it12 : a1.toInt = 5 := i_eq t12
              have hF := (if_pos t12).symm.trans hF
              refine lv_tableIn (off := 75) (tgt := 84) hx hb dX8_now_9 (by rw [it12]; decide) (by rw [it12]; decide) (by rw [it12]; rfl) (by decide) ?_
              refine lv_aload_n hx hb dX8_now_84 rfl (lv_at hl 1 rfl) ?_
              refine g_get (v := .ref (ad 3)) E h 0 rfl rfl layX8 1 (by decide) rfl mw_203 rfl dX8_now_85 ?_
              refine g_callVh (F_X4_salt σ) (rest := []) E h (c_X4_salt l D cI cZ z ad σ τ (show 0 ≤ (σ.1 96).toInt ∧ (σ.1 96).toInt ≤ 6 from by omega) (show (σ.1 97).toInt ≤ 8 from by omega)) mw_625 cbX4_salt 3 rfl rfl ⟨by decide, by decide⟩ rfl rfl hl.1 (Nat.le_of_ble_eq_true rfl) ⟨Nat.zero_le _, Nat.zero_le _⟩ dX8_now_88 (fun v13 huv13 H locs h => ?_)
              have hF : F_X8_now_k88_14 σ a1 v13 = (F_X8_now σ a1) := by rw [← huv13]; exact hF
              exact g_iret E hr hlk h hQ (fst_of hF) (snd_of hF (fun u => gws ad cI cZ u τ)) dX8_now_91
            · have it12 : a1.toInt ≠ 5 := i_ne t12
              have hF := (if_neg t12).symm.trans hF
              refine lv_tableOut (tgt := 92) hx hb dX8_now_9 (by omega) (by decide) ?_
              refine lv_iconst (v := (-1)) hx hb dX8_now_92 (by decide) ?_
              exact g_iret E hr hlk h hQ (fst_of hF) (snd_of hF (fun u => gws ad cI cZ u τ)) dX8_now_93

def F_X8_pass_k67_6 (σ : St) (a1 : Int32) (a2 : Int32) (a3 : Int32) (u5 : St) : Int32 × St := (if a3 = 0 then ((u5.1 1378), u5) else (if a3 = 1 then ((u5.1 1379), u5) else ((u5.1 1380), u5)))
def F_X8_pass (σ : St) (a1 : Int32) (a2 : Int32) (a3 : Int32) : Int32 × St := (if (F_X4_hasCaravan σ a1) = 0 then (((-1) : Int32), σ) else (if (F_X4_hasWell σ a2) = 0 then (((-1) : Int32), σ) else (if (F_X8_within a3 (0 : Int32) (2 : Int32)) = 0 then (((-1) : Int32), σ) else (if (F_X2_isAlive σ a1) = 0 then (((-2) : Int32), σ) else (F_X8_pass_k67_6 σ a1 a2 a3 (F_X7_find σ a1 a2))))))
abbrev I_X8_pass : List Nat := [1378, 1379, 1380]
abbrev A_X8_pass : List Nat := [44, 45]
theorem fr_F_X8_pass_k67_6 (σ : St) (a1 : Int32) (a2 : Int32) (a3 : Int32) (u5 : St) (hfr : Fr I_X8_pass A_X8_pass false σ (u5)) : Fr I_X8_pass A_X8_pass false σ (F_X8_pass_k67_6  σ a1 a2 a3 u5).2 := (fr_ite2 hfr (fr_ite2 hfr hfr))
theorem fr_F_X8_pass (σ : St) (a1 : Int32) (a2 : Int32) (a3 : Int32) : Fr I_X8_pass A_X8_pass false σ (F_X8_pass σ a1 a2 a3).2 := (fr_ite2 Fr.rf (fr_ite2 Fr.rf (fr_ite2 Fr.rf (fr_ite2 Fr.rf (fr_F_X8_pass_k67_6 σ a1 a2 a3 (F_X7_find σ a1 a2) (Fr.tr Fr.rf (Fr.mono (by decide) (by decide) (by decide) (fr_F_X7_find σ a1 a2))))))))
set_option maxHeartbeats 4000000 in
set_option maxRecDepth 20000 in
theorem c_X8_pass (l : Launch) (D : va_G) (cI cZ : ClassId) (z : Nat) (ad : Nat → Nat) (σ τ : St) (a1 a2 a3 : Int32) (hw_ : (σ.1 96).toInt ≤ 6) (hs_ : (σ.1 97).toInt ≤ 8) : gM l yX8_pass cX8_pass 4 (some .int) 7 D cI cZ z (gws ad cI cZ σ τ) [.ref (ad 0), .int a1, .int a2, .int a3] (some (.int (F_X8_pass σ a1 a2 a3).1)) (gws ad cI cZ (F_X8_pass σ a1 a2 a3).2 τ) := by
  refine g_met (own := RX8) (by decide) rfl (Nat.le_of_ble_eq_true rfl) (fun p e s m below meth c ls Q E hr hlk h hl hQ => ?_)
  have hx := E.1
  have hb := E.2.1
  have hF : (F_X8_pass σ a1 a2 a3) = (F_X8_pass σ a1 a2 a3) := rfl
  have hl : lv_has ls 4 [(0, .ref (ad 0)), (1, .int a1), (2, .int a2), (3, .int a3)] := hl
  refine lv_aload_n hx hb dX8_pass_0 rfl (lv_at hl 0 rfl) ?_
  refine g_get (v := .ref (ad 3)) E h 0 rfl rfl layX8 1 (by decide) rfl mw_203 rfl dX8_pass_1 ?_
  refine lv_iload_n hx hb dX8_pass_4 rfl (lv_at hl 1 rfl) ?_
  refine g_callVi (rest := []) E h (c_X4_hasCaravan l D cI cZ z ad σ τ a1) mw_417 cbX4_hasCaravan 3 rfl rfl ⟨by decide, by decide⟩ rfl rfl hl.1 (Nat.le_of_ble_eq_true rfl) ⟨Nat.zero_le _, Nat.zero_le _⟩ dX8_pass_5 (fun H locs h => ?_)
  refine lv_if_eq (tgt := 31) hx hb dX8_pass_8 (by decide) (fun c1 => ?_) (fun c1 => ?_)
  · have ic1 : (F_X4_hasCaravan σ a1).toInt = 0 := i_eq c1
    have hF := (if_pos c1).symm.trans hF
    refine lv_iconst (v := (-1)) hx hb dX8_pass_31 (by decide) ?_
    exact g_iret E hr hlk h hQ (fst_of hF) (snd_of hF (fun u => gws ad cI cZ u τ)) dX8_pass_32
  · have ic1 : (F_X4_hasCaravan σ a1).toInt ≠ 0 := i_ne c1
    have jc1 := fz_hasCaravan c1
    have hF := (if_neg c1).symm.trans hF
    refine lv_aload_n hx hb dX8_pass_11 rfl (lv_at hl 0 rfl) ?_
    refine g_get (v := .ref (ad 3)) E h 0 rfl rfl layX8 1 (by decide) rfl mw_203 rfl dX8_pass_12 ?_
    refine lv_iload_n hx hb dX8_pass_15 rfl (lv_at hl 2 rfl) ?_
    refine g_callVi (rest := []) E h (c_X4_hasWell l D cI cZ z ad σ τ a2) mw_457 cbX4_hasWell 3 rfl rfl ⟨by decide, by decide⟩ rfl rfl hl.1 (Nat.le_of_ble_eq_true rfl) ⟨Nat.zero_le _, Nat.zero_le _⟩ dX8_pass_16 (fun H locs h => ?_)
    refine lv_if_eq (tgt := 31) hx hb dX8_pass_19 (by decide) (fun c2 => ?_) (fun c2 => ?_)
    · have ic2 : (F_X4_hasWell σ a2).toInt = 0 := i_eq c2
      have hF := (if_pos c2).symm.trans hF
      refine lv_iconst (v := (-1)) hx hb dX8_pass_31 (by decide) ?_
      exact g_iret E hr hlk h hQ (fst_of hF) (snd_of hF (fun u => gws ad cI cZ u τ)) dX8_pass_32
    · have ic2 : (F_X4_hasWell σ a2).toInt ≠ 0 := i_ne c2
      have jc2 := fz_hasWell c2
      have hF := (if_neg c2).symm.trans hF
      refine lv_iload_n hx hb dX8_pass_22 rfl (lv_at hl 3 rfl) ?_
      refine lv_iconst (v := 0) hx hb dX8_pass_23 (by decide) ?_
      refine lv_iconst (v := 2) hx hb dX8_pass_24 (by decide) ?_
      refine g_callSi (rest := []) E h (c_X8_within l D cI cZ z (gws ad cI cZ σ τ) a3 (0 : Int32) (2 : Int32)) mw_243 cbX8_within ⟨by decide, by decide⟩ rfl rfl hl.1 (Nat.le_of_ble_eq_true rfl) ⟨Nat.zero_le _, Nat.zero_le _⟩ dX8_pass_25 (fun H locs h => ?_)
      refine lv_if_ne (tgt := 33) hx hb dX8_pass_28 (by decide) (fun c3 => ?_) (fun c3 => ?_)
      · have ic3 : (F_X8_within a3 (0 : Int32) (2 : Int32)).toInt ≠ 0 := i_ne c3
        have jc3 : 0 ≤ a3.toInt ∧ a3.toInt ≤ 2 := fz_within c3
        have hF := (if_neg c3).symm.trans hF
        refine lv_aload_n hx hb dX8_pass_33 rfl (lv_at hl 0 rfl) ?_
        refine g_get (v := .ref (ad 25)) E h 0 rfl rfl layX8 3 (by decide) rfl mw_205 rfl dX8_pass_34 ?_
        refine g_getN (v := .ref (ad 26)) E h 25 rfl rfl layX1 0 (by decide) rfl nf_RX8_123 rfl dX8_pass_37 ?_
        refine lv_iload_n hx hb dX8_pass_40 rfl (lv_at hl 1 rfl) ?_
        refine g_callVi (rest := []) E h (c_X2_isAlive l D cI cZ z ad σ τ a1) mw_438 cbX2_isAlive 26 rfl rfl ⟨by decide, by decide⟩ rfl rfl hl.1 (Nat.le_of_ble_eq_true rfl) ⟨Nat.zero_le _, Nat.zero_le _⟩ dX8_pass_41 (fun H locs h => ?_)
        refine lv_if_ne (tgt := 50) hx hb dX8_pass_44 (by decide) (fun c4 => ?_) (fun c4 => ?_)
        · have ic4 : (F_X2_isAlive σ a1).toInt ≠ 0 := i_ne c4
          have hF := (if_neg c4).symm.trans hF
          refine lv_aload_n hx hb dX8_pass_50 rfl (lv_at hl 0 rfl) ?_
          refine g_get (v := .ref (ad 43)) E h 0 rfl rfl layX8 9 (by decide) rfl mw_211 rfl dX8_pass_51 ?_
          refine lv_aload_n hx hb dX8_pass_54 rfl (lv_at hl 0 rfl) ?_
          refine g_get (v := .ref (ad 3)) E h 0 rfl rfl layX8 1 (by decide) rfl mw_203 rfl dX8_pass_55 ?_
          refine lv_aload_n hx hb dX8_pass_58 rfl (lv_at hl 0 rfl) ?_
          refine g_get (v := .ref (ad 25)) E h 0 rfl rfl layX8 3 (by decide) rfl mw_205 rfl dX8_pass_59 ?_
          refine g_getN (v := .ref (ad 26)) E h 25 rfl rfl layX1 0 (by decide) rfl nf_RX8_123 rfl dX8_pass_62 ?_
          refine lv_iload_n hx hb dX8_pass_65 rfl (lv_at hl 1 rfl) ?_
          refine lv_iload_n hx hb dX8_pass_66 rfl (lv_at hl 2 rfl) ?_
          refine g_callVUv (F_X7_find σ a1 a2) (fun u => gws ad cI cZ u τ) (rest := []) E h (c_X7_find l D cI cZ z ad σ τ a1 a2 (show (σ.1 96).toInt ≤ 6 from by omega) (show (σ.1 97).toInt ≤ 8 from by omega)) mw_644 cbX7_find 43 rfl rfl ⟨by decide, by decide⟩ rfl rfl hl.1 (Nat.le_of_ble_eq_true rfl) ⟨Nat.zero_le _, Nat.zero_le _⟩ dX8_pass_67 (fun u5 huu5 H locs h => ?_)
          have hF : F_X8_pass_k67_6 σ a1 a2 a3 u5 = (F_X8_pass σ a1 a2 a3) := by rw [← huu5]; exact hF
          refine lv_iload_n hx hb dX8_pass_70 rfl (lv_at hl 3 rfl) ?_
          by_cases t7 : a3 = 0
          · have it7 : a3.toInt = 0 := i_eq t7
            have hF := (if_pos t7).symm.trans hF
            refine lv_lookup (off := 25) (tgt := 96) hx hb dX8_pass_71 (by decide) (by rw [it7]; rfl) (by decide) ?_
            refine lv_aload_n hx hb dX8_pass_96 rfl (lv_at hl 0 rfl) ?_
            refine g_get (v := .ref (ad 43)) E h 0 rfl rfl layX8 9 (by decide) rfl mw_211 rfl dX8_pass_97 ?_
            refine g_getN (v := .int (u5.1 1378)) E h 43 rfl rfl layX7 2 (by decide) rfl nf_RX8_255 rfl dX8_pass_100 ?_
            exact g_iret E hr hlk h hQ (fst_of hF) (snd_of hF (fun u => gws ad cI cZ u τ)) dX8_pass_103
          · have it7 : a3.toInt ≠ 0 := i_ne t7
            have hF := (if_neg t7).symm.trans hF
            by_cases t8 : a3 = 1
            · have it8 : a3.toInt = 1 := i_eq t8
              have hF := (if_pos t8).symm.trans hF
              refine lv_lookup (off := 33) (tgt := 104) hx hb dX8_pass_71 (by decide) (by rw [it8]; rfl) (by decide) ?_
              refine lv_aload_n hx hb dX8_pass_104 rfl (lv_at hl 0 rfl) ?_
              refine g_get (v := .ref (ad 43)) E h 0 rfl rfl layX8 9 (by decide) rfl mw_211 rfl dX8_pass_105 ?_
              refine g_getN (v := .int (u5.1 1379)) E h 43 rfl rfl layX7 3 (by decide) rfl nf_RX8_258 rfl dX8_pass_108 ?_
              exact g_iret E hr hlk h hQ (fst_of hF) (snd_of hF (fun u => gws ad cI cZ u τ)) dX8_pass_111
            · have it8 : a3.toInt ≠ 1 := i_ne t8
              have hF := (if_neg t8).symm.trans hF
              refine lv_lookup (off := 41) (tgt := 112) hx hb dX8_pass_71 (by decide) (by simp [Op.lookupswitch.offset, it7.symm, it8.symm]) (by decide) ?_
              refine lv_aload_n hx hb dX8_pass_112 rfl (lv_at hl 0 rfl) ?_
              refine g_get (v := .ref (ad 43)) E h 0 rfl rfl layX8 9 (by decide) rfl mw_211 rfl dX8_pass_113 ?_
              refine g_getN (v := .int (u5.1 1380)) E h 43 rfl rfl layX7 4 (by decide) rfl nf_RX8_261 rfl dX8_pass_116 ?_
              exact g_iret E hr hlk h hQ (fst_of hF) (snd_of hF (fun u => gws ad cI cZ u τ)) dX8_pass_119
        · have ic4 : (F_X2_isAlive σ a1).toInt = 0 := i_eq c4
          have hF := (if_pos c4).symm.trans hF
          refine lv_bipush (v := (-2)) hx hb dX8_pass_47 (by decide) ?_
          exact g_iret E hr hlk h hQ (fst_of hF) (snd_of hF (fun u => gws ad cI cZ u τ)) dX8_pass_49
      · have ic3 : (F_X8_within a3 (0 : Int32) (2 : Int32)).toInt = 0 := i_eq c3
        have hF := (if_pos c3).symm.trans hF
        refine lv_iconst (v := (-1)) hx hb dX8_pass_31 (by decide) ?_
        exact g_iret E hr hlk h hQ (fst_of hF) (snd_of hF (fun u => gws ad cI cZ u τ)) dX8_pass_32

def F_X8_ring_k30_3 (σ : St) (a1 : Int32) (u2 : St) : Int32 × St := (if (u2.1 1282) = 0 then (((-9) : Int32), u2) else (if a1 = (-2) then ((u2.1 1283), u2) else (if a1 = (-1) then ((u2.1 1282), u2) else ((F_X3_wellAt u2 a1), u2))))
def F_X8_ring (σ : St) (a1 : Int32) : Int32 × St := (if (F_X8_within a1 ((-2) : Int32) (5 : Int32)) = 0 then (((-1) : Int32), σ) else (F_X8_ring_k30_3 σ a1 (F_X3_find σ (σ.1 96))))
abbrev I_X8_ring : List Nat := [1282, 1283]
abbrev A_X8_ring : List Nat := [41, 42]
theorem fr_F_X8_ring_k30_3 (σ : St) (a1 : Int32) (u2 : St) (hfr : Fr I_X8_ring A_X8_ring false σ (u2)) : Fr I_X8_ring A_X8_ring false σ (F_X8_ring_k30_3  σ a1 u2).2 := (fr_ite2 hfr (fr_ite2 hfr (fr_ite2 hfr hfr)))
theorem fr_F_X8_ring (σ : St) (a1 : Int32) : Fr I_X8_ring A_X8_ring false σ (F_X8_ring σ a1).2 := (fr_ite2 Fr.rf (fr_F_X8_ring_k30_3 σ a1 (F_X3_find σ (σ.1 96)) (Fr.tr Fr.rf (Fr.mono (by decide) (by decide) (by decide) (fr_F_X3_find σ (σ.1 96))))))
set_option maxHeartbeats 4000000 in
set_option maxRecDepth 20000 in
theorem c_X8_ring (l : Launch) (D : va_G) (cI cZ : ClassId) (z : Nat) (ad : Nat → Nat) (σ τ : St) (a1 : Int32) (hw_ : (σ.1 96).toInt ≤ 6) : gM l yX8_ring cX8_ring 2 (some .int) 12 D cI cZ z (gws ad cI cZ σ τ) [.ref (ad 0), .int a1] (some (.int (F_X8_ring σ a1).1)) (gws ad cI cZ (F_X8_ring σ a1).2 τ) := by
  refine g_met (own := RX8) (by decide) rfl (Nat.le_of_ble_eq_true rfl) (fun p e s m below meth c ls Q E hr hlk h hl hQ => ?_)
  have hx := E.1
  have hb := E.2.1
  have hF : (F_X8_ring σ a1) = (F_X8_ring σ a1) := rfl
  have hl : lv_has ls 2 [(0, .ref (ad 0)), (1, .int a1)] := hl
  refine lv_iload_n hx hb dX8_ring_0 rfl (lv_at hl 1 rfl) ?_
  refine lv_bipush (v := (-2)) hx hb dX8_ring_1 (by decide) ?_
  refine lv_iconst (v := 5) hx hb dX8_ring_3 (by decide) ?_
  refine g_callSi (rest := []) E h (c_X8_within l D cI cZ z (gws ad cI cZ σ τ) a1 ((-2) : Int32) (5 : Int32)) mw_243 cbX8_within ⟨by decide, by decide⟩ rfl rfl hl.1 (Nat.le_of_ble_eq_true rfl) ⟨Nat.zero_le _, Nat.zero_le _⟩ dX8_ring_4 (fun H locs h => ?_)
  refine lv_if_ne (tgt := 12) hx hb dX8_ring_7 (by decide) (fun c1 => ?_) (fun c1 => ?_)
  · have ic1 : (F_X8_within a1 ((-2) : Int32) (5 : Int32)).toInt ≠ 0 := i_ne c1
    have jc1 : (-2) ≤ a1.toInt ∧ a1.toInt ≤ 5 := fz_within c1
    have hF := (if_neg c1).symm.trans hF
    refine lv_aload_n hx hb dX8_ring_12 rfl (lv_at hl 0 rfl) ?_
    refine g_get (v := .ref (ad 40)) E h 0 rfl rfl layX8 8 (by decide) rfl mw_210 rfl dX8_ring_13 ?_
    refine lv_aload_n hx hb dX8_ring_16 rfl (lv_at hl 0 rfl) ?_
    refine g_get (v := .ref (ad 25)) E h 0 rfl rfl layX8 3 (by decide) rfl mw_205 rfl dX8_ring_17 ?_
    refine g_getN (v := .ref (ad 26)) E h 25 rfl rfl layX1 0 (by decide) rfl nf_RX8_123 rfl dX8_ring_20 ?_
    refine lv_aload_n hx hb dX8_ring_23 rfl (lv_at hl 0 rfl) ?_
    refine g_get (v := .ref (ad 3)) E h 0 rfl rfl layX8 1 (by decide) rfl mw_203 rfl dX8_ring_24 ?_
    refine g_getN (v := .int (σ.1 96)) E h 3 rfl rfl layX4 0 (by decide) rfl nf_RX8_208 rfl dX8_ring_27 ?_
    refine g_callVUv (F_X3_find σ (σ.1 96)) (fun u => gws ad cI cZ u τ) (rest := []) E h (c_X3_find l D cI cZ z ad σ τ (σ.1 96) (show (σ.1 96).toInt ≤ 6 from by omega)) mw_563 cbX3_find 40 rfl rfl ⟨by decide, by decide⟩ rfl rfl hl.1 (Nat.le_of_ble_eq_true rfl) ⟨Nat.zero_le _, Nat.zero_le _⟩ dX8_ring_30 (fun u2 huu2 H locs h => ?_)
    have hF : F_X8_ring_k30_3 σ a1 u2 = (F_X8_ring σ a1) := by rw [← huu2]; exact hF
    refine lv_aload_n hx hb dX8_ring_33 rfl (lv_at hl 0 rfl) ?_
    refine g_get (v := .ref (ad 40)) E h 0 rfl rfl layX8 8 (by decide) rfl mw_210 rfl dX8_ring_34 ?_
    refine g_getN (v := .int (u2.1 1282)) E h 40 rfl rfl layX3 2 (by decide) rfl nf_RX8_215 rfl dX8_ring_37 ?_
    refine lv_if_ne (tgt := 46) hx hb dX8_ring_40 (by decide) (fun c4 => ?_) (fun c4 => ?_)
    · have ic4 : (u2.1 1282).toInt ≠ 0 := i_ne c4
      have hF := (if_neg c4).symm.trans hF
      refine lv_iload_n hx hb dX8_ring_46 rfl (lv_at hl 1 rfl) ?_
      by_cases t5 : a1 = (-2)
      · have it5 : a1.toInt = (-2) := i_eq t5
        have hF := (if_pos t5).symm.trans hF
        refine lv_lookup (off := 25) (tgt := 72) hx hb dX8_ring_47 (by decide) (by rw [it5]; rfl) (by decide) ?_
        refine lv_aload_n hx hb dX8_ring_72 rfl (lv_at hl 0 rfl) ?_
        refine g_get (v := .ref (ad 40)) E h 0 rfl rfl layX8 8 (by decide) rfl mw_210 rfl dX8_ring_73 ?_
        refine g_getN (v := .int (u2.1 1283)) E h 40 rfl rfl layX3 3 (by decide) rfl nf_RX8_220 rfl dX8_ring_76 ?_
        exact g_iret E hr hlk h hQ (fst_of hF) (snd_of hF (fun u => gws ad cI cZ u τ)) dX8_ring_79
      · have it5 : a1.toInt ≠ (-2) := i_ne t5
        have hF := (if_neg t5).symm.trans hF
        by_cases t6 : a1 = (-1)
        · have it6 : a1.toInt = (-1) := i_eq t6
          have hF := (if_pos t6).symm.trans hF
          refine lv_lookup (off := 33) (tgt := 80) hx hb dX8_ring_47 (by decide) (by rw [it6]; rfl) (by decide) ?_
          refine lv_aload_n hx hb dX8_ring_80 rfl (lv_at hl 0 rfl) ?_
          refine g_get (v := .ref (ad 40)) E h 0 rfl rfl layX8 8 (by decide) rfl mw_210 rfl dX8_ring_81 ?_
          refine g_getN (v := .int (u2.1 1282)) E h 40 rfl rfl layX3 2 (by decide) rfl nf_RX8_215 rfl dX8_ring_84 ?_
          exact g_iret E hr hlk h hQ (fst_of hF) (snd_of hF (fun u => gws ad cI cZ u τ)) dX8_ring_87
        · have it6 : a1.toInt ≠ (-1) := i_ne t6
          have hF := (if_neg t6).symm.trans hF
          refine lv_lookup (off := 41) (tgt := 88) hx hb dX8_ring_47 (by decide) (by simp [Op.lookupswitch.offset, it5.symm, it6.symm]) (by decide) ?_
          refine lv_aload_n hx hb dX8_ring_88 rfl (lv_at hl 0 rfl) ?_
          refine g_get (v := .ref (ad 40)) E h 0 rfl rfl layX8 8 (by decide) rfl mw_210 rfl dX8_ring_89 ?_
          refine lv_iload_n hx hb dX8_ring_92 rfl (lv_at hl 1 rfl) ?_
          refine g_callVi (rest := []) E h (c_X3_wellAt l D cI cZ z ad u2 τ a1) mw_579 cbX3_wellAt 40 rfl rfl ⟨by decide, by decide⟩ rfl rfl hl.1 (Nat.le_of_ble_eq_true rfl) ⟨Nat.zero_le _, Nat.zero_le _⟩ dX8_ring_93 (fun H locs h => ?_)
          exact g_iret E hr hlk h hQ (fst_of hF) (snd_of hF (fun u => gws ad cI cZ u τ)) dX8_ring_96
    · have ic4 : (u2.1 1282).toInt = 0 := i_eq c4
      have hF := (if_pos c4).symm.trans hF
      refine lv_bipush (v := (-9)) hx hb dX8_ring_43 (by decide) ?_
      exact g_iret E hr hlk h hQ (fst_of hF) (snd_of hF (fun u => gws ad cI cZ u τ)) dX8_ring_45
  · have ic1 : (F_X8_within a1 ((-2) : Int32) (5 : Int32)).toInt = 0 := i_eq c1
    have hF := (if_pos c1).symm.trans hF
    refine lv_iconst (v := (-1)) hx hb dX8_ring_10 (by decide) ?_
    exact g_iret E hr hlk h hQ (fst_of hF) (snd_of hF (fun u => gws ad cI cZ u τ)) dX8_ring_11

def F_X8_safe_L148 (lf125 : Int32 → Int32 → Int32) : Nat → St → Int32 → Int32 → Int32 → Int32 → Int32 → Int32 → Int32 → Int32 → Int32 → Int32 → Int32 → Int32 → Int32
  | 0, _, _, _, _, _, _, _, _, _, _, _, _, _ => 0
  | n + 1, σ, a1, a2, a3, a4, a5, a6, v8, x10_125, x9_125, x10_148, x9_148, x8_148 => (if a4 ≤ x10_148 then (if a6 = 0 then x8_148 else x9_148) else (if (x8_148 - x8_148 / (2 : Int32) * (2 : Int32)) = 0 then (if ((x8_148 / (2 : Int32)) - (x8_148 / (2 : Int32)) / (5 : Int32) * (5 : Int32)) = 0 then (F_X8_safe_L148 lf125 n σ a1 a2 a3 a4 a5 a6 v8 x10_125 x9_125 (x10_148 + (1 : Int32)) ((x9_148 / (2 : Int32)) / (5 : Int32)) ((x8_148 / (2 : Int32)) / (5 : Int32))) else (F_X8_safe_L148 lf125 n σ a1 a2 a3 a4 a5 a6 v8 x10_125 x9_125 (x10_148 + (1 : Int32)) (x9_148 / (2 : Int32)) (x8_148 / (2 : Int32)))) else (if (x8_148 - x8_148 / (5 : Int32) * (5 : Int32)) = 0 then (F_X8_safe_L148 lf125 n σ a1 a2 a3 a4 a5 a6 v8 x10_125 x9_125 (x10_148 + (1 : Int32)) (x9_148 / (5 : Int32)) (x8_148 / (5 : Int32))) else (F_X8_safe_L148 lf125 n σ a1 a2 a3 a4 a5 a6 v8 x10_125 x9_125 (x10_148 + (1 : Int32)) x9_148 x8_148))))
def F_X8_safe_L125 : Nat → St → Int32 → Int32 → Int32 → Int32 → Int32 → Int32 → Int32 → Int32 → Int32 → Int32
  | 0, _, _, _, _, _, _, _, _, _, _ => 0
  | n + 1, σ, a1, a2, a3, a4, a5, a6, v8, x10_125, x9_125 => (if a4 ≤ x10_125 then (F_X8_safe_L148 (fun y1 y2 => F_X8_safe_L125  n σ a1 a2 a3 a4 a5 a6 v8 y1 y2) 7 σ a1 a2 a3 a4 a5 a6 v8 x10_125 x9_125 (0 : Int32) x9_125 v8) else (F_X8_safe_L125  n σ a1 a2 a3 a4 a5 a6 v8 (x10_125 + (1 : Int32)) (x9_125 * (10 : Int32))))
def F_X8_safe_k114_9 (σ : St) (a1 : Int32) (a2 : Int32) (a3 : Int32) (a4 : Int32) (a5 : Int32) (a6 : Int32) (v8 : Int32) : Int32 := (F_X8_safe_L125  7 σ a1 a2 a3 a4 a5 a6 v8 (0 : Int32) (1 : Int32))
def F_X8_safe (σ : St) (a1 : Int32) (a2 : Int32) (a3 : Int32) (a4 : Int32) (a5 : Int32) (a6 : Int32) : Int32 := (if (F_X4_hasCaravan σ a1) = 0 then ((-1) : Int32) else (if (F_X8_within a2 (0 : Int32) (9 : Int32)) = 0 then ((-1) : Int32) else (if (F_X8_within a3 (0 : Int32) (9 : Int32)) = 0 then ((-1) : Int32) else (if (F_X8_within a4 (0 : Int32) (6 : Int32)) = 0 then ((-1) : Int32) else (if (F_X8_within a5 (0 : Int32) (10 : Int32)) = 0 then ((-1) : Int32) else (if (F_X8_within a6 (0 : Int32) (1 : Int32)) = 0 then ((-1) : Int32) else (if (F_X2_isAlive σ a1) = 0 then ((-2) : Int32) else (F_X8_safe_k114_9 σ a1 a2 a3 a4 a5 a6 (F_X8_chancesAlive 7 a4 ((F_X4_bearsOf σ a1) - (F_X2_dryOf σ a1)) a2 a3 a5)))))))))
set_option maxHeartbeats 4000000 in
set_option maxRecDepth 20000 in
theorem c_X8_safe (l : Launch) (D : va_G) (cI cZ : ClassId) (z : Nat) (ad : Nat → Nat) (σ τ : St) (a1 a2 a3 a4 a5 a6 : Int32) : gM l yX8_safe cX8_safe 11 (some .int) 10 D cI cZ z (gws ad cI cZ σ τ) [.ref (ad 0), .int a1, .int a2, .int a3, .int a4, .int a5, .int a6] (some (.int (F_X8_safe σ a1 a2 a3 a4 a5 a6))) (gws ad cI cZ σ τ) := by
  refine g_met (own := RX8) (by decide) rfl (Nat.le_of_ble_eq_true rfl) (fun p e s m below meth c ls Q E hr hlk h hl hQ => ?_)
  have hx := E.1
  have hb := E.2.1
  have hF : (F_X8_safe σ a1 a2 a3 a4 a5 a6) = (F_X8_safe σ a1 a2 a3 a4 a5 a6) := rfl
  have hl : lv_has ls 11 [(0, .ref (ad 0)), (1, .int a1), (2, .int a2), (3, .int a3), (4, .int a4), (5, .int a5), (6, .int a6)] := hl
  refine lv_aload_n hx hb dX8_safe_0 rfl (lv_at hl 0 rfl) ?_
  refine g_get (v := .ref (ad 3)) E h 0 rfl rfl layX8 1 (by decide) rfl mw_203 rfl dX8_safe_1 ?_
  refine lv_iload_n hx hb dX8_safe_4 rfl (lv_at hl 1 rfl) ?_
  refine g_callVi (rest := []) E h (c_X4_hasCaravan l D cI cZ z ad σ τ a1) mw_417 cbX4_hasCaravan 3 rfl rfl ⟨by decide, by decide⟩ rfl rfl hl.1 (Nat.le_of_ble_eq_true rfl) ⟨Nat.zero_le _, Nat.zero_le _⟩ dX8_safe_5 (fun H locs h => ?_)
  refine lv_if_eq (tgt := 31) hx hb dX8_safe_8 (by decide) (fun c1 => ?_) (fun c1 => ?_)
  · have ic1 : (F_X4_hasCaravan σ a1).toInt = 0 := i_eq c1
    have hF := (if_pos c1).symm.trans hF
    refine lv_iconst (v := (-1)) hx hb dX8_safe_31 (by decide) ?_
    exact g_iret E hr hlk h hQ hF rfl dX8_safe_32
  · have ic1 : (F_X4_hasCaravan σ a1).toInt ≠ 0 := i_ne c1
    have jc1 := fz_hasCaravan c1
    have hF := (if_neg c1).symm.trans hF
    refine lv_iload_n hx hb dX8_safe_11 rfl (lv_at hl 2 rfl) ?_
    refine lv_iconst (v := 0) hx hb dX8_safe_12 (by decide) ?_
    refine lv_bipush (v := 9) hx hb dX8_safe_13 (by decide) ?_
    refine g_callSi (rest := []) E h (c_X8_within l D cI cZ z (gws ad cI cZ σ τ) a2 (0 : Int32) (9 : Int32)) mw_243 cbX8_within ⟨by decide, by decide⟩ rfl rfl hl.1 (Nat.le_of_ble_eq_true rfl) ⟨Nat.zero_le _, Nat.zero_le _⟩ dX8_safe_15 (fun H locs h => ?_)
    refine lv_if_eq (tgt := 31) hx hb dX8_safe_18 (by decide) (fun c2 => ?_) (fun c2 => ?_)
    · have ic2 : (F_X8_within a2 (0 : Int32) (9 : Int32)).toInt = 0 := i_eq c2
      have hF := (if_pos c2).symm.trans hF
      refine lv_iconst (v := (-1)) hx hb dX8_safe_31 (by decide) ?_
      exact g_iret E hr hlk h hQ hF rfl dX8_safe_32
    · have ic2 : (F_X8_within a2 (0 : Int32) (9 : Int32)).toInt ≠ 0 := i_ne c2
      have jc2 : 0 ≤ a2.toInt ∧ a2.toInt ≤ 9 := fz_within c2
      have hF := (if_neg c2).symm.trans hF
      refine lv_iload_n hx hb dX8_safe_21 rfl (lv_at hl 3 rfl) ?_
      refine lv_iconst (v := 0) hx hb dX8_safe_22 (by decide) ?_
      refine lv_bipush (v := 9) hx hb dX8_safe_23 (by decide) ?_
      refine g_callSi (rest := []) E h (c_X8_within l D cI cZ z (gws ad cI cZ σ τ) a3 (0 : Int32) (9 : Int32)) mw_243 cbX8_within ⟨by decide, by decide⟩ rfl rfl hl.1 (Nat.le_of_ble_eq_true rfl) ⟨Nat.zero_le _, Nat.zero_le _⟩ dX8_safe_25 (fun H locs h => ?_)
      refine lv_if_ne (tgt := 33) hx hb dX8_safe_28 (by decide) (fun c3 => ?_) (fun c3 => ?_)
      · have ic3 : (F_X8_within a3 (0 : Int32) (9 : Int32)).toInt ≠ 0 := i_ne c3
        have jc3 : 0 ≤ a3.toInt ∧ a3.toInt ≤ 9 := fz_within c3
        have hF := (if_neg c3).symm.trans hF
        refine lv_iload hx hb dX8_safe_33 (lv_at hl 4 rfl) ?_
        refine lv_iconst (v := 0) hx hb dX8_safe_35 (by decide) ?_
        refine lv_bipush (v := 6) hx hb dX8_safe_36 (by decide) ?_
        refine g_callSi (rest := []) E h (c_X8_within l D cI cZ z (gws ad cI cZ σ τ) a4 (0 : Int32) (6 : Int32)) mw_243 cbX8_within ⟨by decide, by decide⟩ rfl rfl hl.1 (Nat.le_of_ble_eq_true rfl) ⟨Nat.zero_le _, Nat.zero_le _⟩ dX8_safe_38 (fun H locs h => ?_)
        refine lv_if_eq (tgt := 65) hx hb dX8_safe_41 (by decide) (fun c4 => ?_) (fun c4 => ?_)
        · have ic4 : (F_X8_within a4 (0 : Int32) (6 : Int32)).toInt = 0 := i_eq c4
          have hF := (if_pos c4).symm.trans hF
          refine lv_iconst (v := (-1)) hx hb dX8_safe_65 (by decide) ?_
          exact g_iret E hr hlk h hQ hF rfl dX8_safe_66
        · have ic4 : (F_X8_within a4 (0 : Int32) (6 : Int32)).toInt ≠ 0 := i_ne c4
          have jc4 : 0 ≤ a4.toInt ∧ a4.toInt ≤ 6 := fz_within c4
          have hF := (if_neg c4).symm.trans hF
          refine lv_iload hx hb dX8_safe_44 (lv_at hl 5 rfl) ?_
          refine lv_iconst (v := 0) hx hb dX8_safe_46 (by decide) ?_
          refine lv_bipush (v := 10) hx hb dX8_safe_47 (by decide) ?_
          refine g_callSi (rest := []) E h (c_X8_within l D cI cZ z (gws ad cI cZ σ τ) a5 (0 : Int32) (10 : Int32)) mw_243 cbX8_within ⟨by decide, by decide⟩ rfl rfl hl.1 (Nat.le_of_ble_eq_true rfl) ⟨Nat.zero_le _, Nat.zero_le _⟩ dX8_safe_49 (fun H locs h => ?_)
          refine lv_if_eq (tgt := 65) hx hb dX8_safe_52 (by decide) (fun c5 => ?_) (fun c5 => ?_)
          · have ic5 : (F_X8_within a5 (0 : Int32) (10 : Int32)).toInt = 0 := i_eq c5
            have hF := (if_pos c5).symm.trans hF
            refine lv_iconst (v := (-1)) hx hb dX8_safe_65 (by decide) ?_
            exact g_iret E hr hlk h hQ hF rfl dX8_safe_66
          · have ic5 : (F_X8_within a5 (0 : Int32) (10 : Int32)).toInt ≠ 0 := i_ne c5
            have jc5 : 0 ≤ a5.toInt ∧ a5.toInt ≤ 10 := fz_within c5
            have hF := (if_neg c5).symm.trans hF
            refine lv_iload hx hb dX8_safe_55 (lv_at hl 6 rfl) ?_
            refine lv_iconst (v := 0) hx hb dX8_safe_57 (by decide) ?_
            refine lv_iconst (v := 1) hx hb dX8_safe_58 (by decide) ?_
            refine g_callSi (rest := []) E h (c_X8_within l D cI cZ z (gws ad cI cZ σ τ) a6 (0 : Int32) (1 : Int32)) mw_243 cbX8_within ⟨by decide, by decide⟩ rfl rfl hl.1 (Nat.le_of_ble_eq_true rfl) ⟨Nat.zero_le _, Nat.zero_le _⟩ dX8_safe_59 (fun H locs h => ?_)
            refine lv_if_ne (tgt := 67) hx hb dX8_safe_62 (by decide) (fun c6 => ?_) (fun c6 => ?_)
            · have ic6 : (F_X8_within a6 (0 : Int32) (1 : Int32)).toInt ≠ 0 := i_ne c6
              have jc6 : 0 ≤ a6.toInt ∧ a6.toInt ≤ 1 := fz_within c6
              have hF := (if_neg c6).symm.trans hF
              refine lv_aload_n hx hb dX8_safe_67 rfl (lv_at hl 0 rfl) ?_
              refine g_get (v := .ref (ad 25)) E h 0 rfl rfl layX8 3 (by decide) rfl mw_205 rfl dX8_safe_68 ?_
              refine g_getN (v := .ref (ad 26)) E h 25 rfl rfl layX1 0 (by decide) rfl nf_RX8_123 rfl dX8_safe_71 ?_
              refine lv_iload_n hx hb dX8_safe_74 rfl (lv_at hl 1 rfl) ?_
              refine g_callVi (rest := []) E h (c_X2_isAlive l D cI cZ z ad σ τ a1) mw_438 cbX2_isAlive 26 rfl rfl ⟨by decide, by decide⟩ rfl rfl hl.1 (Nat.le_of_ble_eq_true rfl) ⟨Nat.zero_le _, Nat.zero_le _⟩ dX8_safe_75 (fun H locs h => ?_)
              refine lv_if_ne (tgt := 84) hx hb dX8_safe_78 (by decide) (fun c7 => ?_) (fun c7 => ?_)
              · have ic7 : (F_X2_isAlive σ a1).toInt ≠ 0 := i_ne c7
                have hF := (if_neg c7).symm.trans hF
                refine lv_aload_n hx hb dX8_safe_84 rfl (lv_at hl 0 rfl) ?_
                refine g_get (v := .ref (ad 3)) E h 0 rfl rfl layX8 1 (by decide) rfl mw_203 rfl dX8_safe_85 ?_
                refine lv_iload_n hx hb dX8_safe_88 rfl (lv_at hl 1 rfl) ?_
                refine g_callVi (rest := []) E h (c_X4_bearsOf l D cI cZ z ad σ τ a1) mw_429 cbX4_bearsOf 3 rfl rfl ⟨by decide, by decide⟩ rfl rfl hl.1 (Nat.le_of_ble_eq_true rfl) ⟨Nat.zero_le _, Nat.zero_le _⟩ dX8_safe_89 (fun H locs h => ?_)
                refine lv_aload_n hx hb dX8_safe_92 rfl (lv_at hl 0 rfl) ?_
                refine g_get (v := .ref (ad 25)) E h 0 rfl rfl layX8 3 (by decide) rfl mw_205 rfl dX8_safe_93 ?_
                refine g_getN (v := .ref (ad 26)) E h 25 rfl rfl layX1 0 (by decide) rfl nf_RX8_123 rfl dX8_safe_96 ?_
                refine lv_iload_n hx hb dX8_safe_99 rfl (lv_at hl 1 rfl) ?_
                refine g_callVi (rest := [.int (F_X4_bearsOf σ a1)]) E h (c_X2_dryOf l D cI cZ z ad σ τ a1) mw_434 cbX2_dryOf 26 rfl rfl ⟨by decide, by decide⟩ rfl rfl hl.1 (Nat.le_of_ble_eq_true rfl) ⟨Nat.zero_le _, Nat.zero_le _⟩ dX8_safe_100 (fun H locs h => ?_)
                refine lv_isub hx hb dX8_safe_103 ?_
                refine lv_istore (lv' := [(7, .int ((F_X4_bearsOf σ a1) - (F_X2_dryOf σ a1))), (0, .ref (ad 0)), (1, .int a1), (2, .int a2), (3, .int a3), (4, .int a4), (5, .int a5), (6, .int a6)]) hx hb dX8_safe_104 hl (by decide) rfl (fun ls hl => ?_)
                refine lv_iload hx hb dX8_safe_106 (lv_at hl 5 rfl) ?_
                refine lv_iload hx hb dX8_safe_108 (lv_at hl 0 rfl) ?_
                refine lv_iload_n hx hb dX8_safe_110 rfl (lv_at hl 3 rfl) ?_
                refine lv_iload_n hx hb dX8_safe_111 rfl (lv_at hl 4 rfl) ?_
                refine lv_iload hx hb dX8_safe_112 (lv_at hl 6 rfl) ?_
                refine g_callSh (F_X8_chancesAlive 7 a4 ((F_X4_bearsOf σ a1) - (F_X2_dryOf σ a1)) a2 a3 a5) (rest := []) E h (c_X8_chancesAlive l D cI cZ z (gws ad cI cZ σ τ) 7 a4 ((F_X4_bearsOf σ a1) - (F_X2_dryOf σ a1)) a2 a3 a5 (show 0 < 7 ∧ a4.toInt < 7 ∧ a4.toInt ≤ 6 from by omega)) mw_678 cbX8_chancesAlive ⟨by decide, by decide⟩ rfl rfl hl.1 (Nat.le_of_ble_eq_true rfl) ⟨Nat.zero_le _, Nat.zero_le _⟩ dX8_safe_114 (fun v8 huv8 H locs h => ?_)
                have hF : F_X8_safe_k114_9 σ a1 a2 a3 a4 a5 a6 v8 = (F_X8_safe σ a1 a2 a3 a4 a5 a6) := by rw [← huv8]; exact hF
                refine lv_istore (lv' := [(8, .int v8), (7, .int ((F_X4_bearsOf σ a1) - (F_X2_dryOf σ a1))), (0, .ref (ad 0)), (1, .int a1), (2, .int a2), (3, .int a3), (4, .int a4), (5, .int a5), (6, .int a6)]) hx hb dX8_safe_117 hl (by decide) rfl (fun ls hl => ?_)
                refine lv_iconst (v := 1) hx hb dX8_safe_119 (by decide) ?_
                refine lv_istore (lv' := [(9, .int (1 : Int32)), (8, .int v8), (7, .int ((F_X4_bearsOf σ a1) - (F_X2_dryOf σ a1))), (0, .ref (ad 0)), (1, .int a1), (2, .int a2), (3, .int a3), (4, .int a4), (5, .int a5), (6, .int a6)]) hx hb dX8_safe_120 hl (by decide) rfl (fun ls hl => ?_)
                refine lv_iconst (v := 0) hx hb dX8_safe_122 (by decide) ?_
                refine lv_istore (lv' := [(10, .int (0 : Int32)), (9, .int (1 : Int32)), (8, .int v8), (7, .int ((F_X4_bearsOf σ a1) - (F_X2_dryOf σ a1))), (0, .ref (ad 0)), (1, .int a1), (2, .int a2), (3, .int a3), (4, .int a4), (5, .int a5), (6, .int a6)]) hx hb dX8_safe_123 hl (by decide) rfl (fun ls hl => ?_)
                have L125 : ∀ (n125 : Nat) (x10_125 : Int32) (x9_125 : Int32) (H : Heap) (locs : List Loc) (ls : Array Slot), (0 ≤ x10_125.toInt ∧ 0 < n125 ∧ 6 < x10_125.toInt + n125) → F_X8_safe_L125  n125 σ a1 a2 a3 a4 a5 a6 v8 x10_125 x9_125 = (F_X8_safe σ a1 a2 a3 a4 a5 a6) → gH D z s (gws ad cI cZ σ τ) H locs → lv_has ls 11 [(10, .int x10_125), (9, .int x9_125), (8, .int v8), (7, .int ((F_X4_bearsOf σ a1) - (F_X2_dryOf σ a1))), (0, .ref (ad 0)), (1, .int a1), (2, .int a2), (3, .int a3), (4, .int a4), (5, .int a5), (6, .int a6)] → W p l e (rmH 10) s m ([.ref (ad 0), .int a1, .int a2, .int a3, .int a4, .int a5, .int a6] : List Value).toArray below meth c H locs 0 0 Q (F0 m 125 ls []) := by
                  clear hF h hl
                  intro n125
                  induction n125 with
                  | zero =>
                    intro x10_125 x9_125 H locs ls hI
                    exact absurd hI (by omega)
                  | succ n125 ih125 =>
                    intro x10_125 x9_125 H locs ls hI125 hF h hl
                    refine lv_iload hx hb dX8_safe_125 (lv_at hl 0 rfl) ?_
                    refine lv_iload hx hb dX8_safe_127 (lv_at hl 8 rfl) ?_
                    refine lv_icmp_ge (tgt := 145) hx hb dX8_safe_129 (by decide) (fun c11 => ?_) (fun c11 => ?_)
                    · have ic11 : a4.toInt ≤ x10_125.toInt := i_le c11
                      have hF := (if_pos c11).symm.trans hF
                      refine lv_iconst (v := 0) hx hb dX8_safe_145 (by decide) ?_
                      refine lv_istore (lv' := [(10, .int (0 : Int32)), (9, .int x9_125), (8, .int v8), (7, .int ((F_X4_bearsOf σ a1) - (F_X2_dryOf σ a1))), (0, .ref (ad 0)), (1, .int a1), (2, .int a2), (3, .int a3), (4, .int a4), (5, .int a5), (6, .int a6)]) hx hb dX8_safe_146 hl (by decide) rfl (fun ls hl => ?_)
                      have L148 : ∀ (n148 : Nat) (x10_148 : Int32) (x9_148 : Int32) (x8_148 : Int32) (H : Heap) (locs : List Loc) (ls : Array Slot), (0 ≤ x10_148.toInt ∧ 0 < n148 ∧ 6 < x10_148.toInt + n148) → F_X8_safe_L148 (fun y1 y2 => F_X8_safe_L125  n125 σ a1 a2 a3 a4 a5 a6 v8 y1 y2) n148 σ a1 a2 a3 a4 a5 a6 v8 x10_125 x9_125 x10_148 x9_148 x8_148 = (F_X8_safe σ a1 a2 a3 a4 a5 a6) → gH D z s (gws ad cI cZ σ τ) H locs → lv_has ls 11 [(10, .int x10_148), (9, .int x9_148), (8, .int x8_148), (7, .int ((F_X4_bearsOf σ a1) - (F_X2_dryOf σ a1))), (0, .ref (ad 0)), (1, .int a1), (2, .int a2), (3, .int a3), (4, .int a4), (5, .int a5), (6, .int a6)] → W p l e (rmH 10) s m ([.ref (ad 0), .int a1, .int a2, .int a3, .int a4, .int a5, .int a6] : List Value).toArray below meth c H locs 0 0 Q (F0 m 148 ls []) := by
                        clear hF h hl
                        intro n148
                        induction n148 with
                        | zero =>
                          intro x10_148 x9_148 x8_148 H locs ls hI
                          exact absurd hI (by omega)
                        | succ n148 ih148 =>
                          intro x10_148 x9_148 x8_148 H locs ls hI148 hF h hl
                          refine lv_iload hx hb dX8_safe_148 (lv_at hl 0 rfl) ?_
                          refine lv_iload hx hb dX8_safe_150 (lv_at hl 8 rfl) ?_
                          refine lv_icmp_ge (tgt := 199) hx hb dX8_safe_152 (by decide) (fun c13 => ?_) (fun c13 => ?_)
                          · have ic13 : a4.toInt ≤ x10_148.toInt := i_le c13
                            have hF := (if_pos c13).symm.trans hF
                            refine lv_iload hx hb dX8_safe_199 (lv_at hl 10 rfl) ?_
                            refine lv_if_ne (tgt := 209) hx hb dX8_safe_201 (by decide) (fun c14 => ?_) (fun c14 => ?_)
                            · have ic14 : a6.toInt ≠ 0 := i_ne c14
                              have hF := (if_neg c14).symm.trans hF
                              refine lv_iload hx hb dX8_safe_209 (lv_at hl 1 rfl) ?_
                              exact g_iret E hr hlk h hQ hF rfl dX8_safe_211
                            · have ic14 : a6.toInt = 0 := i_eq c14
                              have hF := (if_pos c14).symm.trans hF
                              refine lv_iload hx hb dX8_safe_204 (lv_at hl 2 rfl) ?_
                              refine lv_goto (tgt := 211) hx hb dX8_safe_206 (by decide) ?_
                              exact g_iret E hr hlk h hQ hF rfl dX8_safe_211
                          · have ic13 : x10_148.toInt < a4.toInt := i_nle c13
                            have hF := (if_neg c13).symm.trans hF
                            refine lv_iload hx hb dX8_safe_155 (lv_at hl 2 rfl) ?_
                            refine lv_iconst (v := 2) hx hb dX8_safe_157 (by decide) ?_
                            refine lv_irem hx hb dX8_safe_158 (by decide) ?_
                            refine lv_if_ne (tgt := 174) hx hb dX8_safe_159 (by decide) (fun c15 => ?_) (fun c15 => ?_)
                            · have ic15 : (x8_148 - x8_148 / (2 : Int32) * (2 : Int32)).toInt ≠ 0 := i_ne c15
                              have hF := (if_neg c15).symm.trans hF
                              refine lv_iload hx hb dX8_safe_174 (lv_at hl 2 rfl) ?_
                              refine lv_iconst (v := 5) hx hb dX8_safe_176 (by decide) ?_
                              refine lv_irem hx hb dX8_safe_177 (by decide) ?_
                              refine lv_if_ne (tgt := 193) hx hb dX8_safe_178 (by decide) (fun c16 => ?_) (fun c16 => ?_)
                              · have ic16 : (x8_148 - x8_148 / (5 : Int32) * (5 : Int32)).toInt ≠ 0 := i_ne c16
                                have hF := (if_neg c16).symm.trans hF
                                refine lv_iinc (v := (x10_148 + (1 : Int32))) (lv' := [(10, .int (x10_148 + (1 : Int32))), (9, .int x9_148), (8, .int x8_148), (7, .int ((F_X4_bearsOf σ a1) - (F_X2_dryOf σ a1))), (0, .ref (ad 0)), (1, .int a1), (2, .int a2), (3, .int a3), (4, .int a4), (5, .int a5), (6, .int a6)]) hx hb dX8_safe_193 hl (k := 0) rfl rfl (by decide) rfl (fun ls hl => ?_)
                                refine lv_goto (tgt := 148) hx hb dX8_safe_196 (by decide) ?_
                                have e148_10 : (x10_148 + (1 : Int32)).toInt = _ := ti_of (oI_add (oI_at x10_148) (oI_lit (x := 1) (a := 1) rfl)) (by omega)
                                exact ih148 (x10_148 + (1 : Int32)) x9_148 x8_148 _ _ ls ((show 0 ≤ (x10_148 + (1 : Int32)).toInt ∧ 0 < n148 ∧ 6 < (x10_148 + (1 : Int32)).toInt + n148 from by omega)) hF h (lv_sub hl [0, 1, 2, 3, 4, 5, 6, 7, 8, 9, 10] rfl)
                              · have ic16 : (x8_148 - x8_148 / (5 : Int32) * (5 : Int32)).toInt = 0 := i_eq c16
                                have hF := (if_pos c16).symm.trans hF
                                refine lv_iload hx hb dX8_safe_181 (lv_at hl 2 rfl) ?_
                                refine lv_iconst (v := 5) hx hb dX8_safe_183 (by decide) ?_
                                refine lv_idiv hx hb dX8_safe_184 (by decide) ?_
                                refine lv_istore (lv' := [(8, .int (x8_148 / (5 : Int32))), (10, .int x10_148), (9, .int x9_148), (7, .int ((F_X4_bearsOf σ a1) - (F_X2_dryOf σ a1))), (0, .ref (ad 0)), (1, .int a1), (2, .int a2), (3, .int a3), (4, .int a4), (5, .int a5), (6, .int a6)]) hx hb dX8_safe_185 hl (by decide) rfl (fun ls hl => ?_)
                                refine lv_iload hx hb dX8_safe_187 (lv_at hl 2 rfl) ?_
                                refine lv_iconst (v := 5) hx hb dX8_safe_189 (by decide) ?_
                                refine lv_idiv hx hb dX8_safe_190 (by decide) ?_
                                refine lv_istore (lv' := [(9, .int (x9_148 / (5 : Int32))), (8, .int (x8_148 / (5 : Int32))), (10, .int x10_148), (7, .int ((F_X4_bearsOf σ a1) - (F_X2_dryOf σ a1))), (0, .ref (ad 0)), (1, .int a1), (2, .int a2), (3, .int a3), (4, .int a4), (5, .int a5), (6, .int a6)]) hx hb dX8_safe_191 hl (by decide) rfl (fun ls hl => ?_)
                                refine lv_iinc (v := (x10_148 + (1 : Int32))) (lv' := [(10, .int (x10_148 + (1 : Int32))), (9, .int (x9_148 / (5 : Int32))), (8, .int (x8_148 / (5 : Int32))), (7, .int ((F_X4_bearsOf σ a1) - (F_X2_dryOf σ a1))), (0, .ref (ad 0)), (1, .int a1), (2, .int a2), (3, .int a3), (4, .int a4), (5, .int a5), (6, .int a6)]) hx hb dX8_safe_193 hl (k := 2) rfl rfl (by decide) rfl (fun ls hl => ?_)
                                refine lv_goto (tgt := 148) hx hb dX8_safe_196 (by decide) ?_
                                have e148_10 : (x10_148 + (1 : Int32)).toInt = _ := ti_of (oI_add (oI_at x10_148) (oI_lit (x := 1) (a := 1) rfl)) (by omega)
                                exact ih148 (x10_148 + (1 : Int32)) (x9_148 / (5 : Int32)) (x8_148 / (5 : Int32)) _ _ ls ((show 0 ≤ (x10_148 + (1 : Int32)).toInt ∧ 0 < n148 ∧ 6 < (x10_148 + (1 : Int32)).toInt + n148 from by omega)) hF h (lv_sub hl [0, 1, 2, 3, 4, 5, 6, 7, 8, 9, 10] rfl)
                            · have ic15 : (x8_148 - x8_148 / (2 : Int32) * (2 : Int32)).toInt = 0 := i_eq c15
                              have hF := (if_pos c15).symm.trans hF
                              refine lv_iload hx hb dX8_safe_162 (lv_at hl 2 rfl) ?_
                              refine lv_iconst (v := 2) hx hb dX8_safe_164 (by decide) ?_
                              refine lv_idiv hx hb dX8_safe_165 (by decide) ?_
                              refine lv_istore (lv' := [(8, .int (x8_148 / (2 : Int32))), (10, .int x10_148), (9, .int x9_148), (7, .int ((F_X4_bearsOf σ a1) - (F_X2_dryOf σ a1))), (0, .ref (ad 0)), (1, .int a1), (2, .int a2), (3, .int a3), (4, .int a4), (5, .int a5), (6, .int a6)]) hx hb dX8_safe_166 hl (by decide) rfl (fun ls hl => ?_)
                              refine lv_iload hx hb dX8_safe_168 (lv_at hl 2 rfl) ?_
                              refine lv_iconst (v := 2) hx hb dX8_safe_170 (by decide) ?_
                              refine lv_idiv hx hb dX8_safe_171 (by decide) ?_
                              refine lv_istore (lv' := [(9, .int (x9_148 / (2 : Int32))), (8, .int (x8_148 / (2 : Int32))), (10, .int x10_148), (7, .int ((F_X4_bearsOf σ a1) - (F_X2_dryOf σ a1))), (0, .ref (ad 0)), (1, .int a1), (2, .int a2), (3, .int a3), (4, .int a4), (5, .int a5), (6, .int a6)]) hx hb dX8_safe_172 hl (by decide) rfl (fun ls hl => ?_)
                              refine lv_iload hx hb dX8_safe_174 (lv_at hl 1 rfl) ?_
                              refine lv_iconst (v := 5) hx hb dX8_safe_176 (by decide) ?_
                              refine lv_irem hx hb dX8_safe_177 (by decide) ?_
                              refine lv_if_ne (tgt := 193) hx hb dX8_safe_178 (by decide) (fun c17 => ?_) (fun c17 => ?_)
                              · have ic17 : ((x8_148 / (2 : Int32)) - (x8_148 / (2 : Int32)) / (5 : Int32) * (5 : Int32)).toInt ≠ 0 := i_ne c17
                                have hF := (if_neg c17).symm.trans hF
                                refine lv_iinc (v := (x10_148 + (1 : Int32))) (lv' := [(10, .int (x10_148 + (1 : Int32))), (9, .int (x9_148 / (2 : Int32))), (8, .int (x8_148 / (2 : Int32))), (7, .int ((F_X4_bearsOf σ a1) - (F_X2_dryOf σ a1))), (0, .ref (ad 0)), (1, .int a1), (2, .int a2), (3, .int a3), (4, .int a4), (5, .int a5), (6, .int a6)]) hx hb dX8_safe_193 hl (k := 2) rfl rfl (by decide) rfl (fun ls hl => ?_)
                                refine lv_goto (tgt := 148) hx hb dX8_safe_196 (by decide) ?_
                                have e148_10 : (x10_148 + (1 : Int32)).toInt = _ := ti_of (oI_add (oI_at x10_148) (oI_lit (x := 1) (a := 1) rfl)) (by omega)
                                exact ih148 (x10_148 + (1 : Int32)) (x9_148 / (2 : Int32)) (x8_148 / (2 : Int32)) _ _ ls ((show 0 ≤ (x10_148 + (1 : Int32)).toInt ∧ 0 < n148 ∧ 6 < (x10_148 + (1 : Int32)).toInt + n148 from by omega)) hF h (lv_sub hl [0, 1, 2, 3, 4, 5, 6, 7, 8, 9, 10] rfl)
                              · have ic17 : ((x8_148 / (2 : Int32)) - (x8_148 / (2 : Int32)) / (5 : Int32) * (5 : Int32)).toInt = 0 := i_eq c17
                                have hF := (if_pos c17).symm.trans hF
                                refine lv_iload hx hb dX8_safe_181 (lv_at hl 1 rfl) ?_
                                refine lv_iconst (v := 5) hx hb dX8_safe_183 (by decide) ?_
                                refine lv_idiv hx hb dX8_safe_184 (by decide) ?_
                                refine lv_istore (lv' := [(8, .int ((x8_148 / (2 : Int32)) / (5 : Int32))), (9, .int (x9_148 / (2 : Int32))), (10, .int x10_148), (7, .int ((F_X4_bearsOf σ a1) - (F_X2_dryOf σ a1))), (0, .ref (ad 0)), (1, .int a1), (2, .int a2), (3, .int a3), (4, .int a4), (5, .int a5), (6, .int a6)]) hx hb dX8_safe_185 hl (by decide) rfl (fun ls hl => ?_)
                                refine lv_iload hx hb dX8_safe_187 (lv_at hl 1 rfl) ?_
                                refine lv_iconst (v := 5) hx hb dX8_safe_189 (by decide) ?_
                                refine lv_idiv hx hb dX8_safe_190 (by decide) ?_
                                refine lv_istore (lv' := [(9, .int ((x9_148 / (2 : Int32)) / (5 : Int32))), (8, .int ((x8_148 / (2 : Int32)) / (5 : Int32))), (10, .int x10_148), (7, .int ((F_X4_bearsOf σ a1) - (F_X2_dryOf σ a1))), (0, .ref (ad 0)), (1, .int a1), (2, .int a2), (3, .int a3), (4, .int a4), (5, .int a5), (6, .int a6)]) hx hb dX8_safe_191 hl (by decide) rfl (fun ls hl => ?_)
                                refine lv_iinc (v := (x10_148 + (1 : Int32))) (lv' := [(10, .int (x10_148 + (1 : Int32))), (9, .int ((x9_148 / (2 : Int32)) / (5 : Int32))), (8, .int ((x8_148 / (2 : Int32)) / (5 : Int32))), (7, .int ((F_X4_bearsOf σ a1) - (F_X2_dryOf σ a1))), (0, .ref (ad 0)), (1, .int a1), (2, .int a2), (3, .int a3), (4, .int a4), (5, .int a5), (6, .int a6)]) hx hb dX8_safe_193 hl (k := 2) rfl rfl (by decide) rfl (fun ls hl => ?_)
                                refine lv_goto (tgt := 148) hx hb dX8_safe_196 (by decide) ?_
                                have e148_10 : (x10_148 + (1 : Int32)).toInt = _ := ti_of (oI_add (oI_at x10_148) (oI_lit (x := 1) (a := 1) rfl)) (by omega)
                                exact ih148 (x10_148 + (1 : Int32)) ((x9_148 / (2 : Int32)) / (5 : Int32)) ((x8_148 / (2 : Int32)) / (5 : Int32)) _ _ ls ((show 0 ≤ (x10_148 + (1 : Int32)).toInt ∧ 0 < n148 ∧ 6 < (x10_148 + (1 : Int32)).toInt + n148 from by omega)) hF h (lv_sub hl [0, 1, 2, 3, 4, 5, 6, 7, 8, 9, 10] rfl)
                      have q148_10 : (0 : Int32).toInt = 0 := rfl
                      exact L148 7 (0 : Int32) x9_125 v8 _ _ ls ((show 0 ≤ (0 : Int32).toInt ∧ 0 < (7 : Nat) ∧ 6 < (0 : Int32).toInt + (7 : Nat) from by omega)) hF h (lv_sub hl [0, 1, 2, 3, 4, 5, 6, 7, 8, 9, 10] rfl)
                    · have ic11 : x10_125.toInt < a4.toInt := i_nle c11
                      have hF := (if_neg c11).symm.trans hF
                      refine lv_iload hx hb dX8_safe_132 (lv_at hl 1 rfl) ?_
                      refine lv_bipush (v := 10) hx hb dX8_safe_134 (by decide) ?_
                      refine lv_imul hx hb dX8_safe_136 ?_
                      refine lv_istore (lv' := [(9, .int (x9_125 * (10 : Int32))), (10, .int x10_125), (8, .int v8), (7, .int ((F_X4_bearsOf σ a1) - (F_X2_dryOf σ a1))), (0, .ref (ad 0)), (1, .int a1), (2, .int a2), (3, .int a3), (4, .int a4), (5, .int a5), (6, .int a6)]) hx hb dX8_safe_137 hl (by decide) rfl (fun ls hl => ?_)
                      refine lv_iinc (v := (x10_125 + (1 : Int32))) (lv' := [(10, .int (x10_125 + (1 : Int32))), (9, .int (x9_125 * (10 : Int32))), (8, .int v8), (7, .int ((F_X4_bearsOf σ a1) - (F_X2_dryOf σ a1))), (0, .ref (ad 0)), (1, .int a1), (2, .int a2), (3, .int a3), (4, .int a4), (5, .int a5), (6, .int a6)]) hx hb dX8_safe_139 hl (k := 1) rfl rfl (by decide) rfl (fun ls hl => ?_)
                      refine lv_goto (tgt := 125) hx hb dX8_safe_142 (by decide) ?_
                      have e125_10 : (x10_125 + (1 : Int32)).toInt = _ := ti_of (oI_add (oI_at x10_125) (oI_lit (x := 1) (a := 1) rfl)) (by omega)
                      exact ih125 (x10_125 + (1 : Int32)) (x9_125 * (10 : Int32)) _ _ ls ((show 0 ≤ (x10_125 + (1 : Int32)).toInt ∧ 0 < n125 ∧ 6 < (x10_125 + (1 : Int32)).toInt + n125 from by omega)) hF h (lv_sub hl [0, 1, 2, 3, 4, 5, 6, 7, 8, 9, 10] rfl)
                have q125_10 : (0 : Int32).toInt = 0 := rfl
                exact L125 7 (0 : Int32) (1 : Int32) _ _ ls ((show 0 ≤ (0 : Int32).toInt ∧ 0 < (7 : Nat) ∧ 6 < (0 : Int32).toInt + (7 : Nat) from by omega)) hF h (lv_sub hl [0, 1, 2, 3, 4, 5, 6, 7, 8, 9, 10] rfl)
              · have ic7 : (F_X2_isAlive σ a1).toInt = 0 := i_eq c7
                have hF := (if_pos c7).symm.trans hF
                refine lv_bipush (v := (-2)) hx hb dX8_safe_81 (by decide) ?_
                exact g_iret E hr hlk h hQ hF rfl dX8_safe_83
            · have ic6 : (F_X8_within a6 (0 : Int32) (1 : Int32)).toInt = 0 := i_eq c6
              have hF := (if_pos c6).symm.trans hF
              refine lv_iconst (v := (-1)) hx hb dX8_safe_65 (by decide) ?_
              exact g_iret E hr hlk h hQ hF rfl dX8_safe_66
      · have ic3 : (F_X8_within a3 (0 : Int32) (9 : Int32)).toInt = 0 := i_eq c3
        have hF := (if_pos c3).symm.trans hF
        refine lv_iconst (v := (-1)) hx hb dX8_safe_31 (by decide) ?_
        exact g_iret E hr hlk h hQ hF rfl dX8_safe_32

def F_X8_hears_k65_6 (σ : St) (a1 : Int32) (a2 : Int32) (a3 : Int32) (a4 : Int32) (u5 : Int32 × St) : Int32 × St := (if u5.1 = 0 then (((-3) : Int32), u5.2) else ((u5.2.1 1186), u5.2))
def F_X8_hears (σ : St) (a1 : Int32) (a2 : Int32) (a3 : Int32) (a4 : Int32) : Int32 × St := (if (F_X4_hasCaravan σ a1) = 0 then (((-1) : Int32), σ) else (if (F_X4_hasStage σ a2) = 0 then (((-1) : Int32), σ) else (if (F_X8_within a3 (0 : Int32) (9 : Int32)) = 0 then (((-1) : Int32), σ) else (if (F_X8_within a4 (0 : Int32) (9 : Int32)) = 0 then (((-1) : Int32), σ) else (F_X8_hears_k65_6 σ a1 a2 a3 a4 (F_X0_append σ a1 (((F_X4_heatOf σ a2) - a3) - a4)))))))
abbrev I_X8_hears : List Nat := [1186]
abbrev A_X8_hears : List Nat := [38, 39]
theorem fr_F_X8_hears_k65_6 (σ : St) (a1 : Int32) (a2 : Int32) (a3 : Int32) (a4 : Int32) (u5 : Int32 × St) (hfr : Fr I_X8_hears A_X8_hears false σ (u5.2)) : Fr I_X8_hears A_X8_hears false σ (F_X8_hears_k65_6  σ a1 a2 a3 a4 u5).2 := (fr_ite2 hfr hfr)
theorem fr_F_X8_hears (σ : St) (a1 : Int32) (a2 : Int32) (a3 : Int32) (a4 : Int32) : Fr I_X8_hears A_X8_hears false σ (F_X8_hears σ a1 a2 a3 a4).2 := (fr_ite2 Fr.rf (fr_ite2 Fr.rf (fr_ite2 Fr.rf (fr_ite2 Fr.rf (fr_F_X8_hears_k65_6 σ a1 a2 a3 a4 (F_X0_append σ a1 (((F_X4_heatOf σ a2) - a3) - a4)) (Fr.tr Fr.rf (Fr.mono (by decide) (by decide) (by decide) (fr_F_X0_append σ a1 (((F_X4_heatOf σ a2) - a3) - a4)))))))))
set_option maxHeartbeats 4000000 in
set_option maxRecDepth 20000 in
theorem c_X8_hears (l : Launch) (D : va_G) (cI cZ : ClassId) (z : Nat) (ad : Nat → Nat) (σ τ : St) (a1 a2 a3 a4 : Int32) (hh_ : 0 ≤ (σ.1 1186).toInt) : gM l yX8_hears cX8_hears 5 (some .int) 3 D cI cZ z (gws ad cI cZ σ τ) [.ref (ad 0), .int a1, .int a2, .int a3, .int a4] (some (.int (F_X8_hears σ a1 a2 a3 a4).1)) (gws ad cI cZ (F_X8_hears σ a1 a2 a3 a4).2 τ) := by
  refine g_met (own := RX8) (by decide) rfl (Nat.le_of_ble_eq_true rfl) (fun p e s m below meth c ls Q E hr hlk h hl hQ => ?_)
  have hx := E.1
  have hb := E.2.1
  have hF : (F_X8_hears σ a1 a2 a3 a4) = (F_X8_hears σ a1 a2 a3 a4) := rfl
  have hl : lv_has ls 5 [(0, .ref (ad 0)), (1, .int a1), (2, .int a2), (3, .int a3), (4, .int a4)] := hl
  refine lv_aload_n hx hb dX8_hears_0 rfl (lv_at hl 0 rfl) ?_
  refine g_get (v := .ref (ad 3)) E h 0 rfl rfl layX8 1 (by decide) rfl mw_203 rfl dX8_hears_1 ?_
  refine lv_iload_n hx hb dX8_hears_4 rfl (lv_at hl 1 rfl) ?_
  refine g_callVi (rest := []) E h (c_X4_hasCaravan l D cI cZ z ad σ τ a1) mw_417 cbX4_hasCaravan 3 rfl rfl ⟨by decide, by decide⟩ rfl rfl hl.1 (Nat.le_of_ble_eq_true rfl) ⟨Nat.zero_le _, Nat.zero_le _⟩ dX8_hears_5 (fun H locs h => ?_)
  refine lv_if_eq (tgt := 22) hx hb dX8_hears_8 (by decide) (fun c1 => ?_) (fun c1 => ?_)
  · have ic1 : (F_X4_hasCaravan σ a1).toInt = 0 := i_eq c1
    have hF := (if_pos c1).symm.trans hF
    refine lv_iconst (v := (-1)) hx hb dX8_hears_22 (by decide) ?_
    exact g_iret E hr hlk h hQ (fst_of hF) (snd_of hF (fun u => gws ad cI cZ u τ)) dX8_hears_23
  · have ic1 : (F_X4_hasCaravan σ a1).toInt ≠ 0 := i_ne c1
    have jc1 := fz_hasCaravan c1
    have hF := (if_neg c1).symm.trans hF
    refine lv_aload_n hx hb dX8_hears_11 rfl (lv_at hl 0 rfl) ?_
    refine g_get (v := .ref (ad 3)) E h 0 rfl rfl layX8 1 (by decide) rfl mw_203 rfl dX8_hears_12 ?_
    refine lv_iload_n hx hb dX8_hears_15 rfl (lv_at hl 2 rfl) ?_
    refine g_callVi (rest := []) E h (c_X4_hasStage l D cI cZ z ad σ τ a2) mw_388 cbX4_hasStage 3 rfl rfl ⟨by decide, by decide⟩ rfl rfl hl.1 (Nat.le_of_ble_eq_true rfl) ⟨Nat.zero_le _, Nat.zero_le _⟩ dX8_hears_16 (fun H locs h => ?_)
    refine lv_if_ne (tgt := 24) hx hb dX8_hears_19 (by decide) (fun c2 => ?_) (fun c2 => ?_)
    · have ic2 : (F_X4_hasStage σ a2).toInt ≠ 0 := i_ne c2
      have jc2 := fz_hasStage c2
      have hF := (if_neg c2).symm.trans hF
      refine lv_iload_n hx hb dX8_hears_24 rfl (lv_at hl 3 rfl) ?_
      refine lv_iconst (v := 0) hx hb dX8_hears_25 (by decide) ?_
      refine lv_bipush (v := 9) hx hb dX8_hears_26 (by decide) ?_
      refine g_callSi (rest := []) E h (c_X8_within l D cI cZ z (gws ad cI cZ σ τ) a3 (0 : Int32) (9 : Int32)) mw_243 cbX8_within ⟨by decide, by decide⟩ rfl rfl hl.1 (Nat.le_of_ble_eq_true rfl) ⟨Nat.zero_le _, Nat.zero_le _⟩ dX8_hears_28 (fun H locs h => ?_)
      refine lv_if_eq (tgt := 45) hx hb dX8_hears_31 (by decide) (fun c3 => ?_) (fun c3 => ?_)
      · have ic3 : (F_X8_within a3 (0 : Int32) (9 : Int32)).toInt = 0 := i_eq c3
        have hF := (if_pos c3).symm.trans hF
        refine lv_iconst (v := (-1)) hx hb dX8_hears_45 (by decide) ?_
        exact g_iret E hr hlk h hQ (fst_of hF) (snd_of hF (fun u => gws ad cI cZ u τ)) dX8_hears_46
      · have ic3 : (F_X8_within a3 (0 : Int32) (9 : Int32)).toInt ≠ 0 := i_ne c3
        have jc3 : 0 ≤ a3.toInt ∧ a3.toInt ≤ 9 := fz_within c3
        have hF := (if_neg c3).symm.trans hF
        refine lv_iload hx hb dX8_hears_34 (lv_at hl 4 rfl) ?_
        refine lv_iconst (v := 0) hx hb dX8_hears_36 (by decide) ?_
        refine lv_bipush (v := 9) hx hb dX8_hears_37 (by decide) ?_
        refine g_callSi (rest := []) E h (c_X8_within l D cI cZ z (gws ad cI cZ σ τ) a4 (0 : Int32) (9 : Int32)) mw_243 cbX8_within ⟨by decide, by decide⟩ rfl rfl hl.1 (Nat.le_of_ble_eq_true rfl) ⟨Nat.zero_le _, Nat.zero_le _⟩ dX8_hears_39 (fun H locs h => ?_)
        refine lv_if_ne (tgt := 47) hx hb dX8_hears_42 (by decide) (fun c4 => ?_) (fun c4 => ?_)
        · have ic4 : (F_X8_within a4 (0 : Int32) (9 : Int32)).toInt ≠ 0 := i_ne c4
          have jc4 : 0 ≤ a4.toInt ∧ a4.toInt ≤ 9 := fz_within c4
          have hF := (if_neg c4).symm.trans hF
          refine lv_aload_n hx hb dX8_hears_47 rfl (lv_at hl 0 rfl) ?_
          refine g_get (v := .ref (ad 37)) E h 0 rfl rfl layX8 7 (by decide) rfl mw_209 rfl dX8_hears_48 ?_
          refine lv_iload_n hx hb dX8_hears_51 rfl (lv_at hl 1 rfl) ?_
          refine lv_aload_n hx hb dX8_hears_52 rfl (lv_at hl 0 rfl) ?_
          refine g_get (v := .ref (ad 3)) E h 0 rfl rfl layX8 1 (by decide) rfl mw_203 rfl dX8_hears_53 ?_
          refine lv_iload_n hx hb dX8_hears_56 rfl (lv_at hl 2 rfl) ?_
          refine g_callVi (rest := [.int a1, .ref (ad 37)]) E h (c_X4_heatOf l D cI cZ z ad σ τ a2) mw_401 cbX4_heatOf 3 rfl rfl ⟨by decide, by decide⟩ rfl rfl hl.1 (Nat.le_of_ble_eq_true rfl) ⟨Nat.zero_le _, Nat.zero_le _⟩ dX8_hears_57 (fun H locs h => ?_)
          refine lv_iload_n hx hb dX8_hears_60 rfl (lv_at hl 3 rfl) ?_
          refine lv_isub hx hb dX8_hears_61 ?_
          refine lv_iload hx hb dX8_hears_62 (lv_at hl 4 rfl) ?_
          refine lv_isub hx hb dX8_hears_64 ?_
          refine g_callVU (F_X0_append σ a1 (((F_X4_heatOf σ a2) - a3) - a4)) (fun u => gws ad cI cZ u τ) (rest := []) E h (c_X0_append l D cI cZ z ad σ τ a1 (((F_X4_heatOf σ a2) - a3) - a4) (show 0 ≤ (σ.1 1186).toInt from by omega)) mw_685 cbX0_append 37 rfl rfl ⟨by decide, by decide⟩ rfl rfl hl.1 (Nat.le_of_ble_eq_true rfl) ⟨Nat.zero_le _, Nat.zero_le _⟩ dX8_hears_65 (fun u5 huu5 H locs h => ?_)
          have hF : F_X8_hears_k65_6 σ a1 a2 a3 a4 u5 = (F_X8_hears σ a1 a2 a3 a4) := by rw [← huu5]; exact hF
          refine lv_if_eq (tgt := 81) hx hb dX8_hears_68 (by decide) (fun c7 => ?_) (fun c7 => ?_)
          · have ic7 : u5.1.toInt = 0 := i_eq c7
            have hF := (if_pos c7).symm.trans hF
            refine lv_bipush (v := (-3)) hx hb dX8_hears_81 (by decide) ?_
            exact g_iret E hr hlk h hQ (fst_of hF) (snd_of hF (fun u => gws ad cI cZ u τ)) dX8_hears_83
          · have ic7 : u5.1.toInt ≠ 0 := i_ne c7
            have hF := (if_neg c7).symm.trans hF
            refine lv_aload_n hx hb dX8_hears_71 rfl (lv_at hl 0 rfl) ?_
            refine g_get (v := .ref (ad 37)) E h 0 rfl rfl layX8 7 (by decide) rfl mw_209 rfl dX8_hears_72 ?_
            refine g_getN (v := .int (u5.2.1 1186)) E h 37 rfl rfl layX0 2 (by decide) rfl nf_RX8_270 rfl dX8_hears_75 ?_
            refine lv_goto (tgt := 83) hx hb dX8_hears_78 (by decide) ?_
            exact g_iret E hr hlk h hQ (fst_of hF) (snd_of hF (fun u => gws ad cI cZ u τ)) dX8_hears_83
        · have ic4 : (F_X8_within a4 (0 : Int32) (9 : Int32)).toInt = 0 := i_eq c4
          have hF := (if_pos c4).symm.trans hF
          refine lv_iconst (v := (-1)) hx hb dX8_hears_45 (by decide) ?_
          exact g_iret E hr hlk h hQ (fst_of hF) (snd_of hF (fun u => gws ad cI cZ u τ)) dX8_hears_46
    · have ic2 : (F_X4_hasStage σ a2).toInt = 0 := i_eq c2
      have hF := (if_pos c2).symm.trans hF
      refine lv_iconst (v := (-1)) hx hb dX8_hears_22 (by decide) ?_
      exact g_iret E hr hlk h hQ (fst_of hF) (snd_of hF (fun u => gws ad cI cZ u τ)) dX8_hears_23

def F_X8_forget_k4_2 (σ : St) (u1 : Int32 × St) : Int32 × St := (u1.1, u1.2)
def F_X8_forget (σ : St) : Int32 × St := (F_X8_forget_k4_2 σ (F_X0_drop σ))
abbrev I_X8_forget : List Nat := [1186]
abbrev A_X8_forget : List Nat := []
theorem fr_F_X8_forget_k4_2 (σ : St) (u1 : Int32 × St) (hfr : Fr I_X8_forget A_X8_forget false σ (u1.2)) : Fr I_X8_forget A_X8_forget false σ (F_X8_forget_k4_2  σ u1).2 := hfr
theorem fr_F_X8_forget (σ : St) : Fr I_X8_forget A_X8_forget false σ (F_X8_forget σ).2 := (fr_F_X8_forget_k4_2 σ (F_X0_drop σ) (Fr.tr Fr.rf (Fr.mono (by decide) (by decide) (by decide) (fr_F_X0_drop σ))))
set_option maxHeartbeats 4000000 in
set_option maxRecDepth 20000 in
theorem c_X8_forget (l : Launch) (D : va_G) (cI cZ : ClassId) (z : Nat) (ad : Nat → Nat) (σ τ : St) : gM l yX8_forget cX8_forget 1 (some .int) 2 D cI cZ z (gws ad cI cZ σ τ) [.ref (ad 0)] (some (.int (F_X8_forget σ).1)) (gws ad cI cZ (F_X8_forget σ).2 τ) := by
  refine g_met (own := RX8) (by decide) rfl (Nat.le_of_ble_eq_true rfl) (fun p e s m below meth c ls Q E hr hlk h hl hQ => ?_)
  have hx := E.1
  have hb := E.2.1
  have hF : (F_X8_forget σ) = (F_X8_forget σ) := rfl
  have hl : lv_has ls 1 [(0, .ref (ad 0))] := hl
  refine lv_aload_n hx hb dX8_forget_0 rfl (lv_at hl 0 rfl) ?_
  refine g_get (v := .ref (ad 37)) E h 0 rfl rfl layX8 7 (by decide) rfl mw_209 rfl dX8_forget_1 ?_
  refine g_callVU (F_X0_drop σ) (fun u => gws ad cI cZ u τ) (rest := []) E h (c_X0_drop l D cI cZ z ad σ τ) mw_380 cbX0_drop 37 rfl rfl ⟨by decide, by decide⟩ rfl rfl hl.1 (Nat.le_of_ble_eq_true rfl) ⟨Nat.zero_le _, Nat.zero_le _⟩ dX8_forget_4 (fun u1 huu1 H locs h => ?_)
  have hF : F_X8_forget_k4_2 σ u1 = (F_X8_forget σ) := by rw [← huu1]; exact hF
  exact g_iret E hr hlk h hQ (fst_of hF) (snd_of hF (fun u => gws ad cI cZ u τ)) dX8_forget_7

def F_X8_stones_k32_3 (σ : St) (a1 : Int32) (v2 : Int32) : Int32 := v2
def F_X8_stones_k40_6 (σ : St) (a1 : Int32) (v5 : Int32) : Int32 := v5
def F_X8_stones (σ : St) (a1 : Int32) : Int32 := (if a1 = 0 then (F_X8_stones_k32_3 σ a1 (F_X0_sucked σ)) else (if a1 = 1 then (F_X8_stones_k40_6 σ a1 (F_X0_liars σ)) else ((-1) : Int32)))
set_option maxHeartbeats 4000000 in
set_option maxRecDepth 20000 in
theorem c_X8_stones (l : Launch) (D : va_G) (cI cZ : ClassId) (z : Nat) (ad : Nat → Nat) (σ τ : St) (a1 : Int32) : gM l yX8_stones cX8_stones 2 (some .int) 3 D cI cZ z (gws ad cI cZ σ τ) [.ref (ad 0), .int a1] (some (.int (F_X8_stones σ a1))) (gws ad cI cZ σ τ) := by
  refine g_met (own := RX8) (by decide) rfl (Nat.le_of_ble_eq_true rfl) (fun p e s m below meth c ls Q E hr hlk h hl hQ => ?_)
  have hx := E.1
  have hb := E.2.1
  have hF : (F_X8_stones σ a1) = (F_X8_stones σ a1) := rfl
  have hl : lv_has ls 2 [(0, .ref (ad 0)), (1, .int a1)] := hl
  refine lv_iload_n hx hb dX8_stones_0 rfl (lv_at hl 1 rfl) ?_
  by_cases t1 : a1 = 0
  · have it1 : a1.toInt = 0 := i_eq t1
    have hF := (if_pos t1).symm.trans hF
    refine lv_lookup (off := 27) (tgt := 28) hx hb dX8_stones_1 (by decide) (by rw [it1]; rfl) (by decide) ?_
    refine lv_aload_n hx hb dX8_stones_28 rfl (lv_at hl 0 rfl) ?_
    refine g_get (v := .ref (ad 37)) E h 0 rfl rfl layX8 7 (by decide) rfl mw_209 rfl dX8_stones_29 ?_
    refine g_callVh (F_X0_sucked σ) (rest := []) E h (c_X0_sucked l D cI cZ z ad σ τ) mw_697 cbX0_sucked 37 rfl rfl ⟨by decide, by decide⟩ rfl rfl hl.1 (Nat.le_of_ble_eq_true rfl) ⟨Nat.zero_le _, Nat.zero_le _⟩ dX8_stones_32 (fun v2 huv2 H locs h => ?_)
    have hF : F_X8_stones_k32_3 σ a1 v2 = (F_X8_stones σ a1) := by rw [← huv2]; exact hF
    exact g_iret E hr hlk h hQ hF rfl dX8_stones_35
  · have it1 : a1.toInt ≠ 0 := i_ne t1
    have hF := (if_neg t1).symm.trans hF
    by_cases t4 : a1 = 1
    · have it4 : a1.toInt = 1 := i_eq t4
      have hF := (if_pos t4).symm.trans hF
      refine lv_lookup (off := 35) (tgt := 36) hx hb dX8_stones_1 (by decide) (by rw [it4]; rfl) (by decide) ?_
      refine lv_aload_n hx hb dX8_stones_36 rfl (lv_at hl 0 rfl) ?_
      refine g_get (v := .ref (ad 37)) E h 0 rfl rfl layX8 7 (by decide) rfl mw_209 rfl dX8_stones_37 ?_
      refine g_callVh (F_X0_liars σ) (rest := []) E h (c_X0_liars l D cI cZ z ad σ τ) mw_702 cbX0_liars 37 rfl rfl ⟨by decide, by decide⟩ rfl rfl hl.1 (Nat.le_of_ble_eq_true rfl) ⟨Nat.zero_le _, Nat.zero_le _⟩ dX8_stones_40 (fun v5 huv5 H locs h => ?_)
      have hF : F_X8_stones_k40_6 σ a1 v5 = (F_X8_stones σ a1) := by rw [← huv5]; exact hF
      exact g_iret E hr hlk h hQ hF rfl dX8_stones_43
    · have it4 : a1.toInt ≠ 1 := i_ne t4
      have hF := (if_neg t4).symm.trans hF
      refine lv_lookup (off := 43) (tgt := 44) hx hb dX8_stones_1 (by decide) (by simp [Op.lookupswitch.offset, it1.symm, it4.symm]) (by decide) ?_
      refine lv_iconst (v := (-1)) hx hb dX8_stones_44 (by decide) ?_
      exact g_iret E hr hlk h hQ hF rfl dX8_stones_45

def F_X8_mark_k54_4 (σ : St) (a1 : Int32) (a2 : Int32) (u3 : Int32 × St) : Int32 × St := (u3.1, u3.2)
def F_X8_mark_k60_7 (σ : St) (a1 : Int32) (a2 : Int32) (u6 : Int32 × St) : Int32 × St := (u6.1, u6.2)
def F_X8_mark_k66_10 (σ : St) (a1 : Int32) (a2 : Int32) (u9 : Int32 × St) : Int32 × St := (u9.1, u9.2)
def F_X8_mark_k72_13 (σ : St) (a1 : Int32) (a2 : Int32) (u12 : Int32 × St) : Int32 × St := (u12.1, u12.2)
def F_X8_mark_k78_16 (σ : St) (a1 : Int32) (a2 : Int32) (u15 : Int32 × St) : Int32 × St := (u15.1, u15.2)
def F_X8_mark_k84_19 (σ : St) (a1 : Int32) (a2 : Int32) (u18 : Int32 × St) : Int32 × St := (u18.1, u18.2)
def F_X8_mark (σ : St) (a1 : Int32) (a2 : Int32) : Int32 × St := (if (F_X4_hasWell σ a2) = 0 then (((-1000000) : Int32), σ) else (if a1 = 0 then (F_X8_mark_k54_4 σ a1 a2 (F_X8_markAsWell σ a2)) else (if a1 = 1 then (F_X8_mark_k60_7 σ a1 a2 (F_X8_markAsKnot σ a2)) else (if a1 = 2 then (F_X8_mark_k66_10 σ a1 a2 (F_X8_markAsDew σ a2)) else (if a1 = 3 then (F_X8_mark_k72_13 σ a1 a2 (F_X8_markAsChild σ a2)) else (if a1 = 4 then (F_X8_mark_k78_16 σ a1 a2 (F_X8_markAsCamel σ a2)) else (if a1 = 5 then (F_X8_mark_k84_19 σ a1 a2 (F_X8_markAsMirage σ a2)) else (((-1000000) : Int32), σ))))))))
abbrev I_X8_mark : List Nat := []
abbrev A_X8_mark : List Nat := []
theorem fr_F_X8_mark_k54_4 (σ : St) (a1 : Int32) (a2 : Int32) (u3 : Int32 × St) (hfr : Fr I_X8_mark A_X8_mark true σ (u3.2)) : Fr I_X8_mark A_X8_mark true σ (F_X8_mark_k54_4  σ a1 a2 u3).2 := hfr
theorem fr_F_X8_mark_k60_7 (σ : St) (a1 : Int32) (a2 : Int32) (u6 : Int32 × St) (hfr : Fr I_X8_mark A_X8_mark true σ (u6.2)) : Fr I_X8_mark A_X8_mark true σ (F_X8_mark_k60_7  σ a1 a2 u6).2 := hfr
theorem fr_F_X8_mark_k66_10 (σ : St) (a1 : Int32) (a2 : Int32) (u9 : Int32 × St) (hfr : Fr I_X8_mark A_X8_mark true σ (u9.2)) : Fr I_X8_mark A_X8_mark true σ (F_X8_mark_k66_10  σ a1 a2 u9).2 := hfr
theorem fr_F_X8_mark_k72_13 (σ : St) (a1 : Int32) (a2 : Int32) (u12 : Int32 × St) (hfr : Fr I_X8_mark A_X8_mark true σ (u12.2)) : Fr I_X8_mark A_X8_mark true σ (F_X8_mark_k72_13  σ a1 a2 u12).2 := hfr
theorem fr_F_X8_mark_k78_16 (σ : St) (a1 : Int32) (a2 : Int32) (u15 : Int32 × St) (hfr : Fr I_X8_mark A_X8_mark true σ (u15.2)) : Fr I_X8_mark A_X8_mark true σ (F_X8_mark_k78_16  σ a1 a2 u15).2 := hfr
theorem fr_F_X8_mark_k84_19 (σ : St) (a1 : Int32) (a2 : Int32) (u18 : Int32 × St) (hfr : Fr I_X8_mark A_X8_mark true σ (u18.2)) : Fr I_X8_mark A_X8_mark true σ (F_X8_mark_k84_19  σ a1 a2 u18).2 := hfr
theorem fr_F_X8_mark (σ : St) (a1 : Int32) (a2 : Int32) : Fr I_X8_mark A_X8_mark true σ (F_X8_mark σ a1 a2).2 := (fr_ite2 Fr.rf (fr_ite2 (fr_F_X8_mark_k54_4 σ a1 a2 (F_X8_markAsWell σ a2) (Fr.tr Fr.rf (Fr.mono (by decide) (by decide) (by decide) (fr_F_X8_markAsWell σ a2)))) (fr_ite2 (fr_F_X8_mark_k60_7 σ a1 a2 (F_X8_markAsKnot σ a2) (Fr.tr Fr.rf (Fr.mono (by decide) (by decide) (by decide) (fr_F_X8_markAsKnot σ a2)))) (fr_ite2 (fr_F_X8_mark_k66_10 σ a1 a2 (F_X8_markAsDew σ a2) (Fr.tr Fr.rf (Fr.mono (by decide) (by decide) (by decide) (fr_F_X8_markAsDew σ a2)))) (fr_ite2 (fr_F_X8_mark_k72_13 σ a1 a2 (F_X8_markAsChild σ a2) (Fr.tr Fr.rf (Fr.mono (by decide) (by decide) (by decide) (fr_F_X8_markAsChild σ a2)))) (fr_ite2 (fr_F_X8_mark_k78_16 σ a1 a2 (F_X8_markAsCamel σ a2) (Fr.tr Fr.rf (Fr.mono (by decide) (by decide) (by decide) (fr_F_X8_markAsCamel σ a2)))) (fr_ite2 (fr_F_X8_mark_k84_19 σ a1 a2 (F_X8_markAsMirage σ a2) (Fr.tr Fr.rf (Fr.mono (by decide) (by decide) (by decide) (fr_F_X8_markAsMirage σ a2)))) Fr.rf)))))))
set_option maxHeartbeats 4000000 in
set_option maxRecDepth 20000 in
theorem c_X8_mark (l : Launch) (D : va_G) (cI cZ : ClassId) (z : Nat) (ad : Nat → Nat) (σ τ : St) (a1 a2 : Int32) (hs_ : (σ.1 97).toInt ≤ 8) : gM l yX8_mark cX8_mark 3 (some .int) 7 D cI cZ z (gws ad cI cZ σ τ) [.ref (ad 0), .int a1, .int a2] (some (.int (F_X8_mark σ a1 a2).1)) (gws ad cI cZ (F_X8_mark σ a1 a2).2 τ) := by
  refine g_met (own := RX8) (by decide) rfl (Nat.le_of_ble_eq_true rfl) (fun p e s m below meth c ls Q E hr hlk h hl hQ => ?_)
  have hx := E.1
  have hb := E.2.1
  have hF : (F_X8_mark σ a1 a2) = (F_X8_mark σ a1 a2) := rfl
  have hl : lv_has ls 3 [(0, .ref (ad 0)), (1, .int a1), (2, .int a2)] := hl
  refine lv_aload_n hx hb dX8_mark_0 rfl (lv_at hl 0 rfl) ?_
  refine g_get (v := .ref (ad 3)) E h 0 rfl rfl layX8 1 (by decide) rfl mw_203 rfl dX8_mark_1 ?_
  refine lv_iload_n hx hb dX8_mark_4 rfl (lv_at hl 2 rfl) ?_
  refine g_callVi (rest := []) E h (c_X4_hasWell l D cI cZ z ad σ τ a2) mw_457 cbX4_hasWell 3 rfl rfl ⟨by decide, by decide⟩ rfl rfl hl.1 (Nat.le_of_ble_eq_true rfl) ⟨Nat.zero_le _, Nat.zero_le _⟩ dX8_mark_5 (fun H locs h => ?_)
  refine lv_if_ne (tgt := 14) hx hb dX8_mark_8 (by decide) (fun c1 => ?_) (fun c1 => ?_)
  · have ic1 : (F_X4_hasWell σ a2).toInt ≠ 0 := i_ne c1
    have jc1 := fz_hasWell c1
    have hF := (if_neg c1).symm.trans hF
    refine lv_iload_n hx hb dX8_mark_14 rfl (lv_at hl 1 rfl) ?_
    by_cases t2 : a1 = 0
    · have it2 : a1.toInt = 0 := i_eq t2
      have hF := (if_pos t2).symm.trans hF
      refine lv_tableIn (off := 37) (tgt := 52) hx hb dX8_mark_15 (by rw [it2]; decide) (by rw [it2]; decide) (by rw [it2]; rfl) (by decide) ?_
      refine lv_aload_n hx hb dX8_mark_52 rfl (lv_at hl 0 rfl) ?_
      refine lv_iload_n hx hb dX8_mark_53 rfl (lv_at hl 2 rfl) ?_
      refine g_callVU (F_X8_markAsWell σ a2) (fun u => gws ad cI cZ u τ) (rest := []) E h (c_X8_markAsWell l D cI cZ z ad σ τ a2) mw_710 cbX8_markAsWell 0 rfl rfl ⟨by decide, by decide⟩ rfl rfl hl.1 (Nat.le_of_ble_eq_true rfl) ⟨Nat.zero_le _, Nat.zero_le _⟩ dX8_mark_54 (fun u3 huu3 H locs h => ?_)
      have hF : F_X8_mark_k54_4 σ a1 a2 u3 = (F_X8_mark σ a1 a2) := by rw [← huu3]; exact hF
      exact g_iret E hr hlk h hQ (fst_of hF) (snd_of hF (fun u => gws ad cI cZ u τ)) dX8_mark_57
    · have it2 : a1.toInt ≠ 0 := i_ne t2
      have hF := (if_neg t2).symm.trans hF
      by_cases t5 : a1 = 1
      · have it5 : a1.toInt = 1 := i_eq t5
        have hF := (if_pos t5).symm.trans hF
        refine lv_tableIn (off := 43) (tgt := 58) hx hb dX8_mark_15 (by rw [it5]; decide) (by rw [it5]; decide) (by rw [it5]; rfl) (by decide) ?_
        refine lv_aload_n hx hb dX8_mark_58 rfl (lv_at hl 0 rfl) ?_
        refine lv_iload_n hx hb dX8_mark_59 rfl (lv_at hl 2 rfl) ?_
        refine g_callVU (F_X8_markAsKnot σ a2) (fun u => gws ad cI cZ u τ) (rest := []) E h (c_X8_markAsKnot l D cI cZ z ad σ τ a2 (show (σ.1 97).toInt ≤ 8 from by omega)) mw_714 cbX8_markAsKnot 0 rfl rfl ⟨by decide, by decide⟩ rfl rfl hl.1 (Nat.le_of_ble_eq_true rfl) ⟨Nat.zero_le _, Nat.zero_le _⟩ dX8_mark_60 (fun u6 huu6 H locs h => ?_)
        have hF : F_X8_mark_k60_7 σ a1 a2 u6 = (F_X8_mark σ a1 a2) := by rw [← huu6]; exact hF
        exact g_iret E hr hlk h hQ (fst_of hF) (snd_of hF (fun u => gws ad cI cZ u τ)) dX8_mark_63
      · have it5 : a1.toInt ≠ 1 := i_ne t5
        have hF := (if_neg t5).symm.trans hF
        by_cases t8 : a1 = 2
        · have it8 : a1.toInt = 2 := i_eq t8
          have hF := (if_pos t8).symm.trans hF
          refine lv_tableIn (off := 49) (tgt := 64) hx hb dX8_mark_15 (by rw [it8]; decide) (by rw [it8]; decide) (by rw [it8]; rfl) (by decide) ?_
          refine lv_aload_n hx hb dX8_mark_64 rfl (lv_at hl 0 rfl) ?_
          refine lv_iload_n hx hb dX8_mark_65 rfl (lv_at hl 2 rfl) ?_
          refine g_callVU (F_X8_markAsDew σ a2) (fun u => gws ad cI cZ u τ) (rest := []) E h (c_X8_markAsDew l D cI cZ z ad σ τ a2) mw_723 cbX8_markAsDew 0 rfl rfl ⟨by decide, by decide⟩ rfl rfl hl.1 (Nat.le_of_ble_eq_true rfl) ⟨Nat.zero_le _, Nat.zero_le _⟩ dX8_mark_66 (fun u9 huu9 H locs h => ?_)
          have hF : F_X8_mark_k66_10 σ a1 a2 u9 = (F_X8_mark σ a1 a2) := by rw [← huu9]; exact hF
          exact g_iret E hr hlk h hQ (fst_of hF) (snd_of hF (fun u => gws ad cI cZ u τ)) dX8_mark_69
        · have it8 : a1.toInt ≠ 2 := i_ne t8
          have hF := (if_neg t8).symm.trans hF
          by_cases t11 : a1 = 3
          · have it11 : a1.toInt = 3 := i_eq t11
            have hF := (if_pos t11).symm.trans hF
            refine lv_tableIn (off := 55) (tgt := 70) hx hb dX8_mark_15 (by rw [it11]; decide) (by rw [it11]; decide) (by rw [it11]; rfl) (by decide) ?_
            refine lv_aload_n hx hb dX8_mark_70 rfl (lv_at hl 0 rfl) ?_
            refine lv_iload_n hx hb dX8_mark_71 rfl (lv_at hl 2 rfl) ?_
            refine g_callVU (F_X8_markAsChild σ a2) (fun u => gws ad cI cZ u τ) (rest := []) E h (c_X8_markAsChild l D cI cZ z ad σ τ a2 (show (σ.1 97).toInt ≤ 8 from by omega)) mw_728 cbX8_markAsChild 0 rfl rfl ⟨by decide, by decide⟩ rfl rfl hl.1 (Nat.le_of_ble_eq_true rfl) ⟨Nat.zero_le _, Nat.zero_le _⟩ dX8_mark_72 (fun u12 huu12 H locs h => ?_)
            have hF : F_X8_mark_k72_13 σ a1 a2 u12 = (F_X8_mark σ a1 a2) := by rw [← huu12]; exact hF
            exact g_iret E hr hlk h hQ (fst_of hF) (snd_of hF (fun u => gws ad cI cZ u τ)) dX8_mark_75
          · have it11 : a1.toInt ≠ 3 := i_ne t11
            have hF := (if_neg t11).symm.trans hF
            by_cases t14 : a1 = 4
            · have it14 : a1.toInt = 4 := i_eq t14
              have hF := (if_pos t14).symm.trans hF
              refine lv_tableIn (off := 61) (tgt := 76) hx hb dX8_mark_15 (by rw [it14]; decide) (by rw [it14]; decide) (by rw [it14]; rfl) (by decide) ?_
              refine lv_aload_n hx hb dX8_mark_76 rfl (lv_at hl 0 rfl) ?_
              refine lv_iload_n hx hb dX8_mark_77 rfl (lv_at hl 2 rfl) ?_
              refine g_callVU (F_X8_markAsCamel σ a2) (fun u => gws ad cI cZ u τ) (rest := []) E h (c_X8_markAsCamel l D cI cZ z ad σ τ a2) mw_733 cbX8_markAsCamel 0 rfl rfl ⟨by decide, by decide⟩ rfl rfl hl.1 (Nat.le_of_ble_eq_true rfl) ⟨Nat.zero_le _, Nat.zero_le _⟩ dX8_mark_78 (fun u15 huu15 H locs h => ?_)
              have hF : F_X8_mark_k78_16 σ a1 a2 u15 = (F_X8_mark σ a1 a2) := by rw [← huu15]; exact hF
              exact g_iret E hr hlk h hQ (fst_of hF) (snd_of hF (fun u => gws ad cI cZ u τ)) dX8_mark_81
            · have it14 : a1.toInt ≠ 4 := i_ne t14
              have hF := (if_neg t14).symm.trans hF
              by_cases t17 : a1 = 5
              · have it17 : a1.toInt = 5 := i_eq t17
                have hF := (if_pos t17).symm.trans hF
                refine lv_tableIn (off := 67) (tgt := 82) hx hb dX8_mark_15 (by rw [it17]; decide) (by rw [it17]; decide) (by rw [it17]; rfl) (by decide) ?_
                refine lv_aload_n hx hb dX8_mark_82 rfl (lv_at hl 0 rfl) ?_
                refine lv_iload_n hx hb dX8_mark_83 rfl (lv_at hl 2 rfl) ?_
                refine g_callVU (F_X8_markAsMirage σ a2) (fun u => gws ad cI cZ u τ) (rest := []) E h (c_X8_markAsMirage l D cI cZ z ad σ τ a2) mw_738 cbX8_markAsMirage 0 rfl rfl ⟨by decide, by decide⟩ rfl rfl hl.1 (Nat.le_of_ble_eq_true rfl) ⟨Nat.zero_le _, Nat.zero_le _⟩ dX8_mark_84 (fun u18 huu18 H locs h => ?_)
                have hF : F_X8_mark_k84_19 σ a1 a2 u18 = (F_X8_mark σ a1 a2) := by rw [← huu18]; exact hF
                exact g_iret E hr hlk h hQ (fst_of hF) (snd_of hF (fun u => gws ad cI cZ u τ)) dX8_mark_87
              · have it17 : a1.toInt ≠ 5 := i_ne t17
                have hF := (if_neg t17).symm.trans hF
                refine lv_tableOut (tgt := 88) hx hb dX8_mark_15 (by omega) (by decide) ?_
                refine g_ldc (v := (-1000000)) E mw_461 dX8_mark_88 ?_
                exact g_iret E hr hlk h hQ (fst_of hF) (snd_of hF (fun u => gws ad cI cZ u τ)) dX8_mark_90
  · have ic1 : (F_X4_hasWell σ a2).toInt = 0 := i_eq c1
    have hF := (if_pos c1).symm.trans hF
    refine g_ldc (v := (-1000000)) E mw_461 dX8_mark_11 ?_
    exact g_iret E hr hlk h hQ (fst_of hF) (snd_of hF (fun u => gws ad cI cZ u τ)) dX8_mark_13

def F_X8_count (σ : St) (a1 : Int32) : Int32 := (if a1 = 0 then (σ.1 96) else (if a1 = 1 then (σ.1 97) else (if a1 = 2 then (σ.1 98) else (if a1 = 3 then (σ.1 1186) else (if a1 = 4 then (σ.1 802) else (if a1 = 5 then (F_X6_size σ) else ((-1) : Int32)))))))
set_option maxHeartbeats 4000000 in
set_option maxRecDepth 20000 in
theorem c_X8_count (l : Launch) (D : va_G) (cI cZ : ClassId) (z : Nat) (ad : Nat → Nat) (σ τ : St) (a1 : Int32) : gM l yX8_count cX8_count 2 (some .int) 2 D cI cZ z (gws ad cI cZ σ τ) [.ref (ad 0), .int a1] (some (.int (F_X8_count σ a1))) (gws ad cI cZ σ τ) := by
  refine g_met (own := RX8) (by decide) rfl (Nat.le_of_ble_eq_true rfl) (fun p e s m below meth c ls Q E hr hlk h hl hQ => ?_)
  have hx := E.1
  have hb := E.2.1
  have hF : (F_X8_count σ a1) = (F_X8_count σ a1) := rfl
  have hl : lv_has ls 2 [(0, .ref (ad 0)), (1, .int a1)] := hl
  refine lv_iload_n hx hb dX8_count_0 rfl (lv_at hl 1 rfl) ?_
  by_cases t1 : a1 = 0
  · have it1 : a1.toInt = 0 := i_eq t1
    have hF := (if_pos t1).symm.trans hF
    refine lv_tableIn (off := 39) (tgt := 40) hx hb dX8_count_1 (by rw [it1]; decide) (by rw [it1]; decide) (by rw [it1]; rfl) (by decide) ?_
    refine lv_aload_n hx hb dX8_count_40 rfl (lv_at hl 0 rfl) ?_
    refine g_get (v := .ref (ad 3)) E h 0 rfl rfl layX8 1 (by decide) rfl mw_203 rfl dX8_count_41 ?_
    refine g_getN (v := .int (σ.1 96)) E h 3 rfl rfl layX4 0 (by decide) rfl nf_RX8_208 rfl dX8_count_44 ?_
    exact g_iret E hr hlk h hQ hF rfl dX8_count_47
  · have it1 : a1.toInt ≠ 0 := i_ne t1
    have hF := (if_neg t1).symm.trans hF
    by_cases t2 : a1 = 1
    · have it2 : a1.toInt = 1 := i_eq t2
      have hF := (if_pos t2).symm.trans hF
      refine lv_tableIn (off := 47) (tgt := 48) hx hb dX8_count_1 (by rw [it2]; decide) (by rw [it2]; decide) (by rw [it2]; rfl) (by decide) ?_
      refine lv_aload_n hx hb dX8_count_48 rfl (lv_at hl 0 rfl) ?_
      refine g_get (v := .ref (ad 3)) E h 0 rfl rfl layX8 1 (by decide) rfl mw_203 rfl dX8_count_49 ?_
      refine g_getN (v := .int (σ.1 97)) E h 3 rfl rfl layX4 1 (by decide) rfl nf_RX8_306 rfl dX8_count_52 ?_
      exact g_iret E hr hlk h hQ hF rfl dX8_count_55
    · have it2 : a1.toInt ≠ 1 := i_ne t2
      have hF := (if_neg t2).symm.trans hF
      by_cases t3 : a1 = 2
      · have it3 : a1.toInt = 2 := i_eq t3
        have hF := (if_pos t3).symm.trans hF
        refine lv_tableIn (off := 55) (tgt := 56) hx hb dX8_count_1 (by rw [it3]; decide) (by rw [it3]; decide) (by rw [it3]; rfl) (by decide) ?_
        refine lv_aload_n hx hb dX8_count_56 rfl (lv_at hl 0 rfl) ?_
        refine g_get (v := .ref (ad 3)) E h 0 rfl rfl layX8 1 (by decide) rfl mw_203 rfl dX8_count_57 ?_
        refine g_getN (v := .int (σ.1 98)) E h 3 rfl rfl layX4 2 (by decide) rfl nf_RX8_309 rfl dX8_count_60 ?_
        exact g_iret E hr hlk h hQ hF rfl dX8_count_63
      · have it3 : a1.toInt ≠ 2 := i_ne t3
        have hF := (if_neg t3).symm.trans hF
        by_cases t4 : a1 = 3
        · have it4 : a1.toInt = 3 := i_eq t4
          have hF := (if_pos t4).symm.trans hF
          refine lv_tableIn (off := 63) (tgt := 64) hx hb dX8_count_1 (by rw [it4]; decide) (by rw [it4]; decide) (by rw [it4]; rfl) (by decide) ?_
          refine lv_aload_n hx hb dX8_count_64 rfl (lv_at hl 0 rfl) ?_
          refine g_get (v := .ref (ad 37)) E h 0 rfl rfl layX8 7 (by decide) rfl mw_209 rfl dX8_count_65 ?_
          refine g_getN (v := .int (σ.1 1186)) E h 37 rfl rfl layX0 2 (by decide) rfl nf_RX8_270 rfl dX8_count_68 ?_
          exact g_iret E hr hlk h hQ hF rfl dX8_count_71
        · have it4 : a1.toInt ≠ 3 := i_ne t4
          have hF := (if_neg t4).symm.trans hF
          by_cases t5 : a1 = 4
          · have it5 : a1.toInt = 4 := i_eq t5
            have hF := (if_pos t5).symm.trans hF
            refine lv_tableIn (off := 71) (tgt := 72) hx hb dX8_count_1 (by rw [it5]; decide) (by rw [it5]; decide) (by rw [it5]; rfl) (by decide) ?_
            refine lv_aload_n hx hb dX8_count_72 rfl (lv_at hl 0 rfl) ?_
            refine g_get (v := .ref (ad 25)) E h 0 rfl rfl layX8 3 (by decide) rfl mw_205 rfl dX8_count_73 ?_
            refine g_getN (v := .int (σ.1 802)) E h 25 rfl rfl layX1 2 (by decide) rfl nf_RX8_230 rfl dX8_count_76 ?_
            exact g_iret E hr hlk h hQ hF rfl dX8_count_79
          · have it5 : a1.toInt ≠ 4 := i_ne t5
            have hF := (if_neg t5).symm.trans hF
            by_cases t6 : a1 = 5
            · have it6 : a1.toInt = 5 := i_eq t6
              have hF := (if_pos t6).symm.trans hF
              refine lv_tableIn (off := 79) (tgt := 80) hx hb dX8_count_1 (by rw [it6]; decide) (by rw [it6]; decide) (by rw [it6]; rfl) (by decide) ?_
              refine lv_aload_n hx hb dX8_count_80 rfl (lv_at hl 0 rfl) ?_
              refine g_get (v := .ref (ad 1)) E h 0 rfl rfl layX8 0 (by decide) rfl mw_202 rfl dX8_count_81 ?_
              refine g_callVi (rest := []) E h (c_X6_size l D cI cZ z ad σ τ) mw_250 cbX6_size 1 rfl rfl ⟨by decide, by decide⟩ rfl rfl hl.1 (Nat.le_of_ble_eq_true rfl) ⟨Nat.zero_le _, Nat.zero_le _⟩ dX8_count_84 (fun H locs h => ?_)
              exact g_iret E hr hlk h hQ hF rfl dX8_count_87
            · have it6 : a1.toInt ≠ 5 := i_ne t6
              have hF := (if_neg t6).symm.trans hF
              refine lv_tableOut (tgt := 88) hx hb dX8_count_1 (by omega) (by decide) ?_
              refine lv_iconst (v := (-1)) hx hb dX8_count_88 (by decide) ?_
              exact g_iret E hr hlk h hQ hF rfl dX8_count_89

def F_X8_trace (σ : St) : Int64 := σ.2.2
set_option maxHeartbeats 4000000 in
set_option maxRecDepth 20000 in
theorem c_X8_trace (l : Launch) (D : va_G) (cI cZ : ClassId) (z : Nat) (ad : Nat → Nat) (σ τ : St) : gM l yX8_trace cX8_trace 1 (some .long) 1 D cI cZ z (gws ad cI cZ σ τ) [.ref (ad 0)] (some (.long (F_X8_trace σ))) (gws ad cI cZ σ τ) := by
  refine g_met (own := RX8) (by decide) rfl (Nat.le_of_ble_eq_true rfl) (fun p e s m below meth c ls Q E hr hlk h hl hQ => ?_)
  have hx := E.1
  have hb := E.2.1
  have hF : (F_X8_trace σ) = (F_X8_trace σ) := rfl
  have hl : lv_has ls 1 [(0, .ref (ad 0))] := hl
  refine lv_aload_n hx hb dX8_trace_0 rfl (lv_at hl 0 rfl) ?_
  refine g_get (v := .long σ.2.2) E h 0 rfl rfl layX8 11 (by decide) rfl mw_213 rfl dX8_trace_1 ?_
  exact g_lret E hr hlk h hQ hF rfl dX8_trace_4
