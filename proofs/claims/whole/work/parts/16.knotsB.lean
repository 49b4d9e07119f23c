def F_X8_type_k18_3 (σ : St) (a1 : Int32) (u2 : Int32 × St) : Int32 × St := (if u2.1 = 0 then (((-3) : Int32), u2.2) else ((F_X6_size u2.2), u2.2))
def F_X8_type (σ : St) (a1 : Int32) : Int32 × St := (if (F_X8_within a1 (0 : Int32) (255 : Int32)) = 0 then (((-1) : Int32), σ) else (F_X8_type_k18_3 σ a1 (F_X6_append σ a1)))
abbrev I_X8_type : List Nat := [33]
abbrev A_X8_type : List Nat := [2]
theorem fr_F_X8_type_k18_3 (σ : St) (a1 : Int32) (u2 : Int32 × St) (hfr : Fr I_X8_type A_X8_type false σ (u2.2)) : Fr I_X8_type A_X8_type false σ (F_X8_type_k18_3  σ a1 u2).2 := (fr_ite2 hfr hfr)
theorem fr_F_X8_type (σ : St) (a1 : Int32) : Fr I_X8_type A_X8_type false σ (F_X8_type σ a1).2 := (fr_ite2 Fr.rf (fr_F_X8_type_k18_3 σ a1 (F_X6_append σ a1) (Fr.tr Fr.rf (Fr.mono (by decide) (by decide) (by decide) (fr_F_X6_append σ a1)))))
set_option maxHeartbeats 4000000 in
set_option maxRecDepth 20000 in
theorem c_X8_type (l : Launch) (D : va_G) (cI cZ : ClassId) (z : Nat) (ad : Nat → Nat) (σ τ : St) (a1 : Int32) (ht_ : 0 ≤ (σ.1 33).toInt) : gM l yX8_type cX8_type 2 (some .int) 2 D cI cZ z (gws ad cI cZ σ τ) [.ref (ad 0), .int a1] (some (.int (F_X8_type σ a1).1)) (gws ad cI cZ (F_X8_type σ a1).2 τ) := by
  refine g_met (own := RX8) (by decide) rfl (Nat.le_of_ble_eq_true rfl) (fun p e s m below meth c ls Q E hr hlk h hl hQ => ?_)
  have hx := E.1
  have hb := E.2.1
  have hF : (F_X8_type σ a1) = (F_X8_type σ a1) := rfl
  have hl : lv_has ls 2 [(0, .ref (ad 0)), (1, .int a1)] := hl
  refine lv_iload_n hx hb dX8_type_0 rfl (lv_at hl 1 rfl) ?_
  refine lv_iconst (v := 0) hx hb dX8_type_1 (by decide) ?_
  refine lv_sipush (v := 255) hx hb dX8_type_2 (by decide) ?_
  refine g_callSi (rest := []) E h (c_X8_within l D cI cZ z (gws ad cI cZ σ τ) a1 (0 : Int32) (255 : Int32)) mw_243 cbX8_within ⟨by decide, by decide⟩ rfl rfl hl.1 (Nat.le_of_ble_eq_true rfl) ⟨Nat.zero_le _, Nat.zero_le _⟩ dX8_type_5 (fun H locs h => ?_)
  refine lv_if_ne (tgt := 13) hx hb dX8_type_8 (by decide) (fun c1 => ?_) (fun c1 => ?_)
  · have ic1 : (F_X8_within a1 (0 : Int32) (255 : Int32)).toInt ≠ 0 := i_ne c1
    have jc1 : 0 ≤ a1.toInt ∧ a1.toInt ≤ 255 := fz_within c1
    have hF := (if_neg c1).symm.trans hF
    refine lv_aload_n hx hb dX8_type_13 rfl (lv_at hl 0 rfl) ?_
    refine g_get (v := .ref (ad 1)) E h 0 rfl rfl layX8 0 (by decide) rfl mw_202 rfl dX8_type_14 ?_
    refine lv_iload_n hx hb dX8_type_17 rfl (lv_at hl 1 rfl) ?_
    refine g_callVU (F_X6_append σ a1) (fun u => gws ad cI cZ u τ) (rest := []) E h (c_X6_append l D cI cZ z ad σ τ a1 (show 0 ≤ (σ.1 33).toInt from by omega)) mw_246 cbX6_append 1 rfl rfl ⟨by decide, by decide⟩ rfl rfl hl.1 (Nat.le_of_ble_eq_true rfl) ⟨Nat.zero_le _, Nat.zero_le _⟩ dX8_type_18 (fun u2 huu2 H locs h => ?_)
    have hF : F_X8_type_k18_3 σ a1 u2 = (F_X8_type σ a1) := by rw [← huu2]; exact hF
    refine lv_if_eq (tgt := 34) hx hb dX8_type_21 (by decide) (fun c4 => ?_) (fun c4 => ?_)
    · have ic4 : u2.1.toInt = 0 := i_eq c4
      have hF := (if_pos c4).symm.trans hF
      refine lv_bipush (v := (-3)) hx hb dX8_type_34 (by decide) ?_
      exact g_iret E hr hlk h hQ (fst_of hF) (snd_of hF (fun u => gws ad cI cZ u τ)) dX8_type_36
    · have ic4 : u2.1.toInt ≠ 0 := i_ne c4
      have hF := (if_neg c4).symm.trans hF
      refine lv_aload_n hx hb dX8_type_24 rfl (lv_at hl 0 rfl) ?_
      refine g_get (v := .ref (ad 1)) E h 0 rfl rfl layX8 0 (by decide) rfl mw_202 rfl dX8_type_25 ?_
      refine g_callVi (rest := []) E h (c_X6_size l D cI cZ z ad u2.2 τ) mw_250 cbX6_size 1 rfl rfl ⟨by decide, by decide⟩ rfl rfl hl.1 (Nat.le_of_ble_eq_true rfl) ⟨Nat.zero_le _, Nat.zero_le _⟩ dX8_type_28 (fun H locs h => ?_)
      refine lv_goto (tgt := 36) hx hb dX8_type_31 (by decide) ?_
      exact g_iret E hr hlk h hQ (fst_of hF) (snd_of hF (fun u => gws ad cI cZ u τ)) dX8_type_36
  · have ic1 : (F_X8_within a1 (0 : Int32) (255 : Int32)).toInt = 0 := i_eq c1
    have hF := (if_pos c1).symm.trans hF
    refine lv_iconst (v := (-1)) hx hb dX8_type_11 (by decide) ?_
    exact g_iret E hr hlk h hQ (fst_of hF) (snd_of hF (fun u => gws ad cI cZ u τ)) dX8_type_12

def F_X8_clear_k4_2 (σ : St) (u1 : Int32 × St) : Int32 × St := (u1.1, u1.2)
def F_X8_clear (σ : St) : Int32 × St := (F_X8_clear_k4_2 σ (F_X6_empty σ))
abbrev I_X8_clear : List Nat := [33]
abbrev A_X8_clear : List Nat := []
theorem fr_F_X8_clear_k4_2 (σ : St) (u1 : Int32 × St) (hfr : Fr I_X8_clear A_X8_clear false σ (u1.2)) : Fr I_X8_clear A_X8_clear false σ (F_X8_clear_k4_2  σ u1).2 := hfr
theorem fr_F_X8_clear (σ : St) : Fr I_X8_clear A_X8_clear false σ (F_X8_clear σ).2 := (fr_F_X8_clear_k4_2 σ (F_X6_empty σ) (Fr.tr Fr.rf (Fr.mono (by decide) (by decide) (by decide) (fr_F_X6_empty σ))))
set_option maxHeartbeats 4000000 in
set_option maxRecDepth 20000 in
theorem c_X8_clear (l : Launch) (D : va_G) (cI cZ : ClassId) (z : Nat) (ad : Nat → Nat) (σ τ : St) : gM l yX8_clear cX8_clear 1 (some .int) 2 D cI cZ z (gws ad cI cZ σ τ) [.ref (ad 0)] (some (.int (F_X8_clear σ).1)) (gws ad cI cZ (F_X8_clear σ).2 τ) := by
  refine g_met (own := RX8) (by decide) rfl (Nat.le_of_ble_eq_true rfl) (fun p e s m below meth c ls Q E hr hlk h hl hQ => ?_)
  have hx := E.1
  have hb := E.2.1
  have hF : (F_X8_clear σ) = (F_X8_clear σ) := rfl
  have hl : lv_has ls 1 [(0, .ref (ad 0))] := hl
  refine lv_aload_n hx hb dX8_clear_0 rfl (lv_at hl 0 rfl) ?_
  refine g_get (v := .ref (ad 1)) E h 0 rfl rfl layX8 0 (by decide) rfl mw_202 rfl dX8_clear_1 ?_
  refine g_callVU (F_X6_empty σ) (fun u => gws ad cI cZ u τ) (rest := []) E h (c_X6_empty l D cI cZ z ad σ τ) mw_258 cbX6_empty 1 rfl rfl ⟨by decide, by decide⟩ rfl rfl hl.1 (Nat.le_of_ble_eq_true rfl) ⟨Nat.zero_le _, Nat.zero_le _⟩ dX8_clear_4 (fun u1 huu1 H locs h => ?_)
  have hF : F_X8_clear_k4_2 σ u1 = (F_X8_clear σ) := by rw [← huu1]; exact hF
  exact g_iret E hr hlk h hQ (fst_of hF) (snd_of hF (fun u => gws ad cI cZ u τ)) dX8_clear_7

def F_X8_stage (σ : St) (a1 : Int32) (a2 : Int32) : Int32 := (if (F_X4_hasStage σ a1) = 0 then ((-1) : Int32) else (if a2 = 0 then (F_X4_firstEnd σ a1) else (if a2 = 1 then (F_X4_secondEnd σ a1) else (if a2 = 2 then (F_X4_heatOf σ a1) else (if a2 = 3 then (if (F_X4_isByNight σ a1) = 0 then (0 : Int32) else (1 : Int32)) else (if a2 = 4 then (F_X4_lenderOf σ a1) else ((-1) : Int32)))))))
set_option maxHeartbeats 4000000 in
set_option maxRecDepth 20000 in
theorem c_X8_stage (l : Launch) (D : va_G) (cI cZ : ClassId) (z : Nat) (ad : Nat → Nat) (σ τ : St) (a1 a2 : Int32) : gM l yX8_stage cX8_stage 3 (some .int) 3 D cI cZ z (gws ad cI cZ σ τ) [.ref (ad 0), .int a1, .int a2] (some (.int (F_X8_stage σ a1 a2))) (gws ad cI cZ σ τ) := by
  refine g_met (own := RX8) (by decide) rfl (Nat.le_of_ble_eq_true rfl) (fun p e s m below meth c ls Q E hr hlk h hl hQ => ?_)
  have hx := E.1
  have hb := E.2.1
  have hF : (F_X8_stage σ a1 a2) = (F_X8_stage σ a1 a2) := rfl
  have hl : lv_has ls 3 [(0, .ref (ad 0)), (1, .int a1), (2, .int a2)] := hl
  refine lv_aload_n hx hb dX8_stage_0 rfl (lv_at hl 0 rfl) ?_
  refine g_get (v := .ref (ad 3)) E h 0 rfl rfl layX8 1 (by decide) rfl mw_203 rfl dX8_stage_1 ?_
  refine lv_iload_n hx hb dX8_stage_4 rfl (lv_at hl 1 rfl) ?_
  refine g_callVi (rest := []) E h (c_X4_hasStage l D cI cZ z ad σ τ a1) mw_388 cbX4_hasStage 3 rfl rfl ⟨by decide, by decide⟩ rfl rfl hl.1 (Nat.le_of_ble_eq_true rfl) ⟨Nat.zero_le _, Nat.zero_le _⟩ dX8_stage_5 (fun H locs h => ?_)
  refine lv_if_ne (tgt := 13) hx hb dX8_stage_8 (by decide) (fun c1 => ?_) (fun c1 => ?_)
  · have ic1 : (F_X4_hasStage σ a1).toInt ≠ 0 := i_ne c1
    have jc1 := fz_hasStage c1
    have hF := (if_neg c1).symm.trans hF
    refine lv_iload_n hx hb dX8_stage_13 rfl (lv_at hl 2 rfl) ?_
    by_cases t2 : a2 = 0
    · have it2 : a2.toInt = 0 := i_eq t2
      have hF := (if_pos t2).symm.trans hF
      refine lv_tableIn (off := 34) (tgt := 48) hx hb dX8_stage_14 (by rw [it2]; decide) (by rw [it2]; decide) (by rw [it2]; rfl) (by decide) ?_
      refine lv_aload_n hx hb dX8_stage_48 rfl (lv_at hl 0 rfl) ?_
      refine g_get (v := .ref (ad 3)) E h 0 rfl rfl layX8 1 (by decide) rfl mw_203 rfl dX8_stage_49 ?_
      refine lv_iload_n hx hb dX8_stage_52 rfl (lv_at hl 1 rfl) ?_
      refine g_callVi (rest := []) E h (c_X4_firstEnd l D cI cZ z ad σ τ a1) mw_392 cbX4_firstEnd 3 rfl rfl ⟨by decide, by decide⟩ rfl rfl hl.1 (Nat.le_of_ble_eq_true rfl) ⟨Nat.zero_le _, Nat.zero_le _⟩ dX8_stage_53 (fun H locs h => ?_)
      exact g_iret E hr hlk h hQ hF rfl dX8_stage_56
    · have it2 : a2.toInt ≠ 0 := i_ne t2
      have hF := (if_neg t2).symm.trans hF
      by_cases t3 : a2 = 1
      · have it3 : a2.toInt = 1 := i_eq t3
        have hF := (if_pos t3).symm.trans hF
        refine lv_tableIn (off := 43) (tgt := 57) hx hb dX8_stage_14 (by rw [it3]; decide) (by rw [it3]; decide) (by rw [it3]; rfl) (by decide) ?_
        refine lv_aload_n hx hb dX8_stage_57 rfl (lv_at hl 0 rfl) ?_
        refine g_get (v := .ref (ad 3)) E h 0 rfl rfl layX8 1 (by decide) rfl mw_203 rfl dX8_stage_58 ?_
        refine lv_iload_n hx hb dX8_stage_61 rfl (lv_at hl 1 rfl) ?_
        refine g_callVi (rest := []) E h (c_X4_secondEnd l D cI cZ z ad σ τ a1) mw_397 cbX4_secondEnd 3 rfl rfl ⟨by decide, by decide⟩ rfl rfl hl.1 (Nat.le_of_ble_eq_true rfl) ⟨Nat.zero_le _, Nat.zero_le _⟩ dX8_stage_62 (fun H locs h => ?_)
        exact g_iret E hr hlk h hQ hF rfl dX8_stage_65
      · have it3 : a2.toInt ≠ 1 := i_ne t3
        have hF := (if_neg t3).symm.trans hF
        by_cases t4 : a2 = 2
        · have it4 : a2.toInt = 2 := i_eq t4
          have hF := (if_pos t4).symm.trans hF
          refine lv_tableIn (off := 52) (tgt := 66) hx hb dX8_stage_14 (by rw [it4]; decide) (by rw [it4]; decide) (by rw [it4]; rfl) (by decide) ?_
          refine lv_aload_n hx hb dX8_stage_66 rfl (lv_at hl 0 rfl) ?_
          refine g_get (v := .ref (ad 3)) E h 0 rfl rfl layX8 1 (by decide) rfl mw_203 rfl dX8_stage_67 ?_
          refine lv_iload_n hx hb dX8_stage_70 rfl (lv_at hl 1 rfl) ?_
          refine g_callVi (rest := []) E h (c_X4_heatOf l D cI cZ z ad σ τ a1) mw_401 cbX4_heatOf 3 rfl rfl ⟨by decide, by decide⟩ rfl rfl hl.1 (Nat.le_of_ble_eq_true rfl) ⟨Nat.zero_le _, Nat.zero_le _⟩ dX8_stage_71 (fun H locs h => ?_)
          exact g_iret E hr hlk h hQ hF rfl dX8_stage_74
        · have it4 : a2.toInt ≠ 2 := i_ne t4
          have hF := (if_neg t4).symm.trans hF
          by_cases t5 : a2 = 3
          · have it5 : a2.toInt = 3 := i_eq t5
            have hF := (if_pos t5).symm.trans hF
            refine lv_tableIn (off := 61) (tgt := 75) hx hb dX8_stage_14 (by rw [it5]; decide) (by rw [it5]; decide) (by rw [it5]; rfl) (by decide) ?_
            refine lv_aload_n hx hb dX8_stage_75 rfl (lv_at hl 0 rfl) ?_
            refine g_get (v := .ref (ad 3)) E h 0 rfl rfl layX8 1 (by decide) rfl mw_203 rfl dX8_stage_76 ?_
            refine lv_iload_n hx hb dX8_stage_79 rfl (lv_at hl 1 rfl) ?_
            refine g_callVi (rest := []) E h (c_X4_isByNight l D cI cZ z ad σ τ a1) mw_405 cbX4_isByNight 3 rfl rfl ⟨by decide, by decide⟩ rfl rfl hl.1 (Nat.le_of_ble_eq_true rfl) ⟨Nat.zero_le _, Nat.zero_le _⟩ dX8_stage_80 (fun H locs h => ?_)
            refine lv_if_eq (tgt := 90) hx hb dX8_stage_83 (by decide) (fun c6 => ?_) (fun c6 => ?_)
            · have ic6 : (F_X4_isByNight σ a1).toInt = 0 := i_eq c6
              have hF := (if_pos c6).symm.trans hF
              refine lv_iconst (v := 0) hx hb dX8_stage_90 (by decide) ?_
              exact g_iret E hr hlk h hQ hF rfl dX8_stage_91
            · have ic6 : (F_X4_isByNight σ a1).toInt ≠ 0 := i_ne c6
              have hF := (if_neg c6).symm.trans hF
              refine lv_iconst (v := 1) hx hb dX8_stage_86 (by decide) ?_
              refine lv_goto (tgt := 91) hx hb dX8_stage_87 (by decide) ?_
              exact g_iret E hr hlk h hQ hF rfl dX8_stage_91
          · have it5 : a2.toInt ≠ 3 := i_ne t5
            have hF := (if_neg t5).symm.trans hF
            by_cases t7 : a2 = 4
            · have it7 : a2.toInt = 4 := i_eq t7
              have hF := (if_pos t7).symm.trans hF
              refine lv_tableIn (off := 78) (tgt := 92) hx hb dX8_stage_14 (by rw [it7]; decide) (by rw [it7]; decide) (by rw [it7]; rfl) (by decide) ?_
              refine lv_aload_n hx hb dX8_stage_92 rfl (lv_at hl 0 rfl) ?_
              refine g_get (v := .ref (ad 3)) E h 0 rfl rfl layX8 1 (by decide) rfl mw_203 rfl dX8_stage_93 ?_
              refine lv_iload_n hx hb dX8_stage_96 rfl (lv_at hl 1 rfl) ?_
              refine g_callVi (rest := []) E h (c_X4_lenderOf l D cI cZ z ad σ τ a1) mw_409 cbX4_lenderOf 3 rfl rfl ⟨by decide, by decide⟩ rfl rfl hl.1 (Nat.le_of_ble_eq_true rfl) ⟨Nat.zero_le _, Nat.zero_le _⟩ dX8_stage_97 (fun H locs h => ?_)
              exact g_iret E hr hlk h hQ hF rfl dX8_stage_100
            · have it7 : a2.toInt ≠ 4 := i_ne t7
              have hF := (if_neg t7).symm.trans hF
              refine lv_tableOut (tgt := 101) hx hb dX8_stage_14 (by omega) (by decide) ?_
              refine lv_iconst (v := (-1)) hx hb dX8_stage_101 (by decide) ?_
              exact g_iret E hr hlk h hQ hF rfl dX8_stage_102
  · have ic1 : (F_X4_hasStage σ a1).toInt = 0 := i_eq c1
    have hF := (if_pos c1).symm.trans hF
    refine lv_iconst (v := (-1)) hx hb dX8_stage_11 (by decide) ?_
    exact g_iret E hr hlk h hQ hF rfl dX8_stage_12

def F_X8_caravan_k103_10 (σ : St) (a1 : Int32) (a2 : Int32) (v9 : Int32) : Int32 := v9
def F_X8_caravan (σ : St) (a1 : Int32) (a2 : Int32) : Int32 := (if (F_X4_hasCaravan σ a1) = 0 then ((-1) : Int32) else (if a2 = 0 then (F_X2_placeOf σ a1) else (if a2 = 1 then (F_X2_cupsOf σ a1) else (if a2 = 2 then (F_X4_bearsOf σ a1) else (if a2 = 3 then (F_X2_dryOf σ a1) else (if a2 = 4 then (if (F_X2_isAlive σ a1) = 0 then (0 : Int32) else (1 : Int32)) else (if a2 = 5 then (F_X8_caravan_k103_10 σ a1 a2 (F_X2_knotsOfCaravan σ a1)) else ((-1) : Int32))))))))
set_option maxHeartbeats 4000000 in
set_option maxRecDepth 20000 in
theorem c_X8_caravan (l : Launch) (D : va_G) (cI cZ : ClassId) (z : Nat) (ad : Nat → Nat) (σ τ : St) (a1 a2 : Int32) : gM l yX8_caravan cX8_caravan 4 (some .int) 4 D cI cZ z (gws ad cI cZ σ τ) [.ref (ad 0), .int a1, .int a2] (some (.int (F_X8_caravan σ a1 a2))) (gws ad cI cZ σ τ) := by
  refine g_met (own := RX8) (by decide) rfl (Nat.le_of_ble_eq_true rfl) (fun p e s m below meth c ls Q E hr hlk h hl hQ => ?_)
  have hx := E.1
  have hb := E.2.1
  have hF : (F_X8_caravan σ a1 a2) = (F_X8_caravan σ a1 a2) := rfl
  have hl : lv_has ls 4 [(0, .ref (ad 0)), (1, .int a1), (2, .int a2)] := hl
  refine lv_aload_n hx hb dX8_caravan_0 rfl (lv_at hl 0 rfl) ?_
  refine g_get (v := .ref (ad 3)) E h 0 rfl rfl layX8 1 (by decide) rfl mw_203 rfl dX8_caravan_1 ?_
  refine lv_iload_n hx hb dX8_caravan_4 rfl (lv_at hl 1 rfl) ?_
  refine g_callVi (rest := []) E h (c_X4_hasCaravan l D cI cZ z ad σ τ a1) mw_417 cbX4_hasCaravan 3 rfl rfl ⟨by decide, by decide⟩ rfl rfl hl.1 (Nat.le_of_ble_eq_true rfl) ⟨Nat.zero_le _, Nat.zero_le _⟩ dX8_caravan_5 (fun H locs h => ?_)
  refine lv_if_ne (tgt := 13) hx hb dX8_caravan_8 (by decide) (fun c1 => ?_) (fun c1 => ?_)
  · have ic1 : (F_X4_hasCaravan σ a1).toInt ≠ 0 := i_ne c1
    have jc1 := fz_hasCaravan c1
    have hF := (if_neg c1).symm.trans hF
    refine lv_aload_n hx hb dX8_caravan_13 rfl (lv_at hl 0 rfl) ?_
    refine g_get (v := .ref (ad 25)) E h 0 rfl rfl layX8 3 (by decide) rfl mw_205 rfl dX8_caravan_14 ?_
    refine g_getN (v := .ref (ad 26)) E h 25 rfl rfl layX1 0 (by decide) rfl nf_RX8_123 rfl dX8_caravan_17 ?_
    refine lv_astore_n (lv' := [(3, .ref (ad 26)), (0, .ref (ad 0)), (1, .int a1), (2, .int a2)]) hx hb dX8_caravan_20 rfl hl (by decide) rfl (fun ls hl => ?_)
    refine lv_iload_n hx hb dX8_caravan_21 rfl (lv_at hl 3 rfl) ?_
    by_cases t2 : a2 = 0
    · have it2 : a2.toInt = 0 := i_eq t2
      have hF := (if_pos t2).symm.trans hF
      refine lv_tableIn (off := 38) (tgt := 60) hx hb dX8_caravan_22 (by rw [it2]; decide) (by rw [it2]; decide) (by rw [it2]; rfl) (by decide) ?_
      refine lv_aload_n hx hb dX8_caravan_60 rfl (lv_at hl 0 rfl) ?_
      refine lv_iload_n hx hb dX8_caravan_61 rfl (lv_at hl 2 rfl) ?_
      refine g_callVi (rest := []) E h (c_X2_placeOf l D cI cZ z ad σ τ a1) mw_421 cbX2_placeOf 26 rfl rfl ⟨by decide, by decide⟩ rfl rfl hl.1 (Nat.le_of_ble_eq_true rfl) ⟨Nat.zero_le _, Nat.zero_le _⟩ dX8_caravan_62 (fun H locs h => ?_)
      exact g_iret E hr hlk h hQ hF rfl dX8_caravan_65
    · have it2 : a2.toInt ≠ 0 := i_ne t2
      have hF := (if_neg t2).symm.trans hF
      by_cases t3 : a2 = 1
      · have it3 : a2.toInt = 1 := i_eq t3
        have hF := (if_pos t3).symm.trans hF
        refine lv_tableIn (off := 44) (tgt := 66) hx hb dX8_caravan_22 (by rw [it3]; decide) (by rw [it3]; decide) (by rw [it3]; rfl) (by decide) ?_
        refine lv_aload_n hx hb dX8_caravan_66 rfl (lv_at hl 0 rfl) ?_
        refine lv_iload_n hx hb dX8_caravan_67 rfl (lv_at hl 2 rfl) ?_
        refine g_callVi (rest := []) E h (c_X2_cupsOf l D cI cZ z ad σ τ a1) mw_425 cbX2_cupsOf 26 rfl rfl ⟨by decide, by decide⟩ rfl rfl hl.1 (Nat.le_of_ble_eq_true rfl) ⟨Nat.zero_le _, Nat.zero_le _⟩ dX8_caravan_68 (fun H locs h => ?_)
        exact g_iret E hr hlk h hQ hF rfl dX8_caravan_71
      · have it3 : a2.toInt ≠ 1 := i_ne t3
        have hF := (if_neg t3).symm.trans hF
        by_cases t4 : a2 = 2
        · have it4 : a2.toInt = 2 := i_eq t4
          have hF := (if_pos t4).symm.trans hF
          refine lv_tableIn (off := 50) (tgt := 72) hx hb dX8_caravan_22 (by rw [it4]; decide) (by rw [it4]; decide) (by rw [it4]; rfl) (by decide) ?_
          refine lv_aload_n hx hb dX8_caravan_72 rfl (lv_at hl 1 rfl) ?_
          refine g_get (v := .ref (ad 3)) E h 0 rfl rfl layX8 1 (by decide) rfl mw_203 rfl dX8_caravan_73 ?_
          refine lv_iload_n hx hb dX8_caravan_76 rfl (lv_at hl 2 rfl) ?_
          refine g_callVi (rest := []) E h (c_X4_bearsOf l D cI cZ z ad σ τ a1) mw_429 cbX4_bearsOf 3 rfl rfl ⟨by decide, by decide⟩ rfl rfl hl.1 (Nat.le_of_ble_eq_true rfl) ⟨Nat.zero_le _, Nat.zero_le _⟩ dX8_caravan_77 (fun H locs h => ?_)
          exact g_iret E hr hlk h hQ hF rfl dX8_caravan_80
        · have it4 : a2.toInt ≠ 2 := i_ne t4
          have hF := (if_neg t4).symm.trans hF
          by_cases t5 : a2 = 3
          · have it5 : a2.toInt = 3 := i_eq t5
            have hF := (if_pos t5).symm.trans hF
            refine lv_tableIn (off := 59) (tgt := 81) hx hb dX8_caravan_22 (by rw [it5]; decide) (by rw [it5]; decide) (by rw [it5]; rfl) (by decide) ?_
            refine lv_aload_n hx hb dX8_caravan_81 rfl (lv_at hl 0 rfl) ?_
            refine lv_iload_n hx hb dX8_caravan_82 rfl (lv_at hl 2 rfl) ?_
            refine g_callVi (rest := []) E h (c_X2_dryOf l D cI cZ z ad σ τ a1) mw_434 cbX2_dryOf 26 rfl rfl ⟨by decide, by decide⟩ rfl rfl hl.1 (Nat.le_of_ble_eq_true rfl) ⟨Nat.zero_le _, Nat.zero_le _⟩ dX8_caravan_83 (fun H locs h => ?_)
            exact g_iret E hr hlk h hQ hF rfl dX8_caravan_86
          · have it5 : a2.toInt ≠ 3 := i_ne t5
            have hF := (if_neg t5).symm.trans hF
            by_cases t6 : a2 = 4
            · have it6 : a2.toInt = 4 := i_eq t6
              have hF := (if_pos t6).symm.trans hF
              refine lv_tableIn (off := 65) (tgt := 87) hx hb dX8_caravan_22 (by rw [it6]; decide) (by rw [it6]; decide) (by rw [it6]; rfl) (by decide) ?_
              refine lv_aload_n hx hb dX8_caravan_87 rfl (lv_at hl 0 rfl) ?_
              refine lv_iload_n hx hb dX8_caravan_88 rfl (lv_at hl 2 rfl) ?_
              refine g_callVi (rest := []) E h (c_X2_isAlive l D cI cZ z ad σ τ a1) mw_438 cbX2_isAlive 26 rfl rfl ⟨by decide, by decide⟩ rfl rfl hl.1 (Nat.le_of_ble_eq_true rfl) ⟨Nat.zero_le _, Nat.zero_le _⟩ dX8_caravan_89 (fun H locs h => ?_)
              refine lv_if_eq (tgt := 99) hx hb dX8_caravan_92 (by decide) (fun c7 => ?_) (fun c7 => ?_)
              · have ic7 : (F_X2_isAlive σ a1).toInt = 0 := i_eq c7
                have hF := (if_pos c7).symm.trans hF
                refine lv_iconst (v := 0) hx hb dX8_caravan_99 (by decide) ?_
                exact g_iret E hr hlk h hQ hF rfl dX8_caravan_100
              · have ic7 : (F_X2_isAlive σ a1).toInt ≠ 0 := i_ne c7
                have hF := (if_neg c7).symm.trans hF
                refine lv_iconst (v := 1) hx hb dX8_caravan_95 (by decide) ?_
                refine lv_goto (tgt := 100) hx hb dX8_caravan_96 (by decide) ?_
                exact g_iret E hr hlk h hQ hF rfl dX8_caravan_100
            · have it6 : a2.toInt ≠ 4 := i_ne t6
              have hF := (if_neg t6).symm.trans hF
              by_cases t8 : a2 = 5
              · have it8 : a2.toInt = 5 := i_eq t8
                have hF := (if_pos t8).symm.trans hF
                refine lv_tableIn (off := 79) (tgt := 101) hx hb dX8_caravan_22 (by rw [it8]; decide) (by rw [it8]; decide) (by rw [it8]; rfl) (by decide) ?_
                refine lv_aload_n hx hb dX8_caravan_101 rfl (lv_at hl 0 rfl) ?_
                refine lv_iload_n hx hb dX8_caravan_102 rfl (lv_at hl 2 rfl) ?_
                refine g_callVh (F_X2_knotsOfCaravan σ a1) (rest := []) E h (c_X2_knotsOfCaravan l D cI cZ z ad σ τ a1) mw_445 cbX2_knotsOfCaravan 26 rfl rfl ⟨by decide, by decide⟩ rfl rfl hl.1 (Nat.le_of_ble_eq_true rfl) ⟨Nat.zero_le _, Nat.zero_le _⟩ dX8_caravan_103 (fun v9 huv9 H locs h => ?_)
                have hF : F_X8_caravan_k103_10 σ a1 a2 v9 = (F_X8_caravan σ a1 a2) := by rw [← huv9]; exact hF
                exact g_iret E hr hlk h hQ hF rfl dX8_caravan_106
              · have it8 : a2.toInt ≠ 5 := i_ne t8
                have hF := (if_neg t8).symm.trans hF
                refine lv_tableOut (tgt := 107) hx hb dX8_caravan_22 (by omega) (by decide) ?_
                refine lv_iconst (v := (-1)) hx hb dX8_caravan_107 (by decide) ?_
                exact g_iret E hr hlk h hQ hF rfl dX8_caravan_108
  · have ic1 : (F_X4_hasCaravan σ a1).toInt = 0 := i_eq c1
    have hF := (if_pos c1).symm.trans hF
    refine lv_iconst (v := (-1)) hx hb dX8_caravan_11 (by decide) ?_
    exact g_iret E hr hlk h hQ hF rfl dX8_caravan_12

def F_X8_well_k71_6 (σ : St) (a1 : Int32) (a2 : Int32) (v5 : Int32) : Int32 := v5
def F_X8_well_k77_9 (σ : St) (a1 : Int32) (a2 : Int32) (v8 : Int32) : Int32 := v8
def F_X8_well_k83_12 (σ : St) (a1 : Int32) (a2 : Int32) (v11 : Int32) : Int32 := v11
def F_X8_well (σ : St) (a1 : Int32) (a2 : Int32) : Int32 := (if (F_X4_hasWell σ a1) = 0 then ((-1000000) : Int32) else (if a2 = 0 then (if (F_X4_refusesNight σ a1) = 0 then (0 : Int32) else (1 : Int32)) else (if a2 = 1 then (F_X8_well_k71_6 σ a1 a2 (F_X2_knotsAtWell σ a1)) else (if a2 = 2 then (F_X8_well_k77_9 σ a1 a2 (F_X2_duesBy σ a1)) else (if a2 = 3 then (F_X8_well_k83_12 σ a1 a2 (F_X2_netOf σ a1)) else ((-1000000) : Int32))))))
set_option maxHeartbeats 4000000 in
set_option maxRecDepth 20000 in
theorem c_X8_well (l : Launch) (D : va_G) (cI cZ : ClassId) (z : Nat) (ad : Nat → Nat) (σ τ : St) (a1 a2 : Int32) : gM l yX8_well cX8_well 4 (some .int) 5 D cI cZ z (gws ad cI cZ σ τ) [.ref (ad 0), .int a1, .int a2] (some (.int (F_X8_well σ a1 a2))) (gws ad cI cZ σ τ) := by
  refine g_met (own := RX8) (by decide) rfl (Nat.le_of_ble_eq_true rfl) (fun p e s m below meth c ls Q E hr hlk h hl hQ => ?_)
  have hx := E.1
  have hb := E.2.1
  have hF : (F_X8_well σ a1 a2) = (F_X8_well σ a1 a2) := rfl
  have hl : lv_has ls 4 [(0, .ref (ad 0)), (1, .int a1), (2, .int a2)] := hl
  refine lv_aload_n hx hb dX8_well_0 rfl (lv_at hl 0 rfl) ?_
  refine g_get (v := .ref (ad 3)) E h 0 rfl rfl layX8 1 (by decide) rfl mw_203 rfl dX8_well_1 ?_
  refine lv_iload_n hx hb dX8_well_4 rfl (lv_at hl 1 rfl) ?_
  refine g_callVi (rest := []) E h (c_X4_hasWell l D cI cZ z ad σ τ a1) mw_457 cbX4_hasWell 3 rfl rfl ⟨by decide, by decide⟩ rfl rfl hl.1 (Nat.le_of_ble_eq_true rfl) ⟨Nat.zero_le _, Nat.zero_le _⟩ dX8_well_5 (fun H locs h => ?_)
  refine lv_if_ne (tgt := 14) hx hb dX8_well_8 (by decide) (fun c1 => ?_) (fun c1 => ?_)
  · have ic1 : (F_X4_hasWell σ a1).toInt ≠ 0 := i_ne c1
    have jc1 := fz_hasWell c1
    have hF := (if_neg c1).symm.trans hF
    refine lv_aload_n hx hb dX8_well_14 rfl (lv_at hl 0 rfl) ?_
    refine g_get (v := .ref (ad 25)) E h 0 rfl rfl layX8 3 (by decide) rfl mw_205 rfl dX8_well_15 ?_
    refine g_getN (v := .ref (ad 26)) E h 25 rfl rfl layX1 0 (by decide) rfl nf_RX8_123 rfl dX8_well_18 ?_
    refine lv_astore_n (lv' := [(3, .ref (ad 26)), (0, .ref (ad 0)), (1, .int a1), (2, .int a2)]) hx hb dX8_well_21 rfl hl (by decide) rfl (fun ls hl => ?_)
    refine lv_iload_n hx hb dX8_well_22 rfl (lv_at hl 3 rfl) ?_
    by_cases t2 : a2 = 0
    · have it2 : a2.toInt = 0 := i_eq t2
      have hF := (if_pos t2).symm.trans hF
      refine lv_tableIn (off := 29) (tgt := 52) hx hb dX8_well_23 (by rw [it2]; decide) (by rw [it2]; decide) (by rw [it2]; rfl) (by decide) ?_
      refine lv_aload_n hx hb dX8_well_52 rfl (lv_at hl 1 rfl) ?_
      refine g_get (v := .ref (ad 3)) E h 0 rfl rfl layX8 1 (by decide) rfl mw_203 rfl dX8_well_53 ?_
      refine lv_iload_n hx hb dX8_well_56 rfl (lv_at hl 2 rfl) ?_
      refine g_callVi (rest := []) E h (c_X4_refusesNight l D cI cZ z ad σ τ a1) mw_462 cbX4_refusesNight 3 rfl rfl ⟨by decide, by decide⟩ rfl rfl hl.1 (Nat.le_of_ble_eq_true rfl) ⟨Nat.zero_le _, Nat.zero_le _⟩ dX8_well_57 (fun H locs h => ?_)
      refine lv_if_eq (tgt := 67) hx hb dX8_well_60 (by decide) (fun c3 => ?_) (fun c3 => ?_)
      · have ic3 : (F_X4_refusesNight σ a1).toInt = 0 := i_eq c3
        have hF := (if_pos c3).symm.trans hF
        refine lv_iconst (v := 0) hx hb dX8_well_67 (by decide) ?_
        exact g_iret E hr hlk h hQ hF rfl dX8_well_68
      · have ic3 : (F_X4_refusesNight σ a1).toInt ≠ 0 := i_ne c3
        have hF := (if_neg c3).symm.trans hF
        refine lv_iconst (v := 1) hx hb dX8_well_63 (by decide) ?_
        refine lv_goto (tgt := 68) hx hb dX8_well_64 (by decide) ?_
        exact g_iret E hr hlk h hQ hF rfl dX8_well_68
    · have it2 : a2.toInt ≠ 0 := i_ne t2
      have hF := (if_neg t2).symm.trans hF
      by_cases t4 : a2 = 1
      · have it4 : a2.toInt = 1 := i_eq t4
        have hF := (if_pos t4).symm.trans hF
        refine lv_tableIn (off := 46) (tgt := 69) hx hb dX8_well_23 (by rw [it4]; decide) (by rw [it4]; decide) (by rw [it4]; rfl) (by decide) ?_
        refine lv_aload_n hx hb dX8_well_69 rfl (lv_at hl 0 rfl) ?_
        refine lv_iload_n hx hb dX8_well_70 rfl (lv_at hl 2 rfl) ?_
        refine g_callVh (F_X2_knotsAtWell σ a1) (rest := []) E h (c_X2_knotsAtWell l D cI cZ z ad σ τ a1) mw_467 cbX2_knotsAtWell 26 rfl rfl ⟨by decide, by decide⟩ rfl rfl hl.1 (Nat.le_of_ble_eq_true rfl) ⟨Nat.zero_le _, Nat.zero_le _⟩ dX8_well_71 (fun v5 huv5 H locs h => ?_)
        have hF : F_X8_well_k71_6 σ a1 a2 v5 = (F_X8_well σ a1 a2) := by rw [← huv5]; exact hF
        exact g_iret E hr hlk h hQ hF rfl dX8_well_74
      · have it4 : a2.toInt ≠ 1 := i_ne t4
        have hF := (if_neg t4).symm.trans hF
        by_cases t7 : a2 = 2
        · have it7 : a2.toInt = 2 := i_eq t7
          have hF := (if_pos t7).symm.trans hF
          refine lv_tableIn (off := 52) (tgt := 75) hx hb dX8_well_23 (by rw [it7]; decide) (by rw [it7]; decide) (by rw [it7]; rfl) (by decide) ?_
          refine lv_aload_n hx hb dX8_well_75 rfl (lv_at hl 0 rfl) ?_
          refine lv_iload_n hx hb dX8_well_76 rfl (lv_at hl 2 rfl) ?_
          refine g_callVh (F_X2_duesBy σ a1) (rest := []) E h (c_X2_duesBy l D cI cZ z ad σ τ a1) mw_471 cbX2_duesBy 26 rfl rfl ⟨by decide, by decide⟩ rfl rfl hl.1 (Nat.le_of_ble_eq_true rfl) ⟨Nat.zero_le _, Nat.zero_le _⟩ dX8_well_77 (fun v8 huv8 H locs h => ?_)
          have hF : F_X8_well_k77_9 σ a1 a2 v8 = (F_X8_well σ a1 a2) := by rw [← huv8]; exact hF
          exact g_iret E hr hlk h hQ hF rfl dX8_well_80
        · have it7 : a2.toInt ≠ 2 := i_ne t7
          have hF := (if_neg t7).symm.trans hF
          by_cases t10 : a2 = 3
          · have it10 : a2.toInt = 3 := i_eq t10
            have hF := (if_pos t10).symm.trans hF
            refine lv_tableIn (off := 58) (tgt := 81) hx hb dX8_well_23 (by rw [it10]; decide) (by rw [it10]; decide) (by rw [it10]; rfl) (by decide) ?_
            refine lv_aload_n hx hb dX8_well_81 rfl (lv_at hl 0 rfl) ?_
            refine lv_iload_n hx hb dX8_well_82 rfl (lv_at hl 2 rfl) ?_
            refine g_callVh (F_X2_netOf σ a1) (rest := []) E h (c_X2_netOf l D cI cZ z ad σ τ a1) mw_479 cbX2_netOf 26 rfl rfl ⟨by decide, by decide⟩ rfl rfl hl.1 (Nat.le_of_ble_eq_true rfl) ⟨Nat.zero_le _, Nat.zero_le _⟩ dX8_well_83 (fun v11 huv11 H locs h => ?_)
            have hF : F_X8_well_k83_12 σ a1 a2 v11 = (F_X8_well σ a1 a2) := by rw [← huv11]; exact hF
            exact g_iret E hr hlk h hQ hF rfl dX8_well_86
          · have it10 : a2.toInt ≠ 3 := i_ne t10
            have hF := (if_neg t10).symm.trans hF
            refine lv_tableOut (tgt := 87) hx hb dX8_well_23 (by omega) (by decide) ?_
            refine g_ldc (v := (-1000000)) E mw_461 dX8_well_87 ?_
            exact g_iret E hr hlk h hQ hF rfl dX8_well_89
  · have ic1 : (F_X4_hasWell σ a1).toInt = 0 := i_eq c1
    have hF := (if_pos c1).symm.trans hF
    refine g_ldc (v := (-1000000)) E mw_461 dX8_well_11 ?_
    exact g_iret E hr hlk h hQ hF rfl dX8_well_13

def F_X8_knots (σ : St) (a1 : Int32) (a2 : Int32) : Int32 := (if (F_X4_hasCaravan σ a1) = 0 then ((-1) : Int32) else (if (F_X4_hasWell σ a2) = 0 then ((-1) : Int32) else (F_X2_knotsOf σ a1 a2)))
set_option maxHeartbeats 4000000 in
set_option maxRecDepth 20000 in
theorem c_X8_knots (l : Launch) (D : va_G) (cI cZ : ClassId) (z : Nat) (ad : Nat → Nat) (σ τ : St) (a1 a2 : Int32) : gM l yX8_knots cX8_knots 3 (some .int) 3 D cI cZ z (gws ad cI cZ σ τ) [.ref (ad 0), .int a1, .int a2] (some (.int (F_X8_knots σ a1 a2))) (gws ad cI cZ σ τ) := by
  refine g_met (own := RX8) (by decide) rfl (Nat.le_of_ble_eq_true rfl) (fun p e s m below meth c ls Q E hr hlk h hl hQ => ?_)
  have hx := E.1
  have hb := E.2.1
  have hF : (F_X8_knots σ a1 a2) = (F_X8_knots σ a1 a2) := rfl
  have hl : lv_has ls 3 [(0, .ref (ad 0)), (1, .int a1), (2, .int a2)] := hl
  refine lv_aload_n hx hb dX8_knots_0 rfl (lv_at hl 0 rfl) ?_
  refine g_get (v := .ref (ad 3)) E h 0 rfl rfl layX8 1 (by decide) rfl mw_203 rfl dX8_knots_1 ?_
  refine lv_iload_n hx hb dX8_knots_4 rfl (lv_at hl 1 rfl) ?_
  refine g_callVi (rest := []) E h (c_X4_hasCaravan l D cI cZ z ad σ τ a1) mw_417 cbX4_hasCaravan 3 rfl rfl ⟨by decide, by decide⟩ rfl rfl hl.1 (Nat.le_of_ble_eq_true rfl) ⟨Nat.zero_le _, Nat.zero_le _⟩ dX8_knots_5 (fun H locs h => ?_)
  refine lv_if_eq (tgt := 37) hx hb dX8_knots_8 (by decide) (fun c1 => ?_) (fun c1 => ?_)
  · have ic1 : (F_X4_hasCaravan σ a1).toInt = 0 := i_eq c1
    have hF := (if_pos c1).symm.trans hF
    refine lv_iconst (v := (-1)) hx hb dX8_knots_37 (by decide) ?_
    exact g_iret E hr hlk h hQ hF rfl dX8_knots_38
  · have ic1 : (F_X4_hasCaravan σ a1).toInt ≠ 0 := i_ne c1
    have jc1 := fz_hasCaravan c1
    have hF := (if_neg c1).symm.trans hF
    refine lv_aload_n hx hb dX8_knots_11 rfl (lv_at hl 0 rfl) ?_
    refine g_get (v := .ref (ad 3)) E h 0 rfl rfl layX8 1 (by decide) rfl mw_203 rfl dX8_knots_12 ?_
    refine lv_iload_n hx hb dX8_knots_15 rfl (lv_at hl 2 rfl) ?_
    refine g_callVi (rest := []) E h (c_X4_hasWell l D cI cZ z ad σ τ a2) mw_457 cbX4_hasWell 3 rfl rfl ⟨by decide, by decide⟩ rfl rfl hl.1 (Nat.le_of_ble_eq_true rfl) ⟨Nat.zero_le _, Nat.zero_le _⟩ dX8_knots_16 (fun H locs h => ?_)
    refine lv_if_eq (tgt := 37) hx hb dX8_knots_19 (by decide) (fun c2 => ?_) (fun c2 => ?_)
    · have ic2 : (F_X4_hasWell σ a2).toInt = 0 := i_eq c2
      have hF := (if_pos c2).symm.trans hF
      refine lv_iconst (v := (-1)) hx hb dX8_knots_37 (by decide) ?_
      exact g_iret E hr hlk h hQ hF rfl dX8_knots_38
    · have ic2 : (F_X4_hasWell σ a2).toInt ≠ 0 := i_ne c2
      have jc2 := fz_hasWell c2
      have hF := (if_neg c2).symm.trans hF
      refine lv_aload_n hx hb dX8_knots_22 rfl (lv_at hl 0 rfl) ?_
      refine g_get (v := .ref (ad 25)) E h 0 rfl rfl layX8 3 (by decide) rfl mw_205 rfl dX8_knots_23 ?_
      refine g_getN (v := .ref (ad 26)) E h 25 rfl rfl layX1 0 (by decide) rfl nf_RX8_123 rfl dX8_knots_26 ?_
      refine lv_iload_n hx hb dX8_knots_29 rfl (lv_at hl 1 rfl) ?_
      refine lv_iload_n hx hb dX8_knots_30 rfl (lv_at hl 2 rfl) ?_
      refine g_callVi (rest := []) E h (c_X2_knotsOf l D cI cZ z ad σ τ a1 a2) mw_492 cbX2_knotsOf 26 rfl rfl ⟨by decide, by decide⟩ rfl rfl hl.1 (Nat.le_of_ble_eq_true rfl) ⟨Nat.zero_le _, Nat.zero_le _⟩ dX8_knots_31 (fun H locs h => ?_)
      refine lv_goto (tgt := 38) hx hb dX8_knots_34 (by decide) ?_
      exact g_iret E hr hlk h hQ hF rfl dX8_knots_38

def F_X8_dues (σ : St) (a1 : Int32) (a2 : Int32) : Int32 := (if (F_X4_hasWell σ a1) = 0 then ((-1) : Int32) else (if (F_X4_hasWell σ a2) = 0 then ((-1) : Int32) else (if a1 = a2 then ((-1) : Int32) else (F_X2_duesOf σ a1 a2))))
set_option maxHeartbeats 4000000 in
set_option maxRecDepth 20000 in
theorem c_X8_dues (l : Launch) (D : va_G) (cI cZ : ClassId) (z : Nat) (ad : Nat → Nat) (σ τ : St) (a1 a2 : Int32) : gM l yX8_dues cX8_dues 3 (some .int) 3 D cI cZ z (gws ad cI cZ σ τ) [.ref (ad 0), .int a1, .int a2] (some (.int (F_X8_dues σ a1 a2))) (gws ad cI cZ σ τ) := by
  refine g_met (own := RX8) (by decide) rfl (Nat.le_of_ble_eq_true rfl) (fun p e s m below meth c ls Q E hr hlk h hl hQ => ?_)
  have hx := E.1
  have hb := E.2.1
  have hF : (F_X8_dues σ a1 a2) = (F_X8_dues σ a1 a2) := rfl
  have hl : lv_has ls 3 [(0, .ref (ad 0)), (1, .int a1), (2, .int a2)] := hl
  refine lv_aload_n hx hb dX8_dues_0 rfl (lv_at hl 0 rfl) ?_
  refine g_get (v := .ref (ad 3)) E h 0 rfl rfl layX8 1 (by decide) rfl mw_203 rfl dX8_dues_1 ?_
  refine lv_iload_n hx hb dX8_dues_4 rfl (lv_at hl 1 rfl) ?_
  refine g_callVi (rest := []) E h (c_X4_hasWell l D cI cZ z ad σ τ a1) mw_457 cbX4_hasWell 3 rfl rfl ⟨by decide, by decide⟩ rfl rfl hl.1 (Nat.le_of_ble_eq_true rfl) ⟨Nat.zero_le _, Nat.zero_le _⟩ dX8_dues_5 (fun H locs h => ?_)
  refine lv_if_eq (tgt := 42) hx hb dX8_dues_8 (by decide) (fun c1 => ?_) (fun c1 => ?_)
  · have ic1 : (F_X4_hasWell σ a1).toInt = 0 := i_eq c1
    have hF := (if_pos c1).symm.trans hF
    refine lv_iconst (v := (-1)) hx hb dX8_dues_42 (by decide) ?_
    exact g_iret E hr hlk h hQ hF rfl dX8_dues_43
  · have ic1 : (F_X4_hasWell σ a1).toInt ≠ 0 := i_ne c1
    have jc1 := fz_hasWell c1
    have hF := (if_neg c1).symm.trans hF
    refine lv_aload_n hx hb dX8_dues_11 rfl (lv_at hl 0 rfl) ?_
    refine g_get (v := .ref (ad 3)) E h 0 rfl rfl layX8 1 (by decide) rfl mw_203 rfl dX8_dues_12 ?_
    refine lv_iload_n hx hb dX8_dues_15 rfl (lv_at hl 2 rfl) ?_
    refine g_callVi (rest := []) E h (c_X4_hasWell l D cI cZ z ad σ τ a2) mw_457 cbX4_hasWell 3 rfl rfl ⟨by decide, by decide⟩ rfl rfl hl.1 (Nat.le_of_ble_eq_true rfl) ⟨Nat.zero_le _, Nat.zero_le _⟩ dX8_dues_16 (fun H locs h => ?_)
    refine lv_if_eq (tgt := 42) hx hb dX8_dues_19 (by decide) (fun c2 => ?_) (fun c2 => ?_)
    · have ic2 : (F_X4_hasWell σ a2).toInt = 0 := i_eq c2
      have hF := (if_pos c2).symm.trans hF
      refine lv_iconst (v := (-1)) hx hb dX8_dues_42 (by decide) ?_
      exact g_iret E hr hlk h hQ hF rfl dX8_dues_43
    · have ic2 : (F_X4_hasWell σ a2).toInt ≠ 0 := i_ne c2
      have jc2 := fz_hasWell c2
      have hF := (if_neg c2).symm.trans hF
      refine lv_iload_n hx hb dX8_dues_22 rfl (lv_at hl 1 rfl) ?_
      refine lv_iload_n hx hb dX8_dues_23 rfl (lv_at hl 2 rfl) ?_
      refine lv_icmp_eq (tgt := 42) hx hb dX8_dues_24 (by decide) (fun c3 => ?_) (fun c3 => ?_)
      · have ic3 : a1.toInt = a2.toInt := i_eq c3
        have hF := (if_pos c3).symm.trans hF
        refine lv_iconst (v := (-1)) hx hb dX8_dues_42 (by decide) ?_
        exact g_iret E hr hlk h hQ hF rfl dX8_dues_43
      · have ic3 : a1.toInt ≠ a2.toInt := i_ne c3
        have hF := (if_neg c3).symm.trans hF
        refine lv_aload_n hx hb dX8_dues_27 rfl (lv_at hl 0 rfl) ?_
        refine g_get (v := .ref (ad 25)) E h 0 rfl rfl layX8 3 (by decide) rfl mw_205 rfl dX8_dues_28 ?_
        refine g_getN (v := .ref (ad 26)) E h 25 rfl rfl layX1 0 (by decide) rfl nf_RX8_123 rfl dX8_dues_31 ?_
        refine lv_iload_n hx hb dX8_dues_34 rfl (lv_at hl 1 rfl) ?_
        refine lv_iload_n hx hb dX8_dues_35 rfl (lv_at hl 2 rfl) ?_
        refine g_callVi (rest := []) E h (c_X2_duesOf l D cI cZ z ad σ τ a1 a2) mw_497 cbX2_duesOf 26 rfl rfl ⟨by decide, by decide⟩ rfl rfl hl.1 (Nat.le_of_ble_eq_true rfl) ⟨Nat.zero_le _, Nat.zero_le _⟩ dX8_dues_36 (fun H locs h => ?_)
        refine lv_goto (tgt := 43) hx hb dX8_dues_39 (by decide) ?_
        exact g_iret E hr hlk h hQ hF rfl dX8_dues_43

def F_X8_goes_k219_18 (σ : St) (a1 : Int32) (a2 : Int32) (a3 : Int32) (u8 : St) (u10 : St) (u12 : St) (u14 : St) (u17 : St) : Int32 × St := ((1 : Int32), u17)
def F_X8_goes_k176_20 (σ : St) (a1 : Int32) (a2 : Int32) (a3 : Int32) (u8 : St) (u10 : St) (u12 : St) (u14 : St) (u19 : St) : Int32 × St := ((0 : Int32), u19)
def F_X8_goes_k153_15 (σ : St) (a1 : Int32) (a2 : Int32) (a3 : Int32) (u8 : St) (u10 : St) (u12 : St) (u14 : St) : Int32 × St := (if (F_X2_dryOf u14 a1) ≤ (F_X4_bearsOf u14 a1) then (F_X8_goes_k219_18 σ a1 a2 a3 u8 u10 u12 u14 (F_X2_setKnots u14 a1 (F_X4_lenderOf u14 a2) (if (0 : Int32) < ((F_X2_knotsOf u14 a1 (F_X4_lenderOf u14 a2)) - (F_X4_paidBy u14 a2 ((F_X4_heatOf u8 a2) - a3))) then ((F_X2_knotsOf u14 a1 (F_X4_lenderOf u14 a2)) - (F_X4_paidBy u14 a2 ((F_X4_heatOf u8 a2) - a3))) else (0 : Int32)))) else (F_X8_goes_k176_20 σ a1 a2 a3 u8 u10 u12 u14 (F_X2_die u14 a1)))
def F_X8_goes_k138_13 (σ : St) (a1 : Int32) (a2 : Int32) (a3 : Int32) (u8 : St) (u10 : St) (u12 : St) : Int32 × St := (F_X8_goes_k153_15 σ a1 a2 a3 u8 u10 u12 (F_X2_setDry u12 a1 ((F_X2_dryOf u12 a1) + ((F_X4_heatOf u8 a2) - a3))))
def F_X8_goes_k130_11 (σ : St) (a1 : Int32) (a2 : Int32) (a3 : Int32) (u8 : St) (u10 : St) : Int32 × St := (F_X8_goes_k138_13 σ a1 a2 a3 u8 u10 (F_X2_setPlace u10 a1 (F_X4_otherEnd σ a2 (F_X2_placeOf σ a1))))
def F_X8_goes_k104_9 (σ : St) (a1 : Int32) (a2 : Int32) (a3 : Int32) (u8 : St) : Int32 × St := (F_X8_goes_k130_11 σ a1 a2 a3 u8 (F_X2_setCups u8 a1 ((F_X2_cupsOf u8 a1) - a3)))
def F_X8_goes (σ : St) (a1 : Int32) (a2 : Int32) (a3 : Int32) : Int32 × St := (if (F_X4_hasCaravan σ a1) = 0 then (((-1) : Int32), σ) else (if (F_X4_hasStage σ a2) = 0 then (((-1) : Int32), σ) else (if (F_X8_within a3 (0 : Int32) (9 : Int32)) = 0 then (((-1) : Int32), σ) else (if (F_X2_isAlive σ a1) = 0 then (((-2) : Int32), σ) else (if (F_X4_otherEnd σ a2 (F_X2_placeOf σ a1)) = ((-9) : Int32) then (((-2) : Int32), σ) else (if (F_X2_cupsOf σ a1) < a3 then (((-2) : Int32), σ) else (if a3 ≤ (F_X4_heatOf σ a2) then (F_X8_goes_k104_9 σ a1 a2 a3 (F_X1_remember σ)) else (((-2) : Int32), σ))))))))
abbrev I_X8_goes : List Nat := [802]
abbrev A_X8_goes : List Nat := [27, 28]
theorem fr_F_X8_goes_k219_18 (σ : St) (a1 : Int32) (a2 : Int32) (a3 : Int32) (u8 : St) (u10 : St) (u12 : St) (u14 : St) (u17 : St) (hfr : Fr I_X8_goes A_X8_goes false σ (u17)) : Fr I_X8_goes A_X8_goes false σ (F_X8_goes_k219_18  σ a1 a2 a3 u8 u10 u12 u14 u17).2 := hfr
theorem fr_F_X8_goes_k176_20 (σ : St) (a1 : Int32) (a2 : Int32) (a3 : Int32) (u8 : St) (u10 : St) (u12 : St) (u14 : St) (u19 : St) (hfr : Fr I_X8_goes A_X8_goes false σ (u19)) : Fr I_X8_goes A_X8_goes false σ (F_X8_goes_k176_20  σ a1 a2 a3 u8 u10 u12 u14 u19).2 := hfr
theorem fr_F_X8_goes_k153_15 (σ : St) (a1 : Int32) (a2 : Int32) (a3 : Int32) (u8 : St) (u10 : St) (u12 : St) (u14 : St) (hfr : Fr I_X8_goes A_X8_goes false σ (u14)) : Fr I_X8_goes A_X8_goes false σ (F_X8_goes_k153_15  σ a1 a2 a3 u8 u10 u12 u14).2 := (fr_ite2 (fr_F_X8_goes_k219_18 σ a1 a2 a3 u8 u10 u12 u14 (F_X2_setKnots u14 a1 (F_X4_lenderOf u14 a2) (if (0 : Int32) < ((F_X2_knotsOf u14 a1 (F_X4_lenderOf u14 a2)) - (F_X4_paidBy u14 a2 ((F_X4_heatOf u8 a2) - a3))) then ((F_X2_knotsOf u14 a1 (F_X4_lenderOf u14 a2)) - (F_X4_paidBy u14 a2 ((F_X4_heatOf u8 a2) - a3))) else (0 : Int32))) (Fr.tr hfr (Fr.mono (by decide) (by decide) (by decide) (fr_F_X2_setKnots u14 a1 (F_X4_lenderOf u14 a2) (if (0 : Int32) < ((F_X2_knotsOf u14 a1 (F_X4_lenderOf u14 a2)) - (F_X4_paidBy u14 a2 ((F_X4_heatOf u8 a2) - a3))) then ((F_X2_knotsOf u14 a1 (F_X4_lenderOf u14 a2)) - (F_X4_paidBy u14 a2 ((F_X4_heatOf u8 a2) - a3))) else (0 : Int32)))))) (fr_F_X8_goes_k176_20 σ a1 a2 a3 u8 u10 u12 u14 (F_X2_die u14 a1) (Fr.tr hfr (Fr.mono (by decide) (by decide) (by decide) (fr_F_X2_die u14 a1)))))
theorem fr_F_X8_goes_k138_13 (σ : St) (a1 : Int32) (a2 : Int32) (a3 : Int32) (u8 : St) (u10 : St) (u12 : St) (hfr : Fr I_X8_goes A_X8_goes false σ (u12)) : Fr I_X8_goes A_X8_goes false σ (F_X8_goes_k138_13  σ a1 a2 a3 u8 u10 u12).2 := (fr_F_X8_goes_k153_15 σ a1 a2 a3 u8 u10 u12 (F_X2_setDry u12 a1 ((F_X2_dryOf u12 a1) + ((F_X4_heatOf u8 a2) - a3))) (Fr.tr hfr (Fr.mono (by decide) (by decide) (by decide) (fr_F_X2_setDry u12 a1 ((F_X2_dryOf u12 a1) + ((F_X4_heatOf u8 a2) - a3))))))
theorem fr_F_X8_goes_k130_11 (σ : St) (a1 : Int32) (a2 : Int32) (a3 : Int32) (u8 : St) (u10 : St) (hfr : Fr I_X8_goes A_X8_goes false σ (u10)) : Fr I_X8_goes A_X8_goes false σ (F_X8_goes_k130_11  σ a1 a2 a3 u8 u10).2 := (fr_F_X8_goes_k138_13 σ a1 a2 a3 u8 u10 (F_X2_setPlace u10 a1 (F_X4_otherEnd σ a2 (F_X2_placeOf σ a1))) (Fr.tr hfr (Fr.mono (by decide) (by decide) (by decide) (fr_F_X2_setPlace u10 a1 (F_X4_otherEnd σ a2 (F_X2_placeOf σ a1))))))
theorem fr_F_X8_goes_k104_9 (σ : St) (a1 : Int32) (a2 : Int32) (a3 : Int32) (u8 : St) (hfr : Fr I_X8_goes A_X8_goes false σ (u8)) : Fr I_X8_goes A_X8_goes false σ (F_X8_goes_k104_9  σ a1 a2 a3 u8).2 := (fr_F_X8_goes_k130_11 σ a1 a2 a3 u8 (F_X2_setCups u8 a1 ((F_X2_cupsOf u8 a1) - a3)) (Fr.tr hfr (Fr.mono (by decide) (by decide) (by decide) (fr_F_X2_setCups u8 a1 ((F_X2_cupsOf u8 a1) - a3)))))
theorem fr_F_X8_goes (σ : St) (a1 : Int32) (a2 : Int32) (a3 : Int32) : Fr I_X8_goes A_X8_goes false σ (F_X8_goes σ a1 a2 a3).2 := (fr_ite2 Fr.rf (fr_ite2 Fr.rf (fr_ite2 Fr.rf (fr_ite2 Fr.rf (fr_ite2 Fr.rf (fr_ite2 Fr.rf (fr_ite2 (fr_F_X8_goes_k104_9 σ a1 a2 a3 (F_X1_remember σ) (Fr.tr Fr.rf (Fr.mono (by decide) (by decide) (by decide) (fr_F_X1_remember σ)))) Fr.rf)))))))
set_option maxHeartbeats 4000000 in
set_option maxRecDepth 20000 in
theorem c_X8_goes (l : Launch) (D : va_G) (cI cZ : ClassId) (z : Nat) (ad : Nat → Nat) (σ τ : St) (a1 a2 a3 : Int32) (hu_ : 0 ≤ (σ.1 802).toInt ∧ (σ.1 802).toInt ≤ 10) : gM l yX8_goes cX8_goes 8 (some .int) 5 D cI cZ z (gws ad cI cZ σ τ) [.ref (ad 0), .int a1, .int a2, .int a3] (some (.int (F_X8_goes σ a1 a2 a3).1)) (gws ad cI cZ (F_X8_goes σ a1 a2 a3).2 τ) := by
  refine g_met (own := RX8) (by decide) rfl (Nat.le_of_ble_eq_true rfl) (fun p e s m below meth c ls Q E hr hlk h hl hQ => ?_)
  have hx := E.1
  have hb := E.2.1
  have hF : (F_X8_goes σ a1 a2 a3) = (F_X8_goes σ a1 a2 a3) := rfl
  have hl : lv_has ls 8 [(0, .ref (ad 0)), (1, .int a1), (2, .int a2), (3, .int a3)] := hl
  refine lv_aload_n hx hb dX8_goes_0 rfl (lv_at hl 0 rfl) ?_
  refine g_get (v := .ref (ad 3)) E h 0 rfl rfl layX8 1 (by decide) rfl mw_203 rfl dX8_goes_1 ?_
  refine lv_iload_n hx hb dX8_goes_4 rfl (lv_at hl 1 rfl) ?_
  refine g_callVi (rest := []) E h (c_X4_hasCaravan l D cI cZ z ad σ τ a1) mw_417 cbX4_hasCaravan 3 rfl rfl ⟨by decide, by decide⟩ rfl rfl hl.1 (Nat.le_of_ble_eq_true rfl) ⟨Nat.zero_le _, Nat.zero_le _⟩ dX8_goes_5 (fun H locs h => ?_)
  refine lv_if_eq (tgt := 32) hx hb dX8_goes_8 (by decide) (fun c1 => ?_) (fun c1 => ?_)
  · have ic1 : (F_X4_hasCaravan σ a1).toInt = 0 := i_eq c1
    have hF := (if_pos c1).symm.trans hF
    refine lv_iconst (v := (-1)) hx hb dX8_goes_32 (by decide) ?_
    exact g_iret E hr hlk h hQ (fst_of hF) (snd_of hF (fun u => gws ad cI cZ u τ)) dX8_goes_33
  · have ic1 : (F_X4_hasCaravan σ a1).toInt ≠ 0 := i_ne c1
    have jc1 := fz_hasCaravan c1
    have hF := (if_neg c1).symm.trans hF
    refine lv_aload_n hx hb dX8_goes_11 rfl (lv_at hl 0 rfl) ?_
    refine g_get (v := .ref (ad 3)) E h 0 rfl rfl layX8 1 (by decide) rfl mw_203 rfl dX8_goes_12 ?_
    refine lv_iload_n hx hb dX8_goes_15 rfl (lv_at hl 2 rfl) ?_
    refine g_callVi (rest := []) E h (c_X4_hasStage l D cI cZ z ad σ τ a2) mw_388 cbX4_hasStage 3 rfl rfl ⟨by decide, by decide⟩ rfl rfl hl.1 (Nat.le_of_ble_eq_true rfl) ⟨Nat.zero_le _, Nat.zero_le _⟩ dX8_goes_16 (fun H locs h => ?_)
    refine lv_if_eq (tgt := 32) hx hb dX8_goes_19 (by decide) (fun c2 => ?_) (fun c2 => ?_)
    · have ic2 : (F_X4_hasStage σ a2).toInt = 0 := i_eq c2
      have hF := (if_pos c2).symm.trans hF
      refine lv_iconst (v := (-1)) hx hb dX8_goes_32 (by decide) ?_
      exact g_iret E hr hlk h hQ (fst_of hF) (snd_of hF (fun u => gws ad cI cZ u τ)) dX8_goes_33
    · have ic2 : (F_X4_hasStage σ a2).toInt ≠ 0 := i_ne c2
      have jc2 := fz_hasStage c2
      have hF := (if_neg c2).symm.trans hF
      refine lv_iload_n hx hb dX8_goes_22 rfl (lv_at hl 3 rfl) ?_
      refine lv_iconst (v := 0) hx hb dX8_goes_23 (by decide) ?_
      refine lv_bipush (v := 9) hx hb dX8_goes_24 (by decide) ?_
      refine g_callSi (rest := []) E h (c_X8_within l D cI cZ z (gws ad cI cZ σ τ) a3 (0 : Int32) (9 : Int32)) mw_243 cbX8_within ⟨by decide, by decide⟩ rfl rfl hl.1 (Nat.le_of_ble_eq_true rfl) ⟨Nat.zero_le _, Nat.zero_le _⟩ dX8_goes_26 (fun H locs h => ?_)
      refine lv_if_ne (tgt := 34) hx hb dX8_goes_29 (by decide) (fun c3 => ?_) (fun c3 => ?_)
      · have ic3 : (F_X8_within a3 (0 : Int32) (9 : Int32)).toInt ≠ 0 := i_ne c3
        have jc3 : 0 ≤ a3.toInt ∧ a3.toInt ≤ 9 := fz_within c3
        have hF := (if_neg c3).symm.trans hF
        refine lv_aload_n hx hb dX8_goes_34 rfl (lv_at hl 0 rfl) ?_
        refine g_get (v := .ref (ad 25)) E h 0 rfl rfl layX8 3 (by decide) rfl mw_205 rfl dX8_goes_35 ?_
        refine g_getN (v := .ref (ad 26)) E h 25 rfl rfl layX1 0 (by decide) rfl nf_RX8_123 rfl dX8_goes_38 ?_
        refine lv_astore (lv' := [(4, .ref (ad 26)), (0, .ref (ad 0)), (1, .int a1), (2, .int a2), (3, .int a3)]) hx hb dX8_goes_41 hl (by decide) rfl (fun ls hl => ?_)
        refine lv_aload_n hx hb dX8_goes_43 rfl (lv_at hl 1 rfl) ?_
        refine g_get (v := .ref (ad 3)) E h 0 rfl rfl layX8 1 (by decide) rfl mw_203 rfl dX8_goes_44 ?_
        refine lv_iload_n hx hb dX8_goes_47 rfl (lv_at hl 3 rfl) ?_
        refine lv_aload hx hb dX8_goes_48 (lv_at hl 0 rfl) ?_
        refine lv_iload_n hx hb dX8_goes_50 rfl (lv_at hl 2 rfl) ?_
        refine g_callVi (rest := [.int a2, .ref (ad 3)]) E h (c_X2_placeOf l D cI cZ z ad σ τ a1) mw_421 cbX2_placeOf 26 rfl rfl ⟨by decide, by decide⟩ rfl rfl hl.1 (Nat.le_of_ble_eq_true rfl) ⟨Nat.zero_le _, Nat.zero_le _⟩ dX8_goes_51 (fun H locs h => ?_)
        refine g_callVi (rest := []) E h (c_X4_otherEnd l D cI cZ z ad σ τ a2 (F_X2_placeOf σ a1)) mw_502 cbX4_otherEnd 3 rfl rfl ⟨by decide, by decide⟩ rfl rfl hl.1 (Nat.le_of_ble_eq_true rfl) ⟨Nat.zero_le _, Nat.zero_le _⟩ dX8_goes_54 (fun H locs h => ?_)
        refine lv_istore (lv' := [(5, .int (F_X4_otherEnd σ a2 (F_X2_placeOf σ a1))), (4, .ref (ad 26)), (0, .ref (ad 0)), (1, .int a1), (2, .int a2), (3, .int a3)]) hx hb dX8_goes_57 hl (by decide) rfl (fun ls hl => ?_)
        refine lv_aload hx hb dX8_goes_59 (lv_at hl 1 rfl) ?_
        refine lv_iload_n hx hb dX8_goes_61 rfl (lv_at hl 3 rfl) ?_
        refine g_callVi (rest := []) E h (c_X2_isAlive l D cI cZ z ad σ τ a1) mw_438 cbX2_isAlive 26 rfl rfl ⟨by decide, by decide⟩ rfl rfl hl.1 (Nat.le_of_ble_eq_true rfl) ⟨Nat.zero_le _, Nat.zero_le _⟩ dX8_goes_62 (fun H locs h => ?_)
        refine lv_if_eq (tgt := 97) hx hb dX8_goes_65 (by decide) (fun c4 => ?_) (fun c4 => ?_)
        · have ic4 : (F_X2_isAlive σ a1).toInt = 0 := i_eq c4
          have hF := (if_pos c4).symm.trans hF
          refine lv_bipush (v := (-2)) hx hb dX8_goes_97 (by decide) ?_
          exact g_iret E hr hlk h hQ (fst_of hF) (snd_of hF (fun u => gws ad cI cZ u τ)) dX8_goes_99
        · have ic4 : (F_X2_isAlive σ a1).toInt ≠ 0 := i_ne c4
          have hF := (if_neg c4).symm.trans hF
          refine lv_iload hx hb dX8_goes_68 (lv_at hl 0 rfl) ?_
          refine lv_bipush (v := (-9)) hx hb dX8_goes_70 (by decide) ?_
          refine lv_icmp_eq (tgt := 97) hx hb dX8_goes_72 (by decide) (fun c5 => ?_) (fun c5 => ?_)
          · have ic5 : (F_X4_otherEnd σ a2 (F_X2_placeOf σ a1)).toInt = (-9) := i_eq c5
            have hF := (if_pos c5).symm.trans hF
            refine lv_bipush (v := (-2)) hx hb dX8_goes_97 (by decide) ?_
            exact g_iret E hr hlk h hQ (fst_of hF) (snd_of hF (fun u => gws ad cI cZ u τ)) dX8_goes_99
          · have ic5 : (F_X4_otherEnd σ a2 (F_X2_placeOf σ a1)).toInt ≠ (-9) := i_ne c5
            have hF := (if_neg c5).symm.trans hF
            refine lv_iload_n hx hb dX8_goes_75 rfl (lv_at hl 5 rfl) ?_
            refine lv_aload hx hb dX8_goes_76 (lv_at hl 1 rfl) ?_
            refine lv_iload_n hx hb dX8_goes_78 rfl (lv_at hl 3 rfl) ?_
            refine g_callVi (rest := [.int a3]) E h (c_X2_cupsOf l D cI cZ z ad σ τ a1) mw_425 cbX2_cupsOf 26 rfl rfl ⟨by decide, by decide⟩ rfl rfl hl.1 (Nat.le_of_ble_eq_true rfl) ⟨Nat.zero_le _, Nat.zero_le _⟩ dX8_goes_79 (fun H locs h => ?_)
            refine lv_icmp_gt (tgt := 97) hx hb dX8_goes_82 (by decide) (fun c6 => ?_) (fun c6 => ?_)
            · have ic6 : (F_X2_cupsOf σ a1).toInt < a3.toInt := i_lt c6
              have hF := (if_pos c6).symm.trans hF
              refine lv_bipush (v := (-2)) hx hb dX8_goes_97 (by decide) ?_
              exact g_iret E hr hlk h hQ (fst_of hF) (snd_of hF (fun u => gws ad cI cZ u τ)) dX8_goes_99
            · have ic6 : a3.toInt ≤ (F_X2_cupsOf σ a1).toInt := i_nlt c6
              have hF := (if_neg c6).symm.trans hF
              refine lv_iload_n hx hb dX8_goes_85 rfl (lv_at hl 5 rfl) ?_
              refine lv_aload_n hx hb dX8_goes_86 rfl (lv_at hl 2 rfl) ?_
              refine g_get (v := .ref (ad 3)) E h 0 rfl rfl layX8 1 (by decide) rfl mw_203 rfl dX8_goes_87 ?_
              refine lv_iload_n hx hb dX8_goes_90 rfl (lv_at hl 4 rfl) ?_
              refine g_callVi (rest := [.int a3]) E h (c_X4_heatOf l D cI cZ z ad σ τ a2) mw_401 cbX4_heatOf 3 rfl rfl ⟨by decide, by decide⟩ rfl rfl hl.1 (Nat.le_of_ble_eq_true rfl) ⟨Nat.zero_le _, Nat.zero_le _⟩ dX8_goes_91 (fun H locs h => ?_)
              refine lv_icmp_le (tgt := 100) hx hb dX8_goes_94 (by decide) (fun c7 => ?_) (fun c7 => ?_)
              · have ic7 : a3.toInt ≤ (F_X4_heatOf σ a2).toInt := i_le c7
                have hF := (if_pos c7).symm.trans hF
                refine lv_aload_n hx hb dX8_goes_100 rfl (lv_at hl 2 rfl) ?_
                refine g_get (v := .ref (ad 25)) E h 0 rfl rfl layX8 3 (by decide) rfl mw_205 rfl dX8_goes_101 ?_
                refine g_callVUv (F_X1_remember σ) (fun u => gws ad cI cZ u τ) (rest := []) E h (c_X1_remember l D cI cZ z ad σ τ (show 0 ≤ (σ.1 802).toInt ∧ (σ.1 802).toInt ≤ 10 from by omega)) mw_508 cbX1_remember 25 rfl rfl ⟨by decide, by decide⟩ rfl rfl hl.1 (Nat.le_of_ble_eq_true rfl) ⟨Nat.zero_le _, Nat.zero_le _⟩ dX8_goes_104 (fun u8 huu8 H locs h => ?_)
                have hF : F_X8_goes_k104_9 σ a1 a2 a3 u8 = (F_X8_goes σ a1 a2 a3) := by rw [← huu8]; exact hF
                refine lv_aload_n hx hb dX8_goes_107 rfl (lv_at hl 2 rfl) ?_
                refine g_get (v := .ref (ad 3)) E h 0 rfl rfl layX8 1 (by decide) rfl mw_203 rfl dX8_goes_108 ?_
                refine lv_iload_n hx hb dX8_goes_111 rfl (lv_at hl 4 rfl) ?_
                refine g_callVi (rest := []) E h (c_X4_heatOf l D cI cZ z ad u8 τ a2) mw_401 cbX4_heatOf 3 rfl rfl ⟨by decide, by decide⟩ rfl rfl hl.1 (Nat.le_of_ble_eq_true rfl) ⟨Nat.zero_le _, Nat.zero_le _⟩ dX8_goes_112 (fun H locs h => ?_)
                refine lv_iload_n hx hb dX8_goes_115 rfl (lv_at hl 5 rfl) ?_
                refine lv_isub hx hb dX8_goes_116 ?_
                refine lv_istore (lv' := [(6, .int ((F_X4_heatOf u8 a2) - a3)), (5, .int (F_X4_otherEnd σ a2 (F_X2_placeOf σ a1))), (4, .ref (ad 26)), (0, .ref (ad 0)), (1, .int a1), (2, .int a2), (3, .int a3)]) hx hb dX8_goes_117 hl (by decide) rfl (fun ls hl => ?_)
                refine lv_aload hx hb dX8_goes_119 (lv_at hl 2 rfl) ?_
                refine lv_iload_n hx hb dX8_goes_121 rfl (lv_at hl 4 rfl) ?_
                refine lv_aload hx hb dX8_goes_122 (lv_at hl 2 rfl) ?_
                refine lv_iload_n hx hb dX8_goes_124 rfl (lv_at hl 4 rfl) ?_
                refine g_callVi (rest := [.int a1, .ref (ad 26)]) E h (c_X2_cupsOf l D cI cZ z ad u8 τ a1) mw_425 cbX2_cupsOf 26 rfl rfl ⟨by decide, by decide⟩ rfl rfl hl.1 (Nat.le_of_ble_eq_true rfl) ⟨Nat.zero_le _, Nat.zero_le _⟩ dX8_goes_125 (fun H locs h => ?_)
                refine lv_iload_n hx hb dX8_goes_128 rfl (lv_at hl 6 rfl) ?_
                refine lv_isub hx hb dX8_goes_129 ?_
                refine g_callVUv (F_X2_setCups u8 a1 ((F_X2_cupsOf u8 a1) - a3)) (fun u => gws ad cI cZ u τ) (rest := []) E h (c_X2_setCups l D cI cZ z ad u8 τ a1 ((F_X2_cupsOf u8 a1) - a3)) mw_517 cbX2_setCups 26 rfl rfl ⟨by decide, by decide⟩ rfl rfl hl.1 (Nat.le_of_ble_eq_true rfl) ⟨Nat.zero_le _, Nat.zero_le _⟩ dX8_goes_130 (fun u10 huu10 H locs h => ?_)
                have hF : F_X8_goes_k130_11 σ a1 a2 a3 u8 u10 = (F_X8_goes σ a1 a2 a3) := by rw [← huu10]; exact hF
                refine lv_aload hx hb dX8_goes_133 (lv_at hl 2 rfl) ?_
                refine lv_iload_n hx hb dX8_goes_135 rfl (lv_at hl 4 rfl) ?_
                refine lv_iload hx hb dX8_goes_136 (lv_at hl 1 rfl) ?_
                refine g_callVUv (F_X2_setPlace u10 a1 (F_X4_otherEnd σ a2 (F_X2_placeOf σ a1))) (fun u => gws ad cI cZ u τ) (rest := []) E h (c_X2_setPlace l D cI cZ z ad u10 τ a1 (F_X4_otherEnd σ a2 (F_X2_placeOf σ a1))) mw_518 cbX2_setPlace 26 rfl rfl ⟨by decide, by decide⟩ rfl rfl hl.1 (Nat.le_of_ble_eq_true rfl) ⟨Nat.zero_le _, Nat.zero_le _⟩ dX8_goes_138 (fun u12 huu12 H locs h => ?_)
                have hF : F_X8_goes_k138_13 σ a1 a2 a3 u8 u10 u12 = (F_X8_goes σ a1 a2 a3) := by rw [← huu12]; exact hF
                refine lv_aload hx hb dX8_goes_141 (lv_at hl 2 rfl) ?_
                refine lv_iload_n hx hb dX8_goes_143 rfl (lv_at hl 4 rfl) ?_
                refine lv_aload hx hb dX8_goes_144 (lv_at hl 2 rfl) ?_
                refine lv_iload_n hx hb dX8_goes_146 rfl (lv_at hl 4 rfl) ?_
                refine g_callVi (rest := [.int a1, .ref (ad 26)]) E h (c_X2_dryOf l D cI cZ z ad u12 τ a1) mw_434 cbX2_dryOf 26 rfl rfl ⟨by decide, by decide⟩ rfl rfl hl.1 (Nat.le_of_ble_eq_true rfl) ⟨Nat.zero_le _, Nat.zero_le _⟩ dX8_goes_147 (fun H locs h => ?_)
                refine lv_iload hx hb dX8_goes_150 (lv_at hl 0 rfl) ?_
                refine lv_iadd hx hb dX8_goes_152 ?_
                refine g_callVUv (F_X2_setDry u12 a1 ((F_X2_dryOf u12 a1) + ((F_X4_heatOf u8 a2) - a3))) (fun u => gws ad cI cZ u τ) (rest := []) E h (c_X2_setDry l D cI cZ z ad u12 τ a1 ((F_X2_dryOf u12 a1) + ((F_X4_heatOf u8 a2) - a3))) mw_519 cbX2_setDry 26 rfl rfl ⟨by decide, by decide⟩ rfl rfl hl.1 (Nat.le_of_ble_eq_true rfl) ⟨Nat.zero_le _, Nat.zero_le _⟩ dX8_goes_153 (fun u14 huu14 H locs h => ?_)
                have hF : F_X8_goes_k153_15 σ a1 a2 a3 u8 u10 u12 u14 = (F_X8_goes σ a1 a2 a3) := by rw [← huu14]; exact hF
                refine lv_aload hx hb dX8_goes_156 (lv_at hl 2 rfl) ?_
                refine lv_iload_n hx hb dX8_goes_158 rfl (lv_at hl 4 rfl) ?_
                refine g_callVi (rest := []) E h (c_X2_dryOf l D cI cZ z ad u14 τ a1) mw_434 cbX2_dryOf 26 rfl rfl ⟨by decide, by decide⟩ rfl rfl hl.1 (Nat.le_of_ble_eq_true rfl) ⟨Nat.zero_le _, Nat.zero_le _⟩ dX8_goes_159 (fun H locs h => ?_)
                refine lv_aload_n hx hb dX8_goes_162 rfl (lv_at hl 3 rfl) ?_
                refine g_get (v := .ref (ad 3)) E h 0 rfl rfl layX8 1 (by decide) rfl mw_203 rfl dX8_goes_163 ?_
                refine lv_iload_n hx hb dX8_goes_166 rfl (lv_at hl 4 rfl) ?_
                refine g_callVi (rest := [.int (F_X2_dryOf u14 a1)]) E h (c_X4_bearsOf l D cI cZ z ad u14 τ a1) mw_429 cbX4_bearsOf 3 rfl rfl ⟨by decide, by decide⟩ rfl rfl hl.1 (Nat.le_of_ble_eq_true rfl) ⟨Nat.zero_le _, Nat.zero_le _⟩ dX8_goes_167 (fun H locs h => ?_)
                refine lv_icmp_le (tgt := 181) hx hb dX8_goes_170 (by decide) (fun c16 => ?_) (fun c16 => ?_)
                · have ic16 : (F_X2_dryOf u14 a1).toInt ≤ (F_X4_bearsOf u14 a1).toInt := i_le c16
                  have hF := (if_pos c16).symm.trans hF
                  refine lv_aload_n hx hb dX8_goes_181 rfl (lv_at hl 3 rfl) ?_
                  refine g_get (v := .ref (ad 3)) E h 0 rfl rfl layX8 1 (by decide) rfl mw_203 rfl dX8_goes_182 ?_
                  refine lv_iload_n hx hb dX8_goes_185 rfl (lv_at hl 5 rfl) ?_
                  refine g_callVi (rest := []) E h (c_X4_lenderOf l D cI cZ z ad u14 τ a2) mw_409 cbX4_lenderOf 3 rfl rfl ⟨by decide, by decide⟩ rfl rfl hl.1 (Nat.le_of_ble_eq_true rfl) ⟨Nat.zero_le _, Nat.zero_le _⟩ dX8_goes_186 (fun H locs h => ?_)
                  refine lv_istore (lv' := [(7, .int (F_X4_lenderOf u14 a2)), (6, .int ((F_X4_heatOf u8 a2) - a3)), (5, .int (F_X4_otherEnd σ a2 (F_X2_placeOf σ a1))), (4, .ref (ad 26)), (0, .ref (ad 0)), (1, .int a1), (2, .int a2), (3, .int a3)]) hx hb dX8_goes_189 hl (by decide) rfl (fun ls hl => ?_)
                  refine lv_aload hx hb dX8_goes_191 (lv_at hl 3 rfl) ?_
                  refine lv_iload_n hx hb dX8_goes_193 rfl (lv_at hl 5 rfl) ?_
                  refine lv_iload hx hb dX8_goes_194 (lv_at hl 0 rfl) ?_
                  refine lv_iconst (v := 0) hx hb dX8_goes_196 (by decide) ?_
                  refine lv_aload hx hb dX8_goes_197 (lv_at hl 3 rfl) ?_
                  refine lv_iload_n hx hb dX8_goes_199 rfl (lv_at hl 5 rfl) ?_
                  refine lv_iload hx hb dX8_goes_200 (lv_at hl 0 rfl) ?_
                  refine g_callVi (rest := [.int (0 : Int32), .int (F_X4_lenderOf u14 a2), .int a1, .ref (ad 26)]) E h (c_X2_knotsOf l D cI cZ z ad u14 τ a1 (F_X4_lenderOf u14 a2)) mw_492 cbX2_knotsOf 26 rfl rfl ⟨by decide, by decide⟩ rfl rfl hl.1 (Nat.le_of_ble_eq_true rfl) ⟨Nat.zero_le _, Nat.zero_le _⟩ dX8_goes_202 (fun H locs h => ?_)
                  refine lv_aload_n hx hb dX8_goes_205 rfl (lv_at hl 4 rfl) ?_
                  refine g_get (v := .ref (ad 3)) E h 0 rfl rfl layX8 1 (by decide) rfl mw_203 rfl dX8_goes_206 ?_
                  refine lv_iload_n hx hb dX8_goes_209 rfl (lv_at hl 6 rfl) ?_
                  refine lv_iload hx hb dX8_goes_210 (lv_at hl 1 rfl) ?_
                  refine g_callVi (rest := [.int (F_X2_knotsOf u14 a1 (F_X4_lenderOf u14 a2)), .int (0 : Int32), .int (F_X4_lenderOf u14 a2), .int a1, .ref (ad 26)]) E h (c_X4_paidBy l D cI cZ z ad u14 τ a2 ((F_X4_heatOf u8 a2) - a3)) mw_530 cbX4_paidBy 3 rfl rfl ⟨by decide, by decide⟩ rfl rfl hl.1 (Nat.le_of_ble_eq_true rfl) ⟨Nat.zero_le _, Nat.zero_le _⟩ dX8_goes_212 (fun H locs h => ?_)
                  refine lv_isub hx hb dX8_goes_215 ?_
                  refine g_max E hl.1 mw_537 mw_290 mw_12 mw_291 (by decide) (Nat.le_of_ble_eq_true rfl) ⟨Nat.zero_le _, Nat.zero_le _⟩ dX8_goes_216 ?_
                  refine g_callVUv (F_X2_setKnots u14 a1 (F_X4_lenderOf u14 a2) (if (0 : Int32) < ((F_X2_knotsOf u14 a1 (F_X4_lenderOf u14 a2)) - (F_X4_paidBy u14 a2 ((F_X4_heatOf u8 a2) - a3))) then ((F_X2_knotsOf u14 a1 (F_X4_lenderOf u14 a2)) - (F_X4_paidBy u14 a2 ((F_X4_heatOf u8 a2) - a3))) else (0 : Int32))) (fun u => gws ad cI cZ u τ) (rest := []) E h (c_X2_setKnots l D cI cZ z ad u14 τ a1 (F_X4_lenderOf u14 a2) (if (0 : Int32) < ((F_X2_knotsOf u14 a1 (F_X4_lenderOf u14 a2)) - (F_X4_paidBy u14 a2 ((F_X4_heatOf u8 a2) - a3))) then ((F_X2_knotsOf u14 a1 (F_X4_lenderOf u14 a2)) - (F_X4_paidBy u14 a2 ((F_X4_heatOf u8 a2) - a3))) else (0 : Int32))) mw_538 cbX2_setKnots 26 rfl rfl ⟨by decide, by decide⟩ rfl rfl hl.1 (Nat.le_of_ble_eq_true rfl) ⟨Nat.zero_le _, Nat.zero_le _⟩ dX8_goes_219 (fun u17 huu17 H locs h => ?_)
                  have hF : F_X8_goes_k219_18 σ a1 a2 a3 u8 u10 u12 u14 u17 = (F_X8_goes σ a1 a2 a3) := by rw [← huu17]; exact hF
                  refine lv_iconst (v := 1) hx hb dX8_goes_222 (by decide) ?_
                  exact g_iret E hr hlk h hQ (fst_of hF) (snd_of hF (fun u => gws ad cI cZ u τ)) dX8_goes_223
                · have ic16 : (F_X4_bearsOf u14 a1).toInt < (F_X2_dryOf u14 a1).toInt := i_nle c16
                  have hF := (if_neg c16).symm.trans hF
                  refine lv_aload hx hb dX8_goes_173 (lv_at hl 2 rfl) ?_
                  refine lv_iload_n hx hb dX8_goes_175 rfl (lv_at hl 4 rfl) ?_
                  refine g_callVUv (F_X2_die u14 a1) (fun u => gws ad cI cZ u τ) (rest := []) E h (c_X2_die l D cI cZ z ad u14 τ a1) mw_523 cbX2_die 26 rfl rfl ⟨by decide, by decide⟩ rfl rfl hl.1 (Nat.le_of_ble_eq_true rfl) ⟨Nat.zero_le _, Nat.zero_le _⟩ dX8_goes_176 (fun u19 huu19 H locs h => ?_)
                  have hF : F_X8_goes_k176_20 σ a1 a2 a3 u8 u10 u12 u14 u19 = (F_X8_goes σ a1 a2 a3) := by rw [← huu19]; exact hF
                  refine lv_iconst (v := 0) hx hb dX8_goes_179 (by decide) ?_
                  exact g_iret E hr hlk h hQ (fst_of hF) (snd_of hF (fun u => gws ad cI cZ u τ)) dX8_goes_180
              · have ic7 : (F_X4_heatOf σ a2).toInt < a3.toInt := i_nle c7
                have hF := (if_neg c7).symm.trans hF
                refine lv_bipush (v := (-2)) hx hb dX8_goes_97 (by decide) ?_
                exact g_iret E hr hlk h hQ (fst_of hF) (snd_of hF (fun u => gws ad cI cZ u τ)) dX8_goes_99
      · have ic3 : (F_X8_within a3 (0 : Int32) (9 : Int32)).toInt = 0 := i_eq c3
        have hF := (if_pos c3).symm.trans hF
        refine lv_iconst (v := (-1)) hx hb dX8_goes_32 (by decide) ?_
        exact g_iret E hr hlk h hQ (fst_of hF) (snd_of hF (fun u => gws ad cI cZ u τ)) dX8_goes_33

def F_X8_drinks_k74_10 (σ : St) (a1 : Int32) (a2 : Int32) (u5 : St) (u7 : St) (u9 : Int32 × St) : Int32 × St := (u9.1, u9.2)
def F_X8_drinks_k68_8 (σ : St) (a1 : Int32) (a2 : Int32) (u5 : St) (u7 : St) : Int32 × St := (F_X8_drinks_k74_10 σ a1 a2 u5 u7 (F_X8_borrow u7 a1 a2))
def F_X8_drinks_k56_6 (σ : St) (a1 : Int32) (a2 : Int32) (u5 : St) : Int32 × St := (F_X8_drinks_k68_8 σ a1 a2 u5 (F_X2_setDry u5 a1 ((F_X2_dryOf u5 a1) - a2)))
def F_X8_drinks (σ : St) (a1 : Int32) (a2 : Int32) : Int32 × St := (if (F_X4_hasCaravan σ a1) = 0 then (((-1) : Int32), σ) else (if (F_X8_within a2 (1 : Int32) (20 : Int32)) = 0 then (((-1) : Int32), σ) else (if (F_X2_dryOf σ a1) < a2 then (((-2) : Int32), σ) else (if (F_X8_canBorrow σ a1 a2) = 0 then (((-2) : Int32), σ) else (F_X8_drinks_k56_6 σ a1 a2 (F_X1_remember σ))))))
abbrev I_X8_drinks : List Nat := [802]
abbrev A_X8_drinks : List Nat := [27, 28]
theorem fr_F_X8_drinks_k74_10 (σ : St) (a1 : Int32) (a2 : Int32) (u5 : St) (u7 : St) (u9 : Int32 × St) (hfr : Fr I_X8_drinks A_X8_drinks false σ (u9.2)) : Fr I_X8_drinks A_X8_drinks false σ (F_X8_drinks_k74_10  σ a1 a2 u5 u7 u9).2 := hfr
theorem fr_F_X8_drinks_k68_8 (σ : St) (a1 : Int32) (a2 : Int32) (u5 : St) (u7 : St) (hfr : Fr I_X8_drinks A_X8_drinks false σ (u7)) : Fr I_X8_drinks A_X8_drinks false σ (F_X8_drinks_k68_8  σ a1 a2 u5 u7).2 := (fr_F_X8_drinks_k74_10 σ a1 a2 u5 u7 (F_X8_borrow u7 a1 a2) (Fr.tr hfr (Fr.mono (by decide) (by decide) (by decide) (fr_F_X8_borrow u7 a1 a2))))
theorem fr_F_X8_drinks_k56_6 (σ : St) (a1 : Int32) (a2 : Int32) (u5 : St) (hfr : Fr I_X8_drinks A_X8_drinks false σ (u5)) : Fr I_X8_drinks A_X8_drinks false σ (F_X8_drinks_k56_6  σ a1 a2 u5).2 := (fr_F_X8_drinks_k68_8 σ a1 a2 u5 (F_X2_setDry u5 a1 ((F_X2_dryOf u5 a1) - a2)) (Fr.tr hfr (Fr.mono (by decide) (by decide) (by decide) (fr_F_X2_setDry u5 a1 ((F_X2_dryOf u5 a1) - a2)))))
theorem fr_F_X8_drinks (σ : St) (a1 : Int32) (a2 : Int32) : Fr I_X8_drinks A_X8_drinks false σ (F_X8_drinks σ a1 a2).2 := (fr_ite2 Fr.rf (fr_ite2 Fr.rf (fr_ite2 Fr.rf (fr_ite2 Fr.rf (fr_F_X8_drinks_k56_6 σ a1 a2 (F_X1_remember σ) (Fr.tr Fr.rf (Fr.mono (by decide) (by decide) (by decide) (fr_F_X1_remember σ))))))))
set_option maxHeartbeats 4000000 in
set_option maxRecDepth 20000 in
theorem c_X8_drinks (l : Launch) (D : va_G) (cI cZ : ClassId) (z : Nat) (ad : Nat → Nat) (σ τ : St) (a1 a2 : Int32) (hu_ : 0 ≤ (σ.1 802).toInt ∧ (σ.1 802).toInt ≤ 10) : gM l yX8_drinks cX8_drinks 4 (some .int) 4 D cI cZ z (gws ad cI cZ σ τ) [.ref (ad 0), .int a1, .int a2] (some (.int (F_X8_drinks σ a1 a2).1)) (gws ad cI cZ (F_X8_drinks σ a1 a2).2 τ) := by
  refine g_met (own := RX8) (by decide) rfl (Nat.le_of_ble_eq_true rfl) (fun p e s m below meth c ls Q E hr hlk h hl hQ => ?_)
  have hx := E.1
  have hb := E.2.1
  have hF : (F_X8_drinks σ a1 a2) = (F_X8_drinks σ a1 a2) := rfl
  have hl : lv_has ls 4 [(0, .ref (ad 0)), (1, .int a1), (2, .int a2)] := hl
  refine lv_aload_n hx hb dX8_drinks_0 rfl (lv_at hl 0 rfl) ?_
  refine g_get (v := .ref (ad 3)) E h 0 rfl rfl layX8 1 (by decide) rfl mw_203 rfl dX8_drinks_1 ?_
  refine lv_iload_n hx hb dX8_drinks_4 rfl (lv_at hl 1 rfl) ?_
  refine g_callVi (rest := []) E h (c_X4_hasCaravan l D cI cZ z ad σ τ a1) mw_417 cbX4_hasCaravan 3 rfl rfl ⟨by decide, by decide⟩ rfl rfl hl.1 (Nat.le_of_ble_eq_true rfl) ⟨Nat.zero_le _, Nat.zero_le _⟩ dX8_drinks_5 (fun H locs h => ?_)
  refine lv_if_eq (tgt := 21) hx hb dX8_drinks_8 (by decide) (fun c1 => ?_) (fun c1 => ?_)
  · have ic1 : (F_X4_hasCaravan σ a1).toInt = 0 := i_eq c1
    have hF := (if_pos c1).symm.trans hF
    refine lv_iconst (v := (-1)) hx hb dX8_drinks_21 (by decide) ?_
    exact g_iret E hr hlk h hQ (fst_of hF) (snd_of hF (fun u => gws ad cI cZ u τ)) dX8_drinks_22
  · have ic1 : (F_X4_hasCaravan σ a1).toInt ≠ 0 := i_ne c1
    have jc1 := fz_hasCaravan c1
    have hF := (if_neg c1).symm.trans hF
    refine lv_iload_n hx hb dX8_drinks_11 rfl (lv_at hl 2 rfl) ?_
    refine lv_iconst (v := 1) hx hb dX8_drinks_12 (by decide) ?_
    refine lv_bipush (v := 20) hx hb dX8_drinks_13 (by decide) ?_
    refine g_callSi (rest := []) E h (c_X8_within l D cI cZ z (gws ad cI cZ σ τ) a2 (1 : Int32) (20 : Int32)) mw_243 cbX8_within ⟨by decide, by decide⟩ rfl rfl hl.1 (Nat.le_of_ble_eq_true rfl) ⟨Nat.zero_le _, Nat.zero_le _⟩ dX8_drinks_15 (fun H locs h => ?_)
    refine lv_if_ne (tgt := 23) hx hb dX8_drinks_18 (by decide) (fun c2 => ?_) (fun c2 => ?_)
    · have ic2 : (F_X8_within a2 (1 : Int32) (20 : Int32)).toInt ≠ 0 := i_ne c2
      have jc2 : 1 ≤ a2.toInt ∧ a2.toInt ≤ 20 := fz_within c2
      have hF := (if_neg c2).symm.trans hF
      refine lv_aload_n hx hb dX8_drinks_23 rfl (lv_at hl 0 rfl) ?_
      refine g_get (v := .ref (ad 25)) E h 0 rfl rfl layX8 3 (by decide) rfl mw_205 rfl dX8_drinks_24 ?_
      refine g_getN (v := .ref (ad 26)) E h 25 rfl rfl layX1 0 (by decide) rfl nf_RX8_123 rfl dX8_drinks_27 ?_
      refine lv_astore_n (lv' := [(3, .ref (ad 26)), (0, .ref (ad 0)), (1, .int a1), (2, .int a2)]) hx hb dX8_drinks_30 rfl hl (by decide) rfl (fun ls hl => ?_)
      refine lv_iload_n hx hb dX8_drinks_31 rfl (lv_at hl 3 rfl) ?_
      refine lv_aload_n hx hb dX8_drinks_32 rfl (lv_at hl 0 rfl) ?_
      refine lv_iload_n hx hb dX8_drinks_33 rfl (lv_at hl 2 rfl) ?_
      refine g_callVi (rest := [.int a2]) E h (c_X2_dryOf l D cI cZ z ad σ τ a1) mw_434 cbX2_dryOf 26 rfl rfl ⟨by decide, by decide⟩ rfl rfl hl.1 (Nat.le_of_ble_eq_true rfl) ⟨Nat.zero_le _, Nat.zero_le _⟩ dX8_drinks_34 (fun H locs h => ?_)
      refine lv_icmp_gt (tgt := 49) hx hb dX8_drinks_37 (by decide) (fun c3 => ?_) (fun c3 => ?_)
      · have ic3 : (F_X2_dryOf σ a1).toInt < a2.toInt := i_lt c3
        have hF := (if_pos c3).symm.trans hF
        refine lv_bipush (v := (-2)) hx hb dX8_drinks_49 (by decide) ?_
        exact g_iret E hr hlk h hQ (fst_of hF) (snd_of hF (fun u => gws ad cI cZ u τ)) dX8_drinks_51
      · have ic3 : a2.toInt ≤ (F_X2_dryOf σ a1).toInt := i_nlt c3
        have hF := (if_neg c3).symm.trans hF
        refine lv_aload_n hx hb dX8_drinks_40 rfl (lv_at hl 1 rfl) ?_
        refine lv_iload_n hx hb dX8_drinks_41 rfl (lv_at hl 2 rfl) ?_
        refine lv_iload_n hx hb dX8_drinks_42 rfl (lv_at hl 3 rfl) ?_
        refine g_callVi (rest := []) E h (c_X8_canBorrow l D cI cZ z ad σ τ a1 a2) mw_543 cbX8_canBorrow 0 rfl rfl ⟨by decide, by decide⟩ rfl rfl hl.1 (Nat.le_of_ble_eq_true rfl) ⟨Nat.zero_le _, Nat.zero_le _⟩ dX8_drinks_43 (fun H locs h => ?_)
        refine lv_if_ne (tgt := 52) hx hb dX8_drinks_46 (by decide) (fun c4 => ?_) (fun c4 => ?_)
        · have ic4 : (F_X8_canBorrow σ a1 a2).toInt ≠ 0 := i_ne c4
          have hF := (if_neg c4).symm.trans hF
          refine lv_aload_n hx hb dX8_drinks_52 rfl (lv_at hl 1 rfl) ?_
          refine g_get (v := .ref (ad 25)) E h 0 rfl rfl layX8 3 (by decide) rfl mw_205 rfl dX8_drinks_53 ?_
          refine g_callVUv (F_X1_remember σ) (fun u => gws ad cI cZ u τ) (rest := []) E h (c_X1_remember l D cI cZ z ad σ τ (show 0 ≤ (σ.1 802).toInt ∧ (σ.1 802).toInt ≤ 10 from by omega)) mw_508 cbX1_remember 25 rfl rfl ⟨by decide, by decide⟩ rfl rfl hl.1 (Nat.le_of_ble_eq_true rfl) ⟨Nat.zero_le _, Nat.zero_le _⟩ dX8_drinks_56 (fun u5 huu5 H locs h => ?_)
          have hF : F_X8_drinks_k56_6 σ a1 a2 u5 = (F_X8_drinks σ a1 a2) := by rw [← huu5]; exact hF
          refine lv_aload_n hx hb dX8_drinks_59 rfl (lv_at hl 0 rfl) ?_
          refine lv_iload_n hx hb dX8_drinks_60 rfl (lv_at hl 2 rfl) ?_
          refine lv_aload_n hx hb dX8_drinks_61 rfl (lv_at hl 0 rfl) ?_
          refine lv_iload_n hx hb dX8_drinks_62 rfl (lv_at hl 2 rfl) ?_
          refine g_callVi (rest := [.int a1, .ref (ad 26)]) E h (c_X2_dryOf l D cI cZ z ad u5 τ a1) mw_434 cbX2_dryOf 26 rfl rfl ⟨by decide, by decide⟩ rfl rfl hl.1 (Nat.le_of_ble_eq_true rfl) ⟨Nat.zero_le _, Nat.zero_le _⟩ dX8_drinks_63 (fun H locs h => ?_)
          refine lv_iload_n hx hb dX8_drinks_66 rfl (lv_at hl 3 rfl) ?_
          refine lv_isub hx hb dX8_drinks_67 ?_
          refine g_callVUv (F_X2_setDry u5 a1 ((F_X2_dryOf u5 a1) - a2)) (fun u => gws ad cI cZ u τ) (rest := []) E h (c_X2_setDry l D cI cZ z ad u5 τ a1 ((F_X2_dryOf u5 a1) - a2)) mw_519 cbX2_setDry 26 rfl rfl ⟨by decide, by decide⟩ rfl rfl hl.1 (Nat.le_of_ble_eq_true rfl) ⟨Nat.zero_le _, Nat.zero_le _⟩ dX8_drinks_68 (fun u7 huu7 H locs h => ?_)
          have hF : F_X8_drinks_k68_8 σ a1 a2 u5 u7 = (F_X8_drinks σ a1 a2) := by rw [← huu7]; exact hF
          refine lv_aload_n hx hb dX8_drinks_71 rfl (lv_at hl 1 rfl) ?_
          refine lv_iload_n hx hb dX8_drinks_72 rfl (lv_at hl 2 rfl) ?_
          refine lv_iload_n hx hb dX8_drinks_73 rfl (lv_at hl 3 rfl) ?_
          refine g_callVU (F_X8_borrow u7 a1 a2) (fun u => gws ad cI cZ u τ) (rest := []) E h (c_X8_borrow l D cI cZ z ad u7 τ a1 a2) mw_547 cbX8_borrow 0 rfl rfl ⟨by decide, by decide⟩ rfl rfl hl.1 (Nat.le_of_ble_eq_true rfl) ⟨Nat.zero_le _, Nat.zero_le _⟩ dX8_drinks_74 (fun u9 huu9 H locs h => ?_)
          have hF : F_X8_drinks_k74_10 σ a1 a2 u5 u7 u9 = (F_X8_drinks σ a1 a2) := by rw [← huu9]; exact hF
          exact g_iret E hr hlk h hQ (fst_of hF) (snd_of hF (fun u => gws ad cI cZ u τ)) dX8_drinks_77
        · have ic4 : (F_X8_canBorrow σ a1 a2).toInt = 0 := i_eq c4
          have hF := (if_pos c4).symm.trans hF
          refine lv_bipush (v := (-2)) hx hb dX8_drinks_49 (by decide) ?_
          exact g_iret E hr hlk h hQ (fst_of hF) (snd_of hF (fun u => gws ad cI cZ u τ)) dX8_drinks_51
    · have ic2 : (F_X8_within a2 (1 : Int32) (20 : Int32)).toInt = 0 := i_eq c2
      have hF := (if_pos c2).symm.trans hF
      refine lv_iconst (v := (-1)) hx hb dX8_drinks_21 (by decide) ?_
      exact g_iret E hr hlk h hQ (fst_of hF) (snd_of hF (fun u => gws ad cI cZ u τ)) dX8_drinks_22

def F_X8_fills_k77_10 (σ : St) (a1 : Int32) (a2 : Int32) (u5 : St) (u7 : St) (u9 : Int32 × St) : Int32 × St := (u9.1, u9.2)
def F_X8_fills_k71_8 (σ : St) (a1 : Int32) (a2 : Int32) (u5 : St) (u7 : St) : Int32 × St := (F_X8_fills_k77_10 σ a1 a2 u5 u7 (F_X8_borrow u7 a1 a2))
def F_X8_fills_k59_6 (σ : St) (a1 : Int32) (a2 : Int32) (u5 : St) : Int32 × St := (F_X8_fills_k71_8 σ a1 a2 u5 (F_X2_setCups u5 a1 ((F_X2_cupsOf u5 a1) + a2)))
def F_X8_fills (σ : St) (a1 : Int32) (a2 : Int32) : Int32 × St := (if (F_X4_hasCaravan σ a1) = 0 then (((-1) : Int32), σ) else (if (F_X8_within a2 (1 : Int32) (20 : Int32)) = 0 then (((-1) : Int32), σ) else (if (20 : Int32) < ((F_X2_cupsOf σ a1) + a2) then (((-2) : Int32), σ) else (if (F_X8_canBorrow σ a1 a2) = 0 then (((-2) : Int32), σ) else (F_X8_fills_k59_6 σ a1 a2 (F_X1_remember σ))))))
abbrev I_X8_fills : List Nat := [802]
abbrev A_X8_fills : List Nat := [27, 28]
theorem fr_F_X8_fills_k77_10 (σ : St) (a1 : Int32) (a2 : Int32) (u5 : St) (u7 : St) (u9 : Int32 × St) (hfr : Fr I_X8_fills A_X8_fills false σ (u9.2)) : Fr I_X8_fills A_X8_fills false σ (F_X8_fills_k77_10  σ a1 a2 u5 u7 u9).2 := hfr
theorem fr_F_X8_fills_k71_8 (σ : St) (a1 : Int32) (a2 : Int32) (u5 : St) (u7 : St) (hfr : Fr I_X8_fills A_X8_fills false σ (u7)) : Fr I_X8_fills A_X8_fills false σ (F_X8_fills_k71_8  σ a1 a2 u5 u7).2 := (fr_F_X8_fills_k77_10 σ a1 a2 u5 u7 (F_X8_borrow u7 a1 a2) (Fr.tr hfr (Fr.mono (by decide) (by decide) (by decide) (fr_F_X8_borrow u7 a1 a2))))
theorem fr_F_X8_fills_k59_6 (σ : St) (a1 : Int32) (a2 : Int32) (u5 : St) (hfr : Fr I_X8_fills A_X8_fills false σ (u5)) : Fr I_X8_fills A_X8_fills false σ (F_X8_fills_k59_6  σ a1 a2 u5).2 := (fr_F_X8_fills_k71_8 σ a1 a2 u5 (F_X2_setCups u5 a1 ((F_X2_cupsOf u5 a1) + a2)) (Fr.tr hfr (Fr.mono (by decide) (by decide) (by decide) (fr_F_X2_setCups u5 a1 ((F_X2_cupsOf u5 a1) + a2)))))
theorem fr_F_X8_fills (σ : St) (a1 : Int32) (a2 : Int32) : Fr I_X8_fills A_X8_fills false σ (F_X8_fills σ a1 a2).2 := (fr_ite2 Fr.rf (fr_ite2 Fr.rf (fr_ite2 Fr.rf (fr_ite2 Fr.rf (fr_F_X8_fills_k59_6 σ a1 a2 (F_X1_remember σ) (Fr.tr Fr.rf (Fr.mono (by decide) (by decide) (by decide) (fr_F_X1_remember σ))))))))
set_option maxHeartbeats 4000000 in
set_option maxRecDepth 20000 in
theorem c_X8_fills (l : Launch) (D : va_G) (cI cZ : ClassId) (z : Nat) (ad : Nat → Nat) (σ τ : St) (a1 a2 : Int32) (hu_ : 0 ≤ (σ.1 802).toInt ∧ (σ.1 802).toInt ≤ 10) : gM l yX8_fills cX8_fills 4 (some .int) 4 D cI cZ z (gws ad cI cZ σ τ) [.ref (ad 0), .int a1, .int a2] (some (.int (F_X8_fills σ a1 a2).1)) (gws ad cI cZ (F_X8_fills σ a1 a2).2 τ) := by
  refine g_met (own := RX8) (by decide) rfl (Nat.le_of_ble_eq_true rfl) (fun p e s m below meth c ls Q E hr hlk h hl hQ => ?_)
  have hx := E.1
  have hb := E.2.1
  have hF : (F_X8_fills σ a1 a2) = (F_X8_fills σ a1 a2) := rfl
  have hl : lv_has ls 4 [(0, .ref (ad 0)), (1, .int a1), (2, .int a2)] := hl
  refine lv_aload_n hx hb dX8_fills_0 rfl (lv_at hl 0 rfl) ?_
  refine g_get (v := .ref (ad 3)) E h 0 rfl rfl layX8 1 (by decide) rfl mw_203 rfl dX8_fills_1 ?_
  refine lv_iload_n hx hb dX8_fills_4 rfl (lv_at hl 1 rfl) ?_
  refine g_callVi (rest := []) E h (c_X4_hasCaravan l D cI cZ z ad σ τ a1) mw_417 cbX4_hasCaravan 3 rfl rfl ⟨by decide, by decide⟩ rfl rfl hl.1 (Nat.le_of_ble_eq_true rfl) ⟨Nat.zero_le _, Nat.zero_le _⟩ dX8_fills_5 (fun H locs h => ?_)
  refine lv_if_eq (tgt := 21) hx hb dX8_fills_8 (by decide) (fun c1 => ?_) (fun c1 => ?_)
  · have ic1 : (F_X4_hasCaravan σ a1).toInt = 0 := i_eq c1
    have hF := (if_pos c1).symm.trans hF
    refine lv_iconst (v := (-1)) hx hb dX8_fills_21 (by decide) ?_
    exact g_iret E hr hlk h hQ (fst_of hF) (snd_of hF (fun u => gws ad cI cZ u τ)) dX8_fills_22
  · have ic1 : (F_X4_hasCaravan σ a1).toInt ≠ 0 := i_ne c1
    have jc1 := fz_hasCaravan c1
    have hF := (if_neg c1).symm.trans hF
    refine lv_iload_n hx hb dX8_fills_11 rfl (lv_at hl 2 rfl) ?_
    refine lv_iconst (v := 1) hx hb dX8_fills_12 (by decide) ?_
    refine lv_bipush (v := 20) hx hb dX8_fills_13 (by decide) ?_
    refine g_callSi (rest := []) E h (c_X8_within l D cI cZ z (gws ad cI cZ σ τ) a2 (1 : Int32) (20 : Int32)) mw_243 cbX8_within ⟨by decide, by decide⟩ rfl rfl hl.1 (Nat.le_of_ble_eq_true rfl) ⟨Nat.zero_le _, Nat.zero_le _⟩ dX8_fills_15 (fun H locs h => ?_)
    refine lv_if_ne (tgt := 23) hx hb dX8_fills_18 (by decide) (fun c2 => ?_) (fun c2 => ?_)
    · have ic2 : (F_X8_within a2 (1 : Int32) (20 : Int32)).toInt ≠ 0 := i_ne c2
      have jc2 : 1 ≤ a2.toInt ∧ a2.toInt ≤ 20 := fz_within c2
      have hF := (if_neg c2).symm.trans hF
      refine lv_aload_n hx hb dX8_fills_23 rfl (lv_at hl 0 rfl) ?_
      refine g_get (v := .ref (ad 25)) E h 0 rfl rfl layX8 3 (by decide) rfl mw_205 rfl dX8_fills_24 ?_
      refine g_getN (v := .ref (ad 26)) E h 25 rfl rfl layX1 0 (by decide) rfl nf_RX8_123 rfl dX8_fills_27 ?_
      refine lv_astore_n (lv' := [(3, .ref (ad 26)), (0, .ref (ad 0)), (1, .int a1), (2, .int a2)]) hx hb dX8_fills_30 rfl hl (by decide) rfl (fun ls hl => ?_)
      refine lv_aload_n hx hb dX8_fills_31 rfl (lv_at hl 0 rfl) ?_
      refine lv_iload_n hx hb dX8_fills_32 rfl (lv_at hl 2 rfl) ?_
      refine g_callVi (rest := []) E h (c_X2_cupsOf l D cI cZ z ad σ τ a1) mw_425 cbX2_cupsOf 26 rfl rfl ⟨by decide, by decide⟩ rfl rfl hl.1 (Nat.le_of_ble_eq_true rfl) ⟨Nat.zero_le _, Nat.zero_le _⟩ dX8_fills_33 (fun H locs h => ?_)
      refine lv_iload_n hx hb dX8_fills_36 rfl (lv_at hl 3 rfl) ?_
      refine lv_iadd hx hb dX8_fills_37 ?_
      refine lv_bipush (v := 20) hx hb dX8_fills_38 (by decide) ?_
      refine lv_icmp_gt (tgt := 52) hx hb dX8_fills_40 (by decide) (fun c3 => ?_) (fun c3 => ?_)
      · have ic3 : 20 < ((F_X2_cupsOf σ a1) + a2).toInt := i_lt c3
        have hF := (if_pos c3).symm.trans hF
        refine lv_bipush (v := (-2)) hx hb dX8_fills_52 (by decide) ?_
        exact g_iret E hr hlk h hQ (fst_of hF) (snd_of hF (fun u => gws ad cI cZ u τ)) dX8_fills_54
      · have ic3 : ((F_X2_cupsOf σ a1) + a2).toInt ≤ 20 := i_nlt c3
        have hF := (if_neg c3).symm.trans hF
        refine lv_aload_n hx hb dX8_fills_43 rfl (lv_at hl 1 rfl) ?_
        refine lv_iload_n hx hb dX8_fills_44 rfl (lv_at hl 2 rfl) ?_
        refine lv_iload_n hx hb dX8_fills_45 rfl (lv_at hl 3 rfl) ?_
        refine g_callVi (rest := []) E h (c_X8_canBorrow l D cI cZ z ad σ τ a1 a2) mw_543 cbX8_canBorrow 0 rfl rfl ⟨by decide, by decide⟩ rfl rfl hl.1 (Nat.le_of_ble_eq_true rfl) ⟨Nat.zero_le _, Nat.zero_le _⟩ dX8_fills_46 (fun H locs h => ?_)
        refine lv_if_ne (tgt := 55) hx hb dX8_fills_49 (by decide) (fun c4 => ?_) (fun c4 => ?_)
        · have ic4 : (F_X8_canBorrow σ a1 a2).toInt ≠ 0 := i_ne c4
          have hF := (if_neg c4).symm.trans hF
          refine lv_aload_n hx hb dX8_fills_55 rfl (lv_at hl 1 rfl) ?_
          refine g_get (v := .ref (ad 25)) E h 0 rfl rfl layX8 3 (by decide) rfl mw_205 rfl dX8_fills_56 ?_
          refine g_callVUv (F_X1_remember σ) (fun u => gws ad cI cZ u τ) (rest := []) E h (c_X1_remember l D cI cZ z ad σ τ (show 0 ≤ (σ.1 802).toInt ∧ (σ.1 802).toInt ≤ 10 from by omega)) mw_508 cbX1_remember 25 rfl rfl ⟨by decide, by decide⟩ rfl rfl hl.1 (Nat.le_of_ble_eq_true rfl) ⟨Nat.zero_le _, Nat.zero_le _⟩ dX8_fills_59 (fun u5 huu5 H locs h => ?_)
          have hF : F_X8_fills_k59_6 σ a1 a2 u5 = (F_X8_fills σ a1 a2) := by rw [← huu5]; exact hF
          refine lv_aload_n hx hb dX8_fills_62 rfl (lv_at hl 0 rfl) ?_
          refine lv_iload_n hx hb dX8_fills_63 rfl (lv_at hl 2 rfl) ?_
          refine lv_aload_n hx hb dX8_fills_64 rfl (lv_at hl 0 rfl) ?_
          refine lv_iload_n hx hb dX8_fills_65 rfl (lv_at hl 2 rfl) ?_
          refine g_callVi (rest := [.int a1, .ref (ad 26)]) E h (c_X2_cupsOf l D cI cZ z ad u5 τ a1) mw_425 cbX2_cupsOf 26 rfl rfl ⟨by decide, by decide⟩ rfl rfl hl.1 (Nat.le_of_ble_eq_true rfl) ⟨Nat.zero_le _, Nat.zero_le _⟩ dX8_fills_66 (fun H locs h => ?_)
          refine lv_iload_n hx hb dX8_fills_69 rfl (lv_at hl 3 rfl) ?_
          refine lv_iadd hx hb dX8_fills_70 ?_
          refine g_callVUv (F_X2_setCups u5 a1 ((F_X2_cupsOf u5 a1) + a2)) (fun u => gws ad cI cZ u τ) (rest := []) E h (c_X2_setCups l D cI cZ z ad u5 τ a1 ((F_X2_cupsOf u5 a1) + a2)) mw_517 cbX2_setCups 26 rfl rfl ⟨by decide, by decide⟩ rfl rfl hl.1 (Nat.le_of_ble_eq_true rfl) ⟨Nat.zero_le _, Nat.zero_le _⟩ dX8_fills_71 (fun u7 huu7 H locs h => ?_)
          have hF : F_X8_fills_k71_8 σ a1 a2 u5 u7 = (F_X8_fills σ a1 a2) := by rw [← huu7]; exact hF
          refine lv_aload_n hx hb dX8_fills_74 rfl (lv_at hl 1 rfl) ?_
          refine lv_iload_n hx hb dX8_fills_75 rfl (lv_at hl 2 rfl) ?_
          refine lv_iload_n hx hb dX8_fills_76 rfl (lv_at hl 3 rfl) ?_
          refine g_callVU (F_X8_borrow u7 a1 a2) (fun u => gws ad cI cZ u τ) (rest := []) E h (c_X8_borrow l D cI cZ z ad u7 τ a1 a2) mw_547 cbX8_borrow 0 rfl rfl ⟨by decide, by decide⟩ rfl rfl hl.1 (Nat.le_of_ble_eq_true rfl) ⟨Nat.zero_le _, Nat.zero_le _⟩ dX8_fills_77 (fun u9 huu9 H locs h => ?_)
          have hF : F_X8_fills_k77_10 σ a1 a2 u5 u7 u9 = (F_X8_fills σ a1 a2) := by rw [← huu9]; exact hF
          exact g_iret E hr hlk h hQ (fst_of hF) (snd_of hF (fun u => gws ad cI cZ u τ)) dX8_fills_80
        · have ic4 : (F_X8_canBorrow σ a1 a2).toInt = 0 := i_eq c4
          have hF := (if_pos c4).symm.trans hF
          refine lv_bipush (v := (-2)) hx hb dX8_fills_52 (by decide) ?_
          exact g_iret E hr hlk h hQ (fst_of hF) (snd_of hF (fun u => gws ad cI cZ u τ)) dX8_fills_54
    · have ic2 : (F_X8_within a2 (1 : Int32) (20 : Int32)).toInt = 0 := i_eq c2
      have hF := (if_pos c2).symm.trans hF
      refine lv_iconst (v := (-1)) hx hb dX8_fills_21 (by decide) ?_
      exact g_iret E hr hlk h hQ (fst_of hF) (snd_of hF (fun u => gws ad cI cZ u τ)) dX8_fills_22

def F_X8_hands_k141_15 (σ : St) (a1 : Int32) (a2 : Int32) (a3 : Int32) (a4 : Int32) (u10 : St) (u12 : St) (u14 : St) : Int32 × St := (((F_X2_knotsOf σ a2 a3) + a4), u14)
def F_X8_hands_k132_13 (σ : St) (a1 : Int32) (a2 : Int32) (a3 : Int32) (a4 : Int32) (u10 : St) (u12 : St) : Int32 × St := (F_X8_hands_k141_15 σ a1 a2 a3 a4 u10 u12 (F_X2_setKnots u12 a2 a3 ((F_X2_knotsOf σ a2 a3) + a4)))
def F_X8_hands_k123_11 (σ : St) (a1 : Int32) (a2 : Int32) (a3 : Int32) (a4 : Int32) (u10 : St) : Int32 × St := (F_X8_hands_k132_13 σ a1 a2 a3 a4 u10 (F_X2_setKnots u10 a1 a3 ((F_X2_knotsOf σ a1 a3) - a4)))
def F_X8_hands (σ : St) (a1 : Int32) (a2 : Int32) (a3 : Int32) (a4 : Int32) : Int32 × St := (if (F_X4_hasCaravan σ a1) = 0 then (((-1) : Int32), σ) else (if (F_X4_hasCaravan σ a2) = 0 then (((-1) : Int32), σ) else (if a1 = a2 then (((-1) : Int32), σ) else (if (F_X4_hasWell σ a3) = 0 then (((-1) : Int32), σ) else (if (F_X8_within a4 (1 : Int32) (99 : Int32)) = 0 then (((-1) : Int32), σ) else (if (F_X2_isAlive σ a1) = 0 then (((-2) : Int32), σ) else (if (F_X2_isAlive σ a2) = 0 then (((-2) : Int32), σ) else (if ((F_X2_knotsOf σ a1 a3) - a4) < 0 then (((-2) : Int32), σ) else (if ((F_X2_knotsOf σ a2 a3) + a4) ≤ (99 : Int32) then (F_X8_hands_k123_11 σ a1 a2 a3 a4 (F_X1_remember σ)) else (((-2) : Int32), σ))))))))))
abbrev I_X8_hands : List Nat := [802]
abbrev A_X8_hands : List Nat := [27, 28]
theorem fr_F_X8_hands_k141_15 (σ : St) (a1 : Int32) (a2 : Int32) (a3 : Int32) (a4 : Int32) (u10 : St) (u12 : St) (u14 : St) (hfr : Fr I_X8_hands A_X8_hands false σ (u14)) : Fr I_X8_hands A_X8_hands false σ (F_X8_hands_k141_15  σ a1 a2 a3 a4 u10 u12 u14).2 := hfr
theorem fr_F_X8_hands_k132_13 (σ : St) (a1 : Int32) (a2 : Int32) (a3 : Int32) (a4 : Int32) (u10 : St) (u12 : St) (hfr : Fr I_X8_hands A_X8_hands false σ (u12)) : Fr I_X8_hands A_X8_hands false σ (F_X8_hands_k132_13  σ a1 a2 a3 a4 u10 u12).2 := (fr_F_X8_hands_k141_15 σ a1 a2 a3 a4 u10 u12 (F_X2_setKnots u12 a2 a3 ((F_X2_knotsOf σ a2 a3) + a4)) (Fr.tr hfr (Fr.mono (by decide) (by decide) (by decide) (fr_F_X2_setKnots u12 a2 a3 ((F_X2_knotsOf σ a2 a3) + a4)))))
theorem fr_F_X8_hands_k123_11 (σ : St) (a1 : Int32) (a2 : Int32) (a3 : Int32) (a4 : Int32) (u10 : St) (hfr : Fr I_X8_hands A_X8_hands false σ (u10)) : Fr I_X8_hands A_X8_hands false σ (F_X8_hands_k123_11  σ a1 a2 a3 a4 u10).2 := (fr_F_X8_hands_k132_13 σ a1 a2 a3 a4 u10 (F_X2_setKnots u10 a1 a3 ((F_X2_knotsOf σ a1 a3) - a4)) (Fr.tr hfr (Fr.mono (by decide) (by decide) (by decide) (fr_F_X2_setKnots u10 a1 a3 ((F_X2_knotsOf σ a1 a3) - a4)))))
theorem fr_F_X8_hands (σ : St) (a1 : Int32) (a2 : Int32) (a3 : Int32) (a4 : Int32) : Fr I_X8_hands A_X8_hands false σ (F_X8_hands σ a1 a2 a3 a4).2 := (fr_ite2 Fr.rf (fr_ite2 Fr.rf (fr_ite2 Fr.rf (fr_ite2 Fr.rf (fr_ite2 Fr.rf (fr_ite2 Fr.rf (fr_ite2 Fr.rf (fr_ite2 Fr.rf (fr_ite2 (fr_F_X8_hands_k123_11 σ a1 a2 a3 a4 (F_X1_remember σ) (Fr.tr Fr.rf (Fr.mono (by decide) (by decide) (by decide) (fr_F_X1_remember σ)))) Fr.rf)))))))))
set_option maxHeartbeats 4000000 in
set_option maxRecDepth 20000 in
theorem c_X8_hands (l : Launch) (D : va_G) (cI cZ : ClassId) (z : Nat) (ad : Nat → Nat) (σ τ : St) (a1 a2 a3 a4 : Int32) (hu_ : 0 ≤ (σ.1 802).toInt ∧ (σ.1 802).toInt ≤ 10) : gM l yX8_hands cX8_hands 8 (some .int) 3 D cI cZ z (gws ad cI cZ σ τ) [.ref (ad 0), .int a1, .int a2, .int a3, .int a4] (some (.int (F_X8_hands σ a1 a2 a3 a4).1)) (gws ad cI cZ (F_X8_hands σ a1 a2 a3 a4).2 τ) := by
  refine g_met (own := RX8) (by decide) rfl (Nat.le_of_ble_eq_true rfl) (fun p e s m below meth c ls Q E hr hlk h hl hQ => ?_)
  have hx := E.1
  have hb := E.2.1
  have hF : (F_X8_hands σ a1 a2 a3 a4) = (F_X8_hands σ a1 a2 a3 a4) := rfl
  have hl : lv_has ls 8 [(0, .ref (ad 0)), (1, .int a1), (2, .int a2), (3, .int a3), (4, .int a4)] := hl
  refine lv_aload_n hx hb dX8_hands_0 rfl (lv_at hl 0 rfl) ?_
  refine g_get (v := .ref (ad 3)) E h 0 rfl rfl layX8 1 (by decide) rfl mw_203 rfl dX8_hands_1 ?_
  refine lv_iload_n hx hb dX8_hands_4 rfl (lv_at hl 1 rfl) ?_
  refine g_callVi (rest := []) E h (c_X4_hasCaravan l D cI cZ z ad σ τ a1) mw_417 cbX4_hasCaravan 3 rfl rfl ⟨by decide, by decide⟩ rfl rfl hl.1 (Nat.le_of_ble_eq_true rfl) ⟨Nat.zero_le _, Nat.zero_le _⟩ dX8_hands_5 (fun H locs h => ?_)
  refine lv_if_eq (tgt := 27) hx hb dX8_hands_8 (by decide) (fun c1 => ?_) (fun c1 => ?_)
  · have ic1 : (F_X4_hasCaravan σ a1).toInt = 0 := i_eq c1
    have hF := (if_pos c1).symm.trans hF
    refine lv_iconst (v := (-1)) hx hb dX8_hands_27 (by decide) ?_
    exact g_iret E hr hlk h hQ (fst_of hF) (snd_of hF (fun u => gws ad cI cZ u τ)) dX8_hands_28
  · have ic1 : (F_X4_hasCaravan σ a1).toInt ≠ 0 := i_ne c1
    have jc1 := fz_hasCaravan c1
    have hF := (if_neg c1).symm.trans hF
    refine lv_aload_n hx hb dX8_hands_11 rfl (lv_at hl 0 rfl) ?_
    refine g_get (v := .ref (ad 3)) E h 0 rfl rfl layX8 1 (by decide) rfl mw_203 rfl dX8_hands_12 ?_
    refine lv_iload_n hx hb dX8_hands_15 rfl (lv_at hl 2 rfl) ?_
    refine g_callVi (rest := []) E h (c_X4_hasCaravan l D cI cZ z ad σ τ a2) mw_417 cbX4_hasCaravan 3 rfl rfl ⟨by decide, by decide⟩ rfl rfl hl.1 (Nat.le_of_ble_eq_true rfl) ⟨Nat.zero_le _, Nat.zero_le _⟩ dX8_hands_16 (fun H locs h => ?_)
    refine lv_if_eq (tgt := 27) hx hb dX8_hands_19 (by decide) (fun c2 => ?_) (fun c2 => ?_)
    · have ic2 : (F_X4_hasCaravan σ a2).toInt = 0 := i_eq c2
      have hF := (if_pos c2).symm.trans hF
      refine lv_iconst (v := (-1)) hx hb dX8_hands_27 (by decide) ?_
      exact g_iret E hr hlk h hQ (fst_of hF) (snd_of hF (fun u => gws ad cI cZ u τ)) dX8_hands_28
    · have ic2 : (F_X4_hasCaravan σ a2).toInt ≠ 0 := i_ne c2
      have jc2 := fz_hasCaravan c2
      have hF := (if_neg c2).symm.trans hF
      refine lv_iload_n hx hb dX8_hands_22 rfl (lv_at hl 1 rfl) ?_
      refine lv_iload_n hx hb dX8_hands_23 rfl (lv_at hl 2 rfl) ?_
      refine lv_icmp_ne (tgt := 29) hx hb dX8_hands_24 (by decide) (fun c3 => ?_) (fun c3 => ?_)
      · have ic3 : a1.toInt ≠ a2.toInt := i_ne c3
        have hF := (if_neg c3).symm.trans hF
        refine lv_aload_n hx hb dX8_hands_29 rfl (lv_at hl 0 rfl) ?_
        refine g_get (v := .ref (ad 3)) E h 0 rfl rfl layX8 1 (by decide) rfl mw_203 rfl dX8_hands_30 ?_
        refine lv_iload_n hx hb dX8_hands_33 rfl (lv_at hl 3 rfl) ?_
        refine g_callVi (rest := []) E h (c_X4_hasWell l D cI cZ z ad σ τ a3) mw_457 cbX4_hasWell 3 rfl rfl ⟨by decide, by decide⟩ rfl rfl hl.1 (Nat.le_of_ble_eq_true rfl) ⟨Nat.zero_le _, Nat.zero_le _⟩ dX8_hands_34 (fun H locs h => ?_)
        refine lv_if_eq (tgt := 51) hx hb dX8_hands_37 (by decide) (fun c4 => ?_) (fun c4 => ?_)
        · have ic4 : (F_X4_hasWell σ a3).toInt = 0 := i_eq c4
          have hF := (if_pos c4).symm.trans hF
          refine lv_iconst (v := (-1)) hx hb dX8_hands_51 (by decide) ?_
          exact g_iret E hr hlk h hQ (fst_of hF) (snd_of hF (fun u => gws ad cI cZ u τ)) dX8_hands_52
        · have ic4 : (F_X4_hasWell σ a3).toInt ≠ 0 := i_ne c4
          have jc4 := fz_hasWell c4
          have hF := (if_neg c4).symm.trans hF
          refine lv_iload hx hb dX8_hands_40 (lv_at hl 4 rfl) ?_
          refine lv_iconst (v := 1) hx hb dX8_hands_42 (by decide) ?_
          refine lv_bipush (v := 99) hx hb dX8_hands_43 (by decide) ?_
          refine g_callSi (rest := []) E h (c_X8_within l D cI cZ z (gws ad cI cZ σ τ) a4 (1 : Int32) (99 : Int32)) mw_243 cbX8_within ⟨by decide, by decide⟩ rfl rfl hl.1 (Nat.le_of_ble_eq_true rfl) ⟨Nat.zero_le _, Nat.zero_le _⟩ dX8_hands_45 (fun H locs h => ?_)
          refine lv_if_ne (tgt := 53) hx hb dX8_hands_48 (by decide) (fun c5 => ?_) (fun c5 => ?_)
          · have ic5 : (F_X8_within a4 (1 : Int32) (99 : Int32)).toInt ≠ 0 := i_ne c5
            have jc5 : 1 ≤ a4.toInt ∧ a4.toInt ≤ 99 := fz_within c5
            have hF := (if_neg c5).symm.trans hF
            refine lv_aload_n hx hb dX8_hands_53 rfl (lv_at hl 0 rfl) ?_
            refine g_get (v := .ref (ad 25)) E h 0 rfl rfl layX8 3 (by decide) rfl mw_205 rfl dX8_hands_54 ?_
            refine g_getN (v := .ref (ad 26)) E h 25 rfl rfl layX1 0 (by decide) rfl nf_RX8_123 rfl dX8_hands_57 ?_
            refine lv_astore (lv' := [(5, .ref (ad 26)), (0, .ref (ad 0)), (1, .int a1), (2, .int a2), (3, .int a3), (4, .int a4)]) hx hb dX8_hands_60 hl (by decide) rfl (fun ls hl => ?_)
            refine lv_aload hx hb dX8_hands_62 (lv_at hl 0 rfl) ?_
            refine lv_iload_n hx hb dX8_hands_64 rfl (lv_at hl 2 rfl) ?_
            refine lv_iload_n hx hb dX8_hands_65 rfl (lv_at hl 4 rfl) ?_
            refine g_callVi (rest := []) E h (c_X2_knotsOf l D cI cZ z ad σ τ a1 a3) mw_492 cbX2_knotsOf 26 rfl rfl ⟨by decide, by decide⟩ rfl rfl hl.1 (Nat.le_of_ble_eq_true rfl) ⟨Nat.zero_le _, Nat.zero_le _⟩ dX8_hands_66 (fun H locs h => ?_)
            refine lv_iload hx hb dX8_hands_69 (lv_at hl 5 rfl) ?_
            refine lv_isub hx hb dX8_hands_71 ?_
            refine lv_istore (lv' := [(6, .int ((F_X2_knotsOf σ a1 a3) - a4)), (5, .ref (ad 26)), (0, .ref (ad 0)), (1, .int a1), (2, .int a2), (3, .int a3), (4, .int a4)]) hx hb dX8_hands_72 hl (by decide) rfl (fun ls hl => ?_)
            refine lv_aload hx hb dX8_hands_74 (lv_at hl 1 rfl) ?_
            refine lv_iload_n hx hb dX8_hands_76 rfl (lv_at hl 4 rfl) ?_
            refine lv_iload_n hx hb dX8_hands_77 rfl (lv_at hl 5 rfl) ?_
            refine g_callVi (rest := []) E h (c_X2_knotsOf l D cI cZ z ad σ τ a2 a3) mw_492 cbX2_knotsOf 26 rfl rfl ⟨by decide, by decide⟩ rfl rfl hl.1 (Nat.le_of_ble_eq_true rfl) ⟨Nat.zero_le _, Nat.zero_le _⟩ dX8_hands_78 (fun H locs h => ?_)
            refine lv_iload hx hb dX8_hands_81 (lv_at hl 6 rfl) ?_
            refine lv_iadd hx hb dX8_hands_83 ?_
            refine lv_istore (lv' := [(7, .int ((F_X2_knotsOf σ a2 a3) + a4)), (6, .int ((F_X2_knotsOf σ a1 a3) - a4)), (5, .ref (ad 26)), (0, .ref (ad 0)), (1, .int a1), (2, .int a2), (3, .int a3), (4, .int a4)]) hx hb dX8_hands_84 hl (by decide) rfl (fun ls hl => ?_)
            refine lv_aload hx hb dX8_hands_86 (lv_at hl 2 rfl) ?_
            refine lv_iload_n hx hb dX8_hands_88 rfl (lv_at hl 4 rfl) ?_
            refine g_callVi (rest := []) E h (c_X2_isAlive l D cI cZ z ad σ τ a1) mw_438 cbX2_isAlive 26 rfl rfl ⟨by decide, by decide⟩ rfl rfl hl.1 (Nat.le_of_ble_eq_true rfl) ⟨Nat.zero_le _, Nat.zero_le _⟩ dX8_hands_89 (fun H locs h => ?_)
            refine lv_if_eq (tgt := 116) hx hb dX8_hands_92 (by decide) (fun c6 => ?_) (fun c6 => ?_)
            · have ic6 : (F_X2_isAlive σ a1).toInt = 0 := i_eq c6
              have hF := (if_pos c6).symm.trans hF
              refine lv_bipush (v := (-2)) hx hb dX8_hands_116 (by decide) ?_
              exact g_iret E hr hlk h hQ (fst_of hF) (snd_of hF (fun u => gws ad cI cZ u τ)) dX8_hands_118
            · have ic6 : (F_X2_isAlive σ a1).toInt ≠ 0 := i_ne c6
              have hF := (if_neg c6).symm.trans hF
              refine lv_aload hx hb dX8_hands_95 (lv_at hl 2 rfl) ?_
              refine lv_iload_n hx hb dX8_hands_97 rfl (lv_at hl 5 rfl) ?_
              refine g_callVi (rest := []) E h (c_X2_isAlive l D cI cZ z ad σ τ a2) mw_438 cbX2_isAlive 26 rfl rfl ⟨by decide, by decide⟩ rfl rfl hl.1 (Nat.le_of_ble_eq_true rfl) ⟨Nat.zero_le _, Nat.zero_le _⟩ dX8_hands_98 (fun H locs h => ?_)
              refine lv_if_eq (tgt := 116) hx hb dX8_hands_101 (by decide) (fun c7 => ?_) (fun c7 => ?_)
              · have ic7 : (F_X2_isAlive σ a2).toInt = 0 := i_eq c7
                have hF := (if_pos c7).symm.trans hF
                refine lv_bipush (v := (-2)) hx hb dX8_hands_116 (by decide) ?_
                exact g_iret E hr hlk h hQ (fst_of hF) (snd_of hF (fun u => gws ad cI cZ u τ)) dX8_hands_118
              · have ic7 : (F_X2_isAlive σ a2).toInt ≠ 0 := i_ne c7
                have hF := (if_neg c7).symm.trans hF
                refine lv_iload hx hb dX8_hands_104 (lv_at hl 1 rfl) ?_
                refine lv_if_lt (tgt := 116) hx hb dX8_hands_106 (by decide) (fun c8 => ?_) (fun c8 => ?_)
                · have ic8 : ((F_X2_knotsOf σ a1 a3) - a4).toInt < 0 := i_lt c8
                  have hF := (if_pos c8).symm.trans hF
                  refine lv_bipush (v := (-2)) hx hb dX8_hands_116 (by decide) ?_
                  exact g_iret E hr hlk h hQ (fst_of hF) (snd_of hF (fun u => gws ad cI cZ u τ)) dX8_hands_118
                · have ic8 : 0 ≤ ((F_X2_knotsOf σ a1 a3) - a4).toInt := i_nlt c8
                  have hF := (if_neg c8).symm.trans hF
                  refine lv_iload hx hb dX8_hands_109 (lv_at hl 0 rfl) ?_
                  refine lv_bipush (v := 99) hx hb dX8_hands_111 (by decide) ?_
                  refine lv_icmp_le (tgt := 119) hx hb dX8_hands_113 (by decide) (fun c9 => ?_) (fun c9 => ?_)
                  · have ic9 : ((F_X2_knotsOf σ a2 a3) + a4).toInt ≤ 99 := i_le c9
                    have hF := (if_pos c9).symm.trans hF
                    refine lv_aload_n hx hb dX8_hands_119 rfl (lv_at hl 3 rfl) ?_
                    refine g_get (v := .ref (ad 25)) E h 0 rfl rfl layX8 3 (by decide) rfl mw_205 rfl dX8_hands_120 ?_
                    refine g_callVUv (F_X1_remember σ) (fun u => gws ad cI cZ u τ) (rest := []) E h (c_X1_remember l D cI cZ z ad σ τ (show 0 ≤ (σ.1 802).toInt ∧ (σ.1 802).toInt ≤ 10 from by omega)) mw_508 cbX1_remember 25 rfl rfl ⟨by decide, by decide⟩ rfl rfl hl.1 (Nat.le_of_ble_eq_true rfl) ⟨Nat.zero_le _, Nat.zero_le _⟩ dX8_hands_123 (fun u10 huu10 H locs h => ?_)
                    have hF : F_X8_hands_k123_11 σ a1 a2 a3 a4 u10 = (F_X8_hands σ a1 a2 a3 a4) := by rw [← huu10]; exact hF
                    refine lv_aload hx hb dX8_hands_126 (lv_at hl 2 rfl) ?_
                    refine lv_iload_n hx hb dX8_hands_128 rfl (lv_at hl 4 rfl) ?_
                    refine lv_iload_n hx hb dX8_hands_129 rfl (lv_at hl 6 rfl) ?_
                    refine lv_iload hx hb dX8_hands_130 (lv_at hl 1 rfl) ?_
                    refine g_callVUv (F_X2_setKnots u10 a1 a3 ((F_X2_knotsOf σ a1 a3) - a4)) (fun u => gws ad cI cZ u τ) (rest := []) E h (c_X2_setKnots l D cI cZ z ad u10 τ a1 a3 ((F_X2_knotsOf σ a1 a3) - a4)) mw_538 cbX2_setKnots 26 rfl rfl ⟨by decide, by decide⟩ rfl rfl hl.1 (Nat.le_of_ble_eq_true rfl) ⟨Nat.zero_le _, Nat.zero_le _⟩ dX8_hands_132 (fun u12 huu12 H locs h => ?_)
                    have hF : F_X8_hands_k132_13 σ a1 a2 a3 a4 u10 u12 = (F_X8_hands σ a1 a2 a3 a4) := by rw [← huu12]; exact hF
                    refine lv_aload hx hb dX8_hands_135 (lv_at hl 2 rfl) ?_
                    refine lv_iload_n hx hb dX8_hands_137 rfl (lv_at hl 5 rfl) ?_
                    refine lv_iload_n hx hb dX8_hands_138 rfl (lv_at hl 6 rfl) ?_
                    refine lv_iload hx hb dX8_hands_139 (lv_at hl 0 rfl) ?_
                    refine g_callVUv (F_X2_setKnots u12 a2 a3 ((F_X2_knotsOf σ a2 a3) + a4)) (fun u => gws ad cI cZ u τ) (rest := []) E h (c_X2_setKnots l D cI cZ z ad u12 τ a2 a3 ((F_X2_knotsOf σ a2 a3) + a4)) mw_538 cbX2_setKnots 26 rfl rfl ⟨by decide, by decide⟩ rfl rfl hl.1 (Nat.le_of_ble_eq_true rfl) ⟨Nat.zero_le _, Nat.zero_le _⟩ dX8_hands_141 (fun u14 huu14 H locs h => ?_)
                    have hF : F_X8_hands_k141_15 σ a1 a2 a3 a4 u10 u12 u14 = (F_X8_hands σ a1 a2 a3 a4) := by rw [← huu14]; exact hF
                    refine lv_iload hx hb dX8_hands_144 (lv_at hl 0 rfl) ?_
                    exact g_iret E hr hlk h hQ (fst_of hF) (snd_of hF (fun u => gws ad cI cZ u τ)) dX8_hands_146
                  · have ic9 : 99 < ((F_X2_knotsOf σ a2 a3) + a4).toInt := i_nle c9
                    have hF := (if_neg c9).symm.trans hF
                    refine lv_bipush (v := (-2)) hx hb dX8_hands_116 (by decide) ?_
                    exact g_iret E hr hlk h hQ (fst_of hF) (snd_of hF (fun u => gws ad cI cZ u τ)) dX8_hands_118
          · have ic5 : (F_X8_within a4 (1 : Int32) (99 : Int32)).toInt = 0 := i_eq c5
            have hF := (if_pos c5).symm.trans hF
            refine lv_iconst (v := (-1)) hx hb dX8_hands_51 (by decide) ?_
            exact g_iret E hr hlk h hQ (fst_of hF) (snd_of hF (fun u => gws ad cI cZ u τ)) dX8_hands_52
      · have ic3 : a1.toInt = a2.toInt := i_eq c3
        have hF := (if_pos c3).symm.trans hF
        refine lv_iconst (v := (-1)) hx hb dX8_hands_27 (by decide) ?_
        exact g_iret E hr hlk h hQ (fst_of hF) (snd_of hF (fun u => gws ad cI cZ u τ)) dX8_hands_28

def F_X8_undo_k4_2 (σ : St) (u1 : Int32 × St) : Int32 × St := (if u1.1 = 0 then (((-2) : Int32), u1.2) else ((u1.2.1 802), u1.2))
def F_X8_undo (σ : St) : Int32 × St := (F_X8_undo_k4_2 σ (F_X1_takeBack σ))
abbrev I_X8_undo : List Nat := [802]
abbrev A_X8_undo : List Nat := [27]
theorem fr_F_X8_undo_k4_2 (σ : St) (u1 : Int32 × St) (hfr : Fr I_X8_undo A_X8_undo false σ (u1.2)) : Fr I_X8_undo A_X8_undo false σ (F_X8_undo_k4_2  σ u1).2 := (fr_ite2 hfr hfr)
theorem fr_F_X8_undo (σ : St) : Fr I_X8_undo A_X8_undo false σ (F_X8_undo σ).2 := (fr_F_X8_undo_k4_2 σ (F_X1_takeBack σ) (Fr.tr Fr.rf (Fr.mono (by decide) (by decide) (by decide) (fr_F_X1_takeBack σ))))
set_option maxHeartbeats 4000000 in
set_option maxRecDepth 20000 in
theorem c_X8_undo (l : Launch) (D : va_G) (cI cZ : ClassId) (z : Nat) (ad : Nat → Nat) (σ τ : St) (hu_ : 0 ≤ (σ.1 802).toInt ∧ (σ.1 802).toInt ≤ 10) : gM l yX8_undo cX8_undo 1 (some .int) 3 D cI cZ z (gws ad cI cZ σ τ) [.ref (ad 0)] (some (.int (F_X8_undo σ).1)) (gws ad cI cZ (F_X8_undo σ).2 τ) := by
  refine g_met (own := RX8) (by decide) rfl (Nat.le_of_ble_eq_true rfl) (fun p e s m below meth c ls Q E hr hlk h hl hQ => ?_)
  have hx := E.1
  have hb := E.2.1
  have hF : (F_X8_undo σ) = (F_X8_undo σ) := rfl
  have hl : lv_has ls 1 [(0, .ref (ad 0))] := hl
  refine lv_aload_n hx hb dX8_undo_0 rfl (lv_at hl 0 rfl) ?_
  refine g_get (v := .ref (ad 25)) E h 0 rfl rfl layX8 3 (by decide) rfl mw_205 rfl dX8_undo_1 ?_
  refine g_callVU (F_X1_takeBack σ) (fun u => gws ad cI cZ u τ) (rest := []) E h (c_X1_takeBack l D cI cZ z ad σ τ (show 0 ≤ (σ.1 802).toInt ∧ (σ.1 802).toInt ≤ 10 from by omega)) mw_588 cbX1_takeBack 25 rfl rfl ⟨by decide, by decide⟩ rfl rfl hl.1 (Nat.le_of_ble_eq_true rfl) ⟨Nat.zero_le _, Nat.zero_le _⟩ dX8_undo_4 (fun u1 huu1 H locs h => ?_)
  have hF : F_X8_undo_k4_2 σ u1 = (F_X8_undo σ) := by rw [← huu1]; exact hF
  refine lv_if_eq (tgt := 20) hx hb dX8_undo_7 (by decide) (fun c3 => ?_) (fun c3 => ?_)
  · have ic3 : u1.1.toInt = 0 := i_eq c3
    have hF := (if_pos c3).symm.trans hF
    refine lv_bipush (v := (-2)) hx hb dX8_undo_20 (by decide) ?_
    exact g_iret E hr hlk h hQ (fst_of hF) (snd_of hF (fun u => gws ad cI cZ u τ)) dX8_undo_22
  · have ic3 : u1.1.toInt ≠ 0 := i_ne c3
    have hF := (if_neg c3).symm.trans hF
    refine lv_aload_n hx hb dX8_undo_10 rfl (lv_at hl 0 rfl) ?_
    refine g_get (v := .ref (ad 25)) E h 0 rfl rfl layX8 3 (by decide) rfl mw_205 rfl dX8_undo_11 ?_
    refine g_getN (v := .int (u1.2.1 802)) E h 25 rfl rfl layX1 2 (by decide) rfl nf_RX8_230 rfl dX8_undo_14 ?_
    refine lv_goto (tgt := 22) hx hb dX8_undo_17 (by decide) ?_
    exact g_iret E hr hlk h hQ (fst_of hF) (snd_of hF (fun u => gws ad cI cZ u τ)) dX8_undo_22
