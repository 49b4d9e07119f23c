def F_X4_hasWell (σ : St) (a1 : Int32) : Int32 := (if a1 < (0 : Int32) then (0 : Int32) else (if (σ.1 96) ≤ a1 then (0 : Int32) else (if (6 : Int32) ≤ a1 then (0 : Int32) else (1 : Int32))))
set_option maxHeartbeats 4000000 in
set_option maxRecDepth 20000 in
theorem c_X4_hasWell (l : Launch) (D : va_G) (cI cZ : ClassId) (z : Nat) (ad : Nat → Nat) (σ τ : St) (a1 : Int32) : gM l yX4_hasWell cX4_hasWell 2 (some .boolean) 1 D cI cZ z (gws ad cI cZ σ τ) [.ref (ad 3), .int a1] (some (.int (F_X4_hasWell σ a1))) (gws ad cI cZ σ τ) := by
  refine g_met (own := RX4) (by decide) rfl (Nat.le_of_ble_eq_true rfl) (fun p e s m below meth c ls Q E hr hlk h hl hQ => ?_)
  have hx := E.1
  have hb := E.2.1
  have hF : (F_X4_hasWell σ a1) = (F_X4_hasWell σ a1) := rfl
  have hl : lv_has ls 2 [(0, .ref (ad 3)), (1, .int a1)] := hl
  refine lv_iconst (v := 0) hx hb dX4_hasWell_0 (by decide) ?_
  refine lv_iload_n hx hb dX4_hasWell_1 rfl (lv_at hl 1 rfl) ?_
  refine lv_icmp_gt (tgt := 23) hx hb dX4_hasWell_2 (by decide) (fun c1 => ?_) (fun c1 => ?_)
  · have ic1 : a1.toInt < 0 := i_lt c1
    have hF := (if_pos c1).symm.trans hF
    refine lv_iconst (v := 0) hx hb dX4_hasWell_23 (by decide) ?_
    exact g_zret E hr hlk h hQ (rfl) hF rfl dX4_hasWell_24
  · have ic1 : 0 ≤ a1.toInt := i_nlt c1
    have hF := (if_neg c1).symm.trans hF
    refine lv_iload_n hx hb dX4_hasWell_5 rfl (lv_at hl 1 rfl) ?_
    refine lv_aload_n hx hb dX4_hasWell_6 rfl (lv_at hl 0 rfl) ?_
    refine g_get (v := .int (σ.1 96)) E h 3 rfl rfl layX4 0 (by decide) rfl mw_66 rfl dX4_hasWell_7 ?_
    refine lv_icmp_ge (tgt := 23) hx hb dX4_hasWell_10 (by decide) (fun c2 => ?_) (fun c2 => ?_)
    · have ic2 : (σ.1 96).toInt ≤ a1.toInt := i_le c2
      have hF := (if_pos c2).symm.trans hF
      refine lv_iconst (v := 0) hx hb dX4_hasWell_23 (by decide) ?_
      exact g_zret E hr hlk h hQ (rfl) hF rfl dX4_hasWell_24
    · have ic2 : a1.toInt < (σ.1 96).toInt := i_nle c2
      have hF := (if_neg c2).symm.trans hF
      refine lv_iload_n hx hb dX4_hasWell_13 rfl (lv_at hl 1 rfl) ?_
      refine lv_bipush (v := 6) hx hb dX4_hasWell_14 (by decide) ?_
      refine lv_icmp_ge (tgt := 23) hx hb dX4_hasWell_16 (by decide) (fun c3 => ?_) (fun c3 => ?_)
      · have ic3 : 6 ≤ a1.toInt := i_le c3
        have hF := (if_pos c3).symm.trans hF
        refine lv_iconst (v := 0) hx hb dX4_hasWell_23 (by decide) ?_
        exact g_zret E hr hlk h hQ (rfl) hF rfl dX4_hasWell_24
      · have ic3 : a1.toInt < 6 := i_nle c3
        have hF := (if_neg c3).symm.trans hF
        refine lv_iconst (v := 1) hx hb dX4_hasWell_19 (by decide) ?_
        refine lv_goto (tgt := 24) hx hb dX4_hasWell_20 (by decide) ?_
        exact g_zret E hr hlk h hQ (rfl) hF rfl dX4_hasWell_24

theorem fz_hasWell {σ : St} {w : Int32} (h : ¬ F_X4_hasWell σ w = 0) : 0 ≤ w.toInt ∧ w.toInt < (σ.1 96).toInt ∧ w.toInt < 6 := by
  unfold F_X4_hasWell at h
  split at h
  · exact absurd rfl h
  · rename_i h1
    split at h
    · exact absurd rfl h
    · rename_i h2
      split at h
      · exact absurd rfl h
      · rename_i h3
        exact ⟨i_nlt h1, i_nle h2, i_nle h3⟩

def F_X4_hasStage (σ : St) (a1 : Int32) : Int32 := (if a1 < (0 : Int32) then (0 : Int32) else (if (σ.1 97) ≤ a1 then (0 : Int32) else (if (8 : Int32) ≤ a1 then (0 : Int32) else (1 : Int32))))
set_option maxHeartbeats 4000000 in
set_option maxRecDepth 20000 in
theorem c_X4_hasStage (l : Launch) (D : va_G) (cI cZ : ClassId) (z : Nat) (ad : Nat → Nat) (σ τ : St) (a1 : Int32) : gM l yX4_hasStage cX4_hasStage 2 (some .boolean) 1 D cI cZ z (gws ad cI cZ σ τ) [.ref (ad 3), .int a1] (some (.int (F_X4_hasStage σ a1))) (gws ad cI cZ σ τ) := by
  refine g_met (own := RX4) (by decide) rfl (Nat.le_of_ble_eq_true rfl) (fun p e s m below meth c ls Q E hr hlk h hl hQ => ?_)
  have hx := E.1
  have hb := E.2.1
  have hF : (F_X4_hasStage σ a1) = (F_X4_hasStage σ a1) := rfl
  have hl : lv_has ls 2 [(0, .ref (ad 3)), (1, .int a1)] := hl
  refine lv_iconst (v := 0) hx hb dX4_hasStage_0 (by decide) ?_
  refine lv_iload_n hx hb dX4_hasStage_1 rfl (lv_at hl 1 rfl) ?_
  refine lv_icmp_gt (tgt := 23) hx hb dX4_hasStage_2 (by decide) (fun c1 => ?_) (fun c1 => ?_)
  · have ic1 : a1.toInt < 0 := i_lt c1
    have hF := (if_pos c1).symm.trans hF
    refine lv_iconst (v := 0) hx hb dX4_hasStage_23 (by decide) ?_
    exact g_zret E hr hlk h hQ (rfl) hF rfl dX4_hasStage_24
  · have ic1 : 0 ≤ a1.toInt := i_nlt c1
    have hF := (if_neg c1).symm.trans hF
    refine lv_iload_n hx hb dX4_hasStage_5 rfl (lv_at hl 1 rfl) ?_
    refine lv_aload_n hx hb dX4_hasStage_6 rfl (lv_at hl 0 rfl) ?_
    refine g_get (v := .int (σ.1 97)) E h 3 rfl rfl layX4 1 (by decide) rfl mw_70 rfl dX4_hasStage_7 ?_
    refine lv_icmp_ge (tgt := 23) hx hb dX4_hasStage_10 (by decide) (fun c2 => ?_) (fun c2 => ?_)
    · have ic2 : (σ.1 97).toInt ≤ a1.toInt := i_le c2
      have hF := (if_pos c2).symm.trans hF
      refine lv_iconst (v := 0) hx hb dX4_hasStage_23 (by decide) ?_
      exact g_zret E hr hlk h hQ (rfl) hF rfl dX4_hasStage_24
    · have ic2 : a1.toInt < (σ.1 97).toInt := i_nle c2
      have hF := (if_neg c2).symm.trans hF
      refine lv_iload_n hx hb dX4_hasStage_13 rfl (lv_at hl 1 rfl) ?_
      refine lv_bipush (v := 8) hx hb dX4_hasStage_14 (by decide) ?_
      refine lv_icmp_ge (tgt := 23) hx hb dX4_hasStage_16 (by decide) (fun c3 => ?_) (fun c3 => ?_)
      · have ic3 : 8 ≤ a1.toInt := i_le c3
        have hF := (if_pos c3).symm.trans hF
        refine lv_iconst (v := 0) hx hb dX4_hasStage_23 (by decide) ?_
        exact g_zret E hr hlk h hQ (rfl) hF rfl dX4_hasStage_24
      · have ic3 : a1.toInt < 8 := i_nle c3
        have hF := (if_neg c3).symm.trans hF
        refine lv_iconst (v := 1) hx hb dX4_hasStage_19 (by decide) ?_
        refine lv_goto (tgt := 24) hx hb dX4_hasStage_20 (by decide) ?_
        exact g_zret E hr hlk h hQ (rfl) hF rfl dX4_hasStage_24

theorem fz_hasStage {σ : St} {w : Int32} (h : ¬ F_X4_hasStage σ w = 0) : 0 ≤ w.toInt ∧ w.toInt < (σ.1 97).toInt ∧ w.toInt < 8 := by
  unfold F_X4_hasStage at h
  split at h
  · exact absurd rfl h
  · rename_i h1
    split at h
    · exact absurd rfl h
    · rename_i h2
      split at h
      · exact absurd rfl h
      · rename_i h3
        exact ⟨i_nlt h1, i_nle h2, i_nle h3⟩

def F_X4_hasCaravan (σ : St) (a1 : Int32) : Int32 := (if a1 < (0 : Int32) then (0 : Int32) else (if (σ.1 98) ≤ a1 then (0 : Int32) else (if (4 : Int32) ≤ a1 then (0 : Int32) else (1 : Int32))))
set_option maxHeartbeats 4000000 in
set_option maxRecDepth 20000 in
theorem c_X4_hasCaravan (l : Launch) (D : va_G) (cI cZ : ClassId) (z : Nat) (ad : Nat → Nat) (σ τ : St) (a1 : Int32) : gM l yX4_hasCaravan cX4_hasCaravan 2 (some .boolean) 1 D cI cZ z (gws ad cI cZ σ τ) [.ref (ad 3), .int a1] (some (.int (F_X4_hasCaravan σ a1))) (gws ad cI cZ σ τ) := by
  refine g_met (own := RX4) (by decide) rfl (Nat.le_of_ble_eq_true rfl) (fun p e s m below meth c ls Q E hr hlk h hl hQ => ?_)
  have hx := E.1
  have hb := E.2.1
  have hF : (F_X4_hasCaravan σ a1) = (F_X4_hasCaravan σ a1) := rfl
  have hl : lv_has ls 2 [(0, .ref (ad 3)), (1, .int a1)] := hl
  refine lv_iconst (v := 0) hx hb dX4_hasCaravan_0 (by decide) ?_
  refine lv_iload_n hx hb dX4_hasCaravan_1 rfl (lv_at hl 1 rfl) ?_
  refine lv_icmp_gt (tgt := 22) hx hb dX4_hasCaravan_2 (by decide) (fun c1 => ?_) (fun c1 => ?_)
  · have ic1 : a1.toInt < 0 := i_lt c1
    have hF := (if_pos c1).symm.trans hF
    refine lv_iconst (v := 0) hx hb dX4_hasCaravan_22 (by decide) ?_
    exact g_zret E hr hlk h hQ (rfl) hF rfl dX4_hasCaravan_23
  · have ic1 : 0 ≤ a1.toInt := i_nlt c1
    have hF := (if_neg c1).symm.trans hF
    refine lv_iload_n hx hb dX4_hasCaravan_5 rfl (lv_at hl 1 rfl) ?_
    refine lv_aload_n hx hb dX4_hasCaravan_6 rfl (lv_at hl 0 rfl) ?_
    refine g_get (v := .int (σ.1 98)) E h 3 rfl rfl layX4 2 (by decide) rfl mw_72 rfl dX4_hasCaravan_7 ?_
    refine lv_icmp_ge (tgt := 22) hx hb dX4_hasCaravan_10 (by decide) (fun c2 => ?_) (fun c2 => ?_)
    · have ic2 : (σ.1 98).toInt ≤ a1.toInt := i_le c2
      have hF := (if_pos c2).symm.trans hF
      refine lv_iconst (v := 0) hx hb dX4_hasCaravan_22 (by decide) ?_
      exact g_zret E hr hlk h hQ (rfl) hF rfl dX4_hasCaravan_23
    · have ic2 : a1.toInt < (σ.1 98).toInt := i_nle c2
      have hF := (if_neg c2).symm.trans hF
      refine lv_iload_n hx hb dX4_hasCaravan_13 rfl (lv_at hl 1 rfl) ?_
      refine lv_iconst (v := 4) hx hb dX4_hasCaravan_14 (by decide) ?_
      refine lv_icmp_ge (tgt := 22) hx hb dX4_hasCaravan_15 (by decide) (fun c3 => ?_) (fun c3 => ?_)
      · have ic3 : 4 ≤ a1.toInt := i_le c3
        have hF := (if_pos c3).symm.trans hF
        refine lv_iconst (v := 0) hx hb dX4_hasCaravan_22 (by decide) ?_
        exact g_zret E hr hlk h hQ (rfl) hF rfl dX4_hasCaravan_23
      · have ic3 : a1.toInt < 4 := i_nle c3
        have hF := (if_neg c3).symm.trans hF
        refine lv_iconst (v := 1) hx hb dX4_hasCaravan_18 (by decide) ?_
        refine lv_goto (tgt := 23) hx hb dX4_hasCaravan_19 (by decide) ?_
        exact g_zret E hr hlk h hQ (rfl) hF rfl dX4_hasCaravan_23

theorem fz_hasCaravan {σ : St} {w : Int32} (h : ¬ F_X4_hasCaravan σ w = 0) : 0 ≤ w.toInt ∧ w.toInt < (σ.1 98).toInt ∧ w.toInt < 4 := by
  unfold F_X4_hasCaravan at h
  split at h
  · exact absurd rfl h
  · rename_i h1
    split at h
    · exact absurd rfl h
    · rename_i h2
      split at h
      · exact absurd rfl h
      · rename_i h3
        exact ⟨i_nlt h1, i_nle h2, i_nle h3⟩

def F_X4_refusesNight (σ : St) (a1 : Int32) : Int32 := (if (F_X4_hasWell σ a1) = 0 then (0 : Int32) else (if ((σ.2.1 4) a1.toNatClampNeg) = 0 then (0 : Int32) else (1 : Int32)))
set_option maxHeartbeats 4000000 in
set_option maxRecDepth 20000 in
theorem c_X4_refusesNight (l : Launch) (D : va_G) (cI cZ : ClassId) (z : Nat) (ad : Nat → Nat) (σ τ : St) (a1 : Int32) : gM l yX4_refusesNight cX4_refusesNight 2 (some .boolean) 2 D cI cZ z (gws ad cI cZ σ τ) [.ref (ad 3), .int a1] (some (.int (F_X4_refusesNight σ a1))) (gws ad cI cZ σ τ) := by
  refine g_met (own := RX4) (by decide) rfl (Nat.le_of_ble_eq_true rfl) (fun p e s m below meth c ls Q E hr hlk h hl hQ => ?_)
  have hx := E.1
  have hb := E.2.1
  have hF : (F_X4_refusesNight σ a1) = (F_X4_refusesNight σ a1) := rfl
  have hl : lv_has ls 2 [(0, .ref (ad 3)), (1, .int a1)] := hl
  refine lv_aload_n hx hb dX4_refusesNight_0 rfl (lv_at hl 0 rfl) ?_
  refine lv_iload_n hx hb dX4_refusesNight_1 rfl (lv_at hl 1 rfl) ?_
  refine g_callVi (rest := []) E h (c_X4_hasWell l D cI cZ z ad σ τ a1) mw_466 cbX4_hasWell 3 rfl rfl ⟨by decide, by decide⟩ rfl rfl hl.1 (Nat.le_of_ble_eq_true rfl) ⟨Nat.zero_le _, Nat.zero_le _⟩ dX4_refusesNight_2 (fun H locs h => ?_)
  refine lv_if_eq (tgt := 21) hx hb dX4_refusesNight_5 (by decide) (fun c1 => ?_) (fun c1 => ?_)
  · have ic1 : (F_X4_hasWell σ a1).toInt = 0 := i_eq c1
    have hF := (if_pos c1).symm.trans hF
    refine lv_iconst (v := 0) hx hb dX4_refusesNight_21 (by decide) ?_
    exact g_zret E hr hlk h hQ (rfl) hF rfl dX4_refusesNight_22
  · have ic1 : (F_X4_hasWell σ a1).toInt ≠ 0 := i_ne c1
    have jc1 := fz_hasWell c1
    have hF := (if_neg c1).symm.trans hF
    refine lv_aload_n hx hb dX4_refusesNight_8 rfl (lv_at hl 0 rfl) ?_
    refine g_get (v := .ref (ad 4)) E h 3 rfl rfl layX4 3 (by decide) rfl mw_74 rfl dX4_refusesNight_9 ?_
    refine lv_iload_n hx hb dX4_refusesNight_12 rfl (lv_at hl 1 rfl) ?_
    refine g_zald (f := (σ.2.1 4)) E h 4 rfl (ix_of (oI_at a1) (by omega) (by decide)) dX4_refusesNight_13 ?_
    refine lv_if_eq (tgt := 21) hx hb dX4_refusesNight_14 (by decide) (fun c2 => ?_) (fun c2 => ?_)
    · have ic2 : ((σ.2.1 4) a1.toNatClampNeg).toInt = 0 := i_eq c2
      have hF := (if_pos c2).symm.trans hF
      refine lv_iconst (v := 0) hx hb dX4_refusesNight_21 (by decide) ?_
      exact g_zret E hr hlk h hQ (rfl) hF rfl dX4_refusesNight_22
    · have ic2 : ((σ.2.1 4) a1.toNatClampNeg).toInt ≠ 0 := i_ne c2
      have hF := (if_neg c2).symm.trans hF
      refine lv_iconst (v := 1) hx hb dX4_refusesNight_17 (by decide) ?_
      refine lv_goto (tgt := 22) hx hb dX4_refusesNight_18 (by decide) ?_
      exact g_zret E hr hlk h hQ (rfl) hF rfl dX4_refusesNight_22

def F_X4_firstEnd (σ : St) (a1 : Int32) : Int32 := (if (F_X4_hasStage σ a1) = 0 then ((-9) : Int32) else ((σ.2.1 5) a1.toNatClampNeg))
set_option maxHeartbeats 4000000 in
set_option maxRecDepth 20000 in
theorem c_X4_firstEnd (l : Launch) (D : va_G) (cI cZ : ClassId) (z : Nat) (ad : Nat → Nat) (σ τ : St) (a1 : Int32) : gM l yX4_firstEnd cX4_firstEnd 2 (some .int) 2 D cI cZ z (gws ad cI cZ σ τ) [.ref (ad 3), .int a1] (some (.int (F_X4_firstEnd σ a1))) (gws ad cI cZ σ τ) := by
  refine g_met (own := RX4) (by decide) rfl (Nat.le_of_ble_eq_true rfl) (fun p e s m below meth c ls Q E hr hlk h hl hQ => ?_)
  have hx := E.1
  have hb := E.2.1
  have hF : (F_X4_firstEnd σ a1) = (F_X4_firstEnd σ a1) := rfl
  have hl : lv_has ls 2 [(0, .ref (ad 3)), (1, .int a1)] := hl
  refine lv_aload_n hx hb dX4_firstEnd_0 rfl (lv_at hl 0 rfl) ?_
  refine lv_iload_n hx hb dX4_firstEnd_1 rfl (lv_at hl 1 rfl) ?_
  refine g_callVi (rest := []) E h (c_X4_hasStage l D cI cZ z ad σ τ a1) mw_396 cbX4_hasStage 3 rfl rfl ⟨by decide, by decide⟩ rfl rfl hl.1 (Nat.le_of_ble_eq_true rfl) ⟨Nat.zero_le _, Nat.zero_le _⟩ dX4_firstEnd_2 (fun H locs h => ?_)
  refine lv_if_eq (tgt := 17) hx hb dX4_firstEnd_5 (by decide) (fun c1 => ?_) (fun c1 => ?_)
  · have ic1 : (F_X4_hasStage σ a1).toInt = 0 := i_eq c1
    have hF := (if_pos c1).symm.trans hF
    refine lv_bipush (v := (-9)) hx hb dX4_firstEnd_17 (by decide) ?_
    exact g_iret E hr hlk h hQ hF rfl dX4_firstEnd_19
  · have ic1 : (F_X4_hasStage σ a1).toInt ≠ 0 := i_ne c1
    have jc1 := fz_hasStage c1
    have hF := (if_neg c1).symm.trans hF
    refine lv_aload_n hx hb dX4_firstEnd_8 rfl (lv_at hl 0 rfl) ?_
    refine g_get (v := .ref (ad 5)) E h 3 rfl rfl layX4 4 (by decide) rfl mw_75 rfl dX4_firstEnd_9 ?_
    refine lv_iload_n hx hb dX4_firstEnd_12 rfl (lv_at hl 1 rfl) ?_
    refine g_iald (f := (σ.2.1 5)) E h 5 rfl (ix_of (oI_at a1) (by omega) (by decide)) dX4_firstEnd_13 ?_
    refine lv_goto (tgt := 19) hx hb dX4_firstEnd_14 (by decide) ?_
    exact g_iret E hr hlk h hQ hF rfl dX4_firstEnd_19

def F_X4_secondEnd (σ : St) (a1 : Int32) : Int32 := (if (F_X4_hasStage σ a1) = 0 then ((-9) : Int32) else ((σ.2.1 6) a1.toNatClampNeg))
set_option maxHeartbeats 4000000 in
set_option maxRecDepth 20000 in
theorem c_X4_secondEnd (l : Launch) (D : va_G) (cI cZ : ClassId) (z : Nat) (ad : Nat → Nat) (σ τ : St) (a1 : Int32) : gM l yX4_secondEnd cX4_secondEnd 2 (some .int) 2 D cI cZ z (gws ad cI cZ σ τ) [.ref (ad 3), .int a1] (some (.int (F_X4_secondEnd σ a1))) (gws ad cI cZ σ τ) := by
  refine g_met (own := RX4) (by decide) rfl (Nat.le_of_ble_eq_true rfl) (fun p e s m below meth c ls Q E hr hlk h hl hQ => ?_)
  have hx := E.1
  have hb := E.2.1
  have hF : (F_X4_secondEnd σ a1) = (F_X4_secondEnd σ a1) := rfl
  have hl : lv_has ls 2 [(0, .ref (ad 3)), (1, .int a1)] := hl
  refine lv_aload_n hx hb dX4_secondEnd_0 rfl (lv_at hl 0 rfl) ?_
  refine lv_iload_n hx hb dX4_secondEnd_1 rfl (lv_at hl 1 rfl) ?_
  refine g_callVi (rest := []) E h (c_X4_hasStage l D cI cZ z ad σ τ a1) mw_396 cbX4_hasStage 3 rfl rfl ⟨by decide, by decide⟩ rfl rfl hl.1 (Nat.le_of_ble_eq_true rfl) ⟨Nat.zero_le _, Nat.zero_le _⟩ dX4_secondEnd_2 (fun H locs h => ?_)
  refine lv_if_eq (tgt := 17) hx hb dX4_secondEnd_5 (by decide) (fun c1 => ?_) (fun c1 => ?_)
  · have ic1 : (F_X4_hasStage σ a1).toInt = 0 := i_eq c1
    have hF := (if_pos c1).symm.trans hF
    refine lv_bipush (v := (-9)) hx hb dX4_secondEnd_17 (by decide) ?_
    exact g_iret E hr hlk h hQ hF rfl dX4_secondEnd_19
  · have ic1 : (F_X4_hasStage σ a1).toInt ≠ 0 := i_ne c1
    have jc1 := fz_hasStage c1
    have hF := (if_neg c1).symm.trans hF
    refine lv_aload_n hx hb dX4_secondEnd_8 rfl (lv_at hl 0 rfl) ?_
    refine g_get (v := .ref (ad 6)) E h 3 rfl rfl layX4 5 (by decide) rfl mw_76 rfl dX4_secondEnd_9 ?_
    refine lv_iload_n hx hb dX4_secondEnd_12 rfl (lv_at hl 1 rfl) ?_
    refine g_iald (f := (σ.2.1 6)) E h 6 rfl (ix_of (oI_at a1) (by omega) (by decide)) dX4_secondEnd_13 ?_
    refine lv_goto (tgt := 19) hx hb dX4_secondEnd_14 (by decide) ?_
    exact g_iret E hr hlk h hQ hF rfl dX4_secondEnd_19

def F_X4_heatOf (σ : St) (a1 : Int32) : Int32 := (if (F_X4_hasStage σ a1) = 0 then (0 : Int32) else ((σ.2.1 7) a1.toNatClampNeg))
set_option maxHeartbeats 4000000 in
set_option maxRecDepth 20000 in
theorem c_X4_heatOf (l : Launch) (D : va_G) (cI cZ : ClassId) (z : Nat) (ad : Nat → Nat) (σ τ : St) (a1 : Int32) : gM l yX4_heatOf cX4_heatOf 2 (some .int) 2 D cI cZ z (gws ad cI cZ σ τ) [.ref (ad 3), .int a1] (some (.int (F_X4_heatOf σ a1))) (gws ad cI cZ σ τ) := by
  refine g_met (own := RX4) (by decide) rfl (Nat.le_of_ble_eq_true rfl) (fun p e s m below meth c ls Q E hr hlk h hl hQ => ?_)
  have hx := E.1
  have hb := E.2.1
  have hF : (F_X4_heatOf σ a1) = (F_X4_heatOf σ a1) := rfl
  have hl : lv_has ls 2 [(0, .ref (ad 3)), (1, .int a1)] := hl
  refine lv_aload_n hx hb dX4_heatOf_0 rfl (lv_at hl 0 rfl) ?_
  refine lv_iload_n hx hb dX4_heatOf_1 rfl (lv_at hl 1 rfl) ?_
  refine g_callVi (rest := []) E h (c_X4_hasStage l D cI cZ z ad σ τ a1) mw_396 cbX4_hasStage 3 rfl rfl ⟨by decide, by decide⟩ rfl rfl hl.1 (Nat.le_of_ble_eq_true rfl) ⟨Nat.zero_le _, Nat.zero_le _⟩ dX4_heatOf_2 (fun H locs h => ?_)
  refine lv_if_eq (tgt := 17) hx hb dX4_heatOf_5 (by decide) (fun c1 => ?_) (fun c1 => ?_)
  · have ic1 : (F_X4_hasStage σ a1).toInt = 0 := i_eq c1
    have hF := (if_pos c1).symm.trans hF
    refine lv_iconst (v := 0) hx hb dX4_heatOf_17 (by decide) ?_
    exact g_iret E hr hlk h hQ hF rfl dX4_heatOf_18
  · have ic1 : (F_X4_hasStage σ a1).toInt ≠ 0 := i_ne c1
    have jc1 := fz_hasStage c1
    have hF := (if_neg c1).symm.trans hF
    refine lv_aload_n hx hb dX4_heatOf_8 rfl (lv_at hl 0 rfl) ?_
    refine g_get (v := .ref (ad 7)) E h 3 rfl rfl layX4 6 (by decide) rfl mw_77 rfl dX4_heatOf_9 ?_
    refine lv_iload_n hx hb dX4_heatOf_12 rfl (lv_at hl 1 rfl) ?_
    refine g_iald (f := (σ.2.1 7)) E h 7 rfl (ix_of (oI_at a1) (by omega) (by decide)) dX4_heatOf_13 ?_
    refine lv_goto (tgt := 18) hx hb dX4_heatOf_14 (by decide) ?_
    exact g_iret E hr hlk h hQ hF rfl dX4_heatOf_18

def F_X4_isByNight (σ : St) (a1 : Int32) : Int32 := (if (F_X4_hasStage σ a1) = 0 then (0 : Int32) else (if ((σ.2.1 8) a1.toNatClampNeg) = 0 then (0 : Int32) else (1 : Int32)))
set_option maxHeartbeats 4000000 in
set_option maxRecDepth 20000 in
theorem c_X4_isByNight (l : Launch) (D : va_G) (cI cZ : ClassId) (z : Nat) (ad : Nat → Nat) (σ τ : St) (a1 : Int32) : gM l yX4_isByNight cX4_isByNight 2 (some .boolean) 2 D cI cZ z (gws ad cI cZ σ τ) [.ref (ad 3), .int a1] (some (.int (F_X4_isByNight σ a1))) (gws ad cI cZ σ τ) := by
  refine g_met (own := RX4) (by decide) rfl (Nat.le_of_ble_eq_true rfl) (fun p e s m below meth c ls Q E hr hlk h hl hQ => ?_)
  have hx := E.1
  have hb := E.2.1
  have hF : (F_X4_isByNight σ a1) = (F_X4_isByNight σ a1) := rfl
  have hl : lv_has ls 2 [(0, .ref (ad 3)), (1, .int a1)] := hl
  refine lv_aload_n hx hb dX4_isByNight_0 rfl (lv_at hl 0 rfl) ?_
  refine lv_iload_n hx hb dX4_isByNight_1 rfl (lv_at hl 1 rfl) ?_
  refine g_callVi (rest := []) E h (c_X4_hasStage l D cI cZ z ad σ τ a1) mw_396 cbX4_hasStage 3 rfl rfl ⟨by decide, by decide⟩ rfl rfl hl.1 (Nat.le_of_ble_eq_true rfl) ⟨Nat.zero_le _, Nat.zero_le _⟩ dX4_isByNight_2 (fun H locs h => ?_)
  refine lv_if_eq (tgt := 21) hx hb dX4_isByNight_5 (by decide) (fun c1 => ?_) (fun c1 => ?_)
  · have ic1 : (F_X4_hasStage σ a1).toInt = 0 := i_eq c1
    have hF := (if_pos c1).symm.trans hF
    refine lv_iconst (v := 0) hx hb dX4_isByNight_21 (by decide) ?_
    exact g_zret E hr hlk h hQ (rfl) hF rfl dX4_isByNight_22
  · have ic1 : (F_X4_hasStage σ a1).toInt ≠ 0 := i_ne c1
    have jc1 := fz_hasStage c1
    have hF := (if_neg c1).symm.trans hF
    refine lv_aload_n hx hb dX4_isByNight_8 rfl (lv_at hl 0 rfl) ?_
    refine g_get (v := .ref (ad 8)) E h 3 rfl rfl layX4 7 (by decide) rfl mw_78 rfl dX4_isByNight_9 ?_
    refine lv_iload_n hx hb dX4_isByNight_12 rfl (lv_at hl 1 rfl) ?_
    refine g_zald (f := (σ.2.1 8)) E h 8 rfl (ix_of (oI_at a1) (by omega) (by decide)) dX4_isByNight_13 ?_
    refine lv_if_eq (tgt := 21) hx hb dX4_isByNight_14 (by decide) (fun c2 => ?_) (fun c2 => ?_)
    · have ic2 : ((σ.2.1 8) a1.toNatClampNeg).toInt = 0 := i_eq c2
      have hF := (if_pos c2).symm.trans hF
      refine lv_iconst (v := 0) hx hb dX4_isByNight_21 (by decide) ?_
      exact g_zret E hr hlk h hQ (rfl) hF rfl dX4_isByNight_22
    · have ic2 : ((σ.2.1 8) a1.toNatClampNeg).toInt ≠ 0 := i_ne c2
      have hF := (if_neg c2).symm.trans hF
      refine lv_iconst (v := 1) hx hb dX4_isByNight_17 (by decide) ?_
      refine lv_goto (tgt := 22) hx hb dX4_isByNight_18 (by decide) ?_
      exact g_zret E hr hlk h hQ (rfl) hF rfl dX4_isByNight_22

def F_X4_lenderOf (σ : St) (a1 : Int32) : Int32 := (if (F_X4_hasStage σ a1) = 0 then ((-9) : Int32) else ((σ.2.1 9) a1.toNatClampNeg))
set_option maxHeartbeats 4000000 in
set_option maxRecDepth 20000 in
theorem c_X4_lenderOf (l : Launch) (D : va_G) (cI cZ : ClassId) (z : Nat) (ad : Nat → Nat) (σ τ : St) (a1 : Int32) : gM l yX4_lenderOf cX4_lenderOf 2 (some .int) 2 D cI cZ z (gws ad cI cZ σ τ) [.ref (ad 3), .int a1] (some (.int (F_X4_lenderOf σ a1))) (gws ad cI cZ σ τ) := by
  refine g_met (own := RX4) (by decide) rfl (Nat.le_of_ble_eq_true rfl) (fun p e s m below meth c ls Q E hr hlk h hl hQ => ?_)
  have hx := E.1
  have hb := E.2.1
  have hF : (F_X4_lenderOf σ a1) = (F_X4_lenderOf σ a1) := rfl
  have hl : lv_has ls 2 [(0, .ref (ad 3)), (1, .int a1)] := hl
  refine lv_aload_n hx hb dX4_lenderOf_0 rfl (lv_at hl 0 rfl) ?_
  refine lv_iload_n hx hb dX4_lenderOf_1 rfl (lv_at hl 1 rfl) ?_
  refine g_callVi (rest := []) E h (c_X4_hasStage l D cI cZ z ad σ τ a1) mw_396 cbX4_hasStage 3 rfl rfl ⟨by decide, by decide⟩ rfl rfl hl.1 (Nat.le_of_ble_eq_true rfl) ⟨Nat.zero_le _, Nat.zero_le _⟩ dX4_lenderOf_2 (fun H locs h => ?_)
  refine lv_if_eq (tgt := 17) hx hb dX4_lenderOf_5 (by decide) (fun c1 => ?_) (fun c1 => ?_)
  · have ic1 : (F_X4_hasStage σ a1).toInt = 0 := i_eq c1
    have hF := (if_pos c1).symm.trans hF
    refine lv_bipush (v := (-9)) hx hb dX4_lenderOf_17 (by decide) ?_
    exact g_iret E hr hlk h hQ hF rfl dX4_lenderOf_19
  · have ic1 : (F_X4_hasStage σ a1).toInt ≠ 0 := i_ne c1
    have jc1 := fz_hasStage c1
    have hF := (if_neg c1).symm.trans hF
    refine lv_aload_n hx hb dX4_lenderOf_8 rfl (lv_at hl 0 rfl) ?_
    refine g_get (v := .ref (ad 9)) E h 3 rfl rfl layX4 8 (by decide) rfl mw_79 rfl dX4_lenderOf_9 ?_
    refine lv_iload_n hx hb dX4_lenderOf_12 rfl (lv_at hl 1 rfl) ?_
    refine g_iald (f := (σ.2.1 9)) E h 9 rfl (ix_of (oI_at a1) (by omega) (by decide)) dX4_lenderOf_13 ?_
    refine lv_goto (tgt := 19) hx hb dX4_lenderOf_14 (by decide) ?_
    exact g_iret E hr hlk h hQ hF rfl dX4_lenderOf_19

def F_X4_bearsOf (σ : St) (a1 : Int32) : Int32 := (if (F_X4_hasCaravan σ a1) = 0 then (0 : Int32) else ((σ.2.1 10) a1.toNatClampNeg))
set_option maxHeartbeats 4000000 in
set_option maxRecDepth 20000 in
theorem c_X4_bearsOf (l : Launch) (D : va_G) (cI cZ : ClassId) (z : Nat) (ad : Nat → Nat) (σ τ : St) (a1 : Int32) : gM l yX4_bearsOf cX4_bearsOf 2 (some .int) 2 D cI cZ z (gws ad cI cZ σ τ) [.ref (ad 3), .int a1] (some (.int (F_X4_bearsOf σ a1))) (gws ad cI cZ σ τ) := by
  refine g_met (own := RX4) (by decide) rfl (Nat.le_of_ble_eq_true rfl) (fun p e s m below meth c ls Q E hr hlk h hl hQ => ?_)
  have hx := E.1
  have hb := E.2.1
  have hF : (F_X4_bearsOf σ a1) = (F_X4_bearsOf σ a1) := rfl
  have hl : lv_has ls 2 [(0, .ref (ad 3)), (1, .int a1)] := hl
  refine lv_aload_n hx hb dX4_bearsOf_0 rfl (lv_at hl 0 rfl) ?_
  refine lv_iload_n hx hb dX4_bearsOf_1 rfl (lv_at hl 1 rfl) ?_
  refine g_callVi (rest := []) E h (c_X4_hasCaravan l D cI cZ z ad σ τ a1) mw_433 cbX4_hasCaravan 3 rfl rfl ⟨by decide, by decide⟩ rfl rfl hl.1 (Nat.le_of_ble_eq_true rfl) ⟨Nat.zero_le _, Nat.zero_le _⟩ dX4_bearsOf_2 (fun H locs h => ?_)
  refine lv_if_eq (tgt := 17) hx hb dX4_bearsOf_5 (by decide) (fun c1 => ?_) (fun c1 => ?_)
  · have ic1 : (F_X4_hasCaravan σ a1).toInt = 0 := i_eq c1
    have hF := (if_pos c1).symm.trans hF
    refine lv_iconst (v := 0) hx hb dX4_bearsOf_17 (by decide) ?_
    exact g_iret E hr hlk h hQ hF rfl dX4_bearsOf_18
  · have ic1 : (F_X4_hasCaravan σ a1).toInt ≠ 0 := i_ne c1
    have jc1 := fz_hasCaravan c1
    have hF := (if_neg c1).symm.trans hF
    refine lv_aload_n hx hb dX4_bearsOf_8 rfl (lv_at hl 0 rfl) ?_
    refine g_get (v := .ref (ad 10)) E h 3 rfl rfl layX4 9 (by decide) rfl mw_80 rfl dX4_bearsOf_9 ?_
    refine lv_iload_n hx hb dX4_bearsOf_12 rfl (lv_at hl 1 rfl) ?_
    refine g_iald (f := (σ.2.1 10)) E h 10 rfl (ix_of (oI_at a1) (by omega) (by decide)) dX4_bearsOf_13 ?_
    refine lv_goto (tgt := 18) hx hb dX4_bearsOf_14 (by decide) ?_
    exact g_iret E hr hlk h hQ hF rfl dX4_bearsOf_18

def F_X4_otherEnd (σ : St) (a1 : Int32) (a2 : Int32) : Int32 := (if (F_X4_firstEnd σ a1) = a2 then (F_X4_secondEnd σ a1) else (if (F_X4_secondEnd σ a1) = a2 then (F_X4_firstEnd σ a1) else ((-9) : Int32)))
set_option maxHeartbeats 4000000 in
set_option maxRecDepth 20000 in
theorem c_X4_otherEnd (l : Launch) (D : va_G) (cI cZ : ClassId) (z : Nat) (ad : Nat → Nat) (σ τ : St) (a1 a2 : Int32) : gM l yX4_otherEnd cX4_otherEnd 3 (some .int) 3 D cI cZ z (gws ad cI cZ σ τ) [.ref (ad 3), .int a1, .int a2] (some (.int (F_X4_otherEnd σ a1 a2))) (gws ad cI cZ σ τ) := by
  refine g_met (own := RX4) (by decide) rfl (Nat.le_of_ble_eq_true rfl) (fun p e s m below meth c ls Q E hr hlk h hl hQ => ?_)
  have hx := E.1
  have hb := E.2.1
  have hF : (F_X4_otherEnd σ a1 a2) = (F_X4_otherEnd σ a1 a2) := rfl
  have hl : lv_has ls 3 [(0, .ref (ad 3)), (1, .int a1), (2, .int a2)] := hl
  refine lv_aload_n hx hb dX4_otherEnd_0 rfl (lv_at hl 0 rfl) ?_
  refine lv_iload_n hx hb dX4_otherEnd_1 rfl (lv_at hl 1 rfl) ?_
  refine g_callVi (rest := []) E h (c_X4_firstEnd l D cI cZ z ad σ τ a1) mw_506 cbX4_firstEnd 3 rfl rfl ⟨by decide, by decide⟩ rfl rfl hl.1 (Nat.le_of_ble_eq_true rfl) ⟨Nat.zero_le _, Nat.zero_le _⟩ dX4_otherEnd_2 (fun H locs h => ?_)
  refine lv_iload_n hx hb dX4_otherEnd_5 rfl (lv_at hl 2 rfl) ?_
  refine lv_icmp_ne (tgt := 15) hx hb dX4_otherEnd_6 (by decide) (fun c1 => ?_) (fun c1 => ?_)
  · have ic1 : (F_X4_firstEnd σ a1).toInt ≠ a2.toInt := i_ne c1
    have hF := (if_neg c1).symm.trans hF
    refine lv_aload_n hx hb dX4_otherEnd_15 rfl (lv_at hl 0 rfl) ?_
    refine lv_iload_n hx hb dX4_otherEnd_16 rfl (lv_at hl 1 rfl) ?_
    refine g_callVi (rest := []) E h (c_X4_secondEnd l D cI cZ z ad σ τ a1) mw_507 cbX4_secondEnd 3 rfl rfl ⟨by decide, by decide⟩ rfl rfl hl.1 (Nat.le_of_ble_eq_true rfl) ⟨Nat.zero_le _, Nat.zero_le _⟩ dX4_otherEnd_17 (fun H locs h => ?_)
    refine lv_iload_n hx hb dX4_otherEnd_20 rfl (lv_at hl 2 rfl) ?_
    refine lv_icmp_ne (tgt := 32) hx hb dX4_otherEnd_21 (by decide) (fun c2 => ?_) (fun c2 => ?_)
    · have ic2 : (F_X4_secondEnd σ a1).toInt ≠ a2.toInt := i_ne c2
      have hF := (if_neg c2).symm.trans hF
      refine lv_bipush (v := (-9)) hx hb dX4_otherEnd_32 (by decide) ?_
      exact g_iret E hr hlk h hQ hF rfl dX4_otherEnd_34
    · have ic2 : (F_X4_secondEnd σ a1).toInt = a2.toInt := i_eq c2
      have hF := (if_pos c2).symm.trans hF
      refine lv_aload_n hx hb dX4_otherEnd_24 rfl (lv_at hl 0 rfl) ?_
      refine lv_iload_n hx hb dX4_otherEnd_25 rfl (lv_at hl 1 rfl) ?_
      refine g_callVi (rest := []) E h (c_X4_firstEnd l D cI cZ z ad σ τ a1) mw_506 cbX4_firstEnd 3 rfl rfl ⟨by decide, by decide⟩ rfl rfl hl.1 (Nat.le_of_ble_eq_true rfl) ⟨Nat.zero_le _, Nat.zero_le _⟩ dX4_otherEnd_26 (fun H locs h => ?_)
      refine lv_goto (tgt := 34) hx hb dX4_otherEnd_29 (by decide) ?_
      exact g_iret E hr hlk h hQ hF rfl dX4_otherEnd_34
  · have ic1 : (F_X4_firstEnd σ a1).toInt = a2.toInt := i_eq c1
    have hF := (if_pos c1).symm.trans hF
    refine lv_aload_n hx hb dX4_otherEnd_9 rfl (lv_at hl 0 rfl) ?_
    refine lv_iload_n hx hb dX4_otherEnd_10 rfl (lv_at hl 1 rfl) ?_
    refine g_callVi (rest := []) E h (c_X4_secondEnd l D cI cZ z ad σ τ a1) mw_507 cbX4_secondEnd 3 rfl rfl ⟨by decide, by decide⟩ rfl rfl hl.1 (Nat.le_of_ble_eq_true rfl) ⟨Nat.zero_le _, Nat.zero_le _⟩ dX4_otherEnd_11 (fun H locs h => ?_)
    exact g_iret E hr hlk h hQ hF rfl dX4_otherEnd_14

def F_X4_paidBy (σ : St) (a1 : Int32) (a2 : Int32) : Int32 := (if (F_X4_isByNight σ a1) = 0 then a2 else (if (F_X4_refusesNight σ (F_X4_lenderOf σ a1)) = 0 then (a2 / (2 : Int32)) else (0 : Int32)))
set_option maxHeartbeats 4000000 in
set_option maxRecDepth 20000 in
theorem c_X4_paidBy (l : Launch) (D : va_G) (cI cZ : ClassId) (z : Nat) (ad : Nat → Nat) (σ τ : St) (a1 a2 : Int32) : gM l yX4_paidBy cX4_paidBy 3 (some .int) 3 D cI cZ z (gws ad cI cZ σ τ) [.ref (ad 3), .int a1, .int a2] (some (.int (F_X4_paidBy σ a1 a2))) (gws ad cI cZ σ τ) := by
  refine g_met (own := RX4) (by decide) rfl (Nat.le_of_ble_eq_true rfl) (fun p e s m below meth c ls Q E hr hlk h hl hQ => ?_)
  have hx := E.1
  have hb := E.2.1
  have hF : (F_X4_paidBy σ a1 a2) = (F_X4_paidBy σ a1 a2) := rfl
  have hl : lv_has ls 3 [(0, .ref (ad 3)), (1, .int a1), (2, .int a2)] := hl
  refine lv_aload_n hx hb dX4_paidBy_0 rfl (lv_at hl 0 rfl) ?_
  refine lv_iload_n hx hb dX4_paidBy_1 rfl (lv_at hl 1 rfl) ?_
  refine g_callVi (rest := []) E h (c_X4_isByNight l D cI cZ z ad σ τ a1) mw_534 cbX4_isByNight 3 rfl rfl ⟨by decide, by decide⟩ rfl rfl hl.1 (Nat.le_of_ble_eq_true rfl) ⟨Nat.zero_le _, Nat.zero_le _⟩ dX4_paidBy_2 (fun H locs h => ?_)
  refine lv_if_ne (tgt := 10) hx hb dX4_paidBy_5 (by decide) (fun c1 => ?_) (fun c1 => ?_)
  · have ic1 : (F_X4_isByNight σ a1).toInt ≠ 0 := i_ne c1
    have hF := (if_neg c1).symm.trans hF
    refine lv_aload_n hx hb dX4_paidBy_10 rfl (lv_at hl 0 rfl) ?_
    refine lv_aload_n hx hb dX4_paidBy_11 rfl (lv_at hl 0 rfl) ?_
    refine lv_iload_n hx hb dX4_paidBy_12 rfl (lv_at hl 1 rfl) ?_
    refine g_callVi (rest := [.ref (ad 3)]) E h (c_X4_lenderOf l D cI cZ z ad σ τ a1) mw_535 cbX4_lenderOf 3 rfl rfl ⟨by decide, by decide⟩ rfl rfl hl.1 (Nat.le_of_ble_eq_true rfl) ⟨Nat.zero_le _, Nat.zero_le _⟩ dX4_paidBy_13 (fun H locs h => ?_)
    refine g_callVi (rest := []) E h (c_X4_refusesNight l D cI cZ z ad σ τ (F_X4_lenderOf σ a1)) mw_536 cbX4_refusesNight 3 rfl rfl ⟨by decide, by decide⟩ rfl rfl hl.1 (Nat.le_of_ble_eq_true rfl) ⟨Nat.zero_le _, Nat.zero_le _⟩ dX4_paidBy_16 (fun H locs h => ?_)
    refine lv_if_eq (tgt := 26) hx hb dX4_paidBy_19 (by decide) (fun c2 => ?_) (fun c2 => ?_)
    · have ic2 : (F_X4_refusesNight σ (F_X4_lenderOf σ a1)).toInt = 0 := i_eq c2
      have hF := (if_pos c2).symm.trans hF
      refine lv_iload_n hx hb dX4_paidBy_26 rfl (lv_at hl 2 rfl) ?_
      refine lv_iconst (v := 2) hx hb dX4_paidBy_27 (by decide) ?_
      refine lv_idiv hx hb dX4_paidBy_28 (by decide) ?_
      exact g_iret E hr hlk h hQ hF rfl dX4_paidBy_29
    · have ic2 : (F_X4_refusesNight σ (F_X4_lenderOf σ a1)).toInt ≠ 0 := i_ne c2
      have hF := (if_neg c2).symm.trans hF
      refine lv_iconst (v := 0) hx hb dX4_paidBy_22 (by decide) ?_
      refine lv_goto (tgt := 29) hx hb dX4_paidBy_23 (by decide) ?_
      exact g_iret E hr hlk h hQ hF rfl dX4_paidBy_29
  · have ic1 : (F_X4_isByNight σ a1).toInt = 0 := i_eq c1
    have hF := (if_pos c1).symm.trans hF
    refine lv_iload_n hx hb dX4_paidBy_8 rfl (lv_at hl 2 rfl) ?_
    exact g_iret E hr hlk h hQ hF rfl dX4_paidBy_9

def F_X4_stagesLentBy_L4 : Nat → St → Int32 → Int32 → Int32 → Int32
  | 0, _, _, _, _ => 0
  | n + 1, σ, a1, x3_4, x2_4 => (if (σ.1 97) ≤ x3_4 then x2_4 else (if (F_X4_lenderOf σ x3_4) = a1 then (F_X4_stagesLentBy_L4  n σ a1 (x3_4 + (1 : Int32)) (x2_4 + (1 : Int32))) else (F_X4_stagesLentBy_L4  n σ a1 (x3_4 + (1 : Int32)) x2_4)))
def F_X4_stagesLentBy (σ : St) (a1 : Int32) : Int32 := (F_X4_stagesLentBy_L4  9 σ a1 (0 : Int32) (0 : Int32))
set_option maxHeartbeats 4000000 in
set_option maxRecDepth 20000 in
theorem c_X4_stagesLentBy (l : Launch) (D : va_G) (cI cZ : ClassId) (z : Nat) (ad : Nat → Nat) (σ τ : St) (a1 : Int32) (hp : (σ.1 97).toInt ≤ 8) : gM l yX4_stagesLentBy cX4_stagesLentBy 4 (some .int) 3 D cI cZ z (gws ad cI cZ σ τ) [.ref (ad 3), .int a1] (some (.int (F_X4_stagesLentBy σ a1))) (gws ad cI cZ σ τ) := by
  refine g_met (own := RX4) (by decide) rfl (Nat.le_of_ble_eq_true rfl) (fun p e s m below meth c ls Q E hr hlk h hl hQ => ?_)
  have hx := E.1
  have hb := E.2.1
  have hF : (F_X4_stagesLentBy σ a1) = (F_X4_stagesLentBy σ a1) := rfl
  have hl : lv_has ls 4 [(0, .ref (ad 3)), (1, .int a1)] := hl
  refine lv_iconst (v := 0) hx hb dX4_stagesLentBy_0 (by decide) ?_
  refine lv_istore_n (lv' := [(2, .int (0 : Int32)), (0, .ref (ad 3)), (1, .int a1)]) hx hb dX4_stagesLentBy_1 rfl hl (by decide) rfl (fun ls hl => ?_)
  refine lv_iconst (v := 0) hx hb dX4_stagesLentBy_2 (by decide) ?_
  refine lv_istore_n (lv' := [(3, .int (0 : Int32)), (2, .int (0 : Int32)), (0, .ref (ad 3)), (1, .int a1)]) hx hb dX4_stagesLentBy_3 rfl hl (by decide) rfl (fun ls hl => ?_)
  have L4 : ∀ (n4 : Nat) (x3_4 : Int32) (x2_4 : Int32) (H : Heap) (locs : List Loc) (ls : Array Slot), (0 ≤ x3_4.toInt ∧ x3_4.toInt ≤ 8 ∧ x3_4.toInt + n4 = 9) → F_X4_stagesLentBy_L4  n4 σ a1 x3_4 x2_4 = (F_X4_stagesLentBy σ a1) → gH D z s (gws ad cI cZ σ τ) H locs → lv_has ls 4 [(3, .int x3_4), (2, .int x2_4), (0, .ref (ad 3)), (1, .int a1)] → W p l e (rmH 3) s m ([.ref (ad 3), .int a1] : List Value).toArray below meth c H locs 0 0 Q (F0 m 4 ls []) := by
    clear hF h hl
    intro n4
    induction n4 with
    | zero =>
      intro x3_4 x2_4 H locs ls hI
      exact absurd hI (by omega)
    | succ n4 ih4 =>
      intro x3_4 x2_4 H locs ls hI4 hF h hl
      refine lv_iload_n hx hb dX4_stagesLentBy_4 rfl (lv_at hl 0 rfl) ?_
      refine lv_aload_n hx hb dX4_stagesLentBy_5 rfl (lv_at hl 2 rfl) ?_
      refine g_get (v := .int (σ.1 97)) E h 3 rfl rfl layX4 1 (by decide) rfl mw_70 rfl dX4_stagesLentBy_6 ?_
      refine lv_icmp_ge (tgt := 30) hx hb dX4_stagesLentBy_9 (by decide) (fun c2 => ?_) (fun c2 => ?_)
      · have ic2 : (σ.1 97).toInt ≤ x3_4.toInt := i_le c2
        have hF := (if_pos c2).symm.trans hF
        refine lv_iload_n hx hb dX4_stagesLentBy_30 rfl (lv_at hl 1 rfl) ?_
        exact g_iret E hr hlk h hQ hF rfl dX4_stagesLentBy_31
      · have ic2 : x3_4.toInt < (σ.1 97).toInt := i_nle c2
        have hF := (if_neg c2).symm.trans hF
        refine lv_aload_n hx hb dX4_stagesLentBy_12 rfl (lv_at hl 2 rfl) ?_
        refine lv_iload_n hx hb dX4_stagesLentBy_13 rfl (lv_at hl 0 rfl) ?_
        refine g_callVi (rest := []) E h (c_X4_lenderOf l D cI cZ z ad σ τ x3_4) mw_535 cbX4_lenderOf 3 rfl rfl ⟨by decide, by decide⟩ rfl rfl hl.1 (Nat.le_of_ble_eq_true rfl) ⟨Nat.zero_le _, Nat.zero_le _⟩ dX4_stagesLentBy_14 (fun H locs h => ?_)
        refine lv_iload_n hx hb dX4_stagesLentBy_17 rfl (lv_at hl 3 rfl) ?_
        refine lv_icmp_ne (tgt := 24) hx hb dX4_stagesLentBy_18 (by decide) (fun c3 => ?_) (fun c3 => ?_)
        · have ic3 : (F_X4_lenderOf σ x3_4).toInt ≠ a1.toInt := i_ne c3
          have hF := (if_neg c3).symm.trans hF
          refine lv_iinc (v := (x3_4 + (1 : Int32))) (lv' := [(3, .int (x3_4 + (1 : Int32))), (2, .int x2_4), (0, .ref (ad 3)), (1, .int a1)]) hx hb dX4_stagesLentBy_24 hl (k := 0) rfl rfl (by decide) rfl (fun ls hl => ?_)
          refine lv_goto (tgt := 4) hx hb dX4_stagesLentBy_27 (by decide) ?_
          have e4_3 : (x3_4 + (1 : Int32)).toInt = _ := ti_of (oI_add (oI_at x3_4) (oI_lit (x := 1) (a := 1) rfl)) (by omega)
          exact ih4 (x3_4 + (1 : Int32)) x2_4 _ _ ls ((show 0 ≤ (x3_4 + (1 : Int32)).toInt ∧ (x3_4 + (1 : Int32)).toInt ≤ 8 ∧ (x3_4 + (1 : Int32)).toInt + n4 = 9 from by omega)) hF h (lv_sub hl [0, 1, 2, 3] rfl)
        · have ic3 : (F_X4_lenderOf σ x3_4).toInt = a1.toInt := i_eq c3
          have hF := (if_pos c3).symm.trans hF
          refine lv_iinc (v := (x2_4 + (1 : Int32))) (lv' := [(2, .int (x2_4 + (1 : Int32))), (3, .int x3_4), (0, .ref (ad 3)), (1, .int a1)]) hx hb dX4_stagesLentBy_21 hl (k := 1) rfl rfl (by decide) rfl (fun ls hl => ?_)
          refine lv_iinc (v := (x3_4 + (1 : Int32))) (lv' := [(3, .int (x3_4 + (1 : Int32))), (2, .int (x2_4 + (1 : Int32))), (0, .ref (ad 3)), (1, .int a1)]) hx hb dX4_stagesLentBy_24 hl (k := 1) rfl rfl (by decide) rfl (fun ls hl => ?_)
          refine lv_goto (tgt := 4) hx hb dX4_stagesLentBy_27 (by decide) ?_
          have e4_3 : (x3_4 + (1 : Int32)).toInt = _ := ti_of (oI_add (oI_at x3_4) (oI_lit (x := 1) (a := 1) rfl)) (by omega)
          exact ih4 (x3_4 + (1 : Int32)) (x2_4 + (1 : Int32)) _ _ ls ((show 0 ≤ (x3_4 + (1 : Int32)).toInt ∧ (x3_4 + (1 : Int32)).toInt ≤ 8 ∧ (x3_4 + (1 : Int32)).toInt + n4 = 9 from by omega)) hF h (lv_sub hl [0, 1, 2, 3] rfl)
  have q4_3 : (0 : Int32).toInt = 0 := rfl
  exact L4 9 (0 : Int32) (0 : Int32) _ _ ls ((show 0 ≤ (0 : Int32).toInt ∧ (0 : Int32).toInt ≤ 8 ∧ (0 : Int32).toInt + (9 : Nat) = 9 from by omega)) hF h (lv_sub hl [0, 1, 2, 3] rfl)

def F_X4_endsEachStage_L2 : Nat → St → Int32 → Int32 → Int32
  | 0, _, _, _ => 0
  | n + 1, σ, a1, x2_2 => (if (σ.1 97) ≤ x2_2 then (1 : Int32) else (if (F_X8_hasBit a1 (F_X4_firstEnd σ x2_2)) = 0 then (if (F_X8_hasBit a1 (F_X4_secondEnd σ x2_2)) = 0 then (0 : Int32) else (F_X4_endsEachStage_L2  n σ a1 (x2_2 + (1 : Int32)))) else (F_X4_endsEachStage_L2  n σ a1 (x2_2 + (1 : Int32)))))
def F_X4_endsEachStage (σ : St) (a1 : Int32) : Int32 := (F_X4_endsEachStage_L2  9 σ a1 (0 : Int32))
set_option maxHeartbeats 4000000 in
set_option maxRecDepth 20000 in
theorem c_X4_endsEachStage (l : Launch) (D : va_G) (cI cZ : ClassId) (z : Nat) (ad : Nat → Nat) (σ τ : St) (a1 : Int32) (hp : (σ.1 97).toInt ≤ 8) : gM l yX4_endsEachStage cX4_endsEachStage 3 (some .boolean) 3 D cI cZ z (gws ad cI cZ σ τ) [.ref (ad 3), .int a1] (some (.int (F_X4_endsEachStage σ a1))) (gws ad cI cZ σ τ) := by
  refine g_met (own := RX4) (by decide) rfl (Nat.le_of_ble_eq_true rfl) (fun p e s m below meth c ls Q E hr hlk h hl hQ => ?_)
  have hx := E.1
  have hb := E.2.1
  have hF : (F_X4_endsEachStage σ a1) = (F_X4_endsEachStage σ a1) := rfl
  have hl : lv_has ls 3 [(0, .ref (ad 3)), (1, .int a1)] := hl
  refine lv_iconst (v := 0) hx hb dX4_endsEachStage_0 (by decide) ?_
  refine lv_istore_n (lv' := [(2, .int (0 : Int32)), (0, .ref (ad 3)), (1, .int a1)]) hx hb dX4_endsEachStage_1 rfl hl (by decide) rfl (fun ls hl => ?_)
  have L2 : ∀ (n2 : Nat) (x2_2 : Int32) (H : Heap) (locs : List Loc) (ls : Array Slot), (0 ≤ x2_2.toInt ∧ x2_2.toInt ≤ 8 ∧ x2_2.toInt + n2 = 9) → F_X4_endsEachStage_L2  n2 σ a1 x2_2 = (F_X4_endsEachStage σ a1) → gH D z s (gws ad cI cZ σ τ) H locs → lv_has ls 3 [(2, .int x2_2), (0, .ref (ad 3)), (1, .int a1)] → W p l e (rmH 3) s m ([.ref (ad 3), .int a1] : List Value).toArray below meth c H locs 0 0 Q (F0 m 2 ls []) := by
    clear hF h hl
    intro n2
    induction n2 with
    | zero =>
      intro x2_2 H locs ls hI
      exact absurd hI (by omega)
    | succ n2 ih2 =>
      intro x2_2 H locs ls hI2 hF h hl
      refine lv_iload_n hx hb dX4_endsEachStage_2 rfl (lv_at hl 0 rfl) ?_
      refine lv_aload_n hx hb dX4_endsEachStage_3 rfl (lv_at hl 1 rfl) ?_
      refine g_get (v := .int (σ.1 97)) E h 3 rfl rfl layX4 1 (by decide) rfl mw_70 rfl dX4_endsEachStage_4 ?_
      refine lv_icmp_ge (tgt := 42) hx hb dX4_endsEachStage_7 (by decide) (fun c2 => ?_) (fun c2 => ?_)
      · have ic2 : (σ.1 97).toInt ≤ x2_2.toInt := i_le c2
        have hF := (if_pos c2).symm.trans hF
        refine lv_iconst (v := 1) hx hb dX4_endsEachStage_42 (by decide) ?_
        exact g_zret E hr hlk h hQ (rfl) hF rfl dX4_endsEachStage_43
      · have ic2 : x2_2.toInt < (σ.1 97).toInt := i_nle c2
        have hF := (if_neg c2).symm.trans hF
        refine lv_iload_n hx hb dX4_endsEachStage_10 rfl (lv_at hl 2 rfl) ?_
        refine lv_aload_n hx hb dX4_endsEachStage_11 rfl (lv_at hl 1 rfl) ?_
        refine lv_iload_n hx hb dX4_endsEachStage_12 rfl (lv_at hl 0 rfl) ?_
        refine g_callVi (rest := [.int a1]) E h (c_X4_firstEnd l D cI cZ z ad σ τ x2_2) mw_506 cbX4_firstEnd 3 rfl rfl ⟨by decide, by decide⟩ rfl rfl hl.1 (Nat.le_of_ble_eq_true rfl) ⟨Nat.zero_le _, Nat.zero_le _⟩ dX4_endsEachStage_13 (fun H locs h => ?_)
        refine g_callSNi (rest := []) E h (c_X8_hasBit l D cI cZ z (gws ad cI cZ σ τ) a1 (F_X4_firstEnd σ x2_2)) nm_RX4_88 cbX8_hasBit ⟨by decide, by decide⟩ rfl rfl hl.1 (Nat.le_of_ble_eq_true rfl) ⟨Nat.zero_le _, Nat.zero_le _⟩ dX4_endsEachStage_16 (fun H locs h => ?_)
        refine lv_if_ne (tgt := 36) hx hb dX4_endsEachStage_19 (by decide) (fun c3 => ?_) (fun c3 => ?_)
        · have ic3 : (F_X8_hasBit a1 (F_X4_firstEnd σ x2_2)).toInt ≠ 0 := i_ne c3
          have hF := (if_neg c3).symm.trans hF
          refine lv_iinc (v := (x2_2 + (1 : Int32))) (lv' := [(2, .int (x2_2 + (1 : Int32))), (0, .ref (ad 3)), (1, .int a1)]) hx hb dX4_endsEachStage_36 hl (k := 0) rfl rfl (by decide) rfl (fun ls hl => ?_)
          refine lv_goto (tgt := 2) hx hb dX4_endsEachStage_39 (by decide) ?_
          have e2_2 : (x2_2 + (1 : Int32)).toInt = _ := ti_of (oI_add (oI_at x2_2) (oI_lit (x := 1) (a := 1) rfl)) (by omega)
          exact ih2 (x2_2 + (1 : Int32)) _ _ ls ((show 0 ≤ (x2_2 + (1 : Int32)).toInt ∧ (x2_2 + (1 : Int32)).toInt ≤ 8 ∧ (x2_2 + (1 : Int32)).toInt + n2 = 9 from by omega)) hF h (lv_sub hl [0, 1, 2] rfl)
        · have ic3 : (F_X8_hasBit a1 (F_X4_firstEnd σ x2_2)).toInt = 0 := i_eq c3
          have hF := (if_pos c3).symm.trans hF
          refine lv_iload_n hx hb dX4_endsEachStage_22 rfl (lv_at hl 2 rfl) ?_
          refine lv_aload_n hx hb dX4_endsEachStage_23 rfl (lv_at hl 1 rfl) ?_
          refine lv_iload_n hx hb dX4_endsEachStage_24 rfl (lv_at hl 0 rfl) ?_
          refine g_callVi (rest := [.int a1]) E h (c_X4_secondEnd l D cI cZ z ad σ τ x2_2) mw_507 cbX4_secondEnd 3 rfl rfl ⟨by decide, by decide⟩ rfl rfl hl.1 (Nat.le_of_ble_eq_true rfl) ⟨Nat.zero_le _, Nat.zero_le _⟩ dX4_endsEachStage_25 (fun H locs h => ?_)
          refine g_callSNi (rest := []) E h (c_X8_hasBit l D cI cZ z (gws ad cI cZ σ τ) a1 (F_X4_secondEnd σ x2_2)) nm_RX4_88 cbX8_hasBit ⟨by decide, by decide⟩ rfl rfl hl.1 (Nat.le_of_ble_eq_true rfl) ⟨Nat.zero_le _, Nat.zero_le _⟩ dX4_endsEachStage_28 (fun H locs h => ?_)
          refine lv_if_ne (tgt := 36) hx hb dX4_endsEachStage_31 (by decide) (fun c4 => ?_) (fun c4 => ?_)
          · have ic4 : (F_X8_hasBit a1 (F_X4_secondEnd σ x2_2)).toInt ≠ 0 := i_ne c4
            have hF := (if_neg c4).symm.trans hF
            refine lv_iinc (v := (x2_2 + (1 : Int32))) (lv' := [(2, .int (x2_2 + (1 : Int32))), (0, .ref (ad 3)), (1, .int a1)]) hx hb dX4_endsEachStage_36 hl (k := 0) rfl rfl (by decide) rfl (fun ls hl => ?_)
            refine lv_goto (tgt := 2) hx hb dX4_endsEachStage_39 (by decide) ?_
            have e2_2 : (x2_2 + (1 : Int32)).toInt = _ := ti_of (oI_add (oI_at x2_2) (oI_lit (x := 1) (a := 1) rfl)) (by omega)
            exact ih2 (x2_2 + (1 : Int32)) _ _ ls ((show 0 ≤ (x2_2 + (1 : Int32)).toInt ∧ (x2_2 + (1 : Int32)).toInt ≤ 8 ∧ (x2_2 + (1 : Int32)).toInt + n2 = 9 from by omega)) hF h (lv_sub hl [0, 1, 2] rfl)
          · have ic4 : (F_X8_hasBit a1 (F_X4_secondEnd σ x2_2)).toInt = 0 := i_eq c4
            have hF := (if_pos c4).symm.trans hF
            refine lv_iconst (v := 0) hx hb dX4_endsEachStage_34 (by decide) ?_
            exact g_zret E hr hlk h hQ (rfl) hF rfl dX4_endsEachStage_35
  have q2_2 : (0 : Int32).toInt = 0 := rfl
  exact L2 9 (0 : Int32) _ _ ls ((show 0 ≤ (0 : Int32).toInt ∧ (0 : Int32).toInt ≤ 8 ∧ (0 : Int32).toInt + (9 : Nat) = 9 from by omega)) hF h (lv_sub hl [0, 1, 2] rfl)

theorem sh1_rng {w : Int32} (h : 0 ≤ w.toInt ∧ w.toInt ≤ 6) : 1 ≤ ((1 : Int32) <<< (w &&& 31)).toInt ∧ ((1 : Int32) <<< (w &&& 31)).toInt ≤ 64 := by
  have hw : w = Int32.ofInt w.toInt := oI_at w
  have : w.toInt = 0 ∨ w.toInt = 1 ∨ w.toInt = 2 ∨ w.toInt = 3 ∨ w.toInt = 4 ∨ w.toInt = 5 ∨ w.toInt = 6 := by omega
  rcases this with q | q | q | q | q | q | q <;> rw [q] at hw <;> rw [hw] <;> decide

def F_X4_salt_k34_5 (lf11 : Int32 → Int32 → Int32) (σ : St) (x2_11 : Int32) (x1_11 : Int32) (v4 : Int32) : Int32 := (if v4 = 0 then (lf11 (x2_11 + (1 : Int32)) x1_11) else (lf11 (x2_11 + (1 : Int32)) x2_11))
def F_X4_salt_L11 : Nat → St → Int32 → Int32 → Int32
  | 0, _, _, _ => 0
  | n + 1, σ, x2_11, x1_11 => (if ((1 : Int32) <<< ((σ.1 96) &&& 31)) ≤ x2_11 then x1_11 else (if (F_J6_bitCount_0f7a4 x1_11) ≤ (F_J6_bitCount_0f7a4 x2_11) then (F_X4_salt_L11  n σ (x2_11 + (1 : Int32)) x1_11) else (F_X4_salt_k34_5 (fun y1 y2 => F_X4_salt_L11  n σ y1 y2) σ x2_11 x1_11 (F_X4_endsEachStage σ x2_11))))
def F_X4_salt (σ : St) : Int32 := (F_X4_salt_L11  65 σ (0 : Int32) (((1 : Int32) <<< ((σ.1 96) &&& 31)) - (1 : Int32)))
set_option maxHeartbeats 4000000 in
set_option maxRecDepth 20000 in
theorem c_X4_salt (l : Launch) (D : va_G) (cI cZ : ClassId) (z : Nat) (ad : Nat → Nat) (σ τ : St) (hq : 0 ≤ (σ.1 96).toInt ∧ (σ.1 96).toInt ≤ 6) (hp : (σ.1 97).toInt ≤ 8) : gM l yX4_salt cX4_salt 3 (some .int) 4 D cI cZ z (gws ad cI cZ σ τ) [.ref (ad 3)] (some (.int (F_X4_salt σ))) (gws ad cI cZ σ τ) := by
  refine g_met (own := RX4) (by decide) rfl (Nat.le_of_ble_eq_true rfl) (fun p e s m below meth c ls Q E hr hlk h hl hQ => ?_)
  have hx := E.1
  have hb := E.2.1
  have hF : (F_X4_salt σ) = (F_X4_salt σ) := rfl
  have hl : lv_has ls 3 [(0, .ref (ad 3))] := hl
  refine lv_iconst (v := 1) hx hb dX4_salt_0 (by decide) ?_
  refine lv_aload_n hx hb dX4_salt_1 rfl (lv_at hl 0 rfl) ?_
  refine g_get (v := .int (σ.1 96)) E h 3 rfl rfl layX4 0 (by decide) rfl mw_66 rfl dX4_salt_2 ?_
  refine lv_ishl hx hb dX4_salt_5 ?_
  refine lv_iconst (v := 1) hx hb dX4_salt_6 (by decide) ?_
  refine lv_isub hx hb dX4_salt_7 ?_
  refine lv_istore_n (lv' := [(1, .int (((1 : Int32) <<< ((σ.1 96) &&& 31)) - (1 : Int32))), (0, .ref (ad 3))]) hx hb dX4_salt_8 rfl hl (by decide) rfl (fun ls hl => ?_)
  refine lv_iconst (v := 0) hx hb dX4_salt_9 (by decide) ?_
  refine lv_istore_n (lv' := [(2, .int (0 : Int32)), (1, .int (((1 : Int32) <<< ((σ.1 96) &&& 31)) - (1 : Int32))), (0, .ref (ad 3))]) hx hb dX4_salt_10 rfl hl (by decide) rfl (fun ls hl => ?_)
  have L11 : ∀ (n11 : Nat) (x2_11 : Int32) (x1_11 : Int32) (H : Heap) (locs : List Loc) (ls : Array Slot), (0 ≤ x2_11.toInt ∧ x2_11.toInt ≤ 64 ∧ x2_11.toInt + n11 = 65) → F_X4_salt_L11  n11 σ x2_11 x1_11 = (F_X4_salt σ) → gH D z s (gws ad cI cZ σ τ) H locs → lv_has ls 3 [(2, .int x2_11), (1, .int x1_11), (0, .ref (ad 3))] → W p l e (rmH 4) s m ([.ref (ad 3)] : List Value).toArray below meth c H locs 0 0 Q (F0 m 11 ls []) := by
    clear hF h hl
    intro n11
    induction n11 with
    | zero =>
      intro x2_11 x1_11 H locs ls hI
      exact absurd hI (by omega)
    | succ n11 ih11 =>
      intro x2_11 x1_11 H locs ls hI11 hF h hl
      have hsh := sh1_rng hq
      refine lv_iload_n hx hb dX4_salt_11 rfl (lv_at hl 0 rfl) ?_
      refine lv_iconst (v := 1) hx hb dX4_salt_12 (by decide) ?_
      refine lv_aload_n hx hb dX4_salt_13 rfl (lv_at hl 2 rfl) ?_
      refine g_get (v := .int (σ.1 96)) E h 3 rfl rfl layX4 0 (by decide) rfl mw_66 rfl dX4_salt_14 ?_
      refine lv_ishl hx hb dX4_salt_17 ?_
      refine lv_icmp_ge (tgt := 48) hx hb dX4_salt_18 (by decide) (fun c2 => ?_) (fun c2 => ?_)
      · have ic2 : ((1 : Int32) <<< ((σ.1 96) &&& 31)).toInt ≤ x2_11.toInt := i_le c2
        have hF := (if_pos c2).symm.trans hF
        refine lv_iload_n hx hb dX4_salt_48 rfl (lv_at hl 1 rfl) ?_
        exact g_iret E hr hlk h hQ hF rfl dX4_salt_49
      · have ic2 : x2_11.toInt < ((1 : Int32) <<< ((σ.1 96) &&& 31)).toInt := i_nle c2
        have hF := (if_neg c2).symm.trans hF
        refine lv_iload_n hx hb dX4_salt_21 rfl (lv_at hl 0 rfl) ?_
        refine g_callSi (rest := []) E h (c_J6_bitCount_0f7a4 l D cI cZ z (gws ad cI cZ σ τ) x2_11) mw_629 cbJ6_bitCount_0f7a4 ⟨by decide, by decide⟩ rfl rfl hl.1 (Nat.le_of_ble_eq_true rfl) ⟨Nat.zero_le _, Nat.zero_le _⟩ dX4_salt_22 (fun H locs h => ?_)
        refine lv_iload_n hx hb dX4_salt_25 rfl (lv_at hl 1 rfl) ?_
        refine g_callSi (rest := [.int (F_J6_bitCount_0f7a4 x2_11)]) E h (c_J6_bitCount_0f7a4 l D cI cZ z (gws ad cI cZ σ τ) x1_11) mw_629 cbJ6_bitCount_0f7a4 ⟨by decide, by decide⟩ rfl rfl hl.1 (Nat.le_of_ble_eq_true rfl) ⟨Nat.zero_le _, Nat.zero_le _⟩ dX4_salt_26 (fun H locs h => ?_)
        refine lv_icmp_ge (tgt := 42) hx hb dX4_salt_29 (by decide) (fun c3 => ?_) (fun c3 => ?_)
        · have ic3 : (F_J6_bitCount_0f7a4 x1_11).toInt ≤ (F_J6_bitCount_0f7a4 x2_11).toInt := i_le c3
          have hF := (if_pos c3).symm.trans hF
          refine lv_iinc (v := (x2_11 + (1 : Int32))) (lv' := [(2, .int (x2_11 + (1 : Int32))), (1, .int x1_11), (0, .ref (ad 3))]) hx hb dX4_salt_42 hl (k := 0) rfl rfl (by decide) rfl (fun ls hl => ?_)
          refine lv_goto (tgt := 11) hx hb dX4_salt_45 (by decide) ?_
          have e11_2 : (x2_11 + (1 : Int32)).toInt = _ := ti_of (oI_add (oI_at x2_11) (oI_lit (x := 1) (a := 1) rfl)) (by omega)
          exact ih11 (x2_11 + (1 : Int32)) x1_11 _ _ ls ((show 0 ≤ (x2_11 + (1 : Int32)).toInt ∧ (x2_11 + (1 : Int32)).toInt ≤ 64 ∧ (x2_11 + (1 : Int32)).toInt + n11 = 65 from by omega)) hF h (lv_sub hl [0, 1, 2] rfl)
        · have ic3 : (F_J6_bitCount_0f7a4 x2_11).toInt < (F_J6_bitCount_0f7a4 x1_11).toInt := i_nle c3
          have hF := (if_neg c3).symm.trans hF
          refine lv_aload_n hx hb dX4_salt_32 rfl (lv_at hl 2 rfl) ?_
          refine lv_iload_n hx hb dX4_salt_33 rfl (lv_at hl 0 rfl) ?_
          refine g_callVh (F_X4_endsEachStage σ x2_11) (rest := []) E h (c_X4_endsEachStage l D cI cZ z ad σ τ x2_11 (show (σ.1 97).toInt ≤ 8 from by omega)) mw_635 cbX4_endsEachStage 3 rfl rfl ⟨by decide, by decide⟩ rfl rfl hl.1 (Nat.le_of_ble_eq_true rfl) ⟨Nat.zero_le _, Nat.zero_le _⟩ dX4_salt_34 (fun v4 huv4 H locs h => ?_)
          have hF : F_X4_salt_k34_5 (fun y1 y2 => F_X4_salt_L11  n11 σ y1 y2) σ x2_11 x1_11 v4 = (F_X4_salt σ) := by rw [← huv4]; exact hF
          refine lv_if_eq (tgt := 42) hx hb dX4_salt_37 (by decide) (fun c6 => ?_) (fun c6 => ?_)
          · have ic6 : v4.toInt = 0 := i_eq c6
            have hF := (if_pos c6).symm.trans hF
            refine lv_iinc (v := (x2_11 + (1 : Int32))) (lv' := [(2, .int (x2_11 + (1 : Int32))), (1, .int x1_11), (0, .ref (ad 3))]) hx hb dX4_salt_42 hl (k := 0) rfl rfl (by decide) rfl (fun ls hl => ?_)
            refine lv_goto (tgt := 11) hx hb dX4_salt_45 (by decide) ?_
            have e11_2 : (x2_11 + (1 : Int32)).toInt = _ := ti_of (oI_add (oI_at x2_11) (oI_lit (x := 1) (a := 1) rfl)) (by omega)
            exact ih11 (x2_11 + (1 : Int32)) x1_11 _ _ ls ((show 0 ≤ (x2_11 + (1 : Int32)).toInt ∧ (x2_11 + (1 : Int32)).toInt ≤ 64 ∧ (x2_11 + (1 : Int32)).toInt + n11 = 65 from by omega)) hF h (lv_sub hl [0, 1, 2] rfl)
          · have ic6 : v4.toInt ≠ 0 := i_ne c6
            have hF := (if_neg c6).symm.trans hF
            refine lv_iload_n hx hb dX4_salt_40 rfl (lv_at hl 0 rfl) ?_
            refine lv_istore_n (lv' := [(1, .int x2_11), (2, .int x2_11), (0, .ref (ad 3))]) hx hb dX4_salt_41 rfl hl (by decide) rfl (fun ls hl => ?_)
            refine lv_iinc (v := (x2_11 + (1 : Int32))) (lv' := [(2, .int (x2_11 + (1 : Int32))), (1, .int x2_11), (0, .ref (ad 3))]) hx hb dX4_salt_42 hl (k := 1) rfl rfl (by decide) rfl (fun ls hl => ?_)
            refine lv_goto (tgt := 11) hx hb dX4_salt_45 (by decide) ?_
            have e11_2 : (x2_11 + (1 : Int32)).toInt = _ := ti_of (oI_add (oI_at x2_11) (oI_lit (x := 1) (a := 1) rfl)) (by omega)
            exact ih11 (x2_11 + (1 : Int32)) x2_11 _ _ ls ((show 0 ≤ (x2_11 + (1 : Int32)).toInt ∧ (x2_11 + (1 : Int32)).toInt ≤ 64 ∧ (x2_11 + (1 : Int32)).toInt + n11 = 65 from by omega)) hF h (lv_sub hl [0, 1, 2] rfl)
  have q11_2 : (0 : Int32).toInt = 0 := rfl
  exact L11 65 (0 : Int32) (((1 : Int32) <<< ((σ.1 96) &&& 31)) - (1 : Int32)) _ _ ls ((show 0 ≤ (0 : Int32).toInt ∧ (0 : Int32).toInt ≤ 64 ∧ (0 : Int32).toInt + (65 : Nat) = 65 from by omega)) hF h (lv_sub hl [0, 1, 2] rfl)
