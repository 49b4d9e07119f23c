def F_X8_within (a1 : Int32) (a2 : Int32) (a3 : Int32) : Int32 := (if a1 < a2 then (0 : Int32) else (if a3 < a1 then (0 : Int32) else (1 : Int32)))
set_option maxHeartbeats 4000000 in
set_option maxRecDepth 20000 in
theorem c_X8_within (l : Launch) (D : va_G) (cI cZ : ClassId) (z : Nat) (ws : va_W) (a1 a2 a3 : Int32) : gM l yX8_within cX8_within 3 (some .boolean) 1 D cI cZ z ws [.int a1, .int a2, .int a3] (some (.int (F_X8_within a1 a2 a3))) ws := by
  refine g_met (own := RX8) (by decide) rfl (Nat.le_of_ble_eq_true rfl) (fun p e s m below meth c ls Q E hr hlk h hl hQ => ?_)
  have hx := E.1
  have hb := E.2.1
  have hF : (F_X8_within a1 a2 a3) = (F_X8_within a1 a2 a3) := rfl
  have hl : lv_has ls 3 [(0, .int a1), (1, .int a2), (2, .int a3)] := hl
  refine lv_iload_n hx hb dX8_within_0 rfl (lv_at hl 1 rfl) ?_
  refine lv_iload_n hx hb dX8_within_1 rfl (lv_at hl 0 rfl) ?_
  refine lv_icmp_gt (tgt := 14) hx hb dX8_within_2 (by decide) (fun c1 => ?_) (fun c1 => ?_)
  · have ic1 : a1.toInt < a2.toInt := i_lt c1
    have hF := (if_pos c1).symm.trans hF
    refine lv_iconst (v := 0) hx hb dX8_within_14 (by decide) ?_
    exact g_zret E hr hlk h hQ (rfl) hF rfl dX8_within_15
  · have ic1 : a2.toInt ≤ a1.toInt := i_nlt c1
    have hF := (if_neg c1).symm.trans hF
    refine lv_iload_n hx hb dX8_within_5 rfl (lv_at hl 0 rfl) ?_
    refine lv_iload_n hx hb dX8_within_6 rfl (lv_at hl 2 rfl) ?_
    refine lv_icmp_gt (tgt := 14) hx hb dX8_within_7 (by decide) (fun c2 => ?_) (fun c2 => ?_)
    · have ic2 : a3.toInt < a1.toInt := i_lt c2
      have hF := (if_pos c2).symm.trans hF
      refine lv_iconst (v := 0) hx hb dX8_within_14 (by decide) ?_
      exact g_zret E hr hlk h hQ (rfl) hF rfl dX8_within_15
    · have ic2 : a1.toInt ≤ a3.toInt := i_nlt c2
      have hF := (if_neg c2).symm.trans hF
      refine lv_iconst (v := 1) hx hb dX8_within_10 (by decide) ?_
      refine lv_goto (tgt := 15) hx hb dX8_within_11 (by decide) ?_
      exact g_zret E hr hlk h hQ (rfl) hF rfl dX8_within_15

theorem fz_within {n lo hi : Int32} (h : ¬ F_X8_within n lo hi = 0) : lo.toInt ≤ n.toInt ∧ n.toInt ≤ hi.toInt := by
  unfold F_X8_within at h
  split at h
  · exact absurd rfl h
  · rename_i h1
    split at h
    · exact absurd rfl h
    · rename_i h2
      exact ⟨i_nlt h1, i_nlt h2⟩

def F_X8_hasBit (a1 : Int32) (a2 : Int32) : Int32 := (if ((a1 >>> (a2 &&& 31)) &&& (1 : Int32)) = (1 : Int32) then (1 : Int32) else (0 : Int32))
set_option maxHeartbeats 4000000 in
set_option maxRecDepth 20000 in
theorem c_X8_hasBit (l : Launch) (D : va_G) (cI cZ : ClassId) (z : Nat) (ws : va_W) (a1 a2 : Int32) : gM l yX8_hasBit cX8_hasBit 2 (some .boolean) 1 D cI cZ z ws [.int a1, .int a2] (some (.int (F_X8_hasBit a1 a2))) ws := by
  refine g_met (own := RX8) (by decide) rfl (Nat.le_of_ble_eq_true rfl) (fun p e s m below meth c ls Q E hr hlk h hl hQ => ?_)
  have hx := E.1
  have hb := E.2.1
  have hF : (F_X8_hasBit a1 a2) = (F_X8_hasBit a1 a2) := rfl
  have hl : lv_has ls 2 [(0, .int a1), (1, .int a2)] := hl
  refine lv_iload_n hx hb dX8_hasBit_0 rfl (lv_at hl 0 rfl) ?_
  refine lv_iload_n hx hb dX8_hasBit_1 rfl (lv_at hl 1 rfl) ?_
  refine lv_ishr hx hb dX8_hasBit_2 ?_
  refine lv_iconst (v := 1) hx hb dX8_hasBit_3 (by decide) ?_
  refine lv_iand hx hb dX8_hasBit_4 ?_
  refine lv_iconst (v := 1) hx hb dX8_hasBit_5 (by decide) ?_
  refine lv_icmp_ne (tgt := 13) hx hb dX8_hasBit_6 (by decide) (fun c1 => ?_) (fun c1 => ?_)
  · have ic1 : ((a1 >>> (a2 &&& 31)) &&& (1 : Int32)).toInt ≠ 1 := i_ne c1
    have hF := (if_neg c1).symm.trans hF
    refine lv_iconst (v := 0) hx hb dX8_hasBit_13 (by decide) ?_
    exact g_zret E hr hlk h hQ (rfl) hF rfl dX8_hasBit_14
  · have ic1 : ((a1 >>> (a2 &&& 31)) &&& (1 : Int32)).toInt = 1 := i_eq c1
    have hF := (if_pos c1).symm.trans hF
    refine lv_iconst (v := 1) hx hb dX8_hasBit_9 (by decide) ?_
    refine lv_goto (tgt := 14) hx hb dX8_hasBit_10 (by decide) ?_
    exact g_zret E hr hlk h hQ (rfl) hF rfl dX8_hasBit_14

def F_X2_isCaravan (a1 : Int32) : Int32 := (if a1 < (0 : Int32) then (0 : Int32) else (if (4 : Int32) ≤ a1 then (0 : Int32) else (1 : Int32)))
set_option maxHeartbeats 4000000 in
set_option maxRecDepth 20000 in
theorem c_X2_isCaravan (l : Launch) (D : va_G) (cI cZ : ClassId) (z : Nat) (ws : va_W) (a1 : Int32) : gM l yX2_isCaravan cX2_isCaravan 1 (some .boolean) 1 D cI cZ z ws [.int a1] (some (.int (F_X2_isCaravan a1))) ws := by
  refine g_met (own := RX2) (by decide) rfl (Nat.le_of_ble_eq_true rfl) (fun p e s m below meth c ls Q E hr hlk h hl hQ => ?_)
  have hx := E.1
  have hb := E.2.1
  have hF : (F_X2_isCaravan a1) = (F_X2_isCaravan a1) := rfl
  have hl : lv_has ls 1 [(0, .int a1)] := hl
  refine lv_iconst (v := 0) hx hb dX2_isCaravan_0 (by decide) ?_
  refine lv_iload_n hx hb dX2_isCaravan_1 rfl (lv_at hl 0 rfl) ?_
  refine lv_icmp_gt (tgt := 14) hx hb dX2_isCaravan_2 (by decide) (fun c1 => ?_) (fun c1 => ?_)
  · have ic1 : a1.toInt < 0 := i_lt c1
    have hF := (if_pos c1).symm.trans hF
    refine lv_iconst (v := 0) hx hb dX2_isCaravan_14 (by decide) ?_
    exact g_zret E hr hlk h hQ (rfl) hF rfl dX2_isCaravan_15
  · have ic1 : 0 ≤ a1.toInt := i_nlt c1
    have hF := (if_neg c1).symm.trans hF
    refine lv_iload_n hx hb dX2_isCaravan_5 rfl (lv_at hl 0 rfl) ?_
    refine lv_iconst (v := 4) hx hb dX2_isCaravan_6 (by decide) ?_
    refine lv_icmp_ge (tgt := 14) hx hb dX2_isCaravan_7 (by decide) (fun c2 => ?_) (fun c2 => ?_)
    · have ic2 : 4 ≤ a1.toInt := i_le c2
      have hF := (if_pos c2).symm.trans hF
      refine lv_iconst (v := 0) hx hb dX2_isCaravan_14 (by decide) ?_
      exact g_zret E hr hlk h hQ (rfl) hF rfl dX2_isCaravan_15
    · have ic2 : a1.toInt < 4 := i_nle c2
      have hF := (if_neg c2).symm.trans hF
      refine lv_iconst (v := 1) hx hb dX2_isCaravan_10 (by decide) ?_
      refine lv_goto (tgt := 15) hx hb dX2_isCaravan_11 (by decide) ?_
      exact g_zret E hr hlk h hQ (rfl) hF rfl dX2_isCaravan_15

def F_X2_isWell (a1 : Int32) : Int32 := (if a1 < (0 : Int32) then (0 : Int32) else (if (6 : Int32) ≤ a1 then (0 : Int32) else (1 : Int32)))
set_option maxHeartbeats 4000000 in
set_option maxRecDepth 20000 in
theorem c_X2_isWell (l : Launch) (D : va_G) (cI cZ : ClassId) (z : Nat) (ws : va_W) (a1 : Int32) : gM l yX2_isWell cX2_isWell 1 (some .boolean) 1 D cI cZ z ws [.int a1] (some (.int (F_X2_isWell a1))) ws := by
  refine g_met (own := RX2) (by decide) rfl (Nat.le_of_ble_eq_true rfl) (fun p e s m below meth c ls Q E hr hlk h hl hQ => ?_)
  have hx := E.1
  have hb := E.2.1
  have hF : (F_X2_isWell a1) = (F_X2_isWell a1) := rfl
  have hl : lv_has ls 1 [(0, .int a1)] := hl
  refine lv_iconst (v := 0) hx hb dX2_isWell_0 (by decide) ?_
  refine lv_iload_n hx hb dX2_isWell_1 rfl (lv_at hl 0 rfl) ?_
  refine lv_icmp_gt (tgt := 15) hx hb dX2_isWell_2 (by decide) (fun c1 => ?_) (fun c1 => ?_)
  · have ic1 : a1.toInt < 0 := i_lt c1
    have hF := (if_pos c1).symm.trans hF
    refine lv_iconst (v := 0) hx hb dX2_isWell_15 (by decide) ?_
    exact g_zret E hr hlk h hQ (rfl) hF rfl dX2_isWell_16
  · have ic1 : 0 ≤ a1.toInt := i_nlt c1
    have hF := (if_neg c1).symm.trans hF
    refine lv_iload_n hx hb dX2_isWell_5 rfl (lv_at hl 0 rfl) ?_
    refine lv_bipush (v := 6) hx hb dX2_isWell_6 (by decide) ?_
    refine lv_icmp_ge (tgt := 15) hx hb dX2_isWell_8 (by decide) (fun c2 => ?_) (fun c2 => ?_)
    · have ic2 : 6 ≤ a1.toInt := i_le c2
      have hF := (if_pos c2).symm.trans hF
      refine lv_iconst (v := 0) hx hb dX2_isWell_15 (by decide) ?_
      exact g_zret E hr hlk h hQ (rfl) hF rfl dX2_isWell_16
    · have ic2 : a1.toInt < 6 := i_nle c2
      have hF := (if_neg c2).symm.trans hF
      refine lv_iconst (v := 1) hx hb dX2_isWell_11 (by decide) ?_
      refine lv_goto (tgt := 16) hx hb dX2_isWell_12 (by decide) ?_
      exact g_zret E hr hlk h hQ (rfl) hF rfl dX2_isWell_16

def F_X2_sand (σ : St) : Int32 := ((σ.2.1 27) 0)
set_option maxHeartbeats 4000000 in
set_option maxRecDepth 20000 in
theorem c_X2_sand (l : Launch) (D : va_G) (cI cZ : ClassId) (z : Nat) (ad : Nat → Nat) (σ τ : St) : gM l yX2_sand cX2_sand 1 (some .int) 1 D cI cZ z (gws ad cI cZ σ τ) [.ref (ad 26)] (some (.int (F_X2_sand σ))) (gws ad cI cZ σ τ) := by
  refine g_met (own := RX2) (by decide) rfl (Nat.le_of_ble_eq_true rfl) (fun p e s m below meth c ls Q E hr hlk h hl hQ => ?_)
  have hx := E.1
  have hb := E.2.1
  have hF : (F_X2_sand σ) = (F_X2_sand σ) := rfl
  have hl : lv_has ls 1 [(0, .ref (ad 26))] := hl
  refine lv_aload_n hx hb dX2_sand_0 rfl (lv_at hl 0 rfl) ?_
  refine g_get (v := .ref (ad 27)) E h 26 rfl rfl layX2 0 (by decide) rfl mw_61 rfl dX2_sand_1 ?_
  refine lv_iconst (v := 0) hx hb dX2_sand_4 (by decide) ?_
  refine g_ialdk (f := (σ.2.1 27)) E h 27 rfl 0 rfl (ix_of (oI_lit (x := 0) (a := 0) rfl) (by omega) (by decide)) dX2_sand_5 ?_
  exact g_iret E hr hlk h hQ hF rfl dX2_sand_6

def F_X2_alive (σ : St) : Int32 := ((σ.2.1 27) 1)
set_option maxHeartbeats 4000000 in
set_option maxRecDepth 20000 in
theorem c_X2_alive (l : Launch) (D : va_G) (cI cZ : ClassId) (z : Nat) (ad : Nat → Nat) (σ τ : St) : gM l yX2_alive cX2_alive 1 (some .int) 1 D cI cZ z (gws ad cI cZ σ τ) [.ref (ad 26)] (some (.int (F_X2_alive σ))) (gws ad cI cZ σ τ) := by
  refine g_met (own := RX2) (by decide) rfl (Nat.le_of_ble_eq_true rfl) (fun p e s m below meth c ls Q E hr hlk h hl hQ => ?_)
  have hx := E.1
  have hb := E.2.1
  have hF : (F_X2_alive σ) = (F_X2_alive σ) := rfl
  have hl : lv_has ls 1 [(0, .ref (ad 26))] := hl
  refine lv_aload_n hx hb dX2_alive_0 rfl (lv_at hl 0 rfl) ?_
  refine g_get (v := .ref (ad 27)) E h 26 rfl rfl layX2 0 (by decide) rfl mw_61 rfl dX2_alive_1 ?_
  refine lv_iconst (v := 1) hx hb dX2_alive_4 (by decide) ?_
  refine g_ialdk (f := (σ.2.1 27)) E h 27 rfl 1 rfl (ix_of (oI_lit (x := 1) (a := 1) rfl) (by omega) (by decide)) dX2_alive_5 ?_
  exact g_iret E hr hlk h hQ hF rfl dX2_alive_6

theorem fz_isCaravan {c : Int32} (h : ¬ F_X2_isCaravan c = 0) : 0 ≤ c.toInt ∧ c.toInt < 4 := by
  unfold F_X2_isCaravan at h
  split at h
  · exact absurd rfl h
  · rename_i h1
    split at h
    · exact absurd rfl h
    · rename_i h2
      exact ⟨i_nlt h1, i_nle h2⟩

theorem fz_isWell {c : Int32} (h : ¬ F_X2_isWell c = 0) : 0 ≤ c.toInt ∧ c.toInt < 6 := by
  unfold F_X2_isWell at h
  split at h
  · exact absurd rfl h
  · rename_i h1
    split at h
    · exact absurd rfl h
    · rename_i h2
      exact ⟨i_nlt h1, i_nle h2⟩

def F_X2_isAlive (σ : St) (a1 : Int32) : Int32 := (if (F_X2_isCaravan a1) = 0 then (0 : Int32) else (if (F_X8_hasBit ((σ.2.1 27) 1) a1) = 0 then (0 : Int32) else (1 : Int32)))
set_option maxHeartbeats 4000000 in
set_option maxRecDepth 20000 in
theorem c_X2_isAlive (l : Launch) (D : va_G) (cI cZ : ClassId) (z : Nat) (ad : Nat → Nat) (σ τ : St) (a1 : Int32) : gM l yX2_isAlive cX2_isAlive 2 (some .boolean) 2 D cI cZ z (gws ad cI cZ σ τ) [.ref (ad 26), .int a1] (some (.int (F_X2_isAlive σ a1))) (gws ad cI cZ σ τ) := by
  refine g_met (own := RX2) (by decide) rfl (Nat.le_of_ble_eq_true rfl) (fun p e s m below meth c ls Q E hr hlk h hl hQ => ?_)
  have hx := E.1
  have hb := E.2.1
  have hF : (F_X2_isAlive σ a1) = (F_X2_isAlive σ a1) := rfl
  have hl : lv_has ls 2 [(0, .ref (ad 26)), (1, .int a1)] := hl
  refine lv_iload_n hx hb dX2_isAlive_0 rfl (lv_at hl 1 rfl) ?_
  refine g_callSi (rest := []) E h (c_X2_isCaravan l D cI cZ z (gws ad cI cZ σ τ) a1) mw_335 cbX2_isCaravan ⟨by decide, by decide⟩ rfl rfl hl.1 (Nat.le_of_ble_eq_true rfl) ⟨Nat.zero_le _, Nat.zero_le _⟩ dX2_isAlive_1 (fun H locs h => ?_)
  refine lv_if_eq (tgt := 24) hx hb dX2_isAlive_4 (by decide) (fun c1 => ?_) (fun c1 => ?_)
  · have ic1 : (F_X2_isCaravan a1).toInt = 0 := i_eq c1
    have hF := (if_pos c1).symm.trans hF
    refine lv_iconst (v := 0) hx hb dX2_isAlive_24 (by decide) ?_
    exact g_zret E hr hlk h hQ (rfl) hF rfl dX2_isAlive_25
  · have ic1 : (F_X2_isCaravan a1).toInt ≠ 0 := i_ne c1
    have jc1 := fz_isCaravan c1
    have hF := (if_neg c1).symm.trans hF
    refine lv_aload_n hx hb dX2_isAlive_7 rfl (lv_at hl 0 rfl) ?_
    refine g_get (v := .ref (ad 27)) E h 26 rfl rfl layX2 0 (by decide) rfl mw_61 rfl dX2_isAlive_8 ?_
    refine lv_iconst (v := 1) hx hb dX2_isAlive_11 (by decide) ?_
    refine g_ialdk (f := (σ.2.1 27)) E h 27 rfl 1 rfl (ix_of (oI_lit (x := 1) (a := 1) rfl) (by omega) (by decide)) dX2_isAlive_12 ?_
    refine lv_iload_n hx hb dX2_isAlive_13 rfl (lv_at hl 1 rfl) ?_
    refine g_callSNi (rest := []) E h (c_X8_hasBit l D cI cZ z (gws ad cI cZ σ τ) ((σ.2.1 27) 1) a1) nm_RX2_31 cbX8_hasBit ⟨by decide, by decide⟩ rfl rfl hl.1 (Nat.le_of_ble_eq_true rfl) ⟨Nat.zero_le _, Nat.zero_le _⟩ dX2_isAlive_14 (fun H locs h => ?_)
    refine lv_if_eq (tgt := 24) hx hb dX2_isAlive_17 (by decide) (fun c2 => ?_) (fun c2 => ?_)
    · have ic2 : (F_X8_hasBit ((σ.2.1 27) 1) a1).toInt = 0 := i_eq c2
      have hF := (if_pos c2).symm.trans hF
      refine lv_iconst (v := 0) hx hb dX2_isAlive_24 (by decide) ?_
      exact g_zret E hr hlk h hQ (rfl) hF rfl dX2_isAlive_25
    · have ic2 : (F_X8_hasBit ((σ.2.1 27) 1) a1).toInt ≠ 0 := i_ne c2
      have hF := (if_neg c2).symm.trans hF
      refine lv_iconst (v := 1) hx hb dX2_isAlive_20 (by decide) ?_
      refine lv_goto (tgt := 25) hx hb dX2_isAlive_21 (by decide) ?_
      exact g_zret E hr hlk h hQ (rfl) hF rfl dX2_isAlive_25

def F_X2_placeOf (σ : St) (a1 : Int32) : Int32 := (if (F_X2_isCaravan a1) = 0 then ((-9) : Int32) else ((σ.2.1 27) ((2 : Int32) + a1).toNatClampNeg))
set_option maxHeartbeats 4000000 in
set_option maxRecDepth 20000 in
theorem c_X2_placeOf (l : Launch) (D : va_G) (cI cZ : ClassId) (z : Nat) (ad : Nat → Nat) (σ τ : St) (a1 : Int32) : gM l yX2_placeOf cX2_placeOf 2 (some .int) 2 D cI cZ z (gws ad cI cZ σ τ) [.ref (ad 26), .int a1] (some (.int (F_X2_placeOf σ a1))) (gws ad cI cZ σ τ) := by
  refine g_met (own := RX2) (by decide) rfl (Nat.le_of_ble_eq_true rfl) (fun p e s m below meth c ls Q E hr hlk h hl hQ => ?_)
  have hx := E.1
  have hb := E.2.1
  have hF : (F_X2_placeOf σ a1) = (F_X2_placeOf σ a1) := rfl
  have hl : lv_has ls 2 [(0, .ref (ad 26)), (1, .int a1)] := hl
  refine lv_iload_n hx hb dX2_placeOf_0 rfl (lv_at hl 1 rfl) ?_
  refine g_callSi (rest := []) E h (c_X2_isCaravan l D cI cZ z (gws ad cI cZ σ τ) a1) mw_335 cbX2_isCaravan ⟨by decide, by decide⟩ rfl rfl hl.1 (Nat.le_of_ble_eq_true rfl) ⟨Nat.zero_le _, Nat.zero_le _⟩ dX2_placeOf_1 (fun H locs h => ?_)
  refine lv_if_eq (tgt := 18) hx hb dX2_placeOf_4 (by decide) (fun c1 => ?_) (fun c1 => ?_)
  · have ic1 : (F_X2_isCaravan a1).toInt = 0 := i_eq c1
    have hF := (if_pos c1).symm.trans hF
    refine lv_bipush (v := (-9)) hx hb dX2_placeOf_18 (by decide) ?_
    exact g_iret E hr hlk h hQ hF rfl dX2_placeOf_20
  · have ic1 : (F_X2_isCaravan a1).toInt ≠ 0 := i_ne c1
    have jc1 := fz_isCaravan c1
    have hF := (if_neg c1).symm.trans hF
    refine lv_aload_n hx hb dX2_placeOf_7 rfl (lv_at hl 0 rfl) ?_
    refine g_get (v := .ref (ad 27)) E h 26 rfl rfl layX2 0 (by decide) rfl mw_61 rfl dX2_placeOf_8 ?_
    refine lv_iconst (v := 2) hx hb dX2_placeOf_11 (by decide) ?_
    refine lv_iload_n hx hb dX2_placeOf_12 rfl (lv_at hl 1 rfl) ?_
    refine lv_iadd hx hb dX2_placeOf_13 ?_
    refine g_iald (f := (σ.2.1 27)) E h 27 rfl (ix_of (oI_add (oI_lit (x := 2) (a := 2) rfl) (oI_at a1)) (by omega) (by decide)) dX2_placeOf_14 ?_
    refine lv_goto (tgt := 20) hx hb dX2_placeOf_15 (by decide) ?_
    exact g_iret E hr hlk h hQ hF rfl dX2_placeOf_20

def F_X2_cupsOf (σ : St) (a1 : Int32) : Int32 := (if (F_X2_isCaravan a1) = 0 then (0 : Int32) else ((σ.2.1 27) ((6 : Int32) + a1).toNatClampNeg))
set_option maxHeartbeats 4000000 in
set_option maxRecDepth 20000 in
theorem c_X2_cupsOf (l : Launch) (D : va_G) (cI cZ : ClassId) (z : Nat) (ad : Nat → Nat) (σ τ : St) (a1 : Int32) : gM l yX2_cupsOf cX2_cupsOf 2 (some .int) 2 D cI cZ z (gws ad cI cZ σ τ) [.ref (ad 26), .int a1] (some (.int (F_X2_cupsOf σ a1))) (gws ad cI cZ σ τ) := by
  refine g_met (own := RX2) (by decide) rfl (Nat.le_of_ble_eq_true rfl) (fun p e s m below meth c ls Q E hr hlk h hl hQ => ?_)
  have hx := E.1
  have hb := E.2.1
  have hF : (F_X2_cupsOf σ a1) = (F_X2_cupsOf σ a1) := rfl
  have hl : lv_has ls 2 [(0, .ref (ad 26)), (1, .int a1)] := hl
  refine lv_iload_n hx hb dX2_cupsOf_0 rfl (lv_at hl 1 rfl) ?_
  refine g_callSi (rest := []) E h (c_X2_isCaravan l D cI cZ z (gws ad cI cZ σ τ) a1) mw_335 cbX2_isCaravan ⟨by decide, by decide⟩ rfl rfl hl.1 (Nat.le_of_ble_eq_true rfl) ⟨Nat.zero_le _, Nat.zero_le _⟩ dX2_cupsOf_1 (fun H locs h => ?_)
  refine lv_if_eq (tgt := 19) hx hb dX2_cupsOf_4 (by decide) (fun c1 => ?_) (fun c1 => ?_)
  · have ic1 : (F_X2_isCaravan a1).toInt = 0 := i_eq c1
    have hF := (if_pos c1).symm.trans hF
    refine lv_iconst (v := 0) hx hb dX2_cupsOf_19 (by decide) ?_
    exact g_iret E hr hlk h hQ hF rfl dX2_cupsOf_20
  · have ic1 : (F_X2_isCaravan a1).toInt ≠ 0 := i_ne c1
    have jc1 := fz_isCaravan c1
    have hF := (if_neg c1).symm.trans hF
    refine lv_aload_n hx hb dX2_cupsOf_7 rfl (lv_at hl 0 rfl) ?_
    refine g_get (v := .ref (ad 27)) E h 26 rfl rfl layX2 0 (by decide) rfl mw_61 rfl dX2_cupsOf_8 ?_
    refine lv_bipush (v := 6) hx hb dX2_cupsOf_11 (by decide) ?_
    refine lv_iload_n hx hb dX2_cupsOf_13 rfl (lv_at hl 1 rfl) ?_
    refine lv_iadd hx hb dX2_cupsOf_14 ?_
    refine g_iald (f := (σ.2.1 27)) E h 27 rfl (ix_of (oI_add (oI_lit (x := 6) (a := 6) rfl) (oI_at a1)) (by omega) (by decide)) dX2_cupsOf_15 ?_
    refine lv_goto (tgt := 20) hx hb dX2_cupsOf_16 (by decide) ?_
    exact g_iret E hr hlk h hQ hF rfl dX2_cupsOf_20

def F_X2_dryOf (σ : St) (a1 : Int32) : Int32 := (if (F_X2_isCaravan a1) = 0 then (0 : Int32) else ((σ.2.1 27) ((10 : Int32) + a1).toNatClampNeg))
set_option maxHeartbeats 4000000 in
set_option maxRecDepth 20000 in
theorem c_X2_dryOf (l : Launch) (D : va_G) (cI cZ : ClassId) (z : Nat) (ad : Nat → Nat) (σ τ : St) (a1 : Int32) : gM l yX2_dryOf cX2_dryOf 2 (some .int) 2 D cI cZ z (gws ad cI cZ σ τ) [.ref (ad 26), .int a1] (some (.int (F_X2_dryOf σ a1))) (gws ad cI cZ σ τ) := by
  refine g_met (own := RX2) (by decide) rfl (Nat.le_of_ble_eq_true rfl) (fun p e s m below meth c ls Q E hr hlk h hl hQ => ?_)
  have hx := E.1
  have hb := E.2.1
  have hF : (F_X2_dryOf σ a1) = (F_X2_dryOf σ a1) := rfl
  have hl : lv_has ls 2 [(0, .ref (ad 26)), (1, .int a1)] := hl
  refine lv_iload_n hx hb dX2_dryOf_0 rfl (lv_at hl 1 rfl) ?_
  refine g_callSi (rest := []) E h (c_X2_isCaravan l D cI cZ z (gws ad cI cZ σ τ) a1) mw_335 cbX2_isCaravan ⟨by decide, by decide⟩ rfl rfl hl.1 (Nat.le_of_ble_eq_true rfl) ⟨Nat.zero_le _, Nat.zero_le _⟩ dX2_dryOf_1 (fun H locs h => ?_)
  refine lv_if_eq (tgt := 19) hx hb dX2_dryOf_4 (by decide) (fun c1 => ?_) (fun c1 => ?_)
  · have ic1 : (F_X2_isCaravan a1).toInt = 0 := i_eq c1
    have hF := (if_pos c1).symm.trans hF
    refine lv_iconst (v := 0) hx hb dX2_dryOf_19 (by decide) ?_
    exact g_iret E hr hlk h hQ hF rfl dX2_dryOf_20
  · have ic1 : (F_X2_isCaravan a1).toInt ≠ 0 := i_ne c1
    have jc1 := fz_isCaravan c1
    have hF := (if_neg c1).symm.trans hF
    refine lv_aload_n hx hb dX2_dryOf_7 rfl (lv_at hl 0 rfl) ?_
    refine g_get (v := .ref (ad 27)) E h 26 rfl rfl layX2 0 (by decide) rfl mw_61 rfl dX2_dryOf_8 ?_
    refine lv_bipush (v := 10) hx hb dX2_dryOf_11 (by decide) ?_
    refine lv_iload_n hx hb dX2_dryOf_13 rfl (lv_at hl 1 rfl) ?_
    refine lv_iadd hx hb dX2_dryOf_14 ?_
    refine g_iald (f := (σ.2.1 27)) E h 27 rfl (ix_of (oI_add (oI_lit (x := 10) (a := 10) rfl) (oI_at a1)) (by omega) (by decide)) dX2_dryOf_15 ?_
    refine lv_goto (tgt := 20) hx hb dX2_dryOf_16 (by decide) ?_
    exact g_iret E hr hlk h hQ hF rfl dX2_dryOf_20

def F_X2_knotsOf (σ : St) (a1 : Int32) (a2 : Int32) : Int32 := (if (F_X2_isCaravan a1) = 0 then (0 : Int32) else (if (F_X2_isWell a2) = 0 then (0 : Int32) else ((σ.2.1 27) (((14 : Int32) + (a1 * (6 : Int32))) + a2).toNatClampNeg)))
set_option maxHeartbeats 4000000 in
set_option maxRecDepth 20000 in
theorem c_X2_knotsOf (l : Launch) (D : va_G) (cI cZ : ClassId) (z : Nat) (ad : Nat → Nat) (σ τ : St) (a1 a2 : Int32) : gM l yX2_knotsOf cX2_knotsOf 3 (some .int) 2 D cI cZ z (gws ad cI cZ σ τ) [.ref (ad 26), .int a1, .int a2] (some (.int (F_X2_knotsOf σ a1 a2))) (gws ad cI cZ σ τ) := by
  refine g_met (own := RX2) (by decide) rfl (Nat.le_of_ble_eq_true rfl) (fun p e s m below meth c ls Q E hr hlk h hl hQ => ?_)
  have hx := E.1
  have hb := E.2.1
  have hF : (F_X2_knotsOf σ a1 a2) = (F_X2_knotsOf σ a1 a2) := rfl
  have hl : lv_has ls 3 [(0, .ref (ad 26)), (1, .int a1), (2, .int a2)] := hl
  refine lv_iload_n hx hb dX2_knotsOf_0 rfl (lv_at hl 1 rfl) ?_
  refine g_callSi (rest := []) E h (c_X2_isCaravan l D cI cZ z (gws ad cI cZ σ τ) a1) mw_335 cbX2_isCaravan ⟨by decide, by decide⟩ rfl rfl hl.1 (Nat.le_of_ble_eq_true rfl) ⟨Nat.zero_le _, Nat.zero_le _⟩ dX2_knotsOf_1 (fun H locs h => ?_)
  refine lv_if_eq (tgt := 31) hx hb dX2_knotsOf_4 (by decide) (fun c1 => ?_) (fun c1 => ?_)
  · have ic1 : (F_X2_isCaravan a1).toInt = 0 := i_eq c1
    have hF := (if_pos c1).symm.trans hF
    refine lv_iconst (v := 0) hx hb dX2_knotsOf_31 (by decide) ?_
    exact g_iret E hr hlk h hQ hF rfl dX2_knotsOf_32
  · have ic1 : (F_X2_isCaravan a1).toInt ≠ 0 := i_ne c1
    have jc1 := fz_isCaravan c1
    have hF := (if_neg c1).symm.trans hF
    refine lv_iload_n hx hb dX2_knotsOf_7 rfl (lv_at hl 2 rfl) ?_
    refine g_callSi (rest := []) E h (c_X2_isWell l D cI cZ z (gws ad cI cZ σ τ) a2) mw_354 cbX2_isWell ⟨by decide, by decide⟩ rfl rfl hl.1 (Nat.le_of_ble_eq_true rfl) ⟨Nat.zero_le _, Nat.zero_le _⟩ dX2_knotsOf_8 (fun H locs h => ?_)
    refine lv_if_eq (tgt := 31) hx hb dX2_knotsOf_11 (by decide) (fun c2 => ?_) (fun c2 => ?_)
    · have ic2 : (F_X2_isWell a2).toInt = 0 := i_eq c2
      have hF := (if_pos c2).symm.trans hF
      refine lv_iconst (v := 0) hx hb dX2_knotsOf_31 (by decide) ?_
      exact g_iret E hr hlk h hQ hF rfl dX2_knotsOf_32
    · have ic2 : (F_X2_isWell a2).toInt ≠ 0 := i_ne c2
      have jc2 := fz_isWell c2
      have hF := (if_neg c2).symm.trans hF
      refine lv_aload_n hx hb dX2_knotsOf_14 rfl (lv_at hl 0 rfl) ?_
      refine g_get (v := .ref (ad 27)) E h 26 rfl rfl layX2 0 (by decide) rfl mw_61 rfl dX2_knotsOf_15 ?_
      refine lv_bipush (v := 14) hx hb dX2_knotsOf_18 (by decide) ?_
      refine lv_iload_n hx hb dX2_knotsOf_20 rfl (lv_at hl 1 rfl) ?_
      refine lv_bipush (v := 6) hx hb dX2_knotsOf_21 (by decide) ?_
      refine lv_imul hx hb dX2_knotsOf_23 ?_
      refine lv_iadd hx hb dX2_knotsOf_24 ?_
      refine lv_iload_n hx hb dX2_knotsOf_25 rfl (lv_at hl 2 rfl) ?_
      refine lv_iadd hx hb dX2_knotsOf_26 ?_
      refine g_iald (f := (σ.2.1 27)) E h 27 rfl (ix_of (oI_add (oI_add (oI_lit (x := 14) (a := 14) rfl) (oI_mul (oI_at a1) (oI_lit (x := 6) (a := 6) rfl))) (oI_at a2)) (by omega) (by decide)) dX2_knotsOf_27 ?_
      refine lv_goto (tgt := 32) hx hb dX2_knotsOf_28 (by decide) ?_
      exact g_iret E hr hlk h hQ hF rfl dX2_knotsOf_32

def F_X2_duesOf (σ : St) (a1 : Int32) (a2 : Int32) : Int32 := (if (F_X2_isWell a1) = 0 then (0 : Int32) else (if (F_X2_isWell a2) = 0 then (0 : Int32) else ((σ.2.1 27) (((38 : Int32) + (a1 * (6 : Int32))) + a2).toNatClampNeg)))
set_option maxHeartbeats 4000000 in
set_option maxRecDepth 20000 in
theorem c_X2_duesOf (l : Launch) (D : va_G) (cI cZ : ClassId) (z : Nat) (ad : Nat → Nat) (σ τ : St) (a1 a2 : Int32) : gM l yX2_duesOf cX2_duesOf 3 (some .int) 2 D cI cZ z (gws ad cI cZ σ τ) [.ref (ad 26), .int a1, .int a2] (some (.int (F_X2_duesOf σ a1 a2))) (gws ad cI cZ σ τ) := by
  refine g_met (own := RX2) (by decide) rfl (Nat.le_of_ble_eq_true rfl) (fun p e s m below meth c ls Q E hr hlk h hl hQ => ?_)
  have hx := E.1
  have hb := E.2.1
  have hF : (F_X2_duesOf σ a1 a2) = (F_X2_duesOf σ a1 a2) := rfl
  have hl : lv_has ls 3 [(0, .ref (ad 26)), (1, .int a1), (2, .int a2)] := hl
  refine lv_iload_n hx hb dX2_duesOf_0 rfl (lv_at hl 1 rfl) ?_
  refine g_callSi (rest := []) E h (c_X2_isWell l D cI cZ z (gws ad cI cZ σ τ) a1) mw_354 cbX2_isWell ⟨by decide, by decide⟩ rfl rfl hl.1 (Nat.le_of_ble_eq_true rfl) ⟨Nat.zero_le _, Nat.zero_le _⟩ dX2_duesOf_1 (fun H locs h => ?_)
  refine lv_if_eq (tgt := 31) hx hb dX2_duesOf_4 (by decide) (fun c1 => ?_) (fun c1 => ?_)
  · have ic1 : (F_X2_isWell a1).toInt = 0 := i_eq c1
    have hF := (if_pos c1).symm.trans hF
    refine lv_iconst (v := 0) hx hb dX2_duesOf_31 (by decide) ?_
    exact g_iret E hr hlk h hQ hF rfl dX2_duesOf_32
  · have ic1 : (F_X2_isWell a1).toInt ≠ 0 := i_ne c1
    have jc1 := fz_isWell c1
    have hF := (if_neg c1).symm.trans hF
    refine lv_iload_n hx hb dX2_duesOf_7 rfl (lv_at hl 2 rfl) ?_
    refine g_callSi (rest := []) E h (c_X2_isWell l D cI cZ z (gws ad cI cZ σ τ) a2) mw_354 cbX2_isWell ⟨by decide, by decide⟩ rfl rfl hl.1 (Nat.le_of_ble_eq_true rfl) ⟨Nat.zero_le _, Nat.zero_le _⟩ dX2_duesOf_8 (fun H locs h => ?_)
    refine lv_if_eq (tgt := 31) hx hb dX2_duesOf_11 (by decide) (fun c2 => ?_) (fun c2 => ?_)
    · have ic2 : (F_X2_isWell a2).toInt = 0 := i_eq c2
      have hF := (if_pos c2).symm.trans hF
      refine lv_iconst (v := 0) hx hb dX2_duesOf_31 (by decide) ?_
      exact g_iret E hr hlk h hQ hF rfl dX2_duesOf_32
    · have ic2 : (F_X2_isWell a2).toInt ≠ 0 := i_ne c2
      have jc2 := fz_isWell c2
      have hF := (if_neg c2).symm.trans hF
      refine lv_aload_n hx hb dX2_duesOf_14 rfl (lv_at hl 0 rfl) ?_
      refine g_get (v := .ref (ad 27)) E h 26 rfl rfl layX2 0 (by decide) rfl mw_61 rfl dX2_duesOf_15 ?_
      refine lv_bipush (v := 38) hx hb dX2_duesOf_18 (by decide) ?_
      refine lv_iload_n hx hb dX2_duesOf_20 rfl (lv_at hl 1 rfl) ?_
      refine lv_bipush (v := 6) hx hb dX2_duesOf_21 (by decide) ?_
      refine lv_imul hx hb dX2_duesOf_23 ?_
      refine lv_iadd hx hb dX2_duesOf_24 ?_
      refine lv_iload_n hx hb dX2_duesOf_25 rfl (lv_at hl 2 rfl) ?_
      refine lv_iadd hx hb dX2_duesOf_26 ?_
      refine g_iald (f := (σ.2.1 27)) E h 27 rfl (ix_of (oI_add (oI_add (oI_lit (x := 38) (a := 38) rfl) (oI_mul (oI_at a1) (oI_lit (x := 6) (a := 6) rfl))) (oI_at a2)) (by omega) (by decide)) dX2_duesOf_27 ?_
      refine lv_goto (tgt := 32) hx hb dX2_duesOf_28 (by decide) ?_
      exact g_iret E hr hlk h hQ hF rfl dX2_duesOf_32

def F_X2_wakeD (σ : St) (a1 : Int32) : St := (if (F_X2_isCaravan a1) = 0 then σ else (sa σ 23 (upd (σ.2.1 23) 1 (((σ.2.1 23) 1) ||| ((1 : Int32) <<< (a1 &&& 31))))))
abbrev I_X2_wakeD : List Nat := []
abbrev A_X2_wakeD : List Nat := [23]
theorem fr_F_X2_wakeD (σ : St) (a1 : Int32) : Fr I_X2_wakeD A_X2_wakeD false σ (F_X2_wakeD σ a1) := (fr_ite1 Fr.rf (Fr.sa (by decide) Fr.rf))
set_option maxHeartbeats 4000000 in
set_option maxRecDepth 20000 in
theorem c_X2_wakeD (l : Launch) (D : va_G) (cI cZ : ClassId) (z : Nat) (ad : Nat → Nat) (σ τ : St) (a1 : Int32) : gM l yX2_wake cX2_wake 2 none 2 D cI cZ z (gws ad cI cZ σ τ) [.ref (ad 22), .int a1] none (gws ad cI cZ (F_X2_wakeD σ a1) τ) := by
  refine g_met (own := RX2) (by decide) rfl (Nat.le_of_ble_eq_true rfl) (fun p e s m below meth c ls Q E hr hlk h hl hQ => ?_)
  have hx := E.1
  have hb := E.2.1
  have hF : (F_X2_wakeD σ a1) = (F_X2_wakeD σ a1) := rfl
  have hl : lv_has ls 2 [(0, .ref (ad 22)), (1, .int a1)] := hl
  refine lv_iload_n hx hb dX2_wake_0 rfl (lv_at hl 1 rfl) ?_
  refine g_callSi (rest := []) E h (c_X2_isCaravan l D cI cZ z (gws ad cI cZ σ τ) a1) mw_335 cbX2_isCaravan ⟨by decide, by decide⟩ rfl rfl hl.1 (Nat.le_of_ble_eq_true rfl) ⟨Nat.zero_le _, Nat.zero_le _⟩ dX2_wake_1 (fun H locs h => ?_)
  refine lv_if_eq (tgt := 19) hx hb dX2_wake_4 (by decide) (fun c1 => ?_) (fun c1 => ?_)
  · have ic1 : (F_X2_isCaravan a1).toInt = 0 := i_eq c1
    have hF := (if_pos c1).symm.trans hF
    exact g_vret E hr hlk h hQ (congrArg (fun u => gws ad cI cZ u τ) hF) dX2_wake_19
  · have ic1 : (F_X2_isCaravan a1).toInt ≠ 0 := i_ne c1
    have jc1 := fz_isCaravan c1
    have hF := (if_neg c1).symm.trans hF
    refine lv_aload_n hx hb dX2_wake_7 rfl (lv_at hl 0 rfl) ?_
    refine g_get (v := .ref (ad 23)) E h 22 rfl rfl layX2 0 (by decide) rfl mw_61 rfl dX2_wake_8 ?_
    refine lv_iconst (v := 1) hx hb dX2_wake_11 (by decide) ?_
    refine lv_dup2_11 hx hb dX2_wake_12 rfl rfl ?_
    refine g_ialdk (f := (σ.2.1 23)) E h 23 rfl 1 rfl (ix_of (oI_lit (x := 1) (a := 1) rfl) (by omega) (by decide)) dX2_wake_13 ?_
    refine lv_iconst (v := 1) hx hb dX2_wake_14 (by decide) ?_
    refine lv_iload_n hx hb dX2_wake_15 rfl (lv_at hl 1 rfl) ?_
    refine lv_ishl hx hb dX2_wake_16 ?_
    refine lv_ior hx hb dX2_wake_17 ?_
    refine g_iastk (f := (σ.2.1 23)) (ws' := gws ad cI cZ (sa σ 23 (upd (σ.2.1 23) 1 (((σ.2.1 23) 1) ||| ((1 : Int32) <<< (a1 &&& 31))))) τ) E h 23 rfl 1 rfl (ix_of (oI_lit (x := 1) (a := 1) rfl) (by omega) (by decide)) (ga_23 ad cI cZ σ τ (upd (σ.2.1 23) 1 (((σ.2.1 23) 1) ||| ((1 : Int32) <<< (a1 &&& 31))))) dX2_wake_18 (fun H locs h => ?_)
    exact g_vret E hr hlk h hQ (congrArg (fun u => gws ad cI cZ u τ) hF) dX2_wake_19

def F_X2_setPlaceD (σ : St) (a1 : Int32) (a2 : Int32) : St := (if (F_X2_isCaravan a1) = 0 then σ else (sa σ 23 (upd (σ.2.1 23) ((2 : Int32) + a1).toNatClampNeg a2)))
abbrev I_X2_setPlaceD : List Nat := []
abbrev A_X2_setPlaceD : List Nat := [23]
theorem fr_F_X2_setPlaceD (σ : St) (a1 : Int32) (a2 : Int32) : Fr I_X2_setPlaceD A_X2_setPlaceD false σ (F_X2_setPlaceD σ a1 a2) := (fr_ite1 Fr.rf (Fr.sa (by decide) Fr.rf))
set_option maxHeartbeats 4000000 in
set_option maxRecDepth 20000 in
theorem c_X2_setPlaceD (l : Launch) (D : va_G) (cI cZ : ClassId) (z : Nat) (ad : Nat → Nat) (σ τ : St) (a1 a2 : Int32) : gM l yX2_setPlace cX2_setPlace 3 none 2 D cI cZ z (gws ad cI cZ σ τ) [.ref (ad 22), .int a1, .int a2] none (gws ad cI cZ (F_X2_setPlaceD σ a1 a2) τ) := by
  refine g_met (own := RX2) (by decide) rfl (Nat.le_of_ble_eq_true rfl) (fun p e s m below meth c ls Q E hr hlk h hl hQ => ?_)
  have hx := E.1
  have hb := E.2.1
  have hF : (F_X2_setPlaceD σ a1 a2) = (F_X2_setPlaceD σ a1 a2) := rfl
  have hl : lv_has ls 3 [(0, .ref (ad 22)), (1, .int a1), (2, .int a2)] := hl
  refine lv_iload_n hx hb dX2_setPlace_0 rfl (lv_at hl 1 rfl) ?_
  refine g_callSi (rest := []) E h (c_X2_isCaravan l D cI cZ z (gws ad cI cZ σ τ) a1) mw_335 cbX2_isCaravan ⟨by decide, by decide⟩ rfl rfl hl.1 (Nat.le_of_ble_eq_true rfl) ⟨Nat.zero_le _, Nat.zero_le _⟩ dX2_setPlace_1 (fun H locs h => ?_)
  refine lv_if_eq (tgt := 16) hx hb dX2_setPlace_4 (by decide) (fun c1 => ?_) (fun c1 => ?_)
  · have ic1 : (F_X2_isCaravan a1).toInt = 0 := i_eq c1
    have hF := (if_pos c1).symm.trans hF
    exact g_vret E hr hlk h hQ (congrArg (fun u => gws ad cI cZ u τ) hF) dX2_setPlace_16
  · have ic1 : (F_X2_isCaravan a1).toInt ≠ 0 := i_ne c1
    have jc1 := fz_isCaravan c1
    have hF := (if_neg c1).symm.trans hF
    refine lv_aload_n hx hb dX2_setPlace_7 rfl (lv_at hl 0 rfl) ?_
    refine g_get (v := .ref (ad 23)) E h 22 rfl rfl layX2 0 (by decide) rfl mw_61 rfl dX2_setPlace_8 ?_
    refine lv_iconst (v := 2) hx hb dX2_setPlace_11 (by decide) ?_
    refine lv_iload_n hx hb dX2_setPlace_12 rfl (lv_at hl 1 rfl) ?_
    refine lv_iadd hx hb dX2_setPlace_13 ?_
    refine lv_iload_n hx hb dX2_setPlace_14 rfl (lv_at hl 2 rfl) ?_
    refine g_iast (f := (σ.2.1 23)) (ws' := gws ad cI cZ (sa σ 23 (upd (σ.2.1 23) ((2 : Int32) + a1).toNatClampNeg a2)) τ) E h 23 rfl (ix_of (oI_add (oI_lit (x := 2) (a := 2) rfl) (oI_at a1)) (by omega) (by decide)) (ga_23 ad cI cZ σ τ (upd (σ.2.1 23) ((2 : Int32) + a1).toNatClampNeg a2)) dX2_setPlace_15 (fun H locs h => ?_)
    exact g_vret E hr hlk h hQ (congrArg (fun u => gws ad cI cZ u τ) hF) dX2_setPlace_16

def F_X2_setCupsD (σ : St) (a1 : Int32) (a2 : Int32) : St := (if (F_X2_isCaravan a1) = 0 then σ else (sa σ 23 (upd (σ.2.1 23) ((6 : Int32) + a1).toNatClampNeg a2)))
abbrev I_X2_setCupsD : List Nat := []
abbrev A_X2_setCupsD : List Nat := [23]
theorem fr_F_X2_setCupsD (σ : St) (a1 : Int32) (a2 : Int32) : Fr I_X2_setCupsD A_X2_setCupsD false σ (F_X2_setCupsD σ a1 a2) := (fr_ite1 Fr.rf (Fr.sa (by decide) Fr.rf))
set_option maxHeartbeats 4000000 in
set_option maxRecDepth 20000 in
theorem c_X2_setCupsD (l : Launch) (D : va_G) (cI cZ : ClassId) (z : Nat) (ad : Nat → Nat) (σ τ : St) (a1 a2 : Int32) : gM l yX2_setCups cX2_setCups 3 none 2 D cI cZ z (gws ad cI cZ σ τ) [.ref (ad 22), .int a1, .int a2] none (gws ad cI cZ (F_X2_setCupsD σ a1 a2) τ) := by
  refine g_met (own := RX2) (by decide) rfl (Nat.le_of_ble_eq_true rfl) (fun p e s m below meth c ls Q E hr hlk h hl hQ => ?_)
  have hx := E.1
  have hb := E.2.1
  have hF : (F_X2_setCupsD σ a1 a2) = (F_X2_setCupsD σ a1 a2) := rfl
  have hl : lv_has ls 3 [(0, .ref (ad 22)), (1, .int a1), (2, .int a2)] := hl
  refine lv_iload_n hx hb dX2_setCups_0 rfl (lv_at hl 1 rfl) ?_
  refine g_callSi (rest := []) E h (c_X2_isCaravan l D cI cZ z (gws ad cI cZ σ τ) a1) mw_335 cbX2_isCaravan ⟨by decide, by decide⟩ rfl rfl hl.1 (Nat.le_of_ble_eq_true rfl) ⟨Nat.zero_le _, Nat.zero_le _⟩ dX2_setCups_1 (fun H locs h => ?_)
  refine lv_if_eq (tgt := 17) hx hb dX2_setCups_4 (by decide) (fun c1 => ?_) (fun c1 => ?_)
  · have ic1 : (F_X2_isCaravan a1).toInt = 0 := i_eq c1
    have hF := (if_pos c1).symm.trans hF
    exact g_vret E hr hlk h hQ (congrArg (fun u => gws ad cI cZ u τ) hF) dX2_setCups_17
  · have ic1 : (F_X2_isCaravan a1).toInt ≠ 0 := i_ne c1
    have jc1 := fz_isCaravan c1
    have hF := (if_neg c1).symm.trans hF
    refine lv_aload_n hx hb dX2_setCups_7 rfl (lv_at hl 0 rfl) ?_
    refine g_get (v := .ref (ad 23)) E h 22 rfl rfl layX2 0 (by decide) rfl mw_61 rfl dX2_setCups_8 ?_
    refine lv_bipush (v := 6) hx hb dX2_setCups_11 (by decide) ?_
    refine lv_iload_n hx hb dX2_setCups_13 rfl (lv_at hl 1 rfl) ?_
    refine lv_iadd hx hb dX2_setCups_14 ?_
    refine lv_iload_n hx hb dX2_setCups_15 rfl (lv_at hl 2 rfl) ?_
    refine g_iast (f := (σ.2.1 23)) (ws' := gws ad cI cZ (sa σ 23 (upd (σ.2.1 23) ((6 : Int32) + a1).toNatClampNeg a2)) τ) E h 23 rfl (ix_of (oI_add (oI_lit (x := 6) (a := 6) rfl) (oI_at a1)) (by omega) (by decide)) (ga_23 ad cI cZ σ τ (upd (σ.2.1 23) ((6 : Int32) + a1).toNatClampNeg a2)) dX2_setCups_16 (fun H locs h => ?_)
    exact g_vret E hr hlk h hQ (congrArg (fun u => gws ad cI cZ u τ) hF) dX2_setCups_17

def F_X2_setKnotsD (σ : St) (a1 : Int32) (a2 : Int32) (a3 : Int32) : St := (if (F_X2_isCaravan a1) = 0 then σ else (if (F_X2_isWell a2) = 0 then σ else (sa σ 23 (upd (σ.2.1 23) (((14 : Int32) + (a1 * (6 : Int32))) + a2).toNatClampNeg a3))))
abbrev I_X2_setKnotsD : List Nat := []
abbrev A_X2_setKnotsD : List Nat := [23]
theorem fr_F_X2_setKnotsD (σ : St) (a1 : Int32) (a2 : Int32) (a3 : Int32) : Fr I_X2_setKnotsD A_X2_setKnotsD false σ (F_X2_setKnotsD σ a1 a2 a3) := (fr_ite1 Fr.rf (fr_ite1 Fr.rf (Fr.sa (by decide) Fr.rf)))
set_option maxHeartbeats 4000000 in
set_option maxRecDepth 20000 in
theorem c_X2_setKnotsD (l : Launch) (D : va_G) (cI cZ : ClassId) (z : Nat) (ad : Nat → Nat) (σ τ : St) (a1 a2 a3 : Int32) : gM l yX2_setKnots cX2_setKnots 4 none 2 D cI cZ z (gws ad cI cZ σ τ) [.ref (ad 22), .int a1, .int a2, .int a3] none (gws ad cI cZ (F_X2_setKnotsD σ a1 a2 a3) τ) := by
  refine g_met (own := RX2) (by decide) rfl (Nat.le_of_ble_eq_true rfl) (fun p e s m below meth c ls Q E hr hlk h hl hQ => ?_)
  have hx := E.1
  have hb := E.2.1
  have hF : (F_X2_setKnotsD σ a1 a2 a3) = (F_X2_setKnotsD σ a1 a2 a3) := rfl
  have hl : lv_has ls 4 [(0, .ref (ad 22)), (1, .int a1), (2, .int a2), (3, .int a3)] := hl
  refine lv_iload_n hx hb dX2_setKnots_0 rfl (lv_at hl 1 rfl) ?_
  refine g_callSi (rest := []) E h (c_X2_isCaravan l D cI cZ z (gws ad cI cZ σ τ) a1) mw_335 cbX2_isCaravan ⟨by decide, by decide⟩ rfl rfl hl.1 (Nat.le_of_ble_eq_true rfl) ⟨Nat.zero_le _, Nat.zero_le _⟩ dX2_setKnots_1 (fun H locs h => ?_)
  refine lv_if_eq (tgt := 29) hx hb dX2_setKnots_4 (by decide) (fun c1 => ?_) (fun c1 => ?_)
  · have ic1 : (F_X2_isCaravan a1).toInt = 0 := i_eq c1
    have hF := (if_pos c1).symm.trans hF
    exact g_vret E hr hlk h hQ (congrArg (fun u => gws ad cI cZ u τ) hF) dX2_setKnots_29
  · have ic1 : (F_X2_isCaravan a1).toInt ≠ 0 := i_ne c1
    have jc1 := fz_isCaravan c1
    have hF := (if_neg c1).symm.trans hF
    refine lv_iload_n hx hb dX2_setKnots_7 rfl (lv_at hl 2 rfl) ?_
    refine g_callSi (rest := []) E h (c_X2_isWell l D cI cZ z (gws ad cI cZ σ τ) a2) mw_354 cbX2_isWell ⟨by decide, by decide⟩ rfl rfl hl.1 (Nat.le_of_ble_eq_true rfl) ⟨Nat.zero_le _, Nat.zero_le _⟩ dX2_setKnots_8 (fun H locs h => ?_)
    refine lv_if_eq (tgt := 29) hx hb dX2_setKnots_11 (by decide) (fun c2 => ?_) (fun c2 => ?_)
    · have ic2 : (F_X2_isWell a2).toInt = 0 := i_eq c2
      have hF := (if_pos c2).symm.trans hF
      exact g_vret E hr hlk h hQ (congrArg (fun u => gws ad cI cZ u τ) hF) dX2_setKnots_29
    · have ic2 : (F_X2_isWell a2).toInt ≠ 0 := i_ne c2
      have jc2 := fz_isWell c2
      have hF := (if_neg c2).symm.trans hF
      refine lv_aload_n hx hb dX2_setKnots_14 rfl (lv_at hl 0 rfl) ?_
      refine g_get (v := .ref (ad 23)) E h 22 rfl rfl layX2 0 (by decide) rfl mw_61 rfl dX2_setKnots_15 ?_
      refine lv_bipush (v := 14) hx hb dX2_setKnots_18 (by decide) ?_
      refine lv_iload_n hx hb dX2_setKnots_20 rfl (lv_at hl 1 rfl) ?_
      refine lv_bipush (v := 6) hx hb dX2_setKnots_21 (by decide) ?_
      refine lv_imul hx hb dX2_setKnots_23 ?_
      refine lv_iadd hx hb dX2_setKnots_24 ?_
      refine lv_iload_n hx hb dX2_setKnots_25 rfl (lv_at hl 2 rfl) ?_
      refine lv_iadd hx hb dX2_setKnots_26 ?_
      refine lv_iload_n hx hb dX2_setKnots_27 rfl (lv_at hl 3 rfl) ?_
      refine g_iast (f := (σ.2.1 23)) (ws' := gws ad cI cZ (sa σ 23 (upd (σ.2.1 23) (((14 : Int32) + (a1 * (6 : Int32))) + a2).toNatClampNeg a3)) τ) E h 23 rfl (ix_of (oI_add (oI_add (oI_lit (x := 14) (a := 14) rfl) (oI_mul (oI_at a1) (oI_lit (x := 6) (a := 6) rfl))) (oI_at a2)) (by omega) (by decide)) (ga_23 ad cI cZ σ τ (upd (σ.2.1 23) (((14 : Int32) + (a1 * (6 : Int32))) + a2).toNatClampNeg a3)) dX2_setKnots_28 (fun H locs h => ?_)
      exact g_vret E hr hlk h hQ (congrArg (fun u => gws ad cI cZ u τ) hF) dX2_setKnots_29

def F_X2_setDuesD (σ : St) (a1 : Int32) (a2 : Int32) (a3 : Int32) : St := (if (F_X2_isWell a1) = 0 then σ else (if (F_X2_isWell a2) = 0 then σ else (sa σ 23 (upd (σ.2.1 23) (((38 : Int32) + (a1 * (6 : Int32))) + a2).toNatClampNeg a3))))
abbrev I_X2_setDuesD : List Nat := []
abbrev A_X2_setDuesD : List Nat := [23]
theorem fr_F_X2_setDuesD (σ : St) (a1 : Int32) (a2 : Int32) (a3 : Int32) : Fr I_X2_setDuesD A_X2_setDuesD false σ (F_X2_setDuesD σ a1 a2 a3) := (fr_ite1 Fr.rf (fr_ite1 Fr.rf (Fr.sa (by decide) Fr.rf)))
set_option maxHeartbeats 4000000 in
set_option maxRecDepth 20000 in
theorem c_X2_setDuesD (l : Launch) (D : va_G) (cI cZ : ClassId) (z : Nat) (ad : Nat → Nat) (σ τ : St) (a1 a2 a3 : Int32) : gM l yX2_setDues cX2_setDues 4 none 2 D cI cZ z (gws ad cI cZ σ τ) [.ref (ad 22), .int a1, .int a2, .int a3] none (gws ad cI cZ (F_X2_setDuesD σ a1 a2 a3) τ) := by
  refine g_met (own := RX2) (by decide) rfl (Nat.le_of_ble_eq_true rfl) (fun p e s m below meth c ls Q E hr hlk h hl hQ => ?_)
  have hx := E.1
  have hb := E.2.1
  have hF : (F_X2_setDuesD σ a1 a2 a3) = (F_X2_setDuesD σ a1 a2 a3) := rfl
  have hl : lv_has ls 4 [(0, .ref (ad 22)), (1, .int a1), (2, .int a2), (3, .int a3)] := hl
  refine lv_iload_n hx hb dX2_setDues_0 rfl (lv_at hl 1 rfl) ?_
  refine g_callSi (rest := []) E h (c_X2_isWell l D cI cZ z (gws ad cI cZ σ τ) a1) mw_354 cbX2_isWell ⟨by decide, by decide⟩ rfl rfl hl.1 (Nat.le_of_ble_eq_true rfl) ⟨Nat.zero_le _, Nat.zero_le _⟩ dX2_setDues_1 (fun H locs h => ?_)
  refine lv_if_eq (tgt := 29) hx hb dX2_setDues_4 (by decide) (fun c1 => ?_) (fun c1 => ?_)
  · have ic1 : (F_X2_isWell a1).toInt = 0 := i_eq c1
    have hF := (if_pos c1).symm.trans hF
    exact g_vret E hr hlk h hQ (congrArg (fun u => gws ad cI cZ u τ) hF) dX2_setDues_29
  · have ic1 : (F_X2_isWell a1).toInt ≠ 0 := i_ne c1
    have jc1 := fz_isWell c1
    have hF := (if_neg c1).symm.trans hF
    refine lv_iload_n hx hb dX2_setDues_7 rfl (lv_at hl 2 rfl) ?_
    refine g_callSi (rest := []) E h (c_X2_isWell l D cI cZ z (gws ad cI cZ σ τ) a2) mw_354 cbX2_isWell ⟨by decide, by decide⟩ rfl rfl hl.1 (Nat.le_of_ble_eq_true rfl) ⟨Nat.zero_le _, Nat.zero_le _⟩ dX2_setDues_8 (fun H locs h => ?_)
    refine lv_if_eq (tgt := 29) hx hb dX2_setDues_11 (by decide) (fun c2 => ?_) (fun c2 => ?_)
    · have ic2 : (F_X2_isWell a2).toInt = 0 := i_eq c2
      have hF := (if_pos c2).symm.trans hF
      exact g_vret E hr hlk h hQ (congrArg (fun u => gws ad cI cZ u τ) hF) dX2_setDues_29
    · have ic2 : (F_X2_isWell a2).toInt ≠ 0 := i_ne c2
      have jc2 := fz_isWell c2
      have hF := (if_neg c2).symm.trans hF
      refine lv_aload_n hx hb dX2_setDues_14 rfl (lv_at hl 0 rfl) ?_
      refine g_get (v := .ref (ad 23)) E h 22 rfl rfl layX2 0 (by decide) rfl mw_61 rfl dX2_setDues_15 ?_
      refine lv_bipush (v := 38) hx hb dX2_setDues_18 (by decide) ?_
      refine lv_iload_n hx hb dX2_setDues_20 rfl (lv_at hl 1 rfl) ?_
      refine lv_bipush (v := 6) hx hb dX2_setDues_21 (by decide) ?_
      refine lv_imul hx hb dX2_setDues_23 ?_
      refine lv_iadd hx hb dX2_setDues_24 ?_
      refine lv_iload_n hx hb dX2_setDues_25 rfl (lv_at hl 2 rfl) ?_
      refine lv_iadd hx hb dX2_setDues_26 ?_
      refine lv_iload_n hx hb dX2_setDues_27 rfl (lv_at hl 3 rfl) ?_
      refine g_iast (f := (σ.2.1 23)) (ws' := gws ad cI cZ (sa σ 23 (upd (σ.2.1 23) (((38 : Int32) + (a1 * (6 : Int32))) + a2).toNatClampNeg a3)) τ) E h 23 rfl (ix_of (oI_add (oI_add (oI_lit (x := 38) (a := 38) rfl) (oI_mul (oI_at a1) (oI_lit (x := 6) (a := 6) rfl))) (oI_at a2)) (by omega) (by decide)) (ga_23 ad cI cZ σ τ (upd (σ.2.1 23) (((38 : Int32) + (a1 * (6 : Int32))) + a2).toNatClampNeg a3)) dX2_setDues_28 (fun H locs h => ?_)
      exact g_vret E hr hlk h hQ (congrArg (fun u => gws ad cI cZ u τ) hF) dX2_setDues_29

def F_X2_wake (σ : St) (a1 : Int32) : St := (if (F_X2_isCaravan a1) = 0 then σ else (sa σ 27 (upd (σ.2.1 27) 1 (((σ.2.1 27) 1) ||| ((1 : Int32) <<< (a1 &&& 31))))))
abbrev I_X2_wake : List Nat := []
abbrev A_X2_wake : List Nat := [27]
theorem fr_F_X2_wake (σ : St) (a1 : Int32) : Fr I_X2_wake A_X2_wake false σ (F_X2_wake σ a1) := (fr_ite1 Fr.rf (Fr.sa (by decide) Fr.rf))
set_option maxHeartbeats 4000000 in
set_option maxRecDepth 20000 in
theorem c_X2_wake (l : Launch) (D : va_G) (cI cZ : ClassId) (z : Nat) (ad : Nat → Nat) (σ τ : St) (a1 : Int32) : gM l yX2_wake cX2_wake 2 none 2 D cI cZ z (gws ad cI cZ σ τ) [.ref (ad 26), .int a1] none (gws ad cI cZ (F_X2_wake σ a1) τ) := by
  refine g_met (own := RX2) (by decide) rfl (Nat.le_of_ble_eq_true rfl) (fun p e s m below meth c ls Q E hr hlk h hl hQ => ?_)
  have hx := E.1
  have hb := E.2.1
  have hF : (F_X2_wake σ a1) = (F_X2_wake σ a1) := rfl
  have hl : lv_has ls 2 [(0, .ref (ad 26)), (1, .int a1)] := hl
  refine lv_iload_n hx hb dX2_wake_0 rfl (lv_at hl 1 rfl) ?_
  refine g_callSi (rest := []) E h (c_X2_isCaravan l D cI cZ z (gws ad cI cZ σ τ) a1) mw_335 cbX2_isCaravan ⟨by decide, by decide⟩ rfl rfl hl.1 (Nat.le_of_ble_eq_true rfl) ⟨Nat.zero_le _, Nat.zero_le _⟩ dX2_wake_1 (fun H locs h => ?_)
  refine lv_if_eq (tgt := 19) hx hb dX2_wake_4 (by decide) (fun c1 => ?_) (fun c1 => ?_)
  · have ic1 : (F_X2_isCaravan a1).toInt = 0 := i_eq c1
    have hF := (if_pos c1).symm.trans hF
    exact g_vret E hr hlk h hQ (congrArg (fun u => gws ad cI cZ u τ) hF) dX2_wake_19
  · have ic1 : (F_X2_isCaravan a1).toInt ≠ 0 := i_ne c1
    have jc1 := fz_isCaravan c1
    have hF := (if_neg c1).symm.trans hF
    refine lv_aload_n hx hb dX2_wake_7 rfl (lv_at hl 0 rfl) ?_
    refine g_get (v := .ref (ad 27)) E h 26 rfl rfl layX2 0 (by decide) rfl mw_61 rfl dX2_wake_8 ?_
    refine lv_iconst (v := 1) hx hb dX2_wake_11 (by decide) ?_
    refine lv_dup2_11 hx hb dX2_wake_12 rfl rfl ?_
    refine g_ialdk (f := (σ.2.1 27)) E h 27 rfl 1 rfl (ix_of (oI_lit (x := 1) (a := 1) rfl) (by omega) (by decide)) dX2_wake_13 ?_
    refine lv_iconst (v := 1) hx hb dX2_wake_14 (by decide) ?_
    refine lv_iload_n hx hb dX2_wake_15 rfl (lv_at hl 1 rfl) ?_
    refine lv_ishl hx hb dX2_wake_16 ?_
    refine lv_ior hx hb dX2_wake_17 ?_
    refine g_iastk (f := (σ.2.1 27)) (ws' := gws ad cI cZ (sa σ 27 (upd (σ.2.1 27) 1 (((σ.2.1 27) 1) ||| ((1 : Int32) <<< (a1 &&& 31))))) τ) E h 27 rfl 1 rfl (ix_of (oI_lit (x := 1) (a := 1) rfl) (by omega) (by decide)) (ga_27 ad cI cZ σ τ (upd (σ.2.1 27) 1 (((σ.2.1 27) 1) ||| ((1 : Int32) <<< (a1 &&& 31))))) dX2_wake_18 (fun H locs h => ?_)
    exact g_vret E hr hlk h hQ (congrArg (fun u => gws ad cI cZ u τ) hF) dX2_wake_19

def F_X2_setPlace (σ : St) (a1 : Int32) (a2 : Int32) : St := (if (F_X2_isCaravan a1) = 0 then σ else (sa σ 27 (upd (σ.2.1 27) ((2 : Int32) + a1).toNatClampNeg a2)))
abbrev I_X2_setPlace : List Nat := []
abbrev A_X2_setPlace : List Nat := [27]
theorem fr_F_X2_setPlace (σ : St) (a1 : Int32) (a2 : Int32) : Fr I_X2_setPlace A_X2_setPlace false σ (F_X2_setPlace σ a1 a2) := (fr_ite1 Fr.rf (Fr.sa (by decide) Fr.rf))
set_option maxHeartbeats 4000000 in
set_option maxRecDepth 20000 in
theorem c_X2_setPlace (l : Launch) (D : va_G) (cI cZ : ClassId) (z : Nat) (ad : Nat → Nat) (σ τ : St) (a1 a2 : Int32) : gM l yX2_setPlace cX2_setPlace 3 none 2 D cI cZ z (gws ad cI cZ σ τ) [.ref (ad 26), .int a1, .int a2] none (gws ad cI cZ (F_X2_setPlace σ a1 a2) τ) := by
  refine g_met (own := RX2) (by decide) rfl (Nat.le_of_ble_eq_true rfl) (fun p e s m below meth c ls Q E hr hlk h hl hQ => ?_)
  have hx := E.1
  have hb := E.2.1
  have hF : (F_X2_setPlace σ a1 a2) = (F_X2_setPlace σ a1 a2) := rfl
  have hl : lv_has ls 3 [(0, .ref (ad 26)), (1, .int a1), (2, .int a2)] := hl
  refine lv_iload_n hx hb dX2_setPlace_0 rfl (lv_at hl 1 rfl) ?_
  refine g_callSi (rest := []) E h (c_X2_isCaravan l D cI cZ z (gws ad cI cZ σ τ) a1) mw_335 cbX2_isCaravan ⟨by decide, by decide⟩ rfl rfl hl.1 (Nat.le_of_ble_eq_true rfl) ⟨Nat.zero_le _, Nat.zero_le _⟩ dX2_setPlace_1 (fun H locs h => ?_)
  refine lv_if_eq (tgt := 16) hx hb dX2_setPlace_4 (by decide) (fun c1 => ?_) (fun c1 => ?_)
  · have ic1 : (F_X2_isCaravan a1).toInt = 0 := i_eq c1
    have hF := (if_pos c1).symm.trans hF
    exact g_vret E hr hlk h hQ (congrArg (fun u => gws ad cI cZ u τ) hF) dX2_setPlace_16
  · have ic1 : (F_X2_isCaravan a1).toInt ≠ 0 := i_ne c1
    have jc1 := fz_isCaravan c1
    have hF := (if_neg c1).symm.trans hF
    refine lv_aload_n hx hb dX2_setPlace_7 rfl (lv_at hl 0 rfl) ?_
    refine g_get (v := .ref (ad 27)) E h 26 rfl rfl layX2 0 (by decide) rfl mw_61 rfl dX2_setPlace_8 ?_
    refine lv_iconst (v := 2) hx hb dX2_setPlace_11 (by decide) ?_
    refine lv_iload_n hx hb dX2_setPlace_12 rfl (lv_at hl 1 rfl) ?_
    refine lv_iadd hx hb dX2_setPlace_13 ?_
    refine lv_iload_n hx hb dX2_setPlace_14 rfl (lv_at hl 2 rfl) ?_
    refine g_iast (f := (σ.2.1 27)) (ws' := gws ad cI cZ (sa σ 27 (upd (σ.2.1 27) ((2 : Int32) + a1).toNatClampNeg a2)) τ) E h 27 rfl (ix_of (oI_add (oI_lit (x := 2) (a := 2) rfl) (oI_at a1)) (by omega) (by decide)) (ga_27 ad cI cZ σ τ (upd (σ.2.1 27) ((2 : Int32) + a1).toNatClampNeg a2)) dX2_setPlace_15 (fun H locs h => ?_)
    exact g_vret E hr hlk h hQ (congrArg (fun u => gws ad cI cZ u τ) hF) dX2_setPlace_16

def F_X2_setCups (σ : St) (a1 : Int32) (a2 : Int32) : St := (if (F_X2_isCaravan a1) = 0 then σ else (sa σ 27 (upd (σ.2.1 27) ((6 : Int32) + a1).toNatClampNeg a2)))
abbrev I_X2_setCups : List Nat := []
abbrev A_X2_setCups : List Nat := [27]
theorem fr_F_X2_setCups (σ : St) (a1 : Int32) (a2 : Int32) : Fr I_X2_setCups A_X2_setCups false σ (F_X2_setCups σ a1 a2) := (fr_ite1 Fr.rf (Fr.sa (by decide) Fr.rf))
set_option maxHeartbeats 4000000 in
set_option maxRecDepth 20000 in
theorem c_X2_setCups (l : Launch) (D : va_G) (cI cZ : ClassId) (z : Nat) (ad : Nat → Nat) (σ τ : St) (a1 a2 : Int32) : gM l yX2_setCups cX2_setCups 3 none 2 D cI cZ z (gws ad cI cZ σ τ) [.ref (ad 26), .int a1, .int a2] none (gws ad cI cZ (F_X2_setCups σ a1 a2) τ) := by
  refine g_met (own := RX2) (by decide) rfl (Nat.le_of_ble_eq_true rfl) (fun p e s m below meth c ls Q E hr hlk h hl hQ => ?_)
  have hx := E.1
  have hb := E.2.1
  have hF : (F_X2_setCups σ a1 a2) = (F_X2_setCups σ a1 a2) := rfl
  have hl : lv_has ls 3 [(0, .ref (ad 26)), (1, .int a1), (2, .int a2)] := hl
  refine lv_iload_n hx hb dX2_setCups_0 rfl (lv_at hl 1 rfl) ?_
  refine g_callSi (rest := []) E h (c_X2_isCaravan l D cI cZ z (gws ad cI cZ σ τ) a1) mw_335 cbX2_isCaravan ⟨by decide, by decide⟩ rfl rfl hl.1 (Nat.le_of_ble_eq_true rfl) ⟨Nat.zero_le _, Nat.zero_le _⟩ dX2_setCups_1 (fun H locs h => ?_)
  refine lv_if_eq (tgt := 17) hx hb dX2_setCups_4 (by decide) (fun c1 => ?_) (fun c1 => ?_)
  · have ic1 : (F_X2_isCaravan a1).toInt = 0 := i_eq c1
    have hF := (if_pos c1).symm.trans hF
    exact g_vret E hr hlk h hQ (congrArg (fun u => gws ad cI cZ u τ) hF) dX2_setCups_17
  · have ic1 : (F_X2_isCaravan a1).toInt ≠ 0 := i_ne c1
    have jc1 := fz_isCaravan c1
    have hF := (if_neg c1).symm.trans hF
    refine lv_aload_n hx hb dX2_setCups_7 rfl (lv_at hl 0 rfl) ?_
    refine g_get (v := .ref (ad 27)) E h 26 rfl rfl layX2 0 (by decide) rfl mw_61 rfl dX2_setCups_8 ?_
    refine lv_bipush (v := 6) hx hb dX2_setCups_11 (by decide) ?_
    refine lv_iload_n hx hb dX2_setCups_13 rfl (lv_at hl 1 rfl) ?_
    refine lv_iadd hx hb dX2_setCups_14 ?_
    refine lv_iload_n hx hb dX2_setCups_15 rfl (lv_at hl 2 rfl) ?_
    refine g_iast (f := (σ.2.1 27)) (ws' := gws ad cI cZ (sa σ 27 (upd (σ.2.1 27) ((6 : Int32) + a1).toNatClampNeg a2)) τ) E h 27 rfl (ix_of (oI_add (oI_lit (x := 6) (a := 6) rfl) (oI_at a1)) (by omega) (by decide)) (ga_27 ad cI cZ σ τ (upd (σ.2.1 27) ((6 : Int32) + a1).toNatClampNeg a2)) dX2_setCups_16 (fun H locs h => ?_)
    exact g_vret E hr hlk h hQ (congrArg (fun u => gws ad cI cZ u τ) hF) dX2_setCups_17

def F_X2_setKnots (σ : St) (a1 : Int32) (a2 : Int32) (a3 : Int32) : St := (if (F_X2_isCaravan a1) = 0 then σ else (if (F_X2_isWell a2) = 0 then σ else (sa σ 27 (upd (σ.2.1 27) (((14 : Int32) + (a1 * (6 : Int32))) + a2).toNatClampNeg a3))))
abbrev I_X2_setKnots : List Nat := []
abbrev A_X2_setKnots : List Nat := [27]
theorem fr_F_X2_setKnots (σ : St) (a1 : Int32) (a2 : Int32) (a3 : Int32) : Fr I_X2_setKnots A_X2_setKnots false σ (F_X2_setKnots σ a1 a2 a3) := (fr_ite1 Fr.rf (fr_ite1 Fr.rf (Fr.sa (by decide) Fr.rf)))
set_option maxHeartbeats 4000000 in
set_option maxRecDepth 20000 in
theorem c_X2_setKnots (l : Launch) (D : va_G) (cI cZ : ClassId) (z : Nat) (ad : Nat → Nat) (σ τ : St) (a1 a2 a3 : Int32) : gM l yX2_setKnots cX2_setKnots 4 none 2 D cI cZ z (gws ad cI cZ σ τ) [.ref (ad 26), .int a1, .int a2, .int a3] none (gws ad cI cZ (F_X2_setKnots σ a1 a2 a3) τ) := by
  refine g_met (own := RX2) (by decide) rfl (Nat.le_of_ble_eq_true rfl) (fun p e s m below meth c ls Q E hr hlk h hl hQ => ?_)
  have hx := E.1
  have hb := E.2.1
  have hF : (F_X2_setKnots σ a1 a2 a3) = (F_X2_setKnots σ a1 a2 a3) := rfl
  have hl : lv_has ls 4 [(0, .ref (ad 26)), (1, .int a1), (2, .int a2), (3, .int a3)] := hl
  refine lv_iload_n hx hb dX2_setKnots_0 rfl (lv_at hl 1 rfl) ?_
  refine g_callSi (rest := []) E h (c_X2_isCaravan l D cI cZ z (gws ad cI cZ σ τ) a1) mw_335 cbX2_isCaravan ⟨by decide, by decide⟩ rfl rfl hl.1 (Nat.le_of_ble_eq_true rfl) ⟨Nat.zero_le _, Nat.zero_le _⟩ dX2_setKnots_1 (fun H locs h => ?_)
  refine lv_if_eq (tgt := 29) hx hb dX2_setKnots_4 (by decide) (fun c1 => ?_) (fun c1 => ?_)
  · have ic1 : (F_X2_isCaravan a1).toInt = 0 := i_eq c1
    have hF := (if_pos c1).symm.trans hF
    exact g_vret E hr hlk h hQ (congrArg (fun u => gws ad cI cZ u τ) hF) dX2_setKnots_29
  · have ic1 : (F_X2_isCaravan a1).toInt ≠ 0 := i_ne c1
    have jc1 := fz_isCaravan c1
    have hF := (if_neg c1).symm.trans hF
    refine lv_iload_n hx hb dX2_setKnots_7 rfl (lv_at hl 2 rfl) ?_
    refine g_callSi (rest := []) E h (c_X2_isWell l D cI cZ z (gws ad cI cZ σ τ) a2) mw_354 cbX2_isWell ⟨by decide, by decide⟩ rfl rfl hl.1 (Nat.le_of_ble_eq_true rfl) ⟨Nat.zero_le _, Nat.zero_le _⟩ dX2_setKnots_8 (fun H locs h => ?_)
    refine lv_if_eq (tgt := 29) hx hb dX2_setKnots_11 (by decide) (fun c2 => ?_) (fun c2 => ?_)
    · have ic2 : (F_X2_isWell a2).toInt = 0 := i_eq c2
      have hF := (if_pos c2).symm.trans hF
      exact g_vret E hr hlk h hQ (congrArg (fun u => gws ad cI cZ u τ) hF) dX2_setKnots_29
    · have ic2 : (F_X2_isWell a2).toInt ≠ 0 := i_ne c2
      have jc2 := fz_isWell c2
      have hF := (if_neg c2).symm.trans hF
      refine lv_aload_n hx hb dX2_setKnots_14 rfl (lv_at hl 0 rfl) ?_
      refine g_get (v := .ref (ad 27)) E h 26 rfl rfl layX2 0 (by decide) rfl mw_61 rfl dX2_setKnots_15 ?_
      refine lv_bipush (v := 14) hx hb dX2_setKnots_18 (by decide) ?_
      refine lv_iload_n hx hb dX2_setKnots_20 rfl (lv_at hl 1 rfl) ?_
      refine lv_bipush (v := 6) hx hb dX2_setKnots_21 (by decide) ?_
      refine lv_imul hx hb dX2_setKnots_23 ?_
      refine lv_iadd hx hb dX2_setKnots_24 ?_
      refine lv_iload_n hx hb dX2_setKnots_25 rfl (lv_at hl 2 rfl) ?_
      refine lv_iadd hx hb dX2_setKnots_26 ?_
      refine lv_iload_n hx hb dX2_setKnots_27 rfl (lv_at hl 3 rfl) ?_
      refine g_iast (f := (σ.2.1 27)) (ws' := gws ad cI cZ (sa σ 27 (upd (σ.2.1 27) (((14 : Int32) + (a1 * (6 : Int32))) + a2).toNatClampNeg a3)) τ) E h 27 rfl (ix_of (oI_add (oI_add (oI_lit (x := 14) (a := 14) rfl) (oI_mul (oI_at a1) (oI_lit (x := 6) (a := 6) rfl))) (oI_at a2)) (by omega) (by decide)) (ga_27 ad cI cZ σ τ (upd (σ.2.1 27) (((14 : Int32) + (a1 * (6 : Int32))) + a2).toNatClampNeg a3)) dX2_setKnots_28 (fun H locs h => ?_)
      exact g_vret E hr hlk h hQ (congrArg (fun u => gws ad cI cZ u τ) hF) dX2_setKnots_29

def F_X2_setDues (σ : St) (a1 : Int32) (a2 : Int32) (a3 : Int32) : St := (if (F_X2_isWell a1) = 0 then σ else (if (F_X2_isWell a2) = 0 then σ else (sa σ 27 (upd (σ.2.1 27) (((38 : Int32) + (a1 * (6 : Int32))) + a2).toNatClampNeg a3))))
abbrev I_X2_setDues : List Nat := []
abbrev A_X2_setDues : List Nat := [27]
theorem fr_F_X2_setDues (σ : St) (a1 : Int32) (a2 : Int32) (a3 : Int32) : Fr I_X2_setDues A_X2_setDues false σ (F_X2_setDues σ a1 a2 a3) := (fr_ite1 Fr.rf (fr_ite1 Fr.rf (Fr.sa (by decide) Fr.rf)))
set_option maxHeartbeats 4000000 in
set_option maxRecDepth 20000 in
theorem c_X2_setDues (l : Launch) (D : va_G) (cI cZ : ClassId) (z : Nat) (ad : Nat → Nat) (σ τ : St) (a1 a2 a3 : Int32) : gM l yX2_setDues cX2_setDues 4 none 2 D cI cZ z (gws ad cI cZ σ τ) [.ref (ad 26), .int a1, .int a2, .int a3] none (gws ad cI cZ (F_X2_setDues σ a1 a2 a3) τ) := by
  refine g_met (own := RX2) (by decide) rfl (Nat.le_of_ble_eq_true rfl) (fun p e s m below meth c ls Q E hr hlk h hl hQ => ?_)
  have hx := E.1
  have hb := E.2.1
  have hF : (F_X2_setDues σ a1 a2 a3) = (F_X2_setDues σ a1 a2 a3) := rfl
  have hl : lv_has ls 4 [(0, .ref (ad 26)), (1, .int a1), (2, .int a2), (3, .int a3)] := hl
  refine lv_iload_n hx hb dX2_setDues_0 rfl (lv_at hl 1 rfl) ?_
  refine g_callSi (rest := []) E h (c_X2_isWell l D cI cZ z (gws ad cI cZ σ τ) a1) mw_354 cbX2_isWell ⟨by decide, by decide⟩ rfl rfl hl.1 (Nat.le_of_ble_eq_true rfl) ⟨Nat.zero_le _, Nat.zero_le _⟩ dX2_setDues_1 (fun H locs h => ?_)
  refine lv_if_eq (tgt := 29) hx hb dX2_setDues_4 (by decide) (fun c1 => ?_) (fun c1 => ?_)
  · have ic1 : (F_X2_isWell a1).toInt = 0 := i_eq c1
    have hF := (if_pos c1).symm.trans hF
    exact g_vret E hr hlk h hQ (congrArg (fun u => gws ad cI cZ u τ) hF) dX2_setDues_29
  · have ic1 : (F_X2_isWell a1).toInt ≠ 0 := i_ne c1
    have jc1 := fz_isWell c1
    have hF := (if_neg c1).symm.trans hF
    refine lv_iload_n hx hb dX2_setDues_7 rfl (lv_at hl 2 rfl) ?_
    refine g_callSi (rest := []) E h (c_X2_isWell l D cI cZ z (gws ad cI cZ σ τ) a2) mw_354 cbX2_isWell ⟨by decide, by decide⟩ rfl rfl hl.1 (Nat.le_of_ble_eq_true rfl) ⟨Nat.zero_le _, Nat.zero_le _⟩ dX2_setDues_8 (fun H locs h => ?_)
    refine lv_if_eq (tgt := 29) hx hb dX2_setDues_11 (by decide) (fun c2 => ?_) (fun c2 => ?_)
    · have ic2 : (F_X2_isWell a2).toInt = 0 := i_eq c2
      have hF := (if_pos c2).symm.trans hF
      exact g_vret E hr hlk h hQ (congrArg (fun u => gws ad cI cZ u τ) hF) dX2_setDues_29
    · have ic2 : (F_X2_isWell a2).toInt ≠ 0 := i_ne c2
      have jc2 := fz_isWell c2
      have hF := (if_neg c2).symm.trans hF
      refine lv_aload_n hx hb dX2_setDues_14 rfl (lv_at hl 0 rfl) ?_
      refine g_get (v := .ref (ad 27)) E h 26 rfl rfl layX2 0 (by decide) rfl mw_61 rfl dX2_setDues_15 ?_
      refine lv_bipush (v := 38) hx hb dX2_setDues_18 (by decide) ?_
      refine lv_iload_n hx hb dX2_setDues_20 rfl (lv_at hl 1 rfl) ?_
      refine lv_bipush (v := 6) hx hb dX2_setDues_21 (by decide) ?_
      refine lv_imul hx hb dX2_setDues_23 ?_
      refine lv_iadd hx hb dX2_setDues_24 ?_
      refine lv_iload_n hx hb dX2_setDues_25 rfl (lv_at hl 2 rfl) ?_
      refine lv_iadd hx hb dX2_setDues_26 ?_
      refine lv_iload_n hx hb dX2_setDues_27 rfl (lv_at hl 3 rfl) ?_
      refine g_iast (f := (σ.2.1 27)) (ws' := gws ad cI cZ (sa σ 27 (upd (σ.2.1 27) (((38 : Int32) + (a1 * (6 : Int32))) + a2).toNatClampNeg a3)) τ) E h 27 rfl (ix_of (oI_add (oI_add (oI_lit (x := 38) (a := 38) rfl) (oI_mul (oI_at a1) (oI_lit (x := 6) (a := 6) rfl))) (oI_at a2)) (by omega) (by decide)) (ga_27 ad cI cZ σ τ (upd (σ.2.1 27) (((38 : Int32) + (a1 * (6 : Int32))) + a2).toNatClampNeg a3)) dX2_setDues_28 (fun H locs h => ?_)
      exact g_vret E hr hlk h hQ (congrArg (fun u => gws ad cI cZ u τ) hF) dX2_setDues_29

def F_X2_setDry (σ : St) (a1 : Int32) (a2 : Int32) : St := (if (F_X2_isCaravan a1) = 0 then σ else (sa σ 27 (upd (σ.2.1 27) ((10 : Int32) + a1).toNatClampNeg a2)))
abbrev I_X2_setDry : List Nat := []
abbrev A_X2_setDry : List Nat := [27]
theorem fr_F_X2_setDry (σ : St) (a1 : Int32) (a2 : Int32) : Fr I_X2_setDry A_X2_setDry false σ (F_X2_setDry σ a1 a2) := (fr_ite1 Fr.rf (Fr.sa (by decide) Fr.rf))
set_option maxHeartbeats 4000000 in
set_option maxRecDepth 20000 in
theorem c_X2_setDry (l : Launch) (D : va_G) (cI cZ : ClassId) (z : Nat) (ad : Nat → Nat) (σ τ : St) (a1 a2 : Int32) : gM l yX2_setDry cX2_setDry 3 none 2 D cI cZ z (gws ad cI cZ σ τ) [.ref (ad 26), .int a1, .int a2] none (gws ad cI cZ (F_X2_setDry σ a1 a2) τ) := by
  refine g_met (own := RX2) (by decide) rfl (Nat.le_of_ble_eq_true rfl) (fun p e s m below meth c ls Q E hr hlk h hl hQ => ?_)
  have hx := E.1
  have hb := E.2.1
  have hF : (F_X2_setDry σ a1 a2) = (F_X2_setDry σ a1 a2) := rfl
  have hl : lv_has ls 3 [(0, .ref (ad 26)), (1, .int a1), (2, .int a2)] := hl
  refine lv_iload_n hx hb dX2_setDry_0 rfl (lv_at hl 1 rfl) ?_
  refine g_callSi (rest := []) E h (c_X2_isCaravan l D cI cZ z (gws ad cI cZ σ τ) a1) mw_335 cbX2_isCaravan ⟨by decide, by decide⟩ rfl rfl hl.1 (Nat.le_of_ble_eq_true rfl) ⟨Nat.zero_le _, Nat.zero_le _⟩ dX2_setDry_1 (fun H locs h => ?_)
  refine lv_if_eq (tgt := 17) hx hb dX2_setDry_4 (by decide) (fun c1 => ?_) (fun c1 => ?_)
  · have ic1 : (F_X2_isCaravan a1).toInt = 0 := i_eq c1
    have hF := (if_pos c1).symm.trans hF
    exact g_vret E hr hlk h hQ (congrArg (fun u => gws ad cI cZ u τ) hF) dX2_setDry_17
  · have ic1 : (F_X2_isCaravan a1).toInt ≠ 0 := i_ne c1
    have jc1 := fz_isCaravan c1
    have hF := (if_neg c1).symm.trans hF
    refine lv_aload_n hx hb dX2_setDry_7 rfl (lv_at hl 0 rfl) ?_
    refine g_get (v := .ref (ad 27)) E h 26 rfl rfl layX2 0 (by decide) rfl mw_61 rfl dX2_setDry_8 ?_
    refine lv_bipush (v := 10) hx hb dX2_setDry_11 (by decide) ?_
    refine lv_iload_n hx hb dX2_setDry_13 rfl (lv_at hl 1 rfl) ?_
    refine lv_iadd hx hb dX2_setDry_14 ?_
    refine lv_iload_n hx hb dX2_setDry_15 rfl (lv_at hl 2 rfl) ?_
    refine g_iast (f := (σ.2.1 27)) (ws' := gws ad cI cZ (sa σ 27 (upd (σ.2.1 27) ((10 : Int32) + a1).toNatClampNeg a2)) τ) E h 27 rfl (ix_of (oI_add (oI_lit (x := 10) (a := 10) rfl) (oI_at a1)) (by omega) (by decide)) (ga_27 ad cI cZ σ τ (upd (σ.2.1 27) ((10 : Int32) + a1).toNatClampNeg a2)) dX2_setDry_16 (fun H locs h => ?_)
    exact g_vret E hr hlk h hQ (congrArg (fun u => gws ad cI cZ u τ) hF) dX2_setDry_17

def F_X2_knotsOfCaravan_L4 : Nat → St → Int32 → Int32 → Int32 → Int32
  | 0, _, _, _, _ => 0
  | n + 1, σ, a1, x3_4, x2_4 => (if (6 : Int32) ≤ x3_4 then x2_4 else (F_X2_knotsOfCaravan_L4  n σ a1 (x3_4 + (1 : Int32)) (x2_4 + (F_X2_knotsOf σ a1 x3_4))))
def F_X2_knotsOfCaravan (σ : St) (a1 : Int32) : Int32 := (F_X2_knotsOfCaravan_L4  7 σ a1 (0 : Int32) (0 : Int32))
set_option maxHeartbeats 4000000 in
set_option maxRecDepth 20000 in
theorem c_X2_knotsOfCaravan (l : Launch) (D : va_G) (cI cZ : ClassId) (z : Nat) (ad : Nat → Nat) (σ τ : St) (a1 : Int32) : gM l yX2_knotsOfCaravan cX2_knotsOfCaravan 4 (some .int) 3 D cI cZ z (gws ad cI cZ σ τ) [.ref (ad 26), .int a1] (some (.int (F_X2_knotsOfCaravan σ a1))) (gws ad cI cZ σ τ) := by
  refine g_met (own := RX2) (by decide) rfl (Nat.le_of_ble_eq_true rfl) (fun p e s m below meth c ls Q E hr hlk h hl hQ => ?_)
  have hx := E.1
  have hb := E.2.1
  have hF : (F_X2_knotsOfCaravan σ a1) = (F_X2_knotsOfCaravan σ a1) := rfl
  have hl : lv_has ls 4 [(0, .ref (ad 26)), (1, .int a1)] := hl
  refine lv_iconst (v := 0) hx hb dX2_knotsOfCaravan_0 (by decide) ?_
  refine lv_istore_n (lv' := [(2, .int (0 : Int32)), (0, .ref (ad 26)), (1, .int a1)]) hx hb dX2_knotsOfCaravan_1 rfl hl (by decide) rfl (fun ls hl => ?_)
  refine lv_iconst (v := 0) hx hb dX2_knotsOfCaravan_2 (by decide) ?_
  refine lv_istore_n (lv' := [(3, .int (0 : Int32)), (2, .int (0 : Int32)), (0, .ref (ad 26)), (1, .int a1)]) hx hb dX2_knotsOfCaravan_3 rfl hl (by decide) rfl (fun ls hl => ?_)
  have L4 : ∀ (n4 : Nat) (x3_4 : Int32) (x2_4 : Int32) (H : Heap) (locs : List Loc) (ls : Array Slot), (0 ≤ x3_4.toInt ∧ x3_4.toInt ≤ 6 ∧ x3_4.toInt + n4 = 7) → F_X2_knotsOfCaravan_L4  n4 σ a1 x3_4 x2_4 = (F_X2_knotsOfCaravan σ a1) → gH D z s (gws ad cI cZ σ τ) H locs → lv_has ls 4 [(3, .int x3_4), (2, .int x2_4), (0, .ref (ad 26)), (1, .int a1)] → W p l e (rmH 3) s m ([.ref (ad 26), .int a1] : List Value).toArray below meth c H locs 0 0 Q (F0 m 4 ls []) := by
    clear hF h hl
    intro n4
    induction n4 with
    | zero =>
      intro x3_4 x2_4 H locs ls hI
      exact absurd hI (by omega)
    | succ n4 ih4 =>
      intro x3_4 x2_4 H locs ls hI4 hF h hl
      refine lv_iload_n hx hb dX2_knotsOfCaravan_4 rfl (lv_at hl 0 rfl) ?_
      refine lv_bipush (v := 6) hx hb dX2_knotsOfCaravan_5 (by decide) ?_
      refine lv_icmp_ge (tgt := 25) hx hb dX2_knotsOfCaravan_7 (by decide) (fun c2 => ?_) (fun c2 => ?_)
      · have ic2 : 6 ≤ x3_4.toInt := i_le c2
        have hF := (if_pos c2).symm.trans hF
        refine lv_iload_n hx hb dX2_knotsOfCaravan_25 rfl (lv_at hl 1 rfl) ?_
        exact g_iret E hr hlk h hQ hF rfl dX2_knotsOfCaravan_26
      · have ic2 : x3_4.toInt < 6 := i_nle c2
        have hF := (if_neg c2).symm.trans hF
        refine lv_iload_n hx hb dX2_knotsOfCaravan_10 rfl (lv_at hl 1 rfl) ?_
        refine lv_aload_n hx hb dX2_knotsOfCaravan_11 rfl (lv_at hl 2 rfl) ?_
        refine lv_iload_n hx hb dX2_knotsOfCaravan_12 rfl (lv_at hl 3 rfl) ?_
        refine lv_iload_n hx hb dX2_knotsOfCaravan_13 rfl (lv_at hl 0 rfl) ?_
        refine g_callVi (rest := [.int x2_4]) E h (c_X2_knotsOf l D cI cZ z ad σ τ a1 x3_4) mw_449 cbX2_knotsOf 26 rfl rfl ⟨by decide, by decide⟩ rfl rfl hl.1 (Nat.le_of_ble_eq_true rfl) ⟨Nat.zero_le _, Nat.zero_le _⟩ dX2_knotsOfCaravan_14 (fun H locs h => ?_)
        refine lv_iadd hx hb dX2_knotsOfCaravan_17 ?_
        refine lv_istore_n (lv' := [(2, .int (x2_4 + (F_X2_knotsOf σ a1 x3_4))), (3, .int x3_4), (0, .ref (ad 26)), (1, .int a1)]) hx hb dX2_knotsOfCaravan_18 rfl hl (by decide) rfl (fun ls hl => ?_)
        refine lv_iinc (v := (x3_4 + (1 : Int32))) (lv' := [(3, .int (x3_4 + (1 : Int32))), (2, .int (x2_4 + (F_X2_knotsOf σ a1 x3_4))), (0, .ref (ad 26)), (1, .int a1)]) hx hb dX2_knotsOfCaravan_19 hl (k := 1) rfl rfl (by decide) rfl (fun ls hl => ?_)
        refine lv_goto (tgt := 4) hx hb dX2_knotsOfCaravan_22 (by decide) ?_
        have e4_3 : (x3_4 + (1 : Int32)).toInt = _ := ti_of (oI_add (oI_at x3_4) (oI_lit (x := 1) (a := 1) rfl)) (by omega)
        exact ih4 (x3_4 + (1 : Int32)) (x2_4 + (F_X2_knotsOf σ a1 x3_4)) _ _ ls ((show 0 ≤ (x3_4 + (1 : Int32)).toInt ∧ (x3_4 + (1 : Int32)).toInt ≤ 6 ∧ (x3_4 + (1 : Int32)).toInt + n4 = 7 from by omega)) hF h (lv_sub hl [0, 1, 2, 3] rfl)
  have q4_3 : (0 : Int32).toInt = 0 := rfl
  exact L4 7 (0 : Int32) (0 : Int32) _ _ ls ((show 0 ≤ (0 : Int32).toInt ∧ (0 : Int32).toInt ≤ 6 ∧ (0 : Int32).toInt + (7 : Nat) = 7 from by omega)) hF h (lv_sub hl [0, 1, 2, 3] rfl)

def F_X2_knotsAtWell_L4 : Nat → St → Int32 → Int32 → Int32 → Int32
  | 0, _, _, _, _ => 0
  | n + 1, σ, a1, x3_4, x2_4 => (if (4 : Int32) ≤ x3_4 then x2_4 else (F_X2_knotsAtWell_L4  n σ a1 (x3_4 + (1 : Int32)) (x2_4 + (F_X2_knotsOf σ x3_4 a1))))
def F_X2_knotsAtWell (σ : St) (a1 : Int32) : Int32 := (F_X2_knotsAtWell_L4  5 σ a1 (0 : Int32) (0 : Int32))
set_option maxHeartbeats 4000000 in
set_option maxRecDepth 20000 in
theorem c_X2_knotsAtWell (l : Launch) (D : va_G) (cI cZ : ClassId) (z : Nat) (ad : Nat → Nat) (σ τ : St) (a1 : Int32) : gM l yX2_knotsAtWell cX2_knotsAtWell 4 (some .int) 3 D cI cZ z (gws ad cI cZ σ τ) [.ref (ad 26), .int a1] (some (.int (F_X2_knotsAtWell σ a1))) (gws ad cI cZ σ τ) := by
  refine g_met (own := RX2) (by decide) rfl (Nat.le_of_ble_eq_true rfl) (fun p e s m below meth c ls Q E hr hlk h hl hQ => ?_)
  have hx := E.1
  have hb := E.2.1
  have hF : (F_X2_knotsAtWell σ a1) = (F_X2_knotsAtWell σ a1) := rfl
  have hl : lv_has ls 4 [(0, .ref (ad 26)), (1, .int a1)] := hl
  refine lv_iconst (v := 0) hx hb dX2_knotsAtWell_0 (by decide) ?_
  refine lv_istore_n (lv' := [(2, .int (0 : Int32)), (0, .ref (ad 26)), (1, .int a1)]) hx hb dX2_knotsAtWell_1 rfl hl (by decide) rfl (fun ls hl => ?_)
  refine lv_iconst (v := 0) hx hb dX2_knotsAtWell_2 (by decide) ?_
  refine lv_istore_n (lv' := [(3, .int (0 : Int32)), (2, .int (0 : Int32)), (0, .ref (ad 26)), (1, .int a1)]) hx hb dX2_knotsAtWell_3 rfl hl (by decide) rfl (fun ls hl => ?_)
  have L4 : ∀ (n4 : Nat) (x3_4 : Int32) (x2_4 : Int32) (H : Heap) (locs : List Loc) (ls : Array Slot), (0 ≤ x3_4.toInt ∧ x3_4.toInt ≤ 4 ∧ x3_4.toInt + n4 = 5) → F_X2_knotsAtWell_L4  n4 σ a1 x3_4 x2_4 = (F_X2_knotsAtWell σ a1) → gH D z s (gws ad cI cZ σ τ) H locs → lv_has ls 4 [(3, .int x3_4), (2, .int x2_4), (0, .ref (ad 26)), (1, .int a1)] → W p l e (rmH 3) s m ([.ref (ad 26), .int a1] : List Value).toArray below meth c H locs 0 0 Q (F0 m 4 ls []) := by
    clear hF h hl
    intro n4
    induction n4 with
    | zero =>
      intro x3_4 x2_4 H locs ls hI
      exact absurd hI (by omega)
    | succ n4 ih4 =>
      intro x3_4 x2_4 H locs ls hI4 hF h hl
      refine lv_iload_n hx hb dX2_knotsAtWell_4 rfl (lv_at hl 0 rfl) ?_
      refine lv_iconst (v := 4) hx hb dX2_knotsAtWell_5 (by decide) ?_
      refine lv_icmp_ge (tgt := 24) hx hb dX2_knotsAtWell_6 (by decide) (fun c2 => ?_) (fun c2 => ?_)
      · have ic2 : 4 ≤ x3_4.toInt := i_le c2
        have hF := (if_pos c2).symm.trans hF
        refine lv_iload_n hx hb dX2_knotsAtWell_24 rfl (lv_at hl 1 rfl) ?_
        exact g_iret E hr hlk h hQ hF rfl dX2_knotsAtWell_25
      · have ic2 : x3_4.toInt < 4 := i_nle c2
        have hF := (if_neg c2).symm.trans hF
        refine lv_iload_n hx hb dX2_knotsAtWell_9 rfl (lv_at hl 1 rfl) ?_
        refine lv_aload_n hx hb dX2_knotsAtWell_10 rfl (lv_at hl 2 rfl) ?_
        refine lv_iload_n hx hb dX2_knotsAtWell_11 rfl (lv_at hl 0 rfl) ?_
        refine lv_iload_n hx hb dX2_knotsAtWell_12 rfl (lv_at hl 3 rfl) ?_
        refine g_callVi (rest := [.int x2_4]) E h (c_X2_knotsOf l D cI cZ z ad σ τ x3_4 a1) mw_449 cbX2_knotsOf 26 rfl rfl ⟨by decide, by decide⟩ rfl rfl hl.1 (Nat.le_of_ble_eq_true rfl) ⟨Nat.zero_le _, Nat.zero_le _⟩ dX2_knotsAtWell_13 (fun H locs h => ?_)
        refine lv_iadd hx hb dX2_knotsAtWell_16 ?_
        refine lv_istore_n (lv' := [(2, .int (x2_4 + (F_X2_knotsOf σ x3_4 a1))), (3, .int x3_4), (0, .ref (ad 26)), (1, .int a1)]) hx hb dX2_knotsAtWell_17 rfl hl (by decide) rfl (fun ls hl => ?_)
        refine lv_iinc (v := (x3_4 + (1 : Int32))) (lv' := [(3, .int (x3_4 + (1 : Int32))), (2, .int (x2_4 + (F_X2_knotsOf σ x3_4 a1))), (0, .ref (ad 26)), (1, .int a1)]) hx hb dX2_knotsAtWell_18 hl (k := 1) rfl rfl (by decide) rfl (fun ls hl => ?_)
        refine lv_goto (tgt := 4) hx hb dX2_knotsAtWell_21 (by decide) ?_
        have e4_3 : (x3_4 + (1 : Int32)).toInt = _ := ti_of (oI_add (oI_at x3_4) (oI_lit (x := 1) (a := 1) rfl)) (by omega)
        exact ih4 (x3_4 + (1 : Int32)) (x2_4 + (F_X2_knotsOf σ x3_4 a1)) _ _ ls ((show 0 ≤ (x3_4 + (1 : Int32)).toInt ∧ (x3_4 + (1 : Int32)).toInt ≤ 4 ∧ (x3_4 + (1 : Int32)).toInt + n4 = 5 from by omega)) hF h (lv_sub hl [0, 1, 2, 3] rfl)
  have q4_3 : (0 : Int32).toInt = 0 := rfl
  exact L4 5 (0 : Int32) (0 : Int32) _ _ ls ((show 0 ≤ (0 : Int32).toInt ∧ (0 : Int32).toInt ≤ 4 ∧ (0 : Int32).toInt + (5 : Nat) = 5 from by omega)) hF h (lv_sub hl [0, 1, 2, 3] rfl)

def F_X2_duesBy_L4 : Nat → St → Int32 → Int32 → Int32 → Int32
  | 0, _, _, _, _ => 0
  | n + 1, σ, a1, x3_4, x2_4 => (if (6 : Int32) ≤ x3_4 then x2_4 else (F_X2_duesBy_L4  n σ a1 (x3_4 + (1 : Int32)) (x2_4 + (F_X2_duesOf σ a1 x3_4))))
def F_X2_duesBy (σ : St) (a1 : Int32) : Int32 := (F_X2_duesBy_L4  7 σ a1 (0 : Int32) (0 : Int32))
set_option maxHeartbeats 4000000 in
set_option maxRecDepth 20000 in
theorem c_X2_duesBy (l : Launch) (D : va_G) (cI cZ : ClassId) (z : Nat) (ad : Nat → Nat) (σ τ : St) (a1 : Int32) : gM l yX2_duesBy cX2_duesBy 4 (some .int) 3 D cI cZ z (gws ad cI cZ σ τ) [.ref (ad 26), .int a1] (some (.int (F_X2_duesBy σ a1))) (gws ad cI cZ σ τ) := by
  refine g_met (own := RX2) (by decide) rfl (Nat.le_of_ble_eq_true rfl) (fun p e s m below meth c ls Q E hr hlk h hl hQ => ?_)
  have hx := E.1
  have hb := E.2.1
  have hF : (F_X2_duesBy σ a1) = (F_X2_duesBy σ a1) := rfl
  have hl : lv_has ls 4 [(0, .ref (ad 26)), (1, .int a1)] := hl
  refine lv_iconst (v := 0) hx hb dX2_duesBy_0 (by decide) ?_
  refine lv_istore_n (lv' := [(2, .int (0 : Int32)), (0, .ref (ad 26)), (1, .int a1)]) hx hb dX2_duesBy_1 rfl hl (by decide) rfl (fun ls hl => ?_)
  refine lv_iconst (v := 0) hx hb dX2_duesBy_2 (by decide) ?_
  refine lv_istore_n (lv' := [(3, .int (0 : Int32)), (2, .int (0 : Int32)), (0, .ref (ad 26)), (1, .int a1)]) hx hb dX2_duesBy_3 rfl hl (by decide) rfl (fun ls hl => ?_)
  have L4 : ∀ (n4 : Nat) (x3_4 : Int32) (x2_4 : Int32) (H : Heap) (locs : List Loc) (ls : Array Slot), (0 ≤ x3_4.toInt ∧ x3_4.toInt ≤ 6 ∧ x3_4.toInt + n4 = 7) → F_X2_duesBy_L4  n4 σ a1 x3_4 x2_4 = (F_X2_duesBy σ a1) → gH D z s (gws ad cI cZ σ τ) H locs → lv_has ls 4 [(3, .int x3_4), (2, .int x2_4), (0, .ref (ad 26)), (1, .int a1)] → W p l e (rmH 3) s m ([.ref (ad 26), .int a1] : List Value).toArray below meth c H locs 0 0 Q (F0 m 4 ls []) := by
    clear hF h hl
    intro n4
    induction n4 with
    | zero =>
      intro x3_4 x2_4 H locs ls hI
      exact absurd hI (by omega)
    | succ n4 ih4 =>
      intro x3_4 x2_4 H locs ls hI4 hF h hl
      refine lv_iload_n hx hb dX2_duesBy_4 rfl (lv_at hl 0 rfl) ?_
      refine lv_bipush (v := 6) hx hb dX2_duesBy_5 (by decide) ?_
      refine lv_icmp_ge (tgt := 25) hx hb dX2_duesBy_7 (by decide) (fun c2 => ?_) (fun c2 => ?_)
      · have ic2 : 6 ≤ x3_4.toInt := i_le c2
        have hF := (if_pos c2).symm.trans hF
        refine lv_iload_n hx hb dX2_duesBy_25 rfl (lv_at hl 1 rfl) ?_
        exact g_iret E hr hlk h hQ hF rfl dX2_duesBy_26
      · have ic2 : x3_4.toInt < 6 := i_nle c2
        have hF := (if_neg c2).symm.trans hF
        refine lv_iload_n hx hb dX2_duesBy_10 rfl (lv_at hl 1 rfl) ?_
        refine lv_aload_n hx hb dX2_duesBy_11 rfl (lv_at hl 2 rfl) ?_
        refine lv_iload_n hx hb dX2_duesBy_12 rfl (lv_at hl 3 rfl) ?_
        refine lv_iload_n hx hb dX2_duesBy_13 rfl (lv_at hl 0 rfl) ?_
        refine g_callVi (rest := [.int x2_4]) E h (c_X2_duesOf l D cI cZ z ad σ τ a1 x3_4) mw_475 cbX2_duesOf 26 rfl rfl ⟨by decide, by decide⟩ rfl rfl hl.1 (Nat.le_of_ble_eq_true rfl) ⟨Nat.zero_le _, Nat.zero_le _⟩ dX2_duesBy_14 (fun H locs h => ?_)
        refine lv_iadd hx hb dX2_duesBy_17 ?_
        refine lv_istore_n (lv' := [(2, .int (x2_4 + (F_X2_duesOf σ a1 x3_4))), (3, .int x3_4), (0, .ref (ad 26)), (1, .int a1)]) hx hb dX2_duesBy_18 rfl hl (by decide) rfl (fun ls hl => ?_)
        refine lv_iinc (v := (x3_4 + (1 : Int32))) (lv' := [(3, .int (x3_4 + (1 : Int32))), (2, .int (x2_4 + (F_X2_duesOf σ a1 x3_4))), (0, .ref (ad 26)), (1, .int a1)]) hx hb dX2_duesBy_19 hl (k := 1) rfl rfl (by decide) rfl (fun ls hl => ?_)
        refine lv_goto (tgt := 4) hx hb dX2_duesBy_22 (by decide) ?_
        have e4_3 : (x3_4 + (1 : Int32)).toInt = _ := ti_of (oI_add (oI_at x3_4) (oI_lit (x := 1) (a := 1) rfl)) (by omega)
        exact ih4 (x3_4 + (1 : Int32)) (x2_4 + (F_X2_duesOf σ a1 x3_4)) _ _ ls ((show 0 ≤ (x3_4 + (1 : Int32)).toInt ∧ (x3_4 + (1 : Int32)).toInt ≤ 6 ∧ (x3_4 + (1 : Int32)).toInt + n4 = 7 from by omega)) hF h (lv_sub hl [0, 1, 2, 3] rfl)
  have q4_3 : (0 : Int32).toInt = 0 := rfl
  exact L4 7 (0 : Int32) (0 : Int32) _ _ ls ((show 0 ≤ (0 : Int32).toInt ∧ (0 : Int32).toInt ≤ 6 ∧ (0 : Int32).toInt + (7 : Nat) = 7 from by omega)) hF h (lv_sub hl [0, 1, 2, 3] rfl)

def F_X2_duesTo_L4 : Nat → St → Int32 → Int32 → Int32 → Int32
  | 0, _, _, _, _ => 0
  | n + 1, σ, a1, x3_4, x2_4 => (if (6 : Int32) ≤ x3_4 then x2_4 else (F_X2_duesTo_L4  n σ a1 (x3_4 + (1 : Int32)) (x2_4 + (F_X2_duesOf σ x3_4 a1))))
def F_X2_duesTo (σ : St) (a1 : Int32) : Int32 := (F_X2_duesTo_L4  7 σ a1 (0 : Int32) (0 : Int32))
set_option maxHeartbeats 4000000 in
set_option maxRecDepth 20000 in
theorem c_X2_duesTo (l : Launch) (D : va_G) (cI cZ : ClassId) (z : Nat) (ad : Nat → Nat) (σ τ : St) (a1 : Int32) : gM l yX2_duesTo cX2_duesTo 4 (some .int) 3 D cI cZ z (gws ad cI cZ σ τ) [.ref (ad 26), .int a1] (some (.int (F_X2_duesTo σ a1))) (gws ad cI cZ σ τ) := by
  refine g_met (own := RX2) (by decide) rfl (Nat.le_of_ble_eq_true rfl) (fun p e s m below meth c ls Q E hr hlk h hl hQ => ?_)
  have hx := E.1
  have hb := E.2.1
  have hF : (F_X2_duesTo σ a1) = (F_X2_duesTo σ a1) := rfl
  have hl : lv_has ls 4 [(0, .ref (ad 26)), (1, .int a1)] := hl
  refine lv_iconst (v := 0) hx hb dX2_duesTo_0 (by decide) ?_
  refine lv_istore_n (lv' := [(2, .int (0 : Int32)), (0, .ref (ad 26)), (1, .int a1)]) hx hb dX2_duesTo_1 rfl hl (by decide) rfl (fun ls hl => ?_)
  refine lv_iconst (v := 0) hx hb dX2_duesTo_2 (by decide) ?_
  refine lv_istore_n (lv' := [(3, .int (0 : Int32)), (2, .int (0 : Int32)), (0, .ref (ad 26)), (1, .int a1)]) hx hb dX2_duesTo_3 rfl hl (by decide) rfl (fun ls hl => ?_)
  have L4 : ∀ (n4 : Nat) (x3_4 : Int32) (x2_4 : Int32) (H : Heap) (locs : List Loc) (ls : Array Slot), (0 ≤ x3_4.toInt ∧ x3_4.toInt ≤ 6 ∧ x3_4.toInt + n4 = 7) → F_X2_duesTo_L4  n4 σ a1 x3_4 x2_4 = (F_X2_duesTo σ a1) → gH D z s (gws ad cI cZ σ τ) H locs → lv_has ls 4 [(3, .int x3_4), (2, .int x2_4), (0, .ref (ad 26)), (1, .int a1)] → W p l e (rmH 3) s m ([.ref (ad 26), .int a1] : List Value).toArray below meth c H locs 0 0 Q (F0 m 4 ls []) := by
    clear hF h hl
    intro n4
    induction n4 with
    | zero =>
      intro x3_4 x2_4 H locs ls hI
      exact absurd hI (by omega)
    | succ n4 ih4 =>
      intro x3_4 x2_4 H locs ls hI4 hF h hl
      refine lv_iload_n hx hb dX2_duesTo_4 rfl (lv_at hl 0 rfl) ?_
      refine lv_bipush (v := 6) hx hb dX2_duesTo_5 (by decide) ?_
      refine lv_icmp_ge (tgt := 25) hx hb dX2_duesTo_7 (by decide) (fun c2 => ?_) (fun c2 => ?_)
      · have ic2 : 6 ≤ x3_4.toInt := i_le c2
        have hF := (if_pos c2).symm.trans hF
        refine lv_iload_n hx hb dX2_duesTo_25 rfl (lv_at hl 1 rfl) ?_
        exact g_iret E hr hlk h hQ hF rfl dX2_duesTo_26
      · have ic2 : x3_4.toInt < 6 := i_nle c2
        have hF := (if_neg c2).symm.trans hF
        refine lv_iload_n hx hb dX2_duesTo_10 rfl (lv_at hl 1 rfl) ?_
        refine lv_aload_n hx hb dX2_duesTo_11 rfl (lv_at hl 2 rfl) ?_
        refine lv_iload_n hx hb dX2_duesTo_12 rfl (lv_at hl 0 rfl) ?_
        refine lv_iload_n hx hb dX2_duesTo_13 rfl (lv_at hl 3 rfl) ?_
        refine g_callVi (rest := [.int x2_4]) E h (c_X2_duesOf l D cI cZ z ad σ τ x3_4 a1) mw_475 cbX2_duesOf 26 rfl rfl ⟨by decide, by decide⟩ rfl rfl hl.1 (Nat.le_of_ble_eq_true rfl) ⟨Nat.zero_le _, Nat.zero_le _⟩ dX2_duesTo_14 (fun H locs h => ?_)
        refine lv_iadd hx hb dX2_duesTo_17 ?_
        refine lv_istore_n (lv' := [(2, .int (x2_4 + (F_X2_duesOf σ x3_4 a1))), (3, .int x3_4), (0, .ref (ad 26)), (1, .int a1)]) hx hb dX2_duesTo_18 rfl hl (by decide) rfl (fun ls hl => ?_)
        refine lv_iinc (v := (x3_4 + (1 : Int32))) (lv' := [(3, .int (x3_4 + (1 : Int32))), (2, .int (x2_4 + (F_X2_duesOf σ x3_4 a1))), (0, .ref (ad 26)), (1, .int a1)]) hx hb dX2_duesTo_19 hl (k := 1) rfl rfl (by decide) rfl (fun ls hl => ?_)
        refine lv_goto (tgt := 4) hx hb dX2_duesTo_22 (by decide) ?_
        have e4_3 : (x3_4 + (1 : Int32)).toInt = _ := ti_of (oI_add (oI_at x3_4) (oI_lit (x := 1) (a := 1) rfl)) (by omega)
        exact ih4 (x3_4 + (1 : Int32)) (x2_4 + (F_X2_duesOf σ x3_4 a1)) _ _ ls ((show 0 ≤ (x3_4 + (1 : Int32)).toInt ∧ (x3_4 + (1 : Int32)).toInt ≤ 6 ∧ (x3_4 + (1 : Int32)).toInt + n4 = 7 from by omega)) hF h (lv_sub hl [0, 1, 2, 3] rfl)
  have q4_3 : (0 : Int32).toInt = 0 := rfl
  exact L4 7 (0 : Int32) (0 : Int32) _ _ ls ((show 0 ≤ (0 : Int32).toInt ∧ (0 : Int32).toInt ≤ 6 ∧ (0 : Int32).toInt + (7 : Nat) = 7 from by omega)) hF h (lv_sub hl [0, 1, 2, 3] rfl)

def F_X2_allKnots_k13_4 (lf4 : Int32 → Int32 → Int32) (σ : St) (x2_4 : Int32) (x1_4 : Int32) (v3 : Int32) : Int32 := (lf4 (x2_4 + (1 : Int32)) (x1_4 + v3))
def F_X2_allKnots_L4 : Nat → St → Int32 → Int32 → Int32
  | 0, _, _, _ => 0
  | n + 1, σ, x2_4, x1_4 => (if (6 : Int32) ≤ x2_4 then x1_4 else (F_X2_allKnots_k13_4 (fun y1 y2 => F_X2_allKnots_L4  n σ y1 y2) σ x2_4 x1_4 (F_X2_knotsAtWell σ x2_4)))
def F_X2_allKnots (σ : St) : Int32 := (F_X2_allKnots_L4  7 σ (0 : Int32) (0 : Int32))
set_option maxHeartbeats 4000000 in
set_option maxRecDepth 20000 in
theorem c_X2_allKnots (l : Launch) (D : va_G) (cI cZ : ClassId) (z : Nat) (ad : Nat → Nat) (σ τ : St) : gM l yX2_allKnots cX2_allKnots 3 (some .int) 4 D cI cZ z (gws ad cI cZ σ τ) [.ref (ad 26)] (some (.int (F_X2_allKnots σ))) (gws ad cI cZ σ τ) := by
  refine g_met (own := RX2) (by decide) rfl (Nat.le_of_ble_eq_true rfl) (fun p e s m below meth c ls Q E hr hlk h hl hQ => ?_)
  have hx := E.1
  have hb := E.2.1
  have hF : (F_X2_allKnots σ) = (F_X2_allKnots σ) := rfl
  have hl : lv_has ls 3 [(0, .ref (ad 26))] := hl
  refine lv_iconst (v := 0) hx hb dX2_allKnots_0 (by decide) ?_
  refine lv_istore_n (lv' := [(1, .int (0 : Int32)), (0, .ref (ad 26))]) hx hb dX2_allKnots_1 rfl hl (by decide) rfl (fun ls hl => ?_)
  refine lv_iconst (v := 0) hx hb dX2_allKnots_2 (by decide) ?_
  refine lv_istore_n (lv' := [(2, .int (0 : Int32)), (1, .int (0 : Int32)), (0, .ref (ad 26))]) hx hb dX2_allKnots_3 rfl hl (by decide) rfl (fun ls hl => ?_)
  have L4 : ∀ (n4 : Nat) (x2_4 : Int32) (x1_4 : Int32) (H : Heap) (locs : List Loc) (ls : Array Slot), (0 ≤ x2_4.toInt ∧ x2_4.toInt ≤ 6 ∧ x2_4.toInt + n4 = 7) → F_X2_allKnots_L4  n4 σ x2_4 x1_4 = (F_X2_allKnots σ) → gH D z s (gws ad cI cZ σ τ) H locs → lv_has ls 3 [(2, .int x2_4), (1, .int x1_4), (0, .ref (ad 26))] → W p l e (rmH 4) s m ([.ref (ad 26)] : List Value).toArray below meth c H locs 0 0 Q (F0 m 4 ls []) := by
    clear hF h hl
    intro n4
    induction n4 with
    | zero =>
      intro x2_4 x1_4 H locs ls hI
      exact absurd hI (by omega)
    | succ n4 ih4 =>
      intro x2_4 x1_4 H locs ls hI4 hF h hl
      refine lv_iload_n hx hb dX2_allKnots_4 rfl (lv_at hl 0 rfl) ?_
      refine lv_bipush (v := 6) hx hb dX2_allKnots_5 (by decide) ?_
      refine lv_icmp_ge (tgt := 24) hx hb dX2_allKnots_7 (by decide) (fun c2 => ?_) (fun c2 => ?_)
      · have ic2 : 6 ≤ x2_4.toInt := i_le c2
        have hF := (if_pos c2).symm.trans hF
        refine lv_iload_n hx hb dX2_allKnots_24 rfl (lv_at hl 1 rfl) ?_
        exact g_iret E hr hlk h hQ hF rfl dX2_allKnots_25
      · have ic2 : x2_4.toInt < 6 := i_nle c2
        have hF := (if_neg c2).symm.trans hF
        refine lv_iload_n hx hb dX2_allKnots_10 rfl (lv_at hl 1 rfl) ?_
        refine lv_aload_n hx hb dX2_allKnots_11 rfl (lv_at hl 2 rfl) ?_
        refine lv_iload_n hx hb dX2_allKnots_12 rfl (lv_at hl 0 rfl) ?_
        refine g_callVh (F_X2_knotsAtWell σ x2_4) (rest := [.int x1_4]) E h (c_X2_knotsAtWell l D cI cZ z ad σ τ x2_4) mw_612 cbX2_knotsAtWell 26 rfl rfl ⟨by decide, by decide⟩ rfl rfl hl.1 (Nat.le_of_ble_eq_true rfl) ⟨Nat.zero_le _, Nat.zero_le _⟩ dX2_allKnots_13 (fun v3 huv3 H locs h => ?_)
        have hF : F_X2_allKnots_k13_4 (fun y1 y2 => F_X2_allKnots_L4  n4 σ y1 y2) σ x2_4 x1_4 v3 = (F_X2_allKnots σ) := by rw [← huv3]; exact hF
        refine lv_iadd hx hb dX2_allKnots_16 ?_
        refine lv_istore_n (lv' := [(1, .int (x1_4 + v3)), (2, .int x2_4), (0, .ref (ad 26))]) hx hb dX2_allKnots_17 rfl hl (by decide) rfl (fun ls hl => ?_)
        refine lv_iinc (v := (x2_4 + (1 : Int32))) (lv' := [(2, .int (x2_4 + (1 : Int32))), (1, .int (x1_4 + v3)), (0, .ref (ad 26))]) hx hb dX2_allKnots_18 hl (k := 1) rfl rfl (by decide) rfl (fun ls hl => ?_)
        refine lv_goto (tgt := 4) hx hb dX2_allKnots_21 (by decide) ?_
        have e4_2 : (x2_4 + (1 : Int32)).toInt = _ := ti_of (oI_add (oI_at x2_4) (oI_lit (x := 1) (a := 1) rfl)) (by omega)
        exact ih4 (x2_4 + (1 : Int32)) (x1_4 + v3) _ _ ls ((show 0 ≤ (x2_4 + (1 : Int32)).toInt ∧ (x2_4 + (1 : Int32)).toInt ≤ 6 ∧ (x2_4 + (1 : Int32)).toInt + n4 = 7 from by omega)) hF h (lv_sub hl [0, 1, 2] rfl)
  have q4_2 : (0 : Int32).toInt = 0 := rfl
  exact L4 7 (0 : Int32) (0 : Int32) _ _ ls ((show 0 ≤ (0 : Int32).toInt ∧ (0 : Int32).toInt ≤ 6 ∧ (0 : Int32).toInt + (7 : Nat) = 7 from by omega)) hF h (lv_sub hl [0, 1, 2] rfl)

def F_X2_allDues_k13_4 (lf4 : Int32 → Int32 → Int32) (σ : St) (x2_4 : Int32) (x1_4 : Int32) (v3 : Int32) : Int32 := (lf4 (x2_4 + (1 : Int32)) (x1_4 + v3))
def F_X2_allDues_L4 : Nat → St → Int32 → Int32 → Int32
  | 0, _, _, _ => 0
  | n + 1, σ, x2_4, x1_4 => (if (6 : Int32) ≤ x2_4 then x1_4 else (F_X2_allDues_k13_4 (fun y1 y2 => F_X2_allDues_L4  n σ y1 y2) σ x2_4 x1_4 (F_X2_duesBy σ x2_4)))
def F_X2_allDues (σ : St) : Int32 := (F_X2_allDues_L4  7 σ (0 : Int32) (0 : Int32))
set_option maxHeartbeats 4000000 in
set_option maxRecDepth 20000 in
theorem c_X2_allDues (l : Launch) (D : va_G) (cI cZ : ClassId) (z : Nat) (ad : Nat → Nat) (σ τ : St) : gM l yX2_allDues cX2_allDues 3 (some .int) 4 D cI cZ z (gws ad cI cZ σ τ) [.ref (ad 26)] (some (.int (F_X2_allDues σ))) (gws ad cI cZ σ τ) := by
  refine g_met (own := RX2) (by decide) rfl (Nat.le_of_ble_eq_true rfl) (fun p e s m below meth c ls Q E hr hlk h hl hQ => ?_)
  have hx := E.1
  have hb := E.2.1
  have hF : (F_X2_allDues σ) = (F_X2_allDues σ) := rfl
  have hl : lv_has ls 3 [(0, .ref (ad 26))] := hl
  refine lv_iconst (v := 0) hx hb dX2_allDues_0 (by decide) ?_
  refine lv_istore_n (lv' := [(1, .int (0 : Int32)), (0, .ref (ad 26))]) hx hb dX2_allDues_1 rfl hl (by decide) rfl (fun ls hl => ?_)
  refine lv_iconst (v := 0) hx hb dX2_allDues_2 (by decide) ?_
  refine lv_istore_n (lv' := [(2, .int (0 : Int32)), (1, .int (0 : Int32)), (0, .ref (ad 26))]) hx hb dX2_allDues_3 rfl hl (by decide) rfl (fun ls hl => ?_)
  have L4 : ∀ (n4 : Nat) (x2_4 : Int32) (x1_4 : Int32) (H : Heap) (locs : List Loc) (ls : Array Slot), (0 ≤ x2_4.toInt ∧ x2_4.toInt ≤ 6 ∧ x2_4.toInt + n4 = 7) → F_X2_allDues_L4  n4 σ x2_4 x1_4 = (F_X2_allDues σ) → gH D z s (gws ad cI cZ σ τ) H locs → lv_has ls 3 [(2, .int x2_4), (1, .int x1_4), (0, .ref (ad 26))] → W p l e (rmH 4) s m ([.ref (ad 26)] : List Value).toArray below meth c H locs 0 0 Q (F0 m 4 ls []) := by
    clear hF h hl
    intro n4
    induction n4 with
    | zero =>
      intro x2_4 x1_4 H locs ls hI
      exact absurd hI (by omega)
    | succ n4 ih4 =>
      intro x2_4 x1_4 H locs ls hI4 hF h hl
      refine lv_iload_n hx hb dX2_allDues_4 rfl (lv_at hl 0 rfl) ?_
      refine lv_bipush (v := 6) hx hb dX2_allDues_5 (by decide) ?_
      refine lv_icmp_ge (tgt := 24) hx hb dX2_allDues_7 (by decide) (fun c2 => ?_) (fun c2 => ?_)
      · have ic2 : 6 ≤ x2_4.toInt := i_le c2
        have hF := (if_pos c2).symm.trans hF
        refine lv_iload_n hx hb dX2_allDues_24 rfl (lv_at hl 1 rfl) ?_
        exact g_iret E hr hlk h hQ hF rfl dX2_allDues_25
      · have ic2 : x2_4.toInt < 6 := i_nle c2
        have hF := (if_neg c2).symm.trans hF
        refine lv_iload_n hx hb dX2_allDues_10 rfl (lv_at hl 1 rfl) ?_
        refine lv_aload_n hx hb dX2_allDues_11 rfl (lv_at hl 2 rfl) ?_
        refine lv_iload_n hx hb dX2_allDues_12 rfl (lv_at hl 0 rfl) ?_
        refine g_callVh (F_X2_duesBy σ x2_4) (rest := [.int x1_4]) E h (c_X2_duesBy l D cI cZ z ad σ τ x2_4) mw_487 cbX2_duesBy 26 rfl rfl ⟨by decide, by decide⟩ rfl rfl hl.1 (Nat.le_of_ble_eq_true rfl) ⟨Nat.zero_le _, Nat.zero_le _⟩ dX2_allDues_13 (fun v3 huv3 H locs h => ?_)
        have hF : F_X2_allDues_k13_4 (fun y1 y2 => F_X2_allDues_L4  n4 σ y1 y2) σ x2_4 x1_4 v3 = (F_X2_allDues σ) := by rw [← huv3]; exact hF
        refine lv_iadd hx hb dX2_allDues_16 ?_
        refine lv_istore_n (lv' := [(1, .int (x1_4 + v3)), (2, .int x2_4), (0, .ref (ad 26))]) hx hb dX2_allDues_17 rfl hl (by decide) rfl (fun ls hl => ?_)
        refine lv_iinc (v := (x2_4 + (1 : Int32))) (lv' := [(2, .int (x2_4 + (1 : Int32))), (1, .int (x1_4 + v3)), (0, .ref (ad 26))]) hx hb dX2_allDues_18 hl (k := 1) rfl rfl (by decide) rfl (fun ls hl => ?_)
        refine lv_goto (tgt := 4) hx hb dX2_allDues_21 (by decide) ?_
        have e4_2 : (x2_4 + (1 : Int32)).toInt = _ := ti_of (oI_add (oI_at x2_4) (oI_lit (x := 1) (a := 1) rfl)) (by omega)
        exact ih4 (x2_4 + (1 : Int32)) (x1_4 + v3) _ _ ls ((show 0 ≤ (x2_4 + (1 : Int32)).toInt ∧ (x2_4 + (1 : Int32)).toInt ≤ 6 ∧ (x2_4 + (1 : Int32)).toInt + n4 = 7 from by omega)) hF h (lv_sub hl [0, 1, 2] rfl)
  have q4_2 : (0 : Int32).toInt = 0 := rfl
  exact L4 7 (0 : Int32) (0 : Int32) _ _ ls ((show 0 ≤ (0 : Int32).toInt ∧ (0 : Int32).toInt ≤ 6 ∧ (0 : Int32).toInt + (7 : Nat) = 7 from by omega)) hF h (lv_sub hl [0, 1, 2] rfl)

def F_X2_netOf_k7_4 (σ : St) (a1 : Int32) (v1 : Int32) (v3 : Int32) : Int32 := (v1 - v3)
def F_X2_netOf_k2_2 (σ : St) (a1 : Int32) (v1 : Int32) : Int32 := (F_X2_netOf_k7_4 σ a1 v1 (F_X2_duesBy σ a1))
def F_X2_netOf (σ : St) (a1 : Int32) : Int32 := (F_X2_netOf_k2_2 σ a1 (F_X2_duesTo σ a1))
set_option maxHeartbeats 4000000 in
set_option maxRecDepth 20000 in
theorem c_X2_netOf (l : Launch) (D : va_G) (cI cZ : ClassId) (z : Nat) (ad : Nat → Nat) (σ τ : St) (a1 : Int32) : gM l yX2_netOf cX2_netOf 2 (some .int) 4 D cI cZ z (gws ad cI cZ σ τ) [.ref (ad 26), .int a1] (some (.int (F_X2_netOf σ a1))) (gws ad cI cZ σ τ) := by
  refine g_met (own := RX2) (by decide) rfl (Nat.le_of_ble_eq_true rfl) (fun p e s m below meth c ls Q E hr hlk h hl hQ => ?_)
  have hx := E.1
  have hb := E.2.1
  have hF : (F_X2_netOf σ a1) = (F_X2_netOf σ a1) := rfl
  have hl : lv_has ls 2 [(0, .ref (ad 26)), (1, .int a1)] := hl
  refine lv_aload_n hx hb dX2_netOf_0 rfl (lv_at hl 0 rfl) ?_
  refine lv_iload_n hx hb dX2_netOf_1 rfl (lv_at hl 1 rfl) ?_
  refine g_callVh (F_X2_duesTo σ a1) (rest := []) E h (c_X2_duesTo l D cI cZ z ad σ τ a1) mw_483 cbX2_duesTo 26 rfl rfl ⟨by decide, by decide⟩ rfl rfl hl.1 (Nat.le_of_ble_eq_true rfl) ⟨Nat.zero_le _, Nat.zero_le _⟩ dX2_netOf_2 (fun v1 huv1 H locs h => ?_)
  have hF : F_X2_netOf_k2_2 σ a1 v1 = (F_X2_netOf σ a1) := by rw [← huv1]; exact hF
  refine lv_aload_n hx hb dX2_netOf_5 rfl (lv_at hl 0 rfl) ?_
  refine lv_iload_n hx hb dX2_netOf_6 rfl (lv_at hl 1 rfl) ?_
  refine g_callVh (F_X2_duesBy σ a1) (rest := [.int v1]) E h (c_X2_duesBy l D cI cZ z ad σ τ a1) mw_487 cbX2_duesBy 26 rfl rfl ⟨by decide, by decide⟩ rfl rfl hl.1 (Nat.le_of_ble_eq_true rfl) ⟨Nat.zero_le _, Nat.zero_le _⟩ dX2_netOf_7 (fun v3 huv3 H locs h => ?_)
  have hF : F_X2_netOf_k7_4 σ a1 v1 v3 = (F_X2_netOf σ a1) := by rw [← huv3]; exact hF
  refine lv_isub hx hb dX2_netOf_10 ?_
  exact g_iret E hr hlk h hQ hF rfl dX2_netOf_11
