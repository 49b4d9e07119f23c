theorem dfX0 : ∀ j, j < 3 → defaultValue (tyX0 j) = vp_V [.null, .null, .int 0] j := fun j hj => match j, hj with
  | 0, _ => rfl
  | 1, _ => rfl
  | 2, _ => rfl
  | n + 3, h => absurd h (by omega)

theorem dfX1 : ∀ j, j < 3 → defaultValue (tyX1 j) = vp_V [.null, .null, .int 0] j := fun j hj => match j, hj with
  | 0, _ => rfl
  | 1, _ => rfl
  | 2, _ => rfl
  | n + 3, h => absurd h (by omega)

theorem dfX2 : ∀ j, j < 1 → defaultValue (tyX2 j) = vp_V [.null] j := fun j hj => match j, hj with
  | 0, _ => rfl
  | n + 1, h => absurd h (by omega)

theorem dfX3 : ∀ j, j < 4 → defaultValue (tyX3 j) = vp_V [.null, .null, .int 0, .int 0] j := fun j hj => match j, hj with
  | 0, _ => rfl
  | 1, _ => rfl
  | 2, _ => rfl
  | 3, _ => rfl
  | n + 4, h => absurd h (by omega)

theorem dfX4 : ∀ j, j < 12 → defaultValue (tyX4 j) = vp_V [.int 0, .int 0, .int 0, .null, .null, .null, .null, .null, .null, .null, .null, .null] j := fun j hj => match j, hj with
  | 0, _ => rfl
  | 1, _ => rfl
  | 2, _ => rfl
  | 3, _ => rfl
  | 4, _ => rfl
  | 5, _ => rfl
  | 6, _ => rfl
  | 7, _ => rfl
  | 8, _ => rfl
  | 9, _ => rfl
  | 10, _ => rfl
  | 11, _ => rfl
  | n + 12, h => absurd h (by omega)

theorem dfX5 : ∀ j, j < 1 → defaultValue (tyX5 j) = vp_V [.null] j := fun j hj => match j, hj with
  | 0, _ => rfl
  | n + 1, h => absurd h (by omega)

theorem dfX6 : ∀ j, j < 6 → defaultValue (tyX6 j) = vp_V [.null, .int 0, .int 0, .int 0, .int 0, .int 0] j := fun j hj => match j, hj with
  | 0, _ => rfl
  | 1, _ => rfl
  | 2, _ => rfl
  | 3, _ => rfl
  | 4, _ => rfl
  | 5, _ => rfl
  | n + 6, h => absurd h (by omega)

theorem dfX7 : ∀ j, j < 5 → defaultValue (tyX7 j) = vp_V [.null, .null, .int 0, .int 0, .int 0] j := fun j hj => match j, hj with
  | 0, _ => rfl
  | 1, _ => rfl
  | 2, _ => rfl
  | 3, _ => rfl
  | 4, _ => rfl
  | n + 5, h => absurd h (by omega)

theorem dfX8 : ∀ j, j < 12 → defaultValue (tyX8 j) = vp_V [.null, .null, .null, .null, .null, .null, .int 0, .null, .null, .null, .null, .long 0] j := fun j hj => match j, hj with
  | 0, _ => rfl
  | 1, _ => rfl
  | 2, _ => rfl
  | 3, _ => rfl
  | 4, _ => rfl
  | 5, _ => rfl
  | 6, _ => rfl
  | 7, _ => rfl
  | 8, _ => rfl
  | 9, _ => rfl
  | 10, _ => rfl
  | 11, _ => rfl
  | n + 12, h => absurd h (by omega)

theorem dfX9 : ∀ j, j < 21 → defaultValue (tyX9 j) = vp_V [.long 0, .null, .int 0, .null, .null, .null, .null, .null, .null, .null, .int 0, .int 0, .int 0, .int 0, .int 0, .null, .null, .int 0, .int 0, .null, .null] j := fun j hj => match j, hj with
  | 0, _ => rfl
  | 1, _ => rfl
  | 2, _ => rfl
  | 3, _ => rfl
  | 4, _ => rfl
  | 5, _ => rfl
  | 6, _ => rfl
  | 7, _ => rfl
  | 8, _ => rfl
  | 9, _ => rfl
  | 10, _ => rfl
  | 11, _ => rfl
  | 12, _ => rfl
  | 13, _ => rfl
  | 14, _ => rfl
  | 15, _ => rfl
  | 16, _ => rfl
  | 17, _ => rfl
  | 18, _ => rfl
  | 19, _ => rfl
  | 20, _ => rfl
  | n + 21, h => absurd h (by omega)

set_option maxHeartbeats 4000000 in
set_option maxRecDepth 20000 in
theorem c_X2_init (l : Launch) (D : va_G) (cI cZ : ClassId) (z : Nat) (W0 : va_W) (h0 : Nat) : gI l yX2_init cX2_init 1 1 1 74 D cI cZ z (W0 ++ [(h0, .inr (2, [.null]))]) [.ref h0] (fun ws9 => ∃ q1 : Nat, ws9 = W0 ++ [(h0, .inr (2, [.ref q1])), (q1, .inl (cI, 74, .inl (fun _ => 0)))]) := by
  refine g_metI (own := RX2) (by decide) rfl rfl (Nat.le_of_ble_eq_true rfl) (fun p e s m below meth c ls Q E hr hlk hin h hl hQ => ?_)
  have hx := E.1
  have hb := E.2.1
  have hl : lv_has ls 1 [(0, .ref h0)] := hl
  refine lv_aload_n hx hb dX2_init_0 rfl (lv_at hl 0 rfl) ?_
  refine g_obj (rest := []) E mw_60 mw_21 mw_22 hl.1 (by decide) (by decide) dX2_init_1 ?_
  refine lv_aload_n hx hb dX2_init_4 rfl (lv_at hl 0 rfl) ?_
  refine lv_bipush (v := 74) hx hb dX2_init_5 (by decide) ?_
  refine g_newI (rest := [.ref h0]) E h mw_48 74 (by decide) rfl (by decide) (by decide) (by decide) dX2_init_7 (fun q1 H h => ?_)
  have h : gH D z s (W0 ++ [(h0, .inr (2, [.null])), (q1, .inl (cI, 74, .inl (fun _ => 0)))]) H _ := h
  refine g_putF (rest := []) (v := .ref q1) (ty := (.array .int)) E h hin rfl layX2 tyX2 tyX2_ok nmX2 0 (by decide) rfl rfl mw_61 rfl (by decide +kernel) rfl rfl (Nat.le_of_ble_eq_true rfl) dX2_init_9 (fun H locs h => ?_)
  have h : gH D z s (W0 ++ [(h0, .inr (2, [.ref q1])), (q1, .inl (cI, 74, .inl (fun _ => 0)))]) H _ := h
  exact g_vretI E hr hlk h ⟨q1, rfl⟩ hQ dX2_init_12

set_option maxHeartbeats 4000000 in
set_option maxRecDepth 20000 in
theorem c_X0_init (l : Launch) (D : va_G) (cI cZ : ClassId) (z : Nat) (W0 : va_W) (h0 : Nat) : gI l yX0_init cX0_init 1 1 2 12 D cI cZ z (W0 ++ [(h0, .inr (0, [.null, .null, .int 0]))]) [.ref h0] (fun ws9 => ∃ q1 q2 : Nat, ws9 = W0 ++ [(h0, .inr (0, [.ref q1, .ref q2, .int 0])), (q1, .inl (cI, 6, .inl (fun _ => 0))), (q2, .inl (cI, 6, .inl (fun _ => 0)))]) := by
  refine g_metI (own := RX0) (by decide) rfl rfl (Nat.le_of_ble_eq_true rfl) (fun p e s m below meth c ls Q E hr hlk hin h hl hQ => ?_)
  have hx := E.1
  have hb := E.2.1
  have hl : lv_has ls 1 [(0, .ref h0)] := hl
  refine lv_aload_n hx hb dX0_init_0 rfl (lv_at hl 0 rfl) ?_
  refine g_obj (rest := []) E mw_134 mw_21 mw_22 hl.1 (by decide) (by decide) dX0_init_1 ?_
  refine lv_aload_n hx hb dX0_init_4 rfl (lv_at hl 0 rfl) ?_
  refine lv_bipush (v := 6) hx hb dX0_init_5 (by decide) ?_
  refine g_newI (rest := [.ref h0]) E h mw_48 6 (by decide) rfl (by decide) (by decide) (by decide) dX0_init_7 (fun q1 H h => ?_)
  have h : gH D z s (W0 ++ [(h0, .inr (0, [.null, .null, .int 0])), (q1, .inl (cI, 6, .inl (fun _ => 0)))]) H _ := h
  refine g_putF (rest := []) (v := .ref q1) (ty := (.array .int)) E h hin rfl layX0 tyX0 tyX0_ok nmX0 0 (by decide) rfl rfl mw_135 rfl (by decide +kernel) rfl rfl (Nat.le_of_ble_eq_true rfl) dX0_init_9 (fun H locs h => ?_)
  have h : gH D z s (W0 ++ [(h0, .inr (0, [.ref q1, .null, .int 0])), (q1, .inl (cI, 6, .inl (fun _ => 0)))]) H _ := h
  refine lv_aload_n hx hb dX0_init_12 rfl (lv_at hl 0 rfl) ?_
  refine lv_bipush (v := 6) hx hb dX0_init_13 (by decide) ?_
  refine g_newI (rest := [.ref h0]) E h mw_48 6 (by decide) rfl (by decide) (by decide) (by decide) dX0_init_15 (fun q2 H h => ?_)
  have h : gH D z s (W0 ++ [(h0, .inr (0, [.ref q1, .null, .int 0])), (q1, .inl (cI, 6, .inl (fun _ => 0))), (q2, .inl (cI, 6, .inl (fun _ => 0)))]) H _ := h
  refine g_putF (rest := []) (v := .ref q2) (ty := (.array .int)) E h hin rfl layX0 tyX0 tyX0_ok nmX0 1 (by decide) rfl rfl mw_136 rfl (by decide +kernel) rfl rfl (Nat.le_of_ble_eq_true rfl) dX0_init_17 (fun H locs h => ?_)
  have h : gH D z s (W0 ++ [(h0, .inr (0, [.ref q1, .ref q2, .int 0])), (q1, .inl (cI, 6, .inl (fun _ => 0))), (q2, .inl (cI, 6, .inl (fun _ => 0)))]) H _ := h
  exact g_vretI E hr hlk h ⟨q1, q2, rfl⟩ hQ dX0_init_20

set_option maxHeartbeats 4000000 in
set_option maxRecDepth 20000 in
theorem c_X3_init (l : Launch) (D : va_G) (cI cZ : ClassId) (z : Nat) (W0 : va_W) (h0 : Nat) : gI l yX3_init cX3_init 1 1 2 12 D cI cZ z (W0 ++ [(h0, .inr (3, [.null, .null, .int 0, .int 0]))]) [.ref h0] (fun ws9 => ∃ q1 q2 : Nat, ws9 = W0 ++ [(h0, .inr (3, [.ref q1, .ref q2, .int 0, .int 0])), (q1, .inl (cI, 6, .inl (fun _ => 0))), (q2, .inl (cI, 6, .inl (fun _ => 0)))]) := by
  refine g_metI (own := RX3) (by decide) rfl rfl (Nat.le_of_ble_eq_true rfl) (fun p e s m below meth c ls Q E hr hlk hin h hl hQ => ?_)
  have hx := E.1
  have hb := E.2.1
  have hl : lv_has ls 1 [(0, .ref h0)] := hl
  refine lv_aload_n hx hb dX3_init_0 rfl (lv_at hl 0 rfl) ?_
  refine g_obj (rest := []) E mw_151 mw_21 mw_22 hl.1 (by decide) (by decide) dX3_init_1 ?_
  refine lv_aload_n hx hb dX3_init_4 rfl (lv_at hl 0 rfl) ?_
  refine lv_bipush (v := 6) hx hb dX3_init_5 (by decide) ?_
  refine g_newI (rest := [.ref h0]) E h mw_48 6 (by decide) rfl (by decide) (by decide) (by decide) dX3_init_7 (fun q1 H h => ?_)
  have h : gH D z s (W0 ++ [(h0, .inr (3, [.null, .null, .int 0, .int 0])), (q1, .inl (cI, 6, .inl (fun _ => 0)))]) H _ := h
  refine g_putF (rest := []) (v := .ref q1) (ty := (.array .int)) E h hin rfl layX3 tyX3 tyX3_ok nmX3 0 (by decide) rfl rfl mw_152 rfl (by decide +kernel) rfl rfl (Nat.le_of_ble_eq_true rfl) dX3_init_9 (fun H locs h => ?_)
  have h : gH D z s (W0 ++ [(h0, .inr (3, [.ref q1, .null, .int 0, .int 0])), (q1, .inl (cI, 6, .inl (fun _ => 0)))]) H _ := h
  refine lv_aload_n hx hb dX3_init_12 rfl (lv_at hl 0 rfl) ?_
  refine lv_bipush (v := 6) hx hb dX3_init_13 (by decide) ?_
  refine g_newI (rest := [.ref h0]) E h mw_48 6 (by decide) rfl (by decide) (by decide) (by decide) dX3_init_15 (fun q2 H h => ?_)
  have h : gH D z s (W0 ++ [(h0, .inr (3, [.ref q1, .null, .int 0, .int 0])), (q1, .inl (cI, 6, .inl (fun _ => 0))), (q2, .inl (cI, 6, .inl (fun _ => 0)))]) H _ := h
  refine g_putF (rest := []) (v := .ref q2) (ty := (.array .int)) E h hin rfl layX3 tyX3 tyX3_ok nmX3 1 (by decide) rfl rfl mw_153 rfl (by decide +kernel) rfl rfl (Nat.le_of_ble_eq_true rfl) dX3_init_17 (fun H locs h => ?_)
  have h : gH D z s (W0 ++ [(h0, .inr (3, [.ref q1, .ref q2, .int 0, .int 0])), (q1, .inl (cI, 6, .inl (fun _ => 0))), (q2, .inl (cI, 6, .inl (fun _ => 0)))]) H _ := h
  exact g_vretI E hr hlk h ⟨q1, q2, rfl⟩ hQ dX3_init_20

set_option maxHeartbeats 4000000 in
set_option maxRecDepth 20000 in
theorem c_X5_init (l : Launch) (D : va_G) (cI cZ : ClassId) (z : Nat) (W0 : va_W) (h0 : Nat) : gI l yX5_init cX5_init 1 1 1 64 D cI cZ z (W0 ++ [(h0, .inr (5, [.null]))]) [.ref h0] (fun ws9 => ∃ q1 : Nat, ws9 = W0 ++ [(h0, .inr (5, [.ref q1])), (q1, .inl (cI, 64, .inl (fun _ => 0)))]) := by
  refine g_metI (own := RX5) (by decide) rfl rfl (Nat.le_of_ble_eq_true rfl) (fun p e s m below meth c ls Q E hr hlk hin h hl hQ => ?_)
  have hx := E.1
  have hb := E.2.1
  have hl : lv_has ls 1 [(0, .ref h0)] := hl
  refine lv_aload_n hx hb dX5_init_0 rfl (lv_at hl 0 rfl) ?_
  refine g_obj (rest := []) E mw_197 mw_21 mw_22 hl.1 (by decide) (by decide) dX5_init_1 ?_
  refine lv_aload_n hx hb dX5_init_4 rfl (lv_at hl 0 rfl) ?_
  refine lv_bipush (v := 64) hx hb dX5_init_5 (by decide) ?_
  refine g_newI (rest := [.ref h0]) E h mw_48 64 (by decide) rfl (by decide) (by decide) (by decide) dX5_init_7 (fun q1 H h => ?_)
  have h : gH D z s (W0 ++ [(h0, .inr (5, [.null])), (q1, .inl (cI, 64, .inl (fun _ => 0)))]) H _ := h
  refine g_putF (rest := []) (v := .ref q1) (ty := (.array .int)) E h hin rfl layX5 tyX5 tyX5_ok nmX5 0 (by decide) rfl rfl mw_198 rfl (by decide +kernel) rfl rfl (Nat.le_of_ble_eq_true rfl) dX5_init_9 (fun H locs h => ?_)
  have h : gH D z s (W0 ++ [(h0, .inr (5, [.ref q1])), (q1, .inl (cI, 64, .inl (fun _ => 0)))]) H _ := h
  exact g_vretI E hr hlk h ⟨q1, rfl⟩ hQ dX5_init_12

set_option maxHeartbeats 4000000 in
set_option maxRecDepth 20000 in
theorem c_X6_init (l : Launch) (D : va_G) (cI cZ : ClassId) (z : Nat) (W0 : va_W) (h0 : Nat) : gI l yX6_init cX6_init 1 1 1 200 D cI cZ z (W0 ++ [(h0, .inr (6, [.null, .int 0, .int 0, .int 0, .int 0, .int 0]))]) [.ref h0] (fun ws9 => ∃ q1 : Nat, ws9 = W0 ++ [(h0, .inr (6, [.ref q1, .int 0, .int 0, .int 0, .int 0, .int 0])), (q1, .inl (cI, 200, .inl (fun _ => 0)))]) := by
  refine g_metI (own := RX6) (by decide) rfl rfl (Nat.le_of_ble_eq_true rfl) (fun p e s m below meth c ls Q E hr hlk hin h hl hQ => ?_)
  have hx := E.1
  have hb := E.2.1
  have hl : lv_has ls 1 [(0, .ref h0)] := hl
  refine lv_aload_n hx hb dX6_init_0 rfl (lv_at hl 0 rfl) ?_
  refine g_obj (rest := []) E mw_28 mw_21 mw_22 hl.1 (by decide) (by decide) dX6_init_1 ?_
  refine lv_aload_n hx hb dX6_init_4 rfl (lv_at hl 0 rfl) ?_
  refine lv_sipush (v := 200) hx hb dX6_init_5 (by decide) ?_
  refine g_newI (rest := [.ref h0]) E h mw_48 200 (by decide) rfl (by decide) (by decide) (by decide) dX6_init_8 (fun q1 H h => ?_)
  have h : gH D z s (W0 ++ [(h0, .inr (6, [.null, .int 0, .int 0, .int 0, .int 0, .int 0])), (q1, .inl (cI, 200, .inl (fun _ => 0)))]) H _ := h
  refine g_putF (rest := []) (v := .ref q1) (ty := (.array .int)) E h hin rfl layX6 tyX6 tyX6_ok nmX6 0 (by decide) rfl rfl mw_29 rfl (by decide +kernel) rfl rfl (Nat.le_of_ble_eq_true rfl) dX6_init_10 (fun H locs h => ?_)
  have h : gH D z s (W0 ++ [(h0, .inr (6, [.ref q1, .int 0, .int 0, .int 0, .int 0, .int 0])), (q1, .inl (cI, 200, .inl (fun _ => 0)))]) H _ := h
  exact g_vretI E hr hlk h ⟨q1, rfl⟩ hQ dX6_init_13

set_option maxHeartbeats 4000000 in
set_option maxRecDepth 20000 in
theorem c_X7_init (l : Launch) (D : va_G) (cI cZ : ClassId) (z : Nat) (W0 : va_W) (h0 : Nat) : gI l yX7_init cX7_init 1 1 2 12 D cI cZ z (W0 ++ [(h0, .inr (7, [.null, .null, .int 0, .int 0, .int 0]))]) [.ref h0] (fun ws9 => ∃ q1 q2 : Nat, ws9 = W0 ++ [(h0, .inr (7, [.ref q1, .ref q2, .int 0, .int 0, .int 0])), (q1, .inl (cI, 6, .inl (fun _ => 0))), (q2, .inl (cI, 6, .inl (fun _ => 0)))]) := by
  refine g_metI (own := RX7) (by decide) rfl rfl (Nat.le_of_ble_eq_true rfl) (fun p e s m below meth c ls Q E hr hlk hin h hl hQ => ?_)
  have hx := E.1
  have hb := E.2.1
  have hl : lv_has ls 1 [(0, .ref h0)] := hl
  refine lv_aload_n hx hb dX7_init_0 rfl (lv_at hl 0 rfl) ?_
  refine g_obj (rest := []) E mw_172 mw_21 mw_22 hl.1 (by decide) (by decide) dX7_init_1 ?_
  refine lv_aload_n hx hb dX7_init_4 rfl (lv_at hl 0 rfl) ?_
  refine lv_bipush (v := 6) hx hb dX7_init_5 (by decide) ?_
  refine g_newI (rest := [.ref h0]) E h mw_48 6 (by decide) rfl (by decide) (by decide) (by decide) dX7_init_7 (fun q1 H h => ?_)
  have h : gH D z s (W0 ++ [(h0, .inr (7, [.null, .null, .int 0, .int 0, .int 0])), (q1, .inl (cI, 6, .inl (fun _ => 0)))]) H _ := h
  refine g_putF (rest := []) (v := .ref q1) (ty := (.array .int)) E h hin rfl layX7 tyX7 tyX7_ok nmX7 0 (by decide) rfl rfl mw_173 rfl (by decide +kernel) rfl rfl (Nat.le_of_ble_eq_true rfl) dX7_init_9 (fun H locs h => ?_)
  have h : gH D z s (W0 ++ [(h0, .inr (7, [.ref q1, .null, .int 0, .int 0, .int 0])), (q1, .inl (cI, 6, .inl (fun _ => 0)))]) H _ := h
  refine lv_aload_n hx hb dX7_init_12 rfl (lv_at hl 0 rfl) ?_
  refine lv_bipush (v := 6) hx hb dX7_init_13 (by decide) ?_
  refine g_newI (rest := [.ref h0]) E h mw_48 6 (by decide) rfl (by decide) (by decide) (by decide) dX7_init_15 (fun q2 H h => ?_)
  have h : gH D z s (W0 ++ [(h0, .inr (7, [.ref q1, .null, .int 0, .int 0, .int 0])), (q1, .inl (cI, 6, .inl (fun _ => 0))), (q2, .inl (cI, 6, .inl (fun _ => 0)))]) H _ := h
  refine g_putF (rest := []) (v := .ref q2) (ty := (.array .int)) E h hin rfl layX7 tyX7 tyX7_ok nmX7 1 (by decide) rfl rfl mw_174 rfl (by decide +kernel) rfl rfl (Nat.le_of_ble_eq_true rfl) dX7_init_17 (fun H locs h => ?_)
  have h : gH D z s (W0 ++ [(h0, .inr (7, [.ref q1, .ref q2, .int 0, .int 0, .int 0])), (q1, .inl (cI, 6, .inl (fun _ => 0))), (q2, .inl (cI, 6, .inl (fun _ => 0)))]) H _ := h
  exact g_vretI E hr hlk h ⟨q1, q2, rfl⟩ hQ dX7_init_20

set_option maxHeartbeats 4000000 in
set_option maxRecDepth 20000 in
theorem c_X1_init (l : Launch) (D : va_G) (cI cZ : ClassId) (z : Nat) (W0 : va_W) (h0 : Nat) : gI l yX1_init cX1_init 1 2 3 815 D cI cZ z (W0 ++ [(h0, .inr (1, [.null, .null, .int 0]))]) [.ref h0] (fun ws9 => ∃ q1 q2 q3 : Nat, ws9 = W0 ++ [(h0, .inr (1, [.ref q1, .ref q3, .int 0])), (q1, .inr (2, [.ref q2])), (q2, .inl (cI, 74, .inl (fun _ => 0))), (q3, .inl (cI, 740, .inl (fun _ => 0)))]) := by
  refine g_metI (own := RX1) (by decide) rfl rfl (Nat.le_of_ble_eq_true rfl) (fun p e s m below meth c ls Q E hr hlk hin h hl hQ => ?_)
  have hx := E.1
  have hb := E.2.1
  have hl : lv_has ls 1 [(0, .ref h0)] := hl
  refine lv_aload_n hx hb dX1_init_0 rfl (lv_at hl 0 rfl) ?_
  refine g_obj (rest := []) E mw_114 mw_21 mw_22 hl.1 (by decide) (by decide) dX1_init_1 ?_
  refine lv_aload_n hx hb dX1_init_4 rfl (lv_at hl 0 rfl) ?_
  refine g_new (fs := [.null]) E h (ci := 2) rfl layX2 tyX2 tyX2_ok mw_115 mw_56 mw_4 dfX2 (by decide) (by decide) dX1_init_5 (fun q1 H h => ?_)
  have h : gH D z s (W0 ++ [(h0, .inr (1, [.null, .null, .int 0])), (q1, .inr (2, [.null]))]) H _ := h
  refine lv_dup hx hb dX1_init_8 rfl ?_
  have h := g_as1 [(h0, .inr (1, [.null, .null, .int 0]))] [(q1, .inr (2, [.null]))] h
  refine g_callIN (rest := [.ref q1, .ref h0]) E h (c_X2_init l D cI cZ z (W0 ++ [(h0, .inr (1, [.null, .null, .int 0]))]) q1) nm_RX1_11 mw_58 mw_4 mw_59 rfl (by decide +kernel) ⟨by decide, by decide⟩ hl.1 (Nat.le_of_ble_eq_true rfl) ⟨by decide, by decide⟩ dX1_init_9 (fun ws9 H locs hp9 h => ?_)
  obtain ⟨q2, rfl⟩ := hp9
  have h := g_as2 [(h0, .inr (1, [.null, .null, .int 0]))] [(q1, .inr (2, [.ref q2])), (q2, .inl (cI, 74, .inl (fun _ => 0)))] h
  have h : gH D z s (W0 ++ [(h0, .inr (1, [.null, .null, .int 0])), (q1, .inr (2, [.ref q2])), (q2, .inl (cI, 74, .inl (fun _ => 0)))]) H _ := h
  refine g_putF (rest := []) (v := .ref q1) (ty := (.object "WellKnots$Moment")) E h hin rfl layX1 tyX1 tyX1_ok nmX1 0 (by decide) rfl rfl mw_117 rfl (by decide +kernel) rfl rfl (Nat.le_of_ble_eq_true rfl) dX1_init_12 (fun H locs h => ?_)
  have h : gH D z s (W0 ++ [(h0, .inr (1, [.ref q1, .null, .int 0])), (q1, .inr (2, [.ref q2])), (q2, .inl (cI, 74, .inl (fun _ => 0)))]) H _ := h
  refine lv_aload_n hx hb dX1_init_15 rfl (lv_at hl 0 rfl) ?_
  refine lv_sipush (v := 740) hx hb dX1_init_16 (by decide) ?_
  refine g_newI (rest := [.ref h0]) E h mw_48 740 (by decide) rfl (by decide) (by decide) (by decide) dX1_init_19 (fun q3 H h => ?_)
  have h : gH D z s (W0 ++ [(h0, .inr (1, [.ref q1, .null, .int 0])), (q1, .inr (2, [.ref q2])), (q2, .inl (cI, 74, .inl (fun _ => 0))), (q3, .inl (cI, 740, .inl (fun _ => 0)))]) H _ := h
  refine g_putF (rest := []) (v := .ref q3) (ty := (.array .int)) E h hin rfl layX1 tyX1 tyX1_ok nmX1 1 (by decide) rfl rfl mw_119 rfl (by decide +kernel) rfl rfl (Nat.le_of_ble_eq_true rfl) dX1_init_21 (fun H locs h => ?_)
  have h : gH D z s (W0 ++ [(h0, .inr (1, [.ref q1, .ref q3, .int 0])), (q1, .inr (2, [.ref q2])), (q2, .inl (cI, 74, .inl (fun _ => 0))), (q3, .inl (cI, 740, .inl (fun _ => 0)))]) H _ := h
  exact g_vretI E hr hlk h ⟨q1, q2, q3, rfl⟩ hQ dX1_init_24

set_option maxHeartbeats 4000000 in
set_option maxRecDepth 20000 in
theorem c_X4_init (l : Launch) (D : va_G) (cI cZ : ClassId) (z : Nat) (W0 : va_W) (h0 : Nat) : gI l yX4_init cX4_init 1 2 10 130 D cI cZ z (W0 ++ [(h0, .inr (4, [.int 0, .int 0, .int 0, .null, .null, .null, .null, .null, .null, .null, .null, .null]))]) [.ref h0] (fun ws9 => ∃ q1 q2 q3 q4 q5 q6 q7 q8 q9 q10 : Nat, ws9 = W0 ++ [(h0, .inr (4, [.int 0, .int 0, .int 0, .ref q1, .ref q2, .ref q3, .ref q4, .ref q5, .ref q6, .ref q7, .ref q8, .ref q10])), (q1, .inl (cZ, 6, .inl (fun _ => 0))), (q2, .inl (cI, 8, .inl (fun _ => 0))), (q3, .inl (cI, 8, .inl (fun _ => 0))), (q4, .inl (cI, 8, .inl (fun _ => 0))), (q5, .inl (cZ, 8, .inl (fun _ => 0))), (q6, .inl (cI, 8, .inl (fun _ => 0))), (q7, .inl (cI, 4, .inl (fun _ => 0))), (q8, .inr (2, [.ref q9])), (q9, .inl (cI, 74, .inl (fun _ => 0))), (q10, .inl (cI, 5, .inl (fun _ => 0)))]) := by
  refine g_metI (own := RX4) (by decide) rfl rfl (Nat.le_of_ble_eq_true rfl) (fun p e s m below meth c ls Q E hr hlk hin h hl hQ => ?_)
  have hx := E.1
  have hb := E.2.1
  have hl : lv_has ls 1 [(0, .ref h0)] := hl
  refine lv_aload_n hx hb dX4_init_0 rfl (lv_at hl 0 rfl) ?_
  refine g_obj (rest := []) E mw_54 mw_21 mw_22 hl.1 (by decide) (by decide) dX4_init_1 ?_
  refine lv_aload_n hx hb dX4_init_4 rfl (lv_at hl 0 rfl) ?_
  refine lv_bipush (v := 6) hx hb dX4_init_5 (by decide) ?_
  refine g_newZ (rest := [.ref h0]) E h mw_65 6 (by decide) rfl (by decide) (by decide) (by decide) dX4_init_7 (fun q1 H h => ?_)
  have h : gH D z s (W0 ++ [(h0, .inr (4, [.int 0, .int 0, .int 0, .null, .null, .null, .null, .null, .null, .null, .null, .null])), (q1, .inl (cZ, 6, .inl (fun _ => 0)))]) H _ := h
  refine g_putF (rest := []) (v := .ref q1) (ty := (.array .boolean)) E h hin rfl layX4 tyX4 tyX4_ok nmX4 3 (by decide) rfl rfl mw_74 rfl (by decide +kernel) rfl rfl (Nat.le_of_ble_eq_true rfl) dX4_init_9 (fun H locs h => ?_)
  have h : gH D z s (W0 ++ [(h0, .inr (4, [.int 0, .int 0, .int 0, .ref q1, .null, .null, .null, .null, .null, .null, .null, .null])), (q1, .inl (cZ, 6, .inl (fun _ => 0)))]) H _ := h
  refine lv_aload_n hx hb dX4_init_12 rfl (lv_at hl 0 rfl) ?_
  refine lv_bipush (v := 8) hx hb dX4_init_13 (by decide) ?_
  refine g_newI (rest := [.ref h0]) E h mw_48 8 (by decide) rfl (by decide) (by decide) (by decide) dX4_init_15 (fun q2 H h => ?_)
  have h : gH D z s (W0 ++ [(h0, .inr (4, [.int 0, .int 0, .int 0, .ref q1, .null, .null, .null, .null, .null, .null, .null, .null])), (q1, .inl (cZ, 6, .inl (fun _ => 0))), (q2, .inl (cI, 8, .inl (fun _ => 0)))]) H _ := h
  refine g_putF (rest := []) (v := .ref q2) (ty := (.array .int)) E h hin rfl layX4 tyX4 tyX4_ok nmX4 4 (by decide) rfl rfl mw_75 rfl (by decide +kernel) rfl rfl (Nat.le_of_ble_eq_true rfl) dX4_init_17 (fun H locs h => ?_)
  have h : gH D z s (W0 ++ [(h0, .inr (4, [.int 0, .int 0, .int 0, .ref q1, .ref q2, .null, .null, .null, .null, .null, .null, .null])), (q1, .inl (cZ, 6, .inl (fun _ => 0))), (q2, .inl (cI, 8, .inl (fun _ => 0)))]) H _ := h
  refine lv_aload_n hx hb dX4_init_20 rfl (lv_at hl 0 rfl) ?_
  refine lv_bipush (v := 8) hx hb dX4_init_21 (by decide) ?_
  refine g_newI (rest := [.ref h0]) E h mw_48 8 (by decide) rfl (by decide) (by decide) (by decide) dX4_init_23 (fun q3 H h => ?_)
  have h : gH D z s (W0 ++ [(h0, .inr (4, [.int 0, .int 0, .int 0, .ref q1, .ref q2, .null, .null, .null, .null, .null, .null, .null])), (q1, .inl (cZ, 6, .inl (fun _ => 0))), (q2, .inl (cI, 8, .inl (fun _ => 0))), (q3, .inl (cI, 8, .inl (fun _ => 0)))]) H _ := h
  refine g_putF (rest := []) (v := .ref q3) (ty := (.array .int)) E h hin rfl layX4 tyX4 tyX4_ok nmX4 5 (by decide) rfl rfl mw_76 rfl (by decide +kernel) rfl rfl (Nat.le_of_ble_eq_true rfl) dX4_init_25 (fun H locs h => ?_)
  have h : gH D z s (W0 ++ [(h0, .inr (4, [.int 0, .int 0, .int 0, .ref q1, .ref q2, .ref q3, .null, .null, .null, .null, .null, .null])), (q1, .inl (cZ, 6, .inl (fun _ => 0))), (q2, .inl (cI, 8, .inl (fun _ => 0))), (q3, .inl (cI, 8, .inl (fun _ => 0)))]) H _ := h
  refine lv_aload_n hx hb dX4_init_28 rfl (lv_at hl 0 rfl) ?_
  refine lv_bipush (v := 8) hx hb dX4_init_29 (by decide) ?_
  refine g_newI (rest := [.ref h0]) E h mw_48 8 (by decide) rfl (by decide) (by decide) (by decide) dX4_init_31 (fun q4 H h => ?_)
  have h : gH D z s (W0 ++ [(h0, .inr (4, [.int 0, .int 0, .int 0, .ref q1, .ref q2, .ref q3, .null, .null, .null, .null, .null, .null])), (q1, .inl (cZ, 6, .inl (fun _ => 0))), (q2, .inl (cI, 8, .inl (fun _ => 0))), (q3, .inl (cI, 8, .inl (fun _ => 0))), (q4, .inl (cI, 8, .inl (fun _ => 0)))]) H _ := h
  refine g_putF (rest := []) (v := .ref q4) (ty := (.array .int)) E h hin rfl layX4 tyX4 tyX4_ok nmX4 6 (by decide) rfl rfl mw_77 rfl (by decide +kernel) rfl rfl (Nat.le_of_ble_eq_true rfl) dX4_init_33 (fun H locs h => ?_)
  have h : gH D z s (W0 ++ [(h0, .inr (4, [.int 0, .int 0, .int 0, .ref q1, .ref q2, .ref q3, .ref q4, .null, .null, .null, .null, .null])), (q1, .inl (cZ, 6, .inl (fun _ => 0))), (q2, .inl (cI, 8, .inl (fun _ => 0))), (q3, .inl (cI, 8, .inl (fun _ => 0))), (q4, .inl (cI, 8, .inl (fun _ => 0)))]) H _ := h
  refine lv_aload_n hx hb dX4_init_36 rfl (lv_at hl 0 rfl) ?_
  refine lv_bipush (v := 8) hx hb dX4_init_37 (by decide) ?_
  refine g_newZ (rest := [.ref h0]) E h mw_65 8 (by decide) rfl (by decide) (by decide) (by decide) dX4_init_39 (fun q5 H h => ?_)
  have h : gH D z s (W0 ++ [(h0, .inr (4, [.int 0, .int 0, .int 0, .ref q1, .ref q2, .ref q3, .ref q4, .null, .null, .null, .null, .null])), (q1, .inl (cZ, 6, .inl (fun _ => 0))), (q2, .inl (cI, 8, .inl (fun _ => 0))), (q3, .inl (cI, 8, .inl (fun _ => 0))), (q4, .inl (cI, 8, .inl (fun _ => 0))), (q5, .inl (cZ, 8, .inl (fun _ => 0)))]) H _ := h
  refine g_putF (rest := []) (v := .ref q5) (ty := (.array .boolean)) E h hin rfl layX4 tyX4 tyX4_ok nmX4 7 (by decide) rfl rfl mw_78 rfl (by decide +kernel) rfl rfl (Nat.le_of_ble_eq_true rfl) dX4_init_41 (fun H locs h => ?_)
  have h : gH D z s (W0 ++ [(h0, .inr (4, [.int 0, .int 0, .int 0, .ref q1, .ref q2, .ref q3, .ref q4, .ref q5, .null, .null, .null, .null])), (q1, .inl (cZ, 6, .inl (fun _ => 0))), (q2, .inl (cI, 8, .inl (fun _ => 0))), (q3, .inl (cI, 8, .inl (fun _ => 0))), (q4, .inl (cI, 8, .inl (fun _ => 0))), (q5, .inl (cZ, 8, .inl (fun _ => 0)))]) H _ := h
  refine lv_aload_n hx hb dX4_init_44 rfl (lv_at hl 0 rfl) ?_
  refine lv_bipush (v := 8) hx hb dX4_init_45 (by decide) ?_
  refine g_newI (rest := [.ref h0]) E h mw_48 8 (by decide) rfl (by decide) (by decide) (by decide) dX4_init_47 (fun q6 H h => ?_)
  have h : gH D z s (W0 ++ [(h0, .inr (4, [.int 0, .int 0, .int 0, .ref q1, .ref q2, .ref q3, .ref q4, .ref q5, .null, .null, .null, .null])), (q1, .inl (cZ, 6, .inl (fun _ => 0))), (q2, .inl (cI, 8, .inl (fun _ => 0))), (q3, .inl (cI, 8, .inl (fun _ => 0))), (q4, .inl (cI, 8, .inl (fun _ => 0))), (q5, .inl (cZ, 8, .inl (fun _ => 0))), (q6, .inl (cI, 8, .inl (fun _ => 0)))]) H _ := h
  refine g_putF (rest := []) (v := .ref q6) (ty := (.array .int)) E h hin rfl layX4 tyX4 tyX4_ok nmX4 8 (by decide) rfl rfl mw_79 rfl (by decide +kernel) rfl rfl (Nat.le_of_ble_eq_true rfl) dX4_init_49 (fun H locs h => ?_)
  have h : gH D z s (W0 ++ [(h0, .inr (4, [.int 0, .int 0, .int 0, .ref q1, .ref q2, .ref q3, .ref q4, .ref q5, .ref q6, .null, .null, .null])), (q1, .inl (cZ, 6, .inl (fun _ => 0))), (q2, .inl (cI, 8, .inl (fun _ => 0))), (q3, .inl (cI, 8, .inl (fun _ => 0))), (q4, .inl (cI, 8, .inl (fun _ => 0))), (q5, .inl (cZ, 8, .inl (fun _ => 0))), (q6, .inl (cI, 8, .inl (fun _ => 0)))]) H _ := h
  refine lv_aload_n hx hb dX4_init_52 rfl (lv_at hl 0 rfl) ?_
  refine lv_iconst (v := 4) hx hb dX4_init_53 (by decide) ?_
  refine g_newI (rest := [.ref h0]) E h mw_48 4 (by decide) rfl (by decide) (by decide) (by decide) dX4_init_54 (fun q7 H h => ?_)
  have h : gH D z s (W0 ++ [(h0, .inr (4, [.int 0, .int 0, .int 0, .ref q1, .ref q2, .ref q3, .ref q4, .ref q5, .ref q6, .null, .null, .null])), (q1, .inl (cZ, 6, .inl (fun _ => 0))), (q2, .inl (cI, 8, .inl (fun _ => 0))), (q3, .inl (cI, 8, .inl (fun _ => 0))), (q4, .inl (cI, 8, .inl (fun _ => 0))), (q5, .inl (cZ, 8, .inl (fun _ => 0))), (q6, .inl (cI, 8, .inl (fun _ => 0))), (q7, .inl (cI, 4, .inl (fun _ => 0)))]) H _ := h
  refine g_putF (rest := []) (v := .ref q7) (ty := (.array .int)) E h hin rfl layX4 tyX4 tyX4_ok nmX4 9 (by decide) rfl rfl mw_80 rfl (by decide +kernel) rfl rfl (Nat.le_of_ble_eq_true rfl) dX4_init_56 (fun H locs h => ?_)
  have h : gH D z s (W0 ++ [(h0, .inr (4, [.int 0, .int 0, .int 0, .ref q1, .ref q2, .ref q3, .ref q4, .ref q5, .ref q6, .ref q7, .null, .null])), (q1, .inl (cZ, 6, .inl (fun _ => 0))), (q2, .inl (cI, 8, .inl (fun _ => 0))), (q3, .inl (cI, 8, .inl (fun _ => 0))), (q4, .inl (cI, 8, .inl (fun _ => 0))), (q5, .inl (cZ, 8, .inl (fun _ => 0))), (q6, .inl (cI, 8, .inl (fun _ => 0))), (q7, .inl (cI, 4, .inl (fun _ => 0)))]) H _ := h
  refine lv_aload_n hx hb dX4_init_59 rfl (lv_at hl 0 rfl) ?_
  refine g_new (fs := [.null]) E h (ci := 2) rfl layX2 tyX2 tyX2_ok mw_55 mw_56 mw_4 dfX2 (by decide) (by decide) dX4_init_60 (fun q8 H h => ?_)
  have h : gH D z s (W0 ++ [(h0, .inr (4, [.int 0, .int 0, .int 0, .ref q1, .ref q2, .ref q3, .ref q4, .ref q5, .ref q6, .ref q7, .null, .null])), (q1, .inl (cZ, 6, .inl (fun _ => 0))), (q2, .inl (cI, 8, .inl (fun _ => 0))), (q3, .inl (cI, 8, .inl (fun _ => 0))), (q4, .inl (cI, 8, .inl (fun _ => 0))), (q5, .inl (cZ, 8, .inl (fun _ => 0))), (q6, .inl (cI, 8, .inl (fun _ => 0))), (q7, .inl (cI, 4, .inl (fun _ => 0))), (q8, .inr (2, [.null]))]) H _ := h
  refine lv_dup hx hb dX4_init_63 rfl ?_
  have h := g_as1 [(h0, .inr (4, [.int 0, .int 0, .int 0, .ref q1, .ref q2, .ref q3, .ref q4, .ref q5, .ref q6, .ref q7, .null, .null])), (q1, .inl (cZ, 6, .inl (fun _ => 0))), (q2, .inl (cI, 8, .inl (fun _ => 0))), (q3, .inl (cI, 8, .inl (fun _ => 0))), (q4, .inl (cI, 8, .inl (fun _ => 0))), (q5, .inl (cZ, 8, .inl (fun _ => 0))), (q6, .inl (cI, 8, .inl (fun _ => 0))), (q7, .inl (cI, 4, .inl (fun _ => 0)))] [(q8, .inr (2, [.null]))] h
  refine g_callIN (rest := [.ref q8, .ref h0]) E h (c_X2_init l D cI cZ z (W0 ++ [(h0, .inr (4, [.int 0, .int 0, .int 0, .ref q1, .ref q2, .ref q3, .ref q4, .ref q5, .ref q6, .ref q7, .null, .null])), (q1, .inl (cZ, 6, .inl (fun _ => 0))), (q2, .inl (cI, 8, .inl (fun _ => 0))), (q3, .inl (cI, 8, .inl (fun _ => 0))), (q4, .inl (cI, 8, .inl (fun _ => 0))), (q5, .inl (cZ, 8, .inl (fun _ => 0))), (q6, .inl (cI, 8, .inl (fun _ => 0))), (q7, .inl (cI, 4, .inl (fun _ => 0)))]) q8) nm_RX4_36 mw_58 mw_4 mw_59 rfl (by decide +kernel) ⟨by decide, by decide⟩ hl.1 (Nat.le_of_ble_eq_true rfl) ⟨by decide, by decide⟩ dX4_init_64 (fun ws9 H locs hp9 h => ?_)
  obtain ⟨q9, rfl⟩ := hp9
  have h := g_as2 [(h0, .inr (4, [.int 0, .int 0, .int 0, .ref q1, .ref q2, .ref q3, .ref q4, .ref q5, .ref q6, .ref q7, .null, .null])), (q1, .inl (cZ, 6, .inl (fun _ => 0))), (q2, .inl (cI, 8, .inl (fun _ => 0))), (q3, .inl (cI, 8, .inl (fun _ => 0))), (q4, .inl (cI, 8, .inl (fun _ => 0))), (q5, .inl (cZ, 8, .inl (fun _ => 0))), (q6, .inl (cI, 8, .inl (fun _ => 0))), (q7, .inl (cI, 4, .inl (fun _ => 0)))] [(q8, .inr (2, [.ref q9])), (q9, .inl (cI, 74, .inl (fun _ => 0)))] h
  have h : gH D z s (W0 ++ [(h0, .inr (4, [.int 0, .int 0, .int 0, .ref q1, .ref q2, .ref q3, .ref q4, .ref q5, .ref q6, .ref q7, .null, .null])), (q1, .inl (cZ, 6, .inl (fun _ => 0))), (q2, .inl (cI, 8, .inl (fun _ => 0))), (q3, .inl (cI, 8, .inl (fun _ => 0))), (q4, .inl (cI, 8, .inl (fun _ => 0))), (q5, .inl (cZ, 8, .inl (fun _ => 0))), (q6, .inl (cI, 8, .inl (fun _ => 0))), (q7, .inl (cI, 4, .inl (fun _ => 0))), (q8, .inr (2, [.ref q9])), (q9, .inl (cI, 74, .inl (fun _ => 0)))]) H _ := h
  refine g_putF (rest := []) (v := .ref q8) (ty := (.object "WellKnots$Moment")) E h hin rfl layX4 tyX4 tyX4_ok nmX4 10 (by decide) rfl rfl mw_81 rfl (by decide +kernel) rfl rfl (Nat.le_of_ble_eq_true rfl) dX4_init_67 (fun H locs h => ?_)
  have h : gH D z s (W0 ++ [(h0, .inr (4, [.int 0, .int 0, .int 0, .ref q1, .ref q2, .ref q3, .ref q4, .ref q5, .ref q6, .ref q7, .ref q8, .null])), (q1, .inl (cZ, 6, .inl (fun _ => 0))), (q2, .inl (cI, 8, .inl (fun _ => 0))), (q3, .inl (cI, 8, .inl (fun _ => 0))), (q4, .inl (cI, 8, .inl (fun _ => 0))), (q5, .inl (cZ, 8, .inl (fun _ => 0))), (q6, .inl (cI, 8, .inl (fun _ => 0))), (q7, .inl (cI, 4, .inl (fun _ => 0))), (q8, .inr (2, [.ref q9])), (q9, .inl (cI, 74, .inl (fun _ => 0)))]) H _ := h
  refine lv_aload_n hx hb dX4_init_70 rfl (lv_at hl 0 rfl) ?_
  refine lv_iconst (v := 5) hx hb dX4_init_71 (by decide) ?_
  refine g_newI (rest := [.ref h0]) E h mw_48 5 (by decide) rfl (by decide) (by decide) (by decide) dX4_init_72 (fun q10 H h => ?_)
  have h : gH D z s (W0 ++ [(h0, .inr (4, [.int 0, .int 0, .int 0, .ref q1, .ref q2, .ref q3, .ref q4, .ref q5, .ref q6, .ref q7, .ref q8, .null])), (q1, .inl (cZ, 6, .inl (fun _ => 0))), (q2, .inl (cI, 8, .inl (fun _ => 0))), (q3, .inl (cI, 8, .inl (fun _ => 0))), (q4, .inl (cI, 8, .inl (fun _ => 0))), (q5, .inl (cZ, 8, .inl (fun _ => 0))), (q6, .inl (cI, 8, .inl (fun _ => 0))), (q7, .inl (cI, 4, .inl (fun _ => 0))), (q8, .inr (2, [.ref q9])), (q9, .inl (cI, 74, .inl (fun _ => 0))), (q10, .inl (cI, 5, .inl (fun _ => 0)))]) H _ := h
  refine g_putF (rest := []) (v := .ref q10) (ty := (.array .int)) E h hin rfl layX4 tyX4 tyX4_ok nmX4 11 (by decide) rfl rfl mw_83 rfl (by decide +kernel) rfl rfl (Nat.le_of_ble_eq_true rfl) dX4_init_74 (fun H locs h => ?_)
  have h : gH D z s (W0 ++ [(h0, .inr (4, [.int 0, .int 0, .int 0, .ref q1, .ref q2, .ref q3, .ref q4, .ref q5, .ref q6, .ref q7, .ref q8, .ref q10])), (q1, .inl (cZ, 6, .inl (fun _ => 0))), (q2, .inl (cI, 8, .inl (fun _ => 0))), (q3, .inl (cI, 8, .inl (fun _ => 0))), (q4, .inl (cI, 8, .inl (fun _ => 0))), (q5, .inl (cZ, 8, .inl (fun _ => 0))), (q6, .inl (cI, 8, .inl (fun _ => 0))), (q7, .inl (cI, 4, .inl (fun _ => 0))), (q8, .inr (2, [.ref q9])), (q9, .inl (cI, 74, .inl (fun _ => 0))), (q10, .inl (cI, 5, .inl (fun _ => 0)))]) H _ := h
  exact g_vretI E hr hlk h ⟨q1, q2, q3, q4, q5, q6, q7, q8, q9, q10, rfl⟩ hQ dX4_init_77
