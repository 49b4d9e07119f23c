def gwsC (ad : Nat → Nat) (cI cZ : ClassId) (σ : St) : va_W :=
  [(ad 0, .inr (8, [.ref (ad 1), .ref (ad 3), .ref (ad 14), .ref (ad 25), .ref (ad 29), .ref (ad 33), .int (σ.1 6), .ref (ad 37), .ref (ad 40), .ref (ad 43), .ref (ad 46), .long σ.2.2])),
   (ad 1, .inr (6, [.ref (ad 2), .int (σ.1 33), .int (σ.1 34), .int (σ.1 35), .int (σ.1 36), .int (σ.1 37)])),
   (ad 2, .inl (cI, 200, .inl (σ.2.1 2))),
   (ad 3, .inr (4, [.int (σ.1 96), .int (σ.1 97), .int (σ.1 98), .ref (ad 4), .ref (ad 5), .ref (ad 6), .ref (ad 7), .ref (ad 8), .ref (ad 9), .ref (ad 10), .ref (ad 11), .ref (ad 13)])),
   (ad 4, .inl (cZ, 6, .inl (σ.2.1 4))),
   (ad 5, .inl (cI, 8, .inl (σ.2.1 5))),
   (ad 6, .inl (cI, 8, .inl (σ.2.1 6))),
   (ad 7, .inl (cI, 8, .inl (σ.2.1 7))),
   (ad 8, .inl (cZ, 8, .inl (σ.2.1 8))),
   (ad 9, .inl (cI, 8, .inl (σ.2.1 9))),
   (ad 10, .inl (cI, 4, .inl (σ.2.1 10))),
   (ad 11, .inr (2, [.ref (ad 12)])),
   (ad 12, .inl (cI, 74, .inl (σ.2.1 12))),
   (ad 13, .inl (cI, 5, .inl (σ.2.1 13))),
   (ad 14, .inr (4, [.int (σ.1 448), .int (σ.1 449), .int (σ.1 450), .ref (ad 15), .ref (ad 16), .ref (ad 17), .ref (ad 18), .ref (ad 19), .ref (ad 20), .ref (ad 21), .ref (ad 22), .ref (ad 24)])),
   (ad 15, .inl (cZ, 6, .inl (σ.2.1 15))),
   (ad 16, .inl (cI, 8, .inl (σ.2.1 16))),
   (ad 17, .inl (cI, 8, .inl (σ.2.1 17))),
   (ad 18, .inl (cI, 8, .inl (σ.2.1 18))),
   (ad 19, .inl (cZ, 8, .inl (σ.2.1 19))),
   (ad 20, .inl (cI, 8, .inl (σ.2.1 20))),
   (ad 21, .inl (cI, 4, .inl (σ.2.1 21))),
   (ad 22, .inr (2, [.ref (ad 23)])),
   (ad 23, .inl (cI, 74, .inl (σ.2.1 23))),
   (ad 24, .inl (cI, 5, .inl (σ.2.1 24))),
   (ad 25, .inr (1, [.ref (ad 26), .ref (ad 28), .int (σ.1 802)])),
   (ad 26, .inr (2, [.ref (ad 27)])),
   (ad 27, .inl (cI, 74, .inl (σ.2.1 27))),
   (ad 28, .inl (cI, 740, .inl (σ.2.1 28))),
   (ad 29, .inr (1, [.ref (ad 30), .ref (ad 32), .int (σ.1 930)])),
   (ad 30, .inr (2, [.ref (ad 31)])),
   (ad 31, .inl (cI, 74, .inl (σ.2.1 31))),
   (ad 32, .inl (cI, 740, .inl (σ.2.1 32))),
   (ad 33, .inr (1, [.ref (ad 34), .ref (ad 36), .int (σ.1 1058)])),
   (ad 34, .inr (2, [.ref (ad 35)])),
   (ad 35, .inl (cI, 74, .inl (σ.2.1 35))),
   (ad 36, .inl (cI, 740, .inl (σ.2.1 36))),
   (ad 37, .inr (0, [.ref (ad 38), .ref (ad 39), .int (σ.1 1186)])),
   (ad 38, .inl (cI, 6, .inl (σ.2.1 38))),
   (ad 39, .inl (cI, 6, .inl (σ.2.1 39))),
   (ad 40, .inr (3, [.ref (ad 41), .ref (ad 42), .int (σ.1 1282), .int (σ.1 1283)])),
   (ad 41, .inl (cI, 6, .inl (σ.2.1 41))),
   (ad 42, .inl (cI, 6, .inl (σ.2.1 42))),
   (ad 43, .inr (7, [.ref (ad 44), .ref (ad 45), .int (σ.1 1378), .int (σ.1 1379), .int (σ.1 1380)])),
   (ad 44, .inl (cI, 6, .inl (σ.2.1 44))),
   (ad 45, .inl (cI, 6, .inl (σ.2.1 45))),
   (ad 46, .inr (5, [.ref (ad 47)])),
   (ad 47, .inl (cI, 64, .inl (σ.2.1 47)))]
def gwsM (ad : Nat → Nat) (cI cZ : ClassId) (τ : St) : va_W :=
  [(ad 48, .inr (9, [.long τ.2.2, .ref (ad 49), .int (τ.1 1538), .ref (ad 50), .ref (ad 51), .ref (ad 52), .ref (ad 53), .ref (ad 54), .ref (ad 55), .ref (ad 56), .int (τ.1 1546), .int (τ.1 1547), .int (τ.1 1548), .int (τ.1 1549), .int (τ.1 1550), .ref (ad 57), .ref (ad 58), .int (τ.1 1553), .int (τ.1 1554), .ref (ad 59), .ref (ad 60)])),
   (ad 49, .inl (cI, 200, .inl (τ.2.1 49))),
   (ad 50, .inl (cI, 54, .inl (τ.2.1 50))),
   (ad 51, .inl (cI, 54, .inl (τ.2.1 51))),
   (ad 52, .inl (cI, 74, .inl (τ.2.1 52))),
   (ad 53, .inl (cI, 815, .inl (τ.2.1 53))),
   (ad 54, .inl (cI, 1630, .inl (τ.2.1 54))),
   (ad 55, .inl (cZ, 2, .inl (τ.2.1 55))),
   (ad 56, .inl (cI, 6, .inl (τ.2.1 56))),
   (ad 57, .inl (cI, 6, .inl (τ.2.1 57))),
   (ad 58, .inl (cI, 6, .inl (τ.2.1 58))),
   (ad 59, .inl (cI, 64, .inl (τ.2.1 59))),
   (ad 60, .inl (cI, 42, .inl (τ.2.1 60)))]
theorem gws_split (ad : Nat → Nat) (cI cZ : ClassId) (σ τ : St) : gws ad cI cZ σ τ = gwsC ad cI cZ σ ++ gwsM ad cI cZ τ := rfl
/-- all zero: how a fresh object's ints and arrays are -/
def z0 : St := (fun _ => 0, fun _ _ => 0, 0)
def adX (ad : Nat → Nat) (l : List Nat) : Nat → Nat := fun i => if i < 48 then ad i else l.getD (i - 48) 0

set_option maxHeartbeats 4000000 in
set_option maxRecDepth 20000 in
theorem c_X9_init (l : Launch) (D : va_G) (cI cZ : ClassId) (z : Nat) (ad : Nat → Nat) (σ : St) (h0 : Nat) : gI l yX9_init cX9_init 1 8 12 2953 D cI cZ z (gwsC ad cI cZ σ ++ [(h0, .inr (9, [.long 0, .null, .int 0, .null, .null, .null, .null, .null, .null, .null, .int 0, .int 0, .int 0, .int 0, .int 0, .null, .null, .int 0, .int 0, .null, .null]))]) [.ref h0] (fun ws9 => ∃ ad2 : Nat → Nat, ad2 0 = ad 0 ∧ ad2 48 = h0 ∧ ws9 = gws ad2 cI cZ σ (F_X9_begins (F_X9_reads z0).2)) := by
  generalize hW0 : gwsC ad cI cZ σ = W0
  refine g_metI (own := RX9) (by decide) rfl rfl (Nat.le_of_ble_eq_true rfl) (fun p e s m below meth c ls Q E hr hlk hin h hl hQ => ?_)
  have hx := E.1
  have hb := E.2.1
  have hl : lv_has ls 1 [(0, .ref h0)] := hl
  refine lv_aload_n hx hb dX9_init_0 rfl (lv_at hl 0 rfl) ?_
  refine g_obj (rest := []) E mw_773 mw_21 mw_22 hl.1 (by decide) (by decide) dX9_init_1 ?_
  refine lv_aload_n hx hb dX9_init_4 rfl (lv_at hl 0 rfl) ?_
  refine lv_sipush (v := 200) hx hb dX9_init_5 (by decide) ?_
  refine g_newI (rest := [.ref h0]) E h mw_48 200 (by decide) rfl (by decide) (by decide) (by decide) dX9_init_8 (fun q1 H h => ?_)
  have h : gH D z s (W0 ++ [(h0, .inr (9, [.long 0, .null, .int 0, .null, .null, .null, .null, .null, .null, .null, .int 0, .int 0, .int 0, .int 0, .int 0, .null, .null, .int 0, .int 0, .null, .null])), (q1, .inl (cI, 200, .inl (fun _ => 0)))]) H _ := h
  refine g_putF (rest := []) (v := .ref q1) (ty := (.array .int)) E h hin rfl layX9 tyX9 tyX9_ok nmX9 1 (by decide) rfl rfl mw_820 rfl (by decide +kernel) rfl rfl (Nat.le_of_ble_eq_true rfl) dX9_init_10 (fun H locs h => ?_)
  have h : gH D z s (W0 ++ [(h0, .inr (9, [.long 0, .ref q1, .int 0, .null, .null, .null, .null, .null, .null, .null, .int 0, .int 0, .int 0, .int 0, .int 0, .null, .null, .int 0, .int 0, .null, .null])), (q1, .inl (cI, 200, .inl (fun _ => 0)))]) H _ := h
  refine lv_aload_n hx hb dX9_init_13 rfl (lv_at hl 0 rfl) ?_
  refine lv_bipush (v := 54) hx hb dX9_init_14 (by decide) ?_
  refine g_newI (rest := [.ref h0]) E h mw_48 54 (by decide) rfl (by decide) (by decide) (by decide) dX9_init_16 (fun q2 H h => ?_)
  have h : gH D z s (W0 ++ [(h0, .inr (9, [.long 0, .ref q1, .int 0, .null, .null, .null, .null, .null, .null, .null, .int 0, .int 0, .int 0, .int 0, .int 0, .null, .null, .int 0, .int 0, .null, .null])), (q1, .inl (cI, 200, .inl (fun _ => 0))), (q2, .inl (cI, 54, .inl (fun _ => 0)))]) H _ := h
  refine g_putF (rest := []) (v := .ref q2) (ty := (.array .int)) E h hin rfl layX9 tyX9 tyX9_ok nmX9 3 (by decide) rfl rfl mw_822 rfl (by decide +kernel) rfl rfl (Nat.le_of_ble_eq_true rfl) dX9_init_18 (fun H locs h => ?_)
  have h : gH D z s (W0 ++ [(h0, .inr (9, [.long 0, .ref q1, .int 0, .ref q2, .null, .null, .null, .null, .null, .null, .int 0, .int 0, .int 0, .int 0, .int 0, .null, .null, .int 0, .int 0, .null, .null])), (q1, .inl (cI, 200, .inl (fun _ => 0))), (q2, .inl (cI, 54, .inl (fun _ => 0)))]) H _ := h
  refine lv_aload_n hx hb dX9_init_21 rfl (lv_at hl 0 rfl) ?_
  refine lv_bipush (v := 54) hx hb dX9_init_22 (by decide) ?_
  refine g_newI (rest := [.ref h0]) E h mw_48 54 (by decide) rfl (by decide) (by decide) (by decide) dX9_init_24 (fun q3 H h => ?_)
  have h : gH D z s (W0 ++ [(h0, .inr (9, [.long 0, .ref q1, .int 0, .ref q2, .null, .null, .null, .null, .null, .null, .int 0, .int 0, .int 0, .int 0, .int 0, .null, .null, .int 0, .int 0, .null, .null])), (q1, .inl (cI, 200, .inl (fun _ => 0))), (q2, .inl (cI, 54, .inl (fun _ => 0))), (q3, .inl (cI, 54, .inl (fun _ => 0)))]) H _ := h
  refine g_putF (rest := []) (v := .ref q3) (ty := (.array .int)) E h hin rfl layX9 tyX9 tyX9_ok nmX9 4 (by decide) rfl rfl mw_823 rfl (by decide +kernel) rfl rfl (Nat.le_of_ble_eq_true rfl) dX9_init_26 (fun H locs h => ?_)
  have h : gH D z s (W0 ++ [(h0, .inr (9, [.long 0, .ref q1, .int 0, .ref q2, .ref q3, .null, .null, .null, .null, .null, .int 0, .int 0, .int 0, .int 0, .int 0, .null, .null, .int 0, .int 0, .null, .null])), (q1, .inl (cI, 200, .inl (fun _ => 0))), (q2, .inl (cI, 54, .inl (fun _ => 0))), (q3, .inl (cI, 54, .inl (fun _ => 0)))]) H _ := h
  refine lv_aload_n hx hb dX9_init_29 rfl (lv_at hl 0 rfl) ?_
  refine lv_bipush (v := 74) hx hb dX9_init_30 (by decide) ?_
  refine g_newI (rest := [.ref h0]) E h mw_48 74 (by decide) rfl (by decide) (by decide) (by decide) dX9_init_32 (fun q4 H h => ?_)
  have h : gH D z s (W0 ++ [(h0, .inr (9, [.long 0, .ref q1, .int 0, .ref q2, .ref q3, .null, .null, .null, .null, .null, .int 0, .int 0, .int 0, .int 0, .int 0, .null, .null, .int 0, .int 0, .null, .null])), (q1, .inl (cI, 200, .inl (fun _ => 0))), (q2, .inl (cI, 54, .inl (fun _ => 0))), (q3, .inl (cI, 54, .inl (fun _ => 0))), (q4, .inl (cI, 74, .inl (fun _ => 0)))]) H _ := h
  refine g_putF (rest := []) (v := .ref q4) (ty := (.array .int)) E h hin rfl layX9 tyX9 tyX9_ok nmX9 5 (by decide) rfl rfl mw_824 rfl (by decide +kernel) rfl rfl (Nat.le_of_ble_eq_true rfl) dX9_init_34 (fun H locs h => ?_)
  have h : gH D z s (W0 ++ [(h0, .inr (9, [.long 0, .ref q1, .int 0, .ref q2, .ref q3, .ref q4, .null, .null, .null, .null, .int 0, .int 0, .int 0, .int 0, .int 0, .null, .null, .int 0, .int 0, .null, .null])), (q1, .inl (cI, 200, .inl (fun _ => 0))), (q2, .inl (cI, 54, .inl (fun _ => 0))), (q3, .inl (cI, 54, .inl (fun _ => 0))), (q4, .inl (cI, 74, .inl (fun _ => 0)))]) H _ := h
  refine lv_aload_n hx hb dX9_init_37 rfl (lv_at hl 0 rfl) ?_
  refine lv_sipush (v := 815) hx hb dX9_init_38 (by decide) ?_
  refine g_newI (rest := [.ref h0]) E h mw_48 815 (by decide) rfl (by decide) (by decide) (by decide) dX9_init_41 (fun q5 H h => ?_)
  have h : gH D z s (W0 ++ [(h0, .inr (9, [.long 0, .ref q1, .int 0, .ref q2, .ref q3, .ref q4, .null, .null, .null, .null, .int 0, .int 0, .int 0, .int 0, .int 0, .null, .null, .int 0, .int 0, .null, .null])), (q1, .inl (cI, 200, .inl (fun _ => 0))), (q2, .inl (cI, 54, .inl (fun _ => 0))), (q3, .inl (cI, 54, .inl (fun _ => 0))), (q4, .inl (cI, 74, .inl (fun _ => 0))), (q5, .inl (cI, 815, .inl (fun _ => 0)))]) H _ := h
  refine g_putF (rest := []) (v := .ref q5) (ty := (.array .int)) E h hin rfl layX9 tyX9 tyX9_ok nmX9 6 (by decide) rfl rfl mw_825 rfl (by decide +kernel) rfl rfl (Nat.le_of_ble_eq_true rfl) dX9_init_43 (fun H locs h => ?_)
  have h : gH D z s (W0 ++ [(h0, .inr (9, [.long 0, .ref q1, .int 0, .ref q2, .ref q3, .ref q4, .ref q5, .null, .null, .null, .int 0, .int 0, .int 0, .int 0, .int 0, .null, .null, .int 0, .int 0, .null, .null])), (q1, .inl (cI, 200, .inl (fun _ => 0))), (q2, .inl (cI, 54, .inl (fun _ => 0))), (q3, .inl (cI, 54, .inl (fun _ => 0))), (q4, .inl (cI, 74, .inl (fun _ => 0))), (q5, .inl (cI, 815, .inl (fun _ => 0)))]) H _ := h
  refine lv_aload_n hx hb dX9_init_46 rfl (lv_at hl 0 rfl) ?_
  refine lv_sipush (v := 1630) hx hb dX9_init_47 (by decide) ?_
  refine g_newI (rest := [.ref h0]) E h mw_48 1630 (by decide) rfl (by decide) (by decide) (by decide) dX9_init_50 (fun q6 H h => ?_)
  have h : gH D z s (W0 ++ [(h0, .inr (9, [.long 0, .ref q1, .int 0, .ref q2, .ref q3, .ref q4, .ref q5, .null, .null, .null, .int 0, .int 0, .int 0, .int 0, .int 0, .null, .null, .int 0, .int 0, .null, .null])), (q1, .inl (cI, 200, .inl (fun _ => 0))), (q2, .inl (cI, 54, .inl (fun _ => 0))), (q3, .inl (cI, 54, .inl (fun _ => 0))), (q4, .inl (cI, 74, .inl (fun _ => 0))), (q5, .inl (cI, 815, .inl (fun _ => 0))), (q6, .inl (cI, 1630, .inl (fun _ => 0)))]) H _ := h
  refine g_putF (rest := []) (v := .ref q6) (ty := (.array .int)) E h hin rfl layX9 tyX9 tyX9_ok nmX9 7 (by decide) rfl rfl mw_826 rfl (by decide +kernel) rfl rfl (Nat.le_of_ble_eq_true rfl) dX9_init_52 (fun H locs h => ?_)
  have h : gH D z s (W0 ++ [(h0, .inr (9, [.long 0, .ref q1, .int 0, .ref q2, .ref q3, .ref q4, .ref q5, .ref q6, .null, .null, .int 0, .int 0, .int 0, .int 0, .int 0, .null, .null, .int 0, .int 0, .null, .null])), (q1, .inl (cI, 200, .inl (fun _ => 0))), (q2, .inl (cI, 54, .inl (fun _ => 0))), (q3, .inl (cI, 54, .inl (fun _ => 0))), (q4, .inl (cI, 74, .inl (fun _ => 0))), (q5, .inl (cI, 815, .inl (fun _ => 0))), (q6, .inl (cI, 1630, .inl (fun _ => 0)))]) H _ := h
  refine lv_aload_n hx hb dX9_init_55 rfl (lv_at hl 0 rfl) ?_
  refine lv_iconst (v := 2) hx hb dX9_init_56 (by decide) ?_
  refine g_newZ (rest := [.ref h0]) E h mw_65 2 (by decide) rfl (by decide) (by decide) (by decide) dX9_init_57 (fun q7 H h => ?_)
  have h : gH D z s (W0 ++ [(h0, .inr (9, [.long 0, .ref q1, .int 0, .ref q2, .ref q3, .ref q4, .ref q5, .ref q6, .null, .null, .int 0, .int 0, .int 0, .int 0, .int 0, .null, .null, .int 0, .int 0, .null, .null])), (q1, .inl (cI, 200, .inl (fun _ => 0))), (q2, .inl (cI, 54, .inl (fun _ => 0))), (q3, .inl (cI, 54, .inl (fun _ => 0))), (q4, .inl (cI, 74, .inl (fun _ => 0))), (q5, .inl (cI, 815, .inl (fun _ => 0))), (q6, .inl (cI, 1630, .inl (fun _ => 0))), (q7, .inl (cZ, 2, .inl (fun _ => 0)))]) H _ := h
  refine g_putF (rest := []) (v := .ref q7) (ty := (.array .boolean)) E h hin rfl layX9 tyX9 tyX9_ok nmX9 8 (by decide) rfl rfl mw_827 rfl (by decide +kernel) rfl rfl (Nat.le_of_ble_eq_true rfl) dX9_init_59 (fun H locs h => ?_)
  have h : gH D z s (W0 ++ [(h0, .inr (9, [.long 0, .ref q1, .int 0, .ref q2, .ref q3, .ref q4, .ref q5, .ref q6, .ref q7, .null, .int 0, .int 0, .int 0, .int 0, .int 0, .null, .null, .int 0, .int 0, .null, .null])), (q1, .inl (cI, 200, .inl (fun _ => 0))), (q2, .inl (cI, 54, .inl (fun _ => 0))), (q3, .inl (cI, 54, .inl (fun _ => 0))), (q4, .inl (cI, 74, .inl (fun _ => 0))), (q5, .inl (cI, 815, .inl (fun _ => 0))), (q6, .inl (cI, 1630, .inl (fun _ => 0))), (q7, .inl (cZ, 2, .inl (fun _ => 0)))]) H _ := h
  refine lv_aload_n hx hb dX9_init_62 rfl (lv_at hl 0 rfl) ?_
  refine lv_bipush (v := 6) hx hb dX9_init_63 (by decide) ?_
  refine g_newI (rest := [.ref h0]) E h mw_48 6 (by decide) rfl (by decide) (by decide) (by decide) dX9_init_65 (fun q8 H h => ?_)
  have h : gH D z s (W0 ++ [(h0, .inr (9, [.long 0, .ref q1, .int 0, .ref q2, .ref q3, .ref q4, .ref q5, .ref q6, .ref q7, .null, .int 0, .int 0, .int 0, .int 0, .int 0, .null, .null, .int 0, .int 0, .null, .null])), (q1, .inl (cI, 200, .inl (fun _ => 0))), (q2, .inl (cI, 54, .inl (fun _ => 0))), (q3, .inl (cI, 54, .inl (fun _ => 0))), (q4, .inl (cI, 74, .inl (fun _ => 0))), (q5, .inl (cI, 815, .inl (fun _ => 0))), (q6, .inl (cI, 1630, .inl (fun _ => 0))), (q7, .inl (cZ, 2, .inl (fun _ => 0))), (q8, .inl (cI, 6, .inl (fun _ => 0)))]) H _ := h
  refine g_putF (rest := []) (v := .ref q8) (ty := (.array .int)) E h hin rfl layX9 tyX9 tyX9_ok nmX9 9 (by decide) rfl rfl mw_828 rfl (by decide +kernel) rfl rfl (Nat.le_of_ble_eq_true rfl) dX9_init_67 (fun H locs h => ?_)
  have h : gH D z s (W0 ++ [(h0, .inr (9, [.long 0, .ref q1, .int 0, .ref q2, .ref q3, .ref q4, .ref q5, .ref q6, .ref q7, .ref q8, .int 0, .int 0, .int 0, .int 0, .int 0, .null, .null, .int 0, .int 0, .null, .null])), (q1, .inl (cI, 200, .inl (fun _ => 0))), (q2, .inl (cI, 54, .inl (fun _ => 0))), (q3, .inl (cI, 54, .inl (fun _ => 0))), (q4, .inl (cI, 74, .inl (fun _ => 0))), (q5, .inl (cI, 815, .inl (fun _ => 0))), (q6, .inl (cI, 1630, .inl (fun _ => 0))), (q7, .inl (cZ, 2, .inl (fun _ => 0))), (q8, .inl (cI, 6, .inl (fun _ => 0)))]) H _ := h
  refine lv_aload_n hx hb dX9_init_70 rfl (lv_at hl 0 rfl) ?_
  refine lv_bipush (v := 6) hx hb dX9_init_71 (by decide) ?_
  refine g_newI (rest := [.ref h0]) E h mw_48 6 (by decide) rfl (by decide) (by decide) (by decide) dX9_init_73 (fun q9 H h => ?_)
  have h : gH D z s (W0 ++ [(h0, .inr (9, [.long 0, .ref q1, .int 0, .ref q2, .ref q3, .ref q4, .ref q5, .ref q6, .ref q7, .ref q8, .int 0, .int 0, .int 0, .int 0, .int 0, .null, .null, .int 0, .int 0, .null, .null])), (q1, .inl (cI, 200, .inl (fun _ => 0))), (q2, .inl (cI, 54, .inl (fun _ => 0))), (q3, .inl (cI, 54, .inl (fun _ => 0))), (q4, .inl (cI, 74, .inl (fun _ => 0))), (q5, .inl (cI, 815, .inl (fun _ => 0))), (q6, .inl (cI, 1630, .inl (fun _ => 0))), (q7, .inl (cZ, 2, .inl (fun _ => 0))), (q8, .inl (cI, 6, .inl (fun _ => 0))), (q9, .inl (cI, 6, .inl (fun _ => 0)))]) H _ := h
  refine g_putF (rest := []) (v := .ref q9) (ty := (.array .int)) E h hin rfl layX9 tyX9 tyX9_ok nmX9 15 (by decide) rfl rfl mw_834 rfl (by decide +kernel) rfl rfl (Nat.le_of_ble_eq_true rfl) dX9_init_75 (fun H locs h => ?_)
  have h : gH D z s (W0 ++ [(h0, .inr (9, [.long 0, .ref q1, .int 0, .ref q2, .ref q3, .ref q4, .ref q5, .ref q6, .ref q7, .ref q8, .int 0, .int 0, .int 0, .int 0, .int 0, .ref q9, .null, .int 0, .int 0, .null, .null])), (q1, .inl (cI, 200, .inl (fun _ => 0))), (q2, .inl (cI, 54, .inl (fun _ => 0))), (q3, .inl (cI, 54, .inl (fun _ => 0))), (q4, .inl (cI, 74, .inl (fun _ => 0))), (q5, .inl (cI, 815, .inl (fun _ => 0))), (q6, .inl (cI, 1630, .inl (fun _ => 0))), (q7, .inl (cZ, 2, .inl (fun _ => 0))), (q8, .inl (cI, 6, .inl (fun _ => 0))), (q9, .inl (cI, 6, .inl (fun _ => 0)))]) H _ := h
  refine lv_aload_n hx hb dX9_init_78 rfl (lv_at hl 0 rfl) ?_
  refine lv_bipush (v := 6) hx hb dX9_init_79 (by decide) ?_
  refine g_newI (rest := [.ref h0]) E h mw_48 6 (by decide) rfl (by decide) (by decide) (by decide) dX9_init_81 (fun q10 H h => ?_)
  have h : gH D z s (W0 ++ [(h0, .inr (9, [.long 0, .ref q1, .int 0, .ref q2, .ref q3, .ref q4, .ref q5, .ref q6, .ref q7, .ref q8, .int 0, .int 0, .int 0, .int 0, .int 0, .ref q9, .null, .int 0, .int 0, .null, .null])), (q1, .inl (cI, 200, .inl (fun _ => 0))), (q2, .inl (cI, 54, .inl (fun _ => 0))), (q3, .inl (cI, 54, .inl (fun _ => 0))), (q4, .inl (cI, 74, .inl (fun _ => 0))), (q5, .inl (cI, 815, .inl (fun _ => 0))), (q6, .inl (cI, 1630, .inl (fun _ => 0))), (q7, .inl (cZ, 2, .inl (fun _ => 0))), (q8, .inl (cI, 6, .inl (fun _ => 0))), (q9, .inl (cI, 6, .inl (fun _ => 0))), (q10, .inl (cI, 6, .inl (fun _ => 0)))]) H _ := h
  refine g_putF (rest := []) (v := .ref q10) (ty := (.array .int)) E h hin rfl layX9 tyX9 tyX9_ok nmX9 16 (by decide) rfl rfl mw_835 rfl (by decide +kernel) rfl rfl (Nat.le_of_ble_eq_true rfl) dX9_init_83 (fun H locs h => ?_)
  have h : gH D z s (W0 ++ [(h0, .inr (9, [.long 0, .ref q1, .int 0, .ref q2, .ref q3, .ref q4, .ref q5, .ref q6, .ref q7, .ref q8, .int 0, .int 0, .int 0, .int 0, .int 0, .ref q9, .ref q10, .int 0, .int 0, .null, .null])), (q1, .inl (cI, 200, .inl (fun _ => 0))), (q2, .inl (cI, 54, .inl (fun _ => 0))), (q3, .inl (cI, 54, .inl (fun _ => 0))), (q4, .inl (cI, 74, .inl (fun _ => 0))), (q5, .inl (cI, 815, .inl (fun _ => 0))), (q6, .inl (cI, 1630, .inl (fun _ => 0))), (q7, .inl (cZ, 2, .inl (fun _ => 0))), (q8, .inl (cI, 6, .inl (fun _ => 0))), (q9, .inl (cI, 6, .inl (fun _ => 0))), (q10, .inl (cI, 6, .inl (fun _ => 0)))]) H _ := h
  refine lv_aload_n hx hb dX9_init_86 rfl (lv_at hl 0 rfl) ?_
  refine lv_bipush (v := 64) hx hb dX9_init_87 (by decide) ?_
  refine g_newI (rest := [.ref h0]) E h mw_48 64 (by decide) rfl (by decide) (by decide) (by decide) dX9_init_89 (fun q11 H h => ?_)
  have h : gH D z s (W0 ++ [(h0, .inr (9, [.long 0, .ref q1, .int 0, .ref q2, .ref q3, .ref q4, .ref q5, .ref q6, .ref q7, .ref q8, .int 0, .int 0, .int 0, .int 0, .int 0, .ref q9, .ref q10, .int 0, .int 0, .null, .null])), (q1, .inl (cI, 200, .inl (fun _ => 0))), (q2, .inl (cI, 54, .inl (fun _ => 0))), (q3, .inl (cI, 54, .inl (fun _ => 0))), (q4, .inl (cI, 74, .inl (fun _ => 0))), (q5, .inl (cI, 815, .inl (fun _ => 0))), (q6, .inl (cI, 1630, .inl (fun _ => 0))), (q7, .inl (cZ, 2, .inl (fun _ => 0))), (q8, .inl (cI, 6, .inl (fun _ => 0))), (q9, .inl (cI, 6, .inl (fun _ => 0))), (q10, .inl (cI, 6, .inl (fun _ => 0))), (q11, .inl (cI, 64, .inl (fun _ => 0)))]) H _ := h
  refine g_putF (rest := []) (v := .ref q11) (ty := (.array .int)) E h hin rfl layX9 tyX9 tyX9_ok nmX9 19 (by decide) rfl rfl mw_838 rfl (by decide +kernel) rfl rfl (Nat.le_of_ble_eq_true rfl) dX9_init_91 (fun H locs h => ?_)
  have h : gH D z s (W0 ++ [(h0, .inr (9, [.long 0, .ref q1, .int 0, .ref q2, .ref q3, .ref q4, .ref q5, .ref q6, .ref q7, .ref q8, .int 0, .int 0, .int 0, .int 0, .int 0, .ref q9, .ref q10, .int 0, .int 0, .ref q11, .null])), (q1, .inl (cI, 200, .inl (fun _ => 0))), (q2, .inl (cI, 54, .inl (fun _ => 0))), (q3, .inl (cI, 54, .inl (fun _ => 0))), (q4, .inl (cI, 74, .inl (fun _ => 0))), (q5, .inl (cI, 815, .inl (fun _ => 0))), (q6, .inl (cI, 1630, .inl (fun _ => 0))), (q7, .inl (cZ, 2, .inl (fun _ => 0))), (q8, .inl (cI, 6, .inl (fun _ => 0))), (q9, .inl (cI, 6, .inl (fun _ => 0))), (q10, .inl (cI, 6, .inl (fun _ => 0))), (q11, .inl (cI, 64, .inl (fun _ => 0)))]) H _ := h
  refine lv_aload_n hx hb dX9_init_94 rfl (lv_at hl 0 rfl) ?_
  refine lv_bipush (v := 42) hx hb dX9_init_95 (by decide) ?_
  refine g_newI (rest := [.ref h0]) E h mw_48 42 (by decide) rfl (by decide) (by decide) (by decide) dX9_init_97 (fun q12 H h => ?_)
  have h : gH D z s (W0 ++ [(h0, .inr (9, [.long 0, .ref q1, .int 0, .ref q2, .ref q3, .ref q4, .ref q5, .ref q6, .ref q7, .ref q8, .int 0, .int 0, .int 0, .int 0, .int 0, .ref q9, .ref q10, .int 0, .int 0, .ref q11, .null])), (q1, .inl (cI, 200, .inl (fun _ => 0))), (q2, .inl (cI, 54, .inl (fun _ => 0))), (q3, .inl (cI, 54, .inl (fun _ => 0))), (q4, .inl (cI, 74, .inl (fun _ => 0))), (q5, .inl (cI, 815, .inl (fun _ => 0))), (q6, .inl (cI, 1630, .inl (fun _ => 0))), (q7, .inl (cZ, 2, .inl (fun _ => 0))), (q8, .inl (cI, 6, .inl (fun _ => 0))), (q9, .inl (cI, 6, .inl (fun _ => 0))), (q10, .inl (cI, 6, .inl (fun _ => 0))), (q11, .inl (cI, 64, .inl (fun _ => 0))), (q12, .inl (cI, 42, .inl (fun _ => 0)))]) H _ := h
  refine g_putF (rest := []) (v := .ref q12) (ty := (.array .int)) E h hin rfl layX9 tyX9 tyX9_ok nmX9 20 (by decide) rfl rfl mw_839 rfl (by decide +kernel) rfl rfl (Nat.le_of_ble_eq_true rfl) dX9_init_99 (fun H locs h => ?_)
  have h : gH D z s (W0 ++ [(h0, .inr (9, [.long 0, .ref q1, .int 0, .ref q2, .ref q3, .ref q4, .ref q5, .ref q6, .ref q7, .ref q8, .int 0, .int 0, .int 0, .int 0, .int 0, .ref q9, .ref q10, .int 0, .int 0, .ref q11, .ref q12])), (q1, .inl (cI, 200, .inl (fun _ => 0))), (q2, .inl (cI, 54, .inl (fun _ => 0))), (q3, .inl (cI, 54, .inl (fun _ => 0))), (q4, .inl (cI, 74, .inl (fun _ => 0))), (q5, .inl (cI, 815, .inl (fun _ => 0))), (q6, .inl (cI, 1630, .inl (fun _ => 0))), (q7, .inl (cZ, 2, .inl (fun _ => 0))), (q8, .inl (cI, 6, .inl (fun _ => 0))), (q9, .inl (cI, 6, .inl (fun _ => 0))), (q10, .inl (cI, 6, .inl (fun _ => 0))), (q11, .inl (cI, 64, .inl (fun _ => 0))), (q12, .inl (cI, 42, .inl (fun _ => 0)))]) H _ := h
  obtain ⟨ad2, had⟩ : ∃ ad2, ad2 = adX ad [h0, q1, q2, q3, q4, q5, q6, q7, q8, q9, q10, q11, q12] := ⟨_, rfl⟩
  have h : gH D z s (gws ad2 cI cZ σ z0) H locs := by rw [← hW0] at h; rw [had]; exact h
  have hl : lv_has ls 1 [(0, .ref (ad2 48))] := by rw [had]; exact hl
  have h48 : ad2 48 = h0 := by rw [had]; rfl
  have h00 : ad2 0 = ad 0 := by rw [had]; rfl
  clear had
  refine lv_aload_n hx hb dX9_init_102 rfl (lv_at hl 0 rfl) ?_
  refine g_callVU (F_X9_reads z0) (fun u => gws ad2 cI cZ σ u) (rest := []) E h (c_X9_reads l D cI cZ z ad2 σ z0 (by decide)) mw_774 cbX9_reads 48 rfl rfl ⟨by decide, by decide⟩ rfl rfl hl.1 (Nat.le_of_ble_eq_true rfl) ⟨by decide, by decide⟩ dX9_init_103 (fun u hu H locs h => ?_)
  refine lv_pop hx hb dX9_init_106 rfl ?_
  refine lv_aload_n hx hb dX9_init_107 rfl (lv_at hl 0 rfl) ?_
  refine g_callVUv (F_X9_begins u.2) (fun u => gws ad2 cI cZ σ u) (rest := []) E h (c_X9_begins l D cI cZ z ad2 σ u.2) mw_815 cbX9_begins 48 rfl rfl ⟨by decide, by decide⟩ rfl rfl hl.1 (Nat.le_of_ble_eq_true rfl) ⟨by decide, by decide⟩ dX9_init_108 (fun w hw H locs h => ?_)
  exact g_vretI E hr hlk h ⟨ad2, h00, h48, by rw [hu, hw]⟩ hQ dX9_init_111
