def F_X8_roadT_k62_6 (σ : St) (a1 : Int32) (u1 : Int32 × St) (u3 : St) (u5 : Int32 × St) : Int32 × St := (a1, (si u5.2 6 (0 : Int32)))
def F_X8_roadT_k55_4 (σ : St) (a1 : Int32) (u1 : Int32 × St) (u3 : St) : Int32 × St := (F_X8_roadT_k62_6 σ a1 u1 u3 (F_X0_drop u3))
def F_X8_roadT_k40_2 (σ : St) (a1 : Int32) (u1 : Int32 × St) : Int32 × St := (F_X8_roadT_k55_4 σ a1 u1 (F_X1_begin u1.2))
def F_X8_roadT (σ : St) (a1 : Int32) : Int32 × St := (F_X8_roadT_k40_2 σ a1 (F_X6_empty σ))
abbrev I_X8_roadT : List Nat := [6, 33, 802, 1186]
abbrev A_X8_roadT : List Nat := [27]
theorem fr_F_X8_roadT_k62_6 (σ : St) (a1 : Int32) (u1 : Int32 × St) (u3 : St) (u5 : Int32 × St) (hfr : Fr I_X8_roadT A_X8_roadT false σ (u5.2)) : Fr I_X8_roadT A_X8_roadT false σ (F_X8_roadT_k62_6  σ a1 u1 u3 u5).2 := (Fr.si (by decide) hfr)
theorem fr_F_X8_roadT_k55_4 (σ : St) (a1 : Int32) (u1 : Int32 × St) (u3 : St) (hfr : Fr I_X8_roadT A_X8_roadT false σ (u3)) : Fr I_X8_roadT A_X8_roadT false σ (F_X8_roadT_k55_4  σ a1 u1 u3).2 := (fr_F_X8_roadT_k62_6 σ a1 u1 u3 (F_X0_drop u3) (Fr.tr hfr (Fr.mono (by decide) (by decide) (by decide) (fr_F_X0_drop u3))))
theorem fr_F_X8_roadT_k40_2 (σ : St) (a1 : Int32) (u1 : Int32 × St) (hfr : Fr I_X8_roadT A_X8_roadT false σ (u1.2)) : Fr I_X8_roadT A_X8_roadT false σ (F_X8_roadT_k40_2  σ a1 u1).2 := (fr_F_X8_roadT_k55_4 σ a1 u1 (F_X1_begin u1.2) (Fr.tr hfr (Fr.mono (by decide) (by decide) (by decide) (fr_F_X1_begin u1.2))))
theorem fr_F_X8_roadT (σ : St) (a1 : Int32) : Fr I_X8_roadT A_X8_roadT false σ (F_X8_roadT σ a1).2 := (fr_F_X8_roadT_k40_2 σ a1 (F_X6_empty σ) (Fr.tr Fr.rf (Fr.mono (by decide) (by decide) (by decide) (fr_F_X6_empty σ))))
set_option maxHeartbeats 4000000 in
theorem c_X8_roadT {p : Program} {l : Launch} {e : Env} {s : State} {m : MethodId} {args : Array Value} {below : List Frame} {meth : Method} {c : Code} {H : Heap} {locs : List Loc} {Q : State → Prop} {D : va_G} {cI cZ : ClassId} {z : Nat} {ls : Array Slot} (ad : Nat → Nat) (σ τ : St) (a1 : Int32) (E : gE p s m args c cX8_road 3 RX8 D cI cZ z) (hr : meth.sig.returnType = some .int) (hlk : meth.locks = false) (h : gH D z s (gws ad cI cZ σ τ) H locs) (hl : lv_has ls 3 [(0, .ref (ad 0)), (1, .int a1)]) (hQ : Q = MQ below (gQ D cI cZ z (some (.int (F_X8_roadT σ a1).1)) (gws ad cI cZ (F_X8_roadT σ a1).2 τ)) args s 0 0 (gA z)) : W p l e (rmH 8) s m args below meth c H locs 0 0 Q (F0 m 36 ls []) := by
  have hx := E.1
  have hb := E.2.1
  have hF : (F_X8_roadT σ a1) = (F_X8_roadT σ a1) := rfl
  refine lv_aload_n hx hb dX8_road_36 rfl (lv_at hl 0 rfl) ?_
  refine g_get (v := .ref (ad 1)) E h 0 rfl rfl layX8 0 (by decide) rfl mw_202 rfl dX8_road_37 ?_
  refine g_callVU (F_X6_empty σ) (fun u => gws ad cI cZ u τ) (rest := []) E h (c_X6_empty l D cI cZ z ad σ τ) mw_258 cbX6_empty 1 rfl rfl ⟨by decide, by decide⟩ rfl rfl hl.1 (Nat.le_of_ble_eq_true rfl) ⟨Nat.zero_le _, Nat.zero_le _⟩ dX8_road_40 (fun u1 huu1 H locs h => ?_)
  have hF : F_X8_roadT_k40_2 σ a1 u1 = (F_X8_roadT σ a1) := by rw [← huu1]; exact hF
  refine lv_pop hx hb dX8_road_43 rfl ?_
  refine lv_aload_n hx hb dX8_road_44 rfl (lv_at hl 0 rfl) ?_
  refine g_get (v := .ref (ad 25)) E h 0 rfl rfl layX8 3 (by decide) rfl mw_205 rfl dX8_road_45 ?_
  refine lv_aload_n hx hb dX8_road_48 rfl (lv_at hl 0 rfl) ?_
  refine g_get (v := .ref (ad 3)) E h 0 rfl rfl layX8 1 (by decide) rfl mw_203 rfl dX8_road_49 ?_
  refine g_getN (v := .ref (ad 11)) E h 3 rfl rfl layX4 10 (by decide) rfl nf_RX8_86 rfl dX8_road_52 ?_
  refine g_callVUv (F_X1_begin u1.2) (fun u => gws ad cI cZ u τ) (rest := []) E h (c_X1_begin l D cI cZ z ad u1.2 τ) mw_369 cbX1_begin 25 rfl rfl ⟨by decide, by decide⟩ rfl rfl hl.1 (Nat.le_of_ble_eq_true rfl) ⟨Nat.zero_le _, Nat.zero_le _⟩ dX8_road_55 (fun u3 huu3 H locs h => ?_)
  have hF : F_X8_roadT_k55_4 σ a1 u1 u3 = (F_X8_roadT σ a1) := by rw [← huu3]; exact hF
  refine lv_aload_n hx hb dX8_road_58 rfl (lv_at hl 0 rfl) ?_
  refine g_get (v := .ref (ad 37)) E h 0 rfl rfl layX8 7 (by decide) rfl mw_209 rfl dX8_road_59 ?_
  refine g_callVU (F_X0_drop u3) (fun u => gws ad cI cZ u τ) (rest := []) E h (c_X0_drop l D cI cZ z ad u3 τ) mw_380 cbX0_drop 37 rfl rfl ⟨by decide, by decide⟩ rfl rfl hl.1 (Nat.le_of_ble_eq_true rfl) ⟨Nat.zero_le _, Nat.zero_le _⟩ dX8_road_62 (fun u5 huu5 H locs h => ?_)
  have hF : F_X8_roadT_k62_6 σ a1 u1 u3 u5 = (F_X8_roadT σ a1) := by rw [← huu5]; exact hF
  refine lv_pop hx hb dX8_road_65 rfl ?_
  refine lv_aload_n hx hb dX8_road_66 rfl (lv_at hl 0 rfl) ?_
  refine lv_iconst (v := 0) hx hb dX8_road_67 (by decide) ?_
  refine g_put (v := .int (0 : Int32)) (ty := .int) (ws' := gws ad cI cZ (si u5.2 6 (0 : Int32)) τ) E h 0 rfl rfl layX8 tyX8 tyX8_ok nmX8 6 (by decide) rfl mw_208 rfl rfl rfl rfl (Nat.le_of_ble_eq_true rfl) (gi_6 ad cI cZ u5.2 τ (0 : Int32)) dX8_road_68 (fun H locs h => ?_)
  refine lv_iload_n hx hb dX8_road_71 rfl (lv_at hl 1 rfl) ?_
  exact g_iret E hr hlk h hQ (fst_of hF) (snd_of hF (fun u => gws ad cI cZ u τ)) dX8_road_72

/-- told and draft exchanged -/
def swN (i : Nat) : Nat := if 3 ≤ i ∧ i < 14 then i + 11 else if 14 ≤ i ∧ i < 25 then i - 11 else i
def swI (k : Nat) : Nat := if 96 ≤ k ∧ k < 99 then k + 352 else if 448 ≤ k ∧ k < 451 then k - 352 else k
def swA (ad : Nat → Nat) : Nat → Nat := fun i => ad (swN i)
def swS (σ : St) : St := (fun k => σ.1 (swI k), fun i => σ.2.1 (swN i), σ.2.2)

set_option maxHeartbeats 4000000 in
theorem c_X8_road_neg (l : Launch) (D : va_G) (cI cZ : ClassId) (z : Nat) (ad : Nat → Nat) (σ τ : St) (h0_ : (F_X4_tellAll σ).1 < 0) : gM l yX8_road cX8_road 3 (some .int) 8 D cI cZ z (gws ad cI cZ σ τ) [.ref (ad 0)] (some (.int (F_X4_tellAll σ).1)) (gws ad cI cZ (F_X4_tellAll σ).2 τ) := by
  refine g_met (own := RX8) (by decide) rfl (Nat.le_of_ble_eq_true rfl) (fun p e s m below meth c ls Q E hr hlk h hl hQ => ?_)
  have hx := E.1
  have hb := E.2.1
  have hl : lv_has ls 3 [(0, .ref (ad 0))] := hl
  refine lv_aload_n hx hb dX8_road_0 rfl (lv_at hl 0 rfl) ?_
  refine g_get (v := .ref (ad 14)) E h 0 rfl rfl layX8 2 (by decide) rfl mw_204 rfl dX8_road_1 ?_
  refine lv_aload_n hx hb dX8_road_4 rfl (lv_at hl 0 rfl) ?_
  refine g_get (v := .ref (ad 1)) E h 0 rfl rfl layX8 0 (by decide) rfl mw_202 rfl dX8_road_5 ?_
  refine g_callVU (F_X4_tellAll σ) (fun u => gws ad cI cZ u τ) (rest := []) E h (c_X4_tellAll l D cI cZ z ad σ τ) mw_266 cbX4_tellAll 14 rfl rfl ⟨by decide, by decide⟩ rfl rfl hl.1 (Nat.le_of_ble_eq_true rfl) ⟨Nat.zero_le _, Nat.zero_le _⟩ dX8_road_8 (fun u hu H locs h => ?_)
  refine lv_istore_n (lv' := [(1, .int u.1), (0, .ref (ad 0))]) hx hb dX8_road_11 rfl hl (by decide) rfl (fun ls hl => ?_)
  refine lv_iload_n hx hb dX8_road_12 rfl (lv_at hl 0 rfl) ?_
  rw [hu] at h0_ hQ
  refine lv_if_ge (tgt := 18) hx hb dX8_road_13 (by decide) (fun c1 => absurd (i_lt h0_) (by have := i_le c1; omega)) (fun c1 => ?_)
  refine lv_iload_n hx hb dX8_road_16 rfl (lv_at hl 0 rfl) ?_
  exact g_iret E hr hlk h hQ rfl rfl dX8_road_17

set_option maxHeartbeats 4000000 in
theorem sw_gws {D : va_G} {z : Nat} {s : State} {H : Heap} {locs : List Loc} {cI cZ : ClassId} (ad : Nat → Nat) (σ τ : St) (h : gH D z s ((gws ad cI cZ σ τ).set 0 (ad 0, .inr (8, [.ref (ad 1), .ref (ad 14), .ref (ad 3), .ref (ad 25), .ref (ad 29), .ref (ad 33), .int (σ.1 6), .ref (ad 37), .ref (ad 40), .ref (ad 43), .ref (ad 46), .long σ.2.2]))) H locs) : gH D z s (gws (swA ad) cI cZ (swS σ) τ) H locs :=
  ⟨h.1.sub [0, 1, 2, 14, 15, 16, 17, 18, 19, 20, 21, 22, 23, 24, 3, 4, 5, 6, 7, 8, 9, 10, 11, 12, 13, 25, 26, 27, 28, 29, 30, 31, 32, 33, 34, 35, 36, 37, 38, 39, 40, 41, 42, 43, 44, 45, 46, 47, 48, 49, 50, 51, 52, 53, 54, 55, 56, 57, 58, 59, 60] rfl, h.2.1.sub [0, 1, 2, 14, 15, 16, 17, 18, 19, 20, 21, 22, 23, 24, 3, 4, 5, 6, 7, 8, 9, 10, 11, 12, 13, 25, 26, 27, 28, 29, 30, 31, 32, 33, 34, 35, 36, 37, 38, 39, 40, 41, 42, 43, 44, 45, 46, 47, 48, 49, 50, 51, 52, 53, 54, 55, 56, 57, 58, 59, 60] (by decide) rfl, h.2.2⟩
set_option maxHeartbeats 4000000 in
theorem c_X8_road_pos (l : Launch) (D : va_G) (cI cZ : ClassId) (z : Nat) (ad : Nat → Nat) (σ τ : St) (h0_ : ¬ (F_X4_tellAll σ).1 < 0) : gM l yX8_road cX8_road 3 (some .int) 8 D cI cZ z (gws ad cI cZ σ τ) [.ref (ad 0)] (some (.int (F_X8_roadT (swS (F_X4_tellAll σ).2) (F_X4_tellAll σ).1).1)) (gws (swA ad) cI cZ (F_X8_roadT (swS (F_X4_tellAll σ).2) (F_X4_tellAll σ).1).2 τ) := by
  refine g_met (own := RX8) (by decide) rfl (Nat.le_of_ble_eq_true rfl) (fun p e s m below meth c ls Q E hr hlk h hl hQ => ?_)
  have hx := E.1
  have hb := E.2.1
  have hl : lv_has ls 3 [(0, .ref (ad 0))] := hl
  refine lv_aload_n hx hb dX8_road_0 rfl (lv_at hl 0 rfl) ?_
  refine g_get (v := .ref (ad 14)) E h 0 rfl rfl layX8 2 (by decide) rfl mw_204 rfl dX8_road_1 ?_
  refine lv_aload_n hx hb dX8_road_4 rfl (lv_at hl 0 rfl) ?_
  refine g_get (v := .ref (ad 1)) E h 0 rfl rfl layX8 0 (by decide) rfl mw_202 rfl dX8_road_5 ?_
  refine g_callVU (F_X4_tellAll σ) (fun u => gws ad cI cZ u τ) (rest := []) E h (c_X4_tellAll l D cI cZ z ad σ τ) mw_266 cbX4_tellAll 14 rfl rfl ⟨by decide, by decide⟩ rfl rfl hl.1 (Nat.le_of_ble_eq_true rfl) ⟨Nat.zero_le _, Nat.zero_le _⟩ dX8_road_8 (fun u hu H locs h => ?_)
  refine lv_istore_n (lv' := [(1, .int u.1), (0, .ref (ad 0))]) hx hb dX8_road_11 rfl hl (by decide) rfl (fun ls hl => ?_)
  refine lv_iload_n hx hb dX8_road_12 rfl (lv_at hl 0 rfl) ?_
  rw [hu] at h0_ hQ
  refine lv_if_ge (tgt := 18) hx hb dX8_road_13 (by decide) (fun c1 => ?_) (fun c1 => absurd (i_nlt h0_) (by have := i_nle c1; omega))
  refine lv_aload_n hx hb dX8_road_18 rfl (lv_at hl 1 rfl) ?_
  refine g_get (v := .ref (ad 3)) E h 0 rfl rfl layX8 1 (by decide) rfl mw_203 rfl dX8_road_19 ?_
  refine lv_astore_n (lv' := [(2, .ref (ad 3)), (1, .int u.1), (0, .ref (ad 0))]) hx hb dX8_road_22 rfl hl (by decide) rfl (fun ls hl => ?_)
  refine lv_aload_n hx hb dX8_road_23 rfl (lv_at hl 2 rfl) ?_
  refine lv_aload_n hx hb dX8_road_24 rfl (lv_at hl 2 rfl) ?_
  refine g_get (v := .ref (ad 14)) E h 0 rfl rfl layX8 2 (by decide) rfl mw_204 rfl dX8_road_25 ?_
  refine g_put (v := .ref (ad 14)) (ty := .object "WellKnots$Road") (ws' := (gws ad cI cZ u.2 τ).set 0 (ad 0, .inr (8, [.ref (ad 1), .ref (ad 14), .ref (ad 14), .ref (ad 25), .ref (ad 29), .ref (ad 33), .int (u.2.1 6), .ref (ad 37), .ref (ad 40), .ref (ad 43), .ref (ad 46), .long u.2.2.2]))) E h 0 rfl rfl layX8 tyX8 tyX8_ok nmX8 1 (by decide) rfl mw_203 rfl (by decide +kernel) rfl rfl (Nat.le_of_ble_eq_true rfl) rfl dX8_road_28 (fun H locs h => ?_)
  refine lv_aload_n hx hb dX8_road_31 rfl (lv_at hl 2 rfl) ?_
  refine lv_aload_n hx hb dX8_road_32 rfl (lv_at hl 0 rfl) ?_
  refine g_put (v := .ref (ad 3)) (ty := .object "WellKnots$Road") (ws' := (gws ad cI cZ u.2 τ).set 0 (ad 0, .inr (8, [.ref (ad 1), .ref (ad 14), .ref (ad 3), .ref (ad 25), .ref (ad 29), .ref (ad 33), .int (u.2.1 6), .ref (ad 37), .ref (ad 40), .ref (ad 43), .ref (ad 46), .long u.2.2.2]))) E h 0 rfl rfl layX8 tyX8 tyX8_ok nmX8 2 (by decide) rfl mw_204 rfl (by decide +kernel) rfl rfl (Nat.le_of_ble_eq_true rfl) rfl dX8_road_33 (fun H locs h => ?_)
  exact c_X8_roadT (swA ad) (swS u.2) τ u.1 E hr hlk (sw_gws ad u.2 τ h) (lv_sub hl [2, 1] rfl) hQ
