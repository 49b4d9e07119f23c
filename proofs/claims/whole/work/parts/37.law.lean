theorem law_self (x : Int64) : lg_cmp x x = 0 := by simp [lg_cmp]
def St_type (RR : St → St → Prop) : Prop := ∀ (σ τ : St) (a1 : Int32), RR σ τ → ((0 ≤ (σ.1 33).toInt)) ∧ ((0 ≤ (τ.1 1538).toInt ∧ (τ.1 1538).toInt ≤ 200)) ∧ (F_X8_type σ a1).1 = (F_X9_type τ a1).1 ∧ RR (F_X8_type σ a1).2 (F_X9_type τ a1).2
def St_clear (RR : St → St → Prop) : Prop := ∀ (σ τ : St), RR σ τ → (True) ∧ (True) ∧ (F_X8_clear σ).1 = (F_X9_clear τ).1 ∧ RR (F_X8_clear σ).2 (F_X9_clear τ).2
def St_stage (RR : St → St → Prop) : Prop := ∀ (σ τ : St) (a1 a2 : Int32), RR σ τ → (True) ∧ ((0 ≤ ((τ.2.1 50) 1).toInt ∧ ((τ.2.1 50) 1).toInt ≤ 8)) ∧ (F_X8_stage σ a1 a2) = (F_X9_stage τ a1 a2) ∧ RR σ τ
def St_caravan (RR : St → St → Prop) : Prop := ∀ (σ τ : St) (a1 a2 : Int32), RR σ τ → (True) ∧ ((0 ≤ ((τ.2.1 50) 2).toInt ∧ ((τ.2.1 50) 2).toInt ≤ 4)) ∧ (F_X8_caravan σ a1 a2) = (F_X9_caravan τ a1 a2) ∧ RR σ τ
def St_well (RR : St → St → Prop) : Prop := ∀ (σ τ : St) (a1 a2 : Int32), RR σ τ → (True) ∧ ((0 ≤ ((τ.2.1 50) 0).toInt ∧ ((τ.2.1 50) 0).toInt ≤ 6)) ∧ (F_X8_well σ a1 a2) = (F_X9_well τ a1 a2) ∧ RR σ τ
def St_knots (RR : St → St → Prop) : Prop := ∀ (σ τ : St) (a1 a2 : Int32), RR σ τ → (True) ∧ ((0 ≤ ((τ.2.1 50) 0).toInt ∧ ((τ.2.1 50) 0).toInt ≤ 6) ∧ (0 ≤ ((τ.2.1 50) 2).toInt ∧ ((τ.2.1 50) 2).toInt ≤ 4)) ∧ (F_X8_knots σ a1 a2) = (F_X9_knots τ a1 a2) ∧ RR σ τ
def St_dues (RR : St → St → Prop) : Prop := ∀ (σ τ : St) (a1 a2 : Int32), RR σ τ → (True) ∧ ((0 ≤ ((τ.2.1 50) 0).toInt ∧ ((τ.2.1 50) 0).toInt ≤ 6)) ∧ (F_X8_dues σ a1 a2) = (F_X9_dues τ a1 a2) ∧ RR σ τ
def St_goes (RR : St → St → Prop) : Prop := ∀ (σ τ : St) (a1 a2 a3 : Int32), RR σ τ → ((0 ≤ (σ.1 802).toInt ∧ (σ.1 802).toInt ≤ 10)) ∧ ((0 ≤ ((τ.2.1 50) 1).toInt ∧ ((τ.2.1 50) 1).toInt ≤ 8) ∧ (0 ≤ ((τ.2.1 50) 2).toInt ∧ ((τ.2.1 50) 2).toInt ≤ 4) ∧ (0 ≤ ((τ.2.1 53) 74).toInt ∧ ((τ.2.1 53) 74).toInt ≤ 10) ∧ (∀ x : Int32, 0 ≤ x.toInt → x.toInt < 8 → 0 ≤ ((τ.2.1 50) ((42 : Int32) + x).toNatClampNeg).toInt ∧ ((τ.2.1 50) ((42 : Int32) + x).toNatClampNeg).toInt ≤ 5)) ∧ (F_X8_goes σ a1 a2 a3).1 = (F_X9_goes τ a1 a2 a3).1 ∧ RR (F_X8_goes σ a1 a2 a3).2 (F_X9_goes τ a1 a2 a3).2
def St_drinks (RR : St → St → Prop) : Prop := ∀ (σ τ : St) (a1 a2 : Int32), RR σ τ → ((0 ≤ (σ.1 802).toInt ∧ (σ.1 802).toInt ≤ 10)) ∧ ((0 ≤ ((τ.2.1 50) 2).toInt ∧ ((τ.2.1 50) 2).toInt ≤ 4) ∧ (0 ≤ ((τ.2.1 53) 74).toInt ∧ ((τ.2.1 53) 74).toInt ≤ 10) ∧ (∀ x : Int32, 0 ≤ x.toInt → x.toInt < 4 → 0 ≤ ((τ.2.1 53) x.toNatClampNeg).toInt ∧ ((τ.2.1 53) x.toNatClampNeg).toInt ≤ 5)) ∧ (F_X8_drinks σ a1 a2).1 = (F_X9_drinks τ a1 a2).1 ∧ RR (F_X8_drinks σ a1 a2).2 (F_X9_drinks τ a1 a2).2
def St_fills (RR : St → St → Prop) : Prop := ∀ (σ τ : St) (a1 a2 : Int32), RR σ τ → ((0 ≤ (σ.1 802).toInt ∧ (σ.1 802).toInt ≤ 10)) ∧ ((0 ≤ ((τ.2.1 50) 2).toInt ∧ ((τ.2.1 50) 2).toInt ≤ 4) ∧ (0 ≤ ((τ.2.1 53) 74).toInt ∧ ((τ.2.1 53) 74).toInt ≤ 10) ∧ (∀ x : Int32, 0 ≤ x.toInt → x.toInt < 4 → 0 ≤ ((τ.2.1 53) x.toNatClampNeg).toInt ∧ ((τ.2.1 53) x.toNatClampNeg).toInt ≤ 5)) ∧ (F_X8_fills σ a1 a2).1 = (F_X9_fills τ a1 a2).1 ∧ RR (F_X8_fills σ a1 a2).2 (F_X9_fills τ a1 a2).2
def St_hands (RR : St → St → Prop) : Prop := ∀ (σ τ : St) (a1 a2 a3 a4 : Int32), RR σ τ → ((0 ≤ (σ.1 802).toInt ∧ (σ.1 802).toInt ≤ 10)) ∧ ((0 ≤ ((τ.2.1 50) 0).toInt ∧ ((τ.2.1 50) 0).toInt ≤ 6) ∧ (0 ≤ ((τ.2.1 50) 2).toInt ∧ ((τ.2.1 50) 2).toInt ≤ 4) ∧ (0 ≤ ((τ.2.1 53) 74).toInt ∧ ((τ.2.1 53) 74).toInt ≤ 10)) ∧ (F_X8_hands σ a1 a2 a3 a4).1 = (F_X9_hands τ a1 a2 a3 a4).1 ∧ RR (F_X8_hands σ a1 a2 a3 a4).2 (F_X9_hands τ a1 a2 a3 a4).2
def St_strikes (RR : St → St → Prop) : Prop := ∀ (σ τ : St), RR σ τ → ((0 ≤ (σ.1 802).toInt ∧ (σ.1 802).toInt ≤ 10) ∧ ((σ.1 96).toInt ≤ 6) ∧ (((F_X3_find σ (σ.1 96)).1 1282).toInt ≤ 6)) ∧ ((0 ≤ ((τ.2.1 50) 0).toInt ∧ ((τ.2.1 50) 0).toInt ≤ 6) ∧ (WK τ) ∧ (0 ≤ ((τ.2.1 53) 74).toInt ∧ ((τ.2.1 53) 74).toInt ≤ 10) ∧ (BK (F_X9_rings τ))) ∧ (F_X8_strikes σ).1 = (F_X9_strikes τ).1 ∧ RR (F_X8_strikes σ).2 (F_X9_strikes τ).2
def St_undo (RR : St → St → Prop) : Prop := ∀ (σ τ : St), RR σ τ → ((0 ≤ (σ.1 802).toInt ∧ (σ.1 802).toInt ≤ 10)) ∧ ((0 ≤ ((τ.2.1 53) 74).toInt ∧ ((τ.2.1 53) 74).toInt ≤ 10)) ∧ (F_X8_undo σ).1 = (F_X9_undo τ).1 ∧ RR (F_X8_undo σ).2 (F_X9_undo τ).2
def St_now (RR : St → St → Prop) : Prop := ∀ (σ τ : St) (a1 : Int32), RR σ τ → ((0 ≤ (σ.1 96).toInt ∧ (σ.1 96).toInt ≤ 6) ∧ ((σ.1 97).toInt ≤ 8)) ∧ ((0 ≤ ((τ.2.1 50) 0).toInt ∧ ((τ.2.1 50) 0).toInt ≤ 6) ∧ (0 ≤ ((τ.2.1 50) 1).toInt ∧ ((τ.2.1 50) 1).toInt ≤ 8)) ∧ (F_X8_now σ a1).1 = (F_X9_now τ a1).1 ∧ RR (F_X8_now σ a1).2 (F_X9_now τ a1).2
def St_pass (RR : St → St → Prop) : Prop := ∀ (σ τ : St) (a1 a2 a3 : Int32), RR σ τ → (((σ.1 96).toInt ≤ 6) ∧ ((σ.1 97).toInt ≤ 8)) ∧ ((0 ≤ ((τ.2.1 50) 0).toInt ∧ ((τ.2.1 50) 0).toInt ≤ 6) ∧ (0 ≤ ((τ.2.1 50) 1).toInt ∧ ((τ.2.1 50) 1).toInt ≤ 8) ∧ (0 ≤ ((τ.2.1 50) 2).toInt ∧ ((τ.2.1 50) 2).toInt ≤ 4) ∧ (∀ x : Int32, 0 ≤ x.toInt → x.toInt < 4 → 0 ≤ ((τ.2.1 53) x.toNatClampNeg).toInt ∧ ((τ.2.1 53) x.toNatClampNeg).toInt ≤ 5) ∧ (∀ x : Int32, 0 ≤ x.toInt → x.toInt < 8 → 0 ≤ ((τ.2.1 50) ((10 : Int32) + x).toNatClampNeg).toInt ∧ ((τ.2.1 50) ((10 : Int32) + x).toNatClampNeg).toInt ≤ 5) ∧ (∀ x : Int32, 0 ≤ x.toInt → x.toInt < 8 → 0 ≤ ((τ.2.1 50) ((18 : Int32) + x).toNatClampNeg).toInt ∧ ((τ.2.1 50) ((18 : Int32) + x).toNatClampNeg).toInt ≤ 5)) ∧ (F_X8_pass σ a1 a2 a3).1 = (F_X9_pass τ a1 a2 a3).1 ∧ RR (F_X8_pass σ a1 a2 a3).2 (F_X9_pass τ a1 a2 a3).2
def St_ring (RR : St → St → Prop) : Prop := ∀ (σ τ : St) (a1 : Int32), RR σ τ → (((σ.1 96).toInt ≤ 6)) ∧ ((0 ≤ ((τ.2.1 50) 0).toInt ∧ ((τ.2.1 50) 0).toInt ≤ 6) ∧ (WK τ) ∧ (BK (F_X9_rings τ))) ∧ (F_X8_ring σ a1).1 = (F_X9_ring τ a1).1 ∧ RR (F_X8_ring σ a1).2 (F_X9_ring τ a1).2
def St_safe (RR : St → St → Prop) : Prop := ∀ (σ τ : St) (a1 a2 a3 a4 a5 a6 : Int32), RR σ τ → (True) ∧ ((0 ≤ ((τ.2.1 50) 2).toInt ∧ ((τ.2.1 50) 2).toInt ≤ 4)) ∧ (F_X8_safe σ a1 a2 a3 a4 a5 a6) = (F_X9_safe τ a1 a2 a3 a4 a5 a6) ∧ RR σ τ
def St_hears (RR : St → St → Prop) : Prop := ∀ (σ τ : St) (a1 a2 a3 a4 : Int32), RR σ τ → ((0 ≤ (σ.1 1186).toInt)) ∧ ((0 ≤ ((τ.2.1 50) 1).toInt ∧ ((τ.2.1 50) 1).toInt ≤ 8) ∧ (0 ≤ ((τ.2.1 50) 2).toInt ∧ ((τ.2.1 50) 2).toInt ≤ 4) ∧ (0 ≤ (τ.1 1546).toInt ∧ (τ.1 1546).toInt ≤ 6)) ∧ (F_X8_hears σ a1 a2 a3 a4).1 = (F_X9_hears τ a1 a2 a3 a4).1 ∧ RR (F_X8_hears σ a1 a2 a3 a4).2 (F_X9_hears τ a1 a2 a3 a4).2
def St_forget (RR : St → St → Prop) : Prop := ∀ (σ τ : St), RR σ τ → (True) ∧ (True) ∧ (F_X8_forget σ).1 = (F_X9_forget τ).1 ∧ RR (F_X8_forget σ).2 (F_X9_forget τ).2
def St_stones (RR : St → St → Prop) : Prop := ∀ (σ τ : St) (a1 : Int32), RR σ τ → (True) ∧ ((0 ≤ (τ.1 1546).toInt ∧ (τ.1 1546).toInt ≤ 6)) ∧ (F_X8_stones σ a1) = (F_X9_stones τ a1) ∧ RR σ τ
def St_mark (RR : St → St → Prop) : Prop := ∀ (σ τ : St) (a1 a2 : Int32), RR σ τ → (((σ.1 97).toInt ≤ 8)) ∧ ((0 ≤ ((τ.2.1 50) 0).toInt ∧ ((τ.2.1 50) 0).toInt ≤ 6) ∧ (0 ≤ ((τ.2.1 50) 1).toInt ∧ ((τ.2.1 50) 1).toInt ≤ 8)) ∧ (F_X8_mark σ a1 a2).1 = (F_X9_mark τ a1 a2).1 ∧ RR (F_X8_mark σ a1 a2).2 (F_X9_mark τ a1 a2).2
def St_keep (RR : St → St → Prop) : Prop := ∀ (σ τ : St) (a1 : Int32), RR σ τ → (True) ∧ (True) ∧ (F_X8_keep σ a1).1 = (F_X9_keep τ a1).1 ∧ RR (F_X8_keep σ a1).2 (F_X9_keep τ a1).2
def St_back (RR : St → St → Prop) : Prop := ∀ (σ τ : St) (a1 : Int32), RR σ τ → (True) ∧ (True) ∧ (F_X8_back σ a1).1 = (F_X9_back τ a1).1 ∧ RR (F_X8_back σ a1).2 (F_X9_back τ a1).2
def St_count (RR : St → St → Prop) : Prop := ∀ (σ τ : St) (a1 : Int32), RR σ τ → (True) ∧ (True) ∧ (F_X8_count σ a1) = (F_X9_count τ a1) ∧ RR σ τ
def St_trace (RR : St → St → Prop) : Prop := ∀ (σ τ : St), RR σ τ → (True) ∧ (True) ∧ (F_X8_trace σ) = (F_X9_trace τ) ∧ RR σ τ
def St_road (RR : St → St → Prop) : Prop := ∀ (σ τ : St), RR σ τ → ((0 ≤ (τ.1 1538).toInt ∧ (τ.1 1538).toInt ≤ 200)) ∧ ((F_X4_tellAll σ).1 < 0 → (F_X4_tellAll σ).1 = (F_X9_road τ).1 ∧ RR (F_X4_tellAll σ).2 (F_X9_road τ).2) ∧ (¬ (F_X4_tellAll σ).1 < 0 → (F_X8_roadT (swS (F_X4_tellAll σ).2) (F_X4_tellAll σ).1).1 = (F_X9_road τ).1 ∧ RR (F_X8_roadT (swS (F_X4_tellAll σ).2) (F_X4_tellAll σ).1).2 (F_X9_road τ).2)
set_option maxHeartbeats 4000000 in
theorem law_type {p : Program} {l : Launch} {e : Env} {s : State} {m : MethodId} {below : List Frame} {meth : Method} {c : Code} {H : Heap} {locs : List Loc} {Q : State → Prop} {D : va_G} {cI cZ : ClassId} {b L : Nat} {xs : Nat → Int32} {ls : Array Slot} (RR : St → St → Prop) (hst : St_type RR) (E : gE p s m #[Value.ref b] c cL_law 4 RL D cI cZ s.heap.size) (hX : va_X b L xs s s.heap) (hbl : b < s.heap.size) (hL : L ≤ 448) (x3 : Int32) (hi : 0 ≤ x3.toInt ∧ x3.toInt + 7 ≤ L) (ad : Nat → Nat) (σ τ : St) (hR : RR σ τ) (h : gH D s.heap.size s (gws ad cI cZ σ τ) H locs) (hl : lv_has ls 4 [(3, .int x3), (2, .ref (ad 48)), (1, .ref (ad 0)), (0, .ref b)]) (kk : ∀ (ad : Nat → Nat) (σ τ : St) (H : Heap) (locs : List Loc) (ls : Array Slot), RR σ τ → gH D s.heap.size s (gws ad cI cZ σ τ) H locs → lv_has ls 4 [(3, .int x3), (2, .ref (ad 48)), (1, .ref (ad 0)), (0, .ref b)] → W p l e room_1 s m #[Value.ref b] below meth c H locs 600000 7302250 Q (F0 m 923 ls [])) : W p l e room_1 s m #[Value.ref b] below meth c H locs 600000 7302250 Q (F0 m 152 ls []) := by
  have hx := E.1
  have hb := E.2.1
  have hbA : ¬ (gA s.heap.size) b := Nat.not_le.mpr hbl
  obtain ⟨hp, hq, he, hR2⟩ := hst σ τ (xs (x3 + (1 : Int32)).toNatClampNeg) hR
  refine lv_aload_n hx hb dL_law_152 rfl (lv_at hl 2 rfl) ?_
  refine lv_aload_n hx hb dL_law_153 rfl (lv_at hl 3 rfl) ?_
  refine lv_iload_n hx hb dL_law_154 rfl (lv_at hl 0 rfl) ?_
  refine lv_iconst (v := 1) hx hb dL_law_155 (by decide) ?_
  refine lv_iadd hx hb dL_law_156 ?_
  refine va_sld hx hb hX hbl hbA h.2.2 (ix_of (oI_add (oI_at x3) (oI_lit (x := 1) (a := 1) rfl)) (by omega) (by omega)) dL_law_157 ?_
  refine g_callVU (F_X8_type σ (xs (x3 + (1 : Int32)).toNatClampNeg)) (fun y => gws ad cI cZ y τ) (rest := []) E h (c_X8_type l D cI cZ s.heap.size ad σ τ (xs (x3 + (1 : Int32)).toNatClampNeg) hp) mw_239 cbX8_type 0 rfl rfl ⟨by decide, by decide⟩ rfl rfl hl.1 (Nat.le_of_ble_eq_true rfl) ⟨by decide, by decide⟩ dL_law_158 (fun u huu H locs h => ?_)
  refine lv_aload_n hx hb dL_law_161 rfl (lv_at hl 1 rfl) ?_
  refine lv_aload_n hx hb dL_law_162 rfl (lv_at hl 3 rfl) ?_
  refine lv_iload_n hx hb dL_law_163 rfl (lv_at hl 0 rfl) ?_
  refine lv_iconst (v := 1) hx hb dL_law_164 (by decide) ?_
  refine lv_iadd hx hb dL_law_165 ?_
  refine va_sld hx hb hX hbl hbA h.2.2 (ix_of (oI_add (oI_at x3) (oI_lit (x := 1) (a := 1) rfl)) (by omega) (by omega)) dL_law_166 ?_
  refine g_callVU (F_X9_type τ (xs (x3 + (1 : Int32)).toNatClampNeg)) (fun y => gws ad cI cZ u.2 y) (rest := [.int u.1]) E h (c_X9_type l D cI cZ s.heap.size ad u.2 τ (xs (x3 + (1 : Int32)).toNatClampNeg) hq) mw_883 cbX9_type 48 rfl rfl ⟨by decide, by decide⟩ rfl rfl hl.1 (Nat.le_of_ble_eq_true rfl) ⟨by decide, by decide⟩ dL_law_167 (fun w huw H locs h => ?_)
  rw [huu] at he
  rw [huw] at he
  rw [huu] at hR2
  rw [huw] at hR2
  refine lv_icmp_eq (tgt := 923) hx hb dL_law_170 (by decide) (fun c1 => ?_) (fun c1 => absurd he c1)
  exact kk ad _ _ _ _ ls hR2 h hl

set_option maxHeartbeats 4000000 in
theorem law_clear {p : Program} {l : Launch} {e : Env} {s : State} {m : MethodId} {below : List Frame} {meth : Method} {c : Code} {H : Heap} {locs : List Loc} {Q : State → Prop} {D : va_G} {cI cZ : ClassId} {b L : Nat} {xs : Nat → Int32} {ls : Array Slot} (RR : St → St → Prop) (hst : St_clear RR) (E : gE p s m #[Value.ref b] c cL_law 4 RL D cI cZ s.heap.size) (hX : va_X b L xs s s.heap) (hbl : b < s.heap.size) (hL : L ≤ 448) (x3 : Int32) (hi : 0 ≤ x3.toInt ∧ x3.toInt + 7 ≤ L) (ad : Nat → Nat) (σ τ : St) (hR : RR σ τ) (h : gH D s.heap.size s (gws ad cI cZ σ τ) H locs) (hl : lv_has ls 4 [(3, .int x3), (2, .ref (ad 48)), (1, .ref (ad 0)), (0, .ref b)]) (kk : ∀ (ad : Nat → Nat) (σ τ : St) (H : Heap) (locs : List Loc) (ls : Array Slot), RR σ τ → gH D s.heap.size s (gws ad cI cZ σ τ) H locs → lv_has ls 4 [(3, .int x3), (2, .ref (ad 48)), (1, .ref (ad 0)), (0, .ref b)] → W p l e room_1 s m #[Value.ref b] below meth c H locs 600000 7302250 Q (F0 m 923 ls [])) : W p l e room_1 s m #[Value.ref b] below meth c H locs 600000 7302250 Q (F0 m 175 ls []) := by
  have hx := E.1
  have hb := E.2.1
  have hbA : ¬ (gA s.heap.size) b := Nat.not_le.mpr hbl
  obtain ⟨hp, hq, he, hR2⟩ := hst σ τ  hR
  refine lv_aload_n hx hb dL_law_175 rfl (lv_at hl 2 rfl) ?_
  refine g_callVU (F_X8_clear σ) (fun y => gws ad cI cZ y τ) (rest := []) E h (c_X8_clear l D cI cZ s.heap.size ad σ τ) mw_254 cbX8_clear 0 rfl rfl ⟨by decide, by decide⟩ rfl rfl hl.1 (Nat.le_of_ble_eq_true rfl) ⟨by decide, by decide⟩ dL_law_176 (fun u huu H locs h => ?_)
  refine lv_aload_n hx hb dL_law_179 rfl (lv_at hl 1 rfl) ?_
  refine g_callVU (F_X9_clear τ) (fun y => gws ad cI cZ u.2 y) (rest := [.int u.1]) E h (c_X9_clear l D cI cZ s.heap.size ad u.2 τ) mw_887 cbX9_clear 48 rfl rfl ⟨by decide, by decide⟩ rfl rfl hl.1 (Nat.le_of_ble_eq_true rfl) ⟨by decide, by decide⟩ dL_law_180 (fun w huw H locs h => ?_)
  rw [huu] at he
  rw [huw] at he
  rw [huu] at hR2
  rw [huw] at hR2
  refine lv_icmp_eq (tgt := 923) hx hb dL_law_183 (by decide) (fun c1 => ?_) (fun c1 => absurd he c1)
  exact kk ad _ _ _ _ ls hR2 h hl

set_option maxHeartbeats 4000000 in
theorem law_road {p : Program} {l : Launch} {e : Env} {s : State} {m : MethodId} {below : List Frame} {meth : Method} {c : Code} {H : Heap} {locs : List Loc} {Q : State → Prop} {D : va_G} {cI cZ : ClassId} {b L : Nat} {xs : Nat → Int32} {ls : Array Slot} (RR : St → St → Prop) (hst : St_road RR) (E : gE p s m #[Value.ref b] c cL_law 4 RL D cI cZ s.heap.size) (hX : va_X b L xs s s.heap) (hbl : b < s.heap.size) (hL : L ≤ 448) (x3 : Int32) (hi : 0 ≤ x3.toInt ∧ x3.toInt + 7 ≤ L) (ad : Nat → Nat) (σ τ : St) (hR : RR σ τ) (h : gH D s.heap.size s (gws ad cI cZ σ τ) H locs) (hl : lv_has ls 4 [(3, .int x3), (2, .ref (ad 48)), (1, .ref (ad 0)), (0, .ref b)]) (kk : ∀ (ad : Nat → Nat) (σ τ : St) (H : Heap) (locs : List Loc) (ls : Array Slot), RR σ τ → gH D s.heap.size s (gws ad cI cZ σ τ) H locs → lv_has ls 4 [(3, .int x3), (2, .ref (ad 48)), (1, .ref (ad 0)), (0, .ref b)] → W p l e room_1 s m #[Value.ref b] below meth c H locs 600000 7302250 Q (F0 m 923 ls [])) : W p l e room_1 s m #[Value.ref b] below meth c H locs 600000 7302250 Q (F0 m 188 ls []) := by
  have hx := E.1
  have hb := E.2.1
  have hbA : ¬ (gA s.heap.size) b := Nat.not_le.mpr hbl
  obtain ⟨hq, h1, h2⟩ := hst σ τ hR
  refine lv_aload_n hx hb dL_law_188 rfl (lv_at hl 2 rfl) ?_
  by_cases hn : (F_X4_tellAll σ).1 < 0
  · obtain ⟨he, hR2⟩ := h1 hn
    refine g_callVU (F_X4_tellAll σ) (fun u => gws ad cI cZ u τ) (rest := []) E h (c_X8_road_neg l D cI cZ s.heap.size ad σ τ hn) mw_262 cbX8_road 0 rfl rfl ⟨by decide, by decide⟩ rfl rfl hl.1 (Nat.le_of_ble_eq_true rfl) ⟨by decide, by decide⟩ dL_law_189 (fun u huu H locs h => ?_)
    refine lv_aload_n hx hb dL_law_192 rfl (lv_at hl 1 rfl) ?_
    refine g_callVU (F_X9_road τ) (fun y => gws ad cI cZ u.2 y) (rest := [.int u.1]) E h (c_X9_road l D cI cZ s.heap.size ad u.2 τ hq) mw_891 cbX9_road 48 rfl rfl ⟨by decide, by decide⟩ rfl rfl hl.1 (Nat.le_of_ble_eq_true rfl) ⟨by decide, by decide⟩ dL_law_193 (fun w huw H locs h => ?_)
    rw [huu, huw] at he hR2
    refine lv_icmp_eq (tgt := 923) hx hb dL_law_196 (by decide) (fun c1 => ?_) (fun c1 => absurd he c1)
    exact kk ad _ _ _ _ ls hR2 h hl
  · obtain ⟨he, hR2⟩ := h2 hn
    refine g_callVU (F_X8_roadT (swS (F_X4_tellAll σ).2) (F_X4_tellAll σ).1) (fun u => gws (swA ad) cI cZ u τ) (rest := []) E h (c_X8_road_pos l D cI cZ s.heap.size ad σ τ hn) mw_262 cbX8_road 0 rfl rfl ⟨by decide, by decide⟩ rfl rfl hl.1 (Nat.le_of_ble_eq_true rfl) ⟨by decide, by decide⟩ dL_law_189 (fun u huu H locs h => ?_)
    have hl : lv_has ls 4 [(3, .int x3), (2, .ref (swA ad 48)), (1, .ref (swA ad 0)), (0, .ref b)] := hl
    refine lv_aload_n hx hb dL_law_192 rfl (lv_at hl 1 rfl) ?_
    refine g_callVU (F_X9_road τ) (fun y => gws (swA ad) cI cZ u.2 y) (rest := [.int u.1]) E h (c_X9_road l D cI cZ s.heap.size (swA ad) u.2 τ hq) mw_891 cbX9_road 48 rfl rfl ⟨by decide, by decide⟩ rfl rfl hl.1 (Nat.le_of_ble_eq_true rfl) ⟨by decide, by decide⟩ dL_law_193 (fun w huw H locs h => ?_)
    rw [huu, huw] at he hR2
    refine lv_icmp_eq (tgt := 923) hx hb dL_law_196 (by decide) (fun c1 => ?_) (fun c1 => absurd he c1)
    exact kk (swA ad) _ _ _ _ ls hR2 h hl

set_option maxHeartbeats 4000000 in
theorem law_stage {p : Program} {l : Launch} {e : Env} {s : State} {m : MethodId} {below : List Frame} {meth : Method} {c : Code} {H : Heap} {locs : List Loc} {Q : State → Prop} {D : va_G} {cI cZ : ClassId} {b L : Nat} {xs : Nat → Int32} {ls : Array Slot} (RR : St → St → Prop) (hst : St_stage RR) (E : gE p s m #[Value.ref b] c cL_law 4 RL D cI cZ s.heap.size) (hX : va_X b L xs s s.heap) (hbl : b < s.heap.size) (hL : L ≤ 448) (x3 : Int32) (hi : 0 ≤ x3.toInt ∧ x3.toInt + 7 ≤ L) (ad : Nat → Nat) (σ τ : St) (hR : RR σ τ) (h : gH D s.heap.size s (gws ad cI cZ σ τ) H locs) (hl : lv_has ls 4 [(3, .int x3), (2, .ref (ad 48)), (1, .ref (ad 0)), (0, .ref b)]) (kk : ∀ (ad : Nat → Nat) (σ τ : St) (H : Heap) (locs : List Loc) (ls : Array Slot), RR σ τ → gH D s.heap.size s (gws ad cI cZ σ τ) H locs → lv_has ls 4 [(3, .int x3), (2, .ref (ad 48)), (1, .ref (ad 0)), (0, .ref b)] → W p l e room_1 s m #[Value.ref b] below meth c H locs 600000 7302250 Q (F0 m 923 ls [])) : W p l e room_1 s m #[Value.ref b] below meth c H locs 600000 7302250 Q (F0 m 201 ls []) := by
  have hx := E.1
  have hb := E.2.1
  have hbA : ¬ (gA s.heap.size) b := Nat.not_le.mpr hbl
  obtain ⟨hp, hq, he, hR2⟩ := hst σ τ (xs (x3 + (1 : Int32)).toNatClampNeg) (xs (x3 + (2 : Int32)).toNatClampNeg) hR
  refine lv_aload_n hx hb dL_law_201 rfl (lv_at hl 2 rfl) ?_
  refine lv_aload_n hx hb dL_law_202 rfl (lv_at hl 3 rfl) ?_
  refine lv_iload_n hx hb dL_law_203 rfl (lv_at hl 0 rfl) ?_
  refine lv_iconst (v := 1) hx hb dL_law_204 (by decide) ?_
  refine lv_iadd hx hb dL_law_205 ?_
  refine va_sld hx hb hX hbl hbA h.2.2 (ix_of (oI_add (oI_at x3) (oI_lit (x := 1) (a := 1) rfl)) (by omega) (by omega)) dL_law_206 ?_
  refine lv_aload_n hx hb dL_law_207 rfl (lv_at hl 3 rfl) ?_
  refine lv_iload_n hx hb dL_law_208 rfl (lv_at hl 0 rfl) ?_
  refine lv_iconst (v := 2) hx hb dL_law_209 (by decide) ?_
  refine lv_iadd hx hb dL_law_210 ?_
  refine va_sld hx hb hX hbl hbA h.2.2 (ix_of (oI_add (oI_at x3) (oI_lit (x := 2) (a := 2) rfl)) (by omega) (by omega)) dL_law_211 ?_
  refine g_callVh (F_X8_stage σ (xs (x3 + (1 : Int32)).toNatClampNeg) (xs (x3 + (2 : Int32)).toNatClampNeg)) (rest := []) E h (c_X8_stage l D cI cZ s.heap.size ad σ τ (xs (x3 + (1 : Int32)).toNatClampNeg) (xs (x3 + (2 : Int32)).toNatClampNeg)) mw_384 cbX8_stage 0 rfl rfl ⟨by decide, by decide⟩ rfl rfl hl.1 (Nat.le_of_ble_eq_true rfl) ⟨by decide, by decide⟩ dL_law_212 (fun u huu H locs h => ?_)
  refine lv_aload_n hx hb dL_law_215 rfl (lv_at hl 1 rfl) ?_
  refine lv_aload_n hx hb dL_law_216 rfl (lv_at hl 3 rfl) ?_
  refine lv_iload_n hx hb dL_law_217 rfl (lv_at hl 0 rfl) ?_
  refine lv_iconst (v := 1) hx hb dL_law_218 (by decide) ?_
  refine lv_iadd hx hb dL_law_219 ?_
  refine va_sld hx hb hX hbl hbA h.2.2 (ix_of (oI_add (oI_at x3) (oI_lit (x := 1) (a := 1) rfl)) (by omega) (by omega)) dL_law_220 ?_
  refine lv_aload_n hx hb dL_law_221 rfl (lv_at hl 3 rfl) ?_
  refine lv_iload_n hx hb dL_law_222 rfl (lv_at hl 0 rfl) ?_
  refine lv_iconst (v := 2) hx hb dL_law_223 (by decide) ?_
  refine lv_iadd hx hb dL_law_224 ?_
  refine va_sld hx hb hX hbl hbA h.2.2 (ix_of (oI_add (oI_at x3) (oI_lit (x := 2) (a := 2) rfl)) (by omega) (by omega)) dL_law_225 ?_
  refine g_callVh (F_X9_stage τ (xs (x3 + (1 : Int32)).toNatClampNeg) (xs (x3 + (2 : Int32)).toNatClampNeg)) (rest := [.int u]) E h (c_X9_stage l D cI cZ s.heap.size ad σ τ (xs (x3 + (1 : Int32)).toNatClampNeg) (xs (x3 + (2 : Int32)).toNatClampNeg) hq) mw_895 cbX9_stage 48 rfl rfl ⟨by decide, by decide⟩ rfl rfl hl.1 (Nat.le_of_ble_eq_true rfl) ⟨by decide, by decide⟩ dL_law_226 (fun w huw H locs h => ?_)
  rw [huu] at he
  rw [huw] at he
  refine lv_icmp_eq (tgt := 923) hx hb dL_law_229 (by decide) (fun c1 => ?_) (fun c1 => absurd he c1)
  exact kk ad _ _ _ _ ls hR2 h hl

set_option maxHeartbeats 4000000 in
theorem law_caravan {p : Program} {l : Launch} {e : Env} {s : State} {m : MethodId} {below : List Frame} {meth : Method} {c : Code} {H : Heap} {locs : List Loc} {Q : State → Prop} {D : va_G} {cI cZ : ClassId} {b L : Nat} {xs : Nat → Int32} {ls : Array Slot} (RR : St → St → Prop) (hst : St_caravan RR) (E : gE p s m #[Value.ref b] c cL_law 4 RL D cI cZ s.heap.size) (hX : va_X b L xs s s.heap) (hbl : b < s.heap.size) (hL : L ≤ 448) (x3 : Int32) (hi : 0 ≤ x3.toInt ∧ x3.toInt + 7 ≤ L) (ad : Nat → Nat) (σ τ : St) (hR : RR σ τ) (h : gH D s.heap.size s (gws ad cI cZ σ τ) H locs) (hl : lv_has ls 4 [(3, .int x3), (2, .ref (ad 48)), (1, .ref (ad 0)), (0, .ref b)]) (kk : ∀ (ad : Nat → Nat) (σ τ : St) (H : Heap) (locs : List Loc) (ls : Array Slot), RR σ τ → gH D s.heap.size s (gws ad cI cZ σ τ) H locs → lv_has ls 4 [(3, .int x3), (2, .ref (ad 48)), (1, .ref (ad 0)), (0, .ref b)] → W p l e room_1 s m #[Value.ref b] below meth c H locs 600000 7302250 Q (F0 m 923 ls [])) : W p l e room_1 s m #[Value.ref b] below meth c H locs 600000 7302250 Q (F0 m 234 ls []) := by
  have hx := E.1
  have hb := E.2.1
  have hbA : ¬ (gA s.heap.size) b := Nat.not_le.mpr hbl
  obtain ⟨hp, hq, he, hR2⟩ := hst σ τ (xs (x3 + (1 : Int32)).toNatClampNeg) (xs (x3 + (2 : Int32)).toNatClampNeg) hR
  refine lv_aload_n hx hb dL_law_234 rfl (lv_at hl 2 rfl) ?_
  refine lv_aload_n hx hb dL_law_235 rfl (lv_at hl 3 rfl) ?_
  refine lv_iload_n hx hb dL_law_236 rfl (lv_at hl 0 rfl) ?_
  refine lv_iconst (v := 1) hx hb dL_law_237 (by decide) ?_
  refine lv_iadd hx hb dL_law_238 ?_
  refine va_sld hx hb hX hbl hbA h.2.2 (ix_of (oI_add (oI_at x3) (oI_lit (x := 1) (a := 1) rfl)) (by omega) (by omega)) dL_law_239 ?_
  refine lv_aload_n hx hb dL_law_240 rfl (lv_at hl 3 rfl) ?_
  refine lv_iload_n hx hb dL_law_241 rfl (lv_at hl 0 rfl) ?_
  refine lv_iconst (v := 2) hx hb dL_law_242 (by decide) ?_
  refine lv_iadd hx hb dL_law_243 ?_
  refine va_sld hx hb hX hbl hbA h.2.2 (ix_of (oI_add (oI_at x3) (oI_lit (x := 2) (a := 2) rfl)) (by omega) (by omega)) dL_law_244 ?_
  refine g_callVh (F_X8_caravan σ (xs (x3 + (1 : Int32)).toNatClampNeg) (xs (x3 + (2 : Int32)).toNatClampNeg)) (rest := []) E h (c_X8_caravan l D cI cZ s.heap.size ad σ τ (xs (x3 + (1 : Int32)).toNatClampNeg) (xs (x3 + (2 : Int32)).toNatClampNeg)) mw_413 cbX8_caravan 0 rfl rfl ⟨by decide, by decide⟩ rfl rfl hl.1 (Nat.le_of_ble_eq_true rfl) ⟨by decide, by decide⟩ dL_law_245 (fun u huu H locs h => ?_)
  refine lv_aload_n hx hb dL_law_248 rfl (lv_at hl 1 rfl) ?_
  refine lv_aload_n hx hb dL_law_249 rfl (lv_at hl 3 rfl) ?_
  refine lv_iload_n hx hb dL_law_250 rfl (lv_at hl 0 rfl) ?_
  refine lv_iconst (v := 1) hx hb dL_law_251 (by decide) ?_
  refine lv_iadd hx hb dL_law_252 ?_
  refine va_sld hx hb hX hbl hbA h.2.2 (ix_of (oI_add (oI_at x3) (oI_lit (x := 1) (a := 1) rfl)) (by omega) (by omega)) dL_law_253 ?_
  refine lv_aload_n hx hb dL_law_254 rfl (lv_at hl 3 rfl) ?_
  refine lv_iload_n hx hb dL_law_255 rfl (lv_at hl 0 rfl) ?_
  refine lv_iconst (v := 2) hx hb dL_law_256 (by decide) ?_
  refine lv_iadd hx hb dL_law_257 ?_
  refine va_sld hx hb hX hbl hbA h.2.2 (ix_of (oI_add (oI_at x3) (oI_lit (x := 2) (a := 2) rfl)) (by omega) (by omega)) dL_law_258 ?_
  refine g_callVh (F_X9_caravan τ (xs (x3 + (1 : Int32)).toNatClampNeg) (xs (x3 + (2 : Int32)).toNatClampNeg)) (rest := [.int u]) E h (c_X9_caravan l D cI cZ s.heap.size ad σ τ (xs (x3 + (1 : Int32)).toNatClampNeg) (xs (x3 + (2 : Int32)).toNatClampNeg) hq) mw_903 cbX9_caravan 48 rfl rfl ⟨by decide, by decide⟩ rfl rfl hl.1 (Nat.le_of_ble_eq_true rfl) ⟨by decide, by decide⟩ dL_law_259 (fun w huw H locs h => ?_)
  rw [huu] at he
  rw [huw] at he
  refine lv_icmp_eq (tgt := 923) hx hb dL_law_262 (by decide) (fun c1 => ?_) (fun c1 => absurd he c1)
  exact kk ad _ _ _ _ ls hR2 h hl

set_option maxHeartbeats 4000000 in
theorem law_well {p : Program} {l : Launch} {e : Env} {s : State} {m : MethodId} {below : List Frame} {meth : Method} {c : Code} {H : Heap} {locs : List Loc} {Q : State → Prop} {D : va_G} {cI cZ : ClassId} {b L : Nat} {xs : Nat → Int32} {ls : Array Slot} (RR : St → St → Prop) (hst : St_well RR) (E : gE p s m #[Value.ref b] c cL_law 4 RL D cI cZ s.heap.size) (hX : va_X b L xs s s.heap) (hbl : b < s.heap.size) (hL : L ≤ 448) (x3 : Int32) (hi : 0 ≤ x3.toInt ∧ x3.toInt + 7 ≤ L) (ad : Nat → Nat) (σ τ : St) (hR : RR σ τ) (h : gH D s.heap.size s (gws ad cI cZ σ τ) H locs) (hl : lv_has ls 4 [(3, .int x3), (2, .ref (ad 48)), (1, .ref (ad 0)), (0, .ref b)]) (kk : ∀ (ad : Nat → Nat) (σ τ : St) (H : Heap) (locs : List Loc) (ls : Array Slot), RR σ τ → gH D s.heap.size s (gws ad cI cZ σ τ) H locs → lv_has ls 4 [(3, .int x3), (2, .ref (ad 48)), (1, .ref (ad 0)), (0, .ref b)] → W p l e room_1 s m #[Value.ref b] below meth c H locs 600000 7302250 Q (F0 m 923 ls [])) : W p l e room_1 s m #[Value.ref b] below meth c H locs 600000 7302250 Q (F0 m 267 ls []) := by
  have hx := E.1
  have hb := E.2.1
  have hbA : ¬ (gA s.heap.size) b := Nat.not_le.mpr hbl
  obtain ⟨hp, hq, he, hR2⟩ := hst σ τ (xs (x3 + (1 : Int32)).toNatClampNeg) (xs (x3 + (2 : Int32)).toNatClampNeg) hR
  refine lv_aload_n hx hb dL_law_267 rfl (lv_at hl 2 rfl) ?_
  refine lv_aload_n hx hb dL_law_268 rfl (lv_at hl 3 rfl) ?_
  refine lv_iload_n hx hb dL_law_269 rfl (lv_at hl 0 rfl) ?_
  refine lv_iconst (v := 1) hx hb dL_law_270 (by decide) ?_
  refine lv_iadd hx hb dL_law_271 ?_
  refine va_sld hx hb hX hbl hbA h.2.2 (ix_of (oI_add (oI_at x3) (oI_lit (x := 1) (a := 1) rfl)) (by omega) (by omega)) dL_law_272 ?_
  refine lv_aload_n hx hb dL_law_273 rfl (lv_at hl 3 rfl) ?_
  refine lv_iload_n hx hb dL_law_274 rfl (lv_at hl 0 rfl) ?_
  refine lv_iconst (v := 2) hx hb dL_law_275 (by decide) ?_
  refine lv_iadd hx hb dL_law_276 ?_
  refine va_sld hx hb hX hbl hbA h.2.2 (ix_of (oI_add (oI_at x3) (oI_lit (x := 2) (a := 2) rfl)) (by omega) (by omega)) dL_law_277 ?_
  refine g_callVh (F_X8_well σ (xs (x3 + (1 : Int32)).toNatClampNeg) (xs (x3 + (2 : Int32)).toNatClampNeg)) (rest := []) E h (c_X8_well l D cI cZ s.heap.size ad σ τ (xs (x3 + (1 : Int32)).toNatClampNeg) (xs (x3 + (2 : Int32)).toNatClampNeg)) mw_453 cbX8_well 0 rfl rfl ⟨by decide, by decide⟩ rfl rfl hl.1 (Nat.le_of_ble_eq_true rfl) ⟨by decide, by decide⟩ dL_law_278 (fun u huu H locs h => ?_)
  refine lv_aload_n hx hb dL_law_281 rfl (lv_at hl 1 rfl) ?_
  refine lv_aload_n hx hb dL_law_282 rfl (lv_at hl 3 rfl) ?_
  refine lv_iload_n hx hb dL_law_283 rfl (lv_at hl 0 rfl) ?_
  refine lv_iconst (v := 1) hx hb dL_law_284 (by decide) ?_
  refine lv_iadd hx hb dL_law_285 ?_
  refine va_sld hx hb hX hbl hbA h.2.2 (ix_of (oI_add (oI_at x3) (oI_lit (x := 1) (a := 1) rfl)) (by omega) (by omega)) dL_law_286 ?_
  refine lv_aload_n hx hb dL_law_287 rfl (lv_at hl 3 rfl) ?_
  refine lv_iload_n hx hb dL_law_288 rfl (lv_at hl 0 rfl) ?_
  refine lv_iconst (v := 2) hx hb dL_law_289 (by decide) ?_
  refine lv_iadd hx hb dL_law_290 ?_
  refine va_sld hx hb hX hbl hbA h.2.2 (ix_of (oI_add (oI_at x3) (oI_lit (x := 2) (a := 2) rfl)) (by omega) (by omega)) dL_law_291 ?_
  refine g_callVh (F_X9_well τ (xs (x3 + (1 : Int32)).toNatClampNeg) (xs (x3 + (2 : Int32)).toNatClampNeg)) (rest := [.int u]) E h (c_X9_well l D cI cZ s.heap.size ad σ τ (xs (x3 + (1 : Int32)).toNatClampNeg) (xs (x3 + (2 : Int32)).toNatClampNeg) hq) mw_922 cbX9_well 48 rfl rfl ⟨by decide, by decide⟩ rfl rfl hl.1 (Nat.le_of_ble_eq_true rfl) ⟨by decide, by decide⟩ dL_law_292 (fun w huw H locs h => ?_)
  rw [huu] at he
  rw [huw] at he
  refine lv_icmp_eq (tgt := 923) hx hb dL_law_295 (by decide) (fun c1 => ?_) (fun c1 => absurd he c1)
  exact kk ad _ _ _ _ ls hR2 h hl

set_option maxHeartbeats 4000000 in
theorem law_knots {p : Program} {l : Launch} {e : Env} {s : State} {m : MethodId} {below : List Frame} {meth : Method} {c : Code} {H : Heap} {locs : List Loc} {Q : State → Prop} {D : va_G} {cI cZ : ClassId} {b L : Nat} {xs : Nat → Int32} {ls : Array Slot} (RR : St → St → Prop) (hst : St_knots RR) (E : gE p s m #[Value.ref b] c cL_law 4 RL D cI cZ s.heap.size) (hX : va_X b L xs s s.heap) (hbl : b < s.heap.size) (hL : L ≤ 448) (x3 : Int32) (hi : 0 ≤ x3.toInt ∧ x3.toInt + 7 ≤ L) (ad : Nat → Nat) (σ τ : St) (hR : RR σ τ) (h : gH D s.heap.size s (gws ad cI cZ σ τ) H locs) (hl : lv_has ls 4 [(3, .int x3), (2, .ref (ad 48)), (1, .ref (ad 0)), (0, .ref b)]) (kk : ∀ (ad : Nat → Nat) (σ τ : St) (H : Heap) (locs : List Loc) (ls : Array Slot), RR σ τ → gH D s.heap.size s (gws ad cI cZ σ τ) H locs → lv_has ls 4 [(3, .int x3), (2, .ref (ad 48)), (1, .ref (ad 0)), (0, .ref b)] → W p l e room_1 s m #[Value.ref b] below meth c H locs 600000 7302250 Q (F0 m 923 ls [])) : W p l e room_1 s m #[Value.ref b] below meth c H locs 600000 7302250 Q (F0 m 300 ls []) := by
  have hx := E.1
  have hb := E.2.1
  have hbA : ¬ (gA s.heap.size) b := Nat.not_le.mpr hbl
  obtain ⟨hp, hq, he, hR2⟩ := hst σ τ (xs (x3 + (1 : Int32)).toNatClampNeg) (xs (x3 + (2 : Int32)).toNatClampNeg) hR
  refine lv_aload_n hx hb dL_law_300 rfl (lv_at hl 2 rfl) ?_
  refine lv_aload_n hx hb dL_law_301 rfl (lv_at hl 3 rfl) ?_
  refine lv_iload_n hx hb dL_law_302 rfl (lv_at hl 0 rfl) ?_
  refine lv_iconst (v := 1) hx hb dL_law_303 (by decide) ?_
  refine lv_iadd hx hb dL_law_304 ?_
  refine va_sld hx hb hX hbl hbA h.2.2 (ix_of (oI_add (oI_at x3) (oI_lit (x := 1) (a := 1) rfl)) (by omega) (by omega)) dL_law_305 ?_
  refine lv_aload_n hx hb dL_law_306 rfl (lv_at hl 3 rfl) ?_
  refine lv_iload_n hx hb dL_law_307 rfl (lv_at hl 0 rfl) ?_
  refine lv_iconst (v := 2) hx hb dL_law_308 (by decide) ?_
  refine lv_iadd hx hb dL_law_309 ?_
  refine va_sld hx hb hX hbl hbA h.2.2 (ix_of (oI_add (oI_at x3) (oI_lit (x := 2) (a := 2) rfl)) (by omega) (by omega)) dL_law_310 ?_
  refine g_callVh (F_X8_knots σ (xs (x3 + (1 : Int32)).toNatClampNeg) (xs (x3 + (2 : Int32)).toNatClampNeg)) (rest := []) E h (c_X8_knots l D cI cZ s.heap.size ad σ τ (xs (x3 + (1 : Int32)).toNatClampNeg) (xs (x3 + (2 : Int32)).toNatClampNeg)) mw_488 cbX8_knots 0 rfl rfl ⟨by decide, by decide⟩ rfl rfl hl.1 (Nat.le_of_ble_eq_true rfl) ⟨by decide, by decide⟩ dL_law_311 (fun u huu H locs h => ?_)
  refine lv_aload_n hx hb dL_law_314 rfl (lv_at hl 1 rfl) ?_
  refine lv_aload_n hx hb dL_law_315 rfl (lv_at hl 3 rfl) ?_
  refine lv_iload_n hx hb dL_law_316 rfl (lv_at hl 0 rfl) ?_
  refine lv_iconst (v := 1) hx hb dL_law_317 (by decide) ?_
  refine lv_iadd hx hb dL_law_318 ?_
  refine va_sld hx hb hX hbl hbA h.2.2 (ix_of (oI_add (oI_at x3) (oI_lit (x := 1) (a := 1) rfl)) (by omega) (by omega)) dL_law_319 ?_
  refine lv_aload_n hx hb dL_law_320 rfl (lv_at hl 3 rfl) ?_
  refine lv_iload_n hx hb dL_law_321 rfl (lv_at hl 0 rfl) ?_
  refine lv_iconst (v := 2) hx hb dL_law_322 (by decide) ?_
  refine lv_iadd hx hb dL_law_323 ?_
  refine va_sld hx hb hX hbl hbA h.2.2 (ix_of (oI_add (oI_at x3) (oI_lit (x := 2) (a := 2) rfl)) (by omega) (by omega)) dL_law_324 ?_
  refine g_callVh (F_X9_knots τ (xs (x3 + (1 : Int32)).toNatClampNeg) (xs (x3 + (2 : Int32)).toNatClampNeg)) (rest := [.int u]) E h (c_X9_knots l D cI cZ s.heap.size ad σ τ (xs (x3 + (1 : Int32)).toNatClampNeg) (xs (x3 + (2 : Int32)).toNatClampNeg) hq.1 hq.2) mw_943 cbX9_knots 48 rfl rfl ⟨by decide, by decide⟩ rfl rfl hl.1 (Nat.le_of_ble_eq_true rfl) ⟨by decide, by decide⟩ dL_law_325 (fun w huw H locs h => ?_)
  rw [huu] at he
  rw [huw] at he
  refine lv_icmp_eq (tgt := 923) hx hb dL_law_328 (by decide) (fun c1 => ?_) (fun c1 => absurd he c1)
  exact kk ad _ _ _ _ ls hR2 h hl

set_option maxHeartbeats 4000000 in
theorem law_dues {p : Program} {l : Launch} {e : Env} {s : State} {m : MethodId} {below : List Frame} {meth : Method} {c : Code} {H : Heap} {locs : List Loc} {Q : State → Prop} {D : va_G} {cI cZ : ClassId} {b L : Nat} {xs : Nat → Int32} {ls : Array Slot} (RR : St → St → Prop) (hst : St_dues RR) (E : gE p s m #[Value.ref b] c cL_law 4 RL D cI cZ s.heap.size) (hX : va_X b L xs s s.heap) (hbl : b < s.heap.size) (hL : L ≤ 448) (x3 : Int32) (hi : 0 ≤ x3.toInt ∧ x3.toInt + 7 ≤ L) (ad : Nat → Nat) (σ τ : St) (hR : RR σ τ) (h : gH D s.heap.size s (gws ad cI cZ σ τ) H locs) (hl : lv_has ls 4 [(3, .int x3), (2, .ref (ad 48)), (1, .ref (ad 0)), (0, .ref b)]) (kk : ∀ (ad : Nat → Nat) (σ τ : St) (H : Heap) (locs : List Loc) (ls : Array Slot), RR σ τ → gH D s.heap.size s (gws ad cI cZ σ τ) H locs → lv_has ls 4 [(3, .int x3), (2, .ref (ad 48)), (1, .ref (ad 0)), (0, .ref b)] → W p l e room_1 s m #[Value.ref b] below meth c H locs 600000 7302250 Q (F0 m 923 ls [])) : W p l e room_1 s m #[Value.ref b] below meth c H locs 600000 7302250 Q (F0 m 333 ls []) := by
  have hx := E.1
  have hb := E.2.1
  have hbA : ¬ (gA s.heap.size) b := Nat.not_le.mpr hbl
  obtain ⟨hp, hq, he, hR2⟩ := hst σ τ (xs (x3 + (1 : Int32)).toNatClampNeg) (xs (x3 + (2 : Int32)).toNatClampNeg) hR
  refine lv_aload_n hx hb dL_law_333 rfl (lv_at hl 2 rfl) ?_
  refine lv_aload_n hx hb dL_law_334 rfl (lv_at hl 3 rfl) ?_
  refine lv_iload_n hx hb dL_law_335 rfl (lv_at hl 0 rfl) ?_
  refine lv_iconst (v := 1) hx hb dL_law_336 (by decide) ?_
  refine lv_iadd hx hb dL_law_337 ?_
  refine va_sld hx hb hX hbl hbA h.2.2 (ix_of (oI_add (oI_at x3) (oI_lit (x := 1) (a := 1) rfl)) (by omega) (by omega)) dL_law_338 ?_
  refine lv_aload_n hx hb dL_law_339 rfl (lv_at hl 3 rfl) ?_
  refine lv_iload_n hx hb dL_law_340 rfl (lv_at hl 0 rfl) ?_
  refine lv_iconst (v := 2) hx hb dL_law_341 (by decide) ?_
  refine lv_iadd hx hb dL_law_342 ?_
  refine va_sld hx hb hX hbl hbA h.2.2 (ix_of (oI_add (oI_at x3) (oI_lit (x := 2) (a := 2) rfl)) (by omega) (by omega)) dL_law_343 ?_
  refine g_callVh (F_X8_dues σ (xs (x3 + (1 : Int32)).toNatClampNeg) (xs (x3 + (2 : Int32)).toNatClampNeg)) (rest := []) E h (c_X8_dues l D cI cZ s.heap.size ad σ τ (xs (x3 + (1 : Int32)).toNatClampNeg) (xs (x3 + (2 : Int32)).toNatClampNeg)) mw_493 cbX8_dues 0 rfl rfl ⟨by decide, by decide⟩ rfl rfl hl.1 (Nat.le_of_ble_eq_true rfl) ⟨by decide, by decide⟩ dL_law_344 (fun u huu H locs h => ?_)
  refine lv_aload_n hx hb dL_law_347 rfl (lv_at hl 1 rfl) ?_
  refine lv_aload_n hx hb dL_law_348 rfl (lv_at hl 3 rfl) ?_
  refine lv_iload_n hx hb dL_law_349 rfl (lv_at hl 0 rfl) ?_
  refine lv_iconst (v := 1) hx hb dL_law_350 (by decide) ?_
  refine lv_iadd hx hb dL_law_351 ?_
  refine va_sld hx hb hX hbl hbA h.2.2 (ix_of (oI_add (oI_at x3) (oI_lit (x := 1) (a := 1) rfl)) (by omega) (by omega)) dL_law_352 ?_
  refine lv_aload_n hx hb dL_law_353 rfl (lv_at hl 3 rfl) ?_
  refine lv_iload_n hx hb dL_law_354 rfl (lv_at hl 0 rfl) ?_
  refine lv_iconst (v := 2) hx hb dL_law_355 (by decide) ?_
  refine lv_iadd hx hb dL_law_356 ?_
  refine va_sld hx hb hX hbl hbA h.2.2 (ix_of (oI_add (oI_at x3) (oI_lit (x := 2) (a := 2) rfl)) (by omega) (by omega)) dL_law_357 ?_
  refine g_callVh (F_X9_dues τ (xs (x3 + (1 : Int32)).toNatClampNeg) (xs (x3 + (2 : Int32)).toNatClampNeg)) (rest := [.int u]) E h (c_X9_dues l D cI cZ s.heap.size ad σ τ (xs (x3 + (1 : Int32)).toNatClampNeg) (xs (x3 + (2 : Int32)).toNatClampNeg) hq) mw_947 cbX9_dues 48 rfl rfl ⟨by decide, by decide⟩ rfl rfl hl.1 (Nat.le_of_ble_eq_true rfl) ⟨by decide, by decide⟩ dL_law_358 (fun w huw H locs h => ?_)
  rw [huu] at he
  rw [huw] at he
  refine lv_icmp_eq (tgt := 923) hx hb dL_law_361 (by decide) (fun c1 => ?_) (fun c1 => absurd he c1)
  exact kk ad _ _ _ _ ls hR2 h hl

set_option maxHeartbeats 4000000 in
theorem law_goes {p : Program} {l : Launch} {e : Env} {s : State} {m : MethodId} {below : List Frame} {meth : Method} {c : Code} {H : Heap} {locs : List Loc} {Q : State → Prop} {D : va_G} {cI cZ : ClassId} {b L : Nat} {xs : Nat → Int32} {ls : Array Slot} (RR : St → St → Prop) (hst : St_goes RR) (E : gE p s m #[Value.ref b] c cL_law 4 RL D cI cZ s.heap.size) (hX : va_X b L xs s s.heap) (hbl : b < s.heap.size) (hL : L ≤ 448) (x3 : Int32) (hi : 0 ≤ x3.toInt ∧ x3.toInt + 7 ≤ L) (ad : Nat → Nat) (σ τ : St) (hR : RR σ τ) (h : gH D s.heap.size s (gws ad cI cZ σ τ) H locs) (hl : lv_has ls 4 [(3, .int x3), (2, .ref (ad 48)), (1, .ref (ad 0)), (0, .ref b)]) (kk : ∀ (ad : Nat → Nat) (σ τ : St) (H : Heap) (locs : List Loc) (ls : Array Slot), RR σ τ → gH D s.heap.size s (gws ad cI cZ σ τ) H locs → lv_has ls 4 [(3, .int x3), (2, .ref (ad 48)), (1, .ref (ad 0)), (0, .ref b)] → W p l e room_1 s m #[Value.ref b] below meth c H locs 600000 7302250 Q (F0 m 923 ls [])) : W p l e room_1 s m #[Value.ref b] below meth c H locs 600000 7302250 Q (F0 m 366 ls []) := by
  have hx := E.1
  have hb := E.2.1
  have hbA : ¬ (gA s.heap.size) b := Nat.not_le.mpr hbl
  obtain ⟨hp, hq, he, hR2⟩ := hst σ τ (xs (x3 + (1 : Int32)).toNatClampNeg) (xs (x3 + (2 : Int32)).toNatClampNeg) (xs (x3 + (3 : Int32)).toNatClampNeg) hR
  refine lv_aload_n hx hb dL_law_366 rfl (lv_at hl 2 rfl) ?_
  refine lv_aload_n hx hb dL_law_367 rfl (lv_at hl 3 rfl) ?_
  refine lv_iload_n hx hb dL_law_368 rfl (lv_at hl 0 rfl) ?_
  refine lv_iconst (v := 1) hx hb dL_law_369 (by decide) ?_
  refine lv_iadd hx hb dL_law_370 ?_
  refine va_sld hx hb hX hbl hbA h.2.2 (ix_of (oI_add (oI_at x3) (oI_lit (x := 1) (a := 1) rfl)) (by omega) (by omega)) dL_law_371 ?_
  refine lv_aload_n hx hb dL_law_372 rfl (lv_at hl 3 rfl) ?_
  refine lv_iload_n hx hb dL_law_373 rfl (lv_at hl 0 rfl) ?_
  refine lv_iconst (v := 2) hx hb dL_law_374 (by decide) ?_
  refine lv_iadd hx hb dL_law_375 ?_
  refine va_sld hx hb hX hbl hbA h.2.2 (ix_of (oI_add (oI_at x3) (oI_lit (x := 2) (a := 2) rfl)) (by omega) (by omega)) dL_law_376 ?_
  refine lv_aload_n hx hb dL_law_377 rfl (lv_at hl 3 rfl) ?_
  refine lv_iload_n hx hb dL_law_378 rfl (lv_at hl 0 rfl) ?_
  refine lv_iconst (v := 3) hx hb dL_law_379 (by decide) ?_
  refine lv_iadd hx hb dL_law_380 ?_
  refine va_sld hx hb hX hbl hbA h.2.2 (ix_of (oI_add (oI_at x3) (oI_lit (x := 3) (a := 3) rfl)) (by omega) (by omega)) dL_law_381 ?_
  refine g_callVU (F_X8_goes σ (xs (x3 + (1 : Int32)).toNatClampNeg) (xs (x3 + (2 : Int32)).toNatClampNeg) (xs (x3 + (3 : Int32)).toNatClampNeg)) (fun y => gws ad cI cZ y τ) (rest := []) E h (c_X8_goes l D cI cZ s.heap.size ad σ τ (xs (x3 + (1 : Int32)).toNatClampNeg) (xs (x3 + (2 : Int32)).toNatClampNeg) (xs (x3 + (3 : Int32)).toNatClampNeg) hp) mw_498 cbX8_goes 0 rfl rfl ⟨by decide, by decide⟩ rfl rfl hl.1 (Nat.le_of_ble_eq_true rfl) ⟨by decide, by decide⟩ dL_law_382 (fun u huu H locs h => ?_)
  refine lv_aload_n hx hb dL_law_385 rfl (lv_at hl 1 rfl) ?_
  refine lv_aload_n hx hb dL_law_386 rfl (lv_at hl 3 rfl) ?_
  refine lv_iload_n hx hb dL_law_387 rfl (lv_at hl 0 rfl) ?_
  refine lv_iconst (v := 1) hx hb dL_law_388 (by decide) ?_
  refine lv_iadd hx hb dL_law_389 ?_
  refine va_sld hx hb hX hbl hbA h.2.2 (ix_of (oI_add (oI_at x3) (oI_lit (x := 1) (a := 1) rfl)) (by omega) (by omega)) dL_law_390 ?_
  refine lv_aload_n hx hb dL_law_391 rfl (lv_at hl 3 rfl) ?_
  refine lv_iload_n hx hb dL_law_392 rfl (lv_at hl 0 rfl) ?_
  refine lv_iconst (v := 2) hx hb dL_law_393 (by decide) ?_
  refine lv_iadd hx hb dL_law_394 ?_
  refine va_sld hx hb hX hbl hbA h.2.2 (ix_of (oI_add (oI_at x3) (oI_lit (x := 2) (a := 2) rfl)) (by omega) (by omega)) dL_law_395 ?_
  refine lv_aload_n hx hb dL_law_396 rfl (lv_at hl 3 rfl) ?_
  refine lv_iload_n hx hb dL_law_397 rfl (lv_at hl 0 rfl) ?_
  refine lv_iconst (v := 3) hx hb dL_law_398 (by decide) ?_
  refine lv_iadd hx hb dL_law_399 ?_
  refine va_sld hx hb hX hbl hbA h.2.2 (ix_of (oI_add (oI_at x3) (oI_lit (x := 3) (a := 3) rfl)) (by omega) (by omega)) dL_law_400 ?_
  refine g_callVU (F_X9_goes τ (xs (x3 + (1 : Int32)).toNatClampNeg) (xs (x3 + (2 : Int32)).toNatClampNeg) (xs (x3 + (3 : Int32)).toNatClampNeg)) (fun y => gws ad cI cZ u.2 y) (rest := [.int u.1]) E h (c_X9_goes l D cI cZ s.heap.size ad u.2 τ (xs (x3 + (1 : Int32)).toNatClampNeg) (xs (x3 + (2 : Int32)).toNatClampNeg) (xs (x3 + (3 : Int32)).toNatClampNeg) hq.1 hq.2.1 hq.2.2.1 hq.2.2.2) mw_951 cbX9_goes 48 rfl rfl ⟨by decide, by decide⟩ rfl rfl hl.1 (Nat.le_of_ble_eq_true rfl) ⟨by decide, by decide⟩ dL_law_401 (fun w huw H locs h => ?_)
  rw [huu] at he
  rw [huw] at he
  rw [huu] at hR2
  rw [huw] at hR2
  refine lv_icmp_eq (tgt := 923) hx hb dL_law_404 (by decide) (fun c1 => ?_) (fun c1 => absurd he c1)
  exact kk ad _ _ _ _ ls hR2 h hl

set_option maxHeartbeats 4000000 in
theorem law_drinks {p : Program} {l : Launch} {e : Env} {s : State} {m : MethodId} {below : List Frame} {meth : Method} {c : Code} {H : Heap} {locs : List Loc} {Q : State → Prop} {D : va_G} {cI cZ : ClassId} {b L : Nat} {xs : Nat → Int32} {ls : Array Slot} (RR : St → St → Prop) (hst : St_drinks RR) (E : gE p s m #[Value.ref b] c cL_law 4 RL D cI cZ s.heap.size) (hX : va_X b L xs s s.heap) (hbl : b < s.heap.size) (hL : L ≤ 448) (x3 : Int32) (hi : 0 ≤ x3.toInt ∧ x3.toInt + 7 ≤ L) (ad : Nat → Nat) (σ τ : St) (hR : RR σ τ) (h : gH D s.heap.size s (gws ad cI cZ σ τ) H locs) (hl : lv_has ls 4 [(3, .int x3), (2, .ref (ad 48)), (1, .ref (ad 0)), (0, .ref b)]) (kk : ∀ (ad : Nat → Nat) (σ τ : St) (H : Heap) (locs : List Loc) (ls : Array Slot), RR σ τ → gH D s.heap.size s (gws ad cI cZ σ τ) H locs → lv_has ls 4 [(3, .int x3), (2, .ref (ad 48)), (1, .ref (ad 0)), (0, .ref b)] → W p l e room_1 s m #[Value.ref b] below meth c H locs 600000 7302250 Q (F0 m 923 ls [])) : W p l e room_1 s m #[Value.ref b] below meth c H locs 600000 7302250 Q (F0 m 409 ls []) := by
  have hx := E.1
  have hb := E.2.1
  have hbA : ¬ (gA s.heap.size) b := Nat.not_le.mpr hbl
  obtain ⟨hp, hq, he, hR2⟩ := hst σ τ (xs (x3 + (1 : Int32)).toNatClampNeg) (xs (x3 + (2 : Int32)).toNatClampNeg) hR
  refine lv_aload_n hx hb dL_law_409 rfl (lv_at hl 2 rfl) ?_
  refine lv_aload_n hx hb dL_law_410 rfl (lv_at hl 3 rfl) ?_
  refine lv_iload_n hx hb dL_law_411 rfl (lv_at hl 0 rfl) ?_
  refine lv_iconst (v := 1) hx hb dL_law_412 (by decide) ?_
  refine lv_iadd hx hb dL_law_413 ?_
  refine va_sld hx hb hX hbl hbA h.2.2 (ix_of (oI_add (oI_at x3) (oI_lit (x := 1) (a := 1) rfl)) (by omega) (by omega)) dL_law_414 ?_
  refine lv_aload_n hx hb dL_law_415 rfl (lv_at hl 3 rfl) ?_
  refine lv_iload_n hx hb dL_law_416 rfl (lv_at hl 0 rfl) ?_
  refine lv_iconst (v := 2) hx hb dL_law_417 (by decide) ?_
  refine lv_iadd hx hb dL_law_418 ?_
  refine va_sld hx hb hX hbl hbA h.2.2 (ix_of (oI_add (oI_at x3) (oI_lit (x := 2) (a := 2) rfl)) (by omega) (by omega)) dL_law_419 ?_
  refine g_callVU (F_X8_drinks σ (xs (x3 + (1 : Int32)).toNatClampNeg) (xs (x3 + (2 : Int32)).toNatClampNeg)) (fun y => gws ad cI cZ y τ) (rest := []) E h (c_X8_drinks l D cI cZ s.heap.size ad σ τ (xs (x3 + (1 : Int32)).toNatClampNeg) (xs (x3 + (2 : Int32)).toNatClampNeg) hp) mw_539 cbX8_drinks 0 rfl rfl ⟨by decide, by decide⟩ rfl rfl hl.1 (Nat.le_of_ble_eq_true rfl) ⟨by decide, by decide⟩ dL_law_420 (fun u huu H locs h => ?_)
  refine lv_aload_n hx hb dL_law_423 rfl (lv_at hl 1 rfl) ?_
  refine lv_aload_n hx hb dL_law_424 rfl (lv_at hl 3 rfl) ?_
  refine lv_iload_n hx hb dL_law_425 rfl (lv_at hl 0 rfl) ?_
  refine lv_iconst (v := 1) hx hb dL_law_426 (by decide) ?_
  refine lv_iadd hx hb dL_law_427 ?_
  refine va_sld hx hb hX hbl hbA h.2.2 (ix_of (oI_add (oI_at x3) (oI_lit (x := 1) (a := 1) rfl)) (by omega) (by omega)) dL_law_428 ?_
  refine lv_aload_n hx hb dL_law_429 rfl (lv_at hl 3 rfl) ?_
  refine lv_iload_n hx hb dL_law_430 rfl (lv_at hl 0 rfl) ?_
  refine lv_iconst (v := 2) hx hb dL_law_431 (by decide) ?_
  refine lv_iadd hx hb dL_law_432 ?_
  refine va_sld hx hb hX hbl hbA h.2.2 (ix_of (oI_add (oI_at x3) (oI_lit (x := 2) (a := 2) rfl)) (by omega) (by omega)) dL_law_433 ?_
  refine g_callVU (F_X9_drinks τ (xs (x3 + (1 : Int32)).toNatClampNeg) (xs (x3 + (2 : Int32)).toNatClampNeg)) (fun y => gws ad cI cZ u.2 y) (rest := [.int u.1]) E h (c_X9_drinks l D cI cZ s.heap.size ad u.2 τ (xs (x3 + (1 : Int32)).toNatClampNeg) (xs (x3 + (2 : Int32)).toNatClampNeg) hq.1 hq.2.1 hq.2.2) mw_967 cbX9_drinks 48 rfl rfl ⟨by decide, by decide⟩ rfl rfl hl.1 (Nat.le_of_ble_eq_true rfl) ⟨by decide, by decide⟩ dL_law_434 (fun w huw H locs h => ?_)
  rw [huu] at he
  rw [huw] at he
  rw [huu] at hR2
  rw [huw] at hR2
  refine lv_icmp_eq (tgt := 923) hx hb dL_law_437 (by decide) (fun c1 => ?_) (fun c1 => absurd he c1)
  exact kk ad _ _ _ _ ls hR2 h hl

set_option maxHeartbeats 4000000 in
theorem law_fills {p : Program} {l : Launch} {e : Env} {s : State} {m : MethodId} {below : List Frame} {meth : Method} {c : Code} {H : Heap} {locs : List Loc} {Q : State → Prop} {D : va_G} {cI cZ : ClassId} {b L : Nat} {xs : Nat → Int32} {ls : Array Slot} (RR : St → St → Prop) (hst : St_fills RR) (E : gE p s m #[Value.ref b] c cL_law 4 RL D cI cZ s.heap.size) (hX : va_X b L xs s s.heap) (hbl : b < s.heap.size) (hL : L ≤ 448) (x3 : Int32) (hi : 0 ≤ x3.toInt ∧ x3.toInt + 7 ≤ L) (ad : Nat → Nat) (σ τ : St) (hR : RR σ τ) (h : gH D s.heap.size s (gws ad cI cZ σ τ) H locs) (hl : lv_has ls 4 [(3, .int x3), (2, .ref (ad 48)), (1, .ref (ad 0)), (0, .ref b)]) (kk : ∀ (ad : Nat → Nat) (σ τ : St) (H : Heap) (locs : List Loc) (ls : Array Slot), RR σ τ → gH D s.heap.size s (gws ad cI cZ σ τ) H locs → lv_has ls 4 [(3, .int x3), (2, .ref (ad 48)), (1, .ref (ad 0)), (0, .ref b)] → W p l e room_1 s m #[Value.ref b] below meth c H locs 600000 7302250 Q (F0 m 923 ls [])) : W p l e room_1 s m #[Value.ref b] below meth c H locs 600000 7302250 Q (F0 m 442 ls []) := by
  have hx := E.1
  have hb := E.2.1
  have hbA : ¬ (gA s.heap.size) b := Nat.not_le.mpr hbl
  obtain ⟨hp, hq, he, hR2⟩ := hst σ τ (xs (x3 + (1 : Int32)).toNatClampNeg) (xs (x3 + (2 : Int32)).toNatClampNeg) hR
  refine lv_aload_n hx hb dL_law_442 rfl (lv_at hl 2 rfl) ?_
  refine lv_aload_n hx hb dL_law_443 rfl (lv_at hl 3 rfl) ?_
  refine lv_iload_n hx hb dL_law_444 rfl (lv_at hl 0 rfl) ?_
  refine lv_iconst (v := 1) hx hb dL_law_445 (by decide) ?_
  refine lv_iadd hx hb dL_law_446 ?_
  refine va_sld hx hb hX hbl hbA h.2.2 (ix_of (oI_add (oI_at x3) (oI_lit (x := 1) (a := 1) rfl)) (by omega) (by omega)) dL_law_447 ?_
  refine lv_aload_n hx hb dL_law_448 rfl (lv_at hl 3 rfl) ?_
  refine lv_iload_n hx hb dL_law_449 rfl (lv_at hl 0 rfl) ?_
  refine lv_iconst (v := 2) hx hb dL_law_450 (by decide) ?_
  refine lv_iadd hx hb dL_law_451 ?_
  refine va_sld hx hb hX hbl hbA h.2.2 (ix_of (oI_add (oI_at x3) (oI_lit (x := 2) (a := 2) rfl)) (by omega) (by omega)) dL_law_452 ?_
  refine g_callVU (F_X8_fills σ (xs (x3 + (1 : Int32)).toNatClampNeg) (xs (x3 + (2 : Int32)).toNatClampNeg)) (fun y => gws ad cI cZ y τ) (rest := []) E h (c_X8_fills l D cI cZ s.heap.size ad σ τ (xs (x3 + (1 : Int32)).toNatClampNeg) (xs (x3 + (2 : Int32)).toNatClampNeg) hp) mw_551 cbX8_fills 0 rfl rfl ⟨by decide, by decide⟩ rfl rfl hl.1 (Nat.le_of_ble_eq_true rfl) ⟨by decide, by decide⟩ dL_law_453 (fun u huu H locs h => ?_)
  refine lv_aload_n hx hb dL_law_456 rfl (lv_at hl 1 rfl) ?_
  refine lv_aload_n hx hb dL_law_457 rfl (lv_at hl 3 rfl) ?_
  refine lv_iload_n hx hb dL_law_458 rfl (lv_at hl 0 rfl) ?_
  refine lv_iconst (v := 1) hx hb dL_law_459 (by decide) ?_
  refine lv_iadd hx hb dL_law_460 ?_
  refine va_sld hx hb hX hbl hbA h.2.2 (ix_of (oI_add (oI_at x3) (oI_lit (x := 1) (a := 1) rfl)) (by omega) (by omega)) dL_law_461 ?_
  refine lv_aload_n hx hb dL_law_462 rfl (lv_at hl 3 rfl) ?_
  refine lv_iload_n hx hb dL_law_463 rfl (lv_at hl 0 rfl) ?_
  refine lv_iconst (v := 2) hx hb dL_law_464 (by decide) ?_
  refine lv_iadd hx hb dL_law_465 ?_
  refine va_sld hx hb hX hbl hbA h.2.2 (ix_of (oI_add (oI_at x3) (oI_lit (x := 2) (a := 2) rfl)) (by omega) (by omega)) dL_law_466 ?_
  refine g_callVU (F_X9_fills τ (xs (x3 + (1 : Int32)).toNatClampNeg) (xs (x3 + (2 : Int32)).toNatClampNeg)) (fun y => gws ad cI cZ u.2 y) (rest := [.int u.1]) E h (c_X9_fills l D cI cZ s.heap.size ad u.2 τ (xs (x3 + (1 : Int32)).toNatClampNeg) (xs (x3 + (2 : Int32)).toNatClampNeg) hq.1 hq.2.1 hq.2.2) mw_971 cbX9_fills 48 rfl rfl ⟨by decide, by decide⟩ rfl rfl hl.1 (Nat.le_of_ble_eq_true rfl) ⟨by decide, by decide⟩ dL_law_467 (fun w huw H locs h => ?_)
  rw [huu] at he
  rw [huw] at he
  rw [huu] at hR2
  rw [huw] at hR2
  refine lv_icmp_eq (tgt := 923) hx hb dL_law_470 (by decide) (fun c1 => ?_) (fun c1 => absurd he c1)
  exact kk ad _ _ _ _ ls hR2 h hl

set_option maxHeartbeats 4000000 in
theorem law_hands {p : Program} {l : Launch} {e : Env} {s : State} {m : MethodId} {below : List Frame} {meth : Method} {c : Code} {H : Heap} {locs : List Loc} {Q : State → Prop} {D : va_G} {cI cZ : ClassId} {b L : Nat} {xs : Nat → Int32} {ls : Array Slot} (RR : St → St → Prop) (hst : St_hands RR) (E : gE p s m #[Value.ref b] c cL_law 4 RL D cI cZ s.heap.size) (hX : va_X b L xs s s.heap) (hbl : b < s.heap.size) (hL : L ≤ 448) (x3 : Int32) (hi : 0 ≤ x3.toInt ∧ x3.toInt + 7 ≤ L) (ad : Nat → Nat) (σ τ : St) (hR : RR σ τ) (h : gH D s.heap.size s (gws ad cI cZ σ τ) H locs) (hl : lv_has ls 4 [(3, .int x3), (2, .ref (ad 48)), (1, .ref (ad 0)), (0, .ref b)]) (kk : ∀ (ad : Nat → Nat) (σ τ : St) (H : Heap) (locs : List Loc) (ls : Array Slot), RR σ τ → gH D s.heap.size s (gws ad cI cZ σ τ) H locs → lv_has ls 4 [(3, .int x3), (2, .ref (ad 48)), (1, .ref (ad 0)), (0, .ref b)] → W p l e room_1 s m #[Value.ref b] below meth c H locs 600000 7302250 Q (F0 m 923 ls [])) : W p l e room_1 s m #[Value.ref b] below meth c H locs 600000 7302250 Q (F0 m 475 ls []) := by
  have hx := E.1
  have hb := E.2.1
  have hbA : ¬ (gA s.heap.size) b := Nat.not_le.mpr hbl
  obtain ⟨hp, hq, he, hR2⟩ := hst σ τ (xs (x3 + (1 : Int32)).toNatClampNeg) (xs (x3 + (2 : Int32)).toNatClampNeg) (xs (x3 + (3 : Int32)).toNatClampNeg) (xs (x3 + (4 : Int32)).toNatClampNeg) hR
  refine lv_aload_n hx hb dL_law_475 rfl (lv_at hl 2 rfl) ?_
  refine lv_aload_n hx hb dL_law_476 rfl (lv_at hl 3 rfl) ?_
  refine lv_iload_n hx hb dL_law_477 rfl (lv_at hl 0 rfl) ?_
  refine lv_iconst (v := 1) hx hb dL_law_478 (by decide) ?_
  refine lv_iadd hx hb dL_law_479 ?_
  refine va_sld hx hb hX hbl hbA h.2.2 (ix_of (oI_add (oI_at x3) (oI_lit (x := 1) (a := 1) rfl)) (by omega) (by omega)) dL_law_480 ?_
  refine lv_aload_n hx hb dL_law_481 rfl (lv_at hl 3 rfl) ?_
  refine lv_iload_n hx hb dL_law_482 rfl (lv_at hl 0 rfl) ?_
  refine lv_iconst (v := 2) hx hb dL_law_483 (by decide) ?_
  refine lv_iadd hx hb dL_law_484 ?_
  refine va_sld hx hb hX hbl hbA h.2.2 (ix_of (oI_add (oI_at x3) (oI_lit (x := 2) (a := 2) rfl)) (by omega) (by omega)) dL_law_485 ?_
  refine lv_aload_n hx hb dL_law_486 rfl (lv_at hl 3 rfl) ?_
  refine lv_iload_n hx hb dL_law_487 rfl (lv_at hl 0 rfl) ?_
  refine lv_iconst (v := 3) hx hb dL_law_488 (by decide) ?_
  refine lv_iadd hx hb dL_law_489 ?_
  refine va_sld hx hb hX hbl hbA h.2.2 (ix_of (oI_add (oI_at x3) (oI_lit (x := 3) (a := 3) rfl)) (by omega) (by omega)) dL_law_490 ?_
  refine lv_aload_n hx hb dL_law_491 rfl (lv_at hl 3 rfl) ?_
  refine lv_iload_n hx hb dL_law_492 rfl (lv_at hl 0 rfl) ?_
  refine lv_iconst (v := 4) hx hb dL_law_493 (by decide) ?_
  refine lv_iadd hx hb dL_law_494 ?_
  refine va_sld hx hb hX hbl hbA h.2.2 (ix_of (oI_add (oI_at x3) (oI_lit (x := 4) (a := 4) rfl)) (by omega) (by omega)) dL_law_495 ?_
  refine g_callVU (F_X8_hands σ (xs (x3 + (1 : Int32)).toNatClampNeg) (xs (x3 + (2 : Int32)).toNatClampNeg) (xs (x3 + (3 : Int32)).toNatClampNeg) (xs (x3 + (4 : Int32)).toNatClampNeg)) (fun y => gws ad cI cZ y τ) (rest := []) E h (c_X8_hands l D cI cZ s.heap.size ad σ τ (xs (x3 + (1 : Int32)).toNatClampNeg) (xs (x3 + (2 : Int32)).toNatClampNeg) (xs (x3 + (3 : Int32)).toNatClampNeg) (xs (x3 + (4 : Int32)).toNatClampNeg) hp) mw_555 cbX8_hands 0 rfl rfl ⟨by decide, by decide⟩ rfl rfl hl.1 (Nat.le_of_ble_eq_true rfl) ⟨by decide, by decide⟩ dL_law_496 (fun u huu H locs h => ?_)
  refine lv_aload_n hx hb dL_law_499 rfl (lv_at hl 1 rfl) ?_
  refine lv_aload_n hx hb dL_law_500 rfl (lv_at hl 3 rfl) ?_
  refine lv_iload_n hx hb dL_law_501 rfl (lv_at hl 0 rfl) ?_
  refine lv_iconst (v := 1) hx hb dL_law_502 (by decide) ?_
  refine lv_iadd hx hb dL_law_503 ?_
  refine va_sld hx hb hX hbl hbA h.2.2 (ix_of (oI_add (oI_at x3) (oI_lit (x := 1) (a := 1) rfl)) (by omega) (by omega)) dL_law_504 ?_
  refine lv_aload_n hx hb dL_law_505 rfl (lv_at hl 3 rfl) ?_
  refine lv_iload_n hx hb dL_law_506 rfl (lv_at hl 0 rfl) ?_
  refine lv_iconst (v := 2) hx hb dL_law_507 (by decide) ?_
  refine lv_iadd hx hb dL_law_508 ?_
  refine va_sld hx hb hX hbl hbA h.2.2 (ix_of (oI_add (oI_at x3) (oI_lit (x := 2) (a := 2) rfl)) (by omega) (by omega)) dL_law_509 ?_
  refine lv_aload_n hx hb dL_law_510 rfl (lv_at hl 3 rfl) ?_
  refine lv_iload_n hx hb dL_law_511 rfl (lv_at hl 0 rfl) ?_
  refine lv_iconst (v := 3) hx hb dL_law_512 (by decide) ?_
  refine lv_iadd hx hb dL_law_513 ?_
  refine va_sld hx hb hX hbl hbA h.2.2 (ix_of (oI_add (oI_at x3) (oI_lit (x := 3) (a := 3) rfl)) (by omega) (by omega)) dL_law_514 ?_
  refine lv_aload_n hx hb dL_law_515 rfl (lv_at hl 3 rfl) ?_
  refine lv_iload_n hx hb dL_law_516 rfl (lv_at hl 0 rfl) ?_
  refine lv_iconst (v := 4) hx hb dL_law_517 (by decide) ?_
  refine lv_iadd hx hb dL_law_518 ?_
  refine va_sld hx hb hX hbl hbA h.2.2 (ix_of (oI_add (oI_at x3) (oI_lit (x := 4) (a := 4) rfl)) (by omega) (by omega)) dL_law_519 ?_
  refine g_callVU (F_X9_hands τ (xs (x3 + (1 : Int32)).toNatClampNeg) (xs (x3 + (2 : Int32)).toNatClampNeg) (xs (x3 + (3 : Int32)).toNatClampNeg) (xs (x3 + (4 : Int32)).toNatClampNeg)) (fun y => gws ad cI cZ u.2 y) (rest := [.int u.1]) E h (c_X9_hands l D cI cZ s.heap.size ad u.2 τ (xs (x3 + (1 : Int32)).toNatClampNeg) (xs (x3 + (2 : Int32)).toNatClampNeg) (xs (x3 + (3 : Int32)).toNatClampNeg) (xs (x3 + (4 : Int32)).toNatClampNeg) hq.1 hq.2.1 hq.2.2) mw_975 cbX9_hands 48 rfl rfl ⟨by decide, by decide⟩ rfl rfl hl.1 (Nat.le_of_ble_eq_true rfl) ⟨by decide, by decide⟩ dL_law_520 (fun w huw H locs h => ?_)
  rw [huu] at he
  rw [huw] at he
  rw [huu] at hR2
  rw [huw] at hR2
  refine lv_icmp_eq (tgt := 923) hx hb dL_law_523 (by decide) (fun c1 => ?_) (fun c1 => absurd he c1)
  exact kk ad _ _ _ _ ls hR2 h hl

set_option maxHeartbeats 4000000 in
theorem law_strikes {p : Program} {l : Launch} {e : Env} {s : State} {m : MethodId} {below : List Frame} {meth : Method} {c : Code} {H : Heap} {locs : List Loc} {Q : State → Prop} {D : va_G} {cI cZ : ClassId} {b L : Nat} {xs : Nat → Int32} {ls : Array Slot} (RR : St → St → Prop) (hst : St_strikes RR) (E : gE p s m #[Value.ref b] c cL_law 4 RL D cI cZ s.heap.size) (hX : va_X b L xs s s.heap) (hbl : b < s.heap.size) (hL : L ≤ 448) (x3 : Int32) (hi : 0 ≤ x3.toInt ∧ x3.toInt + 7 ≤ L) (ad : Nat → Nat) (σ τ : St) (hR : RR σ τ) (h : gH D s.heap.size s (gws ad cI cZ σ τ) H locs) (hl : lv_has ls 4 [(3, .int x3), (2, .ref (ad 48)), (1, .ref (ad 0)), (0, .ref b)]) (kk : ∀ (ad : Nat → Nat) (σ τ : St) (H : Heap) (locs : List Loc) (ls : Array Slot), RR σ τ → gH D s.heap.size s (gws ad cI cZ σ τ) H locs → lv_has ls 4 [(3, .int x3), (2, .ref (ad 48)), (1, .ref (ad 0)), (0, .ref b)] → W p l e room_1 s m #[Value.ref b] below meth c H locs 600000 7302250 Q (F0 m 923 ls [])) : W p l e room_1 s m #[Value.ref b] below meth c H locs 600000 7302250 Q (F0 m 528 ls []) := by
  have hx := E.1
  have hb := E.2.1
  have hbA : ¬ (gA s.heap.size) b := Nat.not_le.mpr hbl
  obtain ⟨hp, hq, he, hR2⟩ := hst σ τ  hR
  refine lv_aload_n hx hb dL_law_528 rfl (lv_at hl 2 rfl) ?_
  refine g_callVU (F_X8_strikes σ) (fun y => gws ad cI cZ y τ) (rest := []) E h (c_X8_strikes l D cI cZ s.heap.size ad σ τ hp.1 hp.2.1 hp.2.2) mw_559 cbX8_strikes 0 rfl rfl ⟨by decide, by decide⟩ rfl rfl hl.1 (Nat.le_of_ble_eq_true rfl) ⟨by decide, by decide⟩ dL_law_529 (fun u huu H locs h => ?_)
  refine lv_aload_n hx hb dL_law_532 rfl (lv_at hl 1 rfl) ?_
  refine g_callVU (F_X9_strikes τ) (fun y => gws ad cI cZ u.2 y) (rest := [.int u.1]) E h (c_X9_strikes l D cI cZ s.heap.size ad u.2 τ hq.1 hq.2.1 hq.2.2.1 hq.2.2.2) mw_979 cbX9_strikes 48 rfl rfl ⟨by decide, by decide⟩ rfl rfl hl.1 (Nat.le_of_ble_eq_true rfl) ⟨by decide, by decide⟩ dL_law_533 (fun w huw H locs h => ?_)
  rw [huu] at he
  rw [huw] at he
  rw [huu] at hR2
  rw [huw] at hR2
  refine lv_icmp_eq (tgt := 923) hx hb dL_law_536 (by decide) (fun c1 => ?_) (fun c1 => absurd he c1)
  exact kk ad _ _ _ _ ls hR2 h hl

set_option maxHeartbeats 4000000 in
theorem law_undo {p : Program} {l : Launch} {e : Env} {s : State} {m : MethodId} {below : List Frame} {meth : Method} {c : Code} {H : Heap} {locs : List Loc} {Q : State → Prop} {D : va_G} {cI cZ : ClassId} {b L : Nat} {xs : Nat → Int32} {ls : Array Slot} (RR : St → St → Prop) (hst : St_undo RR) (E : gE p s m #[Value.ref b] c cL_law 4 RL D cI cZ s.heap.size) (hX : va_X b L xs s s.heap) (hbl : b < s.heap.size) (hL : L ≤ 448) (x3 : Int32) (hi : 0 ≤ x3.toInt ∧ x3.toInt + 7 ≤ L) (ad : Nat → Nat) (σ τ : St) (hR : RR σ τ) (h : gH D s.heap.size s (gws ad cI cZ σ τ) H locs) (hl : lv_has ls 4 [(3, .int x3), (2, .ref (ad 48)), (1, .ref (ad 0)), (0, .ref b)]) (kk : ∀ (ad : Nat → Nat) (σ τ : St) (H : Heap) (locs : List Loc) (ls : Array Slot), RR σ τ → gH D s.heap.size s (gws ad cI cZ σ τ) H locs → lv_has ls 4 [(3, .int x3), (2, .ref (ad 48)), (1, .ref (ad 0)), (0, .ref b)] → W p l e room_1 s m #[Value.ref b] below meth c H locs 600000 7302250 Q (F0 m 923 ls [])) : W p l e room_1 s m #[Value.ref b] below meth c H locs 600000 7302250 Q (F0 m 541 ls []) := by
  have hx := E.1
  have hb := E.2.1
  have hbA : ¬ (gA s.heap.size) b := Nat.not_le.mpr hbl
  obtain ⟨hp, hq, he, hR2⟩ := hst σ τ  hR
  refine lv_aload_n hx hb dL_law_541 rfl (lv_at hl 2 rfl) ?_
  refine g_callVU (F_X8_undo σ) (fun y => gws ad cI cZ y τ) (rest := []) E h (c_X8_undo l D cI cZ s.heap.size ad σ τ hp) mw_584 cbX8_undo 0 rfl rfl ⟨by decide, by decide⟩ rfl rfl hl.1 (Nat.le_of_ble_eq_true rfl) ⟨by decide, by decide⟩ dL_law_542 (fun u huu H locs h => ?_)
  refine lv_aload_n hx hb dL_law_545 rfl (lv_at hl 1 rfl) ?_
  refine g_callVU (F_X9_undo τ) (fun y => gws ad cI cZ u.2 y) (rest := [.int u.1]) E h (c_X9_undo l D cI cZ s.heap.size ad u.2 τ hq) mw_999 cbX9_undo 48 rfl rfl ⟨by decide, by decide⟩ rfl rfl hl.1 (Nat.le_of_ble_eq_true rfl) ⟨by decide, by decide⟩ dL_law_546 (fun w huw H locs h => ?_)
  rw [huu] at he
  rw [huw] at he
  rw [huu] at hR2
  rw [huw] at hR2
  refine lv_icmp_eq (tgt := 923) hx hb dL_law_549 (by decide) (fun c1 => ?_) (fun c1 => absurd he c1)
  exact kk ad _ _ _ _ ls hR2 h hl

set_option maxHeartbeats 4000000 in
theorem law_now {p : Program} {l : Launch} {e : Env} {s : State} {m : MethodId} {below : List Frame} {meth : Method} {c : Code} {H : Heap} {locs : List Loc} {Q : State → Prop} {D : va_G} {cI cZ : ClassId} {b L : Nat} {xs : Nat → Int32} {ls : Array Slot} (RR : St → St → Prop) (hst : St_now RR) (E : gE p s m #[Value.ref b] c cL_law 4 RL D cI cZ s.heap.size) (hX : va_X b L xs s s.heap) (hbl : b < s.heap.size) (hL : L ≤ 448) (x3 : Int32) (hi : 0 ≤ x3.toInt ∧ x3.toInt + 7 ≤ L) (ad : Nat → Nat) (σ τ : St) (hR : RR σ τ) (h : gH D s.heap.size s (gws ad cI cZ σ τ) H locs) (hl : lv_has ls 4 [(3, .int x3), (2, .ref (ad 48)), (1, .ref (ad 0)), (0, .ref b)]) (kk : ∀ (ad : Nat → Nat) (σ τ : St) (H : Heap) (locs : List Loc) (ls : Array Slot), RR σ τ → gH D s.heap.size s (gws ad cI cZ σ τ) H locs → lv_has ls 4 [(3, .int x3), (2, .ref (ad 48)), (1, .ref (ad 0)), (0, .ref b)] → W p l e room_1 s m #[Value.ref b] below meth c H locs 600000 7302250 Q (F0 m 923 ls [])) : W p l e room_1 s m #[Value.ref b] below meth c H locs 600000 7302250 Q (F0 m 554 ls []) := by
  have hx := E.1
  have hb := E.2.1
  have hbA : ¬ (gA s.heap.size) b := Nat.not_le.mpr hbl
  obtain ⟨hp, hq, he, hR2⟩ := hst σ τ (xs (x3 + (1 : Int32)).toNatClampNeg) hR
  refine lv_aload_n hx hb dL_law_554 rfl (lv_at hl 2 rfl) ?_
  refine lv_aload_n hx hb dL_law_555 rfl (lv_at hl 3 rfl) ?_
  refine lv_iload_n hx hb dL_law_556 rfl (lv_at hl 0 rfl) ?_
  refine lv_iconst (v := 1) hx hb dL_law_557 (by decide) ?_
  refine lv_iadd hx hb dL_law_558 ?_
  refine va_sld hx hb hX hbl hbA h.2.2 (ix_of (oI_add (oI_at x3) (oI_lit (x := 1) (a := 1) rfl)) (by omega) (by omega)) dL_law_559 ?_
  refine g_callVU (F_X8_now σ (xs (x3 + (1 : Int32)).toNatClampNeg)) (fun y => gws ad cI cZ y τ) (rest := []) E h (c_X8_now l D cI cZ s.heap.size ad σ τ (xs (x3 + (1 : Int32)).toNatClampNeg) hp.1 hp.2) mw_596 cbX8_now 0 rfl rfl ⟨by decide, by decide⟩ rfl rfl hl.1 (Nat.le_of_ble_eq_true rfl) ⟨by decide, by decide⟩ dL_law_560 (fun u huu H locs h => ?_)
  refine lv_aload_n hx hb dL_law_563 rfl (lv_at hl 1 rfl) ?_
  refine lv_aload_n hx hb dL_law_564 rfl (lv_at hl 3 rfl) ?_
  refine lv_iload_n hx hb dL_law_565 rfl (lv_at hl 0 rfl) ?_
  refine lv_iconst (v := 1) hx hb dL_law_566 (by decide) ?_
  refine lv_iadd hx hb dL_law_567 ?_
  refine va_sld hx hb hX hbl hbA h.2.2 (ix_of (oI_add (oI_at x3) (oI_lit (x := 1) (a := 1) rfl)) (by omega) (by omega)) dL_law_568 ?_
  refine g_callVU (F_X9_now τ (xs (x3 + (1 : Int32)).toNatClampNeg)) (fun y => gws ad cI cZ u.2 y) (rest := [.int u.1]) E h (c_X9_now l D cI cZ s.heap.size ad u.2 τ (xs (x3 + (1 : Int32)).toNatClampNeg) hq.1 hq.2) mw_1003 cbX9_now 48 rfl rfl ⟨by decide, by decide⟩ rfl rfl hl.1 (Nat.le_of_ble_eq_true rfl) ⟨by decide, by decide⟩ dL_law_569 (fun w huw H locs h => ?_)
  rw [huu] at he
  rw [huw] at he
  rw [huu] at hR2
  rw [huw] at hR2
  refine lv_icmp_eq (tgt := 923) hx hb dL_law_572 (by decide) (fun c1 => ?_) (fun c1 => absurd he c1)
  exact kk ad _ _ _ _ ls hR2 h hl

set_option maxHeartbeats 4000000 in
theorem law_pass {p : Program} {l : Launch} {e : Env} {s : State} {m : MethodId} {below : List Frame} {meth : Method} {c : Code} {H : Heap} {locs : List Loc} {Q : State → Prop} {D : va_G} {cI cZ : ClassId} {b L : Nat} {xs : Nat → Int32} {ls : Array Slot} (RR : St → St → Prop) (hst : St_pass RR) (E : gE p s m #[Value.ref b] c cL_law 4 RL D cI cZ s.heap.size) (hX : va_X b L xs s s.heap) (hbl : b < s.heap.size) (hL : L ≤ 448) (x3 : Int32) (hi : 0 ≤ x3.toInt ∧ x3.toInt + 7 ≤ L) (ad : Nat → Nat) (σ τ : St) (hR : RR σ τ) (h : gH D s.heap.size s (gws ad cI cZ σ τ) H locs) (hl : lv_has ls 4 [(3, .int x3), (2, .ref (ad 48)), (1, .ref (ad 0)), (0, .ref b)]) (kk : ∀ (ad : Nat → Nat) (σ τ : St) (H : Heap) (locs : List Loc) (ls : Array Slot), RR σ τ → gH D s.heap.size s (gws ad cI cZ σ τ) H locs → lv_has ls 4 [(3, .int x3), (2, .ref (ad 48)), (1, .ref (ad 0)), (0, .ref b)] → W p l e room_1 s m #[Value.ref b] below meth c H locs 600000 7302250 Q (F0 m 923 ls [])) : W p l e room_1 s m #[Value.ref b] below meth c H locs 600000 7302250 Q (F0 m 577 ls []) := by
  have hx := E.1
  have hb := E.2.1
  have hbA : ¬ (gA s.heap.size) b := Nat.not_le.mpr hbl
  obtain ⟨hp, hq, he, hR2⟩ := hst σ τ (xs (x3 + (1 : Int32)).toNatClampNeg) (xs (x3 + (2 : Int32)).toNatClampNeg) (xs (x3 + (3 : Int32)).toNatClampNeg) hR
  refine lv_aload_n hx hb dL_law_577 rfl (lv_at hl 2 rfl) ?_
  refine lv_aload_n hx hb dL_law_578 rfl (lv_at hl 3 rfl) ?_
  refine lv_iload_n hx hb dL_law_579 rfl (lv_at hl 0 rfl) ?_
  refine lv_iconst (v := 1) hx hb dL_law_580 (by decide) ?_
  refine lv_iadd hx hb dL_law_581 ?_
  refine va_sld hx hb hX hbl hbA h.2.2 (ix_of (oI_add (oI_at x3) (oI_lit (x := 1) (a := 1) rfl)) (by omega) (by omega)) dL_law_582 ?_
  refine lv_aload_n hx hb dL_law_583 rfl (lv_at hl 3 rfl) ?_
  refine lv_iload_n hx hb dL_law_584 rfl (lv_at hl 0 rfl) ?_
  refine lv_iconst (v := 2) hx hb dL_law_585 (by decide) ?_
  refine lv_iadd hx hb dL_law_586 ?_
  refine va_sld hx hb hX hbl hbA h.2.2 (ix_of (oI_add (oI_at x3) (oI_lit (x := 2) (a := 2) rfl)) (by omega) (by omega)) dL_law_587 ?_
  refine lv_aload_n hx hb dL_law_588 rfl (lv_at hl 3 rfl) ?_
  refine lv_iload_n hx hb dL_law_589 rfl (lv_at hl 0 rfl) ?_
  refine lv_iconst (v := 3) hx hb dL_law_590 (by decide) ?_
  refine lv_iadd hx hb dL_law_591 ?_
  refine va_sld hx hb hX hbl hbA h.2.2 (ix_of (oI_add (oI_at x3) (oI_lit (x := 3) (a := 3) rfl)) (by omega) (by omega)) dL_law_592 ?_
  refine g_callVU (F_X8_pass σ (xs (x3 + (1 : Int32)).toNatClampNeg) (xs (x3 + (2 : Int32)).toNatClampNeg) (xs (x3 + (3 : Int32)).toNatClampNeg)) (fun y => gws ad cI cZ y τ) (rest := []) E h (c_X8_pass l D cI cZ s.heap.size ad σ τ (xs (x3 + (1 : Int32)).toNatClampNeg) (xs (x3 + (2 : Int32)).toNatClampNeg) (xs (x3 + (3 : Int32)).toNatClampNeg) hp.1 hp.2) mw_640 cbX8_pass 0 rfl rfl ⟨by decide, by decide⟩ rfl rfl hl.1 (Nat.le_of_ble_eq_true rfl) ⟨by decide, by decide⟩ dL_law_593 (fun u huu H locs h => ?_)
  refine lv_aload_n hx hb dL_law_596 rfl (lv_at hl 1 rfl) ?_
  refine lv_aload_n hx hb dL_law_597 rfl (lv_at hl 3 rfl) ?_
  refine lv_iload_n hx hb dL_law_598 rfl (lv_at hl 0 rfl) ?_
  refine lv_iconst (v := 1) hx hb dL_law_599 (by decide) ?_
  refine lv_iadd hx hb dL_law_600 ?_
  refine va_sld hx hb hX hbl hbA h.2.2 (ix_of (oI_add (oI_at x3) (oI_lit (x := 1) (a := 1) rfl)) (by omega) (by omega)) dL_law_601 ?_
  refine lv_aload_n hx hb dL_law_602 rfl (lv_at hl 3 rfl) ?_
  refine lv_iload_n hx hb dL_law_603 rfl (lv_at hl 0 rfl) ?_
  refine lv_iconst (v := 2) hx hb dL_law_604 (by decide) ?_
  refine lv_iadd hx hb dL_law_605 ?_
  refine va_sld hx hb hX hbl hbA h.2.2 (ix_of (oI_add (oI_at x3) (oI_lit (x := 2) (a := 2) rfl)) (by omega) (by omega)) dL_law_606 ?_
  refine lv_aload_n hx hb dL_law_607 rfl (lv_at hl 3 rfl) ?_
  refine lv_iload_n hx hb dL_law_608 rfl (lv_at hl 0 rfl) ?_
  refine lv_iconst (v := 3) hx hb dL_law_609 (by decide) ?_
  refine lv_iadd hx hb dL_law_610 ?_
  refine va_sld hx hb hX hbl hbA h.2.2 (ix_of (oI_add (oI_at x3) (oI_lit (x := 3) (a := 3) rfl)) (by omega) (by omega)) dL_law_611 ?_
  refine g_callVU (F_X9_pass τ (xs (x3 + (1 : Int32)).toNatClampNeg) (xs (x3 + (2 : Int32)).toNatClampNeg) (xs (x3 + (3 : Int32)).toNatClampNeg)) (fun y => gws ad cI cZ u.2 y) (rest := [.int u.1]) E h (c_X9_pass l D cI cZ s.heap.size ad u.2 τ (xs (x3 + (1 : Int32)).toNatClampNeg) (xs (x3 + (2 : Int32)).toNatClampNeg) (xs (x3 + (3 : Int32)).toNatClampNeg) hq.1 hq.2.1 hq.2.2.1 hq.2.2.2.1 hq.2.2.2.2.1 hq.2.2.2.2.2) mw_1022 cbX9_pass 48 rfl rfl ⟨by decide, by decide⟩ rfl rfl hl.1 (Nat.le_of_ble_eq_true rfl) ⟨by decide, by decide⟩ dL_law_612 (fun w huw H locs h => ?_)
  rw [huu] at he
  rw [huw] at he
  rw [huu] at hR2
  rw [huw] at hR2
  refine lv_icmp_eq (tgt := 923) hx hb dL_law_615 (by decide) (fun c1 => ?_) (fun c1 => absurd he c1)
  exact kk ad _ _ _ _ ls hR2 h hl

set_option maxHeartbeats 4000000 in
theorem law_ring {p : Program} {l : Launch} {e : Env} {s : State} {m : MethodId} {below : List Frame} {meth : Method} {c : Code} {H : Heap} {locs : List Loc} {Q : State → Prop} {D : va_G} {cI cZ : ClassId} {b L : Nat} {xs : Nat → Int32} {ls : Array Slot} (RR : St → St → Prop) (hst : St_ring RR) (E : gE p s m #[Value.ref b] c cL_law 4 RL D cI cZ s.heap.size) (hX : va_X b L xs s s.heap) (hbl : b < s.heap.size) (hL : L ≤ 448) (x3 : Int32) (hi : 0 ≤ x3.toInt ∧ x3.toInt + 7 ≤ L) (ad : Nat → Nat) (σ τ : St) (hR : RR σ τ) (h : gH D s.heap.size s (gws ad cI cZ σ τ) H locs) (hl : lv_has ls 4 [(3, .int x3), (2, .ref (ad 48)), (1, .ref (ad 0)), (0, .ref b)]) (kk : ∀ (ad : Nat → Nat) (σ τ : St) (H : Heap) (locs : List Loc) (ls : Array Slot), RR σ τ → gH D s.heap.size s (gws ad cI cZ σ τ) H locs → lv_has ls 4 [(3, .int x3), (2, .ref (ad 48)), (1, .ref (ad 0)), (0, .ref b)] → W p l e room_1 s m #[Value.ref b] below meth c H locs 600000 7302250 Q (F0 m 923 ls [])) : W p l e room_1 s m #[Value.ref b] below meth c H locs 600000 7302250 Q (F0 m 620 ls []) := by
  have hx := E.1
  have hb := E.2.1
  have hbA : ¬ (gA s.heap.size) b := Nat.not_le.mpr hbl
  obtain ⟨hp, hq, he, hR2⟩ := hst σ τ (xs (x3 + (1 : Int32)).toNatClampNeg) hR
  refine lv_aload_n hx hb dL_law_620 rfl (lv_at hl 2 rfl) ?_
  refine lv_aload_n hx hb dL_law_621 rfl (lv_at hl 3 rfl) ?_
  refine lv_iload_n hx hb dL_law_622 rfl (lv_at hl 0 rfl) ?_
  refine lv_iconst (v := 1) hx hb dL_law_623 (by decide) ?_
  refine lv_iadd hx hb dL_law_624 ?_
  refine va_sld hx hb hX hbl hbA h.2.2 (ix_of (oI_add (oI_at x3) (oI_lit (x := 1) (a := 1) rfl)) (by omega) (by omega)) dL_law_625 ?_
  refine g_callVU (F_X8_ring σ (xs (x3 + (1 : Int32)).toNatClampNeg)) (fun y => gws ad cI cZ y τ) (rest := []) E h (c_X8_ring l D cI cZ s.heap.size ad σ τ (xs (x3 + (1 : Int32)).toNatClampNeg) hp) mw_670 cbX8_ring 0 rfl rfl ⟨by decide, by decide⟩ rfl rfl hl.1 (Nat.le_of_ble_eq_true rfl) ⟨by decide, by decide⟩ dL_law_626 (fun u huu H locs h => ?_)
  refine lv_aload_n hx hb dL_law_629 rfl (lv_at hl 1 rfl) ?_
  refine lv_aload_n hx hb dL_law_630 rfl (lv_at hl 3 rfl) ?_
  refine lv_iload_n hx hb dL_law_631 rfl (lv_at hl 0 rfl) ?_
  refine lv_iconst (v := 1) hx hb dL_law_632 (by decide) ?_
  refine lv_iadd hx hb dL_law_633 ?_
  refine va_sld hx hb hX hbl hbA h.2.2 (ix_of (oI_add (oI_at x3) (oI_lit (x := 1) (a := 1) rfl)) (by omega) (by omega)) dL_law_634 ?_
  refine g_callVU (F_X9_ring τ (xs (x3 + (1 : Int32)).toNatClampNeg)) (fun y => gws ad cI cZ u.2 y) (rest := [.int u.1]) E h (c_X9_ring l D cI cZ s.heap.size ad u.2 τ (xs (x3 + (1 : Int32)).toNatClampNeg) hq.1 hq.2.1 hq.2.2) mw_1030 cbX9_ring 48 rfl rfl ⟨by decide, by decide⟩ rfl rfl hl.1 (Nat.le_of_ble_eq_true rfl) ⟨by decide, by decide⟩ dL_law_635 (fun w huw H locs h => ?_)
  rw [huu] at he
  rw [huw] at he
  rw [huu] at hR2
  rw [huw] at hR2
  refine lv_icmp_eq (tgt := 923) hx hb dL_law_638 (by decide) (fun c1 => ?_) (fun c1 => absurd he c1)
  exact kk ad _ _ _ _ ls hR2 h hl

set_option maxHeartbeats 4000000 in
theorem law_safe {p : Program} {l : Launch} {e : Env} {s : State} {m : MethodId} {below : List Frame} {meth : Method} {c : Code} {H : Heap} {locs : List Loc} {Q : State → Prop} {D : va_G} {cI cZ : ClassId} {b L : Nat} {xs : Nat → Int32} {ls : Array Slot} (RR : St → St → Prop) (hst : St_safe RR) (E : gE p s m #[Value.ref b] c cL_law 4 RL D cI cZ s.heap.size) (hX : va_X b L xs s s.heap) (hbl : b < s.heap.size) (hL : L ≤ 448) (x3 : Int32) (hi : 0 ≤ x3.toInt ∧ x3.toInt + 7 ≤ L) (ad : Nat → Nat) (σ τ : St) (hR : RR σ τ) (h : gH D s.heap.size s (gws ad cI cZ σ τ) H locs) (hl : lv_has ls 4 [(3, .int x3), (2, .ref (ad 48)), (1, .ref (ad 0)), (0, .ref b)]) (kk : ∀ (ad : Nat → Nat) (σ τ : St) (H : Heap) (locs : List Loc) (ls : Array Slot), RR σ τ → gH D s.heap.size s (gws ad cI cZ σ τ) H locs → lv_has ls 4 [(3, .int x3), (2, .ref (ad 48)), (1, .ref (ad 0)), (0, .ref b)] → W p l e room_1 s m #[Value.ref b] below meth c H locs 600000 7302250 Q (F0 m 923 ls [])) : W p l e room_1 s m #[Value.ref b] below meth c H locs 600000 7302250 Q (F0 m 643 ls []) := by
  have hx := E.1
  have hb := E.2.1
  have hbA : ¬ (gA s.heap.size) b := Nat.not_le.mpr hbl
  obtain ⟨hp, hq, he, hR2⟩ := hst σ τ (xs (x3 + (1 : Int32)).toNatClampNeg) (xs (x3 + (2 : Int32)).toNatClampNeg) (xs (x3 + (3 : Int32)).toNatClampNeg) (xs (x3 + (4 : Int32)).toNatClampNeg) (xs (x3 + (5 : Int32)).toNatClampNeg) (xs (x3 + (6 : Int32)).toNatClampNeg) hR
  refine lv_aload_n hx hb dL_law_643 rfl (lv_at hl 2 rfl) ?_
  refine lv_aload_n hx hb dL_law_644 rfl (lv_at hl 3 rfl) ?_
  refine lv_iload_n hx hb dL_law_645 rfl (lv_at hl 0 rfl) ?_
  refine lv_iconst (v := 1) hx hb dL_law_646 (by decide) ?_
  refine lv_iadd hx hb dL_law_647 ?_
  refine va_sld hx hb hX hbl hbA h.2.2 (ix_of (oI_add (oI_at x3) (oI_lit (x := 1) (a := 1) rfl)) (by omega) (by omega)) dL_law_648 ?_
  refine lv_aload_n hx hb dL_law_649 rfl (lv_at hl 3 rfl) ?_
  refine lv_iload_n hx hb dL_law_650 rfl (lv_at hl 0 rfl) ?_
  refine lv_iconst (v := 2) hx hb dL_law_651 (by decide) ?_
  refine lv_iadd hx hb dL_law_652 ?_
  refine va_sld hx hb hX hbl hbA h.2.2 (ix_of (oI_add (oI_at x3) (oI_lit (x := 2) (a := 2) rfl)) (by omega) (by omega)) dL_law_653 ?_
  refine lv_aload_n hx hb dL_law_654 rfl (lv_at hl 3 rfl) ?_
  refine lv_iload_n hx hb dL_law_655 rfl (lv_at hl 0 rfl) ?_
  refine lv_iconst (v := 3) hx hb dL_law_656 (by decide) ?_
  refine lv_iadd hx hb dL_law_657 ?_
  refine va_sld hx hb hX hbl hbA h.2.2 (ix_of (oI_add (oI_at x3) (oI_lit (x := 3) (a := 3) rfl)) (by omega) (by omega)) dL_law_658 ?_
  refine lv_aload_n hx hb dL_law_659 rfl (lv_at hl 3 rfl) ?_
  refine lv_iload_n hx hb dL_law_660 rfl (lv_at hl 0 rfl) ?_
  refine lv_iconst (v := 4) hx hb dL_law_661 (by decide) ?_
  refine lv_iadd hx hb dL_law_662 ?_
  refine va_sld hx hb hX hbl hbA h.2.2 (ix_of (oI_add (oI_at x3) (oI_lit (x := 4) (a := 4) rfl)) (by omega) (by omega)) dL_law_663 ?_
  refine lv_aload_n hx hb dL_law_664 rfl (lv_at hl 3 rfl) ?_
  refine lv_iload_n hx hb dL_law_665 rfl (lv_at hl 0 rfl) ?_
  refine lv_iconst (v := 5) hx hb dL_law_666 (by decide) ?_
  refine lv_iadd hx hb dL_law_667 ?_
  refine va_sld hx hb hX hbl hbA h.2.2 (ix_of (oI_add (oI_at x3) (oI_lit (x := 5) (a := 5) rfl)) (by omega) (by omega)) dL_law_668 ?_
  refine lv_aload_n hx hb dL_law_669 rfl (lv_at hl 3 rfl) ?_
  refine lv_iload_n hx hb dL_law_670 rfl (lv_at hl 0 rfl) ?_
  refine lv_bipush (v := 6) hx hb dL_law_671 (by decide) ?_
  refine lv_iadd hx hb dL_law_673 ?_
  refine va_sld hx hb hX hbl hbA h.2.2 (ix_of (oI_add (oI_at x3) (oI_lit (x := 6) (a := 6) rfl)) (by omega) (by omega)) dL_law_674 ?_
  refine g_callVh (F_X8_safe σ (xs (x3 + (1 : Int32)).toNatClampNeg) (xs (x3 + (2 : Int32)).toNatClampNeg) (xs (x3 + (3 : Int32)).toNatClampNeg) (xs (x3 + (4 : Int32)).toNatClampNeg) (xs (x3 + (5 : Int32)).toNatClampNeg) (xs (x3 + (6 : Int32)).toNatClampNeg)) (rest := []) E h (c_X8_safe l D cI cZ s.heap.size ad σ τ (xs (x3 + (1 : Int32)).toNatClampNeg) (xs (x3 + (2 : Int32)).toNatClampNeg) (xs (x3 + (3 : Int32)).toNatClampNeg) (xs (x3 + (4 : Int32)).toNatClampNeg) (xs (x3 + (5 : Int32)).toNatClampNeg) (xs (x3 + (6 : Int32)).toNatClampNeg)) mw_674 cbX8_safe 0 rfl rfl ⟨by decide, by decide⟩ rfl rfl hl.1 (Nat.le_of_ble_eq_true rfl) ⟨by decide, by decide⟩ dL_law_675 (fun u huu H locs h => ?_)
  refine lv_aload_n hx hb dL_law_678 rfl (lv_at hl 1 rfl) ?_
  refine lv_aload_n hx hb dL_law_679 rfl (lv_at hl 3 rfl) ?_
  refine lv_iload_n hx hb dL_law_680 rfl (lv_at hl 0 rfl) ?_
  refine lv_iconst (v := 1) hx hb dL_law_681 (by decide) ?_
  refine lv_iadd hx hb dL_law_682 ?_
  refine va_sld hx hb hX hbl hbA h.2.2 (ix_of (oI_add (oI_at x3) (oI_lit (x := 1) (a := 1) rfl)) (by omega) (by omega)) dL_law_683 ?_
  refine lv_aload_n hx hb dL_law_684 rfl (lv_at hl 3 rfl) ?_
  refine lv_iload_n hx hb dL_law_685 rfl (lv_at hl 0 rfl) ?_
  refine lv_iconst (v := 2) hx hb dL_law_686 (by decide) ?_
  refine lv_iadd hx hb dL_law_687 ?_
  refine va_sld hx hb hX hbl hbA h.2.2 (ix_of (oI_add (oI_at x3) (oI_lit (x := 2) (a := 2) rfl)) (by omega) (by omega)) dL_law_688 ?_
  refine lv_aload_n hx hb dL_law_689 rfl (lv_at hl 3 rfl) ?_
  refine lv_iload_n hx hb dL_law_690 rfl (lv_at hl 0 rfl) ?_
  refine lv_iconst (v := 3) hx hb dL_law_691 (by decide) ?_
  refine lv_iadd hx hb dL_law_692 ?_
  refine va_sld hx hb hX hbl hbA h.2.2 (ix_of (oI_add (oI_at x3) (oI_lit (x := 3) (a := 3) rfl)) (by omega) (by omega)) dL_law_693 ?_
  refine lv_aload_n hx hb dL_law_694 rfl (lv_at hl 3 rfl) ?_
  refine lv_iload_n hx hb dL_law_695 rfl (lv_at hl 0 rfl) ?_
  refine lv_iconst (v := 4) hx hb dL_law_696 (by decide) ?_
  refine lv_iadd hx hb dL_law_697 ?_
  refine va_sld hx hb hX hbl hbA h.2.2 (ix_of (oI_add (oI_at x3) (oI_lit (x := 4) (a := 4) rfl)) (by omega) (by omega)) dL_law_698 ?_
  refine lv_aload_n hx hb dL_law_699 rfl (lv_at hl 3 rfl) ?_
  refine lv_iload_n hx hb dL_law_700 rfl (lv_at hl 0 rfl) ?_
  refine lv_iconst (v := 5) hx hb dL_law_701 (by decide) ?_
  refine lv_iadd hx hb dL_law_702 ?_
  refine va_sld hx hb hX hbl hbA h.2.2 (ix_of (oI_add (oI_at x3) (oI_lit (x := 5) (a := 5) rfl)) (by omega) (by omega)) dL_law_703 ?_
  refine lv_aload_n hx hb dL_law_704 rfl (lv_at hl 3 rfl) ?_
  refine lv_iload_n hx hb dL_law_705 rfl (lv_at hl 0 rfl) ?_
  refine lv_bipush (v := 6) hx hb dL_law_706 (by decide) ?_
  refine lv_iadd hx hb dL_law_708 ?_
  refine va_sld hx hb hX hbl hbA h.2.2 (ix_of (oI_add (oI_at x3) (oI_lit (x := 6) (a := 6) rfl)) (by omega) (by omega)) dL_law_709 ?_
  refine g_callVh (F_X9_safe τ (xs (x3 + (1 : Int32)).toNatClampNeg) (xs (x3 + (2 : Int32)).toNatClampNeg) (xs (x3 + (3 : Int32)).toNatClampNeg) (xs (x3 + (4 : Int32)).toNatClampNeg) (xs (x3 + (5 : Int32)).toNatClampNeg) (xs (x3 + (6 : Int32)).toNatClampNeg)) (rest := [.int u]) E h (c_X9_safe l D cI cZ s.heap.size ad σ τ (xs (x3 + (1 : Int32)).toNatClampNeg) (xs (x3 + (2 : Int32)).toNatClampNeg) (xs (x3 + (3 : Int32)).toNatClampNeg) (xs (x3 + (4 : Int32)).toNatClampNeg) (xs (x3 + (5 : Int32)).toNatClampNeg) (xs (x3 + (6 : Int32)).toNatClampNeg) hq) mw_1034 cbX9_safe 48 rfl rfl ⟨by decide, by decide⟩ rfl rfl hl.1 (Nat.le_of_ble_eq_true rfl) ⟨by decide, by decide⟩ dL_law_710 (fun w huw H locs h => ?_)
  rw [huu] at he
  rw [huw] at he
  refine lv_icmp_eq (tgt := 923) hx hb dL_law_713 (by decide) (fun c1 => ?_) (fun c1 => absurd he c1)
  exact kk ad _ _ _ _ ls hR2 h hl

set_option maxHeartbeats 4000000 in
theorem law_hears {p : Program} {l : Launch} {e : Env} {s : State} {m : MethodId} {below : List Frame} {meth : Method} {c : Code} {H : Heap} {locs : List Loc} {Q : State → Prop} {D : va_G} {cI cZ : ClassId} {b L : Nat} {xs : Nat → Int32} {ls : Array Slot} (RR : St → St → Prop) (hst : St_hears RR) (E : gE p s m #[Value.ref b] c cL_law 4 RL D cI cZ s.heap.size) (hX : va_X b L xs s s.heap) (hbl : b < s.heap.size) (hL : L ≤ 448) (x3 : Int32) (hi : 0 ≤ x3.toInt ∧ x3.toInt + 7 ≤ L) (ad : Nat → Nat) (σ τ : St) (hR : RR σ τ) (h : gH D s.heap.size s (gws ad cI cZ σ τ) H locs) (hl : lv_has ls 4 [(3, .int x3), (2, .ref (ad 48)), (1, .ref (ad 0)), (0, .ref b)]) (kk : ∀ (ad : Nat → Nat) (σ τ : St) (H : Heap) (locs : List Loc) (ls : Array Slot), RR σ τ → gH D s.heap.size s (gws ad cI cZ σ τ) H locs → lv_has ls 4 [(3, .int x3), (2, .ref (ad 48)), (1, .ref (ad 0)), (0, .ref b)] → W p l e room_1 s m #[Value.ref b] below meth c H locs 600000 7302250 Q (F0 m 923 ls [])) : W p l e room_1 s m #[Value.ref b] below meth c H locs 600000 7302250 Q (F0 m 718 ls []) := by
  have hx := E.1
  have hb := E.2.1
  have hbA : ¬ (gA s.heap.size) b := Nat.not_le.mpr hbl
  obtain ⟨hp, hq, he, hR2⟩ := hst σ τ (xs (x3 + (1 : Int32)).toNatClampNeg) (xs (x3 + (2 : Int32)).toNatClampNeg) (xs (x3 + (3 : Int32)).toNatClampNeg) (xs (x3 + (4 : Int32)).toNatClampNeg) hR
  refine lv_aload_n hx hb dL_law_718 rfl (lv_at hl 2 rfl) ?_
  refine lv_aload_n hx hb dL_law_719 rfl (lv_at hl 3 rfl) ?_
  refine lv_iload_n hx hb dL_law_720 rfl (lv_at hl 0 rfl) ?_
  refine lv_iconst (v := 1) hx hb dL_law_721 (by decide) ?_
  refine lv_iadd hx hb dL_law_722 ?_
  refine va_sld hx hb hX hbl hbA h.2.2 (ix_of (oI_add (oI_at x3) (oI_lit (x := 1) (a := 1) rfl)) (by omega) (by omega)) dL_law_723 ?_
  refine lv_aload_n hx hb dL_law_724 rfl (lv_at hl 3 rfl) ?_
  refine lv_iload_n hx hb dL_law_725 rfl (lv_at hl 0 rfl) ?_
  refine lv_iconst (v := 2) hx hb dL_law_726 (by decide) ?_
  refine lv_iadd hx hb dL_law_727 ?_
  refine va_sld hx hb hX hbl hbA h.2.2 (ix_of (oI_add (oI_at x3) (oI_lit (x := 2) (a := 2) rfl)) (by omega) (by omega)) dL_law_728 ?_
  refine lv_aload_n hx hb dL_law_729 rfl (lv_at hl 3 rfl) ?_
  refine lv_iload_n hx hb dL_law_730 rfl (lv_at hl 0 rfl) ?_
  refine lv_iconst (v := 3) hx hb dL_law_731 (by decide) ?_
  refine lv_iadd hx hb dL_law_732 ?_
  refine va_sld hx hb hX hbl hbA h.2.2 (ix_of (oI_add (oI_at x3) (oI_lit (x := 3) (a := 3) rfl)) (by omega) (by omega)) dL_law_733 ?_
  refine lv_aload_n hx hb dL_law_734 rfl (lv_at hl 3 rfl) ?_
  refine lv_iload_n hx hb dL_law_735 rfl (lv_at hl 0 rfl) ?_
  refine lv_iconst (v := 4) hx hb dL_law_736 (by decide) ?_
  refine lv_iadd hx hb dL_law_737 ?_
  refine va_sld hx hb hX hbl hbA h.2.2 (ix_of (oI_add (oI_at x3) (oI_lit (x := 4) (a := 4) rfl)) (by omega) (by omega)) dL_law_738 ?_
  refine g_callVU (F_X8_hears σ (xs (x3 + (1 : Int32)).toNatClampNeg) (xs (x3 + (2 : Int32)).toNatClampNeg) (xs (x3 + (3 : Int32)).toNatClampNeg) (xs (x3 + (4 : Int32)).toNatClampNeg)) (fun y => gws ad cI cZ y τ) (rest := []) E h (c_X8_hears l D cI cZ s.heap.size ad σ τ (xs (x3 + (1 : Int32)).toNatClampNeg) (xs (x3 + (2 : Int32)).toNatClampNeg) (xs (x3 + (3 : Int32)).toNatClampNeg) (xs (x3 + (4 : Int32)).toNatClampNeg) hp) mw_681 cbX8_hears 0 rfl rfl ⟨by decide, by decide⟩ rfl rfl hl.1 (Nat.le_of_ble_eq_true rfl) ⟨by decide, by decide⟩ dL_law_739 (fun u huu H locs h => ?_)
  refine lv_aload_n hx hb dL_law_742 rfl (lv_at hl 1 rfl) ?_
  refine lv_aload_n hx hb dL_law_743 rfl (lv_at hl 3 rfl) ?_
  refine lv_iload_n hx hb dL_law_744 rfl (lv_at hl 0 rfl) ?_
  refine lv_iconst (v := 1) hx hb dL_law_745 (by decide) ?_
  refine lv_iadd hx hb dL_law_746 ?_
  refine va_sld hx hb hX hbl hbA h.2.2 (ix_of (oI_add (oI_at x3) (oI_lit (x := 1) (a := 1) rfl)) (by omega) (by omega)) dL_law_747 ?_
  refine lv_aload_n hx hb dL_law_748 rfl (lv_at hl 3 rfl) ?_
  refine lv_iload_n hx hb dL_law_749 rfl (lv_at hl 0 rfl) ?_
  refine lv_iconst (v := 2) hx hb dL_law_750 (by decide) ?_
  refine lv_iadd hx hb dL_law_751 ?_
  refine va_sld hx hb hX hbl hbA h.2.2 (ix_of (oI_add (oI_at x3) (oI_lit (x := 2) (a := 2) rfl)) (by omega) (by omega)) dL_law_752 ?_
  refine lv_aload_n hx hb dL_law_753 rfl (lv_at hl 3 rfl) ?_
  refine lv_iload_n hx hb dL_law_754 rfl (lv_at hl 0 rfl) ?_
  refine lv_iconst (v := 3) hx hb dL_law_755 (by decide) ?_
  refine lv_iadd hx hb dL_law_756 ?_
  refine va_sld hx hb hX hbl hbA h.2.2 (ix_of (oI_add (oI_at x3) (oI_lit (x := 3) (a := 3) rfl)) (by omega) (by omega)) dL_law_757 ?_
  refine lv_aload_n hx hb dL_law_758 rfl (lv_at hl 3 rfl) ?_
  refine lv_iload_n hx hb dL_law_759 rfl (lv_at hl 0 rfl) ?_
  refine lv_iconst (v := 4) hx hb dL_law_760 (by decide) ?_
  refine lv_iadd hx hb dL_law_761 ?_
  refine va_sld hx hb hX hbl hbA h.2.2 (ix_of (oI_add (oI_at x3) (oI_lit (x := 4) (a := 4) rfl)) (by omega) (by omega)) dL_law_762 ?_
  refine g_callVU (F_X9_hears τ (xs (x3 + (1 : Int32)).toNatClampNeg) (xs (x3 + (2 : Int32)).toNatClampNeg) (xs (x3 + (3 : Int32)).toNatClampNeg) (xs (x3 + (4 : Int32)).toNatClampNeg)) (fun y => gws ad cI cZ u.2 y) (rest := [.int u.1]) E h (c_X9_hears l D cI cZ s.heap.size ad u.2 τ (xs (x3 + (1 : Int32)).toNatClampNeg) (xs (x3 + (2 : Int32)).toNatClampNeg) (xs (x3 + (3 : Int32)).toNatClampNeg) (xs (x3 + (4 : Int32)).toNatClampNeg) hq.1 hq.2.1 hq.2.2) mw_1038 cbX9_hears 48 rfl rfl ⟨by decide, by decide⟩ rfl rfl hl.1 (Nat.le_of_ble_eq_true rfl) ⟨by decide, by decide⟩ dL_law_763 (fun w huw H locs h => ?_)
  rw [huu] at he
  rw [huw] at he
  rw [huu] at hR2
  rw [huw] at hR2
  refine lv_icmp_eq (tgt := 923) hx hb dL_law_766 (by decide) (fun c1 => ?_) (fun c1 => absurd he c1)
  exact kk ad _ _ _ _ ls hR2 h hl

set_option maxHeartbeats 4000000 in
theorem law_forget {p : Program} {l : Launch} {e : Env} {s : State} {m : MethodId} {below : List Frame} {meth : Method} {c : Code} {H : Heap} {locs : List Loc} {Q : State → Prop} {D : va_G} {cI cZ : ClassId} {b L : Nat} {xs : Nat → Int32} {ls : Array Slot} (RR : St → St → Prop) (hst : St_forget RR) (E : gE p s m #[Value.ref b] c cL_law 4 RL D cI cZ s.heap.size) (hX : va_X b L xs s s.heap) (hbl : b < s.heap.size) (hL : L ≤ 448) (x3 : Int32) (hi : 0 ≤ x3.toInt ∧ x3.toInt + 7 ≤ L) (ad : Nat → Nat) (σ τ : St) (hR : RR σ τ) (h : gH D s.heap.size s (gws ad cI cZ σ τ) H locs) (hl : lv_has ls 4 [(3, .int x3), (2, .ref (ad 48)), (1, .ref (ad 0)), (0, .ref b)]) (kk : ∀ (ad : Nat → Nat) (σ τ : St) (H : Heap) (locs : List Loc) (ls : Array Slot), RR σ τ → gH D s.heap.size s (gws ad cI cZ σ τ) H locs → lv_has ls 4 [(3, .int x3), (2, .ref (ad 48)), (1, .ref (ad 0)), (0, .ref b)] → W p l e room_1 s m #[Value.ref b] below meth c H locs 600000 7302250 Q (F0 m 923 ls [])) : W p l e room_1 s m #[Value.ref b] below meth c H locs 600000 7302250 Q (F0 m 771 ls []) := by
  have hx := E.1
  have hb := E.2.1
  have hbA : ¬ (gA s.heap.size) b := Nat.not_le.mpr hbl
  obtain ⟨hp, hq, he, hR2⟩ := hst σ τ  hR
  refine lv_aload_n hx hb dL_law_771 rfl (lv_at hl 2 rfl) ?_
  refine g_callVU (F_X8_forget σ) (fun y => gws ad cI cZ y τ) (rest := []) E h (c_X8_forget l D cI cZ s.heap.size ad σ τ) mw_689 cbX8_forget 0 rfl rfl ⟨by decide, by decide⟩ rfl rfl hl.1 (Nat.le_of_ble_eq_true rfl) ⟨by decide, by decide⟩ dL_law_772 (fun u huu H locs h => ?_)
  refine lv_aload_n hx hb dL_law_775 rfl (lv_at hl 1 rfl) ?_
  refine g_callVU (F_X9_forget τ) (fun y => gws ad cI cZ u.2 y) (rest := [.int u.1]) E h (c_X9_forget l D cI cZ s.heap.size ad u.2 τ) mw_1042 cbX9_forget 48 rfl rfl ⟨by decide, by decide⟩ rfl rfl hl.1 (Nat.le_of_ble_eq_true rfl) ⟨by decide, by decide⟩ dL_law_776 (fun w huw H locs h => ?_)
  rw [huu] at he
  rw [huw] at he
  rw [huu] at hR2
  rw [huw] at hR2
  refine lv_icmp_eq (tgt := 923) hx hb dL_law_779 (by decide) (fun c1 => ?_) (fun c1 => absurd he c1)
  exact kk ad _ _ _ _ ls hR2 h hl

set_option maxHeartbeats 4000000 in
theorem law_stones {p : Program} {l : Launch} {e : Env} {s : State} {m : MethodId} {below : List Frame} {meth : Method} {c : Code} {H : Heap} {locs : List Loc} {Q : State → Prop} {D : va_G} {cI cZ : ClassId} {b L : Nat} {xs : Nat → Int32} {ls : Array Slot} (RR : St → St → Prop) (hst : St_stones RR) (E : gE p s m #[Value.ref b] c cL_law 4 RL D cI cZ s.heap.size) (hX : va_X b L xs s s.heap) (hbl : b < s.heap.size) (hL : L ≤ 448) (x3 : Int32) (hi : 0 ≤ x3.toInt ∧ x3.toInt + 7 ≤ L) (ad : Nat → Nat) (σ τ : St) (hR : RR σ τ) (h : gH D s.heap.size s (gws ad cI cZ σ τ) H locs) (hl : lv_has ls 4 [(3, .int x3), (2, .ref (ad 48)), (1, .ref (ad 0)), (0, .ref b)]) (kk : ∀ (ad : Nat → Nat) (σ τ : St) (H : Heap) (locs : List Loc) (ls : Array Slot), RR σ τ → gH D s.heap.size s (gws ad cI cZ σ τ) H locs → lv_has ls 4 [(3, .int x3), (2, .ref (ad 48)), (1, .ref (ad 0)), (0, .ref b)] → W p l e room_1 s m #[Value.ref b] below meth c H locs 600000 7302250 Q (F0 m 923 ls [])) : W p l e room_1 s m #[Value.ref b] below meth c H locs 600000 7302250 Q (F0 m 784 ls []) := by
  have hx := E.1
  have hb := E.2.1
  have hbA : ¬ (gA s.heap.size) b := Nat.not_le.mpr hbl
  obtain ⟨hp, hq, he, hR2⟩ := hst σ τ (xs (x3 + (1 : Int32)).toNatClampNeg) hR
  refine lv_aload_n hx hb dL_law_784 rfl (lv_at hl 2 rfl) ?_
  refine lv_aload_n hx hb dL_law_785 rfl (lv_at hl 3 rfl) ?_
  refine lv_iload_n hx hb dL_law_786 rfl (lv_at hl 0 rfl) ?_
  refine lv_iconst (v := 1) hx hb dL_law_787 (by decide) ?_
  refine lv_iadd hx hb dL_law_788 ?_
  refine va_sld hx hb hX hbl hbA h.2.2 (ix_of (oI_add (oI_at x3) (oI_lit (x := 1) (a := 1) rfl)) (by omega) (by omega)) dL_law_789 ?_
  refine g_callVh (F_X8_stones σ (xs (x3 + (1 : Int32)).toNatClampNeg)) (rest := []) E h (c_X8_stones l D cI cZ s.heap.size ad σ τ (xs (x3 + (1 : Int32)).toNatClampNeg)) mw_693 cbX8_stones 0 rfl rfl ⟨by decide, by decide⟩ rfl rfl hl.1 (Nat.le_of_ble_eq_true rfl) ⟨by decide, by decide⟩ dL_law_790 (fun u huu H locs h => ?_)
  refine lv_aload_n hx hb dL_law_793 rfl (lv_at hl 1 rfl) ?_
  refine lv_aload_n hx hb dL_law_794 rfl (lv_at hl 3 rfl) ?_
  refine lv_iload_n hx hb dL_law_795 rfl (lv_at hl 0 rfl) ?_
  refine lv_iconst (v := 1) hx hb dL_law_796 (by decide) ?_
  refine lv_iadd hx hb dL_law_797 ?_
  refine va_sld hx hb hX hbl hbA h.2.2 (ix_of (oI_add (oI_at x3) (oI_lit (x := 1) (a := 1) rfl)) (by omega) (by omega)) dL_law_798 ?_
  refine g_callVh (F_X9_stones τ (xs (x3 + (1 : Int32)).toNatClampNeg)) (rest := [.int u]) E h (c_X9_stones l D cI cZ s.heap.size ad σ τ (xs (x3 + (1 : Int32)).toNatClampNeg) hq) mw_1046 cbX9_stones 48 rfl rfl ⟨by decide, by decide⟩ rfl rfl hl.1 (Nat.le_of_ble_eq_true rfl) ⟨by decide, by decide⟩ dL_law_799 (fun w huw H locs h => ?_)
  rw [huu] at he
  rw [huw] at he
  refine lv_icmp_eq (tgt := 923) hx hb dL_law_802 (by decide) (fun c1 => ?_) (fun c1 => absurd he c1)
  exact kk ad _ _ _ _ ls hR2 h hl

set_option maxHeartbeats 4000000 in
theorem law_mark {p : Program} {l : Launch} {e : Env} {s : State} {m : MethodId} {below : List Frame} {meth : Method} {c : Code} {H : Heap} {locs : List Loc} {Q : State → Prop} {D : va_G} {cI cZ : ClassId} {b L : Nat} {xs : Nat → Int32} {ls : Array Slot} (RR : St → St → Prop) (hst : St_mark RR) (E : gE p s m #[Value.ref b] c cL_law 4 RL D cI cZ s.heap.size) (hX : va_X b L xs s s.heap) (hbl : b < s.heap.size) (hL : L ≤ 448) (x3 : Int32) (hi : 0 ≤ x3.toInt ∧ x3.toInt + 7 ≤ L) (ad : Nat → Nat) (σ τ : St) (hR : RR σ τ) (h : gH D s.heap.size s (gws ad cI cZ σ τ) H locs) (hl : lv_has ls 4 [(3, .int x3), (2, .ref (ad 48)), (1, .ref (ad 0)), (0, .ref b)]) (kk : ∀ (ad : Nat → Nat) (σ τ : St) (H : Heap) (locs : List Loc) (ls : Array Slot), RR σ τ → gH D s.heap.size s (gws ad cI cZ σ τ) H locs → lv_has ls 4 [(3, .int x3), (2, .ref (ad 48)), (1, .ref (ad 0)), (0, .ref b)] → W p l e room_1 s m #[Value.ref b] below meth c H locs 600000 7302250 Q (F0 m 923 ls [])) : W p l e room_1 s m #[Value.ref b] below meth c H locs 600000 7302250 Q (F0 m 807 ls []) := by
  have hx := E.1
  have hb := E.2.1
  have hbA : ¬ (gA s.heap.size) b := Nat.not_le.mpr hbl
  obtain ⟨hp, hq, he, hR2⟩ := hst σ τ (xs (x3 + (1 : Int32)).toNatClampNeg) (xs (x3 + (2 : Int32)).toNatClampNeg) hR
  refine lv_aload_n hx hb dL_law_807 rfl (lv_at hl 2 rfl) ?_
  refine lv_aload_n hx hb dL_law_808 rfl (lv_at hl 3 rfl) ?_
  refine lv_iload_n hx hb dL_law_809 rfl (lv_at hl 0 rfl) ?_
  refine lv_iconst (v := 1) hx hb dL_law_810 (by decide) ?_
  refine lv_iadd hx hb dL_law_811 ?_
  refine va_sld hx hb hX hbl hbA h.2.2 (ix_of (oI_add (oI_at x3) (oI_lit (x := 1) (a := 1) rfl)) (by omega) (by omega)) dL_law_812 ?_
  refine lv_aload_n hx hb dL_law_813 rfl (lv_at hl 3 rfl) ?_
  refine lv_iload_n hx hb dL_law_814 rfl (lv_at hl 0 rfl) ?_
  refine lv_iconst (v := 2) hx hb dL_law_815 (by decide) ?_
  refine lv_iadd hx hb dL_law_816 ?_
  refine va_sld hx hb hX hbl hbA h.2.2 (ix_of (oI_add (oI_at x3) (oI_lit (x := 2) (a := 2) rfl)) (by omega) (by omega)) dL_law_817 ?_
  refine g_callVU (F_X8_mark σ (xs (x3 + (1 : Int32)).toNatClampNeg) (xs (x3 + (2 : Int32)).toNatClampNeg)) (fun y => gws ad cI cZ y τ) (rest := []) E h (c_X8_mark l D cI cZ s.heap.size ad σ τ (xs (x3 + (1 : Int32)).toNatClampNeg) (xs (x3 + (2 : Int32)).toNatClampNeg) hp) mw_706 cbX8_mark 0 rfl rfl ⟨by decide, by decide⟩ rfl rfl hl.1 (Nat.le_of_ble_eq_true rfl) ⟨by decide, by decide⟩ dL_law_818 (fun u huu H locs h => ?_)
  refine lv_aload_n hx hb dL_law_821 rfl (lv_at hl 1 rfl) ?_
  refine lv_aload_n hx hb dL_law_822 rfl (lv_at hl 3 rfl) ?_
  refine lv_iload_n hx hb dL_law_823 rfl (lv_at hl 0 rfl) ?_
  refine lv_iconst (v := 1) hx hb dL_law_824 (by decide) ?_
  refine lv_iadd hx hb dL_law_825 ?_
  refine va_sld hx hb hX hbl hbA h.2.2 (ix_of (oI_add (oI_at x3) (oI_lit (x := 1) (a := 1) rfl)) (by omega) (by omega)) dL_law_826 ?_
  refine lv_aload_n hx hb dL_law_827 rfl (lv_at hl 3 rfl) ?_
  refine lv_iload_n hx hb dL_law_828 rfl (lv_at hl 0 rfl) ?_
  refine lv_iconst (v := 2) hx hb dL_law_829 (by decide) ?_
  refine lv_iadd hx hb dL_law_830 ?_
  refine va_sld hx hb hX hbl hbA h.2.2 (ix_of (oI_add (oI_at x3) (oI_lit (x := 2) (a := 2) rfl)) (by omega) (by omega)) dL_law_831 ?_
  refine g_callVU (F_X9_mark τ (xs (x3 + (1 : Int32)).toNatClampNeg) (xs (x3 + (2 : Int32)).toNatClampNeg)) (fun y => gws ad cI cZ u.2 y) (rest := [.int u.1]) E h (c_X9_mark l D cI cZ s.heap.size ad u.2 τ (xs (x3 + (1 : Int32)).toNatClampNeg) (xs (x3 + (2 : Int32)).toNatClampNeg) hq.1 hq.2) mw_1050 cbX9_mark 48 rfl rfl ⟨by decide, by decide⟩ rfl rfl hl.1 (Nat.le_of_ble_eq_true rfl) ⟨by decide, by decide⟩ dL_law_832 (fun w huw H locs h => ?_)
  rw [huu] at he
  rw [huw] at he
  rw [huu] at hR2
  rw [huw] at hR2
  refine lv_icmp_eq (tgt := 923) hx hb dL_law_835 (by decide) (fun c1 => ?_) (fun c1 => absurd he c1)
  exact kk ad _ _ _ _ ls hR2 h hl

set_option maxHeartbeats 4000000 in
theorem law_keep {p : Program} {l : Launch} {e : Env} {s : State} {m : MethodId} {below : List Frame} {meth : Method} {c : Code} {H : Heap} {locs : List Loc} {Q : State → Prop} {D : va_G} {cI cZ : ClassId} {b L : Nat} {xs : Nat → Int32} {ls : Array Slot} (RR : St → St → Prop) (hst : St_keep RR) (E : gE p s m #[Value.ref b] c cL_law 4 RL D cI cZ s.heap.size) (hX : va_X b L xs s s.heap) (hbl : b < s.heap.size) (hL : L ≤ 448) (x3 : Int32) (hi : 0 ≤ x3.toInt ∧ x3.toInt + 7 ≤ L) (ad : Nat → Nat) (σ τ : St) (hR : RR σ τ) (h : gH D s.heap.size s (gws ad cI cZ σ τ) H locs) (hl : lv_has ls 4 [(3, .int x3), (2, .ref (ad 48)), (1, .ref (ad 0)), (0, .ref b)]) (kk : ∀ (ad : Nat → Nat) (σ τ : St) (H : Heap) (locs : List Loc) (ls : Array Slot), RR σ τ → gH D s.heap.size s (gws ad cI cZ σ τ) H locs → lv_has ls 4 [(3, .int x3), (2, .ref (ad 48)), (1, .ref (ad 0)), (0, .ref b)] → W p l e room_1 s m #[Value.ref b] below meth c H locs 600000 7302250 Q (F0 m 923 ls [])) : W p l e room_1 s m #[Value.ref b] below meth c H locs 600000 7302250 Q (F0 m 840 ls []) := by
  have hx := E.1
  have hb := E.2.1
  have hbA : ¬ (gA s.heap.size) b := Nat.not_le.mpr hbl
  obtain ⟨hp, hq, he, hR2⟩ := hst σ τ (xs (x3 + (1 : Int32)).toNatClampNeg) hR
  refine lv_aload_n hx hb dL_law_840 rfl (lv_at hl 2 rfl) ?_
  refine lv_aload_n hx hb dL_law_841 rfl (lv_at hl 3 rfl) ?_
  refine lv_iload_n hx hb dL_law_842 rfl (lv_at hl 0 rfl) ?_
  refine lv_iconst (v := 1) hx hb dL_law_843 (by decide) ?_
  refine lv_iadd hx hb dL_law_844 ?_
  refine va_sld hx hb hX hbl hbA h.2.2 (ix_of (oI_add (oI_at x3) (oI_lit (x := 1) (a := 1) rfl)) (by omega) (by omega)) dL_law_845 ?_
  refine g_callVU (F_X8_keep σ (xs (x3 + (1 : Int32)).toNatClampNeg)) (fun y => gws ad cI cZ y τ) (rest := []) E h (c_X8_keep l D cI cZ s.heap.size ad σ τ (xs (x3 + (1 : Int32)).toNatClampNeg)) mw_743 cbX8_keep 0 rfl rfl ⟨by decide, by decide⟩ rfl rfl hl.1 (Nat.le_of_ble_eq_true rfl) ⟨by decide, by decide⟩ dL_law_846 (fun u huu H locs h => ?_)
  refine lv_aload_n hx hb dL_law_849 rfl (lv_at hl 1 rfl) ?_
  refine lv_aload_n hx hb dL_law_850 rfl (lv_at hl 3 rfl) ?_
  refine lv_iload_n hx hb dL_law_851 rfl (lv_at hl 0 rfl) ?_
  refine lv_iconst (v := 1) hx hb dL_law_852 (by decide) ?_
  refine lv_iadd hx hb dL_law_853 ?_
  refine va_sld hx hb hX hbl hbA h.2.2 (ix_of (oI_add (oI_at x3) (oI_lit (x := 1) (a := 1) rfl)) (by omega) (by omega)) dL_law_854 ?_
  refine g_callVU (F_X9_keep τ (xs (x3 + (1 : Int32)).toNatClampNeg)) (fun y => gws ad cI cZ u.2 y) (rest := [.int u.1]) E h (c_X9_keep l D cI cZ s.heap.size ad u.2 τ (xs (x3 + (1 : Int32)).toNatClampNeg)) mw_1059 cbX9_keep 48 rfl rfl ⟨by decide, by decide⟩ rfl rfl hl.1 (Nat.le_of_ble_eq_true rfl) ⟨by decide, by decide⟩ dL_law_855 (fun w huw H locs h => ?_)
  rw [huu] at he
  rw [huw] at he
  rw [huu] at hR2
  rw [huw] at hR2
  refine lv_icmp_eq (tgt := 923) hx hb dL_law_858 (by decide) (fun c1 => ?_) (fun c1 => absurd he c1)
  exact kk ad _ _ _ _ ls hR2 h hl

set_option maxHeartbeats 4000000 in
theorem law_back {p : Program} {l : Launch} {e : Env} {s : State} {m : MethodId} {below : List Frame} {meth : Method} {c : Code} {H : Heap} {locs : List Loc} {Q : State → Prop} {D : va_G} {cI cZ : ClassId} {b L : Nat} {xs : Nat → Int32} {ls : Array Slot} (RR : St → St → Prop) (hst : St_back RR) (E : gE p s m #[Value.ref b] c cL_law 4 RL D cI cZ s.heap.size) (hX : va_X b L xs s s.heap) (hbl : b < s.heap.size) (hL : L ≤ 448) (x3 : Int32) (hi : 0 ≤ x3.toInt ∧ x3.toInt + 7 ≤ L) (ad : Nat → Nat) (σ τ : St) (hR : RR σ τ) (h : gH D s.heap.size s (gws ad cI cZ σ τ) H locs) (hl : lv_has ls 4 [(3, .int x3), (2, .ref (ad 48)), (1, .ref (ad 0)), (0, .ref b)]) (kk : ∀ (ad : Nat → Nat) (σ τ : St) (H : Heap) (locs : List Loc) (ls : Array Slot), RR σ τ → gH D s.heap.size s (gws ad cI cZ σ τ) H locs → lv_has ls 4 [(3, .int x3), (2, .ref (ad 48)), (1, .ref (ad 0)), (0, .ref b)] → W p l e room_1 s m #[Value.ref b] below meth c H locs 600000 7302250 Q (F0 m 923 ls [])) : W p l e room_1 s m #[Value.ref b] below meth c H locs 600000 7302250 Q (F0 m 863 ls []) := by
  have hx := E.1
  have hb := E.2.1
  have hbA : ¬ (gA s.heap.size) b := Nat.not_le.mpr hbl
  obtain ⟨hp, hq, he, hR2⟩ := hst σ τ (xs (x3 + (1 : Int32)).toNatClampNeg) hR
  refine lv_aload_n hx hb dL_law_863 rfl (lv_at hl 2 rfl) ?_
  refine lv_aload_n hx hb dL_law_864 rfl (lv_at hl 3 rfl) ?_
  refine lv_iload_n hx hb dL_law_865 rfl (lv_at hl 0 rfl) ?_
  refine lv_iconst (v := 1) hx hb dL_law_866 (by decide) ?_
  refine lv_iadd hx hb dL_law_867 ?_
  refine va_sld hx hb hX hbl hbA h.2.2 (ix_of (oI_add (oI_at x3) (oI_lit (x := 1) (a := 1) rfl)) (by omega) (by omega)) dL_law_868 ?_
  refine g_callVU (F_X8_back σ (xs (x3 + (1 : Int32)).toNatClampNeg)) (fun y => gws ad cI cZ y τ) (rest := []) E h (c_X8_back l D cI cZ s.heap.size ad σ τ (xs (x3 + (1 : Int32)).toNatClampNeg)) mw_755 cbX8_back 0 rfl rfl ⟨by decide, by decide⟩ rfl rfl hl.1 (Nat.le_of_ble_eq_true rfl) ⟨by decide, by decide⟩ dL_law_869 (fun u huu H locs h => ?_)
  refine lv_aload_n hx hb dL_law_872 rfl (lv_at hl 1 rfl) ?_
  refine lv_aload_n hx hb dL_law_873 rfl (lv_at hl 3 rfl) ?_
  refine lv_iload_n hx hb dL_law_874 rfl (lv_at hl 0 rfl) ?_
  refine lv_iconst (v := 1) hx hb dL_law_875 (by decide) ?_
  refine lv_iadd hx hb dL_law_876 ?_
  refine va_sld hx hb hX hbl hbA h.2.2 (ix_of (oI_add (oI_at x3) (oI_lit (x := 1) (a := 1) rfl)) (by omega) (by omega)) dL_law_877 ?_
  refine g_callVU (F_X9_back τ (xs (x3 + (1 : Int32)).toNatClampNeg)) (fun y => gws ad cI cZ u.2 y) (rest := [.int u.1]) E h (c_X9_back l D cI cZ s.heap.size ad u.2 τ (xs (x3 + (1 : Int32)).toNatClampNeg)) mw_1063 cbX9_back 48 rfl rfl ⟨by decide, by decide⟩ rfl rfl hl.1 (Nat.le_of_ble_eq_true rfl) ⟨by decide, by decide⟩ dL_law_878 (fun w huw H locs h => ?_)
  rw [huu] at he
  rw [huw] at he
  rw [huu] at hR2
  rw [huw] at hR2
  refine lv_icmp_eq (tgt := 923) hx hb dL_law_881 (by decide) (fun c1 => ?_) (fun c1 => absurd he c1)
  exact kk ad _ _ _ _ ls hR2 h hl

set_option maxHeartbeats 4000000 in
theorem law_count {p : Program} {l : Launch} {e : Env} {s : State} {m : MethodId} {below : List Frame} {meth : Method} {c : Code} {H : Heap} {locs : List Loc} {Q : State → Prop} {D : va_G} {cI cZ : ClassId} {b L : Nat} {xs : Nat → Int32} {ls : Array Slot} (RR : St → St → Prop) (hst : St_count RR) (E : gE p s m #[Value.ref b] c cL_law 4 RL D cI cZ s.heap.size) (hX : va_X b L xs s s.heap) (hbl : b < s.heap.size) (hL : L ≤ 448) (x3 : Int32) (hi : 0 ≤ x3.toInt ∧ x3.toInt + 7 ≤ L) (ad : Nat → Nat) (σ τ : St) (hR : RR σ τ) (h : gH D s.heap.size s (gws ad cI cZ σ τ) H locs) (hl : lv_has ls 4 [(3, .int x3), (2, .ref (ad 48)), (1, .ref (ad 0)), (0, .ref b)]) (kk : ∀ (ad : Nat → Nat) (σ τ : St) (H : Heap) (locs : List Loc) (ls : Array Slot), RR σ τ → gH D s.heap.size s (gws ad cI cZ σ τ) H locs → lv_has ls 4 [(3, .int x3), (2, .ref (ad 48)), (1, .ref (ad 0)), (0, .ref b)] → W p l e room_1 s m #[Value.ref b] below meth c H locs 600000 7302250 Q (F0 m 923 ls [])) : W p l e room_1 s m #[Value.ref b] below meth c H locs 600000 7302250 Q (F0 m 886 ls []) := by
  have hx := E.1
  have hb := E.2.1
  have hbA : ¬ (gA s.heap.size) b := Nat.not_le.mpr hbl
  obtain ⟨hp, hq, he, hR2⟩ := hst σ τ (xs (x3 + (1 : Int32)).toNatClampNeg) hR
  refine lv_aload_n hx hb dL_law_886 rfl (lv_at hl 2 rfl) ?_
  refine lv_aload_n hx hb dL_law_887 rfl (lv_at hl 3 rfl) ?_
  refine lv_iload_n hx hb dL_law_888 rfl (lv_at hl 0 rfl) ?_
  refine lv_iconst (v := 1) hx hb dL_law_889 (by decide) ?_
  refine lv_iadd hx hb dL_law_890 ?_
  refine va_sld hx hb hX hbl hbA h.2.2 (ix_of (oI_add (oI_at x3) (oI_lit (x := 1) (a := 1) rfl)) (by omega) (by omega)) dL_law_891 ?_
  refine g_callVh (F_X8_count σ (xs (x3 + (1 : Int32)).toNatClampNeg)) (rest := []) E h (c_X8_count l D cI cZ s.heap.size ad σ τ (xs (x3 + (1 : Int32)).toNatClampNeg)) mw_760 cbX8_count 0 rfl rfl ⟨by decide, by decide⟩ rfl rfl hl.1 (Nat.le_of_ble_eq_true rfl) ⟨by decide, by decide⟩ dL_law_892 (fun u huu H locs h => ?_)
  refine lv_aload_n hx hb dL_law_895 rfl (lv_at hl 1 rfl) ?_
  refine lv_aload_n hx hb dL_law_896 rfl (lv_at hl 3 rfl) ?_
  refine lv_iload_n hx hb dL_law_897 rfl (lv_at hl 0 rfl) ?_
  refine lv_iconst (v := 1) hx hb dL_law_898 (by decide) ?_
  refine lv_iadd hx hb dL_law_899 ?_
  refine va_sld hx hb hX hbl hbA h.2.2 (ix_of (oI_add (oI_at x3) (oI_lit (x := 1) (a := 1) rfl)) (by omega) (by omega)) dL_law_900 ?_
  refine g_callVh (F_X9_count τ (xs (x3 + (1 : Int32)).toNatClampNeg)) (rest := [.int u]) E h (c_X9_count l D cI cZ s.heap.size ad σ τ (xs (x3 + (1 : Int32)).toNatClampNeg)) mw_1067 cbX9_count 48 rfl rfl ⟨by decide, by decide⟩ rfl rfl hl.1 (Nat.le_of_ble_eq_true rfl) ⟨by decide, by decide⟩ dL_law_901 (fun w huw H locs h => ?_)
  rw [huu] at he
  rw [huw] at he
  refine lv_icmp_eq (tgt := 923) hx hb dL_law_904 (by decide) (fun c1 => ?_) (fun c1 => absurd he c1)
  exact kk ad _ _ _ _ ls hR2 h hl

set_option maxHeartbeats 4000000 in
theorem law_trace {p : Program} {l : Launch} {e : Env} {s : State} {m : MethodId} {below : List Frame} {meth : Method} {c : Code} {H : Heap} {locs : List Loc} {Q : State → Prop} {D : va_G} {cI cZ : ClassId} {b L : Nat} {xs : Nat → Int32} {ls : Array Slot} (RR : St → St → Prop) (hst : St_trace RR) (E : gE p s m #[Value.ref b] c cL_law 4 RL D cI cZ s.heap.size) (hX : va_X b L xs s s.heap) (hbl : b < s.heap.size) (hL : L ≤ 448) (x3 : Int32) (hi : 0 ≤ x3.toInt ∧ x3.toInt + 7 ≤ L) (ad : Nat → Nat) (σ τ : St) (hR : RR σ τ) (h : gH D s.heap.size s (gws ad cI cZ σ τ) H locs) (hl : lv_has ls 4 [(3, .int x3), (2, .ref (ad 48)), (1, .ref (ad 0)), (0, .ref b)]) (kk : ∀ (ad : Nat → Nat) (σ τ : St) (H : Heap) (locs : List Loc) (ls : Array Slot), RR σ τ → gH D s.heap.size s (gws ad cI cZ σ τ) H locs → lv_has ls 4 [(3, .int x3), (2, .ref (ad 48)), (1, .ref (ad 0)), (0, .ref b)] → W p l e room_1 s m #[Value.ref b] below meth c H locs 600000 7302250 Q (F0 m 923 ls [])) : W p l e room_1 s m #[Value.ref b] below meth c H locs 600000 7302250 Q (F0 m 909 ls []) := by
  have hx := E.1
  have hb := E.2.1
  have hbA : ¬ (gA s.heap.size) b := Nat.not_le.mpr hbl
  obtain ⟨hp, hq, he, hR2⟩ := hst σ τ  hR
  refine lv_aload_n hx hb dL_law_909 rfl (lv_at hl 2 rfl) ?_
  refine g_callVl (rest := []) E h (c_X8_trace l D cI cZ s.heap.size ad σ τ) mw_764 cbX8_trace 0 rfl rfl ⟨by decide, by decide⟩ rfl rfl hl.1 (Nat.le_of_ble_eq_true rfl) ⟨by decide, by decide⟩ dL_law_910 (fun H locs h => ?_)
  refine lv_aload_n hx hb dL_law_913 rfl (lv_at hl 1 rfl) ?_
  refine g_callVl (rest := [.long (F_X8_trace σ)]) E h (c_X9_trace l D cI cZ s.heap.size ad σ τ) mw_1071 cbX9_trace 48 rfl rfl ⟨by decide, by decide⟩ rfl rfl hl.1 (Nat.le_of_ble_eq_true rfl) ⟨by decide, by decide⟩ dL_law_914 (fun H locs h => ?_)
  refine W.lcmp hx hb dL_law_917 ?_
  refine lv_if_eq (tgt := 923) hx hb dL_law_918 (by decide) (fun c1 => ?_) (fun c1 => absurd (by rw [he]; exact law_self _) c1)
  exact kk ad _ _ _ _ ls hR2 h hl
