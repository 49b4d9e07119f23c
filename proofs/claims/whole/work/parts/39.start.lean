theorem nw_F : ∀ x ∈ nestF, Cond.fieldLinkNest x.1 x.2.1 x.2.2.1 x.2.2.2.1 x.2.2.2.2 "WellKnots" ∈ lw_tbl := by decide +kernel
theorem nw_M : ∀ x ∈ nestM, Cond.methodLinkNest x.1 x.2.1 x.2.2 "WellKnots" ∈ lw_tbl := by decide +kernel
set_option maxHeartbeats 4000000 in
set_option maxRecDepth 100000 in
theorem whole_start_of (RR : St → St → Prop) (hok : Steps_ok RR) (hz0 : RR z0 (F_X9_begins (F_X9_reads z0).2)) {p : Program} {e : Env} {s : State} {m : MethodId} {below : List Frame} {meth : Method} {c : Code} (l : Launch) {b L : Nat} {xs : Nat → Int32} (hL : L ≤ 448) (C0 : lw_At p s m meth c b L xs) : W p l e room_1 s m #[Value.ref b] below meth c s.heap [] 0 0 (lw_Z below #[Value.ref b] s) (entryFrame m ([Value.ref b] : List Value).toArray 4) := by
  obtain ⟨hx, hb, hr, hml, hown, hts, hX, hbl, hlocks, hgv⟩ := id C0
  obtain ⟨c0, iS0, hKn0⟩ := u_known (C := RX0) (T := TX0) (N := 3) (n := 3) hts (fun w hw => gg_lw (layX0 w hw)) (hts _ (gg_lw mw_130))
  obtain ⟨c1, iS1, hKn1⟩ := u_known (C := RX1) (T := TX1) (N := 3) (n := 3) hts (fun w hw => gg_lw (layX1 w hw)) (hts _ (gg_lw mw_110))
  obtain ⟨c2, iS2, hKn2⟩ := u_known (C := RX2) (T := TX2) (N := 1) (n := 1) hts (fun w hw => gg_lw (layX2 w hw)) (hts _ (gg_lw mw_56))
  obtain ⟨c3, iS3, hKn3⟩ := u_known (C := RX3) (T := TX3) (N := 4) (n := 4) hts (fun w hw => gg_lw (layX3 w hw)) (hts _ (gg_lw mw_147))
  obtain ⟨c4, iS4, hKn4⟩ := u_known (C := RX4) (T := TX4) (N := 12) (n := 12) hts (fun w hw => gg_lw (layX4 w hw)) (hts _ (gg_lw mw_50))
  obtain ⟨c5, iS5, hKn5⟩ := u_known (C := RX5) (T := TX5) (N := 1) (n := 1) hts (fun w hw => gg_lw (layX5 w hw)) (hts _ (gg_lw mw_193))
  obtain ⟨c6, iS6, hKn6⟩ := u_known (C := RX6) (T := TX6) (N := 6) (n := 6) hts (fun w hw => gg_lw (layX6 w hw)) (hts _ (gg_lw mw_24))
  obtain ⟨c7, iS7, hKn7⟩ := u_known (C := RX7) (T := TX7) (N := 5) (n := 5) hts (fun w hw => gg_lw (layX7 w hw)) (hts _ (gg_lw mw_168))
  obtain ⟨c8, iS8, hKn8⟩ := u_known (C := RX8) (T := TX8) (N := 12) (n := 12) hts (fun w hw => gg_lw (layX8 w hw)) (hts _ (gg_lw mw_16))
  obtain ⟨c9, iS9, hKn9⟩ := u_known (C := RX9) (T := TX9) (N := 21) (n := 21) hts (fun w hw => gg_lw (layX9 w hw)) (hts _ (gg_lw mw_769))
  obtain ⟨D, hKc⟩ : ∃ D : va_G, ∀ (k : Nat) (q : vw_C), cls[k]? = some q → u_Kn s q.1 q.2.1 q.2.2 (D.1 k) (D.2 k) := by
    refine ⟨(fun k => [c0, c1, c2, c3, c4, c5, c6, c7, c8, c9].getD k c0, fun k => [iS0, iS1, iS2, iS3, iS4, iS5, iS6, iS7, iS8, iS9].getD k iS0), ?_⟩
    intro k q hq
    match k, hq with
    | 0, hq => cases hq; exact hKn0
    | 1, hq => cases hq; exact hKn1
    | 2, hq => cases hq; exact hKn2
    | 3, hq => cases hq; exact hKn3
    | 4, hq => cases hq; exact hKn4
    | 5, hq => cases hq; exact hKn5
    | 6, hq => cases hq; exact hKn6
    | 7, hq => cases hq; exact hKn7
    | 8, hq => cases hq; exact hKn8
    | 9, hq => cases hq; exact hKn9
    | k + 10, hq => simp [cls] at hq
  obtain ⟨cI, kI, compI, fI, gI9, jI⟩ := Cond.arrayClass_spec (hts _ (gg_lw mw_48))
  obtain ⟨cZ, kZ, compZ, fZ, gZ, jZ⟩ := Cond.arrayClass_spec (hts _ (gg_lw mw_65))
  have hK : va_K D cls (tyl cI cZ) s := by
    refine ⟨hKc, fun k q hq => ?_⟩
    match k, hq with
    | 0, hq => cases hq; exact ⟨fun n z => ⟨fun k h => (by cases h), kI, gI9, compI, jI⟩, fI⟩
    | 1, hq => cases hq; exact ⟨fun n z => ⟨fun k h => (by cases h), kZ, gZ, compZ, jZ⟩, fZ⟩
    | k + 2, hq => simp at hq
  have hN : NW s := ⟨fun x hx => va_Nw.of rfl (hts _ (nw_F x hx)), fun x hx => va_Nw.of rfl (hts _ (nw_M x hx))⟩
  have E : gE p s m #[Value.ref b] c cL_law 4 RL D cI cZ s.heap.size := ⟨hx, hb, hml, hown, fun w hw => hts w (gg_lw hw), hK, hN, Nat.le_refl _⟩
  have h : gH D s.heap.size s (([] : va_W) ++ []) s.heap [] := ⟨fun k q h => by simp at h, ⟨fun i j p q h => by simp at h, fun k q h => by simp at h⟩, va_S.rf⟩
  have hl := lv_entry ([.ref b]) (n := 4) (Nat.le_of_ble_eq_true rfl)
  rw [lg_entry_eq]
  generalize (lg_sl ([.ref b]) ++ List.replicate (4 - (lg_sl ([.ref b])).length) Slot.unset).toArray = ls at hl ⊢
  have hl : lv_has ls 4 [(0, .ref b)] := hl
  refine g_new (fs := [.null, .null, .null, .null, .null, .null, .int 0, .null, .null, .null, .null, .long 0]) (rest := []) E h (ci := 8) rfl layX8 tyX8 tyX8_ok mw_15 mw_16 mw_1 dfX8 (by decide) (by decide) dL_law_0 (fun q0 H h => ?_)
  refine lv_dup hx hb dL_law_3 rfl ?_
  refine g_callI (rest := [.ref q0]) E h (c_X8_init l D cI cZ s.heap.size [] q0) mw_17 mw_18 mw_1 mw_19 rfl (by decide +kernel) ⟨by decide, by decide⟩ hl.1 (Nat.le_of_ble_eq_true rfl) ⟨by decide, by decide⟩ dL_law_4 (fun ws9 H locs hp9 h => ?_)
  obtain ⟨q1, q2, q3, q4, q5, q6, q7, q8, q9, q10, q11, q12, q13, q14, q15, q16, q17, q18, q19, q20, q21, q22, q23, q24, q25, q26, q27, q28, q29, q30, q31, q32, q33, q34, q35, q36, q37, q38, q39, q40, q41, q42, q43, q44, q45, q46, q47, rfl⟩ := hp9
  obtain ⟨ad, had⟩ : ∃ ad : Nat → Nat, ad = fun i => [q0, q1, q2, q3, q4, q5, q6, q7, q8, q9, q10, q11, q12, q13, q14, q15, q16, q17, q18, q19, q20, q21, q22, q23, q24, q25, q26, q27, q28, q29, q30, q31, q32, q33, q34, q35, q36, q37, q38, q39, q40, q41, q42, q43, q44, q45, q46, q47].getD i 0 := ⟨_, rfl⟩
  have h : gH D s.heap.size s (gwsC ad cI cZ z0 ++ []) H locs := by rw [List.append_nil, had]; exact h
  have ha0 : ad 0 = q0 := by rw [had]; rfl
  clear had
  refine lv_astore_n (lv' := [(1, .ref q0), (0, .ref b)]) hx hb dL_law_7 rfl hl (by decide) rfl (fun ls hl => ?_)
  refine g_new (fs := [.long 0, .null, .int 0, .null, .null, .null, .null, .null, .null, .null, .int 0, .int 0, .int 0, .int 0, .int 0, .null, .null, .int 0, .int 0, .null, .null]) (rest := []) E h (ci := 9) rfl layX9 tyX9 tyX9_ok mw_768 mw_769 mw_10 dfX9 (by decide) (by decide) dL_law_8 (fun q9 H h => ?_)
  refine lv_dup hx hb dL_law_11 rfl ?_
  refine g_callI (rest := [.ref q9]) E h (c_X9_init l D cI cZ s.heap.size ad z0 q9) mw_770 mw_771 mw_10 mw_772 rfl (by decide +kernel) ⟨by decide, by decide⟩ hl.1 (Nat.le_of_ble_eq_true rfl) ⟨by decide, by decide⟩ dL_law_12 (fun ws9 H locs hp9 h => ?_)
  obtain ⟨ad2, e0, e48, rfl⟩ := hp9
  refine lv_astore_n (lv' := [(2, .ref q9), (1, .ref q0), (0, .ref b)]) hx hb dL_law_15 rfl hl (by decide) rfl (fun ls hl => ?_)
  refine lv_iconst (v := 0) hx hb dL_law_16 (by decide) ?_
  refine lv_istore_n (lv' := [(3, .int 0), (2, .ref q9), (1, .ref q0), (0, .ref b)]) hx hb dL_law_17 rfl hl (by decide) rfl (fun ls hl => ?_)
  rw [← ha0, ← e0, ← e48] at hl
  refine W.widen (k := 600000) (n := 7302250) (by decide) (by decide) ?_
  exact law_loop RR hok hr hlocks E hX hbl hL 65 0 ad2 z0 _ H _ ls ⟨by decide, by show (0 : Int) ≤ L; omega⟩ (by show (L : Int) < 0 + 7 * ((65 : Nat) : Int); omega) hz0 h hl
