/-- every kind of call keeps the two sides alike -/
def Steps_ok (RR : St → St → Prop) : Prop := St_type RR ∧ St_clear RR ∧ St_road RR ∧ St_stage RR ∧ St_caravan RR ∧ St_well RR ∧ St_knots RR ∧ St_dues RR ∧ St_goes RR ∧ St_drinks RR ∧ St_fills RR ∧ St_hands RR ∧ St_strikes RR ∧ St_undo RR ∧ St_now RR ∧ St_pass RR ∧ St_ring RR ∧ St_safe RR ∧ St_hears RR ∧ St_forget RR ∧ St_stones RR ∧ St_mark RR ∧ St_keep RR ∧ St_back RR ∧ St_count RR ∧ St_trace RR
set_option maxHeartbeats 4000000 in
set_option maxRecDepth 20000 in
theorem law_loop {p : Program} {l : Launch} {e : Env} {s : State} {m : MethodId} {below : List Frame} {meth : Method} {c : Code} {D : va_G} {cI cZ : ClassId} {b L : Nat} {xs : Nat → Int32} (RR : St → St → Prop) (hok : Steps_ok RR) (hr : meth.sig.returnType = ret) (hlk : meth.locks = false) (E : gE p s m #[Value.ref b] c cL_law 4 RL D cI cZ s.heap.size) (hX : va_X b L xs s s.heap) (hbl : b < s.heap.size) (hL : L ≤ 448) : ∀ (n : Nat) (x3 : Int32) (ad : Nat → Nat) (σ τ : St) (H : Heap) (locs : List Loc) (ls : Array Slot), 0 ≤ x3.toInt ∧ x3.toInt ≤ L → (L : Int) < x3.toInt + 7 * n → RR σ τ → gH D s.heap.size s (gws ad cI cZ σ τ) H locs → lv_has ls 4 [(3, .int x3), (2, .ref (ad 48)), (1, .ref (ad 0)), (0, .ref b)] → W p l e room_1 s m #[Value.ref b] below meth c H locs 600000 7302250 (lw_Z below #[Value.ref b] s) (F0 m 18 ls []) := by
  have hx := E.1
  have hb := E.2.1
  have hbA : ¬ (gA s.heap.size) b := Nat.not_le.mpr hbl
  obtain ⟨h_type, h_clear, h_road, h_stage, h_caravan, h_well, h_knots, h_dues, h_goes, h_drinks, h_fills, h_hands, h_strikes, h_undo, h_now, h_pass, h_ring, h_safe, h_hears, h_forget, h_stones, h_mark, h_keep, h_back, h_count, h_trace⟩ := hok
  intro n
  induction n with
  | zero =>
    intro x3 ad σ τ H locs ls h1 h2
    exact absurd h2 (by omega)
  | succ n ih =>
    intro x3 ad σ τ H locs ls h1 h2 hR h hl
    have eL : (Int32.ofNat L - (7 : Int32)).toInt = (L : Int) - 7 := by
      have e1 : (Int32.ofNat L).toInt = (L : Int) := nI_toInt (by omega)
      rw [ti_of (oI_sub (oI_at (Int32.ofNat L)) (oI_lit (x := 7) (a := 7) rfl)) (by omega), e1]
    refine lv_iload_n hx hb dL_law_18 rfl (lv_at hl 0 rfl) ?_
    refine lv_aload_n hx hb dL_law_19 rfl (lv_at hl 3 rfl) ?_
    refine va_slen hx hb hX hbl hbA h.2.2 dL_law_20 ?_
    refine lv_bipush (v := 7) hx hb dL_law_21 (by decide) ?_
    refine lv_isub hx hb dL_law_23 ?_
    refine lv_icmp_gt (tgt := 929) hx hb dL_law_24 (by decide) (fun c1 => ?_) (fun c1 => ?_)
    · refine lv_iconst (v := 1) hx hb dL_law_929 (by decide) ?_
      refine va_forget (fun q hq => h.2.2.2.2 q hq) ?_
      exact lw_ret hx hb hr hlk dL_law_930
    · have c2 := i_nlt c1
      have hi : 0 ≤ x3.toInt ∧ x3.toInt + 7 ≤ L := by omega
      refine lv_aload_n hx hb dL_law_27 rfl (lv_at hl 3 rfl) ?_
      refine lv_iload_n hx hb dL_law_28 rfl (lv_at hl 0 rfl) ?_
      refine va_sld hx hb hX hbl hbA h.2.2 (ix_of (oI_at x3) (by omega) (by omega)) dL_law_29 ?_
      refine lv_bipush (v := 31) hx hb dL_law_30 (by decide) ?_
      refine lv_iand hx hb dL_law_32 ?_
      refine lv_topi (fun v ev => ?_)
      have kk : ∀ (ad : Nat → Nat) (σ τ : St) (H : Heap) (locs : List Loc) (ls : Array Slot), RR σ τ → gH D s.heap.size s (gws ad cI cZ σ τ) H locs → lv_has ls 4 [(3, .int x3), (2, .ref (ad 48)), (1, .ref (ad 0)), (0, .ref b)] → W p l e room_1 s m #[Value.ref b] below meth c H locs 600000 7302250 (lw_Z below #[Value.ref b] s) (F0 m 923 ls []) := by
        intro ad σ τ H locs ls hR h hl
        have e7 : (x3 + (7 : Int32)).toInt = x3.toInt + 7 := ti_of (oI_add (oI_at x3) (oI_lit (x := 7) (a := 7) rfl)) (by omega)
        refine lv_iinc (v := (x3 + (7 : Int32))) (lv' := [(3, .int (x3 + (7 : Int32))), (2, .ref (ad 48)), (1, .ref (ad 0)), (0, .ref b)]) hx hb dL_law_923 hl (k := 0) rfl rfl (by decide) rfl (fun ls hl => ?_)
        refine lv_goto (tgt := 18) hx hb dL_law_926 (by decide) ?_
        exact ih (x3 + (7 : Int32)) ad σ τ H locs ls (by omega) (by omega) hR h hl
      by_cases hv : 0 ≤ v.toInt ∧ v.toInt ≤ 25
      · have hc : v.toInt = 0 ∨ v.toInt = 1 ∨ v.toInt = 2 ∨ v.toInt = 3 ∨ v.toInt = 4 ∨ v.toInt = 5 ∨ v.toInt = 6 ∨ v.toInt = 7 ∨ v.toInt = 8 ∨ v.toInt = 9 ∨ v.toInt = 10 ∨ v.toInt = 11 ∨ v.toInt = 12 ∨ v.toInt = 13 ∨ v.toInt = 14 ∨ v.toInt = 15 ∨ v.toInt = 16 ∨ v.toInt = 17 ∨ v.toInt = 18 ∨ v.toInt = 19 ∨ v.toInt = 20 ∨ v.toInt = 21 ∨ v.toInt = 22 ∨ v.toInt = 23 ∨ v.toInt = 24 ∨ v.toInt = 25 := by omega
        rcases hc with i | i | i | i | i | i | i | i | i | i | i | i | i | i | i | i | i | i | i | i | i | i | i | i | i | i
        · refine lv_tableIn (off := 119) (tgt := 152) hx hb dL_law_33 (by rw [i]; decide) (by rw [i]; decide) (by rw [i]; rfl) (by decide) ?_
          exact law_type RR h_type E hX hbl hL x3 hi ad σ τ hR h hl kk
        · refine lv_tableIn (off := 142) (tgt := 175) hx hb dL_law_33 (by rw [i]; decide) (by rw [i]; decide) (by rw [i]; rfl) (by decide) ?_
          exact law_clear RR h_clear E hX hbl hL x3 hi ad σ τ hR h hl kk
        · refine lv_tableIn (off := 155) (tgt := 188) hx hb dL_law_33 (by rw [i]; decide) (by rw [i]; decide) (by rw [i]; rfl) (by decide) ?_
          exact law_road RR h_road E hX hbl hL x3 hi ad σ τ hR h hl kk
        · refine lv_tableIn (off := 168) (tgt := 201) hx hb dL_law_33 (by rw [i]; decide) (by rw [i]; decide) (by rw [i]; rfl) (by decide) ?_
          exact law_stage RR h_stage E hX hbl hL x3 hi ad σ τ hR h hl kk
        · refine lv_tableIn (off := 201) (tgt := 234) hx hb dL_law_33 (by rw [i]; decide) (by rw [i]; decide) (by rw [i]; rfl) (by decide) ?_
          exact law_caravan RR h_caravan E hX hbl hL x3 hi ad σ τ hR h hl kk
        · refine lv_tableIn (off := 234) (tgt := 267) hx hb dL_law_33 (by rw [i]; decide) (by rw [i]; decide) (by rw [i]; rfl) (by decide) ?_
          exact law_well RR h_well E hX hbl hL x3 hi ad σ τ hR h hl kk
        · refine lv_tableIn (off := 267) (tgt := 300) hx hb dL_law_33 (by rw [i]; decide) (by rw [i]; decide) (by rw [i]; rfl) (by decide) ?_
          exact law_knots RR h_knots E hX hbl hL x3 hi ad σ τ hR h hl kk
        · refine lv_tableIn (off := 300) (tgt := 333) hx hb dL_law_33 (by rw [i]; decide) (by rw [i]; decide) (by rw [i]; rfl) (by decide) ?_
          exact law_dues RR h_dues E hX hbl hL x3 hi ad σ τ hR h hl kk
        · refine lv_tableIn (off := 333) (tgt := 366) hx hb dL_law_33 (by rw [i]; decide) (by rw [i]; decide) (by rw [i]; rfl) (by decide) ?_
          exact law_goes RR h_goes E hX hbl hL x3 hi ad σ τ hR h hl kk
        · refine lv_tableIn (off := 376) (tgt := 409) hx hb dL_law_33 (by rw [i]; decide) (by rw [i]; decide) (by rw [i]; rfl) (by decide) ?_
          exact law_drinks RR h_drinks E hX hbl hL x3 hi ad σ τ hR h hl kk
        · refine lv_tableIn (off := 409) (tgt := 442) hx hb dL_law_33 (by rw [i]; decide) (by rw [i]; decide) (by rw [i]; rfl) (by decide) ?_
          exact law_fills RR h_fills E hX hbl hL x3 hi ad σ τ hR h hl kk
        · refine lv_tableIn (off := 442) (tgt := 475) hx hb dL_law_33 (by rw [i]; decide) (by rw [i]; decide) (by rw [i]; rfl) (by decide) ?_
          exact law_hands RR h_hands E hX hbl hL x3 hi ad σ τ hR h hl kk
        · refine lv_tableIn (off := 495) (tgt := 528) hx hb dL_law_33 (by rw [i]; decide) (by rw [i]; decide) (by rw [i]; rfl) (by decide) ?_
          exact law_strikes RR h_strikes E hX hbl hL x3 hi ad σ τ hR h hl kk
        · refine lv_tableIn (off := 508) (tgt := 541) hx hb dL_law_33 (by rw [i]; decide) (by rw [i]; decide) (by rw [i]; rfl) (by decide) ?_
          exact law_undo RR h_undo E hX hbl hL x3 hi ad σ τ hR h hl kk
        · refine lv_tableIn (off := 521) (tgt := 554) hx hb dL_law_33 (by rw [i]; decide) (by rw [i]; decide) (by rw [i]; rfl) (by decide) ?_
          exact law_now RR h_now E hX hbl hL x3 hi ad σ τ hR h hl kk
        · refine lv_tableIn (off := 544) (tgt := 577) hx hb dL_law_33 (by rw [i]; decide) (by rw [i]; decide) (by rw [i]; rfl) (by decide) ?_
          exact law_pass RR h_pass E hX hbl hL x3 hi ad σ τ hR h hl kk
        · refine lv_tableIn (off := 587) (tgt := 620) hx hb dL_law_33 (by rw [i]; decide) (by rw [i]; decide) (by rw [i]; rfl) (by decide) ?_
          exact law_ring RR h_ring E hX hbl hL x3 hi ad σ τ hR h hl kk
        · refine lv_tableIn (off := 610) (tgt := 643) hx hb dL_law_33 (by rw [i]; decide) (by rw [i]; decide) (by rw [i]; rfl) (by decide) ?_
          exact law_safe RR h_safe E hX hbl hL x3 hi ad σ τ hR h hl kk
        · refine lv_tableIn (off := 685) (tgt := 718) hx hb dL_law_33 (by rw [i]; decide) (by rw [i]; decide) (by rw [i]; rfl) (by decide) ?_
          exact law_hears RR h_hears E hX hbl hL x3 hi ad σ τ hR h hl kk
        · refine lv_tableIn (off := 738) (tgt := 771) hx hb dL_law_33 (by rw [i]; decide) (by rw [i]; decide) (by rw [i]; rfl) (by decide) ?_
          exact law_forget RR h_forget E hX hbl hL x3 hi ad σ τ hR h hl kk
        · refine lv_tableIn (off := 751) (tgt := 784) hx hb dL_law_33 (by rw [i]; decide) (by rw [i]; decide) (by rw [i]; rfl) (by decide) ?_
          exact law_stones RR h_stones E hX hbl hL x3 hi ad σ τ hR h hl kk
        · refine lv_tableIn (off := 774) (tgt := 807) hx hb dL_law_33 (by rw [i]; decide) (by rw [i]; decide) (by rw [i]; rfl) (by decide) ?_
          exact law_mark RR h_mark E hX hbl hL x3 hi ad σ τ hR h hl kk
        · refine lv_tableIn (off := 807) (tgt := 840) hx hb dL_law_33 (by rw [i]; decide) (by rw [i]; decide) (by rw [i]; rfl) (by decide) ?_
          exact law_keep RR h_keep E hX hbl hL x3 hi ad σ τ hR h hl kk
        · refine lv_tableIn (off := 830) (tgt := 863) hx hb dL_law_33 (by rw [i]; decide) (by rw [i]; decide) (by rw [i]; rfl) (by decide) ?_
          exact law_back RR h_back E hX hbl hL x3 hi ad σ τ hR h hl kk
        · refine lv_tableIn (off := 853) (tgt := 886) hx hb dL_law_33 (by rw [i]; decide) (by rw [i]; decide) (by rw [i]; rfl) (by decide) ?_
          exact law_count RR h_count E hX hbl hL x3 hi ad σ τ hR h hl kk
        · refine lv_tableIn (off := 876) (tgt := 909) hx hb dL_law_33 (by rw [i]; decide) (by rw [i]; decide) (by rw [i]; rfl) (by decide) ?_
          exact law_trace RR h_trace E hX hbl hL x3 hi ad σ τ hR h hl kk
      · refine lv_tableOut (tgt := 923) hx hb dL_law_33 (by omega) (by decide) ?_
        exact kk ad σ τ H locs ls hR h hl
