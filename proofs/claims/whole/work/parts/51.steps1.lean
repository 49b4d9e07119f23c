/-! ===== the calls that look, and the small deeds ===== -/
theorem told_at {K x : Int32} {k : Nat} {g : Nat → Int32} (hK : K = Int32.ofInt k) (hx : 0 ≤ x.toInt ∧ x.toInt < 10000) (hk : k < 10000) : g (K + x).toNatClampNeg = g (k + x.toInt.toNat) := by rw [ix1 hK hx hk]
-- TOLD
theorem T_stg {σ τ : St} (h : RR σ τ) {s : Int32} (hs : 0 ≤ s.toInt ∧ s.toInt < (τ.2.1 50 1).toInt) : (((σ.2.1 5 s.toNatClampNeg = τ.2.1 50 (10 + s.toInt.toNat) ∧ (τ.2.1 50 (10 + s.toInt.toNat)).toInt < (τ.2.1 50 0).toInt) ∧ (σ.2.1 6 s.toNatClampNeg = τ.2.1 50 (18 + s.toInt.toNat) ∧ (τ.2.1 50 (18 + s.toInt.toNat)).toInt < (τ.2.1 50 0).toInt) ∧ (σ.2.1 7 s.toNatClampNeg = τ.2.1 50 (26 + s.toInt.toNat) ∧ bd (τ.2.1 50 (26 + s.toInt.toNat)) 1 9) ∧ (σ.2.1 8 s.toNatClampNeg = τ.2.1 50 (34 + s.toInt.toNat) ∧ bd (τ.2.1 50 (34 + s.toInt.toNat)) 0 1) ∧ (σ.2.1 9 s.toNatClampNeg = τ.2.1 50 (42 + s.toInt.toNat) ∧ (τ.2.1 50 (42 + s.toInt.toNat)).toInt < (τ.2.1 50 0).toInt))) := h.2.1.2.2.2.2.1 s.toInt.toNat (by omega)
theorem T_lt8 {σ τ : St} (h : RR σ τ) {s : Int32} (hs : 0 ≤ s.toInt ∧ s.toInt < (τ.2.1 50 1).toInt) : s.toInt < 8 := by have := h.2.1.2.1.2.2; omega
theorem T_has {σ τ : St} (h : RR σ τ) {s : Int32} (hs : 0 ≤ s.toInt ∧ s.toInt < (τ.2.1 50 1).toInt) : ¬ F_X4_hasStage σ s = 0 := fun e => (R_hs h s).mp e hs
theorem T_first {σ τ : St} (h : RR σ τ) {s : Int32} (hs : 0 ≤ s.toInt ∧ s.toInt < (τ.2.1 50 1).toInt) : F_X4_firstEnd σ s = τ.2.1 50 ((10 : Int32) + s).toNatClampNeg := by
  have q := T_lt8 h hs
  unfold F_X4_firstEnd
  rw [if_neg (T_has h hs), ix1 (K := 10) (k := 10) rfl (by omega) (by decide)]
  exact (T_stg h hs).1.1
theorem T_second {σ τ : St} (h : RR σ τ) {s : Int32} (hs : 0 ≤ s.toInt ∧ s.toInt < (τ.2.1 50 1).toInt) : F_X4_secondEnd σ s = τ.2.1 50 ((18 : Int32) + s).toNatClampNeg := by
  have q := T_lt8 h hs
  unfold F_X4_secondEnd
  rw [if_neg (T_has h hs), ix1 (K := 18) (k := 18) rfl (by omega) (by decide)]
  exact (T_stg h hs).2.1.1
theorem T_heat {σ τ : St} (h : RR σ τ) {s : Int32} (hs : 0 ≤ s.toInt ∧ s.toInt < (τ.2.1 50 1).toInt) : F_X4_heatOf σ s = τ.2.1 50 ((26 : Int32) + s).toNatClampNeg := by
  have q := T_lt8 h hs
  unfold F_X4_heatOf
  rw [if_neg (T_has h hs), ix1 (K := 26) (k := 26) rfl (by omega) (by decide)]
  exact (T_stg h hs).2.2.1.1
theorem T_lender {σ τ : St} (h : RR σ τ) {s : Int32} (hs : 0 ≤ s.toInt ∧ s.toInt < (τ.2.1 50 1).toInt) : F_X4_lenderOf σ s = τ.2.1 50 ((42 : Int32) + s).toNatClampNeg := by
  have q := T_lt8 h hs
  unfold F_X4_lenderOf
  rw [if_neg (T_has h hs), ix1 (K := 42) (k := 42) rfl (by omega) (by decide)]
  exact (T_stg h hs).2.2.2.2.1
theorem b01_cases {x : Int32} (h : bd x 0 1) : x = 0 ∨ x = 1 := by
  rcases (show x.toInt = 0 ∨ x.toInt = 1 by omega) with q | q
  · exact Or.inl (i32e q)
  · exact Or.inr (i32e q)
theorem T_night {σ τ : St} (h : RR σ τ) {s : Int32} (hs : 0 ≤ s.toInt ∧ s.toInt < (τ.2.1 50 1).toInt) : F_X4_isByNight σ s = τ.2.1 50 ((34 : Int32) + s).toNatClampNeg := by
  have q := T_lt8 h hs
  unfold F_X4_isByNight
  rw [if_neg (T_has h hs), ix1 (K := 34) (k := 34) rfl (by omega) (by decide)]
  have t := (T_stg h hs).2.2.2.1
  rw [t.1]
  rcases b01_cases t.2 with e | e <;> rw [e] <;> rfl
-- TOLDW
theorem T_refuses {σ τ : St} (h : RR σ τ) {w : Int32} (hw : 0 ≤ w.toInt ∧ w.toInt < (τ.2.1 50 0).toInt) : F_X4_refusesNight σ w = τ.2.1 50 ((4 : Int32) + w).toNatClampNeg ∧ bd (τ.2.1 50 ((4 : Int32) + w).toNatClampNeg) 0 1 := by
  have q := h.2.1.1.2.2
  have t := h.2.1.2.2.2.1 w.toInt.toNat (by omega)
  unfold F_X4_refusesNight
  rw [if_neg (fun e => (R_hw h w).mp e hw), ix1 (K := 4) (k := 4) rfl (by omega) (by decide), show (σ.2.1 4) w.toNatClampNeg = _ from t.1]
  refine ⟨?_, t.2⟩
  rcases b01_cases t.2 with e | e <;> rw [e] <;> rfl
theorem T_bears {σ τ : St} (h : RR σ τ) {c : Int32} (hc : 0 ≤ c.toInt ∧ c.toInt < (τ.2.1 50 2).toInt) : F_X4_bearsOf σ c = τ.2.1 50 ((50 : Int32) + c).toNatClampNeg ∧ bd (τ.2.1 50 ((50 : Int32) + c).toNatClampNeg) 1 20 := by
  have q := h.2.1.2.2.1.2.2
  have t := h.2.1.2.2.2.2.2.1 c.toInt.toNat (by omega)
  unfold F_X4_bearsOf
  rw [if_neg (fun e => (R_hc h c).mp e hc), ix1 (K := 50) (k := 50) rfl (by omega) (by decide)]
  exact t
theorem s_type : St_type RR := by
  intro σ τ a1 h
  have t := h.1
  refine ⟨by rw [t.1]; exact t.2.1.1, t.2.1, ?_⟩
  have e200 : (200 : Int32).toInt = 200 := rfl
  unfold F_X8_type F_X9_type
  rw [F_in_eq]
  by_cases c : F_X9_in a1 0 255 = 0
  · rw [if_pos c, if_pos c]; exact ⟨rfl, h⟩
  · rw [if_neg c, if_neg c]
    have ca := fz_in c
    have tb := t.2.1
    by_cases d : τ.1 1538 = 200
    · rw [if_pos d]
      have dx : ¬ (σ.1 33) < (200 : Int32) := fun q => by have := i_lt q; rw [t.1, d] at this; omega
      have e : F_X6_append σ a1 = (0, σ) := by unfold F_X6_append; rw [if_neg dx]
      rw [e]
      exact ⟨rfl, h⟩
    · rw [if_neg d]
      have d2 := i_ne d
      have dx : (σ.1 33) < (200 : Int32) := by rw [t.1]; exact Int32.lt_iff_toInt_lt.mpr (by omega)
      have e : F_X6_append σ a1 = (1, (si (sa σ 2 (upd (σ.2.1 2) (σ.1 33).toNatClampNeg a1)) 33 ((σ.1 33) + (1 : Int32)))) := by unfold F_X6_append; rw [if_pos dx]
      rw [e]
      refine ⟨?_, ?_⟩
      · show (σ.1 33) + 1 = (τ.1 1538) + 1
        rw [t.1]
      · refine ⟨⟨?_, ?_, ?_⟩, h.2⟩
        · show (σ.1 33) + 1 = (τ.1 1538) + 1
          rw [t.1]
        · show bd ((τ.1 1538) + 1) 0 200
          have e1 : ((τ.1 1538) + (1 : Int32)).toInt = (τ.1 1538).toInt + 1 := ti_of (oI_add (oI_at _) (oI_lit (x := 1) (a := 1) rfl)) (by omega)
          exact ⟨by omega, by omega⟩
        · intro k hk
          have hk : (k : Int) < ((τ.1 1538) + (1 : Int32)).toInt := hk
          have e1 : ((τ.1 1538) + (1 : Int32)).toInt = (τ.1 1538).toInt + 1 := ti_of (oI_add (oI_at _) (oI_lit (x := 1) (a := 1) rfl)) (by omega)
          show upd (σ.2.1 2) (σ.1 33).toNatClampNeg a1 k = upd (τ.2.1 49) (τ.1 1538).toNatClampNeg a1 k ∧ bd (upd (τ.2.1 49) (τ.1 1538).toNatClampNeg a1 k) 0 255
          rw [t.1]
          by_cases q : k = (τ.1 1538).toNatClampNeg
          · subst q
            rw [pk_us, pk_us]
            have b1 : (0 : Int32).toInt = 0 := rfl
            have b2 : (255 : Int32).toInt = 255 := rfl
            exact ⟨rfl, by omega, by omega⟩
          · rw [pk_un q, pk_un q]
            have q : k ≠ (τ.1 1538).toInt.toNat := q
            exact t.2.2 k (by omega)
theorem s_clear : St_clear RR := by
  intro σ τ h
  refine ⟨trivial, trivial, h.1.1, ⟨rfl, (by decide : bd (0 : Int32) 0 200), ?_⟩, h.2⟩
  intro k hk
  have hk : (k : Int) < (0 : Int32).toInt := hk
  rw [z32] at hk
  exact absurd hk (by omega)
theorem s_stage : St_stage RR := by
  intro σ τ a1 a2 h
  refine ⟨trivial, h.2.1.2.1.2, ?_, h⟩
  unfold F_X8_stage F_X9_stage
  rcases R_s h a1 with ⟨c1, c2⟩ | ⟨c1, c2, c3, c4, c5⟩
  · rw [if_pos c1, if_pos c2]
  · rw [if_neg c1, if_neg c2, T_first h ⟨c3, c4⟩, T_second h ⟨c3, c4⟩, T_heat h ⟨c3, c4⟩, T_night h ⟨c3, c4⟩, T_lender h ⟨c3, c4⟩]
    have e : (if (τ.2.1 50 ((34 : Int32) + a1).toNatClampNeg) = 0 then (0 : Int32) else 1) = τ.2.1 50 ((34 : Int32) + a1).toNatClampNeg := by
      have t := (T_stg h ⟨c3, c4⟩).2.2.2.1.2
      rw [ix1 (K := 34) (k := 34) rfl (by omega) (by decide)]
      rcases b01_cases t with e | e <;> rw [e] <;> rfl
    rw [e]
theorem R_row {σ τ : St} (h : RR σ τ) : RRow (σ.2.1 27) (τ.2.1 53) 0 0 := h.2.2.1.1
theorem s_caravan : St_caravan RR := by
  intro σ τ a1 a2 h
  refine ⟨trivial, h.2.1.2.2.1.2, ?_, h⟩
  unfold F_X8_caravan F_X9_caravan
  rcases R_c h a1 with ⟨c1, c2⟩ | ⟨c1, c2, c3, c4, c5⟩
  · rw [if_pos c1, if_pos c2]
  · have r := R_row h
    rw [if_neg c1, if_neg c2, G_place r ⟨c3, c5⟩, G_cups r ⟨c3, c5⟩, (T_bears h ⟨c3, c4⟩).1, G_dry r ⟨c3, c5⟩, G_isAlive r ⟨c3, c5⟩, E_knotsC r ⟨c3, c5⟩]
    rfl
theorem s_well : St_well RR := by
  intro σ τ a1 a2 h
  refine ⟨trivial, h.2.1.1.2, ?_, h⟩
  unfold F_X8_well F_X9_well
  rcases R_w h a1 with ⟨c1, c2⟩ | ⟨c1, c2, c3, c4, c5⟩
  · rw [if_pos c1, if_pos c2]
  · have r := R_row h
    have t := T_refuses h (w := a1) ⟨c3, c4⟩
    rw [if_neg c1, if_neg c2, t.1, E_knotsW r ⟨c3, c5⟩, E_duesB r ⟨c3, c5⟩, E_net r ⟨c3, c5⟩]
    have e : (if (τ.2.1 50 ((4 : Int32) + a1).toNatClampNeg) = 0 then (0 : Int32) else 1) = τ.2.1 50 ((4 : Int32) + a1).toNatClampNeg := by
      rcases b01_cases t.2 with e | e <;> rw [e] <;> rfl
    rw [e]
    rfl
theorem s_knots : St_knots RR := by
  intro σ τ a1 a2 h
  refine ⟨trivial, ⟨h.2.1.1.2, h.2.1.2.2.1.2⟩, ?_, h⟩
  unfold F_X8_knots F_X9_knots
  rcases R_c h a1 with ⟨c1, c2⟩ | ⟨c1, c2, c3, c4, c5⟩
  · rw [if_pos c1, if_pos c2]
  · rw [if_neg c1, if_neg c2]
    rcases R_w h a2 with ⟨d1, d2⟩ | ⟨d1, d2, d3, d4, d5⟩
    · rw [if_pos d1, if_pos d2]
    · rw [if_neg d1, if_neg d2, G_knots (R_row h) ⟨c3, c5⟩ ⟨d3, d5⟩]
theorem s_dues : St_dues RR := by
  intro σ τ a1 a2 h
  refine ⟨trivial, h.2.1.1.2, ?_, h⟩
  unfold F_X8_dues F_X9_dues
  rcases R_w h a1 with ⟨c1, c2⟩ | ⟨c1, c2, c3, c4, c5⟩
  · rw [if_pos c1, if_pos c2]
  · rw [if_neg c1, if_neg c2]
    rcases R_w h a2 with ⟨d1, d2⟩ | ⟨d1, d2, d3, d4, d5⟩
    · rw [if_pos d1, if_pos d2]
    · rw [if_neg d1, if_neg d2, G_dues (R_row h) ⟨c3, c5⟩ ⟨d3, d5⟩]
theorem s_count : St_count RR := by
  intro σ τ a1 h
  refine ⟨trivial, trivial, ?_, h⟩
  unfold F_X8_count F_X9_count
  rw [h.2.1.1.1, h.2.1.2.1.1, h.2.1.2.2.1.1, h.2.2.2.2.1.1, h.2.2.1.2.2.1, show F_X6_size σ = τ.1 1538 from h.1.1]
theorem s_trace : St_trace RR := fun σ τ h => ⟨trivial, trivial, h.2.2.2.2.2.1, h⟩
theorem s_forget : St_forget RR := by
  intro σ τ h
  refine ⟨trivial, trivial, h.2.2.2.2.1.1, h.1, h.2.1, h.2.2.1, h.2.2.2.1, ⟨rfl, (by decide : bd (0 : Int32) 0 6), ?_⟩, h.2.2.2.2.2⟩
  intro k hk
  have hk : (k : Int) < (0 : Int32).toInt := hk
  rw [z32] at hk
  exact absurd hk (by omega)
