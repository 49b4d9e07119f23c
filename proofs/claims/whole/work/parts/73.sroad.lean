/-! ===== road: the step ===== -/
theorem RR.fr2 {σ σ' τ τ' : St} (h : RR σ τ) (f1 : Fr I_X4_tellAll A_X4_tellAll false σ σ') (f2 : Fr I_X9_reads A_X9_reads false τ τ') : RR σ' τ' := by
  obtain ⟨h1, h2, h3, h4, h5, h6, h7, h8⟩ := h
  refine ⟨?_, ?_, ?_, ?_, ?_, ?_, ?_, ?_⟩
  · unfold TXR at *
    rw [f1.1 33 (by decide), f1.2.1 2 (by decide), f2.1 1538 (by decide), f2.2.1 49 (by decide)]; exact h1
  · unfold TDR at *
    rw [f1.1 96 (by decide), f1.1 97 (by decide), f1.1 98 (by decide), f1.2.1 4 (by decide), f1.2.1 5 (by decide), f1.2.1 6 (by decide), f1.2.1 7 (by decide), f1.2.1 8 (by decide), f1.2.1 9 (by decide), f1.2.1 10 (by decide), f2.2.1 50 (by decide)]; exact h2
  · rw [f1.2.1 27 (by decide), f1.2.1 28 (by decide), f1.1 802 (by decide), f2.2.1 53 (by decide)]; exact h3
  · unfold IMR at *
    rw [f1.1 6 (by decide), f1.2.1 31 (by decide), f1.2.1 32 (by decide), f1.1 930 (by decide), f1.2.1 35 (by decide), f1.2.1 36 (by decide), f1.1 1058 (by decide), f2.2.1 54 (by decide), f2.2.1 55 (by decide)]; exact h4
  · unfold HSR at *
    rw [f1.1 1186 (by decide), f1.2.1 38 (by decide), f1.2.1 39 (by decide), f2.1 1546 (by decide), f2.2.1 56 (by decide)]; exact h5
  · rw [f1.2.2 rfl, f2.2.2 rfl]; exact h6
  · rw [f1.2.1 47 (by decide)]; exact h7
  · unfold WB WK at *
    rw [f2.2.1 57 (by decide), f2.2.1 58 (by decide)]; exact h8
theorem s_road : St_road RR := by
  intro σ τ h
  obtain ⟨N, c, hN, hc, hm, ht⟩ := RR_tx h
  have res := E_all hN hc hm ht
  have fU := fr_F_X4_tellAll σ
  have fV := fr_F_X9_reads τ
  refine ⟨h.1.2.1, ?_⟩
  unfold F_X9_road F_X9_road_k1_2
  generalize F_X4_tellAll σ = U at *
  generalize F_X9_reads τ = V at *
  rcases res with ⟨v1, v2, v3⟩ | ⟨v1, v2, v3, dr⟩
  · refine ⟨fun _ => ?_, fun z => absurd v3 z⟩
    rw [if_pos v1]
    exact ⟨v2, h.fr2 fU fV⟩
  · refine ⟨fun z => absurd z v3, fun _ => ?_⟩
    rw [if_neg v1]
    unfold F_X9_road_k16_5
    obtain ⟨R, r0, r1, r2, r3, r4, r5, r6, r7⟩ := bg2 V.2 55 0 V.2 (by decide) (by decide) (fun u hu => absurd hu (by omega))
    have n0 : nI 0 = (0 : Int32) := rfl
    rw [n0] at r0
    have eB : F_X9_begins V.2 = R := by unfold F_X9_begins; exact r0
    have fB := fr_F_X9_begins V.2
    rw [eB] at fB ⊢
    have uv : U.1 = R.2.1 50 3 := v2.trans (r7 3 (by decide)).symm
    have l2 : R.2.2 = σ.2.2 := (fB.2.2 rfl).trans ((fV.2.2 rfl).trans h.2.2.2.2.2.1.symm)
    have u2 : U.2.2.2 = σ.2.2 := fU.2.2 rfl
    have u47 : U.2.2.1 47 0 = 0 := by rw [fU.2.1 47 (by decide)]; exact h.2.2.2.2.2.2.1
    have wb : WB (si R 1538 (0 : Int32)) := by
      have h8 := h.2.2.2.2.2.2.2
      have e57 : (si R 1538 (0 : Int32)).2.1 57 = τ.2.1 57 := (fB.2.1 57 (by decide)).trans (fV.2.1 57 (by decide))
      have e58 : (si R 1538 (0 : Int32)).2.1 58 = τ.2.1 58 := (fB.2.1 58 (by decide)).trans (fV.2.1 58 (by decide))
      unfold WB WK at *
      rw [e57, e58]; exact h8
    generalize U.2 = m at *
    unfold F_X8_roadT F_X8_roadT_k40_2 F_X8_roadT_k55_4 F_X8_roadT_k62_6 F_X6_empty F_X1_begin F_X1_begin_k5_2 F_X2_become_NT F_X0_drop
    refine ⟨uv, ?_⟩
    refine RR_beg (m := m) (t := V.2) dr r1 r2 r3 r4 r5 r6 r7 rfl wb ?_ ?_ rfl rfl rfl rfl rfl rfl rfl rfl rfl rfl rfl (fun j hj => ?_) rfl rfl rfl
    · exact u2.trans l2.symm
    · exact u47
    · show va_cpy (m.2.1 23) _ 0 0 74 j = m.2.1 23 j
      rw [pk_cpy_in (by omega) (by omega), show 0 + (j - 0) = j by omega]
