/-! ===== the first state ===== -/
theorem rr_init : RR z0 (F_X9_begins (F_X9_reads z0).2) := by
  have n0 : nI 0 = (0 : Int32) := rfl
  obtain ⟨Z, eZ⟩ : ∃ Z, Z = z0 := ⟨_, rfl⟩
  have zi : ∀ k, Z.1 k = 0 := fun k => by rw [eZ]; rfl
  have za : ∀ k j, Z.2.1 k j = 0 := fun k j => by rw [eZ]; rfl
  rw [← eZ]
  clear eZ
  obtain ⟨m1, lf, x', r1, r2, r3⟩ := rdA2 Z 55 0 Z (by decide) (by decide) (fun u hu => absurd hu (by omega))
  rw [n0] at r1
  obtain ⟨m2, lf', x'', q1, q2, q3⟩ := rdA23 Z m1 lf x' 75 0 m1 (by decide) (by decide) (fun u hu => absurd hu (by omega))
  rw [n0] at q1
  have hm : TXm Z 0 (fun _ => 0) := ⟨zi 33, fun k hk => absurd hk (by omega)⟩
  have TT : TXt (si m2 1547 (0 : Int32)) 0 (fun _ => 0) := by
    refine ⟨?_, fun k hk => absurd hk (by omega)⟩
    show m2.1 1538 = _
    rw [q2.1 1538 (by decide), r2.1 1538 (by decide)]; exact zi 1538
  have a47 : (si m2 1547 (0 : Int32)).1 1547 = nI 0 := rfl
  have tr := tok_R (N := 0) (by decide) (fun _ => by decide) hm TT (a := 0) (by decide) (zi 34) a47
  have ab : AB (si m2 1547 (0 : Int32)) := by
    refine ⟨⟨?_, ?_⟩, ?_, ?_⟩
    · rw [a47]; decide
    · rw [a47]; decide
    · rw [TT.1]; decide
    · rw [TT.1]; decide
  have tb := tok_ab _ ab
  have f2 := fr_F_X9_token (si m2 1547 (0 : Int32))
  have s51 : ∀ u, u < 54 → (F_X9_token (si m2 1547 (0 : Int32))).2.1 51 u = 0 := fun u hu => by
    rw [f2.2.1 51 (by decide)]
    show m2.2.1 51 u = 0
    rw [q2.2.1 51 (by decide)]; exact r3 u hu
  have s52 : ∀ u, u < 74 → (F_X9_token (si m2 1547 (0 : Int32))).2.1 52 u = 0 := fun u hu => by
    rw [f2.2.1 52 (by decide)]
    exact q3 u hu
  have fV := fr_F_X9_reads Z
  have eV : (F_X9_reads Z).2 = F_X9_token (si m2 1547 (0 : Int32)) := by
    unfold F_X9_reads
    rw [r1, q1]
    unfold F_X9_reads_k48_7
    rw [a47] at tb
    generalize F_X9_token (si m2 1547 (0 : Int32)) = t at *
    have k0 : t.1 1548 = 0 := by
      apply Classical.byContradiction
      intro z
      have st := tb.2.2 z
      obtain ⟨⟨s', e', a1, a2, a3, a4, a5, a6⟩, _⟩ := tr
      rw [a6, show e' = 0 by omega] at st
      omega
    rw [F_X9_reads_L51, if_pos k0]
  rw [eV] at fV ⊢
  generalize F_X9_token (si m2 1547 (0 : Int32)) = t at *
  have z5 : bd (0 : Int32) 0 5 := by decide
  have dr : DR Z t := by
    refine ⟨0, 0, 0, zi 448, zi 449, zi 450, ⟨by decide, by decide, by decide⟩, ⟨s51 0 (by decide), s51 1 (by decide), s51 2 (by decide)⟩, fun i hi => absurd hi (by omega), fun i hi => absurd hi (by omega), fun i hi => absurd hi (by omega), fun i hi => ?_, fun j h1 _ => ?_, za 23 1, ?_⟩
    · rw [s51 (10 + i) (by omega), s51 (18 + i) (by omega), s51 (42 + i) (by omega)]
      exact ⟨z5, z5, z5⟩
    · rw [za 23 j, s52 (pm j) (pmA_lt h1)]
    · refine ⟨fun i hi => ?_, fun i hi => ?_, fun i hi => s52 _ (by omega), fun i hi => ?_, fun i hi => ?_, fun i hi => s52 _ (by omega)⟩
      · rw [s52 _ (by omega)]; decide
      · rw [s52 _ (by omega)]; decide
      · rw [s52 _ (by omega)]; decide
      · rw [s52 _ (by omega)]; decide
  obtain ⟨R, p0, p1, p2, p3, p4, p5, p6, p7⟩ := bg2 t 55 0 t (by decide) (by decide) (fun u hu => absurd hu (by omega))
  rw [n0] at p0
  have eB : F_X9_begins t = R := by unfold F_X9_begins; exact p0
  have fB := fr_F_X9_begins t
  rw [eB] at fB ⊢
  have ar : ∀ i j, Z.2.1 i = Z.2.1 j := fun i j => by funext u; rw [za, za]
  have e57 : R.2.1 57 = Z.2.1 57 := (fB.2.1 57 (by decide)).trans (fV.2.1 57 (by decide))
  have e58 : R.2.1 58 = Z.2.1 58 := (fB.2.1 58 (by decide)).trans (fV.2.1 58 (by decide))
  have wb : WB R := by
    refine ⟨fun j _ => ?_, fun j _ => ?_⟩
    · rw [e57, za]; decide
    · rw [e58, za]; exact z5
  have b38 : R.1 1538 = 0 := ((fB.1 1538 (by decide)).trans (fV.1 1538 (by decide))).trans (zi 1538)
  have hl : Z.2.2 = R.2.2 := ((fB.2.2 rfl).trans (fV.2.2 rfl)).symm
  exact RR_beg (m := Z) (t := t) dr p1 p2 p3 p4 p5 p6 p7 b38 wb hl (za 47 0) (zi 33) ((zi 96).trans (zi 448).symm) ((zi 97).trans (zi 449).symm) ((zi 98).trans (zi 450).symm) (ar 4 15) (ar 5 16) (ar 6 17) (ar 7 18) (ar 8 19) (ar 9 20) (ar 10 21) (fun j _ => by rw [za, za]) (zi 802) (zi 6) (zi 1186)
theorem steps_all : Steps_ok RR := ⟨s_type, s_clear, s_road, s_stage, s_caravan, s_well, s_knots, s_dues, s_goes, s_drinks, s_fills, s_hands, s_strikes, s_undo, s_now, s_pass, s_ring, s_safe, s_hears, s_forget, s_stones, s_mark, s_keep, s_back, s_count, s_trace⟩
