/-! ===== road: s ===== -/
section ITEM4
variable {N : Nat} {c : Nat → Nat}
theorem it_stage (hN : N ≤ 200) (hc : ∀ k, c k ≤ 255) {m t : St} (h : RD N c m t) (hd : DR m t) : ITM N c (t.2.1 51 3) (F_X4_tellStage m) (F_X9_readsStage t) := by
  obtain ⟨w, s, k, w1, w2, w3, ⟨b1, b2, b3⟩, ⟨g0, g1, g2⟩, x3, x4, x5, x6, x7, x8, x9⟩ := hd
  have n0 : nI 0 = (0 : Int32) := rfl
  have n1 : nI 1 = (1 : Int32) := rfl
  have n2 : nI 2 = (2 : Int32) := rfl
  have n3 : nI 3 = (3 : Int32) := rfl
  have n4 : nI 4 = (4 : Int32) := rfl
  have iw := pred_i (k := w) (by omega)
  unfold F_X4_tellStage F_X9_readsStage
  rw [w2, g1]
  by_cases q : s = 8
  · subst q
    rw [if_pos (show (8 : Int32) ≤ nI 8 by decide), if_pos (show nI 8 = (8 : Int32) from rfl)]
    exact Or.inl ⟨rfl, rfl, h.pl hN⟩
  · have i10 : ((10 : Int32) + nI s).toNatClampNeg = 10 + s := by rw [show (10 : Int32) + nI s = nI (10 + s) from nI_add 10 s, nI_clamp (by omega)]
    have i18 : ((18 : Int32) + nI s).toNatClampNeg = 18 + s := by rw [show (18 : Int32) + nI s = nI (18 + s) from nI_add 18 s, nI_clamp (by omega)]
    have i26 : ((26 : Int32) + nI s).toNatClampNeg = 26 + s := by rw [show (26 : Int32) + nI s = nI (26 + s) from nI_add 26 s, nI_clamp (by omega)]
    have i34 : ((34 : Int32) + nI s).toNatClampNeg = 34 + s := by rw [show (34 : Int32) + nI s = nI (34 + s) from nI_add 34 s, nI_clamp (by omega)]
    have i42 : ((42 : Int32) + nI s).toNatClampNeg = 42 + s := by rw [show (42 : Int32) + nI s = nI (42 + s) from nI_add 42 s, nI_clamp (by omega)]
    rw [if_neg (show ¬ (8 : Int32) ≤ nI s from fun z => by have : 8 ≤ s := (num_le s rfl (by decide) (by omega)).mp z; omega), if_neg (show ¬ nI s = (8 : Int32) from fun z => q ((nI_eq (a := s) (b := 8) (by omega) (by decide)).mp z)), w1, g0]
    obtain ⟨y1, y51, y52, y2, yf, y3⟩ := hear_S hN hc h (m0 := m) Fr.rf (i := 0) (by decide) (lo := 0) (hi' := nI w - 1) (by decide) (by omega)
    rw [n0] at y2 y3 yf
    unfold F_X4_tellStage_k19_3 F_X9_readsStage_k25_3
    rw [y1]
    generalize F_X4_hear m 0 0 (nI w - 1) = u1 at *
    rcases y3 with ⟨z1, z2⟩ | ⟨z1, z2, _, V0, z3, z4, z5, z6, z7⟩
    · rw [if_pos z1, if_pos z2]; exact Or.inl ⟨rfl, rfl, y2.pl hN⟩
    · rw [if_neg z1, if_neg z2, g1, g0, i10, z6, y51, (yf.1 448 (by decide)).trans w1]
      obtain ⟨T1, eT1⟩ : ∃ T, T = sa (F_X9_token t) 51 (upd (t.2.1 51) (10 + s) (nI V0)) := ⟨_, rfl⟩
      rw [← eT1]
      have rd1 : RD N c u1.2 T1 := by rw [eT1]; exact y2.ts (by decide)
      have T151 : T1.2.1 51 = upd (t.2.1 51) (10 + s) (nI V0) := by rw [eT1, sa_at]
      have T152 : T1.2.1 52 = t.2.1 52 := by rw [eT1]; exact y52
      obtain ⟨yy1, yy51, yy52, yy2, yyf, yy3⟩ := hear_S hN hc rd1 yf (i := 1) (by decide) (lo := 0) (hi' := nI w - 1) (by decide) (by omega)
      rw [n1] at yy2 yy3 yyf
      unfold F_X4_tellStage_k35_6 F_X9_readsStage_k49_6
      rw [yy1]
      generalize F_X4_hear u1.2 1 0 (nI w - 1) = u4 at *
      rcases yy3 with ⟨a1, a2⟩ | ⟨a1, a2, _, V1, a3, a4, a5, a6, a7⟩
      · rw [if_pos a1, if_pos a2]; exact Or.inl ⟨rfl, rfl, yy2.pl hN⟩
      · have q1 : u4.2.2.1 24 1 = nI V1 := by rw [a7, pk_us]
        have q0 : u4.2.2.1 24 0 = nI V0 := by rw [a7, pk_un (by decide), z7, pk_us]
        rw [if_neg a1, if_neg a2, q0, q1, a6, g1, i10, i18, yy51, T151, pk_us]
        by_cases v01 : V0 = V1
        · rw [if_pos (show nI V0 = nI V1 by rw [v01]), if_pos (show nI V1 = nI V0 by rw [v01])]
          exact Or.inl ⟨rfl, rfl, yy2.pl hN⟩
        · rw [if_neg (show ¬ nI V0 = nI V1 from fun z => v01 ((nI_eq (by omega) (by omega)).mp z)), if_neg (show ¬ nI V1 = nI V0 from fun z => v01 ((nI_eq (by omega) (by omega)).mp z).symm)]
          obtain ⟨T2, eT2⟩ : ∃ T, T = sa (F_X9_token T1) 51 (upd (upd (t.2.1 51) (10 + s) (nI V0)) (18 + s) (nI V1)) := ⟨_, rfl⟩
          rw [← eT2]
          have rd2 : RD N c u4.2 T2 := by rw [eT2]; exact yy2.ts (by decide)
          have T251 : T2.2.1 51 = upd (upd (t.2.1 51) (10 + s) (nI V0)) (18 + s) (nI V1) := by rw [eT2, sa_at]
          have T252 : T2.2.1 52 = t.2.1 52 := by rw [eT2]; exact yy52.trans T152
          obtain ⟨e1, e51, e52, e2, ef, e3⟩ := hear_S hN hc rd2 yyf (i := 2) (by decide) (lo := 1) (hi' := 9) (by decide) (by decide)
          rw [n2] at e2 e3 ef
          unfold F_X4_tellStage_k64_10 F_X9_readsStage_k90_10
          rw [e1]
          generalize F_X4_hear u4.2 2 1 9 = u7 at *
          rcases e3 with ⟨c1, c2⟩ | ⟨c1, c2, _, V2, c3, c4, c5, c6, c7⟩
          · rw [if_pos c1, if_pos c2]; exact Or.inl ⟨rfl, rfl, e2.pl hN⟩
          · rw [if_neg c1, if_neg c2, c6, g1, i26, e51, T251]
            obtain ⟨T3, eT3⟩ : ∃ T, T = sa (F_X9_token T2) 51 (upd (upd (upd (t.2.1 51) (10 + s) (nI V0)) (18 + s) (nI V1)) (26 + s) (nI V2)) := ⟨_, rfl⟩
            rw [← eT3]
            have rd3 : RD N c u7.2 T3 := by rw [eT3]; exact e2.ts (by decide)
            have T351 : T3.2.1 51 = upd (upd (upd (t.2.1 51) (10 + s) (nI V0)) (18 + s) (nI V1)) (26 + s) (nI V2) := by rw [eT3, sa_at]
            have T352 : T3.2.1 52 = t.2.1 52 := by rw [eT3]; exact e52.trans T252
            obtain ⟨f1, f51, f52, f2, ff, f3⟩ := hear_S hN hc rd3 ef (i := 3) (by decide) (lo := 0) (hi' := 1) (by decide) (by decide)
            rw [n3] at f2 f3 ff
            unfold F_X4_tellStage_k75_13 F_X9_readsStage_k114_13
            rw [f1]
            generalize F_X4_hear u7.2 3 0 1 = u8 at *
            rcases f3 with ⟨d1, d2⟩ | ⟨d1, d2, _, V3, d3, d4, d5, d6, d7⟩
            · rw [if_pos d1, if_pos d2]; exact Or.inl ⟨rfl, rfl, f2.pl hN⟩
            · rw [if_neg d1, if_neg d2, d6, g1, g0, i34, f51, T351, (ff.1 448 (by decide)).trans w1]
              obtain ⟨T4, eT4⟩ : ∃ T, T = sa (F_X9_token T3) 51 (upd (upd (upd (upd (t.2.1 51) (10 + s) (nI V0)) (18 + s) (nI V1)) (26 + s) (nI V2)) (34 + s) (nI V3)) := ⟨_, rfl⟩
              rw [← eT4]
              have rd4 : RD N c u8.2 T4 := by rw [eT4]; exact f2.ts (by decide)
              have T451 : T4.2.1 51 = upd (upd (upd (upd (t.2.1 51) (10 + s) (nI V0)) (18 + s) (nI V1)) (26 + s) (nI V2)) (34 + s) (nI V3) := by rw [eT4, sa_at]
              have T452 : T4.2.1 52 = t.2.1 52 := by rw [eT4]; exact f52.trans T352
              obtain ⟨h1, h51, h52, h2, hf, h3⟩ := hear_S hN hc rd4 ff (i := 4) (by decide) (lo := 0) (hi' := nI w - 1) (by decide) (by omega)
              rw [n4] at h2 h3 hf
              unfold F_X4_tellStage_k93_16 F_X9_readsStage_k138_16
              rw [h1]
              generalize F_X4_hear u8.2 4 0 (nI w - 1) = u9 at *
              rcases h3 with ⟨j1, j2⟩ | ⟨j1, j2, _, V4, j3, j4, j5, j6, j7⟩
              · rw [if_pos j1, if_pos j2]; exact Or.inl ⟨rfl, rfl, h2.pl hN⟩
              · have e9 : (9 : Int32).toInt = 9 := rfl
                have e1' : (1 : Int32).toInt = 1 := rfl
                have iv0 := nI_toInt (n := V0) (by omega)
                have iv1 := nI_toInt (n := V1) (by omega)
                have iv2 := nI_toInt (n := V2) (by omega)
                have iv3 := nI_toInt (n := V3) (by omega)
                have iv4 := nI_toInt (n := V4) (by omega)
                obtain ⟨G0, eG0⟩ : ∃ G, G = upd (upd (upd (upd (upd (t.2.1 51) (10 + s) (nI V0)) (18 + s) (nI V1)) (26 + s) (nI V2)) (34 + s) (nI V3)) (42 + s) (nI V4) := ⟨_, rfl⟩
                have G01 : G0 1 = nI s := by rw [eG0, pk_un (by omega), pk_un (by omega), pk_un (by omega), pk_un (by omega), pk_un (by omega)]; exact g1
                rw [if_neg j1, if_neg j2, j6, g1, i42, h51, T451, ← eG0, G01, nI_1]
                obtain ⟨r, er⟩ : ∃ r, r = sa (F_X9_token T4) 51 (upd G0 1 (nI (s + 1))) := ⟨_, rfl⟩
                rw [← er]
                have rd : RD N c u9.2 r := by rw [er]; exact h2.ts (by decide)
                obtain ⟨p2, pf, p24, p51, p52, p3⟩ := stop_S hN hc rd hf
                refine Or.inr ⟨one_ne, ?_⟩
                unfold F_X4_tellStage_k100_19
                generalize F_X4_hearStop u9.2 = u10 at *
                have R51 : (F_X9_token r).2.1 51 = upd G0 1 (nI (s + 1)) := by rw [p51, er, sa_at]
                have R52 : (F_X9_token r).2.1 52 = t.2.1 52 := by rw [p52, er]; exact h52.trans T452
                generalize F_X9_token r = R at *
                rcases p3 with ⟨p3, p4⟩ | ⟨p3, p4⟩
                · rw [if_pos p3]; exact Or.inl ⟨p4, rfl, p2.pl hN⟩
                · rw [if_neg p3]
                  have s4 : u10.2.2.1 24 4 = nI V4 := by rw [p24, j7, pk_us]
                  have s3 : u10.2.2.1 24 3 = nI V3 := by rw [p24, j7, pk_un (by decide), d7, pk_us]
                  have s2 : u10.2.2.1 24 2 = nI V2 := by rw [p24, j7, pk_un (by decide), d7, pk_un (by decide), c7, pk_us]
                  have s1 : u10.2.2.1 24 1 = nI V1 := by rw [p24, j7, pk_un (by decide), d7, pk_un (by decide), c7, pk_un (by decide), q1]
                  have s0 : u10.2.2.1 24 0 = nI V0 := by rw [p24, j7, pk_un (by decide), d7, pk_un (by decide), c7, pk_un (by decide), q0]
                  have e49 : u10.2.1 449 = nI s := (pf.1 449 (by decide)).trans w2
                  rw [s0, s1, s2, s3, s4, e49, nI_clamp (n := s) (by omega), nI_1, pf.2.1 16 (by decide), pf.2.1 17 (by decide), pf.2.1 18 (by decide), pf.2.1 19 (by decide), pf.2.1 20 (by decide)]
                  obtain ⟨B3, eB3⟩ : ∃ B : Int32, B = (if nI V3 = (1 : Int32) then (1 : Int32) else (0 : Int32)) := ⟨_, rfl⟩
                  have B3e : B3 = nI V3 := by
                    rw [eB3]
                    have : V3 = 0 ∨ V3 = 1 := by omega
                    rcases this with v0 | v0 <;> subst v0 <;> decide
                  rw [← eB3, B3e]
                  obtain ⟨Y, eY⟩ : ∃ Y, Y = (si (sa (sa (sa (sa (sa u10.2 16 (upd (m.2.1 16) s (nI V0))) 17 (upd (m.2.1 17) s (nI V1))) 18 (upd (m.2.1 18) s (nI V2))) 19 (upd (m.2.1 19) s (nI V3))) 20 (upd (m.2.1 20) s (nI V4))) 449 (nI (s + 1))) := ⟨_, rfl⟩
                  rw [← eY]
                  refine Or.inr ⟨p4, rfl, by rw [R51, pk_un (by omega), eG0, pk_un (by omega), pk_un (by omega), pk_un (by omega), pk_un (by omega), pk_un (by omega)], ?_, ?_⟩
                  · rw [eY]
                    exact (show RD N c (si (sa (sa (sa (sa (sa u10.2 16 _) 17 _) 18 _) 19 _) 20 _) 449 _) _ from ((((p2.ms (i := 16) (by decide)).ms (i := 17) (by decide)).ms (i := 18) (by decide)).ms (i := 19) (by decide)).ms (i := 20) (by decide))
                  · have y16 : Y.2.1 16 = upd (m.2.1 16) s (nI V0) := by rw [eY]; rfl
                    have y17 : Y.2.1 17 = upd (m.2.1 17) s (nI V1) := by rw [eY]; rfl
                    have y18 : Y.2.1 18 = upd (m.2.1 18) s (nI V2) := by rw [eY]; rfl
                    have y19 : Y.2.1 19 = upd (m.2.1 19) s (nI V3) := by rw [eY]; rfl
                    have y20 : Y.2.1 20 = upd (m.2.1 20) s (nI V4) := by rw [eY]; rfl
                    have y15 : Y.2.1 15 = m.2.1 15 := by rw [eY]; exact pf.2.1 15 (by decide)
                    have y21 : Y.2.1 21 = m.2.1 21 := by rw [eY]; exact pf.2.1 21 (by decide)
                    have y23 : Y.2.1 23 = m.2.1 23 := by rw [eY]; exact pf.2.1 23 (by decide)
                    have v48 : Y.1 448 = nI w := by rw [eY]; exact (pf.1 448 (by decide)).trans w1
                    have v49 : Y.1 449 = nI (s + 1) := by rw [eY]; rfl
                    have v50 : Y.1 450 = nI k := by rw [eY]; exact (pf.1 450 (by decide)).trans w3
                    refine ⟨w, s + 1, k, v48, v49, v50, ?_⟩
                    rw [y15, y16, y17, y18, y19, y20, y21, y23, R51, R52]
                    have ga : G0 (10 + s) = nI V0 := by rw [eG0, pk_un (by omega), pk_un (by omega), pk_un (by omega), pk_un (by omega), pk_us]
                    have gb : G0 (18 + s) = nI V1 := by rw [eG0, pk_un (by omega), pk_un (by omega), pk_un (by omega), pk_us]
                    have gc : G0 (26 + s) = nI V2 := by rw [eG0, pk_un (by omega), pk_un (by omega), pk_us]
                    have gd : G0 (34 + s) = nI V3 := by rw [eG0, pk_un (by omega), pk_us]
                    have ge : G0 (42 + s) = nI V4 := by rw [eG0, pk_us]
                    have gi : ∀ j, j ≠ 10 + s → j ≠ 18 + s → j ≠ 26 + s → j ≠ 34 + s → j ≠ 42 + s → G0 j = t.2.1 51 j := fun j k1 k2 k3 k4 k5 => by rw [eG0, pk_un k5, pk_un k4, pk_un k3, pk_un k2, pk_un k1]
                    have hi1 : ∀ j, j ≠ 1 → upd G0 1 (nI (s + 1)) j = G0 j := fun j hj => pk_un hj
                    have hi0 : upd G0 1 (nI (s + 1)) 1 = nI (s + 1) := pk_us
                    generalize upd G0 1 (nI (s + 1)) = G at *
                    refine ⟨⟨b1, by omega, b3⟩, ⟨by rw [hi1 _ (by omega), gi _ (by omega) (by omega) (by omega) (by omega) (by omega)]; exact g0, hi0, by rw [hi1 _ (by omega), gi _ (by omega) (by omega) (by omega) (by omega) (by omega)]; exact g2⟩, fun i hi => ?_, fun i hi => ?_, fun i hi => ?_, fun i hi => ?_, x7, x8, x9⟩
                    · rw [hi1 _ (by omega), gi _ (by omega) (by omega) (by omega) (by omega) (by omega)]; exact x3 i hi
                    · rw [hi1 _ (by omega), hi1 _ (by omega), hi1 _ (by omega), hi1 _ (by omega), hi1 _ (by omega)]
                      by_cases e : i = s
                      · subst e
                        rw [pk_us, pk_us, pk_us, pk_us, pk_us, ga, gb, gc, gd, ge]
                        exact ⟨⟨rfl, by omega⟩, ⟨rfl, by omega⟩, ⟨rfl, by omega, by omega⟩, ⟨rfl, by omega, by omega⟩, rfl, by omega⟩
                      · rw [pk_un e, pk_un e, pk_un e, pk_un e, pk_un e, gi (10 + i) (by omega) (by omega) (by omega) (by omega) (by omega), gi (18 + i) (by omega) (by omega) (by omega) (by omega) (by omega), gi (26 + i) (by omega) (by omega) (by omega) (by omega) (by omega), gi (34 + i) (by omega) (by omega) (by omega) (by omega) (by omega), gi (42 + i) (by omega) (by omega) (by omega) (by omega) (by omega)]
                        exact x4 i (by omega)
                    · rw [hi1 _ (by omega), gi _ (by omega) (by omega) (by omega) (by omega) (by omega)]; exact x5 i hi
                    · rw [hi1 _ (by omega), hi1 _ (by omega), hi1 _ (by omega)]
                      by_cases e : i = s
                      · subst e
                        rw [ga, gb, ge]
                        exact ⟨⟨by omega, by omega⟩, ⟨by omega, by omega⟩, by omega, by omega⟩
                      · rw [gi (10 + i) (by omega) (by omega) (by omega) (by omega) (by omega), gi (18 + i) (by omega) (by omega) (by omega) (by omega) (by omega), gi (42 + i) (by omega) (by omega) (by omega) (by omega) (by omega)]
                        exact x6 i hi
end ITEM4
