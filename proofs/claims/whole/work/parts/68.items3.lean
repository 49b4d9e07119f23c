/-! ===== road: c and s ===== -/
theorem wk_tab : ∀ k, k < 4 → (nI (2 ^ k - 1) ||| ((1 : Int32) <<< (nI k &&& 31))) = nI (2 ^ (k + 1) - 1) := by decide +kernel
section ITEM3
variable {N : Nat} {c : Nat → Nat}
theorem it_caravan (hN : N ≤ 200) (hc : ∀ k, c k ≤ 255) {m t : St} (h : RD N c m t) (hd : DR m t) : ITM N c (t.2.1 51 3) (F_X4_tellCaravan m) (F_X9_readsCaravan t) := by
  obtain ⟨w, s, k, w1, w2, w3, ⟨b1, b2, b3⟩, ⟨g0, g1, g2⟩, x3, x4, x5, x6, x7, x8, x9⟩ := hd
  have n0 : nI 0 = (0 : Int32) := rfl
  have n1 : nI 1 = (1 : Int32) := rfl
  have n2 : nI 2 = (2 : Int32) := rfl
  have iw := pred_i (k := w) (by omega)
  unfold F_X4_tellCaravan F_X9_readsCaravan
  rw [w3, g2]
  by_cases q : k = 4
  · subst q
    rw [if_pos (show (4 : Int32) ≤ nI 4 by decide), if_pos (show nI 4 = (4 : Int32) from rfl)]
    exact Or.inl ⟨rfl, rfl, h.pl hN⟩
  · have i50 : ((50 : Int32) + nI k).toNatClampNeg = 50 + k := by rw [show (50 : Int32) + nI k = nI (50 + k) from nI_add 50 k, nI_clamp (by omega)]
    have i4 : ((4 : Int32) + nI k).toNatClampNeg = 4 + k := by rw [show (4 : Int32) + nI k = nI (4 + k) from nI_add 4 k, nI_clamp (by omega)]
    have i2' : ((2 : Int32) + nI k).toNatClampNeg = 2 + k := by rw [show (2 : Int32) + nI k = nI (2 + k) from nI_add 2 k, nI_clamp (by omega)]
    have i6 : ((6 : Int32) + nI k).toNatClampNeg = 6 + k := by rw [show (6 : Int32) + nI k = nI (6 + k) from nI_add 6 k, nI_clamp (by omega)]
    have ik := nI_toInt (n := k) (by omega)
    rw [if_neg (show ¬ (4 : Int32) ≤ nI k from fun z => by have : 4 ≤ k := (num_le k rfl (by decide) (by omega)).mp z; omega), if_neg (show ¬ nI k = (4 : Int32) from fun z => q ((nI_eq (a := k) (b := 4) (by omega) (by decide)).mp z)), w1, g0]
    obtain ⟨y1, y51, y52, y2, yf, y3⟩ := hear_S hN hc h (m0 := m) Fr.rf (i := 0) (by decide) (lo := 0) (hi' := nI w - 1) (by decide) (by omega)
    rw [n0] at y2 y3 yf
    unfold F_X4_tellCaravan_k18_3 F_X9_readsCaravan_k22_3
    rw [y1]
    generalize F_X4_hear m 0 0 (nI w - 1) = u1 at *
    rcases y3 with ⟨z1, z2⟩ | ⟨z1, z2, _, V0, z3, z4, z5, z6, z7⟩
    · rw [if_pos z1, if_pos z2]; exact Or.inl ⟨rfl, rfl, y2.pl hN⟩
    · rw [if_neg z1, if_neg z2, g2, nI_clamp (n := k) (by omega), z6, y52]
      obtain ⟨T1, eT1⟩ : ∃ T, T = sa (F_X9_token t) 52 (upd (t.2.1 52) k (nI V0)) := ⟨_, rfl⟩
      rw [← eT1]
      have rd1 : RD N c u1.2 T1 := by rw [eT1]; exact y2.ts (by decide)
      have T151 : T1.2.1 51 = t.2.1 51 := by rw [eT1]; exact y51
      have T152 : T1.2.1 52 = upd (t.2.1 52) k (nI V0) := by rw [eT1, sa_at]
      obtain ⟨yy1, yy51, yy52, yy2, yyf, yy3⟩ := hear_S hN hc rd1 yf (i := 1) (by decide) (lo := 0) (hi' := 20) (by decide) (by decide)
      rw [n1] at yy2 yy3 yyf
      unfold F_X4_tellCaravan_k32_6 F_X9_readsCaravan_k44_6
      rw [yy1]
      generalize F_X4_hear u1.2 1 0 20 = u4 at *
      rcases yy3 with ⟨a1, a2⟩ | ⟨a1, a2, _, V1, a3, a4, a5, a6, a7⟩
      · rw [if_pos a1, if_pos a2]; exact Or.inl ⟨rfl, rfl, yy2.pl hN⟩
      · rw [if_neg a1, if_neg a2, g2, i4, a6, yy52, T152]
        obtain ⟨T2, eT2⟩ : ∃ T, T = sa (F_X9_token T1) 52 (upd (upd (t.2.1 52) k (nI V0)) (4 + k) (nI V1)) := ⟨_, rfl⟩
        rw [← eT2]
        have rd2 : RD N c u4.2 T2 := by rw [eT2]; exact yy2.ts (by decide)
        have T251 : T2.2.1 51 = t.2.1 51 := by rw [eT2]; exact yy51.trans T151
        have T252 : T2.2.1 52 = upd (upd (t.2.1 52) k (nI V0)) (4 + k) (nI V1) := by rw [eT2, sa_at]
        obtain ⟨e1, e51, e52, e2, ef, e3⟩ := hear_S hN hc rd2 yyf (i := 2) (by decide) (lo := 1) (hi' := 20) (by decide) (by decide)
        rw [n2] at e2 e3 ef
        unfold F_X4_tellCaravan_k44_9 F_X9_readsCaravan_k68_9
        rw [e1]
        generalize F_X4_hear u4.2 2 1 20 = u7 at *
        rcases e3 with ⟨c1, c2⟩ | ⟨c1, c2, c2', V2, c3, c4, c5, c6, c7⟩
        · rw [if_pos c1, if_pos c2]; exact Or.inl ⟨rfl, rfl, e2.pl hN⟩
        · have e20 : (20 : Int32).toInt = 20 := rfl
          have e1' : (1 : Int32).toInt = 1 := rfl
          have i0 := nI_toInt (n := V0) (by omega)
          have i1 := nI_toInt (n := V1) (by omega)
          have i2 := nI_toInt (n := V2) (by omega)
          rw [if_neg c1, if_neg c2, c6, g2, i50, e51, T251, pk_un (show (2 : Nat) ≠ 50 + k by omega), g2, nI_1]
          obtain ⟨r, er⟩ : ∃ r, r = sa (F_X9_token T2) 51 (upd (upd (t.2.1 51) (50 + k) (nI V2)) 2 (nI (k + 1))) := ⟨_, rfl⟩
          rw [← er]
          have rd : RD N c u7.2 r := by rw [er]; exact e2.ts (by decide)
          obtain ⟨p2, pf, p24, p51, p52, p3⟩ := stop_S hN hc rd ef
          refine Or.inr ⟨one_ne, ?_⟩
          unfold F_X4_tellCaravan_k51_12
          generalize F_X4_hearStop u7.2 = u10 at *
          have R51 : (F_X9_token r).2.1 51 = upd (upd (t.2.1 51) (50 + k) (nI V2)) 2 (nI (k + 1)) := by rw [p51, er, sa_at]
          have R52 : (F_X9_token r).2.1 52 = upd (upd (t.2.1 52) k (nI V0)) (4 + k) (nI V1) := by rw [p52, er]; exact e52.trans T252
          generalize F_X9_token r = R at *
          rcases p3 with ⟨p3, p4⟩ | ⟨p3, p4⟩
          · rw [if_pos p3]; exact Or.inl ⟨p4, rfl, p2.pl hN⟩
          · rw [if_neg p3]
            have s2 : u10.2.2.1 24 2 = nI V2 := by rw [p24, c7, pk_us]
            have s1 : u10.2.2.1 24 1 = nI V1 := by rw [p24, c7, pk_un (by decide), a7, pk_us]
            have s0 : u10.2.2.1 24 0 = nI V0 := by rw [p24, c7, pk_un (by decide), a7, pk_un (by decide), z7, pk_us]
            have e23 : u10.2.2.1 23 = m.2.1 23 := pf.2.1 23 (by decide)
            have e45 : u10.2.1 450 = nI k := (pf.1 450 (by decide)).trans w3
            obtain ⟨A, eA⟩ : ∃ A, A = upd (upd (upd (m.2.1 23) (2 + k) (nI V0)) (6 + k) (nI V1)) 1 (nI (2 ^ (k + 1) - 1)) := ⟨_, rfl⟩
            have st : F_X4_tellCaravan_k73_15 m u1 u4 u7 u10 (F_X2_setPlaceD u10.2 (u10.2.1 450) ((u10.2.2.1 24) 0)) = ((1 : Int32), si (sa (sa u10.2 23 A) 21 (upd (u10.2.2.1 21) k (nI V2))) 450 (nI (k + 1))) := by
              unfold F_X4_tellCaravan_k73_15 F_X4_tellCaravan_k90_17 F_X4_tellCaravan_k101_19 F_X2_setPlaceD
              rw [e45, s0, if_neg (isC4 (c := nI k) (by omega)), i2', e23]
              obtain ⟨X1, eX1⟩ : ∃ X, X = sa u10.2 23 (upd (m.2.1 23) (2 + k) (nI V0)) := ⟨_, rfl⟩
              rw [← eX1]
              have X145 : X1.1 450 = nI k := by rw [eX1]; exact e45
              have X124 : X1.2.1 24 = u10.2.2.1 24 := by rw [eX1]; rfl
              have X123 : X1.2.1 23 = upd (m.2.1 23) (2 + k) (nI V0) := by rw [eX1, sa_at]
              unfold F_X2_setCupsD
              rw [X145, X124, s1, if_neg (isC4 (c := nI k) (by omega)), i6, X123]
              obtain ⟨X2, eX2⟩ : ∃ X, X = sa X1 23 (upd (upd (m.2.1 23) (2 + k) (nI V0)) (6 + k) (nI V1)) := ⟨_, rfl⟩
              rw [← eX2]
              have X245 : X2.1 450 = nI k := by rw [eX2]; exact X145
              have X224 : X2.2.1 24 = u10.2.2.1 24 := by rw [eX2]; exact X124
              have X223 : X2.2.1 23 = upd (upd (m.2.1 23) (2 + k) (nI V0)) (6 + k) (nI V1) := by rw [eX2, sa_at]
              unfold F_X2_wakeD
              rw [X245, if_neg (isC4 (c := nI k) (by omega)), X223, pk_un (show (1 : Nat) ≠ 6 + k by omega), pk_un (show (1 : Nat) ≠ 2 + k by omega), x8, wk_tab k (by omega), ← eA]
              have s3 : sa X2 23 A = sa u10.2 23 A := by rw [eX2, eX1, sa_sa, sa_sa]
              rw [s3]
              have X345 : (sa u10.2 23 A).1 450 = nI k := e45
              have X324 : (sa u10.2 23 A).2.1 24 = u10.2.2.1 24 := rfl
              have X321 : (sa u10.2 23 A).2.1 21 = u10.2.2.1 21 := rfl
              rw [X345, X324, X321, s2, nI_clamp (n := k) (by omega), nI_1]
            rw [st]
            have e21 : u10.2.2.1 21 = m.2.1 21 := pf.2.1 21 (by decide)
            rw [e21]
            refine Or.inr ⟨p4, rfl, by rw [R51, pk_un (by omega), pk_un (by omega)], ?_, ?_⟩
            · exact (show RD N c (si (sa (sa u10.2 23 A) 21 _) 450 _) _ from (p2.ms (i := 23) (by decide)).ms (i := 21) (by decide))
            · refine ⟨w, s, k + 1, (pf.1 448 (by decide)).trans w1, (pf.1 449 (by decide)).trans w2, rfl, ?_⟩
              obtain ⟨Y, eY⟩ : ∃ Y, Y = si (sa (sa u10.2 23 A) 21 (upd (m.2.1 21) k (nI V2))) 450 (nI (k + 1)) := ⟨_, rfl⟩
              have y21 : Y.2.1 21 = upd (m.2.1 21) k (nI V2) := by rw [eY]; rfl
              have y23 : Y.2.1 23 = A := by rw [eY]; rfl
              have y15 : Y.2.1 15 = m.2.1 15 := by rw [eY]; exact pf.2.1 15 (by decide)
              have y16 : Y.2.1 16 = m.2.1 16 := by rw [eY]; exact pf.2.1 16 (by decide)
              have y17 : Y.2.1 17 = m.2.1 17 := by rw [eY]; exact pf.2.1 17 (by decide)
              have y18 : Y.2.1 18 = m.2.1 18 := by rw [eY]; exact pf.2.1 18 (by decide)
              have y19 : Y.2.1 19 = m.2.1 19 := by rw [eY]; exact pf.2.1 19 (by decide)
              have y20 : Y.2.1 20 = m.2.1 20 := by rw [eY]; exact pf.2.1 20 (by decide)
              show DRx w s (k + 1) ((si (sa (sa u10.2 23 A) 21 (upd (m.2.1 21) k (nI V2))) 450 (nI (k + 1))).2.1 15) _ _ _ _ _ _ _ _ _
              rw [← eY, y15, y16, y17, y18, y19, y20, y21, y23, R51, R52]
              have gi : ∀ j, j ≠ 2 → j ≠ 50 + k → upd (upd (t.2.1 51) (50 + k) (nI V2)) 2 (nI (k + 1)) j = t.2.1 51 j := fun j h1 h2 => by rw [pk_un h1, pk_un h2]
              have gw : upd (upd (t.2.1 51) (50 + k) (nI V2)) 2 (nI (k + 1)) (50 + k) = nI V2 := by rw [pk_un (by omega), pk_us]
              have g00 : upd (upd (t.2.1 51) (50 + k) (nI V2)) 2 (nI (k + 1)) 2 = nI (k + 1) := by rw [pk_us]
              generalize upd (upd (t.2.1 51) (50 + k) (nI V2)) 2 (nI (k + 1)) = G at *
              have h1 := im0_upd (i := k) (v := nI V0) x9 (fun _ => ⟨by omega, by omega⟩) (fun z => absurd z (by omega)) (by omega) (fun z => absurd z (by omega)) (fun z => absurd z (by omega)) (fun _ _ => by omega)
              have h2 := im0_upd (i := 4 + k) (v := nI V1) h1 (fun z => absurd z (by omega)) (fun _ _ => ⟨by omega, by omega⟩) (by omega) (fun z => absurd z (by omega)) (fun z => absurd z (by omega)) (fun _ _ => by omega)
              have r1 := sr_upd (v := nI V0) x7 (a := 2 + k) (b := k) (by omega) (by rw [pm_lo (by omega) (by omega)]; omega)
              have r2 := sr_upd (v := nI V1) r1 (a := 6 + k) (b := 4 + k) (by omega) (by rw [pm_lo (by omega) (by omega)]; omega)
              refine ⟨⟨b1, b2, by omega⟩, ⟨by rw [gi 0 (by omega) (by omega)]; exact g0, by rw [gi 1 (by omega) (by omega)]; exact g1, g00⟩, fun i hi => ?_, fun i hi => ?_, fun i hi => ?_, fun i hi => ?_, fun j h1 h2 => ?_, ?_, h2⟩
              · rw [gi _ (by omega) (by omega)]; exact x3 i hi
              · rw [gi _ (by omega) (by omega), gi _ (by omega) (by omega), gi _ (by omega) (by omega), gi _ (by omega) (by omega), gi _ (by omega) (by omega)]; exact x4 i hi
              · by_cases e : i = k
                · subst e
                  rw [pk_us, gw]
                  exact ⟨rfl, by omega, by omega⟩
                · rw [pk_un e, gi _ (by omega) (by omega)]
                  exact x5 i (by omega)
              · rw [gi _ (by omega) (by omega), gi _ (by omega) (by omega), gi _ (by omega) (by omega)]; exact x6 i hi
              · rw [eA, pk_un h2]; exact r2 j h1 h2
              · rw [eA, pk_us]
end ITEM3
