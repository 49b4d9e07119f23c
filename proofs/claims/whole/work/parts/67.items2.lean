/-! ===== road: k and d ===== -/
theorem sr_upd {A h : Nat → Int32} {v : Int32} {a b : Nat} (H : ∀ j, j < 74 → j ≠ 1 → A j = h (pm j)) (ha : a < 74) (hb : b = pm a) : ∀ j, j < 74 → j ≠ 1 → upd A a v j = upd h b v (pm j) := fun j hj h1 => by
  subst hb
  by_cases e : j = a
  · subst e; rw [pk_us, pk_us]
  · rw [pk_un e, pk_un (fun z => e (pm_inj hj ha z))]; exact H j hj h1
theorem im0_upd {g : Nat → Int32} (H : IM0 g) {i : Nat} {v : Int32} (h1 : i < 4 → bd v 0 5) (h2 : 4 ≤ i → i < 8 → bd v 0 20) (h3 : i < 8 ∨ 14 ≤ i) (h4 : 14 ≤ i → i < 38 → bd v 0 99) (h5 : 38 ≤ i → bd v 0 60) (h6 : ∀ w, w < 6 → i ≠ 38 + 7 * w) : IM0 (upd g i v) := by
  obtain ⟨a1, a2, a3, a4, a5, a6⟩ := H
  refine ⟨fun c hc => ?_, fun c hc => ?_, fun c hc => ?_, fun k hk => ?_, fun k hk => ?_, fun w hw => ?_⟩
  · by_cases e : c = i
    · rw [e, pk_us]; exact h1 (by omega)
    · rw [pk_un e]; exact a1 c hc
  · by_cases e : 4 + c = i
    · rw [e, pk_us]; exact h2 (by omega) (by omega)
    · rw [pk_un e]; exact a2 c hc
  · rw [pk_un (by omega)]; exact a3 c hc
  · by_cases e : 14 + k = i
    · rw [e, pk_us]; exact h4 (by omega) (by omega)
    · rw [pk_un e]; exact a4 k hk
  · by_cases e : 38 + k = i
    · rw [e, pk_us]; exact h5 (by omega)
    · rw [pk_un e]; exact a5 k hk
  · rw [pk_un (fun z => h6 w hw z.symm)]; exact a6 w hw
theorem pred_i {k : Nat} (hk : k ≤ 1000) : (nI k - (1 : Int32)).toInt = (k : Int) - 1 := by
  have i := nI_toInt (n := k) (by omega)
  rw [← i]
  exact ti_of (oI_sub (oI_at _) (oI_lit (x := 1) (a := 1) rfl)) (by omega)
section ITEM2
variable {N : Nat} {c : Nat → Nat}
/-- the start row alone has changed -/
theorem DR_row {m t m' t' : St} {w s k : Nat} (w1 : m.1 448 = nI w) (w2 : m.1 449 = nI s) (w3 : m.1 450 = nI k) (d : DRx w s k (m.2.1 15) (m.2.1 16) (m.2.1 17) (m.2.1 18) (m.2.1 19) (m.2.1 20) (m.2.1 21) (m.2.1 23) (t.2.1 51) (t.2.1 52)) (f : Fr CI [23, 24] false m m') (t51 : t'.2.1 51 = t.2.1 51) (h1 : ∀ j, j < 74 → j ≠ 1 → m'.2.1 23 j = t'.2.1 52 (pm j)) (h2 : m'.2.1 23 1 = m.2.1 23 1) (h3 : IM0 (t'.2.1 52)) : DR m' t' := by
  obtain ⟨d1, d2, d3, d4, d5, d6, d7, d8, d9⟩ := d
  refine ⟨w, s, k, (f.1 448 (by decide)).trans w1, (f.1 449 (by decide)).trans w2, (f.1 450 (by decide)).trans w3, ?_⟩
  rw [f.2.1 15 (by decide), f.2.1 16 (by decide), f.2.1 17 (by decide), f.2.1 18 (by decide), f.2.1 19 (by decide), f.2.1 20 (by decide), f.2.1 21 (by decide), t51]
  exact ⟨d1, d2, d3, d4, d5, d6, h1, h2.trans d8, h3⟩
theorem it_knots (hN : N ≤ 200) (hc : ∀ k, c k ≤ 255) {m t : St} (h : RD N c m t) (hd : DR m t) : ITM N c (t.2.1 51 3) (F_X4_tellKnots m) (F_X9_readsDebt t 0) := by
  obtain ⟨w, s, k, w1, w2, w3, dx⟩ := hd
  have dx' := dx
  obtain ⟨⟨b1, b2, b3⟩, ⟨g0, g1, g2⟩, x3, x4, x5, x6, x7, x8, x9⟩ := dx'
  have n0 : nI 0 = (0 : Int32) := rfl
  have n1 : nI 1 = (1 : Int32) := rfl
  have n2 : nI 2 = (2 : Int32) := rfl
  have ik := pred_i (k := k) (by omega)
  have iw := pred_i (k := w) (by omega)
  unfold F_X4_tellKnots F_X9_readsDebt
  rw [w3, if_pos rfl, show ((2 : Int32).toNatClampNeg) = 2 from rfl, g2]
  obtain ⟨y1, y51, y52, y2, yf, y3⟩ := hear_S hN hc h (m0 := m) Fr.rf (i := 0) (by decide) (lo := 0) (hi' := nI k - 1) (by decide) (by omega)
  rw [n0] at y2 y3 yf
  unfold F_X4_tellKnots_k10_2 F_X9_readsDebt_k18_5
  rw [y1]
  generalize F_X4_hear m 0 0 (nI k - 1) = u1 at *
  rcases y3 with ⟨z1, z2⟩ | ⟨z1, z2, _, V0, z3, z4, z5, z6, z7⟩
  · rw [if_pos z1, if_pos z2]; exact Or.inl ⟨rfl, rfl, y2.pl hN⟩
  · rw [if_neg z1, if_neg z2, (yf.1 448 (by decide)).trans w1, y51, g0]
    generalize F_X9_token t = t1 at *
    obtain ⟨yy1, yy51, yy52, yy2, yyf, yy3⟩ := hear_S hN hc y2 yf (i := 1) (by decide) (lo := 0) (hi' := nI w - 1) (by decide) (by omega)
    rw [n1] at yy2 yy3 yyf
    unfold F_X4_tellKnots_k26_5 F_X9_readsDebt_k41_8
    rw [yy1]
    generalize F_X4_hear u1.2 1 0 (nI w - 1) = u4 at *
    rcases yy3 with ⟨a1, a2⟩ | ⟨a1, a2, _, V1, a3, a4, a5, a6, a7⟩
    · rw [if_pos a1, if_pos a2]; exact Or.inl ⟨rfl, rfl, yy2.pl hN⟩
    · rw [if_neg a1, if_neg a2, if_pos (show (0 : Int32) = 0 from rfl)]
      generalize F_X9_token t1 = t2 at *
      obtain ⟨e1, e51, e52, e2, ef, e3⟩ := hear_S hN hc yy2 yyf (i := 2) (by decide) (lo := 0) (hi' := 60) (by decide) (by decide)
      rw [n2] at e2 e3 ef
      unfold F_X4_tellKnots_k40_8 F_X9_readsDebt_k87_15
      rw [e1]
      generalize F_X4_hear u4.2 2 0 60 = u7 at *
      rcases e3 with ⟨c1, c2⟩ | ⟨c1, c2, c2', V2, c3, c4, c5, c6, c7⟩
      · rw [if_pos c1, c2]; exact Or.inl ⟨rfl, rfl, e2.pl hN⟩
      · have V2b : V2 ≤ 60 := by have : (60 : Int32).toInt = 60 := rfl; omega
        have i0 := nI_toInt (n := V0) (by omega)
        have i1 := nI_toInt (n := V1) (by omega)
        have i2 := nI_toInt (n := V2) (by omega)
        have V0b : V0 < 4 := by omega
        have V1b : V1 < 6 := by omega
        rw [if_neg c1, if_pos (show (0 : Int32) = 0 from rfl), c2', c6, y1, yy1, z6, a6, e52, yy52, y52, ixB (K := 14) (k := 14) rfl (by omega) (by omega) (by decide), i0, i1]
        obtain ⟨r, er⟩ : ∃ r, r = sa (F_X9_token t2) 52 (upd (t.2.1 52) (14 + 6 * (V0 : Int).toNat + (V1 : Int).toNat) (nI V2)) := ⟨_, rfl⟩
        rw [← er]
        have rd : RD N c u7.2 r := by rw [er]; exact e2.ts (by decide)
        obtain ⟨p2, pf, p24, p51, p52, p3⟩ := stop_S hN hc rd ef
        refine Or.inr ⟨one_ne, ?_⟩
        unfold F_X4_tellKnots_k47_11 F_X4_tellKnots_k77_14
        generalize F_X4_hearStop u7.2 = u10 at *
        have R51 : (F_X9_token r).2.1 51 = t.2.1 51 := by rw [p51, er]; exact e51.trans (yy51.trans y51)
        have R52 : (F_X9_token r).2.1 52 = upd (t.2.1 52) (14 + 6 * (V0 : Int).toNat + (V1 : Int).toNat) (nI V2) := by rw [p52, er, sa_at]
        generalize F_X9_token r = R at *
        rcases p3 with ⟨p3, p4⟩ | ⟨p3, p4⟩
        · rw [if_pos p3]; exact Or.inl ⟨p4, rfl, p2.pl hN⟩
        · rw [if_neg p3]
          have s2 : u10.2.2.1 24 2 = nI V2 := by rw [p24, c7, pk_us]
          have s1 : u10.2.2.1 24 1 = nI V1 := by rw [p24, c7, pk_un (by decide), a7, pk_us]
          have s0 : u10.2.2.1 24 0 = nI V0 := by rw [p24, c7, pk_un (by decide), a7, pk_un (by decide), z7, pk_us]
          have e23 : u10.2.2.1 23 = m.2.1 23 := pf.2.1 23 (by decide)
          unfold F_X2_setKnotsD
          rw [s0, s1, s2, if_neg (isC4 (by omega)), if_neg (isW6 (by omega)), ixA (K := 14) (k := 14) rfl (by omega) (by omega) (by decide), i0, i1, e23]
          refine Or.inr ⟨p4, rfl, by rw [R51], p2.ms (by decide), ?_⟩
          refine DR_row w1 w2 w3 dx (Fr.sa (by decide) (Fr.mono (by decide) (by decide) (fun _ => rfl) pf)) R51 ?_ ?_ ?_
          · rw [R52, sa_at]
            exact sr_upd x7 (by omega) (by rw [pm_hi (by omega)])
          · rw [sa_at, pk_un (by omega)]
          · rw [R52]
            exact im0_upd x9 (fun z => absurd z (by omega)) (fun _ z => absurd z (by omega)) (by omega) (fun _ _ => ⟨by omega, by omega⟩) (fun _ => ⟨by omega, by omega⟩) (fun _ _ => by omega)
theorem it_dues (hN : N ≤ 200) (hc : ∀ k, c k ≤ 255) {m t : St} (h : RD N c m t) (hd : DR m t) : ITM N c (t.2.1 51 3) (F_X4_tellDues m) (F_X9_readsDebt t 1) := by
  obtain ⟨w, s, k, w1, w2, w3, dx⟩ := hd
  have dx' := dx
  obtain ⟨⟨b1, b2, b3⟩, ⟨g0, g1, g2⟩, x3, x4, x5, x6, x7, x8, x9⟩ := dx'
  have n0 : nI 0 = (0 : Int32) := rfl
  have n1 : nI 1 = (1 : Int32) := rfl
  have n2 : nI 2 = (2 : Int32) := rfl
  have iw := pred_i (k := w) (by omega)
  unfold F_X4_tellDues F_X9_readsDebt
  rw [w1, if_neg one_ne, show ((0 : Int32).toNatClampNeg) = 0 from rfl, g0]
  obtain ⟨y1, y51, y52, y2, yf, y3⟩ := hear_S hN hc h (m0 := m) Fr.rf (i := 0) (by decide) (lo := 0) (hi' := nI w - 1) (by decide) (by omega)
  rw [n0] at y2 y3 yf
  unfold F_X4_tellDues_k10_2 F_X9_readsDebt_k18_5
  rw [y1]
  generalize F_X4_hear m 0 0 (nI w - 1) = u1 at *
  rcases y3 with ⟨z1, z2⟩ | ⟨z1, z2, _, V0, z3, z4, z5, z6, z7⟩
  · rw [if_pos z1, if_pos z2]; exact Or.inl ⟨rfl, rfl, y2.pl hN⟩
  · rw [if_neg z1, if_neg z2, (yf.1 448 (by decide)).trans w1, y51, g0]
    generalize F_X9_token t = t1 at *
    obtain ⟨yy1, yy51, yy52, yy2, yyf, yy3⟩ := hear_S hN hc y2 yf (i := 1) (by decide) (lo := 0) (hi' := nI w - 1) (by decide) (by omega)
    rw [n1] at yy2 yy3 yyf
    unfold F_X4_tellDues_k26_5 F_X9_readsDebt_k41_8
    rw [yy1]
    generalize F_X4_hear u1.2 1 0 (nI w - 1) = u4 at *
    rcases yy3 with ⟨a1, a2⟩ | ⟨a1, a2, _, V1, a3, a4, a5, a6, a7⟩
    · rw [if_pos a1, if_pos a2]; exact Or.inl ⟨rfl, rfl, yy2.pl hN⟩
    · have q1 : u4.2.2.1 24 1 = nI V1 := by rw [a7, pk_us]
      have q0 : u4.2.2.1 24 0 = nI V0 := by rw [a7, pk_un (by decide), z7, pk_us]
      rw [if_neg a1, if_neg a2, if_neg one_ne, q0, q1, a6, y1, z6]
      by_cases v01 : V0 = V1
      · rw [if_pos (show nI V0 = nI V1 by rw [v01]), if_pos (show nI V1 = nI V0 by rw [v01])]
        exact Or.inl ⟨rfl, rfl, yy2.pl hN⟩
      · rw [if_neg (show ¬ nI V0 = nI V1 from fun z => v01 ((nI_eq (by omega) (by omega)).mp z)), if_neg (show ¬ nI V1 = nI V0 from fun z => v01 ((nI_eq (by omega) (by omega)).mp z).symm)]
        generalize F_X9_token t1 = t2 at *
        obtain ⟨e1, e51, e52, e2, ef, e3⟩ := hear_S hN hc yy2 yyf (i := 2) (by decide) (lo := 0) (hi' := 60) (by decide) (by decide)
        rw [n2] at e2 e3 ef
        unfold F_X4_tellDues_k55_9 F_X9_readsDebt_k87_21
        rw [e1]
        generalize F_X4_hear u4.2 2 0 60 = u7 at *
        rcases e3 with ⟨c1, c2⟩ | ⟨c1, c2, c2', V2, c3, c4, c5, c6, c7⟩
        · rw [if_pos c1, c2]; exact Or.inl ⟨rfl, rfl, e2.pl hN⟩
        · have V2b : V2 ≤ 60 := by have : (60 : Int32).toInt = 60 := rfl; omega
          have i0 := nI_toInt (n := V0) (by omega)
          have i1 := nI_toInt (n := V1) (by omega)
          have i2 := nI_toInt (n := V2) (by omega)
          have V0b : V0 < 6 := by omega
          have V1b : V1 < 6 := by omega
          rw [if_neg c1, if_neg one_ne, c2', c6, y1, yy1, z6, a6, e52, yy52, y52, ixB (K := 38) (k := 38) rfl (by omega) (by omega) (by decide), i0, i1]
          obtain ⟨r, er⟩ : ∃ r, r = sa (F_X9_token t2) 52 (upd (t.2.1 52) (38 + 6 * (V0 : Int).toNat + (V1 : Int).toNat) (nI V2)) := ⟨_, rfl⟩
          rw [← er]
          have rd : RD N c u7.2 r := by rw [er]; exact e2.ts (by decide)
          obtain ⟨p2, pf, p24, p51, p52, p3⟩ := stop_S hN hc rd ef
          refine Or.inr ⟨one_ne, ?_⟩
          unfold F_X4_tellDues_k62_12 F_X4_tellDues_k92_15
          generalize F_X4_hearStop u7.2 = u10 at *
          have R51 : (F_X9_token r).2.1 51 = t.2.1 51 := by rw [p51, er]; exact e51.trans (yy51.trans y51)
          have R52 : (F_X9_token r).2.1 52 = upd (t.2.1 52) (38 + 6 * (V0 : Int).toNat + (V1 : Int).toNat) (nI V2) := by rw [p52, er, sa_at]
          generalize F_X9_token r = R at *
          rcases p3 with ⟨p3, p4⟩ | ⟨p3, p4⟩
          · rw [if_pos p3]; exact Or.inl ⟨p4, rfl, p2.pl hN⟩
          · rw [if_neg p3]
            have s2 : u10.2.2.1 24 2 = nI V2 := by rw [p24, c7, pk_us]
            have s1 : u10.2.2.1 24 1 = nI V1 := by rw [p24, c7, pk_un (by decide), q1]
            have s0 : u10.2.2.1 24 0 = nI V0 := by rw [p24, c7, pk_un (by decide), q0]
            have e23 : u10.2.2.1 23 = m.2.1 23 := pf.2.1 23 (by decide)
            unfold F_X2_setDuesD
            rw [s0, s1, s2, if_neg (isW6 (by omega)), if_neg (isW6 (by omega)), ixA (K := 38) (k := 38) rfl (by omega) (by omega) (by decide), i0, i1, e23]
            refine Or.inr ⟨p4, rfl, by rw [R51], p2.ms (by decide), ?_⟩
            refine DR_row w1 w2 w3 dx (Fr.sa (by decide) (Fr.mono (by decide) (by decide) (fun _ => rfl) pf)) R51 ?_ ?_ ?_
            · rw [R52, sa_at]
              exact sr_upd x7 (by omega) (by rw [pm_hi (by omega)])
            · rw [sa_at, pk_un (by omega)]
            · rw [R52]
              exact im0_upd x9 (fun z => absurd z (by omega)) (fun _ z => absurd z (by omega)) (by omega) (fun _ z => absurd z (by omega)) (fun _ => ⟨by omega, by omega⟩) (fun _ _ => by omega)
end ITEM2
