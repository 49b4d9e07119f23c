/-! ===== road: the items ===== -/
abbrev CI : List Nat := [34, 35, 36, 37]
section ITEM
variable {N : Nat} {c : Nat → Nat}
theorem hear_S (hN : N ≤ 200) (hc : ∀ k, c k ≤ 255) {m0 m t : St} (h : RD N c m t) (f : Fr CI [24] false m0 m) {i : Nat} (hi : i < 5) {lo hi' : Int32} (hl : 0 ≤ lo.toInt) (hh : hi'.toInt ≤ 99) : (F_X9_number t lo hi').2 = F_X9_token t ∧ (F_X9_token t).2.1 51 = t.2.1 51 ∧ (F_X9_token t).2.1 52 = t.2.1 52 ∧ RD N c (F_X4_hear m (nI i) lo hi').2 (F_X9_token t) ∧ Fr CI [24] false m0 (F_X4_hear m (nI i) lo hi').2 ∧ (((F_X4_hear m (nI i) lo hi').1 = 0 ∧ (F_X9_number t lo hi').1 = 0) ∨ (¬ (F_X4_hear m (nI i) lo hi').1 = 0 ∧ ¬ (F_X9_number t lo hi').1 = 0 ∧ (F_X9_number t lo hi').1 = 1 ∧ ∃ V : Nat, V ≤ 99 ∧ lo.toInt ≤ V ∧ (V : Int) ≤ hi'.toInt ∧ (F_X9_token t).1 1550 = nI V ∧ (F_X4_hear m (nI i) lo hi').2.2.1 24 = upd (m.2.1 24) i (nI V))) := by
  obtain ⟨y1, y2, y3⟩ := hear_R hN hc h hi hl hh
  have f1 := fr_F_X6_scan m
  have f2 := fr_F_X9_token t
  refine ⟨y1, f2.2.1 51 (by decide), f2.2.1 52 (by decide), y2, ?_, ?_⟩
  · have g : Fr CI [24] false m (F_X4_hear m (nI i) lo hi').2 := by
      unfold F_X4_hear F_X4_hear_k1_2
      have f1' : Fr CI [24] false m (F_X6_scan m) := Fr.mono (by decide) (fun k hk => absurd hk (by simp [A_X6_scan])) (fun _ => rfl) f1
      exact fr_ite2 (fr_ite2 f1' (fr_ite2 f1' (fr_ite2 f1' (fr_ite2 (Fr.sa (by decide) f1') f1')))) f1'
    exact Fr.tr f g
  · rcases y3 with ⟨z1, z2⟩ | ⟨z1, z2, V, z3, z4, z5, z6, z7⟩
    · exact Or.inl ⟨z1, z2⟩
    · refine Or.inr ⟨by rw [z1]; decide, by rw [z2]; decide, z2, V, z3, z4, z5, z6, ?_⟩
      rw [z7, sa_at, f1.2.1 24 (by decide)]
theorem stop_S (hN : N ≤ 200) (hc : ∀ k, c k ≤ 255) {m0 m t : St} (h : RD N c m t) (f : Fr CI [24] false m0 m) : RD N c (F_X4_hearStop m).2 (F_X9_token t) ∧ Fr CI [24] false m0 (F_X4_hearStop m).2 ∧ (F_X4_hearStop m).2.2.1 24 = m.2.1 24 ∧ (F_X9_token t).2.1 51 = t.2.1 51 ∧ (F_X9_token t).2.1 52 = t.2.1 52 ∧ (((F_X4_hearStop m).1 = 0 ∧ ¬ (F_X9_token t).1 1548 = 3) ∨ (¬ (F_X4_hearStop m).1 = 0 ∧ (F_X9_token t).1 1548 = 3)) := by
  obtain ⟨p1, p2, p3⟩ := stop_R hN hc h
  have f1 := fr_F_X6_scan m
  have f2 := fr_F_X9_token t
  rw [p1]
  refine ⟨p2, Fr.tr f (Fr.mono (by decide) (fun k hk => absurd hk (by simp [A_X6_scan])) (fun _ => rfl) f1), f1.2.1 24 (by decide), f2.2.1 51 (by decide), f2.2.1 52 (by decide), ?_⟩
  rcases p3 with ⟨p3, p4⟩ | ⟨p3, p4⟩
  · exact Or.inl ⟨p3, p4⟩
  · exact Or.inr ⟨by rw [p3]; decide, p4⟩
theorem one_ne : ¬ (1 : Int32) = 0 := by decide
theorem it_well (hN : N ≤ 200) (hc : ∀ k, c k ≤ 255) {m t : St} (h : RD N c m t) (hd : DR m t) : ITM N c (t.2.1 51 3) (F_X4_tellWell m) (if ((t.2.1 51) 0) = (6 : Int32) then ((0 : Int32), t) else (F_X9_readsItem_k85_19 t (F_X9_number t (0 : Int32) (1 : Int32)))) := by
  obtain ⟨w, s, k, w1, w2, w3, ⟨b1, b2, b3⟩, ⟨g0, g1, g2⟩, x3, x4, x5, x6, x7, x8, x9⟩ := hd
  unfold F_X4_tellWell
  rw [w1, g0]
  by_cases q : w = 6
  · subst q
    rw [if_pos (show (6 : Int32) ≤ nI 6 by decide), if_pos (show nI 6 = (6 : Int32) from rfl)]
    exact Or.inl ⟨rfl, rfl, h.pl hN⟩
  · rw [if_neg (nI_n6 (by omega)), if_neg (show ¬ nI w = (6 : Int32) from fun z => q ((nI_eq (a := w) (b := 6) (by omega) (by decide)).mp z))]
    have n0 : nI 0 = (0 : Int32) := rfl
    obtain ⟨y1, y51, y52, y2, yf, y3⟩ := hear_S hN hc h (m0 := m) Fr.rf (i := 0) (by decide) (lo := 0) (hi' := 1) (by decide) (by decide)
    rw [n0] at y2 y3 yf
    unfold F_X4_tellWell_k14_3 F_X9_readsItem_k85_19
    rw [y1]
    generalize F_X4_hear m 0 0 1 = u2 at *
    rcases y3 with ⟨z1, z2⟩ | ⟨z1, z2, _, V, z3, z4, z5, z6, z7⟩
    · rw [if_pos z1, if_pos z2]
      exact Or.inl ⟨rfl, rfl, y2.pl hN⟩
    · have V1 : V ≤ 1 := by have : (1 : Int32).toInt = 1 := rfl; omega
      have i4 : ((4 : Int32) + nI w).toNatClampNeg = 4 + w := by rw [show (4 : Int32) + nI w = nI (4 + w) from nI_add 4 w, nI_clamp (by omega)]
      rw [if_neg z1, if_neg z2, z6, g0, i4, y51, pk_un (show (0 : Nat) ≠ 4 + w by omega), g0, nI_1]
      obtain ⟨r, er⟩ : ∃ r, r = sa (F_X9_token t) 51 (upd (upd (t.2.1 51) (4 + w) (nI V)) 0 (nI (w + 1))) := ⟨_, rfl⟩
      rw [← er]
      have rd : RD N c u2.2 r := by rw [er]; exact y2.ts (by decide)
      obtain ⟨p2, pf, p24, p51, p52, p3⟩ := stop_S hN hc rd yf
      refine Or.inr ⟨one_ne, ?_⟩
      unfold F_X4_tellWell_k21_6
      generalize F_X4_hearStop u2.2 = u5 at *
      generalize F_X9_token r = R at *
      rcases p3 with ⟨p3, p4⟩ | ⟨p3, p4⟩
      · rw [if_pos p3]
        exact Or.inl ⟨p4, rfl, p2.pl hN⟩
      · rw [if_neg p3]
        refine Or.inr ⟨p4, rfl, by rw [p51, er, sa_at, pk_un (by omega), pk_un (by omega)], ?_, ?_⟩
        · exact (show RD N c (si (sa u5.2 15 _) 448 _) _ from p2.ms (i := 15) (by decide))
        · have e48 : u5.2.1 448 = nI w := (pf.1 448 (by decide)).trans w1
          have e24 : u5.2.2.1 24 0 = nI V := by rw [p24, z7, pk_us]
          have r51 : R.2.1 51 = upd (upd (t.2.1 51) (4 + w) (nI V)) 0 (nI (w + 1)) := by rw [p51, er, sa_at]
          have r52 : R.2.1 52 = t.2.1 52 := by rw [p52, er]; exact y52
          rw [e48, e24, nI_clamp (n := w) (by omega), nI_1]
          refine ⟨w + 1, s, k, rfl, (pf.1 449 (by decide)).trans w2, (pf.1 450 (by decide)).trans w3, ?_⟩
          have a15 : (si (sa u5.2 15 (upd (u5.2.2.1 15) w (if nI V = 1 then 1 else 0))) 448 (nI (w + 1))).2.1 15 = upd (m.2.1 15) w (if nI V = 1 then 1 else 0) := by
            rw [← pf.2.1 15 (by decide)]; rfl
          have ax : ∀ j, j ≠ 15 → j ≠ 24 → (si (sa u5.2 15 (upd (u5.2.2.1 15) w (if nI V = 1 then 1 else 0))) 448 (nI (w + 1))).2.1 j = m.2.1 j := fun j hj hj2 => by
            rw [← pf.2.1 j (by simp [hj2])]
            show (if j = 15 then _ else u5.2.2.1 j) = _
            rw [if_neg hj]
          rw [a15, ax 16 (by decide) (by decide), ax 17 (by decide) (by decide), ax 18 (by decide) (by decide), ax 19 (by decide) (by decide), ax 20 (by decide) (by decide), ax 21 (by decide) (by decide), ax 23 (by decide) (by decide), r51, r52]
          have gi : ∀ j, j ≠ 0 → j ≠ 4 + w → upd (upd (t.2.1 51) (4 + w) (nI V)) 0 (nI (w + 1)) j = t.2.1 51 j := fun j h1 h2 => by rw [pk_un h1, pk_un h2]
          have gw : upd (upd (t.2.1 51) (4 + w) (nI V)) 0 (nI (w + 1)) (4 + w) = nI V := by rw [pk_un (by omega), pk_us]
          have g00 : upd (upd (t.2.1 51) (4 + w) (nI V)) 0 (nI (w + 1)) 0 = nI (w + 1) := by rw [pk_us]
          generalize upd (upd (t.2.1 51) (4 + w) (nI V)) 0 (nI (w + 1)) = G at *
          have iV := nI_toInt (n := V) (by omega)
          refine ⟨⟨by omega, b2, b3⟩, ⟨g00, by rw [gi 1 (by omega) (by omega)]; exact g1, by rw [gi 2 (by omega) (by omega)]; exact g2⟩, fun i hi => ?_, fun i hi => ?_, fun i hi => ?_, fun i hi => ?_, x7, x8, x9⟩
          · by_cases e : i = w
            · subst e
              rw [pk_us, gw]
              refine ⟨?_, by omega, by omega⟩
              have : V = 0 ∨ V = 1 := by omega
              rcases this with v0 | v0 <;> subst v0 <;> decide
            · rw [pk_un e, gi _ (by omega) (by omega)]
              exact x3 i (by omega)
          · rw [gi _ (by omega) (by omega), gi _ (by omega) (by omega), gi _ (by omega) (by omega), gi _ (by omega) (by omega), gi _ (by omega) (by omega)]
            obtain ⟨⟨t1, t2⟩, ⟨t3, t4⟩, t5, t6, t7, t8⟩ := x4 i hi
            exact ⟨⟨t1, by omega⟩, ⟨t3, by omega⟩, t5, t6, t7, by omega⟩
          · rw [gi _ (by omega) (by omega)]; exact x5 i hi
          · rw [gi _ (by omega) (by omega), gi _ (by omega) (by omega), gi _ (by omega) (by omega)]; exact x6 i hi
end ITEM
