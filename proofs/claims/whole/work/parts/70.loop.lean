/-! ===== road: all items ===== -/
section ITEMS
variable {N : Nat} {c : Nat → Nat}
theorem it_item (hN : N ≤ 200) (hc : ∀ k, c k ≤ 255) {m t : St} (h : RD N c m t) (hd : DR m t) : ITM N c (t.2.1 51 3) (F_X4_tellItem m) (F_X9_readsItem t) := by
  have kd := h.2.2.2
  unfold F_X4_tellItem F_X9_readsItem F_X6_tokenKind F_X6_tokenValue
  have no : ∀ {a b : Int32}, m.1 35 = a → t.1 1548 = b → ¬ a = 1 → ¬ b = 1 → ITM N c (t.2.1 51 3) (if m.1 35 = (1 : Int32) then (if (m.1 37) = 99 then (F_X4_tellItem_k78_4 m (F_X4_tellCaravan m)) else (if (m.1 37) = 100 then (F_X4_tellItem_k90_7 m (F_X4_tellDues m)) else (if (m.1 37) = 107 then (F_X4_tellItem_k84_10 m (F_X4_tellKnots m)) else (if (m.1 37) = 115 then (F_X4_tellItem_k72_13 m (F_X4_tellStage m)) else (if (m.1 37) = 119 then (F_X4_tellItem_k66_16 m (F_X4_tellWell m)) else ((0 : Int32), m)))))) else ((0 : Int32), m)) (if (if (t.1 1548) = (1 : Int32) then (t.1 1550) else (0 : Int32)) = 99 then (F_X9_readsItem_k123_6 t (F_X9_readsCaravan t)) else (if (if (t.1 1548) = (1 : Int32) then (t.1 1550) else (0 : Int32)) = 100 then (F_X9_readsItem_k135_9 t (F_X9_readsDebt t (1 : Int32))) else (if (if (t.1 1548) = (1 : Int32) then (t.1 1550) else (0 : Int32)) = 107 then (F_X9_readsItem_k129_12 t (F_X9_readsDebt t (0 : Int32))) else (if (if (t.1 1548) = (1 : Int32) then (t.1 1550) else (0 : Int32)) = 115 then (F_X9_readsItem_k118_15 t (F_X9_readsStage t)) else (if (if (t.1 1548) = (1 : Int32) then (t.1 1550) else (0 : Int32)) = 119 then (if ((t.2.1 51) 0) = (6 : Int32) then ((0 : Int32), t) else (F_X9_readsItem_k85_19 t (F_X9_number t (0 : Int32) (1 : Int32)))) else ((0 : Int32), t)))))) := fun {a b} ea eb na nb => by
    rw [ea, eb, if_neg na, if_neg nb, if_neg (show ¬ (0 : Int32) = 99 by decide), if_neg (show ¬ (0 : Int32) = 100 by decide), if_neg (show ¬ (0 : Int32) = 107 by decide), if_neg (show ¬ (0 : Int32) = 115 by decide), if_neg (show ¬ (0 : Int32) = 119 by decide)]
    exact Or.inl ⟨rfl, rfl, h.pl hN⟩
  rcases kd with ⟨k1, k2, _⟩ | ⟨k1, k2, _⟩ | ⟨k1, k2, k3⟩ | ⟨k1, k2⟩ | ⟨k1, k2⟩ | ⟨k1, k2⟩
  · exact no k1 k2 (by decide) (by decide)
  · exact no k1 k2 (by decide) (by decide)
  · clear no
    rw [if_pos k1, if_pos k2, k3]
    have ew : ∀ u, F_X4_tellItem_k66_16 m u = u := fun _ => rfl
    have ec : ∀ u, F_X4_tellItem_k78_4 m u = u := fun _ => rfl
    have ed : ∀ u, F_X4_tellItem_k90_7 m u = u := fun _ => rfl
    have ek : ∀ u, F_X4_tellItem_k84_10 m u = u := fun _ => rfl
    have es : ∀ u, F_X4_tellItem_k72_13 m u = u := fun _ => rfl
    have rc : ∀ u, F_X9_readsItem_k123_6 t u = u := fun _ => rfl
    have rd : ∀ u, F_X9_readsItem_k135_9 t u = u := fun _ => rfl
    have rk : ∀ u, F_X9_readsItem_k129_12 t u = u := fun _ => rfl
    have rs : ∀ u, F_X9_readsItem_k118_15 t u = u := fun _ => rfl
    rw [ew, ec, ed, ek, es, rc, rd, rk, rs]
    generalize t.1 1550 = v
    by_cases c1 : v = 99
    · rw [if_pos c1, if_pos c1]; exact it_caravan hN hc h hd
    · rw [if_neg c1, if_neg c1]
      by_cases c2 : v = 100
      · rw [if_pos c2, if_pos c2]; exact it_dues hN hc h hd
      · rw [if_neg c2, if_neg c2]
        by_cases c3 : v = 107
        · rw [if_pos c3, if_pos c3]; exact it_knots hN hc h hd
        · rw [if_neg c3, if_neg c3]
          by_cases c4 : v = 115
          · rw [if_pos c4, if_pos c4]; exact it_stage hN hc h hd
          · rw [if_neg c4, if_neg c4]
            by_cases c5 : v = 119
            · rw [if_pos c5, if_pos c5]; exact it_well hN hc h hd
            · rw [if_neg c5, if_neg c5]; exact Or.inl ⟨rfl, rfl, h.pl hN⟩
  · exact no k1 k2 (by decide) (by decide)
  · exact no k1 k2 (by decide) (by decide)
  · exact no k1 k2 (by decide) (by decide)
theorem pd_of (hN : N ≤ 200) {m t : St} (h : RD N c m t) (hd : DR m t) : PD t := by
  obtain ⟨_, ⟨t0, _⟩, ⟨s, e, a1, a2, a3, a4, a5, a6⟩, _⟩ := h
  obtain ⟨w, s', k, w1, w2, w3, ⟨b1, b2, b3⟩, ⟨g0, g1, g2⟩, _⟩ := hd
  have i1 := nI_toInt (n := e) (by omega)
  have i2 := nI_toInt (n := N) (by omega)
  have i3 := nI_toInt (n := w) (by omega)
  have i4 := nI_toInt (n := s') (by omega)
  have i5 := nI_toInt (n := k) (by omega)
  refine ⟨⟨⟨?_, ?_⟩, ?_, ?_⟩, ⟨?_, ?_⟩, ⟨?_, ?_⟩, ?_, ?_⟩
  · rw [a6]; omega
  · rw [a6]; omega
  · rw [t0]; omega
  · rw [t0]; omega
  · rw [g0]; omega
  · rw [g0]; omega
  · rw [g1]; omega
  · rw [g1]; omega
  · rw [g2]; omega
  · rw [g2]; omega
/-- what reading all gives -/
def RES (U V : Int32 × St) : Prop := (V.1 = 0 ∧ U.1 = ((-10) : Int32) - V.2.1 1549 ∧ U.1 < 0) ∨ (¬ V.1 = 0 ∧ U.1 = V.2.2.1 51 3 ∧ ¬ U.1 < 0 ∧ DR U.2 V.2)
theorem loop_R (hN : N ≤ 200) (hc : ∀ k, c k ≤ 255) (σ u1 u3 u5 τ m2 m23 u6 : St) (lf2 lf23 : Int32 → St → (Int32 × St)) (x1 x23 : Int32) : ∀ (n n2 x e : Nat) (m t : St), 200 < x + n → 200 < x + n2 → RD N c m t → DR m t → t.2.1 51 3 = nI x → t.1 1547 = nI e → e ≤ 200 → x ≤ e → (¬ t.1 1548 = 0 → x + 1 ≤ e) → RES (F_X4_tellAll_L32 n σ u1 u3 u5 (nI x) m) (F_X9_reads_L51 lf2 lf23 n2 τ x1 m2 x23 m23 u6 t)
  | 0, n2, x, e, m, t, hn, hn2, _, _, _, _, he, hx, _ => absurd hn (by omega)
  | n + 1, 0, x, e, m, t, hn, hn2, _, _, _, _, he, hx, _ => absurd hn2 (by omega)
  | n + 1, n2 + 1, x, e, m, t, hn, hn2, h, hd, h3, h7, he, hx, hx1 => by
    rw [F_X4_tellAll_L32, F_X9_reads_L51]
    have kd := h.2.2.2
    have ix := nI_toInt (n := x) (by omega)
    by_cases q : t.1 1548 = 0
    · have qm : F_X6_tokenKind m = 0 := by
        show m.1 35 = 0
        rcases kd with ⟨k1, k2, _⟩ | ⟨k1, k2, _⟩ | ⟨k1, k2, _⟩ | ⟨k1, k2⟩ | ⟨k1, k2⟩ | ⟨k1, k2⟩
        · rw [k2] at q; exact absurd q (by decide)
        · rw [k2] at q; exact absurd q (by decide)
        · rw [k2] at q; exact absurd q (by decide)
        · exact k1
        · rw [k2] at q; exact absurd q (by decide)
        · rw [k2] at q; exact absurd q (by decide)
      rw [if_pos q, if_pos qm]
      exact Or.inr ⟨one_ne, h3.symm, fun z => by have z : (nI x).toInt < _ := i_lt z; rw [z32] at z; omega, hd⟩
    · have qm : ¬ F_X6_tokenKind m = 0 := by
        show ¬ m.1 35 = 0
        rcases kd with ⟨k1, k2, _⟩ | ⟨k1, k2, _⟩ | ⟨k1, k2, _⟩ | ⟨k1, k2⟩ | ⟨k1, k2⟩ | ⟨k1, k2⟩
        · rw [k1]; decide
        · rw [k1]; decide
        · rw [k1]; decide
        · exact absurd k2 q
        · rw [k1]; decide
        · rw [k1]; decide
      have hx1 := hx1 q
      rw [if_neg q, if_neg qm, if_neg (show ¬ (200 : Int32) ≤ nI x from fun z => by have : 200 ≤ x := (num_le x rfl (by decide) (by omega)).mp z; omega)]
      have it := it_item hN hc h hd
      have go := go_readsItem t (pd_of hN h hd)
      unfold F_X4_tellAll_k48_11 F_X9_reads_k59_11 F_X6_tokenPlace
      have ng : ∀ {a b : St}, PLC a b → (((-10) : Int32) - a.1 36 = ((-10) : Int32) - b.1 1549) ∧ (((-10) : Int32) - a.1 36) < 0 := fun {a b} pl => by
        refine ⟨by rw [pl.1], Int32.lt_iff_toInt_lt.mpr ?_⟩
        have e10 : ((-10) : Int32).toInt = -10 := rfl
        have := pl.2.1
        have := pl.2.2
        rw [z32, ti_of (oI_sub (oI_lit (x := (-10)) (a := -10) rfl) (oI_at (a.1 36))) (by omega)]
        omega
      generalize F_X4_tellItem m = U at *
      generalize F_X9_readsItem t = V at *
      rcases it with ⟨v1, v2, v3⟩ | ⟨v1, v2⟩
      · rw [if_pos v1, if_pos v2]
        exact Or.inl ⟨rfl, (ng v3).1, (ng v3).2⟩
      · rw [if_neg v1]
        unfold F_X9_reads_k68_14
        have tb := tok_ab V.2 go.1.1
        have t51 : (F_X9_token V.2).2.1 51 = V.2.2.1 51 := (fr_F_X9_token V.2).2.1 51 (by decide)
        generalize F_X9_token V.2 = t13 at *
        rcases v2 with ⟨p4, v2, v3⟩ | ⟨p4, v2, s3, rd, dr⟩
        · rw [if_neg p4, if_pos v2]
          exact Or.inl ⟨rfl, (ng v3).1, (ng v3).2⟩
        · rw [if_pos p4, if_neg (show ¬ U.1 = 0 by rw [v2]; decide)]
          unfold F_X4_tellAll_k66_14 F_X9_reads_k92_17
          rw [h3, t51] at s3
          rw [t51, s3, nI_1]
          obtain ⟨T, eT⟩ : ∃ T, T = sa t13 51 (upd (V.2.2.1 51) 3 (nI (x + 1))) := ⟨_, rfl⟩
          rw [← eT]
          have rdT : RD N c U.2 T := by rw [eT]; exact rd.ts (by decide)
          have nx := rdT.nx hN hc
          have fT := fr_F_X9_token T
          have fU := fr_F_X6_scan U.2
          have T51 : T.2.1 51 = upd (V.2.2.1 51) 3 (nI (x + 1)) := by rw [eT, sa_at]
          have T52 : T.2.1 52 = t13.2.1 52 := by rw [eT]; rfl
          have abT : AB T := by rw [eT]; exact tb.1
          have tT := tok_ab T abT
          have T7 : T.1 1547 = t13.1 1547 := by rw [eT]; rfl
          have st := tb.2.2 (by rw [p4]; decide)
          obtain ⟨e2, b1, b2⟩ : ∃ e2 : Nat, (F_X9_token T).1 1547 = nI e2 ∧ e2 ≤ 200 := by
            obtain ⟨_, _, ⟨s', e', a1, a2, a3, a4, a5, a6⟩, _⟩ := nx
            exact ⟨e', a6, by omega⟩
          have ie2 := nI_toInt (n := e2) (by omega)
          have ie := nI_toInt (n := e) (by omega)
          have gm := go.2
          rw [h7, ie] at gm
          rw [b1, ie2, T7] at tT
          have F3 : (F_X9_token T).2.1 51 3 = nI (x + 1) := by rw [fT.2.1 51 (by decide), T51, pk_us]
          have DR' : DR (F_X6_scan U.2) (F_X9_token T) := by
            obtain ⟨w, s, k, w1, w2, w3, d⟩ := dr
            refine ⟨w, s, k, (fU.1 448 (by decide)).trans w1, (fU.1 449 (by decide)).trans w2, (fU.1 450 (by decide)).trans w3, ?_⟩
            rw [fU.2.1 15 (by decide), fU.2.1 16 (by decide), fU.2.1 17 (by decide), fU.2.1 18 (by decide), fU.2.1 19 (by decide), fU.2.1 20 (by decide), fU.2.1 21 (by decide), fU.2.1 23 (by decide), fT.2.1 51 (by decide), fT.2.1 52 (by decide), T51, T52]
            rw [t51] at d
            have gi : ∀ j, j ≠ 3 → upd (V.2.2.1 51) 3 (nI (x + 1)) j = V.2.2.1 51 j := fun j hj => pk_un hj
            obtain ⟨d1, ⟨d2, d2', d2''⟩, d3, d4, d5, d6, d7, d8, d9⟩ := d
            generalize upd (V.2.2.1 51) 3 (nI (x + 1)) = G at *
            refine ⟨d1, ⟨by rw [gi _ (by omega)]; exact d2, by rw [gi _ (by omega)]; exact d2', by rw [gi _ (by omega)]; exact d2''⟩, fun i hi => ?_, fun i hi => ?_, fun i hi => ?_, fun i hi => ?_, d7, d8, d9⟩
            · rw [gi _ (by omega)]; exact d3 i hi
            · rw [gi _ (by omega), gi _ (by omega), gi _ (by omega), gi _ (by omega), gi _ (by omega)]; exact d4 i hi
            · rw [gi _ (by omega)]; exact d5 i hi
            · rw [gi _ (by omega), gi _ (by omega), gi _ (by omega)]; exact d6 i hi
          exact loop_R hN hc σ u1 u3 u5 τ m2 m23 u6 lf2 lf23 x1 x23 n n2 (x + 1) e2 (F_X6_scan U.2) (F_X9_token T) (by omega) (by omega) nx DR' F3 b1 b2 (by have := tT.2.1; omega) (fun z => by have := tT.2.2 z; omega)
end ITEMS
