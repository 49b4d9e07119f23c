/-! ===== road: one number, one stop ===== -/
def PLC (m t : St) : Prop := m.1 36 = t.1 1549 ∧ bd (m.1 36) 0 200
def RD (N : Nat) (c : Nat → Nat) (m t : St) : Prop := TXm m N c ∧ TXt t N c ∧ TR N m t
theorem scan_tx {N : Nat} {c : Nat → Nat} {m : St} (h : TXm m N c) : TXm (F_X6_scan m) N c := by
  have f := fr_F_X6_scan m
  unfold TXm at *
  rw [f.1 33 (by decide), f.2.1 2 (by decide)]
  exact h
theorem tok_tx {N : Nat} {c : Nat → Nat} {t : St} (h : TXt t N c) : TXt (F_X9_token t) N c := by
  have f := fr_F_X9_token t
  unfold TXt at *
  rw [f.1 1538 (by decide), f.2.1 49 (by decide)]
  exact h
section HEAR
variable {N : Nat} {c : Nat → Nat}
theorem RD.nx (hN : N ≤ 200) (hc : ∀ k, c k ≤ 255) {m t : St} (h : RD N c m t) : RD N c (F_X6_scan m) (F_X9_token t) := by
  obtain ⟨h1, h2, ⟨s, e, a1, a2, a3, a4, a5, a6⟩, _⟩ := h
  exact ⟨scan_tx h1, tok_tx h2, tok_R hN hc h1 h2 a2 a5 a6⟩
theorem RD.ms {m t : St} (h : RD N c m t) {i : Nat} {f : Nat → Int32} (hi : ¬ i = 2) : RD N c (sa m i f) t := by
  obtain ⟨⟨h0, h1⟩, h2, h3⟩ := h
  refine ⟨⟨h0, fun k hk => ?_⟩, h2, h3⟩
  show (if 2 = i then f else m.2.1 2) k = nI (c k)
  rw [if_neg (fun z => hi z.symm)]
  exact h1 k hk
theorem RD.ts {m t : St} (h : RD N c m t) {i : Nat} {f : Nat → Int32} (hi : ¬ i = 49) : RD N c m (sa t i f) := by
  obtain ⟨h2, ⟨h0, h1⟩, h3⟩ := h
  refine ⟨h2, ⟨h0, fun k hk => ?_⟩, h3⟩
  show (if 49 = i then f else t.2.1 49) k = nI (c k)
  rw [if_neg (fun z => hi z.symm)]
  exact h1 k hk
theorem RD.pl {m t : St} (h : RD N c m t) (hN : N ≤ 200) : PLC m t := by
  obtain ⟨_, _, ⟨s, e, a1, a2, a3, a4, a5, a6⟩, _⟩ := h
  unfold PLC
  rw [a3, a4]
  have := nI_toInt (n := s) (by omega)
  exact ⟨rfl, by omega, by omega⟩
theorem stop_R (hN : N ≤ 200) (hc : ∀ k, c k ≤ 255) {m t : St} (h : RD N c m t) : (F_X4_hearStop m).2 = F_X6_scan m ∧ RD N c (F_X6_scan m) (F_X9_token t) ∧ (((F_X4_hearStop m).1 = 0 ∧ ¬ (F_X9_token t).1 1548 = 3) ∨ ((F_X4_hearStop m).1 = 1 ∧ (F_X9_token t).1 1548 = 3)) := by
  have r := h.nx hN hc
  have kd := r.2.2.2
  unfold F_X4_hearStop F_X4_hearStop_k1_2 F_X6_tokenKind
  generalize F_X6_scan m = u at *
  generalize F_X9_token t = v at *
  by_cases q : u.1 35 = 3
  · rw [if_pos q]
    refine ⟨rfl, r, Or.inr ⟨rfl, ?_⟩⟩
    rcases kd with ⟨k1, k2, _⟩ | ⟨k1, k2, _⟩ | ⟨k1, k2, _⟩ | ⟨k1, k2⟩ | ⟨k1, k2⟩ | ⟨k1, k2⟩
    · rw [k1] at q; exact absurd q (by decide)
    · rw [k1] at q; exact absurd q (by decide)
    · rw [k1] at q; exact absurd q (by decide)
    · rw [k1] at q; exact absurd q (by decide)
    · exact k2
    · rw [k1] at q; exact absurd q (by decide)
  · rw [if_neg q]
    refine ⟨rfl, r, Or.inl ⟨rfl, ?_⟩⟩
    rcases kd with ⟨k1, k2, _⟩ | ⟨k1, k2, _⟩ | ⟨k1, k2, _⟩ | ⟨k1, k2⟩ | ⟨k1, k2⟩ | ⟨k1, k2⟩
    · rw [k2]; decide
    · rw [k2]; decide
    · rw [k2]; decide
    · rw [k2]; decide
    · exact absurd k1 q
    · rw [k2]; decide
theorem hear_R (hN : N ≤ 200) (hc : ∀ k, c k ≤ 255) {m t : St} (h : RD N c m t) {i : Nat} (hi : i < 5) {lo hi' : Int32} (hl : 0 ≤ lo.toInt) (hh : hi'.toInt ≤ 99) : (F_X9_number t lo hi').2 = F_X9_token t ∧ RD N c (F_X4_hear m (nI i) lo hi').2 (F_X9_token t) ∧ (((F_X4_hear m (nI i) lo hi').1 = 0 ∧ (F_X9_number t lo hi').1 = 0) ∨ ((F_X4_hear m (nI i) lo hi').1 = 1 ∧ (F_X9_number t lo hi').1 = 1 ∧ ∃ V : Nat, V ≤ 99 ∧ lo.toInt ≤ V ∧ (V : Int) ≤ hi'.toInt ∧ (F_X9_token t).1 1550 = nI V ∧ (F_X4_hear m (nI i) lo hi').2 = sa (F_X6_scan m) 24 (upd ((F_X6_scan m).2.1 24) i (nI V)))) := by
  have r := h.nx hN hc
  have kd := r.2.2.2
  refine ⟨num_st t lo hi', ?_⟩
  unfold F_X4_hear F_X4_hear_k1_2 F_X9_number F_X9_number_k1_2 F_X6_tokenKind F_X6_tokenValue
  generalize F_X6_scan m = u at *
  generalize F_X9_token t = v at *
  have ii := nI_toInt (n := i) (by omega)
  rw [if_neg (show ¬ nI i < 0 from fun z => by have := i_lt z; rw [z32] at this; omega), if_pos (show nI i < (5 : Int32) from Int32.lt_iff_toInt_lt.mpr (by rw [ii, show (5 : Int32).toInt = 5 from rfl]; omega)), nI_clamp (n := i) (by omega)]
  rcases kd with ⟨k1, k2, V, k3, k4, k5⟩ | ⟨k1, k2, V, k3, k4, k5⟩ | ⟨k1, k2, _⟩ | ⟨k1, k2⟩ | ⟨k1, k2⟩ | ⟨k1, k2⟩
  · rw [if_pos k1, if_pos k2, k4, k5]
    have iV := nI_toInt (n := V) (by omega)
    unfold F_X9_in
    by_cases q1 : nI V < lo
    · rw [if_pos q1, if_pos q1, if_pos rfl]
      exact ⟨r, Or.inl ⟨rfl, rfl⟩⟩
    · rw [if_neg q1, if_neg q1]
      by_cases q2 : hi' < nI V
      · rw [if_pos q2, if_pos q2, if_pos rfl]
        exact ⟨r, Or.inl ⟨rfl, rfl⟩⟩
      · rw [if_neg q2, if_neg q2, if_neg (show ¬ (1 : Int32) = 0 by decide)]
        have q1 := i_nlt q1
        have q2 := i_nlt q2
        exact ⟨r.ms (by decide), Or.inr ⟨rfl, rfl, V, k3, by omega, by omega, rfl, rfl⟩⟩
  · rw [if_neg (show ¬ u.1 35 = 2 by rw [k1]; decide), if_pos k2, k5]
    have iV := nI_toInt (n := V) (by omega)
    have : F_X9_in (nI V) lo hi' = 0 := by
      unfold F_X9_in
      by_cases q1 : nI V < lo
      · rw [if_pos q1]
      · rw [if_neg q1, if_pos (Int32.lt_iff_toInt_lt.mpr (by omega))]
    rw [if_pos this]
    exact ⟨r, Or.inl ⟨rfl, rfl⟩⟩
  · rw [if_neg (show ¬ u.1 35 = 2 by rw [k1]; decide), if_neg (show ¬ v.1 1548 = 2 by rw [k2]; decide)]
    exact ⟨r, Or.inl ⟨rfl, rfl⟩⟩
  · rw [if_neg (show ¬ u.1 35 = 2 by rw [k1]; decide), if_neg (show ¬ v.1 1548 = 2 by rw [k2]; decide)]
    exact ⟨r, Or.inl ⟨rfl, rfl⟩⟩
  · rw [if_neg (show ¬ u.1 35 = 2 by rw [k1]; decide), if_neg (show ¬ v.1 1548 = 2 by rw [k2]; decide)]
    exact ⟨r, Or.inl ⟨rfl, rfl⟩⟩
  · rw [if_neg (show ¬ u.1 35 = 2 by rw [k1]; decide), if_neg (show ¬ v.1 1548 = 2 by rw [k2]; decide)]
    exact ⟨r, Or.inl ⟨rfl, rfl⟩⟩
end HEAR
/-! the drafts -/
def IM0 (g : Nat → Int32) : Prop := (∀ c, c < 4 → bd (g c) 0 5) ∧ (∀ c, c < 4 → bd (g (4 + c)) 0 20) ∧ (∀ c, c < 4 → g (8 + c) = 0) ∧ (∀ k, k < 24 → bd (g (14 + k)) 0 99) ∧ (∀ k, k < 36 → bd (g (38 + k)) 0 60) ∧ (∀ w, w < 6 → g (38 + 7 * w) = 0)
def DRx (w s k : Nat) (A15 A16 A17 A18 A19 A20 A21 A23 g h : Nat → Int32) : Prop :=
  (w ≤ 6 ∧ s ≤ 8 ∧ k ≤ 4) ∧ (g 0 = nI w ∧ g 1 = nI s ∧ g 2 = nI k) ∧
  (∀ i, i < w → A15 i = g (4 + i) ∧ bd (g (4 + i)) 0 1) ∧
  (∀ i, i < s → (A16 i = g (10 + i) ∧ (g (10 + i)).toInt < w) ∧ (A17 i = g (18 + i) ∧ (g (18 + i)).toInt < w) ∧ (A18 i = g (26 + i) ∧ bd (g (26 + i)) 1 9) ∧ (A19 i = g (34 + i) ∧ bd (g (34 + i)) 0 1) ∧ (A20 i = g (42 + i) ∧ (g (42 + i)).toInt < w)) ∧
  (∀ i, i < k → A21 i = g (50 + i) ∧ bd (g (50 + i)) 1 20) ∧
  (∀ i, i < 8 → bd (g (10 + i)) 0 5 ∧ bd (g (18 + i)) 0 5 ∧ bd (g (42 + i)) 0 5) ∧
  (∀ j, j < 74 → j ≠ 1 → A23 j = h (pm j)) ∧ A23 1 = nI (2 ^ k - 1) ∧ IM0 h
def DR (m t : St) : Prop := ∃ w s k : Nat, m.1 448 = nI w ∧ m.1 449 = nI s ∧ m.1 450 = nI k ∧ DRx w s k (m.2.1 15) (m.2.1 16) (m.2.1 17) (m.2.1 18) (m.2.1 19) (m.2.1 20) (m.2.1 21) (m.2.1 23) (t.2.1 51) (t.2.1 52)
def ITM (N : Nat) (c : Nat → Nat) (z : Int32) (u r : Int32 × St) : Prop := (r.1 = 0 ∧ u.1 = 0 ∧ PLC u.2 r.2) ∨ (¬ r.1 = 0 ∧ ((¬ (F_X9_token r.2).1 1548 = 3 ∧ u.1 = 0 ∧ PLC u.2 (F_X9_token r.2)) ∨ ((F_X9_token r.2).1 1548 = 3 ∧ u.1 = 1 ∧ (F_X9_token r.2).2.1 51 3 = z ∧ RD N c u.2 (F_X9_token r.2) ∧ DR u.2 (F_X9_token r.2))))
