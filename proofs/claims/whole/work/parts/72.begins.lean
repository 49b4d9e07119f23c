/-! ===== road: the told road begins ===== -/
theorem bg28 (τ m2 : St) (lf2 : Int32 → St → St) (x1 : Int32) : ∀ (n x : Nat) (m : St), x ≤ 74 → 74 < x + n → (∀ u, u < x → m.2.1 53 u = m.2.1 52 u) → ∃ R, F_X9_begins_L28 lf2 n τ x1 m2 (nI x) m = R ∧ R.1 1546 = 0 ∧ R.2.1 55 0 = 0 ∧ R.2.1 55 1 = 0 ∧ R.2.1 53 74 = 0 ∧ R.2.1 53 12 = ((1 : Int32) <<< ((m.2.1 50 2) &&& 31)) - (1 : Int32) ∧ (∀ u, u < 74 → u ≠ 12 → R.2.1 53 u = m.2.1 52 u) ∧ R.2.1 50 = m.2.1 50
  | 0, x, m, hx, hn, _ => absurd hn (by omega)
  | n + 1, x, m, hx, hn, h1 => by
    rw [F_X9_begins_L28]
    by_cases q : (74 : Int32) ≤ nI x
    · rw [if_pos q]
      have q : 74 ≤ x := (num_le x rfl (by decide) (by omega)).mp q
      have e53 : ∀ (X Y : Nat → Int32), (sa (si (sa m 53 X) 1546 (0 : Int32)) 55 Y).2.1 53 = X := fun _ _ => rfl
      refine ⟨_, rfl, rfl, ?_, ?_, ?_, ?_, fun u h2 h3 => ?_, rfl⟩
      · rw [sa_at, pk_un (by decide), pk_us]
      · rw [sa_at, pk_us]
      · rw [e53, pk_us]
      · rw [e53, pk_un (by decide), pk_us]
      · rw [e53, pk_un (by omega), pk_un h3]
        exact h1 u (by omega)
    · rw [if_neg q]
      have q : ¬ 74 ≤ x := fun z => q ((num_le x rfl (by decide) (by omega)).mpr z)
      rw [nI_clamp (by omega), nI_1]
      obtain ⟨R, r0, r1⟩ := bg28 τ m2 lf2 x1 n (x + 1) (sa m 53 (upd (m.2.1 53) x (m.2.1 52 x))) (by omega) (by omega) (fun u hu => by
        rw [sa_at]
        show _ = m.2.1 52 u
        by_cases e : u = x
        · subst e; rw [pk_us]
        · rw [pk_un e]; exact h1 u (by omega))
      exact ⟨R, r0, r1⟩
theorem bg2 (τ : St) : ∀ (n x : Nat) (m : St), x ≤ 54 → 54 < x + n → (∀ u, u < x → m.2.1 50 u = m.2.1 51 u) → ∃ R, F_X9_begins_L2 n τ (nI x) m = R ∧ R.1 1546 = 0 ∧ R.2.1 55 0 = 0 ∧ R.2.1 55 1 = 0 ∧ R.2.1 53 74 = 0 ∧ R.2.1 53 12 = ((1 : Int32) <<< ((m.2.1 51 2) &&& 31)) - (1 : Int32) ∧ (∀ u, u < 74 → u ≠ 12 → R.2.1 53 u = m.2.1 52 u) ∧ ∀ u, u < 54 → R.2.1 50 u = m.2.1 51 u
  | 0, x, m, hx, hn, _ => absurd hn (by omega)
  | n + 1, x, m, hx, hn, h1 => by
    rw [F_X9_begins_L2]
    by_cases q : (54 : Int32) ≤ nI x
    · rw [if_pos q]
      have q : 54 ≤ x := (num_le x rfl (by decide) (by omega)).mp q
      obtain ⟨R, r0, r1, r2, r3, r4, r5, r6, r7⟩ := bg28 τ m (fun y1 y2 => F_X9_begins_L2 n τ y1 y2) (nI x) 75 0 m (by decide) (by decide) (fun u hu => absurd hu (by omega))
      have n0 : nI 0 = (0 : Int32) := rfl
      rw [n0] at r0
      refine ⟨R, r0, r1, r2, r3, r4, ?_, r6, fun u hu => ?_⟩
      · rw [r5, h1 2 (by omega)]
      · rw [r7]; exact h1 u (by omega)
    · rw [if_neg q]
      have q : ¬ 54 ≤ x := fun z => q ((num_le x rfl (by decide) (by omega)).mpr z)
      rw [nI_clamp (by omega), nI_1]
      obtain ⟨R, r0, r1⟩ := bg2 τ n (x + 1) (sa m 50 (upd (m.2.1 50) x (m.2.1 51 x))) (by omega) (by omega) (fun u hu => by
        rw [sa_at]
        show _ = m.2.1 51 u
        by_cases e : u = x
        · subst e; rw [pk_us]
        · rw [pk_un e]; exact h1 u (by omega))
      exact ⟨R, r0, r1⟩
theorem al_tab : ∀ k, k < 5 → ((1 : Int32) <<< (nI k &&& 31)) - (1 : Int32) = nI (2 ^ k - 1) := by decide +kernel
/-- the two sides, begun from the same draft -/
theorem RR_beg {m F t t' : St} (hd : DR m t) (b46 : t'.1 1546 = 0) (b550 : t'.2.1 55 0 = 0) (b551 : t'.2.1 55 1 = 0) (b74 : t'.2.1 53 74 = 0) (b12 : t'.2.1 53 12 = ((1 : Int32) <<< ((t.2.1 51 2) &&& 31)) - (1 : Int32)) (b53 : ∀ u, u < 74 → u ≠ 12 → t'.2.1 53 u = t.2.1 52 u) (b50 : ∀ u, u < 54 → t'.2.1 50 u = t.2.1 51 u) (b38 : t'.1 1538 = 0) (hw : WB t') (hl : F.2.2 = t'.2.2) (f47 : F.2.1 47 0 = 0) (f33 : F.1 33 = 0) (f96 : F.1 96 = m.1 448) (f97 : F.1 97 = m.1 449) (f98 : F.1 98 = m.1 450) (f4 : F.2.1 4 = m.2.1 15) (f5 : F.2.1 5 = m.2.1 16) (f6 : F.2.1 6 = m.2.1 17) (f7 : F.2.1 7 = m.2.1 18) (f8 : F.2.1 8 = m.2.1 19) (f9 : F.2.1 9 = m.2.1 20) (f10 : F.2.1 10 = m.2.1 21) (f27 : ∀ j, j < 74 → F.2.1 27 j = m.2.1 23 j) (f802 : F.1 802 = 0) (f6i : F.1 6 = 0) (f1186 : F.1 1186 = 0) : RR F t' := by
  obtain ⟨w, s, k, w1, w2, w3, ⟨b1, b2, b3⟩, ⟨g0, g1, g2⟩, x3, x4, x5, x6, x7, x8, x9⟩ := hd
  have iw := nI_toInt (n := w) (by omega)
  have is := nI_toInt (n := s) (by omega)
  have ik := nI_toInt (n := k) (by omega)
  have c0 : t'.2.1 50 0 = nI w := (b50 0 (by decide)).trans g0
  have c1 : t'.2.1 50 1 = nI s := (b50 1 (by decide)).trans g1
  have c2 : t'.2.1 50 2 = nI k := (b50 2 (by decide)).trans g2
  rw [g2, al_tab k (by omega)] at b12
  have p2 : 2 ^ k - 1 ≤ 15 := by
    have : 2 ^ k ≤ 2 ^ 4 := Nat.pow_le_pow_right (by decide) b3
    have : (2 : Nat) ^ 4 = 16 := by decide
    omega
  have ip := nI_toInt (n := 2 ^ k - 1) (by omega)
  have z3 : (0 : Int32).toInt = 0 := rfl
  refine ⟨⟨?_, ?_, fun j hj => ?_⟩, ⟨⟨?_, ?_⟩, ⟨?_, ?_⟩, ⟨?_, ?_⟩, fun j hj => ?_, fun j hj => ?_, fun j hj => ?_, fun j hj => ?_⟩, ⟨?_, ?_, ?_, ?_, fun j hj => ?_⟩, ⟨?_, ?_, ?_⟩, ⟨?_, ?_, fun j hj => ?_⟩, hl, f47, hw⟩
  · rw [f33, b38]
  · rw [b38]; exact ⟨by decide, by decide⟩
  · rw [b38, z3] at hj; omega
  · rw [f96, w1, c0]
  · rw [c0]; exact ⟨by omega, by omega⟩
  · rw [f97, w2, c1]
  · rw [c1]; exact ⟨by omega, by omega⟩
  · rw [f98, w3, c2]
  · rw [c2]; exact ⟨by omega, by omega⟩
  · rw [c0, iw] at hj
    rw [f4, b50 _ (by omega)]; exact x3 j (by omega)
  · rw [c1, is] at hj
    rw [f5, f6, f7, f8, f9, c0, iw, b50 _ (by omega), b50 _ (by omega), b50 _ (by omega), b50 _ (by omega), b50 _ (by omega)]
    exact x4 j (by omega)
  · rw [c2, ik] at hj
    rw [f10, b50 _ (by omega)]; exact x5 j (by omega)
  · rw [b50 _ (by omega), b50 _ (by omega), b50 _ (by omega)]; exact x6 j hj
  · intro j hj
    rw [Nat.zero_add, Nat.zero_add, f27 j hj]
    by_cases e : j = 1
    · subst e
      rw [x8, show pm 1 = 12 from rfl, b12]
    · rw [b53 (pm j) (pmA_lt hj) (fun z => e (pm_inj hj (by decide) (z.trans (show 12 = pm 1 from rfl))))]
      exact x7 j hj e
  · obtain ⟨y1, y2, y3, y4, y5, y6⟩ := x9
    rw [IM]
    simp only [Nat.zero_add]
    refine ⟨fun j hj => ?_, fun j hj => ?_, fun j hj => ?_, ?_, fun j hj => ?_, fun j hj => ?_, fun j hj => ?_, fun j hj _ => ?_⟩
    · rw [b53 _ (by omega) (by omega)]; exact y1 j hj
    · rw [b53 _ (by omega) (by omega)]; exact y2 j hj
    · rw [b53 _ (by omega) (by omega), y3 j hj]; decide
    · rw [b12]; exact ⟨by omega, by omega⟩
    · rw [b53 _ (by omega) (by omega)]; exact y4 j hj
    · rw [b53 _ (by omega) (by omega)]; exact y5 j hj
    · rw [b53 _ (by omega) (by omega)]; exact y6 j hj
    · rw [b53 _ (by omega) (by omega), y3 j hj]; decide
  · rw [Nat.zero_add, b74]; exact f802
  · rw [f802]; decide
  · rw [f802, z3] at hj; omega
  · rw [f6i]; decide
  · rw [f6i]; exact Or.inl ⟨by decide, b550⟩
  · rw [f6i]; exact Or.inl ⟨by decide, b551⟩
  · rw [f1186, b46]
  · rw [b46]; decide
  · rw [b46, z3] at hj; omega
theorem RR_tx {σ τ : St} (h : RR σ τ) : ∃ (N : Nat) (c : Nat → Nat), N ≤ 200 ∧ (∀ k, c k ≤ 255) ∧ TXm σ N c ∧ TXt τ N c := by
  obtain ⟨e1, ⟨e2, e2'⟩, e3⟩ := h.1
  refine ⟨(τ.1 1538).toInt.toNat, fun k => if (k : Int) < (τ.1 1538).toInt then (τ.2.1 49 k).toInt.toNat else 0, by omega, fun k => ?_, ⟨e1.trans (nI_self e2), fun k hk => ?_⟩, ⟨nI_self e2, fun k hk => ?_⟩⟩
  · show (if (k : Int) < (τ.1 1538).toInt then (τ.2.1 49 k).toInt.toNat else 0) ≤ 255
    split
    · rename_i z
      have := (e3 k z).2.2
      omega
    · omega
  · show _ = nI (if (k : Int) < (τ.1 1538).toInt then (τ.2.1 49 k).toInt.toNat else 0)
    rw [if_pos (by omega), (e3 k (by omega)).1]
    exact nI_self (e3 k (by omega)).2.1
  · show _ = nI (if (k : Int) < (τ.1 1538).toInt then (τ.2.1 49 k).toInt.toNat else 0)
    rw [if_pos (by omega)]
    exact nI_self (e3 k (by omega)).2.1
