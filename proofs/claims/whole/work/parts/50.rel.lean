/-! ===== the two sides, side by side: what the class and the reference have in common ===== -/
/-- where the class's row has what the reference has at a place -/
def pm (k : Nat) : Nat := if k = 0 then 13 else if k = 1 then 12 else if k < 14 then k - 2 else k
def RRow (f g : Nat → Int32) (a b : Nat) : Prop := ∀ k, k < 74 → f (a + k) = g (b + pm k)
abbrev bd (x : Int32) (lo hi : Int) : Prop := lo ≤ x.toInt ∧ x.toInt ≤ hi
/-- what holds of every moment -/
def IM (g : Nat → Int32) (o : Nat) : Prop :=
  (∀ c, c < 4 → bd (g (o + c)) 0 5) ∧ (∀ c, c < 4 → bd (g (o + 4 + c)) 0 20) ∧ (∀ c, c < 4 → bd (g (o + 8 + c)) 0 29) ∧ bd (g (o + 12)) 0 15 ∧
  (∀ k, k < 24 → bd (g (o + 14 + k)) 0 99) ∧ (∀ k, k < 36 → bd (g (o + 38 + k)) 0 60) ∧ (∀ w, w < 6 → g (o + 38 + 7 * w) = 0) ∧
  (∀ c, c < 4 → ¬ F_X9_has (g (o + 12)) (nI c) = 0 → (g (o + 8 + c)).toInt ≤ 20)
def LG (row past : Nat → Int32) (und : Int32) (g : Nat → Int32) (o : Nat) : Prop :=
  RRow row g 0 o ∧ IM g o ∧ und = g (o + 74) ∧ bd und 0 10 ∧ ∀ j : Nat, (j : Int) < und.toInt → RRow past g (74 * j) (o + 75 + 74 * j) ∧ IM g (o + 75 + 74 * j)
def TDR (σ : St) (g : Nat → Int32) : Prop :=
  (σ.1 96 = g 0 ∧ bd (g 0) 0 6) ∧ (σ.1 97 = g 1 ∧ bd (g 1) 0 8) ∧ (σ.1 98 = g 2 ∧ bd (g 2) 0 4) ∧
  (∀ k : Nat, (k : Int) < (g 0).toInt → σ.2.1 4 k = g (4 + k) ∧ bd (g (4 + k)) 0 1) ∧
  (∀ k : Nat, (k : Int) < (g 1).toInt → (σ.2.1 5 k = g (10 + k) ∧ (g (10 + k)).toInt < (g 0).toInt) ∧ (σ.2.1 6 k = g (18 + k) ∧ (g (18 + k)).toInt < (g 0).toInt) ∧ (σ.2.1 7 k = g (26 + k) ∧ bd (g (26 + k)) 1 9) ∧ (σ.2.1 8 k = g (34 + k) ∧ bd (g (34 + k)) 0 1) ∧ (σ.2.1 9 k = g (42 + k) ∧ (g (42 + k)).toInt < (g 0).toInt)) ∧
  (∀ k : Nat, (k : Int) < (g 2).toInt → σ.2.1 10 k = g (50 + k) ∧ bd (g (50 + k)) 1 20) ∧
  (∀ k, k < 8 → bd (g (10 + k)) 0 5 ∧ bd (g (18 + k)) 0 5 ∧ bd (g (42 + k)) 0 5)
def TXR (σ τ : St) : Prop := σ.1 33 = τ.1 1538 ∧ bd (τ.1 1538) 0 200 ∧ ∀ k : Nat, (k : Int) < (τ.1 1538).toInt → σ.2.1 2 k = τ.2.1 49 k ∧ bd (τ.2.1 49 k) 0 255
def HSR (σ τ : St) : Prop := σ.1 1186 = τ.1 1546 ∧ bd (τ.1 1546) 0 6 ∧ ∀ k : Nat, (k : Int) < (τ.1 1546).toInt → bd (σ.2.1 38 k) 0 3 ∧ bd (σ.2.1 39 k) (-17) 9 ∧ (τ.2.1 56 k).toInt = 100 * (σ.2.1 38 k).toInt + 50 + (σ.2.1 39 k).toInt
def IG (b : Int32) (kz : Int32) (row past : Nat → Int32) (und : Int32) (g : Nat → Int32) (o : Nat) : Prop := (b = 0 ∧ kz = 0) ∨ (¬ b = 0 ∧ ¬ kz = 0 ∧ LG row past und g o)
def IMR (σ τ : St) : Prop := bd (σ.1 6) 0 3 ∧ IG (F_X8_hasBit (σ.1 6) 0) (τ.2.1 55 0) (σ.2.1 31) (σ.2.1 32) (σ.1 930) (τ.2.1 54) 0 ∧ IG (F_X8_hasBit (σ.1 6) 1) (τ.2.1 55 1) (σ.2.1 35) (σ.2.1 36) (σ.1 1058) (τ.2.1 54) 815
/-- the reference's walk and ring are wells -/
def WB (τ : St) : Prop := WK τ ∧ ∀ j : Nat, j < 6 → bd (τ.2.1 58 j) 0 5
/-- the class's state and the reference's tell the same -/
def RR (σ τ : St) : Prop := TXR σ τ ∧ TDR σ (τ.2.1 50) ∧ LG (σ.2.1 27) (σ.2.1 28) (σ.1 802) (τ.2.1 53) 0 ∧ IMR σ τ ∧ HSR σ τ ∧ σ.2.2 = τ.2.2 ∧ σ.2.1 47 0 = 0 ∧ WB τ
/-! numbers -/
theorem i32e {a b : Int32} (h : a.toInt = b.toInt) : a = b := Int32.toInt_inj.mp h
theorem cl_of {x : Int32} : x.toNatClampNeg = x.toInt.toNat := rfl
theorem ix1 {K x : Int32} {k : Nat} (hK : K = Int32.ofInt k) (h : 0 ≤ x.toInt ∧ x.toInt < 10000) (hk : k < 10000) : (K + x).toNatClampNeg = k + x.toInt.toNat := by
  rw [cn_of (oI_add hK (oI_at x)) (by omega)]
  omega
theorem ixA {K x y : Int32} {k : Nat} (hK : K = Int32.ofInt k) (hx : 0 ≤ x.toInt ∧ x.toInt < 1000) (hy : 0 ≤ y.toInt ∧ y.toInt < 1000) (hk : k < 1000) : ((K + (x * (6 : Int32))) + y).toNatClampNeg = k + 6 * x.toInt.toNat + y.toInt.toNat := by
  rw [cn_of (oI_add (oI_add hK (oI_mul (oI_at x) (oI_lit (x := 6) (a := 6) rfl))) (oI_at y)) (by omega)]
  omega
theorem ixB {K x y : Int32} {k : Nat} (hK : K = Int32.ofInt k) (hx : 0 ≤ x.toInt ∧ x.toInt < 1000) (hy : 0 ≤ y.toInt ∧ y.toInt < 1000) (hk : k < 1000) : ((K + ((6 : Int32) * x)) + y).toNatClampNeg = k + 6 * x.toInt.toNat + y.toInt.toNat := by
  rw [cn_of (oI_add (oI_add hK (oI_mul (oI_lit (x := 6) (a := 6) rfl) (oI_at x))) (oI_at y)) (by omega)]
  omega
theorem z32 : (0 : Int32).toInt = 0 := rfl
theorem F_in_eq (a b c : Int32) : F_X8_within a b c = F_X9_in a b c := rfl
theorem in_ge {x m : Int32} (hm : 0 ≤ m.toInt ∧ m.toInt ≤ 1000) : F_X9_in x 0 (m - 1) = 0 ↔ ¬ (0 ≤ x.toInt ∧ x.toInt < m.toInt) := by
  have e : (m - 1).toInt = m.toInt - 1 := ti_of (oI_sub (oI_at m) (oI_lit (x := 1) (a := 1) rfl)) (by omega)
  unfold F_X9_in
  by_cases c1 : x < 0
  · rw [if_pos c1]
    have := i_lt c1
    rw [z32] at this
    exact ⟨fun _ q => by omega, fun _ => rfl⟩
  · rw [if_neg c1]
    have c1 := i_nlt c1
    rw [z32] at c1
    by_cases c2 : m - 1 < x
    · rw [if_pos c2]
      have := i_lt c2
      exact ⟨fun _ q => by omega, fun _ => rfl⟩
    · rw [if_neg c2]
      have := i_nlt c2
      exact ⟨fun q => absurd q (by decide), fun q => absurd ⟨c1, by omega⟩ q⟩
theorem has_ge {x m : Int32} {N : Int32} {n : Int} (hN : N.toInt = n) (hm : 0 ≤ m.toInt ∧ m.toInt ≤ n) : (if x < (0 : Int32) then (0 : Int32) else (if m ≤ x then (0 : Int32) else (if N ≤ x then (0 : Int32) else (1 : Int32)))) = 0 ↔ ¬ (0 ≤ x.toInt ∧ x.toInt < m.toInt) := by
  by_cases c1 : x < 0
  · rw [if_pos c1]
    have := i_lt c1
    rw [z32] at this
    exact ⟨fun _ q => by omega, fun _ => rfl⟩
  · rw [if_neg c1]
    have c1 := i_nlt c1
    rw [z32] at c1
    by_cases c2 : m ≤ x
    · rw [if_pos c2]
      have := i_le c2
      exact ⟨fun _ q => by omega, fun _ => rfl⟩
    · rw [if_neg c2]
      have c2 := i_nle c2
      by_cases c3 : N ≤ x
      · exact absurd (i_le c3) (by omega)
      · rw [if_neg c3]
        exact ⟨fun q => absurd q (by decide), fun q => absurd ⟨c1, by omega⟩ q⟩
-- REL
theorem R_hw {σ τ : St} (h : RR σ τ) (w : Int32) : F_X4_hasWell σ w = 0 ↔ ¬ (0 ≤ w.toInt ∧ w.toInt < (τ.2.1 50 0).toInt) := by
  have q := h.2.1.1
  unfold F_X4_hasWell
  rw [q.1]
  exact has_ge rfl q.2
theorem R_hs {σ τ : St} (h : RR σ τ) (w : Int32) : F_X4_hasStage σ w = 0 ↔ ¬ (0 ≤ w.toInt ∧ w.toInt < (τ.2.1 50 1).toInt) := by
  have q := h.2.1.2.1
  unfold F_X4_hasStage
  rw [q.1]
  exact has_ge rfl q.2
theorem R_hc {σ τ : St} (h : RR σ τ) (w : Int32) : F_X4_hasCaravan σ w = 0 ↔ ¬ (0 ≤ w.toInt ∧ w.toInt < (τ.2.1 50 2).toInt) := by
  have q := h.2.1.2.2.1
  unfold F_X4_hasCaravan
  rw [q.1]
  exact has_ge rfl q.2
theorem R_iw {σ τ : St} (h : RR σ τ) (w : Int32) : F_X9_isWell τ w = 0 ↔ ¬ (0 ≤ w.toInt ∧ w.toInt < (τ.2.1 50 0).toInt) := by
  have q := h.2.1.1.2
  exact in_ge ⟨q.1, by have := q.2; omega⟩
theorem R_is {σ τ : St} (h : RR σ τ) (w : Int32) : F_X9_isStage τ w = 0 ↔ ¬ (0 ≤ w.toInt ∧ w.toInt < (τ.2.1 50 1).toInt) := by
  have q := h.2.1.2.1.2
  exact in_ge ⟨q.1, by have := q.2; omega⟩
theorem R_ic {σ τ : St} (h : RR σ τ) (w : Int32) : F_X9_isCaravan τ w = 0 ↔ ¬ (0 ≤ w.toInt ∧ w.toInt < (τ.2.1 50 2).toInt) := by
  have q := h.2.1.2.2.1.2
  exact in_ge ⟨q.1, by have := q.2; omega⟩
/-- a well, a stage, a caravan: the same for both, and in bounds -/
theorem R_w {σ τ : St} (h : RR σ τ) (w : Int32) : (F_X4_hasWell σ w = 0 ∧ F_X9_isWell τ w = 0) ∨ (¬ F_X4_hasWell σ w = 0 ∧ ¬ F_X9_isWell τ w = 0 ∧ 0 ≤ w.toInt ∧ w.toInt < (τ.2.1 50 0).toInt ∧ w.toInt < 6) := by
  have q := h.2.1.1.2
  by_cases c : 0 ≤ w.toInt ∧ w.toInt < (τ.2.1 50 0).toInt
  · exact Or.inr ⟨fun e => (R_hw h w).mp e c, fun e => (R_iw h w).mp e c, c.1, c.2, by have := q.2; omega⟩
  · exact Or.inl ⟨(R_hw h w).mpr c, (R_iw h w).mpr c⟩
theorem R_s {σ τ : St} (h : RR σ τ) (w : Int32) : (F_X4_hasStage σ w = 0 ∧ F_X9_isStage τ w = 0) ∨ (¬ F_X4_hasStage σ w = 0 ∧ ¬ F_X9_isStage τ w = 0 ∧ 0 ≤ w.toInt ∧ w.toInt < (τ.2.1 50 1).toInt ∧ w.toInt < 8) := by
  have q := h.2.1.2.1.2
  by_cases c : 0 ≤ w.toInt ∧ w.toInt < (τ.2.1 50 1).toInt
  · exact Or.inr ⟨fun e => (R_hs h w).mp e c, fun e => (R_is h w).mp e c, c.1, c.2, by have := q.2; omega⟩
  · exact Or.inl ⟨(R_hs h w).mpr c, (R_is h w).mpr c⟩
theorem R_c {σ τ : St} (h : RR σ τ) (w : Int32) : (F_X4_hasCaravan σ w = 0 ∧ F_X9_isCaravan τ w = 0) ∨ (¬ F_X4_hasCaravan σ w = 0 ∧ ¬ F_X9_isCaravan τ w = 0 ∧ 0 ≤ w.toInt ∧ w.toInt < (τ.2.1 50 2).toInt ∧ w.toInt < 4) := by
  have q := h.2.1.2.2.1.2
  by_cases c : 0 ≤ w.toInt ∧ w.toInt < (τ.2.1 50 2).toInt
  · exact Or.inr ⟨fun e => (R_hc h w).mp e c, fun e => (R_ic h w).mp e c, c.1, c.2, by have := q.2; omega⟩
  · exact Or.inl ⟨(R_hc h w).mpr c, (R_ic h w).mpr c⟩
theorem isC4 {c : Int32} (h : 0 ≤ c.toInt ∧ c.toInt < 4) : ¬ F_X2_isCaravan c = 0 := by
  have e4 : (4 : Int32).toInt = 4 := rfl
  unfold F_X2_isCaravan
  rw [if_neg (fun q => by have := i_lt q; rw [z32] at this; omega), if_neg (fun q => by have := i_le q; omega)]
  decide
theorem isW6 {c : Int32} (h : 0 ≤ c.toInt ∧ c.toInt < 6) : ¬ F_X2_isWell c = 0 := by
  have e4 : (6 : Int32).toInt = 6 := rfl
  unfold F_X2_isWell
  rw [if_neg (fun q => by have := i_lt q; rw [z32] at this; omega), if_neg (fun q => by have := i_le q; omega)]
  decide
/-! one moment: the class's row f beside the reference's g -/
-- ROW
theorem row_at {f g : Nat → Int32} (h : RRow f g 0 0) (k : Nat) (hk : k < 74) : f k = g (pm k) := by
  have := h k hk
  rw [Nat.zero_add, Nat.zero_add] at this
  exact this
theorem pm_lo {k : Nat} (h1 : 2 ≤ k) (h2 : k < 14) : pm k = k - 2 := by
  unfold pm
  rw [if_neg (by omega), if_neg (by omega), if_pos h2]
theorem pm_hi {k : Nat} (h : 14 ≤ k) : pm k = k := by
  unfold pm
  rw [if_neg (by omega), if_neg (by omega), if_neg (by omega)]
-- GET
theorem G_sand {σ : St} {g : Nat → Int32} (h : RRow (σ.2.1 27) g 0 0) : F_X2_sand σ = g 13 := row_at h 0 (by decide)
theorem G_alive {σ : St} {g : Nat → Int32} (h : RRow (σ.2.1 27) g 0 0) : F_X2_alive σ = g 12 := row_at h 1 (by decide)
theorem G_place {σ : St} {g : Nat → Int32} (h : RRow (σ.2.1 27) g 0 0) {c : Int32} (hc : 0 ≤ c.toInt ∧ c.toInt < 4) : F_X2_placeOf σ c = g c.toNatClampNeg := by
  unfold F_X2_placeOf
  rw [if_neg (isC4 hc), ix1 (K := 2) (k := 2) rfl (by omega) (by decide), row_at h _ (by omega), pm_lo (by omega) (by omega)]
  congr 1
  show 2 + c.toInt.toNat - 2 = c.toInt.toNat
  omega
theorem G_cups {σ : St} {g : Nat → Int32} (h : RRow (σ.2.1 27) g 0 0) {c : Int32} (hc : 0 ≤ c.toInt ∧ c.toInt < 4) : F_X2_cupsOf σ c = g ((4 : Int32) + c).toNatClampNeg := by
  unfold F_X2_cupsOf
  rw [if_neg (isC4 hc), ix1 (K := 6) (k := 6) rfl (by omega) (by decide), ix1 (K := 4) (k := 4) rfl (by omega) (by decide), row_at h _ (by omega), pm_lo (by omega) (by omega)]
  congr 1
  omega
theorem G_dry {σ : St} {g : Nat → Int32} (h : RRow (σ.2.1 27) g 0 0) {c : Int32} (hc : 0 ≤ c.toInt ∧ c.toInt < 4) : F_X2_dryOf σ c = g ((8 : Int32) + c).toNatClampNeg := by
  unfold F_X2_dryOf
  rw [if_neg (isC4 hc), ix1 (K := 10) (k := 10) rfl (by omega) (by decide), ix1 (K := 8) (k := 8) rfl (by omega) (by decide), row_at h _ (by omega), pm_lo (by omega) (by omega)]
  congr 1
  omega
theorem G_knots {σ : St} {g : Nat → Int32} (h : RRow (σ.2.1 27) g 0 0) {c w : Int32} (hc : 0 ≤ c.toInt ∧ c.toInt < 4) (hw : 0 ≤ w.toInt ∧ w.toInt < 6) : F_X2_knotsOf σ c w = g (((14 : Int32) + ((6 : Int32) * c)) + w).toNatClampNeg := by
  unfold F_X2_knotsOf
  rw [if_neg (isC4 hc), if_neg (isW6 hw), ixA (K := 14) (k := 14) rfl (by omega) (by omega) (by decide), ixB (K := 14) (k := 14) rfl (by omega) (by omega) (by decide), row_at h _ (by omega), pm_hi (by omega)]
theorem G_dues {σ : St} {g : Nat → Int32} (h : RRow (σ.2.1 27) g 0 0) {c w : Int32} (hc : 0 ≤ c.toInt ∧ c.toInt < 6) (hw : 0 ≤ w.toInt ∧ w.toInt < 6) : F_X2_duesOf σ c w = g (((38 : Int32) + ((6 : Int32) * c)) + w).toNatClampNeg := by
  unfold F_X2_duesOf
  rw [if_neg (isW6 hc), if_neg (isW6 hw), ixA (K := 38) (k := 38) rfl (by omega) (by omega) (by decide), ixB (K := 38) (k := 38) rfl (by omega) (by omega) (by decide), row_at h _ (by omega), pm_hi (by omega)]
theorem hasb01 (a b : Int32) : F_X8_hasBit a b = 0 ∨ F_X8_hasBit a b = 1 := by
  unfold F_X8_hasBit
  split
  · exact Or.inr rfl
  · exact Or.inl rfl
theorem G_isAlive {σ : St} {g : Nat → Int32} (h : RRow (σ.2.1 27) g 0 0) {c : Int32} (hc : 0 ≤ c.toInt ∧ c.toInt < 4) : F_X2_isAlive σ c = F_X9_has (g 12) c := by
  unfold F_X2_isAlive
  rw [if_neg (isC4 hc), show (σ.2.1 27) 1 = g 12 from row_at h 1 (by decide)]
  show (if F_X8_hasBit (g 12) c = 0 then (0 : Int32) else 1) = F_X8_hasBit (g 12) c
  rcases hasb01 (g 12) c with q | q <;> rw [q] <;> rfl
/-! sums -/
theorem num_le {K : Int32} {k : Nat} (x : Nat) (hK : K = Int32.ofNat k) (hk : k < 2 ^ 31) (hx : x < 2 ^ 31) : (K ≤ nI x) ↔ k ≤ x := by
  rw [hK]
  exact nI_leI hk hx
theorem S_knotsC (σ τ : St) (h : RRow (σ.2.1 27) (τ.2.1 53) 0 0) {c : Int32} (hc : 0 ≤ c.toInt ∧ c.toInt < 4) : ∀ (n x : Nat) (a : Int32), x ≤ 6 → F_X2_knotsOfCaravan_L4 n σ c (nI x) a = F_X9_knotsOf_L4 n τ c (nI x) a
  | 0, _, _, _ => rfl
  | n + 1, x, a, hx => by
    rw [F_X2_knotsOfCaravan_L4, F_X9_knotsOf_L4]
    by_cases q : (6 : Int32) ≤ nI x
    · rw [if_pos q, if_pos q]
    · rw [if_neg q, if_neg q]
      have q : ¬ 6 ≤ x := fun z => q ((num_le x rfl (by decide) (by omega)).mpr z)
      have e := nI_toInt (n := x) (by omega)
      rw [G_knots h hc (w := nI x) (by omega), nI_1]
      exact S_knotsC σ τ h hc n (x + 1) _ (by omega)
theorem S_knotsW (σ τ : St) (h : RRow (σ.2.1 27) (τ.2.1 53) 0 0) {w : Int32} (hw : 0 ≤ w.toInt ∧ w.toInt < 6) : ∀ (n x : Nat) (a : Int32), x ≤ 4 → F_X2_knotsAtWell_L4 n σ w (nI x) a = F_X9_knotsAt_L4 n τ w (nI x) a
  | 0, _, _, _ => rfl
  | n + 1, x, a, hx => by
    rw [F_X2_knotsAtWell_L4, F_X9_knotsAt_L4]
    by_cases q : (4 : Int32) ≤ nI x
    · rw [if_pos q, if_pos q]
    · rw [if_neg q, if_neg q]
      have q : ¬ 4 ≤ x := fun z => q ((num_le x rfl (by decide) (by omega)).mpr z)
      have e := nI_toInt (n := x) (by omega)
      rw [G_knots h (c := nI x) (by omega) hw, nI_1]
      exact S_knotsW σ τ h hw n (x + 1) _ (by omega)
theorem S_duesB (σ τ : St) (h : RRow (σ.2.1 27) (τ.2.1 53) 0 0) {w : Int32} (hw : 0 ≤ w.toInt ∧ w.toInt < 6) : ∀ (n x : Nat) (a : Int32), x ≤ 6 → F_X2_duesBy_L4 n σ w (nI x) a = F_X9_duesOf_L4 n τ w (nI x) a
  | 0, _, _, _ => rfl
  | n + 1, x, a, hx => by
    rw [F_X2_duesBy_L4, F_X9_duesOf_L4]
    by_cases q : (6 : Int32) ≤ nI x
    · rw [if_pos q, if_pos q]
    · rw [if_neg q, if_neg q]
      have q : ¬ 6 ≤ x := fun z => q ((num_le x rfl (by decide) (by omega)).mpr z)
      have e := nI_toInt (n := x) (by omega)
      rw [G_dues h hw (w := nI x) (by omega), nI_1]
      exact S_duesB σ τ h hw n (x + 1) _ (by omega)
theorem S_net (σ τ : St) (h : RRow (σ.2.1 27) (τ.2.1 53) 0 0) {w : Int32} (hw : 0 ≤ w.toInt ∧ w.toInt < 6) : ∀ (n x : Nat) (a : Int32), x ≤ 6 → 6 < x + n → F_X2_duesTo_L4 n σ w (nI x) a - F_X9_duesOf τ w = F_X9_net_L4 n τ w (nI x) a
  | 0, _, _, _, hn => by omega
  | n + 1, x, a, hx, hn => by
    rw [F_X2_duesTo_L4, F_X9_net_L4]
    by_cases q : (6 : Int32) ≤ nI x
    · rw [if_pos q, if_pos q]
      rfl
    · rw [if_neg q, if_neg q]
      have q : ¬ 6 ≤ x := fun z => q ((num_le x rfl (by decide) (by omega)).mpr z)
      have e := nI_toInt (n := x) (by omega)
      rw [G_dues h (c := nI x) (by omega) hw, nI_1]
      exact S_net σ τ h hw n (x + 1) _ (by omega) (by omega)
-- SUMS
theorem E_knotsC {σ τ : St} (h : RRow (σ.2.1 27) (τ.2.1 53) 0 0) {c : Int32} (hc : 0 ≤ c.toInt ∧ c.toInt < 4) : F_X2_knotsOfCaravan σ c = F_X9_knotsOf τ c := S_knotsC σ τ h hc 7 0 0 (by decide)
theorem E_knotsW {σ τ : St} (h : RRow (σ.2.1 27) (τ.2.1 53) 0 0) {w : Int32} (hw : 0 ≤ w.toInt ∧ w.toInt < 6) : F_X2_knotsAtWell σ w = F_X9_knotsAt τ w := S_knotsW σ τ h hw 5 0 0 (by decide)
theorem E_duesB {σ τ : St} (h : RRow (σ.2.1 27) (τ.2.1 53) 0 0) {w : Int32} (hw : 0 ≤ w.toInt ∧ w.toInt < 6) : F_X2_duesBy σ w = F_X9_duesOf τ w := S_duesB σ τ h hw 7 0 0 (by decide)
theorem E_net {σ τ : St} (h : RRow (σ.2.1 27) (τ.2.1 53) 0 0) {w : Int32} (hw : 0 ≤ w.toInt ∧ w.toInt < 6) : F_X2_netOf σ w = F_X9_net τ w := by
  show F_X2_duesTo σ w - F_X2_duesBy σ w = F_X9_net τ w
  rw [E_duesB h hw]
  exact S_net σ τ h hw 7 0 0 (by decide) (by decide)
