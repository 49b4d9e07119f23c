/-! ===== rings: the class's walk and the reference's ===== -/
def BST (d : Nat → Nat → Nat) (m t : St) : Prop := ∃ (q : Nat → Nat) (K s : Nat), m.1 1282 = nI K ∧ m.1 1283 = nI s ∧ t.1 1553 = nI K ∧ t.1 1554 = nI s ∧ K ≤ 6 ∧ s ≤ 60 ∧ (∀ j, j < K → m.2.1 41 j = nI (q j) ∧ t.2.1 58 j = nI (q j) ∧ q j < 6) ∧ (∀ i j, i < j → j < K → q i ≠ q j) ∧ (∀ i, i < K → s ≤ d (q i) (q (if i + 1 = K then 0 else i + 1))) ∧ (K = 0 ∨ 2 ≤ K)
def RG (σ τ : St) (d : Nat → Nat → Nat) (m t : St) (p : Nat → Nat) (M : Nat) : Prop := m.2.1 27 = σ.2.1 27 ∧ t.2.1 50 = τ.2.1 50 ∧ t.2.1 53 = τ.2.1 53 ∧ (∀ j, j < M → m.2.1 42 j = nI (p j) ∧ t.2.1 57 j = nI (p j)) ∧ WK t ∧ (∀ j : Nat, j < 6 → bd (t.2.1 58 j) 0 5) ∧ BST d m t
def MN (d : Nat → Nat → Nat) (p : Nat → Nat) : Nat → Nat
  | 0 => 60
  | k + 1 => if d (p k) (p (k + 1)) < MN d p k then d (p k) (p (k + 1)) else MN d p k
/-- a row of wells, none twice, each owing the next -/
def PTH (d : Nat → Nat → Nat) (p : Nat → Nat) (M : Nat) : Prop := (∀ j, j < M → p j < 6) ∧ (∀ i j, i < j → j < M → p i ≠ p j) ∧ ∀ j, j + 1 < M → 0 < d (p j) (p (j + 1))
def DUE (σ τ : St) (d : Nat → Nat → Nat) : Prop := (∀ u v, u < 6 → v < 6 → ∀ m : St, m.2.1 27 = σ.2.1 27 → F_X2_duesOf m (nI u) (nI v) = nI (d u v)) ∧ (∀ u v, u < 6 → v < 6 → τ.2.1 53 (((38 : Int32) + ((6 : Int32) * nI u)) + nI v).toNatClampNeg = nI (d u v)) ∧ ∀ u v, d u v ≤ 60
theorem MN_b {d : Nat → Nat → Nat} {p : Nat → Nat} : ∀ k, (∀ j, j < k → 0 < d (p j) (p (j + 1))) → MN d p k ≤ 60 ∧ 0 < MN d p k
  | 0, _ => ⟨Nat.le_refl 60, (by decide : 0 < 60)⟩
  | k + 1, h => by
    have r := MN_b k (fun j hj => h j (by omega))
    have := h k (by omega)
    unfold MN
    split <;> omega
theorem MN_le {d : Nat → Nat → Nat} {p : Nat → Nat} : ∀ k j, j < k → MN d p k ≤ d (p j) (p (j + 1))
  | 0, j, h => absurd h (by omega)
  | k + 1, j, h => by
    unfold MN
    by_cases e : j = k
    · subst e; split <;> omega
    · have := MN_le (d := d) (p := p) k j (by omega)
      split <;> omega
theorem md_tab : ∀ M, M < 7 → 1 ≤ M → ∀ i, i < M → (((nI i + (1 : Int32)) - (nI i + (1 : Int32)) / nI M * nI M)) = nI (if i + 1 = M then 0 else i + 1) := by decide +kernel
theorem or_tab : ∀ b, b < 64 → ∀ y, y < 6 → (nI b ||| ((1 : Int32) <<< (nI y &&& 31))) = nI (b ||| 2 ^ y) := by decide +kernel
theorem ob_tab : ∀ b, b < 64 → ∀ y, y < 6 → (b ||| 2 ^ y) < 64 ∧ ∀ v, v < 6 → (b ||| 2 ^ y).testBit v = (b.testBit v || (v == y)) := by decide +kernel
theorem hb_tab : ∀ s, s < 64 → ∀ k, k < 6 → F_X8_hasBit (nI s) (nI k) = (if s.testBit k then (1 : Int32) else 0) := by decide +kernel
section RGS
variable {σ τ : St} {d : Nat → Nat → Nat}
theorem so_L (hd : DUE σ τ d) {t : St} {p : Nat → Nat} {M : Nat} (hM : 2 ≤ M ∧ M ≤ 6) (h53 : t.2.1 53 = τ.2.1 53) (hp : ∀ j, j < M → p j < 6) (h57 : ∀ j, j < M → t.2.1 57 j = nI (p j)) : ∀ (n x a : Nat), x ≤ M → M < x + n → a ≤ 999 → (x = 0 → a = 999) → (1 ≤ x → x < M → a = MN d p x) → (x = M → a = (if d (p (M - 1)) (p 0) < MN d p (M - 1) then d (p (M - 1)) (p 0) else MN d p (M - 1))) → F_X9_strikeOf_L6 n t (nI M) (nI x) (nI a) = nI (if d (p (M - 1)) (p 0) < MN d p (M - 1) then d (p (M - 1)) (p 0) else MN d p (M - 1))
  | 0, x, a, hx, hn, _, _, _, _ => absurd hn (by omega)
  | n + 1, x, a, hx, hn, ha, a0, a1, a2 => by
    rw [F_X9_strikeOf_L6]
    by_cases q : nI M ≤ nI x
    · rw [if_pos q]
      have q := (nI_leI (by omega) (by omega)).mp q
      rw [a2 (by omega)]
    · rw [if_neg q]
      have q : ¬ M ≤ x := fun z => q ((nI_leI (by omega) (by omega)).mpr z)
      have hx6 := hp x (by omega)
      rw [md_tab M (by omega) (by omega) x (by omega), nI_clamp (n := x) (by omega), nI_clamp (n := if x + 1 = M then 0 else x + 1) (by split <;> omega), h57 x (by omega), h57 (if x + 1 = M then 0 else x + 1) (by split <;> omega), h53]
      have hy6 := hp (if x + 1 = M then 0 else x + 1) (by split <;> omega)
      rw [hd.2.1 _ _ hx6 hy6, nI_1]
      have d6 := hd.2.2 (p x) (p (if x + 1 = M then 0 else x + 1))
      obtain ⟨D, eD⟩ : ∃ D, D = d (p x) (p (if x + 1 = M then 0 else x + 1)) := ⟨_, rfl⟩
      rw [← eD] at d6 ⊢
      have v1 : (if nI a ≤ nI D then nI a else nI D) = nI (if a ≤ D then a else D) := by
        by_cases c : a ≤ D
        · rw [if_pos c, if_pos ((nI_leI (by omega) (by omega)).mpr c)]
        · rw [if_neg c, if_neg (fun z => c ((nI_leI (by omega) (by omega)).mp z))]
      rw [v1]
      refine so_L hd hM h53 hp h57 n (x + 1) _ (by omega) (by omega) (by split <;> omega) (fun z => absurd z (by omega)) (fun _ h2 => ?_) (fun h2 => ?_)
      · rw [if_neg (by omega)] at eD
        show _ = (if d (p x) (p (x + 1)) < MN d p x then d (p x) (p (x + 1)) else MN d p x)
        rw [← eD]
        by_cases z : x = 0
        · have z0 := a0 z
          have : MN d p x = 60 := by rw [z]; rfl
          rw [this]
          split <;> split <;> omega
        · rw [a1 (by omega) (by omega)]
          split <;> split <;> omega
      · rw [if_pos h2] at eD
        rw [show M - 1 = x by omega, ← eD, a1 (by omega) (by omega)]
        split <;> split <;> omega
theorem tr62 {t0 : St} {M : Nat} (hM : M ≤ 6) (v2 : Int32) : ∀ (n x : Nat) (t : St), x ≤ M → M < x + n → ∃ F, F_X9_tries_L62 n t0 (nI M) v2 (nI x) t = sa t 58 F ∧ ∀ j, F j = if x ≤ j ∧ j < M then t.2.1 57 j else t.2.1 58 j
  | 0, x, t, hx, hn => absurd hn (by omega)
  | n + 1, x, t, hx, hn => by
    rw [F_X9_tries_L62]
    by_cases q : nI M ≤ nI x
    · rw [if_pos q]
      have q := (nI_leI (by omega) (by omega)).mp q
      refine ⟨t.2.1 58, ?_, fun j => by rw [if_neg (by omega)]⟩
      refine Prod.ext rfl (Prod.ext ?_ rfl)
      funext j
      show t.2.1 j = (if j = 58 then t.2.1 58 else t.2.1 j)
      split
      · rename_i e; rw [e]
      · rfl
    · rw [if_neg q]
      have q : ¬ M ≤ x := fun z => q ((nI_leI (by omega) (by omega)).mpr z)
      rw [nI_1, nI_clamp (n := x) (by omega)]
      obtain ⟨F, e1, e2⟩ := tr62 (t0 := t0) hM v2 n (x + 1) (sa t 58 (upd (t.2.1 58) x (t.2.1 57 x))) (by omega) (by omega)
      refine ⟨F, by rw [e1, sa_sa], fun j => ?_⟩
      rw [e2 j]
      have s57 : (sa t 58 (upd (t.2.1 58) x (t.2.1 57 x))).2.1 57 = t.2.1 57 := rfl
      rw [s57, sa_at]
      by_cases e : j = x
      · subst e
        rw [if_neg (by omega), if_pos (by omega), pk_us]
      · rw [pk_un e]
        by_cases c : x + 1 ≤ j ∧ j < M
        · rw [if_pos c, if_pos (by omega)]
        · rw [if_neg c, if_neg (by omega)]
theorem tr62b (t0 : St) (a v2 : Int32) : ∀ (n : Nat) (x : Int32) (t : St), F_X9_tries_L62_10 n t0 a v2 x t = F_X9_tries_L62 n t0 a v2 x t
  | 0, _, _ => rfl
  | n + 1, x, t => by rw [F_X9_tries_L62_10, F_X9_tries_L62, tr62b t0 a v2 n]
/-- a new best ring -/
theorem RG_new (hd : DUE σ τ d) {m t : St} {p : Nat → Nat} {M S : Nat} (hM : 2 ≤ M ∧ M ≤ 6) (h : RG σ τ d m t p M) (hp : PTH d p M) (hS : S ≤ 60) (hs : ∀ i, i < M → S ≤ d (p i) (p (if i + 1 = M then 0 else i + 1))) : RG σ τ d (sa (si (si m 1282 (nI M)) 1283 (nI S)) 41 (va_cpy (m.2.1 42) (m.2.1 41) 0 0 6)) (F_X9_tries_L62 7 t (nI M) (nI S) 0 (si (si t 1553 (nI M)) 1554 (nI S))) p M := by
  obtain ⟨F, e1, e2⟩ := tr62 (t0 := t) hM.2 (nI S) 7 0 (si (si t 1553 (nI M)) 1554 (nI S)) (by omega) (by omega)
  have e1 : F_X9_tries_L62 7 t (nI M) (nI S) 0 (si (si t 1553 (nI M)) 1554 (nI S)) = _ := e1
  rw [e1]
  obtain ⟨g1, g2, g3, g4, g5, g6, g7⟩ := h
  refine ⟨g1, g2, g3, g4, g5, fun j hj => ?_, p, M, S, rfl, rfl, rfl, rfl, hM.2, hS, fun j hj => ⟨?_, ?_, hp.1 j hj⟩, hp.2.1, hs, Or.inr hM.1⟩
  · rw [sa_at, e2 j]
    show bd (if 0 ≤ j ∧ j < M then t.2.1 57 j else t.2.1 58 j) 0 5
    split
    · exact g5 j hj
    · exact g6 j hj
  · rw [sa_at, pk_cpy_in (by omega) (by omega), show 0 + (j - 0) = j by omega]
    exact (g4 j hj).1
  · rw [sa_at, e2 j, if_pos (by omega)]
    exact (g4 j hj).2
theorem of_tr (hd : DUE σ τ d) {m t : St} {p : Nat → Nat} {M : Nat} (hM : 2 ≤ M ∧ M ≤ 6) (h : RG σ τ d m t p M) (hp : PTH d p M) : RG σ τ d (if nI (d (p (M - 1)) (p 0)) ≤ 0 then m else F_X3_offer m (nI M) (if nI (d (p (M - 1)) (p 0)) < nI (MN d p (M - 1)) then nI (d (p (M - 1)) (p 0)) else nI (MN d p (M - 1)))) (F_X9_tries t (nI M)) p M := by
  have mb := MN_b (d := d) (p := p) (M - 1) (fun j hj => hp.2.2 j (by omega))
  have db := hd.2.2 (p (M - 1)) (p 0)
  have so := so_L hd hM h.2.2.1 hp.1 (fun j hj => (h.2.2.2.1 j hj).2) 7 0 999 (by omega) (by omega) (by omega) (fun _ => rfl) (fun z => absurd z (by omega)) (fun z => absurd z (by omega))
  have so : F_X9_strikeOf t (nI M) = nI (if d (p (M - 1)) (p 0) < MN d p (M - 1) then d (p (M - 1)) (p 0) else MN d p (M - 1)) := so
  obtain ⟨V, eV⟩ : ∃ V, V = d (p (M - 1)) (p 0) := ⟨_, rfl⟩
  have v1 : (if nI V < nI (MN d p (M - 1)) then nI V else nI (MN d p (M - 1))) = nI (if V < MN d p (M - 1) then V else MN d p (M - 1)) := by
    have i1 := nI_toInt (n := V) (by omega)
    have i2 := nI_toInt (n := MN d p (M - 1)) (by omega)
    by_cases c : V < MN d p (M - 1)
    · rw [if_pos c, if_pos (Int32.lt_iff_toInt_lt.mpr (by omega))]
    · rw [if_neg c, if_neg (fun z => by have := i_lt z; omega)]
  rw [← eV] at so db ⊢
  rw [v1]
  obtain ⟨S, eS⟩ : ∃ S, S = (if V < MN d p (M - 1) then V else MN d p (M - 1)) := ⟨_, rfl⟩
  rw [← eS] at so ⊢
  have i0 := nI_toInt (n := V) (by omega)
  have hS : S ≤ 60 := by rw [eS]; split <;> omega
  have iS := nI_toInt (n := S) (by omega)
  unfold F_X9_tries F_X9_tries_k11_3
  rw [if_pos (show (2 : Int32) ≤ nI M from (num_le M rfl (by decide) (by omega)).mpr hM.1), so]
  by_cases c : nI V ≤ 0
  · have c' := i_le c
    rw [z32] at c'
    have : S = 0 := by rw [eS]; split <;> omega
    rw [if_pos c, if_pos (show nI S ≤ 0 by rw [this]; decide)]
    exact h
  · have c' := i_nle c
    rw [z32] at c'
    have S0 : 0 < S := by rw [eS]; split <;> omega
    have hs : ∀ i, i < M → S ≤ d (p i) (p (if i + 1 = M then 0 else i + 1)) := fun i hi => by
      by_cases z : i + 1 = M
      · rw [if_pos z, show i = M - 1 by omega, ← eV, eS]
        split <;> omega
      · rw [if_neg z]
        have := MN_le (d := d) (p := p) (M - 1) i (by omega)
        rw [eS]
        split <;> omega
    have nw := RG_new hd hM h hp hS hs
    rw [if_neg c, if_neg (fun z => by have := i_le z; rw [z32] at this; omega)]
    obtain ⟨q, K, s, b1, b2, b3, b4, b5, b6, b7⟩ := h.2.2.2.2.2.2
    unfold F_X3_offer
    rw [b1, b2, b3, b4, nI_mul, nI_mul, nI_mul, nI_mul]
    have m1 : S * M ≤ 360 := Nat.mul_le_mul hS hM.2
    have m2 : s * K ≤ 360 := Nat.mul_le_mul b6 b5
    rw [Nat.mul_comm M S, Nat.mul_comm K s]
    have i1 := nI_toInt (n := S * M) (by omega)
    have i2 := nI_toInt (n := s * K) (by omega)
    have i3 : (nI (S * M) - nI (s * K)).toInt = (nI (S * M)).toInt - (nI (s * K)).toInt := ti_of (oI_sub (oI_at _) (oI_at _)) (by omega)
    by_cases c1 : s * K < S * M
    · rw [if_pos (show nI (s * K) < nI (S * M) from Int32.lt_iff_toInt_lt.mpr (by omega)), if_pos (show (0 : Int32) < nI (S * M) - nI (s * K) from Int32.lt_iff_toInt_lt.mpr (by rw [z32]; omega))]
      exact nw
    · rw [if_neg (show ¬ nI (s * K) < nI (S * M) from fun z => by have := i_lt z; omega), if_neg (show ¬ (0 : Int32) < nI (S * M) - nI (s * K) from fun z => by have := i_lt z; rw [z32] at this; omega)]
      by_cases c2 : S * M = s * K
      · rw [if_pos (show nI (S * M) = nI (s * K) by rw [c2]), if_pos (show nI (S * M) - nI (s * K) = 0 from i32e (by rw [z32]; omega))]
        by_cases c3 : nI K ≤ nI M
        · rw [if_pos c3, if_pos c3]; exact h
        · rw [if_neg c3, if_neg c3, tr62b]; exact nw
      · rw [if_neg (show ¬ nI (S * M) = nI (s * K) from fun z => c2 ((nI_eq (by omega) (by omega)).mp z)), if_neg (show ¬ nI (S * M) - nI (s * K) = 0 from fun z => by
          have := congrArg Int32.toInt z
          rw [z32] at this
          omega)]
        exact h
theorem mwL {t : St} {p : Nat → Nat} {M y : Nat} (hM : M ≤ 6) (hy : y < 6) (hp : ∀ j, j < M → p j < 6) (h57 : ∀ j, j < M → t.2.1 57 j = nI (p j)) : ∀ (n x : Nat) (b : Int32), x ≤ M → M < x + n → (F_X9_mayWalk_L43 n t (nI M) (nI y) (nI x) b = 0 ↔ (b = 0 ∨ ∃ j, x ≤ j ∧ j < M ∧ p j = y))
  | 0, x, b, hx, hn => absurd hn (by omega)
  | n + 1, x, b, hx, hn => by
    rw [F_X9_mayWalk_L43]
    by_cases q : nI M ≤ nI x
    · rw [if_pos q]
      have q := (nI_leI (by omega) (by omega)).mp q
      exact ⟨fun z => Or.inl z, fun z => z.elim id (fun ⟨j, j1, j2, _⟩ => absurd j1 (by omega))⟩
    · rw [if_neg q]
      have q : ¬ M ≤ x := fun z => q ((nI_leI (by omega) (by omega)).mpr z)
      rw [nI_1, nI_clamp (n := x) (by omega), h57 x (by omega), mwL hM hy hp h57 n (x + 1) _ (by omega) (by omega)]
      have := hp x (by omega)
      by_cases z : b = 0
      · rw [if_pos z]; exact ⟨fun _ => Or.inl z, fun _ => Or.inl rfl⟩
      · rw [if_neg z]
        by_cases e : p x = y
        · rw [if_pos (by rw [e])]
          exact ⟨fun _ => Or.inr ⟨x, Nat.le_refl _, by omega, e⟩, fun _ => Or.inl rfl⟩
        · rw [if_neg (fun w => e ((nI_eq (by omega) (by omega)).mp w))]
          constructor
          · rintro (w | ⟨j, j1, j2, j3⟩)
            · exact absurd w (by decide)
            · exact Or.inr ⟨j, by omega, j2, j3⟩
          · rintro (w | ⟨j, j1, j2, j3⟩)
            · exact absurd w z
            · refine Or.inr ⟨j, ?_, j2, j3⟩
              by_cases w : j = x
              · subst w; exact absurd j3 e
              · omega
theorem mw (hd : DUE σ τ d) {m t : St} {p : Nat → Nat} {M y : Nat} (hM : 1 ≤ M ∧ M ≤ 6) (hy : y < 6) (h : RG σ τ d m t p M) (hp : ∀ j, j < M → p j < 6) : F_X9_mayWalk t (nI M) (nI y) = 0 ↔ (y ≤ p 0 ∨ d (p (M - 1)) y = 0 ∨ ∃ j, j < M ∧ p j = y) := by
  unfold F_X9_mayWalk
  have r := mwL (t := t) (p := p) (M := M) (y := y) hM.2 hy hp (fun j hj => (h.2.2.2.1 j hj).2) 7 0 (if nI y ≤ ((t.2.1 57) 0) then (0 : Int32) else (if ((t.2.1 53) (((38 : Int32) + ((6 : Int32) * ((t.2.1 57) (nI M - (1 : Int32)).toNatClampNeg))) + nI y).toNatClampNeg) ≤ 0 then (0 : Int32) else (1 : Int32))) (by omega) (by omega)
  refine Iff.trans r ?_
  have e1 : nI M - (1 : Int32) = nI (M - 1) := by
    have := nI_pred (M - 1)
    rw [show M - 1 + 1 = M by omega] at this
    exact this
  have p0 := hp 0 (by omega)
  have p1 := hp (M - 1) (by omega)
  rw [e1, nI_clamp (n := M - 1) (by omega), (h.2.2.2.1 0 (by omega)).2, (h.2.2.2.1 (M - 1) (by omega)).2, h.2.2.1, hd.2.1 _ _ p1 hy]
  have db := hd.2.2 (p (M - 1)) y
  have id := nI_toInt (n := d (p (M - 1)) y) (by omega)
  have ex : (∃ j, 0 ≤ j ∧ j < M ∧ p j = y) ↔ ∃ j, j < M ∧ p j = y := ⟨fun ⟨j, _, a, b⟩ => ⟨j, a, b⟩, fun ⟨j, a, b⟩ => ⟨j, Nat.zero_le _, a, b⟩⟩
  rw [ex]
  by_cases c : y ≤ p 0
  · rw [if_pos ((nI_leI (by omega) (by omega)).mpr c)]
    exact ⟨fun _ => Or.inl c, fun _ => Or.inl rfl⟩
  · rw [if_neg (fun z => c ((nI_leI (by omega) (by omega)).mp z))]
    by_cases e : nI (d (p (M - 1)) y) ≤ 0
    · rw [if_pos e]
      have e := i_le e
      rw [z32] at e
      exact ⟨fun _ => Or.inr (Or.inl (by omega)), fun _ => Or.inl rfl⟩
    · rw [if_neg e]
      have e := i_nle e
      rw [z32] at e
      constructor
      · rintro (w | w)
        · exact absurd w (by decide)
        · exact Or.inr (Or.inr w)
      · rintro (w | w | w)
        · exact absurd w c
        · omega
        · exact Or.inr w
end RGS
