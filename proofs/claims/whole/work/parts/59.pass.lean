/-! ===== pass: the table of heats ===== -/
def ovN (A B T : Nat → Nat) (p : Nat → Nat) (k v : Nat) : Nat := if A k = v then (if p (B k) = 999 then 999 else T k + p (B k)) else if B k = v then (if p (A k) = 999 then 999 else T k + p (A k)) else 999
def FD (A B T : Nat → Nat) (p : Nat → Nat) : Nat → Nat → Nat
  | 0, _ => 999
  | k + 1, v => if FD A B T p k v ≤ ovN A B T p k v then FD A B T p k v else ovN A B T p k v
def DD (A B T : Nat → Nat) (S g : Nat) : Nat → Nat → Nat
  | 0, v => if v = g then 0 else 999
  | n + 1, v => FD A B T (DD A B T S g n) S v
theorem FD_le (A B T p : Nat → Nat) : ∀ k v, FD A B T p k v ≤ 999
  | 0, _ => Nat.le_refl _
  | k + 1, v => by
    have := FD_le A B T p k v
    unfold FD
    split <;> omega
theorem FD_ov (A B T p : Nat → Nat) : ∀ k v j, j < k → FD A B T p k v ≤ ovN A B T p j v
  | 0, _, _, h => absurd h (by omega)
  | k + 1, v, j, h => by
    unfold FD
    by_cases e : j = k
    · subst e; split <;> omega
    · have := FD_ov A B T p k v j (by omega)
      split <;> omega
theorem FD_at (A B T p : Nat → Nat) : ∀ k v, FD A B T p k v < 999 → ∃ j, j < k ∧ FD A B T p k v = ovN A B T p j v
  | 0, _, h => absurd h (by unfold FD; omega)
  | k + 1, v, h => by
    unfold FD at h ⊢
    split at h
    · rename_i c
      rw [if_pos c]
      obtain ⟨j, h1, h2⟩ := FD_at A B T p k v h
      exact ⟨j, by omega, h2⟩
    · rename_i c
      rw [if_neg c]
      exact ⟨k, by omega, rfl⟩
/-- a row of n stages from v to the goal, of heat h -/
def Wk (A B T : Nat → Nat) (S g : Nat) : Nat → Nat → Nat → Prop
  | 0, v, h => v = g ∧ h = 0
  | n + 1, v, h => ∃ k u h', k < S ∧ ((A k = v ∧ B k = u) ∨ (B k = v ∧ A k = u)) ∧ Wk A B T S g n u h' ∧ h = T k + h'
section WALK
variable {A B T : Nat → Nat} {S g : Nat}
theorem DD_b (hT : ∀ k, k < S → T k ≤ 9) : ∀ n v, n ≤ 100 → DD A B T S g n v ≤ 9 * n ∨ DD A B T S g n v = 999
  | 0, v, _ => by
    unfold DD
    split
    · exact Or.inl (Nat.zero_le _)
    · exact Or.inr rfl
  | n + 1, v, hn => by
    rcases Nat.lt_or_ge (DD A B T S g (n + 1) v) 999 with h | h
    · refine Or.inl ?_
      obtain ⟨j, hj, e⟩ := FD_at A B T (DD A B T S g n) S v h
      have ht := hT j hj
      show FD A B T (DD A B T S g n) S v ≤ _
      have h' : FD A B T (DD A B T S g n) S v < 999 := h
      rw [e] at h' ⊢
      unfold ovN at h' ⊢
      have b1 := DD_b hT n (B j) (by omega)
      have b2 := DD_b hT n (A j) (by omega)
      split
      · rename_i c
        rw [if_pos c] at h'
        split
        · rename_i d; rw [if_pos d] at h'; omega
        · omega
      · rename_i c
        rw [if_neg c] at h'
        split
        · rename_i c2
          rw [if_pos c2] at h'
          split
          · rename_i d; rw [if_pos d] at h'; omega
          · omega
        · rename_i c2
          rw [if_neg c2] at h'
          omega
    · have := FD_le A B T (DD A B T S g n) S v
      exact Or.inr (Nat.le_antisymm this h)
theorem DD_wk (hT : ∀ k, k < S → T k ≤ 9) : ∀ n v, n ≤ 100 → DD A B T S g n v < 999 → Wk A B T S g n v (DD A B T S g n v)
  | 0, v, _, h => by
    unfold DD at h ⊢
    by_cases c : v = g
    · rw [if_pos c]; exact ⟨c, rfl⟩
    · rw [if_neg c] at h; omega
  | n + 1, v, hn, h => by
    obtain ⟨j, hj, e⟩ := FD_at A B T (DD A B T S g n) S v h
    have h' : FD A B T (DD A B T S g n) S v < 999 := h
    show Wk A B T S g (n + 1) v (FD A B T (DD A B T S g n) S v)
    rw [e] at h' ⊢
    unfold ovN at h' ⊢
    by_cases c : A j = v
    · rw [if_pos c] at h' ⊢
      by_cases d : DD A B T S g n (B j) = 999
      · rw [if_pos d] at h'; omega
      · rw [if_neg d] at h' ⊢
        have b1 := DD_b (A := A) (B := B) (g := g) hT n (B j) (by omega)
        exact ⟨j, B j, _, hj, Or.inl ⟨c, rfl⟩, DD_wk hT n (B j) (by omega) (by omega), rfl⟩
    · rw [if_neg c] at h' ⊢
      by_cases c2 : B j = v
      · rw [if_pos c2] at h' ⊢
        by_cases d : DD A B T S g n (A j) = 999
        · rw [if_pos d] at h'; omega
        · rw [if_neg d] at h' ⊢
          exact ⟨j, A j, _, hj, Or.inr ⟨c2, rfl⟩, DD_wk hT n (A j) (by omega) (by have := DD_b (A := A) (B := B) (g := g) hT n (A j) (by omega); omega), rfl⟩
      · rw [if_neg c2] at h'; omega
theorem wk_DD (hT : ∀ k, k < S → T k ≤ 9) : ∀ n v h, n ≤ 100 → Wk A B T S g n v h → DD A B T S g n v ≤ h
  | 0, v, h, _, w => by
    obtain ⟨w1, w2⟩ := w
    unfold DD
    rw [if_pos w1]
    omega
  | n + 1, v, h, hn, w => by
    obtain ⟨k, u, h', hk, he, w', e⟩ := w
    have r := wk_DD hT n u h' (by omega) w'
    have o := FD_ov A B T (DD A B T S g n) S v k hk
    have b := DD_b (A := A) (B := B) (g := g) hT n u (by omega)
    show FD A B T (DD A B T S g n) S v ≤ h
    have fl := FD_le A B T (DD A B T S g n) S v
    rcases Nat.lt_or_ge h 999 with z | z
    · unfold ovN at o
      rcases he with ⟨e1, e2⟩ | ⟨e1, e2⟩
      · rw [if_pos e1, e2, if_neg (by omega)] at o
        omega
      · by_cases c : A k = v
        · have uv : v = u := c.symm.trans e2
          subst uv
          rw [if_pos c, e1, if_neg (by omega)] at o
          omega
        · rw [if_neg c, if_pos e1, e2, if_neg (by omega)] at o
          omega
    · omega
/-- the wells that a row of stages meets, and the heat left from each -/
theorem wk_fun : ∀ n v h, Wk A B T S g n v h → ∃ (f hh : Nat → Nat), f 0 = v ∧ hh 0 = h ∧ f n = g ∧ hh n = 0 ∧ ∀ i, i < n → ∃ k, k < S ∧ ((A k = f i ∧ B k = f (i + 1)) ∨ (B k = f i ∧ A k = f (i + 1))) ∧ hh i = T k + hh (i + 1)
  | 0, v, h, w => ⟨fun _ => v, fun _ => h, rfl, rfl, w.1, w.2, fun i hi => absurd hi (by omega)⟩
  | n + 1, v, h, w => by
    obtain ⟨k, u, h', hk, he, w', e⟩ := w
    obtain ⟨f, hh, f0, h0, fn, hn, st⟩ := wk_fun n u h' w'
    refine ⟨fun i => if i = 0 then v else f (i - 1), fun i => if i = 0 then h else hh (i - 1), rfl, rfl, fn, hn, fun i hi => ?_⟩
    by_cases z : i = 0
    · subst z
      refine ⟨k, hk, ?_, ?_⟩
      · show (A k = v ∧ B k = f 0) ∨ (B k = v ∧ A k = f 0)
        rw [f0]; exact he
      · show h = T k + hh 0
        rw [h0]; exact e
    · obtain ⟨k2, q1, q2, q3⟩ := st (i - 1) (by omega)
      refine ⟨k2, q1, ?_, ?_⟩
      · show (A k2 = (if i = 0 then v else f (i - 1)) ∧ B k2 = (if i + 1 = 0 then v else f (i + 1 - 1))) ∨ (B k2 = (if i = 0 then v else f (i - 1)) ∧ A k2 = (if i + 1 = 0 then v else f (i + 1 - 1)))
        rw [if_neg z, if_neg (by omega), show i + 1 - 1 = i - 1 + 1 by omega]
        exact q2
      · show (if i = 0 then h else hh (i - 1)) = T k2 + (if i + 1 = 0 then h else hh (i + 1 - 1))
        rw [if_neg z, if_neg (by omega), show i + 1 - 1 = i - 1 + 1 by omega]
        exact q3
theorem wk_suf {f hh : Nat → Nat} {n : Nat} (fn : f n = g) (hn : hh n = 0) (st : ∀ i, i < n → ∃ k, k < S ∧ ((A k = f i ∧ B k = f (i + 1)) ∨ (B k = f i ∧ A k = f (i + 1))) ∧ hh i = T k + hh (i + 1)) : ∀ m, m ≤ n → Wk A B T S g m (f (n - m)) (hh (n - m))
  | 0, _ => ⟨fn, hn⟩
  | m + 1, hm => by
    obtain ⟨k, q1, q2, q3⟩ := st (n - (m + 1)) (by omega)
    have := wk_suf fn hn st m (by omega)
    rw [show n - (m + 1) + 1 = n - m by omega] at q2 q3
    exact ⟨k, f (n - m), hh (n - m), q1, q2, this, q3⟩
theorem wk_pre {f hh : Nat → Nat} {n : Nat} (st : ∀ i, i < n → ∃ k, k < S ∧ ((A k = f i ∧ B k = f (i + 1)) ∨ (B k = f i ∧ A k = f (i + 1))) ∧ hh i = T k + hh (i + 1)) (i : Nat) (hi : i ≤ n) {m h' : Nat} (w : Wk A B T S g m (f i) h') : ∀ j, j ≤ i → ∃ h'', Wk A B T S g (j + m) (f (i - j)) h'' ∧ h'' + hh i = hh (i - j) + h'
  | 0, _ => by
    refine ⟨h', ?_, by rw [Nat.sub_zero]; omega⟩
    rw [Nat.zero_add, Nat.sub_zero]; exact w
  | j + 1, hj => by
    obtain ⟨h'', w2, e2⟩ := wk_pre st i hi w j (by omega)
    obtain ⟨k, q1, q2, q3⟩ := st (i - (j + 1)) (by omega)
    rw [show i - (j + 1) + 1 = i - j by omega] at q2 q3
    refine ⟨T k + h'', ?_, by omega⟩
    rw [show j + 1 + m = (j + m) + 1 by omega]
    exact ⟨k, f (i - j), h'', q1, q2, w2, rfl⟩
/-- the fewest stages meet no well twice -/
theorem wk_short {W : Nat} (hE : ∀ k, k < S → A k < W ∧ B k < W) (hT : ∀ k, k < S → T k ≤ 9) {n p room : Nat} (hn : n ≤ 100) (hr : room < 999) (hp : p ≠ g) (hg : g < W) (h1 : DD A B T S g n p ≤ room) (hmin : ∀ m, m < n → 1 ≤ m → ¬ DD A B T S g m p ≤ room) : n < W := by
  have w := DD_wk (A := A) (B := B) (g := g) hT n p hn (by omega)
  obtain ⟨f, hh, f0, h0, fn, hn0, st⟩ := wk_fun n p _ w
  rcases Nat.lt_or_ge n W with z | z
  · exact z
  · exfalso
    have fW : ∀ i, i ≤ n → f i < W := fun i hi => by
      rcases Nat.lt_or_ge i n with q | q
      · obtain ⟨k, q1, q2, q3⟩ := st i q
        have := hE k q1
        omega
      · rw [show i = n by omega, fn]; exact hg
    have hx : ∃ i j, i < j ∧ j ≤ n ∧ f i = f j := by
      apply Classical.byContradiction
      intro hx
      have := fb_holes W (n + 1) f (fun i hi => fW i (by omega)) (fun i j hij hj e => hx ⟨i, j, hij, by omega, e⟩)
      omega
    obtain ⟨i, j, hij, hj, e⟩ := hx
    have ws := wk_suf fn hn0 st (n - j) (by omega)
    rw [show n - (n - j) = j by omega, ← e] at ws
    obtain ⟨h'', w2, e2⟩ := wk_pre st i (by omega) ws i (Nat.le_refl _)
    rw [Nat.sub_self, f0] at w2
    rw [Nat.sub_self, h0] at e2
    have mono : ∀ d, i + d ≤ n → hh (i + d) ≤ hh i := by
      intro d
      induction d with
      | zero => intro _; exact Nat.le_refl _
      | succ d ih =>
        intro hd
        obtain ⟨k, q1, q2, q3⟩ := st (i + d) (by omega)
        have := ih (by omega)
        rw [show i + (d + 1) = i + d + 1 by omega]
        omega
    have mj := mono (j - i) (by omega)
    rw [show i + (j - i) = j by omega] at mj
    have le := wk_DD (A := A) (B := B) (g := g) hT (i + (n - j)) p h'' (by omega) w2
    rcases Nat.eq_zero_or_pos (i + (n - j)) with q | q
    · rw [q] at w2
      exact hp w2.1
    · exact hmin (i + (n - j)) (by omega) q (by omega)
end WALK
/-! the reference's table -/
section RECK
variable (τ : St) (A B T : Nat → Nat) (S : Nat)
theorem rk70 (hS : S ≤ 8) (e1 : τ.2.1 50 1 = nI S) (hA : ∀ k, k < S → τ.2.1 50 (10 + k) = nI (A k) ∧ A k < 6) (hB : ∀ k, k < S → τ.2.1 50 (18 + k) = nI (B k) ∧ B k < 6) (hT : ∀ k, k < S → τ.2.1 50 (26 + k) = nI (T k) ∧ T k ≤ 9) (lf2 lf34 lf42 : Int32 → St → St) (a1 x2 x42 : Int32) (m2 m34 m42 : St) (N : Nat) (hN : 1 ≤ N ∧ N ≤ 6) (p : Nat → Nat) (hp : ∀ v, p v ≤ 999) : ∀ (n x : Nat) (Z : Nat → Int32), x ≤ S → S < x + n → (∀ v, v < 6 → Z (6 * (N - 1) + v) = nI (p v)) → (∀ v, v < 6 → Z (6 * N + v) = nI (FD A B T p x v)) → ∃ Z', F_X9_reckons_L70 lf2 lf34 lf42 n τ a1 x2 m2 (nI N) m34 x42 m42 (nI x) (sa τ 60 Z) = lf34 (nI (N + 1)) (sa τ 60 Z') ∧ (∀ i, i < 6 * N → Z' i = Z i) ∧ ∀ v, v < 6 → Z' (6 * N + v) = nI (FD A B T p S v)
  | 0, x, Z, hx, hn, _, _ => absurd hn (by omega)
  | n + 1, x, Z, hx, hn, h1, h2 => by
    rw [F_X9_reckons_L70]
    have s50 : (sa τ 60 Z).2.1 50 = τ.2.1 50 := rfl
    rw [s50, e1, sa_at]
    by_cases q : nI S ≤ nI x
    · rw [if_pos q, nI_1]
      have q := (nI_leI (by omega) (by omega)).mp q
      have : x = S := by omega
      subst this
      exact ⟨Z, rfl, fun _ _ => rfl, h2⟩
    · rw [if_neg q]
      have q : ¬ S ≤ x := fun z => q ((nI_leI (by omega) (by omega)).mpr z)
      obtain ⟨a1', a2'⟩ := hA x (by omega)
      obtain ⟨b1', b2'⟩ := hB x (by omega)
      obtain ⟨t1', t2'⟩ := hT x (by omega)
      have en := nI_toInt (n := x) (by omega)
      have i10 : ((10 : Int32) + nI x).toNatClampNeg = 10 + x := by rw [show (10 : Int32) + nI x = nI (10 + x) from nI_add 10 x, nI_clamp (by omega)]
      have i18 : ((18 : Int32) + nI x).toNatClampNeg = 18 + x := by rw [show (18 : Int32) + nI x = nI (18 + x) from nI_add 18 x, nI_clamp (by omega)]
      have i26 : ((26 : Int32) + nI x).toNatClampNeg = 26 + x := by rw [show (26 : Int32) + nI x = nI (26 + x) from nI_add 26 x, nI_clamp (by omega)]
      have iN : ∀ v, v < 6 → (((6 : Int32) * nI N) + nI v).toNatClampNeg = 6 * N + v := fun v hv => by
        rw [show (6 : Int32) * nI N = nI (6 * N) from nI_mul 6 N, nI_add, nI_clamp (by omega)]
      have iM : ∀ v, v < 6 → (((6 : Int32) * (nI N - (1 : Int32))) + nI v).toNatClampNeg = 6 * (N - 1) + v := fun v hv => by
        have := nI_pred (N - 1)
        rw [show N - 1 + 1 = N by omega] at this
        rw [this, show (6 : Int32) * nI (N - 1) = nI (6 * (N - 1)) from nI_mul 6 (N - 1), nI_add, nI_clamp (by omega)]
      rw [i10, i18, i26, a1', b1', t1', iN _ a2', iN _ b2', iM _ a2', iM _ b2', h1 _ a2', h1 _ b2', nI_add, nI_add, nI_1, sa_sa]
      have pb := hp (B x)
      have pa := hp (A x)
      have fa := FD_le A B T p x
      -- one end
      obtain ⟨V1, eV1⟩ : ∃ V1, V1 = (if FD A B T p x (A x) ≤ T x + p (B x) then FD A B T p x (A x) else T x + p (B x)) := ⟨_, rfl⟩
      have v1 : (if Z (6 * N + A x) ≤ nI (T x + p (B x)) then Z (6 * N + A x) else nI (T x + p (B x))) = nI V1 := by
        rw [h2 _ a2', eV1]
        have := fa (A x)
        by_cases c : FD A B T p x (A x) ≤ T x + p (B x)
        · rw [if_pos c, if_pos ((nI_leI (by omega) (by omega)).mpr c)]
        · rw [if_neg c, if_neg (fun z => c ((nI_leI (by omega) (by omega)).mp z))]
      rw [v1]
      obtain ⟨Q, eQ⟩ : ∃ Q : Nat, Q = (if A x = B x then V1 else FD A B T p x (B x)) := ⟨_, rfl⟩
      have u2 : upd Z (6 * N + A x) (nI V1) (6 * N + B x) = nI Q := by
        rw [eQ]
        by_cases c : A x = B x
        · rw [if_pos c, ← c, pk_us]
        · rw [if_neg c, pk_un (by omega), h2 _ b2']
      rw [u2]
      have hQ : Q ≤ 999 := by
        rw [eQ, eV1]
        have := fa (A x)
        have := fa (B x)
        split
        · split <;> omega
        · omega
      obtain ⟨V2, eV2⟩ : ∃ V2, V2 = (if Q ≤ T x + p (A x) then Q else T x + p (A x)) := ⟨_, rfl⟩
      have v2 : (if nI Q ≤ nI (T x + p (A x)) then nI Q else nI (T x + p (A x))) = nI V2 := by
        rw [eV2]
        by_cases c : Q ≤ T x + p (A x)
        · rw [if_pos c, if_pos ((nI_leI (by omega) (by omega)).mpr c)]
        · rw [if_neg c, if_neg (fun z => c ((nI_leI (by omega) (by omega)).mp z))]
      rw [v2]
      obtain ⟨Z', r1, r2, r3⟩ := rk70 hS e1 hA hB hT lf2 lf34 lf42 a1 x2 x42 m2 m34 m42 N hN p hp n (x + 1) (upd (upd Z (6 * N + A x) (nI V1)) (6 * N + B x) (nI V2)) (by omega) (by omega) (fun v hv => by
        rw [pk_un (by omega), pk_un (by omega)]; exact h1 v hv) (fun v hv => by
        have hf := fa v
        rw [FD.eq_2]
        unfold ovN
        by_cases cB : v = B x
        · subst cB
          rw [pk_us, eV2, eQ, eV1]
          congr 1
          by_cases cA : A x = B x
          · rw [if_pos cA, if_pos cA, cA]
            split <;> split <;> (try split) <;> omega
          · rw [if_neg cA, if_neg cA, if_pos rfl]
            split <;> split <;> (try split) <;> omega
        · rw [pk_un (by omega)]
          by_cases cA : v = A x
          · subst cA
            rw [pk_us, eV1, if_pos rfl]
            congr 1
            split <;> split <;> (try split) <;> omega
          · rw [pk_un (by omega), h2 v hv, if_neg (show ¬ A x = v from fun z => cA z.symm), if_neg (show ¬ B x = v from fun z => cB z.symm), if_pos hf])
      exact ⟨Z', r1, fun i hi => by rw [r2 i hi, pk_un (by omega), pk_un (by omega)], r3⟩
theorem rk42 (lf2 lf34 : Int32 → St → St) (a1 x2 : Int32) (m2 m34 : St) (N : Nat) (hN : 1 ≤ N ∧ N ≤ 6) : ∀ (n x : Nat) (Z : Nat → Int32), x ≤ 6 → 6 < x + n → (∀ v, v < x → Z (6 * N + v) = nI 999) → ∃ Z' y1 y2 lf42, F_X9_reckons_L42 lf2 lf34 n τ a1 x2 m2 (nI N) m34 (nI x) (sa τ 60 Z) = F_X9_reckons_L70 lf2 lf34 lf42 9 τ a1 x2 m2 (nI N) m34 y1 y2 0 (sa τ 60 Z') ∧ (∀ i, i < 6 * N → Z' i = Z i) ∧ ∀ v, v < 6 → Z' (6 * N + v) = nI 999
  | 0, x, Z, hx, hn, _ => absurd hn (by omega)
  | n + 1, x, Z, hx, hn, h1 => by
    rw [F_X9_reckons_L42]
    by_cases q : (6 : Int32) ≤ nI x
    · rw [if_pos q]
      have q : 6 ≤ x := (num_le x rfl (by decide) (by omega)).mp q
      exact ⟨Z, _, _, _, rfl, fun _ _ => rfl, fun v hv => h1 v (by omega)⟩
    · rw [if_neg q]
      have q : ¬ 6 ≤ x := fun z => q ((num_le x rfl (by decide) (by omega)).mpr z)
      rw [sa_at, sa_sa, show (((6 : Int32) * nI N) + nI x).toNatClampNeg = 6 * N + x from by rw [show (6 : Int32) * nI N = nI (6 * N) from nI_mul 6 N, nI_add, nI_clamp (by omega)], nI_1]
      obtain ⟨Z', y1, y2, l, r1, r2, r3⟩ := rk42 lf2 lf34 a1 x2 m2 m34 N hN n (x + 1) (upd Z (6 * N + x) (999 : Int32)) (by omega) (by omega) (fun v hv => by
        by_cases e : v = x
        · subst e; rw [pk_us]; rfl
        · rw [pk_un (by omega)]; exact h1 v (by omega))
      exact ⟨Z', y1, y2, l, r1, fun i hi => by rw [r2 i hi, pk_un (by omega)], r3⟩
theorem rk34 (hS : S ≤ 8) (e1 : τ.2.1 50 1 = nI S) (hA : ∀ k, k < S → τ.2.1 50 (10 + k) = nI (A k) ∧ A k < 6) (hB : ∀ k, k < S → τ.2.1 50 (18 + k) = nI (B k) ∧ B k < 6) (hT : ∀ k, k < S → τ.2.1 50 (26 + k) = nI (T k) ∧ T k ≤ 9) (g : Nat) (lf2 : Int32 → St → St) (a1 x2 : Int32) (m2 : St) : ∀ (n N : Nat) (Z : Nat → Int32), 1 ≤ N → N ≤ 7 → 7 < N + n → (∀ i, i < N → ∀ v, v < 6 → Z (6 * i + v) = nI (DD A B T S g i v)) → ∃ Z', F_X9_reckons_L34 lf2 n τ a1 x2 m2 (nI N) (sa τ 60 Z) = sa τ 60 Z' ∧ ∀ i, i < 7 → ∀ v, v < 6 → Z' (6 * i + v) = nI (DD A B T S g i v)
  | 0, N, Z, _, hx, hn, _ => absurd hn (by omega)
  | n + 1, N, Z, h0, hx, hn, h1 => by
    rw [F_X9_reckons_L34]
    by_cases q : (7 : Int32) ≤ nI N
    · rw [if_pos q]
      have q : 7 ≤ N := (num_le N rfl (by decide) (by omega)).mp q
      exact ⟨Z, rfl, fun i hi => h1 i (by omega)⟩
    · rw [if_neg q]
      have q : ¬ 7 ≤ N := fun z => q ((num_le N rfl (by decide) (by omega)).mpr z)
      obtain ⟨Z1, y1, y2, l, r1, r2, r3⟩ := rk42 τ lf2 (fun y1 y2 => F_X9_reckons_L34 lf2 n τ a1 x2 m2 y1 y2) a1 x2 m2 (sa τ 60 Z) N (by omega) 7 0 Z (by omega) (by omega) (fun v hv => absurd hv (by omega))
      have r1 : F_X9_reckons_L42 lf2 (fun y1 y2 => F_X9_reckons_L34 lf2 n τ a1 x2 m2 y1 y2) 7 τ a1 x2 m2 (nI N) (sa τ 60 Z) 0 (sa τ 60 Z) = _ := r1
      rw [r1]
      have dle : ∀ v, DD A B T S g (N - 1) v ≤ 999 := fun v => by
        rcases Nat.eq_zero_or_pos (N - 1) with z | z
        · rw [z]; unfold DD; split <;> omega
        · rw [show N - 1 = (N - 2) + 1 by omega]; exact FD_le A B T _ S v
      obtain ⟨Z2, s1, s2, s3⟩ := rk70 τ A B T S hS e1 hA hB hT lf2 (fun y1 y2 => F_X9_reckons_L34 lf2 n τ a1 x2 m2 y1 y2) l a1 x2 y1 m2 (sa τ 60 Z) y2 N (by omega) (DD A B T S g (N - 1)) dle 9 0 Z1 (by omega) (by omega) (fun v hv => by rw [r2 _ (by omega)]; exact h1 (N - 1) (by omega) v hv) (fun v hv => by rw [r3 v hv]; rfl)
      have s1 : F_X9_reckons_L70 lf2 (fun y1 y2 => F_X9_reckons_L34 lf2 n τ a1 x2 m2 y1 y2) l 9 τ a1 x2 m2 (nI N) (sa τ 60 Z) y1 y2 0 (sa τ 60 Z1) = _ := s1
      rw [s1]
      refine rk34 hS e1 hA hB hT g lf2 a1 x2 m2 n (N + 1) Z2 (by omega) (by omega) (by omega) (fun i hi v hv => ?_)
      by_cases e : i = N
      · subst e
        rw [s3 v hv]
        have : DD A B T S g i v = FD A B T (DD A B T S g (i - 1)) S v := by
          rw [show i = (i - 1) + 1 by omega]; rfl
        rw [this]
      · rw [s2 _ (by omega), r2 _ (by omega)]
        exact h1 i (by omega) v hv
theorem rk2 (hS : S ≤ 8) (e1 : τ.2.1 50 1 = nI S) (hA : ∀ k, k < S → τ.2.1 50 (10 + k) = nI (A k) ∧ A k < 6) (hB : ∀ k, k < S → τ.2.1 50 (18 + k) = nI (B k) ∧ B k < 6) (hT : ∀ k, k < S → τ.2.1 50 (26 + k) = nI (T k) ∧ T k ≤ 9) (g : Nat) (hg : g < 6) : ∀ (n x : Nat) (Z : Nat → Int32), x ≤ 6 → 6 < x + n → (∀ v, v < x → Z v = nI (DD A B T S g 0 v)) → ∃ Z', F_X9_reckons_L2 n τ (nI g) (nI x) (sa τ 60 Z) = sa τ 60 Z' ∧ ∀ i, i < 7 → ∀ v, v < 6 → Z' (6 * i + v) = nI (DD A B T S g i v)
  | 0, x, Z, hx, hn, _ => absurd hn (by omega)
  | n + 1, x, Z, hx, hn, h1 => by
    rw [F_X9_reckons_L2]
    by_cases q : (6 : Int32) ≤ nI x
    · rw [if_pos q]
      have q : 6 ≤ x := (num_le x rfl (by decide) (by omega)).mp q
      exact rk34 τ A B T S hS e1 hA hB hT g _ (nI g) (nI x) (sa τ 60 Z) 7 1 Z (by decide) (by decide) (by decide) (fun i hi v hv => by
        have : i = 0 := by omega
        subst this
        rw [show 6 * 0 + v = v by omega]
        exact h1 v (by omega))
    · rw [if_neg q]
      have q : ¬ 6 ≤ x := fun z => q ((num_le x rfl (by decide) (by omega)).mpr z)
      rw [sa_at, sa_sa, nI_clamp (by omega), nI_1]
      refine rk2 hS e1 hA hB hT g hg n (x + 1) _ (by omega) (by omega) (fun v hv => ?_)
      by_cases e : v = x
      · subst e
        rw [pk_us]
        unfold DD
        by_cases c : v = g
        · rw [if_pos c, if_pos (by rw [c])]; rfl
        · rw [if_neg c, if_neg (fun z => c ((nI_eq (by omega) (by omega)).mp z))]; rfl
      · rw [pk_un e]; exact h1 v (by omega)
end RECK
