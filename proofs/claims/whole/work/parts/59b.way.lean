/-! ===== pass: the class's way ===== -/
def kk (x : Nat) : Nat := if x = 999 then 1000 else x
def CW (m : St) (A B T : Nat → Nat) (S : Nat) : Prop := m.1 97 = nI S ∧ ∀ k, k < S → m.2.1 5 k = nI (A k) ∧ m.2.1 6 k = nI (B k) ∧ m.2.1 7 k = nI (T k)
theorem kk_le {x : Nat} (h : x ≤ 999) : kk x ≤ 1000 := by unfold kk; split <;> omega
theorem nI_nle0 {u : Nat} (h : u < 6) : ¬ nI u < (0 : Int32) := fun q => by
  have := i_lt q
  rw [z32, nI_toInt (by omega)] at this
  omega
theorem nI_n6 {u : Nat} (h : u < 6) : ¬ (6 : Int32) ≤ nI u := fun q => by
  have : 6 ≤ u := (num_le u rfl (by decide) (by omega)).mp q
  omega
theorem ov_b {A B T : Nat → Nat} {S : Nat} (hAB : ∀ k, k < S → A k < 6 ∧ B k < 6 ∧ T k ≤ 9) {p : Nat → Nat} (hp : ∀ v, v < 6 → p v ≤ 54 ∨ p v = 999) {k v : Nat} (hk : k < S) : ovN A B T p k v ≤ 63 ∨ ovN A B T p k v = 999 := by
  obtain ⟨a, b, t⟩ := hAB k hk
  have := hp _ a
  have := hp _ b
  unfold ovN
  split
  · split
    · exact Or.inr rfl
    · exact Or.inl (by omega)
  · split
    · split
      · exact Or.inr rfl
      · exact Or.inl (by omega)
    · exact Or.inr rfl
theorem ho_st {m : St} {p : Nat → Nat} (hp : ∀ v, v < 6 → p v ≤ 54 ∨ p v = 999) (h44 : ∀ v, v < 6 → m.2.1 44 v = nI (kk (p v))) {u t : Nat} (hu : u < 6) (ht : t ≤ 9) : (if nI u < (0 : Int32) then (1000 : Int32) else (if (6 : Int32) ≤ nI u then (1000 : Int32) else (if (nI t + ((m.2.1 44) (nI u).toNatClampNeg)) < (1000 : Int32) then (nI t + ((m.2.1 44) (nI u).toNatClampNeg)) else (1000 : Int32)))) = nI (kk (if p u = 999 then 999 else t + p u)) := by
  rw [if_neg (nI_nle0 hu), if_neg (nI_n6 hu), nI_clamp (by omega), h44 u hu, nI_add]
  have b := hp u hu
  by_cases c : p u = 999
  · rw [if_pos c, c, if_neg (fun q => by
      have := i_lt q
      rw [show kk 999 = 1000 from rfl, nI_toInt (by omega), show (1000 : Int32).toInt = 1000 from rfl] at this
      omega)]
    rfl
  · rw [if_neg c, show kk (p u) = p u from if_neg c, show kk (t + p u) = t + p u from if_neg (by omega), if_pos]
    apply Int32.lt_iff_toInt_lt.mpr
    rw [nI_toInt (by omega), show (1000 : Int32).toInt = 1000 from rfl]
    omega
theorem ho {A B T : Nat → Nat} {S : Nat} (hS : S ≤ 8) (hAB : ∀ k, k < S → A k < 6 ∧ B k < 6 ∧ T k ≤ 9) {m : St} (hm : CW m A B T S) {p : Nat → Nat} (hp : ∀ v, v < 6 → p v ≤ 54 ∨ p v = 999) (h44 : ∀ v, v < 6 → m.2.1 44 v = nI (kk (p v))) {k v : Nat} (hk : k < S) (hv : v < 6) : F_X7_heatOver m (nI k) (nI v) = nI (kk (ovN A B T p k v)) := by
  obtain ⟨ab, bb, tb⟩ := hAB k hk
  obtain ⟨e5, e6, e7⟩ := hm.2 k hk
  have hs : ¬ F_X4_hasStage m (nI k) = 0 := by
    unfold F_X4_hasStage
    rw [hm.1]
    have i1 := nI_toInt (n := S) (by omega)
    have i2 := nI_toInt (n := k) (by omega)
    exact fun e => (has_ge (x := nI k) (m := nI S) (N := 8) (n := 8) rfl ⟨by omega, by omega⟩).mp e ⟨by omega, by omega⟩
  have fe : F_X4_firstEnd m (nI k) = nI (A k) := by
    unfold F_X4_firstEnd
    rw [if_neg hs, nI_clamp (by omega), e5]
  have se : F_X4_secondEnd m (nI k) = nI (B k) := by
    unfold F_X4_secondEnd
    rw [if_neg hs, nI_clamp (by omega), e6]
  have he : F_X4_heatOf m (nI k) = nI (T k) := by
    unfold F_X4_heatOf
    rw [if_neg hs, nI_clamp (by omega), e7]
  unfold F_X7_heatOver
  rw [he]
  unfold F_X4_otherEnd
  rw [fe, se]
  unfold ovN
  by_cases c : A k = v
  · rw [if_pos c, if_pos (show nI (A k) = nI v by rw [c])]
    exact ho_st hp h44 bb tb
  · rw [if_neg c, if_neg (show ¬ nI (A k) = nI v from fun z => c ((nI_eq (by omega) (by omega)).mp z))]
    by_cases d : B k = v
    · rw [if_pos d, if_pos (show nI (B k) = nI v by rw [d])]
      exact ho_st hp h44 ab tb
    · rw [if_neg d, if_neg (show ¬ nI (B k) = nI v from fun z => d ((nI_eq (by omega) (by omega)).mp z)), if_pos (by decide)]
      rfl
theorem kk_room {o : Nat} {room : Int32} (ho : o ≤ 63 ∨ o = 999) (hr : room.toInt ≤ 900) : room < nI (kk o) ↔ ¬ (o : Int) ≤ room.toInt := by
  have i1 := nI_toInt (n := kk o) (by have := kk_le (x := o) (by omega); omega)
  have i2 : kk o = o ∨ (o = 999 ∧ kk o = 1000) := by
    unfold kk
    split
    · exact Or.inr ⟨by assumption, rfl⟩
    · exact Or.inl rfl
  constructor
  · intro q
    have := i_lt q
    omega
  · intro q
    apply Int32.lt_iff_toInt_lt.mpr
    omega
theorem fo {A B T : Nat → Nat} {S : Nat} (hS : S ≤ 8) (hAB : ∀ k, k < S → A k < 6 ∧ B k < 6 ∧ T k ≤ 9) {m : St} (hm : CW m A B T S) {p : Nat → Nat} (hp : ∀ v, v < 6 → p v ≤ 54 ∨ p v = 999) (h44 : ∀ v, v < 6 → m.2.1 44 v = nI (kk (p v))) {v : Nat} (hv : v < 6) {room : Int32} (hr : room.toInt ≤ 900) : ∀ n x : Nat, x ≤ S → S < x + n → (F_X7_firstOnto_L3 n m (nI v) room (nI x) = ((-9) : Int32) ∧ ∀ k, x ≤ k → k < S → ¬ ((ovN A B T p k v : Nat) : Int) ≤ room.toInt) ∨ (∃ k, x ≤ k ∧ k < S ∧ F_X7_firstOnto_L3 n m (nI v) room (nI x) = nI k ∧ ((ovN A B T p k v : Nat) : Int) ≤ room.toInt ∧ ∀ j, x ≤ j → j < k → ¬ ((ovN A B T p j v : Nat) : Int) ≤ room.toInt)
  | 0, x, hx, hn => absurd hn (by omega)
  | n + 1, x, hx, hn => by
    rw [F_X7_firstOnto_L3, hm.1]
    by_cases q : nI S ≤ nI x
    · rw [if_pos q]
      have q := (nI_leI (by omega) (by omega)).mp q
      exact Or.inl ⟨rfl, fun k h1 h2 => absurd h2 (by omega)⟩
    · rw [if_neg q]
      have q : ¬ S ≤ x := fun z => q ((nI_leI (by omega) (by omega)).mpr z)
      rw [ho hS hAB hm hp h44 (by omega) hv]
      have kr := kk_room (room := room) (ov_b (v := v) hAB hp (k := x) (by omega)) hr
      by_cases c : room < nI (kk (ovN A B T p x v))
      · rw [if_pos c, nI_1]
        have c := kr.mp c
        rcases fo hS hAB hm hp h44 hv hr n (x + 1) (by omega) (by omega) with ⟨r1, r2⟩ | ⟨k, r1, r2, r3, r4, r5⟩
        · refine Or.inl ⟨r1, fun k h1 h2 => ?_⟩
          by_cases e : k = x
          · subst e; exact c
          · exact r2 k (by omega) h2
        · refine Or.inr ⟨k, by omega, r2, r3, r4, fun j h1 h2 => ?_⟩
          by_cases e : j = x
          · subst e; exact c
          · exact r5 j (by omega) h2
      · rw [if_neg c]
        have c : ((ovN A B T p x v : Nat) : Int) ≤ room.toInt := Classical.byContradiction (fun z => c (kr.mpr z))
        exact Or.inr ⟨x, Nat.le_refl _, by omega, rfl, c, fun j h1 h2 => absurd h2 (by omega)⟩
theorem FD_b {A B T : Nat → Nat} {S : Nat} (hAB : ∀ k, k < S → A k < 6 ∧ B k < 6 ∧ T k ≤ 9) {p : Nat → Nat} (hp : ∀ v, v < 6 → p v ≤ 54 ∨ p v = 999) (v : Nat) : ∀ x, x ≤ S → FD A B T p x v ≤ 63 ∨ FD A B T p x v = 999
  | 0, _ => Or.inr rfl
  | x + 1, hx => by
    have a := FD_b hAB hp v x (by omega)
    have b := ov_b (v := v) hAB hp (k := x) (by omega)
    unfold FD
    split
    · exact a
    · exact b
theorem le19 {A B T : Nat → Nat} {S : Nat} (hS : S ≤ 8) (hAB : ∀ k, k < S → A k < 6 ∧ B k < 6 ∧ T k ≤ 9) {p : Nat → Nat} (hp : ∀ v, v < 6 → p v ≤ 54 ∨ p v = 999) (lf2 : Int32 → St → St) (σ m2 : St) {v : Nat} (hv : v < 6) : ∀ (n x : Nat) (m : St), x ≤ S → S < x + n → CW m A B T S → (∀ v, v < 6 → m.2.1 44 v = nI (kk (p v))) → m.2.1 45 v = nI (kk (FD A B T p x v)) → (∀ u, u < v → m.2.1 45 u = nI (kk (FD A B T p S u))) → ∃ m', F_X7_lengthen_L19 lf2 n σ (nI v) m2 (nI x) m = lf2 (nI (v + 1)) m' ∧ CW m' A B T S ∧ (∀ v, v < 6 → m'.2.1 44 v = nI (kk (p v))) ∧ ∀ u, u < v + 1 → m'.2.1 45 u = nI (kk (FD A B T p S u))
  | 0, x, m, hx, hn, _, _, _, _ => absurd hn (by omega)
  | n + 1, x, m, hx, hn, hm, h44, h45, hlo => by
    rw [F_X7_lengthen_L19, hm.1]
    by_cases q : nI S ≤ nI x
    · rw [if_pos q, nI_1]
      have q := (nI_leI (by omega) (by omega)).mp q
      have : x = S := by omega
      subst this
      refine ⟨m, rfl, hm, h44, fun u hu => ?_⟩
      by_cases e : u = v
      · subst e; exact h45
      · exact hlo u (by omega)
    · rw [if_neg q]
      have q : ¬ S ≤ x := fun z => q ((nI_leI (by omega) (by omega)).mpr z)
      rw [ho hS hAB hm hp h44 (by omega) hv, nI_clamp (n := v) (by omega), h45, nI_1]
      have v1 : (if nI (kk (ovN A B T p x v)) < nI (kk (FD A B T p x v)) then nI (kk (ovN A B T p x v)) else nI (kk (FD A B T p x v))) = nI (kk (FD A B T p (x + 1) v)) := by
        have a := FD_b hAB hp v x hx
        have b := ov_b (v := v) hAB hp (k := x) (by omega)
        have i1 := nI_toInt (n := kk (ovN A B T p x v)) (by have := kk_le (x := ovN A B T p x v) (by omega); omega)
        have i2 := nI_toInt (n := kk (FD A B T p x v)) (by have := kk_le (x := FD A B T p x v) (by omega); omega)
        have k1 : ∀ o, kk o = o ∧ ¬ o = 999 ∨ (o = 999 ∧ kk o = 1000) := fun o => by
          unfold kk
          split
          · exact Or.inr ⟨by assumption, rfl⟩
          · exact Or.inl ⟨rfl, by assumption⟩
        have k1a := k1 (ovN A B T p x v)
        have k1b := k1 (FD A B T p x v)
        show _ = nI (kk (if FD A B T p x v ≤ ovN A B T p x v then FD A B T p x v else ovN A B T p x v))
        by_cases c : FD A B T p x v ≤ ovN A B T p x v
        · rw [if_pos c, if_neg (fun z => by have := i_lt z; omega)]
        · rw [if_neg c, if_pos (Int32.lt_iff_toInt_lt.mpr (by omega))]
      rw [v1]
      refine le19 hS hAB hp lf2 σ m2 hv n (x + 1) _ (by omega) (by omega) hm h44 ?_ (fun u hu => ?_)
      · rw [sa_at, pk_us]
      · rw [sa_at, pk_un (by omega)]; exact hlo u hu
theorem le2 {A B T : Nat → Nat} {S : Nat} (hS : S ≤ 8) (hAB : ∀ k, k < S → A k < 6 ∧ B k < 6 ∧ T k ≤ 9) {p : Nat → Nat} (hp : ∀ v, v < 6 → p v ≤ 54 ∨ p v = 999) (σ : St) : ∀ (n v : Nat) (m : St), v ≤ 6 → 6 < v + n → CW m A B T S → (∀ v, v < 6 → m.2.1 44 v = nI (kk (p v))) → (∀ u, u < v → m.2.1 45 u = nI (kk (FD A B T p S u))) → CW (F_X7_lengthen_L2 n σ (nI v) m) A B T S ∧ ∀ u, u < 6 → (F_X7_lengthen_L2 n σ (nI v) m).2.1 44 u = nI (kk (FD A B T p S u))
  | 0, v, m, hx, hn, _, _, _ => absurd hn (by omega)
  | n + 1, v, m, hx, hn, hm, h44, hlo => by
    rw [F_X7_lengthen_L2]
    by_cases q : (6 : Int32) ≤ nI v
    · rw [if_pos q]
      have q : 6 ≤ v := (num_le v rfl (by decide) (by omega)).mp q
      refine ⟨hm, fun u hu => ?_⟩
      rw [sa_at, pk_cpy_in (by omega) (by omega), show 0 + (u - 0) = u by omega]
      exact hlo u (by omega)
    · rw [if_neg q]
      have q : ¬ 6 ≤ v := fun z => q ((num_le v rfl (by decide) (by omega)).mpr z)
      rw [nI_clamp (n := v) (by omega)]
      obtain ⟨m', r1, r2, r3, r4⟩ := le19 hS hAB hp (fun y1 y2 => F_X7_lengthen_L2 n σ y1 y2) σ m (v := v) (by omega) 9 0 (sa m 45 (upd (m.2.1 45) v (1000 : Int32))) (by omega) (by omega) hm h44 (by rw [sa_at, pk_us]; rfl) (fun u hu => by rw [sa_at, pk_un (by omega)]; exact hlo u hu)
      have r1 : F_X7_lengthen_L19 (fun y1 y2 => F_X7_lengthen_L2 n σ y1 y2) 9 σ (nI v) m 0 (sa m 45 (upd (m.2.1 45) v (1000 : Int32))) = _ := r1
      rw [r1]
      exact le2 hS hAB hp σ n (v + 1) m' (by omega) (by omega) r2 r3 r4
theorem len {A B T : Nat → Nat} {S : Nat} (hS : S ≤ 8) (hAB : ∀ k, k < S → A k < 6 ∧ B k < 6 ∧ T k ≤ 9) {p : Nat → Nat} (hp : ∀ v, v < 6 → p v ≤ 54 ∨ p v = 999) {m : St} (hm : CW m A B T S) (h44 : ∀ v, v < 6 → m.2.1 44 v = nI (kk (p v))) : CW (F_X7_lengthen m) A B T S ∧ ∀ u, u < 6 → (F_X7_lengthen m).2.1 44 u = nI (kk (FD A B T p S u)) :=
  le2 hS hAB hp m 7 0 m (by decide) (by decide) hm h44 (fun u hu => absurd hu (by omega))
/-! the class's loop over the number of stages -/
theorem fw_stop (σ : St) (a3 a4 : Int32) (u4 : St) (n : Nat) (x : Int32) (m : St) (h : ¬ m.1 1378 = ((-9) : Int32)) : F_X7_find_L83_28 n σ a3 a4 u4 x m = m := by
  cases n with
  | zero => rfl
  | succ n =>
    rw [F_X7_find_L83_28]
    by_cases q : m.1 96 ≤ x
    · rw [if_pos q]
    · rw [if_neg q, if_neg h]
theorem nI_n9 {x : Nat} (h : x < 1000) : ¬ nI x = ((-9) : Int32) := fun q => by
  have := congrArg Int32.toInt q
  rw [nI_toInt (by omega), show ((-9) : Int32).toInt = -9 from rfl] at this
  omega
theorem fw {A B T : Nat → Nat} {S g : Nat} (hS : S ≤ 8) (hAB : ∀ k, k < S → A k < 6 ∧ B k < 6 ∧ T k ≤ 9) (σ : St) (a3 a4 : Int32) (u4 : St) {W v : Nat} (hW : W ≤ 6) (hv : v < 6) (hpl : F_X2_placeOf σ a3 = nI v) {room slack : Int32} (hsl : F_X4_bearsOf σ a3 - F_X2_dryOf σ a3 = slack) (hroom : F_X2_cupsOf σ a3 + slack = room) (hr : room.toInt ≤ 900) : ∀ (n x : Nat) (m : St), 1 ≤ x → x ≤ 7 → W < x + n → m.1 96 = nI W → m.2.1 27 = σ.2.1 27 → CW m A B T S → m.1 1378 = ((-9) : Int32) → (∀ v, v < 6 → m.2.1 44 v = nI (kk (DD A B T S g (x - 1) v))) →
  (((F_X7_find_L83_28 n σ a3 a4 u4 (nI x) m).1 1378 = ((-9) : Int32) ∧ (F_X7_find_L83_28 n σ a3 a4 u4 (nI x) m).1 1379 = m.1 1379 ∧ (F_X7_find_L83_28 n σ a3 a4 u4 (nI x) m).1 1380 = m.1 1380 ∧ ∀ y, x ≤ y → y < W → ∀ k, k < S → ¬ ((ovN A B T (DD A B T S g (y - 1)) k v : Nat) : Int) ≤ room.toInt) ∨
   (∃ y k, x ≤ y ∧ y < W ∧ k < S ∧ (F_X7_find_L83_28 n σ a3 a4 u4 (nI x) m).1 1378 = nI y ∧ (F_X7_find_L83_28 n σ a3 a4 u4 (nI x) m).1 1379 = nI k ∧ (F_X7_find_L83_28 n σ a3 a4 u4 (nI x) m).1 1380 = (if (0 : Int32) < nI (T k) - slack then nI (T k) - slack else (0 : Int32)) ∧ ((ovN A B T (DD A B T S g (y - 1)) k v : Nat) : Int) ≤ room.toInt ∧ (∀ j, j < k → ¬ ((ovN A B T (DD A B T S g (y - 1)) j v : Nat) : Int) ≤ room.toInt) ∧ ∀ z, x ≤ z → z < y → ∀ k, k < S → ¬ ((ovN A B T (DD A B T S g (z - 1)) k v : Nat) : Int) ≤ room.toInt))
  | 0, x, m, h1, _, hn, _, _, _, h8, _ => Or.inl ⟨h8, rfl, rfl, fun y h1 h2 => absurd h2 (by omega)⟩
  | n + 1, x, m, h1, h7, hn, h96, h27, hm, h8, h44' => by
    rw [F_X7_find_L83_28, h96]
    by_cases q : nI W ≤ nI x
    · rw [if_pos q]
      have q := (nI_leI (by omega) (by omega)).mp q
      exact Or.inl ⟨h8, rfl, rfl, fun y h1 h2 => absurd h2 (by omega)⟩
    · rcases Nat.lt_or_ge x W with q2 | q2
      · rw [if_neg q, if_pos h8, hpl, hsl, show F_X2_cupsOf m a3 = F_X2_cupsOf σ a3 by unfold F_X2_cupsOf; rw [h27], hroom]
        have hp : ∀ v, v < 6 → DD A B T S g (x - 1) v ≤ 54 ∨ DD A B T S g (x - 1) v = 999 := fun v _ => by
          have := DD_b (A := A) (B := B) (g := g) (fun k hk => (hAB k hk).2.2) (x - 1) v (by omega)
          omega
        have nx : DD A B T S g (x + 1 - 1) = FD A B T (DD A B T S g (x - 1)) S := by
          rw [show x + 1 - 1 = (x - 1) + 1 by omega]; rfl
        rcases fo hS hAB hm hp h44' hv hr 9 0 (by omega) (by omega) with ⟨r1, r2⟩ | ⟨k, r1, r2, r3, r4, r5⟩
        · have r1 : F_X7_firstOnto m (nI v) room = ((-9) : Int32) := r1
          rw [r1]
          unfold F_X7_find_k113_32 F_X7_find_k156_35
          rw [if_pos rfl, nI_1]
          obtain ⟨l1, l2⟩ := len hS hAB hp hm h44'
          have fr := fr_F_X7_lengthen m
          have e6 : (F_X7_lengthen m).1 96 = nI W := (fr.1 96 (by decide)).trans h96
          have e8 : (F_X7_lengthen m).1 1378 = ((-9) : Int32) := (fr.1 1378 (by decide)).trans h8
          have e27 : (F_X7_lengthen m).2.1 27 = σ.2.1 27 := (fr.2.1 27 (by decide)).trans h27
          have e9 := fr.1 1379 (by decide)
          have e0 := fr.1 1380 (by decide)
          generalize F_X7_lengthen m = m' at *
          rcases fw (g := g) hS hAB σ a3 a4 u4 hW hv hpl hsl hroom hr n (x + 1) m' (by omega) (by omega) (by omega) e6 e27 l1 e8 (by rw [nx]; exact l2) with ⟨s1, s2, s3, s4⟩ | ⟨y, k, s1, s2, s3, s4, s5, s6, s7, s8, s9⟩
          · refine Or.inl ⟨s1, s2.trans e9, s3.trans e0, fun y h1 h2 => ?_⟩
            by_cases e : y = x
            · subst e; exact fun k hk => r2 k (by omega) hk
            · exact s4 y (by omega) h2
          · refine Or.inr ⟨y, k, by omega, s2, s3, s4, s5, s6, s7, s8, fun z h1 h2 => ?_⟩
            by_cases e : z = x
            · subst e; exact fun k hk => r2 k (by omega) hk
            · exact s9 z (by omega) h2
        · have r3 : F_X7_firstOnto m (nI v) room = nI k := r3
          rw [r3]
          unfold F_X7_find_k113_32 F_X7_find_k156_37
          rw [if_neg (nI_n9 (by omega)), hsl]
          have hs : ¬ F_X4_hasStage m (nI k) = 0 := by
            unfold F_X4_hasStage
            rw [hm.1]
            have i1 := nI_toInt (n := S) (by omega)
            have i2 := nI_toInt (n := k) (by omega)
            exact fun e => (has_ge (x := nI k) (m := nI S) (N := 8) (n := 8) rfl ⟨by omega, by omega⟩).mp e ⟨by omega, by omega⟩
          have he : F_X4_heatOf (si (si m 1378 (nI x)) 1379 (nI k)) (nI k) = nI (T k) := by
            show (if F_X4_hasStage m (nI k) = 0 then (0 : Int32) else m.2.1 7 (nI k).toNatClampNeg) = nI (T k)
            rw [if_neg hs, nI_clamp (by omega), (hm.2 k r2).2.2]
          rw [he]
          obtain ⟨M, eM⟩ : ∃ M, M = (si (si (si m 1378 (nI x)) 1379 (nI k)) 1380 (if (0 : Int32) < nI (T k) - slack then nI (T k) - slack else (0 : Int32))) := ⟨_, rfl⟩
          rw [← eM]
          have fr := fr_F_X7_lengthen M
          have e8 : (F_X7_lengthen M).1 1378 = nI x := (fr.1 1378 (by decide)).trans (by rw [eM]; rfl)
          have e9 : (F_X7_lengthen M).1 1379 = nI k := (fr.1 1379 (by decide)).trans (by rw [eM]; rfl)
          have e0 : (F_X7_lengthen M).1 1380 = (if (0 : Int32) < nI (T k) - slack then nI (T k) - slack else (0 : Int32)) := (fr.1 1380 (by decide)).trans (by rw [eM]; rfl)
          have st := fw_stop σ a3 a4 u4 n (nI x + 1) (F_X7_lengthen M) (by rw [e8]; exact nI_n9 (by omega))
          simp only [st]
          exact Or.inr ⟨x, k, Nat.le_refl _, q2, r2, e8, e9, e0, r4, fun j hj => r5 j (by omega) hj, fun z h1 h2 => absurd h2 (by omega)⟩
      · exact absurd ((nI_leI (by omega) (by omega)).mpr q2) q
