/-! ===== road: one token, read by both ===== -/
def TXm (m : St) (N : Nat) (c : Nat → Nat) : Prop := m.1 33 = nI N ∧ ∀ k, k < N → m.2.1 2 k = nI (c k)
def TXt (t : St) (N : Nat) (c : Nat → Nat) : Prop := t.1 1538 = nI N ∧ ∀ k, k < N → t.2.1 49 k = nI (c k)
theorem eor {N : Nat} {c : Nat → Nat} (hN : N ≤ 200) (hc : ∀ k, c k ≤ 255) {m : St} (hm : TXm m N c) (a1 : Int32) {lo hi : Nat} (hl : lo ≤ 255) (hh : hi ≤ 255) : ∀ n x : Nat, x ≤ N → N < x + n → ∃ e, F_X6_endOfRow_L7 n m a1 (nI lo) (nI hi) (nI x) = nI e ∧ x ≤ e ∧ e ≤ N ∧ (∀ k, x ≤ k → k < e → lo ≤ c k ∧ c k ≤ hi) ∧ (e < N → ¬ (lo ≤ c e ∧ c e ≤ hi))
  | 0, x, hx, hn => absurd hn (by omega)
  | n + 1, x, hx, hn => by
    rw [F_X6_endOfRow_L7, hm.1]
    by_cases q : nI N ≤ nI x
    · rw [if_pos q]
      have q := (nI_leI (by omega) (by omega)).mp q
      exact ⟨x, rfl, Nat.le_refl _, hx, fun k h1 h2 => absurd h2 (by omega), fun h => absurd h (by omega)⟩
    · rw [if_neg q]
      have q : ¬ N ≤ x := fun z => q ((nI_leI (by omega) (by omega)).mpr z)
      rw [if_neg (show ¬ (200 : Int32) ≤ nI x from fun z => by have : 200 ≤ x := (num_le x rfl (by decide) (by omega)).mp z; omega), nI_clamp (n := x) (by omega), hm.2 x (by omega)]
      have cx := hc x
      have i1 := nI_toInt (n := c x) (by omega)
      have i2 := nI_toInt (n := lo) (by omega)
      have i3 := nI_toInt (n := hi) (by omega)
      by_cases c1 : nI (c x) < nI lo
      · rw [if_pos c1]
        have c1 := i_lt c1
        exact ⟨x, rfl, Nat.le_refl _, hx, fun k h1 h2 => absurd h2 (by omega), fun _ z => by omega⟩
      · rw [if_neg c1]
        have c1 := i_nlt c1
        by_cases c2 : nI hi < nI (c x)
        · rw [if_pos c2]
          have c2 := i_lt c2
          exact ⟨x, rfl, Nat.le_refl _, hx, fun k h1 h2 => absurd h2 (by omega), fun _ z => by omega⟩
        · rw [if_neg c2, nI_1]
          have c2 := i_nlt c2
          obtain ⟨e, e1, e2, e3, e4, e5⟩ := eor hN hc hm a1 hl hh n (x + 1) (by omega) (by omega)
          refine ⟨e, e1, by omega, e3, fun k h1 h2 => ?_, e5⟩
          by_cases z : k = x
          · subst z; exact ⟨by omega, by omega⟩
          · exact e4 k (by omega) h2
theorem eor' {N : Nat} {c : Nat → Nat} (hN : N ≤ 200) (hc : ∀ k, c k ≤ 255) {m : St} (hm : TXm m N c) {lo hi : Nat} (hl : lo ≤ 255) (hh : hi ≤ 255) {x : Nat} (hx : x ≤ N) : ∃ e, F_X6_endOfRow m (nI x) (nI lo) (nI hi) = nI e ∧ x ≤ e ∧ e ≤ N ∧ (∀ k, x ≤ k → k < e → lo ≤ c k ∧ c k ≤ hi) ∧ (e < N → ¬ (lo ≤ c e ∧ c e ≤ hi)) := by
  unfold F_X6_endOfRow
  have e0 : (if (0 : Int32) < nI x then nI x else (0 : Int32)) = nI x := by
    by_cases z : (0 : Int32) < nI x
    · rw [if_pos z]
    · rw [if_neg z]
      have z := i_nlt z
      rw [z32, nI_toInt (by omega)] at z
      have : x = 0 := by omega
      rw [this]; rfl
  rw [e0]
  exact eor hN hc hm (nI x) hl hh 201 x hx (by omega)
theorem la {N : Nat} {c : Nat → Nat} (hN : N ≤ 200) {t : St} (ht : TXt t N c) {x : Nat} (hx : x ≤ N) : F_X9_letterAt t (nI x) = (if x < N then nI (c x) else ((-1) : Int32)) := by
  unfold F_X9_letterAt
  rw [ht.1]
  by_cases q : x < N
  · rw [if_pos q, if_neg (fun z => by have := (nI_leI (by omega) (by omega)).mp z; omega), nI_clamp (by omega), ht.2 x q]
  · rw [if_neg q, if_pos ((nI_leI (by omega) (by omega)).mpr (by omega))]
theorem inb {lo hi v : Nat} (hl : lo ≤ 1000) (hh : hi ≤ 1000) (hv : v ≤ 1000) : F_X9_in (nI v) (nI lo) (nI hi) = 0 ↔ ¬ (lo ≤ v ∧ v ≤ hi) := by
  have i1 := nI_toInt (n := lo) (by omega)
  have i2 := nI_toInt (n := hi) (by omega)
  have i3 := nI_toInt (n := v) (by omega)
  unfold F_X9_in
  by_cases c1 : nI v < nI lo
  · rw [if_pos c1]
    have := i_lt c1
    exact ⟨fun _ => by omega, fun _ => rfl⟩
  · rw [if_neg c1]
    have := i_nlt c1
    by_cases c2 : nI hi < nI v
    · rw [if_pos c2]
      have := i_lt c2
      exact ⟨fun _ => by omega, fun _ => rfl⟩
    · rw [if_neg c2]
      have := i_nlt c2
      exact ⟨fun z => absurd z (by decide), fun z => by omega⟩
theorem TXt.fr {N : Nat} {c : Nat → Nat} {t t' : St} (h : TXt t N c) {I : List Nat} (hI : 1538 ∉ I) (f : Fr I [] false t t') : TXt t' N c := by
  unfold TXt at *
  rw [f.1 1538 hI, f.2.1 49 (by decide)]
  exact h
section TOK
variable {N : Nat} {c : Nat → Nat} {τ : St}
theorem t_sp (hN : N ≤ 200) (hc : ∀ k, c k ≤ 255) {e : Nat} (he : e ≤ N) (hs : e < N → ¬ (32 ≤ c e ∧ c e ≤ 32)) : ∀ (n x : Nat) (t : St), x ≤ e → e < x + n → TXt t N c → t.1 1547 = nI x → (∀ k, x ≤ k → k < e → 32 ≤ c k ∧ c k ≤ 32) → ∃ n' t', F_X9_token_L0 n τ t = F_X9_token_L0 (n' + 1) τ t' ∧ Fr [1547] [] false t t' ∧ t'.1 1547 = nI e
  | 0, x, t, hx, hn, _, _, _ => absurd hn (by omega)
  | n + 1, x, t, hx, hn, ht, h7, hk => by
    by_cases z : x = e
    · subst z
      exact ⟨n, t, rfl, Fr.rf, h7⟩
    · have q := hk x (Nat.le_refl _) (by omega)
      have e32 : c x = 32 := by omega
      rw [F_X9_token_L0, h7, la hN ht (by omega), if_pos (show x < N by omega), e32, if_pos (show nI 32 = (32 : Int32) from rfl), nI_1]
      obtain ⟨n', t', r1, r2, r3⟩ := t_sp hN hc he hs n (x + 1) (si t 1547 (nI (x + 1))) (by omega) (by omega) (ht.fr (I := [1547]) (by decide) (Fr.si (by decide) Fr.rf)) rfl (fun k h1 h2 => hk k (by omega) h2)
      exact ⟨n', t', r1, Fr.tr (Fr.si (by decide) Fr.rf) r2, r3⟩
theorem t_le (hN : N ≤ 200) (hc : ∀ k, c k ≤ 255) {e : Nat} (he : e ≤ N) (hs : e < N → ¬ (97 ≤ c e ∧ c e ≤ 122)) (lf0 : St → St) (m0 : St) : ∀ (n x : Nat) (t : St), x ≤ e → e < x + n → TXt t N c → t.1 1547 = nI x → t.1 1548 = 1 → (∀ k, x ≤ k → k < e → 97 ≤ c k ∧ c k ≤ 122) → ∃ t', F_X9_token_L114 lf0 n τ m0 t = t' ∧ Fr [1547, 1550] [] false t t' ∧ t'.1 1547 = nI e ∧ t'.1 1550 = (if x = e then t.1 1550 else 0)
  | 0, x, t, hx, hn, _, _, _, _ => absurd hn (by omega)
  | n + 1, x, t, hx, hn, ht, h7, h8, hk => by
    rw [F_X9_token_L114, if_pos h8, h7, la hN ht (by omega)]
    by_cases z : x = e
    · subst z
      have l0 : F_X9_isLetter (if x < N then nI (c x) else ((-1) : Int32)) = 0 := by
        by_cases y : x < N
        · rw [if_pos y]
          exact (inb (lo := 97) (hi := 122) (by decide) (by decide) (by have := hc x; omega)).mpr (hs y)
        · rw [if_neg y]; decide
      rw [l0, if_pos rfl]
      unfold F_X9_token_J154
      rw [h8, if_neg (show ¬ (1 : Int32) = 2 by decide)]
      exact ⟨t, rfl, Fr.rf, h7, by rw [if_pos rfl]⟩
    · have q := hk x (Nat.le_refl _) (by omega)
      have l1 : ¬ F_X9_isLetter (nI (c x)) = 0 := fun y => (inb (lo := 97) (hi := 122) (by decide) (by decide) (by have := hc x; omega)).mp y q
      rw [if_pos (show x < N by omega), if_neg l1, nI_1]
      obtain ⟨t', r1, r2, r3, r4⟩ := t_le hN hc he hs lf0 m0 n (x + 1) (si (si t 1550 0) 1547 (nI (x + 1))) (by omega) (by omega) (ht.fr (I := [1547, 1550]) (by decide) (Fr.si (by decide) (Fr.si (by decide) Fr.rf))) rfl h8 (fun k h1 h2 => hk k (by omega) h2)
      refine ⟨t', r1, Fr.tr (Fr.si (by decide) (Fr.si (by decide) Fr.rf)) r2, r3, ?_⟩
      rw [r4, if_neg z]
      show (if x + 1 = e then (0 : Int32) else 0) = 0
      split <;> rfl
def NV (c : Nat → Nat) (s x v V : Nat) : Prop := v ≤ 100 ∧ V ≤ 1000 ∧ ((c s = 48 ∧ ((x = s + 1 ∧ V = 0 ∧ v = 0) ∨ (s + 1 < x ∧ V = 1000))) ∨ (¬ c s = 48 ∧ ((v = V ∧ V ≤ 99) ∨ (v = 100 ∧ 100 ≤ V))))
theorem NV.st {s x v V : Nat} (h : NV c s x v V) (hx : s < x) (q : 48 ≤ c x ∧ c x ≤ 57) : NV c s (x + 1) (if v * 10 + c x - 48 < 100 then v * 10 + c x - 48 else 100) (if c s = 48 then 1000 else if V ≤ 99 then 10 * V + c x - 48 else 1000) := by
  obtain ⟨h1, h2, h3⟩ := h
  refine ⟨by split <;> omega, by split <;> (try split) <;> omega, ?_⟩
  rcases h3 with ⟨a, b⟩ | ⟨a, b⟩
  · refine Or.inl ⟨a, Or.inr ⟨by omega, ?_⟩⟩
    rw [if_pos a]
  · refine Or.inr ⟨a, ?_⟩
    rw [if_neg a]
    rcases b with ⟨b1, b2⟩ | ⟨b1, b2⟩
    · subst b1
      rw [if_pos b2]
      by_cases z : v * 10 + c x - 48 < 100
      · rw [if_pos z]; exact Or.inl ⟨by omega, by omega⟩
      · rw [if_neg z]; exact Or.inr ⟨rfl, by omega⟩
    · rw [if_neg (show ¬ V ≤ 99 by omega), if_neg (by omega)]
      exact Or.inr ⟨rfl, by omega⟩
theorem t_di (hN : N ≤ 200) (hc : ∀ k, c k ≤ 255) {s e : Nat} (hse : s < e) (he : e ≤ N) (hs : e < N → ¬ (48 ≤ c e ∧ c e ≤ 57)) (lf0 lf114 : St → St) {m0 m114 : St} (h0 : F_X9_letterAt (si m0 1549 (m0.1 1547)) (m0.1 1547) = nI (c s)) (σ : St) {a1 : Int32} (ha : a1 = if c s = 48 then (1 : Int32) else 0) : ∀ (n n2 x v V : Nat) (t m : St), s < x → x ≤ e → e < x + n → e < x + n2 → TXt t N c → TXm m N c → t.1 1547 = nI x → t.1 1550 = nI V → m.1 37 = nI v → m.1 34 = nI e → m.1 36 = nI s → NV c s x v V → (∀ k, x ≤ k → k < e → 48 ≤ c k ∧ c k ≤ 57) →
  (F_X9_token_L170 lf0 lf114 n τ m0 m114 t).1 1547 = nI e ∧ Fr [1547, 1550] [] false t (F_X9_token_L170 lf0 lf114 n τ m0 m114 t) ∧ Fr [35, 37] [] false m (F_X6_readNumber_L5 n2 σ a1 (nI x) m) ∧ ∃ v' V', v' ≤ 100 ∧ V' ≤ 1000 ∧ (F_X9_token_L170 lf0 lf114 n τ m0 m114 t).1 1550 = nI V' ∧ (F_X6_readNumber_L5 n2 σ a1 (nI x) m).1 37 = nI v' ∧ (((F_X6_readNumber_L5 n2 σ a1 (nI x) m).1 35 = 2 ∧ v' = V' ∧ V' ≤ 99) ∨ ((F_X6_readNumber_L5 n2 σ a1 (nI x) m).1 35 = 4 ∧ 99 < V'))
  | 0, n2, x, v, V, t, m, _, hx, hn, _, _, _, _, _, _, _, _, _, _ => absurd hn (by omega)
  | n + 1, 0, x, v, V, t, m, _, hx, hn, hn2, _, _, _, _, _, _, _, _, _ => absurd hn2 (by omega)
  | n + 1, n2 + 1, x, v, V, t, m, hsx, hx, hn, hn2, ht, hm, h7, hV, hv, h34, h36, nv, hk => by
    rw [F_X9_token_L170, F_X6_readNumber_L5, h7, la hN ht (by omega), h34]
    have b1 := nv.1
    have b2 := nv.2.1
    by_cases z : x = e
    · subst z
      have l0 : F_X9_isDigit (if x < N then nI (c x) else ((-1) : Int32)) = 0 := by
        by_cases y : x < N
        · rw [if_pos y]
          exact (inb (lo := 48) (hi := 57) (by decide) (by decide) (by have := hc x; omega)).mpr (hs y)
        · rw [if_neg y]; decide
      rw [if_pos l0, if_pos ((nI_leI (by omega) (by omega)).mpr (Nat.le_refl _)), hv, h36]
      have iv := nI_toInt (n := v) (by omega)
      have e99 : (99 : Int32).toInt = 99 := rfl
      have ie := nI_toInt (n := x) (by omega)
      have is := nI_toInt (n := s) (by omega)
      have isub : (nI x - nI s).toInt = (x : Int) - s := by
        rw [← ie, ← is]
        exact ti_of (oI_sub (oI_at _) (oI_at _)) (by omega)
      have e1 : (1 : Int32).toInt = 1 := rfl
      refine ⟨h7, Fr.rf, fr_ite1 (Fr.si (by decide) Fr.rf) (fr_ite1 (Fr.si (by decide) Fr.rf) (fr_ite1 (Fr.si (by decide) Fr.rf) (Fr.si (by decide) Fr.rf))), v, V, b1, b2, hV, ?_, ?_⟩
      · have r : ∀ k : Int32, (si m 35 k).1 37 = nI v := fun k => hv
        by_cases c1 : (99 : Int32) < nI v
        · rw [if_pos c1]; exact r _
        · rw [if_neg c1]
          by_cases c2 : a1 = 0
          · rw [if_pos c2]; exact r _
          · rw [if_neg c2]
            by_cases c3 : nI x - nI s ≤ 1
            · rw [if_pos c3]; exact r _
            · rw [if_neg c3]; exact r _
      · have r : ∀ k : Int32, (si m 35 k).1 35 = k := fun k => rfl
        obtain ⟨_, _, h3⟩ := nv
        by_cases c1 : (99 : Int32) < nI v
        · rw [if_pos c1]
          have c1 := i_lt c1
          refine Or.inr ⟨r _, ?_⟩
          omega
        · rw [if_neg c1]
          have c1 := i_nlt c1
          by_cases c4 : c s = 48
          · rw [ha, if_pos c4, if_neg (show ¬ (1 : Int32) = 0 by decide)]
            by_cases c3 : nI x - nI s ≤ 1
            · rw [if_pos c3]
              have c3 := i_le c3
              exact Or.inl ⟨r _, by omega, by omega⟩
            · rw [if_neg c3]
              have c3 := i_nle c3
              exact Or.inr ⟨r _, by omega⟩
          · rw [ha, if_neg c4, if_pos rfl]
            exact Or.inl ⟨r _, by omega, by omega⟩
    · have q := hk x (Nat.le_refl _) (by omega)
      have l1 : ¬ F_X9_isDigit (nI (c x)) = 0 := fun y => (inb (lo := 48) (hi := 57) (by decide) (by decide) (by have := hc x; omega)).mp y q
      rw [if_pos (show x < N by omega), if_neg l1, if_neg (show ¬ nI e ≤ nI x from fun y => by have := (nI_leI (by omega) (by omega)).mp y; omega), if_neg (show ¬ (200 : Int32) ≤ nI x from fun y => by have : 200 ≤ x := (num_le x rfl (by decide) (by omega)).mp y; omega), nI_1, nI_clamp (n := x) (by omega), h0, hV, hv, ht.2 x (by omega), hm.2 x (by omega)]
      have cs : (nI (c s) = (48 : Int32)) ↔ c s = 48 := nI_eq (a := c s) (b := 48) (by have := hc s; omega) (by decide)
      have e1 : (if nI (c s) = (48 : Int32) then (1000 : Int32) else (if nI V ≤ (99 : Int32) then ((((10 : Int32) * nI V) + nI (c x)) - (48 : Int32)) else (1000 : Int32))) = nI (if c s = 48 then 1000 else if V ≤ 99 then 10 * V + c x - 48 else 1000) := by
        by_cases y : c s = 48
        · rw [if_pos y, if_pos (cs.mpr y)]; rfl
        · rw [if_neg y, if_neg (fun z => y (cs.mp z))]
          by_cases w : V ≤ 99
          · rw [if_pos w, if_pos (show nI V ≤ (99 : Int32) from (nI_leI (a := V) (b := 99) (by omega) (by decide)).mpr w)]
            apply i32e
            rw [nI_toInt (by omega)]
            have i1 := nI_toInt (n := V) (by omega)
            have i2 := nI_toInt (n := c x) (by omega)
            rw [ti_of (oI_sub (oI_add (oI_mul (oI_lit (x := 10) (a := 10) rfl) (oI_at (nI V))) (oI_at (nI (c x)))) (oI_lit (x := 48) (a := 48) rfl)) (by omega)]
            omega
          · rw [if_neg w, if_neg (show ¬ nI V ≤ (99 : Int32) from fun y => w ((nI_leI (a := V) (b := 99) (by omega) (by decide)).mp y))]; rfl
      have e2 : (if (((nI v * (10 : Int32)) + nI (c x)) - (48 : Int32)) < (100 : Int32) then (((nI v * (10 : Int32)) + nI (c x)) - (48 : Int32)) else (100 : Int32)) = nI (if v * 10 + c x - 48 < 100 then v * 10 + c x - 48 else 100) := by
        have e0 : ((nI v * (10 : Int32)) + nI (c x)) - (48 : Int32) = nI (v * 10 + c x - 48) := by
          apply i32e
          rw [nI_toInt (by omega)]
          have i1 := nI_toInt (n := v) (by omega)
          have i2 := nI_toInt (n := c x) (by omega)
          rw [ti_of (oI_sub (oI_add (oI_mul (oI_at (nI v)) (oI_lit (x := 10) (a := 10) rfl)) (oI_at (nI (c x)))) (oI_lit (x := 48) (a := 48) rfl)) (by omega)]
          omega
        rw [e0]
        have i3 := nI_toInt (n := v * 10 + c x - 48) (by omega)
        have i4 : (100 : Int32).toInt = 100 := rfl
        by_cases y : v * 10 + c x - 48 < 100
        · rw [if_pos y, if_pos (Int32.lt_iff_toInt_lt.mpr (by omega))]
        · rw [if_neg y, if_neg (fun z => by have := i_lt z; omega)]; rfl
      rw [e1, e2]
      obtain ⟨r1, r2, r3, r4⟩ := t_di hN hc hse he hs lf0 lf114 h0 σ ha n n2 (x + 1) _ _ (si (si t 1550 (nI (if c s = 48 then 1000 else if V ≤ 99 then 10 * V + c x - 48 else 1000))) 1547 (nI (x + 1))) (si m 37 (nI (if v * 10 + c x - 48 < 100 then v * 10 + c x - 48 else 100))) (by omega) (by omega) (by omega) (by omega) (ht.fr (I := [1547, 1550]) (by decide) (Fr.si (by decide) (Fr.si (by decide) Fr.rf))) hm rfl rfl rfl h34 h36 (nv.st hsx q) (fun k h1 h2 => hk k (by omega) h2)
      exact ⟨r1, Fr.tr (Fr.si (by decide) (Fr.si (by decide) Fr.rf)) r2, Fr.tr (Fr.si (by decide) Fr.rf) r3, r4⟩
end TOK
