/-! ===== safe ===== -/
theorem nI_mul (a b : Nat) : nI a * nI b = nI (a * b) := (Int32.ofNat_mul a b).symm
def CH (X H M : Nat) : Nat → Int → Nat
  | 0, s => if 0 ≤ s then 1 else 0
  | n + 1, s => if 0 ≤ s then X * CH X H M n (s - H - M) + (10 - X) * CH X H M n (s - H) else 0
theorem CH_le (X H M : Nat) (hX : X ≤ 10) : ∀ (n : Nat) (s : Int), CH X H M n s ≤ 10 ^ n
  | 0, s => by
    unfold CH
    split <;> decide
  | n + 1, s => by
    unfold CH
    split
    · have h1 := Nat.mul_le_mul_left X (CH_le X H M hX n (s - H - M))
      have h2 := Nat.mul_le_mul_left (10 - X) (CH_le X H M hX n (s - H))
      rw [Nat.pow_succ]
      have h3 : X * 10 ^ n + (10 - X) * 10 ^ n = 10 ^ n * 10 := by
        rw [← Nat.add_mul, show X + (10 - X) = 10 by omega, Nat.mul_comm]
      omega
    · exact Nat.zero_le _
theorem sub10 {X : Nat} (hX : X ≤ 10) : (10 : Int32) - nI X = nI (10 - X) := by
  refine i32e ?_
  rw [ti_of (oI_sub (oI_lit (x := 10) (a := 10) rfl) (oI_at (nI X))) (by rw [nI_toInt (by omega)]; omega), nI_toInt (by omega), nI_toInt (by omega)]
  omega
theorem ch_eq (X H M : Nat) (hX : X ≤ 10) (hH : H ≤ 9) (hM : M ≤ 9) : ∀ (d n : Nat) (s : Int32), n < d → n ≤ 6 → -1000 + 18 * n ≤ s.toInt → s.toInt ≤ 1000 → F_X8_chancesAlive d (nI n) s (nI H) (nI M) (nI X) = nI (CH X H M n s.toInt)
  | 0, n, s, h, _, _, _ => absurd h (by omega)
  | d + 1, n, s, h, h6, hl, hu => by
    show F_X8_chancesAlive_B (F_X8_chancesAlive d) (nI n) s (nI H) (nI M) (nI X) = _
    unfold F_X8_chancesAlive_B
    have eH := nI_toInt (n := H) (by omega)
    have eM := nI_toInt (n := M) (by omega)
    by_cases c : 0 ≤ s
    · rw [if_pos c]
      have c' := i_le c
      rw [z32] at c'
      match n, h, h6, hl with
      | 0, h, h6, hl =>
        rw [if_neg (by decide)]
        unfold CH
        rw [if_pos c']
        rfl
      | n + 1, h, h6, hl =>
        have e1 : (s - nI H).toInt = s.toInt - H := by rw [ti_of (oI_sub (oI_at s) (oI_at (nI H))) (by omega), eH]
        have e2 : ((s - nI H) - nI M).toInt = s.toInt - H - M := by rw [ti_of (oI_sub (oI_at (s - nI H)) (oI_at (nI M))) (by omega), e1, eM]
        have en : nI (n + 1) - (1 : Int32) = nI n := nI_pred n
        rw [if_pos (Int32.lt_iff_toInt_lt.mpr (by rw [z32, nI_toInt (by omega)]; omega))]
        unfold F_X8_chancesAlive_k26_6 F_X8_chancesAlive_k45_10
        rw [en, ch_eq X H M hX hH hM d n ((s - nI H) - nI M) (by omega) (by omega) (by rw [e2]; omega) (by rw [e2]; omega), ch_eq X H M hX hH hM d n (s - nI H) (by omega) (by omega) (by rw [e1]; omega) (by rw [e1]; omega), e1, e2, sub10 hX, nI_mul, nI_mul, nI_add]
        rw [CH.eq_2, if_pos c']
    · rw [if_neg c]
      have c' := i_nle c
      rw [z32] at c'
      match n with
      | 0 => unfold CH; rw [if_neg (by omega)]; rfl
      | n + 1 => rw [CH.eq_2, if_neg (by omega)]; rfl
def its (X s : Nat) : Nat → Nat
  | 0 => 1
  | n + 1 => its X s n * (if s.testBit n then X else 10 - X)
def thr (H M s : Nat) : Nat → Nat
  | 0 => 0
  | n + 1 => thr H M s n + (if s.testBit n then H + M else H)
def SW (X H M b n t : Nat) : Nat → Nat
  | 0 => 0
  | m + 1 => SW X H M b n t m + (if t + thr H M m n ≤ b then its X m n else 0)
theorem thr_le {H M : Nat} (hH : H ≤ 9) (hM : M ≤ 9) (s : Nat) : ∀ n, thr H M s n ≤ 18 * n
  | 0 => Nat.le_refl _
  | n + 1 => by
    have := thr_le hH hM s n
    unfold thr
    split <;> omega
theorem its_cg (X : Nat) {s s' : Nat} : ∀ n, (∀ k, k < n → s.testBit k = s'.testBit k) → its X s n = its X s' n
  | 0, _ => rfl
  | n + 1, h => by
    unfold its
    rw [its_cg X n (fun k hk => h k (by omega)), h n (by omega)]
theorem thr_cg (H M : Nat) {s s' : Nat} : ∀ n, (∀ k, k < n → s.testBit k = s'.testBit k) → thr H M s n = thr H M s' n
  | 0, _ => rfl
  | n + 1, h => by
    unfold thr
    rw [thr_cg H M n (fun k hk => h k (by omega)), h n (by omega)]
theorem SW_lo (X H M b n t : Nat) : ∀ m, m ≤ 2 ^ n → SW X H M b (n + 1) t m = (10 - X) * SW X H M b n (t + H) m
  | 0, _ => rfl
  | m + 1, hm => by
    have hb : m.testBit n = false := Nat.testBit_lt_two_pow (by omega)
    rw [SW, SW, SW_lo X H M b n t m (by omega), Nat.mul_add]
    congr 1
    have e1 : thr H M m (n + 1) = thr H M m n + H := by rw [thr.eq_2, hb]; rfl
    have e2 : its X m (n + 1) = its X m n * (10 - X) := by rw [its.eq_2, hb]; rfl
    rw [e1, e2, show t + (thr H M m n + H) = t + H + thr H M m n by omega]
    split
    · rw [Nat.mul_comm]
    · rfl
theorem SW_hi (X H M b n t : Nat) : ∀ m, m ≤ 2 ^ n → SW X H M b (n + 1) t (2 ^ n + m) = SW X H M b (n + 1) t (2 ^ n) + X * SW X H M b n (t + H + M) m
  | 0, _ => by rw [SW.eq_1, Nat.mul_zero]; rfl
  | m + 1, hm => by
    have hlow : ∀ k, k < n → (2 ^ n + m).testBit k = m.testBit k := fun k hk => Nat.testBit_two_pow_add_gt hk m
    have hb : (2 ^ n + m).testBit n = true := by rw [Nat.testBit_two_pow_add_eq, Nat.testBit_lt_two_pow (show m < 2 ^ n by omega)]; rfl
    rw [show 2 ^ n + (m + 1) = (2 ^ n + m) + 1 by omega, SW.eq_2, SW_hi X H M b n t m (by omega), SW.eq_2 X H M b n (t + H + M) m, Nat.mul_add, Nat.add_assoc]
    congr 2
    have e1 : thr H M (2 ^ n + m) (n + 1) = thr H M m n + (H + M) := by rw [thr.eq_2, hb, thr_cg H M n hlow]; rfl
    have e2 : its X (2 ^ n + m) (n + 1) = its X m n * X := by rw [its.eq_2, hb, its_cg X n hlow]; rfl
    rw [e1, e2, show t + (thr H M m n + (H + M)) = t + H + M + thr H M m n by omega]
    split
    · rw [Nat.mul_comm]
    · rfl
theorem SW_0 (X H M b n t : Nat) (h : b < t) : ∀ m, SW X H M b n t m = 0
  | 0 => rfl
  | m + 1 => by rw [SW, SW_0 X H M b n t h m, if_neg (by omega)]
theorem CH_SW (X H M b : Nat) : ∀ (n t : Nat), CH X H M n ((b : Int) - t) = SW X H M b n t (2 ^ n)
  | 0, t => by
    show CH X H M 0 ((b : Int) - t) = SW X H M b 0 t (0 + 1)
    rw [SW.eq_2, SW.eq_1]
    unfold CH thr its
    by_cases c : t ≤ b
    · rw [if_pos (by omega), if_pos (by omega)]
    · rw [if_neg (by omega), if_neg (by omega)]
  | n + 1, t => by
    rw [CH.eq_2]
    by_cases c : t ≤ b
    · rw [if_pos (by omega), show (b : Int) - t - H - M = (b : Int) - ((t + H + M : Nat) : Int) by omega, show (b : Int) - t - H = (b : Int) - ((t + H : Nat) : Int) by omega, CH_SW X H M b n (t + H + M), CH_SW X H M b n (t + H), show (2 : Nat) ^ (n + 1) = 2 ^ n + 2 ^ n by rw [Nat.pow_succ]; omega, SW_hi X H M b n t (2 ^ n) (Nat.le_refl _), SW_lo X H M b n t (2 ^ n) (Nat.le_refl _), Nat.add_comm]
    · rw [if_neg (by omega), SW_0 X H M b (n + 1) t (by omega)]
theorem bit_tab : ∀ s, s < 64 → ∀ k, k < 6 → F_X9_has (nI s) (nI k) = (if s.testBit k then (1 : Int32) else 0) := by decide +kernel
theorem sh_tab : ∀ n, n < 7 → ((1 : Int32) <<< (nI n &&& 31)) = nI (2 ^ n) := by decide +kernel
section SF
variable (τ : St) (a1 a6 : Int32) (X H M N b d : Nat) (hX : X ≤ 10) (hH : H ≤ 9) (hM : M ≤ 9) (hN : N ≤ 6) (hb : b ≤ 100) (hd : d ≤ 100) (eb : (τ.2.1 50) ((50 : Int32) + a1).toNatClampNeg = nI b) (ed : (τ.2.1 53) ((8 : Int32) + a1).toNatClampNeg = nI d)
theorem sf131 (hX : X ≤ 10) (hH : H ≤ 9) (hM : M ≤ 9) (hN : N ≤ 6) (hb : b ≤ 100) (hd : d ≤ 100) (eb : (τ.2.1 50) ((50 : Int32) + a1).toNatClampNeg = nI b) (lf82 lf105 : Int32 → Int32 → Int32) (x9 x8 : Int32) (s : Nat) (hs : s < 64) (A : Int32) : ∀ (n k : Nat), k ≤ N → N < k + n → F_X9_safe_L131 lf82 lf105 n τ a1 (nI H) (nI M) (nI N) (nI X) a6 x9 x8 (nI s) A (nI k) (nI (d + thr H M s k)) (nI (its X s k)) = lf105 (nI (s + 1)) (A + nI (if d + thr H M s N ≤ b then its X s N else 0))
  | 0, k, hk, hn => absurd hn (by omega)
  | n + 1, k, hk, hn => by
    have tl := thr_le hH hM s N
    rw [F_X9_safe_L131]
    by_cases q : nI N ≤ nI k
    · rw [if_pos q]
      have q := (nI_leI (by omega) (by omega)).mp q
      have e : k = N := by omega
      subst e
      rw [nI_1, eb]
      by_cases c : d + thr H M s k ≤ b
      · rw [if_pos c, if_neg (nI_nlt c (by omega))]
      · rw [if_neg c, if_pos (nI_lt (by omega) (by omega))]
        rfl
    · rw [if_neg q]
      have q : ¬ N ≤ k := fun z => q ((nI_leI (by omega) (by omega)).mpr z)
      rw [bit_tab s hs k (by omega), nI_1, sub10 hX]
      have e := sf131 hX hH hM hN hb hd eb lf82 lf105 x9 x8 s hs A n (k + 1) (by omega) (by omega)
      rw [← e]
      have e1 : nI (d + thr H M s k) + (if (if s.testBit k then (1 : Int32) else 0) = 0 then nI H else (nI H + nI M)) = nI (d + thr H M s (k + 1)) := by
        rw [thr.eq_2]
        by_cases t : s.testBit k
        · rw [if_pos t, if_neg (by decide), if_pos t, nI_add, nI_add, Nat.add_assoc]
        · rw [if_neg t, if_pos rfl, if_neg t, nI_add, Nat.add_assoc]
      have e2 : nI (its X s k) * (if (if s.testBit k then (1 : Int32) else 0) = 0 then nI (10 - X) else nI X) = nI (its X s (k + 1)) := by
        rw [its.eq_2]
        by_cases t : s.testBit k
        · rw [if_pos t, if_neg (by decide), if_pos t, nI_mul]
        · rw [if_neg t, if_pos rfl, if_neg t, nI_mul]
      rw [e1, e2]
theorem sf230 (lf82 lf105 : Int32 → Int32 → Int32) (a2 a3 a4 a5 x9 x8 y9 x7 : Int32) : ∀ (n a b : Nat), b < n → a < 2 ^ 31 → b < 2 ^ 31 → F_X9_safe_L230 lf82 lf105 n τ a1 a2 a3 a4 a5 a6 x9 x8 y9 x7 (nI b) (nI a) = (if a6 = 0 then x7 / nI (Nat.gcd a b) else x8 / nI (Nat.gcd a b))
  | 0, a, b, hn, _, _ => absurd hn (by omega)
  | n + 1, a, b, hn, ha, hb => by
    rw [F_X9_safe_L230]
    by_cases q : nI b ≤ 0
    · rw [if_pos q]
      have q : b ≤ 0 := (nI_leI (b := 0) hb (by decide)).mp q
      have e : b = 0 := by omega
      subst e
      rw [Nat.gcd_zero_right]
    · rw [if_neg q]
      have q : ¬ b ≤ 0 := fun z => q ((nI_leI (b := 0) hb (by decide)).mpr z)
      have hm := Nat.mod_lt a (show 0 < b by omega)
      rw [pk_rem ha (by omega) hb, sf230 lf82 lf105 a2 a3 a4 a5 x9 x8 y9 x7 n b (a % b) (by omega) hb (by omega)]
      rw [Nat.gcd_comm b (a % b), ← Nat.gcd_rec b a, Nat.gcd_comm b a]
theorem sf105 (hX : X ≤ 10) (hH : H ≤ 9) (hM : M ≤ 9) (hN : N ≤ 6) (hb : b ≤ 100) (hd : d ≤ 100) (eb : (τ.2.1 50) ((50 : Int32) + a1).toNatClampNeg = nI b) (ed : (τ.2.1 53) ((8 : Int32) + a1).toNatClampNeg = nI d) (lf82 : Int32 → Int32 → Int32) (x9 : Int32) (hle : SW X H M b N d (2 ^ N) ≤ 10 ^ N) : ∀ (n m : Nat), m ≤ 2 ^ N → 2 ^ N < m + n → F_X9_safe_L105 lf82 n τ a1 (nI H) (nI M) (nI N) (nI X) a6 x9 (nI (10 ^ N)) (nI m) (nI (SW X H M b N d m)) = (if a6 = 0 then nI (SW X H M b N d (2 ^ N)) / nI (Nat.gcd (SW X H M b N d (2 ^ N)) (10 ^ N)) else nI (10 ^ N) / nI (Nat.gcd (SW X H M b N d (2 ^ N)) (10 ^ N)))
  | 0, m, hm, hn => absurd hn (by omega)
  | n + 1, m, hm, hn => by
    have p2 : 2 ^ N ≤ 64 := by
      have : 2 ^ N ≤ 2 ^ 6 := Nat.pow_le_pow_right (by decide) hN
      exact this
    have p10 : 10 ^ N ≤ 1000000 := by
      have : 10 ^ N ≤ 10 ^ 6 := Nat.pow_le_pow_right (by decide) hN
      exact this
    rw [F_X9_safe_L105, sh_tab N (by omega)]
    by_cases q : nI (2 ^ N) ≤ nI m
    · rw [if_pos q]
      have q := (nI_leI (by omega) (by omega)).mp q
      have e : m = 2 ^ N := by omega
      subst e
      exact sf230 τ a1 a6 lf82 _ _ _ _ _ _ _ _ _ _ (SW X H M b N d (2 ^ N)) (10 ^ N) (by rw [nI_toInt (by omega)]; omega) (by omega) (by omega)
    · rw [if_neg q]
      have q : ¬ 2 ^ N ≤ m := fun z => q ((nI_leI (by omega) (by omega)).mpr z)
      have l := sf131 τ a1 a6 X H M N b d hX hH hM hN hb hd eb lf82 (fun y1 y2 => F_X9_safe_L105 lf82 n τ a1 (nI H) (nI M) (nI N) (nI X) a6 x9 (nI (10 ^ N)) y1 y2) x9 (nI (10 ^ N)) m (by omega) (nI (SW X H M b N d m)) 7 0 (by omega) (by omega)
      rw [show thr H M m 0 = 0 from rfl, show its X m 0 = 1 from rfl, Nat.add_zero] at l
      rw [ed]
      refine l.trans ?_
      show F_X9_safe_L105 lf82 n τ a1 (nI H) (nI M) (nI N) (nI X) a6 x9 (nI (10 ^ N)) (nI (m + 1)) (nI (SW X H M b N d m) + nI (if d + thr H M m N ≤ b then its X m N else 0)) = _
      rw [nI_add, ← SW.eq_2]
      exact sf105 hX hH hM hN hb hd eb ed lf82 x9 hle n (m + 1) (by omega) (by omega)
theorem sf82 (hX : X ≤ 10) (hH : H ≤ 9) (hM : M ≤ 9) (hN : N ≤ 6) (hb : b ≤ 100) (hd : d ≤ 100) (eb : (τ.2.1 50) ((50 : Int32) + a1).toNatClampNeg = nI b) (ed : (τ.2.1 53) ((8 : Int32) + a1).toNatClampNeg = nI d) (hle : SW X H M b N d (2 ^ N) ≤ 10 ^ N) : ∀ (n i : Nat), i ≤ N → N < i + n → F_X9_safe_L82 n τ a1 (nI H) (nI M) (nI N) (nI X) a6 (nI i) (nI (10 ^ i)) = (if a6 = 0 then nI (SW X H M b N d (2 ^ N)) / nI (Nat.gcd (SW X H M b N d (2 ^ N)) (10 ^ N)) else nI (10 ^ N) / nI (Nat.gcd (SW X H M b N d (2 ^ N)) (10 ^ N)))
  | 0, i, hi, hn => absurd hn (by omega)
  | n + 1, i, hi, hn => by
    rw [F_X9_safe_L82]
    by_cases q : nI N ≤ nI i
    · rw [if_pos q]
      have q := (nI_leI (by omega) (by omega)).mp q
      have e : i = N := by omega
      subst e
      have p2 : 2 ^ i ≤ 64 := by
        have : 2 ^ i ≤ 2 ^ 6 := Nat.pow_le_pow_right (by decide) hN
        exact this
      exact sf105 τ a1 a6 X H M i b d hX hH hM hN hb hd eb ed _ _ hle 65 0 (Nat.zero_le _) (by omega)
    · rw [if_neg q]
      have q : ¬ N ≤ i := fun z => q ((nI_leI (by omega) (by omega)).mpr z)
      rw [nI_1, show nI (10 ^ i) * (10 : Int32) = nI (10 ^ (i + 1)) from nI_mul (10 ^ i) 10]
      exact sf82 hX hH hM hN hb hd eb ed hle n (i + 1) (by omega) (by omega)
end SF
/-! the class's way to least terms -/
def rd5 (p : Nat × Nat) : Nat × Nat := if p.1 % 5 = 0 then (p.1 / 5, p.2 / 5) else p
def rd2 (p : Nat × Nat) : Nat × Nat := if p.1 % 2 = 0 then (p.1 / 2, p.2 / 2) else p
def red : Nat → Nat × Nat → Nat × Nat
  | 0, p => p
  | r + 1, p => red r (rd5 (rd2 p))
theorem nI_eq0 {a : Nat} (h : a < 2 ^ 31) : nI a = 0 ↔ a = 0 := nI_eq (b := 0) h (by decide)
theorem rd_le (p : Nat × Nat) : (rd2 p).1 ≤ p.1 ∧ (rd2 p).2 ≤ p.2 ∧ (rd5 p).1 ≤ p.1 ∧ (rd5 p).2 ≤ p.2 := by
  unfold rd2 rd5
  refine ⟨?_, ?_, ?_, ?_⟩ <;> split <;> simp <;> omega
theorem sf148 (lf : Int32 → Int32 → Int32) (σ : St) (a1 a2 a3 a5 a6 v8 y10 y9 : Int32) (N : Nat) (hN : N ≤ 6) : ∀ (n i U L : Nat), i ≤ N → N < i + n → U < 2 ^ 31 → L < 2 ^ 31 → F_X8_safe_L148 lf n σ a1 a2 a3 (nI N) a5 a6 v8 y10 y9 (nI i) (nI L) (nI U) = (if a6 = 0 then nI (red (N - i) (U, L)).1 else nI (red (N - i) (U, L)).2)
  | 0, i, U, L, hi, hn, _, _ => absurd hn (by omega)
  | n + 1, i, U, L, hi, hn, hU, hL => by
    rw [F_X8_safe_L148]
    by_cases q : nI N ≤ nI i
    · rw [if_pos q]
      have q := (nI_leI (by omega) (by omega)).mp q
      rw [show N - i = 0 by omega]
      rfl
    · rw [if_neg q]
      have q : ¬ N ≤ i := fun z => q ((nI_leI (by omega) (by omega)).mpr z)
      have r2 : ∀ V, V < 2 ^ 31 → (nI V - nI V / (2 : Int32) * (2 : Int32)) = nI (V % 2) := fun V hV => pk_rem (d := 2) hV (by decide) (by decide)
      have r5 : ∀ V, V < 2 ^ 31 → (nI V - nI V / (5 : Int32) * (5 : Int32)) = nI (V % 5) := fun V hV => pk_rem (d := 5) hV (by decide) (by decide)
      have d2 : ∀ V, V < 2 ^ 31 → nI V / (2 : Int32) = nI (V / 2) := fun V hV => pk_div (d := 2) hV (by decide) (by decide)
      have d5 : ∀ V, V < 2 ^ 31 → nI V / (5 : Int32) = nI (V / 5) := fun V hV => pk_div (d := 5) hV (by decide) (by decide)
      have hU2 : U / 2 < 2 ^ 31 := by omega
      have hL2 : L / 2 < 2 ^ 31 := by omega
      rw [show N - i = (N - (i + 1)) + 1 by omega, red.eq_2, r2 U hU, d2 U hU, d2 L hL, r5 _ hU2, r5 U hU, d5 _ hU2, d5 _ hL2, d5 U hU, d5 L hL, nI_1]
      by_cases c2 : U % 2 = 0
      · rw [if_pos ((nI_eq0 (by omega)).mpr c2)]
        have e2 : rd2 (U, L) = (U / 2, L / 2) := if_pos c2
        rw [e2]
        by_cases c5 : U / 2 % 5 = 0
        · rw [if_pos ((nI_eq0 (by omega)).mpr c5)]
          have e5 : rd5 (U / 2, L / 2) = (U / 2 / 5, L / 2 / 5) := if_pos c5
          rw [e5]
          exact sf148 lf σ a1 a2 a3 a5 a6 v8 y10 y9 N hN n (i + 1) _ _ (by omega) (by omega) (by omega) (by omega)
        · rw [if_neg (fun z => c5 ((nI_eq0 (by omega)).mp z))]
          have e5 : rd5 (U / 2, L / 2) = (U / 2, L / 2) := if_neg c5
          rw [e5]
          exact sf148 lf σ a1 a2 a3 a5 a6 v8 y10 y9 N hN n (i + 1) _ _ (by omega) (by omega) (by omega) (by omega)
      · rw [if_neg (fun z => c2 ((nI_eq0 (by omega)).mp z))]
        have e2 : rd2 (U, L) = (U, L) := if_neg c2
        rw [e2]
        by_cases c5 : U % 5 = 0
        · rw [if_pos ((nI_eq0 (by omega)).mpr c5)]
          have e5 : rd5 (U, L) = (U / 5, L / 5) := if_pos c5
          rw [e5]
          exact sf148 lf σ a1 a2 a3 a5 a6 v8 y10 y9 N hN n (i + 1) _ _ (by omega) (by omega) (by omega) (by omega)
        · rw [if_neg (fun z => c5 ((nI_eq0 (by omega)).mp z))]
          have e5 : rd5 (U, L) = (U, L) := if_neg c5
          rw [e5]
          exact sf148 lf σ a1 a2 a3 a5 a6 v8 y10 y9 N hN n (i + 1) _ _ (by omega) (by omega) (by omega) (by omega)
theorem sf125 (σ : St) (a1 a2 a3 a5 a6 v8 : Int32) (N U : Nat) (hN : N ≤ 6) (hU : U < 2 ^ 31) (ev : v8 = nI U) : ∀ (n i : Nat), i ≤ N → N < i + n → F_X8_safe_L125 n σ a1 a2 a3 (nI N) a5 a6 v8 (nI i) (nI (10 ^ i)) = (if a6 = 0 then nI (red N (U, 10 ^ N)).1 else nI (red N (U, 10 ^ N)).2)
  | 0, i, hi, hn => absurd hn (by omega)
  | n + 1, i, hi, hn => by
    rw [F_X8_safe_L125]
    by_cases q : nI N ≤ nI i
    · rw [if_pos q]
      have q := (nI_leI (by omega) (by omega)).mp q
      have e : i = N := by omega
      subst e
      have p10 : 10 ^ i ≤ 1000000 := by
        have : 10 ^ i ≤ 10 ^ 6 := Nat.pow_le_pow_right (by decide) hN
        exact this
      subst ev
      exact sf148 _ σ a1 a2 a3 a5 a6 (nI U) (nI i) (nI (10 ^ i)) i hN 7 0 U (10 ^ i) (by omega) (by omega) hU (by omega)
    · rw [if_neg q]
      have q : ¬ N ≤ i := fun z => q ((nI_leI (by omega) (by omega)).mpr z)
      rw [nI_1, show nI (10 ^ i) * (10 : Int32) = nI (10 ^ (i + 1)) from nI_mul (10 ^ i) 10]
      exact sf125 σ a1 a2 a3 a5 a6 v8 N U hN hU ev n (i + 1) (by omega) (by omega)
theorem cop2 {U : Nat} (h : U % 2 ≠ 0) : Nat.Coprime U 2 := by
  show Nat.gcd U 2 = 1
  rw [Nat.gcd_comm, Nat.gcd_rec, show U % 2 = 1 by omega]
  decide
theorem cop5 {U : Nat} (h : U % 5 ≠ 0) : Nat.Coprime U 5 := by
  show Nat.gcd U 5 = 1
  rw [Nat.gcd_comm, Nat.gcd_rec]
  rcases (show U % 5 = 1 ∨ U % 5 = 2 ∨ U % 5 = 3 ∨ U % 5 = 4 by omega) with e | e | e | e <;> rw [e] <;> decide
theorem red_ok : ∀ (r : Nat) (p : Nat × Nat) (a b : Nat), p.2 = 2 ^ a * 5 ^ b → (a = r ∨ p.1 % 2 ≠ 0) → (b = r ∨ p.1 % 5 ≠ 0) → ∃ c, 0 < c ∧ (red r p).1 * c = p.1 ∧ (red r p).2 * c = p.2 ∧ Nat.Coprime (red r p).1 (red r p).2
  | 0, p, a, b, hp, ha, hb => by
    refine ⟨1, by decide, Nat.mul_one _, Nat.mul_one _, ?_⟩
    show Nat.Coprime p.1 p.2
    rw [hp]
    refine Nat.Coprime.mul_right ?_ ?_
    · rcases ha with e | e
      · rw [e]; exact Nat.gcd_one_right _
      · exact Nat.Coprime.pow_right a (cop2 e)
    · rcases hb with e | e
      · rw [e]; exact Nat.gcd_one_right _
      · exact Nat.Coprime.pow_right b (cop5 e)
  | r + 1, (U, L), a, b, hp, ha, hb => by
    have hp : L = 2 ^ a * 5 ^ b := hp
    have ha : a = r + 1 ∨ U % 2 ≠ 0 := ha
    have hb : b = r + 1 ∨ U % 5 ≠ 0 := hb
    rw [red.eq_2]
    -- by two
    have st2 : ∃ c a', 0 < c ∧ (rd2 (U, L)).1 * c = U ∧ (rd2 (U, L)).2 * c = L ∧ (rd2 (U, L)).2 = 2 ^ a' * 5 ^ b ∧ (a' = r ∨ (rd2 (U, L)).1 % 2 ≠ 0) ∧ (b = r + 1 ∨ (rd2 (U, L)).1 % 5 ≠ 0) := by
      by_cases c2 : U % 2 = 0
      · have ea : a = r + 1 := ha.resolve_right (fun z => z c2)
        have e2 : rd2 (U, L) = (U / 2, L / 2) := if_pos c2
        have eL : L = 2 ^ r * 5 ^ b * 2 := by rw [hp, ea, Nat.pow_succ, Nat.mul_right_comm]
        have eL2 : L / 2 = 2 ^ r * 5 ^ b := by omega
        rw [e2]
        exact ⟨2, r, by decide, by show U / 2 * 2 = U; omega, by show L / 2 * 2 = L; omega, eL2, Or.inl rfl, by
          rcases hb with z | z
          · exact Or.inl z
          · exact Or.inr (by show U / 2 % 5 ≠ 0; omega)⟩
      · have e2 : rd2 (U, L) = (U, L) := if_neg c2
        rw [e2]
        exact ⟨1, a, by decide, Nat.mul_one _, Nat.mul_one _, hp, Or.inr c2, hb⟩
    obtain ⟨c, a', c0, u1, l1, lp, h2, h5⟩ := st2
    generalize rd2 (U, L) = p2 at u1 l1 lp h2 h5
    obtain ⟨U2, L2⟩ := p2
    have u1 : U2 * c = U := u1
    have l1 : L2 * c = L := l1
    have lp : L2 = 2 ^ a' * 5 ^ b := lp
    have h2 : a' = r ∨ U2 % 2 ≠ 0 := h2
    have h5 : b = r + 1 ∨ U2 % 5 ≠ 0 := h5
    have st5 : ∃ e b', 0 < e ∧ (rd5 (U2, L2)).1 * e = U2 ∧ (rd5 (U2, L2)).2 * e = L2 ∧ (rd5 (U2, L2)).2 = 2 ^ a' * 5 ^ b' ∧ (a' = r ∨ (rd5 (U2, L2)).1 % 2 ≠ 0) ∧ (b' = r ∨ (rd5 (U2, L2)).1 % 5 ≠ 0) := by
      by_cases c5 : U2 % 5 = 0
      · have eb : b = r + 1 := h5.resolve_right (fun z => z c5)
        have e5 : rd5 (U2, L2) = (U2 / 5, L2 / 5) := if_pos c5
        have eL : L2 = 2 ^ a' * 5 ^ r * 5 := by rw [lp, eb, Nat.pow_succ, Nat.mul_assoc]
        have eL2 : L2 / 5 = 2 ^ a' * 5 ^ r := by omega
        rw [e5]
        exact ⟨5, r, by decide, by show U2 / 5 * 5 = U2; omega, by show L2 / 5 * 5 = L2; omega, eL2, by
          rcases h2 with z | z
          · exact Or.inl z
          · exact Or.inr (by show U2 / 5 % 2 ≠ 0; omega), Or.inl rfl⟩
      · have e5 : rd5 (U2, L2) = (U2, L2) := if_neg c5
        rw [e5]
        exact ⟨1, b, by decide, Nat.mul_one _, Nat.mul_one _, lp, h2, Or.inr c5⟩
    obtain ⟨e, b', e0, u2, l2, lp2, g2, g5⟩ := st5
    obtain ⟨f, f0, q1, q2, q3⟩ := red_ok r (rd5 (U2, L2)) a' b' lp2 g2 g5
    refine ⟨f * (e * c), Nat.mul_pos f0 (Nat.mul_pos e0 c0), ?_, ?_, q3⟩
    · rw [← Nat.mul_assoc, q1, ← Nat.mul_assoc, u2, u1]
    · rw [← Nat.mul_assoc, q2, ← Nat.mul_assoc, l2, l1]
theorem red_gcd (N U : Nat) : (red N (U, 10 ^ N)).1 = U / Nat.gcd U (10 ^ N) ∧ (red N (U, 10 ^ N)).2 = 10 ^ N / Nat.gcd U (10 ^ N) := by
  obtain ⟨c, c0, h1, h2, h3⟩ := red_ok N (U, 10 ^ N) N N (by show 10 ^ N = 2 ^ N * 5 ^ N; rw [← Nat.mul_pow]) (Or.inl rfl) (Or.inl rfl)
  have h1 : (red N (U, 10 ^ N)).1 * c = U := h1
  have h2 : (red N (U, 10 ^ N)).2 * c = 10 ^ N := h2
  have g : Nat.gcd U (10 ^ N) = c := by
    have := Nat.gcd_mul_right (red N (U, 10 ^ N)).1 c (red N (U, 10 ^ N)).2
    rw [h1, h2] at this
    rw [this, show Nat.gcd (red N (U, 10 ^ N)).1 (red N (U, 10 ^ N)).2 = 1 from h3, Nat.one_mul]
  rw [g]
  constructor
  · exact (Nat.div_eq_of_eq_mul_left c0 h1.symm).symm
  · exact (Nat.div_eq_of_eq_mul_left c0 h2.symm).symm
theorem in_nI {x : Int32} {n : Nat} {K : Int32} (hK : K.toInt = n) (h : ¬ F_X9_in x 0 K = 0) : ∃ k : Nat, k ≤ n ∧ x = nI k := by
  have q := fz_in h
  rw [z32] at q
  exact ⟨x.toInt.toNat, by omega, nI_self q.1⟩
theorem s_safe : St_safe RR := by
  intro σ τ a1 a2 a3 a4 a5 a6 h
  refine ⟨trivial, h.2.1.2.2.1.2, ?_, h⟩
  unfold F_X8_safe F_X9_safe
  rw [F_in_eq, F_in_eq, F_in_eq, F_in_eq, F_in_eq]
  rcases R_c h a1 with ⟨c1, c2⟩ | ⟨c1, c2, c3, c4, c5⟩
  · rw [if_pos c1, if_pos c2]
  · rw [if_neg c1, if_neg c2]
    by_cases q2 : F_X9_in a2 0 9 = 0
    · rw [if_pos q2, if_pos q2]
    · rw [if_neg q2, if_neg q2]
      by_cases q3 : F_X9_in a3 0 9 = 0
      · rw [if_pos q3, if_pos q3]
      · rw [if_neg q3, if_neg q3]
        by_cases q4 : F_X9_in a4 0 6 = 0
        · rw [if_pos q4, if_pos q4]
        · rw [if_neg q4, if_neg q4]
          by_cases q5 : F_X9_in a5 0 10 = 0
          · rw [if_pos q5, if_pos q5]
          · rw [if_neg q5, if_neg q5]
            by_cases q6 : F_X9_in a6 0 1 = 0
            · rw [if_pos q6, if_pos q6]
            · rw [if_neg q6, if_neg q6]
              have hc : 0 ≤ a1.toInt ∧ a1.toInt < 4 := ⟨c3, c5⟩
              have al : F_X2_isAlive σ a1 = F_X9_isAlive τ a1 := G_isAlive (R_row h) hc
              rw [al]
              by_cases qa : F_X9_isAlive τ a1 = 0
              · rw [if_pos qa, if_pos qa]
              · rw [if_neg qa, if_neg qa]
                obtain ⟨H, hH, eH⟩ := in_nI (n := 9) rfl q2
                obtain ⟨M, hM, eM⟩ := in_nI (n := 9) rfl q3
                obtain ⟨N, hN, eN⟩ := in_nI (n := 6) rfl q4
                obtain ⟨X, hX, eX⟩ := in_nI (n := 10) rfl q5
                subst eH eM eN eX
                obtain ⟨tb1, tb2⟩ := T_bears h ⟨c3, c4⟩
                have td := D_dry h.2.2.1.2.1 hc
                rw [tb1, G_dry (R_row h) hc]
                obtain ⟨b, eb⟩ : ∃ b : Nat, b = ((τ.2.1 50) ((50 : Int32) + a1).toNatClampNeg).toInt.toNat := ⟨_, rfl⟩
                obtain ⟨d, ed⟩ : ∃ d : Nat, d = ((τ.2.1 53) ((8 : Int32) + a1).toNatClampNeg).toInt.toNat := ⟨_, rfl⟩
                have nb : (τ.2.1 50) ((50 : Int32) + a1).toNatClampNeg = nI b := by rw [eb]; exact nI_self (by omega)
                have nd : (τ.2.1 53) ((8 : Int32) + a1).toNatClampNeg = nI d := by rw [ed]; exact nI_self td.1
                have hb : b ≤ 20 := by omega
                have hd : d ≤ 29 := by omega
                have sl : (nI b - nI d).toInt = (b : Int) - d := by
                  rw [ti_of (oI_sub (oI_at (nI b)) (oI_at (nI d))) (by rw [nI_toInt (by omega), nI_toInt (by omega)]; omega), nI_toInt (by omega), nI_toInt (by omega)]
                have ch := ch_eq X H M hX hH hM 7 N (nI b - nI d) (by omega) hN (by rw [sl]; omega) (by rw [sl]; omega)
                rw [sl, CH_SW] at ch
                have hle : SW X H M b N d (2 ^ N) ≤ 10 ^ N := by
                  rw [← CH_SW]; exact CH_le X H M hX N _
                have p10 : 10 ^ N ≤ 1000000 := by
                  have : 10 ^ N ≤ 10 ^ 6 := Nat.pow_le_pow_right (by decide) hN
                  exact this
                have p0 : 0 < 10 ^ N := Nat.pow_pos (by decide)
                have rf := sf82 τ a1 a6 X H M N b d hX hH hM hN (by omega) (by omega) nb nd hle 7 0 (by omega) (by omega)
                have cl := sf125 σ a1 (nI H) (nI M) (nI X) a6 _ N (SW X H M b N d (2 ^ N)) hN (by omega) ch 7 0 (by omega) (by omega)
                rw [nb, nd]
                have rf : F_X9_safe_L82 7 τ a1 (nI H) (nI M) (nI N) (nI X) a6 0 1 = _ := rf
                have cl : F_X8_safe_k114_9 σ a1 (nI H) (nI M) (nI N) (nI X) a6 (F_X8_chancesAlive 7 (nI N) (nI b - nI d) (nI H) (nI M) (nI X)) = _ := cl
                rw [rf, cl]
                obtain ⟨g1, g2⟩ := red_gcd N (SW X H M b N d (2 ^ N))
                have gp : 0 < Nat.gcd (SW X H M b N d (2 ^ N)) (10 ^ N) := Nat.gcd_pos_of_pos_right _ p0
                have gl : Nat.gcd (SW X H M b N d (2 ^ N)) (10 ^ N) ≤ 10 ^ N := Nat.le_of_dvd p0 (Nat.gcd_dvd_right _ _)
                rw [g1, g2, pk_div (by omega) gp (by omega), pk_div (by omega) gp (by omega)]
