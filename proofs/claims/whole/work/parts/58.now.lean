/-! ===== now: sums, settle, salt ===== -/
def nowR (τ : St) (a1 D K : Int32) : Int32 × St := if a1 = 0 then (((τ.2.1 53) 13), τ) else (if a1 = 1 then (((τ.2.1 53) 12), τ) else (if a1 = 2 then (K, τ) else (if a1 = 3 then (D, τ) else (if a1 = 4 then F_X9_settle τ else (if a1 = 5 then (F_X9_salt τ, τ) else (((-1) : Int32), τ))))))
theorem now_L {σ τ : St} (r : RRow (σ.2.1 27) (τ.2.1 53) 0 0) (a1 : Int32) : ∀ (n x : Nat) (d k : Int32), x ≤ 6 → 6 < x + n → F_X9_now_L7 n τ a1 (nI x) d k = nowR τ a1 (F_X2_allDues_L4 n σ (nI x) d) (F_X2_allKnots_L4 n σ (nI x) k)
  | 0, x, d, k, hx, hn => absurd hn (by omega)
  | n + 1, x, d, k, hx, hn => by
    rw [F_X9_now_L7, F_X2_allDues_L4, F_X2_allKnots_L4]
    by_cases q : (6 : Int32) ≤ nI x
    · rw [if_pos q, if_pos q, if_pos q]
      rfl
    · rw [if_neg q, if_neg q, if_neg q]
      have q : ¬ 6 ≤ x := fun z => q ((num_le x rfl (by decide) (by omega)).mpr z)
      have e := nI_toInt (n := x) (by omega)
      have hw : 0 ≤ (nI x).toInt ∧ (nI x).toInt < 6 := by omega
      unfold F_X9_now_k18_14 F_X9_now_k27_16 F_X2_allDues_k13_4 F_X2_allKnots_k13_4
      rw [E_knotsW r hw, E_duesB r hw, nI_1]
      exact now_L r a1 n (x + 1) _ _ (by omega) (by omega)
/-! salt -/
theorem ones_tab : ∀ s, s < 64 → F_J6_bitCount_0f7a4 (nI s) = F_X9_ones (nI s) := by decide +kernel
theorem ones_full : ∀ W, W < 7 → ∀ m, m < 64 → ¬ m < 2 ^ W ∨ ¬ F_X9_ones (nI (2 ^ W - 1)) ≤ F_X9_ones (nI m) ∨ m = 2 ^ W - 1 := by decide +kernel
theorem full_bit : ∀ W, W < 7 → ∀ k, k < 6 → ¬ k < W ∨ ¬ F_X9_has (nI (2 ^ W - 1)) (nI k) = 0 := by decide +kernel
theorem salt_0 (lf : Int32 → Int32 → Int32) {τ : St} (h8 : (τ.2.1 50 1).toInt ≤ 8) (S f : Int32) : ∀ (n x : Nat), x ≤ 8 → 8 < x + n → F_X9_salt_L22 lf n τ S f (nI x) 0 = lf (S + 1) f
  | 0, x, hx, hn => absurd hn (by omega)
  | n + 1, x, hx, hn => by
    rw [F_X9_salt_L22]
    by_cases q : (τ.2.1 50 1) ≤ nI x
    · rw [if_pos q, if_pos rfl]
    · rw [if_neg q, if_pos rfl, nI_1]
      have q' := i_nle q
      rw [nI_toInt (by omega)] at q'
      exact salt_0 lf h8 S f n (x + 1) (by omega) (by omega)
theorem salt_1 {σ τ : St} (h : RR σ τ) (lf : Int32 → Int32 → Int32) (S f : Int32) : ∀ (n x : Nat), x ≤ 8 → 8 < x + n → F_X9_salt_L22 lf n τ S f (nI x) 1 = (if F_X4_endsEachStage_L2 n σ S (nI x) = 0 then lf (S + 1) f else (if f = ((-9) : Int32) then lf (S + 1) S else lf (S + 1) (if F_X9_ones f ≤ F_X9_ones S then f else S)))
  | 0, x, hx, hn => absurd hn (by omega)
  | n + 1, x, hx, hn => by
    have h8 := h.2.1.2.1.2.2
    rw [F_X9_salt_L22, F_X4_endsEachStage_L2, h.2.1.2.1.1]
    by_cases q : (τ.2.1 50 1) ≤ nI x
    · have n10 : ¬ (1 : Int32) = 0 := by decide
      rw [if_pos q, if_pos q, if_neg n10, if_neg n10]
      rfl
    · rw [if_neg q, if_neg q, if_neg (show ¬ (1 : Int32) = 0 by decide), nI_1]
      have q' := i_nle q
      have e := nI_toInt (n := x) (by omega)
      have hs : 0 ≤ (nI x).toInt ∧ (nI x).toInt < (τ.2.1 50 1).toInt := by omega
      rw [T_first h hs, T_second h hs]
      have hx8 : x + 1 ≤ 8 := by omega
      by_cases c1 : F_X9_has S (τ.2.1 50 ((10 : Int32) + nI x).toNatClampNeg) = 0
      · rw [if_pos c1, if_pos (show F_X8_hasBit S (τ.2.1 50 ((10 : Int32) + nI x).toNatClampNeg) = 0 from c1)]
        by_cases c2 : F_X9_has S (τ.2.1 50 ((18 : Int32) + nI x).toNatClampNeg) = 0
        · rw [if_pos c2, if_pos (show F_X8_hasBit S (τ.2.1 50 ((18 : Int32) + nI x).toNatClampNeg) = 0 from c2), if_pos rfl]
          exact salt_0 lf h8 S f n (x + 1) hx8 (by omega)
        · rw [if_neg c2, if_neg (show ¬ F_X8_hasBit S (τ.2.1 50 ((18 : Int32) + nI x).toNatClampNeg) = 0 from c2)]
          exact salt_1 h lf S f n (x + 1) hx8 (by omega)
      · rw [if_neg c1, if_neg (show ¬ F_X8_hasBit S (τ.2.1 50 ((10 : Int32) + nI x).toNatClampNeg) = 0 from c1)]
        exact salt_1 h lf S f n (x + 1) hx8 (by omega)
theorem full_covers {σ τ : St} (h : RR σ τ) (W : Nat) (hW : W ≤ 6) (eW : τ.2.1 50 0 = nI W) : ∀ (n x : Nat), x ≤ 8 → 8 < x + n → F_X4_endsEachStage_L2 n σ (nI (2 ^ W - 1)) (nI x) = 1
  | 0, x, hx, hn => absurd hn (by omega)
  | n + 1, x, hx, hn => by
    have h8 := h.2.1.2.1.2.2
    rw [F_X4_endsEachStage_L2, h.2.1.2.1.1]
    by_cases q : (τ.2.1 50 1) ≤ nI x
    · rw [if_pos q]
    · rw [if_neg q, nI_1]
      have q' := i_nle q
      have e := nI_toInt (n := x) (by omega)
      have hs : 0 ≤ (nI x).toInt ∧ (nI x).toInt < (τ.2.1 50 1).toInt := by omega
      rw [T_first h hs]
      have t := (T_stg h hs).1.2
      have tb := (h.2.1.2.2.2.2.2.2 (nI x).toInt.toNat (by omega)).1
      rw [← ix1 (K := 10) (k := 10) rfl (by omega) (by decide)] at t tb
      rw [eW, nI_toInt (by omega)] at t
      have fb := (full_bit W (by omega) (τ.2.1 50 ((10 : Int32) + nI x).toNatClampNeg).toInt.toNat (by omega)).resolve_left (fun z => z (by omega))
      rw [← nI_self tb.1] at fb
      rw [if_neg (show ¬ F_X8_hasBit (nI (2 ^ W - 1)) (τ.2.1 50 ((10 : Int32) + nI x).toNatClampNeg) = 0 from fb)]
      exact full_covers h W hW eW n (x + 1) (by omega) (by omega)
theorem salt_L {σ τ : St} (h : RR σ τ) (W : Nat) (hW : W ≤ 6) (eW : τ.2.1 50 0 = nI W) : ∀ (n m : Nat) (f c : Int32), m ≤ 2 ^ W → 2 ^ W < m + n → ((f = ((-9) : Int32) ∧ c = nI (2 ^ W - 1) ∧ m + 1 ≤ 2 ^ W) ∨ (f = c ∧ ∃ k, k < 64 ∧ c = nI k)) → F_X4_salt_L11 n σ (nI m) c = F_X9_salt_L5 n τ (nI m) f
  | 0, m, f, c, hm, hn, _ => absurd hn (by omega)
  | n + 1, m, f, c, hm, hn, hI => by
    have p2 : 2 ^ W ≤ 64 := by
      have : 2 ^ W ≤ 2 ^ 6 := Nat.pow_le_pow_right (by decide) hW
      exact this
    have p0 : 0 < 2 ^ W := Nat.pow_pos (by decide)
    rw [F_X4_salt_L11, F_X9_salt_L5, h.2.1.1.1, eW, sh_tab W (by omega)]
    by_cases q : nI (2 ^ W) ≤ nI m
    · rw [if_pos q, if_pos q]
      have q := (nI_leI (by omega) (by omega)).mp q
      rcases hI with ⟨_, _, z⟩ | ⟨z, _⟩
      · omega
      · exact z.symm
    · rw [if_neg q, if_neg q]
      have q : ¬ 2 ^ W ≤ m := fun z => q ((nI_leI (by omega) (by omega)).mpr z)
      have l := salt_1 h (fun y1 y2 => F_X9_salt_L5 n τ y1 y2) (nI m) f 9 0 (by decide) (by decide)
      rw [show (nI 0) = (0 : Int32) from rfl] at l
      rw [l]
      have eE : F_X4_endsEachStage_L2 9 σ (nI m) 0 = F_X4_endsEachStage σ (nI m) := rfl
      rw [eE]
      have n9 : ∀ k, k < 64 → ¬ nI k = ((-9) : Int32) := by decide +kernel
      rcases hI with ⟨hf, hc, hm2⟩ | ⟨hf, k, hk, hc⟩
      · subst hf hc
        have of := (ones_full W (by omega) m (by omega)).resolve_left (fun z => z (by omega))
        rw [ones_tab _ (by omega), ones_tab _ (by omega)]
        by_cases E : F_X4_endsEachStage σ (nI m) = 0
        · rw [if_pos E]
          have nf : m + 1 ≠ 2 ^ W := fun z => by
            have em : m = 2 ^ W - 1 := by omega
            have := full_covers h W hW eW 9 0 (by decide) (by decide)
            rw [← em] at this
            exact absurd (this.symm.trans E) (by decide)
          have rec_ := salt_L h W hW eW n (m + 1) ((-9) : Int32) (nI (2 ^ W - 1)) (by omega) (by omega) (Or.inl ⟨rfl, rfl, by omega⟩)
          rw [← nI_1] at rec_
          split
          · exact rec_
          · show F_X4_salt_k34_5 _ σ (nI m) (nI (2 ^ W - 1)) (F_X4_endsEachStage σ (nI m)) = _
            unfold F_X4_salt_k34_5
            rw [if_pos E]
            exact rec_
        · rw [if_neg E, if_pos rfl]
          rcases of with z | z
          · rw [if_neg z]
            show F_X4_salt_k34_5 _ σ (nI m) (nI (2 ^ W - 1)) (F_X4_endsEachStage σ (nI m)) = _
            unfold F_X4_salt_k34_5
            rw [if_neg E]
            have rec_ := salt_L h W hW eW n (m + 1) (nI m) (nI m) (by omega) (by omega) (Or.inr ⟨rfl, m, by omega, rfl⟩)
            rw [← nI_1] at rec_
            exact rec_
          · have rec_ := salt_L h W hW eW n (m + 1) (nI m) (nI m) (by omega) (by omega) (Or.inr ⟨rfl, m, by omega, rfl⟩)
            rw [← nI_1] at rec_
            rw [← z, if_pos (Int32.le_iff_toInt_le.mpr (Int.le_refl _))]
            exact rec_
      · subst hf
        rw [if_neg (show ¬ f = ((-9) : Int32) by rw [hc]; exact n9 k hk)]
        subst hc
        rw [ones_tab _ hk, ones_tab _ (by omega)]
        have rec1 := salt_L h W hW eW n (m + 1) (nI k) (nI k) (by omega) (by omega) (Or.inr ⟨rfl, k, hk, rfl⟩)
        have rec2 := salt_L h W hW eW n (m + 1) (nI m) (nI m) (by omega) (by omega) (Or.inr ⟨rfl, m, by omega, rfl⟩)
        rw [← nI_1] at rec1 rec2
        by_cases o : F_X9_ones (nI k) ≤ F_X9_ones (nI m)
        · rw [if_pos o, if_pos o]
          split
          · exact rec1
          · exact rec1
        · rw [if_neg o, if_neg o]
          show F_X4_salt_k34_5 _ σ (nI m) (nI k) (F_X4_endsEachStage σ (nI m)) = _
          unfold F_X4_salt_k34_5
          split
          · exact rec1
          · exact rec2
theorem W_of {σ τ : St} (h : RR σ τ) : ∃ W : Nat, W ≤ 6 ∧ τ.2.1 50 0 = nI W := by
  have q := h.2.1.1.2
  exact ⟨(τ.2.1 50 0).toInt.toNat, by omega, nI_self q.1⟩
theorem pow_sub {W : Nat} (hW : W ≤ 6) : nI (2 ^ W) - (1 : Int32) = nI (2 ^ W - 1) := by
  have p0 : 0 < 2 ^ W := Nat.pow_pos (by decide)
  have := nI_pred (2 ^ W - 1)
  rw [show 2 ^ W - 1 + 1 = 2 ^ W by omega] at this
  exact this
theorem E_salt {σ τ : St} (h : RR σ τ) : F_X4_salt σ = F_X9_salt τ := by
  obtain ⟨W, hW, eW⟩ := W_of h
  have p2 : 2 ^ W ≤ 64 := by
    have : 2 ^ W ≤ 2 ^ 6 := Nat.pow_le_pow_right (by decide) hW
    exact this
  have p0 : 0 < 2 ^ W := Nat.pow_pos (by decide)
  have e : F_X4_salt σ = F_X4_salt_L11 65 σ (nI 0) (nI (2 ^ W - 1)) := by
    unfold F_X4_salt
    rw [h.2.1.1.1, eW, sh_tab W (by omega), pow_sub hW]
    rfl
  rw [e]
  exact salt_L h W hW eW 65 0 ((-9) : Int32) _ (by omega) (by omega) (Or.inl ⟨rfl, rfl, by omega⟩)
/-! settle -/
def MX (G : Nat → Int32) (s : Nat) : Nat → Nat → Int32 → Int32
  | 0, _, a => a
  | n + 1, w, a => if 6 ≤ w then a else MX G s n (w + 1) (if s.testBit w then (if a < G (s ^^^ 2 ^ w) then G (s ^^^ 2 ^ w) else a) else a)
def SM (f : Nat → Int32) (s : Nat) : Nat → Nat → Int32 → Int32
  | 0, _, a => a
  | n + 1, w, a => if 6 ≤ w then a else SM f s n (w + 1) (if s.testBit w then a + f w else a)
theorem MX_cg {G G' : Nat → Int32} {s : Nat} (h : ∀ w, w < 6 → s.testBit w = true → G (s ^^^ 2 ^ w) = G' (s ^^^ 2 ^ w)) : ∀ (n w : Nat) (a : Int32), MX G s n w a = MX G' s n w a
  | 0, _, _ => rfl
  | n + 1, w, a => by
    unfold MX
    by_cases q : 6 ≤ w
    · rw [if_pos q, if_pos q]
    · rw [if_neg q, if_neg q]
      by_cases t : s.testBit w = true
      · rw [if_pos t, if_pos t, h w (by omega) t]
        exact MX_cg h n (w + 1) _
      · rw [if_neg t, if_neg t]
        exact MX_cg h n (w + 1) _
theorem MX_stop {G : Nat → Int32} {s : Nat} : ∀ (n w : Nat) (a : Int32), (∀ v, w ≤ v → v < 6 → s.testBit v = false) → MX G s n w a = a
  | 0, _, _, _ => rfl
  | n + 1, w, a, h => by
    unfold MX
    by_cases q : 6 ≤ w
    · rw [if_pos q]
    · rw [if_neg q, h w (Nat.le_refl _) (by omega)]
      exact MX_stop n (w + 1) a (fun v h1 h2 => h v (by omega) h2)
theorem SM_stop {f : Nat → Int32} {s : Nat} : ∀ (n w : Nat) (a : Int32), (∀ v, w ≤ v → v < 6 → s.testBit v = false) → SM f s n w a = a
  | 0, _, _, _ => rfl
  | n + 1, w, a, h => by
    unfold SM
    by_cases q : 6 ≤ w
    · rw [if_pos q]
    · rw [if_neg q, h w (Nat.le_refl _) (by omega)]
      exact SM_stop n (w + 1) a (fun v h1 h2 => h v (by omega) h2)
theorem MX_b {G : Nat → Int32} {s : Nat} {B : Int} (h : ∀ w, w < 6 → s.testBit w = true → bd (G (s ^^^ 2 ^ w)) 0 B) : ∀ (n w : Nat) (a : Int32), bd a 0 B → bd (MX G s n w a) 0 B
  | 0, _, _, ha => ha
  | n + 1, w, a, ha => by
    unfold MX
    by_cases q : 6 ≤ w
    · rw [if_pos q]; exact ha
    · rw [if_neg q]
      by_cases t : s.testBit w = true
      · rw [if_pos t]
        refine MX_b h n (w + 1) _ ?_
        split
        · exact h w (by omega) t
        · exact ha
      · rw [if_neg t]
        exact MX_b h n (w + 1) _ ha
theorem xor_t : ∀ s, s < 64 → ∀ w, w < 6 → (nI s ^^^ ((1 : Int32) <<< (nI w &&& 31))) = nI (s ^^^ 2 ^ w) := by decide +kernel
theorem and_t : ∀ s, s < 64 → ∀ w, w < 6 → s.testBit w = false ∨ (nI s &&& (((1 : Int32) <<< (nI w &&& 31)) ^^^ ((-1) : Int32))) = nI (s ^^^ 2 ^ w) := by decide +kernel
theorem xor_lt : ∀ s, s < 64 → ∀ w, w < 6 → s.testBit w = false ∨ s ^^^ 2 ^ w < s := by decide +kernel
theorem bit_hi : ∀ W, W < 7 → ∀ s, s < 64 → ∀ v, v < 6 → ¬ s < 2 ^ W ∨ ¬ W ≤ v ∨ s.testBit v = false := by decide +kernel
theorem bit8 {s k : Nat} (hs : s < 64) (hk : k < 6) : F_X8_hasBit (nI s) (nI k) = (if s.testBit k then (1 : Int32) else 0) := bit_tab s hs k hk
theorem ce38 (τ : St) (σ : St) (lf : Int32 → St → Int32 × St) (a2 : Int32) (s : Nat) (hs : s < 64) (m : St) (r : RRow (m.2.1 27) (τ.2.1 53) 0 0) : ∀ (n w : Nat) (a c : Int32), w ≤ 6 → 6 < w + n → F_X5_fewestPayments_L38 lf n σ a2 (nI s) m (nI w) a c = lf (nI (s + 1)) (sa m 47 (upd (m.2.1 47) s (if SM (fun w => F_X9_net τ (nI w)) s n w c = 0 then MX (m.2.1 47) s n w a + 1 else MX (m.2.1 47) s n w a)))
  | 0, w, a, c, hw, hn => absurd hn (by omega)
  | n + 1, w, a, c, hw, hn => by
    rw [F_X5_fewestPayments_L38]
    by_cases q : (6 : Int32) ≤ nI w
    · rw [if_pos q, nI_1, nI_clamp (by omega)]
      have q : 6 ≤ w := (num_le w rfl (by decide) (by omega)).mp q
      unfold SM MX
      rw [if_pos q, if_pos q]
    · rw [if_neg q]
      have q : ¬ 6 ≤ w := fun z => q ((num_le w rfl (by decide) (by omega)).mpr z)
      rw [bit8 hs (by omega)]
      rw [SM.eq_2, MX.eq_2, if_neg q, if_neg q]
      by_cases t : s.testBit w = true
      · rw [if_pos t, if_neg (show ¬ (1 : Int32) = 0 by decide), if_pos t, if_pos t]
        unfold F_X5_fewestPayments_k60_11
        have e := nI_toInt (n := w) (by omega)
        rw [xor_t s hs w (by omega), nI_clamp (by have := (xor_lt s hs w (by omega)).resolve_left (by rw [t]; decide); omega), nI_1, E_net r (w := nI w) (by omega)]
        exact ce38 τ σ lf a2 s hs m r n (w + 1) _ _ (by omega) (by omega)
      · rw [if_neg t, if_pos (rfl : (0 : Int32) = 0), if_neg t, if_neg t, nI_1]
        exact ce38 τ σ lf a2 s hs m r n (w + 1) _ _ (by omega) (by omega)
theorem re_net (m τ : St) (h53 : m.2.1 53 = τ.2.1 53) (w : Int32) (σ : St) (r : RRow (σ.2.1 27) (τ.2.1 53) 0 0) (hw : 0 ≤ w.toInt ∧ w.toInt < 6) : F_X9_net m w = F_X9_net τ w := by
  rw [← E_net (σ := σ) (τ := m) (by rw [h53]; exact r) hw, ← E_net r hw]
theorem re_netOf (τ σ : St) (m : St) (h53 : m.2.1 53 = τ.2.1 53) (r : RRow (σ.2.1 27) (τ.2.1 53) 0 0) (W s : Nat) (hW : W ≤ 6) (hs : s < 64) (h2 : s < 2 ^ W) (e0 : m.2.1 50 0 = nI W) : ∀ (n w : Nat) (a : Int32), w ≤ 6 → 6 < w + n → F_X9_netOf_L4 n m (nI s) (nI w) a = SM (fun w => F_X9_net τ (nI w)) s n w a
  | 0, w, a, hw, hn => absurd hn (by omega)
  | n + 1, w, a, hw, hn => by
    rw [F_X9_netOf_L4, e0]
    by_cases q : nI W ≤ nI w
    · rw [if_pos q]
      have q := (nI_leI (by omega) (by omega)).mp q
      exact (SM_stop (n + 1) w a (fun v h1 h3 => ((bit_hi W (by omega) s hs v h3).resolve_left (fun z => z h2)).resolve_left (fun z => z (by omega)))).symm
    · rw [if_neg q]
      have q : ¬ W ≤ w := fun z => q ((nI_leI (by omega) (by omega)).mpr z)
      rw [bit_tab s hs w (by omega), SM.eq_2, if_neg (show ¬ 6 ≤ w by omega)]
      have n10 : ¬ (1 : Int32) = 0 := by decide
      by_cases t : s.testBit w = true
      · rw [if_pos t, if_neg n10, if_pos t]
        unfold F_X9_netOf_k25_5
        have e := nI_toInt (n := w) (by omega)
        rw [nI_1, re_net m τ h53 (nI w) σ r (by omega)]
        exact re_netOf τ σ m h53 r W s hW hs h2 e0 n (w + 1) _ (by omega) (by omega)
      · rw [if_neg t, if_pos (rfl : (0 : Int32) = 0), if_neg t, nI_1, Int32.add_zero]
        exact re_netOf τ σ m h53 r W s hW hs h2 e0 n (w + 1) _ (by omega) (by omega)
theorem re23 (τ : St) (lf : Int32 → St → Int32 × St) (m : St) (W s : Nat) (hW : W ≤ 6) (hs : s < 64) (h2 : s < 2 ^ W) (e0 : m.2.1 50 0 = nI W) (hp : ∀ k, k < s → 0 ≤ (m.2.1 59 k).toInt) : ∀ (n w : Nat) (a : Int32), w ≤ 6 → 6 < w + n → 0 ≤ a.toInt → F_X9_settle_L23 lf n τ (nI s) m (nI w) a = (if nI s ≤ 0 then lf (nI s + 1) (sa m 59 (upd (m.2.1 59) s (MX (m.2.1 59) s n w a + 0))) else lf (nI s + 1) (sa m 59 (upd (m.2.1 59) s (MX (m.2.1 59) s n w a + (if F_X9_netOf m (nI s) = 0 then (1 : Int32) else 0)))))
  | 0, w, a, hw, hn, _ => absurd hn (by omega)
  | n + 1, w, a, hw, hn, ha => by
    rw [F_X9_settle_L23, e0]
    by_cases q : nI W ≤ nI w
    · unfold F_X9_settle_k93_9
      rw [if_pos q, nI_clamp (by omega)]
      have q := (nI_leI (by omega) (by omega)).mp q
      rw [MX_stop (n + 1) w a (fun v h1 h3 => ((bit_hi W (by omega) s hs v h3).resolve_left (fun z => z h2)).resolve_left (fun z => z (by omega)))]
    · rw [if_neg q]
      have q : ¬ W ≤ w := fun z => q ((nI_leI (by omega) (by omega)).mpr z)
      rw [bit_tab s hs w (by omega), MX.eq_2, if_neg (show ¬ 6 ≤ w by omega), nI_1]
      by_cases t : s.testBit w = true
      · have xl := (xor_lt s hs w (by omega)).resolve_left (by rw [t]; decide)
        rw [(and_t s hs w (by omega)).resolve_left (by rw [t]; decide), nI_clamp (by omega)]
        have n10 : ¬ (1 : Int32) = 0 := by decide
        simp only [if_pos t, if_neg n10]
        have em : (if (m.2.1 59) (s ^^^ 2 ^ w) ≤ a then a else (m.2.1 59) (s ^^^ 2 ^ w)) = (if a < (m.2.1 59) (s ^^^ 2 ^ w) then (m.2.1 59) (s ^^^ 2 ^ w) else a) := by
          by_cases z : (m.2.1 59) (s ^^^ 2 ^ w) ≤ a
          · rw [if_pos z, if_neg (i_nlt' z)]
          · rw [if_neg z, if_pos (i_lt' z)]
        rw [em]
        refine re23 τ lf m W s hW hs h2 e0 hp n (w + 1) _ (by omega) (by omega) ?_
        split
        · exact hp _ xl
        · exact ha
      · have a0 : (0 : Int32) ≤ a := Int32.le_iff_toInt_le.mpr (by rw [z32]; exact ha)
        rw [if_neg t, if_pos (rfl : (0 : Int32) = 0), if_pos a0, if_neg t]
        exact re23 τ lf m W s hW hs h2 e0 hp n (w + 1) a (by omega) (by omega) ha
theorem ones_w : ∀ W, W < 7 → F_X9_ones (nI (2 ^ W - 1)) = nI W := by decide +kernel
theorem settle_L (σ τ : St) (W : Nat) (hW : W ≤ 6) (eW : τ.2.1 50 0 = nI W) (r : RRow (σ.2.1 27) (τ.2.1 53) 0 0) : ∀ (n s : Nat) (G Q : Nat → Int32), 1 ≤ s → s ≤ 2 ^ W → 2 ^ W < s + n → (∀ k, k < s → G k = Q k ∧ bd (Q k) 0 k) → ∃ (R : Int32) (G' Q' : Nat → Int32), F_X5_fewestPayments_L16 n σ (nI W) (nI s) (sa σ 47 G) = (R, sa σ 47 G') ∧ F_X9_settle_L13 n τ (nI s) (sa τ 59 Q) = (R, sa τ 59 Q') ∧ G' 0 = 0
  | 0, s, G, Q, h1, hs, hn, _ => absurd hn (by omega)
  | n + 1, s, G, Q, h1, hs, hn, hI => by
    have p2 : 2 ^ W ≤ 64 := by
      have : 2 ^ W ≤ 2 ^ 6 := Nat.pow_le_pow_right (by decide) hW
      exact this
    have e6 : (6 : Int32).toInt = 6 := rfl
    have en := nI_toInt (n := W) (by omega)
    have mm : (if (0 : Int32) < (if (6 : Int32) < nI W then (6 : Int32) else nI W) then (if (6 : Int32) < nI W then (6 : Int32) else nI W) else (0 : Int32)) = nI W := by
      rw [if_neg (show ¬ (6 : Int32) < nI W from fun z => by have := i_lt z; omega)]
      by_cases z : (0 : Int32) < nI W
      · rw [if_pos z]
      · rw [if_neg z]
        exact i32e (by have := i_nlt z; rw [z32] at this ⊢; omega)
    have g0 : G 0 = 0 := by
      have q := hI 0 (by omega)
      rw [q.1]
      exact i32e (by have := q.2; rw [z32]; omega)
    rw [F_X5_fewestPayments_L16, F_X9_settle_L13, mm, eW, sh_tab W (by omega), pow_sub hW]
    by_cases q : nI (2 ^ W) ≤ nI s
    · have q' := (nI_leI (by omega) (by omega)).mp q
      have es : s = 2 ^ W := by omega
      rw [if_pos q, if_pos (nI_lt (show 2 ^ W - 1 < s by omega) (by omega)), nI_clamp (by omega)]
      unfold F_X9_settle_k113_4
      rw [eW, sh_tab W (by omega), pow_sub hW, ones_w W (by omega), nI_clamp (by omega)]
      refine ⟨_, G, Q, rfl, ?_, g0⟩
      show (nI W - Q (2 ^ W - 1), sa τ 59 Q) = (nI W - G (2 ^ W - 1), sa τ 59 Q)
      rw [(hI (2 ^ W - 1) (by omega)).1]
    · have q' : ¬ 2 ^ W ≤ s := fun z => q ((nI_leI (by omega) (by omega)).mpr z)
      rw [if_neg q, if_neg (nI_nlt (show s ≤ 2 ^ W - 1 by omega) (by omega)), if_neg (fun z => by have := (num_le (k := 64) s rfl (by decide) (by omega)).mp z; omega)]
      have c1 := ce38 τ σ (fun y1 y2 => F_X5_fewestPayments_L16 n σ (nI W) y1 y2) (nI W) s (by omega) (sa σ 47 G) r 7 0 0 0 (by decide) (by decide)
      rw [show (nI 0) = (0 : Int32) from rfl, sa_sa, sa_at] at c1
      rw [c1]
      have r1 := re23 τ (fun y1 y2 => F_X9_settle_L13 n τ y1 y2) (sa τ 59 Q) W s hW (by omega) (by omega) eW (fun k hk => by rw [sa_at]; exact (hI k hk).2.1) 7 0 0 (by decide) (by decide) (by decide)
      rw [show (nI 0) = (0 : Int32) from rfl, sa_sa, sa_sa, sa_at] at r1
      rw [r1, if_neg (show ¬ nI s ≤ 0 from fun z => by have := (nI_leI (b := 0) (by omega) (by decide)).mp z; omega), nI_1]
      have nt := re_netOf τ σ (sa τ 59 Q) rfl r W s hW (by omega) (by omega) eW 7 0 0 (by decide) (by decide)
      have nt : F_X9_netOf (sa τ 59 Q) (nI s) = _ := nt
      rw [nt]
      have mx : MX G s 7 0 0 = MX Q s 7 0 0 := MX_cg (fun w hw t => (hI _ ((xor_lt s (by omega) w hw).resolve_left (by rw [t]; decide))).1) 7 0 0
      have mb : bd (MX Q s 7 0 0) 0 (s - 1) := MX_b (fun w hw t => by
        have xl := (xor_lt s (by omega) w hw).resolve_left (by rw [t]; decide)
        have q9 := (hI _ xl).2
        exact ⟨q9.1, by have := q9.2; omega⟩) 7 0 0 ⟨by decide, by rw [z32]; omega⟩
      rw [mx]
      generalize MX Q s 7 0 0 = X at mb
      generalize SM (fun w => F_X9_net τ (nI w)) s 7 0 0 = Y
      have ev : (if Y = 0 then X + 1 else X) = X + (if Y = 0 then (1 : Int32) else 0) := by
        split
        · rfl
        · rw [Int32.add_zero]
      rw [ev]
      refine settle_L σ τ W hW eW r n (s + 1) _ _ (by omega) (by omega) (by omega) (fun k hk => ?_)
      by_cases e : k = s
      · subst e
        rw [pk_us, pk_us]
        refine ⟨rfl, ?_⟩
        split
        · have e1 : (X + (1 : Int32)).toInt = X.toInt + 1 := ti_of (oI_add (oI_at _) (oI_lit (x := 1) (a := 1) rfl)) (by omega)
          exact ⟨by omega, by omega⟩
        · rw [Int32.add_zero]
          exact ⟨mb.1, by omega⟩
      · rw [pk_un e, pk_un e]
        exact hI k (by omega)
theorem E_settle {σ τ : St} (h : RR σ τ) : (F_X5_fewestPayments σ (σ.1 96)).1 = (F_X9_settle τ).1 ∧ RR (F_X5_fewestPayments σ (σ.1 96)).2 (F_X9_settle τ).2 := by
  obtain ⟨W, hW, eW⟩ := W_of h
  have p0 : 0 < 2 ^ W := Nat.pow_pos (by decide)
  have p2 : 2 ^ W ≤ 64 := by
    have : 2 ^ W ≤ 2 ^ 6 := Nat.pow_le_pow_right (by decide) hW
    exact this
  have r := R_row h
  have ssg : ∀ (s : St) (k : Nat), sa s k (s.2.1 k) = s := fun s k => by
    refine Prod.ext rfl (Prod.ext ?_ rfl)
    funext j
    show (if j = k then s.2.1 k else s.2.1 j) = s.2.1 j
    split
    · rename_i e; rw [e]
    · rfl
  have r0 := re23 τ (fun y1 y2 => F_X9_settle_L13 64 τ y1 y2) τ W 0 hW (by decide) (by omega) eW (fun k hk => absurd hk (by omega)) 7 0 0 (by decide) (by decide) (by decide)
  have s0 : F_X9_settle τ = F_X9_settle_L13 64 τ (nI 1) (sa τ 59 (upd (τ.2.1 59) 0 0)) := by
    unfold F_X9_settle
    rw [F_X9_settle_L13, eW, sh_tab W (by omega), pow_sub hW, if_neg (show ¬ nI (2 ^ W - 1) < 0 from nI_nlt (a := 2 ^ W - 1) (b := 0) (by omega) (by omega))]
    refine r0.trans ?_
    rw [if_pos (by decide), MX_stop 7 0 0 (fun v _ h3 => by
      have tab : ∀ v, v < 6 → (0 : Nat).testBit v = false := by decide +kernel
      exact tab v h3)]
    rfl
  obtain ⟨R, G', Q', e1, e2, e3⟩ := settle_L σ τ W hW eW r 64 1 (σ.2.1 47) (upd (τ.2.1 59) 0 0) (by decide) (by omega) (by omega) (fun k hk => by
    have : k = 0 := by omega
    subst this
    rw [pk_us]
    exact ⟨h.2.2.2.2.2.2.1, by decide, by decide⟩)
  rw [ssg] at e1
  have c0 : F_X5_fewestPayments σ (σ.1 96) = (R, sa σ 47 G') := by
    rw [h.2.1.1.1, eW]
    exact e1
  rw [c0, s0, e2]
  exact ⟨rfl, h.1, h.2.1, h.2.2.1, h.2.2.2.1, h.2.2.2.2.1, h.2.2.2.2.2.1, e3, h.2.2.2.2.2.2.2⟩
theorem s_now : St_now RR := by
  intro σ τ a1 h
  have r := R_row h
  refine ⟨⟨by rw [h.2.1.1.1]; exact h.2.1.1.2, by rw [h.2.1.2.1.1]; exact h.2.1.2.1.2.2⟩, ⟨h.2.1.1.2, h.2.1.2.1.2⟩, ?_⟩
  have l := now_L r a1 7 0 0 0 (by decide) (by decide)
  have l : F_X9_now τ a1 = nowR τ a1 (F_X2_allDues σ) (F_X2_allKnots σ) := l
  rw [l]
  unfold F_X8_now nowR F_X8_now_k59_5 F_X8_now_k64_8 F_X8_now_k80_11 F_X8_now_k88_14
  by_cases c0 : a1 = 0
  · rw [if_pos c0, if_pos c0]; exact ⟨G_sand r, h⟩
  · rw [if_neg c0, if_neg c0]
    by_cases c1 : a1 = 1
    · rw [if_pos c1, if_pos c1]; exact ⟨G_alive r, h⟩
    · rw [if_neg c1, if_neg c1]
      by_cases c2 : a1 = 2
      · rw [if_pos c2, if_pos c2]; exact ⟨rfl, h⟩
      · rw [if_neg c2, if_neg c2]
        by_cases c3 : a1 = 3
        · rw [if_pos c3, if_pos c3]; exact ⟨rfl, h⟩
        · rw [if_neg c3, if_neg c3]
          by_cases c4 : a1 = 4
          · rw [if_pos c4, if_pos c4]
            exact E_settle h
          · rw [if_neg c4, if_neg c4]
            by_cases c5 : a1 = 5
            · rw [if_pos c5, if_pos c5]; exact ⟨E_salt h, h⟩
            · rw [if_neg c5, if_neg c5]; exact ⟨rfl, h⟩
