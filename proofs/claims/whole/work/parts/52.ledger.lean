/-! ===== the ledger: a moment kept, a moment taken back ===== -/
theorem pm_lt {k : Nat} (h : k < 74) : pm k < 74 := by
  unfold pm
  split
  · decide
  · split
    · decide
    · split <;> omega
theorem pm_inj {a b : Nat} (ha : a < 74) (hb : b < 74) (h : pm a = pm b) : a = b := by
  unfold pm at h
  split at h
  · split at h
    · omega
    · split at h
      · omega
      · split at h <;> omega
  · split at h
    · split at h
      · omega
      · split at h
        · omega
        · split at h <;> omega
    · split at h
      · split at h
        · omega
        · split at h
          · omega
          · split at h <;> omega
      · split at h
        · omega
        · split at h
          · omega
          · split at h <;> omega
theorem RRow.upd {f g : Nat → Int32} {k : Nat} {v : Int32} (h : RRow f g 0 0) (hk : k < 74) : RRow (upd f k v) (upd g (pm k) v) 0 0 := by
  intro j hj
  rw [Nat.zero_add, Nat.zero_add]
  by_cases e : j = k
  · subst e
    rw [pk_us, pk_us]
  · rw [pk_un e, pk_un (fun z => e (pm_inj hj hk z))]
    exact row_at h j hj
theorem IM.cg {g g' : Nat → Int32} {o o' : Nat} (h : IM g o) (e : ∀ k, k < 74 → g' (o' + k) = g (o + k)) : IM g' o' := by
  obtain ⟨h1, h2, h3, h4, h5, h6, h7, h8⟩ := h
  refine ⟨fun c hc => ?_, fun c hc => ?_, fun c hc => ?_, ?_, fun k hk => ?_, fun k hk => ?_, fun w hw => ?_, fun c hc => ?_⟩
  · rw [e c (by omega)]; exact h1 c hc
  · rw [Nat.add_assoc, e (4 + c) (by omega), ← Nat.add_assoc]; exact h2 c hc
  · rw [Nat.add_assoc, e (8 + c) (by omega), ← Nat.add_assoc]; exact h3 c hc
  · rw [e 12 (by decide)]; exact h4
  · rw [Nat.add_assoc, e (14 + k) (by omega), ← Nat.add_assoc]; exact h5 k hk
  · rw [Nat.add_assoc, e (38 + k) (by omega), ← Nat.add_assoc]; exact h6 k hk
  · rw [Nat.add_assoc, e (38 + 7 * w) (by omega), ← Nat.add_assoc]; exact h7 w hw
  · rw [e 12 (by decide), Nat.add_assoc, e (8 + c) (by omega), ← Nat.add_assoc]; exact h8 c hc
theorem IM.upd {g : Nat → Int32} (h : IM g 0) {i : Nat} {v : Int32} (H1 : ∀ c, c < 4 → i = c → bd v 0 5) (H2 : ∀ c, c < 4 → i = 4 + c → bd v 0 20) (H3 : ∀ c, c < 4 → i = 8 + c → bd v 0 29 ∧ (¬ F_X9_has (g 12) (nI c) = 0 → v.toInt ≤ 20)) (H4 : i = 12 → bd v 0 15 ∧ ∀ c, c < 4 → ¬ F_X9_has v (nI c) = 0 → (g (8 + c)).toInt ≤ 20) (H5 : ∀ k, k < 24 → i = 14 + k → bd v 0 99) (H6 : ∀ k, k < 36 → i = 38 + k → bd v 0 60) (H7 : ∀ w, w < 6 → i = 38 + 7 * w → v = 0) : IM (upd g i v) 0 := by
  obtain ⟨h1, h2, h3, h4, h5, h6, h7, h8⟩ := h
  rw [IM]
  simp only [Nat.zero_add] at h1 h2 h3 h4 h5 h6 h7 h8 ⊢
  refine ⟨fun c hc => ?_, fun c hc => ?_, fun c hc => ?_, ?_, fun k hk => ?_, fun k hk => ?_, fun w hw => ?_, fun c hc => ?_⟩
  · by_cases e : c = i
    · rw [e, pk_us]; exact H1 c hc e.symm
    · rw [pk_un e]; exact h1 c hc
  · by_cases e : 4 + c = i
    · rw [e, pk_us]; exact H2 c hc e.symm
    · rw [pk_un e]; exact h2 c hc
  · by_cases e : 8 + c = i
    · rw [e, pk_us]; exact (H3 c hc e.symm).1
    · rw [pk_un e]; exact h3 c hc
  · by_cases e : 12 = i
    · rw [← e, pk_us]; exact (H4 e.symm).1
    · rw [pk_un e]; exact h4
  · by_cases e : 14 + k = i
    · rw [e, pk_us]; exact H5 k hk e.symm
    · rw [pk_un e]; exact h5 k hk
  · by_cases e : 38 + k = i
    · rw [e, pk_us]; exact H6 k hk e.symm
    · rw [pk_un e]; exact h6 k hk
  · by_cases e : 38 + 7 * w = i
    · rw [e, pk_us]; exact H7 w hw e.symm
    · rw [pk_un e]; exact h7 w hw
  · by_cases e12 : 12 = i
    · rw [← e12, pk_us, pk_un (by omega)]
      exact (H4 e12.symm).2 c hc
    · rw [pk_un e12]
      by_cases e : 8 + c = i
      · rw [e, pk_us]; exact (H3 c hc e.symm).2
      · rw [pk_un e]; exact h8 c hc
theorem nI_self {c : Int32} (h : 0 ≤ c.toInt) : c = nI c.toInt.toNat := by
  have h2 : c.toInt < 2147483648 := Int32.toInt_lt c
  exact i32e (by rw [nI_toInt (by omega)]; omega)
/-! the deeds' single steps -/
section UPDS
variable {f g : Nat → Int32} {c w v : Int32}
theorem U_place (h : RRow f g 0 0) (hc : 0 ≤ c.toInt ∧ c.toInt < 4) : RRow (upd f ((2 : Int32) + c).toNatClampNeg v) (upd g c.toNatClampNeg v) 0 0 := by
  rw [ix1 (K := 2) (k := 2) rfl (by omega) (by decide), cl_of (x := c)]
  have := RRow.upd (v := v) h (k := 2 + c.toInt.toNat) (by omega)
  rw [pm_lo (by omega) (by omega), show 2 + c.toInt.toNat - 2 = c.toInt.toNat by omega] at this
  exact this
theorem U_cups (h : RRow f g 0 0) (hc : 0 ≤ c.toInt ∧ c.toInt < 4) : RRow (upd f ((6 : Int32) + c).toNatClampNeg v) (upd g ((4 : Int32) + c).toNatClampNeg v) 0 0 := by
  rw [ix1 (K := 6) (k := 6) rfl (by omega) (by decide), ix1 (K := 4) (k := 4) rfl (by omega) (by decide)]
  have := RRow.upd (v := v) h (k := 6 + c.toInt.toNat) (by omega)
  rw [pm_lo (by omega) (by omega), show 6 + c.toInt.toNat - 2 = 4 + c.toInt.toNat by omega] at this
  exact this
theorem U_dry (h : RRow f g 0 0) (hc : 0 ≤ c.toInt ∧ c.toInt < 4) : RRow (upd f ((10 : Int32) + c).toNatClampNeg v) (upd g ((8 : Int32) + c).toNatClampNeg v) 0 0 := by
  rw [ix1 (K := 10) (k := 10) rfl (by omega) (by decide), ix1 (K := 8) (k := 8) rfl (by omega) (by decide)]
  have := RRow.upd (v := v) h (k := 10 + c.toInt.toNat) (by omega)
  rw [pm_lo (by omega) (by omega), show 10 + c.toInt.toNat - 2 = 8 + c.toInt.toNat by omega] at this
  exact this
theorem U_knots (h : RRow f g 0 0) (hc : 0 ≤ c.toInt ∧ c.toInt < 4) (hw : 0 ≤ w.toInt ∧ w.toInt < 6) : RRow (upd f (((14 : Int32) + (c * (6 : Int32))) + w).toNatClampNeg v) (upd g (((14 : Int32) + ((6 : Int32) * c)) + w).toNatClampNeg v) 0 0 := by
  rw [ixA (K := 14) (k := 14) rfl (by omega) (by omega) (by decide), ixB (K := 14) (k := 14) rfl (by omega) (by omega) (by decide)]
  have := RRow.upd (v := v) h (k := 14 + 6 * c.toInt.toNat + w.toInt.toNat) (by omega)
  rw [pm_hi (by omega)] at this
  exact this
theorem U_dues (h : RRow f g 0 0) (hc : 0 ≤ c.toInt ∧ c.toInt < 6) (hw : 0 ≤ w.toInt ∧ w.toInt < 6) : RRow (upd f (((38 : Int32) + (c * (6 : Int32))) + w).toNatClampNeg v) (upd g (((38 : Int32) + ((6 : Int32) * c)) + w).toNatClampNeg v) 0 0 := by
  rw [ixA (K := 38) (k := 38) rfl (by omega) (by omega) (by decide), ixB (K := 38) (k := 38) rfl (by omega) (by omega) (by decide)]
  have := RRow.upd (v := v) h (k := 38 + 6 * c.toInt.toNat + w.toInt.toNat) (by omega)
  rw [pm_hi (by omega)] at this
  exact this
theorem I_place (h : IM g 0) (hc : 0 ≤ c.toInt ∧ c.toInt < 4) (hv : bd v 0 5) : IM (upd g c.toNatClampNeg v) 0 := by
  rw [cl_of]
  exact IM.upd h (fun _ _ _ => hv) (fun _ _ e => absurd e (by omega)) (fun _ _ e => absurd e (by omega)) (fun e => absurd e (by omega)) (fun _ _ e => absurd e (by omega)) (fun _ _ e => absurd e (by omega)) (fun _ _ e => absurd e (by omega))
theorem I_cups (h : IM g 0) (hc : 0 ≤ c.toInt ∧ c.toInt < 4) (hv : bd v 0 20) : IM (upd g ((4 : Int32) + c).toNatClampNeg v) 0 := by
  rw [ix1 (K := 4) (k := 4) rfl (by omega) (by decide)]
  exact IM.upd h (fun _ _ e => absurd e (by omega)) (fun _ _ _ => hv) (fun _ _ e => absurd e (by omega)) (fun e => absurd e (by omega)) (fun _ _ e => absurd e (by omega)) (fun _ _ e => absurd e (by omega)) (fun _ _ e => absurd e (by omega))
theorem I_dry (h : IM g 0) (hc : 0 ≤ c.toInt ∧ c.toInt < 4) (hv : bd v 0 29) (ha : ¬ F_X9_has (g 12) c = 0 → v.toInt ≤ 20) : IM (upd g ((8 : Int32) + c).toNatClampNeg v) 0 := by
  rw [ix1 (K := 8) (k := 8) rfl (by omega) (by decide)]
  exact IM.upd h (fun _ _ e => absurd e (by omega)) (fun _ _ e => absurd e (by omega)) (fun d hd e => ⟨hv, fun q => ha (by rw [nI_self hc.1, show c.toInt.toNat = d by omega]; exact q)⟩) (fun e => absurd e (by omega)) (fun _ _ e => absurd e (by omega)) (fun _ _ e => absurd e (by omega)) (fun _ _ e => absurd e (by omega))
theorem I_knots (h : IM g 0) (hc : 0 ≤ c.toInt ∧ c.toInt < 4) (hw : 0 ≤ w.toInt ∧ w.toInt < 6) (hv : bd v 0 99) : IM (upd g (((14 : Int32) + ((6 : Int32) * c)) + w).toNatClampNeg v) 0 := by
  rw [ixB (K := 14) (k := 14) rfl (by omega) (by omega) (by decide)]
  exact IM.upd h (fun _ _ e => absurd e (by omega)) (fun _ _ e => absurd e (by omega)) (fun _ _ e => absurd e (by omega)) (fun e => absurd e (by omega)) (fun _ _ _ => hv) (fun _ _ e => absurd e (by omega)) (fun _ _ e => absurd e (by omega))
theorem I_dues (h : IM g 0) (hc : 0 ≤ c.toInt ∧ c.toInt < 6) (hw : 0 ≤ w.toInt ∧ w.toInt < 6) (hn : c.toInt ≠ w.toInt) (hv : bd v 0 60) : IM (upd g (((38 : Int32) + ((6 : Int32) * c)) + w).toNatClampNeg v) 0 := by
  rw [ixB (K := 38) (k := 38) rfl (by omega) (by omega) (by decide)]
  exact IM.upd h (fun _ _ e => absurd e (by omega)) (fun _ _ e => absurd e (by omega)) (fun _ _ e => absurd e (by omega)) (fun e => absurd e (by omega)) (fun _ _ e => absurd e (by omega)) (fun _ _ _ => hv) (fun _ _ e => absurd e (by omega))
theorem L_knots (c w : Int32) (hc : 0 ≤ c.toInt ∧ c.toInt < 4) (hw : 0 ≤ w.toInt ∧ w.toInt < 6) : (((14 : Int32) + ((6 : Int32) * c)) + w).toNatClampNeg < 74 := by
  rw [ixB (K := 14) (k := 14) rfl (by omega) (by omega) (by decide)]; omega
theorem D_knots (h : IM g 0) (hc : 0 ≤ c.toInt ∧ c.toInt < 4) (hw : 0 ≤ w.toInt ∧ w.toInt < 6) : bd (g (((14 : Int32) + ((6 : Int32) * c)) + w).toNatClampNeg) 0 99 := by
  rw [ixB (K := 14) (k := 14) rfl (by omega) (by omega) (by decide)]
  have := h.2.2.2.2.1 (6 * c.toInt.toNat + w.toInt.toNat) (by omega)
  rw [Nat.zero_add, ← Nat.add_assoc] at this
  exact this
theorem D_place (h : IM g 0) (hc : 0 ≤ c.toInt ∧ c.toInt < 4) : bd (g c.toNatClampNeg) 0 5 := by
  have := h.1 c.toInt.toNat (by omega)
  rw [Nat.zero_add] at this
  exact this
theorem D_cups (h : IM g 0) (hc : 0 ≤ c.toInt ∧ c.toInt < 4) : bd (g ((4 : Int32) + c).toNatClampNeg) 0 20 := by
  rw [ix1 (K := 4) (k := 4) rfl (by omega) (by decide)]
  have := h.2.1 c.toInt.toNat (by omega)
  rw [Nat.zero_add] at this
  exact this
theorem D_dry (h : IM g 0) (hc : 0 ≤ c.toInt ∧ c.toInt < 4) : bd (g ((8 : Int32) + c).toNatClampNeg) 0 29 := by
  rw [ix1 (K := 8) (k := 8) rfl (by omega) (by decide)]
  have := h.2.2.1 c.toInt.toNat (by omega)
  rw [Nat.zero_add] at this
  exact this
theorem D_dryA (h : IM g 0) (hc : 0 ≤ c.toInt ∧ c.toInt < 4) (ha : ¬ F_X9_has (g 12) c = 0) : (g ((8 : Int32) + c).toNatClampNeg).toInt ≤ 20 := by
  rw [ix1 (K := 8) (k := 8) rfl (by omega) (by decide)]
  have := h.2.2.2.2.2.2.2 c.toInt.toNat (by omega)
  rw [Nat.zero_add, Nat.zero_add] at this
  exact this (by rw [← nI_self hc.1]; exact ha)
theorem D_dues (h : IM g 0) (hc : 0 ≤ c.toInt ∧ c.toInt < 6) (hw : 0 ≤ w.toInt ∧ w.toInt < 6) : bd (g (((38 : Int32) + ((6 : Int32) * c)) + w).toNatClampNeg) 0 60 := by
  rw [ixB (K := 38) (k := 38) rfl (by omega) (by omega) (by decide)]
  have := h.2.2.2.2.2.1 (6 * c.toInt.toNat + w.toInt.toNat) (by omega)
  rw [Nat.zero_add, ← Nat.add_assoc] at this
  exact this
end UPDS
/-! the reference's keeps -/
theorem kp70 (τ m54 : St) (B : Nat) (hB : 75 ≤ B ∧ B ≤ 741) (hb : ((75 : Int32) + ((74 : Int32) * ((m54.2.1 53) 74))) = nI B) : ∀ (n x : Nat) (m : St), x ≤ 74 → 74 < x + n → F_X9_keeps_L70 n τ m54 (nI x) m = sa m 53 (upd (fun i => if B + x ≤ i ∧ i < B + 74 then m.2.1 53 (i - B) else m.2.1 53 i) 74 ((m.2.1 53 74) + 1))
  | 0, x, m, hx, hn => absurd hn (by omega)
  | n + 1, x, m, hx, hn => by
    rw [F_X9_keeps_L70]
    by_cases q : (74 : Int32) ≤ nI x
    · rw [if_pos q]
      have q : 74 ≤ x := (num_le x rfl (by decide) (by omega)).mp q
      congr 2
      funext i
      rw [if_neg (by omega)]
    · rw [if_neg q]
      have q : ¬ 74 ≤ x := fun z => q ((num_le x rfl (by decide) (by omega)).mpr z)
      rw [hb, nI_add, nI_clamp (by omega), nI_clamp (by omega), nI_1, kp70 τ m54 B hB hb n (x + 1) _ (by omega) (by omega), sa_sa]
      show sa m 53 (upd (fun i => if B + (x + 1) ≤ i ∧ i < B + 74 then upd (m.2.1 53) (B + x) (m.2.1 53 x) (i - B) else upd (m.2.1 53) (B + x) (m.2.1 53 x) i) 74 ((upd (m.2.1 53) (B + x) (m.2.1 53 x) 74) + 1)) = _
      rw [pk_un (show 74 ≠ B + x by omega)]
      congr 2
      funext i
      by_cases c1 : B + (x + 1) ≤ i ∧ i < B + 74
      · rw [if_pos c1, if_pos (by omega), pk_un (by omega)]
      · rw [if_neg c1]
        by_cases c2 : i = B + x
        · subst c2
          rw [pk_us, if_pos (by omega), show B + x - B = x by omega]
        · rw [pk_un c2, if_neg (by omega)]
theorem kp15 (jf : St → St) (τ : St) : ∀ (n x : Nat) (m : St), 75 ≤ x → x ≤ 741 → 741 < x + n → F_X9_keeps_L15 jf n τ (nI x) m = jf (sa m 53 (upd (fun i => if x ≤ i ∧ i < 741 then m.2.1 53 (i + 74) else m.2.1 53 i) 74 ((m.2.1 53 74) - 1)))
  | 0, x, m, h1, hx, hn => absurd hn (by omega)
  | n + 1, x, m, h1, hx, hn => by
    rw [F_X9_keeps_L15]
    by_cases q : (741 : Int32) ≤ nI x
    · rw [if_pos q]
      have q : 741 ≤ x := (num_le x rfl (by decide) (by omega)).mp q
      congr 3
      funext i
      rw [if_neg (by omega)]
    · rw [if_neg q]
      have q : ¬ 741 ≤ x := fun z => q ((num_le x rfl (by decide) (by omega)).mpr z)
      rw [show nI x + (74 : Int32) = nI (x + 74) from nI_add x 74, nI_clamp (by omega), nI_clamp (by omega), nI_1, kp15 jf τ n (x + 1) _ (by omega) (by omega) (by omega), sa_sa]
      show jf (sa m 53 (upd (fun i => if x + 1 ≤ i ∧ i < 741 then upd (m.2.1 53) x (m.2.1 53 (x + 74)) (i + 74) else upd (m.2.1 53) x (m.2.1 53 (x + 74)) i) 74 ((upd (m.2.1 53) x (m.2.1 53 (x + 74)) 74) - 1))) = _
      rw [pk_un (show 74 ≠ x by omega)]
      congr 3
      funext i
      by_cases c1 : x + 1 ≤ i ∧ i < 741
      · rw [if_pos c1, if_pos (by omega), pk_un (by omega)]
      · rw [if_neg c1]
        by_cases c2 : i = x
        · subst c2
          rw [pk_us, if_pos (by omega)]
        · rw [pk_un c2, if_neg (by omega)]
theorem sa_at (s : St) (p : Nat) (f : Nat → Int32) : (sa s p f).2.1 p = f := if_pos rfl
theorem sa_si (s : St) (k p : Nat) (v : Int32) (f : Nat → Int32) : sa (si s k v) p f = si (sa s p f) k v := rfl
/-- a moment kept on both sides -/
theorem KR {σ τ : St} (h : LG (σ.2.1 27) (σ.2.1 28) (σ.1 802) (τ.2.1 53) 0) : ∃ (P : Nat → Int32) (U : Int32) (G : Nat → Int32), F_X1_remember σ = si (sa σ 28 P) 802 U ∧ F_X9_keeps τ = sa τ 53 G ∧ LG (σ.2.1 27) P U G 0 ∧ ∀ k, k < 74 → G k = τ.2.1 53 k := by
  obtain ⟨hr, hi, hu, hb, hp⟩ := h
  have e10 : (10 : Int32).toInt = 10 := rfl
  rw [Nat.zero_add] at hu
  by_cases c : (σ.1 802) < (10 : Int32)
  · have c2 := i_lt c
    obtain ⟨u, eu⟩ : ∃ u : Nat, u = (σ.1 802).toInt.toNat := ⟨_, rfl⟩
    have en : σ.1 802 = nI u := by rw [eu]; exact nI_self hb.1
    have e1 : F_X1_remember σ = si (sa σ 28 (va_cpy (σ.2.1 27) (σ.2.1 28) 0 (74 * u) 74)) 802 ((σ.1 802) + 1) := by
      unfold F_X1_remember
      rw [if_pos c]
      have w : F_X2_writeTo σ (σ.1 802) = sa σ 28 (va_cpy (σ.2.1 27) (σ.2.1 28) 0 (74 * u) 74) := by
        unfold F_X2_writeTo
        have m1 : ((σ.1 802) * (74 : Int32)).toNatClampNeg = 74 * u := by
          rw [cn_of (oI_mul (oI_at (σ.1 802)) (oI_lit (x := 74) (a := 74) rfl)) (by omega), eu]; omega
        have m2 : ¬ (740 : Int32) < (((σ.1 802) + (1 : Int32)) * (74 : Int32)) := fun q => by
          have := i_lt q
          rw [ti_of (oI_mul (oI_add (oI_at (σ.1 802)) (oI_lit (x := 1) (a := 1) rfl)) (oI_lit (x := 74) (a := 74) rfl)) (by omega)] at this
          have e7 : (740 : Int32).toInt = 740 := rfl
          omega
        rw [if_neg (fun q => by have := i_lt q; rw [z32] at this; omega), if_neg m2, m1]
      rw [w]
      rfl
    have k1 : ¬ (τ.2.1 53) 74 = (10 : Int32) := fun q => by rw [← hu] at q; have := i_eq q; omega
    have e2 : F_X9_keeps τ = sa τ 53 (upd (fun i => if 75 + 74 * u + 0 ≤ i ∧ i < 75 + 74 * u + 74 then τ.2.1 53 (i - (75 + 74 * u)) else τ.2.1 53 i) 74 ((τ.2.1 53 74) + 1)) := by
      unfold F_X9_keeps
      rw [if_neg k1]
      refine kp70 τ τ (75 + 74 * u) (by omega) ?_ 75 0 τ (by decide) (by decide)
      rw [← hu, en]
      refine i32e ?_
      rw [ti_of (oI_add (oI_lit (x := 75) (a := 75) rfl) (oI_mul (oI_lit (x := 74) (a := 74) rfl) (oI_at (nI u)))) (by rw [nI_toInt (by omega)]; omega), nI_toInt (by omega), nI_toInt (by omega)]
      omega
    refine ⟨_, _, _, e1, e2, ⟨fun k hk => ?_, IM.cg hi (fun k hk => ?_), ?_, ?_, ?_⟩, fun k hk => ?_⟩
    · have := pm_lt hk
      rw [Nat.zero_add, Nat.zero_add, pk_un (by omega), if_neg (by omega)]
      exact row_at hr k hk
    · rw [Nat.zero_add, pk_un (by omega), if_neg (by omega)]
    · rw [Nat.zero_add, pk_us, ← hu]
    · have e : ((σ.1 802) + (1 : Int32)).toInt = (σ.1 802).toInt + 1 := ti_of (oI_add (oI_at _) (oI_lit (x := 1) (a := 1) rfl)) (by omega)
      exact ⟨by omega, by omega⟩
    · intro j hj
      have e : ((σ.1 802) + (1 : Int32)).toInt = (σ.1 802).toInt + 1 := ti_of (oI_add (oI_at _) (oI_lit (x := 1) (a := 1) rfl)) (by omega)
      by_cases cj : j = u
      · subst cj
        refine ⟨fun k hk => ?_, IM.cg hi (fun k hk => ?_)⟩
        · have := pm_lt hk
          rw [pk_cpy_in (by omega) (by omega), pk_un (by omega), if_pos (by omega)]
          have := row_at hr k hk
          rw [show 0 + (74 * j + k - 74 * j) = k by omega, show 0 + 75 + 74 * j + pm k - (75 + 74 * j) = pm k by omega]
          exact this
        · rw [pk_un (by omega), if_pos (by omega), show 0 + 75 + 74 * j + k - (75 + 74 * j) = k by omega, Nat.zero_add]
      · obtain ⟨q1, q2⟩ := hp j (by omega)
        refine ⟨fun k hk => ?_, IM.cg q2 (fun k hk => ?_)⟩
        · have := pm_lt hk
          rw [pk_cpy_out (by omega), pk_un (by omega), if_neg (by omega)]
          exact q1 k hk
        · rw [pk_un (by omega), if_neg (by omega)]
    · rw [pk_un (by omega), if_neg (by omega)]
  · have c2 := i_nlt c
    have eu : (σ.1 802).toInt = 10 := by omega
    have e1 : F_X1_remember σ = si (sa σ 28 (va_cpy (σ.2.1 27) (va_cpy (σ.2.1 28) (σ.2.1 28) 74 0 666) 0 666 74)) 802 ((9 : Int32) + 1) := by
      unfold F_X1_remember
      rw [if_neg c]
      have w : F_X2_writeTo (si (sa σ 28 (va_cpy (σ.2.1 28) (σ.2.1 28) 74 0 666)) 802 (9 : Int32)) (9 : Int32) = si (sa σ 28 (va_cpy (σ.2.1 27) (va_cpy (σ.2.1 28) (σ.2.1 28) 74 0 666) 0 666 74)) 802 (9 : Int32) := by
        unfold F_X2_writeTo
        rw [if_neg (by decide), if_neg (by decide), sa_si, sa_sa]
        rfl
      rw [w]
      show si (si (sa σ 28 (va_cpy (σ.2.1 27) (va_cpy (σ.2.1 28) (σ.2.1 28) 74 0 666) 0 666 74)) 802 (9 : Int32)) 802 ((9 : Int32) + 1) = _
      rw [si_si]
    have k1 : (τ.2.1 53) 74 = (10 : Int32) := by rw [← hu]; exact i32e (by omega)
    have e2 : ∃ G, F_X9_keeps τ = sa τ 53 G ∧ (∀ k, k < 74 → G k = τ.2.1 53 k) ∧ G 74 = 10 ∧ (∀ j, j < 9 → ∀ k, k < 74 → G (75 + 74 * j + k) = τ.2.1 53 (75 + 74 * (j + 1) + k)) ∧ ∀ k, k < 74 → G (75 + 74 * 9 + k) = τ.2.1 53 k := by
      unfold F_X9_keeps
      rw [if_pos k1, show (75 : Int32) = nI 75 from rfl, kp15 _ τ 667 75 τ (by decide) (by decide) (by decide)]
      show ∃ G, F_X9_keeps_J54 τ _ = sa τ 53 G ∧ _
      unfold F_X9_keeps_J54
      rw [show (0 : Int32) = nI 0 from rfl, kp70 τ _ 741 (by decide) (by
        show ((75 : Int32) + ((74 : Int32) * (upd (fun i => if 75 ≤ i ∧ i < 741 then τ.2.1 53 (i + 74) else τ.2.1 53 i) 74 ((τ.2.1 53 74) - 1) 74))) = nI 741
        rw [pk_us, k1]; decide) 75 0 _ (by decide) (by decide), sa_sa]
      refine ⟨_, rfl, fun k hk => ?_, ?_, fun j hj k hk => ?_, fun k hk => ?_⟩
      · rw [pk_un (by omega), if_neg (by omega), sa_at, pk_un (by omega), if_neg (by omega)]
      · rw [pk_us, sa_at, pk_us, k1]; decide
      · rw [pk_un (by omega), if_neg (by omega), sa_at, pk_un (by omega), if_pos (by omega), show 75 + 74 * j + k + 74 = 75 + 74 * (j + 1) + k by omega]
      · rw [pk_un (by omega), if_pos (by omega), sa_at, show 75 + 74 * 9 + k - 741 = k by omega, pk_un (by omega), if_neg (by omega)]
    obtain ⟨G, g1, g2, g3, g4, g5⟩ := e2
    refine ⟨_, _, G, e1, g1, ⟨fun k hk => ?_, IM.cg hi (fun k hk => ?_), ?_, by decide, ?_⟩, g2⟩
    · rw [Nat.zero_add, Nat.zero_add, g2 _ (pm_lt hk)]
      exact row_at hr k hk
    · rw [Nat.zero_add, g2 k hk]
    · rw [Nat.zero_add, g3]; decide
    · intro j hj
      have hj : (j : Int) < 10 := hj
      by_cases cj : j = 9
      · subst cj
        refine ⟨fun k hk => ?_, IM.cg hi (fun k hk => ?_)⟩
        · rw [pk_cpy_in (by omega) (by omega), show 0 + 75 + 74 * 9 + pm k = 75 + 74 * 9 + pm k by omega, g5 _ (pm_lt hk), show 0 + (74 * 9 + k - 666) = k by omega]
          exact row_at hr k hk
        · rw [show 0 + 75 + 74 * 9 + k = 75 + 74 * 9 + k by omega, g5 k hk, Nat.zero_add]
      · obtain ⟨q1, q2⟩ := hp (j + 1) (by omega)
        refine ⟨fun k hk => ?_, IM.cg q2 (fun k hk => ?_)⟩
        · rw [pk_cpy_out (by omega), pk_cpy_in (by omega) (by omega), show 0 + 75 + 74 * j + pm k = 75 + 74 * j + pm k by omega, g4 j (by omega) _ (pm_lt hk)]
          have := q1 k hk
          rw [show 74 + (74 * j + k - 0) = 74 * (j + 1) + k by omega, this]
        · rw [show 0 + 75 + 74 * j + k = 75 + 74 * j + k by omega, g4 j (by omega) k hk]
theorem LG.new {row P : Nat → Int32} {U : Int32} {G row' G' : Nat → Int32} (h : LG row P U G 0) (h1 : RRow row' G' 0 0) (h2 : IM G' 0) (h3 : ∀ k, 74 ≤ k → G' k = G k) : LG row' P U G' 0 := by
  obtain ⟨-, -, hu, hb, hp⟩ := h
  refine ⟨h1, h2, ?_, hb, fun j hj => ?_⟩
  · rw [h3 _ (by omega)]; exact hu
  · obtain ⟨q1, q2⟩ := hp j hj
    refine ⟨fun k hk => ?_, IM.cg q2 (fun k hk => ?_)⟩
    · rw [h3 _ (by omega)]; exact q1 k hk
    · rw [h3 _ (by omega)]
