/-! ===== undo, images, stones, marks ===== -/
theorem un40 (τ : St) (B : Nat) (hB : 75 ≤ B ∧ B ≤ 741) (hb : ((75 : Int32) + ((74 : Int32) * (((τ.2.1 53) 74) - (1 : Int32)))) = nI B) : ∀ (n x : Nat) (m : St), x ≤ 74 → 74 < x + n → F_X9_undo_L40 n τ (nI x) m = (m.2.1 53 74, sa m 53 (fun i => if x ≤ i ∧ i < 74 then m.2.1 53 (B + i) else m.2.1 53 i))
  | 0, x, m, hx, hn => absurd hn (by omega)
  | n + 1, x, m, hx, hn => by
    rw [F_X9_undo_L40]
    by_cases q : (74 : Int32) ≤ nI x
    · rw [if_pos q]
      have q : 74 ≤ x := (num_le x rfl (by decide) (by omega)).mp q
      have e : (fun i => if x ≤ i ∧ i < 74 then m.2.1 53 (B + i) else m.2.1 53 i) = m.2.1 53 := by
        funext i
        rw [if_neg (by omega)]
      rw [e]
      refine Prod.ext rfl (Prod.ext rfl (Prod.ext ?_ rfl))
      funext j
      show m.2.1 j = if j = 53 then m.2.1 53 else m.2.1 j
      split
      · rename_i e; rw [e]
      · rfl
    · rw [if_neg q]
      have q : ¬ 74 ≤ x := fun z => q ((num_le x rfl (by decide) (by omega)).mpr z)
      rw [hb, nI_add, nI_clamp (by omega), nI_clamp (by omega), nI_1, un40 τ B hB hb n (x + 1) _ (by omega) (by omega), sa_sa, sa_at, pk_un (show 74 ≠ x by omega)]
      congr 2
      funext i
      by_cases c1 : x + 1 ≤ i ∧ i < 74
      · rw [if_pos c1, if_pos (by omega), pk_un (by omega)]
      · rw [if_neg c1]
        by_cases c2 : i = x
        · subst c2
          rw [pk_us, if_pos (by omega)]
        · rw [pk_un c2, if_neg (by omega)]
theorem s_undo : St_undo RR := by
  intro σ τ h
  have L := h.2.2.1
  have hu := R_und h
  have hb := L.2.2.2.1
  refine ⟨hb, R_74 h, ?_⟩
  show (F_X8_undo_k4_2 σ (F_X1_takeBack σ)).1 = _ ∧ RR (F_X8_undo_k4_2 σ (F_X1_takeBack σ)).2 _
  unfold F_X1_takeBack F_X9_undo
  by_cases c : (τ.2.1 53) 74 = 0
  · rw [if_pos c, if_neg (fun q => by have := i_lt q; rw [hu, c] at this; omega)]
    exact ⟨rfl, h⟩
  · rw [if_neg c]
    have c2 := i_ne c
    rw [← hu, z32] at c2
    rw [if_pos (Int32.lt_iff_toInt_lt.mpr (by rw [z32]; omega))]
    obtain ⟨u, eu⟩ : ∃ u : Nat, u = (σ.1 802).toInt.toNat - 1 := ⟨_, rfl⟩
    have ev : ((σ.1 802) - (1 : Int32)).toInt = (σ.1 802).toInt - 1 := ti_of (oI_sub (oI_at _) (oI_lit (x := 1) (a := 1) rfl)) (by omega)
    obtain ⟨v, hv⟩ : ∃ v, v = (σ.1 802) - (1 : Int32) := ⟨_, rfl⟩
    rw [← hv] at ev
    have rf : F_X2_readFrom (si σ 802 v) v = sa (si σ 802 v) 27 (va_cpy (σ.2.1 28) (σ.2.1 27) (74 * u) 0 74) := by
      unfold F_X2_readFrom
      have m1 : (v * (74 : Int32)).toNatClampNeg = 74 * u := by
        rw [cn_of (oI_mul (oI_at v) (oI_lit (x := 74) (a := 74) rfl)) (by omega), eu]; omega
      have m2 : ¬ (740 : Int32) < ((v + (1 : Int32)) * (74 : Int32)) := fun q => by
        have := i_lt q
        rw [ti_of (oI_mul (oI_add (oI_at v) (oI_lit (x := 1) (a := 1) rfl)) (oI_lit (x := 74) (a := 74) rfl)) (by omega)] at this
        have e7 : (740 : Int32).toInt = 740 := rfl
        omega
      rw [if_neg (fun q => by have := i_lt q; rw [z32] at this; omega), if_neg m2, m1]
      rfl
    have u4 := un40 τ (75 + 74 * u) (by omega) (by
      rw [← hu, ← hv]
      refine i32e ?_
      rw [ti_of (oI_add (oI_lit (x := 75) (a := 75) rfl) (oI_mul (oI_lit (x := 74) (a := 74) rfl) (oI_at v))) (by omega), nI_toInt (by omega)]
      omega) 75 0 (sa τ 53 (upd (τ.2.1 53) 74 (((τ.2.1 53) 74) - (1 : Int32)))) (by decide) (by decide)
    rw [show (nI 0) = (0 : Int32) from rfl] at u4
    rw [← hv, rf, u4]
    rw [sa_at, sa_sa, pk_us, ← hu, ← hv]
    refine ⟨rfl, h.1, h.2.1, ⟨fun k hk => ?_, ?_, ?_, ⟨by show 0 ≤ v.toInt; omega, by show v.toInt ≤ 10; omega⟩, fun j hj => ?_⟩, h.2.2.2⟩
    · show va_cpy (σ.2.1 28) (σ.2.1 27) (74 * u) 0 74 (0 + k) = (fun i => if 0 ≤ i ∧ i < 74 then upd (τ.2.1 53) 74 v (75 + 74 * u + i) else upd (τ.2.1 53) 74 v i) (0 + pm k)
      have := pm_lt hk
      rw [pk_cpy_in (by omega) (by omega)]
      show _ = if 0 ≤ 0 + pm k ∧ 0 + pm k < 74 then upd (τ.2.1 53) 74 v (75 + 74 * u + (0 + pm k)) else upd (τ.2.1 53) 74 v (0 + pm k)
      rw [if_pos (by omega), pk_un (by omega)]
      have q := (L.2.2.2.2 u (by omega)).1 k hk
      rw [show 74 * u + (0 + k - 0) = 74 * u + k by omega, q]
      exact congrArg (τ.2.1 53) (by omega)
    · refine IM.cg (L.2.2.2.2 u (by omega)).2 (fun k hk => ?_)
      show (if 0 ≤ 0 + k ∧ 0 + k < 74 then upd (τ.2.1 53) 74 v (75 + 74 * u + (0 + k)) else upd (τ.2.1 53) 74 v (0 + k)) = _
      rw [if_pos (by omega), pk_un (by omega)]
      exact congrArg (τ.2.1 53) (by omega)
    · show v = if 0 ≤ 0 + 74 ∧ 0 + 74 < 74 then upd (τ.2.1 53) 74 v (75 + 74 * u + (0 + 74)) else upd (τ.2.1 53) 74 v (0 + 74)
      rw [if_neg (by omega)]
      exact pk_us.symm
    · have hj : (j : Int) < v.toInt := hj
      obtain ⟨q1, q2⟩ := L.2.2.2.2 j (by omega)
      have out : ∀ i, 75 ≤ i → (fun i => if 0 ≤ i ∧ i < 74 then upd (τ.2.1 53) 74 v (75 + 74 * u + i) else upd (τ.2.1 53) 74 v i) i = τ.2.1 53 i := fun i hi => by
        show (if 0 ≤ i ∧ i < 74 then upd (τ.2.1 53) 74 v (75 + 74 * u + i) else upd (τ.2.1 53) 74 v i) = _
        rw [if_neg (by omega), pk_un (by omega)]
      exact ⟨fun k hk => (q1 k hk).trans (out _ (by omega)).symm, IM.cg q2 (fun k hk => out _ (by omega))⟩
theorem LG.cg {row past row' past' : Nat → Int32} {und und' : Int32} {g g' : Nat → Int32} {o o' : Nat} (h : LG row past und g o) (h1 : ∀ k, k < 74 → row' k = row k) (h2 : ∀ k, k < 740 → past' k = past k) (h3 : und' = und) (h4 : ∀ k, k < 815 → g' (o' + k) = g (o + k)) : LG row' past' und' g' o' := by
  obtain ⟨a, b, c, d, e⟩ := h
  subst h3
  refine ⟨fun k hk => ?_, IM.cg b (fun k hk => h4 k (by omega)), by rw [h4 74 (by decide)]; exact c, d, fun j hj => ?_⟩
  · have := pm_lt hk
    have q := a k hk
    rw [Nat.zero_add] at q ⊢
    rw [h1 k hk, h4 _ (by omega), q]
  · obtain ⟨q1, q2⟩ := e j hj
    have d2 := d.2
    refine ⟨fun k hk => ?_, IM.cg q2 (fun k hk => ?_)⟩
    · have := pm_lt hk
      rw [h2 _ (by omega), Nat.add_assoc o' 75, Nat.add_assoc o', h4 _ (by omega), q1 k hk]
      congr 1
      omega
    · rw [Nat.add_assoc o' 75, Nat.add_assoc o', h4 _ (by omega)]
      congr 1
      omega
theorem kp13 (τ : St) (a : Int32) (A : Nat) (hA : A < 2) (ha : a = nI A) : ∀ (n x : Nat) (m : St), x ≤ 815 → 815 < x + n → F_X9_keep_L13 n τ a (nI x) m = (m.2.1 53 13, sa (sa m 54 (fun i => if 815 * A + x ≤ i ∧ i < 815 * A + 815 then m.2.1 53 (i - 815 * A) else m.2.1 54 i)) 55 (upd (m.2.1 55) A 1))
  | 0, x, m, hx, hn => absurd hn (by omega)
  | n + 1, x, m, hx, hn => by
    rw [F_X9_keep_L13]
    by_cases q : (815 : Int32) ≤ nI x
    · rw [if_pos q]
      have q : 815 ≤ x := (num_le x rfl (by decide) (by omega)).mp q
      have e : (fun i => if 815 * A + x ≤ i ∧ i < 815 * A + 815 then m.2.1 53 (i - 815 * A) else m.2.1 54 i) = m.2.1 54 := by
        funext i
        rw [if_neg (by omega)]
      rw [e, ha, nI_clamp (by omega)]
      refine Prod.ext rfl (Prod.ext rfl (Prod.ext ?_ rfl))
      funext j
      show (if j = 55 then upd (m.2.1 55) A 1 else m.2.1 j) = if j = 55 then upd (m.2.1 55) A 1 else if j = 54 then m.2.1 54 else m.2.1 j
      split
      · rfl
      · split
        · rename_i e; rw [e]
        · rfl
    · rw [if_neg q]
      have q : ¬ 815 ≤ x := fun z => q ((num_le x rfl (by decide) (by omega)).mpr z)
      have ei : (((815 : Int32) * a) + nI x).toNatClampNeg = 815 * A + x := by
        rw [ha, cn_of (oI_add (oI_mul (oI_lit (x := 815) (a := 815) rfl) (oI_at (nI A))) (oI_at (nI x))) (by rw [nI_toInt (by omega), nI_toInt (by omega)]; omega), nI_toInt (by omega), nI_toInt (by omega)]
        omega
      rw [ei, nI_clamp (by omega), nI_1, kp13 τ a A hA ha n (x + 1) _ (by omega) (by omega), sa_sa, sa_at]
      show ((m.2.1 53 13, sa (sa m 54 _) 55 (upd (m.2.1 55) A 1)) : Int32 × St) = _
      congr 3
      funext i
      by_cases c1 : 815 * A + (x + 1) ≤ i ∧ i < 815 * A + 815
      · rw [if_pos c1, if_pos (by omega)]
        rfl
      · rw [if_neg c1]
        by_cases c2 : i = 815 * A + x
        · subst c2
          rw [pk_us, if_pos (by omega), show 815 * A + x - 815 * A = x by omega]
        · rw [pk_un c2, if_neg (by omega)]
theorem bk25 (τ : St) (a : Int32) (A : Nat) (hA : A < 2) (ha : a = nI A) : ∀ (n x : Nat) (m : St), x ≤ 815 → 815 < x + n → F_X9_back_L25 n τ a (nI x) m = ((fun i => if x ≤ i ∧ i < 815 then m.2.1 54 (815 * A + i) else m.2.1 53 i) 13, sa m 53 (fun i => if x ≤ i ∧ i < 815 then m.2.1 54 (815 * A + i) else m.2.1 53 i))
  | 0, x, m, hx, hn => absurd hn (by omega)
  | n + 1, x, m, hx, hn => by
    rw [F_X9_back_L25]
    by_cases q : (815 : Int32) ≤ nI x
    · rw [if_pos q]
      have q : 815 ≤ x := (num_le x rfl (by decide) (by omega)).mp q
      have e : (fun i => if x ≤ i ∧ i < 815 then m.2.1 54 (815 * A + i) else m.2.1 53 i) = m.2.1 53 := by
        funext i
        rw [if_neg (by omega)]
      rw [e]
      refine Prod.ext rfl (Prod.ext rfl (Prod.ext ?_ rfl))
      funext j
      show m.2.1 j = if j = 53 then m.2.1 53 else m.2.1 j
      split
      · rename_i e; rw [e]
      · rfl
    · rw [if_neg q]
      have q : ¬ 815 ≤ x := fun z => q ((num_le x rfl (by decide) (by omega)).mpr z)
      have ei : (((815 : Int32) * a) + nI x).toNatClampNeg = 815 * A + x := by
        rw [ha, cn_of (oI_add (oI_mul (oI_lit (x := 815) (a := 815) rfl) (oI_at (nI A))) (oI_at (nI x))) (by rw [nI_toInt (by omega), nI_toInt (by omega)]; omega), nI_toInt (by omega), nI_toInt (by omega)]
        omega
      rw [ei, nI_clamp (by omega), nI_1, bk25 τ a A hA ha n (x + 1) _ (by omega) (by omega), sa_sa, sa_at]
      have e : (fun i => if x + 1 ≤ i ∧ i < 815 then (sa m 53 (upd (m.2.1 53) x (m.2.1 54 (815 * A + x)))).2.1 54 (815 * A + i) else upd (m.2.1 53) x (m.2.1 54 (815 * A + x)) i) = (fun i => if x ≤ i ∧ i < 815 then m.2.1 54 (815 * A + i) else m.2.1 53 i) := by
        funext i
        by_cases c1 : x + 1 ≤ i ∧ i < 815
        · rw [if_pos c1, if_pos (by omega)]
          rfl
        · rw [if_neg c1]
          by_cases c2 : i = x
          · subst c2
            rw [pk_us, if_pos (by omega)]
          · rw [pk_un c2, if_neg (by omega)]
      rw [e]
theorem bit_t : ∀ b, b < 4 → (¬ F_X8_hasBit (nI b ||| ((1 : Int32) <<< ((0 : Int32) &&& 31))) 0 = 0 ∧ F_X8_hasBit (nI b ||| ((1 : Int32) <<< ((0 : Int32) &&& 31))) 1 = F_X8_hasBit (nI b) 1) ∧ (¬ F_X8_hasBit (nI b ||| ((1 : Int32) <<< ((1 : Int32) &&& 31))) 1 = 0 ∧ F_X8_hasBit (nI b ||| ((1 : Int32) <<< ((1 : Int32) &&& 31))) 0 = F_X8_hasBit (nI b) 0) := by decide +kernel
theorem bit_b : ∀ b, b < 4 → (0 ≤ (nI b ||| ((1 : Int32) <<< ((0 : Int32) &&& 31))).toInt ∧ (nI b ||| ((1 : Int32) <<< ((0 : Int32) &&& 31))).toInt ≤ 3) ∧ (0 ≤ (nI b ||| ((1 : Int32) <<< ((1 : Int32) &&& 31))).toInt ∧ (nI b ||| ((1 : Int32) <<< ((1 : Int32) &&& 31))).toInt ≤ 3) := by decide +kernel
theorem in01 {x : Int32} (h : ¬ F_X9_in x 0 1 = 0) : x = 0 ∨ x = 1 := by
  have q := fz_in h
  have e1 : (1 : Int32).toInt = 1 := rfl
  exact b01_cases ⟨by have := q.1; rw [z32] at this; exact this, by have := q.2; omega⟩
theorem s_keep : St_keep RR := by
  intro σ τ a1 h
  refine ⟨trivial, trivial, ?_⟩
  have L := h.2.2.1
  obtain ⟨b6, g0, g1⟩ := h.2.2.2.1
  obtain ⟨t1, t2⟩ := bit_t (σ.1 6).toInt.toNat (by have := b6.2; omega)
  obtain ⟨u1, u2⟩ := bit_b (σ.1 6).toInt.toNat (by have := b6.2; omega)
  rw [← nI_self b6.1] at t1 t2 u1 u2
  unfold F_X8_keep F_X9_keep
  rw [F_in_eq]
  by_cases c : F_X9_in a1 0 1 = 0
  · rw [if_pos c, if_pos c]; exact ⟨rfl, h⟩
  · rw [if_neg c, if_neg c]
    rcases in01 c with e | e
    · subst e
      rw [if_pos rfl, show (0 : Int32) = nI 0 from rfl, kp13 τ (nI 0) 0 (by decide) rfl 816 0 τ (by decide) (by decide)]
      refine ⟨G_sand (R_row h), h.1, h.2.1, L, ⟨u1, Or.inr ⟨t1.1, by show ¬ (1 : Int32) = 0; decide, LG.cg L (fun k hk => sb_cpy0 hk) (fun k hk => sb_cpy0 hk) rfl (fun k hk => ?_)⟩, ?_⟩, h.2.2.2.2⟩
      · show (if 815 * 0 + 0 ≤ 0 + k ∧ 0 + k < 815 * 0 + 815 then τ.2.1 53 (0 + k - 815 * 0) else τ.2.1 54 (0 + k)) = _
        rw [if_pos (by omega), show 0 + k - 815 * 0 = 0 + k by omega]
      · show IG (F_X8_hasBit (σ.1 6 ||| ((1 : Int32) <<< ((0 : Int32) &&& 31))) 1) (upd (τ.2.1 55) 0 1 1) (σ.2.1 35) (σ.2.1 36) (σ.1 1058) (fun i => if 815 * 0 + 0 ≤ i ∧ i < 815 * 0 + 815 then τ.2.1 53 (i - 815 * 0) else τ.2.1 54 i) 815
        rw [t1.2, pk_un (by decide)]
        rcases g1 with ⟨x1, x2⟩ | ⟨x1, x2, x3⟩
        · exact Or.inl ⟨x1, x2⟩
        · refine Or.inr ⟨x1, x2, LG.cg x3 (fun _ _ => rfl) (fun _ _ => rfl) rfl (fun k hk => ?_)⟩
          show (if 815 * 0 + 0 ≤ 815 + k ∧ 815 + k < 815 * 0 + 815 then τ.2.1 53 (815 + k - 815 * 0) else τ.2.1 54 (815 + k)) = _
          rw [if_neg (by omega)]
    · subst e
      rw [if_neg (by decide), show (0 : Int32) = nI 0 from rfl, kp13 τ 1 1 (by decide) rfl 816 0 τ (by decide) (by decide)]
      refine ⟨G_sand (R_row h), h.1, h.2.1, L, ⟨u2, ?_, Or.inr ⟨t2.1, by show ¬ (1 : Int32) = 0; decide, LG.cg L (fun k hk => sb_cpy0 hk) (fun k hk => sb_cpy0 hk) rfl (fun k hk => ?_)⟩⟩, h.2.2.2.2⟩
      · show IG (F_X8_hasBit (σ.1 6 ||| ((1 : Int32) <<< ((1 : Int32) &&& 31))) 0) (upd (τ.2.1 55) 1 1 0) (σ.2.1 31) (σ.2.1 32) (σ.1 930) (fun i => if 815 * 1 + 0 ≤ i ∧ i < 815 * 1 + 815 then τ.2.1 53 (i - 815 * 1) else τ.2.1 54 i) 0
        rw [t2.2, pk_un (by decide)]
        rcases g0 with ⟨x1, x2⟩ | ⟨x1, x2, x3⟩
        · exact Or.inl ⟨x1, x2⟩
        · refine Or.inr ⟨x1, x2, LG.cg x3 (fun _ _ => rfl) (fun _ _ => rfl) rfl (fun k hk => ?_)⟩
          show (if 815 * 1 + 0 ≤ 0 + k ∧ 0 + k < 815 * 1 + 815 then τ.2.1 53 (0 + k - 815 * 1) else τ.2.1 54 (0 + k)) = _
          rw [if_neg (by omega)]
      · show (if 815 * 1 + 0 ≤ 815 + k ∧ 815 + k < 815 * 1 + 815 then τ.2.1 53 (815 + k - 815 * 1) else τ.2.1 54 (815 + k)) = _
        rw [if_pos (by omega), show 815 + k - 815 * 1 = 0 + k by omega]
theorem s_back : St_back RR := by
  intro σ τ a1 h
  refine ⟨trivial, trivial, ?_⟩
  obtain ⟨b6, g0, g1⟩ := h.2.2.2.1
  unfold F_X8_back F_X9_back
  rw [F_in_eq]
  by_cases c : F_X9_in a1 0 1 = 0
  · rw [if_pos c, if_pos c]; exact ⟨rfl, h⟩
  · rw [if_neg c, if_neg c]
    rcases in01 c with e | e
    · subst e
      rcases g0 with ⟨x1, x2⟩ | ⟨x1, x2, x3⟩
      · rw [if_pos x1, if_pos (show (τ.2.1 55) (0 : Int32).toNatClampNeg = 0 from x2)]; exact ⟨rfl, h⟩
      · rw [if_neg x1, if_neg (show ¬ (τ.2.1 55) (0 : Int32).toNatClampNeg = 0 from x2), if_pos rfl, show (0 : Int32) = nI 0 from rfl, bk25 τ (nI 0) 0 (by decide) rfl 816 0 τ (by decide) (by decide)]
        have L9 : LG (va_cpy (σ.2.1 31) (σ.2.1 27) 0 0 74) (va_cpy (σ.2.1 32) (σ.2.1 28) 0 0 740) (σ.1 930) (fun i => if 0 ≤ i ∧ i < 815 then τ.2.1 54 (815 * 0 + i) else τ.2.1 53 i) 0 := LG.cg x3 (fun k hk => sb_cpy0 hk) (fun k hk => sb_cpy0 hk) rfl (fun k hk => by
          show (if 0 ≤ 0 + k ∧ 0 + k < 815 then τ.2.1 54 (815 * 0 + (0 + k)) else τ.2.1 53 (0 + k)) = _
          rw [if_pos (by omega), show 815 * 0 + (0 + k) = 0 + k by omega])
        exact ⟨row_at L9.1 0 (by decide), h.1, h.2.1, L9, ⟨b6, Or.inr ⟨x1, x2, x3⟩, g1⟩, h.2.2.2.2⟩
    · subst e
      rcases g1 with ⟨x1, x2⟩ | ⟨x1, x2, x3⟩
      · rw [if_pos x1, if_pos (show (τ.2.1 55) (1 : Int32).toNatClampNeg = 0 from x2)]; exact ⟨rfl, h⟩
      · rw [if_neg x1, if_neg (show ¬ (τ.2.1 55) (1 : Int32).toNatClampNeg = 0 from x2), if_neg (by decide), show (0 : Int32) = nI 0 from rfl, bk25 τ 1 1 (by decide) rfl 816 0 τ (by decide) (by decide)]
        have L9 : LG (va_cpy (σ.2.1 35) (σ.2.1 27) 0 0 74) (va_cpy (σ.2.1 36) (σ.2.1 28) 0 0 740) (σ.1 1058) (fun i => if 0 ≤ i ∧ i < 815 then τ.2.1 54 (815 * 1 + i) else τ.2.1 53 i) 0 := LG.cg x3 (fun k hk => sb_cpy0 hk) (fun k hk => sb_cpy0 hk) rfl (fun k hk => by
          show (if 0 ≤ 0 + k ∧ 0 + k < 815 then τ.2.1 54 (815 * 1 + (0 + k)) else τ.2.1 53 (0 + k)) = _
          rw [if_pos (by omega), show 815 * 1 + (0 + k) = 815 + k by omega])
        exact ⟨row_at L9.1 0 (by decide), h.1, h.2.1, L9, ⟨b6, g0, Or.inr ⟨x1, x2, x3⟩⟩, h.2.2.2.2⟩
