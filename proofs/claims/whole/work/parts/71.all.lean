/-! ===== road: from the beginning ===== -/
theorem fill23 (σ : St) : ∀ (n x : Nat) (m : St), x ≤ 74 → 74 < x + n → (∀ u, u < x → m.2.1 23 u = 0) → ∀ u, u < 74 → (F_J7_fill_53178_23_L5 n σ 0 (nI x) m).2.1 23 u = 0
  | 0, x, m, hx, hn, _ => absurd hn (by omega)
  | n + 1, x, m, hx, hn, h1 => by
    rw [F_J7_fill_53178_23_L5]
    by_cases q : (74 : Int32) ≤ nI x
    · rw [if_pos q]
      have q : 74 ≤ x := (num_le x rfl (by decide) (by omega)).mp q
      exact fun u hu => h1 u (by omega)
    · rw [if_neg q]
      have q : ¬ 74 ≤ x := fun z => q ((num_le x rfl (by decide) (by omega)).mpr z)
      rw [nI_clamp (by omega), nI_1]
      refine fill23 σ n (x + 1) _ (by omega) (by omega) (fun u hu => ?_)
      rw [sa_at]
      by_cases e : u = x
      · subst e; rw [pk_us]
      · rw [pk_un e]; exact h1 u (by omega)
theorem rdA23 (τ m2 : St) (lf2 : Int32 → St → (Int32 × St)) (x1 : Int32) : ∀ (n x : Nat) (m : St), x ≤ 74 → 74 < x + n → (∀ u, u < x → m.2.1 52 u = 0) → ∃ m' lf x', F_X9_reads_L23 lf2 n τ x1 m2 (nI x) m = F_X9_reads_k48_7 lf2 lf τ x1 m2 x' m' (F_X9_token (si m' 1547 (0 : Int32))) ∧ Fr [] [52] false m m' ∧ ∀ u, u < 74 → m'.2.1 52 u = 0
  | 0, x, m, hx, hn, _ => absurd hn (by omega)
  | n + 1, x, m, hx, hn, h1 => by
    rw [F_X9_reads_L23]
    by_cases q : (74 : Int32) ≤ nI x
    · rw [if_pos q]
      have q : 74 ≤ x := (num_le x rfl (by decide) (by omega)).mp q
      exact ⟨m, _, _, rfl, Fr.rf, fun u hu => h1 u (by omega)⟩
    · rw [if_neg q]
      have q : ¬ 74 ≤ x := fun z => q ((num_le x rfl (by decide) (by omega)).mpr z)
      rw [nI_clamp (by omega), nI_1]
      obtain ⟨m', lf, x', r1, r2, r3⟩ := rdA23 τ m2 lf2 x1 n (x + 1) (sa m 52 (upd (m.2.1 52) x (0 : Int32))) (by omega) (by omega) (fun u hu => by
        rw [sa_at]
        by_cases e : u = x
        · subst e; rw [pk_us]
        · rw [pk_un e]; exact h1 u (by omega))
      exact ⟨m', lf, x', r1, Fr.tr (Fr.sa (by decide) Fr.rf) r2, r3⟩
theorem rdA2 (τ : St) : ∀ (n x : Nat) (m : St), x ≤ 54 → 54 < x + n → (∀ u, u < x → m.2.1 51 u = 0) → ∃ m' lf x', F_X9_reads_L2 n τ (nI x) m = F_X9_reads_L23 lf 75 τ x' m' (0 : Int32) m' ∧ Fr [] [51] false m m' ∧ ∀ u, u < 54 → m'.2.1 51 u = 0
  | 0, x, m, hx, hn, _ => absurd hn (by omega)
  | n + 1, x, m, hx, hn, h1 => by
    rw [F_X9_reads_L2]
    by_cases q : (54 : Int32) ≤ nI x
    · rw [if_pos q]
      have q : 54 ≤ x := (num_le x rfl (by decide) (by omega)).mp q
      exact ⟨m, _, _, rfl, Fr.rf, fun u hu => h1 u (by omega)⟩
    · rw [if_neg q]
      have q : ¬ 54 ≤ x := fun z => q ((num_le x rfl (by decide) (by omega)).mpr z)
      rw [nI_clamp (by omega), nI_1]
      obtain ⟨m', lf, x', r1, r2, r3⟩ := rdA2 τ n (x + 1) (sa m 51 (upd (m.2.1 51) x (0 : Int32))) (by omega) (by omega) (fun u hu => by
        rw [sa_at]
        by_cases e : u = x
        · subst e; rw [pk_us]
        · rw [pk_un e]; exact h1 u (by omega))
      exact ⟨m', lf, x', r1, Fr.tr (Fr.sa (by decide) Fr.rf) r2, r3⟩
theorem pmA_lt {j : Nat} (h : j < 74) : pm j < 74 := by
  unfold pm
  split
  · omega
  · split
    · omega
    · split <;> omega
theorem E_all {N : Nat} {c : Nat → Nat} (hN : N ≤ 200) (hc : ∀ k, c k ≤ 255) {σ τ : St} (hm : TXm σ N c) (ht : TXt τ N c) : RES (F_X4_tellAll σ) (F_X9_reads τ) := by
  have n0 : nI 0 = (0 : Int32) := rfl
  obtain ⟨M0, eM0⟩ : ∃ M, M = (si (si (si σ 448 (0 : Int32)) 449 (0 : Int32)) 450 (0 : Int32)) := ⟨_, rfl⟩
  have fw := fr_F_X2_wipe M0
  have w23 : ∀ u, u < 74 → (F_X2_wipe M0).2.1 23 u = 0 := by
    have r := fill23 M0 75 0 M0 (by decide) (by decide) (fun u hu => absurd hu (by omega))
    rw [n0] at r
    unfold F_X2_wipe F_X2_wipe_k5_2 F_J7_fill_53178_23
    exact r
  obtain ⟨m1, lf, x', r1, r2, r3⟩ := rdA2 τ 55 0 τ (by decide) (by decide) (fun u hu => absurd hu (by omega))
  rw [n0] at r1
  obtain ⟨m2, lf', x'', q1, q2, q3⟩ := rdA23 τ m1 lf x' 75 0 m1 (by decide) (by decide) (fun u hu => absurd hu (by omega))
  rw [n0] at q1
  unfold F_X4_tellAll F_X9_reads
  rw [r1, q1, ← eM0]
  unfold F_X4_tellAll_k19_2 F_X4_tellAll_k23_4 F_X4_tellAll_k29_6 F_X9_reads_k48_7
  generalize F_X2_wipe M0 = U1 at *
  have TM : TXm (F_X6_rewind U1) N c := by
    refine ⟨?_, fun k hk => ?_⟩
    · show U1.1 33 = _
      rw [fw.1 33 (by decide), eM0]; exact hm.1
    · show U1.2.1 2 k = _
      rw [fw.2.1 2 (by decide), eM0]; exact hm.2 k hk
  have TT : TXt (si m2 1547 (0 : Int32)) N c := by
    refine ⟨?_, fun k hk => ?_⟩
    · show m2.1 1538 = _
      rw [q2.1 1538 (by decide), r2.1 1538 (by decide)]; exact ht.1
    · show m2.2.1 49 k = _
      rw [q2.2.1 49 (by decide), r2.2.1 49 (by decide)]; exact ht.2 k hk
  have a34 : (F_X6_rewind U1).1 34 = nI 0 := rfl
  have a47 : (si m2 1547 (0 : Int32)).1 1547 = nI 0 := rfl
  have tr := tok_R hN hc TM TT (a := 0) (by omega) a34 a47
  have rd : RD N c (F_X6_scan (F_X6_rewind U1)) (F_X9_token (si m2 1547 (0 : Int32))) := ⟨scan_tx TM, tok_tx TT, tr⟩
  have ab : AB (si m2 1547 (0 : Int32)) := by
    refine ⟨⟨?_, ?_⟩, ?_, ?_⟩
    · rw [a47]; decide
    · rw [a47]; decide
    · rw [TT.1, nI_toInt (by omega)]; omega
    · rw [TT.1, nI_toInt (by omega)]; omega
  have tb := tok_ab _ ab
  have f1 := fr_F_X6_scan (F_X6_rewind U1)
  have f2 := fr_F_X9_token (si m2 1547 (0 : Int32))
  have s51 : ∀ u, u < 54 → (F_X9_token (si m2 1547 (0 : Int32))).2.1 51 u = 0 := fun u hu => by
    rw [f2.2.1 51 (by decide)]
    show m2.2.1 51 u = 0
    rw [q2.2.1 51 (by decide)]; exact r3 u hu
  have s52 : ∀ u, u < 74 → (F_X9_token (si m2 1547 (0 : Int32))).2.1 52 u = 0 := fun u hu => by
    rw [f2.2.1 52 (by decide)]
    exact q3 u hu
  have s23 : ∀ u, u < 74 → (F_X6_scan (F_X6_rewind U1)).2.1 23 u = 0 := fun u hu => by
    rw [f1.2.1 23 (by decide)]
    exact w23 u hu
  have c48 : (F_X6_scan (F_X6_rewind U1)).1 448 = nI 0 := by
    rw [f1.1 448 (by decide)]
    show U1.1 448 = _
    rw [fw.1 448 (by decide), eM0]; rfl
  have c49 : (F_X6_scan (F_X6_rewind U1)).1 449 = nI 0 := by
    rw [f1.1 449 (by decide)]
    show U1.1 449 = _
    rw [fw.1 449 (by decide), eM0]; rfl
  have c50 : (F_X6_scan (F_X6_rewind U1)).1 450 = nI 0 := by
    rw [f1.1 450 (by decide)]
    show U1.1 450 = _
    rw [fw.1 450 (by decide), eM0]; rfl
  rw [a47] at tb
  generalize F_X6_scan (F_X6_rewind U1) = m at *
  generalize F_X9_token (si m2 1547 (0 : Int32)) = t at *
  have z5 : bd (0 : Int32) 0 5 := by decide
  have dr : DR m t := by
    refine ⟨0, 0, 0, c48, c49, c50, ⟨by decide, by decide, by decide⟩, ⟨s51 0 (by decide), s51 1 (by decide), s51 2 (by decide)⟩, fun i hi => absurd hi (by omega), fun i hi => absurd hi (by omega), fun i hi => absurd hi (by omega), fun i hi => ?_, fun j h1 _ => ?_, s23 1 (by decide), ?_⟩
    · rw [s51 (10 + i) (by omega), s51 (18 + i) (by omega), s51 (42 + i) (by omega)]
      exact ⟨z5, z5, z5⟩
    · rw [s23 j h1, s52 (pm j) (pmA_lt h1)]
    · refine ⟨fun i hi => ?_, fun i hi => ?_, fun i hi => s52 _ (by omega), fun i hi => ?_, fun i hi => ?_, fun i hi => s52 _ (by omega)⟩
      · rw [s52 _ (by omega)]; decide
      · rw [s52 _ (by omega)]; decide
      · rw [s52 _ (by omega)]; decide
      · rw [s52 _ (by omega)]; decide
  obtain ⟨e, e1, e2⟩ : ∃ e : Nat, t.1 1547 = nI e ∧ e ≤ 200 := by
    obtain ⟨⟨s', e', a1, a2, a3, a4, a5, a6⟩, _⟩ := tr
    exact ⟨e', a6, by omega⟩
  have ie := nI_toInt (n := e) (by omega)
  have L := loop_R hN hc σ U1 (F_X6_rewind U1) m τ m1 m2 t lf lf' x' x'' 201 202 0 e m t (by omega) (by omega) rd dr (s51 3 (by decide)) e1 e2 (by omega) (fun z => by
    have := tb.2.2 z
    rw [e1, ie, show (nI 0).toInt = 0 from rfl] at this
    omega)
  rw [n0] at L
  exact L
