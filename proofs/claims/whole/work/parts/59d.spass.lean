/-! ===== pass: the step ===== -/
theorem ov_DD {A B T : Nat → Nat} {S g : Nat} {room : Int} (hr : room ≤ 900) {y v : Nat} (hy : 1 ≤ y) : ((DD A B T S g y v : Nat) : Int) ≤ room ↔ ∃ k, k < S ∧ ((ovN A B T (DD A B T S g (y - 1)) k v : Nat) : Int) ≤ room := by
  have e : DD A B T S g y v = FD A B T (DD A B T S g (y - 1)) S v := by
    rw [show y = (y - 1) + 1 by omega]; rfl
  rw [e]
  constructor
  · intro q
    obtain ⟨j, h1, h2⟩ := FD_at A B T (DD A B T S g (y - 1)) S v (by omega)
    exact ⟨j, h1, by rw [← h2]; exact q⟩
  · rintro ⟨k, h1, h2⟩
    have := FD_ov A B T (DD A B T S g (y - 1)) S v k h1
    omega
theorem DD_le (A B T : Nat → Nat) (S g : Nat) : ∀ n v, DD A B T S g n v ≤ 999
  | 0, v => by unfold DD; split <;> omega
  | n + 1, v => FD_le A B T _ S v
theorem E_pass {σ τ : St} (h : RR σ τ) {a1 a2 a3 : Int32} (hc : 0 ≤ a1.toInt ∧ a1.toInt < (τ.2.1 50 2).toInt) (hc4 : a1.toInt < 4) (hg : 0 ≤ a2.toInt ∧ a2.toInt < (τ.2.1 50 0).toInt) (ha : a3 = 0 ∨ a3 = 1 ∨ a3 = 2) : (F_X8_pass_k67_6 σ a1 a2 a3 (F_X7_find σ a1 a2)).1 = (if (τ.2.1 53) a1.toNatClampNeg = a2 then (if a3 = 0 then ((0 : Int32), τ) else (((-9) : Int32), τ)) else F_X9_pass_k61_7 τ a1 a2 a3 (F_X9_reckons τ a2)).1 ∧ RR (F_X8_pass_k67_6 σ a1 a2 a3 (F_X7_find σ a1 a2)).2 (if (τ.2.1 53) a1.toNatClampNeg = a2 then (if a3 = 0 then ((0 : Int32), τ) else (((-9) : Int32), τ)) else F_X9_pass_k61_7 τ a1 a2 a3 (F_X9_reckons τ a2)).2 := by
  obtain ⟨W, hW, eW⟩ := W_of h
  have r := R_row h
  have hs := h.2.1.2.1.2
  obtain ⟨S, hS, eS⟩ : ∃ S : Nat, S ≤ 8 ∧ τ.2.1 50 1 = nI S := ⟨(τ.2.1 50 1).toInt.toNat, by omega, nI_self hs.1⟩
  have iS := nI_toInt (n := S) (by omega)
  have iW := nI_toInt (n := W) (by omega)
  obtain ⟨A, eA⟩ : ∃ A : Nat → Nat, A = fun k => (τ.2.1 50 (10 + k)).toInt.toNat := ⟨_, rfl⟩
  obtain ⟨B, eB⟩ : ∃ A : Nat → Nat, A = fun k => (τ.2.1 50 (18 + k)).toInt.toNat := ⟨_, rfl⟩
  obtain ⟨T, eT⟩ : ∃ A : Nat → Nat, A = fun k => (τ.2.1 50 (26 + k)).toInt.toNat := ⟨_, rfl⟩
  have st := h.2.1.2.2.2.2.1
  have st8 := h.2.1.2.2.2.2.2.2
  rw [eS, iS, eW, iW] at st
  have hA : ∀ k, k < S → τ.2.1 50 (10 + k) = nI (A k) ∧ A k < W := fun k hk => by
    have q1 := (st k (by omega)).1.2
    have q2 := (st8 k (by omega)).1
    rw [eA]
    exact ⟨nI_self q2.1, by show (τ.2.1 50 (10 + k)).toInt.toNat < W; have := q2.1; omega⟩
  have hB : ∀ k, k < S → τ.2.1 50 (18 + k) = nI (B k) ∧ B k < W := fun k hk => by
    have q1 := (st k (by omega)).2.1.2
    have q2 := (st8 k (by omega)).2.1
    rw [eB]
    exact ⟨nI_self q2.1, by show (τ.2.1 50 (18 + k)).toInt.toNat < W; have := q2.1; omega⟩
  have hT : ∀ k, k < S → τ.2.1 50 (26 + k) = nI (T k) ∧ T k ≤ 9 := fun k hk => by
    have q2 := (st k (by omega)).2.2.1.2
    rw [eT]
    exact ⟨nI_self (by have := q2.1; omega), by show (τ.2.1 50 (26 + k)).toInt.toNat ≤ 9; have := q2.2; omega⟩
  have hAB : ∀ k, k < S → A k < 6 ∧ B k < 6 ∧ T k ≤ 9 := fun k hk => ⟨by have := (hA k hk).2; omega, by have := (hB k hk).2; omega, (hT k hk).2⟩
  have hCW : CW σ A B T S := ⟨h.2.1.2.1.1.trans eS, fun k hk => ⟨(st k (by omega)).1.1.trans (hA k hk).1, (st k (by omega)).2.1.1.trans (hB k hk).1, (st k (by omega)).2.2.1.1.trans (hT k hk).1⟩⟩
  clear eA eB eT
  -- the place, the goal
  have im := h.2.2.1.2.1
  have ca : a1.toNatClampNeg < 4 := by show a1.toInt.toNat < 4; omega
  have hc' : 0 ≤ a1.toInt ∧ a1.toInt < 4 := ⟨hc.1, hc4⟩
  have ip := im.1 a1.toNatClampNeg ca
  rw [Nat.zero_add] at ip
  obtain ⟨v, hv, ev⟩ : ∃ v : Nat, v < 6 ∧ τ.2.1 53 a1.toNatClampNeg = nI v := ⟨_, by have := ip.1; have := ip.2; omega, nI_self ip.1⟩
  rw [eW, iW] at hg
  obtain ⟨g, hgW, eg⟩ : ∃ g : Nat, g < W ∧ a2 = nI g := ⟨a2.toInt.toNat, by omega, nI_self hg.1⟩
  have epl : F_X2_placeOf σ a1 = nI v := (G_place r hc').trans ev
  have tb := T_bears h hc
  have gd := G_dry r hc'
  have gc := G_cups r hc'
  have bd8 : bd (τ.2.1 53 ((8 : Int32) + a1).toNatClampNeg) 0 29 := by
    rw [ix1 (K := 8) (k := 8) rfl (by omega) (by decide)]
    have := im.2.2.1 a1.toInt.toNat (by omega)
    rw [show 0 + 8 + a1.toInt.toNat = 8 + a1.toInt.toNat by omega] at this
    exact this
  have bd4 : bd (τ.2.1 53 ((4 : Int32) + a1).toNatClampNeg) 0 20 := by
    rw [ix1 (K := 4) (k := 4) rfl (by omega) (by decide)]
    have := im.2.1 a1.toInt.toNat (by omega)
    rw [show 0 + 4 + a1.toInt.toNat = 4 + a1.toInt.toNat by omega] at this
    exact this
  obtain ⟨slack, esl⟩ : ∃ x, x = τ.2.1 50 ((50 : Int32) + a1).toNatClampNeg - τ.2.1 53 ((8 : Int32) + a1).toNatClampNeg := ⟨_, rfl⟩
  obtain ⟨room, ero⟩ : ∃ x, x = slack + τ.2.1 53 ((4 : Int32) + a1).toNatClampNeg := ⟨_, rfl⟩
  have hsl : F_X4_bearsOf σ a1 - F_X2_dryOf σ a1 = slack := by rw [tb.1, gd, esl]
  have isl : slack.toInt = (τ.2.1 50 ((50 : Int32) + a1).toNatClampNeg).toInt - (τ.2.1 53 ((8 : Int32) + a1).toNatClampNeg).toInt := by
    rw [esl]
    exact ti_of (oI_sub (oI_at _) (oI_at _)) (by have := tb.2.1; have := tb.2.2; have := bd8.1; have := bd8.2; omega)
  have iro : room.toInt = slack.toInt + (τ.2.1 53 ((4 : Int32) + a1).toNatClampNeg).toInt := by
    rw [ero]
    exact ti_of (oI_add (oI_at _) (oI_at _)) (by have := tb.2.1; have := tb.2.2; have := bd8.1; have := bd8.2; have := bd4.1; have := bd4.2; omega)
  have bsl : -40 ≤ slack.toInt ∧ slack.toInt ≤ 20 := by have := tb.2.1; have := tb.2.2; have := bd8.1; have := bd8.2; omega
  have bro : room.toInt ≤ 40 := by have := bd4.1; have := bd4.2; omega
  have hro : F_X2_cupsOf σ a1 + slack = room := by rw [gc, ero, Int32.add_comm]
  have erw : (((τ.2.1 50) ((50 : Int32) + a1).toNatClampNeg) - ((τ.2.1 53) ((8 : Int32) + a1).toNatClampNeg)) + ((τ.2.1 53) ((4 : Int32) + a1).toNatClampNeg) = room := by rw [← esl, ← ero]
  -- the class's way, from its first state
  have f1 : Fr [1378, 1379, 1380, 1282, 1283] [41, 42, 44, 45] false σ (F_X7_find σ a1 a2) := Fr.mono (by decide) (by decide) (fun _ => rfl) (fr_F_X7_find σ a1 a2)
  obtain ⟨M, eM⟩ : ∃ M, M = (si (si (si σ 1378 (if nI v = a2 then (0 : Int32) else ((-9) : Int32))) 1379 ((-9) : Int32)) 1380 ((-9) : Int32)) := ⟨_, rfl⟩
  have ff := fr_F_J7_fill_53178_44 M (1000 : Int32)
  have n0 : nI 0 = (0 : Int32) := rfl
  have n1 : nI 1 = (1 : Int32) := rfl
  have fl0 := fillL 1000 M 7 0 M (by decide) (by decide) (fun u hu => absurd hu (by omega))
  have fl : ∀ u, u < 6 → (F_J7_fill_53178_44 M (1000 : Int32)).2.1 44 u = 1000 := by
    unfold F_J7_fill_53178_44
    rw [n0] at fl0
    exact fl0
  have efind : F_X7_find σ a1 a2 = F_X7_find_L83_28 7 σ a1 a2 (F_J7_fill_53178_44 M (1000 : Int32)) (nI 1) (sa (F_J7_fill_53178_44 M (1000 : Int32)) 44 (upd ((F_J7_fill_53178_44 M (1000 : Int32)).2.1 44) g 0)) := by
    unfold F_X7_find
    rw [epl, ← eM]
    unfold F_X7_find_k56_5
    rw [eg, if_neg (nI_nle0 (by omega)), if_neg (nI_n6 (by omega)), nI_clamp (by omega), n1]
  generalize F_J7_fill_53178_44 M (1000 : Int32) = u4 at *
  obtain ⟨m0, em0⟩ : ∃ m, m = sa u4 44 (upd (u4.2.1 44) g 0) := ⟨_, rfl⟩
  rw [← em0] at efind
  have m96 : m0.1 96 = nI W := by rw [em0]; exact (ff.1 96 (by decide)).trans (by rw [eM]; exact h.2.1.1.1.trans eW)
  have m27 : m0.2.1 27 = σ.2.1 27 := by rw [em0]; exact (ff.2.1 27 (by decide)).trans (by rw [eM]; rfl)
  have mCW : CW m0 A B T S := by
    refine ⟨by rw [em0]; exact (ff.1 97 (by decide)).trans (by rw [eM]; exact hCW.1), fun k hk => ?_⟩
    have e5 : m0.2.1 5 = σ.2.1 5 := by rw [em0]; exact (ff.2.1 5 (by decide)).trans (by rw [eM]; rfl)
    have e6 : m0.2.1 6 = σ.2.1 6 := by rw [em0]; exact (ff.2.1 6 (by decide)).trans (by rw [eM]; rfl)
    have e7 : m0.2.1 7 = σ.2.1 7 := by rw [em0]; exact (ff.2.1 7 (by decide)).trans (by rw [eM]; rfl)
    rw [e5, e6, e7]
    exact hCW.2 k hk
  have m78 : m0.1 1378 = (if nI v = a2 then (0 : Int32) else ((-9) : Int32)) := by rw [em0]; exact (ff.1 1378 (by decide)).trans (by rw [eM]; rfl)
  have m79 : m0.1 1379 = ((-9) : Int32) := by rw [em0]; exact (ff.1 1379 (by decide)).trans (by rw [eM]; rfl)
  have m80 : m0.1 1380 = ((-9) : Int32) := by rw [em0]; exact (ff.1 1380 (by decide)).trans (by rw [eM]; rfl)
  have m44 : ∀ v, v < 6 → m0.2.1 44 v = nI (kk (DD A B T S g (1 - 1) v)) := fun v hv => by
    rw [em0, sa_at]
    show _ = nI (kk (if v = g then 0 else 999))
    by_cases e : v = g
    · subst e; rw [pk_us, if_pos rfl]; rfl
    · rw [pk_un e, if_neg e, fl v hv]; rfl
  have sel0 : ∀ u : St, F_X8_pass_k67_6 σ a1 a2 0 u = (u.1 1378, u) := fun u => by
    unfold F_X8_pass_k67_6
    rw [if_pos rfl]
  have sel1 : ∀ u : St, F_X8_pass_k67_6 σ a1 a2 1 u = (u.1 1379, u) := fun u => by
    unfold F_X8_pass_k67_6
    rw [if_neg (show ¬ (1 : Int32) = 0 by decide), if_pos rfl]
  have sel2 : ∀ u : St, F_X8_pass_k67_6 σ a1 a2 2 u = (u.1 1380, u) := fun u => by
    unfold F_X8_pass_k67_6
    rw [if_neg (show ¬ (2 : Int32) = 0 by decide), if_neg (show ¬ (2 : Int32) = 1 by decide)]
  have sel : ∀ u : St, (F_X8_pass_k67_6 σ a1 a2 a3 u).2 = u := fun u => by
    rcases ha with e | e | e <;> subst e
    · rw [sel0]
    · rw [sel1]
    · rw [sel2]
  rw [sel]
  rw [ev]
  by_cases c : nI v = a2
  · rw [if_pos c]
    rw [if_pos c] at m78
    have es := fw_stop σ a1 a2 u4 7 (nI 1) m0 (by rw [m78]; decide)
    rw [es] at efind
    have rr : RR (F_X7_find σ a1 a2) τ := h.fr f1 Fr.rf h.2.2.2.2.2.2.2
    rw [efind] at rr ⊢
    rcases ha with e | e | e <;> subst e
    · rw [sel0, if_pos rfl]; exact ⟨m78, rr⟩
    · rw [sel1, if_neg (show ¬ (1 : Int32) = 0 by decide)]; exact ⟨m79, rr⟩
    · rw [sel2, if_neg (show ¬ (2 : Int32) = 0 by decide)]; exact ⟨m80, rr⟩
  · rw [if_neg c]
    rw [if_neg c] at m78
    have vg : v ≠ g := fun z => c (by rw [eg, z])
    -- the reference's table
    obtain ⟨Z, z1, z2⟩ := rk2 τ A B T S hS eS (fun k hk => ⟨(hA k hk).1, (hAB k hk).1⟩) (fun k hk => ⟨(hB k hk).1, (hAB k hk).2.1⟩) hT g (by omega) 7 0 (τ.2.1 60) (by decide) (by decide) (fun v hv => absurd hv (by omega))
    have ssg : ∀ (s : St) (k : Nat), sa s k (s.2.1 k) = s := fun s k => by
      refine Prod.ext rfl (Prod.ext ?_ rfl)
      funext j
      show (if j = k then s.2.1 k else s.2.1 j) = s.2.1 j
      split
      · rename_i e; rw [e]
      · rfl
    rw [ssg] at z1
    have z1 : F_X9_reckons τ a2 = sa τ 60 Z := by
      unfold F_X9_reckons
      rw [n0] at z1
      rw [eg]
      exact z1
    have rr : RR (F_X7_find σ a1 a2) (sa τ 60 Z) := h.fr f1 (Fr.sa (by decide) Fr.rf) h.2.2.2.2.2.2.2
    rw [z1]
    unfold F_X9_pass_k61_7
    have s50 : (sa τ 60 Z).2.1 50 = τ.2.1 50 := rfl
    have s53 : (sa τ 60 Z).2.1 53 = τ.2.1 53 := rfl
    have erw' : ((((sa τ 60 Z).2.1 50) ((50 : Int32) + a1).toNatClampNeg) - (((sa τ 60 Z).2.1 53) ((8 : Int32) + a1).toNatClampNeg)) + (((sa τ 60 Z).2.1 53) ((4 : Int32) + a1).toNatClampNeg) = room := by rw [s50, s53]; exact erw
    have ev' : (sa τ 60 Z).2.1 53 a1.toNatClampNeg = nI v := by rw [s53]; exact ev
    have rf := p101 (D := DD A B T S g) (sa τ 60 Z) τ a1 a2 a3 hv ev' erw' (fun i _ => DD_le A B T S g i v) (fun i hi => by rw [sa_at]; exact z2 i hi v hv) 7 1 (by decide) (by decide) (by decide)
    have cf := fw (g := g) hS hAB σ a1 a2 u4 hW hv epl hsl hro (by omega) 7 1 m0 (by decide) (by decide) (by omega) m96 m27 mCW m78 m44
    rw [← efind] at cf
    rw [show F_X9_pass_L101 7 τ a1 a2 a3 (sa τ 60 Z) 1 = F_X9_pass_L101 7 τ a1 a2 a3 (sa τ 60 Z) (nI 1) by rw [n1]]
    generalize F_X9_pass_L101 7 τ a1 a2 a3 (sa τ 60 Z) (nI 1) = res at *
    generalize F_X7_find σ a1 a2 = cls at *
    rcases rf with ⟨s1, s2⟩ | ⟨y, lf, s1, s2, s3, s4, s5⟩
    · rw [s1]
      refine ⟨?_, rr⟩
      rcases cf with ⟨t1, t2, t3, t4⟩ | ⟨y, k, t1, t2, t3, t4, t5, t6, t7, t8, t9⟩
      · rcases ha with e | e | e <;> subst e
        · rw [sel0]; exact t1
        · rw [sel1]; exact t2.trans m79
        · rw [sel2]; exact t3.trans m80
      · exact absurd ((ov_DD (by omega) t1).mpr ⟨k, t3, t7⟩) (s2 y t1 (by omega))
    · have yW : y < W := by
        have nn : 0 ≤ room.toInt := by omega
        exact wk_short (A := A) (B := B) (T := T) (S := S) (g := g) (W := W) (fun k hk => ⟨(hA k hk).2, (hB k hk).2⟩) (fun k hk => (hT k hk).2) (n := y) (p := v) (room := room.toInt.toNat) (by omega) (by omega) vg hgW (by omega) (fun m h1 h2 q => s5 m h2 h1 (by omega))
      rcases cf with ⟨t1, t2, t3, t4⟩ | ⟨y', k, t1, t2, t3, t4, t5, t6, t7, t8, t9⟩
      · obtain ⟨k, k1, k2⟩ := (ov_DD (by omega) s1).mp s4
        exact absurd k2 (t4 y s1 yW k k1)
      · have ey : y' = y := by
          rcases Nat.lt_trichotomy y' y with z | z | z
          · exact absurd ((ov_DD (by omega) t1).mpr ⟨k, t3, t7⟩) (s5 y' t1 z)
          · exact z
          · obtain ⟨k', k1, k2⟩ := (ov_DD (by omega) s1).mp s4
            exact absurd k2 (t9 y s1 z k' k1)
        subst ey
        have e1 : (sa τ 60 Z).2.1 50 1 - (1 : Int32) = nI S - 1 := by
          rw [s50, eS]
        rw [e1] at s3
        have hp : ∀ v, v < 6 → DD A B T S g (y' - 1) v ≤ 54 ∨ DD A B T S g (y' - 1) v = 999 := fun v _ => by
          have := DD_b (A := A) (B := B) (g := g) (fun k hk => (hAB k hk).2.2) (y' - 1) v (by omega)
          omega
        obtain ⟨b', f1', f2'⟩ := p160 hS (sa τ 60 Z) τ (by rw [s50]; exact fun k hk => ⟨(hA k hk).1, (hAB k hk).1⟩) (by rw [s50]; exact fun k hk => ⟨(hB k hk).1, (hAB k hk).2.1⟩) (by rw [s50]; exact hT) lf a1 a2 a3 hv ev' erw' (by omega) ⟨s1, s2⟩ hp (fun v hv => by rw [sa_at]; exact z2 (y' - 1) (by omega) v hv) 9 S ((-9) : Int32) (Nat.le_refl _) (by omega) (Or.inl ⟨rfl, fun k h1 h2 => absurd h2 (by omega)⟩)
        rw [s3, f2']
        have eb : b' = nI k := by
          rcases f1' with ⟨_, q⟩ | ⟨k', q1, q2, q3, q4, q5⟩
          · exact absurd t7 (q k (by omega) t3)
          · rcases Nat.lt_trichotomy k k' with z | z | z
            · exact absurd t7 (q5 k (by omega) z)
            · rw [q1, z]
            · exact absurd q4 (t8 k' z)
        have i26 : ((26 : Int32) + nI k).toNatClampNeg = 26 + k := by rw [show (26 : Int32) + nI k = nI (26 + k) from nI_add 26 k, nI_clamp (by omega)]
        have a2 : (ansR (sa τ 60 Z) a1 a3 (nI y') b').2 = sa τ 60 Z := by
          unfold ansR
          split
          · rfl
          · split <;> rfl
        rw [a2]
        refine ⟨?_, rr⟩
        unfold ansR
        rw [eb, i26, s50, s53, (hT k t3).1, ← esl]
        rcases ha with e | e | e
        · subst e; rw [sel0, if_pos rfl]; exact t4
        · subst e; rw [sel1, if_neg (show ¬ (1 : Int32) = 0 by decide), if_pos rfl]; exact t5
        · subst e
          rw [sel2, if_neg (show ¬ (2 : Int32) = 0 by decide), if_neg (show ¬ (2 : Int32) = 1 by decide)]
          refine t6.trans ?_
          have tk := (hT k t3).2
          have i1 := nI_toInt (n := T k) (by omega)
          have i2 : (nI (T k) - slack).toInt = (nI (T k)).toInt - slack.toInt := ti_of (oI_sub (oI_at _) (oI_at _)) (by omega)
          by_cases q : nI (T k) ≤ slack
          · rw [if_pos q, if_neg (fun z => by have := i_le q; have := i_lt z; rw [z32] at this; omega)]
          · rw [if_neg q, if_pos (Int32.lt_iff_toInt_lt.mpr (by have := i_nle q; rw [z32]; omega))]
theorem s_pass : St_pass RR := by
  intro σ τ a1 a2 a3 h
  have im := h.2.2.1.2.1
  have st8 := h.2.1.2.2.2.2.2.2
  refine ⟨⟨by rw [h.2.1.1.1]; exact h.2.1.1.2.2, by rw [h.2.1.2.1.1]; exact h.2.1.2.1.2.2⟩, ⟨h.2.1.1.2, h.2.1.2.1.2, h.2.1.2.2.1.2, fun x h1 h2 => ?_, fun x h1 h2 => ?_, fun x h1 h2 => ?_⟩, ?_⟩
  · have := im.1 x.toInt.toNat (by omega)
    rw [Nat.zero_add] at this
    exact this
  · rw [ix1 (K := 10) (k := 10) rfl (by omega) (by decide)]
    exact (st8 x.toInt.toNat (by omega)).1
  · rw [ix1 (K := 18) (k := 18) rfl (by omega) (by decide)]
    exact (st8 x.toInt.toNat (by omega)).2.1
  · unfold F_X8_pass F_X9_pass
    rcases R_c h a1 with ⟨c1, c2⟩ | ⟨c1, c2, c3, c4, c5⟩
    · rw [if_pos c1, if_pos c2]; exact ⟨rfl, h⟩
    · rw [if_neg c1, if_neg c2]
      rcases R_w h a2 with ⟨d1, d2⟩ | ⟨d1, d2, d3, d4, d5⟩
      · rw [if_pos d1, if_pos d2]; exact ⟨rfl, h⟩
      · rw [if_neg d1, if_neg d2, F_in_eq]
        by_cases e : F_X9_in a3 0 2 = 0
        · rw [if_pos e, if_pos e]; exact ⟨rfl, h⟩
        · rw [if_neg e, if_neg e, show F_X2_isAlive σ a1 = F_X9_isAlive τ a1 from G_isAlive (R_row h) ⟨c3, c5⟩]
          by_cases f : F_X9_isAlive τ a1 = 0
          · rw [if_pos f, if_pos f]; exact ⟨rfl, h⟩
          · rw [if_neg f, if_neg f]
            have ha : a3 = 0 ∨ a3 = 1 ∨ a3 = 2 := by
              obtain ⟨k, hk, ek⟩ := in_nI (n := 2) rfl e
              have : k = 0 ∨ k = 1 ∨ k = 2 := by omega
              rcases this with z | z | z <;> subst z <;> subst ek
              · exact Or.inl rfl
              · exact Or.inr (Or.inl rfl)
              · exact Or.inr (Or.inr rfl)
            exact E_pass h ⟨c3, c4⟩ c5 ⟨d3, d4⟩ ha
