/-! ===== ring, strikes: the steps ===== -/
theorem dues_of {σ τ : St} (h : RR σ τ) : ∃ d, DUE σ τ d := by
  have r := R_row h
  have im := h.2.2.1.2.1
  have b := im.2.2.2.2.2.1
  refine ⟨fun u v => if u < 6 ∧ v < 6 then (τ.2.1 53 (38 + 6 * u + v)).toInt.toNat else 0, ?_, ?_, ?_⟩
  · intro u v hu hv m hm
    have iu := nI_toInt (n := u) (by omega)
    have iv := nI_toInt (n := v) (by omega)
    have bb := b (6 * u + v) (by omega)
    rw [show 0 + 38 + (6 * u + v) = 38 + 6 * u + v by omega] at bb
    have r' : RRow (m.2.1 27) (τ.2.1 53) 0 0 := by rw [hm]; exact r
    rw [G_dues r' (c := nI u) (w := nI v) (by omega) (by omega), ixB (K := 38) (k := 38) rfl (by omega) (by omega) (by decide), iu, iv]
    show _ = nI (if u < 6 ∧ v < 6 then (τ.2.1 53 (38 + 6 * u + v)).toInt.toNat else 0)
    rw [if_pos ⟨hu, hv⟩]
    exact nI_self bb.1
  · intro u v hu hv
    have iu := nI_toInt (n := u) (by omega)
    have iv := nI_toInt (n := v) (by omega)
    have bb := b (6 * u + v) (by omega)
    rw [show 0 + 38 + (6 * u + v) = 38 + 6 * u + v by omega] at bb
    rw [ixB (K := 38) (k := 38) rfl (by omega) (by omega) (by decide), iu, iv]
    show _ = nI (if u < 6 ∧ v < 6 then (τ.2.1 53 (38 + 6 * u + v)).toInt.toNat else 0)
    rw [if_pos ⟨hu, hv⟩]
    exact nI_self bb.1
  · intro u v
    show (if u < 6 ∧ v < 6 then (τ.2.1 53 (38 + 6 * u + v)).toInt.toNat else 0) ≤ 60
    split
    · rename_i c
      have bb := b (6 * u + v) (by omega)
      rw [show 0 + 38 + (6 * u + v) = 38 + 6 * u + v by omega] at bb
      have := bb.2
      omega
    · omega
section RGU
variable {σ τ : St} {d : Nat → Nat → Nat} {W : Nat}
theorem one12 (hd : DUE σ τ d) (hW : W ≤ 6) (eW : τ.2.1 50 0 = nI W) (lf12 : Int32 → St → St) (τ0 : St) (m12 : St) (p : Nat → Nat) (x : Nat) (hx : x < W) {m t : St} (h : RG σ τ d m t p 0) (N : Nat) (hN : N = 105413504) : ∃ t', F_X9_rings_L33 lf12 N τ0 (nI x) m12 0 1 (sa t 57 (upd (t.2.1 57) 0 (nI x))) = lf12 (nI (x + 1)) t' ∧ RG σ τ d (F_X3_walk 6 (sa m 42 (upd (m.2.1 42) 0 (nI x))) (nI W) (1 : Int32) ((1 : Int32) <<< (nI x &&& 31)) (60 : Int32)) t' p 0 := by
  have ix := nI_toInt (n := x) (by omega)
  obtain ⟨m1, em1⟩ : ∃ m1, m1 = sa m 42 (upd (m.2.1 42) 0 (nI x)) := ⟨_, rfl⟩
  obtain ⟨t1, et1⟩ : ∃ t1, t1 = sa t 57 (upd (t.2.1 57) 0 (nI x)) := ⟨_, rfl⟩
  rw [← em1, ← et1]
  have m42 : m1.2.1 42 = upd (m.2.1 42) 0 (nI x) := by rw [em1, sa_at]
  have t57 : t1.2.1 57 = upd (t.2.1 57) 0 (nI x) := by rw [et1, sa_at]
  have g1 : RG σ τ d m1 t1 (fun _ => x) 1 := by
    obtain ⟨a1, a2, a3, a4, a5, a6, a7⟩ := h
    refine ⟨by rw [em1]; exact a1, by rw [et1]; exact a2, by rw [et1]; exact a3, fun j hj => ?_, fun j hj => ?_, by rw [et1]; exact a6, by rw [em1, et1]; exact a7⟩
    · have : j = 0 := by omega
      subst this
      rw [m42, t57, pk_us, pk_us]; exact ⟨rfl, rfl⟩
    · rw [t57]
      by_cases e : j = 0
      · subst e; rw [pk_us]; exact ⟨by omega, by omega⟩
      · rw [pk_un e]; exact a5 j hj
  have hp : PTH d (fun _ => x) 1 := ⟨fun j _ => by show x < 6; omega, fun i j h1 h2 => absurd h2 (by omega), fun j hj => absurd hj (by omega)⟩
  have v0 : (105413504 : Int) ≤ VV (t1.2.1 57) 1 0 + (N : Int) := by
    rw [t57]
    have := vv_start (w := t.2.1 57) (x1 := nI x) (by omega)
    rw [hN]
    exact this
  have n1 : nI 1 = (1 : Int32) := rfl
  have n0 : nI 0 = (0 : Int32) := rfl
  obtain ⟨n, en⟩ := vv_need v0 (by omega) (by omega) g1.2.2.2.2.1
  rw [en] at v0 ⊢
  have b2 : 2 ^ x < 64 := by
    have : 2 ^ x ≤ 2 ^ 5 := Nat.pow_le_pow_right (by decide) (by omega)
    have : (2 : Nat) ^ 5 = 32 := by decide
    omega
  have tb : ∀ x, x < 6 → ∀ v, v < 6 → ((2 ^ x).testBit v = true ↔ x = v) := by decide +kernel
  obtain ⟨n', t', r1, r2, r3⟩ := (SA hd hW eW 5 (by decide)) lf12 τ0 (nI x) m12 (fun _ => x) (2 ^ x) (W - (x + 1)) (x + 1) (6 - x) 7 n 0 m1 m1 m1 t1 b2 (fun v hv => (tb x (by omega) v hv).trans ⟨fun z => ⟨0, by decide, z⟩, fun ⟨_, _, z⟩ => z⟩) hp (fun _ _ => hx) (by omega) (by omega) (by omega) (by omega) (by show x < x + 1; omega) v0 g1 (fun j hj => (g1.2.2.2.1 j hj).1)
  have pr := pre37 hd hW eW (M := 1) (by omega) g1 (fun _ _ => hx) lf12 (fun y1 y2 y3 => F_X9_rings_L33 lf12 n τ0 (nI x) m12 y1 y2 y3) τ0 (nI x) (nI 0) m12 (x + 1) (6 - x) 0 (by omega)
  rw [show 6 - x + (x + 1) = 7 by omega] at pr
  have r1 := pr.trans r1
  rw [n1, n0] at r1
  obtain ⟨n2, en2⟩ := vv_need r2 (by omega) (by show (x : Int) + 1 ≤ 6; omega) r3.2.2.2.2.1
  rw [en2] at r1
  refine ⟨t', ?_, ?_⟩
  · rw [F_X9_rings_L33, if_neg (show ¬ (1 : Int32) ≤ 0 by decide)]
    refine r1.trans ?_
    rw [F_X9_rings_L33, if_pos (show (0 : Int32) ≤ 0 by decide), nI_1]
  · have wB : F_X3_walk 6 m1 (nI W) (1 : Int32) ((1 : Int32) <<< (nI x &&& 31)) (60 : Int32) = F_X3_walk_L68 7 (F_X3_walk 5) m1 (nI W) (nI 1) (nI (2 ^ x)) (nI 60) m1 (nI (x + 1)) m1 := by
      rw [F_X3_walk]
      unfold F_X3_walk_B
      rw [if_neg (show ¬ (1 : Int32) < 1 by decide), if_pos (show (1 : Int32) ≤ 6 by decide), if_pos (show (1 : Int32) < 2 by decide)]
      unfold F_X3_walk_J58
      dsimp only
      rw [(g1.2.2.2.1 0 (by decide)).1, nI_1, sh_tab x (by omega), n1, show nI 60 = (60 : Int32) from rfl]
    rw [wB]
    exact RG.mono r3 (by omega) (fun j hj => absurd hj (by omega))
theorem all12 (hd : DUE σ τ d) (hW : W ≤ 6) (eW : τ.2.1 50 0 = nI W) (σ0 τ0 : St) (p : Nat → Nat) : ∀ (n x : Nat) (m t : St), x ≤ W → RG σ τ d m t p 0 → RG σ τ d (F_X3_find_L12 n σ0 (nI W) (nI x) m) (F_X9_rings_L12 n τ0 (nI x) t) p 0
  | 0, x, m, t, hx, h => h
  | n + 1, x, m, t, hx, h => by
    rw [F_X3_find_L12, F_X9_rings_L12, h.2.1, eW]
    by_cases q : nI W ≤ nI x
    · rw [if_pos q, if_pos q]; exact h
    · rw [if_neg q, if_neg q]
      have q : ¬ W ≤ x := fun z => q ((nI_leI (by omega) (by omega)).mpr z)
      rw [if_neg (nI_n6 (by omega))]
      unfold F_X3_find_k39_7
      obtain ⟨t', r1, r2⟩ := one12 hd hW eW (fun y1 y2 => F_X9_rings_L12 n τ0 y1 y2) τ0 t p x (by omega) h 105413504 rfl
      rw [r1, nI_1]
      exact all12 hd hW eW σ0 τ0 p n (x + 1) _ t' (by omega) r2
end RGU
theorem E_rings {σ τ : St} (h : RR σ τ) : ∃ d, DUE σ τ d ∧ RG σ τ d (F_X3_find σ (σ.1 96)) (F_X9_rings τ) (fun _ => 0) 0 := by
  obtain ⟨d, hd⟩ := dues_of h
  obtain ⟨W, hW, eW⟩ := W_of h
  refine ⟨d, hd, ?_⟩
  have n0 : nI 0 = (0 : Int32) := rfl
  have wb := h.2.2.2.2.2.2.2
  have r := all12 hd hW eW σ τ (fun _ => 0) 7 0 (si (si σ 1282 (0 : Int32)) 1283 (0 : Int32)) (si (si τ 1553 (0 : Int32)) 1554 (0 : Int32)) (by omega) ⟨rfl, rfl, rfl, fun j hj => absurd hj (by omega), wb.1, wb.2, fun _ => 0, 0, 0, rfl, rfl, rfl, rfl, by decide, by decide, fun j hj => absurd hj (by omega), fun i j _ hj => absurd hj (by omega), fun i hi => absurd hi (by omega), Or.inl rfl⟩
  unfold F_X3_find F_X9_rings
  rw [h.2.1.1.1, eW]
  rw [n0] at r
  exact r
theorem rg_WB {σ τ : St} {d : Nat → Nat → Nat} {m t : St} {p : Nat → Nat} (h : RG σ τ d m t p 0) : WB t := ⟨h.2.2.2.2.1, h.2.2.2.2.2.1⟩
theorem RR_rings {σ τ : St} (h : RR σ τ) {d : Nat → Nat → Nat} (g : RG σ τ d (F_X3_find σ (σ.1 96)) (F_X9_rings τ) (fun _ => 0) 0) : RR (F_X3_find σ (σ.1 96)) (F_X9_rings τ) :=
  h.fr (Fr.mono (by decide) (by decide) (fun _ => rfl) (fr_F_X3_find σ (σ.1 96))) (Fr.mono (by decide) (by decide) (fun _ => rfl) (fr_F_X9_rings τ)) (rg_WB g)
theorem s_ring : St_ring RR := by
  intro σ τ a1 h
  obtain ⟨d, hd, g⟩ := E_rings h
  have rr := RR_rings h g
  obtain ⟨q, K, s, b1, b2, b3, b4, b5, b6, b7, b8, b9, b10⟩ := g.2.2.2.2.2.2
  have iK := nI_toInt (n := K) (by omega)
  refine ⟨by rw [h.2.1.1.1]; exact h.2.1.1.2.2, ⟨h.2.1.1.2, h.2.2.2.2.2.2.2.1, g.2.2.2.2.2.1, by rw [b3]; omega, by rw [b3]; omega⟩, ?_⟩
  unfold F_X8_ring F_X9_ring
  rw [F_in_eq]
  by_cases c : F_X9_in a1 (-2) 5 = 0
  · rw [if_pos c, if_pos c]; exact ⟨rfl, h⟩
  · rw [if_neg c, if_neg c]
    generalize F_X3_find σ (σ.1 96) = u at *
    generalize F_X9_rings τ = w at *
    unfold F_X8_ring_k30_3 F_X9_ring_k13_3
    rw [b1, b2, b3, b4]
    by_cases k0 : nI K = 0
    · rw [if_pos k0, if_pos k0]; exact ⟨rfl, rr⟩
    · rw [if_neg k0, if_neg k0]
      by_cases e2 : a1 = -2
      · rw [if_pos e2, if_neg (by rw [e2]; decide), if_pos e2]; exact ⟨rfl, rr⟩
      · rw [if_neg e2, if_neg e2]
        by_cases e1 : a1 = -1
        · rw [if_pos e1, if_pos e1]; exact ⟨rfl, rr⟩
        · rw [if_neg e1, if_neg e1]
          have fz := fz_in c
          have m2 : ((-2) : Int32).toInt = -2 := rfl
          have m1 : ((-1) : Int32).toInt = -1 := rfl
          have m5 : ((5) : Int32).toInt = 5 := rfl
          have n2 := i_ne e2
          have n1 := i_ne e1
          have a0 : 0 ≤ a1.toInt := by omega
          unfold F_X3_wellAt
          rw [b1, if_neg (show ¬ a1 < 0 from fun z => by have := i_lt z; rw [z32] at this; omega)]
          by_cases z : nI K ≤ a1
          · rw [if_pos z, if_pos z]; exact ⟨rfl, rr⟩
          · rw [if_neg z, if_neg z]
            have z := i_nle z
            rw [if_neg (show ¬ (6 : Int32) ≤ a1 from fun y => by have := i_le y; have e6 : (6 : Int32).toInt = 6 := rfl; omega)]
            have bj := b7 a1.toNatClampNeg (by show a1.toInt.toNat < K; omega)
            rw [bj.1, bj.2.1]
            exact ⟨rfl, rr⟩
section STR
variable {u w : St} {P : Nat → Int32} {U : Int32} {q : Nat → Nat} {K s : Nat}
theorem st_L {d : Nat → Nat → Nat} (hK : 2 ≤ K ∧ K ≤ 6) (hs : s ≤ 60) (b1 : u.1 1282 = nI K) (b2 : u.1 1283 = nI s) (b3 : w.1 1553 = nI K) (b4 : w.1 1554 = nI s) (b7 : ∀ j, j < K → u.2.1 41 j = nI (q j) ∧ w.2.1 58 j = nI (q j) ∧ q j < 6) (b8 : ∀ i j, i < j → j < K → q i ≠ q j) (b9 : ∀ i, i < K → s ≤ d (q i) (q (if i + 1 = K then 0 else i + 1))) (d6 : ∀ u v, d u v ≤ 60) (σ τ u1 u4 w1 w4 : St) : ∀ (n x : Nat) (F G : Nat → Int32), x ≤ K → K < x + n → LG F P U G 0 → (∀ i, x ≤ i → i < K → G (38 + 6 * q i + q (if i + 1 = K then 0 else i + 1)) = nI (d (q i) (q (if i + 1 = K then 0 else i + 1)))) → ∃ F' G', F_X8_strikes_L45 n σ u1 u4 (nI x) (sa (si (sa u 28 P) 802 U) 27 F) = (nI K * nI s, sa (si (sa u 28 P) 802 U) 27 F') ∧ F_X9_strikes_L20 n τ w1 w4 (nI x) (sa w 53 G) = (nI K * nI s, sa w 53 G') ∧ LG F' P U G' 0
  | 0, x, F, G, hx, hn, _, _ => absurd hn (by omega)
  | n + 1, x, F, G, hx, hn, L, hG => by
    obtain ⟨m, em⟩ : ∃ m, m = sa (si (sa u 28 P) 802 U) 27 F := ⟨_, rfl⟩
    obtain ⟨t, et⟩ : ∃ t, t = sa w 53 G := ⟨_, rfl⟩
    have c1 : m.1 1282 = nI K := by rw [em]; exact b1
    have c2 : m.1 1283 = nI s := by rw [em]; exact b2
    have c3 : t.1 1553 = nI K := by rw [et]; exact b3
    have c4 : t.1 1554 = nI s := by rw [et]; exact b4
    have m41 : m.2.1 41 = u.2.1 41 := by rw [em]; rfl
    have t58 : t.2.1 58 = w.2.1 58 := by rw [et]; rfl
    have m27 : m.2.1 27 = F := by rw [em]; rfl
    have t53 : t.2.1 53 = G := by rw [et]; rfl
    rw [← em, ← et, F_X8_strikes_L45, F_X9_strikes_L20, c1, c2, c3, c4]
    by_cases e : nI K ≤ nI x
    · rw [if_pos e, if_pos e, em, et]
      exact ⟨F, G, rfl, rfl, L⟩
    · rw [if_neg e, if_neg e]
      have e : ¬ K ≤ x := fun z => e ((nI_leI (by omega) (by omega)).mpr z)
      have wa : ∀ j, j < K → F_X3_wellAt m (nI j) = nI (q j) := fun j hj => by
        unfold F_X3_wellAt
        rw [c1, if_neg (nI_nle0 (by omega)), if_neg (fun z => by have := (nI_leI (by omega) (by omega)).mp z; omega), if_neg (nI_n6 (by omega)), nI_clamp (by omega), m41, (b7 j hj).1]
      obtain ⟨y, ey⟩ : ∃ y, y = (if x + 1 = K then 0 else x + 1) := ⟨_, rfl⟩
      have hy : y < K := by rw [ey]; split <;> omega
      have nx : (if nI K ≤ nI x + (1 : Int32) then (0 : Int32) else nI x + (1 : Int32)) = nI y := by
        rw [nI_1, ey]
        by_cases z : x + 1 = K
        · rw [if_pos z, if_pos ((nI_leI (by omega) (by omega)).mpr (by omega))]; rfl
        · rw [if_neg z, if_neg (fun z2 => by have := (nI_leI (by omega) (by omega)).mp z2; omega)]
      have md := md_tab K (by omega) (by omega) x (by omega)
      rw [← ey] at md
      have qx := (b7 x (by omega)).2.2
      have qy := (b7 y hy).2.2
      have ix := nI_toInt (n := q x) (by omega)
      have iy := nI_toInt (n := q y) (by omega)
      have rF : RRow (m.2.1 27) G 0 0 := by rw [m27]; exact L.1
      have gd := G_dues rF (c := nI (q x)) (w := nI (q y)) (by omega) (by omega)
      rw [nx, md, wa x (by omega), wa y hy, nI_clamp (n := x) (by omega), nI_clamp (n := y) (by omega), t58, (b7 x (by omega)).2.1, (b7 y hy).2.1, t53, gd]
      obtain ⟨D, eD⟩ : ∃ D, D = d (q x) (q y) := ⟨_, rfl⟩
      have gv : G (((38 : Int32) + ((6 : Int32) * nI (q x))) + nI (q y)).toNatClampNeg = nI D := by
        rw [ixB (K := 38) (k := 38) rfl (by omega) (by omega) (by decide), ix, iy, eD]
        have := hG x (Nat.le_refl _) (by omega)
        rw [← ey] at this
        exact this
      have sD : s ≤ D := by
        have := b9 x (by omega)
        rw [← ey, ← eD] at this
        exact this
      have D6 : D ≤ 60 := by rw [eD]; exact d6 _ _
      have nq : q x ≠ q y := by
        rw [ey]
        split
        · exact fun z => b8 0 x (by omega) (by omega) z.symm
        · exact b8 x (x + 1) (by omega) (by omega)
      rw [gv]
      have iD := nI_toInt (n := D) (by omega)
      have is := nI_toInt (n := s) (by omega)
      have iv : (nI D - nI s).toInt = (nI D).toInt - (nI s).toInt := ti_of (oI_sub (oI_at _) (oI_at _)) (by omega)
      obtain ⟨v, ev⟩ : ∃ v, v = nI D - nI s := ⟨_, rfl⟩
      rw [← ev] at iv ⊢
      have sd : F_X2_setDues m (nI (q x)) (nI (q y)) v = sa (si (sa u 28 P) 802 U) 27 (upd F (((38 : Int32) + (nI (q x) * (6 : Int32))) + nI (q y)).toNatClampNeg v) := by
        unfold F_X2_setDues
        rw [if_neg (isW6 (by omega)), if_neg (isW6 (by omega)), m27, em, sa_sa]
      have st : sa t 53 (upd G (((38 : Int32) + ((6 : Int32) * nI (q x))) + nI (q y)).toNatClampNeg v) = sa w 53 (upd G (((38 : Int32) + ((6 : Int32) * nI (q x))) + nI (q y)).toNatClampNeg v) := by
        rw [et, sa_sa]
      rw [sd, st]
      unfold F_X8_strikes_k113_12
      dsimp only
      rw [nI_1]
      refine st_L hK hs b1 b2 b3 b4 b7 b8 b9 d6 σ τ u1 u4 w1 w4 n (x + 1) _ _ (by omega) (by omega) (LG.new L (U_dues L.1 (by omega) (by omega)) (I_dues L.2.1 (by omega) (by omega) (by omega) ⟨by omega, by omega⟩) (fun k hk => pk_un (by rw [ixB (K := 38) (k := 38) rfl (by omega) (by omega) (by decide)]; omega))) (fun i h1 h2 => ?_)
      rw [pk_un (by
        rw [ixB (K := 38) (k := 38) rfl (by omega) (by omega) (by decide), ix, iy]
        have := b8 x i (by omega) h2
        have := (b7 i h2).2.2
        have := (b7 (if i + 1 = K then 0 else i + 1) (by split <;> omega)).2.2
        omega)]
      exact hG i (by omega) h2
end STR
theorem s_strikes : St_strikes RR := by
  intro σ τ h
  obtain ⟨d, hd, g⟩ := E_rings h
  have rr := RR_rings h g
  obtain ⟨q, K, s, b1, b2, b3, b4, b5, b6, b7, b8, b9, b10⟩ := g.2.2.2.2.2.2
  have iK := nI_toInt (n := K) (by omega)
  refine ⟨⟨h.2.2.1.2.2.2.1, by rw [h.2.1.1.1]; exact h.2.1.1.2.2, by rw [b1]; omega⟩, ⟨h.2.1.1.2, h.2.2.2.2.2.2.2.1, R_74 h, g.2.2.2.2.2.1, by rw [b3]; omega, by rw [b3]; omega⟩, ?_⟩
  unfold F_X8_strikes F_X9_strikes
  have g53 := g.2.2.1
  generalize F_X3_find σ (σ.1 96) = u at *
  generalize F_X9_rings τ = w at *
  unfold F_X8_strikes_k20_2 F_X9_strikes_k1_2
  rw [b1, b3]
  by_cases k0 : nI K = 0
  · rw [if_pos k0, if_pos k0]; exact ⟨rfl, rr⟩
  · rw [if_neg k0, if_neg k0]
    have K2 : 2 ≤ K := by
      rcases b10 with z | z
      · exact absurd (show nI K = 0 by rw [z]; rfl) k0
      · exact z
    obtain ⟨P, U, G, e1, e2, L2, gk⟩ := KR rr.2.2.1
    rw [e1, e2]
    unfold F_X8_strikes_k40_5 F_X9_strikes_k15_5
    have s27 : si (sa u 28 P) 802 U = sa (si (sa u 28 P) 802 U) 27 (u.2.1 27) := by
      refine Prod.ext rfl (Prod.ext ?_ rfl)
      funext j
      show (if j = 28 then P else u.2.1 j) = (if j = 27 then u.2.1 27 else (if j = 28 then P else u.2.1 j))
      by_cases z : j = 27
      · rw [if_pos z, z]; rfl
      · rw [if_neg z]
    have n0 : nI 0 = (0 : Int32) := rfl
    obtain ⟨F', G', r1, r2, r3⟩ := st_L (u := u) (w := w) ⟨K2, b5⟩ b6 b1 b2 b3 b4 b7 b8 b9 hd.2.2 σ τ u (si (sa u 28 P) 802 U) w (sa w 53 G) 7 0 (u.2.1 27) G (by omega) (by omega) L2 (fun i _ hi => by
      have q1 := (b7 i hi).2.2
      have q2 := (b7 (if i + 1 = K then 0 else i + 1) (by split <;> omega)).2.2
      have i1 := nI_toInt (n := q i) (by omega)
      have i2 := nI_toInt (n := q (if i + 1 = K then 0 else i + 1)) (by omega)
      have := hd.2.1 _ _ q1 q2
      rw [ixB (K := 38) (k := 38) rfl (by omega) (by omega) (by decide), i1, i2] at this
      rw [gk _ (by omega), g53]
      exact this)
    rw [← s27, n0] at r1
    rw [n0] at r2
    rw [r1, r2]
    exact ⟨rfl, rr.deed r3⟩
