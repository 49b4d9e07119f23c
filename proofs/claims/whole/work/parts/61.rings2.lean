/-! ===== rings: one level of the walk, and all ===== -/
theorem dec_nI {M : Nat} (h : 1 ≤ M) : nI M + ((-1) : Int32) = nI (M - 1) := by
  have := nI_pred (M - 1)
  rw [show M - 1 + 1 = M by omega] at this
  rw [← this]
  exact (Int32.sub_eq_add_neg (nI M) 1).symm
theorem sub_nI {M : Nat} (h : 1 ≤ M) : nI M - (1 : Int32) = nI (M - 1) := by
  have := nI_pred (M - 1)
  rw [show M - 1 + 1 = M by omega] at this
  exact this
def SPM (σ τ : St) (d : Nat → Nat → Nat) (W M : Nat) : Prop := ∀ (lf12 : Int32 → St → St) (τ0 : St) (x1 : Int32) (m12 : St) (p : Nat → Nat) (b : Nat) (E y f k n x : Nat) (σe m58 m t : St), b < 64 → (∀ v, v < 6 → (b.testBit v = true ↔ ∃ j, j < M ∧ p j = v)) → PTH d p M → (∀ j, j < M → p j < W) → y + E = W → W < y + f → W < y + k → x ≤ y → p 0 < y → (105413504 : Int) ≤ VV (t.2.1 57) M x + ((n + 1 : Nat) : Int) → RG σ τ d m t p M → (∀ j, j < M → σe.2.1 42 j = nI (p j)) →
  ∃ n' t', F_X9_rings_L37 lf12 (fun y1 y2 y3 => F_X9_rings_L33 lf12 n τ0 x1 m12 y1 y2 y3) f τ0 x1 m12 (nI x) (nI M) t (nI y) = F_X9_rings_L33 lf12 n' τ0 x1 m12 (nI (p (M - 1) + 1)) (nI (M - 1)) t' ∧ (105413504 : Int) ≤ VV (t'.2.1 57) (M - 1) ((p (M - 1) : Nat) + 1) + (n' : Int) ∧ RG σ τ d (F_X3_walk_L68 k (F_X3_walk (6 - M)) σe (nI W) (nI M) (nI b) (nI (MN d p (M - 1))) m58 (nI y) m) t' p M
section RGT
variable {σ τ : St} {d : Nat → Nat → Nat} {W : Nat}
theorem w68_six (rc : St → Int32 → Int32 → Int32 → Int32 → St) (σe : St) (a2 a4 a5 : Int32) (m58 : St) (k : Nat) (y : Int32) (m : St) : F_X3_walk_L68 k rc σe a2 (nI 6) a4 a5 m58 y m = m := by
  cases k with
  | zero => rfl
  | succ k =>
    rw [F_X3_walk_L68]
    by_cases q : a2 ≤ y
    · rw [if_pos q]
    · rw [if_neg q, if_pos (show (6 : Int32) ≤ nI 6 by decide)]
/-- the reference passes over the wells that come first -/
theorem pre37 (hd : DUE σ τ d) (hW : W ≤ 6) (eW : τ.2.1 50 0 = nI W) {p : Nat → Nat} {M : Nat} (hM : 1 ≤ M ∧ M ≤ 6) {m t : St} (h : RG σ τ d m t p M) (hp : ∀ j, j < M → p j < W) (lf12 : Int32 → St → St) (lf33 : Int32 → Int32 → St → St) (τ0 : St) (x1 x : Int32) (m12 : St) : ∀ (e f z : Nat), z + e = p 0 + 1 → F_X9_rings_L37 lf12 lf33 (f + e) τ0 x1 m12 x (nI M) t (nI z) = F_X9_rings_L37 lf12 lf33 f τ0 x1 m12 x (nI M) t (nI (p 0 + 1))
  | 0, f, z, hz => by rw [show z = p 0 + 1 by omega]; rfl
  | e + 1, f, z, hz => by
    have p0 := hp 0 (by omega)
    rw [show f + (e + 1) = (f + e) + 1 by omega, F_X9_rings_L37, h.2.1, eW, if_neg (fun q => by have := (nI_leI (by omega) (by omega)).mp q; omega)]
    unfold F_X9_rings_k50_12
    rw [if_pos ((mw hd hM (y := z) (by omega) h (fun j hj => by have := hp j hj; omega)).mpr (Or.inl (by omega))), nI_1]
    exact pre37 hd hW eW hM h hp lf12 lf33 τ0 x1 x m12 e f (z + 1) (by omega)
theorem RG.mono {m t : St} {p p' : Nat → Nat} {M M' : Nat} (h : RG σ τ d m t p M) (hM : M' ≤ M) (hp : ∀ j, j < M' → p' j = p j) : RG σ τ d m t p' M' :=
  ⟨h.1, h.2.1, h.2.2.1, fun j hj => by rw [hp j hj]; exact h.2.2.2.1 j (by omega), h.2.2.2.2⟩
theorem MN_ext {d : Nat → Nat → Nat} {p p' : Nat → Nat} : ∀ k, (∀ j, j ≤ k → p j = p' j) → MN d p k = MN d p' k
  | 0, _ => rfl
  | k + 1, h => by
    unfold MN
    rw [MN_ext k (fun j hj => h j (by omega)), h k (by omega), h (k + 1) (by omega)]
theorem vv_need {w : Nat → Int32} {m : Nat} {x : Int} {n : Nat} (h : (105413504 : Int) ≤ VV w m x + (n : Int)) (hm : m ≤ 6) (hx : x ≤ 6) (hw : ∀ j : Nat, j < 6 → 0 ≤ (w j).toInt ∧ (w j).toInt ≤ 5) : ∃ n', n = n' + 1 := by
  have := vv_lt hm hx hw
  exact ⟨n - 1, by omega⟩
theorem SMr (hd : DUE σ τ d) (hW : W ≤ 6) (eW : τ.2.1 50 0 = nI W) {M : Nat} (hM : 1 ≤ M ∧ M ≤ 6) (IH : M = 6 ∨ SPM σ τ d W (M + 1)) : SPM σ τ d W M := by
  intro lf12 τ0 x1 m12 p b E
  induction E with
  | zero =>
    intro y f k n x σe m58 m t hb hbt hp hpW hy hf hk hxy hp0 hv h he
    have yW : y = W := by omega
    subst yW
    obtain ⟨f, rfl⟩ : ∃ f', f = f' + 1 := ⟨f - 1, by omega⟩
    obtain ⟨k, rfl⟩ : ∃ f', k = f' + 1 := ⟨k - 1, by omega⟩
    refine ⟨n, t, ?_, ?_, ?_⟩
    · have q : nI y ≤ nI y := (nI_leI (by omega) (by omega)).mpr (Nat.le_refl _)
      rw [F_X9_rings_L37, h.2.1, eW, if_pos q, if_pos q, dec_nI hM.1, nI_clamp (by omega), (h.2.2.2.1 (M - 1) (by omega)).2, nI_1]
    · have e : ((t.2.1 57) (M - 1)).toInt = ((p (M - 1) : Nat) : Int) := by
        rw [(h.2.2.2.1 (M - 1) (by omega)).2, nI_toInt (by have := hpW (M - 1) (by omega); omega)]
      have := vv_pop0 (w := t.2.1 57) (m := M) (x3 := (x : Int)) hM (by omega)
      rw [e] at this
      omega
    · rw [F_X3_walk_L68, if_pos ((nI_leI (by omega) (by omega)).mpr (Nat.le_refl _))]
      exact h
  | succ E ih =>
    intro y f k n x σe m58 m t hb hbt hp hpW hy hf hk hxy hp0 hv h he
    obtain ⟨f, rfl⟩ : ∃ f', f = f' + 1 := ⟨f - 1, by omega⟩
    obtain ⟨k, rfl⟩ : ∃ f', k = f' + 1 := ⟨k - 1, by omega⟩
    have q : ¬ nI W ≤ nI y := fun z => by have := (nI_leI (by omega) (by omega)).mp z; omega
    have pl := hp.1 (M - 1) (by omega)
    have dC := hd.1 (p (M - 1)) y pl (by omega) m h.1
    have dle := hd.2.2 (p (M - 1)) y
    have ib := nI_toInt (n := d (p (M - 1)) y) (by omega)
    have mwi := mw hd hM (y := y) (by omega) h hp.1
    rw [F_X9_rings_L37, h.2.1, eW, if_neg q]
    unfold F_X9_rings_k50_12
    by_cases c : F_X9_mayWalk t (nI M) (nI y) = 0
    · rw [if_pos c, nI_1]
      have c := mwi.mp c
      have cl : F_X3_walk_L68 (k + 1) (F_X3_walk (6 - M)) σe (nI W) (nI M) (nI b) (nI (MN d p (M - 1))) m58 (nI y) m = F_X3_walk_L68 k (F_X3_walk (6 - M)) σe (nI W) (nI M) (nI b) (nI (MN d p (M - 1))) m58 (nI (y + 1)) m := by
        by_cases m6 : M = 6
        · subst m6
          rw [w68_six, w68_six]
        · rw [F_X3_walk_L68, if_neg q, if_neg (show ¬ (6 : Int32) ≤ nI M from fun z => by have : 6 ≤ M := (num_le M rfl (by decide) (by omega)).mp z; omega), sub_nI hM.1, nI_clamp (n := M - 1) (by omega), he (M - 1) (by omega), dC, nI_1]
          by_cases c2 : nI (d (p (M - 1)) y) ≤ 0
          · rw [if_pos c2]
          · rw [if_neg c2, hb_tab b hb y (by omega)]
            have c2 := i_nle c2
            rw [z32] at c2
            have : b.testBit y = true := (hbt y (by omega)).mpr (by
              rcases c with c | c | c
              · omega
              · omega
              · exact c)
            rw [if_pos this, if_neg (by decide)]
      rw [cl]
      exact ih (y + 1) f k n x σe m58 m t hb hbt hp hpW (by omega) (by omega) (by omega) (by omega) (by omega) hv h he
    · rw [if_neg c, if_neg (show ¬ (t.2.1 50) 0 ≤ nI y by rw [h.2.1, eW]; exact q)]
      have nc : ¬ (y ≤ p 0 ∨ d (p (M - 1)) y = 0 ∨ ∃ j, j < M ∧ p j = y) := fun z => c (mwi.mpr z)
      have nd : 0 < d (p (M - 1)) y := Nat.pos_of_ne_zero (fun z => nc (Or.inr (Or.inl z)))
      have nn : ∀ j, j < M → p j ≠ y := fun j hj z => nc (Or.inr (Or.inr ⟨j, hj, z⟩))
      -- six wells at most
      have M5 : M ≤ 5 := by
        rcases Nat.lt_or_ge M 6 with z | z
        · omega
        · exfalso
          have := fb_holes 6 (M + 1) (fun j => if j = M then y else p j) (fun i hi => by
            show (if i = M then y else p i) < 6
            split
            · omega
            · exact hp.1 i (by omega)) (fun i j hij hj => by
            show (if i = M then y else p i) ≠ (if j = M then y else p j)
            rw [if_neg (show ¬ i = M by omega)]
            split
            · exact nn i (by omega)
            · exact hp.2.1 i j hij (by omega))
          omega
      have IH' : SPM σ τ d W (M + 1) := IH.resolve_left (by omega)
      unfold F_X9_rings_k84_17
      rw [nI_1, nI_clamp (n := M) (by omega)]
      -- the longer row
      obtain ⟨p', ep⟩ : ∃ p' : Nat → Nat, p' = fun j => if j = M then y else p j := ⟨_, rfl⟩
      have pM : p' M = y := by rw [ep]; exact if_pos rfl
      have pj : ∀ j, j < M → p' j = p j := fun j hj => by rw [ep]; exact if_neg (by omega)
      obtain ⟨m1, em1⟩ : ∃ m1, m1 = sa m 42 (upd (m.2.1 42) M (nI y)) := ⟨_, rfl⟩
      obtain ⟨t1, et1⟩ : ∃ t1, t1 = sa t 57 (upd (t.2.1 57) M (nI y)) := ⟨_, rfl⟩
      have m42 : m1.2.1 42 = upd (m.2.1 42) M (nI y) := by rw [em1, sa_at]
      have t57 : t1.2.1 57 = upd (t.2.1 57) M (nI y) := by rw [et1, sa_at]
      have iy := nI_toInt (n := y) (by omega)
      have g1 : RG σ τ d m1 t1 p' (M + 1) := by
        obtain ⟨a1, a2, a3, a4, a5, a6, a7⟩ := h
        refine ⟨by rw [em1]; exact a1, by rw [et1]; exact a2, by rw [et1]; exact a3, fun j hj => ?_, fun j hj => ?_, by rw [et1]; exact a6, by rw [em1, et1]; exact a7⟩
        · rw [m42, t57]
          by_cases e : j = M
          · subst e; rw [pk_us, pk_us, pM]; exact ⟨rfl, rfl⟩
          · rw [pk_un e, pk_un e, pj j (by omega)]; exact a4 j (by omega)
        · rw [t57]
          by_cases e : j = M
          · subst e; rw [pk_us]; exact ⟨by omega, by omega⟩
          · rw [pk_un e]; exact a5 j hj
      have hp' : PTH d p' (M + 1) := by
        refine ⟨fun j hj => ?_, fun i j hij hj => ?_, fun j hj => ?_⟩
        · by_cases e : j = M
          · subst e; rw [pM]; omega
          · rw [pj j (by omega)]; exact hp.1 j (by omega)
        · rw [pj i (by omega)]
          by_cases e : j = M
          · subst e; rw [pM]; exact nn i (by omega)
          · rw [pj j (by omega)]; exact hp.2.1 i j hij (by omega)
        · rw [pj j (by omega)]
          by_cases e : j + 1 = M
          · rw [e, pM, show j = M - 1 by omega]; exact nd
          · rw [pj (j + 1) (by omega)]; exact hp.2.2 j (by omega)
      have hpW' : ∀ j, j < M + 1 → p' j < W := fun j hj => by
        by_cases e : j = M
        · subst e; rw [pM]; omega
        · rw [pj j (by omega)]; exact hpW j (by omega)
      have g2 := of_tr hd (M := M + 1) (by omega) g1 hp'
      rw [show M + 1 - 1 = M by omega] at g2
      rw [← et1]
      obtain ⟨t2, et2⟩ : ∃ t2, t2 = F_X9_tries t1 (nI (M + 1)) := ⟨_, rfl⟩
      rw [← et2] at g2 ⊢
      obtain ⟨m2, em2⟩ : ∃ m2, m2 = (if nI (d (p' M) (p' 0)) ≤ 0 then m1 else F_X3_offer m1 (nI (M + 1)) (if nI (d (p' M) (p' 0)) < nI (MN d p' M) then nI (d (p' M) (p' 0)) else nI (MN d p' M))) := ⟨_, rfl⟩
      rw [← em2] at g2
      have t257 : t2.2.1 57 = upd (t.2.1 57) M (nI y) := by rw [et2, (fr_F_X9_tries t1 (nI (M + 1))).2.1 57 (by decide), t57]
      have v1 : (105413504 : Int) ≤ VV (t2.2.1 57) (M + 1) 0 + (n : Int) := by
        rw [t257]
        have := vv_push0 (w := t.2.1 57) (m := M) (x3 := (x : Int)) (y := nI y) (by omega) (by omega)
        omega
      obtain ⟨n1, en1⟩ := vv_need v1 (by omega) (by omega) g2.2.2.2.2.1
      subst en1
      -- the class
      have wB : F_X3_walk (6 - M) m1 (nI W) (nI (M + 1)) (nI (b ||| 2 ^ y)) (nI (MN d p' M)) = F_X3_walk_L68 7 (F_X3_walk (6 - (M + 1))) m1 (nI W) (nI (M + 1)) (nI (b ||| 2 ^ y)) (nI (MN d p' M)) m2 (nI (p' 0 + 1)) m2 := by
        rw [show 6 - M = (6 - (M + 1)) + 1 by omega, F_X3_walk]
        unfold F_X3_walk_B
        have i1 := nI_toInt (n := M + 1) (by omega)
        have e1 : (1 : Int32).toInt = 1 := rfl
        have e2 : (2 : Int32).toInt = 2 := rfl
        have e6 : (6 : Int32).toInt = 6 := rfl
        have d2 := hd.1 (p' M) (p' 0) (hp'.1 M (by omega)) (hp'.1 0 (by omega)) m1 g1.1
        rw [if_neg (show ¬ nI (M + 1) < (1 : Int32) from fun z => by have := i_lt z; omega), if_pos (show nI (M + 1) ≤ (6 : Int32) from Int32.le_iff_toInt_le.mpr (by omega)), if_neg (show ¬ nI (M + 1) < (2 : Int32) from fun z => by have := i_lt z; omega), sub_nI (by omega), show M + 1 - 1 = M by omega, nI_clamp (n := M) (by omega), (g1.2.2.2.1 M (by omega)).1, (g1.2.2.2.1 0 (by omega)).1, d2]
        have j58 : ∀ u, u.2.1 42 0 = nI (p' 0) → F_X3_walk_J58 (F_X3_walk (6 - (M + 1))) m1 (nI W) (nI (M + 1)) (nI (b ||| 2 ^ y)) (nI (MN d p' M)) u = F_X3_walk_L68 7 (F_X3_walk (6 - (M + 1))) m1 (nI W) (nI (M + 1)) (nI (b ||| 2 ^ y)) (nI (MN d p' M)) u (nI (p' 0 + 1)) u := fun u hu => by
          unfold F_X3_walk_J58
          rw [hu, nI_1]
        have m20 := (g2.2.2.2.1 0 (by omega)).1
        by_cases c3 : nI (d (p' M) (p' 0)) ≤ 0
        · rw [if_pos c3] at em2 ⊢
          rw [em2] at m20 ⊢
          exact j58 m1 m20
        · rw [if_neg c3] at em2 ⊢
          rw [← em2]
          unfold F_X3_walk_k55_15
          exact j58 m2 m20
      have mn' : MN d p' M = (if d (p (M - 1)) y < MN d p (M - 1) then d (p (M - 1)) y else MN d p (M - 1)) := by
        rw [show M = (M - 1) + 1 by omega]
        show (if d (p' (M - 1)) (p' (M - 1 + 1)) < MN d p' (M - 1) then d (p' (M - 1)) (p' (M - 1 + 1)) else MN d p' (M - 1)) = _
        rw [show M - 1 + 1 = M by omega, pM, pj (M - 1) (by omega), MN_ext (M - 1) (fun j hj => pj j (by omega))]
      have mnb := MN_b (d := d) (p := p) (M - 1) (fun j hj => hp.2.2 j (by omega))
      have imn := nI_toInt (n := MN d p (M - 1)) (by omega)
      have ls : (if nI (d (p (M - 1)) y) < nI (MN d p (M - 1)) then nI (d (p (M - 1)) y) else nI (MN d p (M - 1))) = nI (MN d p' M) := by
        rw [mn']
        by_cases z : d (p (M - 1)) y < MN d p (M - 1)
        · rw [if_pos z, if_pos (Int32.lt_iff_toInt_lt.mpr (by omega))]
        · rw [if_neg z, if_neg (fun w => by have := i_lt w; omega)]
      have cl : F_X3_walk_L68 (k + 1) (F_X3_walk (6 - M)) σe (nI W) (nI M) (nI b) (nI (MN d p (M - 1))) m58 (nI y) m = F_X3_walk_L68 k (F_X3_walk (6 - M)) σe (nI W) (nI M) (nI b) (nI (MN d p (M - 1))) m58 (nI (y + 1)) (F_X3_walk_L68 7 (F_X3_walk (6 - (M + 1))) m1 (nI W) (nI (M + 1)) (nI (b ||| 2 ^ y)) (nI (MN d p' M)) m2 (nI (p' 0 + 1)) m2) := by
        rw [F_X3_walk_L68, if_neg q, if_neg (show ¬ (6 : Int32) ≤ nI M from fun z => by have : 6 ≤ M := (num_le M rfl (by decide) (by omega)).mp z; omega), sub_nI hM.1, nI_clamp (n := M - 1) (by omega), he (M - 1) (by omega), dC, nI_1, nI_1, if_neg (show ¬ nI (d (p (M - 1)) y) ≤ 0 from fun z => by have := i_le z; rw [z32] at this; omega), hb_tab b hb y (by omega)]
        have nb : ¬ b.testBit y = true := fun z => by
          obtain ⟨j, j1, j2⟩ := (hbt y (by omega)).mp z
          exact nn j j1 j2
        rw [if_neg nb, if_pos rfl, ls, or_tab b hb y (by omega), nI_clamp (n := M) (by omega), ← em1, wB]
        unfold F_X3_walk_k133_11
        dsimp only
        rw [nI_1]
      rw [cl]
      -- the walk from the longer row
      have hb' := ob_tab b hb y (by omega)
      have hbt' : ∀ v, v < 6 → ((b ||| 2 ^ y).testBit v = true ↔ ∃ j, j < M + 1 ∧ p' j = v) := fun v hv => by
        rw [hb'.2 v hv]
        constructor
        · intro z
          rcases (Bool.or_eq_true _ _).mp z with z | z
          · obtain ⟨j, j1, j2⟩ := (hbt v hv).mp z
            exact ⟨j, by omega, by rw [pj j j1]; exact j2⟩
          · exact ⟨M, by omega, by rw [pM]; exact (beq_iff_eq.mp z).symm⟩
        · rintro ⟨j, j1, j2⟩
          apply (Bool.or_eq_true _ _).mpr
          by_cases e : j = M
          · subst e; rw [pM] at j2; exact Or.inr (beq_iff_eq.mpr j2.symm)
          · exact Or.inl ((hbt v hv).mpr ⟨j, by omega, by rw [← pj j (by omega)]; exact j2⟩)
      have p00 : p' 0 < W := hpW' 0 (by omega)
      obtain ⟨n', t', r1, r2, r3⟩ := IH' lf12 τ0 x1 m12 p' (b ||| 2 ^ y) (W - (p' 0 + 1)) (p' 0 + 1) (6 - p' 0) 7 n1 0 m1 m2 m2 t2 hb'.1 hbt' hp' hpW' (by omega) (by omega) (by omega) (by omega) (by omega) (by omega) g2 (fun j hj => (g1.2.2.2.1 j hj).1)
      rw [show M + 1 - 1 = M by omega, pM] at r1 r2
      have st33 : F_X9_rings_L33 lf12 (n1 + 1) τ0 x1 m12 0 (nI (M + 1)) t2 = F_X9_rings_L33 lf12 n' τ0 x1 m12 (nI (y + 1)) (nI M) t' := by
        rw [F_X9_rings_L33, if_neg (show ¬ nI (M + 1) ≤ 0 from fun z => by have := i_le z; rw [z32, nI_toInt (by omega)] at this; omega), ← r1]
        have := pre37 hd hW eW (M := M + 1) (by omega) g2 hpW' lf12 (fun y1 y2 y3 => F_X9_rings_L33 lf12 n1 τ0 x1 m12 y1 y2 y3) τ0 x1 (nI 0) m12 (p' 0 + 1) (6 - p' 0) 0 (by omega)
        rw [show 6 - p' 0 + (p' 0 + 1) = 7 by omega] at this
        exact this
      dsimp only
      rw [st33]
      have g3 : RG σ τ d (F_X3_walk_L68 7 (F_X3_walk (6 - (M + 1))) m1 (nI W) (nI (M + 1)) (nI (b ||| 2 ^ y)) (nI (MN d p' M)) m2 (nI (p' 0 + 1)) m2) t' p M := by
        rw [show M + 1 - 1 = M by omega] at r3
        exact RG.mono r3 (by omega) (fun j hj => (pj j hj).symm)
      generalize F_X3_walk_L68 7 (F_X3_walk (6 - (M + 1))) m1 (nI W) (nI (M + 1)) (nI (b ||| 2 ^ y)) (nI (MN d p' M)) m2 (nI (p' 0 + 1)) m2 = m3 at *
      obtain ⟨n2, en2⟩ := vv_need r2 (by omega) (by omega) g3.2.2.2.2.1
      subst en2
      rw [F_X9_rings_L33, if_neg (show ¬ nI M ≤ 0 from fun z => by have := i_le z; rw [z32, nI_toInt (by omega)] at this; omega)]
      exact ih (y + 1) 7 k n2 (y + 1) σe m58 m3 t' hb hbt hp hpW (by omega) (by omega) (by omega) (by omega) (by omega) (by have : ((y + 1 : Nat) : Int) = (y : Int) + 1 := by omega
                                                                                                                            rw [this]; exact r2) g3 he
theorem SA (hd : DUE σ τ d) (hW : W ≤ 6) (eW : τ.2.1 50 0 = nI W) : ∀ D, D ≤ 5 → SPM σ τ d W (6 - D)
  | 0, _ => SMr hd hW eW (by omega) (Or.inl rfl)
  | D + 1, hD => SMr hd hW eW (by omega) (Or.inr (by
      have := SA hd hW eW D (by omega)
      rw [show 6 - (D + 1) + 1 = 6 - D by omega]
      exact this))
end RGT
