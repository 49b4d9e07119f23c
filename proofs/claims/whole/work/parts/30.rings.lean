/-! a row of laws/COUNTS.to-paste -/
theorem fb_holes : ∀ (m n : Nat) (f : Nat → Nat), (∀ i, i < n → f i < m) → (∀ i j, i < j → j < n → f i ≠ f j) → n ≤ m := by
  intro m
  induction m with
  | zero =>
    intro n f h1 _
    rcases Nat.eq_zero_or_pos n with h | h
    · omega
    · exact absurd (h1 0 h) (Nat.not_lt_zero _)
  | succ m ih =>
    intro n f h1 h2
    by_cases hx : ∃ i, i < n ∧ f i = m
    · obtain ⟨a, ha, hfa⟩ := hx
      have hg := ih (n - 1) (fun i => if i < a then f i else f (i + 1)) (by
        intro i hi
        by_cases q : i < a
        · simp only [if_pos q]
          have b1 := h1 i (by omega)
          have b2 := h2 i a q ha
          omega
        · simp only [if_neg q]
          have b1 := h1 (i + 1) (by omega)
          have b2 := h2 a (i + 1) (by omega) (by omega)
          omega) (by
        intro i j hij hj
        by_cases q : i < a
        · by_cases r : j < a
          · simp only [if_pos q, if_pos r]
            exact h2 i j hij (by omega)
          · simp only [if_pos q, if_neg r]
            exact h2 i (j + 1) (by omega) (by omega)
        · have r : ¬ j < a := by omega
          simp only [if_neg q, if_neg r]
          exact h2 (i + 1) (j + 1) (by omega) (by omega))
      omega
    · have hg := ih n f (fun i hi => by
        have b1 := h1 i hi
        have b2 : f i ≠ m := fun e => hx ⟨i, hi, e⟩
        omega) h2
      omega
/-- two of them in one place -/

def DS (w : Nat → Int32) (m : Nat) : Prop := ∀ i j : Nat, i < j → j < m → w i ≠ w j
def dg (w : Nat → Int32) (many : Nat) (nx : Int) (i : Nat) : Int := if i < many then 2 * (w i).toInt + 1 else if i = many then 2 * nx else 0
def VV (w : Nat → Int32) (many : Nat) (nx : Int) : Int := dg w many nx 0 * 7529536 + dg w many nx 1 * 537824 + dg w many nx 2 * 38416 + dg w many nx 3 * 2744 + dg w many nx 4 * 196 + dg w many nx 5 * 14 + dg w many nx 6
theorem vv_push0 {w : Nat → Int32} {m : Nat} {x3 : Int} {y : Int32} (h2 : 1 ≤ m ∧ m ≤ 5) (h3 : x3 ≤ y.toInt) : VV w m x3 + 1 ≤ VV (upd w m y) (m + 1) 0 := by
  have h : m = 1 ∨ m = 2 ∨ m = 3 ∨ m = 4 ∨ m = 5 := by omega
  rcases h with h | h | h | h | h <;> subst h <;> simp [VV, dg, upd] <;> omega
theorem vv_pop0 {w : Nat → Int32} {m : Nat} {x3 : Int} (h2 : 1 ≤ m ∧ m ≤ 6) (h3 : x3 ≤ 6) : VV w m x3 + 1 ≤ VV w (m - 1) ((w (m - 1)).toInt + 1) := by
  have h : m = 1 ∨ m = 2 ∨ m = 3 ∨ m = 4 ∨ m = 5 ∨ m = 6 := by omega
  rcases h with h | h | h | h | h | h <;> subst h <;> simp [VV, dg] <;> omega
theorem vv_lt {w : Nat → Int32} {m : Nat} {x3 : Int} (h2 : m ≤ 6) (h3 : x3 ≤ 6) (hw : ∀ j : Nat, j < 6 → 0 ≤ (w j).toInt ∧ (w j).toInt ≤ 5) : VV w m x3 < 105413504 := by
  have w0 := hw 0 (by decide)
  have w1 := hw 1 (by decide)
  have w2 := hw 2 (by decide)
  have w3 := hw 3 (by decide)
  have w4 := hw 4 (by decide)
  have w5 := hw 5 (by decide)
  have h : m = 0 ∨ m = 1 ∨ m = 2 ∨ m = 3 ∨ m = 4 ∨ m = 5 ∨ m = 6 := by omega
  rcases h with h | h | h | h | h | h | h <;> subst h <;> simp [VV, dg] <;> omega
theorem vv_start {w : Nat → Int32} {x1 : Int32} (h : 0 ≤ x1.toInt) : 105413504 ≤ VV (upd w 0 x1) (1 : Int32).toInt.toNat (0 : Int32).toInt + ((105413504 : Nat) : Int) := by
  show 105413504 ≤ VV (upd w 0 x1) 1 0 + ((105413504 : Nat) : Int)
  simp [VV, dg, upd]
  omega
theorem vv_push {w : Nat → Int32} {x2 x3 y : Int32} {n : Nat} (h2 : 1 ≤ x2.toInt ∧ x2.toInt ≤ 5) (h3 : x3.toInt ≤ y.toInt) (h : 105413504 ≤ VV w x2.toInt.toNat x3.toInt + ((n + 1 : Nat) : Int)) : 105413504 ≤ VV (upd w x2.toNatClampNeg y) (x2 + (1 : Int32)).toInt.toNat (0 : Int32).toInt + (n : Int) := by
  rw [show (x2 + (1 : Int32)).toInt.toNat = x2.toInt.toNat + 1 from by rw [ti_of (oI_add (oI_at x2) (oI_lit (x := 1) (a := 1) rfl)) (by omega)]; omega]
  show 105413504 ≤ VV (upd w x2.toInt.toNat y) (x2.toInt.toNat + 1) 0 + (n : Int)
  have := vv_push0 (w := w) (m := x2.toInt.toNat) (x3 := x3.toInt) (y := y) (by omega) h3
  omega
theorem vv_pop {w : Nat → Int32} {x2 x3 : Int32} {n : Nat} (h2 : 1 ≤ x2.toInt ∧ x2.toInt ≤ 6) (h3 : x3.toInt ≤ 6) (hw : 0 ≤ (w (x2 + ((-1) : Int32)).toNatClampNeg).toInt ∧ (w (x2 + ((-1) : Int32)).toNatClampNeg).toInt ≤ 5) (h : 105413504 ≤ VV w x2.toInt.toNat x3.toInt + ((n + 1 : Nat) : Int)) : 105413504 ≤ VV w (x2 + ((-1) : Int32)).toInt.toNat ((w (x2 + ((-1) : Int32)).toNatClampNeg) + (1 : Int32)).toInt + (n : Int) := by
  rw [ti_of (oI_add (oI_at (w (x2 + ((-1) : Int32)).toNatClampNeg)) (oI_lit (x := 1) (a := 1) rfl)) (by omega)]
  have e : (x2 + ((-1) : Int32)).toInt.toNat = x2.toInt.toNat - 1 := by
    rw [ti_of (oI_add (oI_at x2) (oI_lit (x := (-1)) (a := (-1)) rfl)) (by omega)]; omega
  have e2 : (x2 + ((-1) : Int32)).toNatClampNeg = x2.toInt.toNat - 1 := e
  rw [e2, e]
  have := vv_pop0 (w := w) (m := x2.toInt.toNat) (x3 := x3.toInt) (by omega) h3
  omega
theorem ds_push {w : Nat → Int32} {x2 y : Int32} (h2 : 0 ≤ x2.toInt ∧ x2.toInt ≤ 5) (h : DS w x2.toInt.toNat) (hy : ∀ k : Nat, k < x2.toInt.toNat → w k ≠ y) : DS (upd w x2.toNatClampNeg y) (x2 + (1 : Int32)).toInt.toNat := by
  rw [show (x2 + (1 : Int32)).toInt.toNat = x2.toInt.toNat + 1 from by rw [ti_of (oI_add (oI_at x2) (oI_lit (x := 1) (a := 1) rfl)) (by omega)]; omega]
  intro i j hij hj
  show upd w x2.toInt.toNat y i ≠ upd w x2.toInt.toNat y j
  rw [pk_un (show i ≠ x2.toInt.toNat by omega)]
  by_cases c : j = x2.toInt.toNat
  · subst c
    rw [pk_us]
    exact hy i hij
  · rw [pk_un c]
    exact h i j hij (by omega)
theorem ds_pop {w : Nat → Int32} {x2 : Int32} (h2 : 1 ≤ x2.toInt ∧ x2.toInt ≤ 6) (h : DS w x2.toInt.toNat) : DS w (x2 + ((-1) : Int32)).toInt.toNat := by
  rw [show (x2 + ((-1) : Int32)).toInt.toNat = x2.toInt.toNat - 1 from by rw [ti_of (oI_add (oI_at x2) (oI_lit (x := (-1)) (a := (-1)) rfl)) (by omega)]; omega]
  intro i j hij hj
  exact h i j hij (by omega)
theorem pig5 {w : Nat → Int32} {x2 y : Int32} (hw : ∀ j : Nat, j < 6 → 0 ≤ (w j).toInt ∧ (w j).toInt ≤ 5) (h : DS w x2.toInt.toNat) (hn : ∀ k : Nat, k < x2.toInt.toNat → w k ≠ y) (hy : 0 ≤ y.toInt ∧ y.toInt ≤ 5) (h2 : 0 ≤ x2.toInt ∧ x2.toInt ≤ 6) : x2.toInt ≤ 5 := by
  have q := fb_holes 6 (x2.toInt.toNat + 1) (fun i => if i < x2.toInt.toNat then (w i).toInt.toNat else y.toInt.toNat) (by
    intro i hi
    show (if i < x2.toInt.toNat then (w i).toInt.toNat else y.toInt.toNat) < 6
    split
    · have := hw i (by omega)
      omega
    · omega) (by
    intro i j hij hj
    show (if i < x2.toInt.toNat then (w i).toInt.toNat else y.toInt.toNat) ≠ (if j < x2.toInt.toNat then (w j).toInt.toNat else y.toInt.toNat)
    rw [if_pos (show i < x2.toInt.toNat by omega)]
    have bi := hw i (by omega)
    split
    · rename_i hj2
      have bj := hw j (by omega)
      intro e
      exact h i j hij hj2 (Int32.toInt_inj.mp (by omega))
    · intro e
      exact hn i (by omega) (Int32.toInt_inj.mp (by omega)))
  omega
theorem wk_upd {τ : St} {i : Nat} {y : Int32} (h : WK τ) (hy : 0 ≤ y.toInt ∧ y.toInt ≤ 5) : ∀ j : Nat, j < 6 → 0 ≤ (upd (τ.2.1 57) i y j).toInt ∧ (upd (τ.2.1 57) i y j).toInt ≤ 5 := by
  intro j hj
  by_cases c : j = i
  · subst c; rw [pk_us]; exact hy
  · rw [pk_un c]; exact h j hj
theorem pop_b {x2 w : Int32} (h2 : 1 ≤ x2.toInt ∧ x2.toInt ≤ 6) (hw : 0 ≤ w.toInt ∧ w.toInt ≤ 5) : 0 ≤ (x2 + ((-1) : Int32)).toInt ∧ (x2 + ((-1) : Int32)).toInt ≤ 6 ∧ 0 ≤ (w + (1 : Int32)).toInt ∧ (w + (1 : Int32)).toInt ≤ 6 := by
  rw [ti_of (oI_add (oI_at x2) (oI_lit (x := (-1)) (a := (-1)) rfl)) (by omega), ti_of (oI_add (oI_at w) (oI_lit (x := 1) (a := 1) rfl)) (by omega)]
  omega
theorem mw_L (τ : St) (a1 a2 : Int32) (ha : a1.toInt ≤ 6) : ∀ (n : Nat) (x4 x3 : Int32), 0 ≤ x4.toInt → ¬ F_X9_mayWalk_L43 n τ a1 a2 x4 x3 = 0 → ¬ x3 = 0 ∧ ∀ k : Nat, x4.toInt ≤ k → (k : Int) < a1.toInt → (τ.2.1 57) k ≠ a2
  | 0, _, _, _, h => absurd rfl h
  | n + 1, x4, x3, h0, h => by
    rw [F_X9_mayWalk_L43] at h
    by_cases c : a1 ≤ x4
    · rw [if_pos c] at h
      have := i_le c
      exact ⟨h, fun k h1 h2 => absurd h2 (by omega)⟩
    · rw [if_neg c] at h
      have c := i_nle c
      have e : (x4 + (1 : Int32)).toInt = x4.toInt + 1 := ti_of (oI_add (oI_at x4) (oI_lit (x := 1) (a := 1) rfl)) (by omega)
      obtain ⟨r1, r2⟩ := mw_L τ a1 a2 ha n _ _ (by omega) h
      by_cases d : x3 = 0
      · rw [if_pos d] at r1; exact absurd rfl r1
      · rw [if_neg d] at r1
        by_cases g : ((τ.2.1 57) x4.toNatClampNeg) = a2
        · rw [if_pos g] at r1; exact absurd rfl r1
        · refine ⟨d, fun k h1 h2 => ?_⟩
          by_cases q : x4.toNatClampNeg = k
          · rw [← q]; exact g
          · refine r2 k ?_ h2
            have : x4.toInt.toNat ≠ k := q
            omega
theorem mw_ne {τ : St} {a1 a2 : Int32} (ha : a1.toInt ≤ 6) (h : ¬ F_X9_mayWalk τ a1 a2 = 0) : ∀ k : Nat, k < a1.toInt.toNat → (τ.2.1 57) k ≠ a2 := fun k hk => (mw_L τ a1 a2 ha 7 0 _ (by decide) h).2 k (by show (0 : Int) ≤ k; omega) (by omega)

def F_X9_rings_k84_10 (lf12 : Int32 → St → St) (lf33 : Int32 → Int32 → St → St) (lf37 : Int32 → St) (τ : St) (x1_12 : Int32) (m12 : St) (x3_33 : Int32) (x2_33 : Int32) (m33 : St) (x3_37 : Int32) (u9 : St) : St := (lf33 (0 : Int32) (x2_33 + (1 : Int32)) u9)
def F_X9_rings_k84_17 (lf12 : Int32 → St → St) (lf33 : Int32 → Int32 → St → St) (lf37 : Int32 → St) (τ : St) (x1_12 : Int32) (m12 : St) (x3_33 : Int32) (x2_33 : Int32) (m33 : St) (x3_37 : Int32) (v11 : Int32) (u16 : St) : St := (lf33 (0 : Int32) (x2_33 + (1 : Int32)) u16)
def F_X9_rings_k50_12 (lf12 : Int32 → St → St) (lf33 : Int32 → Int32 → St → St) (lf37 : Int32 → St) (τ : St) (x1_12 : Int32) (m12 : St) (x3_33 : Int32) (x2_33 : Int32) (m33 : St) (x3_37 : Int32) (v11 : Int32) : St := (if v11 = 0 then (lf37 (x3_37 + (1 : Int32))) else (if ((m33.2.1 50) 0) ≤ x3_37 then (lf33 (((m33.2.1 57) (x2_33 + ((-1) : Int32)).toNatClampNeg) + (1 : Int32)) (x2_33 + ((-1) : Int32)) m33) else (F_X9_rings_k84_17 lf12 lf33 lf37 τ x1_12 m12 x3_33 x2_33 m33 x3_37 v11 (F_X9_tries (sa m33 57 (upd (m33.2.1 57) x2_33.toNatClampNeg x3_37)) (x2_33 + (1 : Int32))))))
def F_X9_rings_L37 (lf12 : Int32 → St → St) (lf33 : Int32 → Int32 → St → St) : Nat → St → Int32 → St → Int32 → Int32 → St → Int32 → St
  | 0, τ, _, _, _, _, _, _ => τ
  | n + 1, τ, x1_12, m12, x3_33, x2_33, m33, x3_37 => (if ((m33.2.1 50) 0) ≤ x3_37 then (if ((m33.2.1 50) 0) ≤ x3_37 then (lf33 (((m33.2.1 57) (x2_33 + ((-1) : Int32)).toNatClampNeg) + (1 : Int32)) (x2_33 + ((-1) : Int32)) m33) else (F_X9_rings_k84_10 lf12 lf33 (fun y1 => F_X9_rings_L37 lf12 lf33 n τ x1_12 m12 x3_33 x2_33 m33 y1) τ x1_12 m12 x3_33 x2_33 m33 x3_37 (F_X9_tries (sa m33 57 (upd (m33.2.1 57) x2_33.toNatClampNeg x3_37)) (x2_33 + (1 : Int32))))) else (F_X9_rings_k50_12 lf12 lf33 (fun y1 => F_X9_rings_L37 lf12 lf33 n τ x1_12 m12 x3_33 x2_33 m33 y1) τ x1_12 m12 x3_33 x2_33 m33 x3_37 (F_X9_mayWalk m33 x2_33 x3_37)))
def F_X9_rings_L33 (lf12 : Int32 → St → St) : Nat → St → Int32 → St → Int32 → Int32 → St → St
  | 0, _, _, _, _, _, m33 => m33
  | n + 1, τ, x1_12, m12, x3_33, x2_33, m33 => (if x2_33 ≤ 0 then (lf12 (x1_12 + (1 : Int32)) m33) else (F_X9_rings_L37 lf12 (fun y1 y2 y3 => F_X9_rings_L33 lf12 n τ x1_12 m12 y1 y2 y3) 7 τ x1_12 m12 x3_33 x2_33 m33 x3_33))
def F_X9_rings_L12 : Nat → St → Int32 → St → St
  | 0, _, _, m12 => m12
  | n + 1, τ, x1_12, m12 => (if ((m12.2.1 50) 0) ≤ x1_12 then m12 else (F_X9_rings_L33 (fun y1 y2 => F_X9_rings_L12  n τ y1 y2) 105413504 τ x1_12 m12 (0 : Int32) (1 : Int32) (sa m12 57 (upd (m12.2.1 57) 0 x1_12))))
def F_X9_rings (τ : St) : St := (F_X9_rings_L12  7 τ (0 : Int32) (si (si τ 1553 (0 : Int32)) 1554 (0 : Int32)))
abbrev I_X9_rings : List Nat := [1553, 1554]
abbrev A_X9_rings : List Nat := [57, 58]
theorem fr_F_X9_rings_k84_10 (lf12 : Int32 → St → St) (lf33 : Int32 → Int32 → St → St) (lf37 : Int32 → St) (τ : St) (x1_12 : Int32) (m12 : St) (x3_33 : Int32) (x2_33 : Int32) (m33 : St) (x3_37 : Int32) (u9 : St) (hlf12 : ∀ (y1 : Int32) (m : St), Fr I_X9_rings A_X9_rings false τ m → Fr I_X9_rings A_X9_rings false τ (lf12 y1 m)) (hlf33 : ∀ (y1 : Int32) (y2 : Int32) (m : St), Fr I_X9_rings A_X9_rings false τ m → Fr I_X9_rings A_X9_rings false τ (lf33 y1 y2 m)) (hlf37 : ∀ (y1 : Int32), Fr I_X9_rings A_X9_rings false τ (lf37 y1)) (hfr : Fr I_X9_rings A_X9_rings false τ (u9)) : Fr I_X9_rings A_X9_rings false τ (F_X9_rings_k84_10 lf12 lf33 lf37 τ x1_12 m12 x3_33 x2_33 m33 x3_37 u9) := (hlf33 (0 : Int32) (x2_33 + (1 : Int32)) u9 hfr)
theorem fr_F_X9_rings_k84_17 (lf12 : Int32 → St → St) (lf33 : Int32 → Int32 → St → St) (lf37 : Int32 → St) (τ : St) (x1_12 : Int32) (m12 : St) (x3_33 : Int32) (x2_33 : Int32) (m33 : St) (x3_37 : Int32) (v11 : Int32) (u16 : St) (hlf12 : ∀ (y1 : Int32) (m : St), Fr I_X9_rings A_X9_rings false τ m → Fr I_X9_rings A_X9_rings false τ (lf12 y1 m)) (hlf33 : ∀ (y1 : Int32) (y2 : Int32) (m : St), Fr I_X9_rings A_X9_rings false τ m → Fr I_X9_rings A_X9_rings false τ (lf33 y1 y2 m)) (hlf37 : ∀ (y1 : Int32), Fr I_X9_rings A_X9_rings false τ (lf37 y1)) (hfr : Fr I_X9_rings A_X9_rings false τ (u16)) : Fr I_X9_rings A_X9_rings false τ (F_X9_rings_k84_17 lf12 lf33 lf37 τ x1_12 m12 x3_33 x2_33 m33 x3_37 v11 u16) := (hlf33 (0 : Int32) (x2_33 + (1 : Int32)) u16 hfr)
theorem fr_F_X9_rings_k50_12 (lf12 : Int32 → St → St) (lf33 : Int32 → Int32 → St → St) (lf37 : Int32 → St) (τ : St) (x1_12 : Int32) (m12 : St) (x3_33 : Int32) (x2_33 : Int32) (m33 : St) (x3_37 : Int32) (v11 : Int32) (hlf12 : ∀ (y1 : Int32) (m : St), Fr I_X9_rings A_X9_rings false τ m → Fr I_X9_rings A_X9_rings false τ (lf12 y1 m)) (hlf33 : ∀ (y1 : Int32) (y2 : Int32) (m : St), Fr I_X9_rings A_X9_rings false τ m → Fr I_X9_rings A_X9_rings false τ (lf33 y1 y2 m)) (hlf37 : ∀ (y1 : Int32), Fr I_X9_rings A_X9_rings false τ (lf37 y1)) (hfr : Fr I_X9_rings A_X9_rings false τ (m33)) : Fr I_X9_rings A_X9_rings false τ (F_X9_rings_k50_12 lf12 lf33 lf37 τ x1_12 m12 x3_33 x2_33 m33 x3_37 v11) := (fr_ite1 (hlf37 (x3_37 + (1 : Int32)) ) (fr_ite1 (hlf33 (((m33.2.1 57) (x2_33 + ((-1) : Int32)).toNatClampNeg) + (1 : Int32)) (x2_33 + ((-1) : Int32)) m33 hfr) (fr_F_X9_rings_k84_17 lf12 lf33 lf37 τ x1_12 m12 x3_33 x2_33 m33 x3_37 v11 (F_X9_tries (sa m33 57 (upd (m33.2.1 57) x2_33.toNatClampNeg x3_37)) (x2_33 + (1 : Int32))) hlf12 hlf33 hlf37 (Fr.tr (Fr.sa (by decide) hfr) (Fr.mono (by decide) (by decide) (by decide) (fr_F_X9_tries (sa m33 57 (upd (m33.2.1 57) x2_33.toNatClampNeg x3_37)) (x2_33 + (1 : Int32))))))))
theorem fr_F_X9_rings_L37_w (lf12 : Int32 → St → St) (lf33 : Int32 → Int32 → St → St) (τ : St) (x1_12 : Int32) (m12 : St) (x3_33 : Int32) (x2_33 : Int32) (m33 : St) (hlf12 : ∀ (y1 : Int32) (m : St), Fr I_X9_rings A_X9_rings false τ m → Fr I_X9_rings A_X9_rings false τ (lf12 y1 m)) (hlf33 : ∀ (y1 : Int32) (y2 : Int32) (m : St), Fr I_X9_rings A_X9_rings false τ m → Fr I_X9_rings A_X9_rings false τ (lf33 y1 y2 m)) (hfr : Fr I_X9_rings A_X9_rings false τ (m33)) : ∀ (n : Nat) (x3_37 : Int32), Fr I_X9_rings A_X9_rings false τ (F_X9_rings_L37 lf12 lf33 n τ x1_12 m12 x3_33 x2_33 m33 x3_37)
  | 0, x3_37 => Fr.rf
  | n + 1, x3_37 => (fr_ite1 (fr_ite1 (hlf33 (((m33.2.1 57) (x2_33 + ((-1) : Int32)).toNatClampNeg) + (1 : Int32)) (x2_33 + ((-1) : Int32)) m33 hfr) (fr_F_X9_rings_k84_10 lf12 lf33 (fun y1 => F_X9_rings_L37 lf12 lf33 n τ x1_12 m12 x3_33 x2_33 m33 y1) τ x1_12 m12 x3_33 x2_33 m33 x3_37 (F_X9_tries (sa m33 57 (upd (m33.2.1 57) x2_33.toNatClampNeg x3_37)) (x2_33 + (1 : Int32))) hlf12 hlf33 (fun y1 => fr_F_X9_rings_L37_w lf12 lf33 τ x1_12 m12 x3_33 x2_33 m33 hlf12 hlf33 hfr n y1) (Fr.tr (Fr.sa (by decide) hfr) (Fr.mono (by decide) (by decide) (by decide) (fr_F_X9_tries (sa m33 57 (upd (m33.2.1 57) x2_33.toNatClampNeg x3_37)) (x2_33 + (1 : Int32))))))) (fr_F_X9_rings_k50_12 lf12 lf33 (fun y1 => F_X9_rings_L37 lf12 lf33 n τ x1_12 m12 x3_33 x2_33 m33 y1) τ x1_12 m12 x3_33 x2_33 m33 x3_37 (F_X9_mayWalk m33 x2_33 x3_37) hlf12 hlf33 (fun y1 => fr_F_X9_rings_L37_w lf12 lf33 τ x1_12 m12 x3_33 x2_33 m33 hlf12 hlf33 hfr n y1) hfr))
theorem fr_F_X9_rings_L37 (lf12 : Int32 → St → St) (lf33 : Int32 → Int32 → St → St) (n : Nat) (τ : St) (x1_12 : Int32) (m12 : St) (x3_33 : Int32) (x2_33 : Int32) (m33 : St) (x3_37 : Int32) (hlf12 : ∀ (y1 : Int32) (m : St), Fr I_X9_rings A_X9_rings false τ m → Fr I_X9_rings A_X9_rings false τ (lf12 y1 m)) (hlf33 : ∀ (y1 : Int32) (y2 : Int32) (m : St), Fr I_X9_rings A_X9_rings false τ m → Fr I_X9_rings A_X9_rings false τ (lf33 y1 y2 m)) (hfr : Fr I_X9_rings A_X9_rings false τ (m33)) : Fr I_X9_rings A_X9_rings false τ (F_X9_rings_L37 lf12 lf33 n τ x1_12 m12 x3_33 x2_33 m33 x3_37) := fr_F_X9_rings_L37_w lf12 lf33 τ x1_12 m12 x3_33 x2_33 m33 hlf12 hlf33 hfr n x3_37
theorem fr_F_X9_rings_L33_w (lf12 : Int32 → St → St) (τ : St) (x1_12 : Int32) (m12 : St) (hlf12 : ∀ (y1 : Int32) (m : St), Fr I_X9_rings A_X9_rings false τ m → Fr I_X9_rings A_X9_rings false τ (lf12 y1 m)) : ∀ (n : Nat) (x3_33 : Int32) (x2_33 : Int32) (m33 : St), Fr I_X9_rings A_X9_rings false τ m33 → Fr I_X9_rings A_X9_rings false τ (F_X9_rings_L33 lf12 n τ x1_12 m12 x3_33 x2_33 m33)
  | 0, x3_33, x2_33, m33, hfr => hfr
  | n + 1, x3_33, x2_33, m33, hfr => (fr_ite1 (hlf12 (x1_12 + (1 : Int32)) m33 hfr) (fr_F_X9_rings_L37 lf12 (fun y1 y2 y3 => F_X9_rings_L33 lf12 n τ x1_12 m12 y1 y2 y3) 7 τ x1_12 m12 x3_33 x2_33 m33 x3_33 hlf12 (fun y1 y2 y3 hy => fr_F_X9_rings_L33_w lf12 τ x1_12 m12 hlf12 n y1 y2 y3 hy) hfr))
theorem fr_F_X9_rings_L33 (lf12 : Int32 → St → St) (n : Nat) (τ : St) (x1_12 : Int32) (m12 : St) (x3_33 : Int32) (x2_33 : Int32) (m33 : St) (hlf12 : ∀ (y1 : Int32) (m : St), Fr I_X9_rings A_X9_rings false τ m → Fr I_X9_rings A_X9_rings false τ (lf12 y1 m)) (hfr : Fr I_X9_rings A_X9_rings false τ (m33)) : Fr I_X9_rings A_X9_rings false τ (F_X9_rings_L33 lf12 n τ x1_12 m12 x3_33 x2_33 m33) := fr_F_X9_rings_L33_w lf12 τ x1_12 m12 hlf12 n x3_33 x2_33 m33 hfr
theorem fr_F_X9_rings_L12_w (τ : St) : ∀ (n : Nat) (x1_12 : Int32) (m12 : St), Fr I_X9_rings A_X9_rings false τ m12 → Fr I_X9_rings A_X9_rings false τ (F_X9_rings_L12  n τ x1_12 m12)
  | 0, x1_12, m12, hfr => hfr
  | n + 1, x1_12, m12, hfr => (fr_ite1 hfr (fr_F_X9_rings_L33 (fun y1 y2 => F_X9_rings_L12  n τ y1 y2) 105413504 τ x1_12 m12 (0 : Int32) (1 : Int32) (sa m12 57 (upd (m12.2.1 57) 0 x1_12)) (fun y1 y2 hy => fr_F_X9_rings_L12_w  τ  n y1 y2 hy) (Fr.sa (by decide) hfr)))
theorem fr_F_X9_rings_L12 (n : Nat) (τ : St) (x1_12 : Int32) (m12 : St) (hfr : Fr I_X9_rings A_X9_rings false τ (m12)) : Fr I_X9_rings A_X9_rings false τ (F_X9_rings_L12  n τ x1_12 m12) := fr_F_X9_rings_L12_w  τ  n x1_12 m12 hfr
theorem fr_F_X9_rings (τ : St) : Fr I_X9_rings A_X9_rings false τ (F_X9_rings τ) := (fr_F_X9_rings_L12  7 τ (0 : Int32) (si (si τ 1553 (0 : Int32)) 1554 (0 : Int32)) (Fr.si (by decide) (Fr.si (by decide) Fr.rf)))
set_option maxHeartbeats 4000000 in
set_option maxRecDepth 20000 in
theorem c_X9_rings (l : Launch) (D : va_G) (cI cZ : ClassId) (z : Nat) (ad : Nat → Nat) (σ τ : St) (hw_ : 0 ≤ ((τ.2.1 50) 0).toInt ∧ ((τ.2.1 50) 0).toInt ≤ 6) (hw1_ : WK τ) : gM l yX9_rings cX9_rings 4 none 3 D cI cZ z (gws ad cI cZ σ τ) [.ref (ad 48)] none (gws ad cI cZ σ (F_X9_rings τ)) := by
  refine g_met (own := RX9) (by decide) rfl (Nat.le_of_ble_eq_true rfl) (fun p e s m below meth c ls Q E hr hlk h hl hQ => ?_)
  have hx := E.1
  have hb := E.2.1
  have hF : (F_X9_rings τ) = (F_X9_rings τ) := rfl
  have hl : lv_has ls 4 [(0, .ref (ad 48))] := hl
  refine lv_aload_n hx hb dX9_rings_0 rfl (lv_at hl 0 rfl) ?_
  refine lv_iconst (v := 0) hx hb dX9_rings_1 (by decide) ?_
  refine g_put (v := .int (0 : Int32)) (ty := .int) (ws' := gws ad cI cZ σ (si τ 1553 (0 : Int32))) E h 48 rfl rfl layX9 tyX9 tyX9_ok nmX9 17 (by decide) rfl mw_836 rfl rfl rfl rfl (Nat.le_of_ble_eq_true rfl) (gi_1553 ad cI cZ σ τ (0 : Int32)) dX9_rings_2 (fun H locs h => ?_)
  refine lv_aload_n hx hb dX9_rings_5 rfl (lv_at hl 0 rfl) ?_
  refine lv_iconst (v := 0) hx hb dX9_rings_6 (by decide) ?_
  refine g_put (v := .int (0 : Int32)) (ty := .int) (ws' := gws ad cI cZ σ (si (si τ 1553 (0 : Int32)) 1554 (0 : Int32))) E h 48 rfl rfl layX9 tyX9 tyX9_ok nmX9 18 (by decide) rfl mw_837 rfl rfl rfl rfl (Nat.le_of_ble_eq_true rfl) (gi_1554 ad cI cZ σ (si τ 1553 (0 : Int32)) (0 : Int32)) dX9_rings_7 (fun H locs h => ?_)
  refine lv_iconst (v := 0) hx hb dX9_rings_10 (by decide) ?_
  refine lv_istore_n (lv' := [(1, .int (0 : Int32)), (0, .ref (ad 48))]) hx hb dX9_rings_11 rfl hl (by decide) rfl (fun ls hl => ?_)
  have L12 : ∀ (n12 : Nat) (x1_12 : Int32) (m12 : St) (H : Heap) (locs : List Loc) (ls : Array Slot), ((0 ≤ x1_12.toInt ∧ x1_12.toInt ≤ 6 ∧ x1_12.toInt + n12 = 7) ∧ WK m12 ∧ (m12.2.1 50) = τ.2.1 50) → F_X9_rings_L12  n12 τ x1_12 m12 = (F_X9_rings τ) → gH D z s (gws ad cI cZ σ m12) H locs → lv_has ls 4 [(1, .int x1_12), (0, .ref (ad 48))] → W p l e (rmH 3) s m ([.ref (ad 48)] : List Value).toArray below meth c H locs 0 0 Q (F0 m 12 ls []) := by
    clear hF h hl
    intro n12
    induction n12 with
    | zero =>
      intro x1_12 m12 H locs ls hI
      exact absurd hI (by omega)
    | succ n12 ih12 =>
      intro x1_12 m12 H locs ls hI12 hF h hl
      have ht0 : 0 ≤ (((m12.2.1 50) 0)).toInt ∧ (((m12.2.1 50) 0)).toInt ≤ 6 := by rw [hI12.2.2]; exact hw_
      refine lv_iload_n hx hb dX9_rings_12 rfl (lv_at hl 0 rfl) ?_
      refine lv_aload_n hx hb dX9_rings_13 rfl (lv_at hl 1 rfl) ?_
      refine g_get (v := .ref (ad 50)) E h 48 rfl rfl layX9 3 (by decide) rfl mw_822 rfl dX9_rings_14 ?_
      refine lv_iconst (v := 0) hx hb dX9_rings_17 (by decide) ?_
      refine g_ialdk (f := (m12.2.1 50)) E h 50 rfl 0 rfl (ix_of (oI_lit (x := 0) (a := 0) rfl) (by omega) (by decide)) dX9_rings_18 ?_
      refine lv_icmp_ge (tgt := 113) hx hb dX9_rings_19 (by decide) (fun c2 => ?_) (fun c2 => ?_)
      · have ic2 : ((m12.2.1 50) 0).toInt ≤ x1_12.toInt := i_le c2
        have hF := (if_pos c2).symm.trans hF
        exact g_vret E hr hlk h hQ (congrArg (fun u => gws ad cI cZ σ u) hF) dX9_rings_113
      · have ic2 : x1_12.toInt < ((m12.2.1 50) 0).toInt := i_nle c2
        have hF := (if_neg c2).symm.trans hF
        refine lv_aload_n hx hb dX9_rings_22 rfl (lv_at hl 1 rfl) ?_
        refine g_get (v := .ref (ad 57)) E h 48 rfl rfl layX9 15 (by decide) rfl mw_834 rfl dX9_rings_23 ?_
        refine lv_iconst (v := 0) hx hb dX9_rings_26 (by decide) ?_
        refine lv_iload_n hx hb dX9_rings_27 rfl (lv_at hl 0 rfl) ?_
        refine g_iastk (f := (m12.2.1 57)) (ws' := gws ad cI cZ σ (sa m12 57 (upd (m12.2.1 57) 0 x1_12))) E h 57 rfl 0 rfl (ix_of (oI_lit (x := 0) (a := 0) rfl) (by omega) (by decide)) (ga_57 ad cI cZ σ m12 (upd (m12.2.1 57) 0 x1_12)) dX9_rings_28 (fun H locs h => ?_)
        refine lv_iconst (v := 1) hx hb dX9_rings_29 (by decide) ?_
        refine lv_istore_n (lv' := [(2, .int (1 : Int32)), (1, .int x1_12), (0, .ref (ad 48))]) hx hb dX9_rings_30 rfl hl (by decide) rfl (fun ls hl => ?_)
        refine lv_iconst (v := 0) hx hb dX9_rings_31 (by decide) ?_
        refine lv_istore_n (lv' := [(3, .int (0 : Int32)), (2, .int (1 : Int32)), (1, .int x1_12), (0, .ref (ad 48))]) hx hb dX9_rings_32 rfl hl (by decide) rfl (fun ls hl => ?_)
        have L33 : ∀ (n33 : Nat) (x3_33 : Int32) (x2_33 : Int32) (m33 : St) (H : Heap) (locs : List Loc) (ls : Array Slot), ((0 ≤ x2_33.toInt ∧ x2_33.toInt ≤ 6 ∧ 0 ≤ x3_33.toInt ∧ x3_33.toInt ≤ 6) ∧ 105413504 ≤ VV ((m33.2.1 57)) x2_33.toInt.toNat x3_33.toInt + n33 ∧ DS ((m33.2.1 57)) x2_33.toInt.toNat ∧ WK m33 ∧ (m33.2.1 50) = τ.2.1 50) → F_X9_rings_L33 (fun y1 y2 => F_X9_rings_L12  n12 τ y1 y2) n33 τ x1_12 m12 x3_33 x2_33 m33 = (F_X9_rings τ) → gH D z s (gws ad cI cZ σ m33) H locs → lv_has ls 4 [(3, .int x3_33), (2, .int x2_33), (1, .int x1_12), (0, .ref (ad 48))] → W p l e (rmH 3) s m ([.ref (ad 48)] : List Value).toArray below meth c H locs 0 0 Q (F0 m 33 ls []) := by
          clear hF h hl
          intro n33
          induction n33 with
          | zero =>
            intro x3_33 x2_33 m33 H locs ls hI
            exact absurd hI (by intro q; have q1 := vv_lt (w := m33.2.1 57) (m := x2_33.toInt.toNat) (x3 := x3_33.toInt) (by omega) (by omega) q.2.2.2.1; have q2 := q.2.1; omega)
          | succ n33 ih33 =>
            intro x3_33 x2_33 m33 H locs ls hI33 hF h hl
            have ht0 : 0 ≤ (((m33.2.1 50) 0)).toInt ∧ (((m33.2.1 50) 0)).toInt ≤ 6 := by rw [hI33.2.2.2.2]; exact hw_
            refine lv_iload_n hx hb dX9_rings_33 rfl (lv_at hl 1 rfl) ?_
            refine lv_if_le (tgt := 107) hx hb dX9_rings_34 (by decide) (fun c4 => ?_) (fun c4 => ?_)
            · have ic4 : x2_33.toInt ≤ 0 := i_le c4
              have hF := (if_pos c4).symm.trans hF
              refine lv_iinc (v := (x1_12 + (1 : Int32))) (lv' := [(1, .int (x1_12 + (1 : Int32))), (3, .int x3_33), (2, .int x2_33), (0, .ref (ad 48))]) hx hb dX9_rings_107 hl (k := 2) rfl rfl (by decide) rfl (fun ls hl => ?_)
              refine lv_goto (tgt := 12) hx hb dX9_rings_110 (by decide) ?_
              have e12_1 : (x1_12 + (1 : Int32)).toInt = _ := ti_of (oI_add (oI_at x1_12) (oI_lit (x := 1) (a := 1) rfl)) (by omega)
              exact ih12 (x1_12 + (1 : Int32)) m33 _ _ ls ((show (0 ≤ (x1_12 + (1 : Int32)).toInt ∧ (x1_12 + (1 : Int32)).toInt ≤ 6 ∧ (x1_12 + (1 : Int32)).toInt + n12 = 7) ∧ WK m33 ∧ (m33.2.1 50) = τ.2.1 50 from by exact ⟨by omega, hI33.2.2.2.1, hI33.2.2.2.2⟩)) hF h (lv_sub hl [0, 3] rfl)
            · have ic4 : 0 < x2_33.toInt := i_nle c4
              have hF := (if_neg c4).symm.trans hF
              have L37 : ∀ (n37 : Nat) (x3_37 : Int32) (H : Heap) (locs : List Loc) (ls : Array Slot), (x3_33.toInt ≤ x3_37.toInt ∧ 0 ≤ x3_37.toInt ∧ x3_37.toInt ≤ 6 ∧ 6 < x3_37.toInt + n37) → F_X9_rings_L37 (fun y1 y2 => F_X9_rings_L12  n12 τ y1 y2) (fun y1 y2 y3 => F_X9_rings_L33 (fun y1 y2 => F_X9_rings_L12  n12 τ y1 y2) n33 τ x1_12 m12 y1 y2 y3) n37 τ x1_12 m12 x3_33 x2_33 m33 x3_37 = (F_X9_rings τ) → gH D z s (gws ad cI cZ σ m33) H locs → lv_has ls 4 [(3, .int x3_37), (2, .int x2_33), (1, .int x1_12), (0, .ref (ad 48))] → W p l e (rmH 3) s m ([.ref (ad 48)] : List Value).toArray below meth c H locs 0 0 Q (F0 m 37 ls []) := by
                clear hF h hl
                intro n37
                induction n37 with
                | zero =>
                  intro x3_37 H locs ls hI
                  exact absurd hI (by omega)
                | succ n37 ih37 =>
                  intro x3_37 H locs ls hI37 hF h hl
                  refine lv_iload_n hx hb dX9_rings_37 rfl (lv_at hl 0 rfl) ?_
                  refine lv_aload_n hx hb dX9_rings_38 rfl (lv_at hl 3 rfl) ?_
                  refine g_get (v := .ref (ad 50)) E h 48 rfl rfl layX9 3 (by decide) rfl mw_822 rfl dX9_rings_39 ?_
                  refine lv_iconst (v := 0) hx hb dX9_rings_42 (by decide) ?_
                  refine g_ialdk (f := (m33.2.1 50)) E h 50 rfl 0 rfl (ix_of (oI_lit (x := 0) (a := 0) rfl) (by omega) (by decide)) dX9_rings_43 ?_
                  refine lv_icmp_ge (tgt := 62) hx hb dX9_rings_44 (by decide) (fun c6 => ?_) (fun c6 => ?_)
                  · have ic6 : ((m33.2.1 50) 0).toInt ≤ x3_37.toInt := i_le c6
                    have hF := (if_pos c6).symm.trans hF
                    refine lv_iload_n hx hb dX9_rings_62 rfl (lv_at hl 0 rfl) ?_
                    refine lv_aload_n hx hb dX9_rings_63 rfl (lv_at hl 3 rfl) ?_
                    refine g_get (v := .ref (ad 50)) E h 48 rfl rfl layX9 3 (by decide) rfl mw_822 rfl dX9_rings_64 ?_
                    refine lv_iconst (v := 0) hx hb dX9_rings_67 (by decide) ?_
                    refine g_ialdk (f := (m33.2.1 50)) E h 50 rfl 0 rfl (ix_of (oI_lit (x := 0) (a := 0) rfl) (by omega) (by decide)) dX9_rings_68 ?_
                    refine lv_icmp_ge (tgt := 92) hx hb dX9_rings_69 (by decide) (fun c7 => ?_) (fun c7 => ?_)
                    · have ic7 : ((m33.2.1 50) 0).toInt ≤ x3_37.toInt := i_le c7
                      have hF := (if_pos c7).symm.trans hF
                      have h2p : 1 ≤ x2_33.toInt ∧ x2_33.toInt ≤ 6 := by omega
                      have h3p : x3_33.toInt ≤ 6 := by omega
                      refine lv_iinc (v := (x2_33 + ((-1) : Int32))) (lv' := [(2, .int (x2_33 + ((-1) : Int32))), (3, .int x3_37), (1, .int x1_12), (0, .ref (ad 48))]) hx hb dX9_rings_92 hl (k := 1) rfl rfl (by decide) rfl (fun ls hl => ?_)
                      refine lv_aload_n hx hb dX9_rings_95 rfl (lv_at hl 3 rfl) ?_
                      refine g_get (v := .ref (ad 57)) E h 48 rfl rfl layX9 15 (by decide) rfl mw_834 rfl dX9_rings_96 ?_
                      refine lv_iload_n hx hb dX9_rings_99 rfl (lv_at hl 0 rfl) ?_
                      have w1 := WK.at hI33.2.2.2.1 (x2_33 + ((-1) : Int32)) (by rw [ti_of (oI_add (oI_at x2_33) (oI_lit (x := (-1)) (a := (-1)) rfl)) (by omega)]; omega)
                      refine g_iald (f := (m33.2.1 57)) E h 57 rfl (ix_of (oI_add (oI_at x2_33) (oI_lit (x := (-1)) (a := (-1)) rfl)) (by omega) (by decide)) dX9_rings_100 ?_
                      refine lv_iconst (v := 1) hx hb dX9_rings_101 (by decide) ?_
                      refine lv_iadd hx hb dX9_rings_102 ?_
                      refine lv_istore_n (lv' := [(3, .int (((m33.2.1 57) (x2_33 + ((-1) : Int32)).toNatClampNeg) + (1 : Int32))), (2, .int (x2_33 + ((-1) : Int32))), (1, .int x1_12), (0, .ref (ad 48))]) hx hb dX9_rings_103 rfl hl (by decide) rfl (fun ls hl => ?_)
                      refine lv_goto (tgt := 33) hx hb dX9_rings_104 (by decide) ?_
                      exact ih33 (((m33.2.1 57) (x2_33 + ((-1) : Int32)).toNatClampNeg) + (1 : Int32)) (x2_33 + ((-1) : Int32)) m33 _ _ ls ((show (0 ≤ (x2_33 + ((-1) : Int32)).toInt ∧ (x2_33 + ((-1) : Int32)).toInt ≤ 6 ∧ 0 ≤ (((m33.2.1 57) (x2_33 + ((-1) : Int32)).toNatClampNeg) + (1 : Int32)).toInt ∧ (((m33.2.1 57) (x2_33 + ((-1) : Int32)).toNatClampNeg) + (1 : Int32)).toInt ≤ 6) ∧ 105413504 ≤ VV ((m33.2.1 57)) (x2_33 + ((-1) : Int32)).toInt.toNat (((m33.2.1 57) (x2_33 + ((-1) : Int32)).toNatClampNeg) + (1 : Int32)).toInt + n33 ∧ DS ((m33.2.1 57)) (x2_33 + ((-1) : Int32)).toInt.toNat ∧ WK m33 ∧ (m33.2.1 50) = τ.2.1 50 from by exact ⟨pop_b h2p w1, vv_pop h2p h3p w1 hI33.2.1, ds_pop h2p hI33.2.2.1, hI33.2.2.2.1, hI33.2.2.2.2⟩)) hF h (lv_sub hl [0, 1, 2, 3] rfl)
                    · have ic7 : x3_37.toInt < ((m33.2.1 50) 0).toInt := i_nle c7
                      have hF := (if_neg c7).symm.trans hF
                      have hm5 : x2_33.toInt ≤ 5 := by first | (have mw_ := mw; exact pig5 hI33.2.2.2.1 hI33.2.2.1 (mw (by assumption)) (by omega) (by omega)) | (exfalso; omega)
                      refine lv_aload_n hx hb dX9_rings_72 rfl (lv_at hl 3 rfl) ?_
                      refine g_get (v := .ref (ad 57)) E h 48 rfl rfl layX9 15 (by decide) rfl mw_834 rfl dX9_rings_73 ?_
                      refine lv_iload_n hx hb dX9_rings_76 rfl (lv_at hl 1 rfl) ?_
                      refine lv_iload_n hx hb dX9_rings_77 rfl (lv_at hl 0 rfl) ?_
                      refine g_iast (f := (m33.2.1 57)) (ws' := gws ad cI cZ σ (sa m33 57 (upd (m33.2.1 57) x2_33.toNatClampNeg x3_37))) E h 57 rfl (ix_of (oI_at x2_33) (by omega) (by decide)) (ga_57 ad cI cZ σ m33 (upd (m33.2.1 57) x2_33.toNatClampNeg x3_37)) dX9_rings_78 (fun H locs h => ?_)
                      refine lv_iinc (v := (x2_33 + (1 : Int32))) (lv' := [(2, .int (x2_33 + (1 : Int32))), (3, .int x3_37), (1, .int x1_12), (0, .ref (ad 48))]) hx hb dX9_rings_79 hl (k := 1) rfl rfl (by decide) rfl (fun ls hl => ?_)
                      refine lv_aload_n hx hb dX9_rings_82 rfl (lv_at hl 3 rfl) ?_
                      refine lv_iload_n hx hb dX9_rings_83 rfl (lv_at hl 0 rfl) ?_
                      have w8 : (x2_33 + (1 : Int32)).toInt = _ := ti_of (oI_add (oI_at x2_33) (oI_lit (x := 1) (a := 1) rfl)) (by omega)
                      refine g_callVUv (F_X9_tries (sa m33 57 (upd (m33.2.1 57) x2_33.toNatClampNeg x3_37)) (x2_33 + (1 : Int32))) (fun u => gws ad cI cZ σ u) (rest := []) E h (c_X9_tries l D cI cZ z ad σ (sa m33 57 (upd (m33.2.1 57) x2_33.toNatClampNeg x3_37)) (x2_33 + (1 : Int32)) (show 1 ≤ (x2_33 + (1 : Int32)).toInt ∧ (x2_33 + (1 : Int32)).toInt ≤ 6 from by omega) (show WK (sa m33 57 (upd (m33.2.1 57) x2_33.toNatClampNeg x3_37)) from wk_upd hI33.2.2.2.1 (by omega))) mw_991 cbX9_tries 48 rfl rfl ⟨by decide, by decide⟩ rfl rfl hl.1 (Nat.le_of_ble_eq_true rfl) ⟨Nat.zero_le _, Nat.zero_le _⟩ dX9_rings_84 (fun u9 huu9 H locs h => ?_)
                      have hF : F_X9_rings_k84_10 (fun y1 y2 => F_X9_rings_L12  n12 τ y1 y2) (fun y1 y2 y3 => F_X9_rings_L33 (fun y1 y2 => F_X9_rings_L12  n12 τ y1 y2) n33 τ x1_12 m12 y1 y2 y3) (fun y1 => F_X9_rings_L37 (fun y1 y2 => F_X9_rings_L12  n12 τ y1 y2) (fun y1 y2 y3 => F_X9_rings_L33 (fun y1 y2 => F_X9_rings_L12  n12 τ y1 y2) n33 τ x1_12 m12 y1 y2 y3) n37 τ x1_12 m12 x3_33 x2_33 m33 y1) τ x1_12 m12 x3_33 x2_33 m33 x3_37 u9 = (F_X9_rings τ) := by rw [← huu9]; exact hF
                      have w57 : u9.2.1 57 = upd (m33.2.1 57) x2_33.toNatClampNeg x3_37 := by rw [← huu9]; exact (fr_F_X9_tries (sa m33 57 (upd (m33.2.1 57) x2_33.toNatClampNeg x3_37)) (x2_33 + (1 : Int32))).2.1 57 (by decide)
                      have wk : WK u9 := by intro j hj; rw [w57]; exact wk_upd hI33.2.2.2.1 (by omega) j hj
                      have a50 : u9.2.1 50 = τ.2.1 50 := by rw [← huu9, (fr_F_X9_tries (sa m33 57 (upd (m33.2.1 57) x2_33.toNatClampNeg x3_37)) (x2_33 + (1 : Int32))).2.1 50 (by decide)]; exact hI33.2.2.2.2
                      refine lv_iconst (v := 0) hx hb dX9_rings_87 (by decide) ?_
                      refine lv_istore_n (lv' := [(3, .int (0 : Int32)), (2, .int (x2_33 + (1 : Int32))), (1, .int x1_12), (0, .ref (ad 48))]) hx hb dX9_rings_88 rfl hl (by decide) rfl (fun ls hl => ?_)
                      refine lv_goto (tgt := 33) hx hb dX9_rings_89 (by decide) ?_
                      exact ih33 (0 : Int32) (x2_33 + (1 : Int32)) u9 _ _ ls ((show (0 ≤ (x2_33 + (1 : Int32)).toInt ∧ (x2_33 + (1 : Int32)).toInt ≤ 6 ∧ 0 ≤ (0 : Int32).toInt ∧ (0 : Int32).toInt ≤ 6) ∧ 105413504 ≤ VV ((u9.2.1 57)) (x2_33 + (1 : Int32)).toInt.toNat (0 : Int32).toInt + n33 ∧ DS ((u9.2.1 57)) (x2_33 + (1 : Int32)).toInt.toNat ∧ WK u9 ∧ (u9.2.1 50) = τ.2.1 50 from by first | (have mw_ := mw; exact ⟨⟨by omega, by omega, by decide, by decide⟩, by rw [w57]; exact vv_push (by omega) (by omega) hI33.2.1, by rw [w57]; exact ds_push (by omega) hI33.2.2.1 (mw (by assumption)), wk, a50⟩) | (exfalso; omega))) hF h (lv_sub hl [0, 1, 2, 3] rfl)
                  · have ic6 : x3_37.toInt < ((m33.2.1 50) 0).toInt := i_nle c6
                    have hF := (if_neg c6).symm.trans hF
                    refine lv_aload_n hx hb dX9_rings_47 rfl (lv_at hl 3 rfl) ?_
                    refine lv_iload_n hx hb dX9_rings_48 rfl (lv_at hl 1 rfl) ?_
                    refine lv_iload_n hx hb dX9_rings_49 rfl (lv_at hl 0 rfl) ?_
                    refine g_callVh (F_X9_mayWalk m33 x2_33 x3_37) (rest := []) E h (c_X9_mayWalk l D cI cZ z ad σ m33 x2_33 x3_37 (show 1 ≤ x2_33.toInt ∧ x2_33.toInt ≤ 6 from by omega) (show 0 ≤ x3_37.toInt ∧ x3_37.toInt < 6 from by omega) (show WK m33 from hI33.2.2.2.1)) mw_987 cbX9_mayWalk 48 rfl rfl ⟨by decide, by decide⟩ rfl rfl hl.1 (Nat.le_of_ble_eq_true rfl) ⟨Nat.zero_le _, Nat.zero_le _⟩ dX9_rings_50 (fun v11 huv11 H locs h => ?_)
                    have hF : F_X9_rings_k50_12 (fun y1 y2 => F_X9_rings_L12  n12 τ y1 y2) (fun y1 y2 y3 => F_X9_rings_L33 (fun y1 y2 => F_X9_rings_L12  n12 τ y1 y2) n33 τ x1_12 m12 y1 y2 y3) (fun y1 => F_X9_rings_L37 (fun y1 y2 => F_X9_rings_L12  n12 τ y1 y2) (fun y1 y2 y3 => F_X9_rings_L33 (fun y1 y2 => F_X9_rings_L12  n12 τ y1 y2) n33 τ x1_12 m12 y1 y2 y3) n37 τ x1_12 m12 x3_33 x2_33 m33 y1) τ x1_12 m12 x3_33 x2_33 m33 x3_37 v11 = (F_X9_rings τ) := by rw [← huv11]; exact hF
                    have mw : ¬ v11 = 0 → ∀ k : Nat, k < x2_33.toInt.toNat → (m33.2.1 57) k ≠ x3_37 := by rw [← huv11]; exact mw_ne (by omega)
                    refine lv_if_ne (tgt := 62) hx hb dX9_rings_53 (by decide) (fun c13 => ?_) (fun c13 => ?_)
                    · have ic13 : v11.toInt ≠ 0 := i_ne c13
                      have hF := (if_neg c13).symm.trans hF
                      refine lv_iload_n hx hb dX9_rings_62 rfl (lv_at hl 0 rfl) ?_
                      refine lv_aload_n hx hb dX9_rings_63 rfl (lv_at hl 3 rfl) ?_
                      refine g_get (v := .ref (ad 50)) E h 48 rfl rfl layX9 3 (by decide) rfl mw_822 rfl dX9_rings_64 ?_
                      refine lv_iconst (v := 0) hx hb dX9_rings_67 (by decide) ?_
                      refine g_ialdk (f := (m33.2.1 50)) E h 50 rfl 0 rfl (ix_of (oI_lit (x := 0) (a := 0) rfl) (by omega) (by decide)) dX9_rings_68 ?_
                      refine lv_icmp_ge (tgt := 92) hx hb dX9_rings_69 (by decide) (fun c14 => ?_) (fun c14 => ?_)
                      · have ic14 : ((m33.2.1 50) 0).toInt ≤ x3_37.toInt := i_le c14
                        have hF := (if_pos c14).symm.trans hF
                        have h2p : 1 ≤ x2_33.toInt ∧ x2_33.toInt ≤ 6 := by omega
                        have h3p : x3_33.toInt ≤ 6 := by omega
                        refine lv_iinc (v := (x2_33 + ((-1) : Int32))) (lv' := [(2, .int (x2_33 + ((-1) : Int32))), (3, .int x3_37), (1, .int x1_12), (0, .ref (ad 48))]) hx hb dX9_rings_92 hl (k := 1) rfl rfl (by decide) rfl (fun ls hl => ?_)
                        refine lv_aload_n hx hb dX9_rings_95 rfl (lv_at hl 3 rfl) ?_
                        refine g_get (v := .ref (ad 57)) E h 48 rfl rfl layX9 15 (by decide) rfl mw_834 rfl dX9_rings_96 ?_
                        refine lv_iload_n hx hb dX9_rings_99 rfl (lv_at hl 0 rfl) ?_
                        have w1 := WK.at hI33.2.2.2.1 (x2_33 + ((-1) : Int32)) (by rw [ti_of (oI_add (oI_at x2_33) (oI_lit (x := (-1)) (a := (-1)) rfl)) (by omega)]; omega)
                        refine g_iald (f := (m33.2.1 57)) E h 57 rfl (ix_of (oI_add (oI_at x2_33) (oI_lit (x := (-1)) (a := (-1)) rfl)) (by omega) (by decide)) dX9_rings_100 ?_
                        refine lv_iconst (v := 1) hx hb dX9_rings_101 (by decide) ?_
                        refine lv_iadd hx hb dX9_rings_102 ?_
                        refine lv_istore_n (lv' := [(3, .int (((m33.2.1 57) (x2_33 + ((-1) : Int32)).toNatClampNeg) + (1 : Int32))), (2, .int (x2_33 + ((-1) : Int32))), (1, .int x1_12), (0, .ref (ad 48))]) hx hb dX9_rings_103 rfl hl (by decide) rfl (fun ls hl => ?_)
                        refine lv_goto (tgt := 33) hx hb dX9_rings_104 (by decide) ?_
                        exact ih33 (((m33.2.1 57) (x2_33 + ((-1) : Int32)).toNatClampNeg) + (1 : Int32)) (x2_33 + ((-1) : Int32)) m33 _ _ ls ((show (0 ≤ (x2_33 + ((-1) : Int32)).toInt ∧ (x2_33 + ((-1) : Int32)).toInt ≤ 6 ∧ 0 ≤ (((m33.2.1 57) (x2_33 + ((-1) : Int32)).toNatClampNeg) + (1 : Int32)).toInt ∧ (((m33.2.1 57) (x2_33 + ((-1) : Int32)).toNatClampNeg) + (1 : Int32)).toInt ≤ 6) ∧ 105413504 ≤ VV ((m33.2.1 57)) (x2_33 + ((-1) : Int32)).toInt.toNat (((m33.2.1 57) (x2_33 + ((-1) : Int32)).toNatClampNeg) + (1 : Int32)).toInt + n33 ∧ DS ((m33.2.1 57)) (x2_33 + ((-1) : Int32)).toInt.toNat ∧ WK m33 ∧ (m33.2.1 50) = τ.2.1 50 from by exact ⟨pop_b h2p w1, vv_pop h2p h3p w1 hI33.2.1, ds_pop h2p hI33.2.2.1, hI33.2.2.2.1, hI33.2.2.2.2⟩)) hF h (lv_sub hl [0, 1, 2, 3] rfl)
                      · have ic14 : x3_37.toInt < ((m33.2.1 50) 0).toInt := i_nle c14
                        have hF := (if_neg c14).symm.trans hF
                        have hm5 : x2_33.toInt ≤ 5 := by first | (have mw_ := mw; exact pig5 hI33.2.2.2.1 hI33.2.2.1 (mw (by assumption)) (by omega) (by omega)) | (exfalso; omega)
                        refine lv_aload_n hx hb dX9_rings_72 rfl (lv_at hl 3 rfl) ?_
                        refine g_get (v := .ref (ad 57)) E h 48 rfl rfl layX9 15 (by decide) rfl mw_834 rfl dX9_rings_73 ?_
                        refine lv_iload_n hx hb dX9_rings_76 rfl (lv_at hl 1 rfl) ?_
                        refine lv_iload_n hx hb dX9_rings_77 rfl (lv_at hl 0 rfl) ?_
                        refine g_iast (f := (m33.2.1 57)) (ws' := gws ad cI cZ σ (sa m33 57 (upd (m33.2.1 57) x2_33.toNatClampNeg x3_37))) E h 57 rfl (ix_of (oI_at x2_33) (by omega) (by decide)) (ga_57 ad cI cZ σ m33 (upd (m33.2.1 57) x2_33.toNatClampNeg x3_37)) dX9_rings_78 (fun H locs h => ?_)
                        refine lv_iinc (v := (x2_33 + (1 : Int32))) (lv' := [(2, .int (x2_33 + (1 : Int32))), (3, .int x3_37), (1, .int x1_12), (0, .ref (ad 48))]) hx hb dX9_rings_79 hl (k := 1) rfl rfl (by decide) rfl (fun ls hl => ?_)
                        refine lv_aload_n hx hb dX9_rings_82 rfl (lv_at hl 3 rfl) ?_
                        refine lv_iload_n hx hb dX9_rings_83 rfl (lv_at hl 0 rfl) ?_
                        have w15 : (x2_33 + (1 : Int32)).toInt = _ := ti_of (oI_add (oI_at x2_33) (oI_lit (x := 1) (a := 1) rfl)) (by omega)
                        refine g_callVUv (F_X9_tries (sa m33 57 (upd (m33.2.1 57) x2_33.toNatClampNeg x3_37)) (x2_33 + (1 : Int32))) (fun u => gws ad cI cZ σ u) (rest := []) E h (c_X9_tries l D cI cZ z ad σ (sa m33 57 (upd (m33.2.1 57) x2_33.toNatClampNeg x3_37)) (x2_33 + (1 : Int32)) (show 1 ≤ (x2_33 + (1 : Int32)).toInt ∧ (x2_33 + (1 : Int32)).toInt ≤ 6 from by omega) (show WK (sa m33 57 (upd (m33.2.1 57) x2_33.toNatClampNeg x3_37)) from wk_upd hI33.2.2.2.1 (by omega))) mw_991 cbX9_tries 48 rfl rfl ⟨by decide, by decide⟩ rfl rfl hl.1 (Nat.le_of_ble_eq_true rfl) ⟨Nat.zero_le _, Nat.zero_le _⟩ dX9_rings_84 (fun u16 huu16 H locs h => ?_)
                        have hF : F_X9_rings_k84_17 (fun y1 y2 => F_X9_rings_L12  n12 τ y1 y2) (fun y1 y2 y3 => F_X9_rings_L33 (fun y1 y2 => F_X9_rings_L12  n12 τ y1 y2) n33 τ x1_12 m12 y1 y2 y3) (fun y1 => F_X9_rings_L37 (fun y1 y2 => F_X9_rings_L12  n12 τ y1 y2) (fun y1 y2 y3 => F_X9_rings_L33 (fun y1 y2 => F_X9_rings_L12  n12 τ y1 y2) n33 τ x1_12 m12 y1 y2 y3) n37 τ x1_12 m12 x3_33 x2_33 m33 y1) τ x1_12 m12 x3_33 x2_33 m33 x3_37 v11 u16 = (F_X9_rings τ) := by rw [← huu16]; exact hF
                        have w57 : u16.2.1 57 = upd (m33.2.1 57) x2_33.toNatClampNeg x3_37 := by rw [← huu16]; exact (fr_F_X9_tries (sa m33 57 (upd (m33.2.1 57) x2_33.toNatClampNeg x3_37)) (x2_33 + (1 : Int32))).2.1 57 (by decide)
                        have wk : WK u16 := by intro j hj; rw [w57]; exact wk_upd hI33.2.2.2.1 (by omega) j hj
                        have a50 : u16.2.1 50 = τ.2.1 50 := by rw [← huu16, (fr_F_X9_tries (sa m33 57 (upd (m33.2.1 57) x2_33.toNatClampNeg x3_37)) (x2_33 + (1 : Int32))).2.1 50 (by decide)]; exact hI33.2.2.2.2
                        refine lv_iconst (v := 0) hx hb dX9_rings_87 (by decide) ?_
                        refine lv_istore_n (lv' := [(3, .int (0 : Int32)), (2, .int (x2_33 + (1 : Int32))), (1, .int x1_12), (0, .ref (ad 48))]) hx hb dX9_rings_88 rfl hl (by decide) rfl (fun ls hl => ?_)
                        refine lv_goto (tgt := 33) hx hb dX9_rings_89 (by decide) ?_
                        exact ih33 (0 : Int32) (x2_33 + (1 : Int32)) u16 _ _ ls ((show (0 ≤ (x2_33 + (1 : Int32)).toInt ∧ (x2_33 + (1 : Int32)).toInt ≤ 6 ∧ 0 ≤ (0 : Int32).toInt ∧ (0 : Int32).toInt ≤ 6) ∧ 105413504 ≤ VV ((u16.2.1 57)) (x2_33 + (1 : Int32)).toInt.toNat (0 : Int32).toInt + n33 ∧ DS ((u16.2.1 57)) (x2_33 + (1 : Int32)).toInt.toNat ∧ WK u16 ∧ (u16.2.1 50) = τ.2.1 50 from by first | (have mw_ := mw; exact ⟨⟨by omega, by omega, by decide, by decide⟩, by rw [w57]; exact vv_push (by omega) (by omega) hI33.2.1, by rw [w57]; exact ds_push (by omega) hI33.2.2.1 (mw (by assumption)), wk, a50⟩) | (exfalso; omega))) hF h (lv_sub hl [0, 1, 2, 3] rfl)
                    · have ic13 : v11.toInt = 0 := i_eq c13
                      have hF := (if_pos c13).symm.trans hF
                      refine lv_iinc (v := (x3_37 + (1 : Int32))) (lv' := [(3, .int (x3_37 + (1 : Int32))), (2, .int x2_33), (1, .int x1_12), (0, .ref (ad 48))]) hx hb dX9_rings_56 hl (k := 0) rfl rfl (by decide) rfl (fun ls hl => ?_)
                      refine lv_goto (tgt := 37) hx hb dX9_rings_59 (by decide) ?_
                      have e37_3 : (x3_37 + (1 : Int32)).toInt = _ := ti_of (oI_add (oI_at x3_37) (oI_lit (x := 1) (a := 1) rfl)) (by omega)
                      exact ih37 (x3_37 + (1 : Int32)) _ _ ls ((show x3_33.toInt ≤ (x3_37 + (1 : Int32)).toInt ∧ 0 ≤ (x3_37 + (1 : Int32)).toInt ∧ (x3_37 + (1 : Int32)).toInt ≤ 6 ∧ 6 < (x3_37 + (1 : Int32)).toInt + n37 from by omega)) hF h (lv_sub hl [0, 1, 2, 3] rfl)
              exact L37 7 x3_33 _ _ ls ((show x3_33.toInt ≤ x3_33.toInt ∧ 0 ≤ x3_33.toInt ∧ x3_33.toInt ≤ 6 ∧ 6 < x3_33.toInt + (7 : Nat) from by omega)) hF h (lv_sub hl [0, 1, 2, 3] rfl)
        have q33_3 : (0 : Int32).toInt = 0 := rfl
        have q33_2 : (1 : Int32).toInt = 1 := rfl
        exact L33 105413504 (0 : Int32) (1 : Int32) (sa m12 57 (upd (m12.2.1 57) 0 x1_12)) _ _ ls ((show (0 ≤ (1 : Int32).toInt ∧ (1 : Int32).toInt ≤ 6 ∧ 0 ≤ (0 : Int32).toInt ∧ (0 : Int32).toInt ≤ 6) ∧ 105413504 ≤ VV ((upd (m12.2.1 57) 0 x1_12)) (1 : Int32).toInt.toNat (0 : Int32).toInt + (105413504 : Nat) ∧ DS ((upd (m12.2.1 57) 0 x1_12)) (1 : Int32).toInt.toNat ∧ WK (sa m12 57 (upd (m12.2.1 57) 0 x1_12)) ∧ (m12.2.1 50) = τ.2.1 50 from by exact ⟨by omega, vv_start (by omega), (fun i j h1 h2 => absurd h2 (by show ¬ j < 1; omega)), wk_upd hI12.2.1 (by omega), hI12.2.2⟩)) hF h (lv_sub hl [0, 1, 2, 3] rfl)
  have q12_1 : (0 : Int32).toInt = 0 := rfl
  exact L12 7 (0 : Int32) (si (si τ 1553 (0 : Int32)) 1554 (0 : Int32)) _ _ ls ((show (0 ≤ (0 : Int32).toInt ∧ (0 : Int32).toInt ≤ 6 ∧ (0 : Int32).toInt + (7 : Nat) = 7) ∧ WK (si (si τ 1553 (0 : Int32)) 1554 (0 : Int32)) ∧ (τ.2.1 50) = τ.2.1 50 from by exact ⟨by omega, hw1_, rfl⟩)) hF h (lv_sub hl [0, 1] rfl)
