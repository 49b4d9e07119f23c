/-! ===== pass: both sides together ===== -/
theorem RR.fr {σ σ' τ τ' : St} (h : RR σ τ) (f1 : Fr [1378, 1379, 1380, 1282, 1283] [41, 42, 44, 45] false σ σ') (f2 : Fr [1553, 1554] [57, 58, 60] false τ τ') (hw : WB τ') : RR σ' τ' := by
  obtain ⟨h1, h2, h3, h4, h5, h6, h7, _⟩ := h
  refine ⟨?_, ?_, ?_, ?_, ?_, ?_, ?_, hw⟩
  · unfold TXR at *
    rw [f1.1 33 (by decide), f1.2.1 2 (by decide), f2.1 1538 (by decide), f2.2.1 49 (by decide)]; exact h1
  · unfold TDR at *
    rw [f1.1 96 (by decide), f1.1 97 (by decide), f1.1 98 (by decide), f1.2.1 4 (by decide), f1.2.1 5 (by decide), f1.2.1 6 (by decide), f1.2.1 7 (by decide), f1.2.1 8 (by decide), f1.2.1 9 (by decide), f1.2.1 10 (by decide), f2.2.1 50 (by decide)]; exact h2
  · rw [f1.2.1 27 (by decide), f1.2.1 28 (by decide), f1.1 802 (by decide), f2.2.1 53 (by decide)]; exact h3
  · unfold IMR at *
    rw [f1.1 6 (by decide), f1.2.1 31 (by decide), f1.2.1 32 (by decide), f1.1 930 (by decide), f1.2.1 35 (by decide), f1.2.1 36 (by decide), f1.1 1058 (by decide), f2.2.1 54 (by decide), f2.2.1 55 (by decide)]; exact h4
  · unfold HSR at *
    rw [f1.1 1186 (by decide), f1.2.1 38 (by decide), f1.2.1 39 (by decide), f2.1 1546 (by decide), f2.2.1 56 (by decide)]; exact h5
  · rw [f1.2.2 rfl, f2.2.2 rfl]; exact h6
  · rw [f1.2.1 47 (by decide)]; exact h7
theorem fillL (a : Int32) (σ : St) : ∀ (n x : Nat) (m : St), x ≤ 6 → 6 < x + n → (∀ u, u < x → m.2.1 44 u = a) → ∀ u, u < 6 → (F_J7_fill_53178_44_L5 n σ a (nI x) m).2.1 44 u = a
  | 0, x, m, hx, hn, _ => absurd hn (by omega)
  | n + 1, x, m, hx, hn, h1 => by
    rw [F_J7_fill_53178_44_L5]
    by_cases q : (6 : Int32) ≤ nI x
    · rw [if_pos q]
      have q : 6 ≤ x := (num_le x rfl (by decide) (by omega)).mp q
      exact fun u hu => h1 u (by omega)
    · rw [if_neg q]
      have q : ¬ 6 ≤ x := fun z => q ((num_le x rfl (by decide) (by omega)).mpr z)
      rw [nI_clamp (by omega), nI_1]
      refine fillL a σ n (x + 1) _ (by omega) (by omega) (fun u hu => ?_)
      rw [sa_at]
      by_cases e : u = x
      · subst e; rw [pk_us]
      · rw [pk_un e]; exact h1 u (by omega)
/-! the reference's choice of the first stage -/
def ansR (u : St) (a1 a3 Y b : Int32) : Int32 × St := (if a3 = 0 then (Y, u) else (if a3 = (1 : Int32) then (b, u) else ((if ((u.2.1 50) ((26 : Int32) + b).toNatClampNeg) ≤ (((u.2.1 50) ((50 : Int32) + a1).toNatClampNeg) - ((u.2.1 53) ((8 : Int32) + a1).toNatClampNeg)) then (0 : Int32) else (((u.2.1 50) ((26 : Int32) + b).toNatClampNeg) - (((u.2.1 50) ((50 : Int32) + a1).toNatClampNeg) - ((u.2.1 53) ((8 : Int32) + a1).toNatClampNeg)))), u)))
def FST (P : Nat → Prop) (S x : Nat) (b : Int32) : Prop := (b = ((-9) : Int32) ∧ ∀ k, x ≤ k → k < S → ¬ P k) ∨ ∃ k, b = nI k ∧ x ≤ k ∧ k < S ∧ P k ∧ ∀ j, x ≤ j → j < k → ¬ P j
theorem p160 {A B T : Nat → Nat} {S : Nat} (hS : S ≤ 8) (u τ : St) (hA : ∀ k, k < S → u.2.1 50 (10 + k) = nI (A k) ∧ A k < 6) (hB : ∀ k, k < S → u.2.1 50 (18 + k) = nI (B k) ∧ B k < 6) (hT : ∀ k, k < S → u.2.1 50 (26 + k) = nI (T k) ∧ T k ≤ 9) (lf : Int32 → (Int32 × St)) (a1 a2 a3 : Int32) {v : Nat} (hv : v < 6) (epl : u.2.1 53 a1.toNatClampNeg = nI v) {room : Int32} (eroom : (((u.2.1 50) ((50 : Int32) + a1).toNatClampNeg) - ((u.2.1 53) ((8 : Int32) + a1).toNatClampNeg)) + ((u.2.1 53) ((4 : Int32) + a1).toNatClampNeg) = room) (hr : room.toInt ≤ 900) {Y : Nat} (hY : 1 ≤ Y ∧ Y ≤ 6) {p : Nat → Nat} (hp : ∀ v, v < 6 → p v ≤ 54 ∨ p v = 999) (h60 : ∀ v, v < 6 → u.2.1 60 (6 * (Y - 1) + v) = nI (p v)) : ∀ (n x : Nat) (b : Int32), x ≤ S → x < n → FST (fun k => ((ovN A B T p k v : Nat) : Int) ≤ room.toInt) S x b → ∃ b', FST (fun k => ((ovN A B T p k v : Nat) : Int) ≤ room.toInt) S 0 b' ∧ F_X9_pass_L160 lf n τ a1 a2 a3 u (nI Y) (nI x - 1) b = ansR u a1 a3 (nI Y) b'
  | 0, x, b, hx, hn, _ => absurd hn (by omega)
  | n + 1, 0, b, hx, hn, hb => by
    rw [F_X9_pass_L160, if_pos (by decide)]
    exact ⟨b, hb, rfl⟩
  | n + 1, x + 1, b, hx, hn, hb => by
    rw [nI_pred, F_X9_pass_L160, if_neg (show ¬ nI x < 0 from fun q => by
      have := i_lt q
      rw [z32, nI_toInt (by omega)] at this
      omega)]
    unfold F_X9_pass_d197_21 F_X9_pass_d217_32 F_X9_pass_d271_37
    obtain ⟨a1', a2'⟩ := hA x (by omega)
    obtain ⟨b1', b2'⟩ := hB x (by omega)
    obtain ⟨t1', t2'⟩ := hT x (by omega)
    have i10 : ((10 : Int32) + nI x).toNatClampNeg = 10 + x := by rw [show (10 : Int32) + nI x = nI (10 + x) from nI_add 10 x, nI_clamp (by omega)]
    have i18 : ((18 : Int32) + nI x).toNatClampNeg = 18 + x := by rw [show (18 : Int32) + nI x = nI (18 + x) from nI_add 18 x, nI_clamp (by omega)]
    have i26 : ((26 : Int32) + nI x).toNatClampNeg = 26 + x := by rw [show (26 : Int32) + nI x = nI (26 + x) from nI_add 26 x, nI_clamp (by omega)]
    have iM : ∀ v, v < 6 → (((6 : Int32) * (nI Y - (1 : Int32))) + nI v).toNatClampNeg = 6 * (Y - 1) + v := fun v hv => by
      have := nI_pred (Y - 1)
      rw [show Y - 1 + 1 = Y by omega] at this
      rw [this, show (6 : Int32) * nI (Y - 1) = nI (6 * (Y - 1)) from nI_mul 6 (Y - 1), nI_add, nI_clamp (by omega)]
    rw [i10, i18, i26, a1', b1', t1', epl, eroom]
    have cmp : ∀ q, q < 6 → (room < nI (T x) + u.2.1 60 (((6 : Int32) * (nI Y - (1 : Int32))) + nI q).toNatClampNeg ↔ ¬ (((if p q = 999 then 999 else T x + p q) : Nat) : Int) ≤ room.toInt) := fun q hq => by
      rw [iM q hq, h60 q hq, nI_add]
      have := hp q hq
      have i := nI_toInt (n := T x + p q) (by omega)
      constructor
      · intro z
        have := i_lt z
        split <;> omega
      · intro z
        apply Int32.lt_iff_toInt_lt.mpr
        split at z <;> omega
    have dn : nI x + (-1) = nI x - 1 := (Int32.sub_eq_add_neg (nI x) 1).symm
    have fin : ∀ w : Int32, (w = 0 ↔ ¬ ((ovN A B T p x v : Nat) : Int) ≤ room.toInt) → FST (fun k => ((ovN A B T p k v : Nat) : Int) ≤ room.toInt) S x (if w = 0 then b else nI x) := fun w hw => by
      by_cases c : w = 0
      · rw [if_pos c]
        have c := hw.mp c
        rcases hb with ⟨e, q⟩ | ⟨k, e, q1, q2, q3, q4⟩
        · refine Or.inl ⟨e, fun k h1 h2 => ?_⟩
          by_cases z : k = x
          · subst z; exact c
          · exact q k (by omega) h2
        · refine Or.inr ⟨k, e, by omega, q2, q3, fun j h1 h2 => ?_⟩
          by_cases z : j = x
          · subst z; exact c
          · exact q4 j (by omega) h2
      · rw [if_neg c]
        exact Or.inr ⟨x, rfl, Nat.le_refl _, by omega, Classical.byContradiction (fun z => c (hw.mpr z)), fun j h1 h2 => absurd h2 (by omega)⟩
    have one : ∀ (q : Prop) [Decidable q], ((if q then (0 : Int32) else 1) = 0 ↔ q) := fun q _ => by
      by_cases z : q
      · rw [if_pos z]; exact ⟨fun _ => z, fun _ => rfl⟩
      · rw [if_neg z]; exact ⟨fun y => absurd y (by decide), fun y => absurd y z⟩
    rw [dn]
    by_cases c : A x = v
    · have c' : nI (A x) = nI v := by rw [c]
      rw [if_pos c', if_pos c']
      exact p160 hS u τ hA hB hT lf a1 a2 a3 hv epl eroom hr hY hp h60 n x _ (by omega) (by omega) (fin _ (by
        rw [one, cmp _ b2']
        unfold ovN
        rw [if_pos c]))
    · have c' : ¬ nI (A x) = nI v := fun z => c ((nI_eq (by omega) (by omega)).mp z)
      rw [if_neg c', if_neg c']
      by_cases d : B x = v
      · rw [if_pos (show nI (B x) = nI v by rw [d])]
        exact p160 hS u τ hA hB hT lf a1 a2 a3 hv epl eroom hr hY hp h60 n x _ (by omega) (by omega) (fin _ (by
          rw [one, cmp _ a2']
          unfold ovN
          rw [if_neg c, if_pos d]))
      · rw [if_neg (show ¬ nI (B x) = nI v from fun z => d ((nI_eq (by omega) (by omega)).mp z))]
        exact p160 hS u τ hA hB hT lf a1 a2 a3 hv epl eroom hr hY hp h60 n x _ (by omega) (by omega) (fin _ (by
          unfold ovN
          rw [if_neg c, if_neg d]
          exact ⟨fun _ => by omega, fun _ => rfl⟩))
theorem p101 {D : Nat → Nat → Nat} (u τ : St) (a1 a2 a3 : Int32) {v : Nat} (hv : v < 6) (epl : u.2.1 53 a1.toNatClampNeg = nI v) {room : Int32} (eroom : (((u.2.1 50) ((50 : Int32) + a1).toNatClampNeg) - ((u.2.1 53) ((8 : Int32) + a1).toNatClampNeg)) + ((u.2.1 53) ((4 : Int32) + a1).toNatClampNeg) = room) (hD : ∀ i, i < 7 → D i v ≤ 999) (h60 : ∀ i, i < 7 → u.2.1 60 (6 * i + v) = nI (D i v)) : ∀ (n x : Nat), 1 ≤ x → x ≤ 7 → 7 < x + n → (F_X9_pass_L101 n τ a1 a2 a3 u (nI x) = (((-9) : Int32), u) ∧ ∀ z, x ≤ z → z ≤ 6 → ¬ ((D z v : Nat) : Int) ≤ room.toInt) ∨ ∃ y lf, x ≤ y ∧ y ≤ 6 ∧ F_X9_pass_L101 n τ a1 a2 a3 u (nI x) = F_X9_pass_L160 lf 9 τ a1 a2 a3 u (nI y) (((u.2.1 50) 1) - (1 : Int32)) ((-9) : Int32) ∧ ((D y v : Nat) : Int) ≤ room.toInt ∧ ∀ z, x ≤ z → z < y → ¬ ((D z v : Nat) : Int) ≤ room.toInt
  | 0, x, h1, hx, hn => absurd hn (by omega)
  | n + 1, x, h1, hx, hn => by
    rw [F_X9_pass_L101]
    by_cases q : (7 : Int32) ≤ nI x
    · rw [if_pos q]
      have q : 7 ≤ x := (num_le x rfl (by decide) (by omega)).mp q
      have : x = 7 := by omega
      subst this
      refine Or.inl ⟨?_, fun z h1 h2 => absurd h2 (by omega)⟩
      unfold F_X9_pass_J136
      rw [if_pos (show nI 7 = 7 from rfl)]
    · rw [if_neg q]
      have q : ¬ 7 ≤ x := fun z => q ((num_le x rfl (by decide) (by omega)).mpr z)
      have iN : (((6 : Int32) * nI x) + nI v).toNatClampNeg = 6 * x + v := by
        rw [show (6 : Int32) * nI x = nI (6 * x) from nI_mul 6 x, nI_add, nI_clamp (by omega)]
      rw [epl, iN, eroom, h60 x (by omega)]
      have b := hD x (by omega)
      have i := nI_toInt (n := D x v) (by omega)
      by_cases c : nI (D x v) ≤ room
      · rw [if_pos c]
        have c := i_le c
        unfold F_X9_pass_J136
        rw [if_neg (show ¬ nI x = 7 from fun z => by
          have : x = 7 := (nI_eq (a := x) (b := 7) (by omega) (by omega)).mp z
          omega)]
        exact Or.inr ⟨x, _, Nat.le_refl _, by omega, rfl, by omega, fun z h1 h2 => absurd h2 (by omega)⟩
      · rw [if_neg c, nI_1]
        have c := i_nle c
        rcases p101 u τ a1 a2 a3 hv epl eroom hD h60 n (x + 1) (by omega) (by omega) (by omega) with ⟨r1, r2⟩ | ⟨y, lf, r1, r2, r3, r4, r5⟩
        · refine Or.inl ⟨r1, fun z h1 h2 => ?_⟩
          by_cases e : z = x
          · subst e; omega
          · exact r2 z (by omega) h2
        · refine Or.inr ⟨y, lf, by omega, r2, r3, r4, fun z h1 h2 => ?_⟩
          by_cases e : z = x
          · subst e; omega
          · exact r5 z (by omega) h2
