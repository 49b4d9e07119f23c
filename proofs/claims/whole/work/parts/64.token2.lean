/-! ===== road: scan and token ===== -/
def KD (m t : St) : Prop := (m.1 35 = 2 ∧ t.1 1548 = 2 ∧ ∃ V : Nat, V ≤ 99 ∧ m.1 37 = nI V ∧ t.1 1550 = nI V) ∨ (m.1 35 = 4 ∧ t.1 1548 = 2 ∧ ∃ V : Nat, 99 < V ∧ V ≤ 1000 ∧ t.1 1550 = nI V) ∨ (m.1 35 = 1 ∧ t.1 1548 = 1 ∧ m.1 37 = t.1 1550) ∨ (m.1 35 = 0 ∧ t.1 1548 = 0) ∨ (m.1 35 = 3 ∧ t.1 1548 = 3) ∨ (m.1 35 = 4 ∧ t.1 1548 = 4)
def TR (N : Nat) (m t : St) : Prop := (∃ s e : Nat, s ≤ e ∧ e ≤ N ∧ m.1 36 = nI s ∧ t.1 1549 = nI s ∧ m.1 34 = nI e ∧ t.1 1547 = nI e) ∧ KD m t
section TOK2
variable {N : Nat} {c : Nat → Nat}
theorem tok_R (hN : N ≤ 200) (hc : ∀ k, c k ≤ 255) {m t : St} (hm : TXm m N c) (ht : TXt t N c) {a : Nat} (ha : a ≤ N) (hma : m.1 34 = nI a) (hta : t.1 1547 = nI a) : TR N (F_X6_scan m) (F_X9_token t) := by
  obtain ⟨s, s1, s2, s3, s4, s5⟩ := eor' hN hc hm (lo := 32) (hi := 32) (by decide) (by decide) (x := a) ha
  have n32 : nI 32 = (32 : Int32) := rfl
  have n48 : nI 48 = (48 : Int32) := rfl
  have n57 : nI 57 = (57 : Int32) := rfl
  have n97 : nI 97 = (97 : Int32) := rfl
  have n122 : nI 122 = (122 : Int32) := rfl
  have n59 : nI 59 = (59 : Int32) := rfl
  rw [n32] at s1
  unfold F_X6_scan
  rw [hma, s1]
  unfold F_X9_token
  obtain ⟨n', t', r1, r2, r3⟩ := t_sp (τ := t) hN hc s3 s5 201 a t s2 (by omega) ht hta s4
  rw [r1]
  have ht' : TXt t' N c := ht.fr (I := [1547]) (by decide) r2
  have ht1 : TXt (si t' 1549 (t'.1 1547)) N c := ht'
  have l1 : F_X9_letterAt t' (t'.1 1547) = (if s < N then nI (c s) else ((-1) : Int32)) := by rw [r3]; exact la hN ht' s3
  have l2 : F_X9_letterAt (si t' 1549 (t'.1 1547)) (t'.1 1547) = (if s < N then nI (c s) else ((-1) : Int32)) := by
    rw [show F_X9_letterAt (si t' 1549 (t'.1 1547)) (t'.1 1547) = F_X9_letterAt t' (t'.1 1547) from rfl]; exact l1
  have is := nI_toInt (n := s) (by omega)
  have cs := hc s
  unfold F_X6_scan_k10_2
  rw [if_neg (show ¬ nI s < 0 from fun z => by have := i_lt z; rw [z32] at this; omega), hm.1, F_X9_token_L0]
  have h0 := l2
  by_cases sN : s < N
  · rw [if_pos sN] at l1 l2 h0
    have n1 : ¬ nI (c s) = (32 : Int32) := fun z => by
      have : c s = 32 := (nI_eq (a := c s) (b := 32) (by omega) (by decide)).mp z
      exact s5 sN ⟨by omega, by omega⟩
    rw [l1, if_neg n1, l2, r3, if_neg (show ¬ nI N ≤ nI s from fun z => by have := (nI_leI (by omega) (by omega)).mp z; omega), if_pos (show nI s < (200 : Int32) from Int32.lt_iff_toInt_lt.mpr (by rw [is, show (200 : Int32).toInt = 200 from rfl]; omega)), nI_clamp (n := s) (by omega), hm.2 s sN, F_in_eq, F_in_eq]
    rw [r3] at h0
    have i0 : (0 : Int32) ≤ nI (c s) := Int32.le_iff_toInt_le.mpr (by rw [z32, nI_toInt (by omega)]; omega)
    rw [if_pos i0]
    have dg := inb (lo := 48) (hi := 57) (v := c s) (by decide) (by decide) (by omega)
    have le := inb (lo := 97) (hi := 122) (v := c s) (by decide) (by decide) (by omega)
    have dgE : F_X9_isDigit (nI (c s)) = F_X9_in (nI (c s)) (nI 48) (nI 57) := rfl
    have leE : F_X9_isLetter (nI (c s)) = F_X9_in (nI (c s)) (nI 97) (nI 122) := rfl
    rw [n48, n57] at dg dgE
    rw [n97, n122] at le leE
    rw [dgE, leE]
    by_cases cd : 48 ≤ c s ∧ c s ≤ 57
    · have d0 : ¬ F_X9_in (nI (c s)) 48 57 = 0 := fun z => dg.mp z cd
      have d1 : F_X9_in (nI (c s)) 97 122 = 0 := le.mpr (by omega)
      rw [if_neg d0, if_pos d1, if_neg d0, if_neg (show ¬ (2 : Int32) = 0 by decide), nI_1]
      obtain ⟨e, e1, e2, e3, e4, e5⟩ := eor' hN hc (m := (si (si (si m 36 (nI s)) 34 (nI s)) 37 (0 : Int32))) hm (lo := 48) (hi := 57) (by decide) (by decide) (x := s) (by omega)
      rw [n48, n57] at e1
      rw [e1]
      unfold F_X6_scan_k94_13 F_X6_scan_k112_18 F_X6_readNumber
      rw [nI_clamp (n := s) (by omega), hm.2 s sN]
      have se : s < e := by
        rcases Nat.lt_or_ge s e with z | z
        · exact z
        · have : e = s := by omega
          subst this
          exact absurd cd (e5 sN)
      have cs48 : (nI (c s) = (48 : Int32)) ↔ c s = 48 := nI_eq (a := c s) (b := 48) (by omega) (by decide)
      obtain ⟨a1, ea⟩ : ∃ a1, a1 = (if nI (c s) = (48 : Int32) then (1 : Int32) else (0 : Int32)) := ⟨_, rfl⟩
      have ea' : a1 = if c s = 48 then (1 : Int32) else 0 := by
        rw [ea]
        by_cases z : c s = 48
        · rw [if_pos z, if_pos (cs48.mpr z)]
        · rw [if_neg z, if_neg (fun y => z (cs48.mp y))]
      rw [← ea]
      -- the class reads the first digit
      obtain ⟨M, eM⟩ : ∃ M, M = (si (si (si (si m 36 (nI s)) 34 (nI s)) 37 (0 : Int32)) 34 (nI e)) := ⟨_, rfl⟩
      rw [← eM]
      have M36 : M.1 36 = nI s := by rw [eM]; rfl
      have M34 : M.1 34 = nI e := by rw [eM]; rfl
      have M37 : M.1 37 = 0 := by rw [eM]; rfl
      have MT : TXm M N c := by rw [eM]; exact hm
      have st1 : F_X6_readNumber_L5 201 M a1 (M.1 36) M = F_X6_readNumber_L5 200 M a1 (nI (s + 1)) (si M 37 (nI (c s - 48))) := by
        rw [M36, F_X6_readNumber_L5, M34, if_neg (show ¬ nI e ≤ nI s from fun y => by have := (nI_leI (by omega) (by omega)).mp y; omega), if_neg (show ¬ (200 : Int32) ≤ nI s from fun y => by have : 200 ≤ s := (num_le s rfl (by decide) (by omega)).mp y; omega), nI_clamp (n := s) (by omega), M37, MT.2 s sN, nI_1]
        have e0 : (((0 : Int32) * (10 : Int32)) + nI (c s)) - (48 : Int32) = nI (c s - 48) := by
          apply i32e
          rw [nI_toInt (by omega)]
          have i2 := nI_toInt (n := c s) (by omega)
          rw [show (0 : Int32) * (10 : Int32) = 0 by decide, ti_of (oI_sub (oI_add (oI_lit (x := 0) (a := 0) rfl) (oI_at (nI (c s)))) (oI_lit (x := 48) (a := 48) rfl)) (by omega)]
          omega
        rw [e0, if_pos (Int32.lt_iff_toInt_lt.mpr (by rw [nI_toInt (by omega), show (100 : Int32).toInt = 100 from rfl]; omega))]
      rw [st1]
      -- the reference begins with it
      rw [F_X9_token_L114]
      rw [if_neg (show ¬ ((si (si (si (si t' 1549 (nI s)) 1548 (2 : Int32)) 1550 (nI (c s))) 1547 (nI (s + 1))).1 1548) = (1 : Int32) from (show ¬ (2 : Int32) = 1 by decide))]
      unfold F_X9_token_J154
      rw [if_pos (show ((si (si (si (si t' 1549 (nI s)) 1548 (2 : Int32)) 1550 (nI (c s))) 1547 (nI (s + 1))).1 1548) = (2 : Int32) from rfl), r3, h0]
      have v0 : nI (c s) - (48 : Int32) = nI (c s - 48) := by
        apply i32e
        rw [nI_toInt (by omega)]
        have i2 := nI_toInt (n := c s) (by omega)
        rw [ti_of (oI_sub (oI_at (nI (c s))) (oI_lit (x := 48) (a := 48) rfl)) (by omega)]
        omega
      rw [v0]
      obtain ⟨T, eT⟩ : ∃ T, T = si (si (si (si (si t' 1549 (nI s)) 1548 (2 : Int32)) 1550 (nI (c s))) 1547 (nI (s + 1))) 1550 (nI (c s - 48)) := ⟨_, rfl⟩
      rw [← eT]
      have h0' : F_X9_letterAt (si t' 1549 (t'.1 1547)) (t'.1 1547) = nI (c s) := by rw [r3]; exact h0
      have fT : Fr [1547, 1548, 1549, 1550] [] false t' T := by rw [eT]; exact Fr.si (by decide) (Fr.si (by decide) (Fr.si (by decide) (Fr.si (by decide) (Fr.si (by decide) Fr.rf))))
      have T7 : T.1 1547 = nI (s + 1) := by rw [eT]; rfl
      have T8 : T.1 1548 = 2 := by rw [eT]; rfl
      have T9 : T.1 1549 = nI s := by rw [eT]; rfl
      have T0 : T.1 1550 = nI (c s - 48) := by rw [eT]; rfl
      generalize (si (si (si (si t' 1549 (nI s)) 1548 (2 : Int32)) 1550 (nI (c s))) 1547 (nI (s + 1))) = q1 at *
      obtain ⟨q2, q3, q4, v', V', q5, q6, q7, q8, q9⟩ := t_di (τ := t) (s := s) (e := e) hN hc se e3 e5 (fun y1 => F_X9_token_L0 n' t y1) (fun y1 => F_X9_token_L114 (fun y1 => F_X9_token_L0 n' t y1) 200 t t' y1) (m114 := q1) h0' M ea' 201 200 (s + 1) (c s - 48) (c s - 48) T (si M 37 (nI (c s - 48))) (by omega) (by omega) (by omega) (by omega) (ht'.fr (I := [1547, 1548, 1549, 1550]) (by decide) fT) MT T7 T0 rfl M34 M36 ⟨by omega, by omega, by
        by_cases z : c s = 48
        · exact Or.inl ⟨z, Or.inl ⟨rfl, by omega, by omega⟩⟩
        · exact Or.inr ⟨z, Or.inl ⟨rfl, by omega⟩⟩⟩ (fun k h1 h2 => e4 k (by omega) h2)
      refine ⟨⟨s, e, by omega, e3, (q4.1 36 (by decide)).trans M36, (q3.1 1549 (by decide)).trans T9, (q4.1 34 (by decide)).trans M34, q2⟩, ?_⟩
      have k8 := (q3.1 1548 (by decide)).trans T8
      rcases q9 with ⟨z1, z2, z3⟩ | ⟨z1, z2⟩
      · exact Or.inl ⟨z1, k8, V', z3, by rw [q8, z2], q7⟩
      · exact Or.inr (Or.inl ⟨z1, k8, V', z2, q6, q7⟩)
    · have d0 : F_X9_in (nI (c s)) 48 57 = 0 := dg.mpr cd
      by_cases cl : 97 ≤ c s ∧ c s ≤ 122
      · have d1 : ¬ F_X9_in (nI (c s)) 97 122 = 0 := fun z => le.mp z cl
        rw [if_pos d0, if_neg d1, if_neg d1, if_neg (show ¬ (1 : Int32) = 0 by decide), nI_1]
        obtain ⟨e, e1, e2, e3, e4, e5⟩ := eor' hN hc (m := (si (si (si m 36 (nI s)) 34 (nI s)) 37 (0 : Int32))) hm (lo := 97) (hi := 122) (by decide) (by decide) (x := s) (by omega)
        rw [n97, n122] at e1
        rw [e1]
        have se : s < e := by
          rcases Nat.lt_or_ge s e with z | z
          · exact z
          · have : e = s := by omega
            subst this
            exact absurd cl (e5 sN)
        obtain ⟨T, eT⟩ : ∃ T, T = (si (si (si (si t' 1549 (nI s)) 1548 (1 : Int32)) 1550 (nI (c s))) 1547 (nI (s + 1))) := ⟨_, rfl⟩
        rw [← eT]
        have fT : Fr [1547, 1548, 1549, 1550] [] false t' T := by rw [eT]; exact Fr.si (by decide) (Fr.si (by decide) (Fr.si (by decide) (Fr.si (by decide) Fr.rf)))
        have T7 : T.1 1547 = nI (s + 1) := by rw [eT]; rfl
        have T8 : T.1 1548 = 1 := by rw [eT]; rfl
        have T9 : T.1 1549 = nI s := by rw [eT]; rfl
        have T0 : T.1 1550 = nI (c s) := by rw [eT]; rfl
        obtain ⟨Y, y1, y2, y3, y4⟩ := t_le (τ := t) (e := e) hN hc e3 e5 (fun y1 => F_X9_token_L0 n' t y1) t' 201 (s + 1) T (by omega) (by omega) (ht'.fr (I := [1547, 1548, 1549, 1550]) (by decide) fT) T7 T8 (fun k h1 h2 => e4 k (by omega) h2)
        rw [y1]
        have ie := nI_toInt (n := e) (by omega)
        have isub : (nI e - nI s).toInt = (e : Int) - s := by
          rw [← ie, ← is]
          exact ti_of (oI_sub (oI_at _) (oI_at _)) (by omega)
        have e1 : (1 : Int32).toInt = 1 := rfl
        have Y8 := (y2.1 1548 (by decide)).trans T8
        have Y9 := (y2.1 1549 (by decide)).trans T9
        unfold F_X6_scan_k139_10
        by_cases z : s + 1 = e
        · rw [if_pos (show nI e - nI s = 1 from i32e (by omega)), nI_clamp (n := s) (by omega), hm.2 s sN]
          rw [if_pos z, T0] at y4
          exact ⟨⟨s, e, by omega, e3, rfl, Y9, rfl, y3⟩, Or.inr (Or.inr (Or.inl ⟨rfl, Y8, y4.symm⟩))⟩
        · rw [if_neg (show ¬ nI e - nI s = 1 from fun y => by have := congrArg Int32.toInt y; omega)]
          rw [if_neg z] at y4
          exact ⟨⟨s, e, by omega, e3, rfl, Y9, rfl, y3⟩, Or.inr (Or.inr (Or.inl ⟨rfl, Y8, y4.symm⟩))⟩
      · have d1 : F_X9_in (nI (c s)) 97 122 = 0 := le.mpr cl
        rw [if_pos d0, if_pos d1, if_pos d1, if_pos d0, nI_1]
        by_cases c59 : c s = 59
        · rw [if_pos (show nI (c s) = (59 : Int32) by rw [c59]; rfl), if_pos (show nI (c s) = (59 : Int32) by rw [c59]; rfl), if_neg (show ¬ (3 : Int32) = 0 by decide), nI_1, F_X9_token_L114]
          rw [if_neg (show ¬ ((si (si (si (si t' 1549 (nI s)) 1548 (3 : Int32)) 1550 (nI (c s))) 1547 (nI (s + 1))).1 1548) = (1 : Int32) from (show ¬ (3 : Int32) = 1 by decide))]
          unfold F_X9_token_J154
          rw [if_neg (show ¬ ((si (si (si (si t' 1549 (nI s)) 1548 (3 : Int32)) 1550 (nI (c s))) 1547 (nI (s + 1))).1 1548) = (2 : Int32) from (show ¬ (3 : Int32) = 2 by decide))]
          exact ⟨⟨s, s + 1, by omega, by omega, rfl, rfl, rfl, rfl⟩, Or.inr (Or.inr (Or.inr (Or.inr (Or.inl ⟨rfl, rfl⟩))))⟩
        · have n59' : ¬ nI (c s) = (59 : Int32) := fun z => c59 ((nI_eq (a := c s) (b := 59) (by omega) (by decide)).mp z)
          rw [if_neg n59', if_neg n59', if_neg (show ¬ (4 : Int32) = 0 by decide), nI_1, F_X9_token_L114]
          rw [if_neg (show ¬ ((si (si (si (si t' 1549 (nI s)) 1548 (4 : Int32)) 1550 (nI (c s))) 1547 (nI (s + 1))).1 1548) = (1 : Int32) from (show ¬ (4 : Int32) = 1 by decide))]
          unfold F_X9_token_J154
          rw [if_neg (show ¬ ((si (si (si (si t' 1549 (nI s)) 1548 (4 : Int32)) 1550 (nI (c s))) 1547 (nI (s + 1))).1 1548) = (2 : Int32) from (show ¬ (4 : Int32) = 2 by decide))]
          exact ⟨⟨s, s + 1, by omega, by omega, rfl, rfl, rfl, rfl⟩, Or.inr (Or.inr (Or.inr (Or.inr (Or.inr ⟨rfl, rfl⟩))))⟩
  · rw [if_neg sN] at l1 l2
    have sN' : s = N := by omega
    rw [l1, if_neg (show ¬ ((-1) : Int32) = 32 by decide), l2, r3, if_pos ((nI_leI (by omega) (by omega)).mpr (show N ≤ s by omega)), if_neg (show ¬ (0 : Int32) ≤ -1 by decide), if_pos (show (0 : Int32) = 0 from rfl), F_X9_token_L114]
    rw [if_neg (show ¬ ((si (si (si (si t' 1549 (nI s)) 1548 (0 : Int32)) 1550 ((-1) : Int32)) 1547 (nI s + 0)).1 1548) = (1 : Int32) from (show ¬ (0 : Int32) = 1 by decide))]
    unfold F_X9_token_J154
    rw [if_neg (show ¬ ((si (si (si (si t' 1549 (nI s)) 1548 (0 : Int32)) 1550 ((-1) : Int32)) 1547 (nI s + 0)).1 1548) = (2 : Int32) from (show ¬ (0 : Int32) = 2 by decide))]
    refine ⟨⟨s, s, Nat.le_refl _, s3, rfl, rfl, rfl, ?_⟩, Or.inr (Or.inr (Or.inr (Or.inl ⟨rfl, rfl⟩)))⟩
    show nI s + 0 = nI s
    exact Int32.add_zero _
end TOK2
