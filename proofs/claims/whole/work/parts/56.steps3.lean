/-! ===== stones and marks ===== -/
theorem s_hears : St_hears RR := by
  intro σ τ a1 a2 a3 a4 h
  obtain ⟨e0, hb, hk⟩ := h.2.2.2.2.1
  refine ⟨by rw [e0]; exact hb.1, ⟨h.2.1.2.1.2, h.2.1.2.2.1.2, hb⟩, ?_⟩
  unfold F_X8_hears F_X9_hears
  rw [F_in_eq, F_in_eq]
  rcases R_c h a1 with ⟨c1, c2⟩ | ⟨c1, c2, c3, c4, c5⟩
  · rw [if_pos c1, if_pos c2]; exact ⟨rfl, h⟩
  · rw [if_neg c1, if_neg c2]
    rcases R_s h a2 with ⟨b1, b2⟩ | ⟨b1, b2, b3, b4, b5⟩
    · rw [if_pos b1, if_pos b2]; exact ⟨rfl, h⟩
    · rw [if_neg b1, if_neg b2]
      by_cases d : F_X9_in a3 0 9 = 0
      · rw [if_pos d, if_pos d]; exact ⟨rfl, h⟩
      · rw [if_neg d, if_neg d]
        by_cases r : F_X9_in a4 0 9 = 0
        · rw [if_pos r, if_pos r]; exact ⟨rfl, h⟩
        · rw [if_neg r, if_neg r]
          have d' := fz_in d
          have r' := fz_in r
          have e9 : (9 : Int32).toInt = 9 := rfl
          have e6 : (6 : Int32).toInt = 6 := rfl
          rw [z32] at d' r'
          have hs : 0 ≤ a2.toInt ∧ a2.toInt < (τ.2.1 50 1).toInt := ⟨b3, b4⟩
          rw [T_heat h hs]
          have ht := (T_stg h hs).2.2.1.2
          rw [← ix1 (K := 26) (k := 26) rfl (by omega) (by decide)] at ht
          generalize (τ.2.1 50) ((26 : Int32) + a2).toNatClampNeg = H at ht
          by_cases f : τ.1 1546 = 6
          · rw [if_pos f]
            have e : F_X0_append σ a1 ((H - a3) - a4) = (0, σ) := by
              unfold F_X0_append
              rw [if_neg (fun q => by have := i_lt q; rw [e0, f] at this; omega)]
            rw [e]
            exact ⟨rfl, h⟩
          · rw [if_neg f]
            have f' := i_ne f
            have e : F_X0_append σ a1 ((H - a3) - a4) = (1, (si (sa (sa σ 38 (upd (σ.2.1 38) (σ.1 1186).toNatClampNeg a1)) 39 (upd (σ.2.1 39) (σ.1 1186).toNatClampNeg ((H - a3) - a4))) 1186 ((σ.1 1186) + (1 : Int32)))) := by
              unfold F_X0_append
              rw [if_pos (by rw [e0]; exact Int32.lt_iff_toInt_lt.mpr (by omega))]
            rw [e]
            have e1 : ((τ.1 1546) + (1 : Int32)).toInt = (τ.1 1546).toInt + 1 := ti_of (oI_add (oI_at _) (oI_lit (x := 1) (a := 1) rfl)) (by omega)
            refine ⟨by show (σ.1 1186) + 1 = (τ.1 1546) + 1; rw [e0], h.1, h.2.1, h.2.2.1, h.2.2.2.1, ⟨by show (σ.1 1186) + 1 = (τ.1 1546) + 1; rw [e0], ⟨by show 0 ≤ ((τ.1 1546) + (1 : Int32)).toInt; omega, by show ((τ.1 1546) + (1 : Int32)).toInt ≤ 6; omega⟩, ?_⟩, h.2.2.2.2.2⟩
            intro k hk2
            have hk2 : (k : Int) < ((τ.1 1546) + (1 : Int32)).toInt := hk2
            show bd (upd (σ.2.1 38) (σ.1 1186).toNatClampNeg a1 k) 0 3 ∧ bd (upd (σ.2.1 39) (σ.1 1186).toNatClampNeg ((H - a3) - a4) k) (-17) 9 ∧ (upd (τ.2.1 56) (τ.1 1546).toNatClampNeg ((((((100 : Int32) * a1) + (50 : Int32)) + H) - a3) - a4) k).toInt = 100 * (upd (σ.2.1 38) (σ.1 1186).toNatClampNeg a1 k).toInt + 50 + (upd (σ.2.1 39) (σ.1 1186).toNatClampNeg ((H - a3) - a4) k).toInt
            rw [e0]
            by_cases q : k = (τ.1 1546).toNatClampNeg
            · subst q
              rw [pk_us, pk_us, pk_us]
              have es : ((H - a3) - a4).toInt = H.toInt - a3.toInt - a4.toInt := ti_of (oI_sub (oI_sub (oI_at _) (oI_at _)) (oI_at _)) (by omega)
              have en : ((((((100 : Int32) * a1) + (50 : Int32)) + H) - a3) - a4).toInt = 100 * a1.toInt + 50 + H.toInt - a3.toInt - a4.toInt := ti_of (oI_sub (oI_sub (oI_add (oI_add (oI_mul (oI_lit (x := 100) (a := 100) rfl) (oI_at a1)) (oI_lit (x := 50) (a := 50) rfl)) (oI_at H)) (oI_at a3)) (oI_at a4)) (by omega)
              exact ⟨⟨by omega, by omega⟩, ⟨by omega, by omega⟩, by omega⟩
            · rw [pk_un q, pk_un q, pk_un q]
              have q : k ≠ (τ.1 1546).toInt.toNat := q
              exact hk k (by omega)
theorem stone_n {N c s : Int32} (hc : bd c 0 3) (hs : bd s (-17) 9) (hN : N.toInt = 100 * c.toInt + 50 + s.toInt) : N / (100 : Int32) = c ∧ (N - N / (100 : Int32) * (100 : Int32)) - (50 : Int32) = s := by
  have n0 : 0 ≤ N.toInt := by omega
  have eN := nI_self n0
  have d := pk_div (a := N.toInt.toNat) (d := 100) (by omega) (by decide) (by decide)
  have r := pk_rem (a := N.toInt.toNat) (d := 100) (by omega) (by decide) (by decide)
  rw [← eN, show nI 100 = (100 : Int32) from rfl] at d r
  constructor
  · rw [d]
    exact i32e (by rw [nI_toInt (by omega)]; omega)
  · rw [r]
    refine i32e ?_
    rw [ti_of (oI_sub (oI_at _) (oI_lit (x := 50) (a := 50) rfl)) (by rw [nI_toInt (by omega)]; omega), nI_toInt (by omega)]
    omega
theorem or0 (x : Int32) : x ||| (0 : Int32) = x := by
  apply Int32.toBitVec_inj.mp
  simp
theorem stones_L (σ τ : St) (h : HSR σ τ) (b : Int32) (hb : b = 0 ∨ b = 1) : ∀ (n x : Nat) (a : Int32), x ≤ 6 → 6 < x + n → F_X9_stones_L15 n τ b (nI x) a = (if b = 0 then F_X0_sucked_L4 n σ (nI x) a else F_X0_liars_L4 n σ (nI x) a)
  | 0, x, a, hx, hn => absurd hn (by omega)
  | n + 1, x, a, hx, hn => by
    obtain ⟨e0, hb6, hk⟩ := h
    rw [F_X9_stones_L15, F_X0_sucked_L4, F_X0_liars_L4, e0]
    by_cases q : (τ.1 1546) ≤ nI x
    · rw [if_pos q, if_pos q, if_pos q]
      split <;> rfl
    · rw [if_neg q, if_neg q, if_neg q]
      have q' := i_nle q
      rw [nI_toInt (by omega)] at q'
      have q6 : ¬ (6 : Int32) ≤ nI x := fun z => by have := (num_le (k := 6) x rfl (by decide) (by omega)).mp z; have := hb6.2; omega
      rw [if_neg q6, if_neg q6, nI_clamp (by omega), nI_1]
      obtain ⟨k1, k2, k3⟩ := hk x q'
      obtain ⟨d1, d2⟩ := stone_n k1 k2 k3
      have hx6 := hb6.2
      rw [d2, d1, stones_L σ τ ⟨e0, hb6, hk⟩ b hb n (x + 1) _ (by omega) (by omega)]
      rcases hb with e | e
      · subst e
        rw [if_pos rfl, if_pos rfl, if_pos rfl, F_in_eq]
        by_cases c : F_X9_in (σ.2.1 39 x) 1 3 = 0
        · rw [if_pos c, if_pos c, or0]
        · rw [if_neg c, if_neg c]
      · subst e
        have n10 : ¬ (1 : Int32) = 0 := by decide
        simp only [if_neg n10]
        by_cases c : F_X9_in (σ.2.1 39 x) 0 3 = 0
        · rw [if_pos c, if_neg n10, if_pos (show F_X8_within (σ.2.1 39 x) 0 3 = 0 from c)]
        · rw [if_neg c, if_pos rfl, or0, if_neg (show ¬ F_X8_within (σ.2.1 39 x) 0 3 = 0 from c)]
theorem s_stones : St_stones RR := by
  intro σ τ a1 h
  refine ⟨trivial, h.2.2.2.2.1.2.1, ?_, h⟩
  unfold F_X9_stones
  by_cases c : F_X9_in a1 0 1 = 0
  · rw [if_pos c]
    have n0 : ¬ a1 = 0 := fun e => by rw [e] at c; exact absurd c (by decide)
    have n1 : ¬ a1 = 1 := fun e => by rw [e] at c; exact absurd c (by decide)
    unfold F_X8_stones
    rw [if_neg n0, if_neg n1]
  · rw [if_neg c]
    have e := in01 c
    have l := stones_L σ τ h.2.2.2.2.1 a1 e 7 0 0 (by decide) (by decide)
    rw [show (nI 0) = (0 : Int32) from rfl] at l
    rw [l]
    rcases e with e | e
    · subst e; rfl
    · subst e; rfl
def markR (τ : St) (a1 a2 v y w : Int32) : Int32 × St := (if a1 = 0 then v else if a1 = (1 : Int32) then y else if a1 = (2 : Int32) then v - w else if a1 = (3 : Int32) then (2 : Int32) * y else if a1 = (4 : Int32) then (v - w) + a2 else v + ((τ.2.1 53) 13), sl τ (τ.2.2 + (if a1 = 0 then (1 : Int64) else (if a1 = (1 : Int32) then (11 : Int64) else (if a1 = (2 : Int32) then (101 : Int64) else (if a1 = (3 : Int32) then (1011 : Int64) else (if a1 = (4 : Int32) then (10101 : Int64) else (100001 : Int64))))))))
theorem mark_k (lf : Int32 → Int32 → Int32 × St) (τ : St) (a1 a2 v x y w : Int32) : F_X9_mark_k140_19 lf τ a1 a2 v x y w = markR τ a1 a2 v y w := by
  unfold F_X9_mark_k140_19 markR
  by_cases c0 : a1 = 0
  · subst c0; rfl
  · by_cases c1 : a1 = 1
    · subst c1; rfl
    · by_cases c2 : a1 = 2
      · subst c2; rfl
      · by_cases c3 : a1 = 3
        · subst c3; rfl
        · by_cases c4 : a1 = 4
          · subst c4; rfl
          · simp only [if_neg c0, if_neg c1, if_neg c2, if_neg c3, if_neg c4]
theorem mark_L {σ τ : St} (h : RR σ τ) (a1 a2 v : Int32) : ∀ (n x : Nat) (c : Int32), x ≤ 8 → 8 < x + n → F_X9_mark_L96 n τ a1 a2 v (nI x) (v + c) = markR τ a1 a2 v (v + F_X4_stagesLentBy_L4 n σ a2 (nI x) c) (F_X9_duesOf τ a2)
  | 0, x, c, hx, hn => absurd hn (by omega)
  | n + 1, x, c, hx, hn => by
    rw [F_X9_mark_L96, F_X4_stagesLentBy_L4, h.2.1.2.1.1]
    have b8 := h.2.1.2.1.2.2
    by_cases q : (τ.2.1 50 1) ≤ nI x
    · rw [if_pos q, if_pos q, mark_k]
      rfl
    · rw [if_neg q, if_neg q]
      have q' := i_nle q
      have en := nI_toInt (n := x) (by omega)
      have hs : 0 ≤ (nI x).toInt ∧ (nI x).toInt < (τ.2.1 50 1).toInt := by omega
      rw [T_lender h hs, nI_1]
      by_cases e : (τ.2.1 50 ((42 : Int32) + nI x).toNatClampNeg) = a2
      · rw [if_pos e, if_pos e, Int32.add_assoc]
        exact mark_L h a1 a2 v n (x + 1) _ (by omega) (by omega)
      · rw [if_neg e, if_neg e, Int32.add_zero]
        exact mark_L h a1 a2 v n (x + 1) _ (by omega) (by omega)
theorem RR.sl {σ τ : St} (h : RR σ τ) (v : Int64) : RR (sl σ v) (sl τ v) := ⟨h.1, h.2.1, h.2.2.1, h.2.2.2.1, h.2.2.2.2.1, rfl, h.2.2.2.2.2.2⟩
theorem SL_sl (σ : St) (v : Int64) (w : Int32) : ∀ (n : Nat) (x c : Int32), F_X4_stagesLentBy_L4 n (sl σ v) w x c = F_X4_stagesLentBy_L4 n σ w x c
  | 0, _, _ => rfl
  | n + 1, x, c => by
    rw [F_X4_stagesLentBy_L4, F_X4_stagesLentBy_L4, SL_sl σ v w n, SL_sl σ v w n]
    rfl
section MK
variable (σ : St) (w K Du : Int32)
theorem mk_well (hk : ∀ v : Int64, F_X2_knotsAtWell (sl σ v) w = K) (v : Int64) : F_X8_markAsWell (sl σ v) w = (K, sl σ (v + 1)) := by
  unfold F_X8_markAsWell F_X8_markAsWell_k18_2
  rw [sl_sl, hk]
  rfl
theorem mk_knot (hk : ∀ v : Int64, F_X2_knotsAtWell (sl σ v) w = K) (v : Int64) : F_X8_markAsKnot (sl σ v) w = (K + F_X4_stagesLentBy σ w, sl σ (v + 10 + 1)) := by
  unfold F_X8_markAsKnot F_X8_markAsKnot_k14_2 F_X8_markAsKnot_k22_4
  rw [sl_sl, mk_well σ w K hk]
  show (K + F_X4_stagesLentBy_L4 9 (sl σ (v + 10 + 1)) w 0 0, sl σ (v + 10 + 1)) = _
  rw [SL_sl]
  rfl
theorem mk_dew (hk : ∀ v : Int64, F_X2_knotsAtWell (sl σ v) w = K) (hd : ∀ v : Int64, F_X2_duesBy (sl σ v) w = Du) (v : Int64) : F_X8_markAsDew (sl σ v) w = (K - Du, sl σ (v + 100 + 1)) := by
  unfold F_X8_markAsDew F_X8_markAsDew_k14_2 F_X8_markAsDew_k25_4
  rw [sl_sl, mk_well σ w K hk]
  show (K - F_X2_duesBy (sl σ (v + 100 + 1)) w, sl σ (v + 100 + 1)) = _
  rw [hd]
theorem mk_child (hk : ∀ v : Int64, F_X2_knotsAtWell (sl σ v) w = K) (v : Int64) : F_X8_markAsChild (sl σ v) w = ((K + F_X4_stagesLentBy σ w) * 2, sl σ (v + 1000 + 10 + 1)) := by
  unfold F_X8_markAsChild F_X8_markAsChild_k14_2
  rw [sl_sl, mk_knot σ w K hk]
  generalize F_X4_stagesLentBy σ w = S
  rfl
theorem mk_camel (hk : ∀ v : Int64, F_X2_knotsAtWell (sl σ v) w = K) (hd : ∀ v : Int64, F_X2_duesBy (sl σ v) w = Du) (v : Int64) : F_X8_markAsCamel (sl σ v) w = ((K - Du) + w, sl σ (v + 10000 + 100 + 1)) := by
  unfold F_X8_markAsCamel F_X8_markAsCamel_k14_2
  rw [sl_sl, mk_dew σ w K Du hk hd]
  rfl
theorem mk_mirage (hk : ∀ v : Int64, F_X2_knotsAtWell (sl σ v) w = K) (v : Int64) : F_X8_markAsMirage (sl σ v) w = (K + F_X2_sand σ, sl σ (v + 100000 + 1)) := by
  unfold F_X8_markAsMirage F_X8_markAsMirage_k14_2
  rw [sl_sl, mk_well σ w K hk, show (sl σ v).2.2 = v from rfl]
  have e : ∀ x : Int64, F_X2_sand (sl σ x) = F_X2_sand σ := fun _ => rfl
  generalize v + 100000 + 1 = y
  exact Prod.ext (congrArg (fun q => K + q) (e y)) rfl
end MK
theorem s_mark : St_mark RR := by
  intro σ τ a1 a2 h
  refine ⟨by rw [h.2.1.2.1.1]; exact h.2.1.2.1.2.2, ⟨h.2.1.1.2, h.2.1.2.1.2⟩, ?_⟩
  have ht := h.2.2.2.2.2.1
  rcases R_w h a2 with ⟨c1, c2⟩ | ⟨c1, c2, c3, c4, c5⟩
  · unfold F_X8_mark F_X9_mark
    rw [if_pos c1]
    by_cases k : F_X9_in a1 0 5 = 0
    · rw [if_pos k]; exact ⟨rfl, h⟩
    · rw [if_neg k, if_pos c2]; exact ⟨rfl, h⟩
  · have hw : 0 ≤ a2.toInt ∧ a2.toInt < 6 := ⟨c3, c5⟩
    by_cases k : F_X9_in a1 0 5 = 0
    · unfold F_X8_mark F_X9_mark
      rw [if_neg c1, if_pos k]
      have ne : ∀ c : Int32, ¬ F_X9_in c 0 5 = 0 → ¬ a1 = c := fun c hc e => hc (by rw [← e]; exact k)
      rw [if_neg (ne 0 (by decide)), if_neg (ne 1 (by decide)), if_neg (ne 2 (by decide)), if_neg (ne 3 (by decide)), if_neg (ne 4 (by decide)), if_neg (ne 5 (by decide))]
      exact ⟨rfl, h⟩
    · have kb := fz_in k
      have e5 : (5 : Int32).toInt = 5 := rfl
      rw [z32] at kb
      have r := R_row h
      have es := G_sand r
      obtain ⟨K, eK⟩ : ∃ K, K = F_X9_knotsAt τ a2 := ⟨_, rfl⟩
      obtain ⟨Du, eD⟩ : ∃ Du, Du = F_X9_duesOf τ a2 := ⟨_, rfl⟩
      have hk : ∀ v : Int64, F_X2_knotsAtWell (sl σ v) a2 = K := fun v => by rw [eK]; exact E_knotsW (σ := sl σ v) r hw
      have hd : ∀ v : Int64, F_X2_duesBy (sl σ v) a2 = Du := fun v => by rw [eD]; exact E_duesB (σ := sl σ v) r hw
      have hks : ∀ v : Int64, F_X9_knotsAt (sl τ v) a2 = K := fun v => by rw [← hk 0]; exact (E_knotsW (σ := sl σ 0) (τ := sl τ v) r hw).symm
      have mk : F_X9_mark τ a1 a2 = markR τ a1 a2 K (K + F_X4_stagesLentBy σ a2) Du := by
        unfold F_X9_mark
        rw [if_neg k, if_neg c2, hks]
        have l := mark_L h a1 a2 K 9 0 0 (by decide) (by decide)
        rw [show (nI 0) = (0 : Int32) from rfl, Int32.add_zero, ← eD] at l
        exact l
      rw [mk]
      have sg : σ = sl σ σ.2.2 := rfl
      have kc : a1.toInt = 0 ∨ a1.toInt = 1 ∨ a1.toInt = 2 ∨ a1.toInt = 3 ∨ a1.toInt = 4 ∨ a1.toInt = 5 := by omega
      unfold F_X8_mark F_X8_mark_k54_4 F_X8_mark_k60_7 F_X8_mark_k66_10 F_X8_mark_k72_13 F_X8_mark_k78_16 F_X8_mark_k84_19
      rw [if_neg c1]
      have w0 := mk_well σ a2 K hk σ.2.2
      have w1 := mk_knot σ a2 K hk σ.2.2
      have w2 := mk_dew σ a2 K Du hk hd σ.2.2
      have w3 := mk_child σ a2 K hk σ.2.2
      have w4 := mk_camel σ a2 K Du hk hd σ.2.2
      have w5 := mk_mirage σ a2 K hk σ.2.2
      rw [← sg] at w0 w1 w2 w3 w4 w5
      rw [w0, w1, w2, w3, w4, w5]
      clear w0 w1 w2 w3 w4 w5 mk
      generalize F_X4_stagesLentBy σ a2 = S
      rcases kc with e | e | e | e | e | e
      · have e : a1 = 0 := i32e e
        subst e
        refine ⟨rfl, ?_⟩
        show RR (sl σ (σ.2.2 + 1)) (sl τ (τ.2.2 + 1))
        rw [ht]; exact h.sl _
      · have e : a1 = 1 := i32e e
        subst e
        refine ⟨rfl, ?_⟩
        show RR (sl σ (σ.2.2 + 10 + 1)) (sl τ (τ.2.2 + 11))
        rw [Int64.add_assoc, ht]; exact h.sl _
      · have e : a1 = 2 := i32e e
        subst e
        refine ⟨rfl, ?_⟩
        show RR (sl σ (σ.2.2 + 100 + 1)) (sl τ (τ.2.2 + 101))
        rw [Int64.add_assoc, ht]; exact h.sl _
      · have e : a1 = 3 := i32e e
        subst e
        refine ⟨Int32.mul_comm _ _, ?_⟩
        show RR (sl σ (σ.2.2 + 1000 + 10 + 1)) (sl τ (τ.2.2 + 1011))
        rw [Int64.add_assoc, Int64.add_assoc, ht]; exact h.sl _
      · have e : a1 = 4 := i32e e
        subst e
        refine ⟨rfl, ?_⟩
        show RR (sl σ (σ.2.2 + 10000 + 100 + 1)) (sl τ (τ.2.2 + 10101))
        rw [Int64.add_assoc, Int64.add_assoc, ht]; exact h.sl _
      · have e : a1 = 5 := i32e e
        subst e
        refine ⟨by show K + F_X2_sand σ = K + ((τ.2.1 53) 13); rw [es], ?_⟩
        have e6 : σ.2.2 + 100000 + 1 = τ.2.2 + 100001 := by rw [Int64.add_assoc, ht, show (100000 : Int64) + 1 = 100001 from by decide]
        rw [e6]
        exact h.sl _
