/-! ===== the deeds ===== -/
theorem RR.deed {σ τ : St} (h : RR σ τ) {row P : Nat → Int32} {U : Int32} {G : Nat → Int32} (L : LG row P U G 0) : RR (sa (si (sa σ 28 P) 802 U) 27 row) (sa τ 53 G) := ⟨h.1, h.2.1, L, h.2.2.2.1, h.2.2.2.2.1, h.2.2.2.2.2.1, h.2.2.2.2.2.2.1, h.2.2.2.2.2.2.2⟩
theorem R_und {σ τ : St} (h : RR σ τ) : σ.1 802 = τ.2.1 53 74 := by
  have := h.2.2.1.2.2.1
  rw [Nat.zero_add] at this
  exact this
theorem R_74 {σ τ : St} (h : RR σ τ) : 0 ≤ ((τ.2.1 53) 74).toInt ∧ ((τ.2.1 53) 74).toInt ≤ 10 := by
  rw [← R_und h]
  exact h.2.2.1.2.2.2.1
theorem B_borrow {s : St} {g : Nat → Int32} {c : Int32} (r : RRow (s.2.1 27) g 0 0) (hc : 0 ≤ c.toInt ∧ c.toInt < 4) (hp : bd (g c.toNatClampNeg) 0 5) (n : Int32) : F_X8_borrow s c n = (g (((14 : Int32) + ((6 : Int32) * c)) + g c.toNatClampNeg).toNatClampNeg + n, sa s 27 (upd (s.2.1 27) (((14 : Int32) + (c * (6 : Int32))) + g c.toNatClampNeg).toNatClampNeg (g (((14 : Int32) + ((6 : Int32) * c)) + g c.toNatClampNeg).toNatClampNeg + n))) := by
  have hw : 0 ≤ (g c.toNatClampNeg).toInt ∧ (g c.toNatClampNeg).toInt < 6 := ⟨hp.1, by have := hp.2; omega⟩
  unfold F_X8_borrow F_X8_borrow_k32_2
  rw [G_place r hc, G_knots r hc hw]
  unfold F_X2_setKnots
  rw [if_neg (isC4 hc), if_neg (isW6 hw)]
theorem C_can {σ τ : St} (r : RRow (σ.2.1 27) (τ.2.1 53) 0 0) {c : Int32} (hc : 0 ≤ c.toInt ∧ c.toInt < 4) (hp : bd ((τ.2.1 53) c.toNatClampNeg) 0 5) (n : Int32) : F_X8_canBorrow σ c n = (if F_X9_isAlive τ c = 0 then (0 : Int32) else (if (99 : Int32) < ((τ.2.1 53) (((14 : Int32) + ((6 : Int32) * c)) + ((τ.2.1 53) c.toNatClampNeg)).toNatClampNeg) + n then (0 : Int32) else (1 : Int32))) := by
  unfold F_X8_canBorrow
  rw [G_isAlive r hc, G_place r hc, G_knots r hc ⟨hp.1, by have := hp.2; omega⟩]
  rfl
theorem i_nlt' {a b : Int32} (h : a ≤ b) : ¬ b < a := fun q => by have := i_le h; have := i_lt q; omega
theorem i_lt' {a b : Int32} (h : ¬ a ≤ b) : b < a := Int32.lt_iff_toInt_lt.mpr (i_nle h)
theorem c_lt {c : Int32} (hc : 0 ≤ c.toInt ∧ c.toInt < 4) : c.toNatClampNeg < 74 := by rw [cl_of]; omega
theorem s_drinks : St_drinks RR := by
  intro σ τ a1 a2 h
  have L := h.2.2.1
  have hi := L.2.1
  refine ⟨L.2.2.2.1, ⟨h.2.1.2.2.1.2, R_74 h, fun x q1 q2 => D_place hi ⟨q1, q2⟩⟩, ?_⟩
  unfold F_X8_drinks F_X9_drinks
  rw [F_in_eq]
  rcases R_c h a1 with ⟨c1, c2⟩ | ⟨c1, c2, c3, c4, c5⟩
  · rw [if_pos c1, if_pos c2]; exact ⟨rfl, h⟩
  · rw [if_neg c1, if_neg c2]
    by_cases d : F_X9_in a2 1 20 = 0
    · rw [if_pos d, if_pos d]; exact ⟨rfl, h⟩
    · rw [if_neg d, if_neg d]
      have db := fz_in d
      have d1 : (1 : Int32).toInt = 1 := rfl
      have d20 : (20 : Int32).toInt = 20 := rfl
      have r := R_row h
      have hc : 0 ≤ a1.toInt ∧ a1.toInt < 4 := ⟨c3, c5⟩
      have hp := D_place hi hc
      rw [G_dry r hc, C_can r hc hp]
      by_cases al : F_X9_isAlive τ a1 = 0
      · rw [if_pos al, if_pos al]
        split
        · exact ⟨rfl, h⟩
        · rw [if_pos rfl]; exact ⟨rfl, h⟩
      · rw [if_neg al, if_neg al]
        by_cases dr : ((τ.2.1 53) ((8 : Int32) + a1).toNatClampNeg) < a2
        · rw [if_pos dr, if_pos dr]; exact ⟨rfl, h⟩
        · rw [if_neg dr, if_neg dr]
          by_cases kn : (((τ.2.1 53) (((14 : Int32) + ((6 : Int32) * a1)) + ((τ.2.1 53) a1.toNatClampNeg)).toNatClampNeg) + a2) ≤ (99 : Int32)
          · rw [if_pos kn, if_neg (i_nlt' kn), if_neg (by decide)]
            obtain ⟨P, U, G, e1, e2, L2, gk⟩ := KR L
            rw [e1, e2]
            have r2 : RRow ((si (sa σ 28 P) 802 U).2.1 27) G 0 0 := L2.1
            obtain ⟨v, ev⟩ : ∃ v, v = G ((8 : Int32) + a1).toNatClampNeg - a2 := ⟨_, rfl⟩
            have g8 : G ((8 : Int32) + a1).toNatClampNeg = τ.2.1 53 ((8 : Int32) + a1).toNatClampNeg := gk _ (by rw [ix1 (K := 8) (k := 8) rfl (by omega) (by decide)]; omega)
            have sd : F_X2_setDry (si (sa σ 28 P) 802 U) a1 ((F_X2_dryOf (si (sa σ 28 P) 802 U) a1) - a2) = sa (si (sa σ 28 P) 802 U) 27 (upd (σ.2.1 27) ((10 : Int32) + a1).toNatClampNeg v) := by
              unfold F_X2_setDry
              rw [if_neg (isC4 hc), G_dry r2 hc, ← ev]
              rfl
            have gp : (upd G ((8 : Int32) + a1).toNatClampNeg v) a1.toNatClampNeg = τ.2.1 53 a1.toNatClampNeg := by
              rw [pk_un (by rw [ix1 (K := 8) (k := 8) rfl (by omega) (by decide), cl_of]; omega), gk _ (c_lt hc)]
            have r3 : RRow ((sa (si (sa σ 28 P) 802 U) 27 (upd (σ.2.1 27) ((10 : Int32) + a1).toNatClampNeg v)).2.1 27) (upd G ((8 : Int32) + a1).toNatClampNeg v) 0 0 := U_dry L2.1 hc
            have bo := B_borrow r3 hc (by rw [gp]; exact hp) a2
            rw [gp] at bo
            have hw : 0 ≤ ((τ.2.1 53) a1.toNatClampNeg).toInt ∧ ((τ.2.1 53) a1.toNatClampNeg).toInt < 6 := ⟨hp.1, by have := hp.2; omega⟩
            unfold F_X8_drinks_k56_6 F_X8_drinks_k68_8 F_X8_drinks_k74_10 F_X9_drinks_k73_7
            rw [sd, bo, sa_sa]
            have gG : (sa τ 53 G).2.1 53 = G := rfl
            rw [gG, ← ev]
            have hd0 := D_dry hi hc
            have hd20 := D_dryA hi hc al
            have hv : v.toInt = ((τ.2.1 53) ((8 : Int32) + a1).toNatClampNeg).toInt - a2.toInt := by rw [ev, g8]; exact ti_of (oI_sub (oI_at _) (oI_at _)) (by omega)
            have hnd := i_nlt dr
            have ih1 : IM (upd G ((8 : Int32) + a1).toNatClampNeg v) 0 := I_dry L2.2.1 hc ⟨by omega, by omega⟩ (fun _ => by omega)
            have k0 := D_knots ih1 hc hw
            have kG : (upd G ((8 : Int32) + a1).toNatClampNeg v) (((14 : Int32) + ((6 : Int32) * a1)) + ((τ.2.1 53) a1.toNatClampNeg)).toNatClampNeg = (τ.2.1 53) (((14 : Int32) + ((6 : Int32) * a1)) + ((τ.2.1 53) a1.toNatClampNeg)).toNatClampNeg := by
              rw [pk_un (by rw [ix1 (K := 8) (k := 8) rfl (by omega) (by decide), ixB (K := 14) (k := 14) rfl (by omega) (by omega) (by decide)]; omega), gk _ (L_knots _ _ hc hw)]
            have kn2 := i_le kn
            rw [← kG] at kn2
            have e99 : (99 : Int32).toInt = 99 := rfl
            have es : ((upd G ((8 : Int32) + a1).toNatClampNeg v) (((14 : Int32) + ((6 : Int32) * a1)) + ((τ.2.1 53) a1.toNatClampNeg)).toNatClampNeg + a2).toInt = ((upd G ((8 : Int32) + a1).toNatClampNeg v) (((14 : Int32) + ((6 : Int32) * a1)) + ((τ.2.1 53) a1.toNatClampNeg)).toNatClampNeg).toInt + a2.toInt := ti_of (oI_add (oI_at _) (oI_at _)) (by omega)
            refine ⟨pk_us.symm, ?_⟩
            refine RR.deed h (LG.new L2 (U_knots r3 hc hw) (I_knots ih1 hc hw ⟨by omega, by omega⟩) (fun k hk => ?_))
            rw [pk_un (by have := L_knots _ _ hc hw; omega), pk_un (by rw [ix1 (K := 8) (k := 8) rfl (by omega) (by decide)]; omega)]
          · rw [if_neg kn, if_pos (i_lt' kn), if_pos rfl]; exact ⟨rfl, h⟩
theorem s_fills : St_fills RR := by
  intro σ τ a1 a2 h
  have L := h.2.2.1
  have hi := L.2.1
  refine ⟨L.2.2.2.1, ⟨h.2.1.2.2.1.2, R_74 h, fun x q1 q2 => D_place hi ⟨q1, q2⟩⟩, ?_⟩
  unfold F_X8_fills F_X9_fills
  rw [F_in_eq]
  rcases R_c h a1 with ⟨c1, c2⟩ | ⟨c1, c2, c3, c4, c5⟩
  · rw [if_pos c1, if_pos c2]; exact ⟨rfl, h⟩
  · rw [if_neg c1, if_neg c2]
    by_cases d : F_X9_in a2 1 20 = 0
    · rw [if_pos d, if_pos d]; exact ⟨rfl, h⟩
    · rw [if_neg d, if_neg d]
      have db := fz_in d
      have d1 : (1 : Int32).toInt = 1 := rfl
      have d20 : (20 : Int32).toInt = 20 := rfl
      have r := R_row h
      have hc : 0 ≤ a1.toInt ∧ a1.toInt < 4 := ⟨c3, c5⟩
      have hp := D_place hi hc
      rw [G_cups r hc, C_can r hc hp]
      by_cases al : F_X9_isAlive τ a1 = 0
      · rw [if_pos al, if_pos al]
        split
        · exact ⟨rfl, h⟩
        · rw [if_pos rfl]; exact ⟨rfl, h⟩
      · rw [if_neg al, if_neg al]
        by_cases dr : (20 : Int32) < (((τ.2.1 53) ((4 : Int32) + a1).toNatClampNeg) + a2)
        · rw [if_pos dr, if_pos dr]; exact ⟨rfl, h⟩
        · rw [if_neg dr, if_neg dr]
          by_cases kn : (((τ.2.1 53) (((14 : Int32) + ((6 : Int32) * a1)) + ((τ.2.1 53) a1.toNatClampNeg)).toNatClampNeg) + a2) ≤ (99 : Int32)
          · rw [if_pos kn, if_neg (i_nlt' kn), if_neg (by decide)]
            obtain ⟨P, U, G, e1, e2, L2, gk⟩ := KR L
            rw [e1, e2]
            have r2 : RRow ((si (sa σ 28 P) 802 U).2.1 27) G 0 0 := L2.1
            obtain ⟨v, ev⟩ : ∃ v, v = G ((4 : Int32) + a1).toNatClampNeg + a2 := ⟨_, rfl⟩
            have g8 : G ((4 : Int32) + a1).toNatClampNeg = τ.2.1 53 ((4 : Int32) + a1).toNatClampNeg := gk _ (by rw [ix1 (K := 4) (k := 4) rfl (by omega) (by decide)]; omega)
            have sd : F_X2_setCups (si (sa σ 28 P) 802 U) a1 ((F_X2_cupsOf (si (sa σ 28 P) 802 U) a1) + a2) = sa (si (sa σ 28 P) 802 U) 27 (upd (σ.2.1 27) ((6 : Int32) + a1).toNatClampNeg v) := by
              unfold F_X2_setCups
              rw [if_neg (isC4 hc), G_cups r2 hc, ← ev]
              rfl
            have gp : (upd G ((4 : Int32) + a1).toNatClampNeg v) a1.toNatClampNeg = τ.2.1 53 a1.toNatClampNeg := by
              rw [pk_un (by rw [ix1 (K := 4) (k := 4) rfl (by omega) (by decide), cl_of]; omega), gk _ (c_lt hc)]
            have r3 : RRow ((sa (si (sa σ 28 P) 802 U) 27 (upd (σ.2.1 27) ((6 : Int32) + a1).toNatClampNeg v)).2.1 27) (upd G ((4 : Int32) + a1).toNatClampNeg v) 0 0 := U_cups L2.1 hc
            have bo := B_borrow r3 hc (by rw [gp]; exact hp) a2
            rw [gp] at bo
            have hw : 0 ≤ ((τ.2.1 53) a1.toNatClampNeg).toInt ∧ ((τ.2.1 53) a1.toNatClampNeg).toInt < 6 := ⟨hp.1, by have := hp.2; omega⟩
            unfold F_X8_fills_k59_6 F_X8_fills_k71_8 F_X8_fills_k77_10 F_X9_fills_k75_7
            rw [sd, bo, sa_sa]
            have gG : (sa τ 53 G).2.1 53 = G := rfl
            rw [gG, ← ev]
            have hd0 := D_cups hi hc
            have hv : v.toInt = ((τ.2.1 53) ((4 : Int32) + a1).toNatClampNeg).toInt + a2.toInt := by rw [ev, g8]; exact ti_of (oI_add (oI_at _) (oI_at _)) (by omega)
            have hnd := i_nlt dr
            rw [show (((τ.2.1 53) ((4 : Int32) + a1).toNatClampNeg) + a2) = v from by rw [ev, g8]] at hnd
            have ih1 : IM (upd G ((4 : Int32) + a1).toNatClampNeg v) 0 := I_cups L2.2.1 hc ⟨by omega, by omega⟩
            have k0 := D_knots ih1 hc hw
            have kG : (upd G ((4 : Int32) + a1).toNatClampNeg v) (((14 : Int32) + ((6 : Int32) * a1)) + ((τ.2.1 53) a1.toNatClampNeg)).toNatClampNeg = (τ.2.1 53) (((14 : Int32) + ((6 : Int32) * a1)) + ((τ.2.1 53) a1.toNatClampNeg)).toNatClampNeg := by
              rw [pk_un (by rw [ix1 (K := 4) (k := 4) rfl (by omega) (by decide), ixB (K := 14) (k := 14) rfl (by omega) (by omega) (by decide)]; omega), gk _ (L_knots _ _ hc hw)]
            have kn2 := i_le kn
            rw [← kG] at kn2
            have e99 : (99 : Int32).toInt = 99 := rfl
            have es : ((upd G ((4 : Int32) + a1).toNatClampNeg v) (((14 : Int32) + ((6 : Int32) * a1)) + ((τ.2.1 53) a1.toNatClampNeg)).toNatClampNeg + a2).toInt = ((upd G ((4 : Int32) + a1).toNatClampNeg v) (((14 : Int32) + ((6 : Int32) * a1)) + ((τ.2.1 53) a1.toNatClampNeg)).toNatClampNeg).toInt + a2.toInt := ti_of (oI_add (oI_at _) (oI_at _)) (by omega)
            refine ⟨pk_us.symm, ?_⟩
            refine RR.deed h (LG.new L2 (U_knots r3 hc hw) (I_knots ih1 hc hw ⟨by omega, by omega⟩) (fun k hk => ?_))
            rw [pk_un (by have := L_knots _ _ hc hw; omega), pk_un (by rw [ix1 (K := 4) (k := 4) rfl (by omega) (by decide)]; omega)]
          · rw [if_neg kn, if_pos (i_lt' kn), if_pos rfl]; exact ⟨rfl, h⟩
theorem s_hands : St_hands RR := by
  intro σ τ a1 a2 a3 a4 h
  have L := h.2.2.1
  have hi := L.2.1
  refine ⟨L.2.2.2.1, ⟨h.2.1.1.2, h.2.1.2.2.1.2, R_74 h⟩, ?_⟩
  unfold F_X8_hands F_X9_hands
  rw [F_in_eq]
  rcases R_c h a1 with ⟨c1, c2⟩ | ⟨c1, c2, c3, c4, c5⟩
  · rw [if_pos c1, if_pos c2]; exact ⟨rfl, h⟩
  · rw [if_neg c1, if_neg c2]
    rcases R_c h a2 with ⟨b1, b2⟩ | ⟨b1, b2, b3, b4, b5⟩
    · rw [if_pos b1, if_pos b2]; exact ⟨rfl, h⟩
    · rw [if_neg b1, if_neg b2]
      by_cases ne : a1 = a2
      · rw [if_pos ne, if_pos ne]; exact ⟨rfl, h⟩
      · rw [if_neg ne, if_neg ne]
        rcases R_w h a3 with ⟨w1, w2⟩ | ⟨w1, w2, w3, w4, w5⟩
        · rw [if_pos w1, if_pos w2]; exact ⟨rfl, h⟩
        · rw [if_neg w1, if_neg w2]
          by_cases d : F_X9_in a4 1 99 = 0
          · rw [if_pos d, if_pos d]; exact ⟨rfl, h⟩
          · rw [if_neg d, if_neg d]
            have db := fz_in d
            have d1 : (1 : Int32).toInt = 1 := rfl
            have d99 : (99 : Int32).toInt = 99 := rfl
            have r := R_row h
            have hc : 0 ≤ a1.toInt ∧ a1.toInt < 4 := ⟨c3, c5⟩
            have hc2 : 0 ≤ a2.toInt ∧ a2.toInt < 4 := ⟨b3, b5⟩
            have hw : 0 ≤ a3.toInt ∧ a3.toInt < 6 := ⟨w3, w5⟩
            have nn := i_ne ne
            have al1 : F_X2_isAlive σ a1 = F_X9_isAlive τ a1 := G_isAlive r hc
            have al2 : F_X2_isAlive σ a2 = F_X9_isAlive τ a2 := G_isAlive r hc2
            rw [al1, al2, G_knots r hc hw, G_knots r hc2 hw]
            by_cases q1 : F_X9_isAlive τ a1 = 0
            · rw [if_pos q1, if_pos q1]; exact ⟨rfl, h⟩
            · rw [if_neg q1, if_neg q1]
              by_cases q2 : F_X9_isAlive τ a2 = 0
              · rw [if_pos q2, if_pos q2]; exact ⟨rfl, h⟩
              · rw [if_neg q2, if_neg q2]
                have k1 := D_knots hi hc hw
                have k2 := D_knots hi hc2 hw
                have es : (((τ.2.1 53) (((14 : Int32) + ((6 : Int32) * a1)) + a3).toNatClampNeg) - a4).toInt = ((τ.2.1 53) (((14 : Int32) + ((6 : Int32) * a1)) + a3).toNatClampNeg).toInt - a4.toInt := ti_of (oI_sub (oI_at _) (oI_at _)) (by omega)
                by_cases lt : ((τ.2.1 53) (((14 : Int32) + ((6 : Int32) * a1)) + a3).toNatClampNeg) < a4
                · have lt2 := i_lt lt
                  rw [if_pos lt, if_pos (Int32.lt_iff_toInt_lt.mpr (by rw [z32]; omega))]; exact ⟨rfl, h⟩
                · have lt2 := i_nlt lt
                  rw [if_neg lt, if_neg (fun z => by have := i_lt z; rw [z32] at this; omega)]
                  by_cases kn : (((τ.2.1 53) (((14 : Int32) + ((6 : Int32) * a2)) + a3).toNatClampNeg) + a4) ≤ (99 : Int32)
                  · rw [if_pos kn, if_pos kn]
                    obtain ⟨P, U, G, e1, e2, L2, gk⟩ := KR L
                    rw [e1, e2]
                    have r2 : RRow (σ.2.1 27) G 0 0 := L2.1
                    have gG : (sa τ 53 G).2.1 53 = G := rfl
                    have g1 := gk _ (L_knots a1 a3 hc hw)
                    have g2 := gk _ (L_knots a2 a3 hc2 hw)
                    have ne2 : (((14 : Int32) + ((6 : Int32) * a2)) + a3).toNatClampNeg ≠ (((14 : Int32) + ((6 : Int32) * a1)) + a3).toNatClampNeg := by
                      rw [ixB (K := 14) (k := 14) rfl (by omega) (by omega) (by decide), ixB (K := 14) (k := 14) rfl (by omega) (by omega) (by decide)]; omega
                    unfold F_X8_hands_k123_11 F_X8_hands_k132_13 F_X8_hands_k141_15 F_X9_hands_k111_11
                    rw [gG, G_knots r hc hw, G_knots r hc2 hw, pk_un ne2, g1, g2, pk_us]
                    refine ⟨rfl, ?_⟩
                    have s1 : F_X2_setKnots (si (sa σ 28 P) 802 U) a1 a3 ((τ.2.1 53) (((14 : Int32) + ((6 : Int32) * a1)) + a3).toNatClampNeg - a4) = sa (si (sa σ 28 P) 802 U) 27 (upd (σ.2.1 27) (((14 : Int32) + (a1 * (6 : Int32))) + a3).toNatClampNeg ((τ.2.1 53) (((14 : Int32) + ((6 : Int32) * a1)) + a3).toNatClampNeg - a4)) := by
                      unfold F_X2_setKnots
                      rw [if_neg (isC4 hc), if_neg (isW6 hw)]
                      rfl
                    rw [s1]
                    unfold F_X2_setKnots
                    rw [if_neg (isC4 hc2), if_neg (isW6 hw), sa_sa, sa_sa]
                    have kn2 := i_le kn
                    have es2 : (((τ.2.1 53) (((14 : Int32) + ((6 : Int32) * a2)) + a3).toNatClampNeg) + a4).toInt = ((τ.2.1 53) (((14 : Int32) + ((6 : Int32) * a2)) + a3).toNatClampNeg).toInt + a4.toInt := ti_of (oI_add (oI_at _) (oI_at _)) (by omega)
                    refine RR.deed h (LG.new L2 (U_knots (U_knots r2 hc hw) hc2 hw) (I_knots (I_knots L2.2.1 hc hw ⟨by omega, by omega⟩) hc2 hw ⟨by omega, by omega⟩) (fun k hk => ?_))
                    rw [pk_un (by have := L_knots a2 a3 hc2 hw; omega), pk_un (by have := L_knots a1 a3 hc hw; omega)]
                  · rw [if_neg kn, if_neg kn]; exact ⟨rfl, h⟩
