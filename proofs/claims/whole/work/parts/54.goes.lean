/-! ===== goes, undo ===== -/
theorem lives_t1 : ∀ a, a < 16 → ∀ c, c < 4 → F_X9_has (nI a) (nI c) = 0 ∨ (nI a &&& (((1 : Int32) <<< (nI c &&& 31)) ^^^ ((-1) : Int32))) = (nI a ^^^ ((1 : Int32) <<< (nI c &&& 31))) := by decide +kernel
theorem lives_t2 : ∀ a, a < 16 → ∀ c, c < 4 → 0 ≤ (nI a ^^^ ((1 : Int32) <<< (nI c &&& 31))).toInt ∧ (nI a ^^^ ((1 : Int32) <<< (nI c &&& 31))).toInt ≤ 15 := by decide +kernel
theorem lives_t3 : ∀ a, a < 16 → ∀ c, c < 4 → F_X9_has (nI a) (nI c) = 0 ∨ F_X9_has (nI a ^^^ ((1 : Int32) <<< (nI c &&& 31))) (nI c) = 0 := by decide +kernel
theorem lives_t4 : ∀ a, a < 16 → ∀ c, c < 4 → ∀ d, d < 4 → F_X9_has (nI a) (nI c) = 0 ∨ F_X9_has (nI a ^^^ ((1 : Int32) <<< (nI c &&& 31))) (nI d) = 0 ∨ ¬ F_X9_has (nI a) (nI d) = 0 := by decide +kernel
theorem lives_at {a c : Int32} (ha : bd a 0 15) (hc : 0 ≤ c.toInt ∧ c.toInt < 4) (hb : ¬ F_X9_has a c = 0) : (a &&& (((1 : Int32) <<< (c &&& 31)) ^^^ ((-1) : Int32))) = (a ^^^ ((1 : Int32) <<< (c &&& 31))) ∧ bd (a ^^^ ((1 : Int32) <<< (c &&& 31))) 0 15 ∧ F_X9_has (a ^^^ ((1 : Int32) <<< (c &&& 31))) c = 0 ∧ ∀ d, d < 4 → ¬ F_X9_has (a ^^^ ((1 : Int32) <<< (c &&& 31))) (nI d) = 0 → ¬ F_X9_has a (nI d) = 0 := by
  have e1 := nI_self ha.1
  have e2 := nI_self hc.1
  have h15 := ha.2
  have h1 := lives_t1 a.toInt.toNat (by omega) c.toInt.toNat (by omega)
  have h2 := lives_t2 a.toInt.toNat (by omega) c.toInt.toNat (by omega)
  have h3 := lives_t3 a.toInt.toNat (by omega) c.toInt.toNat (by omega)
  have h4 := lives_t4 a.toInt.toNat (by omega) c.toInt.toNat (by omega)
  rw [← e1, ← e2] at h1 h2 h3 h4
  refine ⟨h1.resolve_left hb, h2, h3.resolve_left hb, fun d hd q => ?_⟩
  rcases h4 d hd with z | z | z
  · exact absurd z hb
  · exact absurd z q
  · exact z
theorem upd_comm (g : Nat → Int32) {i j : Nat} (v w : Int32) (h : i ≠ j) : upd (upd g i v) j w = upd (upd g j w) i v := by
  funext k
  by_cases a : k = j
  · subst a
    rw [pk_us, pk_un (fun e => h e.symm), pk_us]
  · rw [pk_un a]
    by_cases b : k = i
    · subst b
      rw [pk_us, pk_us]
    · rw [pk_un b, pk_un b, pk_un a]
theorem upd_upd (g : Nat → Int32) (i : Nat) (v w : Int32) : upd (upd g i v) i w = upd g i w := by
  funext k
  by_cases a : k = i
  · subst a; rw [pk_us, pk_us]
  · rw [pk_un a, pk_un a, pk_un a]
theorem die_loop (σ τ s t : St) (c v w : Int32) (hc : 0 ≤ c.toInt ∧ c.toInt < 4) : ∀ (n x : Nat) (f g : Nat → Int32), x ≤ 6 → RRow f g 0 0 → IM g 0 → ∃ f' g', F_X2_die_L48 n σ c v (nI x) (sa s 27 f) = sa s 27 f' ∧ F_X9_dies_L63 n τ c w (nI x) (sa t 53 g) = sa t 53 g' ∧ RRow f' g' 0 0 ∧ IM g' 0 ∧ ∀ k, 74 ≤ k → g' k = g k
  | 0, x, f, g, hx, hr, hi => ⟨f, g, rfl, rfl, hr, hi, fun _ _ => rfl⟩
  | n + 1, x, f, g, hx, hr, hi => by
    rw [F_X2_die_L48, F_X9_dies_L63]
    by_cases q : (6 : Int32) ≤ nI x
    · rw [if_pos q, if_pos q]
      exact ⟨f, g, rfl, rfl, hr, hi, fun _ _ => rfl⟩
    · rw [if_neg q, if_neg q]
      have q : ¬ 6 ≤ x := fun z => q ((num_le x rfl (by decide) (by omega)).mpr z)
      have e := nI_toInt (n := x) (by omega)
      have hw : 0 ≤ (nI x).toInt ∧ (nI x).toInt < 6 := by omega
      have sk : F_X2_setKnots (sa s 27 f) c (nI x) (0 : Int32) = sa s 27 (upd f (((14 : Int32) + (c * (6 : Int32))) + nI x).toNatClampNeg 0) := by
        unfold F_X2_setKnots
        rw [if_neg (isC4 hc), if_neg (isW6 hw), sa_sa]
        rfl
      show ∃ f' g', F_X2_die_L48 n σ c v (nI x + 1) (F_X2_setKnots (sa s 27 f) c (nI x) 0) = sa s 27 f' ∧ _
      rw [sk, nI_1, sa_sa]
      obtain ⟨f', g', h1, h2, h3, h4, h5⟩ := die_loop σ τ s t c v w hc n (x + 1) _ _ (by omega) (U_knots (v := 0) hr hc hw) (I_knots hi hc hw (by decide))
      refine ⟨f', g', h1, h2, h3, h4, fun k hk => ?_⟩
      rw [h5 k hk, pk_un (by have := L_knots c (nI x) hc hw; omega)]
/-- a caravan dies on both sides: g is the row with its thirst not yet beyond it -/
theorem die_eq (s t : St) {f g : Nat → Int32} {c d : Int32} (hc : 0 ≤ c.toInt ∧ c.toInt < 4) (hr : RRow f (upd g ((8 : Int32) + c).toNatClampNeg d) 0 0) (hi : IM g 0) (hd : bd d 0 29) (al : ¬ F_X9_has (g 12) c = 0) : ∃ f' g', F_X2_die (sa s 27 f) c = sa s 27 f' ∧ F_X9_dies (sa t 53 (upd g ((8 : Int32) + c).toNatClampNeg d)) c = sa t 53 g' ∧ RRow f' g' 0 0 ∧ IM g' 0 ∧ ∀ k, 74 ≤ k → g' k = g k := by
  have i8 := ix1 (K := 8) (x := c) (k := 8) rfl (by omega) (by decide)
  obtain ⟨G, eG⟩ : ∃ G, G = upd g ((8 : Int32) + c).toNatClampNeg d := ⟨_, rfl⟩
  rw [← eG] at hr ⊢
  have g12 : G 12 = g 12 := by rw [eG, pk_un (by omega)]
  obtain ⟨l1, l2, l3, l4⟩ := lives_at (by have := hi.2.2.2.1; rw [Nat.zero_add] at this; exact this) hc al
  obtain ⟨A, eA⟩ : ∃ A, A = (g 12 ^^^ ((1 : Int32) <<< (c &&& 31))) := ⟨_, rfl⟩
  rw [← eA] at l1 l2 l3 l4
  have f1 : f 1 = g 12 := by rw [row_at hr 1 (by decide), ← g12]; rfl
  have r1 : RRow (upd f 1 A) (upd G 12 A) 0 0 := RRow.upd (k := 1) hr (by decide)
  have ek : F_X2_knotsOfCaravan (sa (sa s 27 f) 27 (upd ((sa s 27 f).2.1 27) 1 (((sa s 27 f).2.1 27) 1 &&& (((1 : Int32) <<< (c &&& 31)) ^^^ ((-1) : Int32))))) c = F_X9_knotsOf (sa (sa t 53 G) 53 (upd ((sa t 53 G).2.1 53) 12 (((sa t 53 G).2.1 53) 12 ^^^ ((1 : Int32) <<< (c &&& 31))))) c := by
    rw [sa_at, sa_at, f1, l1, g12, ← eA]
    exact E_knotsC (σ := sa (sa s 27 f) 27 (upd f 1 A)) (τ := sa (sa t 53 G) 53 (upd G 12 A)) (by rw [sa_at, sa_at]; exact r1) hc
  unfold F_X2_die F_X9_dies
  rw [if_neg (isC4 hc), ek]
  generalize F_X9_knotsOf (sa (sa t 53 G) 53 (upd ((sa t 53 G).2.1 53) 12 (((sa t 53 G).2.1 53) 12 ^^^ ((1 : Int32) <<< (c &&& 31))))) c = v
  unfold F_X2_die_k38_3 F_X9_dies_k23_2
  rw [sa_sa, sa_sa, sa_at, sa_at, f1, l1, g12, ← eA, upd_upd]
  have f0 : f 0 = G 13 := row_at hr 0 (by decide)
  have es : (if (f 0 + v) < (9999 : Int32) then (f 0 + v) else (9999 : Int32)) = (if (G 13 + v) ≤ (9999 : Int32) then (G 13 + v) else (9999 : Int32)) := by
    rw [f0]
    by_cases q : (G 13 + v) < (9999 : Int32)
    · rw [if_pos q, if_pos (Int32.le_iff_toInt_le.mpr (by have := i_lt q; omega))]
    · rw [if_neg q]
      by_cases q2 : (G 13 + v) ≤ (9999 : Int32)
      · rw [if_pos q2]
        exact i32e (by have := i_nlt q; have := i_le q2; omega)
      · rw [if_neg q2]
  rw [es]
  generalize (if (G 13 + v) ≤ (9999 : Int32) then (G 13 + v) else (9999 : Int32)) = S
  have r2 : RRow (upd (upd f 1 A) 0 S) (upd (upd G 12 A) 13 S) 0 0 := RRow.upd (k := 0) r1 (by decide)
  have i1 : IM (upd g 12 A) 0 := IM.upd hi (fun _ _ e => absurd e (by omega)) (fun _ _ e => absurd e (by omega)) (fun _ _ e => absurd e (by omega)) (fun _ => ⟨l2, fun d hd q => by have := hi.2.2.2.2.2.2.2 d hd; rw [Nat.zero_add, Nat.zero_add] at this; exact this (l4 d hd q)⟩) (fun _ _ e => absurd e (by omega)) (fun _ _ e => absurd e (by omega)) (fun _ _ e => absurd e (by omega))
  have i2 : IM (upd (upd g 12 A) 13 S) 0 := IM.upd i1 (fun _ _ e => absurd e (by omega)) (fun _ _ e => absurd e (by omega)) (fun _ _ e => absurd e (by omega)) (fun e => absurd e (by omega)) (fun _ _ e => absurd e (by omega)) (fun _ _ e => absurd e (by omega)) (fun _ _ e => absurd e (by omega))
  have i3 : IM (upd (upd (upd g 12 A) 13 S) ((8 : Int32) + c).toNatClampNeg d) 0 := I_dry i2 hc hd (fun q => absurd (by rw [pk_un (by decide), pk_us]; exact l3) q)
  have eq3 : upd (upd G 12 A) 13 S = upd (upd (upd g 12 A) 13 S) ((8 : Int32) + c).toNatClampNeg d := by
    rw [eG, upd_comm g d A (by omega), upd_comm (upd g 12 A) d S (by omega)]
  obtain ⟨f', g', h1, h2, h3, h4, h5⟩ := die_loop (sa s 27 f) (sa t 53 G) s t c v v hc 7 0 _ _ (by decide) r2 (by rw [eq3]; exact i3)
  refine ⟨f', g', h1, h2, h3, h4, fun k hk => ?_⟩
  rw [h5 k hk, pk_un (by omega), pk_un (by omega), eG, pk_un (by omega)]
def goR (a1 a2 a3 : Int32) (u : St) (e : Int32) : Int32 × St :=
  let g1 := upd (upd (u.2.1 53) ((4 : Int32) + a1).toNatClampNeg (((u.2.1 53) ((4 : Int32) + a1).toNatClampNeg) - a3)) a1.toNatClampNeg e
  let t := ((u.2.1 50) ((26 : Int32) + a2).toNatClampNeg) - a3
  let g2 := upd g1 ((8 : Int32) + a1).toNatClampNeg ((g1 ((8 : Int32) + a1).toNatClampNeg) + t)
  let ix := (((14 : Int32) + ((6 : Int32) * a1)) + ((u.2.1 50) ((42 : Int32) + a2).toNatClampNeg)).toNatClampNeg
  if (g2 ((8 : Int32) + a1).toNatClampNeg) ≤ ((u.2.1 50) ((50 : Int32) + a1).toNatClampNeg) then (if 0 ≤ ((g2 ix) - (F_X9_paid (sa u 53 g2) a2 t)) then ((1 : Int32), (sa u 53 (upd g2 ix ((g2 ix) - (F_X9_paid (sa u 53 g2) a2 t))))) else ((1 : Int32), (sa u 53 (upd g2 ix (0 : Int32))))) else ((0 : Int32), F_X9_dies (sa u 53 g2) a1)
theorem goR_12 (τ : St) (a1 a2 a3 : Int32) (u : St) : F_X9_goes_k113_12 τ a1 a2 a3 u = goR a1 a2 a3 u (if (if ((τ.2.1 53) a1.toNatClampNeg) = ((τ.2.1 50) ((10 : Int32) + a2).toNatClampNeg) then (1 : Int32) else (0 : Int32)) = 0 then ((u.2.1 50) ((10 : Int32) + a2).toNatClampNeg) else ((u.2.1 50) ((18 : Int32) + a2).toNatClampNeg)) := rfl
theorem goR_24 (τ : St) (a1 a2 a3 : Int32) (u : St) : F_X9_goes_k113_24 τ a1 a2 a3 u = goR a1 a2 a3 u (if (if ((τ.2.1 53) a1.toNatClampNeg) = ((τ.2.1 50) ((10 : Int32) + a2).toNatClampNeg) then (1 : Int32) else (0 : Int32)) = 0 then ((u.2.1 50) ((10 : Int32) + a2).toNatClampNeg) else ((u.2.1 50) ((18 : Int32) + a2).toNatClampNeg)) := rfl
theorem paid_eq {σ τ : St} (h : RR σ τ) {s : Int32} (hs : 0 ≤ s.toInt ∧ s.toInt < (τ.2.1 50 1).toInt) (t : Int32) : F_X4_paidBy σ s t = F_X9_paid τ s t := by
  have q8 := T_lt8 h hs
  have tn := (T_stg h hs).2.2.2.1.2
  have tl := (T_stg h hs).2.2.2.2.2
  have tb := h.2.1.2.2.2.2.2.2 s.toInt.toNat (by omega)
  unfold F_X4_paidBy F_X9_paid
  rw [T_night h hs, T_lender h hs, ix1 (K := 34) (k := 34) rfl (by omega) (by decide), ix1 (K := 42) (k := 42) rfl (by omega) (by decide)]
  rcases b01_cases tn with e | e
  · rw [e]; rfl
  · rw [e]
    obtain ⟨r1, r2⟩ := T_refuses h (w := τ.2.1 50 (42 + s.toInt.toNat)) ⟨tb.2.2.1, tl⟩
    rw [r1]
    rcases b01_cases r2 with e2 | e2 <;> rw [e2] <;> rfl
theorem go_main {σ τ : St} (h : RR σ τ) {a1 a2 a3 e : Int32} (hc : 0 ≤ a1.toInt ∧ a1.toInt < (τ.2.1 50 2).toInt) (hs : 0 ≤ a2.toInt ∧ a2.toInt < (τ.2.1 50 1).toInt) (ha : 0 ≤ a3.toInt ∧ a3.toInt ≤ 9) (al : ¬ F_X9_isAlive τ a1 = 0) (cu : ¬ ((τ.2.1 53) ((4 : Int32) + a1).toNatClampNeg) < a3) (ht : a3 ≤ ((τ.2.1 50) ((26 : Int32) + a2).toNatClampNeg)) (he : bd e 0 5) (hoe : F_X4_otherEnd σ a2 (F_X2_placeOf σ a1) = e) :
    (F_X8_goes_k104_9 σ a1 a2 a3 (F_X1_remember σ)).1 = (goR a1 a2 a3 (F_X9_keeps τ) e).1 ∧ RR (F_X8_goes_k104_9 σ a1 a2 a3 (F_X1_remember σ)).2 (goR a1 a2 a3 (F_X9_keeps τ) e).2 := by
  have L := h.2.2.1
  have hi := L.2.1
  have h4 : 0 ≤ a1.toInt ∧ a1.toInt < 4 := ⟨hc.1, by have := h.2.1.2.2.1.2.2; omega⟩
  obtain ⟨P, U, G, e1, e2, L2, gk⟩ := KR L
  rw [e1, e2]
  obtain ⟨s1, es1⟩ : ∃ s1, s1 = si (sa σ 28 P) 802 U := ⟨_, rfl⟩
  rw [← es1]
  have r2 : RRow (s1.2.1 27) G 0 0 := by rw [es1]; exact L2.1
  have i4 := ix1 (K := 4) (x := a1) (k := 4) rfl (by omega) (by decide)
  have i8 := ix1 (K := 8) (x := a1) (k := 8) rfl (by omega) (by decide)
  have ic : a1.toNatClampNeg = a1.toInt.toNat := rfl
  obtain ⟨v, ev⟩ : ∃ v, v = G ((4 : Int32) + a1).toNatClampNeg - a3 := ⟨_, rfl⟩
  obtain ⟨f1, ef1⟩ : ∃ f1, f1 = upd (s1.2.1 27) ((6 : Int32) + a1).toNatClampNeg v := ⟨_, rfl⟩
  have sc : F_X2_setCups s1 a1 ((F_X2_cupsOf s1 a1) - a3) = sa s1 27 f1 := by
    unfold F_X2_setCups
    rw [if_neg (isC4 h4), G_cups r2 h4, ← ev, ef1]
  obtain ⟨f2, ef2⟩ : ∃ f2, f2 = upd f1 ((2 : Int32) + a1).toNatClampNeg e := ⟨_, rfl⟩
  have sp : F_X2_setPlace (sa s1 27 f1) a1 e = sa s1 27 f2 := by
    unfold F_X2_setPlace
    rw [if_neg (isC4 h4), sa_at, sa_sa, ef2]
  obtain ⟨g1, eg1⟩ : ∃ g1, g1 = upd (upd G ((4 : Int32) + a1).toNatClampNeg v) a1.toNatClampNeg e := ⟨_, rfl⟩
  have r4 : RRow f2 g1 0 0 := by rw [ef2, ef1, eg1]; exact U_place (U_cups r2 h4) h4
  have hh : F_X4_heatOf s1 a2 = τ.2.1 50 ((26 : Int32) + a2).toNatClampNeg := by rw [es1]; exact T_heat h hs
  obtain ⟨t, et⟩ : ∃ t, t = τ.2.1 50 ((26 : Int32) + a2).toNatClampNeg - a3 := ⟨_, rfl⟩
  obtain ⟨d, ed⟩ : ∃ d, d = g1 ((8 : Int32) + a1).toNatClampNeg + t := ⟨_, rfl⟩
  obtain ⟨f3, ef3⟩ : ∃ f3, f3 = upd f2 ((10 : Int32) + a1).toNatClampNeg d := ⟨_, rfl⟩
  have sd : F_X2_setDry (sa s1 27 f2) a1 ((F_X2_dryOf (sa s1 27 f2) a1) + t) = sa s1 27 f3 := by
    unfold F_X2_setDry
    rw [if_neg (isC4 h4), G_dry (σ := sa s1 27 f2) (by rw [sa_at]; exact r4) h4, sa_at, sa_sa, ← ed, ef3]
  obtain ⟨g2, eg2⟩ : ∃ g2, g2 = upd g1 ((8 : Int32) + a1).toNatClampNeg d := ⟨_, rfl⟩
  have r5 : RRow f3 g2 0 0 := by rw [ef3, eg2]; exact U_dry r4 h4
  -- numbers
  have q8 := T_lt8 h hs
  have hb9 := (T_stg h hs).2.2.1.2
  rw [← ix1 (K := 26) (k := 26) rfl (by omega) (by decide)] at hb9
  have ht2 := i_le ht
  have cu2 := i_nlt cu
  have tv : t.toInt = (τ.2.1 50 ((26 : Int32) + a2).toNatClampNeg).toInt - a3.toInt := by rw [et]; exact ti_of (oI_sub (oI_at _) (oI_at _)) (by omega)
  have c20 := D_cups hi h4
  have g4 : G ((4 : Int32) + a1).toNatClampNeg = τ.2.1 53 ((4 : Int32) + a1).toNatClampNeg := gk _ (by omega)
  have vv : v.toInt = (τ.2.1 53 ((4 : Int32) + a1).toNatClampNeg).toInt - a3.toInt := by rw [ev, g4]; exact ti_of (oI_sub (oI_at _) (oI_at _)) (by omega)
  have im1 : IM g1 0 := by rw [eg1]; exact I_place (I_cups L2.2.1 h4 ⟨by omega, by omega⟩) h4 he
  have g12 : g1 12 = τ.2.1 53 12 := by rw [eg1, pk_un (by omega), pk_un (by omega), gk 12 (by decide)]
  have al1 : ¬ F_X9_has (g1 12) a1 = 0 := by rw [g12]; exact al
  have dr0 := D_dry im1 h4
  have dr20 := D_dryA im1 h4 al1
  have dv : d.toInt = (g1 ((8 : Int32) + a1).toNatClampNeg).toInt + t.toInt := by rw [ed]; exact ti_of (oI_add (oI_at _) (oI_at _)) (by omega)
  have hd29 : bd d 0 29 := ⟨by omega, by omega⟩
  have k74 : ∀ k, 74 ≤ k → g2 k = G k := fun k hk => by rw [eg2, pk_un (by omega), eg1, pk_un (by omega), pk_un (by omega)]
  unfold F_X8_goes_k104_9 F_X8_goes_k130_11 F_X8_goes_k138_13 F_X8_goes_k153_15
  rw [sc, hoe, sp, hh, ← et, sd]
  have gr : goR a1 a2 a3 (sa τ 53 G) e = if (g2 ((8 : Int32) + a1).toNatClampNeg) ≤ ((τ.2.1 50) ((50 : Int32) + a1).toNatClampNeg) then (if 0 ≤ ((g2 (((14 : Int32) + ((6 : Int32) * a1)) + ((τ.2.1 50) ((42 : Int32) + a2).toNatClampNeg)).toNatClampNeg) - (F_X9_paid τ a2 t)) then ((1 : Int32), (sa τ 53 (upd g2 (((14 : Int32) + ((6 : Int32) * a1)) + ((τ.2.1 50) ((42 : Int32) + a2).toNatClampNeg)).toNatClampNeg ((g2 (((14 : Int32) + ((6 : Int32) * a1)) + ((τ.2.1 50) ((42 : Int32) + a2).toNatClampNeg)).toNatClampNeg) - (F_X9_paid τ a2 t))))) else ((1 : Int32), (sa τ 53 (upd g2 (((14 : Int32) + ((6 : Int32) * a1)) + ((τ.2.1 50) ((42 : Int32) + a2).toNatClampNeg)).toNatClampNeg (0 : Int32))))) else ((0 : Int32), F_X9_dies (sa τ 53 g2) a1) := by
    have p50 : (sa τ 53 G).2.1 50 = τ.2.1 50 := rfl
    unfold goR
    simp only [sa_at, p50, sa_sa]
    rw [← ev, ← eg1, ← et, ← ed, ← eg2]
    rfl
  rw [gr, G_dry (σ := sa s1 27 f3) (by rw [sa_at]; exact r5) h4]
  have hbe : F_X4_bearsOf (sa s1 27 f3) a1 = (τ.2.1 50) ((50 : Int32) + a1).toNatClampNeg := by rw [es1]; exact (T_bears h hc).1
  rw [hbe]
  have hbb := (T_bears h hc).2
  have g2d : g2 ((8 : Int32) + a1).toNatClampNeg = d := by rw [eg2, pk_us]
  by_cases c : (g2 ((8 : Int32) + a1).toNatClampNeg) ≤ ((τ.2.1 50) ((50 : Int32) + a1).toNatClampNeg)
  · rw [if_pos c, if_pos c]
    have c' := i_le c
    rw [g2d] at c'
    have im2 : IM g2 0 := by rw [eg2]; exact I_dry im1 h4 hd29 (fun _ => by omega)
    have tb := (h.2.1.2.2.2.2.2.2 a2.toInt.toNat (by omega)).2.2
    rw [← ix1 (K := 42) (k := 42) rfl (by omega) (by decide)] at tb
    have hle : F_X4_lenderOf (sa s1 27 f3) a2 = (τ.2.1 50) ((42 : Int32) + a2).toNatClampNeg := by rw [es1]; exact T_lender h hs
    have hw : 0 ≤ ((τ.2.1 50) ((42 : Int32) + a2).toNatClampNeg).toInt ∧ ((τ.2.1 50) ((42 : Int32) + a2).toNatClampNeg).toInt < 6 := ⟨tb.1, by have := tb.2; omega⟩
    have hpd : F_X4_paidBy (sa s1 27 f3) a2 t = F_X9_paid τ a2 t := by rw [es1]; exact paid_eq h hs t
    rw [hle, hpd, G_knots (σ := sa s1 27 f3) (by rw [sa_at]; exact r5) h4 hw]
    have kb := D_knots im2 h4 hw
    have pb : 0 ≤ (F_X9_paid τ a2 t).toInt ∧ (F_X9_paid τ a2 t).toInt ≤ 9 := by
      have t0 : 0 ≤ t.toInt ∧ t.toInt ≤ 9 := by omega
      have t2 : 0 ≤ (t / (2 : Int32)).toInt ∧ (t / (2 : Int32)).toInt ≤ 9 := by
        have e5 := nI_self t0.1
        have tab : ∀ k, k < 10 → 0 ≤ (nI k / (2 : Int32)).toInt ∧ (nI k / (2 : Int32)).toInt ≤ 9 := by decide +kernel
        rw [e5]
        exact tab t.toInt.toNat (by omega)
      unfold F_X9_paid
      exact ite_b _ (ite_b _ t0 t2) (by decide)
    have le : ((g2 (((14 : Int32) + ((6 : Int32) * a1)) + ((τ.2.1 50) ((42 : Int32) + a2).toNatClampNeg)).toNatClampNeg) - (F_X9_paid τ a2 t)).toInt = (g2 (((14 : Int32) + ((6 : Int32) * a1)) + ((τ.2.1 50) ((42 : Int32) + a2).toNatClampNeg)).toNatClampNeg).toInt - (F_X9_paid τ a2 t).toInt := ti_of (oI_sub (oI_at _) (oI_at _)) (by omega)
    generalize hl : (g2 (((14 : Int32) + ((6 : Int32) * a1)) + ((τ.2.1 50) ((42 : Int32) + a2).toNatClampNeg)).toNatClampNeg) - (F_X9_paid τ a2 t) = l at le ⊢
    have fin : ∀ w : Int32, bd w 0 99 → RR (F_X2_setKnots (sa s1 27 f3) a1 ((τ.2.1 50) ((42 : Int32) + a2).toNatClampNeg) w) (sa τ 53 (upd g2 (((14 : Int32) + ((6 : Int32) * a1)) + ((τ.2.1 50) ((42 : Int32) + a2).toNatClampNeg)).toNatClampNeg w)) := by
      intro w hw9
      unfold F_X2_setKnots
      rw [if_neg (isC4 h4), if_neg (isW6 hw), sa_at, sa_sa, es1]
      refine RR.deed h (LG.new L2 (U_knots r5 h4 hw) (I_knots im2 h4 hw hw9) (fun k hk => ?_))
      rw [pk_un (by have := L_knots _ _ h4 hw; omega), k74 k hk]
    by_cases z : 0 ≤ l
    · rw [if_pos z]
      have z' := i_le z
      rw [z32] at z'
      refine ⟨rfl, ?_⟩
      have el : (if (0 : Int32) < l then l else (0 : Int32)) = l := by
        by_cases y : (0 : Int32) < l
        · rw [if_pos y]
        · rw [if_neg y]
          exact i32e (by have := i_nlt y; rw [z32] at this ⊢; omega)
      rw [el]
      exact fin l ⟨by omega, by omega⟩
    · rw [if_neg z]
      have z' := i_nle z
      rw [z32] at z'
      refine ⟨rfl, ?_⟩
      rw [if_neg (fun y => by have := i_lt y; rw [z32] at this; omega)]
      exact fin 0 (by decide)
  · rw [if_neg c, if_neg c]
    obtain ⟨f', g', d1, d2, d3, d4, d5⟩ := die_eq s1 τ h4 (by rw [← eg2]; exact r5) im1 hd29 al1
    rw [← eg2] at d2
    unfold F_X8_goes_k176_20
    rw [d1, d2]
    refine ⟨rfl, ?_⟩
    rw [es1]
    refine RR.deed h (LG.new L2 d3 d4 (fun k hk => ?_))
    rw [d5 k hk]
    have := k74 k hk
    rw [eg2, pk_un (by omega)] at this
    exact this
theorem ne9 {x : Int32} (h : bd x 0 5) : ¬ x = ((-9) : Int32) := fun e => by
  have := i_eq e
  have e9 : ((-9) : Int32).toInt = -9 := rfl
  omega
theorem s_goes : St_goes RR := by
  intro σ τ a1 a2 a3 h
  have L := h.2.2.1
  have hi := L.2.1
  have plen : ∀ x : Int32, 0 ≤ x.toInt → x.toInt < 8 → 0 ≤ ((τ.2.1 50) ((42 : Int32) + x).toNatClampNeg).toInt ∧ ((τ.2.1 50) ((42 : Int32) + x).toNatClampNeg).toInt ≤ 5 := fun x q1 q2 => by
    rw [ix1 (K := 42) (k := 42) rfl (by omega) (by decide)]
    exact (h.2.1.2.2.2.2.2.2 x.toInt.toNat (by omega)).2.2
  refine ⟨L.2.2.2.1, ⟨h.2.1.2.1.2, h.2.1.2.2.1.2, R_74 h, plen⟩, ?_⟩
  unfold F_X8_goes F_X9_goes
  rw [F_in_eq]
  rcases R_c h a1 with ⟨c1, c2⟩ | ⟨c1, c2, c3, c4, c5⟩
  · rw [if_pos c1, if_pos c2]; exact ⟨rfl, h⟩
  · rw [if_neg c1, if_neg c2]
    rcases R_s h a2 with ⟨b1, b2⟩ | ⟨b1, b2, b3, b4, b5⟩
    · rw [if_pos b1, if_pos b2]; exact ⟨rfl, h⟩
    · rw [if_neg b1, if_neg b2]
      by_cases d : F_X9_in a3 0 9 = 0
      · rw [if_pos d, if_pos d]; exact ⟨rfl, h⟩
      · rw [if_neg d, if_neg d]
        have db := fz_in d
        have d9 : (9 : Int32).toInt = 9 := rfl
        rw [z32] at db
        have r := R_row h
        have hc : 0 ≤ a1.toInt ∧ a1.toInt < 4 := ⟨c3, c5⟩
        have hs : 0 ≤ a2.toInt ∧ a2.toInt < (τ.2.1 50 1).toInt := ⟨b3, b4⟩
        have al1 : F_X2_isAlive σ a1 = F_X9_isAlive τ a1 := G_isAlive r hc
        rw [al1]
        by_cases al : F_X9_isAlive τ a1 = 0
        · rw [if_pos al, if_pos al]; exact ⟨rfl, h⟩
        · rw [if_neg al, if_neg al, G_cups r hc, T_heat h hs]
          have b8 := h.2.1.2.2.2.2.2.2 a2.toInt.toNat (by omega)
          have bf := b8.1
          have bt := b8.2.1
          rw [← ix1 (K := 10) (k := 10) rfl (by omega) (by decide)] at bf
          rw [← ix1 (K := 18) (k := 18) rfl (by omega) (by decide)] at bt
          have oe : F_X4_otherEnd σ a2 (F_X2_placeOf σ a1) = (if (τ.2.1 50 ((10 : Int32) + a2).toNatClampNeg) = (τ.2.1 53 a1.toNatClampNeg) then (τ.2.1 50 ((18 : Int32) + a2).toNatClampNeg) else (if (τ.2.1 50 ((18 : Int32) + a2).toNatClampNeg) = (τ.2.1 53 a1.toNatClampNeg) then (τ.2.1 50 ((10 : Int32) + a2).toNatClampNeg) else ((-9) : Int32))) := by
            unfold F_X4_otherEnd
            rw [T_first h hs, T_second h hs, G_place r hc]
          by_cases f1 : (τ.2.1 53 a1.toNatClampNeg) = (τ.2.1 50 ((10 : Int32) + a2).toNatClampNeg)
          · have oe2 := oe
            rw [if_pos f1.symm] at oe2
            rw [oe2, if_neg (ne9 bt), if_pos f1, if_neg (show ¬ (1 : Int32) = 0 by decide)]
            by_cases cu : ((τ.2.1 53) ((4 : Int32) + a1).toNatClampNeg) < a3
            · rw [if_pos cu, if_pos cu]; exact ⟨rfl, h⟩
            · rw [if_neg cu, if_neg cu]
              by_cases ht : a3 ≤ ((τ.2.1 50) ((26 : Int32) + a2).toNatClampNeg)
              · rw [if_pos ht, if_pos ht, goR_12, if_pos f1, if_neg (show ¬ (1 : Int32) = 0 by decide)]
                have k50 : (F_X9_keeps τ).2.1 50 = τ.2.1 50 := (fr_F_X9_keeps τ).2.1 50 (by decide)
                rw [k50]
                exact go_main h ⟨c3, c4⟩ hs (by omega) al cu ht bt oe2
              · rw [if_neg ht, if_neg ht]; exact ⟨rfl, h⟩
          · have oe2 := oe
            rw [if_neg (fun q => f1 q.symm)] at oe2
            rw [if_neg f1, if_pos (rfl : (0 : Int32) = 0)]
            by_cases f2 : (τ.2.1 53 a1.toNatClampNeg) = (τ.2.1 50 ((18 : Int32) + a2).toNatClampNeg)
            · rw [if_pos f2.symm] at oe2
              rw [oe2, if_neg (ne9 bf), if_pos f2]
              by_cases cu : ((τ.2.1 53) ((4 : Int32) + a1).toNatClampNeg) < a3
              · rw [if_pos cu, if_pos cu]; exact ⟨rfl, h⟩
              · rw [if_neg cu, if_neg cu]
                by_cases ht : a3 ≤ ((τ.2.1 50) ((26 : Int32) + a2).toNatClampNeg)
                · rw [if_pos ht, if_pos ht, goR_24, if_neg f1, if_pos (rfl : (0 : Int32) = 0)]
                  have k50 : (F_X9_keeps τ).2.1 50 = τ.2.1 50 := (fr_F_X9_keeps τ).2.1 50 (by decide)
                  rw [k50]
                  exact go_main h ⟨c3, c4⟩ hs (by omega) al cu ht bf oe2
                · rw [if_neg ht, if_neg ht]; exact ⟨rfl, h⟩
            · rw [if_neg (fun q => f2 q.symm)] at oe2
              rw [oe2, if_pos rfl, if_neg f2]
              exact ⟨rfl, h⟩
