theorem dec_b {x : Int32} {n : Nat} (h : 0 ≤ x.toInt ∧ x.toInt ≤ 7 ∧ x.toInt + 1 ≤ n) : -1 ≤ (x + ((-1) : Int32)).toInt ∧ (x + ((-1) : Int32)).toInt ≤ 7 ∧ (x + ((-1) : Int32)).toInt + 2 ≤ n := by
  rw [ti_of (oI_add (oI_at x) (oI_lit (x := (-1)) (a := (-1)) rfl)) (by omega)]
  omega
def F_X9_pass_d271_37 (lf101 : Int32 → (Int32 × St)) (lf160 : Int32 → Int32 → (Int32 × St)) (τ : St) (a1 : Int32) (a2 : Int32) (a3 : Int32) (u6 : St) (x6_101 : Int32) (x8_160 : Int32) (x7_160 : Int32) (w20 : Int32) (w31 : Int32) (w36 : Int32) : Int32 × St := (lf160 (x8_160 + ((-1) : Int32)) w36)
def F_X9_pass_d217_32 (lf101 : Int32 → (Int32 × St)) (lf160 : Int32 → Int32 → (Int32 × St)) (τ : St) (a1 : Int32) (a2 : Int32) (a3 : Int32) (u6 : St) (x6_101 : Int32) (x8_160 : Int32) (x7_160 : Int32) (w20 : Int32) (w31 : Int32) : Int32 × St := (F_X9_pass_d271_37 lf101 lf160 τ a1 a2 a3 u6 x6_101 x8_160 x7_160 w20 w31 (if w31 = 0 then x7_160 else x8_160))
def F_X9_pass_d197_21 (lf101 : Int32 → (Int32 × St)) (lf160 : Int32 → Int32 → (Int32 × St)) (τ : St) (a1 : Int32) (a2 : Int32) (a3 : Int32) (u6 : St) (x6_101 : Int32) (x8_160 : Int32) (x7_160 : Int32) (w20 : Int32) : Int32 × St := (F_X9_pass_d217_32 lf101 lf160 τ a1 a2 a3 u6 x6_101 x8_160 x7_160 w20 (if ((u6.2.1 50) ((10 : Int32) + x8_160).toNatClampNeg) = ((u6.2.1 53) a1.toNatClampNeg) then (if ((((u6.2.1 50) ((50 : Int32) + a1).toNatClampNeg) - ((u6.2.1 53) ((8 : Int32) + a1).toNatClampNeg)) + ((u6.2.1 53) ((4 : Int32) + a1).toNatClampNeg)) < (((u6.2.1 50) ((26 : Int32) + x8_160).toNatClampNeg) + ((u6.2.1 60) (((6 : Int32) * (x6_101 - (1 : Int32))) + w20).toNatClampNeg)) then (0 : Int32) else (1 : Int32)) else (if ((u6.2.1 50) ((18 : Int32) + x8_160).toNatClampNeg) = ((u6.2.1 53) a1.toNatClampNeg) then (if ((((u6.2.1 50) ((50 : Int32) + a1).toNatClampNeg) - ((u6.2.1 53) ((8 : Int32) + a1).toNatClampNeg)) + ((u6.2.1 53) ((4 : Int32) + a1).toNatClampNeg)) < (((u6.2.1 50) ((26 : Int32) + x8_160).toNatClampNeg) + ((u6.2.1 60) (((6 : Int32) * (x6_101 - (1 : Int32))) + w20).toNatClampNeg)) then (0 : Int32) else (1 : Int32)) else (0 : Int32))))
def F_X9_pass_L160 (lf101 : Int32 → (Int32 × St)) : Nat → St → Int32 → Int32 → Int32 → St → Int32 → Int32 → Int32 → Int32 × St
  | 0, τ, _, _, _, _, _, _, _ => (0, τ)
  | n + 1, τ, a1, a2, a3, u6, x6_101, x8_160, x7_160 => (if x8_160 < 0 then (if a3 = 0 then (x6_101, u6) else (if a3 = (1 : Int32) then (x7_160, u6) else ((if ((u6.2.1 50) ((26 : Int32) + x7_160).toNatClampNeg) ≤ (((u6.2.1 50) ((50 : Int32) + a1).toNatClampNeg) - ((u6.2.1 53) ((8 : Int32) + a1).toNatClampNeg)) then (0 : Int32) else (((u6.2.1 50) ((26 : Int32) + x7_160).toNatClampNeg) - (((u6.2.1 50) ((50 : Int32) + a1).toNatClampNeg) - ((u6.2.1 53) ((8 : Int32) + a1).toNatClampNeg)))), u6))) else (F_X9_pass_d197_21 lf101 (fun y1 y2 => F_X9_pass_L160 lf101 n τ a1 a2 a3 u6 x6_101 y1 y2) τ a1 a2 a3 u6 x6_101 x8_160 x7_160 (if ((u6.2.1 50) ((10 : Int32) + x8_160).toNatClampNeg) = ((u6.2.1 53) a1.toNatClampNeg) then ((u6.2.1 50) ((18 : Int32) + x8_160).toNatClampNeg) else ((u6.2.1 50) ((10 : Int32) + x8_160).toNatClampNeg))))
def F_X9_pass_J136 (lf101 : Int32 → (Int32 × St)) (τ : St) (a1 : Int32) (a2 : Int32) (a3 : Int32) (u6 : St) (x6_101 : Int32) : Int32 × St := (if x6_101 = (7 : Int32) then (((-9) : Int32), u6) else (F_X9_pass_L160 lf101 9 τ a1 a2 a3 u6 x6_101 (((u6.2.1 50) 1) - (1 : Int32)) ((-9) : Int32)))
def F_X9_pass_L101 : Nat → St → Int32 → Int32 → Int32 → St → Int32 → Int32 × St
  | 0, τ, _, _, _, _, _ => (0, τ)
  | n + 1, τ, a1, a2, a3, u6, x6_101 => (if (7 : Int32) ≤ x6_101 then ((F_X9_pass_J136 (fun y1 => F_X9_pass_L101  n τ a1 a2 a3 u6 y1) τ a1 a2 a3 u6 x6_101) ) else (if ((u6.2.1 60) (((6 : Int32) * x6_101) + ((u6.2.1 53) a1.toNatClampNeg)).toNatClampNeg) ≤ ((((u6.2.1 50) ((50 : Int32) + a1).toNatClampNeg) - ((u6.2.1 53) ((8 : Int32) + a1).toNatClampNeg)) + ((u6.2.1 53) ((4 : Int32) + a1).toNatClampNeg)) then ((F_X9_pass_J136 (fun y1 => F_X9_pass_L101  n τ a1 a2 a3 u6 y1) τ a1 a2 a3 u6 x6_101) ) else (F_X9_pass_L101  n τ a1 a2 a3 u6 (x6_101 + (1 : Int32)))))
def F_X9_pass_k61_7 (τ : St) (a1 : Int32) (a2 : Int32) (a3 : Int32) (u6 : St) : Int32 × St := (F_X9_pass_L101  7 τ a1 a2 a3 u6 (1 : Int32))
def F_X9_pass (τ : St) (a1 : Int32) (a2 : Int32) (a3 : Int32) : Int32 × St := (if (F_X9_isCaravan τ a1) = 0 then (((-1) : Int32), τ) else (if (F_X9_isWell τ a2) = 0 then (((-1) : Int32), τ) else (if (F_X9_in a3 (0 : Int32) (2 : Int32)) = 0 then (((-1) : Int32), τ) else (if (F_X9_isAlive τ a1) = 0 then (((-2) : Int32), τ) else (if ((τ.2.1 53) a1.toNatClampNeg) = a2 then (if a3 = 0 then ((0 : Int32), τ) else (((-9) : Int32), τ)) else (F_X9_pass_k61_7 τ a1 a2 a3 (F_X9_reckons τ a2)))))))
abbrev I_X9_pass : List Nat := []
abbrev A_X9_pass : List Nat := [60]
theorem fr_F_X9_pass_d271_37 (lf101 : Int32 → (Int32 × St)) (lf160 : Int32 → Int32 → (Int32 × St)) (τ : St) (a1 : Int32) (a2 : Int32) (a3 : Int32) (u6 : St) (x6_101 : Int32) (x8_160 : Int32) (x7_160 : Int32) (w20 : Int32) (w31 : Int32) (w36 : Int32) (hlf101 : ∀ (y1 : Int32), Fr I_X9_pass A_X9_pass false τ (lf101 y1).2) (hlf160 : ∀ (y1 : Int32) (y2 : Int32), Fr I_X9_pass A_X9_pass false τ (lf160 y1 y2).2) (hfr : Fr I_X9_pass A_X9_pass false τ (u6)) : Fr I_X9_pass A_X9_pass false τ (F_X9_pass_d271_37 lf101 lf160 τ a1 a2 a3 u6 x6_101 x8_160 x7_160 w20 w31 w36).2 := (hlf160 (x8_160 + ((-1) : Int32)) w36 )
theorem fr_F_X9_pass_d217_32 (lf101 : Int32 → (Int32 × St)) (lf160 : Int32 → Int32 → (Int32 × St)) (τ : St) (a1 : Int32) (a2 : Int32) (a3 : Int32) (u6 : St) (x6_101 : Int32) (x8_160 : Int32) (x7_160 : Int32) (w20 : Int32) (w31 : Int32) (hlf101 : ∀ (y1 : Int32), Fr I_X9_pass A_X9_pass false τ (lf101 y1).2) (hlf160 : ∀ (y1 : Int32) (y2 : Int32), Fr I_X9_pass A_X9_pass false τ (lf160 y1 y2).2) (hfr : Fr I_X9_pass A_X9_pass false τ (u6)) : Fr I_X9_pass A_X9_pass false τ (F_X9_pass_d217_32 lf101 lf160 τ a1 a2 a3 u6 x6_101 x8_160 x7_160 w20 w31).2 := (fr_F_X9_pass_d271_37 lf101 lf160 τ a1 a2 a3 u6 x6_101 x8_160 x7_160 w20 w31 (if w31 = 0 then x7_160 else x8_160) hlf101 hlf160 hfr)
theorem fr_F_X9_pass_d197_21 (lf101 : Int32 → (Int32 × St)) (lf160 : Int32 → Int32 → (Int32 × St)) (τ : St) (a1 : Int32) (a2 : Int32) (a3 : Int32) (u6 : St) (x6_101 : Int32) (x8_160 : Int32) (x7_160 : Int32) (w20 : Int32) (hlf101 : ∀ (y1 : Int32), Fr I_X9_pass A_X9_pass false τ (lf101 y1).2) (hlf160 : ∀ (y1 : Int32) (y2 : Int32), Fr I_X9_pass A_X9_pass false τ (lf160 y1 y2).2) (hfr : Fr I_X9_pass A_X9_pass false τ (u6)) : Fr I_X9_pass A_X9_pass false τ (F_X9_pass_d197_21 lf101 lf160 τ a1 a2 a3 u6 x6_101 x8_160 x7_160 w20).2 := (fr_F_X9_pass_d217_32 lf101 lf160 τ a1 a2 a3 u6 x6_101 x8_160 x7_160 w20 (if ((u6.2.1 50) ((10 : Int32) + x8_160).toNatClampNeg) = ((u6.2.1 53) a1.toNatClampNeg) then (if ((((u6.2.1 50) ((50 : Int32) + a1).toNatClampNeg) - ((u6.2.1 53) ((8 : Int32) + a1).toNatClampNeg)) + ((u6.2.1 53) ((4 : Int32) + a1).toNatClampNeg)) < (((u6.2.1 50) ((26 : Int32) + x8_160).toNatClampNeg) + ((u6.2.1 60) (((6 : Int32) * (x6_101 - (1 : Int32))) + w20).toNatClampNeg)) then (0 : Int32) else (1 : Int32)) else (if ((u6.2.1 50) ((18 : Int32) + x8_160).toNatClampNeg) = ((u6.2.1 53) a1.toNatClampNeg) then (if ((((u6.2.1 50) ((50 : Int32) + a1).toNatClampNeg) - ((u6.2.1 53) ((8 : Int32) + a1).toNatClampNeg)) + ((u6.2.1 53) ((4 : Int32) + a1).toNatClampNeg)) < (((u6.2.1 50) ((26 : Int32) + x8_160).toNatClampNeg) + ((u6.2.1 60) (((6 : Int32) * (x6_101 - (1 : Int32))) + w20).toNatClampNeg)) then (0 : Int32) else (1 : Int32)) else (0 : Int32))) hlf101 hlf160 hfr)
theorem fr_F_X9_pass_L160_w (lf101 : Int32 → (Int32 × St)) (τ : St) (a1 : Int32) (a2 : Int32) (a3 : Int32) (u6 : St) (x6_101 : Int32) (hlf101 : ∀ (y1 : Int32), Fr I_X9_pass A_X9_pass false τ (lf101 y1).2) (hfr : Fr I_X9_pass A_X9_pass false τ (u6)) : ∀ (n : Nat) (x8_160 : Int32) (x7_160 : Int32), Fr I_X9_pass A_X9_pass false τ (F_X9_pass_L160 lf101 n τ a1 a2 a3 u6 x6_101 x8_160 x7_160).2
  | 0, x8_160, x7_160 => Fr.rf
  | n + 1, x8_160, x7_160 => (fr_ite2 (fr_ite2 hfr (fr_ite2 hfr hfr)) (fr_F_X9_pass_d197_21 lf101 (fun y1 y2 => F_X9_pass_L160 lf101 n τ a1 a2 a3 u6 x6_101 y1 y2) τ a1 a2 a3 u6 x6_101 x8_160 x7_160 (if ((u6.2.1 50) ((10 : Int32) + x8_160).toNatClampNeg) = ((u6.2.1 53) a1.toNatClampNeg) then ((u6.2.1 50) ((18 : Int32) + x8_160).toNatClampNeg) else ((u6.2.1 50) ((10 : Int32) + x8_160).toNatClampNeg)) hlf101 (fun y1 y2 => fr_F_X9_pass_L160_w lf101 τ a1 a2 a3 u6 x6_101 hlf101 hfr n y1 y2) hfr))
theorem fr_F_X9_pass_L160 (lf101 : Int32 → (Int32 × St)) (n : Nat) (τ : St) (a1 : Int32) (a2 : Int32) (a3 : Int32) (u6 : St) (x6_101 : Int32) (x8_160 : Int32) (x7_160 : Int32) (hlf101 : ∀ (y1 : Int32), Fr I_X9_pass A_X9_pass false τ (lf101 y1).2) (hfr : Fr I_X9_pass A_X9_pass false τ (u6)) : Fr I_X9_pass A_X9_pass false τ (F_X9_pass_L160 lf101 n τ a1 a2 a3 u6 x6_101 x8_160 x7_160).2 := fr_F_X9_pass_L160_w lf101 τ a1 a2 a3 u6 x6_101 hlf101 hfr n x8_160 x7_160
theorem fr_F_X9_pass_J136 (lf101 : Int32 → (Int32 × St)) (τ : St) (a1 : Int32) (a2 : Int32) (a3 : Int32) (u6 : St) (x6_101 : Int32) (hlf101 : ∀ (y1 : Int32), Fr I_X9_pass A_X9_pass false τ (lf101 y1).2) (hfr : Fr I_X9_pass A_X9_pass false τ (u6)) : Fr I_X9_pass A_X9_pass false τ (F_X9_pass_J136 lf101 τ a1 a2 a3 u6 x6_101).2 := (fr_ite2 hfr (fr_F_X9_pass_L160 lf101 9 τ a1 a2 a3 u6 x6_101 (((u6.2.1 50) 1) - (1 : Int32)) ((-9) : Int32) hlf101 hfr))
theorem fr_F_X9_pass_L101_w (τ : St) (a1 : Int32) (a2 : Int32) (a3 : Int32) (u6 : St) (hfr : Fr I_X9_pass A_X9_pass false τ (u6)) : ∀ (n : Nat) (x6_101 : Int32), Fr I_X9_pass A_X9_pass false τ (F_X9_pass_L101  n τ a1 a2 a3 u6 x6_101).2
  | 0, x6_101 => Fr.rf
  | n + 1, x6_101 => (fr_ite2 ((fr_F_X9_pass_J136 (fun y1 => F_X9_pass_L101  n τ a1 a2 a3 u6 y1) τ a1 a2 a3 u6 x6_101 (fun y1 => fr_F_X9_pass_L101_w  τ a1 a2 a3 u6  hfr n y1) hfr)  ) (fr_ite2 ((fr_F_X9_pass_J136 (fun y1 => F_X9_pass_L101  n τ a1 a2 a3 u6 y1) τ a1 a2 a3 u6 x6_101 (fun y1 => fr_F_X9_pass_L101_w  τ a1 a2 a3 u6  hfr n y1) hfr)  ) ((fun y1 => fr_F_X9_pass_L101_w  τ a1 a2 a3 u6  hfr n y1) (x6_101 + (1 : Int32)) )))
theorem fr_F_X9_pass_L101 (n : Nat) (τ : St) (a1 : Int32) (a2 : Int32) (a3 : Int32) (u6 : St) (x6_101 : Int32) (hfr : Fr I_X9_pass A_X9_pass false τ (u6)) : Fr I_X9_pass A_X9_pass false τ (F_X9_pass_L101  n τ a1 a2 a3 u6 x6_101).2 := fr_F_X9_pass_L101_w  τ a1 a2 a3 u6  hfr n x6_101
theorem fr_F_X9_pass_k61_7 (τ : St) (a1 : Int32) (a2 : Int32) (a3 : Int32) (u6 : St) (hfr : Fr I_X9_pass A_X9_pass false τ (u6)) : Fr I_X9_pass A_X9_pass false τ (F_X9_pass_k61_7  τ a1 a2 a3 u6).2 := (fr_F_X9_pass_L101  7 τ a1 a2 a3 u6 (1 : Int32) hfr)
theorem fr_F_X9_pass (τ : St) (a1 : Int32) (a2 : Int32) (a3 : Int32) : Fr I_X9_pass A_X9_pass false τ (F_X9_pass τ a1 a2 a3).2 := (fr_ite2 Fr.rf (fr_ite2 Fr.rf (fr_ite2 Fr.rf (fr_ite2 Fr.rf (fr_ite2 (fr_ite2 Fr.rf Fr.rf) (fr_F_X9_pass_k61_7 τ a1 a2 a3 (F_X9_reckons τ a2) (Fr.tr Fr.rf (Fr.mono (by decide) (by decide) (by decide) (fr_F_X9_reckons τ a2)))))))))
set_option maxHeartbeats 4000000 in
set_option maxRecDepth 20000 in
theorem c_X9_pass (l : Launch) (D : va_G) (cI cZ : ClassId) (z : Nat) (ad : Nat → Nat) (σ τ : St) (a1 a2 a3 : Int32) (hw_ : 0 ≤ ((τ.2.1 50) 0).toInt ∧ ((τ.2.1 50) 0).toInt ≤ 6) (hs_ : 0 ≤ ((τ.2.1 50) 1).toInt ∧ ((τ.2.1 50) 1).toInt ≤ 8) (hc_ : 0 ≤ ((τ.2.1 50) 2).toInt ∧ ((τ.2.1 50) 2).toInt ≤ 4) (hp_ : ∀ x : Int32, 0 ≤ x.toInt → x.toInt < 4 → 0 ≤ ((τ.2.1 53) x.toNatClampNeg).toInt ∧ ((τ.2.1 53) x.toNatClampNeg).toInt ≤ 5) (hf_ : ∀ x : Int32, 0 ≤ x.toInt → x.toInt < 8 → 0 ≤ ((τ.2.1 50) ((10 : Int32) + x).toNatClampNeg).toInt ∧ ((τ.2.1 50) ((10 : Int32) + x).toNatClampNeg).toInt ≤ 5) (hto_ : ∀ x : Int32, 0 ≤ x.toInt → x.toInt < 8 → 0 ≤ ((τ.2.1 50) ((18 : Int32) + x).toNatClampNeg).toInt ∧ ((τ.2.1 50) ((18 : Int32) + x).toNatClampNeg).toInt ≤ 5) : gM l yX9_pass cX9_pass 13 (some .int) 3 D cI cZ z (gws ad cI cZ σ τ) [.ref (ad 48), .int a1, .int a2, .int a3] (some (.int (F_X9_pass τ a1 a2 a3).1)) (gws ad cI cZ σ (F_X9_pass τ a1 a2 a3).2) := by
  refine g_met (own := RX9) (by decide) rfl (Nat.le_of_ble_eq_true rfl) (fun p e s m below meth c ls Q E hr hlk h hl hQ => ?_)
  have hx := E.1
  have hb := E.2.1
  have hF : (F_X9_pass τ a1 a2 a3) = (F_X9_pass τ a1 a2 a3) := rfl
  have hl : lv_has ls 13 [(0, .ref (ad 48)), (1, .int a1), (2, .int a2), (3, .int a3)] := hl
  refine lv_aload_n hx hb dX9_pass_0 rfl (lv_at hl 0 rfl) ?_
  refine lv_iload_n hx hb dX9_pass_1 rfl (lv_at hl 1 rfl) ?_
  refine g_callVi (rest := []) E h (c_X9_isCaravan l D cI cZ z ad σ τ a1) mw_907 cbX9_isCaravan 48 rfl rfl ⟨by decide, by decide⟩ rfl rfl hl.1 (Nat.le_of_ble_eq_true rfl) ⟨Nat.zero_le _, Nat.zero_le _⟩ dX9_pass_2 (fun H locs h => ?_)
  refine lv_if_eq (tgt := 25) hx hb dX9_pass_5 (by decide) (fun c1 => ?_) (fun c1 => ?_)
  · have ic1 : (F_X9_isCaravan τ a1).toInt = 0 := i_eq c1
    have hF := (if_pos c1).symm.trans hF
    refine lv_iconst (v := (-1)) hx hb dX9_pass_25 (by decide) ?_
    exact g_iret E hr hlk h hQ (fst_of hF) (snd_of hF (fun u => gws ad cI cZ σ u)) dX9_pass_26
  · have ic1 : (F_X9_isCaravan τ a1).toInt ≠ 0 := i_ne c1
    have jc1 := (fun c => fz9_isCaravan c (by omega)) c1
    have hF := (if_neg c1).symm.trans hF
    refine lv_aload_n hx hb dX9_pass_8 rfl (lv_at hl 0 rfl) ?_
    refine lv_iload_n hx hb dX9_pass_9 rfl (lv_at hl 2 rfl) ?_
    refine g_callVi (rest := []) E h (c_X9_isWell l D cI cZ z ad σ τ a2) mw_926 cbX9_isWell 48 rfl rfl ⟨by decide, by decide⟩ rfl rfl hl.1 (Nat.le_of_ble_eq_true rfl) ⟨Nat.zero_le _, Nat.zero_le _⟩ dX9_pass_10 (fun H locs h => ?_)
    refine lv_if_eq (tgt := 25) hx hb dX9_pass_13 (by decide) (fun c2 => ?_) (fun c2 => ?_)
    · have ic2 : (F_X9_isWell τ a2).toInt = 0 := i_eq c2
      have hF := (if_pos c2).symm.trans hF
      refine lv_iconst (v := (-1)) hx hb dX9_pass_25 (by decide) ?_
      exact g_iret E hr hlk h hQ (fst_of hF) (snd_of hF (fun u => gws ad cI cZ σ u)) dX9_pass_26
    · have ic2 : (F_X9_isWell τ a2).toInt ≠ 0 := i_ne c2
      have jc2 := (fun c => fz9_isWell c (by omega)) c2
      have hF := (if_neg c2).symm.trans hF
      refine lv_iload_n hx hb dX9_pass_16 rfl (lv_at hl 3 rfl) ?_
      refine lv_iconst (v := 0) hx hb dX9_pass_17 (by decide) ?_
      refine lv_iconst (v := 2) hx hb dX9_pass_18 (by decide) ?_
      refine g_callSi (rest := []) E h (c_X9_in l D cI cZ z (gws ad cI cZ σ τ) a3 (0 : Int32) (2 : Int32)) mw_789 cbX9_in ⟨by decide, by decide⟩ rfl rfl hl.1 (Nat.le_of_ble_eq_true rfl) ⟨Nat.zero_le _, Nat.zero_le _⟩ dX9_pass_19 (fun H locs h => ?_)
      refine lv_if_ne (tgt := 27) hx hb dX9_pass_22 (by decide) (fun c3 => ?_) (fun c3 => ?_)
      · have ic3 : (F_X9_in a3 (0 : Int32) (2 : Int32)).toInt ≠ 0 := i_ne c3
        have jc3 : 0 ≤ a3.toInt ∧ a3.toInt ≤ 2 := fz_in c3
        have hF := (if_neg c3).symm.trans hF
        refine lv_aload_n hx hb dX9_pass_27 rfl (lv_at hl 0 rfl) ?_
        refine lv_iload_n hx hb dX9_pass_28 rfl (lv_at hl 1 rfl) ?_
        refine g_callVi (rest := []) E h (c_X9_isAlive l D cI cZ z ad σ τ a1) mw_911 cbX9_isAlive 48 rfl rfl ⟨by decide, by decide⟩ rfl rfl hl.1 (Nat.le_of_ble_eq_true rfl) ⟨Nat.zero_le _, Nat.zero_le _⟩ dX9_pass_29 (fun H locs h => ?_)
        refine lv_if_ne (tgt := 38) hx hb dX9_pass_32 (by decide) (fun c4 => ?_) (fun c4 => ?_)
        · have ic4 : (F_X9_isAlive τ a1).toInt ≠ 0 := i_ne c4
          have hF := (if_neg c4).symm.trans hF
          refine lv_aload_n hx hb dX9_pass_38 rfl (lv_at hl 0 rfl) ?_
          refine g_get (v := .ref (ad 53)) E h 48 rfl rfl layX9 6 (by decide) rfl mw_825 rfl dX9_pass_39 ?_
          refine lv_iload_n hx hb dX9_pass_42 rfl (lv_at hl 1 rfl) ?_
          refine g_iald (f := (τ.2.1 53)) E h 53 rfl (ix_of (oI_at a1) (by omega) (by decide)) dX9_pass_43 ?_
          refine lv_iload_n hx hb dX9_pass_44 rfl (lv_at hl 2 rfl) ?_
          refine lv_icmp_ne (tgt := 59) hx hb dX9_pass_45 (by decide) (fun c5 => ?_) (fun c5 => ?_)
          · have ic5 : ((τ.2.1 53) a1.toNatClampNeg).toInt ≠ a2.toInt := i_ne c5
            have hF := (if_neg c5).symm.trans hF
            refine lv_aload_n hx hb dX9_pass_59 rfl (lv_at hl 0 rfl) ?_
            refine lv_iload_n hx hb dX9_pass_60 rfl (lv_at hl 2 rfl) ?_
            refine g_callVUv (F_X9_reckons τ a2) (fun u => gws ad cI cZ σ u) (rest := []) E h (c_X9_reckons l D cI cZ z ad σ τ a2 (show 0 ≤ a2.toInt ∧ a2.toInt < 6 from by omega) (show 0 ≤ ((τ.2.1 50) 1).toInt ∧ ((τ.2.1 50) 1).toInt ≤ 8 from by omega) (show ∀ x : Int32, 0 ≤ x.toInt → x.toInt < 8 → 0 ≤ ((τ.2.1 50) ((10 : Int32) + x).toNatClampNeg).toInt ∧ ((τ.2.1 50) ((10 : Int32) + x).toNatClampNeg).toInt ≤ 5 from by omega) (show ∀ x : Int32, 0 ≤ x.toInt → x.toInt < 8 → 0 ≤ ((τ.2.1 50) ((18 : Int32) + x).toNatClampNeg).toInt ∧ ((τ.2.1 50) ((18 : Int32) + x).toNatClampNeg).toInt ≤ 5 from by omega)) mw_1026 cbX9_reckons 48 rfl rfl ⟨by decide, by decide⟩ rfl rfl hl.1 (Nat.le_of_ble_eq_true rfl) ⟨Nat.zero_le _, Nat.zero_le _⟩ dX9_pass_61 (fun u6 huu6 H locs h => ?_)
            have hF : F_X9_pass_k61_7 τ a1 a2 a3 u6 = (F_X9_pass τ a1 a2 a3) := by rw [← huu6]; exact hF
            have k50 : u6.2.1 50 = τ.2.1 50 := by rw [← huu6]; exact (fr_F_X9_reckons τ a2).2.1 50 (by decide)
            have k53 : u6.2.1 53 = τ.2.1 53 := by rw [← huu6]; exact (fr_F_X9_reckons τ a2).2.1 53 (by decide)
            have hp1 : 0 ≤ ((u6.2.1 53) a1.toNatClampNeg).toInt ∧ ((u6.2.1 53) a1.toNatClampNeg).toInt ≤ 5 := by rw [k53]; exact hp_ a1 (by omega) (by omega)
            have hs1 : 0 ≤ ((u6.2.1 50) 1).toInt ∧ ((u6.2.1 50) 1).toInt ≤ 8 := by rw [k50]; exact hs_
            have hf1 := hf_
            rw [← k50] at hf1
            have ht1 := hto_
            rw [← k50] at ht1
            refine lv_aload_n hx hb dX9_pass_64 rfl (lv_at hl 0 rfl) ?_
            refine g_get (v := .ref (ad 50)) E h 48 rfl rfl layX9 3 (by decide) rfl mw_822 rfl dX9_pass_65 ?_
            refine lv_bipush (v := 50) hx hb dX9_pass_68 (by decide) ?_
            refine lv_iload_n hx hb dX9_pass_70 rfl (lv_at hl 1 rfl) ?_
            refine lv_iadd hx hb dX9_pass_71 ?_
            refine g_iald (f := (u6.2.1 50)) E h 50 rfl (ix_of (oI_add (oI_lit (x := 50) (a := 50) rfl) (oI_at a1)) (by omega) (by decide)) dX9_pass_72 ?_
            refine lv_aload_n hx hb dX9_pass_73 rfl (lv_at hl 0 rfl) ?_
            refine g_get (v := .ref (ad 53)) E h 48 rfl rfl layX9 6 (by decide) rfl mw_825 rfl dX9_pass_74 ?_
            refine lv_bipush (v := 8) hx hb dX9_pass_77 (by decide) ?_
            refine lv_iload_n hx hb dX9_pass_79 rfl (lv_at hl 1 rfl) ?_
            refine lv_iadd hx hb dX9_pass_80 ?_
            refine g_iald (f := (u6.2.1 53)) E h 53 rfl (ix_of (oI_add (oI_lit (x := 8) (a := 8) rfl) (oI_at a1)) (by omega) (by decide)) dX9_pass_81 ?_
            refine lv_isub hx hb dX9_pass_82 ?_
            refine lv_istore (lv' := [(4, .int (((u6.2.1 50) ((50 : Int32) + a1).toNatClampNeg) - ((u6.2.1 53) ((8 : Int32) + a1).toNatClampNeg))), (0, .ref (ad 48)), (1, .int a1), (2, .int a2), (3, .int a3)]) hx hb dX9_pass_83 hl (by decide) rfl (fun ls hl => ?_)
            refine lv_iload hx hb dX9_pass_85 (lv_at hl 0 rfl) ?_
            refine lv_aload_n hx hb dX9_pass_87 rfl (lv_at hl 1 rfl) ?_
            refine g_get (v := .ref (ad 53)) E h 48 rfl rfl layX9 6 (by decide) rfl mw_825 rfl dX9_pass_88 ?_
            refine lv_iconst (v := 4) hx hb dX9_pass_91 (by decide) ?_
            refine lv_iload_n hx hb dX9_pass_92 rfl (lv_at hl 2 rfl) ?_
            refine lv_iadd hx hb dX9_pass_93 ?_
            refine g_iald (f := (u6.2.1 53)) E h 53 rfl (ix_of (oI_add (oI_lit (x := 4) (a := 4) rfl) (oI_at a1)) (by omega) (by decide)) dX9_pass_94 ?_
            refine lv_iadd hx hb dX9_pass_95 ?_
            refine lv_istore (lv' := [(5, .int ((((u6.2.1 50) ((50 : Int32) + a1).toNatClampNeg) - ((u6.2.1 53) ((8 : Int32) + a1).toNatClampNeg)) + ((u6.2.1 53) ((4 : Int32) + a1).toNatClampNeg))), (4, .int (((u6.2.1 50) ((50 : Int32) + a1).toNatClampNeg) - ((u6.2.1 53) ((8 : Int32) + a1).toNatClampNeg))), (0, .ref (ad 48)), (1, .int a1), (2, .int a2), (3, .int a3)]) hx hb dX9_pass_96 hl (by decide) rfl (fun ls hl => ?_)
            refine lv_iconst (v := 1) hx hb dX9_pass_98 (by decide) ?_
            refine lv_istore (lv' := [(6, .int (1 : Int32)), (5, .int ((((u6.2.1 50) ((50 : Int32) + a1).toNatClampNeg) - ((u6.2.1 53) ((8 : Int32) + a1).toNatClampNeg)) + ((u6.2.1 53) ((4 : Int32) + a1).toNatClampNeg))), (4, .int (((u6.2.1 50) ((50 : Int32) + a1).toNatClampNeg) - ((u6.2.1 53) ((8 : Int32) + a1).toNatClampNeg))), (0, .ref (ad 48)), (1, .int a1), (2, .int a2), (3, .int a3)]) hx hb dX9_pass_99 hl (by decide) rfl (fun ls hl => ?_)
            have L101 : ∀ (n101 : Nat) (x6_101 : Int32) (H : Heap) (locs : List Loc) (ls : Array Slot), (1 ≤ x6_101.toInt ∧ x6_101.toInt ≤ 7 ∧ x6_101.toInt + n101 = 8) → F_X9_pass_L101  n101 τ a1 a2 a3 u6 x6_101 = (F_X9_pass τ a1 a2 a3) → gH D z s (gws ad cI cZ σ u6) H locs → lv_has ls 13 [(6, .int x6_101), (5, .int ((((u6.2.1 50) ((50 : Int32) + a1).toNatClampNeg) - ((u6.2.1 53) ((8 : Int32) + a1).toNatClampNeg)) + ((u6.2.1 53) ((4 : Int32) + a1).toNatClampNeg))), (4, .int (((u6.2.1 50) ((50 : Int32) + a1).toNatClampNeg) - ((u6.2.1 53) ((8 : Int32) + a1).toNatClampNeg))), (0, .ref (ad 48)), (1, .int a1), (2, .int a2), (3, .int a3)] → W p l e (rmH 3) s m ([.ref (ad 48), .int a1, .int a2, .int a3] : List Value).toArray below meth c H locs 0 0 Q (F0 m 101 ls []) := by
              clear hF h hl
              intro n101
              induction n101 with
              | zero =>
                intro x6_101 H locs ls hI
                exact absurd hI (by omega)
              | succ n101 ih101 =>
                intro x6_101 H locs ls hI101 hF h hl
                have J136 : ∀ (H : Heap) (locs : List Loc) (ls : Array Slot), (True) → F_X9_pass_J136 (fun y1 => F_X9_pass_L101  n101 τ a1 a2 a3 u6 y1) τ a1 a2 a3 u6 x6_101  = (F_X9_pass τ a1 a2 a3) → gH D z s (gws ad cI cZ σ u6) H locs → lv_has ls 13 [(6, .int x6_101), (5, .int ((((u6.2.1 50) ((50 : Int32) + a1).toNatClampNeg) - ((u6.2.1 53) ((8 : Int32) + a1).toNatClampNeg)) + ((u6.2.1 53) ((4 : Int32) + a1).toNatClampNeg))), (4, .int (((u6.2.1 50) ((50 : Int32) + a1).toNatClampNeg) - ((u6.2.1 53) ((8 : Int32) + a1).toNatClampNeg))), (0, .ref (ad 48)), (1, .int a1), (2, .int a2), (3, .int a3)] → W p l e (rmH 3) s m ([.ref (ad 48), .int a1, .int a2, .int a3] : List Value).toArray below meth c H locs 0 0 Q (F0 m 136 ls []) := by
                  clear hF h hl
                  intro  H locs ls hJ136 hF h hl
                  refine lv_iload hx hb dX9_pass_136 (lv_at hl 0 rfl) ?_
                  refine lv_bipush (v := 7) hx hb dX9_pass_138 (by decide) ?_
                  refine lv_icmp_ne (tgt := 146) hx hb dX9_pass_140 (by decide) (fun c9 => ?_) (fun c9 => ?_)
                  · have ic9 : x6_101.toInt ≠ 7 := i_ne c9
                    have hF := (if_neg c9).symm.trans hF
                    refine lv_bipush (v := (-9)) hx hb dX9_pass_146 (by decide) ?_
                    refine lv_istore (lv' := [(7, .int ((-9) : Int32)), (6, .int x6_101), (5, .int ((((u6.2.1 50) ((50 : Int32) + a1).toNatClampNeg) - ((u6.2.1 53) ((8 : Int32) + a1).toNatClampNeg)) + ((u6.2.1 53) ((4 : Int32) + a1).toNatClampNeg))), (4, .int (((u6.2.1 50) ((50 : Int32) + a1).toNatClampNeg) - ((u6.2.1 53) ((8 : Int32) + a1).toNatClampNeg))), (0, .ref (ad 48)), (1, .int a1), (2, .int a2), (3, .int a3)]) hx hb dX9_pass_148 hl (by decide) rfl (fun ls hl => ?_)
                    refine lv_aload_n hx hb dX9_pass_150 rfl (lv_at hl 4 rfl) ?_
                    refine g_get (v := .ref (ad 50)) E h 48 rfl rfl layX9 3 (by decide) rfl mw_822 rfl dX9_pass_151 ?_
                    refine lv_iconst (v := 1) hx hb dX9_pass_154 (by decide) ?_
                    refine g_ialdk (f := (u6.2.1 50)) E h 50 rfl 1 rfl (ix_of (oI_lit (x := 1) (a := 1) rfl) (by omega) (by decide)) dX9_pass_155 ?_
                    refine lv_iconst (v := 1) hx hb dX9_pass_156 (by decide) ?_
                    refine lv_isub hx hb dX9_pass_157 ?_
                    refine lv_istore (lv' := [(8, .int (((u6.2.1 50) 1) - (1 : Int32))), (7, .int ((-9) : Int32)), (6, .int x6_101), (5, .int ((((u6.2.1 50) ((50 : Int32) + a1).toNatClampNeg) - ((u6.2.1 53) ((8 : Int32) + a1).toNatClampNeg)) + ((u6.2.1 53) ((4 : Int32) + a1).toNatClampNeg))), (4, .int (((u6.2.1 50) ((50 : Int32) + a1).toNatClampNeg) - ((u6.2.1 53) ((8 : Int32) + a1).toNatClampNeg))), (0, .ref (ad 48)), (1, .int a1), (2, .int a2), (3, .int a3)]) hx hb dX9_pass_158 hl (by decide) rfl (fun ls hl => ?_)
                    have L160 : ∀ (n160 : Nat) (x8_160 : Int32) (x7_160 : Int32) (H : Heap) (locs : List Loc) (ls : Array Slot), (-1 ≤ x8_160.toInt ∧ x8_160.toInt ≤ 7 ∧ x8_160.toInt + 2 ≤ n160 ∧ -9 ≤ x7_160.toInt ∧ x7_160.toInt ≤ 7) → F_X9_pass_L160 (fun y1 => F_X9_pass_L101  n101 τ a1 a2 a3 u6 y1) n160 τ a1 a2 a3 u6 x6_101 x8_160 x7_160 = (F_X9_pass τ a1 a2 a3) → gH D z s (gws ad cI cZ σ u6) H locs → lv_has ls 13 [(8, .int x8_160), (7, .int x7_160), (6, .int x6_101), (5, .int ((((u6.2.1 50) ((50 : Int32) + a1).toNatClampNeg) - ((u6.2.1 53) ((8 : Int32) + a1).toNatClampNeg)) + ((u6.2.1 53) ((4 : Int32) + a1).toNatClampNeg))), (4, .int (((u6.2.1 50) ((50 : Int32) + a1).toNatClampNeg) - ((u6.2.1 53) ((8 : Int32) + a1).toNatClampNeg))), (0, .ref (ad 48)), (1, .int a1), (2, .int a2), (3, .int a3)] → W p l e (rmH 3) s m ([.ref (ad 48), .int a1, .int a2, .int a3] : List Value).toArray below meth c H locs 0 0 Q (F0 m 160 ls []) := by
                      clear hF h hl
                      intro n160
                      induction n160 with
                      | zero =>
                        intro x8_160 x7_160 H locs ls hI
                        exact absurd hI (by omega)
                      | succ n160 ih160 =>
                        intro x8_160 x7_160 H locs ls hI160 hF h hl
                        refine lv_iload hx hb dX9_pass_160 (lv_at hl 0 rfl) ?_
                        refine lv_if_lt (tgt := 289) hx hb dX9_pass_162 (by decide) (fun c11 => ?_) (fun c11 => ?_)
                        · have ic11 : x8_160.toInt < 0 := i_lt c11
                          have hF := (if_pos c11).symm.trans hF
                          refine lv_aload_n hx hb dX9_pass_289 rfl (lv_at hl 5 rfl) ?_
                          refine g_get (v := .ref (ad 50)) E h 48 rfl rfl layX9 3 (by decide) rfl mw_822 rfl dX9_pass_290 ?_
                          refine lv_bipush (v := 26) hx hb dX9_pass_293 (by decide) ?_
                          refine lv_iload hx hb dX9_pass_295 (lv_at hl 1 rfl) ?_
                          refine lv_iadd hx hb dX9_pass_297 ?_
                          refine g_iald (f := (u6.2.1 50)) E h 50 rfl (ix_of (oI_add (oI_lit (x := 26) (a := 26) rfl) (oI_at x7_160)) (by omega) (by decide)) dX9_pass_298 ?_
                          refine lv_iload hx hb dX9_pass_299 (lv_at hl 4 rfl) ?_
                          refine g_dia (D := D) (z := z) (ws := gws ad cI cZ σ u6) (rest := []) 321 (if ((u6.2.1 50) ((26 : Int32) + x7_160).toNatClampNeg) ≤ (((u6.2.1 50) ((50 : Int32) + a1).toNatClampNeg) - ((u6.2.1 53) ((8 : Int32) + a1).toNatClampNeg)) then (0 : Int32) else (((u6.2.1 50) ((26 : Int32) + x7_160).toNatClampNeg) - (((u6.2.1 50) ((50 : Int32) + a1).toNatClampNeg) - ((u6.2.1 53) ((8 : Int32) + a1).toNatClampNeg)))) (fun H locs h => ?_) (fun K13 => ?_)
                          · refine lv_istore (lv' := [(8, .int (if ((u6.2.1 50) ((26 : Int32) + x7_160).toNatClampNeg) ≤ (((u6.2.1 50) ((50 : Int32) + a1).toNatClampNeg) - ((u6.2.1 53) ((8 : Int32) + a1).toNatClampNeg)) then (0 : Int32) else (((u6.2.1 50) ((26 : Int32) + x7_160).toNatClampNeg) - (((u6.2.1 50) ((50 : Int32) + a1).toNatClampNeg) - ((u6.2.1 53) ((8 : Int32) + a1).toNatClampNeg))))), (7, .int x7_160), (6, .int x6_101), (5, .int ((((u6.2.1 50) ((50 : Int32) + a1).toNatClampNeg) - ((u6.2.1 53) ((8 : Int32) + a1).toNatClampNeg)) + ((u6.2.1 53) ((4 : Int32) + a1).toNatClampNeg))), (4, .int (((u6.2.1 50) ((50 : Int32) + a1).toNatClampNeg) - ((u6.2.1 53) ((8 : Int32) + a1).toNatClampNeg))), (0, .ref (ad 48)), (1, .int a1), (2, .int a2), (3, .int a3)]) hx hb dX9_pass_321 hl (by decide) rfl (fun ls hl => ?_)
                            refine lv_iload_n hx hb dX9_pass_323 rfl (lv_at hl 8 rfl) ?_
                            refine lv_if_ne (tgt := 332) hx hb dX9_pass_324 (by decide) (fun c15 => ?_) (fun c15 => ?_)
                            · have ic15 : a3.toInt ≠ 0 := i_ne c15
                              have hF := (if_neg c15).symm.trans hF
                              refine lv_iload_n hx hb dX9_pass_332 rfl (lv_at hl 8 rfl) ?_
                              refine lv_iconst (v := 1) hx hb dX9_pass_333 (by decide) ?_
                              refine lv_icmp_ne (tgt := 342) hx hb dX9_pass_334 (by decide) (fun c16 => ?_) (fun c16 => ?_)
                              · have ic16 : a3.toInt ≠ 1 := i_ne c16
                                have hF := (if_neg c16).symm.trans hF
                                refine lv_iload hx hb dX9_pass_342 (lv_at hl 0 rfl) ?_
                                exact g_iret E hr hlk h hQ (fst_of hF) (snd_of hF (fun u => gws ad cI cZ σ u)) dX9_pass_344
                              · have ic16 : a3.toInt = 1 := i_eq c16
                                have hF := (if_pos c16).symm.trans hF
                                refine lv_iload hx hb dX9_pass_337 (lv_at hl 1 rfl) ?_
                                refine lv_goto (tgt := 344) hx hb dX9_pass_339 (by decide) ?_
                                exact g_iret E hr hlk h hQ (fst_of hF) (snd_of hF (fun u => gws ad cI cZ σ u)) dX9_pass_344
                            · have ic15 : a3.toInt = 0 := i_eq c15
                              have hF := (if_pos c15).symm.trans hF
                              refine lv_iload hx hb dX9_pass_327 (lv_at hl 2 rfl) ?_
                              refine lv_goto (tgt := 344) hx hb dX9_pass_329 (by decide) ?_
                              exact g_iret E hr hlk h hQ (fst_of hF) (snd_of hF (fun u => gws ad cI cZ σ u)) dX9_pass_344
                          · refine lv_icmp_le (tgt := 320) hx hb dX9_pass_301 (by decide) (fun c14 => ?_) (fun c14 => ?_)
                            · have ic14 : ((u6.2.1 50) ((26 : Int32) + x7_160).toNatClampNeg).toInt ≤ (((u6.2.1 50) ((50 : Int32) + a1).toNatClampNeg) - ((u6.2.1 53) ((8 : Int32) + a1).toNatClampNeg)).toInt := i_le c14
                              refine lv_iconst (v := 0) hx hb dX9_pass_320 (by decide) ?_
                              exact K13 _ _ _ ((if_pos c14).symm) h
                            · have ic14 : (((u6.2.1 50) ((50 : Int32) + a1).toNatClampNeg) - ((u6.2.1 53) ((8 : Int32) + a1).toNatClampNeg)).toInt < ((u6.2.1 50) ((26 : Int32) + x7_160).toNatClampNeg).toInt := i_nle c14
                              refine lv_aload_n hx hb dX9_pass_304 rfl (lv_at hl 5 rfl) ?_
                              refine g_get (v := .ref (ad 50)) E h 48 rfl rfl layX9 3 (by decide) rfl mw_822 rfl dX9_pass_305 ?_
                              refine lv_bipush (v := 26) hx hb dX9_pass_308 (by decide) ?_
                              refine lv_iload hx hb dX9_pass_310 (lv_at hl 1 rfl) ?_
                              refine lv_iadd hx hb dX9_pass_312 ?_
                              refine g_iald (f := (u6.2.1 50)) E h 50 rfl (ix_of (oI_add (oI_lit (x := 26) (a := 26) rfl) (oI_at x7_160)) (by omega) (by decide)) dX9_pass_313 ?_
                              refine lv_iload hx hb dX9_pass_314 (lv_at hl 4 rfl) ?_
                              refine lv_isub hx hb dX9_pass_316 ?_
                              refine lv_goto (tgt := 321) hx hb dX9_pass_317 (by decide) ?_
                              exact K13 _ _ _ ((if_neg c14).symm) h
                        · have ic11 : 0 ≤ x8_160.toInt := i_nlt c11
                          have hF := (if_neg c11).symm.trans hF
                          have x8c : -9 ≤ x8_160.toInt ∧ x8_160.toInt ≤ 7 := by omega
                          have x7b : -9 ≤ x7_160.toInt ∧ x7_160.toInt ≤ 7 := by omega
                          have x8d : 0 ≤ x8_160.toInt ∧ x8_160.toInt ≤ 7 ∧ x8_160.toInt + 1 ≤ n160 := by omega
                          refine lv_aload_n hx hb dX9_pass_165 rfl (lv_at hl 5 rfl) ?_
                          refine g_get (v := .ref (ad 50)) E h 48 rfl rfl layX9 3 (by decide) rfl mw_822 rfl dX9_pass_166 ?_
                          refine lv_bipush (v := 10) hx hb dX9_pass_169 (by decide) ?_
                          refine lv_iload hx hb dX9_pass_171 (lv_at hl 0 rfl) ?_
                          refine lv_iadd hx hb dX9_pass_173 ?_
                          have hf2 := hf1 x8_160 (by omega) (by omega)
                          refine g_iald (f := (u6.2.1 50)) E h 50 rfl (ix_of (oI_add (oI_lit (x := 10) (a := 10) rfl) (oI_at x8_160)) (by omega) (by decide)) dX9_pass_174 ?_
                          refine lv_istore (lv' := [(9, .int ((u6.2.1 50) ((10 : Int32) + x8_160).toNatClampNeg)), (8, .int x8_160), (7, .int x7_160), (6, .int x6_101), (5, .int ((((u6.2.1 50) ((50 : Int32) + a1).toNatClampNeg) - ((u6.2.1 53) ((8 : Int32) + a1).toNatClampNeg)) + ((u6.2.1 53) ((4 : Int32) + a1).toNatClampNeg))), (4, .int (((u6.2.1 50) ((50 : Int32) + a1).toNatClampNeg) - ((u6.2.1 53) ((8 : Int32) + a1).toNatClampNeg))), (0, .ref (ad 48)), (1, .int a1), (2, .int a2), (3, .int a3)]) hx hb dX9_pass_175 hl (by decide) rfl (fun ls hl => ?_)
                          refine lv_aload_n hx hb dX9_pass_177 rfl (lv_at hl 6 rfl) ?_
                          refine g_get (v := .ref (ad 50)) E h 48 rfl rfl layX9 3 (by decide) rfl mw_822 rfl dX9_pass_178 ?_
                          refine lv_bipush (v := 18) hx hb dX9_pass_181 (by decide) ?_
                          refine lv_iload hx hb dX9_pass_183 (lv_at hl 1 rfl) ?_
                          refine lv_iadd hx hb dX9_pass_185 ?_
                          have ht2 := ht1 x8_160 (by omega) (by omega)
                          refine g_iald (f := (u6.2.1 50)) E h 50 rfl (ix_of (oI_add (oI_lit (x := 18) (a := 18) rfl) (oI_at x8_160)) (by omega) (by decide)) dX9_pass_186 ?_
                          refine lv_istore (lv' := [(10, .int ((u6.2.1 50) ((18 : Int32) + x8_160).toNatClampNeg)), (9, .int ((u6.2.1 50) ((10 : Int32) + x8_160).toNatClampNeg)), (8, .int x8_160), (7, .int x7_160), (6, .int x6_101), (5, .int ((((u6.2.1 50) ((50 : Int32) + a1).toNatClampNeg) - ((u6.2.1 53) ((8 : Int32) + a1).toNatClampNeg)) + ((u6.2.1 53) ((4 : Int32) + a1).toNatClampNeg))), (4, .int (((u6.2.1 50) ((50 : Int32) + a1).toNatClampNeg) - ((u6.2.1 53) ((8 : Int32) + a1).toNatClampNeg))), (0, .ref (ad 48)), (1, .int a1), (2, .int a2), (3, .int a3)]) hx hb dX9_pass_187 hl (by decide) rfl (fun ls hl => ?_)
                          refine lv_iload hx hb dX9_pass_189 (lv_at hl 1 rfl) ?_
                          refine lv_aload_n hx hb dX9_pass_191 rfl (lv_at hl 7 rfl) ?_
                          refine g_get (v := .ref (ad 53)) E h 48 rfl rfl layX9 6 (by decide) rfl mw_825 rfl dX9_pass_192 ?_
                          refine lv_iload_n hx hb dX9_pass_195 rfl (lv_at hl 8 rfl) ?_
                          refine g_iald (f := (u6.2.1 53)) E h 53 rfl (ix_of (oI_at a1) (by omega) (by decide)) dX9_pass_196 ?_
                          refine g_dia (D := D) (z := z) (ws := gws ad cI cZ σ u6) (rest := []) 207 (if ((u6.2.1 50) ((10 : Int32) + x8_160).toNatClampNeg) = ((u6.2.1 53) a1.toNatClampNeg) then ((u6.2.1 50) ((18 : Int32) + x8_160).toNatClampNeg) else ((u6.2.1 50) ((10 : Int32) + x8_160).toNatClampNeg)) (fun H locs h => ?_) (fun K18 => ?_)
                          · have hoth : 0 ≤ (if ((u6.2.1 50) ((10 : Int32) + x8_160).toNatClampNeg) = ((u6.2.1 53) a1.toNatClampNeg) then ((u6.2.1 50) ((18 : Int32) + x8_160).toNatClampNeg) else ((u6.2.1 50) ((10 : Int32) + x8_160).toNatClampNeg)).toInt ∧ (if ((u6.2.1 50) ((10 : Int32) + x8_160).toNatClampNeg) = ((u6.2.1 53) a1.toNatClampNeg) then ((u6.2.1 50) ((18 : Int32) + x8_160).toNatClampNeg) else ((u6.2.1 50) ((10 : Int32) + x8_160).toNatClampNeg)).toInt ≤ 5 := ite_b _ (by omega) (by omega)
                            have hF : F_X9_pass_d197_21 (fun y1 => F_X9_pass_L101  n101 τ a1 a2 a3 u6 y1) (fun y1 y2 => F_X9_pass_L160 (fun y1 => F_X9_pass_L101  n101 τ a1 a2 a3 u6 y1) n160 τ a1 a2 a3 u6 x6_101 y1 y2) τ a1 a2 a3 u6 x6_101 x8_160 x7_160 (if ((u6.2.1 50) ((10 : Int32) + x8_160).toNatClampNeg) = ((u6.2.1 53) a1.toNatClampNeg) then ((u6.2.1 50) ((18 : Int32) + x8_160).toNatClampNeg) else ((u6.2.1 50) ((10 : Int32) + x8_160).toNatClampNeg)) = (F_X9_pass τ a1 a2 a3) := hF
                            generalize hww20 : (if ((u6.2.1 50) ((10 : Int32) + x8_160).toNatClampNeg) = ((u6.2.1 53) a1.toNatClampNeg) then ((u6.2.1 50) ((18 : Int32) + x8_160).toNatClampNeg) else ((u6.2.1 50) ((10 : Int32) + x8_160).toNatClampNeg)) = w20 at hF hoth ⊢
                            refine lv_istore (lv' := [(11, .int w20), (10, .int ((u6.2.1 50) ((18 : Int32) + x8_160).toNatClampNeg)), (9, .int ((u6.2.1 50) ((10 : Int32) + x8_160).toNatClampNeg)), (8, .int x8_160), (7, .int x7_160), (6, .int x6_101), (5, .int ((((u6.2.1 50) ((50 : Int32) + a1).toNatClampNeg) - ((u6.2.1 53) ((8 : Int32) + a1).toNatClampNeg)) + ((u6.2.1 53) ((4 : Int32) + a1).toNatClampNeg))), (4, .int (((u6.2.1 50) ((50 : Int32) + a1).toNatClampNeg) - ((u6.2.1 53) ((8 : Int32) + a1).toNatClampNeg))), (0, .ref (ad 48)), (1, .int a1), (2, .int a2), (3, .int a3)]) hx hb dX9_pass_207 hl (by decide) rfl (fun ls hl => ?_)
                            refine lv_iload hx hb dX9_pass_209 (lv_at hl 2 rfl) ?_
                            refine lv_aload_n hx hb dX9_pass_211 rfl (lv_at hl 8 rfl) ?_
                            refine g_get (v := .ref (ad 53)) E h 48 rfl rfl layX9 6 (by decide) rfl mw_825 rfl dX9_pass_212 ?_
                            refine lv_iload_n hx hb dX9_pass_215 rfl (lv_at hl 9 rfl) ?_
                            refine g_iald (f := (u6.2.1 53)) E h 53 rfl (ix_of (oI_at a1) (by omega) (by decide)) dX9_pass_216 ?_
                            refine g_dia (D := D) (z := z) (ws := gws ad cI cZ σ u6) (rest := []) 267 (if ((u6.2.1 50) ((10 : Int32) + x8_160).toNatClampNeg) = ((u6.2.1 53) a1.toNatClampNeg) then (if ((((u6.2.1 50) ((50 : Int32) + a1).toNatClampNeg) - ((u6.2.1 53) ((8 : Int32) + a1).toNatClampNeg)) + ((u6.2.1 53) ((4 : Int32) + a1).toNatClampNeg)) < (((u6.2.1 50) ((26 : Int32) + x8_160).toNatClampNeg) + ((u6.2.1 60) (((6 : Int32) * (x6_101 - (1 : Int32))) + w20).toNatClampNeg)) then (0 : Int32) else (1 : Int32)) else (if ((u6.2.1 50) ((18 : Int32) + x8_160).toNatClampNeg) = ((u6.2.1 53) a1.toNatClampNeg) then (if ((((u6.2.1 50) ((50 : Int32) + a1).toNatClampNeg) - ((u6.2.1 53) ((8 : Int32) + a1).toNatClampNeg)) + ((u6.2.1 53) ((4 : Int32) + a1).toNatClampNeg)) < (((u6.2.1 50) ((26 : Int32) + x8_160).toNatClampNeg) + ((u6.2.1 60) (((6 : Int32) * (x6_101 - (1 : Int32))) + w20).toNatClampNeg)) then (0 : Int32) else (1 : Int32)) else (0 : Int32))) (fun H locs h => ?_) (fun K26 => ?_)
                            · have hF : F_X9_pass_d217_32 (fun y1 => F_X9_pass_L101  n101 τ a1 a2 a3 u6 y1) (fun y1 y2 => F_X9_pass_L160 (fun y1 => F_X9_pass_L101  n101 τ a1 a2 a3 u6 y1) n160 τ a1 a2 a3 u6 x6_101 y1 y2) τ a1 a2 a3 u6 x6_101 x8_160 x7_160 w20 (if ((u6.2.1 50) ((10 : Int32) + x8_160).toNatClampNeg) = ((u6.2.1 53) a1.toNatClampNeg) then (if ((((u6.2.1 50) ((50 : Int32) + a1).toNatClampNeg) - ((u6.2.1 53) ((8 : Int32) + a1).toNatClampNeg)) + ((u6.2.1 53) ((4 : Int32) + a1).toNatClampNeg)) < (((u6.2.1 50) ((26 : Int32) + x8_160).toNatClampNeg) + ((u6.2.1 60) (((6 : Int32) * (x6_101 - (1 : Int32))) + w20).toNatClampNeg)) then (0 : Int32) else (1 : Int32)) else (if ((u6.2.1 50) ((18 : Int32) + x8_160).toNatClampNeg) = ((u6.2.1 53) a1.toNatClampNeg) then (if ((((u6.2.1 50) ((50 : Int32) + a1).toNatClampNeg) - ((u6.2.1 53) ((8 : Int32) + a1).toNatClampNeg)) + ((u6.2.1 53) ((4 : Int32) + a1).toNatClampNeg)) < (((u6.2.1 50) ((26 : Int32) + x8_160).toNatClampNeg) + ((u6.2.1 60) (((6 : Int32) * (x6_101 - (1 : Int32))) + w20).toNatClampNeg)) then (0 : Int32) else (1 : Int32)) else (0 : Int32))) = (F_X9_pass τ a1 a2 a3) := hF
                              generalize hww31 : (if ((u6.2.1 50) ((10 : Int32) + x8_160).toNatClampNeg) = ((u6.2.1 53) a1.toNatClampNeg) then (if ((((u6.2.1 50) ((50 : Int32) + a1).toNatClampNeg) - ((u6.2.1 53) ((8 : Int32) + a1).toNatClampNeg)) + ((u6.2.1 53) ((4 : Int32) + a1).toNatClampNeg)) < (((u6.2.1 50) ((26 : Int32) + x8_160).toNatClampNeg) + ((u6.2.1 60) (((6 : Int32) * (x6_101 - (1 : Int32))) + w20).toNatClampNeg)) then (0 : Int32) else (1 : Int32)) else (if ((u6.2.1 50) ((18 : Int32) + x8_160).toNatClampNeg) = ((u6.2.1 53) a1.toNatClampNeg) then (if ((((u6.2.1 50) ((50 : Int32) + a1).toNatClampNeg) - ((u6.2.1 53) ((8 : Int32) + a1).toNatClampNeg)) + ((u6.2.1 53) ((4 : Int32) + a1).toNatClampNeg)) < (((u6.2.1 50) ((26 : Int32) + x8_160).toNatClampNeg) + ((u6.2.1 60) (((6 : Int32) * (x6_101 - (1 : Int32))) + w20).toNatClampNeg)) then (0 : Int32) else (1 : Int32)) else (0 : Int32))) = w31 at hF ⊢
                              refine lv_istore (lv' := [(12, .int w31), (11, .int w20), (10, .int ((u6.2.1 50) ((18 : Int32) + x8_160).toNatClampNeg)), (9, .int ((u6.2.1 50) ((10 : Int32) + x8_160).toNatClampNeg)), (8, .int x8_160), (7, .int x7_160), (6, .int x6_101), (5, .int ((((u6.2.1 50) ((50 : Int32) + a1).toNatClampNeg) - ((u6.2.1 53) ((8 : Int32) + a1).toNatClampNeg)) + ((u6.2.1 53) ((4 : Int32) + a1).toNatClampNeg))), (4, .int (((u6.2.1 50) ((50 : Int32) + a1).toNatClampNeg) - ((u6.2.1 53) ((8 : Int32) + a1).toNatClampNeg))), (0, .ref (ad 48)), (1, .int a1), (2, .int a2), (3, .int a3)]) hx hb dX9_pass_267 hl (by decide) rfl (fun ls hl => ?_)
                              refine lv_iload hx hb dX9_pass_269 (lv_at hl 0 rfl) ?_
                              refine g_dia (D := D) (z := z) (ws := gws ad cI cZ σ u6) (rest := []) 281 (if w31 = 0 then x7_160 else x8_160) (fun H locs h => ?_) (fun K34 => ?_)
                              · have hfst : -9 ≤ (if w31 = 0 then x7_160 else x8_160).toInt ∧ (if w31 = 0 then x7_160 else x8_160).toInt ≤ 7 := ite_b _ x7b x8c
                                have hF : F_X9_pass_d271_37 (fun y1 => F_X9_pass_L101  n101 τ a1 a2 a3 u6 y1) (fun y1 y2 => F_X9_pass_L160 (fun y1 => F_X9_pass_L101  n101 τ a1 a2 a3 u6 y1) n160 τ a1 a2 a3 u6 x6_101 y1 y2) τ a1 a2 a3 u6 x6_101 x8_160 x7_160 w20 w31 (if w31 = 0 then x7_160 else x8_160) = (F_X9_pass τ a1 a2 a3) := hF
                                generalize hww36 : (if w31 = 0 then x7_160 else x8_160) = w36 at hF hfst ⊢
                                refine lv_istore (lv' := [(7, .int w36), (12, .int w31), (11, .int w20), (10, .int ((u6.2.1 50) ((18 : Int32) + x8_160).toNatClampNeg)), (9, .int ((u6.2.1 50) ((10 : Int32) + x8_160).toNatClampNeg)), (8, .int x8_160), (6, .int x6_101), (5, .int ((((u6.2.1 50) ((50 : Int32) + a1).toNatClampNeg) - ((u6.2.1 53) ((8 : Int32) + a1).toNatClampNeg)) + ((u6.2.1 53) ((4 : Int32) + a1).toNatClampNeg))), (4, .int (((u6.2.1 50) ((50 : Int32) + a1).toNatClampNeg) - ((u6.2.1 53) ((8 : Int32) + a1).toNatClampNeg))), (0, .ref (ad 48)), (1, .int a1), (2, .int a2), (3, .int a3)]) hx hb dX9_pass_281 hl (by decide) rfl (fun ls hl => ?_)
                                refine lv_iinc (v := (x8_160 + ((-1) : Int32))) (lv' := [(8, .int (x8_160 + ((-1) : Int32))), (7, .int w36), (12, .int w31), (11, .int w20), (10, .int ((u6.2.1 50) ((18 : Int32) + x8_160).toNatClampNeg)), (9, .int ((u6.2.1 50) ((10 : Int32) + x8_160).toNatClampNeg)), (6, .int x6_101), (5, .int ((((u6.2.1 50) ((50 : Int32) + a1).toNatClampNeg) - ((u6.2.1 53) ((8 : Int32) + a1).toNatClampNeg)) + ((u6.2.1 53) ((4 : Int32) + a1).toNatClampNeg))), (4, .int (((u6.2.1 50) ((50 : Int32) + a1).toNatClampNeg) - ((u6.2.1 53) ((8 : Int32) + a1).toNatClampNeg))), (0, .ref (ad 48)), (1, .int a1), (2, .int a2), (3, .int a3)]) hx hb dX9_pass_283 hl (k := 5) rfl rfl (by decide) rfl (fun ls hl => ?_)
                                refine lv_goto (tgt := 160) hx hb dX9_pass_286 (by decide) ?_
                                exact ih160 (x8_160 + ((-1) : Int32)) w36 _ _ ls (⟨(dec_b x8d).1, (dec_b x8d).2.1, (dec_b x8d).2.2, hfst.1, hfst.2⟩) hF h (lv_sub hl [0, 1, 6, 7, 8, 9, 10, 11, 12] rfl)
                              · refine lv_if_eq (tgt := 279) hx hb dX9_pass_271 (by decide) (fun c35 => ?_) (fun c35 => ?_)
                                · have ic35 : w31.toInt = 0 := i_eq c35
                                  refine lv_iload hx hb dX9_pass_279 (lv_at hl 5 rfl) ?_
                                  exact K34 _ _ _ ((if_pos c35).symm) h
                                · have ic35 : w31.toInt ≠ 0 := i_ne c35
                                  refine lv_iload hx hb dX9_pass_274 (lv_at hl 4 rfl) ?_
                                  refine lv_goto (tgt := 281) hx hb dX9_pass_276 (by decide) ?_
                                  exact K34 _ _ _ ((if_neg c35).symm) h
                            · refine lv_icmp_eq (tgt := 231) hx hb dX9_pass_217 (by decide) (fun c27 => ?_) (fun c27 => ?_)
                              · have ic27 : ((u6.2.1 50) ((10 : Int32) + x8_160).toNatClampNeg).toInt = ((u6.2.1 53) a1.toNatClampNeg).toInt := i_eq c27
                                refine lv_aload_n hx hb dX9_pass_231 rfl (lv_at hl 8 rfl) ?_
                                refine g_get (v := .ref (ad 50)) E h 48 rfl rfl layX9 3 (by decide) rfl mw_822 rfl dX9_pass_232 ?_
                                refine lv_bipush (v := 26) hx hb dX9_pass_235 (by decide) ?_
                                refine lv_iload hx hb dX9_pass_237 (lv_at hl 3 rfl) ?_
                                refine lv_iadd hx hb dX9_pass_239 ?_
                                refine g_iald (f := (u6.2.1 50)) E h 50 rfl (ix_of (oI_add (oI_lit (x := 26) (a := 26) rfl) (oI_at x8_160)) (by omega) (by decide)) dX9_pass_240 ?_
                                refine lv_aload_n hx hb dX9_pass_241 rfl (lv_at hl 8 rfl) ?_
                                refine g_get (v := .ref (ad 60)) E h 48 rfl rfl layX9 20 (by decide) rfl mw_839 rfl dX9_pass_242 ?_
                                refine lv_bipush (v := 6) hx hb dX9_pass_245 (by decide) ?_
                                refine lv_iload hx hb dX9_pass_247 (lv_at hl 5 rfl) ?_
                                refine lv_iconst (v := 1) hx hb dX9_pass_249 (by decide) ?_
                                refine lv_isub hx hb dX9_pass_250 ?_
                                refine lv_imul hx hb dX9_pass_251 ?_
                                refine lv_iload hx hb dX9_pass_252 (lv_at hl 0 rfl) ?_
                                refine lv_iadd hx hb dX9_pass_254 ?_
                                refine g_iald (f := (u6.2.1 60)) E h 60 rfl (ix_of (oI_add (oI_mul (oI_lit (x := 6) (a := 6) rfl) (oI_sub (oI_at x6_101) (oI_lit (x := 1) (a := 1) rfl))) (oI_at w20)) (by omega) (by decide)) dX9_pass_255 ?_
                                refine lv_iadd hx hb dX9_pass_256 ?_
                                refine lv_iload hx hb dX9_pass_257 (lv_at hl 6 rfl) ?_
                                refine lv_icmp_gt (tgt := 266) hx hb dX9_pass_259 (by decide) (fun c28 => ?_) (fun c28 => ?_)
                                · have ic28 : ((((u6.2.1 50) ((50 : Int32) + a1).toNatClampNeg) - ((u6.2.1 53) ((8 : Int32) + a1).toNatClampNeg)) + ((u6.2.1 53) ((4 : Int32) + a1).toNatClampNeg)).toInt < (((u6.2.1 50) ((26 : Int32) + x8_160).toNatClampNeg) + ((u6.2.1 60) (((6 : Int32) * (x6_101 - (1 : Int32))) + w20).toNatClampNeg)).toInt := i_lt c28
                                  refine lv_iconst (v := 0) hx hb dX9_pass_266 (by decide) ?_
                                  exact K26 _ _ _ (((if_pos c27).trans (if_pos c28)).symm) h
                                · have ic28 : (((u6.2.1 50) ((26 : Int32) + x8_160).toNatClampNeg) + ((u6.2.1 60) (((6 : Int32) * (x6_101 - (1 : Int32))) + w20).toNatClampNeg)).toInt ≤ ((((u6.2.1 50) ((50 : Int32) + a1).toNatClampNeg) - ((u6.2.1 53) ((8 : Int32) + a1).toNatClampNeg)) + ((u6.2.1 53) ((4 : Int32) + a1).toNatClampNeg)).toInt := i_nlt c28
                                  refine lv_iconst (v := 1) hx hb dX9_pass_262 (by decide) ?_
                                  refine lv_goto (tgt := 267) hx hb dX9_pass_263 (by decide) ?_
                                  exact K26 _ _ _ (((if_pos c27).trans (if_neg c28)).symm) h
                              · have ic27 : ((u6.2.1 50) ((10 : Int32) + x8_160).toNatClampNeg).toInt ≠ ((u6.2.1 53) a1.toNatClampNeg).toInt := i_ne c27
                                refine lv_iload hx hb dX9_pass_220 (lv_at hl 1 rfl) ?_
                                refine lv_aload_n hx hb dX9_pass_222 rfl (lv_at hl 8 rfl) ?_
                                refine g_get (v := .ref (ad 53)) E h 48 rfl rfl layX9 6 (by decide) rfl mw_825 rfl dX9_pass_223 ?_
                                refine lv_iload_n hx hb dX9_pass_226 rfl (lv_at hl 9 rfl) ?_
                                refine g_iald (f := (u6.2.1 53)) E h 53 rfl (ix_of (oI_at a1) (by omega) (by decide)) dX9_pass_227 ?_
                                refine lv_icmp_ne (tgt := 266) hx hb dX9_pass_228 (by decide) (fun c29 => ?_) (fun c29 => ?_)
                                · have ic29 : ((u6.2.1 50) ((18 : Int32) + x8_160).toNatClampNeg).toInt ≠ ((u6.2.1 53) a1.toNatClampNeg).toInt := i_ne c29
                                  refine lv_iconst (v := 0) hx hb dX9_pass_266 (by decide) ?_
                                  exact K26 _ _ _ (((if_neg c27).trans (if_neg c29)).symm) h
                                · have ic29 : ((u6.2.1 50) ((18 : Int32) + x8_160).toNatClampNeg).toInt = ((u6.2.1 53) a1.toNatClampNeg).toInt := i_eq c29
                                  refine lv_aload_n hx hb dX9_pass_231 rfl (lv_at hl 8 rfl) ?_
                                  refine g_get (v := .ref (ad 50)) E h 48 rfl rfl layX9 3 (by decide) rfl mw_822 rfl dX9_pass_232 ?_
                                  refine lv_bipush (v := 26) hx hb dX9_pass_235 (by decide) ?_
                                  refine lv_iload hx hb dX9_pass_237 (lv_at hl 3 rfl) ?_
                                  refine lv_iadd hx hb dX9_pass_239 ?_
                                  refine g_iald (f := (u6.2.1 50)) E h 50 rfl (ix_of (oI_add (oI_lit (x := 26) (a := 26) rfl) (oI_at x8_160)) (by omega) (by decide)) dX9_pass_240 ?_
                                  refine lv_aload_n hx hb dX9_pass_241 rfl (lv_at hl 8 rfl) ?_
                                  refine g_get (v := .ref (ad 60)) E h 48 rfl rfl layX9 20 (by decide) rfl mw_839 rfl dX9_pass_242 ?_
                                  refine lv_bipush (v := 6) hx hb dX9_pass_245 (by decide) ?_
                                  refine lv_iload hx hb dX9_pass_247 (lv_at hl 5 rfl) ?_
                                  refine lv_iconst (v := 1) hx hb dX9_pass_249 (by decide) ?_
                                  refine lv_isub hx hb dX9_pass_250 ?_
                                  refine lv_imul hx hb dX9_pass_251 ?_
                                  refine lv_iload hx hb dX9_pass_252 (lv_at hl 0 rfl) ?_
                                  refine lv_iadd hx hb dX9_pass_254 ?_
                                  refine g_iald (f := (u6.2.1 60)) E h 60 rfl (ix_of (oI_add (oI_mul (oI_lit (x := 6) (a := 6) rfl) (oI_sub (oI_at x6_101) (oI_lit (x := 1) (a := 1) rfl))) (oI_at w20)) (by omega) (by decide)) dX9_pass_255 ?_
                                  refine lv_iadd hx hb dX9_pass_256 ?_
                                  refine lv_iload hx hb dX9_pass_257 (lv_at hl 6 rfl) ?_
                                  refine lv_icmp_gt (tgt := 266) hx hb dX9_pass_259 (by decide) (fun c30 => ?_) (fun c30 => ?_)
                                  · have ic30 : ((((u6.2.1 50) ((50 : Int32) + a1).toNatClampNeg) - ((u6.2.1 53) ((8 : Int32) + a1).toNatClampNeg)) + ((u6.2.1 53) ((4 : Int32) + a1).toNatClampNeg)).toInt < (((u6.2.1 50) ((26 : Int32) + x8_160).toNatClampNeg) + ((u6.2.1 60) (((6 : Int32) * (x6_101 - (1 : Int32))) + w20).toNatClampNeg)).toInt := i_lt c30
                                    refine lv_iconst (v := 0) hx hb dX9_pass_266 (by decide) ?_
                                    exact K26 _ _ _ (((if_neg c27).trans ((if_pos c29).trans (if_pos c30))).symm) h
                                  · have ic30 : (((u6.2.1 50) ((26 : Int32) + x8_160).toNatClampNeg) + ((u6.2.1 60) (((6 : Int32) * (x6_101 - (1 : Int32))) + w20).toNatClampNeg)).toInt ≤ ((((u6.2.1 50) ((50 : Int32) + a1).toNatClampNeg) - ((u6.2.1 53) ((8 : Int32) + a1).toNatClampNeg)) + ((u6.2.1 53) ((4 : Int32) + a1).toNatClampNeg)).toInt := i_nlt c30
                                    refine lv_iconst (v := 1) hx hb dX9_pass_262 (by decide) ?_
                                    refine lv_goto (tgt := 267) hx hb dX9_pass_263 (by decide) ?_
                                    exact K26 _ _ _ (((if_neg c27).trans ((if_pos c29).trans (if_neg c30))).symm) h
                          · refine lv_icmp_ne (tgt := 205) hx hb dX9_pass_197 (by decide) (fun c19 => ?_) (fun c19 => ?_)
                            · have ic19 : ((u6.2.1 50) ((10 : Int32) + x8_160).toNatClampNeg).toInt ≠ ((u6.2.1 53) a1.toNatClampNeg).toInt := i_ne c19
                              refine lv_iload hx hb dX9_pass_205 (lv_at hl 1 rfl) ?_
                              exact K18 _ _ _ ((if_neg c19).symm) h
                            · have ic19 : ((u6.2.1 50) ((10 : Int32) + x8_160).toNatClampNeg).toInt = ((u6.2.1 53) a1.toNatClampNeg).toInt := i_eq c19
                              refine lv_iload hx hb dX9_pass_200 (lv_at hl 0 rfl) ?_
                              refine lv_goto (tgt := 207) hx hb dX9_pass_202 (by decide) ?_
                              exact K18 _ _ _ ((if_pos c19).symm) h
                    have q160_8 : (((u6.2.1 50) 1) - (1 : Int32)).toInt = _ := ti_of (oI_sub (oI_at ((u6.2.1 50) 1)) (oI_lit (x := 1) (a := 1) rfl)) (by omega)
                    have q160_7 : ((-9) : Int32).toInt = (-9) := rfl
                    exact L160 9 (((u6.2.1 50) 1) - (1 : Int32)) ((-9) : Int32) _ _ ls ((show -1 ≤ (((u6.2.1 50) 1) - (1 : Int32)).toInt ∧ (((u6.2.1 50) 1) - (1 : Int32)).toInt ≤ 7 ∧ (((u6.2.1 50) 1) - (1 : Int32)).toInt + 2 ≤ (9 : Nat) ∧ -9 ≤ ((-9) : Int32).toInt ∧ ((-9) : Int32).toInt ≤ 7 from by omega)) hF h (lv_sub hl [0, 1, 2, 3, 4, 5, 6, 7, 8] rfl)
                  · have ic9 : x6_101.toInt = 7 := i_eq c9
                    have hF := (if_pos c9).symm.trans hF
                    refine lv_bipush (v := (-9)) hx hb dX9_pass_143 (by decide) ?_
                    exact g_iret E hr hlk h hQ (fst_of hF) (snd_of hF (fun u => gws ad cI cZ σ u)) dX9_pass_145
                refine lv_iload hx hb dX9_pass_101 (lv_at hl 0 rfl) ?_
                refine lv_bipush (v := 7) hx hb dX9_pass_103 (by decide) ?_
                refine lv_icmp_ge (tgt := 136) hx hb dX9_pass_105 (by decide) (fun c38 => ?_) (fun c38 => ?_)
                · have ic38 : 7 ≤ x6_101.toInt := i_le c38
                  have hF := (if_pos c38).symm.trans hF
                  exact J136  _ _ ls ((show True from by trivial)) hF h (lv_sub hl [0, 1, 2, 3, 4, 5, 6] rfl)
                · have ic38 : x6_101.toInt < 7 := i_nle c38
                  have hF := (if_neg c38).symm.trans hF
                  refine lv_aload_n hx hb dX9_pass_108 rfl (lv_at hl 3 rfl) ?_
                  refine g_get (v := .ref (ad 60)) E h 48 rfl rfl layX9 20 (by decide) rfl mw_839 rfl dX9_pass_109 ?_
                  refine lv_bipush (v := 6) hx hb dX9_pass_112 (by decide) ?_
                  refine lv_iload hx hb dX9_pass_114 (lv_at hl 0 rfl) ?_
                  refine lv_imul hx hb dX9_pass_116 ?_
                  refine lv_aload_n hx hb dX9_pass_117 rfl (lv_at hl 3 rfl) ?_
                  refine g_get (v := .ref (ad 53)) E h 48 rfl rfl layX9 6 (by decide) rfl mw_825 rfl dX9_pass_118 ?_
                  refine lv_iload_n hx hb dX9_pass_121 rfl (lv_at hl 4 rfl) ?_
                  refine g_iald (f := (u6.2.1 53)) E h 53 rfl (ix_of (oI_at a1) (by omega) (by decide)) dX9_pass_122 ?_
                  refine lv_iadd hx hb dX9_pass_123 ?_
                  refine g_iald (f := (u6.2.1 60)) E h 60 rfl (ix_of (oI_add (oI_mul (oI_lit (x := 6) (a := 6) rfl) (oI_at x6_101)) (oI_at ((u6.2.1 53) a1.toNatClampNeg))) (by omega) (by decide)) dX9_pass_124 ?_
                  refine lv_iload hx hb dX9_pass_125 (lv_at hl 1 rfl) ?_
                  refine lv_icmp_le (tgt := 136) hx hb dX9_pass_127 (by decide) (fun c39 => ?_) (fun c39 => ?_)
                  · have ic39 : ((u6.2.1 60) (((6 : Int32) * x6_101) + ((u6.2.1 53) a1.toNatClampNeg)).toNatClampNeg).toInt ≤ ((((u6.2.1 50) ((50 : Int32) + a1).toNatClampNeg) - ((u6.2.1 53) ((8 : Int32) + a1).toNatClampNeg)) + ((u6.2.1 53) ((4 : Int32) + a1).toNatClampNeg)).toInt := i_le c39
                    have hF := (if_pos c39).symm.trans hF
                    exact J136  _ _ ls ((show True from by trivial)) hF h (lv_sub hl [0, 1, 2, 3, 4, 5, 6] rfl)
                  · have ic39 : ((((u6.2.1 50) ((50 : Int32) + a1).toNatClampNeg) - ((u6.2.1 53) ((8 : Int32) + a1).toNatClampNeg)) + ((u6.2.1 53) ((4 : Int32) + a1).toNatClampNeg)).toInt < ((u6.2.1 60) (((6 : Int32) * x6_101) + ((u6.2.1 53) a1.toNatClampNeg)).toNatClampNeg).toInt := i_nle c39
                    have hF := (if_neg c39).symm.trans hF
                    refine lv_iinc (v := (x6_101 + (1 : Int32))) (lv' := [(6, .int (x6_101 + (1 : Int32))), (5, .int ((((u6.2.1 50) ((50 : Int32) + a1).toNatClampNeg) - ((u6.2.1 53) ((8 : Int32) + a1).toNatClampNeg)) + ((u6.2.1 53) ((4 : Int32) + a1).toNatClampNeg))), (4, .int (((u6.2.1 50) ((50 : Int32) + a1).toNatClampNeg) - ((u6.2.1 53) ((8 : Int32) + a1).toNatClampNeg))), (0, .ref (ad 48)), (1, .int a1), (2, .int a2), (3, .int a3)]) hx hb dX9_pass_130 hl (k := 0) rfl rfl (by decide) rfl (fun ls hl => ?_)
                    refine lv_goto (tgt := 101) hx hb dX9_pass_133 (by decide) ?_
                    have e101_6 : (x6_101 + (1 : Int32)).toInt = _ := ti_of (oI_add (oI_at x6_101) (oI_lit (x := 1) (a := 1) rfl)) (by omega)
                    exact ih101 (x6_101 + (1 : Int32)) _ _ ls ((show 1 ≤ (x6_101 + (1 : Int32)).toInt ∧ (x6_101 + (1 : Int32)).toInt ≤ 7 ∧ (x6_101 + (1 : Int32)).toInt + n101 = 8 from by omega)) hF h (lv_sub hl [0, 1, 2, 3, 4, 5, 6] rfl)
            have q101_6 : (1 : Int32).toInt = 1 := rfl
            exact L101 7 (1 : Int32) _ _ ls ((show 1 ≤ (1 : Int32).toInt ∧ (1 : Int32).toInt ≤ 7 ∧ (1 : Int32).toInt + (7 : Nat) = 8 from by omega)) hF h (lv_sub hl [0, 1, 2, 3, 4, 5, 6] rfl)
          · have ic5 : ((τ.2.1 53) a1.toNatClampNeg).toInt = a2.toInt := i_eq c5
            have hF := (if_pos c5).symm.trans hF
            refine lv_iload_n hx hb dX9_pass_48 rfl (lv_at hl 3 rfl) ?_
            refine lv_if_ne (tgt := 56) hx hb dX9_pass_49 (by decide) (fun c40 => ?_) (fun c40 => ?_)
            · have ic40 : a3.toInt ≠ 0 := i_ne c40
              have hF := (if_neg c40).symm.trans hF
              refine lv_bipush (v := (-9)) hx hb dX9_pass_56 (by decide) ?_
              exact g_iret E hr hlk h hQ (fst_of hF) (snd_of hF (fun u => gws ad cI cZ σ u)) dX9_pass_58
            · have ic40 : a3.toInt = 0 := i_eq c40
              have hF := (if_pos c40).symm.trans hF
              refine lv_iconst (v := 0) hx hb dX9_pass_52 (by decide) ?_
              refine lv_goto (tgt := 58) hx hb dX9_pass_53 (by decide) ?_
              exact g_iret E hr hlk h hQ (fst_of hF) (snd_of hF (fun u => gws ad cI cZ σ u)) dX9_pass_58
        · have ic4 : (F_X9_isAlive τ a1).toInt = 0 := i_eq c4
          have hF := (if_pos c4).symm.trans hF
          refine lv_bipush (v := (-2)) hx hb dX9_pass_35 (by decide) ?_
          exact g_iret E hr hlk h hQ (fst_of hF) (snd_of hF (fun u => gws ad cI cZ σ u)) dX9_pass_37
      · have ic3 : (F_X9_in a3 (0 : Int32) (2 : Int32)).toInt = 0 := i_eq c3
        have hF := (if_pos c3).symm.trans hF
        refine lv_iconst (v := (-1)) hx hb dX9_pass_25 (by decide) ?_
        exact g_iret E hr hlk h hQ (fst_of hF) (snd_of hF (fun u => gws ad cI cZ σ u)) dX9_pass_26
