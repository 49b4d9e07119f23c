theorem ite_b {x y : Int32} {lo hi : Int} (c : Prop) [Decidable c] (hx : lo ≤ x.toInt ∧ x.toInt ≤ hi) (hy : lo ≤ y.toInt ∧ y.toInt ≤ hi) : lo ≤ (if c then x else y).toInt ∧ (if c then x else y).toInt ≤ hi := by
  split
  · exact hx
  · exact hy

theorem rem_rng {a b : Int32} (ha : 0 ≤ a.toInt) (hb : 0 < b.toInt) : 0 ≤ (a - a / b * b).toInt ∧ (a - a / b * b).toInt < b.toInt := by
  obtain ⟨i, ei, hi⟩ := nI_i ha
  obtain ⟨j, ej, hj⟩ := nI_i (Int.le_of_lt hb)
  have h1 := Int32.toInt_lt a
  have h2 := Int32.toInt_lt b
  rw [ei, ej, pk_rem (by omega) (by omega) (by omega), nI_toInt (by have := Nat.mod_lt i (show 0 < j by omega); omega), nI_toInt (by omega)]
  have := Nat.mod_lt i (show 0 < j by omega)
  omega
theorem fac_rng {x : Int32} (c : Prop) [Decidable c] (h : 0 ≤ x.toInt ∧ x.toInt ≤ 10) : 0 ≤ (if c then ((10 : Int32) - x) else x).toInt ∧ (if c then ((10 : Int32) - x) else x).toInt ≤ 10 := by
  split
  · rw [ti_of (oI_sub (oI_lit (x := 10) (a := 10) rfl) (oI_at x)) (by omega)]
    omega
  · exact h
theorem mul_b {x f : Int32} (hx : 0 ≤ x.toInt ∧ x.toInt ≤ 100000) (hf : 0 ≤ f.toInt ∧ f.toInt ≤ 10) : 0 ≤ (x * f).toInt ∧ (x * f).toInt ≤ 10 * x.toInt := by
  have h1 : 0 ≤ x.toInt * f.toInt := Int.mul_nonneg hx.1 hf.1
  have h2 : x.toInt * f.toInt ≤ x.toInt * 10 := Int.mul_le_mul_of_nonneg_left hf.2 hx.1
  have e : x * f = Int32.ofInt (x.toInt * f.toInt) := oI_mul (oI_at x) (oI_at f)
  rw [ti_of e (by omega)]
  omega
theorem ite_rng {x : Int32} {N : Int} (c : Prop) [Decidable c] (h : 0 ≤ x.toInt ∧ x.toInt ≤ N) : 0 ≤ (if c then (0 : Int32) else x).toInt ∧ (if c then (0 : Int32) else x).toInt ≤ N := by
  split
  · have h0 : (0 : Int32).toInt = 0 := rfl
    omega
  · exact h

def F_X9_safe_L230 (lf82 : Int32 → Int32 → Int32) (lf105 : Int32 → Int32 → Int32) : Nat → St → Int32 → Int32 → Int32 → Int32 → Int32 → Int32 → Int32 → Int32 → Int32 → Int32 → Int32 → Int32 → Int32
  | 0, _, _, _, _, _, _, _, _, _, _, _, _, _ => 0
  | n + 1, τ, a1, a2, a3, a4, a5, a6, x9_82, x8_82, x9_105, x7_105, x10_230, x9_230 => (if x10_230 ≤ 0 then (if a6 = 0 then (x7_105 / x9_230) else (x8_82 / x9_230)) else (F_X9_safe_L230 lf82 lf105 n τ a1 a2 a3 a4 a5 a6 x9_82 x8_82 x9_105 x7_105 (x9_230 - x9_230 / x10_230 * x10_230) x10_230))
def F_X9_safe_L131 (lf82 : Int32 → Int32 → Int32) (lf105 : Int32 → Int32 → Int32) : Nat → St → Int32 → Int32 → Int32 → Int32 → Int32 → Int32 → Int32 → Int32 → Int32 → Int32 → Int32 → Int32 → Int32 → Int32
  | 0, _, _, _, _, _, _, _, _, _, _, _, _, _, _ => 0
  | n + 1, τ, a1, a2, a3, a4, a5, a6, x9_82, x8_82, x9_105, x7_105, x12_131, x11_131, x10_131 => (if a4 ≤ x12_131 then (lf105 (x9_105 + (1 : Int32)) (x7_105 + (if ((τ.2.1 50) ((50 : Int32) + a1).toNatClampNeg) < x11_131 then (0 : Int32) else x10_131))) else (F_X9_safe_L131 lf82 lf105 n τ a1 a2 a3 a4 a5 a6 x9_82 x8_82 x9_105 x7_105 (x12_131 + (1 : Int32)) (x11_131 + (if (F_X9_has x9_105 x12_131) = 0 then a2 else (a2 + a3))) (x10_131 * (if (F_X9_has x9_105 x12_131) = 0 then ((10 : Int32) - a5) else a5))))
def F_X9_safe_L105 (lf82 : Int32 → Int32 → Int32) : Nat → St → Int32 → Int32 → Int32 → Int32 → Int32 → Int32 → Int32 → Int32 → Int32 → Int32 → Int32
  | 0, _, _, _, _, _, _, _, _, _, _, _ => 0
  | n + 1, τ, a1, a2, a3, a4, a5, a6, x9_82, x8_82, x9_105, x7_105 => (if ((1 : Int32) <<< (a4 &&& 31)) ≤ x9_105 then (F_X9_safe_L230 lf82 (fun y1 y2 => F_X9_safe_L105 lf82 n τ a1 a2 a3 a4 a5 a6 x9_82 x8_82 y1 y2) (x8_82.toInt.toNat + 1) τ a1 a2 a3 a4 a5 a6 x9_82 x8_82 x9_105 x7_105 x8_82 x7_105) else (F_X9_safe_L131 lf82 (fun y1 y2 => F_X9_safe_L105 lf82 n τ a1 a2 a3 a4 a5 a6 x9_82 x8_82 y1 y2) 7 τ a1 a2 a3 a4 a5 a6 x9_82 x8_82 x9_105 x7_105 (0 : Int32) ((τ.2.1 53) ((8 : Int32) + a1).toNatClampNeg) (1 : Int32)))
def F_X9_safe_L82 : Nat → St → Int32 → Int32 → Int32 → Int32 → Int32 → Int32 → Int32 → Int32 → Int32
  | 0, _, _, _, _, _, _, _, _, _ => 0
  | n + 1, τ, a1, a2, a3, a4, a5, a6, x9_82, x8_82 => (if a4 ≤ x9_82 then (F_X9_safe_L105 (fun y1 y2 => F_X9_safe_L82  n τ a1 a2 a3 a4 a5 a6 y1 y2) 65 τ a1 a2 a3 a4 a5 a6 x9_82 x8_82 (0 : Int32) (0 : Int32)) else (F_X9_safe_L82  n τ a1 a2 a3 a4 a5 a6 (x9_82 + (1 : Int32)) (x8_82 * (10 : Int32))))
def F_X9_safe (τ : St) (a1 : Int32) (a2 : Int32) (a3 : Int32) (a4 : Int32) (a5 : Int32) (a6 : Int32) : Int32 := (if (F_X9_isCaravan τ a1) = 0 then ((-1) : Int32) else (if (F_X9_in a2 (0 : Int32) (9 : Int32)) = 0 then ((-1) : Int32) else (if (F_X9_in a3 (0 : Int32) (9 : Int32)) = 0 then ((-1) : Int32) else (if (F_X9_in a4 (0 : Int32) (6 : Int32)) = 0 then ((-1) : Int32) else (if (F_X9_in a5 (0 : Int32) (10 : Int32)) = 0 then ((-1) : Int32) else (if (F_X9_in a6 (0 : Int32) (1 : Int32)) = 0 then ((-1) : Int32) else (if (F_X9_isAlive τ a1) = 0 then ((-2) : Int32) else (F_X9_safe_L82  7 τ a1 a2 a3 a4 a5 a6 (0 : Int32) (1 : Int32)))))))))
set_option maxHeartbeats 4000000 in
set_option maxRecDepth 20000 in
theorem c_X9_safe (l : Launch) (D : va_G) (cI cZ : ClassId) (z : Nat) (ad : Nat → Nat) (σ τ : St) (a1 a2 a3 a4 a5 a6 : Int32) (hc_ : 0 ≤ ((τ.2.1 50) 2).toInt ∧ ((τ.2.1 50) 2).toInt ≤ 4) : gM l yX9_safe cX9_safe 13 (some .int) 3 D cI cZ z (gws ad cI cZ σ τ) [.ref (ad 48), .int a1, .int a2, .int a3, .int a4, .int a5, .int a6] (some (.int (F_X9_safe τ a1 a2 a3 a4 a5 a6))) (gws ad cI cZ σ τ) := by
  refine g_met (own := RX9) (by decide) rfl (Nat.le_of_ble_eq_true rfl) (fun p e s m below meth c ls Q E hr hlk h hl hQ => ?_)
  have hx := E.1
  have hb := E.2.1
  have hF : (F_X9_safe τ a1 a2 a3 a4 a5 a6) = (F_X9_safe τ a1 a2 a3 a4 a5 a6) := rfl
  have hl : lv_has ls 13 [(0, .ref (ad 48)), (1, .int a1), (2, .int a2), (3, .int a3), (4, .int a4), (5, .int a5), (6, .int a6)] := hl
  refine lv_aload_n hx hb dX9_safe_0 rfl (lv_at hl 0 rfl) ?_
  refine lv_iload_n hx hb dX9_safe_1 rfl (lv_at hl 1 rfl) ?_
  refine g_callVi (rest := []) E h (c_X9_isCaravan l D cI cZ z ad σ τ a1) mw_907 cbX9_isCaravan 48 rfl rfl ⟨by decide, by decide⟩ rfl rfl hl.1 (Nat.le_of_ble_eq_true rfl) ⟨Nat.zero_le _, Nat.zero_le _⟩ dX9_safe_2 (fun H locs h => ?_)
  refine lv_if_eq (tgt := 60) hx hb dX9_safe_5 (by decide) (fun c1 => ?_) (fun c1 => ?_)
  · have ic1 : (F_X9_isCaravan τ a1).toInt = 0 := i_eq c1
    have hF := (if_pos c1).symm.trans hF
    refine lv_iconst (v := (-1)) hx hb dX9_safe_60 (by decide) ?_
    exact g_iret E hr hlk h hQ hF rfl dX9_safe_61
  · have ic1 : (F_X9_isCaravan τ a1).toInt ≠ 0 := i_ne c1
    have jc1 := (fun c => fz9_isCaravan c (by omega)) c1
    have hF := (if_neg c1).symm.trans hF
    refine lv_iload_n hx hb dX9_safe_8 rfl (lv_at hl 2 rfl) ?_
    refine lv_iconst (v := 0) hx hb dX9_safe_9 (by decide) ?_
    refine lv_bipush (v := 9) hx hb dX9_safe_10 (by decide) ?_
    refine g_callSi (rest := []) E h (c_X9_in l D cI cZ z (gws ad cI cZ σ τ) a2 (0 : Int32) (9 : Int32)) mw_789 cbX9_in ⟨by decide, by decide⟩ rfl rfl hl.1 (Nat.le_of_ble_eq_true rfl) ⟨Nat.zero_le _, Nat.zero_le _⟩ dX9_safe_12 (fun H locs h => ?_)
    refine lv_if_eq (tgt := 60) hx hb dX9_safe_15 (by decide) (fun c2 => ?_) (fun c2 => ?_)
    · have ic2 : (F_X9_in a2 (0 : Int32) (9 : Int32)).toInt = 0 := i_eq c2
      have hF := (if_pos c2).symm.trans hF
      refine lv_iconst (v := (-1)) hx hb dX9_safe_60 (by decide) ?_
      exact g_iret E hr hlk h hQ hF rfl dX9_safe_61
    · have ic2 : (F_X9_in a2 (0 : Int32) (9 : Int32)).toInt ≠ 0 := i_ne c2
      have jc2 : 0 ≤ a2.toInt ∧ a2.toInt ≤ 9 := fz_in c2
      have hF := (if_neg c2).symm.trans hF
      refine lv_iload_n hx hb dX9_safe_18 rfl (lv_at hl 3 rfl) ?_
      refine lv_iconst (v := 0) hx hb dX9_safe_19 (by decide) ?_
      refine lv_bipush (v := 9) hx hb dX9_safe_20 (by decide) ?_
      refine g_callSi (rest := []) E h (c_X9_in l D cI cZ z (gws ad cI cZ σ τ) a3 (0 : Int32) (9 : Int32)) mw_789 cbX9_in ⟨by decide, by decide⟩ rfl rfl hl.1 (Nat.le_of_ble_eq_true rfl) ⟨Nat.zero_le _, Nat.zero_le _⟩ dX9_safe_22 (fun H locs h => ?_)
      refine lv_if_eq (tgt := 60) hx hb dX9_safe_25 (by decide) (fun c3 => ?_) (fun c3 => ?_)
      · have ic3 : (F_X9_in a3 (0 : Int32) (9 : Int32)).toInt = 0 := i_eq c3
        have hF := (if_pos c3).symm.trans hF
        refine lv_iconst (v := (-1)) hx hb dX9_safe_60 (by decide) ?_
        exact g_iret E hr hlk h hQ hF rfl dX9_safe_61
      · have ic3 : (F_X9_in a3 (0 : Int32) (9 : Int32)).toInt ≠ 0 := i_ne c3
        have jc3 : 0 ≤ a3.toInt ∧ a3.toInt ≤ 9 := fz_in c3
        have hF := (if_neg c3).symm.trans hF
        refine lv_iload hx hb dX9_safe_28 (lv_at hl 4 rfl) ?_
        refine lv_iconst (v := 0) hx hb dX9_safe_30 (by decide) ?_
        refine lv_bipush (v := 6) hx hb dX9_safe_31 (by decide) ?_
        refine g_callSi (rest := []) E h (c_X9_in l D cI cZ z (gws ad cI cZ σ τ) a4 (0 : Int32) (6 : Int32)) mw_789 cbX9_in ⟨by decide, by decide⟩ rfl rfl hl.1 (Nat.le_of_ble_eq_true rfl) ⟨Nat.zero_le _, Nat.zero_le _⟩ dX9_safe_33 (fun H locs h => ?_)
        refine lv_if_eq (tgt := 60) hx hb dX9_safe_36 (by decide) (fun c4 => ?_) (fun c4 => ?_)
        · have ic4 : (F_X9_in a4 (0 : Int32) (6 : Int32)).toInt = 0 := i_eq c4
          have hF := (if_pos c4).symm.trans hF
          refine lv_iconst (v := (-1)) hx hb dX9_safe_60 (by decide) ?_
          exact g_iret E hr hlk h hQ hF rfl dX9_safe_61
        · have ic4 : (F_X9_in a4 (0 : Int32) (6 : Int32)).toInt ≠ 0 := i_ne c4
          have jc4 : 0 ≤ a4.toInt ∧ a4.toInt ≤ 6 := fz_in c4
          have hF := (if_neg c4).symm.trans hF
          refine lv_iload hx hb dX9_safe_39 (lv_at hl 5 rfl) ?_
          refine lv_iconst (v := 0) hx hb dX9_safe_41 (by decide) ?_
          refine lv_bipush (v := 10) hx hb dX9_safe_42 (by decide) ?_
          refine g_callSi (rest := []) E h (c_X9_in l D cI cZ z (gws ad cI cZ σ τ) a5 (0 : Int32) (10 : Int32)) mw_789 cbX9_in ⟨by decide, by decide⟩ rfl rfl hl.1 (Nat.le_of_ble_eq_true rfl) ⟨Nat.zero_le _, Nat.zero_le _⟩ dX9_safe_44 (fun H locs h => ?_)
          refine lv_if_eq (tgt := 60) hx hb dX9_safe_47 (by decide) (fun c5 => ?_) (fun c5 => ?_)
          · have ic5 : (F_X9_in a5 (0 : Int32) (10 : Int32)).toInt = 0 := i_eq c5
            have hF := (if_pos c5).symm.trans hF
            refine lv_iconst (v := (-1)) hx hb dX9_safe_60 (by decide) ?_
            exact g_iret E hr hlk h hQ hF rfl dX9_safe_61
          · have ic5 : (F_X9_in a5 (0 : Int32) (10 : Int32)).toInt ≠ 0 := i_ne c5
            have jc5 : 0 ≤ a5.toInt ∧ a5.toInt ≤ 10 := fz_in c5
            have hF := (if_neg c5).symm.trans hF
            refine lv_iload hx hb dX9_safe_50 (lv_at hl 6 rfl) ?_
            refine lv_iconst (v := 0) hx hb dX9_safe_52 (by decide) ?_
            refine lv_iconst (v := 1) hx hb dX9_safe_53 (by decide) ?_
            refine g_callSi (rest := []) E h (c_X9_in l D cI cZ z (gws ad cI cZ σ τ) a6 (0 : Int32) (1 : Int32)) mw_789 cbX9_in ⟨by decide, by decide⟩ rfl rfl hl.1 (Nat.le_of_ble_eq_true rfl) ⟨Nat.zero_le _, Nat.zero_le _⟩ dX9_safe_54 (fun H locs h => ?_)
            refine lv_if_ne (tgt := 62) hx hb dX9_safe_57 (by decide) (fun c6 => ?_) (fun c6 => ?_)
            · have ic6 : (F_X9_in a6 (0 : Int32) (1 : Int32)).toInt ≠ 0 := i_ne c6
              have jc6 : 0 ≤ a6.toInt ∧ a6.toInt ≤ 1 := fz_in c6
              have hF := (if_neg c6).symm.trans hF
              refine lv_aload_n hx hb dX9_safe_62 rfl (lv_at hl 0 rfl) ?_
              refine lv_iload_n hx hb dX9_safe_63 rfl (lv_at hl 1 rfl) ?_
              refine g_callVi (rest := []) E h (c_X9_isAlive l D cI cZ z ad σ τ a1) mw_911 cbX9_isAlive 48 rfl rfl ⟨by decide, by decide⟩ rfl rfl hl.1 (Nat.le_of_ble_eq_true rfl) ⟨Nat.zero_le _, Nat.zero_le _⟩ dX9_safe_64 (fun H locs h => ?_)
              refine lv_if_ne (tgt := 73) hx hb dX9_safe_67 (by decide) (fun c7 => ?_) (fun c7 => ?_)
              · have ic7 : (F_X9_isAlive τ a1).toInt ≠ 0 := i_ne c7
                have hF := (if_neg c7).symm.trans hF
                refine lv_iconst (v := 0) hx hb dX9_safe_73 (by decide) ?_
                refine lv_istore (lv' := [(7, .int (0 : Int32)), (0, .ref (ad 48)), (1, .int a1), (2, .int a2), (3, .int a3), (4, .int a4), (5, .int a5), (6, .int a6)]) hx hb dX9_safe_74 hl (by decide) rfl (fun ls hl => ?_)
                refine lv_iconst (v := 1) hx hb dX9_safe_76 (by decide) ?_
                refine lv_istore (lv' := [(8, .int (1 : Int32)), (7, .int (0 : Int32)), (0, .ref (ad 48)), (1, .int a1), (2, .int a2), (3, .int a3), (4, .int a4), (5, .int a5), (6, .int a6)]) hx hb dX9_safe_77 hl (by decide) rfl (fun ls hl => ?_)
                refine lv_iconst (v := 0) hx hb dX9_safe_79 (by decide) ?_
                refine lv_istore (lv' := [(9, .int (0 : Int32)), (8, .int (1 : Int32)), (7, .int (0 : Int32)), (0, .ref (ad 48)), (1, .int a1), (2, .int a2), (3, .int a3), (4, .int a4), (5, .int a5), (6, .int a6)]) hx hb dX9_safe_80 hl (by decide) rfl (fun ls hl => ?_)
                have L82 : ∀ (n82 : Nat) (x9_82 : Int32) (x8_82 : Int32) (H : Heap) (locs : List Loc) (ls : Array Slot), (0 ≤ x9_82.toInt ∧ 0 < n82 ∧ 6 < x9_82.toInt + n82 ∧ 1 ≤ x8_82.toInt ∧ ((x9_82.toInt = 0 ∧ x8_82.toInt ≤ 1) ∨ (x9_82.toInt = 1 ∧ x8_82.toInt ≤ 10) ∨ (x9_82.toInt = 2 ∧ x8_82.toInt ≤ 100) ∨ (x9_82.toInt = 3 ∧ x8_82.toInt ≤ 1000) ∨ (x9_82.toInt = 4 ∧ x8_82.toInt ≤ 10000) ∨ (x9_82.toInt = 5 ∧ x8_82.toInt ≤ 100000) ∨ (x9_82.toInt = 6 ∧ x8_82.toInt ≤ 1000000))) → F_X9_safe_L82  n82 τ a1 a2 a3 a4 a5 a6 x9_82 x8_82 = (F_X9_safe τ a1 a2 a3 a4 a5 a6) → gH D z s (gws ad cI cZ σ τ) H locs → lv_has ls 13 [(9, .int x9_82), (8, .int x8_82), (7, .int (0 : Int32)), (0, .ref (ad 48)), (1, .int a1), (2, .int a2), (3, .int a3), (4, .int a4), (5, .int a5), (6, .int a6)] → W p l e (rmH 3) s m ([.ref (ad 48), .int a1, .int a2, .int a3, .int a4, .int a5, .int a6] : List Value).toArray below meth c H locs 0 0 Q (F0 m 82 ls []) := by
                  clear hF h hl
                  intro n82
                  induction n82 with
                  | zero =>
                    intro x9_82 x8_82 H locs ls hI
                    exact absurd hI (by omega)
                  | succ n82 ih82 =>
                    intro x9_82 x8_82 H locs ls hI82 hF h hl
                    refine lv_iload hx hb dX9_safe_82 (lv_at hl 0 rfl) ?_
                    refine lv_iload hx hb dX9_safe_84 (lv_at hl 7 rfl) ?_
                    refine lv_icmp_ge (tgt := 102) hx hb dX9_safe_86 (by decide) (fun c9 => ?_) (fun c9 => ?_)
                    · have ic9 : a4.toInt ≤ x9_82.toInt := i_le c9
                      have hF := (if_pos c9).symm.trans hF
                      refine lv_iconst (v := 0) hx hb dX9_safe_102 (by decide) ?_
                      refine lv_istore (lv' := [(9, .int (0 : Int32)), (8, .int x8_82), (7, .int (0 : Int32)), (0, .ref (ad 48)), (1, .int a1), (2, .int a2), (3, .int a3), (4, .int a4), (5, .int a5), (6, .int a6)]) hx hb dX9_safe_103 hl (by decide) rfl (fun ls hl => ?_)
                      have L105 : ∀ (n105 : Nat) (x9_105 : Int32) (x7_105 : Int32) (H : Heap) (locs : List Loc) (ls : Array Slot), (0 ≤ x9_105.toInt ∧ x9_105.toInt ≤ 64 ∧ x9_105.toInt + n105 = 65 ∧ 0 ≤ x7_105.toInt ∧ x7_105.toInt ≤ x9_105.toInt * 1000000) → F_X9_safe_L105 (fun y1 y2 => F_X9_safe_L82  n82 τ a1 a2 a3 a4 a5 a6 y1 y2) n105 τ a1 a2 a3 a4 a5 a6 x9_82 x8_82 x9_105 x7_105 = (F_X9_safe τ a1 a2 a3 a4 a5 a6) → gH D z s (gws ad cI cZ σ τ) H locs → lv_has ls 13 [(9, .int x9_105), (8, .int x8_82), (7, .int x7_105), (0, .ref (ad 48)), (1, .int a1), (2, .int a2), (3, .int a3), (4, .int a4), (5, .int a5), (6, .int a6)] → W p l e (rmH 3) s m ([.ref (ad 48), .int a1, .int a2, .int a3, .int a4, .int a5, .int a6] : List Value).toArray below meth c H locs 0 0 Q (F0 m 105 ls []) := by
                        clear hF h hl
                        intro n105
                        induction n105 with
                        | zero =>
                          intro x9_105 x7_105 H locs ls hI
                          exact absurd hI (by omega)
                        | succ n105 ih105 =>
                          intro x9_105 x7_105 H locs ls hI105 hF h hl
                          have hsh := sh1_rng (w := a4) (by omega)
                          refine lv_iload hx hb dX9_safe_105 (lv_at hl 0 rfl) ?_
                          refine lv_iconst (v := 1) hx hb dX9_safe_107 (by decide) ?_
                          refine lv_iload hx hb dX9_safe_108 (lv_at hl 7 rfl) ?_
                          refine lv_ishl hx hb dX9_safe_110 ?_
                          refine lv_icmp_ge (tgt := 222) hx hb dX9_safe_111 (by decide) (fun c11 => ?_) (fun c11 => ?_)
                          · have ic11 : ((1 : Int32) <<< (a4 &&& 31)).toInt ≤ x9_105.toInt := i_le c11
                            have hF := (if_pos c11).symm.trans hF
                            refine lv_iload hx hb dX9_safe_222 (lv_at hl 2 rfl) ?_
                            refine lv_istore (lv' := [(9, .int x7_105), (8, .int x8_82), (7, .int x7_105), (0, .ref (ad 48)), (1, .int a1), (2, .int a2), (3, .int a3), (4, .int a4), (5, .int a5), (6, .int a6)]) hx hb dX9_safe_224 hl (by decide) rfl (fun ls hl => ?_)
                            refine lv_iload hx hb dX9_safe_226 (lv_at hl 1 rfl) ?_
                            refine lv_istore (lv' := [(10, .int x8_82), (9, .int x7_105), (8, .int x8_82), (7, .int x7_105), (0, .ref (ad 48)), (1, .int a1), (2, .int a2), (3, .int a3), (4, .int a4), (5, .int a5), (6, .int a6)]) hx hb dX9_safe_228 hl (by decide) rfl (fun ls hl => ?_)
                            have L230 : ∀ (n230 : Nat) (x10_230 : Int32) (x9_230 : Int32) (H : Heap) (locs : List Loc) (ls : Array Slot), (0 ≤ x9_230.toInt ∧ 0 ≤ x10_230.toInt ∧ x10_230.toInt < n230 ∧ (0 < x9_230.toInt ∨ 0 < x10_230.toInt)) → F_X9_safe_L230 (fun y1 y2 => F_X9_safe_L82  n82 τ a1 a2 a3 a4 a5 a6 y1 y2) (fun y1 y2 => F_X9_safe_L105 (fun y1 y2 => F_X9_safe_L82  n82 τ a1 a2 a3 a4 a5 a6 y1 y2) n105 τ a1 a2 a3 a4 a5 a6 x9_82 x8_82 y1 y2) n230 τ a1 a2 a3 a4 a5 a6 x9_82 x8_82 x9_105 x7_105 x10_230 x9_230 = (F_X9_safe τ a1 a2 a3 a4 a5 a6) → gH D z s (gws ad cI cZ σ τ) H locs → lv_has ls 13 [(10, .int x10_230), (9, .int x9_230), (8, .int x8_82), (7, .int x7_105), (0, .ref (ad 48)), (1, .int a1), (2, .int a2), (3, .int a3), (4, .int a4), (5, .int a5), (6, .int a6)] → W p l e (rmH 3) s m ([.ref (ad 48), .int a1, .int a2, .int a3, .int a4, .int a5, .int a6] : List Value).toArray below meth c H locs 0 0 Q (F0 m 230 ls []) := by
                              clear hF h hl
                              intro n230
                              induction n230 with
                              | zero =>
                                intro x10_230 x9_230 H locs ls hI
                                exact absurd hI (by omega)
                              | succ n230 ih230 =>
                                intro x10_230 x9_230 H locs ls hI230 hF h hl
                                refine lv_iload hx hb dX9_safe_230 (lv_at hl 0 rfl) ?_
                                refine lv_if_le (tgt := 253) hx hb dX9_safe_232 (by decide) (fun c13 => ?_) (fun c13 => ?_)
                                · have ic13 : x10_230.toInt ≤ 0 := i_le c13
                                  have hF := (if_pos c13).symm.trans hF
                                  refine lv_iload hx hb dX9_safe_253 (lv_at hl 10 rfl) ?_
                                  refine lv_if_ne (tgt := 266) hx hb dX9_safe_255 (by decide) (fun c14 => ?_) (fun c14 => ?_)
                                  · have ic14 : a6.toInt ≠ 0 := i_ne c14
                                    have hF := (if_neg c14).symm.trans hF
                                    refine lv_iload hx hb dX9_safe_266 (lv_at hl 2 rfl) ?_
                                    refine lv_iload hx hb dX9_safe_268 (lv_at hl 1 rfl) ?_
                                    refine lv_idiv hx hb dX9_safe_270 (by intro q; have q1 := i_eq q; have q2 : (0 : Int32).toInt = 0 := rfl; omega) ?_
                                    exact g_iret E hr hlk h hQ hF rfl dX9_safe_271
                                  · have ic14 : a6.toInt = 0 := i_eq c14
                                    have hF := (if_pos c14).symm.trans hF
                                    refine lv_iload hx hb dX9_safe_258 (lv_at hl 3 rfl) ?_
                                    refine lv_iload hx hb dX9_safe_260 (lv_at hl 1 rfl) ?_
                                    refine lv_idiv hx hb dX9_safe_262 (by intro q; have q1 := i_eq q; have q2 : (0 : Int32).toInt = 0 := rfl; omega) ?_
                                    refine lv_goto (tgt := 271) hx hb dX9_safe_263 (by decide) ?_
                                    exact g_iret E hr hlk h hQ hF rfl dX9_safe_271
                                · have ic13 : 0 < x10_230.toInt := i_nle c13
                                  have hF := (if_neg c13).symm.trans hF
                                  refine lv_iload hx hb dX9_safe_235 (lv_at hl 1 rfl) ?_
                                  refine lv_iload hx hb dX9_safe_237 (lv_at hl 0 rfl) ?_
                                  refine lv_irem hx hb dX9_safe_239 (by intro q; have q1 := i_eq q; have q2 : (0 : Int32).toInt = 0 := rfl; omega) ?_
                                  refine lv_istore (lv' := [(11, .int (x9_230 - x9_230 / x10_230 * x10_230)), (10, .int x10_230), (9, .int x9_230), (8, .int x8_82), (7, .int x7_105), (0, .ref (ad 48)), (1, .int a1), (2, .int a2), (3, .int a3), (4, .int a4), (5, .int a5), (6, .int a6)]) hx hb dX9_safe_240 hl (by decide) rfl (fun ls hl => ?_)
                                  refine lv_iload hx hb dX9_safe_242 (lv_at hl 1 rfl) ?_
                                  refine lv_istore (lv' := [(9, .int x10_230), (11, .int (x9_230 - x9_230 / x10_230 * x10_230)), (10, .int x10_230), (8, .int x8_82), (7, .int x7_105), (0, .ref (ad 48)), (1, .int a1), (2, .int a2), (3, .int a3), (4, .int a4), (5, .int a5), (6, .int a6)]) hx hb dX9_safe_244 hl (by decide) rfl (fun ls hl => ?_)
                                  refine lv_iload hx hb dX9_safe_246 (lv_at hl 1 rfl) ?_
                                  refine lv_istore (lv' := [(10, .int (x9_230 - x9_230 / x10_230 * x10_230)), (9, .int x10_230), (11, .int (x9_230 - x9_230 / x10_230 * x10_230)), (8, .int x8_82), (7, .int x7_105), (0, .ref (ad 48)), (1, .int a1), (2, .int a2), (3, .int a3), (4, .int a4), (5, .int a5), (6, .int a6)]) hx hb dX9_safe_248 hl (by decide) rfl (fun ls hl => ?_)
                                  refine lv_goto (tgt := 230) hx hb dX9_safe_250 (by decide) ?_
                                  have hrm := rem_rng (a := x9_230) (b := x10_230) (by omega) (by omega)
                                  exact ih230 (x9_230 - x9_230 / x10_230 * x10_230) x10_230 _ _ ls ((show 0 ≤ x10_230.toInt ∧ 0 ≤ (x9_230 - x9_230 / x10_230 * x10_230).toInt ∧ (x9_230 - x9_230 / x10_230 * x10_230).toInt < n230 ∧ (0 < x10_230.toInt ∨ 0 < (x9_230 - x9_230 / x10_230 * x10_230).toInt) from by omega)) hF h (lv_sub hl [0, 1, 3, 4, 5, 6, 7, 8, 9, 10, 11] rfl)
                            exact L230 (x8_82.toInt.toNat + 1) x8_82 x7_105 _ _ ls ((show 0 ≤ x7_105.toInt ∧ 0 ≤ x8_82.toInt ∧ x8_82.toInt < ((x8_82.toInt.toNat + 1) : Nat) ∧ (0 < x7_105.toInt ∨ 0 < x8_82.toInt) from by omega)) hF h (lv_sub hl [0, 1, 2, 3, 4, 5, 6, 7, 8, 9, 10] rfl)
                          · have ic11 : x9_105.toInt < ((1 : Int32) <<< (a4 &&& 31)).toInt := i_nle c11
                            have hF := (if_neg c11).symm.trans hF
                            refine lv_iconst (v := 1) hx hb dX9_safe_114 (by decide) ?_
                            refine lv_istore (lv' := [(10, .int (1 : Int32)), (9, .int x9_105), (8, .int x8_82), (7, .int x7_105), (0, .ref (ad 48)), (1, .int a1), (2, .int a2), (3, .int a3), (4, .int a4), (5, .int a5), (6, .int a6)]) hx hb dX9_safe_115 hl (by decide) rfl (fun ls hl => ?_)
                            refine lv_aload_n hx hb dX9_safe_117 rfl (lv_at hl 4 rfl) ?_
                            refine g_get (v := .ref (ad 53)) E h 48 rfl rfl layX9 6 (by decide) rfl mw_825 rfl dX9_safe_118 ?_
                            refine lv_bipush (v := 8) hx hb dX9_safe_121 (by decide) ?_
                            refine lv_iload_n hx hb dX9_safe_123 rfl (lv_at hl 5 rfl) ?_
                            refine lv_iadd hx hb dX9_safe_124 ?_
                            refine g_iald (f := (τ.2.1 53)) E h 53 rfl (ix_of (oI_add (oI_lit (x := 8) (a := 8) rfl) (oI_at a1)) (by omega) (by decide)) dX9_safe_125 ?_
                            refine lv_istore (lv' := [(11, .int ((τ.2.1 53) ((8 : Int32) + a1).toNatClampNeg)), (10, .int (1 : Int32)), (9, .int x9_105), (8, .int x8_82), (7, .int x7_105), (0, .ref (ad 48)), (1, .int a1), (2, .int a2), (3, .int a3), (4, .int a4), (5, .int a5), (6, .int a6)]) hx hb dX9_safe_126 hl (by decide) rfl (fun ls hl => ?_)
                            refine lv_iconst (v := 0) hx hb dX9_safe_128 (by decide) ?_
                            refine lv_istore (lv' := [(12, .int (0 : Int32)), (11, .int ((τ.2.1 53) ((8 : Int32) + a1).toNatClampNeg)), (10, .int (1 : Int32)), (9, .int x9_105), (8, .int x8_82), (7, .int x7_105), (0, .ref (ad 48)), (1, .int a1), (2, .int a2), (3, .int a3), (4, .int a4), (5, .int a5), (6, .int a6)]) hx hb dX9_safe_129 hl (by decide) rfl (fun ls hl => ?_)
                            have L131 : ∀ (n131 : Nat) (x12_131 : Int32) (x11_131 : Int32) (x10_131 : Int32) (H : Heap) (locs : List Loc) (ls : Array Slot), (0 ≤ x12_131.toInt ∧ 0 < n131 ∧ 6 < x12_131.toInt + n131 ∧ 0 ≤ x10_131.toInt ∧ ((x12_131.toInt = 0 ∧ x10_131.toInt ≤ 1) ∨ (x12_131.toInt = 1 ∧ x10_131.toInt ≤ 10) ∨ (x12_131.toInt = 2 ∧ x10_131.toInt ≤ 100) ∨ (x12_131.toInt = 3 ∧ x10_131.toInt ≤ 1000) ∨ (x12_131.toInt = 4 ∧ x10_131.toInt ≤ 10000) ∨ (x12_131.toInt = 5 ∧ x10_131.toInt ≤ 100000) ∨ (x12_131.toInt = 6 ∧ x10_131.toInt ≤ 1000000))) → F_X9_safe_L131 (fun y1 y2 => F_X9_safe_L82  n82 τ a1 a2 a3 a4 a5 a6 y1 y2) (fun y1 y2 => F_X9_safe_L105 (fun y1 y2 => F_X9_safe_L82  n82 τ a1 a2 a3 a4 a5 a6 y1 y2) n105 τ a1 a2 a3 a4 a5 a6 x9_82 x8_82 y1 y2) n131 τ a1 a2 a3 a4 a5 a6 x9_82 x8_82 x9_105 x7_105 x12_131 x11_131 x10_131 = (F_X9_safe τ a1 a2 a3 a4 a5 a6) → gH D z s (gws ad cI cZ σ τ) H locs → lv_has ls 13 [(12, .int x12_131), (11, .int x11_131), (10, .int x10_131), (9, .int x9_105), (8, .int x8_82), (7, .int x7_105), (0, .ref (ad 48)), (1, .int a1), (2, .int a2), (3, .int a3), (4, .int a4), (5, .int a5), (6, .int a6)] → W p l e (rmH 3) s m ([.ref (ad 48), .int a1, .int a2, .int a3, .int a4, .int a5, .int a6] : List Value).toArray below meth c H locs 0 0 Q (F0 m 131 ls []) := by
                              clear hF h hl
                              intro n131
                              induction n131 with
                              | zero =>
                                intro x12_131 x11_131 x10_131 H locs ls hI
                                exact absurd hI (by omega)
                              | succ n131 ih131 =>
                                intro x12_131 x11_131 x10_131 H locs ls hI131 hF h hl
                                refine lv_iload hx hb dX9_safe_131 (lv_at hl 0 rfl) ?_
                                refine lv_iload hx hb dX9_safe_133 (lv_at hl 10 rfl) ?_
                                refine lv_icmp_ge (tgt := 191) hx hb dX9_safe_135 (by decide) (fun c16 => ?_) (fun c16 => ?_)
                                · have ic16 : a4.toInt ≤ x12_131.toInt := i_le c16
                                  have hF := (if_pos c16).symm.trans hF
                                  refine lv_iload hx hb dX9_safe_191 (lv_at hl 5 rfl) ?_
                                  refine lv_iload hx hb dX9_safe_193 (lv_at hl 1 rfl) ?_
                                  refine lv_aload_n hx hb dX9_safe_195 rfl (lv_at hl 6 rfl) ?_
                                  refine g_get (v := .ref (ad 50)) E h 48 rfl rfl layX9 3 (by decide) rfl mw_822 rfl dX9_safe_196 ?_
                                  refine lv_bipush (v := 50) hx hb dX9_safe_199 (by decide) ?_
                                  refine lv_iload_n hx hb dX9_safe_201 rfl (lv_at hl 7 rfl) ?_
                                  refine lv_iadd hx hb dX9_safe_202 ?_
                                  refine g_iald (f := (τ.2.1 50)) E h 50 rfl (ix_of (oI_add (oI_lit (x := 50) (a := 50) rfl) (oI_at a1)) (by omega) (by decide)) dX9_safe_203 ?_
                                  refine g_dia (D := D) (z := z) (ws := gws ad cI cZ σ τ) (rest := [.int x7_105]) 213 (if ((τ.2.1 50) ((50 : Int32) + a1).toNatClampNeg) < x11_131 then (0 : Int32) else x10_131) (fun H locs h => ?_) (fun K18 => ?_)
                                  · refine lv_iadd hx hb dX9_safe_213 ?_
                                    refine lv_istore (lv' := [(7, .int (x7_105 + (if ((τ.2.1 50) ((50 : Int32) + a1).toNatClampNeg) < x11_131 then (0 : Int32) else x10_131))), (12, .int x12_131), (11, .int x11_131), (10, .int x10_131), (9, .int x9_105), (8, .int x8_82), (0, .ref (ad 48)), (1, .int a1), (2, .int a2), (3, .int a3), (4, .int a4), (5, .int a5), (6, .int a6)]) hx hb dX9_safe_214 hl (by decide) rfl (fun ls hl => ?_)
                                    refine lv_iinc (v := (x9_105 + (1 : Int32))) (lv' := [(9, .int (x9_105 + (1 : Int32))), (7, .int (x7_105 + (if ((τ.2.1 50) ((50 : Int32) + a1).toNatClampNeg) < x11_131 then (0 : Int32) else x10_131))), (12, .int x12_131), (11, .int x11_131), (10, .int x10_131), (8, .int x8_82), (0, .ref (ad 48)), (1, .int a1), (2, .int a2), (3, .int a3), (4, .int a4), (5, .int a5), (6, .int a6)]) hx hb dX9_safe_216 hl (k := 4) rfl rfl (by decide) rfl (fun ls hl => ?_)
                                    refine lv_goto (tgt := 105) hx hb dX9_safe_219 (by decide) ?_
                                    have hit := ite_rng (x := x10_131) (N := 1000000) ((τ.2.1 50 ((50 : Int32) + a1).toNatClampNeg) < x11_131) (by omega)
                                    have e105_9 : (x9_105 + (1 : Int32)).toInt = _ := ti_of (oI_add (oI_at x9_105) (oI_lit (x := 1) (a := 1) rfl)) (by omega)
                                    have e105_7 : (x7_105 + (if ((τ.2.1 50) ((50 : Int32) + a1).toNatClampNeg) < x11_131 then (0 : Int32) else x10_131)).toInt = _ := ti_of (oI_add (oI_at x7_105) (oI_at (if ((τ.2.1 50) ((50 : Int32) + a1).toNatClampNeg) < x11_131 then (0 : Int32) else x10_131))) (by omega)
                                    exact ih105 (x9_105 + (1 : Int32)) (x7_105 + (if ((τ.2.1 50) ((50 : Int32) + a1).toNatClampNeg) < x11_131 then (0 : Int32) else x10_131)) _ _ ls ((show 0 ≤ (x9_105 + (1 : Int32)).toInt ∧ (x9_105 + (1 : Int32)).toInt ≤ 64 ∧ (x9_105 + (1 : Int32)).toInt + n105 = 65 ∧ 0 ≤ (x7_105 + (if ((τ.2.1 50) ((50 : Int32) + a1).toNatClampNeg) < x11_131 then (0 : Int32) else x10_131)).toInt ∧ (x7_105 + (if ((τ.2.1 50) ((50 : Int32) + a1).toNatClampNeg) < x11_131 then (0 : Int32) else x10_131)).toInt ≤ (x9_105 + (1 : Int32)).toInt * 1000000 from by omega)) hF h (lv_sub hl [0, 5, 1, 6, 7, 8, 9, 10, 11, 12] rfl)
                                  · refine lv_icmp_gt (tgt := 212) hx hb dX9_safe_204 (by decide) (fun c19 => ?_) (fun c19 => ?_)
                                    · have ic19 : ((τ.2.1 50) ((50 : Int32) + a1).toNatClampNeg).toInt < x11_131.toInt := i_lt c19
                                      refine lv_iconst (v := 0) hx hb dX9_safe_212 (by decide) ?_
                                      exact K18 _ _ _ ((if_pos c19).symm) h
                                    · have ic19 : x11_131.toInt ≤ ((τ.2.1 50) ((50 : Int32) + a1).toNatClampNeg).toInt := i_nlt c19
                                      refine lv_iload hx hb dX9_safe_207 (lv_at hl 2 rfl) ?_
                                      refine lv_goto (tgt := 213) hx hb dX9_safe_209 (by decide) ?_
                                      exact K18 _ _ _ ((if_neg c19).symm) h
                                · have ic16 : x12_131.toInt < a4.toInt := i_nle c16
                                  have hF := (if_neg c16).symm.trans hF
                                  refine lv_iload hx hb dX9_safe_138 (lv_at hl 2 rfl) ?_
                                  refine lv_iload hx hb dX9_safe_140 (lv_at hl 3 rfl) ?_
                                  refine lv_iload hx hb dX9_safe_142 (lv_at hl 0 rfl) ?_
                                  refine g_callSi (rest := [.int x10_131]) E h (c_X9_has l D cI cZ z (gws ad cI cZ σ τ) x9_105 x12_131) mw_915 cbX9_has ⟨by decide, by decide⟩ rfl rfl hl.1 (Nat.le_of_ble_eq_true rfl) ⟨Nat.zero_le _, Nat.zero_le _⟩ dX9_safe_144 (fun H locs h => ?_)
                                  refine g_dia (D := D) (z := z) (ws := gws ad cI cZ σ τ) (rest := [.int x10_131]) 160 (if (F_X9_has x9_105 x12_131) = 0 then ((10 : Int32) - a5) else a5) (fun H locs h => ?_) (fun K21 => ?_)
                                  · refine lv_imul hx hb dX9_safe_160 ?_
                                    refine lv_istore (lv' := [(10, .int (x10_131 * (if (F_X9_has x9_105 x12_131) = 0 then ((10 : Int32) - a5) else a5))), (12, .int x12_131), (11, .int x11_131), (9, .int x9_105), (8, .int x8_82), (7, .int x7_105), (0, .ref (ad 48)), (1, .int a1), (2, .int a2), (3, .int a3), (4, .int a4), (5, .int a5), (6, .int a6)]) hx hb dX9_safe_161 hl (by decide) rfl (fun ls hl => ?_)
                                    refine lv_iload hx hb dX9_safe_163 (lv_at hl 2 rfl) ?_
                                    refine lv_iload hx hb dX9_safe_165 (lv_at hl 3 rfl) ?_
                                    refine lv_iload hx hb dX9_safe_167 (lv_at hl 1 rfl) ?_
                                    refine g_callSi (rest := [.int x11_131]) E h (c_X9_has l D cI cZ z (gws ad cI cZ σ τ) x9_105 x12_131) mw_915 cbX9_has ⟨by decide, by decide⟩ rfl rfl hl.1 (Nat.le_of_ble_eq_true rfl) ⟨Nat.zero_le _, Nat.zero_le _⟩ dX9_safe_169 (fun H locs h => ?_)
                                    refine g_dia (D := D) (z := z) (ws := gws ad cI cZ σ τ) (rest := [.int x11_131]) 182 (if (F_X9_has x9_105 x12_131) = 0 then a2 else (a2 + a3)) (fun H locs h => ?_) (fun K24 => ?_)
                                    · refine lv_iadd hx hb dX9_safe_182 ?_
                                      refine lv_istore (lv' := [(11, .int (x11_131 + (if (F_X9_has x9_105 x12_131) = 0 then a2 else (a2 + a3)))), (10, .int (x10_131 * (if (F_X9_has x9_105 x12_131) = 0 then ((10 : Int32) - a5) else a5))), (12, .int x12_131), (9, .int x9_105), (8, .int x8_82), (7, .int x7_105), (0, .ref (ad 48)), (1, .int a1), (2, .int a2), (3, .int a3), (4, .int a4), (5, .int a5), (6, .int a6)]) hx hb dX9_safe_183 hl (by decide) rfl (fun ls hl => ?_)
                                      refine lv_iinc (v := (x12_131 + (1 : Int32))) (lv' := [(12, .int (x12_131 + (1 : Int32))), (11, .int (x11_131 + (if (F_X9_has x9_105 x12_131) = 0 then a2 else (a2 + a3)))), (10, .int (x10_131 * (if (F_X9_has x9_105 x12_131) = 0 then ((10 : Int32) - a5) else a5))), (9, .int x9_105), (8, .int x8_82), (7, .int x7_105), (0, .ref (ad 48)), (1, .int a1), (2, .int a2), (3, .int a3), (4, .int a4), (5, .int a5), (6, .int a6)]) hx hb dX9_safe_185 hl (k := 2) rfl rfl (by decide) rfl (fun ls hl => ?_)
                                      refine lv_goto (tgt := 131) hx hb dX9_safe_188 (by decide) ?_
                                      have e131_12 : (x12_131 + (1 : Int32)).toInt = _ := ti_of (oI_add (oI_at x12_131) (oI_lit (x := 1) (a := 1) rfl)) (by omega)
                                      have hm := mul_b (x := x10_131) (f := (if (F_X9_has x9_105 x12_131) = 0 then ((10 : Int32) - a5) else a5)) (by omega) (fac_rng _ (by omega))
                                      exact ih131 (x12_131 + (1 : Int32)) (x11_131 + (if (F_X9_has x9_105 x12_131) = 0 then a2 else (a2 + a3))) (x10_131 * (if (F_X9_has x9_105 x12_131) = 0 then ((10 : Int32) - a5) else a5)) _ _ ls ((show 0 ≤ (x12_131 + (1 : Int32)).toInt ∧ 0 < n131 ∧ 6 < (x12_131 + (1 : Int32)).toInt + n131 ∧ 0 ≤ (x10_131 * (if (F_X9_has x9_105 x12_131) = 0 then ((10 : Int32) - a5) else a5)).toInt ∧ (((x12_131 + (1 : Int32)).toInt = 0 ∧ (x10_131 * (if (F_X9_has x9_105 x12_131) = 0 then ((10 : Int32) - a5) else a5)).toInt ≤ 1) ∨ ((x12_131 + (1 : Int32)).toInt = 1 ∧ (x10_131 * (if (F_X9_has x9_105 x12_131) = 0 then ((10 : Int32) - a5) else a5)).toInt ≤ 10) ∨ ((x12_131 + (1 : Int32)).toInt = 2 ∧ (x10_131 * (if (F_X9_has x9_105 x12_131) = 0 then ((10 : Int32) - a5) else a5)).toInt ≤ 100) ∨ ((x12_131 + (1 : Int32)).toInt = 3 ∧ (x10_131 * (if (F_X9_has x9_105 x12_131) = 0 then ((10 : Int32) - a5) else a5)).toInt ≤ 1000) ∨ ((x12_131 + (1 : Int32)).toInt = 4 ∧ (x10_131 * (if (F_X9_has x9_105 x12_131) = 0 then ((10 : Int32) - a5) else a5)).toInt ≤ 10000) ∨ ((x12_131 + (1 : Int32)).toInt = 5 ∧ (x10_131 * (if (F_X9_has x9_105 x12_131) = 0 then ((10 : Int32) - a5) else a5)).toInt ≤ 100000) ∨ ((x12_131 + (1 : Int32)).toInt = 6 ∧ (x10_131 * (if (F_X9_has x9_105 x12_131) = 0 then ((10 : Int32) - a5) else a5)).toInt ≤ 1000000)) from by omega)) hF h (lv_sub hl [0, 1, 2, 3, 4, 5, 6, 7, 8, 9, 10, 11, 12] rfl)
                                    · refine lv_if_eq (tgt := 181) hx hb dX9_safe_172 (by decide) (fun c25 => ?_) (fun c25 => ?_)
                                      · have ic25 : (F_X9_has x9_105 x12_131).toInt = 0 := i_eq c25
                                        refine lv_iload_n hx hb dX9_safe_181 rfl (lv_at hl 8 rfl) ?_
                                        exact K24 _ _ _ ((if_pos c25).symm) h
                                      · have ic25 : (F_X9_has x9_105 x12_131).toInt ≠ 0 := i_ne c25
                                        refine lv_iload_n hx hb dX9_safe_175 rfl (lv_at hl 8 rfl) ?_
                                        refine lv_iload_n hx hb dX9_safe_176 rfl (lv_at hl 9 rfl) ?_
                                        refine lv_iadd hx hb dX9_safe_177 ?_
                                        refine lv_goto (tgt := 182) hx hb dX9_safe_178 (by decide) ?_
                                        exact K24 _ _ _ ((if_neg c25).symm) h
                                  · refine lv_if_eq (tgt := 155) hx hb dX9_safe_147 (by decide) (fun c22 => ?_) (fun c22 => ?_)
                                    · have ic22 : (F_X9_has x9_105 x12_131).toInt = 0 := i_eq c22
                                      refine lv_bipush (v := 10) hx hb dX9_safe_155 (by decide) ?_
                                      refine lv_iload hx hb dX9_safe_157 (lv_at hl 11 rfl) ?_
                                      refine lv_isub hx hb dX9_safe_159 ?_
                                      exact K21 _ _ _ ((if_pos c22).symm) h
                                    · have ic22 : (F_X9_has x9_105 x12_131).toInt ≠ 0 := i_ne c22
                                      refine lv_iload hx hb dX9_safe_150 (lv_at hl 11 rfl) ?_
                                      refine lv_goto (tgt := 160) hx hb dX9_safe_152 (by decide) ?_
                                      exact K21 _ _ _ ((if_neg c22).symm) h
                            have q131_12 : (0 : Int32).toInt = 0 := rfl
                            have q131_10 : (1 : Int32).toInt = 1 := rfl
                            exact L131 7 (0 : Int32) ((τ.2.1 53) ((8 : Int32) + a1).toNatClampNeg) (1 : Int32) _ _ ls ((show 0 ≤ (0 : Int32).toInt ∧ 0 < (7 : Nat) ∧ 6 < (0 : Int32).toInt + (7 : Nat) ∧ 0 ≤ (1 : Int32).toInt ∧ (((0 : Int32).toInt = 0 ∧ (1 : Int32).toInt ≤ 1) ∨ ((0 : Int32).toInt = 1 ∧ (1 : Int32).toInt ≤ 10) ∨ ((0 : Int32).toInt = 2 ∧ (1 : Int32).toInt ≤ 100) ∨ ((0 : Int32).toInt = 3 ∧ (1 : Int32).toInt ≤ 1000) ∨ ((0 : Int32).toInt = 4 ∧ (1 : Int32).toInt ≤ 10000) ∨ ((0 : Int32).toInt = 5 ∧ (1 : Int32).toInt ≤ 100000) ∨ ((0 : Int32).toInt = 6 ∧ (1 : Int32).toInt ≤ 1000000)) from by omega)) hF h (lv_sub hl [0, 1, 2, 3, 4, 5, 6, 7, 8, 9, 10, 11, 12] rfl)
                      have q105_9 : (0 : Int32).toInt = 0 := rfl
                      have q105_7 : (0 : Int32).toInt = 0 := rfl
                      exact L105 65 (0 : Int32) (0 : Int32) _ _ ls ((show 0 ≤ (0 : Int32).toInt ∧ (0 : Int32).toInt ≤ 64 ∧ (0 : Int32).toInt + (65 : Nat) = 65 ∧ 0 ≤ (0 : Int32).toInt ∧ (0 : Int32).toInt ≤ (0 : Int32).toInt * 1000000 from by omega)) hF h (lv_sub hl [0, 1, 2, 3, 4, 5, 6, 7, 8, 9] rfl)
                    · have ic9 : x9_82.toInt < a4.toInt := i_nle c9
                      have hF := (if_neg c9).symm.trans hF
                      refine lv_iload hx hb dX9_safe_89 (lv_at hl 1 rfl) ?_
                      refine lv_bipush (v := 10) hx hb dX9_safe_91 (by decide) ?_
                      refine lv_imul hx hb dX9_safe_93 ?_
                      refine lv_istore (lv' := [(8, .int (x8_82 * (10 : Int32))), (9, .int x9_82), (7, .int (0 : Int32)), (0, .ref (ad 48)), (1, .int a1), (2, .int a2), (3, .int a3), (4, .int a4), (5, .int a5), (6, .int a6)]) hx hb dX9_safe_94 hl (by decide) rfl (fun ls hl => ?_)
                      refine lv_iinc (v := (x9_82 + (1 : Int32))) (lv' := [(9, .int (x9_82 + (1 : Int32))), (8, .int (x8_82 * (10 : Int32))), (7, .int (0 : Int32)), (0, .ref (ad 48)), (1, .int a1), (2, .int a2), (3, .int a3), (4, .int a4), (5, .int a5), (6, .int a6)]) hx hb dX9_safe_96 hl (k := 1) rfl rfl (by decide) rfl (fun ls hl => ?_)
                      refine lv_goto (tgt := 82) hx hb dX9_safe_99 (by decide) ?_
                      have e82_9 : (x9_82 + (1 : Int32)).toInt = _ := ti_of (oI_add (oI_at x9_82) (oI_lit (x := 1) (a := 1) rfl)) (by omega)
                      have e82_8 : (x8_82 * (10 : Int32)).toInt = _ := ti_of (oI_mul (oI_at x8_82) (oI_lit (x := 10) (a := 10) rfl)) (by omega)
                      exact ih82 (x9_82 + (1 : Int32)) (x8_82 * (10 : Int32)) _ _ ls ((show 0 ≤ (x9_82 + (1 : Int32)).toInt ∧ 0 < n82 ∧ 6 < (x9_82 + (1 : Int32)).toInt + n82 ∧ 1 ≤ (x8_82 * (10 : Int32)).toInt ∧ (((x9_82 + (1 : Int32)).toInt = 0 ∧ (x8_82 * (10 : Int32)).toInt ≤ 1) ∨ ((x9_82 + (1 : Int32)).toInt = 1 ∧ (x8_82 * (10 : Int32)).toInt ≤ 10) ∨ ((x9_82 + (1 : Int32)).toInt = 2 ∧ (x8_82 * (10 : Int32)).toInt ≤ 100) ∨ ((x9_82 + (1 : Int32)).toInt = 3 ∧ (x8_82 * (10 : Int32)).toInt ≤ 1000) ∨ ((x9_82 + (1 : Int32)).toInt = 4 ∧ (x8_82 * (10 : Int32)).toInt ≤ 10000) ∨ ((x9_82 + (1 : Int32)).toInt = 5 ∧ (x8_82 * (10 : Int32)).toInt ≤ 100000) ∨ ((x9_82 + (1 : Int32)).toInt = 6 ∧ (x8_82 * (10 : Int32)).toInt ≤ 1000000)) from by omega)) hF h (lv_sub hl [0, 1, 2, 3, 4, 5, 6, 7, 8, 9] rfl)
                have q82_9 : (0 : Int32).toInt = 0 := rfl
                have q82_8 : (1 : Int32).toInt = 1 := rfl
                exact L82 7 (0 : Int32) (1 : Int32) _ _ ls ((show 0 ≤ (0 : Int32).toInt ∧ 0 < (7 : Nat) ∧ 6 < (0 : Int32).toInt + (7 : Nat) ∧ 1 ≤ (1 : Int32).toInt ∧ (((0 : Int32).toInt = 0 ∧ (1 : Int32).toInt ≤ 1) ∨ ((0 : Int32).toInt = 1 ∧ (1 : Int32).toInt ≤ 10) ∨ ((0 : Int32).toInt = 2 ∧ (1 : Int32).toInt ≤ 100) ∨ ((0 : Int32).toInt = 3 ∧ (1 : Int32).toInt ≤ 1000) ∨ ((0 : Int32).toInt = 4 ∧ (1 : Int32).toInt ≤ 10000) ∨ ((0 : Int32).toInt = 5 ∧ (1 : Int32).toInt ≤ 100000) ∨ ((0 : Int32).toInt = 6 ∧ (1 : Int32).toInt ≤ 1000000)) from by omega)) hF h (lv_sub hl [0, 1, 2, 3, 4, 5, 6, 7, 8, 9] rfl)
              · have ic7 : (F_X9_isAlive τ a1).toInt = 0 := i_eq c7
                have hF := (if_pos c7).symm.trans hF
                refine lv_bipush (v := (-2)) hx hb dX9_safe_70 (by decide) ?_
                exact g_iret E hr hlk h hQ hF rfl dX9_safe_72
            · have ic6 : (F_X9_in a6 (0 : Int32) (1 : Int32)).toInt = 0 := i_eq c6
              have hF := (if_pos c6).symm.trans hF
              refine lv_iconst (v := (-1)) hx hb dX9_safe_60 (by decide) ?_
              exact g_iret E hr hlk h hQ hF rfl dX9_safe_61
