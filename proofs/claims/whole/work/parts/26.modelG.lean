theorem lt_letter {τ : St} {k : Int32} (h : 0 ≤ (F_X9_letterAt τ k).toInt) : k.toInt < (τ.1 1538).toInt := by
  unfold F_X9_letterAt at h
  split at h
  · exact absurd h (by decide)
  · rename_i c
    exact i_nle c
theorem fz_isLetter {v : Int32} (h : ¬ F_X9_isLetter v = 0) : 97 ≤ v.toInt ∧ v.toInt ≤ 122 := fz_in (lo := 97) (hi := 122) h
theorem fz_isDigit {v : Int32} (h : ¬ F_X9_isDigit v = 0) : 48 ≤ v.toInt ∧ v.toInt ≤ 57 := fz_in (lo := 48) (hi := 57) h
theorem tok_at {at_ v s : Int32} (hv : 0 ≤ v.toInt → at_.toInt < 200) (h : 0 ≤ at_.toInt ∧ at_.toInt ≤ 200) : 0 ≤ (at_ + (if (if 0 ≤ v then s else (0 : Int32)) = 0 then (0 : Int32) else (1 : Int32))).toInt ∧ (at_ + (if (if 0 ≤ v then s else (0 : Int32)) = 0 then (0 : Int32) else (1 : Int32))).toInt ≤ 200 := by
  have h0 : (0 : Int32).toInt = 0 := rfl
  have e0 : (at_ + (0 : Int32)).toInt = at_.toInt + 0 := ti_of (oI_add (oI_at _) (oI_lit (x := 0) (a := 0) rfl)) (by omega)
  by_cases c : 0 ≤ v
  · rw [if_pos c]
    have q := hv (by have := i_le c; omega)
    have e1 : (at_ + (1 : Int32)).toInt = at_.toInt + 1 := ti_of (oI_add (oI_at _) (oI_lit (x := 1) (a := 1) rfl)) (by omega)
    split <;> omega
  · rw [if_neg c, if_pos rfl]
    omega

def F_X9_token_L170 (lf0 : St → St) (lf114 : St → St) : Nat → St → St → St → St → St
  | 0, _, _, _, m170 => m170
  | n + 1, τ, m0, m114, m170 => (if (F_X9_isDigit (F_X9_letterAt m170 (m170.1 1547))) = 0 then m170 else (F_X9_token_L170 lf0 lf114 n τ m0 m114 (si (si m170 1550 (if (F_X9_letterAt (si m0 1549 (m0.1 1547)) (m0.1 1547)) = (48 : Int32) then (1000 : Int32) else (if (m170.1 1550) ≤ (99 : Int32) then ((((10 : Int32) * (m170.1 1550)) + ((m170.2.1 49) (m170.1 1547).toNatClampNeg)) - (48 : Int32)) else (1000 : Int32)))) 1547 ((m170.1 1547) + (1 : Int32)))))
def F_X9_token_J154 (lf0 : St → St) (lf114 : St → St) (τ : St) (m0 : St) (m114 : St) : St := (if (m114.1 1548) = (2 : Int32) then (F_X9_token_L170 lf0 lf114 201 τ m0 m114 (si m114 1550 ((F_X9_letterAt (si m0 1549 (m0.1 1547)) (m0.1 1547)) - (48 : Int32)))) else m114)
def F_X9_token_L114 (lf0 : St → St) : Nat → St → St → St → St
  | 0, _, _, m114 => m114
  | n + 1, τ, m0, m114 => (if (m114.1 1548) = (1 : Int32) then (if (F_X9_isLetter (F_X9_letterAt m114 (m114.1 1547))) = 0 then ((F_X9_token_J154 lf0 (fun y1 => F_X9_token_L114 lf0 n τ m0 y1) τ m0 m114) ) else (F_X9_token_L114 lf0 n τ m0 (si (si m114 1550 (0 : Int32)) 1547 ((m114.1 1547) + (1 : Int32))))) else ((F_X9_token_J154 lf0 (fun y1 => F_X9_token_L114 lf0 n τ m0 y1) τ m0 m114) ))
def F_X9_token_L0 : Nat → St → St → St
  | 0, _, m0 => m0
  | n + 1, τ, m0 => (if (F_X9_letterAt m0 (m0.1 1547)) = (32 : Int32) then (F_X9_token_L0  n τ (si m0 1547 ((m0.1 1547) + (1 : Int32)))) else (F_X9_token_L114 (fun y1 => F_X9_token_L0  n τ y1) 201 τ m0 (si (si (si (si m0 1549 (m0.1 1547)) 1548 (if 0 ≤ (F_X9_letterAt (si m0 1549 (m0.1 1547)) (m0.1 1547)) then (if (F_X9_isLetter (F_X9_letterAt (si m0 1549 (m0.1 1547)) (m0.1 1547))) = 0 then (if (F_X9_isDigit (F_X9_letterAt (si m0 1549 (m0.1 1547)) (m0.1 1547))) = 0 then (if (F_X9_letterAt (si m0 1549 (m0.1 1547)) (m0.1 1547)) = (59 : Int32) then (3 : Int32) else (4 : Int32)) else (2 : Int32)) else (1 : Int32)) else (0 : Int32))) 1550 (F_X9_letterAt (si m0 1549 (m0.1 1547)) (m0.1 1547))) 1547 ((m0.1 1547) + (if (if 0 ≤ (F_X9_letterAt (si m0 1549 (m0.1 1547)) (m0.1 1547)) then (if (F_X9_isLetter (F_X9_letterAt (si m0 1549 (m0.1 1547)) (m0.1 1547))) = 0 then (if (F_X9_isDigit (F_X9_letterAt (si m0 1549 (m0.1 1547)) (m0.1 1547))) = 0 then (if (F_X9_letterAt (si m0 1549 (m0.1 1547)) (m0.1 1547)) = (59 : Int32) then (3 : Int32) else (4 : Int32)) else (2 : Int32)) else (1 : Int32)) else (0 : Int32)) = 0 then (0 : Int32) else (1 : Int32))))))
def F_X9_token (τ : St) : St := (F_X9_token_L0  201 τ τ)
abbrev I_X9_token : List Nat := [1547, 1548, 1549, 1550]
abbrev A_X9_token : List Nat := []
theorem fr_F_X9_token_L170_w (lf0 : St → St) (lf114 : St → St) (τ : St) (m0 : St) (m114 : St) (hlf0 : ∀  (m : St), Fr I_X9_token A_X9_token false τ m → Fr I_X9_token A_X9_token false τ (lf0  m)) (hlf114 : ∀  (m : St), Fr I_X9_token A_X9_token false τ m → Fr I_X9_token A_X9_token false τ (lf114  m)) : ∀ (n : Nat) (m170 : St), Fr I_X9_token A_X9_token false τ m170 → Fr I_X9_token A_X9_token false τ (F_X9_token_L170 lf0 lf114 n τ m0 m114 m170)
  | 0, m170, hfr => hfr
  | n + 1, m170, hfr => (fr_ite1 hfr ((fun y1 hy => fr_F_X9_token_L170_w lf0 lf114 τ m0 m114 hlf0 hlf114 n y1 hy) (si (si m170 1550 (if (F_X9_letterAt (si m0 1549 (m0.1 1547)) (m0.1 1547)) = (48 : Int32) then (1000 : Int32) else (if (m170.1 1550) ≤ (99 : Int32) then ((((10 : Int32) * (m170.1 1550)) + ((m170.2.1 49) (m170.1 1547).toNatClampNeg)) - (48 : Int32)) else (1000 : Int32)))) 1547 ((m170.1 1547) + (1 : Int32))) (Fr.si (by decide) (Fr.si (by decide) hfr))))
theorem fr_F_X9_token_L170 (lf0 : St → St) (lf114 : St → St) (n : Nat) (τ : St) (m0 : St) (m114 : St) (m170 : St) (hlf0 : ∀  (m : St), Fr I_X9_token A_X9_token false τ m → Fr I_X9_token A_X9_token false τ (lf0  m)) (hlf114 : ∀  (m : St), Fr I_X9_token A_X9_token false τ m → Fr I_X9_token A_X9_token false τ (lf114  m)) (hfr : Fr I_X9_token A_X9_token false τ (m170)) : Fr I_X9_token A_X9_token false τ (F_X9_token_L170 lf0 lf114 n τ m0 m114 m170) := fr_F_X9_token_L170_w lf0 lf114 τ m0 m114 hlf0 hlf114 n m170 hfr
theorem fr_F_X9_token_J154 (lf0 : St → St) (lf114 : St → St) (τ : St) (m0 : St) (m114 : St) (hlf0 : ∀  (m : St), Fr I_X9_token A_X9_token false τ m → Fr I_X9_token A_X9_token false τ (lf0  m)) (hlf114 : ∀  (m : St), Fr I_X9_token A_X9_token false τ m → Fr I_X9_token A_X9_token false τ (lf114  m)) (hfr : Fr I_X9_token A_X9_token false τ (m114)) : Fr I_X9_token A_X9_token false τ (F_X9_token_J154 lf0 lf114 τ m0 m114) := (fr_ite1 (fr_F_X9_token_L170 lf0 lf114 201 τ m0 m114 (si m114 1550 ((F_X9_letterAt (si m0 1549 (m0.1 1547)) (m0.1 1547)) - (48 : Int32))) hlf0 hlf114 (Fr.si (by decide) hfr)) hfr)
theorem fr_F_X9_token_L114_w (lf0 : St → St) (τ : St) (m0 : St) (hlf0 : ∀  (m : St), Fr I_X9_token A_X9_token false τ m → Fr I_X9_token A_X9_token false τ (lf0  m)) : ∀ (n : Nat) (m114 : St), Fr I_X9_token A_X9_token false τ m114 → Fr I_X9_token A_X9_token false τ (F_X9_token_L114 lf0 n τ m0 m114)
  | 0, m114, hfr => hfr
  | n + 1, m114, hfr => (fr_ite1 (fr_ite1 ((fr_F_X9_token_J154 lf0 (fun y1 => F_X9_token_L114 lf0 n τ m0 y1) τ m0 m114 hlf0 (fun y1 hy => fr_F_X9_token_L114_w lf0 τ m0 hlf0 n y1 hy) hfr)  ) ((fun y1 hy => fr_F_X9_token_L114_w lf0 τ m0 hlf0 n y1 hy) (si (si m114 1550 (0 : Int32)) 1547 ((m114.1 1547) + (1 : Int32))) (Fr.si (by decide) (Fr.si (by decide) hfr)))) ((fr_F_X9_token_J154 lf0 (fun y1 => F_X9_token_L114 lf0 n τ m0 y1) τ m0 m114 hlf0 (fun y1 hy => fr_F_X9_token_L114_w lf0 τ m0 hlf0 n y1 hy) hfr)  ))
theorem fr_F_X9_token_L114 (lf0 : St → St) (n : Nat) (τ : St) (m0 : St) (m114 : St) (hlf0 : ∀  (m : St), Fr I_X9_token A_X9_token false τ m → Fr I_X9_token A_X9_token false τ (lf0  m)) (hfr : Fr I_X9_token A_X9_token false τ (m114)) : Fr I_X9_token A_X9_token false τ (F_X9_token_L114 lf0 n τ m0 m114) := fr_F_X9_token_L114_w lf0 τ m0 hlf0 n m114 hfr
theorem fr_F_X9_token_L0_w (τ : St) : ∀ (n : Nat) (m0 : St), Fr I_X9_token A_X9_token false τ m0 → Fr I_X9_token A_X9_token false τ (F_X9_token_L0  n τ m0)
  | 0, m0, hfr => hfr
  | n + 1, m0, hfr => (fr_ite1 ((fun y1 hy => fr_F_X9_token_L0_w  τ  n y1 hy) (si m0 1547 ((m0.1 1547) + (1 : Int32))) (Fr.si (by decide) hfr)) (fr_F_X9_token_L114 (fun y1 => F_X9_token_L0  n τ y1) 201 τ m0 (si (si (si (si m0 1549 (m0.1 1547)) 1548 (if 0 ≤ (F_X9_letterAt (si m0 1549 (m0.1 1547)) (m0.1 1547)) then (if (F_X9_isLetter (F_X9_letterAt (si m0 1549 (m0.1 1547)) (m0.1 1547))) = 0 then (if (F_X9_isDigit (F_X9_letterAt (si m0 1549 (m0.1 1547)) (m0.1 1547))) = 0 then (if (F_X9_letterAt (si m0 1549 (m0.1 1547)) (m0.1 1547)) = (59 : Int32) then (3 : Int32) else (4 : Int32)) else (2 : Int32)) else (1 : Int32)) else (0 : Int32))) 1550 (F_X9_letterAt (si m0 1549 (m0.1 1547)) (m0.1 1547))) 1547 ((m0.1 1547) + (if (if 0 ≤ (F_X9_letterAt (si m0 1549 (m0.1 1547)) (m0.1 1547)) then (if (F_X9_isLetter (F_X9_letterAt (si m0 1549 (m0.1 1547)) (m0.1 1547))) = 0 then (if (F_X9_isDigit (F_X9_letterAt (si m0 1549 (m0.1 1547)) (m0.1 1547))) = 0 then (if (F_X9_letterAt (si m0 1549 (m0.1 1547)) (m0.1 1547)) = (59 : Int32) then (3 : Int32) else (4 : Int32)) else (2 : Int32)) else (1 : Int32)) else (0 : Int32)) = 0 then (0 : Int32) else (1 : Int32)))) (fun y1 hy => fr_F_X9_token_L0_w  τ  n y1 hy) (Fr.si (by decide) (Fr.si (by decide) (Fr.si (by decide) (Fr.si (by decide) hfr))))))
theorem fr_F_X9_token_L0 (n : Nat) (τ : St) (m0 : St) (hfr : Fr I_X9_token A_X9_token false τ (m0)) : Fr I_X9_token A_X9_token false τ (F_X9_token_L0  n τ m0) := fr_F_X9_token_L0_w  τ  n m0 hfr
theorem fr_F_X9_token (τ : St) : Fr I_X9_token A_X9_token false τ (F_X9_token τ) := (fr_F_X9_token_L0  201 τ τ Fr.rf)
set_option maxHeartbeats 4000000 in
set_option maxRecDepth 20000 in
theorem c_X9_token (l : Launch) (D : va_G) (cI cZ : ClassId) (z : Nat) (ad : Nat → Nat) (σ τ : St) (hk_ : 0 ≤ (τ.1 1547).toInt ∧ (τ.1 1547).toInt ≤ 200) (ht_ : 0 ≤ (τ.1 1538).toInt ∧ (τ.1 1538).toInt ≤ 200) : gM l yX9_token cX9_token 2 none 3 D cI cZ z (gws ad cI cZ σ τ) [.ref (ad 48)] none (gws ad cI cZ σ (F_X9_token τ)) := by
  refine g_met (own := RX9) (by decide) rfl (Nat.le_of_ble_eq_true rfl) (fun p e s m below meth c ls Q E hr hlk h hl hQ => ?_)
  have hx := E.1
  have hb := E.2.1
  have hF : (F_X9_token τ) = (F_X9_token τ) := rfl
  have hl : lv_has ls 2 [(0, .ref (ad 48))] := hl
  have L0 : ∀ (n0 : Nat) (m0 : St) (H : Heap) (locs : List Loc) (ls : Array Slot), (0 ≤ (m0.1 1547).toInt ∧ (m0.1 1547).toInt ≤ 200 ∧ 200 < (m0.1 1547).toInt + n0 ∧ 0 ≤ (m0.1 1538).toInt ∧ (m0.1 1538).toInt ≤ 200) → F_X9_token_L0  n0 τ m0 = (F_X9_token τ) → gH D z s (gws ad cI cZ σ m0) H locs → lv_has ls 2 [(0, .ref (ad 48))] → W p l e (rmH 3) s m ([.ref (ad 48)] : List Value).toArray below meth c H locs 0 0 Q (F0 m 0 ls []) := by
    clear hF h hl
    intro n0
    induction n0 with
    | zero =>
      intro m0 H locs ls hI
      exact absurd hI (by omega)
    | succ n0 ih0 =>
      intro m0 H locs ls hI0 hF h hl
      refine lv_aload_n hx hb dX9_token_0 rfl (lv_at hl 0 rfl) ?_
      refine lv_aload_n hx hb dX9_token_1 rfl (lv_at hl 0 rfl) ?_
      refine g_get (v := .int (m0.1 1547)) E h 48 rfl rfl layX9 11 (by decide) rfl mw_830 rfl dX9_token_2 ?_
      refine g_callVi (rest := []) E h (c_X9_letterAt l D cI cZ z ad σ m0 (m0.1 1547) (show 0 ≤ (m0.1 1547).toInt from by omega) (show (m0.1 1538).toInt ≤ 200 from by omega)) mw_782 cbX9_letterAt 48 rfl rfl ⟨by decide, by decide⟩ rfl rfl hl.1 (Nat.le_of_ble_eq_true rfl) ⟨Nat.zero_le _, Nat.zero_le _⟩ dX9_token_5 (fun H locs h => ?_)
      refine lv_bipush (v := 32) hx hb dX9_token_8 (by decide) ?_
      refine lv_icmp_ne (tgt := 26) hx hb dX9_token_10 (by decide) (fun c2 => ?_) (fun c2 => ?_)
      · have ic2 : (F_X9_letterAt m0 (m0.1 1547)).toInt ≠ 32 := i_ne c2
        have hF := (if_neg c2).symm.trans hF
        refine lv_aload_n hx hb dX9_token_26 rfl (lv_at hl 0 rfl) ?_
        refine lv_aload_n hx hb dX9_token_27 rfl (lv_at hl 0 rfl) ?_
        refine g_get (v := .int (m0.1 1547)) E h 48 rfl rfl layX9 11 (by decide) rfl mw_830 rfl dX9_token_28 ?_
        refine g_put (v := .int (m0.1 1547)) (ty := .int) (ws' := gws ad cI cZ σ (si m0 1549 (m0.1 1547))) E h 48 rfl rfl layX9 tyX9 tyX9_ok nmX9 13 (by decide) rfl mw_832 rfl rfl rfl rfl (Nat.le_of_ble_eq_true rfl) (gi_1549 ad cI cZ σ m0 (m0.1 1547)) dX9_token_31 (fun H locs h => ?_)
        refine lv_aload_n hx hb dX9_token_34 rfl (lv_at hl 0 rfl) ?_
        refine lv_aload_n hx hb dX9_token_35 rfl (lv_at hl 0 rfl) ?_
        refine g_get (v := .int (m0.1 1547)) E h 48 rfl rfl layX9 11 (by decide) rfl mw_830 rfl dX9_token_36 ?_
        refine g_callVi (rest := []) E h (c_X9_letterAt l D cI cZ z ad σ (si m0 1549 (m0.1 1547)) (m0.1 1547) (show 0 ≤ (m0.1 1547).toInt from by omega) (show (m0.1 1538).toInt ≤ 200 from by omega)) mw_782 cbX9_letterAt 48 rfl rfl ⟨by decide, by decide⟩ rfl rfl hl.1 (Nat.le_of_ble_eq_true rfl) ⟨Nat.zero_le _, Nat.zero_le _⟩ dX9_token_39 (fun H locs h => ?_)
        refine lv_istore_n (lv' := [(1, .int (F_X9_letterAt (si m0 1549 (m0.1 1547)) (m0.1 1547))), (0, .ref (ad 48))]) hx hb dX9_token_42 rfl hl (by decide) rfl (fun ls hl => ?_)
        refine lv_aload_n hx hb dX9_token_43 rfl (lv_at hl 1 rfl) ?_
        refine lv_iload_n hx hb dX9_token_44 rfl (lv_at hl 0 rfl) ?_
        refine g_dia (D := D) (z := z) (ws := gws ad cI cZ σ (si m0 1549 (m0.1 1547))) (rest := [.ref (ad 48)]) 85 (if 0 ≤ (F_X9_letterAt (si m0 1549 (m0.1 1547)) (m0.1 1547)) then (if (F_X9_isLetter (F_X9_letterAt (si m0 1549 (m0.1 1547)) (m0.1 1547))) = 0 then (if (F_X9_isDigit (F_X9_letterAt (si m0 1549 (m0.1 1547)) (m0.1 1547))) = 0 then (if (F_X9_letterAt (si m0 1549 (m0.1 1547)) (m0.1 1547)) = (59 : Int32) then (3 : Int32) else (4 : Int32)) else (2 : Int32)) else (1 : Int32)) else (0 : Int32)) (fun H locs h => ?_) (fun K7 => ?_)
        · refine g_put (v := .int (if 0 ≤ (F_X9_letterAt (si m0 1549 (m0.1 1547)) (m0.1 1547)) then (if (F_X9_isLetter (F_X9_letterAt (si m0 1549 (m0.1 1547)) (m0.1 1547))) = 0 then (if (F_X9_isDigit (F_X9_letterAt (si m0 1549 (m0.1 1547)) (m0.1 1547))) = 0 then (if (F_X9_letterAt (si m0 1549 (m0.1 1547)) (m0.1 1547)) = (59 : Int32) then (3 : Int32) else (4 : Int32)) else (2 : Int32)) else (1 : Int32)) else (0 : Int32))) (ty := .int) (ws' := gws ad cI cZ σ (si (si m0 1549 (m0.1 1547)) 1548 (if 0 ≤ (F_X9_letterAt (si m0 1549 (m0.1 1547)) (m0.1 1547)) then (if (F_X9_isLetter (F_X9_letterAt (si m0 1549 (m0.1 1547)) (m0.1 1547))) = 0 then (if (F_X9_isDigit (F_X9_letterAt (si m0 1549 (m0.1 1547)) (m0.1 1547))) = 0 then (if (F_X9_letterAt (si m0 1549 (m0.1 1547)) (m0.1 1547)) = (59 : Int32) then (3 : Int32) else (4 : Int32)) else (2 : Int32)) else (1 : Int32)) else (0 : Int32)))) E h 48 rfl rfl layX9 tyX9 tyX9_ok nmX9 12 (by decide) rfl mw_831 rfl rfl rfl rfl (Nat.le_of_ble_eq_true rfl) (gi_1548 ad cI cZ σ (si m0 1549 (m0.1 1547)) (if 0 ≤ (F_X9_letterAt (si m0 1549 (m0.1 1547)) (m0.1 1547)) then (if (F_X9_isLetter (F_X9_letterAt (si m0 1549 (m0.1 1547)) (m0.1 1547))) = 0 then (if (F_X9_isDigit (F_X9_letterAt (si m0 1549 (m0.1 1547)) (m0.1 1547))) = 0 then (if (F_X9_letterAt (si m0 1549 (m0.1 1547)) (m0.1 1547)) = (59 : Int32) then (3 : Int32) else (4 : Int32)) else (2 : Int32)) else (1 : Int32)) else (0 : Int32))) dX9_token_85 (fun H locs h => ?_)
          refine lv_aload_n hx hb dX9_token_88 rfl (lv_at hl 1 rfl) ?_
          refine lv_iload_n hx hb dX9_token_89 rfl (lv_at hl 0 rfl) ?_
          refine g_put (v := .int (F_X9_letterAt (si m0 1549 (m0.1 1547)) (m0.1 1547))) (ty := .int) (ws' := gws ad cI cZ σ (si (si (si m0 1549 (m0.1 1547)) 1548 (if 0 ≤ (F_X9_letterAt (si m0 1549 (m0.1 1547)) (m0.1 1547)) then (if (F_X9_isLetter (F_X9_letterAt (si m0 1549 (m0.1 1547)) (m0.1 1547))) = 0 then (if (F_X9_isDigit (F_X9_letterAt (si m0 1549 (m0.1 1547)) (m0.1 1547))) = 0 then (if (F_X9_letterAt (si m0 1549 (m0.1 1547)) (m0.1 1547)) = (59 : Int32) then (3 : Int32) else (4 : Int32)) else (2 : Int32)) else (1 : Int32)) else (0 : Int32))) 1550 (F_X9_letterAt (si m0 1549 (m0.1 1547)) (m0.1 1547)))) E h 48 rfl rfl layX9 tyX9 tyX9_ok nmX9 14 (by decide) rfl mw_833 rfl rfl rfl rfl (Nat.le_of_ble_eq_true rfl) (gi_1550 ad cI cZ σ (si (si m0 1549 (m0.1 1547)) 1548 (if 0 ≤ (F_X9_letterAt (si m0 1549 (m0.1 1547)) (m0.1 1547)) then (if (F_X9_isLetter (F_X9_letterAt (si m0 1549 (m0.1 1547)) (m0.1 1547))) = 0 then (if (F_X9_isDigit (F_X9_letterAt (si m0 1549 (m0.1 1547)) (m0.1 1547))) = 0 then (if (F_X9_letterAt (si m0 1549 (m0.1 1547)) (m0.1 1547)) = (59 : Int32) then (3 : Int32) else (4 : Int32)) else (2 : Int32)) else (1 : Int32)) else (0 : Int32))) (F_X9_letterAt (si m0 1549 (m0.1 1547)) (m0.1 1547))) dX9_token_90 (fun H locs h => ?_)
          refine lv_aload_n hx hb dX9_token_93 rfl (lv_at hl 1 rfl) ?_
          refine lv_dup hx hb dX9_token_94 rfl ?_
          refine g_get (v := .int (m0.1 1547)) E h 48 rfl rfl layX9 11 (by decide) rfl mw_830 rfl dX9_token_95 ?_
          refine lv_aload_n hx hb dX9_token_98 rfl (lv_at hl 1 rfl) ?_
          refine g_get (v := .int (if 0 ≤ (F_X9_letterAt (si m0 1549 (m0.1 1547)) (m0.1 1547)) then (if (F_X9_isLetter (F_X9_letterAt (si m0 1549 (m0.1 1547)) (m0.1 1547))) = 0 then (if (F_X9_isDigit (F_X9_letterAt (si m0 1549 (m0.1 1547)) (m0.1 1547))) = 0 then (if (F_X9_letterAt (si m0 1549 (m0.1 1547)) (m0.1 1547)) = (59 : Int32) then (3 : Int32) else (4 : Int32)) else (2 : Int32)) else (1 : Int32)) else (0 : Int32))) E h 48 rfl rfl layX9 12 (by decide) rfl mw_831 rfl dX9_token_99 ?_
          refine g_dia (D := D) (z := z) (ws := gws ad cI cZ σ (si (si (si m0 1549 (m0.1 1547)) 1548 (if 0 ≤ (F_X9_letterAt (si m0 1549 (m0.1 1547)) (m0.1 1547)) then (if (F_X9_isLetter (F_X9_letterAt (si m0 1549 (m0.1 1547)) (m0.1 1547))) = 0 then (if (F_X9_isDigit (F_X9_letterAt (si m0 1549 (m0.1 1547)) (m0.1 1547))) = 0 then (if (F_X9_letterAt (si m0 1549 (m0.1 1547)) (m0.1 1547)) = (59 : Int32) then (3 : Int32) else (4 : Int32)) else (2 : Int32)) else (1 : Int32)) else (0 : Int32))) 1550 (F_X9_letterAt (si m0 1549 (m0.1 1547)) (m0.1 1547)))) (rest := [.int (m0.1 1547), .ref (ad 48)]) 110 (if (if 0 ≤ (F_X9_letterAt (si m0 1549 (m0.1 1547)) (m0.1 1547)) then (if (F_X9_isLetter (F_X9_letterAt (si m0 1549 (m0.1 1547)) (m0.1 1547))) = 0 then (if (F_X9_isDigit (F_X9_letterAt (si m0 1549 (m0.1 1547)) (m0.1 1547))) = 0 then (if (F_X9_letterAt (si m0 1549 (m0.1 1547)) (m0.1 1547)) = (59 : Int32) then (3 : Int32) else (4 : Int32)) else (2 : Int32)) else (1 : Int32)) else (0 : Int32)) = 0 then (0 : Int32) else (1 : Int32)) (fun H locs h => ?_) (fun K13 => ?_)
          · refine lv_iadd hx hb dX9_token_110 ?_
            refine g_put (v := .int ((m0.1 1547) + (if (if 0 ≤ (F_X9_letterAt (si m0 1549 (m0.1 1547)) (m0.1 1547)) then (if (F_X9_isLetter (F_X9_letterAt (si m0 1549 (m0.1 1547)) (m0.1 1547))) = 0 then (if (F_X9_isDigit (F_X9_letterAt (si m0 1549 (m0.1 1547)) (m0.1 1547))) = 0 then (if (F_X9_letterAt (si m0 1549 (m0.1 1547)) (m0.1 1547)) = (59 : Int32) then (3 : Int32) else (4 : Int32)) else (2 : Int32)) else (1 : Int32)) else (0 : Int32)) = 0 then (0 : Int32) else (1 : Int32)))) (ty := .int) (ws' := gws ad cI cZ σ (si (si (si (si m0 1549 (m0.1 1547)) 1548 (if 0 ≤ (F_X9_letterAt (si m0 1549 (m0.1 1547)) (m0.1 1547)) then (if (F_X9_isLetter (F_X9_letterAt (si m0 1549 (m0.1 1547)) (m0.1 1547))) = 0 then (if (F_X9_isDigit (F_X9_letterAt (si m0 1549 (m0.1 1547)) (m0.1 1547))) = 0 then (if (F_X9_letterAt (si m0 1549 (m0.1 1547)) (m0.1 1547)) = (59 : Int32) then (3 : Int32) else (4 : Int32)) else (2 : Int32)) else (1 : Int32)) else (0 : Int32))) 1550 (F_X9_letterAt (si m0 1549 (m0.1 1547)) (m0.1 1547))) 1547 ((m0.1 1547) + (if (if 0 ≤ (F_X9_letterAt (si m0 1549 (m0.1 1547)) (m0.1 1547)) then (if (F_X9_isLetter (F_X9_letterAt (si m0 1549 (m0.1 1547)) (m0.1 1547))) = 0 then (if (F_X9_isDigit (F_X9_letterAt (si m0 1549 (m0.1 1547)) (m0.1 1547))) = 0 then (if (F_X9_letterAt (si m0 1549 (m0.1 1547)) (m0.1 1547)) = (59 : Int32) then (3 : Int32) else (4 : Int32)) else (2 : Int32)) else (1 : Int32)) else (0 : Int32)) = 0 then (0 : Int32) else (1 : Int32))))) E h 48 rfl rfl layX9 tyX9 tyX9_ok nmX9 11 (by decide) rfl mw_830 rfl rfl rfl rfl (Nat.le_of_ble_eq_true rfl) (gi_1547 ad cI cZ σ (si (si (si m0 1549 (m0.1 1547)) 1548 (if 0 ≤ (F_X9_letterAt (si m0 1549 (m0.1 1547)) (m0.1 1547)) then (if (F_X9_isLetter (F_X9_letterAt (si m0 1549 (m0.1 1547)) (m0.1 1547))) = 0 then (if (F_X9_isDigit (F_X9_letterAt (si m0 1549 (m0.1 1547)) (m0.1 1547))) = 0 then (if (F_X9_letterAt (si m0 1549 (m0.1 1547)) (m0.1 1547)) = (59 : Int32) then (3 : Int32) else (4 : Int32)) else (2 : Int32)) else (1 : Int32)) else (0 : Int32))) 1550 (F_X9_letterAt (si m0 1549 (m0.1 1547)) (m0.1 1547))) ((m0.1 1547) + (if (if 0 ≤ (F_X9_letterAt (si m0 1549 (m0.1 1547)) (m0.1 1547)) then (if (F_X9_isLetter (F_X9_letterAt (si m0 1549 (m0.1 1547)) (m0.1 1547))) = 0 then (if (F_X9_isDigit (F_X9_letterAt (si m0 1549 (m0.1 1547)) (m0.1 1547))) = 0 then (if (F_X9_letterAt (si m0 1549 (m0.1 1547)) (m0.1 1547)) = (59 : Int32) then (3 : Int32) else (4 : Int32)) else (2 : Int32)) else (1 : Int32)) else (0 : Int32)) = 0 then (0 : Int32) else (1 : Int32)))) dX9_token_111 (fun H locs h => ?_)
            have L114 : ∀ (n114 : Nat) (m114 : St) (H : Heap) (locs : List Loc) (ls : Array Slot), (0 ≤ (m114.1 1547).toInt ∧ (m114.1 1547).toInt ≤ 200 ∧ 200 < (m114.1 1547).toInt + n114 ∧ 0 ≤ (m114.1 1538).toInt ∧ (m114.1 1538).toInt ≤ 200) → F_X9_token_L114 (fun y1 => F_X9_token_L0  n0 τ y1) n114 τ m0 m114 = (F_X9_token τ) → gH D z s (gws ad cI cZ σ m114) H locs → lv_has ls 2 [(1, .int (F_X9_letterAt (si m0 1549 (m0.1 1547)) (m0.1 1547))), (0, .ref (ad 48))] → W p l e (rmH 3) s m ([.ref (ad 48)] : List Value).toArray below meth c H locs 0 0 Q (F0 m 114 ls []) := by
              clear hF h hl
              intro n114
              induction n114 with
              | zero =>
                intro m114 H locs ls hI
                exact absurd hI (by omega)
              | succ n114 ih114 =>
                intro m114 H locs ls hI114 hF h hl
                have J154 : ∀ (H : Heap) (locs : List Loc) (ls : Array Slot), (True) → F_X9_token_J154 (fun y1 => F_X9_token_L0  n0 τ y1) (fun y1 => F_X9_token_L114 (fun y1 => F_X9_token_L0  n0 τ y1) n114 τ m0 y1) τ m0 m114  = (F_X9_token τ) → gH D z s (gws ad cI cZ σ m114) H locs → lv_has ls 2 [(1, .int (F_X9_letterAt (si m0 1549 (m0.1 1547)) (m0.1 1547))), (0, .ref (ad 48))] → W p l e (rmH 3) s m ([.ref (ad 48)] : List Value).toArray below meth c H locs 0 0 Q (F0 m 154 ls []) := by
                  clear hF h hl
                  intro  H locs ls hJ154 hF h hl
                  refine lv_aload_n hx hb dX9_token_154 rfl (lv_at hl 1 rfl) ?_
                  refine g_get (v := .int (m114.1 1548)) E h 48 rfl rfl layX9 12 (by decide) rfl mw_831 rfl dX9_token_155 ?_
                  refine lv_iconst (v := 2) hx hb dX9_token_158 (by decide) ?_
                  refine lv_icmp_ne (tgt := 242) hx hb dX9_token_159 (by decide) (fun c16 => ?_) (fun c16 => ?_)
                  · have ic16 : (m114.1 1548).toInt ≠ 2 := i_ne c16
                    have hF := (if_neg c16).symm.trans hF
                    exact g_vret E hr hlk h hQ (congrArg (fun u => gws ad cI cZ σ u) hF) dX9_token_242
                  · have ic16 : (m114.1 1548).toInt = 2 := i_eq c16
                    have hF := (if_pos c16).symm.trans hF
                    refine lv_aload_n hx hb dX9_token_162 rfl (lv_at hl 1 rfl) ?_
                    refine lv_iload_n hx hb dX9_token_163 rfl (lv_at hl 0 rfl) ?_
                    refine lv_bipush (v := 48) hx hb dX9_token_164 (by decide) ?_
                    refine lv_isub hx hb dX9_token_166 ?_
                    refine g_put (v := .int ((F_X9_letterAt (si m0 1549 (m0.1 1547)) (m0.1 1547)) - (48 : Int32))) (ty := .int) (ws' := gws ad cI cZ σ (si m114 1550 ((F_X9_letterAt (si m0 1549 (m0.1 1547)) (m0.1 1547)) - (48 : Int32)))) E h 48 rfl rfl layX9 tyX9 tyX9_ok nmX9 14 (by decide) rfl mw_833 rfl rfl rfl rfl (Nat.le_of_ble_eq_true rfl) (gi_1550 ad cI cZ σ m114 ((F_X9_letterAt (si m0 1549 (m0.1 1547)) (m0.1 1547)) - (48 : Int32))) dX9_token_167 (fun H locs h => ?_)
                    have L170 : ∀ (n170 : Nat) (m170 : St) (H : Heap) (locs : List Loc) (ls : Array Slot), (0 ≤ (m170.1 1547).toInt ∧ (m170.1 1547).toInt ≤ 200 ∧ 200 < (m170.1 1547).toInt + n170 ∧ 0 ≤ (m170.1 1538).toInt ∧ (m170.1 1538).toInt ≤ 200) → F_X9_token_L170 (fun y1 => F_X9_token_L0  n0 τ y1) (fun y1 => F_X9_token_L114 (fun y1 => F_X9_token_L0  n0 τ y1) n114 τ m0 y1) n170 τ m0 m114 m170 = (F_X9_token τ) → gH D z s (gws ad cI cZ σ m170) H locs → lv_has ls 2 [(1, .int (F_X9_letterAt (si m0 1549 (m0.1 1547)) (m0.1 1547))), (0, .ref (ad 48))] → W p l e (rmH 3) s m ([.ref (ad 48)] : List Value).toArray below meth c H locs 0 0 Q (F0 m 170 ls []) := by
                      clear hF h hl
                      intro n170
                      induction n170 with
                      | zero =>
                        intro m170 H locs ls hI
                        exact absurd hI (by omega)
                      | succ n170 ih170 =>
                        intro m170 H locs ls hI170 hF h hl
                        refine lv_aload_n hx hb dX9_token_170 rfl (lv_at hl 1 rfl) ?_
                        refine lv_aload_n hx hb dX9_token_171 rfl (lv_at hl 1 rfl) ?_
                        refine g_get (v := .int (m170.1 1547)) E h 48 rfl rfl layX9 11 (by decide) rfl mw_830 rfl dX9_token_172 ?_
                        refine g_callVi (rest := []) E h (c_X9_letterAt l D cI cZ z ad σ m170 (m170.1 1547) (show 0 ≤ (m170.1 1547).toInt from by omega) (show (m170.1 1538).toInt ≤ 200 from by omega)) mw_782 cbX9_letterAt 48 rfl rfl ⟨by decide, by decide⟩ rfl rfl hl.1 (Nat.le_of_ble_eq_true rfl) ⟨Nat.zero_le _, Nat.zero_le _⟩ dX9_token_175 (fun H locs h => ?_)
                        refine g_callSi (rest := []) E h (c_X9_isDigit l D cI cZ z (gws ad cI cZ σ m170) (F_X9_letterAt m170 (m170.1 1547))) mw_792 cbX9_isDigit ⟨by decide, by decide⟩ rfl rfl hl.1 (Nat.le_of_ble_eq_true rfl) ⟨Nat.zero_le _, Nat.zero_le _⟩ dX9_token_178 (fun H locs h => ?_)
                        refine lv_if_eq (tgt := 242) hx hb dX9_token_181 (by decide) (fun c18 => ?_) (fun c18 => ?_)
                        · have ic18 : (F_X9_isDigit (F_X9_letterAt m170 (m170.1 1547))).toInt = 0 := i_eq c18
                          have hF := (if_pos c18).symm.trans hF
                          exact g_vret E hr hlk h hQ (congrArg (fun u => gws ad cI cZ σ u) hF) dX9_token_242
                        · have ic18 : (F_X9_isDigit (F_X9_letterAt m170 (m170.1 1547))).toInt ≠ 0 := i_ne c18
                          have jc18 := fz_isDigit c18
                          have hF := (if_neg c18).symm.trans hF
                          have hk : (m170.1 1547).toInt < (m170.1 1538).toInt := lt_letter (τ := m170) (k := m170.1 1547) (by omega)
                          refine lv_aload_n hx hb dX9_token_184 rfl (lv_at hl 1 rfl) ?_
                          refine lv_iload_n hx hb dX9_token_185 rfl (lv_at hl 0 rfl) ?_
                          refine lv_bipush (v := 48) hx hb dX9_token_186 (by decide) ?_
                          refine g_dia (D := D) (z := z) (ws := gws ad cI cZ σ m170) (rest := [.ref (ad 48)]) 226 (if (F_X9_letterAt (si m0 1549 (m0.1 1547)) (m0.1 1547)) = (48 : Int32) then (1000 : Int32) else (if (m170.1 1550) ≤ (99 : Int32) then ((((10 : Int32) * (m170.1 1550)) + ((m170.2.1 49) (m170.1 1547).toNatClampNeg)) - (48 : Int32)) else (1000 : Int32))) (fun H locs h => ?_) (fun K21 => ?_)
                          · refine g_put (v := .int (if (F_X9_letterAt (si m0 1549 (m0.1 1547)) (m0.1 1547)) = (48 : Int32) then (1000 : Int32) else (if (m170.1 1550) ≤ (99 : Int32) then ((((10 : Int32) * (m170.1 1550)) + ((m170.2.1 49) (m170.1 1547).toNatClampNeg)) - (48 : Int32)) else (1000 : Int32)))) (ty := .int) (ws' := gws ad cI cZ σ (si m170 1550 (if (F_X9_letterAt (si m0 1549 (m0.1 1547)) (m0.1 1547)) = (48 : Int32) then (1000 : Int32) else (if (m170.1 1550) ≤ (99 : Int32) then ((((10 : Int32) * (m170.1 1550)) + ((m170.2.1 49) (m170.1 1547).toNatClampNeg)) - (48 : Int32)) else (1000 : Int32))))) E h 48 rfl rfl layX9 tyX9 tyX9_ok nmX9 14 (by decide) rfl mw_833 rfl rfl rfl rfl (Nat.le_of_ble_eq_true rfl) (gi_1550 ad cI cZ σ m170 (if (F_X9_letterAt (si m0 1549 (m0.1 1547)) (m0.1 1547)) = (48 : Int32) then (1000 : Int32) else (if (m170.1 1550) ≤ (99 : Int32) then ((((10 : Int32) * (m170.1 1550)) + ((m170.2.1 49) (m170.1 1547).toNatClampNeg)) - (48 : Int32)) else (1000 : Int32)))) dX9_token_226 (fun H locs h => ?_)
                            refine lv_aload_n hx hb dX9_token_229 rfl (lv_at hl 1 rfl) ?_
                            refine lv_dup hx hb dX9_token_230 rfl ?_
                            refine g_get (v := .int (m170.1 1547)) E h 48 rfl rfl layX9 11 (by decide) rfl mw_830 rfl dX9_token_231 ?_
                            refine lv_iconst (v := 1) hx hb dX9_token_234 (by decide) ?_
                            refine lv_iadd hx hb dX9_token_235 ?_
                            refine g_put (v := .int ((m170.1 1547) + (1 : Int32))) (ty := .int) (ws' := gws ad cI cZ σ (si (si m170 1550 (if (F_X9_letterAt (si m0 1549 (m0.1 1547)) (m0.1 1547)) = (48 : Int32) then (1000 : Int32) else (if (m170.1 1550) ≤ (99 : Int32) then ((((10 : Int32) * (m170.1 1550)) + ((m170.2.1 49) (m170.1 1547).toNatClampNeg)) - (48 : Int32)) else (1000 : Int32)))) 1547 ((m170.1 1547) + (1 : Int32)))) E h 48 rfl rfl layX9 tyX9 tyX9_ok nmX9 11 (by decide) rfl mw_830 rfl rfl rfl rfl (Nat.le_of_ble_eq_true rfl) (gi_1547 ad cI cZ σ (si m170 1550 (if (F_X9_letterAt (si m0 1549 (m0.1 1547)) (m0.1 1547)) = (48 : Int32) then (1000 : Int32) else (if (m170.1 1550) ≤ (99 : Int32) then ((((10 : Int32) * (m170.1 1550)) + ((m170.2.1 49) (m170.1 1547).toNatClampNeg)) - (48 : Int32)) else (1000 : Int32)))) ((m170.1 1547) + (1 : Int32))) dX9_token_236 (fun H locs h => ?_)
                            refine lv_goto (tgt := 170) hx hb dX9_token_239 (by decide) ?_
                            have eat : ((m170.1 1547) + (1 : Int32)).toInt = (m170.1 1547).toInt + 1 := ti_of (oI_add (oI_at _) (oI_lit (x := 1) (a := 1) rfl)) (by omega)
                            exact ih170  (si (si m170 1550 (if (F_X9_letterAt (si m0 1549 (m0.1 1547)) (m0.1 1547)) = (48 : Int32) then (1000 : Int32) else (if (m170.1 1550) ≤ (99 : Int32) then ((((10 : Int32) * (m170.1 1550)) + ((m170.2.1 49) (m170.1 1547).toNatClampNeg)) - (48 : Int32)) else (1000 : Int32)))) 1547 ((m170.1 1547) + (1 : Int32))) _ _ ls ((show 0 ≤ ((m170.1 1547) + (1 : Int32)).toInt ∧ ((m170.1 1547) + (1 : Int32)).toInt ≤ 200 ∧ 200 < ((m170.1 1547) + (1 : Int32)).toInt + n170 ∧ 0 ≤ (m170.1 1538).toInt ∧ (m170.1 1538).toInt ≤ 200 from by omega)) hF h (lv_sub hl [0, 1] rfl)
                          · refine lv_icmp_eq (tgt := 200) hx hb dX9_token_188 (by decide) (fun c22 => ?_) (fun c22 => ?_)
                            · have ic22 : (F_X9_letterAt (si m0 1549 (m0.1 1547)) (m0.1 1547)).toInt = 48 := i_eq c22
                              refine lv_sipush (v := 1000) hx hb dX9_token_200 (by decide) ?_
                              refine lv_goto (tgt := 226) hx hb dX9_token_203 (by decide) ?_
                              exact K21 _ _ _ ((if_pos c22).symm) h
                            · have ic22 : (F_X9_letterAt (si m0 1549 (m0.1 1547)) (m0.1 1547)).toInt ≠ 48 := i_ne c22
                              refine lv_aload_n hx hb dX9_token_191 rfl (lv_at hl 1 rfl) ?_
                              refine g_get (v := .int (m170.1 1550)) E h 48 rfl rfl layX9 14 (by decide) rfl mw_833 rfl dX9_token_192 ?_
                              refine lv_bipush (v := 99) hx hb dX9_token_195 (by decide) ?_
                              refine lv_icmp_le (tgt := 206) hx hb dX9_token_197 (by decide) (fun c23 => ?_) (fun c23 => ?_)
                              · have ic23 : (m170.1 1550).toInt ≤ 99 := i_le c23
                                refine lv_bipush (v := 10) hx hb dX9_token_206 (by decide) ?_
                                refine lv_aload_n hx hb dX9_token_208 rfl (lv_at hl 1 rfl) ?_
                                refine g_get (v := .int (m170.1 1550)) E h 48 rfl rfl layX9 14 (by decide) rfl mw_833 rfl dX9_token_209 ?_
                                refine lv_imul hx hb dX9_token_212 ?_
                                refine lv_aload_n hx hb dX9_token_213 rfl (lv_at hl 1 rfl) ?_
                                refine g_get (v := .ref (ad 49)) E h 48 rfl rfl layX9 1 (by decide) rfl mw_820 rfl dX9_token_214 ?_
                                refine lv_aload_n hx hb dX9_token_217 rfl (lv_at hl 1 rfl) ?_
                                refine g_get (v := .int (m170.1 1547)) E h 48 rfl rfl layX9 11 (by decide) rfl mw_830 rfl dX9_token_218 ?_
                                refine g_iald (f := (m170.2.1 49)) E h 49 rfl (ix_of (oI_at (m170.1 1547)) (by omega) (by decide)) dX9_token_221 ?_
                                refine lv_iadd hx hb dX9_token_222 ?_
                                refine lv_bipush (v := 48) hx hb dX9_token_223 (by decide) ?_
                                refine lv_isub hx hb dX9_token_225 ?_
                                exact K21 _ _ _ (((if_neg c22).trans (if_pos c23)).symm) h
                              · have ic23 : 99 < (m170.1 1550).toInt := i_nle c23
                                refine lv_sipush (v := 1000) hx hb dX9_token_200 (by decide) ?_
                                refine lv_goto (tgt := 226) hx hb dX9_token_203 (by decide) ?_
                                exact K21 _ _ _ (((if_neg c22).trans (if_neg c23)).symm) h
                    exact L170 201  (si m114 1550 ((F_X9_letterAt (si m0 1549 (m0.1 1547)) (m0.1 1547)) - (48 : Int32))) _ _ ls ((show 0 ≤ (m114.1 1547).toInt ∧ (m114.1 1547).toInt ≤ 200 ∧ 200 < (m114.1 1547).toInt + (201 : Nat) ∧ 0 ≤ (m114.1 1538).toInt ∧ (m114.1 1538).toInt ≤ 200 from by omega)) hF h (lv_sub hl [0, 1] rfl)
                refine lv_aload_n hx hb dX9_token_114 rfl (lv_at hl 1 rfl) ?_
                refine g_get (v := .int (m114.1 1548)) E h 48 rfl rfl layX9 12 (by decide) rfl mw_831 rfl dX9_token_115 ?_
                refine lv_iconst (v := 1) hx hb dX9_token_118 (by decide) ?_
                refine lv_icmp_ne (tgt := 154) hx hb dX9_token_119 (by decide) (fun c24 => ?_) (fun c24 => ?_)
                · have ic24 : (m114.1 1548).toInt ≠ 1 := i_ne c24
                  have hF := (if_neg c24).symm.trans hF
                  exact J154  _ _ ls ((show True from by trivial)) hF h (lv_sub hl [0, 1] rfl)
                · have ic24 : (m114.1 1548).toInt = 1 := i_eq c24
                  have hF := (if_pos c24).symm.trans hF
                  refine lv_aload_n hx hb dX9_token_122 rfl (lv_at hl 1 rfl) ?_
                  refine lv_aload_n hx hb dX9_token_123 rfl (lv_at hl 1 rfl) ?_
                  refine g_get (v := .int (m114.1 1547)) E h 48 rfl rfl layX9 11 (by decide) rfl mw_830 rfl dX9_token_124 ?_
                  refine g_callVi (rest := []) E h (c_X9_letterAt l D cI cZ z ad σ m114 (m114.1 1547) (show 0 ≤ (m114.1 1547).toInt from by omega) (show (m114.1 1538).toInt ≤ 200 from by omega)) mw_782 cbX9_letterAt 48 rfl rfl ⟨by decide, by decide⟩ rfl rfl hl.1 (Nat.le_of_ble_eq_true rfl) ⟨Nat.zero_le _, Nat.zero_le _⟩ dX9_token_127 (fun H locs h => ?_)
                  refine g_callSi (rest := []) E h (c_X9_isLetter l D cI cZ z (gws ad cI cZ σ m114) (F_X9_letterAt m114 (m114.1 1547))) mw_786 cbX9_isLetter ⟨by decide, by decide⟩ rfl rfl hl.1 (Nat.le_of_ble_eq_true rfl) ⟨Nat.zero_le _, Nat.zero_le _⟩ dX9_token_130 (fun H locs h => ?_)
                  refine lv_if_eq (tgt := 154) hx hb dX9_token_133 (by decide) (fun c25 => ?_) (fun c25 => ?_)
                  · have ic25 : (F_X9_isLetter (F_X9_letterAt m114 (m114.1 1547))).toInt = 0 := i_eq c25
                    have hF := (if_pos c25).symm.trans hF
                    exact J154  _ _ ls ((show True from by trivial)) hF h (lv_sub hl [0, 1] rfl)
                  · have ic25 : (F_X9_isLetter (F_X9_letterAt m114 (m114.1 1547))).toInt ≠ 0 := i_ne c25
                    have jc25 := fz_isLetter c25
                    have hF := (if_neg c25).symm.trans hF
                    have hk : (m114.1 1547).toInt < (m114.1 1538).toInt := lt_letter (τ := m114) (k := m114.1 1547) (by omega)
                    refine lv_aload_n hx hb dX9_token_136 rfl (lv_at hl 1 rfl) ?_
                    refine lv_iconst (v := 0) hx hb dX9_token_137 (by decide) ?_
                    refine g_put (v := .int (0 : Int32)) (ty := .int) (ws' := gws ad cI cZ σ (si m114 1550 (0 : Int32))) E h 48 rfl rfl layX9 tyX9 tyX9_ok nmX9 14 (by decide) rfl mw_833 rfl rfl rfl rfl (Nat.le_of_ble_eq_true rfl) (gi_1550 ad cI cZ σ m114 (0 : Int32)) dX9_token_138 (fun H locs h => ?_)
                    refine lv_aload_n hx hb dX9_token_141 rfl (lv_at hl 1 rfl) ?_
                    refine lv_dup hx hb dX9_token_142 rfl ?_
                    refine g_get (v := .int (m114.1 1547)) E h 48 rfl rfl layX9 11 (by decide) rfl mw_830 rfl dX9_token_143 ?_
                    refine lv_iconst (v := 1) hx hb dX9_token_146 (by decide) ?_
                    refine lv_iadd hx hb dX9_token_147 ?_
                    refine g_put (v := .int ((m114.1 1547) + (1 : Int32))) (ty := .int) (ws' := gws ad cI cZ σ (si (si m114 1550 (0 : Int32)) 1547 ((m114.1 1547) + (1 : Int32)))) E h 48 rfl rfl layX9 tyX9 tyX9_ok nmX9 11 (by decide) rfl mw_830 rfl rfl rfl rfl (Nat.le_of_ble_eq_true rfl) (gi_1547 ad cI cZ σ (si m114 1550 (0 : Int32)) ((m114.1 1547) + (1 : Int32))) dX9_token_148 (fun H locs h => ?_)
                    refine lv_goto (tgt := 114) hx hb dX9_token_151 (by decide) ?_
                    have eat : ((m114.1 1547) + (1 : Int32)).toInt = (m114.1 1547).toInt + 1 := ti_of (oI_add (oI_at _) (oI_lit (x := 1) (a := 1) rfl)) (by omega)
                    exact ih114  (si (si m114 1550 (0 : Int32)) 1547 ((m114.1 1547) + (1 : Int32))) _ _ ls ((show 0 ≤ ((m114.1 1547) + (1 : Int32)).toInt ∧ ((m114.1 1547) + (1 : Int32)).toInt ≤ 200 ∧ 200 < ((m114.1 1547) + (1 : Int32)).toInt + n114 ∧ 0 ≤ (m114.1 1538).toInt ∧ (m114.1 1538).toInt ≤ 200 from by omega)) hF h (lv_sub hl [0, 1] rfl)
            have hat : 0 ≤ ((m0.1 1547) + (if (if 0 ≤ (F_X9_letterAt (si m0 1549 (m0.1 1547)) (m0.1 1547)) then (if (F_X9_isLetter (F_X9_letterAt (si m0 1549 (m0.1 1547)) (m0.1 1547))) = 0 then (if (F_X9_isDigit (F_X9_letterAt (si m0 1549 (m0.1 1547)) (m0.1 1547))) = 0 then (if (F_X9_letterAt (si m0 1549 (m0.1 1547)) (m0.1 1547)) = (59 : Int32) then (3 : Int32) else (4 : Int32)) else (2 : Int32)) else (1 : Int32)) else (0 : Int32)) = 0 then (0 : Int32) else (1 : Int32))).toInt ∧ ((m0.1 1547) + (if (if 0 ≤ (F_X9_letterAt (si m0 1549 (m0.1 1547)) (m0.1 1547)) then (if (F_X9_isLetter (F_X9_letterAt (si m0 1549 (m0.1 1547)) (m0.1 1547))) = 0 then (if (F_X9_isDigit (F_X9_letterAt (si m0 1549 (m0.1 1547)) (m0.1 1547))) = 0 then (if (F_X9_letterAt (si m0 1549 (m0.1 1547)) (m0.1 1547)) = (59 : Int32) then (3 : Int32) else (4 : Int32)) else (2 : Int32)) else (1 : Int32)) else (0 : Int32)) = 0 then (0 : Int32) else (1 : Int32))).toInt ≤ 200 := tok_at (fun q => by have q2 : (m0.1 1547).toInt < (m0.1 1538).toInt := lt_letter (τ := si m0 1549 (m0.1 1547)) q; omega) (by omega)
            exact L114 201  (si (si (si (si m0 1549 (m0.1 1547)) 1548 (if 0 ≤ (F_X9_letterAt (si m0 1549 (m0.1 1547)) (m0.1 1547)) then (if (F_X9_isLetter (F_X9_letterAt (si m0 1549 (m0.1 1547)) (m0.1 1547))) = 0 then (if (F_X9_isDigit (F_X9_letterAt (si m0 1549 (m0.1 1547)) (m0.1 1547))) = 0 then (if (F_X9_letterAt (si m0 1549 (m0.1 1547)) (m0.1 1547)) = (59 : Int32) then (3 : Int32) else (4 : Int32)) else (2 : Int32)) else (1 : Int32)) else (0 : Int32))) 1550 (F_X9_letterAt (si m0 1549 (m0.1 1547)) (m0.1 1547))) 1547 ((m0.1 1547) + (if (if 0 ≤ (F_X9_letterAt (si m0 1549 (m0.1 1547)) (m0.1 1547)) then (if (F_X9_isLetter (F_X9_letterAt (si m0 1549 (m0.1 1547)) (m0.1 1547))) = 0 then (if (F_X9_isDigit (F_X9_letterAt (si m0 1549 (m0.1 1547)) (m0.1 1547))) = 0 then (if (F_X9_letterAt (si m0 1549 (m0.1 1547)) (m0.1 1547)) = (59 : Int32) then (3 : Int32) else (4 : Int32)) else (2 : Int32)) else (1 : Int32)) else (0 : Int32)) = 0 then (0 : Int32) else (1 : Int32)))) _ _ ls ((show 0 ≤ ((m0.1 1547) + (if (if 0 ≤ (F_X9_letterAt (si m0 1549 (m0.1 1547)) (m0.1 1547)) then (if (F_X9_isLetter (F_X9_letterAt (si m0 1549 (m0.1 1547)) (m0.1 1547))) = 0 then (if (F_X9_isDigit (F_X9_letterAt (si m0 1549 (m0.1 1547)) (m0.1 1547))) = 0 then (if (F_X9_letterAt (si m0 1549 (m0.1 1547)) (m0.1 1547)) = (59 : Int32) then (3 : Int32) else (4 : Int32)) else (2 : Int32)) else (1 : Int32)) else (0 : Int32)) = 0 then (0 : Int32) else (1 : Int32))).toInt ∧ ((m0.1 1547) + (if (if 0 ≤ (F_X9_letterAt (si m0 1549 (m0.1 1547)) (m0.1 1547)) then (if (F_X9_isLetter (F_X9_letterAt (si m0 1549 (m0.1 1547)) (m0.1 1547))) = 0 then (if (F_X9_isDigit (F_X9_letterAt (si m0 1549 (m0.1 1547)) (m0.1 1547))) = 0 then (if (F_X9_letterAt (si m0 1549 (m0.1 1547)) (m0.1 1547)) = (59 : Int32) then (3 : Int32) else (4 : Int32)) else (2 : Int32)) else (1 : Int32)) else (0 : Int32)) = 0 then (0 : Int32) else (1 : Int32))).toInt ≤ 200 ∧ 200 < ((m0.1 1547) + (if (if 0 ≤ (F_X9_letterAt (si m0 1549 (m0.1 1547)) (m0.1 1547)) then (if (F_X9_isLetter (F_X9_letterAt (si m0 1549 (m0.1 1547)) (m0.1 1547))) = 0 then (if (F_X9_isDigit (F_X9_letterAt (si m0 1549 (m0.1 1547)) (m0.1 1547))) = 0 then (if (F_X9_letterAt (si m0 1549 (m0.1 1547)) (m0.1 1547)) = (59 : Int32) then (3 : Int32) else (4 : Int32)) else (2 : Int32)) else (1 : Int32)) else (0 : Int32)) = 0 then (0 : Int32) else (1 : Int32))).toInt + (201 : Nat) ∧ 0 ≤ (m0.1 1538).toInt ∧ (m0.1 1538).toInt ≤ 200 from by omega)) hF h (lv_sub hl [0, 1] rfl)
          · refine lv_if_ne (tgt := 109) hx hb dX9_token_102 (by decide) (fun c14 => ?_) (fun c14 => ?_)
            · have ic14 : (if 0 ≤ (F_X9_letterAt (si m0 1549 (m0.1 1547)) (m0.1 1547)) then (if (F_X9_isLetter (F_X9_letterAt (si m0 1549 (m0.1 1547)) (m0.1 1547))) = 0 then (if (F_X9_isDigit (F_X9_letterAt (si m0 1549 (m0.1 1547)) (m0.1 1547))) = 0 then (if (F_X9_letterAt (si m0 1549 (m0.1 1547)) (m0.1 1547)) = (59 : Int32) then (3 : Int32) else (4 : Int32)) else (2 : Int32)) else (1 : Int32)) else (0 : Int32)).toInt ≠ 0 := i_ne c14
              refine lv_iconst (v := 1) hx hb dX9_token_109 (by decide) ?_
              exact K13 _ _ _ ((if_neg c14).symm) h
            · have ic14 : (if 0 ≤ (F_X9_letterAt (si m0 1549 (m0.1 1547)) (m0.1 1547)) then (if (F_X9_isLetter (F_X9_letterAt (si m0 1549 (m0.1 1547)) (m0.1 1547))) = 0 then (if (F_X9_isDigit (F_X9_letterAt (si m0 1549 (m0.1 1547)) (m0.1 1547))) = 0 then (if (F_X9_letterAt (si m0 1549 (m0.1 1547)) (m0.1 1547)) = (59 : Int32) then (3 : Int32) else (4 : Int32)) else (2 : Int32)) else (1 : Int32)) else (0 : Int32)).toInt = 0 := i_eq c14
              refine lv_iconst (v := 0) hx hb dX9_token_105 (by decide) ?_
              refine lv_goto (tgt := 110) hx hb dX9_token_106 (by decide) ?_
              exact K13 _ _ _ ((if_pos c14).symm) h
        · refine lv_if_ge (tgt := 52) hx hb dX9_token_45 (by decide) (fun c8 => ?_) (fun c8 => ?_)
          · have ic8 : 0 ≤ (F_X9_letterAt (si m0 1549 (m0.1 1547)) (m0.1 1547)).toInt := i_le c8
            refine lv_iload_n hx hb dX9_token_52 rfl (lv_at hl 0 rfl) ?_
            refine g_callSi (rest := [.ref (ad 48)]) E h (c_X9_isLetter l D cI cZ z (gws ad cI cZ σ (si m0 1549 (m0.1 1547))) (F_X9_letterAt (si m0 1549 (m0.1 1547)) (m0.1 1547))) mw_786 cbX9_isLetter ⟨by decide, by decide⟩ rfl rfl hl.1 (Nat.le_of_ble_eq_true rfl) ⟨Nat.zero_le _, Nat.zero_le _⟩ dX9_token_53 (fun H locs h => ?_)
            refine lv_if_eq (tgt := 63) hx hb dX9_token_56 (by decide) (fun c9 => ?_) (fun c9 => ?_)
            · have ic9 : (F_X9_isLetter (F_X9_letterAt (si m0 1549 (m0.1 1547)) (m0.1 1547))).toInt = 0 := i_eq c9
              refine lv_iload_n hx hb dX9_token_63 rfl (lv_at hl 0 rfl) ?_
              refine g_callSi (rest := [.ref (ad 48)]) E h (c_X9_isDigit l D cI cZ z (gws ad cI cZ σ (si m0 1549 (m0.1 1547))) (F_X9_letterAt (si m0 1549 (m0.1 1547)) (m0.1 1547))) mw_792 cbX9_isDigit ⟨by decide, by decide⟩ rfl rfl hl.1 (Nat.le_of_ble_eq_true rfl) ⟨Nat.zero_le _, Nat.zero_le _⟩ dX9_token_64 (fun H locs h => ?_)
              refine lv_if_eq (tgt := 74) hx hb dX9_token_67 (by decide) (fun c10 => ?_) (fun c10 => ?_)
              · have ic10 : (F_X9_isDigit (F_X9_letterAt (si m0 1549 (m0.1 1547)) (m0.1 1547))).toInt = 0 := i_eq c10
                refine lv_iload_n hx hb dX9_token_74 rfl (lv_at hl 0 rfl) ?_
                refine lv_bipush (v := 59) hx hb dX9_token_75 (by decide) ?_
                refine lv_icmp_ne (tgt := 84) hx hb dX9_token_77 (by decide) (fun c11 => ?_) (fun c11 => ?_)
                · have ic11 : (F_X9_letterAt (si m0 1549 (m0.1 1547)) (m0.1 1547)).toInt ≠ 59 := i_ne c11
                  refine lv_iconst (v := 4) hx hb dX9_token_84 (by decide) ?_
                  exact K7 _ _ _ (((if_pos c8).trans ((if_pos c9).trans ((if_pos c10).trans (if_neg c11)))).symm) h
                · have ic11 : (F_X9_letterAt (si m0 1549 (m0.1 1547)) (m0.1 1547)).toInt = 59 := i_eq c11
                  refine lv_iconst (v := 3) hx hb dX9_token_80 (by decide) ?_
                  refine lv_goto (tgt := 85) hx hb dX9_token_81 (by decide) ?_
                  exact K7 _ _ _ (((if_pos c8).trans ((if_pos c9).trans ((if_pos c10).trans (if_pos c11)))).symm) h
              · have ic10 : (F_X9_isDigit (F_X9_letterAt (si m0 1549 (m0.1 1547)) (m0.1 1547))).toInt ≠ 0 := i_ne c10
                have jc10 := fz_isDigit c10
                refine lv_iconst (v := 2) hx hb dX9_token_70 (by decide) ?_
                refine lv_goto (tgt := 85) hx hb dX9_token_71 (by decide) ?_
                exact K7 _ _ _ (((if_pos c8).trans ((if_pos c9).trans (if_neg c10))).symm) h
            · have ic9 : (F_X9_isLetter (F_X9_letterAt (si m0 1549 (m0.1 1547)) (m0.1 1547))).toInt ≠ 0 := i_ne c9
              have jc9 := fz_isLetter c9
              refine lv_iconst (v := 1) hx hb dX9_token_59 (by decide) ?_
              refine lv_goto (tgt := 85) hx hb dX9_token_60 (by decide) ?_
              exact K7 _ _ _ (((if_pos c8).trans (if_neg c9)).symm) h
          · have ic8 : (F_X9_letterAt (si m0 1549 (m0.1 1547)) (m0.1 1547)).toInt < 0 := i_nle c8
            refine lv_iconst (v := 0) hx hb dX9_token_48 (by decide) ?_
            refine lv_goto (tgt := 85) hx hb dX9_token_49 (by decide) ?_
            exact K7 _ _ _ ((if_neg c8).symm) h
      · have ic2 : (F_X9_letterAt m0 (m0.1 1547)).toInt = 32 := i_eq c2
        have hF := (if_pos c2).symm.trans hF
        have hk : (m0.1 1547).toInt < (m0.1 1538).toInt := lt_letter (τ := m0) (k := m0.1 1547) (by omega)
        refine lv_aload_n hx hb dX9_token_13 rfl (lv_at hl 0 rfl) ?_
        refine lv_dup hx hb dX9_token_14 rfl ?_
        refine g_get (v := .int (m0.1 1547)) E h 48 rfl rfl layX9 11 (by decide) rfl mw_830 rfl dX9_token_15 ?_
        refine lv_iconst (v := 1) hx hb dX9_token_18 (by decide) ?_
        refine lv_iadd hx hb dX9_token_19 ?_
        refine g_put (v := .int ((m0.1 1547) + (1 : Int32))) (ty := .int) (ws' := gws ad cI cZ σ (si m0 1547 ((m0.1 1547) + (1 : Int32)))) E h 48 rfl rfl layX9 tyX9 tyX9_ok nmX9 11 (by decide) rfl mw_830 rfl rfl rfl rfl (Nat.le_of_ble_eq_true rfl) (gi_1547 ad cI cZ σ m0 ((m0.1 1547) + (1 : Int32))) dX9_token_20 (fun H locs h => ?_)
        refine lv_goto (tgt := 0) hx hb dX9_token_23 (by decide) ?_
        have eat : ((m0.1 1547) + (1 : Int32)).toInt = (m0.1 1547).toInt + 1 := ti_of (oI_add (oI_at _) (oI_lit (x := 1) (a := 1) rfl)) (by omega)
        exact ih0  (si m0 1547 ((m0.1 1547) + (1 : Int32))) _ _ ls ((show 0 ≤ ((m0.1 1547) + (1 : Int32)).toInt ∧ ((m0.1 1547) + (1 : Int32)).toInt ≤ 200 ∧ 200 < ((m0.1 1547) + (1 : Int32)).toInt + n0 ∧ 0 ≤ (m0.1 1538).toInt ∧ (m0.1 1538).toInt ≤ 200 from by omega)) hF h (lv_sub hl [0] rfl)
  exact L0 201  τ _ _ ls ((show 0 ≤ (τ.1 1547).toInt ∧ (τ.1 1547).toInt ≤ 200 ∧ 200 < (τ.1 1547).toInt + (201 : Nat) ∧ 0 ≤ (τ.1 1538).toInt ∧ (τ.1 1538).toInt ≤ 200 from by omega)) hF h (lv_sub hl [0] rfl)

/-- the reader's place and the text's length are in bounds -/
def AB (τ : St) : Prop := (0 ≤ (τ.1 1547).toInt ∧ (τ.1 1547).toInt ≤ 200) ∧ 0 ≤ (τ.1 1538).toInt ∧ (τ.1 1538).toInt ≤ 200
theorem ab_step {m : St} {v : Int32} (h : AB m) (hk : 0 ≤ (F_X9_letterAt m (m.1 1547)).toInt) : AB (si (si m 1550 v) 1547 ((m.1 1547) + (1 : Int32))) ∧ ((si (si m 1550 v) 1547 ((m.1 1547) + (1 : Int32))).1 1547).toInt = (m.1 1547).toInt + 1 := by
  obtain ⟨⟨h1, h2⟩, h3, h4⟩ := h
  have hk := lt_letter hk
  have eat : ((m.1 1547) + (1 : Int32)).toInt = (m.1 1547).toInt + 1 := ti_of (oI_add (oI_at _) (oI_lit (x := 1) (a := 1) rfl)) (by omega)
  exact ⟨⟨⟨by show 0 ≤ ((m.1 1547) + (1 : Int32)).toInt; omega, by show ((m.1 1547) + (1 : Int32)).toInt ≤ 200; omega⟩, h3, h4⟩, eat⟩
theorem t170 (lf0 lf114 : St → St) (τ m0 m114 : St) : ∀ (n : Nat) (m : St), AB m → AB (F_X9_token_L170 lf0 lf114 n τ m0 m114 m) ∧ (m.1 1547).toInt ≤ ((F_X9_token_L170 lf0 lf114 n τ m0 m114 m).1 1547).toInt ∧ (F_X9_token_L170 lf0 lf114 n τ m0 m114 m).1 1548 = m.1 1548
  | 0, m, h => ⟨h, Int.le_refl _, rfl⟩
  | n + 1, m, h => by
    rw [F_X9_token_L170]
    by_cases c : (F_X9_isDigit (F_X9_letterAt m (m.1 1547))) = 0
    · rw [if_pos c]; exact ⟨h, Int.le_refl _, rfl⟩
    · rw [if_neg c]
      have q := fz_isDigit c
      generalize (if (F_X9_letterAt (si m0 1549 (m0.1 1547)) (m0.1 1547)) = (48 : Int32) then (1000 : Int32) else (if (m.1 1550) ≤ (99 : Int32) then ((((10 : Int32) * (m.1 1550)) + ((m.2.1 49) (m.1 1547).toNatClampNeg)) - (48 : Int32)) else (1000 : Int32))) = w
      obtain ⟨s1, s2⟩ := ab_step (v := w) h (by omega)
      obtain ⟨r1, r2, r3⟩ := t170 lf0 lf114 τ m0 m114 n _ s1
      exact ⟨r1, by omega, r3⟩
theorem t154 (lf0 lf114 : St → St) (τ m0 m : St) (h : AB m) : AB (F_X9_token_J154 lf0 lf114 τ m0 m) ∧ (m.1 1547).toInt ≤ ((F_X9_token_J154 lf0 lf114 τ m0 m).1 1547).toInt ∧ (F_X9_token_J154 lf0 lf114 τ m0 m).1 1548 = m.1 1548 := by
  unfold F_X9_token_J154
  by_cases c : (m.1 1548) = (2 : Int32)
  · rw [if_pos c]
    exact t170 lf0 lf114 τ m0 m 201 (si m 1550 _) h
  · rw [if_neg c]; exact ⟨h, Int.le_refl _, rfl⟩
theorem t114 (lf0 : St → St) (τ m0 : St) : ∀ (n : Nat) (m : St), AB m → AB (F_X9_token_L114 lf0 n τ m0 m) ∧ (m.1 1547).toInt ≤ ((F_X9_token_L114 lf0 n τ m0 m).1 1547).toInt ∧ (F_X9_token_L114 lf0 n τ m0 m).1 1548 = m.1 1548
  | 0, m, h => ⟨h, Int.le_refl _, rfl⟩
  | n + 1, m, h => by
    rw [F_X9_token_L114]
    by_cases c : (m.1 1548) = (1 : Int32)
    · rw [if_pos c]
      by_cases d : (F_X9_isLetter (F_X9_letterAt m (m.1 1547))) = 0
      · rw [if_pos d]; exact t154 _ _ _ _ _ h
      · rw [if_neg d]
        have q := fz_isLetter d
        obtain ⟨s1, s2⟩ := ab_step (v := 0) h (by omega)
        obtain ⟨r1, r2, r3⟩ := t114 lf0 τ m0 n _ s1
        exact ⟨r1, by omega, r3⟩
    · rw [if_neg c]; exact t154 _ _ _ _ _ h
theorem t0_next {m : St} {S v d : Int32} (h : AB m) (hd : d = if (if 0 ≤ v then S else (0 : Int32)) = 0 then (0 : Int32) else (1 : Int32)) (hv : 0 ≤ v.toInt → (m.1 1547).toInt < (m.1 1538).toInt) : AB (si (si (si (si m 1549 (m.1 1547)) 1548 (if 0 ≤ v then S else (0 : Int32))) 1550 v) 1547 ((m.1 1547) + d)) ∧ (m.1 1547).toInt ≤ ((m.1 1547) + d).toInt ∧ (¬ (if 0 ≤ v then S else (0 : Int32)) = 0 → (m.1 1547).toInt < ((m.1 1547) + d).toInt) := by
  obtain ⟨⟨h1, h2⟩, h3, h4⟩ := h
  have q := tok_at (at_ := m.1 1547) (v := v) (s := S) (fun q => by have := hv q; omega) ⟨h1, h2⟩
  rw [← hd] at q
  refine ⟨⟨⟨q.1, q.2⟩, h3, h4⟩, ?_, ?_⟩
  · have e0 : ((m.1 1547) + (0 : Int32)).toInt = (m.1 1547).toInt + 0 := ti_of (oI_add (oI_at _) (oI_lit (x := 0) (a := 0) rfl)) (by omega)
    have e1 : ((m.1 1547) + (1 : Int32)).toInt = (m.1 1547).toInt + 1 := ti_of (oI_add (oI_at _) (oI_lit (x := 1) (a := 1) rfl)) (by omega)
    rw [hd]
    generalize (if 0 ≤ v then S else (0 : Int32)) = zz
    split <;> omega
  · intro c
    have e1 : ((m.1 1547) + (1 : Int32)).toInt = (m.1 1547).toInt + 1 := ti_of (oI_add (oI_at _) (oI_lit (x := 1) (a := 1) rfl)) (by omega)
    rw [hd, if_neg c]
    omega
theorem t0 (τ : St) : ∀ (n : Nat) (m : St), AB m → 200 < (m.1 1547).toInt + n → AB (F_X9_token_L0 n τ m) ∧ (m.1 1547).toInt ≤ ((F_X9_token_L0 n τ m).1 1547).toInt ∧ (¬ (F_X9_token_L0 n τ m).1 1548 = 0 → (m.1 1547).toInt < ((F_X9_token_L0 n τ m).1 1547).toInt)
  | 0, m, h, hn => absurd h.1.2 (by omega)
  | n + 1, m, h, hn => by
    rw [F_X9_token_L0]
    by_cases c : (F_X9_letterAt m (m.1 1547)) = (32 : Int32)
    · rw [if_pos c]
      have q : (F_X9_letterAt m (m.1 1547)).toInt = 32 := i_eq c
      obtain ⟨s1, s2⟩ := ab_step (v := m.1 1550) h (by omega)
      have s1 : AB (si m 1547 ((m.1 1547) + (1 : Int32))) := s1
      have s2 : ((si m 1547 ((m.1 1547) + (1 : Int32))).1 1547).toInt = (m.1 1547).toInt + 1 := s2
      obtain ⟨r1, r2, r3⟩ := t0 τ n _ s1 (by omega)
      exact ⟨r1, by omega, fun z => by have := r3 z; omega⟩
    · rw [if_neg c]
      generalize hv : (F_X9_letterAt (si m 1549 (m.1 1547)) (m.1 1547)) = v
      have hv2 : 0 ≤ v.toInt → (m.1 1547).toInt < (m.1 1538).toInt := fun q => by
        rw [← hv] at q
        exact lt_letter (τ := si m 1549 (m.1 1547)) q
      generalize (if (F_X9_isLetter v) = 0 then (if (F_X9_isDigit v) = 0 then (if v = (59 : Int32) then (3 : Int32) else (4 : Int32)) else (2 : Int32)) else (1 : Int32)) = S
      generalize hd : (if (if 0 ≤ v then S else (0 : Int32)) = 0 then (0 : Int32) else (1 : Int32)) = d
      obtain ⟨s1, s2, s3⟩ := t0_next h hd.symm hv2
      generalize (if 0 ≤ v then S else (0 : Int32)) = S2 at s1 s3
      obtain ⟨r1, r2, r3⟩ := t114 (fun y1 => F_X9_token_L0 n τ y1) τ m 201 _ s1
      refine ⟨r1, Int.le_trans s2 r2, fun z => ?_⟩
      rw [r3] at z
      exact Int.lt_of_lt_of_le (s3 z) r2
theorem tok_ab (τ : St) (h : AB τ) : AB (F_X9_token τ) ∧ (τ.1 1547).toInt ≤ ((F_X9_token τ).1 1547).toInt ∧ (¬ (F_X9_token τ).1 1548 = 0 → (τ.1 1547).toInt < ((F_X9_token τ).1 1547).toInt) := t0 τ 201 τ h (by have := h.1.1; omega)
