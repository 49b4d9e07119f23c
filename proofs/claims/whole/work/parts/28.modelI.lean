theorem go_F_X9_readsItem_k85_19 (τ : St) (u : Int32 × St) (hp : PD τ) (hk : 0 ≤ ((τ.2.1 51) 0).toInt ∧ ((τ.2.1 51) 0).toInt < 6) (h : HD τ u.2) : Go τ (F_X9_readsItem_k85_19 τ u).2 := by
  unfold F_X9_readsItem_k85_19
  split
  · exact h.go hp
  · exact go_fin h hp (ge4 (b := 4) rfl (by decide) (by omega)) (by omega)
theorem go_readsItem (τ : St) (hp : PD τ) : Go τ (F_X9_readsItem τ).2 := by
  unfold F_X9_readsItem
  generalize (if (τ.1 1548) = (1 : Int32) then (τ.1 1550) else (0 : Int32)) = v
  split
  · exact go_readsCaravan τ hp
  · split
    · exact go_readsDebt τ 1 hp
    · split
      · exact go_readsDebt τ 0 hp
      · split
        · exact go_readsStage τ hp
        · split
          · split
            · exact (HD.rf hp.1).go hp
            · rename_i c
              have c := i_ne c
              have c8 : (6 : Int32).toInt = 6 := rfl
              have q := hp.2.1
              exact go_F_X9_readsItem_k85_19 τ _ hp (by omega) (HD.num (HD.rf hp.1))
          · exact (HD.rf hp.1).go hp
theorem zer_step {f : Nat → Int32} {x : Int32} (hx : 0 ≤ x.toInt) (h : ∀ j : Nat, j < 3 → (j : Int) < x.toInt → f j = 0) (e : (x + (1 : Int32)).toInt = x.toInt + 1) : ∀ j : Nat, j < 3 → (j : Int) < (x + (1 : Int32)).toInt → upd f x.toNatClampNeg (0 : Int32) j = 0 := fun j q q2 => by
  by_cases c : j = x.toNatClampNeg
  · rw [c]; exact pk_us
  · rw [pk_un c]
    refine h j q ?_
    have : (j : Int) ≠ x.toInt := fun z => c (by show j = x.toInt.toNat; omega)
    omega

def F_X9_reads_k92_17 (lf2 : Int32 → St → (Int32 × St)) (lf23 : Int32 → St → (Int32 × St)) (lf51 : St → (Int32 × St)) (τ : St) (x1_2 : Int32) (m2 : St) (x1_23 : Int32) (m23 : St) (u6 : St) (m51 : St) (u10 : Int32 × St) (u13 : St) (u16 : St) : Int32 × St := (lf51 u16)
def F_X9_reads_k68_14 (lf2 : Int32 → St → (Int32 × St)) (lf23 : Int32 → St → (Int32 × St)) (lf51 : St → (Int32 × St)) (τ : St) (x1_2 : Int32) (m2 : St) (x1_23 : Int32) (m23 : St) (u6 : St) (m51 : St) (u10 : Int32 × St) (u13 : St) : Int32 × St := (if (u13.1 1548) = (3 : Int32) then (F_X9_reads_k92_17 lf2 lf23 lf51 τ x1_2 m2 x1_23 m23 u6 m51 u10 u13 (F_X9_token (sa u13 51 (upd (u13.2.1 51) 3 (((u13.2.1 51) 3) + (1 : Int32)))))) else ((0 : Int32), u13))
def F_X9_reads_k59_11 (lf2 : Int32 → St → (Int32 × St)) (lf23 : Int32 → St → (Int32 × St)) (lf51 : St → (Int32 × St)) (τ : St) (x1_2 : Int32) (m2 : St) (x1_23 : Int32) (m23 : St) (u6 : St) (m51 : St) (u10 : Int32 × St) : Int32 × St := (if u10.1 = 0 then ((0 : Int32), u10.2) else (F_X9_reads_k68_14 lf2 lf23 lf51 τ x1_2 m2 x1_23 m23 u6 m51 u10 (F_X9_token u10.2)))
def F_X9_reads_L51 (lf2 : Int32 → St → (Int32 × St)) (lf23 : Int32 → St → (Int32 × St)) : Nat → St → Int32 → St → Int32 → St → St → St → Int32 × St
  | 0, _, _, _, _, _, _, m51 => (0, m51)
  | n + 1, τ, x1_2, m2, x1_23, m23, u6, m51 => (if (m51.1 1548) = 0 then ((1 : Int32), m51) else (F_X9_reads_k59_11 lf2 lf23 (fun y1 => F_X9_reads_L51 lf2 lf23 n τ x1_2 m2 x1_23 m23 u6 y1) τ x1_2 m2 x1_23 m23 u6 m51 (F_X9_readsItem m51)))
def F_X9_reads_k48_7 (lf2 : Int32 → St → (Int32 × St)) (lf23 : Int32 → St → (Int32 × St)) (τ : St) (x1_2 : Int32) (m2 : St) (x1_23 : Int32) (m23 : St) (u6 : St) : Int32 × St := (F_X9_reads_L51 lf2 lf23 202 τ x1_2 m2 x1_23 m23 u6 u6)
def F_X9_reads_L23 (lf2 : Int32 → St → (Int32 × St)) : Nat → St → Int32 → St → Int32 → St → Int32 × St
  | 0, _, _, _, _, m23 => (0, m23)
  | n + 1, τ, x1_2, m2, x1_23, m23 => (if (74 : Int32) ≤ x1_23 then (F_X9_reads_k48_7 lf2 (fun y1 y2 => F_X9_reads_L23 lf2 n τ x1_2 m2 y1 y2) τ x1_2 m2 x1_23 m23 (F_X9_token (si m23 1547 (0 : Int32)))) else (F_X9_reads_L23 lf2 n τ x1_2 m2 (x1_23 + (1 : Int32)) (sa m23 52 (upd (m23.2.1 52) x1_23.toNatClampNeg (0 : Int32)))))
def F_X9_reads_L2 : Nat → St → Int32 → St → Int32 × St
  | 0, _, _, m2 => (0, m2)
  | n + 1, τ, x1_2, m2 => (if (54 : Int32) ≤ x1_2 then (F_X9_reads_L23 (fun y1 y2 => F_X9_reads_L2  n τ y1 y2) 75 τ x1_2 m2 (0 : Int32) m2) else (F_X9_reads_L2  n τ (x1_2 + (1 : Int32)) (sa m2 51 (upd (m2.2.1 51) x1_2.toNatClampNeg (0 : Int32)))))
def F_X9_reads (τ : St) : Int32 × St := (F_X9_reads_L2  55 τ (0 : Int32) τ)
abbrev I_X9_reads : List Nat := [1547, 1548, 1549, 1550]
abbrev A_X9_reads : List Nat := [51, 52]
theorem fr_F_X9_reads_k92_17 (lf2 : Int32 → St → (Int32 × St)) (lf23 : Int32 → St → (Int32 × St)) (lf51 : St → (Int32 × St)) (τ : St) (x1_2 : Int32) (m2 : St) (x1_23 : Int32) (m23 : St) (u6 : St) (m51 : St) (u10 : Int32 × St) (u13 : St) (u16 : St) (hlf2 : ∀ (y1 : Int32) (m : St), Fr I_X9_reads A_X9_reads false τ m → Fr I_X9_reads A_X9_reads false τ (lf2 y1 m).2) (hlf23 : ∀ (y1 : Int32) (m : St), Fr I_X9_reads A_X9_reads false τ m → Fr I_X9_reads A_X9_reads false τ (lf23 y1 m).2) (hlf51 : ∀  (m : St), Fr I_X9_reads A_X9_reads false τ m → Fr I_X9_reads A_X9_reads false τ (lf51  m).2) (hfr : Fr I_X9_reads A_X9_reads false τ (u16)) : Fr I_X9_reads A_X9_reads false τ (F_X9_reads_k92_17 lf2 lf23 lf51 τ x1_2 m2 x1_23 m23 u6 m51 u10 u13 u16).2 := (hlf51 u16 hfr)
theorem fr_F_X9_reads_k68_14 (lf2 : Int32 → St → (Int32 × St)) (lf23 : Int32 → St → (Int32 × St)) (lf51 : St → (Int32 × St)) (τ : St) (x1_2 : Int32) (m2 : St) (x1_23 : Int32) (m23 : St) (u6 : St) (m51 : St) (u10 : Int32 × St) (u13 : St) (hlf2 : ∀ (y1 : Int32) (m : St), Fr I_X9_reads A_X9_reads false τ m → Fr I_X9_reads A_X9_reads false τ (lf2 y1 m).2) (hlf23 : ∀ (y1 : Int32) (m : St), Fr I_X9_reads A_X9_reads false τ m → Fr I_X9_reads A_X9_reads false τ (lf23 y1 m).2) (hlf51 : ∀  (m : St), Fr I_X9_reads A_X9_reads false τ m → Fr I_X9_reads A_X9_reads false τ (lf51  m).2) (hfr : Fr I_X9_reads A_X9_reads false τ (u13)) : Fr I_X9_reads A_X9_reads false τ (F_X9_reads_k68_14 lf2 lf23 lf51 τ x1_2 m2 x1_23 m23 u6 m51 u10 u13).2 := (fr_ite2 (fr_F_X9_reads_k92_17 lf2 lf23 lf51 τ x1_2 m2 x1_23 m23 u6 m51 u10 u13 (F_X9_token (sa u13 51 (upd (u13.2.1 51) 3 (((u13.2.1 51) 3) + (1 : Int32))))) hlf2 hlf23 hlf51 (Fr.tr (Fr.sa (by decide) hfr) (Fr.mono (by decide) (by decide) (by decide) (fr_F_X9_token (sa u13 51 (upd (u13.2.1 51) 3 (((u13.2.1 51) 3) + (1 : Int32)))))))) hfr)
theorem fr_F_X9_reads_k59_11 (lf2 : Int32 → St → (Int32 × St)) (lf23 : Int32 → St → (Int32 × St)) (lf51 : St → (Int32 × St)) (τ : St) (x1_2 : Int32) (m2 : St) (x1_23 : Int32) (m23 : St) (u6 : St) (m51 : St) (u10 : Int32 × St) (hlf2 : ∀ (y1 : Int32) (m : St), Fr I_X9_reads A_X9_reads false τ m → Fr I_X9_reads A_X9_reads false τ (lf2 y1 m).2) (hlf23 : ∀ (y1 : Int32) (m : St), Fr I_X9_reads A_X9_reads false τ m → Fr I_X9_reads A_X9_reads false τ (lf23 y1 m).2) (hlf51 : ∀  (m : St), Fr I_X9_reads A_X9_reads false τ m → Fr I_X9_reads A_X9_reads false τ (lf51  m).2) (hfr : Fr I_X9_reads A_X9_reads false τ (u10.2)) : Fr I_X9_reads A_X9_reads false τ (F_X9_reads_k59_11 lf2 lf23 lf51 τ x1_2 m2 x1_23 m23 u6 m51 u10).2 := (fr_ite2 hfr (fr_F_X9_reads_k68_14 lf2 lf23 lf51 τ x1_2 m2 x1_23 m23 u6 m51 u10 (F_X9_token u10.2) hlf2 hlf23 hlf51 (Fr.tr hfr (Fr.mono (by decide) (by decide) (by decide) (fr_F_X9_token u10.2)))))
theorem fr_F_X9_reads_L51_w (lf2 : Int32 → St → (Int32 × St)) (lf23 : Int32 → St → (Int32 × St)) (τ : St) (x1_2 : Int32) (m2 : St) (x1_23 : Int32) (m23 : St) (u6 : St) (hlf2 : ∀ (y1 : Int32) (m : St), Fr I_X9_reads A_X9_reads false τ m → Fr I_X9_reads A_X9_reads false τ (lf2 y1 m).2) (hlf23 : ∀ (y1 : Int32) (m : St), Fr I_X9_reads A_X9_reads false τ m → Fr I_X9_reads A_X9_reads false τ (lf23 y1 m).2) : ∀ (n : Nat) (m51 : St), Fr I_X9_reads A_X9_reads false τ m51 → Fr I_X9_reads A_X9_reads false τ (F_X9_reads_L51 lf2 lf23 n τ x1_2 m2 x1_23 m23 u6 m51).2
  | 0, m51, hfr => hfr
  | n + 1, m51, hfr => (fr_ite2 hfr (fr_F_X9_reads_k59_11 lf2 lf23 (fun y1 => F_X9_reads_L51 lf2 lf23 n τ x1_2 m2 x1_23 m23 u6 y1) τ x1_2 m2 x1_23 m23 u6 m51 (F_X9_readsItem m51) hlf2 hlf23 (fun y1 hy => fr_F_X9_reads_L51_w lf2 lf23 τ x1_2 m2 x1_23 m23 u6 hlf2 hlf23 n y1 hy) (Fr.tr hfr (Fr.mono (by decide) (by decide) (by decide) (fr_F_X9_readsItem m51)))))
theorem fr_F_X9_reads_L51 (lf2 : Int32 → St → (Int32 × St)) (lf23 : Int32 → St → (Int32 × St)) (n : Nat) (τ : St) (x1_2 : Int32) (m2 : St) (x1_23 : Int32) (m23 : St) (u6 : St) (m51 : St) (hlf2 : ∀ (y1 : Int32) (m : St), Fr I_X9_reads A_X9_reads false τ m → Fr I_X9_reads A_X9_reads false τ (lf2 y1 m).2) (hlf23 : ∀ (y1 : Int32) (m : St), Fr I_X9_reads A_X9_reads false τ m → Fr I_X9_reads A_X9_reads false τ (lf23 y1 m).2) (hfr : Fr I_X9_reads A_X9_reads false τ (m51)) : Fr I_X9_reads A_X9_reads false τ (F_X9_reads_L51 lf2 lf23 n τ x1_2 m2 x1_23 m23 u6 m51).2 := fr_F_X9_reads_L51_w lf2 lf23 τ x1_2 m2 x1_23 m23 u6 hlf2 hlf23 n m51 hfr
theorem fr_F_X9_reads_k48_7 (lf2 : Int32 → St → (Int32 × St)) (lf23 : Int32 → St → (Int32 × St)) (τ : St) (x1_2 : Int32) (m2 : St) (x1_23 : Int32) (m23 : St) (u6 : St) (hlf2 : ∀ (y1 : Int32) (m : St), Fr I_X9_reads A_X9_reads false τ m → Fr I_X9_reads A_X9_reads false τ (lf2 y1 m).2) (hlf23 : ∀ (y1 : Int32) (m : St), Fr I_X9_reads A_X9_reads false τ m → Fr I_X9_reads A_X9_reads false τ (lf23 y1 m).2) (hfr : Fr I_X9_reads A_X9_reads false τ (u6)) : Fr I_X9_reads A_X9_reads false τ (F_X9_reads_k48_7 lf2 lf23 τ x1_2 m2 x1_23 m23 u6).2 := (fr_F_X9_reads_L51 lf2 lf23 202 τ x1_2 m2 x1_23 m23 u6 u6 hlf2 hlf23 hfr)
theorem fr_F_X9_reads_L23_w (lf2 : Int32 → St → (Int32 × St)) (τ : St) (x1_2 : Int32) (m2 : St) (hlf2 : ∀ (y1 : Int32) (m : St), Fr I_X9_reads A_X9_reads false τ m → Fr I_X9_reads A_X9_reads false τ (lf2 y1 m).2) : ∀ (n : Nat) (x1_23 : Int32) (m23 : St), Fr I_X9_reads A_X9_reads false τ m23 → Fr I_X9_reads A_X9_reads false τ (F_X9_reads_L23 lf2 n τ x1_2 m2 x1_23 m23).2
  | 0, x1_23, m23, hfr => hfr
  | n + 1, x1_23, m23, hfr => (fr_ite2 (fr_F_X9_reads_k48_7 lf2 (fun y1 y2 => F_X9_reads_L23 lf2 n τ x1_2 m2 y1 y2) τ x1_2 m2 x1_23 m23 (F_X9_token (si m23 1547 (0 : Int32))) hlf2 (fun y1 y2 hy => fr_F_X9_reads_L23_w lf2 τ x1_2 m2 hlf2 n y1 y2 hy) (Fr.tr (Fr.si (by decide) hfr) (Fr.mono (by decide) (by decide) (by decide) (fr_F_X9_token (si m23 1547 (0 : Int32)))))) ((fun y1 y2 hy => fr_F_X9_reads_L23_w lf2 τ x1_2 m2 hlf2 n y1 y2 hy) (x1_23 + (1 : Int32)) (sa m23 52 (upd (m23.2.1 52) x1_23.toNatClampNeg (0 : Int32))) (Fr.sa (by decide) hfr)))
theorem fr_F_X9_reads_L23 (lf2 : Int32 → St → (Int32 × St)) (n : Nat) (τ : St) (x1_2 : Int32) (m2 : St) (x1_23 : Int32) (m23 : St) (hlf2 : ∀ (y1 : Int32) (m : St), Fr I_X9_reads A_X9_reads false τ m → Fr I_X9_reads A_X9_reads false τ (lf2 y1 m).2) (hfr : Fr I_X9_reads A_X9_reads false τ (m23)) : Fr I_X9_reads A_X9_reads false τ (F_X9_reads_L23 lf2 n τ x1_2 m2 x1_23 m23).2 := fr_F_X9_reads_L23_w lf2 τ x1_2 m2 hlf2 n x1_23 m23 hfr
theorem fr_F_X9_reads_L2_w (τ : St) : ∀ (n : Nat) (x1_2 : Int32) (m2 : St), Fr I_X9_reads A_X9_reads false τ m2 → Fr I_X9_reads A_X9_reads false τ (F_X9_reads_L2  n τ x1_2 m2).2
  | 0, x1_2, m2, hfr => hfr
  | n + 1, x1_2, m2, hfr => (fr_ite2 (fr_F_X9_reads_L23 (fun y1 y2 => F_X9_reads_L2  n τ y1 y2) 75 τ x1_2 m2 (0 : Int32) m2 (fun y1 y2 hy => fr_F_X9_reads_L2_w  τ  n y1 y2 hy) hfr) ((fun y1 y2 hy => fr_F_X9_reads_L2_w  τ  n y1 y2 hy) (x1_2 + (1 : Int32)) (sa m2 51 (upd (m2.2.1 51) x1_2.toNatClampNeg (0 : Int32))) (Fr.sa (by decide) hfr)))
theorem fr_F_X9_reads_L2 (n : Nat) (τ : St) (x1_2 : Int32) (m2 : St) (hfr : Fr I_X9_reads A_X9_reads false τ (m2)) : Fr I_X9_reads A_X9_reads false τ (F_X9_reads_L2  n τ x1_2 m2).2 := fr_F_X9_reads_L2_w  τ  n x1_2 m2 hfr
theorem fr_F_X9_reads (τ : St) : Fr I_X9_reads A_X9_reads false τ (F_X9_reads τ).2 := (fr_F_X9_reads_L2  55 τ (0 : Int32) τ Fr.rf)
set_option maxHeartbeats 4000000 in
set_option maxRecDepth 20000 in
theorem c_X9_reads (l : Launch) (D : va_G) (cI cZ : ClassId) (z : Nat) (ad : Nat → Nat) (σ τ : St) (ht_ : 0 ≤ (τ.1 1538).toInt ∧ (τ.1 1538).toInt ≤ 200) : gM l yX9_reads cX9_reads 2 (some .boolean) 7 D cI cZ z (gws ad cI cZ σ τ) [.ref (ad 48)] (some (.int (F_X9_reads τ).1)) (gws ad cI cZ σ (F_X9_reads τ).2) := by
  refine g_met (own := RX9) (by decide) rfl (Nat.le_of_ble_eq_true rfl) (fun p e s m below meth c ls Q E hr hlk h hl hQ => ?_)
  have hx := E.1
  have hb := E.2.1
  have hF : (F_X9_reads τ) = (F_X9_reads τ) := rfl
  have hl : lv_has ls 2 [(0, .ref (ad 48))] := hl
  refine lv_iconst (v := 0) hx hb dX9_reads_0 (by decide) ?_
  refine lv_istore_n (lv' := [(1, .int (0 : Int32)), (0, .ref (ad 48))]) hx hb dX9_reads_1 rfl hl (by decide) rfl (fun ls hl => ?_)
  have L2 : ∀ (n2 : Nat) (x1_2 : Int32) (m2 : St) (H : Heap) (locs : List Loc) (ls : Array Slot), ((0 ≤ x1_2.toInt ∧ x1_2.toInt ≤ 54 ∧ x1_2.toInt + n2 = 55) ∧ (0 ≤ (m2.1 1538).toInt ∧ (m2.1 1538).toInt ≤ 200) ∧ ∀ j : Nat, j < 3 → (j : Int) < x1_2.toInt → (m2.2.1 51) j = 0) → F_X9_reads_L2  n2 τ x1_2 m2 = (F_X9_reads τ) → gH D z s (gws ad cI cZ σ m2) H locs → lv_has ls 2 [(1, .int x1_2), (0, .ref (ad 48))] → W p l e (rmH 7) s m ([.ref (ad 48)] : List Value).toArray below meth c H locs 0 0 Q (F0 m 2 ls []) := by
    clear hF h hl
    intro n2
    induction n2 with
    | zero =>
      intro x1_2 m2 H locs ls hI
      exact absurd hI (by omega)
    | succ n2 ih2 =>
      intro x1_2 m2 H locs ls hI2 hF h hl
      refine lv_iload_n hx hb dX9_reads_2 rfl (lv_at hl 0 rfl) ?_
      refine lv_bipush (v := 54) hx hb dX9_reads_3 (by decide) ?_
      refine lv_icmp_ge (tgt := 21) hx hb dX9_reads_5 (by decide) (fun c2 => ?_) (fun c2 => ?_)
      · have ic2 : 54 ≤ x1_2.toInt := i_le c2
        have hF := (if_pos c2).symm.trans hF
        refine lv_iconst (v := 0) hx hb dX9_reads_21 (by decide) ?_
        refine lv_istore_n (lv' := [(1, .int (0 : Int32)), (0, .ref (ad 48))]) hx hb dX9_reads_22 rfl hl (by decide) rfl (fun ls hl => ?_)
        have L23 : ∀ (n23 : Nat) (x1_23 : Int32) (m23 : St) (H : Heap) (locs : List Loc) (ls : Array Slot), ((0 ≤ x1_23.toInt ∧ x1_23.toInt ≤ 74 ∧ x1_23.toInt + n23 = 75) ∧ (0 ≤ (m23.1 1538).toInt ∧ (m23.1 1538).toInt ≤ 200) ∧ ∀ j : Nat, j < 3 → (m23.2.1 51) j = 0) → F_X9_reads_L23 (fun y1 y2 => F_X9_reads_L2  n2 τ y1 y2) n23 τ x1_2 m2 x1_23 m23 = (F_X9_reads τ) → gH D z s (gws ad cI cZ σ m23) H locs → lv_has ls 2 [(1, .int x1_23), (0, .ref (ad 48))] → W p l e (rmH 7) s m ([.ref (ad 48)] : List Value).toArray below meth c H locs 0 0 Q (F0 m 23 ls []) := by
          clear hF h hl
          intro n23
          induction n23 with
          | zero =>
            intro x1_23 m23 H locs ls hI
            exact absurd hI (by omega)
          | succ n23 ih23 =>
            intro x1_23 m23 H locs ls hI23 hF h hl
            refine lv_iload_n hx hb dX9_reads_23 rfl (lv_at hl 0 rfl) ?_
            refine lv_bipush (v := 74) hx hb dX9_reads_24 (by decide) ?_
            refine lv_icmp_ge (tgt := 42) hx hb dX9_reads_26 (by decide) (fun c4 => ?_) (fun c4 => ?_)
            · have ic4 : 74 ≤ x1_23.toInt := i_le c4
              have hF := (if_pos c4).symm.trans hF
              refine lv_aload_n hx hb dX9_reads_42 rfl (lv_at hl 1 rfl) ?_
              refine lv_iconst (v := 0) hx hb dX9_reads_43 (by decide) ?_
              refine g_put (v := .int (0 : Int32)) (ty := .int) (ws' := gws ad cI cZ σ (si m23 1547 (0 : Int32))) E h 48 rfl rfl layX9 tyX9 tyX9_ok nmX9 11 (by decide) rfl mw_830 rfl rfl rfl rfl (Nat.le_of_ble_eq_true rfl) (gi_1547 ad cI cZ σ m23 (0 : Int32)) dX9_reads_44 (fun H locs h => ?_)
              refine lv_aload_n hx hb dX9_reads_47 rfl (lv_at hl 1 rfl) ?_
              have w5 : (0 : Int32).toInt = 0 := rfl
              refine g_callVUv (F_X9_token (si m23 1547 (0 : Int32))) (fun u => gws ad cI cZ σ u) (rest := []) E h (c_X9_token l D cI cZ z ad σ (si m23 1547 (0 : Int32)) (show 0 ≤ (0 : Int32).toInt ∧ (0 : Int32).toInt ≤ 200 from by omega) (show 0 ≤ (m23.1 1538).toInt ∧ (m23.1 1538).toInt ≤ 200 from by omega)) mw_778 cbX9_token 48 rfl rfl ⟨by decide, by decide⟩ rfl rfl hl.1 (Nat.le_of_ble_eq_true rfl) ⟨Nat.zero_le _, Nat.zero_le _⟩ dX9_reads_48 (fun u6 huu6 H locs h => ?_)
              have hF : F_X9_reads_k48_7 (fun y1 y2 => F_X9_reads_L2  n2 τ y1 y2) (fun y1 y2 => F_X9_reads_L23 (fun y1 y2 => F_X9_reads_L2  n2 τ y1 y2) n23 τ x1_2 m2 y1 y2) τ x1_2 m2 x1_23 m23 u6 = (F_X9_reads τ) := by rw [← huu6]; exact hF
              have hpd : PD u6 := by rw [← huu6]; exact tok_pd (pd_init hI23.2.1 hI23.2.2)
              have L51 : ∀ (n51 : Nat) (m51 : St) (H : Heap) (locs : List Loc) (ls : Array Slot), (PD m51 ∧ 201 ≤ (m51.1 1547).toInt + n51) → F_X9_reads_L51 (fun y1 y2 => F_X9_reads_L2  n2 τ y1 y2) (fun y1 y2 => F_X9_reads_L23 (fun y1 y2 => F_X9_reads_L2  n2 τ y1 y2) n23 τ x1_2 m2 y1 y2) n51 τ x1_2 m2 x1_23 m23 u6 m51 = (F_X9_reads τ) → gH D z s (gws ad cI cZ σ m51) H locs → lv_has ls 2 [(1, .int x1_23), (0, .ref (ad 48))] → W p l e (rmH 7) s m ([.ref (ad 48)] : List Value).toArray below meth c H locs 0 0 Q (F0 m 51 ls []) := by
                clear hF h hl
                intro n51
                induction n51 with
                | zero =>
                  intro m51 H locs ls hI
                  exact absurd hI (by intro q; have q1 := q.1.1.1; have q2 := q.2; omega)
                | succ n51 ih51 =>
                  intro m51 H locs ls hI51 hF h hl
                  have hab_ : (0 ≤ (m51.1 1547).toInt ∧ (m51.1 1547).toInt ≤ 200) ∧ 0 ≤ (m51.1 1538).toInt ∧ (m51.1 1538).toInt ≤ 200 := (hI51.1).1
                  have hpd_ : (0 ≤ ((m51.2.1 51) 0).toInt ∧ ((m51.2.1 51) 0).toInt ≤ 6) ∧ (0 ≤ ((m51.2.1 51) 1).toInt ∧ ((m51.2.1 51) 1).toInt ≤ 8) ∧ (0 ≤ ((m51.2.1 51) 2).toInt ∧ ((m51.2.1 51) 2).toInt ≤ 4) := (hI51.1).2
                  refine lv_aload_n hx hb dX9_reads_51 rfl (lv_at hl 1 rfl) ?_
                  refine g_get (v := .int (m51.1 1548)) E h 48 rfl rfl layX9 12 (by decide) rfl mw_831 rfl dX9_reads_52 ?_
                  refine lv_if_eq (tgt := 98) hx hb dX9_reads_55 (by decide) (fun c9 => ?_) (fun c9 => ?_)
                  · have ic9 : (m51.1 1548).toInt = 0 := i_eq c9
                    have hF := (if_pos c9).symm.trans hF
                    refine lv_iconst (v := 1) hx hb dX9_reads_98 (by decide) ?_
                    exact g_zret E hr hlk h hQ (rfl) (fst_of hF) (snd_of hF (fun u => gws ad cI cZ σ u)) dX9_reads_99
                  · have ic9 : (m51.1 1548).toInt ≠ 0 := i_ne c9
                    have hF := (if_neg c9).symm.trans hF
                    refine lv_aload_n hx hb dX9_reads_58 rfl (lv_at hl 1 rfl) ?_
                    refine g_callVU (F_X9_readsItem m51) (fun u => gws ad cI cZ σ u) (rest := []) E h (c_X9_readsItem l D cI cZ z ad σ m51 (show 0 ≤ (m51.1 1547).toInt ∧ (m51.1 1547).toInt ≤ 200 from by omega) (show 0 ≤ (m51.1 1538).toInt ∧ (m51.1 1538).toInt ≤ 200 from by omega) (show 0 ≤ ((m51.2.1 51) 0).toInt ∧ ((m51.2.1 51) 0).toInt ≤ 6 from by omega) (show 0 ≤ ((m51.2.1 51) 1).toInt ∧ ((m51.2.1 51) 1).toInt ≤ 8 from by omega) (show 0 ≤ ((m51.2.1 51) 2).toInt ∧ ((m51.2.1 51) 2).toInt ≤ 4 from by omega)) mw_795 cbX9_readsItem 48 rfl rfl ⟨by decide, by decide⟩ rfl rfl hl.1 (Nat.le_of_ble_eq_true rfl) ⟨Nat.zero_le _, Nat.zero_le _⟩ dX9_reads_59 (fun u10 huu10 H locs h => ?_)
                    have hF : F_X9_reads_k59_11 (fun y1 y2 => F_X9_reads_L2  n2 τ y1 y2) (fun y1 y2 => F_X9_reads_L23 (fun y1 y2 => F_X9_reads_L2  n2 τ y1 y2) n23 τ x1_2 m2 y1 y2) (fun y1 => F_X9_reads_L51 (fun y1 y2 => F_X9_reads_L2  n2 τ y1 y2) (fun y1 y2 => F_X9_reads_L23 (fun y1 y2 => F_X9_reads_L2  n2 τ y1 y2) n23 τ x1_2 m2 y1 y2) n51 τ x1_2 m2 x1_23 m23 u6 y1) τ x1_2 m2 x1_23 m23 u6 m51 u10 = (F_X9_reads τ) := by rw [← huu10]; exact hF
                    have gou10 : Go m51 u10.2 := by rw [← huu10]; exact go_readsItem m51 hI51.1
                    have hpd := gou10.1
                    have gat := gou10.2
                    have hab_ : (0 ≤ (u10.2.1 1547).toInt ∧ (u10.2.1 1547).toInt ≤ 200) ∧ 0 ≤ (u10.2.1 1538).toInt ∧ (u10.2.1 1538).toInt ≤ 200 := (hpd).1
                    have hpd_ : (0 ≤ ((u10.2.2.1 51) 0).toInt ∧ ((u10.2.2.1 51) 0).toInt ≤ 6) ∧ (0 ≤ ((u10.2.2.1 51) 1).toInt ∧ ((u10.2.2.1 51) 1).toInt ≤ 8) ∧ (0 ≤ ((u10.2.2.1 51) 2).toInt ∧ ((u10.2.2.1 51) 2).toInt ≤ 4) := (hpd).2
                    refine lv_if_ne (tgt := 67) hx hb dX9_reads_62 (by decide) (fun c12 => ?_) (fun c12 => ?_)
                    · have ic12 : u10.1.toInt ≠ 0 := i_ne c12
                      have hF := (if_neg c12).symm.trans hF
                      refine lv_aload_n hx hb dX9_reads_67 rfl (lv_at hl 1 rfl) ?_
                      refine g_callVUv (F_X9_token u10.2) (fun u => gws ad cI cZ σ u) (rest := []) E h (c_X9_token l D cI cZ z ad σ u10.2 (show 0 ≤ (u10.2.1 1547).toInt ∧ (u10.2.1 1547).toInt ≤ 200 from by omega) (show 0 ≤ (u10.2.1 1538).toInt ∧ (u10.2.1 1538).toInt ≤ 200 from by omega)) mw_778 cbX9_token 48 rfl rfl ⟨by decide, by decide⟩ rfl rfl hl.1 (Nat.le_of_ble_eq_true rfl) ⟨Nat.zero_le _, Nat.zero_le _⟩ dX9_reads_68 (fun u13 huu13 H locs h => ?_)
                      have hF : F_X9_reads_k68_14 (fun y1 y2 => F_X9_reads_L2  n2 τ y1 y2) (fun y1 y2 => F_X9_reads_L23 (fun y1 y2 => F_X9_reads_L2  n2 τ y1 y2) n23 τ x1_2 m2 y1 y2) (fun y1 => F_X9_reads_L51 (fun y1 y2 => F_X9_reads_L2  n2 τ y1 y2) (fun y1 y2 => F_X9_reads_L23 (fun y1 y2 => F_X9_reads_L2  n2 τ y1 y2) n23 τ x1_2 m2 y1 y2) n51 τ x1_2 m2 x1_23 m23 u6 y1) τ x1_2 m2 x1_23 m23 u6 m51 u10 u13 = (F_X9_reads τ) := by rw [← huu13]; exact hF
                      have tk1 := tok_ab (u10.2) hpd.1
                      rw [huu13] at tk1
                      have hpd : PD u13 := by rw [← huu13]; exact tok_pd hpd
                      have hab_ : (0 ≤ (u13.1 1547).toInt ∧ (u13.1 1547).toInt ≤ 200) ∧ 0 ≤ (u13.1 1538).toInt ∧ (u13.1 1538).toInt ≤ 200 := (hpd).1
                      have hpd_ : (0 ≤ ((u13.2.1 51) 0).toInt ∧ ((u13.2.1 51) 0).toInt ≤ 6) ∧ (0 ≤ ((u13.2.1 51) 1).toInt ∧ ((u13.2.1 51) 1).toInt ≤ 8) ∧ (0 ≤ ((u13.2.1 51) 2).toInt ∧ ((u13.2.1 51) 2).toInt ≤ 4) := (hpd).2
                      refine lv_aload_n hx hb dX9_reads_71 rfl (lv_at hl 1 rfl) ?_
                      refine g_get (v := .int (u13.1 1548)) E h 48 rfl rfl layX9 12 (by decide) rfl mw_831 rfl dX9_reads_72 ?_
                      refine lv_iconst (v := 3) hx hb dX9_reads_75 (by decide) ?_
                      refine lv_icmp_eq (tgt := 81) hx hb dX9_reads_76 (by decide) (fun c15 => ?_) (fun c15 => ?_)
                      · have ic15 : (u13.1 1548).toInt = 3 := i_eq c15
                        have hF := (if_pos c15).symm.trans hF
                        have tk1b := tk1.2.2 (fun z => by have z := i_eq z; have z0 : (0 : Int32).toInt = 0 := rfl; omega)
                        refine lv_aload_n hx hb dX9_reads_81 rfl (lv_at hl 1 rfl) ?_
                        refine g_get (v := .ref (ad 51)) E h 48 rfl rfl layX9 4 (by decide) rfl mw_823 rfl dX9_reads_82 ?_
                        refine lv_iconst (v := 3) hx hb dX9_reads_85 (by decide) ?_
                        refine lv_dup2_11 hx hb dX9_reads_86 rfl rfl ?_
                        refine g_ialdk (f := (u13.2.1 51)) E h 51 rfl 3 rfl (ix_of (oI_lit (x := 3) (a := 3) rfl) (by omega) (by decide)) dX9_reads_87 ?_
                        refine lv_iconst (v := 1) hx hb dX9_reads_88 (by decide) ?_
                        refine lv_iadd hx hb dX9_reads_89 ?_
                        refine g_iastk (f := (u13.2.1 51)) (ws' := gws ad cI cZ σ (sa u13 51 (upd (u13.2.1 51) 3 (((u13.2.1 51) 3) + (1 : Int32))))) E h 51 rfl 3 rfl (ix_of (oI_lit (x := 3) (a := 3) rfl) (by omega) (by decide)) (ga_51 ad cI cZ σ u13 (upd (u13.2.1 51) 3 (((u13.2.1 51) 3) + (1 : Int32)))) dX9_reads_90 (fun H locs h => ?_)
                        refine lv_aload_n hx hb dX9_reads_91 rfl (lv_at hl 1 rfl) ?_
                        refine g_callVUv (F_X9_token (sa u13 51 (upd (u13.2.1 51) 3 (((u13.2.1 51) 3) + (1 : Int32))))) (fun u => gws ad cI cZ σ u) (rest := []) E h (c_X9_token l D cI cZ z ad σ (sa u13 51 (upd (u13.2.1 51) 3 (((u13.2.1 51) 3) + (1 : Int32)))) (show 0 ≤ (u13.1 1547).toInt ∧ (u13.1 1547).toInt ≤ 200 from by omega) (show 0 ≤ (u13.1 1538).toInt ∧ (u13.1 1538).toInt ≤ 200 from by omega)) mw_778 cbX9_token 48 rfl rfl ⟨by decide, by decide⟩ rfl rfl hl.1 (Nat.le_of_ble_eq_true rfl) ⟨Nat.zero_le _, Nat.zero_le _⟩ dX9_reads_92 (fun u16 huu16 H locs h => ?_)
                        have hF : F_X9_reads_k92_17 (fun y1 y2 => F_X9_reads_L2  n2 τ y1 y2) (fun y1 y2 => F_X9_reads_L23 (fun y1 y2 => F_X9_reads_L2  n2 τ y1 y2) n23 τ x1_2 m2 y1 y2) (fun y1 => F_X9_reads_L51 (fun y1 y2 => F_X9_reads_L2  n2 τ y1 y2) (fun y1 y2 => F_X9_reads_L23 (fun y1 y2 => F_X9_reads_L2  n2 τ y1 y2) n23 τ x1_2 m2 y1 y2) n51 τ x1_2 m2 x1_23 m23 u6 y1) τ x1_2 m2 x1_23 m23 u6 m51 u10 u13 u16 = (F_X9_reads τ) := by rw [← huu16]; exact hF
                        have tk2 := tok_ab ((sa u13 51 (upd (u13.2.1 51) 3 (((u13.2.1 51) 3) + (1 : Int32))))) hpd.1
                        rw [huu16] at tk2
                        have tk2b : (u13.1 1547).toInt ≤ (u16.1 1547).toInt := tk2.2.1
                        have hpd : PD u16 := by rw [← huu16]; exact tok_pd (pd_set3 hpd)
                        have hab_ : (0 ≤ (u16.1 1547).toInt ∧ (u16.1 1547).toInt ≤ 200) ∧ 0 ≤ (u16.1 1538).toInt ∧ (u16.1 1538).toInt ≤ 200 := (hpd).1
                        have hpd_ : (0 ≤ ((u16.2.1 51) 0).toInt ∧ ((u16.2.1 51) 0).toInt ≤ 6) ∧ (0 ≤ ((u16.2.1 51) 1).toInt ∧ ((u16.2.1 51) 1).toInt ≤ 8) ∧ (0 ≤ ((u16.2.1 51) 2).toInt ∧ ((u16.2.1 51) 2).toInt ≤ 4) := (hpd).2
                        refine lv_goto (tgt := 51) hx hb dX9_reads_95 (by decide) ?_
                        exact ih51  u16 _ _ ls ((show PD u16 ∧ 201 ≤ (u16.1 1547).toInt + n51 from by exact ⟨hpd, by omega⟩)) hF h (lv_sub hl [0, 1] rfl)
                      · have ic15 : (u13.1 1548).toInt ≠ 3 := i_ne c15
                        have hF := (if_neg c15).symm.trans hF
                        refine lv_iconst (v := 0) hx hb dX9_reads_79 (by decide) ?_
                        exact g_zret E hr hlk h hQ (rfl) (fst_of hF) (snd_of hF (fun u => gws ad cI cZ σ u)) dX9_reads_80
                    · have ic12 : u10.1.toInt = 0 := i_eq c12
                      have hF := (if_pos c12).symm.trans hF
                      refine lv_iconst (v := 0) hx hb dX9_reads_65 (by decide) ?_
                      exact g_zret E hr hlk h hQ (rfl) (fst_of hF) (snd_of hF (fun u => gws ad cI cZ σ u)) dX9_reads_66
              exact L51 202  u6 _ _ ls ((show PD u6 ∧ 201 ≤ (u6.1 1547).toInt + (202 : Nat) from by exact ⟨hpd, by have q := hpd.1.1; omega⟩)) hF h (lv_sub hl [0, 1] rfl)
            · have ic4 : x1_23.toInt < 74 := i_nle c4
              have hF := (if_neg c4).symm.trans hF
              refine lv_aload_n hx hb dX9_reads_29 rfl (lv_at hl 1 rfl) ?_
              refine g_get (v := .ref (ad 52)) E h 48 rfl rfl layX9 5 (by decide) rfl mw_824 rfl dX9_reads_30 ?_
              refine lv_iload_n hx hb dX9_reads_33 rfl (lv_at hl 0 rfl) ?_
              refine lv_iconst (v := 0) hx hb dX9_reads_34 (by decide) ?_
              refine g_iast (f := (m23.2.1 52)) (ws' := gws ad cI cZ σ (sa m23 52 (upd (m23.2.1 52) x1_23.toNatClampNeg (0 : Int32)))) E h 52 rfl (ix_of (oI_at x1_23) (by omega) (by decide)) (ga_52 ad cI cZ σ m23 (upd (m23.2.1 52) x1_23.toNatClampNeg (0 : Int32))) dX9_reads_35 (fun H locs h => ?_)
              refine lv_iinc (v := (x1_23 + (1 : Int32))) (lv' := [(1, .int (x1_23 + (1 : Int32))), (0, .ref (ad 48))]) hx hb dX9_reads_36 hl (k := 0) rfl rfl (by decide) rfl (fun ls hl => ?_)
              refine lv_goto (tgt := 23) hx hb dX9_reads_39 (by decide) ?_
              have e23_1 : (x1_23 + (1 : Int32)).toInt = _ := ti_of (oI_add (oI_at x1_23) (oI_lit (x := 1) (a := 1) rfl)) (by omega)
              exact ih23 (x1_23 + (1 : Int32)) (sa m23 52 (upd (m23.2.1 52) x1_23.toNatClampNeg (0 : Int32))) _ _ ls ((show (0 ≤ (x1_23 + (1 : Int32)).toInt ∧ (x1_23 + (1 : Int32)).toInt ≤ 74 ∧ (x1_23 + (1 : Int32)).toInt + n23 = 75) ∧ (0 ≤ (m23.1 1538).toInt ∧ (m23.1 1538).toInt ≤ 200) ∧ ∀ j : Nat, j < 3 → (m23.2.1 51) j = 0 from by exact ⟨by omega, hI23.2.1, hI23.2.2⟩)) hF h (lv_sub hl [0, 1] rfl)
        have q23_1 : (0 : Int32).toInt = 0 := rfl
        exact L23 75 (0 : Int32) m2 _ _ ls ((show (0 ≤ (0 : Int32).toInt ∧ (0 : Int32).toInt ≤ 74 ∧ (0 : Int32).toInt + (75 : Nat) = 75) ∧ (0 ≤ (m2.1 1538).toInt ∧ (m2.1 1538).toInt ≤ 200) ∧ ∀ j : Nat, j < 3 → (m2.2.1 51) j = 0 from by exact ⟨by omega, hI2.2.1, fun j q => hI2.2.2 j q (by omega)⟩)) hF h (lv_sub hl [0, 1] rfl)
      · have ic2 : x1_2.toInt < 54 := i_nle c2
        have hF := (if_neg c2).symm.trans hF
        refine lv_aload_n hx hb dX9_reads_8 rfl (lv_at hl 1 rfl) ?_
        refine g_get (v := .ref (ad 51)) E h 48 rfl rfl layX9 4 (by decide) rfl mw_823 rfl dX9_reads_9 ?_
        refine lv_iload_n hx hb dX9_reads_12 rfl (lv_at hl 0 rfl) ?_
        refine lv_iconst (v := 0) hx hb dX9_reads_13 (by decide) ?_
        refine g_iast (f := (m2.2.1 51)) (ws' := gws ad cI cZ σ (sa m2 51 (upd (m2.2.1 51) x1_2.toNatClampNeg (0 : Int32)))) E h 51 rfl (ix_of (oI_at x1_2) (by omega) (by decide)) (ga_51 ad cI cZ σ m2 (upd (m2.2.1 51) x1_2.toNatClampNeg (0 : Int32))) dX9_reads_14 (fun H locs h => ?_)
        refine lv_iinc (v := (x1_2 + (1 : Int32))) (lv' := [(1, .int (x1_2 + (1 : Int32))), (0, .ref (ad 48))]) hx hb dX9_reads_15 hl (k := 0) rfl rfl (by decide) rfl (fun ls hl => ?_)
        refine lv_goto (tgt := 2) hx hb dX9_reads_18 (by decide) ?_
        have e2_1 : (x1_2 + (1 : Int32)).toInt = _ := ti_of (oI_add (oI_at x1_2) (oI_lit (x := 1) (a := 1) rfl)) (by omega)
        exact ih2 (x1_2 + (1 : Int32)) (sa m2 51 (upd (m2.2.1 51) x1_2.toNatClampNeg (0 : Int32))) _ _ ls ((show (0 ≤ (x1_2 + (1 : Int32)).toInt ∧ (x1_2 + (1 : Int32)).toInt ≤ 54 ∧ (x1_2 + (1 : Int32)).toInt + n2 = 55) ∧ (0 ≤ (m2.1 1538).toInt ∧ (m2.1 1538).toInt ≤ 200) ∧ ∀ j : Nat, j < 3 → (j : Int) < (x1_2 + (1 : Int32)).toInt → (upd (m2.2.1 51) x1_2.toNatClampNeg (0 : Int32)) j = 0 from by exact ⟨by omega, hI2.2.1, zer_step (by omega) hI2.2.2 e2_1⟩)) hF h (lv_sub hl [0, 1] rfl)
  have q2_1 : (0 : Int32).toInt = 0 := rfl
  exact L2 55 (0 : Int32) τ _ _ ls ((show (0 ≤ (0 : Int32).toInt ∧ (0 : Int32).toInt ≤ 54 ∧ (0 : Int32).toInt + (55 : Nat) = 55) ∧ (0 ≤ (τ.1 1538).toInt ∧ (τ.1 1538).toInt ≤ 200) ∧ ∀ j : Nat, j < 3 → (j : Int) < (0 : Int32).toInt → (τ.2.1 51) j = 0 from by exact ⟨by omega, ht_, fun j _ q => absurd q (by have z0 : (0 : Int32).toInt = 0 := rfl; omega)⟩)) hF h (lv_sub hl [0, 1] rfl)

def F_X9_road_k16_5 (τ : St) (u1 : Int32 × St) (u4 : St) : Int32 × St := (((u4.2.1 50) 3), (si u4 1538 (0 : Int32)))
def F_X9_road_k1_2 (τ : St) (u1 : Int32 × St) : Int32 × St := (if u1.1 = 0 then ((((-10) : Int32) - (u1.2.1 1549)), u1.2) else (F_X9_road_k16_5 τ u1 (F_X9_begins u1.2)))
def F_X9_road (τ : St) : Int32 × St := (F_X9_road_k1_2 τ (F_X9_reads τ))
abbrev I_X9_road : List Nat := [1538, 1546, 1547, 1548, 1549, 1550]
abbrev A_X9_road : List Nat := [50, 51, 52, 53, 55]
theorem fr_F_X9_road_k16_5 (τ : St) (u1 : Int32 × St) (u4 : St) (hfr : Fr I_X9_road A_X9_road false τ (u4)) : Fr I_X9_road A_X9_road false τ (F_X9_road_k16_5  τ u1 u4).2 := (Fr.si (by decide) hfr)
theorem fr_F_X9_road_k1_2 (τ : St) (u1 : Int32 × St) (hfr : Fr I_X9_road A_X9_road false τ (u1.2)) : Fr I_X9_road A_X9_road false τ (F_X9_road_k1_2  τ u1).2 := (fr_ite2 hfr (fr_F_X9_road_k16_5 τ u1 (F_X9_begins u1.2) (Fr.tr hfr (Fr.mono (by decide) (by decide) (by decide) (fr_F_X9_begins u1.2)))))
theorem fr_F_X9_road (τ : St) : Fr I_X9_road A_X9_road false τ (F_X9_road τ).2 := (fr_F_X9_road_k1_2 τ (F_X9_reads τ) (Fr.tr Fr.rf (Fr.mono (by decide) (by decide) (by decide) (fr_F_X9_reads τ))))
set_option maxHeartbeats 4000000 in
set_option maxRecDepth 20000 in
theorem c_X9_road (l : Launch) (D : va_G) (cI cZ : ClassId) (z : Nat) (ad : Nat → Nat) (σ τ : St) (ht_ : 0 ≤ (τ.1 1538).toInt ∧ (τ.1 1538).toInt ≤ 200) : gM l yX9_road cX9_road 1 (some .int) 8 D cI cZ z (gws ad cI cZ σ τ) [.ref (ad 48)] (some (.int (F_X9_road τ).1)) (gws ad cI cZ σ (F_X9_road τ).2) := by
  refine g_met (own := RX9) (by decide) rfl (Nat.le_of_ble_eq_true rfl) (fun p e s m below meth c ls Q E hr hlk h hl hQ => ?_)
  have hx := E.1
  have hb := E.2.1
  have hF : (F_X9_road τ) = (F_X9_road τ) := rfl
  have hl : lv_has ls 1 [(0, .ref (ad 48))] := hl
  refine lv_aload_n hx hb dX9_road_0 rfl (lv_at hl 0 rfl) ?_
  refine g_callVU (F_X9_reads τ) (fun u => gws ad cI cZ σ u) (rest := []) E h (c_X9_reads l D cI cZ z ad σ τ (show 0 ≤ (τ.1 1538).toInt ∧ (τ.1 1538).toInt ≤ 200 from by omega)) mw_774 cbX9_reads 48 rfl rfl ⟨by decide, by decide⟩ rfl rfl hl.1 (Nat.le_of_ble_eq_true rfl) ⟨Nat.zero_le _, Nat.zero_le _⟩ dX9_road_1 (fun u1 huu1 H locs h => ?_)
  have hF : F_X9_road_k1_2 τ u1 = (F_X9_road τ) := by rw [← huu1]; exact hF
  refine lv_if_ne (tgt := 15) hx hb dX9_road_4 (by decide) (fun c3 => ?_) (fun c3 => ?_)
  · have ic3 : u1.1.toInt ≠ 0 := i_ne c3
    have hF := (if_neg c3).symm.trans hF
    refine lv_aload_n hx hb dX9_road_15 rfl (lv_at hl 0 rfl) ?_
    refine g_callVUv (F_X9_begins u1.2) (fun u => gws ad cI cZ σ u) (rest := []) E h (c_X9_begins l D cI cZ z ad σ u1.2) mw_815 cbX9_begins 48 rfl rfl ⟨by decide, by decide⟩ rfl rfl hl.1 (Nat.le_of_ble_eq_true rfl) ⟨Nat.zero_le _, Nat.zero_le _⟩ dX9_road_16 (fun u4 huu4 H locs h => ?_)
    have hF : F_X9_road_k16_5 τ u1 u4 = (F_X9_road τ) := by rw [← huu4]; exact hF
    refine lv_aload_n hx hb dX9_road_19 rfl (lv_at hl 0 rfl) ?_
    refine lv_iconst (v := 0) hx hb dX9_road_20 (by decide) ?_
    refine g_put (v := .int (0 : Int32)) (ty := .int) (ws' := gws ad cI cZ σ (si u4 1538 (0 : Int32))) E h 48 rfl rfl layX9 tyX9 tyX9_ok nmX9 2 (by decide) rfl mw_821 rfl rfl rfl rfl (Nat.le_of_ble_eq_true rfl) (gi_1538 ad cI cZ σ u4 (0 : Int32)) dX9_road_21 (fun H locs h => ?_)
    refine lv_aload_n hx hb dX9_road_24 rfl (lv_at hl 0 rfl) ?_
    refine g_get (v := .ref (ad 50)) E h 48 rfl rfl layX9 3 (by decide) rfl mw_822 rfl dX9_road_25 ?_
    refine lv_iconst (v := 3) hx hb dX9_road_28 (by decide) ?_
    refine g_ialdk (f := (u4.2.1 50)) E h 50 rfl 3 rfl (ix_of (oI_lit (x := 3) (a := 3) rfl) (by omega) (by decide)) dX9_road_29 ?_
    exact g_iret E hr hlk h hQ (fst_of hF) (snd_of hF (fun u => gws ad cI cZ σ u)) dX9_road_30
  · have ic3 : u1.1.toInt = 0 := i_eq c3
    have hF := (if_pos c3).symm.trans hF
    refine lv_bipush (v := (-10)) hx hb dX9_road_7 (by decide) ?_
    refine lv_aload_n hx hb dX9_road_9 rfl (lv_at hl 0 rfl) ?_
    refine g_get (v := .int (u1.2.1 1549)) E h 48 rfl rfl layX9 13 (by decide) rfl mw_832 rfl dX9_road_10 ?_
    refine lv_isub hx hb dX9_road_13 ?_
    exact g_iret E hr hlk h hQ (fst_of hF) (snd_of hF (fun u => gws ad cI cZ σ u)) dX9_road_14
