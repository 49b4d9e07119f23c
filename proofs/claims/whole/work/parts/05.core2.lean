theorem nn_of {x : Int32} {E : Int} (hx : x = Int32.ofInt E) (h : 0 ≤ E ∧ E < 2147483648) : ¬ x < 0 := fun q => by
  have := Int32.lt_iff_toInt_lt.mp q
  rw [hx, oI_rng (by omega) (by omega)] at this
  have h0 : (0 : Int32).toInt = 0 := rfl
  omega
section GC2
variable {p : Program} {l : Launch} {e : Env} {R : Room} {s : State} {m : MethodId} {args : Array Value} {below : List Frame} {meth : Method} {c : Code} {H : Heap} {locs : List Loc} {cells slots : Nat} {Q : State → Prop} {D : va_G} {cI cZ : ClassId} {z : Nat} {cc : ByteArray} {nL : Nat} {own : String} {ws ws' : va_W} {ls : Array Slot} {pc : Nat} {rest st0 : List Value}
variable {y : MethodName} {cy : ByteArray} {nY hh np index : Nat} {ret : Option FieldType} {As : List Value} {b : Nat} {C : String} {α : Type}
/-- calls whose outcome gets a name of its own, bound for good -/
theorem g_callVh (f : Int32) (E : gE p s m args c cc nL own D cI cZ z) (h : gH D z s ws H locs) (hM : gM l y cy nY ret hh D cI cZ z ws (.ref b :: As) (some (.int f)) ws') (hl : Cond.methodLink own index y ∈ GG) (cb : gCB C y cy nY ret np) (q0 : Nat) {ci : Nat} {T : u_T} {N : Nat} {fs : List Value} (he : ws[q0]? = some (b, .inr (ci, fs))) (hc : cls[ci]? = some (C, T, N))
    (hR : hh + 1 ≤ R.frames ∧ 8 + (nY + 11) + 100 * hh ≤ R.locals) (hn : As.length = np) (hst : st0 = As.reverse ++ .ref b :: rest) (hsz : ls.size = nL) (hW : (rest.map fun v => v.category).sum ≤ 8) (hcs : cells ≤ R.cells ∧ slots ≤ R.slots) (hdg : decode cc pc = .ok (.invokevirtual index, 3))
    (kk : ∀ (v : Int32), f = v → ∀ (H1 : Heap) (locs1 : List Loc), gH D z s ws' H1 locs1 → W p l e R s m args below meth c H1 locs1 cells slots Q (F0 m (pc + 3) ls (.int v :: rest))) : W p l e R s m args below meth c H locs cells slots Q (F0 m pc ls st0) := g_callVi E h hM hl cb q0 he hc hR hn hst hsz hW hcs hdg (kk f rfl)
theorem g_callSh (f : Int32) (E : gE p s m args c cc nL own D cI cZ z) (h : gH D z s ws H locs) (hM : gM l y cy nY ret hh D cI cZ z ws As (some (.int f)) ws') (hl : Cond.methodLink own index y ∈ GG) (cb : gCS y cy nY ret np)
    (hR : hh + 1 ≤ R.frames ∧ 8 + (nY + 11) + 100 * hh ≤ R.locals) (hn : As.length = np) (hst : st0 = As.reverse ++ rest) (hsz : ls.size = nL) (hW : (rest.map fun v => v.category).sum ≤ 8) (hcs : cells ≤ R.cells ∧ slots ≤ R.slots) (hdg : decode cc pc = .ok (.invokestatic index, 3))
    (kk : ∀ (v : Int32), f = v → ∀ (H1 : Heap) (locs1 : List Loc), gH D z s ws' H1 locs1 → W p l e R s m args below meth c H1 locs1 cells slots Q (F0 m (pc + 3) ls (.int v :: rest))) : W p l e R s m args below meth c H locs cells slots Q (F0 m pc ls st0) := g_callSi E h hM hl cb hR hn hst hsz hW hcs hdg (kk f rfl)
theorem g_callVU (f : Int32 × α) (S : α → va_W) (E : gE p s m args c cc nL own D cI cZ z) (h : gH D z s ws H locs) (hM : gM l y cy nY ret hh D cI cZ z ws (.ref b :: As) (some (.int f.1)) (S f.2)) (hl : Cond.methodLink own index y ∈ GG) (cb : gCB C y cy nY ret np) (q0 : Nat) {ci : Nat} {T : u_T} {N : Nat} {fs : List Value} (he : ws[q0]? = some (b, .inr (ci, fs))) (hc : cls[ci]? = some (C, T, N))
    (hR : hh + 1 ≤ R.frames ∧ 8 + (nY + 11) + 100 * hh ≤ R.locals) (hn : As.length = np) (hst : st0 = As.reverse ++ .ref b :: rest) (hsz : ls.size = nL) (hW : (rest.map fun v => v.category).sum ≤ 8) (hcs : cells ≤ R.cells ∧ slots ≤ R.slots) (hdg : decode cc pc = .ok (.invokevirtual index, 3))
    (kk : ∀ (u : Int32 × α), f = u → ∀ (H1 : Heap) (locs1 : List Loc), gH D z s (S u.2) H1 locs1 → W p l e R s m args below meth c H1 locs1 cells slots Q (F0 m (pc + 3) ls (.int u.1 :: rest))) : W p l e R s m args below meth c H locs cells slots Q (F0 m pc ls st0) := g_callVi E h hM hl cb q0 he hc hR hn hst hsz hW hcs hdg (kk f rfl)
theorem g_callVUv (f : α) (S : α → va_W) (E : gE p s m args c cc nL own D cI cZ z) (h : gH D z s ws H locs) (hM : gM l y cy nY ret hh D cI cZ z ws (.ref b :: As) none (S f)) (hl : Cond.methodLink own index y ∈ GG) (cb : gCB C y cy nY ret np) (q0 : Nat) {ci : Nat} {T : u_T} {N : Nat} {fs : List Value} (he : ws[q0]? = some (b, .inr (ci, fs))) (hc : cls[ci]? = some (C, T, N))
    (hR : hh + 1 ≤ R.frames ∧ 8 + (nY + 11) + 100 * hh ≤ R.locals) (hn : As.length = np) (hst : st0 = As.reverse ++ .ref b :: rest) (hsz : ls.size = nL) (hW : (rest.map fun v => v.category).sum ≤ 8) (hcs : cells ≤ R.cells ∧ slots ≤ R.slots) (hdg : decode cc pc = .ok (.invokevirtual index, 3))
    (kk : ∀ (u : α), f = u → ∀ (H1 : Heap) (locs1 : List Loc), gH D z s (S u) H1 locs1 → W p l e R s m args below meth c H1 locs1 cells slots Q (F0 m (pc + 3) ls rest)) : W p l e R s m args below meth c H locs cells slots Q (F0 m pc ls st0) := g_callVv E h hM hl cb q0 he hc hR hn hst hsz hW hcs hdg (kk f rfl)
theorem g_callSU (f : Int32 × α) (S : α → va_W) (E : gE p s m args c cc nL own D cI cZ z) (h : gH D z s ws H locs) (hM : gM l y cy nY ret hh D cI cZ z ws As (some (.int f.1)) (S f.2)) (hl : Cond.methodLink own index y ∈ GG) (cb : gCS y cy nY ret np)
    (hR : hh + 1 ≤ R.frames ∧ 8 + (nY + 11) + 100 * hh ≤ R.locals) (hn : As.length = np) (hst : st0 = As.reverse ++ rest) (hsz : ls.size = nL) (hW : (rest.map fun v => v.category).sum ≤ 8) (hcs : cells ≤ R.cells ∧ slots ≤ R.slots) (hdg : decode cc pc = .ok (.invokestatic index, 3))
    (kk : ∀ (u : Int32 × α), f = u → ∀ (H1 : Heap) (locs1 : List Loc), gH D z s (S u.2) H1 locs1 → W p l e R s m args below meth c H1 locs1 cells slots Q (F0 m (pc + 3) ls (.int u.1 :: rest))) : W p l e R s m args below meth c H locs cells slots Q (F0 m pc ls st0) := g_callSi E h hM hl cb hR hn hst hsz hW hcs hdg (kk f rfl)
theorem g_callSUv (f : α) (S : α → va_W) (E : gE p s m args c cc nL own D cI cZ z) (h : gH D z s ws H locs) (hM : gM l y cy nY ret hh D cI cZ z ws As none (S f)) (hl : Cond.methodLink own index y ∈ GG) (cb : gCS y cy nY ret np)
    (hR : hh + 1 ≤ R.frames ∧ 8 + (nY + 11) + 100 * hh ≤ R.locals) (hn : As.length = np) (hst : st0 = As.reverse ++ rest) (hsz : ls.size = nL) (hW : (rest.map fun v => v.category).sum ≤ 8) (hcs : cells ≤ R.cells ∧ slots ≤ R.slots) (hdg : decode cc pc = .ok (.invokestatic index, 3))
    (kk : ∀ (u : α), f = u → ∀ (H1 : Heap) (locs1 : List Loc), gH D z s (S u) H1 locs1 → W p l e R s m args below meth c H1 locs1 cells slots Q (F0 m (pc + 3) ls rest)) : W p l e R s m args below meth c H locs cells slots Q (F0 m pc ls st0) := g_callSv E h hM hl cb hR hn hst hsz hW hcs hdg (kk f rfl)
end GC2
section GC3
variable {p : Program} {l : Launch} {e : Env} {R : Room} {s : State} {m : MethodId} {args : Array Value} {below : List Frame} {meth : Method} {c : Code} {H : Heap} {locs : List Loc} {cells slots : Nat} {Q : State → Prop} {D : va_G} {cI cZ : ClassId} {z : Nat} {cc : ByteArray} {nL : Nat} {own : String} {ws ws' : va_W} {ls : Array Slot} {pc : Nat} {rest : List Value}
theorem g_ialdk (E : gE p s m args c cc nL own D cI cZ z) (h : gH D z s ws H locs) (q0 : Nat) {a n : Nat} {f : Nat → Int32} (ha : ws[q0]? = some (a, .inl (cI, n, .inl f))) {i : Int32} (k : Nat) (hk : i.toNatClampNeg = k) (hin : vp_in i n) (hdg : decode cc pc = .ok (.iaload, 1))
    (kk : W p l e R s m args below meth c H locs cells slots Q (F0 m (pc + 1) ls (.int (f k) :: rest))) : W p l e R s m args below meth c H locs cells slots Q (F0 m pc ls (.int i :: .ref a :: rest)) :=
  g_iald E h q0 ha hin hdg (by rw [hk]; exact kk)
theorem g_zaldk (E : gE p s m args c cc nL own D cI cZ z) (h : gH D z s ws H locs) (q0 : Nat) {a n : Nat} {f : Nat → Int32} (ha : ws[q0]? = some (a, .inl (cZ, n, .inl f))) {i : Int32} (k : Nat) (hk : i.toNatClampNeg = k) (hin : vp_in i n) (hdg : decode cc pc = .ok (.baload, 1))
    (kk : W p l e R s m args below meth c H locs cells slots Q (F0 m (pc + 1) ls (.int (f k) :: rest))) : W p l e R s m args below meth c H locs cells slots Q (F0 m pc ls (.int i :: .ref a :: rest)) :=
  g_zald E h q0 ha hin hdg (by rw [hk]; exact kk)
theorem g_iastk (E : gE p s m args c cc nL own D cI cZ z) (h : gH D z s ws H locs) (q0 : Nat) {a n : Nat} {f : Nat → Int32} (ha : ws[q0]? = some (a, .inl (cI, n, .inl f))) {i x : Int32} (k : Nat) (hk : i.toNatClampNeg = k) (hin : vp_in i n) (hw : ws.set q0 (a, .inl (cI, n, .inl (upd f k x))) = ws') (hdg : decode cc pc = .ok (.iastore, 1))
    (kk : ∀ (H1 : Heap) (locs1 : List Loc), gH D z s ws' H1 locs1 → W p l e R s m args below meth c H1 locs1 cells slots Q (F0 m (pc + 1) ls rest)) : W p l e R s m args below meth c H locs cells slots Q (F0 m pc ls (.int x :: .int i :: .ref a :: rest)) :=
  g_iast E h q0 ha hin (by rw [hk]; exact hw) hdg kk
theorem g_zastk (E : gE p s m args c cc nL own D cI cZ z) (h : gH D z s ws H locs) (q0 : Nat) {a n : Nat} {f : Nat → Int32} (ha : ws[q0]? = some (a, .inl (cZ, n, .inl f))) {i x : Int32} (k : Nat) (hk : i.toNatClampNeg = k) (hin : vp_in i n) (hx : vp_nar .boolean x = x) (hw : ws.set q0 (a, .inl (cZ, n, .inl (upd f k x))) = ws') (hdg : decode cc pc = .ok (.bastore, 1))
    (kk : ∀ (H1 : Heap) (locs1 : List Loc), gH D z s ws' H1 locs1 → W p l e R s m args below meth c H1 locs1 cells slots Q (F0 m (pc + 1) ls rest)) : W p l e R s m args below meth c H locs cells slots Q (F0 m pc ls (.int x :: .int i :: .ref a :: rest)) :=
  g_zast E h q0 ha hin hx (by rw [hk]; exact hw) hdg kk
end GC3
/-- a state that differs from another in these ints and arrays alone (and, if so said, in the long) -/
def Fr (I A : List Nat) (L : Bool) (σ σ' : St) : Prop := (∀ k, k ∉ I → σ'.1 k = σ.1 k) ∧ (∀ k, k ∉ A → σ'.2.1 k = σ.2.1 k) ∧ (L = false → σ'.2.2 = σ.2.2)
theorem Fr.rf {I A : List Nat} {L : Bool} {σ : St} : Fr I A L σ σ := ⟨fun _ _ => rfl, fun _ _ => rfl, fun _ => rfl⟩
theorem Fr.tr {I A : List Nat} {L : Bool} {a b c : St} (h : Fr I A L a b) (g : Fr I A L b c) : Fr I A L a c := ⟨fun k q => (g.1 k q).trans (h.1 k q), fun k q => (g.2.1 k q).trans (h.2.1 k q), fun q => (g.2.2 q).trans (h.2.2 q)⟩
theorem Fr.si {I A : List Nat} {L : Bool} {a b : St} {k : Nat} {v : Int32} (hk : k ∈ I) (h : Fr I A L a b) : Fr I A L a (si b k v) := ⟨fun j q => by
  have : j ≠ k := fun e => q (e ▸ hk)
  show upd b.1 k v j = a.1 j
  rw [show upd b.1 k v j = b.1 j from if_neg this]; exact h.1 j q, h.2.1, h.2.2⟩
theorem Fr.sa {I A : List Nat} {L : Bool} {a b : St} {k : Nat} {v : Nat → Int32} (hk : k ∈ A) (h : Fr I A L a b) : Fr I A L a (sa b k v) := ⟨h.1, fun j q => by
  have : j ≠ k := fun e => q (e ▸ hk)
  show (if j = k then v else b.2.1 j) = a.2.1 j
  rw [if_neg this]; exact h.2.1 j q, h.2.2⟩
theorem Fr.sl {I A : List Nat} {L : Bool} {a b : St} {v : Int64} (hL : L = true) (h : Fr I A L a b) : Fr I A L a (sl b v) := ⟨h.1, h.2.1, fun q => by rw [hL] at q; cases q⟩
theorem Fr.mono {I A I' A' : List Nat} {L L' : Bool} {a b : St} (hI : ∀ k ∈ I, k ∈ I') (hA : ∀ k ∈ A, k ∈ A') (hL : L' = false → L = false) (h : Fr I A L a b) : Fr I' A' L' a b := ⟨fun k q => h.1 k (fun e => q (hI k e)), fun k q => h.2.1 k (fun e => q (hA k e)), fun q => h.2.2 (hL q)⟩
theorem fr_ite1 {I A : List Nat} {L : Bool} {σ : St} {c : Prop} [Decidable c] {a b : St} (h : Fr I A L σ a) (g : Fr I A L σ b) : Fr I A L σ (if c then a else b) := by
  by_cases q : c
  · rw [if_pos q]; exact h
  · rw [if_neg q]; exact g
theorem fr_ite2 {α : Type} {I A : List Nat} {L : Bool} {σ : St} {c : Prop} [Decidable c] {a b : α × St} (h : Fr I A L σ a.2) (g : Fr I A L σ b.2) : Fr I A L σ (if c then a else b).2 := by
  by_cases q : c
  · rw [if_pos q]; exact h
  · rw [if_neg q]; exact g
theorem fst_of {α β : Type} {a : α} {b : β} {t : α × β} (h : (a, b) = t) : a = t.1 := by rw [← h]
theorem snd_of {α β γ : Type} {a : α} {b : β} {t : α × β} (h : (a, b) = t) (f : β → γ) : f b = f t.2 := by rw [← h]
