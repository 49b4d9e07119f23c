/-! the layer for constructors: the world as W0 ++ L, new cells at its end -/
abbrev rmI (h mc ms : Nat) : Room := { frames := h, cells := mc, slots := ms, locals := 100 * h }
def gQx (D : va_G) (cI cZ : ClassId) (z : Nat) (post : va_W → Prop) : Array Value → State → Outcome → State → Prop := fun _ st oc t => (oc = .returned none ∧ ∃ ws' : va_W, post ws' ∧ gB D cI cZ z ws' t) ∧ va_F (gA z) st t
abbrev gI (l : Launch) (y : MethodName) (cc : ByteArray) (nL : Nat) (h mc ms : Nat) (D : va_G) (cI cZ : ClassId) (z : Nat) (ws : va_W) (av : List Value) (post : va_W → Prop) : Prop :=
  Met l y (Cond.code y cc nL none :: GG) (rmI h mc ms) (gP D cI cZ z ws av) (gQx D cI cZ z post) mc ms (gA z)
theorem g_metI {l : Launch} {y : MethodName} {cc : ByteArray} {nL : Nat} {h mc ms : Nat} {D : va_G} {cI cZ : ClassId} {z : Nat} {ws : va_W} {av : List Value} {post : va_W → Prop} {own : String} (hy : plainName y.cls = true) (ho : y.cls = own) (hyn : y.name = "<init>") (hn : (lg_sl av).length ≤ nL)
    (k : ∀ (p : Program) (e : Env) (s : State) (m : MethodId) (below : List Frame) (meth : Method) (c : Code) (ls : Array Slot) (Q : State → Prop), gE p s m av.toArray c cc nL own D cI cZ z → meth.sig.returnType = none → meth.locks = false → meth.name = "<init>" → gH D z s ws s.heap [] → lv_has ls nL (lv_args 0 av) →
      Q = MQ below (gQx D cI cZ z post) av.toArray s mc ms (gA z) → W p l e (rmI h mc ms) s m av.toArray below meth c s.heap [] 0 0 Q (F0 m 0 ls [])) : gI l y cc nL h mc ms D cI cZ z ws av post := by
  refine Met.ofW (cc := cc) (maxL := nL) (ret := none) hy rfl ?_
  intro p e s m args below meth c s₁ B hml hv
  obtain ⟨rfl, ⟨hP, hK, hD⟩, hN, hz⟩ := hv
  have hts := atoms_spec (ws := Cond.code y cc nL none :: GG) B.pre
  have hl := lv_entry av (n := nL) hn
  have hown : s.vm.findClass y.cls = some m.cls := findClass_of_methodNamed B.named
  have hin : meth.name = "<init>" := ((name_of_methodNamed B.named B.method).1).trans hyn
  rw [ho] at hown
  rw [lg_entry_eq]
  exact k p e s m below meth c _ _ ⟨B.exec, B.bytes, hml, hown, fun w hw => hts w (List.mem_cons_of_mem _ hw), hK, hN, hz⟩ B.returns B.notSynchronized hin ⟨hP, hD, va_S.rf⟩ hl rfl
theorem ap_get {α : Type} (W L : List α) (j : Nat) : (W ++ L)[W.length + j]? = L[j]? := by
  rw [List.getElem?_append_right (by omega)]
  congr 1
  omega
theorem ap_set {α : Type} (W L : List α) (j : Nat) (x : α) : (W ++ L).set (W.length + j) x = W ++ L.set j x := by
  rw [List.set_append_right _ _ (by omega)]
  congr 2
  omega
section GI
variable {p : Program} {l : Launch} {e : Env} {R : Room} {s : State} {m : MethodId} {args : Array Value} {below : List Frame} {meth : Method} {c : Code} {H : Heap} {locs : List Loc} {cells slots : Nat} {Q : State → Prop} {D : va_G} {cI cZ : ClassId} {z : Nat} {cc : ByteArray} {nL : Nat} {own : String} {W0 L ws ws' : va_W} {ls : Array Slot} {pc : Nat} {rest st0 : List Value} {index : Nat} {C : String}
theorem g_new (E : gE p s m args c cc nL own D cI cZ z) (h : gH D z s (W0 ++ L) H locs) {T : u_T} {N ci : Nat} (hc : cls[ci]? = some (C, T, N)) (hlay : ∀ w ∈ u_ws C T N, w ∈ GG) (ty0 : Nat → FieldType) (hty : ∀ k, k < N → parseFieldDescriptor (T k).2.2.1 = some (ty0 k)) (hcl : Cond.classLink own index C ∈ GG) (hinst : Cond.instantiable C N ∈ GG) (hini : Cond.initialized C ∈ GG) {fs : List Value} (hfs : ∀ j, j < N → defaultValue (ty0 j) = vp_V fs j) (hcells : cells + 1 ≤ R.cells) (hslots : slots + N ≤ R.slots) (hdg : decode cc pc = .ok (.new index, 3))
    (kk : ∀ (q : Nat) (H1 : Heap), gH D z s (W0 ++ (L ++ [(q, .inr (ci, fs))])) H1 locs → W p l e R s m args below meth c H1 locs (cells + 1) (slots + N) Q (F0 m (pc + 3) ls (.ref q :: rest))) : W p l e R s m args below meth c H locs cells slots Q (F0 m pc ls rest) := by
  obtain ⟨hx, hb, hml, ho, hts, hK, hN, hz⟩ := E
  exact va_new hx hb hts hlay ty0 hty ho (hts _ hcl) (hts _ hinst) (hts _ hini) hK h.1 h.2.1 h.2.2 (fun q h => Nat.le_trans hz h) hc hfs hcells hslots hdg (fun q H1 a b c => kk q H1 ⟨by rw [List.append_assoc] at a; exact a, by rw [List.append_assoc] at b; exact b, c⟩)
theorem g_newI (E : gE p s m args c cc nL own D cI cZ z) (h : gH D z s (W0 ++ L) H locs) (harr : Cond.arrayClass .int ∈ GG) {n : Int32} (N : Nat) (hn : ¬ n < 0) (hN : n.toNatClampNeg = N) (hby : N * componentBytes .int ≤ 536870912) (hcells : cells + 1 ≤ R.cells) (hslots : slots + N ≤ R.slots) (hdg : decode cc pc = .ok (.newarray .int, 2))
    (kk : ∀ (q : Nat) (H1 : Heap), gH D z s (W0 ++ (L ++ [(q, .inl (cI, N, .inl (fun _ => 0)))])) H1 locs → W p l e R s m args below meth c H1 locs (cells + 1) (slots + N) Q (F0 m (pc + 2) ls (.ref q :: rest))) : W p l e R s m args below meth c H locs cells slots Q (F0 m pc ls (.int n :: rest)) := by
  obtain ⟨hx, hb, hml, ho, hts, hK, hN', hz⟩ := E
  refine va_newa (atype := .int) (ty := .int) (a0 := (N, .inl (fun _ => 0))) hx hb (hts _ harr) rfl hK h.1 h.2.1 h.2.2 (fun q h => Nat.le_trans hz h) (fun _ => rfl) hn hN hby hcells hslots hdg (fun q cA H1 k a b c => ?_)
  have e1 : s.vm.findClass ("[" ++ FieldType.int.toString) = some cA := (k.2 2 (cA, .int) rfl).2
  have e2 : s.vm.findClass ("[" ++ FieldType.int.toString) = some cI := (k.2 0 (cI, .int) rfl).2
  have e3 : cA = cI := Option.some.inj (e1.symm.trans e2)
  subst e3
  exact kk q H1 ⟨by rw [List.append_assoc] at a; exact a, by rw [List.append_assoc] at b; exact b, c⟩
theorem g_newZ (E : gE p s m args c cc nL own D cI cZ z) (h : gH D z s (W0 ++ L) H locs) (harr : Cond.arrayClass .boolean ∈ GG) {n : Int32} (N : Nat) (hn : ¬ n < 0) (hN : n.toNatClampNeg = N) (hby : N * componentBytes .boolean ≤ 536870912) (hcells : cells + 1 ≤ R.cells) (hslots : slots + N ≤ R.slots) (hdg : decode cc pc = .ok (.newarray .boolean, 2))
    (kk : ∀ (q : Nat) (H1 : Heap), gH D z s (W0 ++ (L ++ [(q, .inl (cZ, N, .inl (fun _ => 0)))])) H1 locs → W p l e R s m args below meth c H1 locs (cells + 1) (slots + N) Q (F0 m (pc + 2) ls (.ref q :: rest))) : W p l e R s m args below meth c H locs cells slots Q (F0 m pc ls (.int n :: rest)) := by
  obtain ⟨hx, hb, hml, ho, hts, hK, hN', hz⟩ := E
  refine va_newa (atype := .boolean) (ty := .boolean) (a0 := (N, .inl (fun _ => 0))) hx hb (hts _ harr) rfl hK h.1 h.2.1 h.2.2 (fun q h => Nat.le_trans hz h) (fun _ => rfl) hn hN hby hcells hslots hdg (fun q cA H1 k a b c => ?_)
  have e1 : s.vm.findClass ("[" ++ FieldType.boolean.toString) = some cA := (k.2 2 (cA, .boolean) rfl).2
  have e2 : s.vm.findClass ("[" ++ FieldType.boolean.toString) = some cZ := (k.2 1 (cZ, .boolean) rfl).2
  have e3 : cA = cZ := Option.some.inj (e1.symm.trans e2)
  subst e3
  exact kk q H1 ⟨by rw [List.append_assoc] at a; exact a, by rw [List.append_assoc] at b; exact b, c⟩
theorem g_obj (E : gE p s m args c cc nL own D cI cZ z) (hl : Cond.methodLink own index objectInit ∈ GG) (hi : Cond.instanceMethod objectInit ∈ GG) (hc : Cond.code objectInit ⟨#[0xb1]⟩ 1 none ∈ GG) (hsz : ls.size = nL) {a : Nat} (hfr : 1 ≤ R.frames) (hlo : (rest.map fun v => v.category).sum + 12 ≤ R.locals) (hdg : decode cc pc = .ok (.invokespecial index, 3))
    (kk : W p l e R s m args below meth c H locs cells slots Q (F0 m (pc + 3) ls rest)) : W p l e R s m args below meth c H locs cells slots Q (F0 m pc ls (.ref a :: rest)) := by
  obtain ⟨hx, hb, hml, ho, hts, hK, hN, hz⟩ := E
  exact W.objInit hx hb ho (hts _ hl) (hts _ hi) (hts _ hc) rfl (hsz.trans hml.symm) rfl hdg hfr (by show 2 * 0 + (rest.map fun v => v.category).sum + 12 ≤ R.locals; omega) (W.eq (g2 := F0 m (pc + 3) ls rest) rfl kk)
theorem g_putF (E : gE p s m args c cc nL own D cI cZ z) {T : u_T} {N ci : Nat} {fs : List Value} {a : Nat} {v : Value} {ty : FieldType} (h : gH D z s (W0 ++ (a, .inr (ci, fs)) :: L) H locs) (hin : meth.name = "<init>") (hc : cls[ci]? = some (C, T, N)) (hlay : ∀ w ∈ u_ws C T N, w ∈ GG) (ty0 : Nat → FieldType) (hty : ∀ k, k < N → parseFieldDescriptor (T k).2.2.1 = some (ty0 k)) (hnm : ∀ a, a < N → ∀ b, b < N → a ≠ b → (T a).2.1 ≠ (T b).2.1) (k : Nat) (hk : k < N) (hs : (T k).1 = C) (ho' : C = own) (hl : Cond.fieldLink own index C (T k).2.1 (T k).2.2.1 ∈ GG) (hfin : (T k).2.2.2 = true) (hd : parseFieldDescriptor (T k).2.2.1 = some ty) (hn : narrow ty v = v) (hfit : fits ty v = true) (hlen : k < fs.length) (hdg : decode cc pc = .ok (.putfield index, 3))
    (kk : ∀ (H1 : Heap) (locs1 : List Loc), gH D z s (W0 ++ (a, .inr (ci, fs.set k v)) :: L) H1 locs1 → W p l e R s m args below meth c H1 locs1 cells slots Q (F0 m (pc + 3) ls rest)) : W p l e R s m args below meth c H locs cells slots Q (F0 m pc ls (v :: .ref a :: rest)) := by
  obtain ⟨hx, hb, hml, ho, hts, hK, hN, hz⟩ := E
  have he : (W0 ++ (a, .inr (ci, fs)) :: L)[W0.length + 0]? = some (a, .inr (ci, fs)) := ap_get W0 _ 0
  have hset : ∀ x, (W0 ++ (a, .inr (ci, fs)) :: L).set (W0.length + 0) x = W0 ++ x :: L := fun x => ap_set W0 _ 0 x
  exact va_putF hx hb hts hlay ty0 hty hnm ho hK h.1 h.2.1 h.2.2 (W0.length + 0) he hc k hk (hts _ hl) (fun x hx => by rw [hs] at hx; exact hx) hfin hin (hs.trans ho') hd hn hfit hlen hdg (fun H1 locs1 h1 h2 h3 => kk H1 locs1 (by rw [hset] at h1 h2; exact ⟨h1, h2, h3⟩))
theorem g_putP (E : gE p s m args c cc nL own D cI cZ z) {T : u_T} {N ci : Nat} {fs : List Value} {a : Nat} {v : Value} {ty : FieldType} (h : gH D z s (W0 ++ (a, .inr (ci, fs)) :: L) H locs) (hc : cls[ci]? = some (C, T, N)) (hlay : ∀ w ∈ u_ws C T N, w ∈ GG) (ty0 : Nat → FieldType) (hty : ∀ k, k < N → parseFieldDescriptor (T k).2.2.1 = some (ty0 k)) (hnm : ∀ a, a < N → ∀ b, b < N → a ≠ b → (T a).2.1 ≠ (T b).2.1) (k : Nat) (hk : k < N) (hs : (T k).1 = C) (hl : Cond.fieldLink own index C (T k).2.1 (T k).2.2.1 ∈ GG) (hfin : (T k).2.2.2 = false) (hd : parseFieldDescriptor (T k).2.2.1 = some ty) (hn : narrow ty v = v) (hfit : fits ty v = true) (hlen : k < fs.length) (hdg : decode cc pc = .ok (.putfield index, 3))
    (kk : ∀ (H1 : Heap) (locs1 : List Loc), gH D z s (W0 ++ (a, .inr (ci, fs.set k v)) :: L) H1 locs1 → W p l e R s m args below meth c H1 locs1 cells slots Q (F0 m (pc + 3) ls rest)) : W p l e R s m args below meth c H locs cells slots Q (F0 m pc ls (v :: .ref a :: rest)) :=
  g_put E h (W0.length + 0) (ap_get W0 _ 0) hc hlay ty0 hty hnm k hk hs hl hfin hd hn hfit hlen (ap_set W0 _ 0 _) hdg kk
variable {y : MethodName} {cy : ByteArray} {nY hh mc ms : Nat} {b : Nat} {post : va_W → Prop}
theorem g_ranI {a : Array Value} (hr : va_Run p l e R s m args below meth c H locs cells slots mc ms (F0 m pc ls st0) rest (gQx D cI cZ z post a) (gA z)) (hS : va_S (gA z) s.heap H locs)
    (kk : ∀ (ws' : va_W) (H1 : Heap) (locs1 : List Loc), post ws' → gH D z s ws' H1 locs1 → W p l e R s m args below meth c H1 locs1 (cells + mc) (slots + ms) Q (F0 m (pc + 3) ls rest)) : W p l e R s m args below meth c H locs cells slots Q (F0 m pc ls st0) := by
  intro T hT X
  obtain ⟨v, st₀, t, T', L, h0, X', hL, e1, e2, ⟨⟨hv, ws', hp, hP1, hK1, hD1⟩, hz, hk⟩, st⟩ := hr T hT X
  cases hv
  rw [h0] at hz hk
  obtain ⟨t2, a1, b1⟩ := kk ws' T'.heap (locs ++ L) hp ⟨by rw [e1]; exact hP1, hD1, ⟨Nat.le_trans hS.1 (by rw [e1]; exact hz), fun q h1 h2 => by rw [e1, hk q (Nat.lt_of_lt_of_le h1 hS.1) h2]; exact hS.2.1 q h1 h2, fun q hq => by
      rcases List.mem_append.mp hq with h | h
      · exact hS.2.2 q h
      · exact hL q h⟩⟩ T' rfl X'
  exact ⟨t2, st t2 a1, b1⟩
theorem g_callIN (E : gE p s m args c cc nL own D cI cZ z) (h : gH D z s ws H locs) (hM : gI l y cy nY hh mc ms D cI cZ z ws [.ref b] post) (hl : (own, index, y) ∈ nestM) (hin : Cond.instanceMethod y ∈ GG) (hini : Cond.initialized y.cls ∈ GG) (hcode : Cond.code y cy nY none ∈ GG) (hn : y.name = "<init>") (hd : y.cls ≠ "java/lang/invoke/MethodHandle" ∧ y.cls ≠ "java/lang/invoke/VarHandle" ∧ (parseMethodDescriptor y.desc).map (fun d => d.parameters.length) = some 0)
    (hR : hh + 1 ≤ R.frames ∧ 8 + (nY + 11) + 100 * hh ≤ R.locals) (hsz : ls.size = nL) (hW : (rest.map fun v => v.category).sum ≤ 8) (hcs : cells + mc ≤ R.cells ∧ slots + ms ≤ R.slots) (hdg : decode cc pc = .ok (.invokespecial index, 3))
    (kk : ∀ (ws' : va_W) (H1 : Heap) (locs1 : List Loc), post ws' → gH D z s ws' H1 locs1 → W p l e R s m args below meth c H1 locs1 (cells + mc) (slots + ms) Q (F0 m (pc + 3) ls rest)) : W p l e R s m args below meth c H locs cells slots Q (F0 m pc ls (.ref b :: rest)) := by
  have E0 := E
  obtain ⟨hx, hb, hml, ho, hts, hK, hN, hz⟩ := E
  exact g_ranI (va_runIN (As := []) (rest := rest) ⟨hx, hb, hml, ho, hts⟩ hM ⟨va_cnB 0 hts (gg_in hcode) rfl rfl rfl (hN.2 _ hl) (hts _ hini) hd hR, hn, hts _ hin⟩ ⟨gP_blind, g_pre E0 h⟩ rfl rfl hsz rfl (lv_room hW) hdg hcs) h.2.2 kk
theorem g_callI (E : gE p s m args c cc nL own D cI cZ z) (h : gH D z s ws H locs) (hM : gI l y cy nY hh mc ms D cI cZ z ws [.ref b] post) (hl : Cond.methodLink own index y ∈ GG) (hin : Cond.instanceMethod y ∈ GG) (hini : Cond.initialized y.cls ∈ GG) (hcode : Cond.code y cy nY none ∈ GG) (hn : y.name = "<init>") (hd : y.cls ≠ "java/lang/invoke/MethodHandle" ∧ y.cls ≠ "java/lang/invoke/VarHandle" ∧ (parseMethodDescriptor y.desc).map (fun d => d.parameters.length) = some 0)
    (hR : hh + 1 ≤ R.frames ∧ 8 + (nY + 11) + 100 * hh ≤ R.locals) (hsz : ls.size = nL) (hW : (rest.map fun v => v.category).sum ≤ 8) (hcs : cells + mc ≤ R.cells ∧ slots + ms ≤ R.slots) (hdg : decode cc pc = .ok (.invokespecial index, 3))
    (kk : ∀ (ws' : va_W) (H1 : Heap) (locs1 : List Loc), post ws' → gH D z s ws' H1 locs1 → W p l e R s m args below meth c H1 locs1 (cells + mc) (slots + ms) Q (F0 m (pc + 3) ls rest)) : W p l e R s m args below meth c H locs cells slots Q (F0 m pc ls (.ref b :: rest)) := by
  have E0 := E
  obtain ⟨hx, hb, hml, ho, hts, hK, hN, hz⟩ := E
  exact g_ranI (va_runI (As := []) (rest := rest) ⟨hx, hb, hml, ho, hts⟩ hM (cwI 0 hts (gg_in hcode) rfl rfl rfl (hts _ hini) (hts _ hl) (hts _ hin) hn hd hR) ⟨gP_blind, g_pre E0 h⟩ rfl rfl hsz rfl (lv_room hW) hdg hcs) h.2.2 kk
theorem g_vretI (E : gE p s m args c cc nL own D cI cZ z) (hr : meth.sig.returnType = none) (hlk : meth.locks = false) (h : gH D z s ws H locs) (hp : post ws) (hQ : Q = MQ below (gQx D cI cZ z post) args s cells slots (gA z)) (hdg : decode cc pc = .ok (.return_, 1)) : W p l e R s m args below meth c H locs cells slots Q (F0 m pc ls []) := by
  rw [hQ]
  exact W.vret E.1 E.2.1 hr (fun t ht hW => ⟨⟨rfl, ws, hp, by rw [ht]; exact h.1, va_K.moved hW.alike E.2.2.2.2.2.1, h.2.1⟩, h.2.2.F ht⟩) h.2.2.2.2 hdg hlk
end GI
theorem g_as1 {D : va_G} {z : Nat} {s : State} {W0 : va_W} (L1 L2 : va_W) {H : Heap} {locs : List Loc} (h : gH D z s (W0 ++ (L1 ++ L2)) H locs) : gH D z s ((W0 ++ L1) ++ L2) H locs := by rw [List.append_assoc]; exact h
theorem g_as2 {D : va_G} {z : Nat} {s : State} {W0 : va_W} (L1 L2 : va_W) {H : Heap} {locs : List Loc} (h : gH D z s ((W0 ++ L1) ++ L2) H locs) : gH D z s (W0 ++ (L1 ++ L2)) H locs := by rw [← List.append_assoc]; exact h
