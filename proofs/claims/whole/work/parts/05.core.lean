abbrev cls : List vw_C := [(RX0, TX0, 3), (RX1, TX1, 3), (RX2, TX2, 1), (RX3, TX3, 4), (RX4, TX4, 12), (RX5, TX5, 1), (RX6, TX6, 6), (RX7, TX7, 5), (RX8, TX8, 12), (RX9, TX9, 21)]
def nestF : List (String × Nat × String × String × String) := [("WellKnots$Way", 48, "WellKnots$Road", "wells", "I"), ("WellKnots", 208, "WellKnots$Road", "wells", "I"), ("WellKnots$Way", 71, "WellKnots$Road", "stages", "I"), ("WellKnots", 306, "WellKnots$Road", "stages", "I"), ("WellKnots", 309, "WellKnots$Road", "caravans", "I"), ("WellKnots", 86, "WellKnots$Road", "start", "LWellKnots$Moment;"), ("WellKnots", 123, "WellKnots$Ledger", "now", "LWellKnots$Moment;"), ("WellKnots", 230, "WellKnots$Ledger", "undos", "I"), ("WellKnots", 270, "WellKnots$Hearsay", "size", "I"), ("WellKnots", 215, "WellKnots$Ring", "size", "I"), ("WellKnots", 220, "WellKnots$Ring", "strike", "I"), ("WellKnots", 255, "WellKnots$Way", "length", "I"), ("WellKnots", 258, "WellKnots$Way", "firstStage", "I"), ("WellKnots", 261, "WellKnots$Way", "firstCups", "I")]
def nestM : List (String × Nat × MethodName) := [("WellKnots", 9, ⟨"WellKnots$Text", "<init>", "()V"⟩), ("WellKnots", 18, ⟨"WellKnots$Road", "<init>", "()V"⟩), ("WellKnots$Road", 36, ⟨"WellKnots$Moment", "<init>", "()V"⟩), ("WellKnots", 28, ⟨"WellKnots$Ledger", "<init>", "()V"⟩), ("WellKnots$Ledger", 11, ⟨"WellKnots$Moment", "<init>", "()V"⟩), ("WellKnots", 41, ⟨"WellKnots$Hearsay", "<init>", "()V"⟩), ("WellKnots", 48, ⟨"WellKnots$Ring", "<init>", "()V"⟩), ("WellKnots", 55, ⟨"WellKnots$Way", "<init>", "()V"⟩), ("WellKnots", 62, ⟨"WellKnots$Settling", "<init>", "()V"⟩), ("WellKnots$Text", 35, ⟨"WellKnots", "within", "(III)Z"⟩), ("WellKnots$Moment", 31, ⟨"WellKnots", "hasBit", "(II)Z"⟩), ("WellKnots$Ring", 44, ⟨"WellKnots", "hasBit", "(II)Z"⟩), ("WellKnots$Settling", 24, ⟨"WellKnots", "hasBit", "(II)Z"⟩), ("WellKnots$Road", 88, ⟨"WellKnots", "hasBit", "(II)Z"⟩), ("WellKnots$Hearsay", 22, ⟨"WellKnots", "within", "(III)Z"⟩)]
/-- the nest mates' links: words that no method's list can hold -/
def NW (U : State) : Prop := (∀ x ∈ nestF, va_Nw (.fieldLinkNest x.1 x.2.1 x.2.2.1 x.2.2.2.1 x.2.2.2.2 "WellKnots") U) ∧ ∀ x ∈ nestM, va_Nw (.methodLinkNest x.1 x.2.1 x.2.2 "WellKnots") U
theorem NW.warm {s U : State} (hW : s.WarmedH U.vm) (h : NW s) : NW U := ⟨fun x hx => va_Nw.warmF hW (h.1 x hx), fun x hx => va_Nw.warmM hW (h.2 x hx)⟩
theorem NW.same {s U : State} (hv : s.vm = U.vm) (h : NW s) : NW U := ⟨fun x hx => va_Nw.same rfl hv (h.1 x hx), fun x hx => va_Nw.same rfl hv (h.2 x hx)⟩
abbrev tyl (cI cZ : ClassId) : List (ClassId × FieldType) := [(cI, .int), (cZ, .boolean)]
abbrev gA (z : Nat) : Nat → Prop := fun q => z ≤ q
/-- the room of a method whose calls are h deep -/
abbrev rmH (h : Nat) : Room := { frames := h, cells := 0, slots := 0, locals := 100 * h }
def gB (D : va_G) (cI cZ : ClassId) (z : Nat) (ws : va_W) (U : State) : Prop := va_P D cls ws U.heap ∧ va_K D cls (tyl cI cZ) U ∧ va_D (gA z) ws
def gP (D : va_G) (cI cZ : ClassId) (z : Nat) (ws : va_W) (av : List Value) : Array Value → State → Prop := fun v U => v = av.toArray ∧ gB D cI cZ z ws U ∧ NW U ∧ z ≤ U.heap.size
def gQ (D : va_G) (cI cZ : ClassId) (z : Nat) (r : Option Value) (ws : va_W) : Array Value → State → Outcome → State → Prop := fun _ st oc t => (oc = .returned r ∧ gB D cI cZ z ws t) ∧ va_F (gA z) st t
theorem gP_blind {D : va_G} {cI cZ : ClassId} {z : Nat} {ws : va_W} {av : List Value} : FrameBlind (gP D cI cZ z ws av) := fun a U g mk q => by
  obtain ⟨q0, ⟨qP, qK, qD⟩, qN, qz⟩ := q
  exact ⟨q0, ⟨qP, va_K.moved (u := U) (U := U.calling g mk a) (Vm.Alike.refl U.vm) qK, qD⟩, NW.same rfl qN, qz⟩
/-- what a method's walk has at hand -/
def gE (p : Program) (s : State) (m : MethodId) (args : Array Value) (c : Code) (cc : ByteArray) (nL : Nat) (own : String) (D : va_G) (cI cZ : ClassId) (z : Nat) : Prop :=
  p.tables.exec = Jvm.exec ∧ c.code = cc ∧ c.maxLocals = nL ∧ s.vm.findClass own = some m.cls ∧ (∀ w ∈ GG, w.before args s = true) ∧ va_K D cls (tyl cI cZ) s ∧ NW s ∧ z ≤ s.heap.size
/-- and of the heap -/
def gH (D : va_G) (z : Nat) (s : State) (ws : va_W) (H : Heap) (locs : List Loc) : Prop := va_P D cls ws H ∧ va_D (gA z) ws ∧ va_S (gA z) s.heap H locs
/-- a contract, in short -/
abbrev gM (l : Launch) (y : MethodName) (cc : ByteArray) (nL : Nat) (ret : Option FieldType) (h : Nat) (D : va_G) (cI cZ : ClassId) (z : Nat) (ws : va_W) (av : List Value) (r : Option Value) (ws' : va_W) : Prop :=
  Met l y (Cond.code y cc nL ret :: GG) (rmH h) (gP D cI cZ z ws av) (gQ D cI cZ z r ws') 0 0 (gA z)
theorem g_met {l : Launch} {y : MethodName} {cc : ByteArray} {nL : Nat} {ret : Option FieldType} {h : Nat} {D : va_G} {cI cZ : ClassId} {z : Nat} {ws ws' : va_W} {av : List Value} {r : Option Value} {own : String} (hy : plainName y.cls = true) (ho : y.cls = own) (hn : (lg_sl av).length ≤ nL)
    (k : ∀ (p : Program) (e : Env) (s : State) (m : MethodId) (below : List Frame) (meth : Method) (c : Code) (ls : Array Slot) (Q : State → Prop), gE p s m av.toArray c cc nL own D cI cZ z → meth.sig.returnType = ret → meth.locks = false → gH D z s ws s.heap [] → lv_has ls nL (lv_args 0 av) →
      Q = MQ below (gQ D cI cZ z r ws') av.toArray s 0 0 (gA z) → W p l e (rmH h) s m av.toArray below meth c s.heap [] 0 0 Q (F0 m 0 ls [])) : gM l y cc nL ret h D cI cZ z ws av r ws' := by
  refine Met.ofW (cc := cc) (maxL := nL) (ret := ret) hy rfl ?_
  intro p e s m args below meth c s₁ B hml hv
  obtain ⟨rfl, ⟨hP, hK, hD⟩, hN, hz⟩ := hv
  have hts := atoms_spec (ws := Cond.code y cc nL ret :: GG) B.pre
  have hl := lv_entry av (n := nL) hn
  have hown : s.vm.findClass y.cls = some m.cls := findClass_of_methodNamed B.named
  rw [ho] at hown
  rw [lg_entry_eq]
  exact k p e s m below meth c _ _ ⟨B.exec, B.bytes, hml, hown, fun w hw => hts w (List.mem_cons_of_mem _ hw), hK, hN, hz⟩ B.returns B.notSynchronized ⟨hP, hD, va_S.rf⟩ hl rfl
/-- what a caller must know of a method, apart from its contract and the link -/
def gCB (C : String) (y : MethodName) (cy : ByteArray) (nY : Nat) (ret : Option FieldType) (np : Nat) : Prop := Cond.instanceMethod y ∈ GG ∧ Cond.selects C y y ∈ GG ∧ Cond.initialized C ∈ GG ∧ Cond.code y cy nY ret ∈ GG ∧ y.cls = C ∧ y.cls ≠ "java/lang/invoke/MethodHandle" ∧ y.cls ≠ "java/lang/invoke/VarHandle" ∧ (parseMethodDescriptor y.desc).map (fun d => d.parameters.length) = some np
def gCS (y : MethodName) (cy : ByteArray) (nY : Nat) (ret : Option FieldType) (np : Nat) : Prop := Cond.static y ∈ GG ∧ Cond.initialized y.cls ∈ GG ∧ Cond.code y cy nY ret ∈ GG ∧ y.cls ≠ "java/lang/invoke/MethodHandle" ∧ y.cls ≠ "java/lang/invoke/VarHandle" ∧ (parseMethodDescriptor y.desc).map (fun d => d.parameters.length) = some np
theorem gg_in {y : MethodName} {cy : ByteArray} {nY : Nat} {ret : Option FieldType} (h : Cond.code y cy nY ret ∈ GG) : GoodIn GG (Cond.code y cy nY ret :: GG) := fun w hw => by
  rcases List.mem_cons.mp hw with e | e
  · rw [e]; exact ⟨h, gg_good h⟩
  · exact ⟨e, gg_good e⟩
section GC
variable {p : Program} {l : Launch} {e : Env} {R : Room} {s : State} {m : MethodId} {args : Array Value} {below : List Frame} {meth : Method} {c : Code} {H : Heap} {locs : List Loc} {cells slots : Nat} {Q : State → Prop} {D : va_G} {cI cZ : ClassId} {z : Nat} {cc : ByteArray} {nL : Nat} {own : String} {ws ws' : va_W} {ls : Array Slot} {pc : Nat} {rest st0 : List Value} {r : Option Value}
theorem g_ran {a : Array Value} (hr : va_Run p l e R s m args below meth c H locs cells slots 0 0 (F0 m pc ls st0) rest (gQ D cI cZ z r ws' a) (gA z)) (hS : va_S (gA z) s.heap H locs)
    (kk : ∀ (H1 : Heap) (locs1 : List Loc), gH D z s ws' H1 locs1 → W p l e R s m args below meth c H1 locs1 cells slots Q (F0 m (pc + 3) ls (r.toList ++ rest))) : W p l e R s m args below meth c H locs cells slots Q (F0 m pc ls st0) := by
  intro T hT X
  obtain ⟨v, st₀, t, T', L, h0, X', hL, e1, e2, ⟨⟨hv, hP1, hK1, hD1⟩, hz, hk⟩, st⟩ := hr T hT X
  cases hv
  rw [h0] at hz hk
  obtain ⟨t2, a1, b1⟩ := kk T'.heap (locs ++ L) ⟨by rw [e1]; exact hP1, hD1, ⟨Nat.le_trans hS.1 (by rw [e1]; exact hz), fun q h1 h2 => by rw [e1, hk q (Nat.lt_of_lt_of_le h1 hS.1) h2]; exact hS.2.1 q h1 h2, fun q hq => by
      rcases List.mem_append.mp hq with h | h
      · exact hS.2.2 q h
      · exact hL q h⟩⟩ T' rfl X'
  exact ⟨t2, st t2 a1, b1⟩
theorem g_pre (E : gE p s m args c cc nL own D cI cZ z) (h : gH D z s ws H locs) {av : List Value} (U : State) (hU : U.heap = H) (hW : s.WarmedH U.vm) : gP D cI cZ z ws av av.toArray U := by
  obtain ⟨-, -, -, -, -, hK, hN, hz⟩ := E
  exact ⟨rfl, ⟨by rw [hU]; exact h.1, va_K.moved hW.alike hK, h.2.1⟩, hN.warm hW, by rw [hU]; exact Nat.le_trans hz h.2.2.1⟩
variable {y : MethodName} {cy : ByteArray} {nY hh np index : Nat} {ret : Option FieldType} {As : List Value} {b : Nat} {C : String}
theorem g_callV (E : gE p s m args c cc nL own D cI cZ z) (h : gH D z s ws H locs) (hM : gM l y cy nY ret hh D cI cZ z ws (.ref b :: As) r ws') (hl : Cond.methodLink own index y ∈ GG) (cb : gCB C y cy nY ret np) (q0 : Nat) {ci : Nat} {T : u_T} {N : Nat} {fs : List Value} (he : ws[q0]? = some (b, .inr (ci, fs))) (hc : cls[ci]? = some (C, T, N))
    (hR : hh + 1 ≤ R.frames ∧ 8 + (nY + 11) + 100 * hh ≤ R.locals) (hn : As.length = np) (hst : st0 = As.reverse ++ .ref b :: rest) (hsz : ls.size = nL) (hW : (rest.map fun v => v.category).sum ≤ 8) (hcs : cells ≤ R.cells ∧ slots ≤ R.slots) (hdg : decode cc pc = .ok (.invokevirtual index, 3))
    (kk : ∀ (H1 : Heap) (locs1 : List Loc), gH D z s ws' H1 locs1 → W p l e R s m args below meth c H1 locs1 cells slots Q (F0 m (pc + 3) ls (r.toList ++ rest))) : W p l e R s m args below meth c H locs cells slots Q (F0 m pc ls st0) := by
  obtain ⟨c1, c2, c3, c4, c5, c6, c7, c8⟩ := cb
  have hg : GoodIn GG (wsV own index C y (Cond.code y cy nY ret :: GG)) := fun w hw => by
    rcases List.mem_append.mp hw with e | e
    · simp only [List.mem_cons, List.not_mem_nil, or_false] at e
      rcases e with e | e | e | e <;> rw [e] <;> first | exact ⟨hl, gg_good hl⟩ | exact ⟨c1, gg_good c1⟩ | exact ⟨c2, gg_good c2⟩ | exact ⟨c3, gg_good c3⟩
    · exact gg_in c4 w e
  have E0 := E
  obtain ⟨hx, hb, hml, ho, hts, hK, hN, hz⟩ := E
  exact g_ran (va_runV (As := As) (rest := rest) ⟨hx, hb, hml, ho, hts⟩ hM (cwV np hts hg rfl rfl rfl ⟨c5, c6, c7, c8⟩ hR) ⟨gP_blind, va_recv hK h.1 hc he, g_pre E0 h⟩ rfl hn hsz hst (lv_room hW) hdg hcs) h.2.2 kk
theorem g_callS (E : gE p s m args c cc nL own D cI cZ z) (h : gH D z s ws H locs) (hM : gM l y cy nY ret hh D cI cZ z ws As r ws') (hl : Cond.methodLink own index y ∈ GG) (cb : gCS y cy nY ret np)
    (hR : hh + 1 ≤ R.frames ∧ 8 + (nY + 11) + 100 * hh ≤ R.locals) (hn : As.length = np) (hst : st0 = As.reverse ++ rest) (hsz : ls.size = nL) (hW : (rest.map fun v => v.category).sum ≤ 8) (hcs : cells ≤ R.cells ∧ slots ≤ R.slots) (hdg : decode cc pc = .ok (.invokestatic index, 3))
    (kk : ∀ (H1 : Heap) (locs1 : List Loc), gH D z s ws' H1 locs1 → W p l e R s m args below meth c H1 locs1 cells slots Q (F0 m (pc + 3) ls (r.toList ++ rest))) : W p l e R s m args below meth c H locs cells slots Q (F0 m pc ls st0) := by
  obtain ⟨c1, c3, c4, c6, c7, c8⟩ := cb
  have hg : GoodIn GG (va_wsS own index y (Cond.code y cy nY ret :: GG)) := fun w hw => by
    rcases List.mem_append.mp hw with e | e
    · simp only [List.mem_cons, List.not_mem_nil, or_false] at e
      rcases e with e | e | e <;> rw [e] <;> first | exact ⟨hl, gg_good hl⟩ | exact ⟨c1, gg_good c1⟩ | exact ⟨c3, gg_good c3⟩
    · exact gg_in c4 w e
  have E0 := E
  obtain ⟨hx, hb, hml, ho, hts, hK, hN, hz⟩ := E
  exact g_ran (va_runS (As := As) (rest := rest) ⟨hx, hb, hml, ho, hts⟩ hM (va_cwS np hts hg rfl rfl rfl ⟨c6, c7, c8⟩ hR) ⟨gP_blind, g_pre E0 h⟩ rfl hn hsz hst (lv_room hW) hdg hcs) h.2.2 kk
theorem g_callSN (E : gE p s m args c cc nL own D cI cZ z) (h : gH D z s ws H locs) (hM : gM l y cy nY ret hh D cI cZ z ws As r ws') (hl : (own, index, y) ∈ nestM) (cb : gCS y cy nY ret np)
    (hR : hh + 1 ≤ R.frames ∧ 8 + (nY + 11) + 100 * hh ≤ R.locals) (hn : As.length = np) (hst : st0 = As.reverse ++ rest) (hsz : ls.size = nL) (hW : (rest.map fun v => v.category).sum ≤ 8) (hcs : cells ≤ R.cells ∧ slots ≤ R.slots) (hdg : decode cc pc = .ok (.invokestatic index, 3))
    (kk : ∀ (H1 : Heap) (locs1 : List Loc), gH D z s ws' H1 locs1 → W p l e R s m args below meth c H1 locs1 cells slots Q (F0 m (pc + 3) ls (r.toList ++ rest))) : W p l e R s m args below meth c H locs cells slots Q (F0 m pc ls st0) := by
  obtain ⟨c1, c3, c4, c6, c7, c8⟩ := cb
  have E0 := E
  obtain ⟨hx, hb, hml, ho, hts, hK, hN, hz⟩ := E
  exact g_ran (va_runSN (As := As) (rest := rest) ⟨hx, hb, hml, ho, hts⟩ hM ⟨va_cnB np hts (gg_in c4) rfl rfl rfl (hN.2 _ hl) (hts _ c3) ⟨c6, c7, c8⟩ hR, hts _ c1, trivial⟩ ⟨gP_blind, g_pre E0 h⟩ rfl hn hsz hst (lv_room hW) hdg hcs) h.2.2 kk
theorem g_callVi {ri : Int32} (E : gE p s m args c cc nL own D cI cZ z) (h : gH D z s ws H locs) (hM : gM l y cy nY ret hh D cI cZ z ws (.ref b :: As) (some (.int ri)) ws') (hl : Cond.methodLink own index y ∈ GG) (cb : gCB C y cy nY ret np) (q0 : Nat) {ci : Nat} {T : u_T} {N : Nat} {fs : List Value} (he : ws[q0]? = some (b, .inr (ci, fs))) (hc : cls[ci]? = some (C, T, N))
    (hR : hh + 1 ≤ R.frames ∧ 8 + (nY + 11) + 100 * hh ≤ R.locals) (hn : As.length = np) (hst : st0 = As.reverse ++ .ref b :: rest) (hsz : ls.size = nL) (hW : (rest.map fun v => v.category).sum ≤ 8) (hcs : cells ≤ R.cells ∧ slots ≤ R.slots) (hdg : decode cc pc = .ok (.invokevirtual index, 3))
    (kk : ∀ (H1 : Heap) (locs1 : List Loc), gH D z s ws' H1 locs1 → W p l e R s m args below meth c H1 locs1 cells slots Q (F0 m (pc + 3) ls (.int ri :: rest))) : W p l e R s m args below meth c H locs cells slots Q (F0 m pc ls st0) := g_callV E h hM hl cb q0 he hc hR hn hst hsz hW hcs hdg kk
theorem g_callVr {ri : Nat} (E : gE p s m args c cc nL own D cI cZ z) (h : gH D z s ws H locs) (hM : gM l y cy nY ret hh D cI cZ z ws (.ref b :: As) (some (.ref ri)) ws') (hl : Cond.methodLink own index y ∈ GG) (cb : gCB C y cy nY ret np) (q0 : Nat) {ci : Nat} {T : u_T} {N : Nat} {fs : List Value} (he : ws[q0]? = some (b, .inr (ci, fs))) (hc : cls[ci]? = some (C, T, N))
    (hR : hh + 1 ≤ R.frames ∧ 8 + (nY + 11) + 100 * hh ≤ R.locals) (hn : As.length = np) (hst : st0 = As.reverse ++ .ref b :: rest) (hsz : ls.size = nL) (hW : (rest.map fun v => v.category).sum ≤ 8) (hcs : cells ≤ R.cells ∧ slots ≤ R.slots) (hdg : decode cc pc = .ok (.invokevirtual index, 3))
    (kk : ∀ (H1 : Heap) (locs1 : List Loc), gH D z s ws' H1 locs1 → W p l e R s m args below meth c H1 locs1 cells slots Q (F0 m (pc + 3) ls (.ref ri :: rest))) : W p l e R s m args below meth c H locs cells slots Q (F0 m pc ls st0) := g_callV E h hM hl cb q0 he hc hR hn hst hsz hW hcs hdg kk
theorem g_callVl {ri : Int64} (E : gE p s m args c cc nL own D cI cZ z) (h : gH D z s ws H locs) (hM : gM l y cy nY ret hh D cI cZ z ws (.ref b :: As) (some (.long ri)) ws') (hl : Cond.methodLink own index y ∈ GG) (cb : gCB C y cy nY ret np) (q0 : Nat) {ci : Nat} {T : u_T} {N : Nat} {fs : List Value} (he : ws[q0]? = some (b, .inr (ci, fs))) (hc : cls[ci]? = some (C, T, N))
    (hR : hh + 1 ≤ R.frames ∧ 8 + (nY + 11) + 100 * hh ≤ R.locals) (hn : As.length = np) (hst : st0 = As.reverse ++ .ref b :: rest) (hsz : ls.size = nL) (hW : (rest.map fun v => v.category).sum ≤ 8) (hcs : cells ≤ R.cells ∧ slots ≤ R.slots) (hdg : decode cc pc = .ok (.invokevirtual index, 3))
    (kk : ∀ (H1 : Heap) (locs1 : List Loc), gH D z s ws' H1 locs1 → W p l e R s m args below meth c H1 locs1 cells slots Q (F0 m (pc + 3) ls (.long ri :: rest))) : W p l e R s m args below meth c H locs cells slots Q (F0 m pc ls st0) := g_callV E h hM hl cb q0 he hc hR hn hst hsz hW hcs hdg kk
theorem g_callVv (E : gE p s m args c cc nL own D cI cZ z) (h : gH D z s ws H locs) (hM : gM l y cy nY ret hh D cI cZ z ws (.ref b :: As) none ws') (hl : Cond.methodLink own index y ∈ GG) (cb : gCB C y cy nY ret np) (q0 : Nat) {ci : Nat} {T : u_T} {N : Nat} {fs : List Value} (he : ws[q0]? = some (b, .inr (ci, fs))) (hc : cls[ci]? = some (C, T, N))
    (hR : hh + 1 ≤ R.frames ∧ 8 + (nY + 11) + 100 * hh ≤ R.locals) (hn : As.length = np) (hst : st0 = As.reverse ++ .ref b :: rest) (hsz : ls.size = nL) (hW : (rest.map fun v => v.category).sum ≤ 8) (hcs : cells ≤ R.cells ∧ slots ≤ R.slots) (hdg : decode cc pc = .ok (.invokevirtual index, 3))
    (kk : ∀ (H1 : Heap) (locs1 : List Loc), gH D z s ws' H1 locs1 → W p l e R s m args below meth c H1 locs1 cells slots Q (F0 m (pc + 3) ls rest)) : W p l e R s m args below meth c H locs cells slots Q (F0 m pc ls st0) := g_callV E h hM hl cb q0 he hc hR hn hst hsz hW hcs hdg kk
theorem g_callSi {ri : Int32} (E : gE p s m args c cc nL own D cI cZ z) (h : gH D z s ws H locs) (hM : gM l y cy nY ret hh D cI cZ z ws As (some (.int ri)) ws') (hl : Cond.methodLink own index y ∈ GG) (cb : gCS y cy nY ret np)
    (hR : hh + 1 ≤ R.frames ∧ 8 + (nY + 11) + 100 * hh ≤ R.locals) (hn : As.length = np) (hst : st0 = As.reverse ++ rest) (hsz : ls.size = nL) (hW : (rest.map fun v => v.category).sum ≤ 8) (hcs : cells ≤ R.cells ∧ slots ≤ R.slots) (hdg : decode cc pc = .ok (.invokestatic index, 3))
    (kk : ∀ (H1 : Heap) (locs1 : List Loc), gH D z s ws' H1 locs1 → W p l e R s m args below meth c H1 locs1 cells slots Q (F0 m (pc + 3) ls (.int ri :: rest))) : W p l e R s m args below meth c H locs cells slots Q (F0 m pc ls st0) := g_callS E h hM hl cb hR hn hst hsz hW hcs hdg kk
theorem g_callSv (E : gE p s m args c cc nL own D cI cZ z) (h : gH D z s ws H locs) (hM : gM l y cy nY ret hh D cI cZ z ws As none ws') (hl : Cond.methodLink own index y ∈ GG) (cb : gCS y cy nY ret np)
    (hR : hh + 1 ≤ R.frames ∧ 8 + (nY + 11) + 100 * hh ≤ R.locals) (hn : As.length = np) (hst : st0 = As.reverse ++ rest) (hsz : ls.size = nL) (hW : (rest.map fun v => v.category).sum ≤ 8) (hcs : cells ≤ R.cells ∧ slots ≤ R.slots) (hdg : decode cc pc = .ok (.invokestatic index, 3))
    (kk : ∀ (H1 : Heap) (locs1 : List Loc), gH D z s ws' H1 locs1 → W p l e R s m args below meth c H1 locs1 cells slots Q (F0 m (pc + 3) ls rest)) : W p l e R s m args below meth c H locs cells slots Q (F0 m pc ls st0) := g_callS E h hM hl cb hR hn hst hsz hW hcs hdg kk
theorem g_callSNi {ri : Int32} (E : gE p s m args c cc nL own D cI cZ z) (h : gH D z s ws H locs) (hM : gM l y cy nY ret hh D cI cZ z ws As (some (.int ri)) ws') (hl : (own, index, y) ∈ nestM) (cb : gCS y cy nY ret np)
    (hR : hh + 1 ≤ R.frames ∧ 8 + (nY + 11) + 100 * hh ≤ R.locals) (hn : As.length = np) (hst : st0 = As.reverse ++ rest) (hsz : ls.size = nL) (hW : (rest.map fun v => v.category).sum ≤ 8) (hcs : cells ≤ R.cells ∧ slots ≤ R.slots) (hdg : decode cc pc = .ok (.invokestatic index, 3))
    (kk : ∀ (H1 : Heap) (locs1 : List Loc), gH D z s ws' H1 locs1 → W p l e R s m args below meth c H1 locs1 cells slots Q (F0 m (pc + 3) ls (.int ri :: rest))) : W p l e R s m args below meth c H locs cells slots Q (F0 m pc ls st0) := g_callSN E h hM hl cb hR hn hst hsz hW hcs hdg kk
/-- where two ways meet with one number on the stack -/
theorem g_dia (J : Nat) (V : Int32) (k : ∀ (H1 : Heap) (locs1 : List Loc), gH D z s ws H1 locs1 → W p l e R s m args below meth c H1 locs1 cells slots Q (F0 m J ls (.int V :: rest)))
    (kk : (∀ (v : Int32) (H1 : Heap) (locs1 : List Loc), v = V → gH D z s ws H1 locs1 → W p l e R s m args below meth c H1 locs1 cells slots Q (F0 m J ls (.int v :: rest))) → W p l e R s m args below meth c H locs cells slots Q (F0 m pc ls st0)) : W p l e R s m args below meth c H locs cells slots Q (F0 m pc ls st0) :=
  kk (fun v H1 locs1 hv h1 => by rw [hv]; exact k H1 locs1 h1)
theorem g_get (E : gE p s m args c cc nL own D cI cZ z) (h : gH D z s ws H locs) {T : u_T} {N ci : Nat} {fs : List Value} {a : Nat} {v : Value} (q0 : Nat) (he : ws[q0]? = some (a, .inr (ci, fs))) (hc : cls[ci]? = some (C, T, N)) (hlay : ∀ w ∈ u_ws C T N, w ∈ GG) (k : Nat) (hk : k < N) (hs : (T k).1 = C) (hl : Cond.fieldLink own index C (T k).2.1 (T k).2.2.1 ∈ GG) (hv : fs[k]? = some v) (hdg : decode cc pc = .ok (.getfield index, 3))
    (kk : W p l e R s m args below meth c H locs cells slots Q (F0 m (pc + 3) ls (v :: rest))) : W p l e R s m args below meth c H locs cells slots Q (F0 m pc ls (.ref a :: rest)) := by
  obtain ⟨hx, hb, hml, ho, hts, hK, hN, hz⟩ := E
  exact va_get hx hb hts hlay ho hK h.1 q0 he hc k hk (hts _ hl) (fun x hx => by rw [hs] at hx; exact hx) hv hdg kk
theorem g_getN (E : gE p s m args c cc nL own D cI cZ z) (h : gH D z s ws H locs) {T : u_T} {N ci : Nat} {fs : List Value} {a : Nat} {v : Value} (q0 : Nat) (he : ws[q0]? = some (a, .inr (ci, fs))) (hc : cls[ci]? = some (C, T, N)) (hlay : ∀ w ∈ u_ws C T N, w ∈ GG) (k : Nat) (hk : k < N) (hs : (T k).1 = C) (hl : (own, index, C, (T k).2.1, (T k).2.2.1) ∈ nestF) (hv : fs[k]? = some v) (hdg : decode cc pc = .ok (.getfield index, 3))
    (kk : W p l e R s m args below meth c H locs cells slots Q (F0 m (pc + 3) ls (v :: rest))) : W p l e R s m args below meth c H locs cells slots Q (F0 m pc ls (.ref a :: rest)) := by
  obtain ⟨hx, hb, hml, ho, hts, hK, hN, hz⟩ := E
  exact va_getN (host := "WellKnots") hx hb hts hlay ho hK h.1 q0 he hc k hk (va_Nw.use rfl (hN.1 _ hl)) (fun x hx => by rw [hs] at hx; exact hx) hv hdg kk
theorem g_put (E : gE p s m args c cc nL own D cI cZ z) (h : gH D z s ws H locs) {T : u_T} {N ci : Nat} {fs : List Value} {a : Nat} {v : Value} {ty : FieldType} (q0 : Nat) (he : ws[q0]? = some (a, .inr (ci, fs))) (hc : cls[ci]? = some (C, T, N)) (hlay : ∀ w ∈ u_ws C T N, w ∈ GG) (ty0 : Nat → FieldType) (hty : ∀ k, k < N → parseFieldDescriptor (T k).2.2.1 = some (ty0 k)) (hnm : ∀ a, a < N → ∀ b, b < N → a ≠ b → (T a).2.1 ≠ (T b).2.1) (k : Nat) (hk : k < N) (hs : (T k).1 = C) (hl : Cond.fieldLink own index C (T k).2.1 (T k).2.2.1 ∈ GG) (hfin : (T k).2.2.2 = false) (hd : parseFieldDescriptor (T k).2.2.1 = some ty) (hn : narrow ty v = v) (hfit : fits ty v = true) (hlen : k < fs.length) (hw : ws.set q0 (a, .inr (ci, fs.set k v)) = ws') (hdg : decode cc pc = .ok (.putfield index, 3))
    (kk : ∀ (H1 : Heap) (locs1 : List Loc), gH D z s ws' H1 locs1 → W p l e R s m args below meth c H1 locs1 cells slots Q (F0 m (pc + 3) ls rest)) : W p l e R s m args below meth c H locs cells slots Q (F0 m pc ls (v :: .ref a :: rest)) := by
  obtain ⟨hx, hb, hml, ho, hts, hK, hN, hz⟩ := E
  exact va_put hx hb hts hlay ty0 hty hnm ho hK h.1 h.2.1 h.2.2 q0 he hc k hk (hts _ hl) (fun x hx => by rw [hs] at hx; exact hx) hfin hd hn hfit hlen hdg (fun H1 locs1 h1 h2 h3 => kk H1 locs1 (by rw [← hw]; exact ⟨h1, h2, h3⟩))
theorem g_iald (E : gE p s m args c cc nL own D cI cZ z) (h : gH D z s ws H locs) (q0 : Nat) {a n : Nat} {f : Nat → Int32} (ha : ws[q0]? = some (a, .inl (cI, n, .inl f))) {i : Int32} (hin : vp_in i n) (hdg : decode cc pc = .ok (.iaload, 1))
    (kk : W p l e R s m args below meth c H locs cells slots Q (F0 m (pc + 1) ls (.int (f i.toNatClampNeg) :: rest))) : W p l e R s m args below meth c H locs cells slots Q (F0 m pc ls (.int i :: .ref a :: rest)) :=
  va_iald E.1 E.2.1 E.2.2.2.2.2.1 h.1 q0 0 ha rfl hin hdg kk
theorem g_iast (E : gE p s m args c cc nL own D cI cZ z) (h : gH D z s ws H locs) (q0 : Nat) {a n : Nat} {f : Nat → Int32} (ha : ws[q0]? = some (a, .inl (cI, n, .inl f))) {i x : Int32} (hin : vp_in i n) (hw : ws.set q0 (a, .inl (cI, n, .inl (upd f i.toNatClampNeg x))) = ws') (hdg : decode cc pc = .ok (.iastore, 1))
    (kk : ∀ (H1 : Heap) (locs1 : List Loc), gH D z s ws' H1 locs1 → W p l e R s m args below meth c H1 locs1 cells slots Q (F0 m (pc + 1) ls rest)) : W p l e R s m args below meth c H locs cells slots Q (F0 m pc ls (.int x :: .int i :: .ref a :: rest)) :=
  va_iast E.1 E.2.1 E.2.2.2.2.2.1 h.1 h.2.1 h.2.2 q0 0 ha rfl hin hdg (fun H1 locs1 h1 h2 h3 => kk H1 locs1 (by rw [← hw]; exact ⟨h1, h2, h3⟩))
theorem g_zald (E : gE p s m args c cc nL own D cI cZ z) (h : gH D z s ws H locs) (q0 : Nat) {a n : Nat} {f : Nat → Int32} (ha : ws[q0]? = some (a, .inl (cZ, n, .inl f))) {i : Int32} (hin : vp_in i n) (hdg : decode cc pc = .ok (.baload, 1))
    (kk : W p l e R s m args below meth c H locs cells slots Q (F0 m (pc + 1) ls (.int (f i.toNatClampNeg) :: rest))) : W p l e R s m args below meth c H locs cells slots Q (F0 m pc ls (.int i :: .ref a :: rest)) :=
  va_zald E.1 E.2.1 E.2.2.2.2.2.1 h.1 q0 1 ha rfl hin hdg kk
theorem g_zast (E : gE p s m args c cc nL own D cI cZ z) (h : gH D z s ws H locs) (q0 : Nat) {a n : Nat} {f : Nat → Int32} (ha : ws[q0]? = some (a, .inl (cZ, n, .inl f))) {i x : Int32} (hin : vp_in i n) (hx : vp_nar .boolean x = x) (hw : ws.set q0 (a, .inl (cZ, n, .inl (upd f i.toNatClampNeg x))) = ws') (hdg : decode cc pc = .ok (.bastore, 1))
    (kk : ∀ (H1 : Heap) (locs1 : List Loc), gH D z s ws' H1 locs1 → W p l e R s m args below meth c H1 locs1 cells slots Q (F0 m (pc + 1) ls rest)) : W p l e R s m args below meth c H locs cells slots Q (F0 m pc ls (.int x :: .int i :: .ref a :: rest)) :=
  va_zast E.1 E.2.1 E.2.2.2.2.2.1 h.1 h.2.1 h.2.2 q0 1 ha rfl hin hdg (fun H1 locs1 h1 h2 h3 => kk H1 locs1 (by rw [hx] at h1 h2; rw [← hw]; exact ⟨h1, h2, h3⟩))
theorem g_alen (E : gE p s m args c cc nL own D cI cZ z) (h : gH D z s ws H locs) (q0 : Nat) {a n : Nat} {f : Nat → Int32} {v : Int32} (ha : ws[q0]? = some (a, .inl (cI, n, .inl f))) (hv : Int32.ofNat n = v) (hdg : decode cc pc = .ok (.arraylength, 1))
    (kk : W p l e R s m args below meth c H locs cells slots Q (F0 m (pc + 1) ls (.int v :: rest))) : W p l e R s m args below meth c H locs cells slots Q (F0 m pc ls (.ref a :: rest)) :=
  va_alen E.1 E.2.1 E.2.2.2.2.2.1 h.1 q0 0 ha (ty := .int) rfl hv hdg kk
theorem g_copy (E : gE p s m args c cc nL own D cI cZ z) (h : gH D z s ws H locs) (q0 q1 : Nat) {a a0 n0 n1 : Nat} {f g : Nat → Int32} (ha0 : ws[q0]? = some (a0, .inl (cI, n0, .inl f))) (ha1 : ws[q1]? = some (a, .inl (cI, n1, .inl g))) {sp dp n : Int32} (h1 : ¬ sp < 0) (h2 : ¬ dp < 0) (h3 : ¬ n < 0) (h4 : sp.toNatClampNeg + n.toNatClampNeg ≤ n0) (h5 : dp.toNatClampNeg + n.toNatClampNeg ≤ n1)
    (hsz : ls.size = nL) (hl : Cond.methodLink own index arraycopyName ∈ GG) (hn : Cond.native arraycopyName ∈ GG) (hst : Cond.static arraycopyName ∈ GG) (hi : Cond.initialized "java/lang/System" ∈ GG) (hfr : 1 ≤ R.frames) (hlo : (rest.map fun v => v.category).sum + (nativeFrameWords "java/lang/System" "arraycopy" 5 + 11) ≤ R.locals) (hw : ws.set q1 (a, .inl (cI, n1, .inl (va_cpy f g sp.toNatClampNeg dp.toNatClampNeg n.toNatClampNeg))) = ws') (hdg : decode cc pc = .ok (.invokestatic index, 3))
    (kk : ∀ (H1 : Heap) (locs1 : List Loc), gH D z s ws' H1 locs1 → W p l e R s m args below meth c H1 locs1 cells slots Q (F0 m (pc + 3) ls rest)) : W p l e R s m args below meth c H locs cells slots Q (F0 m pc ls (.int n :: .int dp :: .ref a :: .int sp :: .ref a0 :: rest)) := by
  obtain ⟨hx, hb, hml, ho, hts, hK, hN, hz⟩ := E
  exact va_copyi hx hb (hml.trans hsz.symm) ho (hts _ hl) (hts _ hn) (hts _ hst) (hts _ hi) hK h.1 h.2.1 h.2.2 q0 q1 0 0 ha0 ha1 rfl rfl rfl h1 h2 h3 h4 h5 (fun _ _ => rfl) hfr hlo hdg (fun H1 locs1 g1 g2 g3 => kk H1 locs1 (by rw [← hw]; exact ⟨g1, g2, g3⟩))
theorem g_max (E : gE p s m args c cc nL own D cI cZ z) (hsz : ls.size = nL) (hl : Cond.methodLink own index Lib.Math.max.name ∈ GG) (hst : Cond.static Lib.Math.max.name ∈ GG) (hi : Cond.initialized "java/lang/Math" ∈ GG) (hc : Cond.code Lib.Math.max.name Lib.Math.max.code 2 (some .int) ∈ GG) (hfr : 1 ≤ R.frames) (hlo : (rest.map fun v => v.category).sum + 13 ≤ R.locals) (hcs : cells ≤ R.cells ∧ slots ≤ R.slots) {x y : Int32} (hdg : decode cc pc = .ok (.invokestatic index, 3))
    (kk : W p l e R s m args below meth c H locs cells slots Q (F0 m (pc + 3) ls (.int (if x < y then y else x) :: rest))) : W p l e R s m args below meth c H locs cells slots Q (F0 m pc ls (.int y :: .int x :: rest)) := by
  obtain ⟨hx, hb, hml, ho, hts, hK, hN, hz⟩ := E
  exact va_mmax hx hb (hml.trans hsz.symm) ho (hts _ hl) (hts _ hst) (hts _ hi) (hts _ hc) hfr hlo hcs.1 hcs.2 hdg kk
theorem g_min (E : gE p s m args c cc nL own D cI cZ z) (hsz : ls.size = nL) (hl : Cond.methodLink own index Lib.Math.min.name ∈ GG) (hst : Cond.static Lib.Math.min.name ∈ GG) (hi : Cond.initialized "java/lang/Math" ∈ GG) (hc : Cond.code Lib.Math.min.name Lib.Math.min.code 2 (some .int) ∈ GG) (hfr : 1 ≤ R.frames) (hlo : (rest.map fun v => v.category).sum + 13 ≤ R.locals) (hcs : cells ≤ R.cells ∧ slots ≤ R.slots) {x y : Int32} (hdg : decode cc pc = .ok (.invokestatic index, 3))
    (kk : W p l e R s m args below meth c H locs cells slots Q (F0 m (pc + 3) ls (.int (if y < x then y else x) :: rest))) : W p l e R s m args below meth c H locs cells slots Q (F0 m pc ls (.int y :: .int x :: rest)) := by
  obtain ⟨hx, hb, hml, ho, hts, hK, hN, hz⟩ := E
  exact va_mmin hx hb (hml.trans hsz.symm) ho (hts _ hl) (hts _ hst) (hts _ hi) (hts _ hc) hfr hlo hcs.1 hcs.2 hdg kk
theorem g_ldc (E : gE p s m args c cc nL own D cI cZ z) {v : Int32} (hl : Cond.constant own index v ∈ GG) (hdg : decode cc pc = .ok (.ldc index, 2)) (kk : W p l e R s m args below meth c H locs cells slots Q (F0 m (pc + 2) ls (.int v :: rest))) : W p l e R s m args below meth c H locs cells slots Q (F0 m pc ls rest) := lv_ldc E.1 E.2.1 E.2.2.2.1 (E.2.2.2.2.1 _ hl) hdg kk
theorem g_ldcw (E : gE p s m args c cc nL own D cI cZ z) {v : Int32} (hl : Cond.constant own index v ∈ GG) (hdg : decode cc pc = .ok (.ldc_w index, 3)) (kk : W p l e R s m args below meth c H locs cells slots Q (F0 m (pc + 3) ls (.int v :: rest))) : W p l e R s m args below meth c H locs cells slots Q (F0 m pc ls rest) := lv_ldcw E.1 E.2.1 E.2.2.2.1 (E.2.2.2.2.1 _ hl) hdg kk
theorem g_ldc2 (E : gE p s m args c cc nL own D cI cZ z) {v : Int64} (hl : Cond.constantLong own index v ∈ GG) (hdg : decode cc pc = .ok (.ldc2_w index, 3)) (kk : W p l e R s m args below meth c H locs cells slots Q (F0 m (pc + 3) ls (.long v :: rest))) : W p l e R s m args below meth c H locs cells slots Q (F0 m pc ls rest) := lv_ldc2 E.1 E.2.1 E.2.2.2.1 (E.2.2.2.2.1 _ hl) hdg kk
theorem g_iret {v r : Int32} (E : gE p s m args c cc nL own D cI cZ z) (hr : meth.sig.returnType = some .int) (hlk : meth.locks = false) (h : gH D z s ws H locs) (hQ : Q = MQ below (gQ D cI cZ z (some (.int r)) ws') args s 0 0 (gA z)) (er : v = r) (ew : ws = ws') (hdg : decode cc pc = .ok (.ireturn, 1)) : W p l e R s m args below meth c H locs 0 0 Q (F0 m pc ls [.int v]) := by
  rw [hQ, ← er, ← ew]
  exact W.iret E.1 E.2.1 hr (fun t ht hW => ⟨⟨rfl, by rw [ht]; exact h.1, va_K.moved hW.alike E.2.2.2.2.2.1, h.2.1⟩, h.2.2.F ht⟩) h.2.2.2.2 hdg hlk
theorem g_zret {v r : Int32} (E : gE p s m args c cc nL own D cI cZ z) (hr : meth.sig.returnType = some .boolean) (hlk : meth.locks = false) (h : gH D z s ws H locs) (hQ : Q = MQ below (gQ D cI cZ z (some (.int r)) ws') args s 0 0 (gA z)) (hn : narrow .boolean (.int v) = .int v) (er : v = r) (ew : ws = ws') (hdg : decode cc pc = .ok (.ireturn, 1)) : W p l e R s m args below meth c H locs 0 0 Q (F0 m pc ls [.int v]) := by
  rw [hQ, ← er, ← ew]
  exact W.zret E.1 E.2.1 hr hn (fun t ht hW => ⟨⟨rfl, by rw [ht]; exact h.1, va_K.moved hW.alike E.2.2.2.2.2.1, h.2.1⟩, h.2.2.F ht⟩) h.2.2.2.2 hdg hlk
theorem g_lret {v r : Int64} (E : gE p s m args c cc nL own D cI cZ z) (hr : meth.sig.returnType = some .long) (hlk : meth.locks = false) (h : gH D z s ws H locs) (hQ : Q = MQ below (gQ D cI cZ z (some (.long r)) ws') args s 0 0 (gA z)) (er : v = r) (ew : ws = ws') (hdg : decode cc pc = .ok (.lreturn, 1)) : W p l e R s m args below meth c H locs 0 0 Q (F0 m pc ls [.long v]) := by
  rw [hQ, ← er, ← ew]
  exact W.lret E.1 E.2.1 hr (fun t ht hW => ⟨⟨rfl, by rw [ht]; exact h.1, va_K.moved hW.alike E.2.2.2.2.2.1, h.2.1⟩, h.2.2.F ht⟩) h.2.2.2.2 hdg hlk
theorem g_vret (E : gE p s m args c cc nL own D cI cZ z) (hr : meth.sig.returnType = none) (hlk : meth.locks = false) (h : gH D z s ws H locs) (hQ : Q = MQ below (gQ D cI cZ z none ws') args s 0 0 (gA z)) (ew : ws = ws') (hdg : decode cc pc = .ok (.return_, 1)) : W p l e R s m args below meth c H locs 0 0 Q (F0 m pc ls []) := by
  rw [hQ, ← ew]
  exact W.vret E.1 E.2.1 hr (fun t ht hW => ⟨⟨rfl, by rw [ht]; exact h.1, va_K.moved hW.alike E.2.2.2.2.2.1, h.2.1⟩, h.2.2.F ht⟩) h.2.2.2.2 hdg hlk
theorem g_aret {v r : Nat} {n : String} (E : gE p s m args c cc nL own D cI cZ z) (hr : meth.sig.returnType = some (.object n)) (hlk : meth.locks = false) (h : gH D z s ws H locs) (hQ : Q = MQ below (gQ D cI cZ z (some (.ref r)) ws') args s 0 0 (gA z)) (er : v = r) (ew : ws = ws') (hdg : decode cc pc = .ok (.areturn, 1)) : W p l e R s m args below meth c H locs 0 0 Q (F0 m pc ls [.ref v]) := by
  rw [hQ, ← er, ← ew]
  exact W.aret E.1 E.2.1 hr (Or.inl ⟨n, rfl⟩) (Or.inr ⟨v, rfl⟩) (fun t ht hW => ⟨⟨rfl, by rw [ht]; exact h.1, va_K.moved hW.alike E.2.2.2.2.2.1, h.2.1⟩, h.2.2.F ht⟩) h.2.2.2.2 hdg hlk
end GC
/-- a state of one side: its int fields (32 * place + number), its arrays (by place), its long -/
abbrev St : Type := (Nat → Int32) × (Nat → Nat → Int32) × Int64
def si (σ : St) (k : Nat) (v : Int32) : St := (upd σ.1 k v, σ.2)
def sa (σ : St) (k : Nat) (f : Nat → Int32) : St := (σ.1, (fun j => if j = k then f else σ.2.1 j), σ.2.2)
def sl (σ : St) (v : Int64) : St := (σ.1, σ.2.1, v)
theorem oI_add {x y : Int32} {a b : Int} (hx : x = Int32.ofInt a) (hy : y = Int32.ofInt b) : x + y = Int32.ofInt (a + b) := by rw [hx, hy, Int32.ofInt_add]
theorem oI_sub {x y : Int32} {a b : Int} (hx : x = Int32.ofInt a) (hy : y = Int32.ofInt b) : x - y = Int32.ofInt (a - b) := by rw [hx, hy, Int32.ofInt_sub]
theorem oI_mul {x y : Int32} {a b : Int} (hx : x = Int32.ofInt a) (hy : y = Int32.ofInt b) : x * y = Int32.ofInt (a * b) := by rw [hx, hy, Int32.ofInt_mul]
theorem oI_lit {x : Int32} {a : Int} (h : x = Int32.ofInt a) : x = Int32.ofInt a := h
theorem oI_at (x : Int32) : x = Int32.ofInt x.toInt := (Int32.ofInt_toInt x).symm
theorem oI_rng {z : Int} (h1 : -2147483648 ≤ z) (h2 : z < 2147483648) : (Int32.ofInt z).toInt = z := by
  rw [Int32.toInt_ofInt]
  show Int.bmod z 4294967296 = z
  exact Int.bmod_eq_of_le (by omega) (by omega)
theorem ix_of {x : Int32} {n : Nat} {E : Int} (hx : x = Int32.ofInt E) (h : 0 ≤ E ∧ E < n) (hn : n ≤ 2147483648) : vp_in x n := by
  rw [vp_in_iff, hx, oI_rng (by omega) (by omega)]
  exact h
theorem cn_of {x : Int32} {E : Int} (hx : x = Int32.ofInt E) (h : 0 ≤ E ∧ E < 2147483648) : x.toNatClampNeg = E.toNat := by
  show x.toInt.toNat = E.toNat
  rw [hx, oI_rng (by omega) (by omega)]
theorem ti_of {x : Int32} {E : Int} (hx : x = Int32.ofInt E) (h : -2147483648 ≤ E ∧ E < 2147483648) : x.toInt = E := by
  rw [hx, oI_rng (by omega) (by omega)]
theorem i_lt {a b : Int32} (h : a < b) : a.toInt < b.toInt := Int32.lt_iff_toInt_lt.mp h
theorem i_le {a b : Int32} (h : a ≤ b) : a.toInt ≤ b.toInt := Int32.le_iff_toInt_le.mp h
theorem i_nlt {a b : Int32} (h : ¬ a < b) : b.toInt ≤ a.toInt := by
  rcases Int.lt_or_le a.toInt b.toInt with q | q
  · exact absurd (Int32.lt_iff_toInt_lt.mpr q) h
  · exact q
theorem i_nle {a b : Int32} (h : ¬ a ≤ b) : b.toInt < a.toInt := by
  rcases Int.lt_or_le b.toInt a.toInt with q | q
  · exact q
  · exact absurd (Int32.le_iff_toInt_le.mpr q) h
theorem i_eq {a b : Int32} (h : a = b) : a.toInt = b.toInt := by rw [h]
theorem i_ne {a b : Int32} (h : ¬ a = b) : a.toInt ≠ b.toInt := fun q => h (Int32.toInt_inj.mp q)

/-- the whole world: the class at places 0 to 47, the reference at 48 to 60 -/
def gws (ad : Nat → Nat) (cI cZ : ClassId) (σ τ : St) : va_W :=
  [(ad 0, .inr (8, [.ref (ad 1), .ref (ad 3), .ref (ad 14), .ref (ad 25), .ref (ad 29), .ref (ad 33), .int (σ.1 6), .ref (ad 37), .ref (ad 40), .ref (ad 43), .ref (ad 46), .long σ.2.2])),
   (ad 1, .inr (6, [.ref (ad 2), .int (σ.1 33), .int (σ.1 34), .int (σ.1 35), .int (σ.1 36), .int (σ.1 37)])),
   (ad 2, .inl (cI, 200, .inl (σ.2.1 2))),
   (ad 3, .inr (4, [.int (σ.1 96), .int (σ.1 97), .int (σ.1 98), .ref (ad 4), .ref (ad 5), .ref (ad 6), .ref (ad 7), .ref (ad 8), .ref (ad 9), .ref (ad 10), .ref (ad 11), .ref (ad 13)])),
   (ad 4, .inl (cZ, 6, .inl (σ.2.1 4))),
   (ad 5, .inl (cI, 8, .inl (σ.2.1 5))),
   (ad 6, .inl (cI, 8, .inl (σ.2.1 6))),
   (ad 7, .inl (cI, 8, .inl (σ.2.1 7))),
   (ad 8, .inl (cZ, 8, .inl (σ.2.1 8))),
   (ad 9, .inl (cI, 8, .inl (σ.2.1 9))),
   (ad 10, .inl (cI, 4, .inl (σ.2.1 10))),
   (ad 11, .inr (2, [.ref (ad 12)])),
   (ad 12, .inl (cI, 74, .inl (σ.2.1 12))),
   (ad 13, .inl (cI, 5, .inl (σ.2.1 13))),
   (ad 14, .inr (4, [.int (σ.1 448), .int (σ.1 449), .int (σ.1 450), .ref (ad 15), .ref (ad 16), .ref (ad 17), .ref (ad 18), .ref (ad 19), .ref (ad 20), .ref (ad 21), .ref (ad 22), .ref (ad 24)])),
   (ad 15, .inl (cZ, 6, .inl (σ.2.1 15))),
   (ad 16, .inl (cI, 8, .inl (σ.2.1 16))),
   (ad 17, .inl (cI, 8, .inl (σ.2.1 17))),
   (ad 18, .inl (cI, 8, .inl (σ.2.1 18))),
   (ad 19, .inl (cZ, 8, .inl (σ.2.1 19))),
   (ad 20, .inl (cI, 8, .inl (σ.2.1 20))),
   (ad 21, .inl (cI, 4, .inl (σ.2.1 21))),
   (ad 22, .inr (2, [.ref (ad 23)])),
   (ad 23, .inl (cI, 74, .inl (σ.2.1 23))),
   (ad 24, .inl (cI, 5, .inl (σ.2.1 24))),
   (ad 25, .inr (1, [.ref (ad 26), .ref (ad 28), .int (σ.1 802)])),
   (ad 26, .inr (2, [.ref (ad 27)])),
   (ad 27, .inl (cI, 74, .inl (σ.2.1 27))),
   (ad 28, .inl (cI, 740, .inl (σ.2.1 28))),
   (ad 29, .inr (1, [.ref (ad 30), .ref (ad 32), .int (σ.1 930)])),
   (ad 30, .inr (2, [.ref (ad 31)])),
   (ad 31, .inl (cI, 74, .inl (σ.2.1 31))),
   (ad 32, .inl (cI, 740, .inl (σ.2.1 32))),
   (ad 33, .inr (1, [.ref (ad 34), .ref (ad 36), .int (σ.1 1058)])),
   (ad 34, .inr (2, [.ref (ad 35)])),
   (ad 35, .inl (cI, 74, .inl (σ.2.1 35))),
   (ad 36, .inl (cI, 740, .inl (σ.2.1 36))),
   (ad 37, .inr (0, [.ref (ad 38), .ref (ad 39), .int (σ.1 1186)])),
   (ad 38, .inl (cI, 6, .inl (σ.2.1 38))),
   (ad 39, .inl (cI, 6, .inl (σ.2.1 39))),
   (ad 40, .inr (3, [.ref (ad 41), .ref (ad 42), .int (σ.1 1282), .int (σ.1 1283)])),
   (ad 41, .inl (cI, 6, .inl (σ.2.1 41))),
   (ad 42, .inl (cI, 6, .inl (σ.2.1 42))),
   (ad 43, .inr (7, [.ref (ad 44), .ref (ad 45), .int (σ.1 1378), .int (σ.1 1379), .int (σ.1 1380)])),
   (ad 44, .inl (cI, 6, .inl (σ.2.1 44))),
   (ad 45, .inl (cI, 6, .inl (σ.2.1 45))),
   (ad 46, .inr (5, [.ref (ad 47)])),
   (ad 47, .inl (cI, 64, .inl (σ.2.1 47))),
   (ad 48, .inr (9, [.long τ.2.2, .ref (ad 49), .int (τ.1 1538), .ref (ad 50), .ref (ad 51), .ref (ad 52), .ref (ad 53), .ref (ad 54), .ref (ad 55), .ref (ad 56), .int (τ.1 1546), .int (τ.1 1547), .int (τ.1 1548), .int (τ.1 1549), .int (τ.1 1550), .ref (ad 57), .ref (ad 58), .int (τ.1 1553), .int (τ.1 1554), .ref (ad 59), .ref (ad 60)])),
   (ad 49, .inl (cI, 200, .inl (τ.2.1 49))),
   (ad 50, .inl (cI, 54, .inl (τ.2.1 50))),
   (ad 51, .inl (cI, 54, .inl (τ.2.1 51))),
   (ad 52, .inl (cI, 74, .inl (τ.2.1 52))),
   (ad 53, .inl (cI, 815, .inl (τ.2.1 53))),
   (ad 54, .inl (cI, 1630, .inl (τ.2.1 54))),
   (ad 55, .inl (cZ, 2, .inl (τ.2.1 55))),
   (ad 56, .inl (cI, 6, .inl (τ.2.1 56))),
   (ad 57, .inl (cI, 6, .inl (τ.2.1 57))),
   (ad 58, .inl (cI, 6, .inl (τ.2.1 58))),
   (ad 59, .inl (cI, 64, .inl (τ.2.1 59))),
   (ad 60, .inl (cI, 42, .inl (τ.2.1 60)))]
