/-- how a static method of ours is linked from a place of the pool, by the tables -/
def mn_GS (WT : List Cond) (own : String) (i : Nat) (y : MethodName) (n : Nat) : Prop :=
  (y.cls ≠ "java/lang/invoke/MethodHandle" ∧ y.cls ≠ "java/lang/invoke/VarHandle") ∧ (parseMethodDescriptor y.desc).map (fun d => d.parameters.length) = some n ∧ Cond.initialized y.cls ∈ WT ∧ Cond.static y ∈ WT ∧ (Cond.methodLink own i y ∈ WT ∨ ∃ host, Cond.methodLinkNest own i y host ∈ WT)
def mn_GV (WT : List Cond) (own : String) (i : Nat) (y : MethodName) (n : Nat) (C : String) : Prop :=
  (y.cls ≠ "java/lang/invoke/MethodHandle" ∧ y.cls ≠ "java/lang/invoke/VarHandle") ∧ (parseMethodDescriptor y.desc).map (fun d => d.parameters.length) = some n ∧ Cond.initialized y.cls ∈ WT ∧ Cond.instanceMethod y ∈ WT ∧ Cond.selects C y y ∈ WT ∧ (Cond.methodLink own i y ∈ WT ∨ ∃ host, Cond.methodLinkNest own i y host ∈ WT)
def mn_GI (WT : List Cond) (own : String) (i : Nat) (y : MethodName) (n : Nat) : Prop :=
  (y.cls ≠ "java/lang/invoke/MethodHandle" ∧ y.cls ≠ "java/lang/invoke/VarHandle") ∧ (parseMethodDescriptor y.desc).map (fun d => d.parameters.length) = some n ∧ Cond.initialized y.cls ∈ WT ∧ Cond.instanceMethod y ∈ WT ∧ y.name = "<init>" ∧ (Cond.methodLink own i y ∈ WT ∨ ∃ host, Cond.methodLinkNest own i y host ∈ WT)
/-- every word is of the tables, and stays where they grow warmer -/
def mn_GW (WT : List Cond) : Prop := ∀ w ∈ WT, ∀ (args a' : Array Value) (s U : State), s.WarmedH U.vm → w.before args s = true → w.before a' U = true
theorem mn_GW_keep {w : Cond} (h : (w.onTables && w.keeps) = true ∨ ∃ ty, w = .arrayClass ty) : ∀ (args a' : Array Value) (s U : State), s.WarmedH U.vm → w.before args s = true → w.before a' U = true := fun _ _ _ _ hU hb => word_at hU h hb
theorem mn_GW_nf (a : String) (i : Nat) (b n d h : String) : ∀ (args a' : Array Value) (s U : State), s.WarmedH U.vm → (Cond.fieldLinkNest a i b n d h).before args s = true → (Cond.fieldLinkNest a i b n d h).before a' U = true :=
  fun _ _ _ _ hU hb => va_Nw.use rfl (va_Nw.warmF hU (va_tabs rfl rfl hb))
theorem mn_GW_nm (a : String) (i : Nat) (x : MethodName) (h : String) : ∀ (args a' : Array Value) (s U : State), s.WarmedH U.vm → (Cond.methodLinkNest a i x h).before args s = true → (Cond.methodLinkNest a i x h).before a' U = true :=
  fun _ _ _ _ hU hb => va_Nw.use rfl (va_Nw.warmM hU (va_tabs rfl rfl hb))
section MNF
variable {p : Program} {l : Launch} {e : Env} {R : Room} {s : State} {m : MethodId} {args : Array Value} {below : List Frame} {meth : Method} {c : Code} {H : Heap} {locs : List Loc} {cells slots : Nat} {Q : State → Prop} {cc : ByteArray} {pc : Nat} {ls : Array Slot} {rest st0 : List Value} {mc ms : Nat} {free : Addr → Prop}
/-- behind a call that came back: its one answer, what the heap holds, what stayed -/
theorem mn_after {A : Nat → Prop} {H0 : Heap} {Qa : State → Outcome → State → Prop} {v0 : Option Value} {PH : Heap → Prop} (hr : va_Run p l e R s m args below meth c H locs cells slots mc ms (F0 m pc ls st0) rest Qa free) (hS : va_S A H0 H locs) (hf : ∀ q, free q → A q)
    (hQ : ∀ (st : State) (v : Option Value) (t : State), Qa st (.returned v) t → v = v0 ∧ PH t.heap ∧ va_F A st t)
    (kk : ∀ (H1 : Heap) (locs1 : List Loc), PH H1 → va_S A H0 H1 locs1 → W p l e R s m args below meth c H1 locs1 (cells + mc) (slots + ms) Q (F0 m (pc + 3) ls (v0.toList ++ rest))) : W p l e R s m args below meth c H locs cells slots Q (F0 m pc ls st0) := by
  intro T hT X
  obtain ⟨v, st₀, t, T', L, h0, X', hL, e1, e2, hq, st⟩ := hr T hT X
  obtain ⟨rfl, hp, hz, hk⟩ := hQ _ _ _ hq
  rw [h0] at hz hk
  obtain ⟨t2, a1, b1⟩ := kk T'.heap (locs ++ L) (by rw [e1]; exact hp) ⟨Nat.le_trans hS.1 (by rw [e1]; exact hz), fun q h1 h2 => by rw [e1, hk q (Nat.lt_of_lt_of_le h1 hS.1) h2]; exact hS.2.1 q h1 h2, fun q hq => by
      rcases List.mem_append.mp hq with h | h
      · exact hS.2.2 q h
      · exact hf _ (hL q h)⟩ T' rfl X'
  exact ⟨t2, st t2 a1, b1⟩
variable {WT : List Cond} {own : String} {y : MethodName} {bytes : ByteArray} {maxL n i : Nat} {ret : Option FieldType} {rm : Room} {Pc : Array Value → State → Prop} {Qc : Array Value → State → Outcome → State → Prop} {nL : Nat} {As : List Value}
theorem mn_ws (hts : ∀ w ∈ WT, w.before args s = true) (hW : mn_GW WT) (hc : Cond.code y bytes maxL ret ∈ WT) : ∀ w ∈ (Cond.code y bytes maxL ret :: WT), ∀ (a' : Array Value) (U : State), s.WarmedH U.vm → w.before a' U = true := by
  intro w hw a' U hU
  rcases List.mem_cons.mp hw with rfl | hw
  · exact hW _ hc _ _ _ _ hU (hts _ hc)
  · exact hW _ hw _ _ _ _ hU (hts _ hw)
theorem mn_len {k : Nat} {d : String} (h : (parseMethodDescriptor d).map (fun d => d.parameters.length) = some k) : ∀ sig, parseMethodDescriptor d = some sig → k = sig.parameters.length := by
  intro sig h2
  rw [h2] at h
  exact (Option.some.inj h).symm
theorem mn_runS (hx : p.tables.exec = Jvm.exec) (hb : c.code = cc) (hml : c.maxLocals = nL) (hown : s.vm.findClass own = some m.cls) (hts : ∀ w ∈ WT, w.before args s = true) (hW : mn_GW WT) (hc : Cond.code y bytes maxL ret ∈ WT) (hG : mn_GS WT own i y n)
    (hM : Met l y (Cond.code y bytes maxL ret :: WT) rm Pc Qc mc ms free) (hrc : rm.cells = mc) (hrs : rm.slots = ms) (hR : rm.frames + 1 ≤ R.frames ∧ 8 + (maxL + 11) + rm.locals ≤ R.locals) (hp : PreS s H Pc As) (hn : As.length = n) (hsize : ls.size = nL) (hst : st0 = As.reverse ++ rest) (hcat : (rest.map fun v => v.category).sum ≤ 8) (hd : decode cc pc = .ok (.invokestatic i, 3)) (hf : cells + mc ≤ R.cells ∧ slots + ms ≤ R.slots) :
    va_Run p l e R s m args below meth c H locs cells slots mc ms (F0 m pc ls st0) rest (Qc As.toArray) free := by
  obtain ⟨g1, g2, g3, g4, g5 | ⟨host, g5⟩⟩ := hG
  · exact va_runS (Ts := WT) ⟨hx, hb, hml, hown, hts⟩ hM ⟨⟨hrc, hrs, hR.1, hR.2, mn_ws hts hW hc, List.mem_cons_self, hts _ hc, hts _ g3, g1, mn_len g2, hts _ g5⟩, hts _ g4⟩ hp rfl hn hsize hst (lv_room hcat) hd hf
  · exact va_runSN (Ts := WT) (host := host) ⟨hx, hb, hml, hown, hts⟩ hM ⟨⟨⟨hrc, hrs, hR.1, hR.2, mn_ws hts hW hc, List.mem_cons_self⟩, hts _ hc, hts _ g3, g1, mn_len g2, hts _ g5⟩, hts _ g4, trivial⟩ hp rfl hn hsize hst (lv_room hcat) hd hf
theorem mn_runV {C : String} {a : Nat} (hx : p.tables.exec = Jvm.exec) (hb : c.code = cc) (hml : c.maxLocals = nL) (hown : s.vm.findClass own = some m.cls) (hts : ∀ w ∈ WT, w.before args s = true) (hW : mn_GW WT) (hc : Cond.code y bytes maxL ret ∈ WT) (hG : mn_GV WT own i y n C)
    (hM : Met l y (Cond.code y bytes maxL ret :: WT) rm Pc Qc mc ms free) (hrc : rm.cells = mc) (hrs : rm.slots = ms) (hR : rm.frames + 1 ≤ R.frames ∧ 8 + (maxL + 11) + rm.locals ≤ R.locals) (hp : PreV s H C a Pc As) (hn : As.length = n) (hsize : ls.size = nL) (hst : st0 = As.reverse ++ .ref a :: rest) (hcat : (rest.map fun v => v.category).sum ≤ 8) (hd : decode cc pc = .ok (.invokevirtual i, 3)) (hf : cells + mc ≤ R.cells ∧ slots + ms ≤ R.slots) :
    va_Run p l e R s m args below meth c H locs cells slots mc ms (F0 m pc ls st0) rest (Qc (Value.ref a :: As).toArray) free := by
  obtain ⟨g1, g2, g3, g4, g6, g5 | ⟨host, g5⟩⟩ := hG
  · exact va_runV (Ts := WT) ⟨hx, hb, hml, hown, hts⟩ hM ⟨⟨hrc, hrs, hR.1, hR.2, mn_ws hts hW hc, List.mem_cons_self, hts _ hc, hts _ g3, g1, mn_len g2, hts _ g5⟩, hts _ g4, hts _ g6⟩ hp rfl hn hsize hst (lv_room hcat) hd hf
  · exact va_runVN (Ts := WT) (host := host) ⟨hx, hb, hml, hown, hts⟩ hM ⟨⟨⟨hrc, hrs, hR.1, hR.2, mn_ws hts hW hc, List.mem_cons_self⟩, hts _ hc, hts _ g3, g1, mn_len g2, hts _ g5⟩, hts _ g4, hts _ g6⟩ hp rfl hn hsize hst (lv_room hcat) hd hf
theorem mn_runI {a : Nat} (hx : p.tables.exec = Jvm.exec) (hb : c.code = cc) (hml : c.maxLocals = nL) (hown : s.vm.findClass own = some m.cls) (hts : ∀ w ∈ WT, w.before args s = true) (hW : mn_GW WT) (hc : Cond.code y bytes maxL none ∈ WT) (hG : mn_GI WT own i y n)
    (hM : Met l y (Cond.code y bytes maxL none :: WT) rm Pc Qc mc ms free) (hrc : rm.cells = mc) (hrs : rm.slots = ms) (hR : rm.frames + 1 ≤ R.frames ∧ 8 + (maxL + 11) + rm.locals ≤ R.locals) (hp : PreS s H Pc (.ref a :: As)) (hn : As.length = n) (hsize : ls.size = nL) (hst : st0 = As.reverse ++ .ref a :: rest) (hcat : (rest.map fun v => v.category).sum ≤ 8) (hd : decode cc pc = .ok (.invokespecial i, 3)) (hf : cells + mc ≤ R.cells ∧ slots + ms ≤ R.slots) :
    va_Run p l e R s m args below meth c H locs cells slots mc ms (F0 m pc ls st0) rest (Qc (Value.ref a :: As).toArray) free := by
  obtain ⟨g1, g2, g3, g4, g6, g5 | ⟨host, g5⟩⟩ := hG
  · exact va_runI (Ts := WT) ⟨hx, hb, hml, hown, hts⟩ hM ⟨⟨hrc, hrs, hR.1, hR.2, mn_ws hts hW hc, List.mem_cons_self, hts _ hc, hts _ g3, g1, mn_len g2, hts _ g5⟩, g6, hts _ g4⟩ hp rfl hn hsize hst (lv_room hcat) hd hf
  · exact va_runIN (Ts := WT) (host := host) ⟨hx, hb, hml, hown, hts⟩ hM ⟨⟨⟨hrc, hrs, hR.1, hR.2, mn_ws hts hW hc, List.mem_cons_self⟩, hts _ hc, hts _ g3, g1, mn_len g2, hts _ g5⟩, g6, hts _ g4⟩ hp rfl hn hsize hst (lv_room hcat) hd hf
end MNF
