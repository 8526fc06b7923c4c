def mn_is1 : Cond := .isRef (.static Bundle.tN "UNASSIGNED_STACK" Bundle.steD)
def mn_is2 : Cond := .isRef (.static Bundle.tN "SUPPRESSED_SENTINEL" Bundle.listD)
def mn_ls1 : Cond := .laysStatic Bundle.tN "UNASSIGNED_STACK" Bundle.steD
def mn_ls2 : Cond := .laysStatic Bundle.tN "SUPPRESSED_SENTINEL" Bundle.listD
/-- a static's place, in a cell outside our heap -/
def mn_LS (C n d : String) (A : Nat → Prop) (U : State) (H : Heap) : Prop := ∃ (c : ClassId) (k : Class) (i : Nat) (f : Field) (a : Nat) (cell : Cell), U.vm.findClass C = some c ∧ U.fieldFound? C n d = some (c, k, i, f) ∧ f.isStatic = true ∧ k.statics = some a ∧ H[a]? = some cell ∧ cell.vm.isStatics = true ∧ cell.cls = c ∧ f.slot < cell.slots.size ∧ k.staticTypes[f.slot]? = some f.type ∧ ¬ A a
theorem mn_LS.of {C n d : String} {A : Nat → Prop} {args : Array Value} {s : State} (h : (Cond.laysStatic C n d).before args s = true) (hA : ∀ a : Nat, a < s.heap.size → ¬ A a) : mn_LS C n d A s s.heap := by
  obtain ⟨c, k, i, f, a, cell, h1, h2, h3, h4, h5, h6, h7, h8, h9⟩ := Cond.laysStatic_spec h
  exact ⟨c, k, i, f, a, cell, h1, h2, h3, h4, h5, h6, h7, h8, h9, hA a (Array.getElem?_eq_some_iff.mp h5).1⟩
theorem mn_LS.moved {C n d : String} {A : Nat → Prop} {u U : State} {H : Heap} (hvm : u.vm.Alike U.vm) (h : mn_LS C n d A u H) : mn_LS C n d A U H := by
  obtain ⟨c, k, i, f, a, cell, h1, h2, h3, h4, h5, h6, h7, h8, h9, h10⟩ := h
  obtain ⟨k', hi', he⟩ := State.fieldFound?_setVm hvm h2
  exact ⟨c, k', i, f, a, cell, by rw [hvm.findClass]; exact h1, hi', h3, by rw [he]; exact h4, h5, h6, h7, h8, by rw [he]; exact h9, h10⟩
theorem mn_LS.kept {C n d : String} {A : Nat → Prop} {U : State} {H H1 : Heap} (h : mn_LS C n d A U H) (hq : ∀ a : Nat, a < H.size → ¬ A a → H1[a]? = H[a]?) : mn_LS C n d A U H1 := by
  obtain ⟨c, k, i, f, a, cell, h1, h2, h3, h4, h5, h6, h7, h8, h9, h10⟩ := h
  exact ⟨c, k, i, f, a, cell, h1, h2, h3, h4, by rw [hq a (Array.getElem?_eq_some_iff.mp h5).1 h10]; exact h5, h6, h7, h8, h9, h10⟩
theorem mn_LS.use {C n d : String} {A : Nat → Prop} {s : State} {H : Heap} {args : Array Value} (h : mn_LS C n d A s H) (su : Nat) : (Cond.laysStatic C n d).before args ({ s with heap := H, slotsUsed := su } : State) = true := by
  obtain ⟨c, k, i, f, a, cell, h1, h2, h3, h4, h5, h6, h7, h8, h9, h10⟩ := h
  have h2' : ({ s with heap := H, slotsUsed := su } : State).fieldFound? C n d = some (c, k, i, f) := h2
  simp [Cond.before, Cond.holds, Cond.value, h1, h2', h3, h4, h5, h6, h7, h8, h9]
/-- what stays true outside our heap: two statics of Throwable's are there and are references, the exceptions' classes are apart -/
def mn_X (b : Nat × Nat) (U : State) (H : Heap) : Prop :=
  va_Zq Bundle.tN "UNASSIGNED_STACK" Bundle.steD (fun q => b.1 ≤ q) U H ∧ va_Zq Bundle.tN "SUPPRESSED_SENTINEL" Bundle.listD (fun q => b.1 ≤ q) U H ∧ (∀ (k k2 : Nat) (X C : String), k ≠ k2 → mt_ex[k]? = some X → mt_ex[k2]? = some C → va_Nc X C U) ∧
  mn_LS Bundle.tN "UNASSIGNED_STACK" Bundle.steD (fun q => b.1 ≤ q) U H ∧ mn_LS Bundle.tN "SUPPRESSED_SENTINEL" Bundle.listD (fun q => b.1 ≤ q) U H
theorem mn_X.moved {b : Nat × Nat} {u U : State} {H : Heap} (hvm : u.vm.Alike U.vm) (h : mn_X b u H) : mn_X b U H :=
  ⟨h.1.moved hvm, h.2.1.moved hvm, fun k k2 X C h1 h2 h3 => (h.2.2.1 k k2 X C h1 h2 h3).moved hvm, h.2.2.2.1.moved hvm, h.2.2.2.2.moved hvm⟩
theorem mn_X.kept {b : Nat × Nat} {U : State} {H0 H : Heap} {locs : List Loc} (h : mn_X b U H0) (hS : va_S (fun q => b.1 ≤ q) H0 H locs) : mn_X b U H :=
  ⟨h.1.kept (fun a h1 h2 => hS.2.1 a h1 h2), h.2.1.kept (fun a h1 h2 => hS.2.1 a h1 h2), h.2.2.1, h.2.2.2.1.kept (fun a h1 h2 => hS.2.1 a h1 h2), h.2.2.2.2.kept (fun a h1 h2 => hS.2.1 a h1 h2)⟩
theorem mn_isref {C n d : String} {A : Nat → Prop} {s : State} {H : Heap} {args : Array Value} (h : va_Zq C n d A s H) (su : Nat) : (Cond.isRef (.static C n d)).before args ({ s with heap := H, slotsUsed := su } : State) = true := by
  have key : ∀ v : Value, va_Z C n d v A s H → (Term.static C n d).eval args ({ s with heap := H, slotsUsed := su } : State) none [] ({ s with heap := H, slotsUsed := su } : State) = some v := by
    intro v hz
    obtain ⟨cf, kf, fi, f, a, cell, h1, h2, h3, h4, h5, h6, h7, h8⟩ := hz
    have h1' : ({ s with heap := H, slotsUsed := su } : State).fieldFound? C n d = some (cf, kf, fi, f) := h1
    simp [Term.eval, State.fieldNamed?, h1', h2, h4, h5, h6, h7]
  rcases h with h | ⟨t, h⟩
  · simp [Cond.before, Cond.holds, Cond.value, key _ h]
  · simp [Cond.before, Cond.holds, Cond.value, key _ h]
/-- how a run ends, as the machine has it -/
def mn_O (b : Nat × Nat) (res : Nat × Option Value) (hs' : mn_H) (s : State) (o : Outcome) (t : State) : Prop := match res.1 with
  | 0 => o = .returned (res.2.map (mn_tr b))
  | k + 1 => o = .threw (b.1 + (hs'.length - 1)) ∧ ∃ (X : String) (ce : Cell), mt_ex[k]? = some X ∧ t.heap[b.1 + (hs'.length - 1)]? = some ce ∧ ce.vm = .none ∧ s.vm.findClass X = some ce.cls
def mn_Q (D : va_G) (aC : Nat → ClassId) (b : Nat × Nat) (res : Nat × Option Value) (hs' : mn_H) (mc ms : Nat) : Array Value → State → Outcome → State → Prop := fun _ s o t =>
  mn_O b res hs' s o t ∧ mn_R D mt_cl aC b hs' t.heap ∧ va_F (fun q => b.1 ≤ q) s t ∧ ∃ L, s.WarmedH t.vm ∧ s.sameButNew ({ t with vm := s.vm } : State) L mc ms ∧ ∀ q ∈ L, b.1 ≤ q.base
def mn_Z (D : va_G) (aC : Nat → ClassId) (b : Nat × Nat) (below : List Frame) (res : Nat × Option Value) (hs' : mn_H) (args : Array Value) (s : State) (mc ms : Nat) : State → Prop := fun t =>
  ∃ o, t.status = .running ∧ Ended t below o ∧ mn_Q D aC b res hs' mc ms args s o t
def mn_Pc (D : va_G) (aC : Nat → ClassId) (b : Nat × Nat) (hs : mn_H) (as : List Value) : Array Value → State → Prop := fun a U =>
  a = (as.map (mn_tr b)).toArray ∧ U.heap.size = b.1 + hs.length ∧ mn_R D mt_cl aC b hs U.heap ∧ va_K D mt_cl (mn_tys aC mt_E4 mt_E5) U ∧ mn_X b U U.heap
theorem mn_Pc_blind (D : va_G) (aC : Nat → ClassId) (b : Nat × Nat) (hs : mn_H) (as : List Value) : FrameBlind (mn_Pc D aC b hs as) := by
  intro a U g mk h
  obtain ⟨h1, h2, h3, h4, h5⟩ := h
  exact ⟨h1, h2, h3, va_K.moved (u := U) (U := U.calling g mk a) (Vm.Alike.refl U.vm) h4, mn_X.moved (u := U) (U := U.calling g mk a) (Vm.Alike.refl U.vm) h5⟩
def mt_cw (j : Nat) : Cond := if mt_hl j = [] then .code (mt_y j) (mt_code j) (mt_ml j) (mt_rt j) else .codeWith (mt_y j) (mt_code j) (mt_ml j) (mt_rt j) ((mt_hl j).map (fun t => (t.1, t.2.1, t.2.2.1, t.2.2.2.1)))
/-- method j's contract at this heap and these arguments -/
def mn_Con (l : Launch) (WT : List Cond) (D : va_G) (aC : Nat → ClassId) (b : Nat × Nat) (j fr lo : Nat) (as : List Value) (ns : Nat) (hs : mn_H) (res : Nat × Option Value) (ns' : Nat) (hs' : mn_H) : Prop :=
  MetFree l (mt_y j) (headSpec (mt_cw j :: WT) { frames := fr, cells := hs'.length - hs.length, slots := ns' - ns, locals := lo }) (mn_Pc D aC b hs as) (fun _ _ _ _ _ => True) (mn_Q D aC b res hs' (hs'.length - hs.length) (ns' - ns))
def mn_Qr (D : va_G) (aC : Nat → ClassId) (b : Nat × Nat) (v : Option Value) (hs' : mn_H) : Array Value → State → Outcome → State → Prop := fun _ s o t => o = .returned (v.map (mn_tr b)) ∧ mn_R D mt_cl aC b hs' t.heap ∧ va_F (fun q => b.1 ≤ q) s t
theorem mn_Con.met {l : Launch} {WT : List Cond} {D : va_G} {aC : Nat → ClassId} {b : Nat × Nat} {j fr lo : Nat} {as : List Value} {ns : Nat} {hs : mn_H} {v : Option Value} {ns' : Nat} {hs' : mn_H} (h : mn_Con l WT D aC b j fr lo as ns hs (0, v) ns' hs') :
    Met l (mt_y j) (mt_cw j :: WT) { frames := fr, cells := hs'.length - hs.length, slots := ns' - ns, locals := lo } (mn_Pc D aC b hs as) (mn_Qr D aC b v hs') (hs'.length - hs.length) (ns' - ns) (fun q => b.1 ≤ q) := by
  intro p e h1 h2 h3 s m args below h4 h5 h6 h7
  obtain ⟨n, o, g1, g2, g3, g4, g5, g6, L, g7, g8, g9⟩ := h p e h1 h2 h3 s m args below h4 h5 h6 h7
  exact ⟨n, o, g1, g2, g3, ⟨g4, g5, g6⟩, L, ⟨⟨_, g4⟩, g7, g8⟩, g9⟩
/-- W, with another end -/
theorem mn_W_mono {p : Program} {l : Launch} {e : Env} {R : Room} {s : State} {m : MethodId} {args : Array Value} {below : List Frame} {meth : Method} {c : Code} {H : Heap} {locs : List Loc} {cells slots : Nat} {Q Q' : State → Prop} {g : JFrame} (hQ : ∀ t, Q t → Q' t) (h : W p l e R s m args below meth c H locs cells slots Q g) : W p l e R s m args below meth c H locs cells slots Q' g := by
  intro T hT X
  obtain ⟨t, a, b⟩ := h T hT X
  exact ⟨t, a, hQ t b⟩
section MNO
variable {p : Program} {l : Launch} {e : Env} {R : Room} {s : State} {m : MethodId} {args : Array Value} {below : List Frame} {meth : Method} {c : Code} {H : Heap} {locs : List Loc} {cells slots : Nat} {Q : State → Prop} {cc : ByteArray} {pc : Nat} {ls : Array Slot} {rest st0 : List Value} {mc ms : Nat} {free : Addr → Prop}
variable {WT : List Cond} {own : String} {y : MethodName} {bytes : ByteArray} {maxL n i : Nat} {ret : Option FieldType} {rm : Room} {Pc : Array Value → State → Prop} {Qc : Array Value → State → Outcome → State → Prop} {nL : Nat} {As : List Value} {hh : List (Nat × Nat × Nat × Nat)}
/-- a static method that has handlers is called, and returns -/
theorem mn_runSW (hx : p.tables.exec = Jvm.exec) (hb : c.code = cc) (hml : c.maxLocals = nL) (hown : s.vm.findClass own = some m.cls) (hts : ∀ w ∈ WT, w.before args s = true) (hW : mn_GW WT) (hc : Cond.codeWith y bytes maxL ret hh ∈ WT) (g1 : y.cls ≠ "java/lang/invoke/MethodHandle" ∧ y.cls ≠ "java/lang/invoke/VarHandle") (g2 : (parseMethodDescriptor y.desc).map (fun d => d.parameters.length) = some n) (g3 : Cond.initialized y.cls ∈ WT) (g4 : Cond.static y ∈ WT) (g5 : Cond.methodLink own i y ∈ WT)
    (hM : Met l y (Cond.codeWith y bytes maxL ret hh :: WT) rm Pc Qc mc ms free) (hrc : rm.cells = mc) (hrs : rm.slots = ms) (hR : rm.frames + 1 ≤ R.frames ∧ 8 + (maxL + 11) + rm.locals ≤ R.locals) (hp : PreS s H Pc As) (hn : As.length = n) (hsize : ls.size = nL) (hst : st0 = As.reverse ++ rest) (hcat : (rest.map fun v => v.category).sum ≤ 8) (hd : decode cc pc = .ok (.invokestatic i, 3)) (hf : cells + mc ≤ R.cells ∧ slots + ms ≤ R.slots) :
    va_Run p l e R s m args below meth c H locs cells slots mc ms (F0 m pc ls st0) rest (Qc As.toArray) free := by
  have hws : ∀ w ∈ (Cond.codeWith y bytes maxL ret hh :: WT), ∀ (a' : Array Value) (U : State), s.WarmedH U.vm → w.before a' U = true := by
    intro w hw a' U hU
    rcases List.mem_cons.mp hw with rfl | hw
    · exact hW _ hc _ _ _ _ hU (hts _ hc)
    · exact hW _ hw _ _ _ _ hU (hts _ hw)
  have hK : Back l R p e below s args y 3 8 (PreOf R mc ms Pc) (PostOf Qc mc ms free) := va_backW (hh := hh) (bytes := bytes) (maxL := maxL) (ret := ret) hM hp.1 hrc hrs hR.1 hR.2 hws List.mem_cons_self (fun a' U hU => hW _ g3 _ _ _ _ hU (hts _ g3))
  intro T hT X
  obtain ⟨mk, methM, cM, hnamed, hmethM, -, -, -, -, -, -, hsigM⟩ := Cond.codeWith_spec (hts _ hc)
  have hstatic : methM.isStatic = true := Cond.static_spec hnamed hmethM (hts _ g4)
  obtain ⟨kP, hkP, -⟩ := className_of_methodNamed hnamed
  have hinitP : kP.init = .initialized := Cond.initialized_spec (findClass_of_methodNamed hnamed) hkP (hts _ g3)
  obtain ⟨vm₁, X₁, hstep₁⟩ := X.invokestatic hx hown (hts _ g5) hnamed hmethM hstatic hkP hinitP g1 (g := F0 m pc ls st0) rfl (argsL := As) (rest := rest) (hn.trans (mn_len g2 _ hsigM)) hst (by rw [hb]; exact hd)
  obtain ⟨v, ⟨U', l2, c2, s2⟩, X', ⟨g', mk', t, L, e1, e2, hq, h1, hL, h2, h3⟩, hsteps⟩ := hK m meth c ⟨T.setVm vm₁, locs, cells, slots⟩ (F0 m pc ls rest) (.invokestatic i) mk As.toArray X₁ rfl (hsize.trans hml.symm) (by rw [hb]; exact hd) (lv_room hcat) (X₁.named hnamed) ⟨hf.1, hf.2, hp.2 (T.setVm vm₁) hT X₁.warmed⟩
  dsimp only [Pt.U, Pt.locs, Pt.cells, Pt.slots] at X' e1 e2 h1 h2 h3 hsteps hq
  subst h1; subst h2; subst h3
  exact ⟨v, (T.setVm vm₁).calling g' mk' As.toArray, t, U', L, hT, X', hL, e1, e2, hq, fun target h => hstep₁ _ fun acts => by rw [doInvoke_state]; exact hsteps.trans h⟩
end MNO
