section MNU
variable {p : Program} {l : Launch} {e : Env} {R : Room} {s : State} {m : MethodId} {args : Array Value} {below : List Frame} {meth : Method} {c : Code} {H : Heap} {locs : List Loc} {cells slots : Nat} {Q : State → Prop} {cc : ByteArray} {pc : Nat} {ls : Array Slot} {st : List Value} {own cls : String}
def mn_up : List String := ["java/lang/RuntimeException", "java/lang/Exception"]
set_option maxHeartbeats 4000000 in
/-- new X, dup, X's constructor, athrow, where no handler of the method's own is near: the method ends so; nothing but the new cell has come -/
theorem mn_throw_W (hx : p.tables.exec = Jvm.exec) (hb : c.code = cc) (hml : ls.size = c.maxLocals) (htr : l.stackTraces = false) (hlocks : meth.locks = false) (hown : s.vm.findClass own = some m.cls) {i ic : Nat} (hcls : Bundle.fit cls = true)
    (hat : ∀ su : Nat, ∀ a ∈ Bundle.ownAtoms0 own ic cls mn_up, a.before args ({ s with heap := H, slotsUsed := su } : State) = true)
    (g1 : ∀ su : Nat, (Cond.classLink own i cls).before args ({ s with heap := H, slotsUsed := su } : State) = true) (g3 : ∀ su : Nat, (Cond.initialized cls).before args ({ s with heap := H, slotsUsed := su } : State) = true)
    (hd0 : decode cc pc = .ok (.new i, 3)) (hd1 : decode cc (pc + 3) = .ok (.dup, 1)) (hd2 : decode cc (pc + 4) = .ok (.invokespecial ic, 3)) (hd3 : decode cc (pc + 7) = .ok (.athrow, 1)) (hout : ∀ x ∈ c.exceptionTable.toList, covers x (pc + 7) = false)
    (hfr : 5 < R.frames) (hlo : (st.map fun v => v.category).sum + 81 ≤ R.locals) (hcells : cells + 1 ≤ R.cells) (hslots : slots + 6 ≤ R.slots)
    (kk : ∀ U : State, U.status = .running → Ended U below (.threw H.size) → s.WarmedH U.vm → s.sameButNew ({ U with vm := s.vm } : State) locs (cells + 1) (slots + 6) → H.size + 1 ≤ U.heap.size → (∀ q, q < H.size → U.heap[q]? = H[q]?) → (∃ ce : Cell, U.heap[H.size]? = some ce ∧ ce.vm = .none ∧ s.vm.findClass cls = some ce.cls) → Q U) :
    W p l e R s m args below meth c H locs cells slots Q (F0 m pc ls st) := by
  intro T hT X
  subst hT
  have X0 := mn_rebase X (by omega) (by omega)
  have hat := hat T.slotsUsed
  have g1 := g1 T.slotsUsed
  have g3 := g3 T.slotsUsed
  have htr' : e.platform.stackTraces = false := by
    have h9 := X.admits.2.2.2.2.1
    rw [h9]
    exact htr
  obtain ⟨e1, e2, e3, e4, e5, e6⟩ := id X.same
  generalize hs' : ({ s with heap := T.heap, slotsUsed := T.slotsUsed } : State) = s' at X0 hat g1 g3
  have hvm : s'.vm = s.vm := by rw [← hs']
  have hheap : s'.heap = T.heap := by rw [← hs']
  have hown' : s'.vm.findClass own = some m.cls := by rw [hvm]; exact hown
  obtain ⟨vm₁, cX, kX, hfX, hkX, -, -, X₁, st1⟩ := X0.newCold hx (own := own) (C := cls) (index := i) (n := 6) hown' g1 (hat (.instantiable cls 6) (by simp [Bundle.ownAtoms0])) g3
    (g := F0 m pc ls st) rfl (by rw [hb]; exact hd0) (by show 0 + 1 ≤ R.cells - cells; omega) (by show 0 + 6 ≤ R.slots - slots; omega)
  generalize hT1 : (T.setVm vm₁).pushCell { cls := cX, slots := kX.instanceTypes.map defaultValue, vm := .none } = T1 at X₁ st1
  have hcellA : T1.heap[T.heap.size]? = some (freshCell cX kX) := by rw [← hT1]; exact State.heap_pushCell_size _ _
  obtain ⟨U, hsteps, hrun, hend, hW, hsame, ce, hce, K⟩ := X₁.ctorThrow0 hx htr' (own := own) (cls := cls) (names := mn_up) (ic := ic) hown' hcls (by decide +kernel)
    hat (fun y hy => by cases hy) hfX hkX hcellA (by rw [hheap]; exact Nat.le_refl _)
    (g := F0 m (pc + 4) ls (.ref T.heap.size :: .ref T.heap.size :: st)) rfl hml rfl rfl (rest := st) rfl
    (by rw [hb]; exact hd2) (by rw [hb]; exact hd3) hout (by show 2 + 3 < R.frames; omega) (by
      show 2 * 0 + ((Value.ref T.heap.size :: st).map fun v => v.category).sum + (13 * (2 + 1) + 41) ≤ R.locals
      simp [Value.category] at hlo ⊢
      omega) hlocks
  have hsT : (T.setVm s.vm).sameButNew ({ U with vm := s.vm } : State) [] 1 6 := by
    obtain ⟨a1, a2, a3, a4, a5, a6⟩ := hsame
    rw [hvm] at a1
    have key : ∀ (F G : List Frame) (h1 h2 : Heap) (u1 u2 : Nat), ({ (({ s.setFrames G with heap := h1, slotsUsed := u1 } : State).setFrames F) with heap := h2, slotsUsed := u2 } : State) = { s.setFrames F with heap := h2, slotsUsed := u2 } := by
      intro F G h1 h2 u1 u2
      show ({ ((s.setFrames G).setFrames F) with heap := h2, slotsUsed := u2 } : State) = _
      rw [State.setFrames_setFrames]
    refine ⟨?_, by rw [hheap] at a2; exact a2, by rw [hheap] at a3; exact a3, by rw [hheap, ← hs'] at a4; exact a4, by rw [hheap] at a5; exact a5, fun a c hc => by rw [hheap] at a6; exact a6 a c hc⟩
    refine a1.trans ?_
    rw [e1, key, ← hs']
    rfl
  refine ⟨U, ?_, kk U hrun hend (by have h9 := hW; rw [← hs'] at h9; exact h9) (by have h9 := X.same.trans hsT; rw [List.append_nil] at h9; exact h9) ?_ ?_ ⟨ce, hce, K.vm, by rw [← hvm]; exact K.cls⟩⟩
  · refine st1 _ ?_
    show Steps p.tables e below (T1.setTop (F0 m (pc + 3) ls (.ref T.heap.size :: st))) _
    jvm_step X₁.here [X₁.here.top, hx, hb, hd1, Value.category]
    exact hsteps
  · exact (Array.getElem?_eq_some_iff.mp hce).1
  · intro q hq
    obtain ⟨cq, hcq⟩ : ∃ cq, T.heap[q]? = some cq := ⟨_, Array.getElem?_eq_getElem hq⟩
    rw [hcq]
    exact State.sameButNew.old_cell hsT hcq
end MNU
