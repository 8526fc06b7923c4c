section MNW
variable {e : Env} {s : State} {args : Array Value} {m : MethodId} {own X : String} {cX : ClassId} {k pc hp : Nat} {a : Addr} {cell : Cell}
theorem mn_find_list (hown : s.vm.findClass own = some m.cls) (hpl : e.platform.magicAccessors = ({} : Platform).magicAccessors) (hcX : s.vm.findClass X = some cX) (hcell : cell.cls = cX) (hobj : ∀ k, cell.vm ≠ .statics k) (hself : s.vm.assignable cX cX = true) :
    ∀ (es : List ExceptionTableEntry) (hl : List (Nat × Nat × Nat × Nat × Nat)), es.map (fun h => (h.startPc, h.endPc, h.handlerPc, h.catchType)) = hl.map (fun t => (t.1, t.2.1, t.2.2.1, t.2.2.2.1)) →
      (∀ t ∈ hl, t.2.2.2.1 ≠ 0 ∧ ∃ C, (Cond.classLink own t.2.2.2.1 C).before args s = true ∧ (t.2.2.2.2 = k → C = X) ∧ (t.2.2.2.2 ≠ k → va_Nc X C s)) → mn_hd hl pc k = some hp →
      ∀ vm0, s.WarmedH vm0 → ∃ vm', s.WarmedH vm' ∧ ∀ (U : State) (f : JFrame), U.vm = vm0 → U.heap[a]? = some cell → f.method = m → f.pc = pc → ∀ (Q : Handler → Pre) (E : CtlPost) (d : Bool) (acts : List Action), wp (findHandler.go f a es) Q E e d acts U ↔ Q (.found hp) d acts (U.setVm vm') := by
  obtain ⟨kX, hkX, -⟩ := Vm.findClass_spec hcX
  intro es
  induction es with
  | nil =>
    intro hl hm _ hh
    cases hl with
    | nil => cases hh
    | cons t r => cases hm
  | cons x es ih =>
    intro hl hm hw hh vm0 hW0
    cases hl with
    | nil => cases hm
    | cons t r =>
      simp only [List.map_cons, List.cons.injEq, Prod.mk.injEq] at hm
      obtain ⟨⟨m1, m2, m3, m4⟩, hm⟩ := hm
      obtain ⟨hn0, C, hlink, hC1, hC2⟩ := hw t List.mem_cons_self
      obtain ⟨cC, hfC, hcl⟩ := Cond.classLink_spec hown hlink e.platform hpl
      obtain ⟨hg1, hwarm1, -⟩ := State.classEntry (e := e) hW0 hcl
      obtain ⟨kC, hkC, -⟩ := Vm.findClass_spec hfC
      have hsz : (vm0.noted m.cls t.2.2.2.1 (.cls cC)).classes.size ≤ vm0.classes.size := by simp [Vm.noted]
      generalize vm0.noted m.cls t.2.2.2.1 (.cls cC) = vm1 at hg1 hwarm1 hsz
      have hk1 : ∃ k, vm1.classes[cell.cls]? = some k := by
        obtain ⟨k', hk', -⟩ := hwarm1.alike.2.2 _ _ hkX
        exact ⟨k', by rw [hcell]; exact hk'⟩
      have hk2 : ∃ k, vm1.classes[cC]? = some k := by
        obtain ⟨k', hk', -⟩ := hwarm1.alike.2.2 _ _ hkC
        exact ⟨k', hk'⟩
      unfold mn_hd at hh
      split at hh
      · next hc =>
        have hgo : ∀ (U : State) (f : JFrame), U.vm = vm0 → U.heap[a]? = some cell → f.method = m → f.pc = pc → ∀ (Q : Handler → Pre) (E : CtlPost) (d : Bool) (acts : List Action), wp (findHandler.go f a (x :: es)) Q E e d acts U ↔ if vm1.assignable cell.cls cC = true then Q (.found x.handlerPc) d acts (U.setVm vm1) else wp (findHandler.go f a es) Q E e d acts (U.setVm vm1) := by
          intro U f hU hUc hfm hfp Q E d acts
          refine mn_find_go (by unfold covers; rw [hfp, m1, m2]; simp [hc]) (by rw [m4]; exact hn0) (by rw [hfm, m4, hU]; exact hg1) (by rw [hU]; exact hsz) hUc hobj hk1 hk2
        split at hh
        · next hk =>
          cases hh
          have hCX := hC1 hk
          subst hCX
          have hcc : cC = cX := Option.some.inj (hfC.symm.trans hcX)
          refine ⟨vm1, hwarm1, fun U f hU hUc hfm hfp Q E d acts => ?_⟩
          rw [hgo U f hU hUc hfm hfp, hcell, hcc, hwarm1.alike.assignable, if_pos hself, m3]
        · next hk =>
          obtain ⟨c1, t1, n1, n2, n3⟩ := hC2 hk
          have e1 : c1 = cX := Option.some.inj (n1.symm.trans hcX)
          have e2 : t1 = cC := Option.some.inj (n2.symm.trans hfC)
          subst e1
          subst e2
          obtain ⟨vm2, hw2, hrest⟩ := ih r hm (fun t ht => hw t (List.mem_cons_of_mem _ ht)) hh vm1 hwarm1
          refine ⟨vm2, hw2, fun U f hU hUc hfm hfp Q E d acts => ?_⟩
          rw [hgo U f hU hUc hfm hfp, hcell, hwarm1.alike.assignable, n3, if_neg (by decide)]
          exact hrest (U.setVm vm1) f rfl hUc hfm hfp Q E d acts
      · cases hh
end MNW
