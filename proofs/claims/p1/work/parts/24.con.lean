section MNC
variable {l : Launch} {WT : List Cond} {D : va_G} {aC : Nat → ClassId} {b : Nat × Nat}
/-- a method's table of handlers and its code, by its word -/
theorem mt_cw_spec {j : Nat} {args : Array Value} {s : State} {m : MethodId} (h : (mt_cw j).before args s = true) (hn : s.methodNamed? (mt_y j) = some m) : ∃ meth c, s.vm.method? m = some meth ∧ meth.code = some c ∧ c.code = mt_code j ∧ c.maxLocals = mt_ml j ∧ meth.sig.returnType = mt_rt j ∧ meth.locks = false ∧ c.exceptionTable.toList.map (fun h => (h.startPc, h.endPc, h.handlerPc, h.catchType)) = (mt_hl j).map (fun t => (t.1, t.2.1, t.2.2.1, t.2.2.2.1)) := by
  unfold mt_cw at h
  split at h
  · next h0 =>
    obtain ⟨meth, c, h1, h2, h3, h4, h5, h6, h7, -⟩ := Cond.code_spec hn h
    refine ⟨meth, c, h1, h2, h3, h4, h5, h6, ?_⟩
    rw [h0, Array.isEmpty_iff.mp h7]
    rfl
  · obtain ⟨m9, meth, c, hn9, h1, h2, h3, h4, h5, h6, h7, -⟩ := Cond.codeWith_spec h
    cases hn.symm.trans hn9
    exact ⟨meth, c, h1, h2, h3, h4, h6, h7, h5⟩
theorem mn_con_of {j fr lo : Nat} {as : List Value} {ns : Nat} {hs : mn_H} {res : Nat × Option Value} {ns' : Nat} {hs' : mn_H} (hH : mt_H WT) (hent : (mn_ent as).length ≤ mt_ml j)
    (hw : ∀ {p : Program} {e : Env} {s : State} {m : MethodId} {args : Array Value} {below : List Frame} {meth : Method} {c : Code} {H : Heap} {locs : List Loc} {ls : Array Slot} {n0 m0 : Nat}, mn_cx WT D aC b p s m args meth c j n0 none → mn_R D mt_cl aC b hs H → va_S (fun q => b.1 ≤ q) s.heap H locs → mn_L b ls (mn_pad (mn_ent as) (mt_ml j)) → (mn_pad (mn_ent as) (mt_ml j)).length = mt_ml j → n0 ≤ hs.length → m0 ≤ ns →
      W p l e { frames := fr, cells := hs'.length - n0, slots := ns' - m0, locals := lo } s m args below meth c H locs (hs.length - n0) (ns - m0) (mn_Z D aC b below res hs' args s (hs'.length - n0) (ns' - m0)) (F0 m 0 ls (([] : List Value).map (mn_tr b)))) :
    mn_Con l WT D aC b j fr lo as ns hs res ns' hs' := by
  obtain ⟨-, -, -, -, -, -, -, -, -, -, hpl⟩ := hH
  refine MetFree.of_bodyS (code := mt_code j) (maxLocals := mt_ml j) (ret := mt_rt j) (hpl j).1 ?_ ?_
  · intro args s m h hn
    obtain ⟨meth, c, h1, h2, h3, h4, h5, h6, -⟩ := mt_cw_spec (atoms_spec (ws := mt_cw j :: WT) h _ List.mem_cons_self) hn
    exact ⟨meth, c, h1, h2, h3, h4, h5, h6⟩
  · intro p e s m args below meth c s₁ B hml hP _
    have hh0 : s₁.heap = s.heap := by rw [B.state]; rfl
    have hts0 := atoms_spec (ws := mt_cw j :: WT) B.pre
    obtain ⟨rfl, hsz, hR, hK, hX⟩ := hP
    obtain ⟨meth', c', h1, h2, -, -, -, -, h7⟩ := mt_cw_spec (hts0 _ List.mem_cons_self) B.named
    cases B.method.symm.trans h1
    cases (Stand.of_body B).code.symm.trans h2
    have hown : s.vm.findClass (mt_cn j) = some m.cls := findClass_of_methodNamed B.named
    have hname := (name_of_methodNamed B.named B.method).1
    have C : mn_cx WT D aC b p s m (as.map (mn_tr b)).toArray meth c j hs.length none := ⟨B.exec, B.bytes, hml, hown, fun w hw => hts0 w (List.mem_cons_of_mem _ hw), hK, hsz, hX, fun h => hname.trans ((hpl j).2 h), B.returns, B.notSynchronized, h7, fun l' h => by cases h⟩
    have h9 := hw (p := p) (e := e) (below := below) (n0 := hs.length) (m0 := ns) C hR (va_S.rf (A := fun q => b.1 ≤ q)) (mn_L_entry b as hent) (mn_pad_len hent) (Nat.le_refl _) (Nat.le_refl _)
    rw [Nat.sub_self, Nat.sub_self] at h9
    obtain ⟨t, a1, o, b1, b2, b3⟩ := h9 s₁ hh0 (Stand.of_body B)
    refine ⟨t, o, ?_, b1, b2, b3⟩
    rw [lg_entry_eq]
    exact a1
end MNC
