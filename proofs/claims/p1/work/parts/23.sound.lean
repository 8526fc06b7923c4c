/-- what the tables' calls, members of the JDK, exceptions and handlers must be true to -/
def mt_H (WT : List Cond) : Prop :=
  (∀ (j i j2 x nn : Nat) (z : Int), mt_pl j i = (7, j2, x, nn, z) → mn_GS WT (mt_cn j) i (mt_y j2) (mt_na j2) ∧ (mt_hl j2 = [] ∨ Cond.methodLink (mt_cn j) i (mt_y j2) ∈ WT) ∧ mt_cw j2 ∈ WT) ∧
  (∀ (j i j2 ci nn : Nat) (z : Int), mt_pl j i = (8, j2, ci, nn, z) → ∃ (q : vw_C), mt_cl[ci]? = some q ∧ mn_GV WT (mt_cn j) i (mt_y j2) (mt_na j2) q.1 ∧ mt_hl j2 = [] ∧ mt_cw j2 ∈ WT ∧ (mt_hl j ≠ [] → Cond.methodLink (mt_cn j) i (mt_y j2) ∈ WT)) ∧
  (∀ (j i j2 ci nn : Nat) (z : Int), mt_pl j i = (9, j2, ci, nn, z) → mn_GI WT (mt_cn j) i (mt_y j2) (mt_na j2) ∧ mt_hl j2 = [] ∧ mt_rt j2 = none ∧ mt_cw j2 ∈ WT) ∧
  (∀ (j i x y w : Nat) (z : Int), mt_pl j i = (10, x, y, w, z) → Cond.methodLink (mt_cn j) i Lib.objectInit ∈ WT ∧ Cond.instanceMethod Lib.objectInit ∈ WT ∧ Cond.code Lib.objectInit ⟨#[0xb1]⟩ 1 none ∈ WT) ∧
  (∀ (j i x y w : Nat) (z : Int), mt_pl j i = (11, x, y, w, z) → Cond.methodLink (mt_cn j) i arraycopyName ∈ WT ∧ Cond.native arraycopyName ∈ WT ∧ Cond.static arraycopyName ∈ WT ∧ Cond.initialized "java/lang/System" ∈ WT) ∧
  (∀ (j i x y w : Nat) (z : Int), mt_pl j i = (12, x, y, w, z) → Cond.methodLink (mt_cn j) i Lib.Math.max.name ∈ WT ∧ Cond.static Lib.Math.max.name ∈ WT ∧ Cond.initialized "java/lang/Math" ∈ WT ∧ Cond.code Lib.Math.max.name Lib.Math.max.code 2 (some .int) ∈ WT) ∧
  (∀ (j i x y w : Nat) (z : Int), mt_pl j i = (13, x, y, w, z) → Cond.methodLink (mt_cn j) i Lib.Math.min.name ∈ WT ∧ Cond.static Lib.Math.min.name ∈ WT ∧ Cond.initialized "java/lang/Math" ∈ WT ∧ Cond.code Lib.Math.min.name Lib.Math.min.code 2 (some .int) ∈ WT) ∧
  (∀ (j i k ic w : Nat) (z : Int), mt_pl j i = (3, k, ic, w, z) → ∃ X, mt_ex[k]? = some X ∧ Bundle.fit X = true ∧ Cond.classLink (mt_cn j) i X ∈ WT ∧ Cond.initialized X ∈ WT ∧ ∀ a ∈ Bundle.ownAtoms0 (mt_cn j) ic X mn_up, a ∈ WT ∨ a = mn_is1 ∨ a = mn_is2 ∨ a = mn_ls1 ∨ a = mn_ls2) ∧
  (∀ (j : Nat), ∀ t ∈ mt_hl j, t.2.2.2.1 ≠ 0 ∧ ∃ C, mt_ex[t.2.2.2.2]? = some C ∧ Cond.classLink (mt_cn j) t.2.2.2.1 C ∈ WT) ∧
  (∀ (k : Nat) (X : String), mt_ex[k]? = some X → Cond.castable X X ∈ WT) ∧
  (∀ (j : Nat), plainName (mt_y j).cls = true ∧ (mt_in j = true → (mt_y j).name = "<init>"))
/-- what holds all along method j's own walk -/
def mn_cx (WT : List Cond) (D : va_G) (aC : Nat → ClassId) (b : Nat × Nat) (p : Program) (s : State) (m : MethodId) (args : Array Value) (meth : Method) (c : Code) (j n0 : Nat) (sc : Option (List Int32)) : Prop :=
  p.tables.exec = Jvm.exec ∧ c.code = mt_code j ∧ c.maxLocals = mt_ml j ∧ s.vm.findClass (mt_cn j) = some m.cls ∧ (∀ w ∈ WT, w.before args s = true) ∧ va_K D mt_cl (mn_tys aC mt_E4 mt_E5) s ∧ s.heap.size = b.1 + n0 ∧ mn_X b s s.heap ∧ (mt_in j = true → meth.name = "<init>") ∧ meth.sig.returnType = mt_rt j ∧ meth.locks = false ∧
  c.exceptionTable.toList.map (fun h => (h.startPc, h.endPc, h.handlerPc, h.catchType)) = (mt_hl j).map (fun t => (t.1, t.2.1, t.2.2.1, t.2.2.2.1)) ∧ (∀ l', sc = some l' → va_X b.2 l'.length (fun i => l'.getD i 0) s s.heap ∧ b.2 < b.1 ∧ b.2 < s.heap.size)
section MNS
variable {l : Launch} {WT : List Cond} {D : va_G} {aC : Nat → ClassId} {b : Nat × Nat}
section STEP
variable {p : Program} {e : Env} {R : Room} {s : State} {m : MethodId} {args : Array Value} {below : List Frame} {meth : Method} {c : Code} {H : Heap} {locs : List Loc} {Q : State → Prop} {n0 m0 : Nat} {ls : Array Slot}
set_option maxHeartbeats 4000000 in
theorem mn_opE_ok {j : Nat} {sc : Option (List Int32)} {q : Instr × Nat} {pc : Nat} {xs : List (Option Value)} {st : List Value} {ns : Nat} {hs : mn_H} {pc' : Nat} {xs' : List (Option Value)} {st' : List Value} {ns' : Nat} {hs' : mn_H} (hH : mt_H WT) (C : mn_cx WT D aC b p s m args meth c j n0 sc) (hR : mn_R D mt_cl aC b hs H) (hS : va_S (fun q => b.1 ≤ q) s.heap H locs) (hls : ls.size = mt_ml j)
    (hd : decode (mt_code j) pc = .ok q) (hop : mn_opE (mt_pl j) R.frames R.locals q pc xs st ns hs = some (pc', xs', st', ns', hs')) (hrc : hs'.length - n0 ≤ R.cells) (hrs : ns' - m0 ≤ R.slots)
    (kk : xs' = xs → ∀ (H1 : Heap) (locs1 : List Loc), mn_R D mt_cl aC b hs' H1 → va_S (fun q => b.1 ≤ q) s.heap H1 locs1 → W p l e R s m args below meth c H1 locs1 (hs'.length - n0) (ns' - m0) Q (F0 m pc' ls (st'.map (mn_tr b)))) : W p l e R s m args below meth c H locs (hs.length - n0) (ns - m0) Q (F0 m pc ls (st.map (mn_tr b))) := by
  obtain ⟨-, -, -, H10, H11, H12, H13, -⟩ := hH
  obtain ⟨hx, hb, hml, hown, hts, hK, -⟩ := C
  have hml' : c.maxLocals = ls.size := hml.trans hls.symm
  unfold mn_opE at hop
  split at hop
  · split at hop
    · next h =>
      split at hop
      · next hc =>
        cases hop
        obtain ⟨g1, g2, g3⟩ := H10 _ _ _ _ _ _ h
        exact mn_oinit_ok hx hb hml' hts hown g1 g2 g3 hd hc.1 hc.2 (kk rfl H locs hR hS)
      · cases hop
    · cases hop
  · split at hop
    · next h =>
      split at hop
      · next hc =>
        cases hop
        obtain ⟨g1, g2, g3, g4⟩ := H12 _ _ _ _ _ _ h
        exact mn_max_ok hx hb hml' hts hown g1 g2 g3 g4 hd hc.1 hc.2 hrc hrs (kk rfl H locs hR hS)
      · cases hop
    · next h =>
      split at hop
      · next hc =>
        cases hop
        obtain ⟨g1, g2, g3, g4⟩ := H13 _ _ _ _ _ _ h
        exact mn_min_ok hx hb hml' hts hown g1 g2 g3 g4 hd hc.1 hc.2 hrc hrs (kk rfl H locs hR hS)
      · cases hop
    · next h =>
      split at hop
      · next ha0 ha =>
        split at hop
        · next hc =>
          cases hop
          obtain ⟨g1, g2, g3, g4⟩ := H11 _ _ _ _ _ _ h
          obtain ⟨c1, c2, c3, c4, c5, c6, c7⟩ := hc
          have kk := kk rfl
          rw [List.length_set] at kk
          exact mn_acopy_ok hx hb hml' hts hown hK hR hS g1 g2 g3 g4 ha0 ha hd c1 c2 c3 c4 c5 c6 c7 kk
        · cases hop
      · cases hop
    · cases hop
  · cases hop
theorem mn_opS_ok {j : Nat} {sc : Option (List Int32)} {q : Instr × Nat} {pc : Nat} {xs : List (Option Value)} {st : List Value} {ns : Nat} {hs : mn_H} {pc' : Nat} {xs' : List (Option Value)} {st' : List Value} {ns' : Nat} {hs' : mn_H} {cells slots : Nat} (C : mn_cx WT D aC b p s m args meth c j n0 sc) (hS : va_S (fun q => b.1 ≤ q) s.heap H locs)
    (hd : decode (mt_code j) pc = .ok q) (hop : mn_opS sc q pc xs st ns hs = some (pc', xs', st', ns', hs'))
    (kk : xs' = xs → ns' = ns → hs' = hs → W p l e R s m args below meth c H locs cells slots Q (F0 m pc' ls (st'.map (mn_tr b)))) : W p l e R s m args below meth c H locs cells slots Q (F0 m pc ls (st.map (mn_tr b))) := by
  obtain ⟨hx, hb, -, -, -, -, -, -, -, -, -, -, hsc⟩ := C
  unfold mn_opS at hop
  split at hop
  · cases hop
  · next l' =>
    obtain ⟨hX, hlt, hlt2⟩ := hsc l' rfl
    have hbA : ¬ (b.1 ≤ b.2) := by omega
    split at hop
    · split at hop
      · split at hop
        · cases hop
        · next hi =>
          cases hop
          exact va_sld hx hb hX hlt2 hbA hS hi hd (kk rfl rfl rfl)
      · cases hop
    · split at hop
      · cases hop
        exact va_slen hx hb hX hlt2 hbA hS hd (kk rfl rfl rfl)
      · cases hop
    · cases hop
end STEP
end MNS
