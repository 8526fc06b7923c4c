section RW9
variable {sc : Option (List Int32)} {fr lo j pc : Nat} {xs : List (Option Value)} {st : List Value} {ns : Nat} {hs : mn_H} {r : mn_A}
theorem mn_op_D {q : Instr × Nat} {S : mn_S} (hA : mn_opA q pc xs st ns hs = none) (hB : mn_opB q pc xs st ns hs = none) (hB1 : mn_opB1 q pc xs st ns hs = none) (hC : mn_opC q pc xs st ns hs = none) (hD : mn_opD (mt_pl j) mt_ft mt_fi mt_df mt_ak (mt_ow j) (mt_in j) q pc xs st ns hs = some S) : mn_op j fr lo sc q pc xs st ns hs = some S := by
  unfold mn_op
  simp only [hA, hB, hB1, hC, hD]
theorem Ru.get {i ci k nn a : Nat} {z : Int} {vs : List Value} {v : Value} (hd : decode (mt_code j) pc = .ok (.getfield i, 3)) (hp : mt_pl j i = (1, ci, k, nn, z)) (ha : hs[a]? = some (ci, vs)) (hci : ci < 50) (hv : vs[k]? = some v) (h : Ru sc fr lo j (pc + 3, xs, v :: st, ns, hs) r) : Ru sc fr lo j (pc, xs, .ref a :: st, ns, hs) r := by
  refine Ru.op hd (mn_op_D rfl rfl rfl rfl ?_) h
  simp only [mn_opD, hp, ha, hci, hv, and_self, if_true]
theorem Ru.put {i ci k nn a : Nat} {z : Int} {vs : List Value} {v : Value} (hd : decode (mt_code j) pc = .ok (.putfield i, 3)) (hp : mt_pl j i = (1, ci, k, nn, z)) (ha : hs[a]? = some (ci, vs)) (hci : ci < 50) (hk : k < vs.length) (hf : mn_fk (mt_ft ci k) v = true) (hfi : mt_fi ci k = true → mt_in j = true ∧ ci = mt_ow j) (h : Ru sc fr lo j (pc + 3, xs, st, ns, hs.set a (ci, vs.set k v)) r) : Ru sc fr lo j (pc, xs, v :: .ref a :: st, ns, hs) r := by
  refine Ru.op hd (mn_op_D ?_ ?_ ?_ ?_ ?_) h
  · rfl
  · cases v <;> rfl
  · cases v <;> rfl
  · rfl
  · simp only [mn_opD, hp, ha]
    rw [if_pos ⟨trivial, hci, hk, hf, hfi⟩]
theorem mn_ix_of {vs : List Value} {i : Int32} {n : Nat} {v : Value} (hi : i = nI n) (hn : n < 2 ^ 31) (hv : vs[n]? = some v) : mn_ix vs i = some v := by
  have hl : n < vs.length := (List.getElem?_eq_some_iff.mp hv).1
  subst hi
  unfold mn_ix
  rw [if_neg, nI_clamp hn]
  · exact hv
  · rintro (h | h)
    · exact nI_pos hn h
    · rw [nI_clamp hn] at h; omega
theorem mn_in_of {i : Int32} {n L : Nat} (hi : i = nI n) (hn : n < 2 ^ 31) (hl : n < L) : ¬ (i < 0 ∨ L ≤ i.toNatClampNeg) := by
  subst hi
  rintro (h | h)
  · exact nI_pos hn h
  · rw [nI_clamp hn] at h; omega
theorem Ru.iald {a n : Nat} {i x : Int32} {vs : List Value} (hd : decode (mt_code j) pc = .ok (.iaload, 1)) (ha : hs[a]? = some (50, vs)) (hi : i = nI n) (hn : n < 2 ^ 31) (hv : vs[n]? = some (.int x)) (h : Ru sc fr lo j (pc + 1, xs, .int x :: st, ns, hs) r) : Ru sc fr lo j (pc, xs, .int i :: .ref a :: st, ns, hs) r := by
  refine Ru.op hd (mn_op_D rfl rfl rfl rfl ?_) h
  simp only [mn_opD, ha, mn_ix_of hi hn hv]
theorem Ru.cald {a n : Nat} {i x : Int32} {vs : List Value} (hd : decode (mt_code j) pc = .ok (.caload, 1)) (ha : hs[a]? = some (52, vs)) (hi : i = nI n) (hn : n < 2 ^ 31) (hv : vs[n]? = some (.int x)) (h : Ru sc fr lo j (pc + 1, xs, .int x :: st, ns, hs) r) : Ru sc fr lo j (pc, xs, .int i :: .ref a :: st, ns, hs) r := by
  refine Ru.op hd (mn_op_D rfl rfl rfl rfl ?_) h
  simp only [mn_opD, ha, mn_ix_of hi hn hv]
theorem Ru.bald {a n : Nat} {i x : Int32} {vs : List Value} (hd : decode (mt_code j) pc = .ok (.baload, 1)) (ha : hs[a]? = some (51, vs)) (hi : i = nI n) (hn : n < 2 ^ 31) (hv : vs[n]? = some (.int x)) (h : Ru sc fr lo j (pc + 1, xs, .int x :: st, ns, hs) r) : Ru sc fr lo j (pc, xs, .int i :: .ref a :: st, ns, hs) r := by
  refine Ru.op hd (mn_op_D rfl rfl rfl rfl ?_) h
  simp only [mn_opD, ha, mn_ix_of hi hn hv]
theorem Ru.iast {a n : Nat} {i x : Int32} {vs : List Value} (hd : decode (mt_code j) pc = .ok (.iastore, 1)) (ha : hs[a]? = some (50, vs)) (hi : i = nI n) (hn : n < 2 ^ 31) (hl : n < vs.length) (h : Ru sc fr lo j (pc + 1, xs, st, ns, hs.set a (50, vs.set n (.int x))) r) : Ru sc fr lo j (pc, xs, .int x :: .int i :: .ref a :: st, ns, hs) r := by
  refine Ru.op hd (mn_op_D rfl rfl rfl rfl ?_) h
  simp only [mn_opD, ha]
  rw [if_neg (mn_in_of hi hn hl), hi, nI_clamp hn]
theorem Ru.cast {a n : Nat} {i x : Int32} {vs : List Value} (hd : decode (mt_code j) pc = .ok (.castore, 1)) (ha : hs[a]? = some (52, vs)) (hi : i = nI n) (hn : n < 2 ^ 31) (hl : n < vs.length) (h : Ru sc fr lo j (pc + 1, xs, st, ns, hs.set a (52, vs.set n (.int (vp_nar .char x)))) r) : Ru sc fr lo j (pc, xs, .int x :: .int i :: .ref a :: st, ns, hs) r := by
  refine Ru.op hd (mn_op_D rfl rfl rfl rfl ?_) h
  simp only [mn_opD, ha]
  rw [if_neg (mn_in_of hi hn hl), hi, nI_clamp hn]
theorem Ru.bast {a n : Nat} {i x : Int32} {vs : List Value} (hd : decode (mt_code j) pc = .ok (.bastore, 1)) (ha : hs[a]? = some (51, vs)) (hi : i = nI n) (hn : n < 2 ^ 31) (hl : n < vs.length) (h : Ru sc fr lo j (pc + 1, xs, st, ns, hs.set a (51, vs.set n (.int (vp_nar .boolean x)))) r) : Ru sc fr lo j (pc, xs, .int x :: .int i :: .ref a :: st, ns, hs) r := by
  refine Ru.op hd (mn_op_D rfl rfl rfl rfl ?_) h
  simp only [mn_opD, ha]
  rw [if_neg (mn_in_of hi hn hl), hi, nI_clamp hn]
theorem Ru.last {a n : Nat} {i : Int32} {x : Int64} {vs : List Value} (hd : decode (mt_code j) pc = .ok (.lastore, 1)) (ha : hs[a]? = some (53, vs)) (hi : i = nI n) (hn : n < 2 ^ 31) (hl : n < vs.length) (h : Ru sc fr lo j (pc + 1, xs, st, ns, hs.set a (53, vs.set n (.long x))) r) : Ru sc fr lo j (pc, xs, .long x :: .int i :: .ref a :: st, ns, hs) r := by
  refine Ru.op hd (mn_op_D rfl rfl rfl rfl ?_) h
  simp only [mn_opD, ha]
  rw [if_neg (mn_in_of hi hn hl), hi, nI_clamp hn]
theorem Ru.lald {a n : Nat} {i : Int32} {x : Int64} {vs : List Value} (hd : decode (mt_code j) pc = .ok (.laload, 1)) (ha : hs[a]? = some (53, vs)) (hi : i = nI n) (hn : n < 2 ^ 31) (hv : vs[n]? = some (.long x)) (h : Ru sc fr lo j (pc + 1, xs, .long x :: st, ns, hs) r) : Ru sc fr lo j (pc, xs, .int i :: .ref a :: st, ns, hs) r := by
  refine Ru.op hd (mn_op_D rfl rfl rfl rfl ?_) h
  simp only [mn_opD, ha, mn_ix_of hi hn hv]
end RW9
