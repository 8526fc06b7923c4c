/-! cells as functions: an array of n numbers is (kind, f) -/
def aF (n : Nat) (f : Nat → Int32) : List Value := (List.range n).map fun i => Value.int (f i)
/-- f, but x at k -/
def up (f : Nat → Int32) (k : Nat) (x : Int32) : Nat → Int32 := fun i => if i = k then x else f i
theorem up_eq (f : Nat → Int32) (k : Nat) (x : Int32) : up f k x k = x := if_pos rfl
theorem up_ne {f : Nat → Int32} {k i : Nat} {x : Int32} (h : i ≠ k) : up f k x i = f i := if_neg h
theorem aF_len (n : Nat) (f : Nat → Int32) : (aF n f).length = n := by unfold aF; rw [List.length_map, List.length_range]
theorem aF_get {n i : Nat} (f : Nat → Int32) (h : i < n) : (aF n f)[i]? = some (.int (f i)) := by
  unfold aF
  rw [List.getElem?_map, List.getElem?_range h]
  rfl
theorem aF_set (n : Nat) (f : Nat → Int32) (k : Nat) (x : Int32) : (aF n f).set k (.int x) = aF n (up f k x) := by
  apply List.ext_getElem?
  intro i
  rw [List.getElem?_set, aF_len]
  by_cases hi : i < n
  · rw [aF_get _ hi]
    by_cases hk : k = i
    · subst hk
      rw [if_pos rfl, if_pos hi, aF_get _ hi, up_eq]
    · rw [if_neg hk, aF_get _ hi, up_ne (fun e => hk e.symm)]
  · have h1 : (aF n f)[i]? = none := List.getElem?_eq_none (by rw [aF_len]; omega)
    have h2 : (aF n (up f k x))[i]? = none := List.getElem?_eq_none (by rw [aF_len]; omega)
    rw [h1, h2]
    split
    · next h => subst h; rw [if_neg hi]
    · rfl
theorem aF_rep (n : Nat) (x : Int32) : List.replicate n (Value.int x) = aF n (fun _ => x) := by
  unfold aF
  rw [List.map_const', List.length_range]
theorem aF_ext {n : Nat} {f g : Nat → Int32} (h : ∀ i, i < n → f i = g i) : aF n f = aF n g := by
  unfold aF
  apply List.map_congr_left
  intro i hi
  rw [h i (List.mem_range.mp hi)]
section RY9
variable {sc : Option (List Int32)} {fr lo j pc : Nat} {xs : List (Option Value)} {st : List Value} {ns : Nat} {hs : mn_H} {r : mn_A}
theorem Ru.ild {a n N : Nat} {i : Int32} {f : Nat → Int32} (hd : decode (mt_code j) pc = .ok (.iaload, 1)) (ha : hs[a]? = some (50, aF N f)) (hi : i = nI n) (hn : n < N) (hN : N < 2 ^ 31) (h : Ru sc fr lo j (pc + 1, xs, .int (f n) :: st, ns, hs) r) : Ru sc fr lo j (pc, xs, .int i :: .ref a :: st, ns, hs) r := Ru.iald hd ha hi (by omega) (aF_get f hn) h
theorem Ru.cld {a n N : Nat} {i : Int32} {f : Nat → Int32} (hd : decode (mt_code j) pc = .ok (.caload, 1)) (ha : hs[a]? = some (52, aF N f)) (hi : i = nI n) (hn : n < N) (hN : N < 2 ^ 31) (h : Ru sc fr lo j (pc + 1, xs, .int (f n) :: st, ns, hs) r) : Ru sc fr lo j (pc, xs, .int i :: .ref a :: st, ns, hs) r := Ru.cald hd ha hi (by omega) (aF_get f hn) h
theorem Ru.bld {a n N : Nat} {i : Int32} {f : Nat → Int32} (hd : decode (mt_code j) pc = .ok (.baload, 1)) (ha : hs[a]? = some (51, aF N f)) (hi : i = nI n) (hn : n < N) (hN : N < 2 ^ 31) (h : Ru sc fr lo j (pc + 1, xs, .int (f n) :: st, ns, hs) r) : Ru sc fr lo j (pc, xs, .int i :: .ref a :: st, ns, hs) r := Ru.bald hd ha hi (by omega) (aF_get f hn) h
theorem Ru.ist {a n N : Nat} {i x : Int32} {f : Nat → Int32} (hd : decode (mt_code j) pc = .ok (.iastore, 1)) (ha : hs[a]? = some (50, aF N f)) (hi : i = nI n) (hn : n < N) (hN : N < 2 ^ 31) (h : Ru sc fr lo j (pc + 1, xs, st, ns, hs.set a (50, aF N (up f n x))) r) : Ru sc fr lo j (pc, xs, .int x :: .int i :: .ref a :: st, ns, hs) r := by
  refine Ru.iast hd ha hi (by omega) (by rw [aF_len]; exact hn) ?_
  rw [aF_set]
  exact h
theorem Ru.cst {a n N : Nat} {i x y : Int32} {f : Nat → Int32} (hd : decode (mt_code j) pc = .ok (.castore, 1)) (ha : hs[a]? = some (52, aF N f)) (hi : i = nI n) (hn : n < N) (hN : N < 2 ^ 31) (hx : vp_nar .char x = y) (h : Ru sc fr lo j (pc + 1, xs, st, ns, hs.set a (52, aF N (up f n y))) r) : Ru sc fr lo j (pc, xs, .int x :: .int i :: .ref a :: st, ns, hs) r := by
  refine Ru.cast hd ha hi (by omega) (by rw [aF_len]; exact hn) ?_
  rw [hx, aF_set]
  exact h
theorem Ru.bst {a n N : Nat} {i x y : Int32} {f : Nat → Int32} (hd : decode (mt_code j) pc = .ok (.bastore, 1)) (ha : hs[a]? = some (51, aF N f)) (hi : i = nI n) (hn : n < N) (hN : N < 2 ^ 31) (hx : vp_nar .boolean x = y) (h : Ru sc fr lo j (pc + 1, xs, st, ns, hs.set a (51, aF N (up f n y))) r) : Ru sc fr lo j (pc, xs, .int x :: .int i :: .ref a :: st, ns, hs) r := by
  refine Ru.bast hd ha hi (by omega) (by rw [aF_len]; exact hn) ?_
  rw [hx, aF_set]
  exact h
/-- the element of an array of references -/
theorem Ru.ald {a n tg : Nat} {i : Int32} {vs : List Value} {b : Nat} (hd : decode (mt_code j) pc = .ok (.aaload, 1)) (ha : hs[a]? = some (tg, vs)) (ht : 54 ≤ tg ∧ tg < 56) (hi : i = nI n) (hn : n < 2 ^ 31) (hv : vs[n]? = some (.ref b)) (h : Ru sc fr lo j (pc + 1, xs, .ref b :: st, ns, hs) r) : Ru sc fr lo j (pc, xs, .int i :: .ref a :: st, ns, hs) r := by
  refine Ru.op hd (mn_op_D rfl rfl rfl rfl ?_) h
  simp only [mn_opD, ha, ht, and_self, if_true, mn_ix_of hi hn hv]
theorem Ru.ast {a n tg tv b : Nat} {i : Int32} {vs w : List Value} (hd : decode (mt_code j) pc = .ok (.aastore, 1)) (ha : hs[a]? = some (tg, vs)) (hb : hs[b]? = some (tv, w)) (ht : 54 ≤ tg ∧ tg < 56) (hv : tv = mt_ak (tg - 50)) (hv2 : tv < 50) (hi : i = nI n) (hn : n < 2 ^ 31) (hl : n < vs.length) (h : Ru sc fr lo j (pc + 1, xs, st, ns, hs.set a (tg, vs.set n (.ref b))) r) : Ru sc fr lo j (pc, xs, .ref b :: .int i :: .ref a :: st, ns, hs) r := by
  refine Ru.op hd (mn_op_D rfl rfl rfl rfl ?_) h
  simp only [mn_opD, ha, hb]
  rw [if_pos ⟨ht.1, ht.2, hv, hv2, mn_in_of hi hn hl⟩, hi, nI_clamp hn]
theorem Ru.len {a tg : Nat} {vs : List Value} (hd : decode (mt_code j) pc = .ok (.arraylength, 1)) (ha : hs[a]? = some (tg, vs)) (ht : 50 ≤ tg ∧ tg < 56) (h : Ru sc fr lo j (pc + 1, xs, .int (nI vs.length) :: st, ns, hs) r) : Ru sc fr lo j (pc, xs, .ref a :: st, ns, hs) r := by
  refine Ru.op hd (mn_op_D rfl rfl rfl rfl ?_) h
  simp only [mn_opD, ha, ht, and_self, if_true]
  rfl
end RY9
/-- the heap is as it was but at the places of S (new cells may stand behind it) -/
def Sm (S : List Nat) (hs hs' : mn_H) : Prop := hs.length ≤ hs'.length ∧ ∀ i, i < hs.length → i ∉ S → hs'[i]? = hs[i]?
theorem Sm.refl (S : List Nat) (hs : mn_H) : Sm S hs hs := ⟨Nat.le_refl _, fun _ _ _ => rfl⟩
theorem Sm.trans {S : List Nat} {h1 h2 h3 : mn_H} (a : Sm S h1 h2) (b : Sm S h2 h3) : Sm S h1 h3 := ⟨Nat.le_trans a.1 b.1, fun i hi hS => (b.2 i (Nat.lt_of_lt_of_le hi a.1) hS).trans (a.2 i hi hS)⟩
theorem Sm.mono {S T : List Nat} {h1 h2 : mn_H} (a : Sm S h1 h2) (h : ∀ i, i ∈ S → i ∈ T) : Sm T h1 h2 := ⟨a.1, fun i hi hT => a.2 i hi (fun hS => hT (h i hS))⟩
theorem Sm.set {S : List Nat} {hs : mn_H} {a : Nat} {x : mn_C} (h : a ∈ S) : Sm S hs (hs.set a x) := ⟨by rw [List.length_set]; exact Nat.le_refl _, fun i _ hS => h_oth (fun e => hS (e ▸ h))⟩
theorem Sm.app {S : List Nat} {hs t : mn_H} : Sm S hs (hs ++ t) := ⟨by rw [List.length_append]; omega, fun i hi _ => List.getElem?_append_left hi⟩
theorem Sm.get {S : List Nat} {h1 h2 : mn_H} {i : Nat} {x : mn_C} (a : Sm S h1 h2) (hS : i ∉ S) (h : h1[i]? = some x) : h2[i]? = some x := (a.2 i (List.getElem?_eq_some_iff.mp h).1 hS).trans h
