/-- does the value suit a field of this kind (0 int, 1 boolean, 2 reference) -/
def mn_fk (k : Nat) (v : Value) : Bool := match v with
  | .int x => k == 0 || (k == 1 && (decide (x = 0) || decide (x = 1)))
  | .ref _ => k == 2
  | .null => k == 2
  | _ => false
/-- the value at a place of an array's list, if the place is there -/
def mn_ix (vs : List Value) (i : Int32) : Option Value := if i < 0 ∨ vs.length ≤ i.toNatClampNeg then none else vs[i.toNatClampNeg]?
def mn_opD (pl : Nat → mn_K) (ft : Nat → Nat → Nat) (fi : Nat → Nat → Bool) (df : Nat → List Value) (ak : Nat → Nat) (ow : Nat) (ini : Bool) (q : Instr × Nat) (pc : Nat) (xs : List (Option Value)) (st : List Value) (ns : Nat) (hs : mn_H) : Option mn_S :=
  match q with
  | (.ldc i, 2) => match pl i with
    | (5, _, _, _, z) => some (pc + 2, xs, .int (Int32.ofInt z) :: st, ns, hs)
    | _ => none
  | (.ldc2_w i, 3) => match pl i with
    | (6, _, _, _, z) => some (pc + 3, xs, .long (Int64.ofInt z) :: st, ns, hs)
    | _ => none
  | (.getfield i, 3) => match pl i, st with
    | (1, ci, k, _, _), .ref a :: r => match hs[a]? with
      | some (tg, vs) => if tg = ci ∧ ci < 50 then match vs[k]? with
          | some v => some (pc + 3, xs, v :: r, ns, hs)
          | none => none
        else none
      | none => none
    | _, _ => none
  | (.putfield i, 3) => match pl i, st with
    | (1, ci, k, _, _), v :: .ref a :: r => match hs[a]? with
      | some (tg, vs) => if tg = ci ∧ ci < 50 ∧ k < vs.length ∧ mn_fk (ft ci k) v = true ∧ (fi ci k = true → ini = true ∧ ci = ow) then some (pc + 3, xs, r, ns, hs.set a (ci, vs.set k v)) else none
      | none => none
    | _, _ => none
  | (.iaload, 1) => match st with
    | .int i :: .ref a :: r => match hs[a]? with
      | some (50, vs) => match mn_ix vs i with
        | some (.int v) => some (pc + 1, xs, .int v :: r, ns, hs)
        | _ => none
      | _ => none
    | _ => none
  | (.baload, 1) => match st with
    | .int i :: .ref a :: r => match hs[a]? with
      | some (51, vs) => match mn_ix vs i with
        | some (.int v) => some (pc + 1, xs, .int v :: r, ns, hs)
        | _ => none
      | _ => none
    | _ => none
  | (.caload, 1) => match st with
    | .int i :: .ref a :: r => match hs[a]? with
      | some (52, vs) => match mn_ix vs i with
        | some (.int v) => some (pc + 1, xs, .int v :: r, ns, hs)
        | _ => none
      | _ => none
    | _ => none
  | (.laload, 1) => match st with
    | .int i :: .ref a :: r => match hs[a]? with
      | some (53, vs) => match mn_ix vs i with
        | some (.long v) => some (pc + 1, xs, .long v :: r, ns, hs)
        | _ => none
      | _ => none
    | _ => none
  | (.aaload, 1) => match st with
    | .int i :: .ref a :: r => match hs[a]? with
      | some (tg, vs) => if 54 ≤ tg ∧ tg < 56 then match mn_ix vs i with
          | some (.ref v) => some (pc + 1, xs, .ref v :: r, ns, hs)
          | some .null => some (pc + 1, xs, .null :: r, ns, hs)
          | _ => none
        else none
      | _ => none
    | _ => none
  | (.iastore, 1) => match st with
    | .int x :: .int i :: .ref a :: r => match hs[a]? with
      | some (50, vs) => if i < 0 ∨ vs.length ≤ i.toNatClampNeg then none else some (pc + 1, xs, r, ns, hs.set a (50, vs.set i.toNatClampNeg (.int x)))
      | _ => none
    | _ => none
  | (.bastore, 1) => match st with
    | .int x :: .int i :: .ref a :: r => match hs[a]? with
      | some (51, vs) => if i < 0 ∨ vs.length ≤ i.toNatClampNeg then none else some (pc + 1, xs, r, ns, hs.set a (51, vs.set i.toNatClampNeg (.int (vp_nar .boolean x))))
      | _ => none
    | _ => none
  | (.castore, 1) => match st with
    | .int x :: .int i :: .ref a :: r => match hs[a]? with
      | some (52, vs) => if i < 0 ∨ vs.length ≤ i.toNatClampNeg then none else some (pc + 1, xs, r, ns, hs.set a (52, vs.set i.toNatClampNeg (.int (vp_nar .char x))))
      | _ => none
    | _ => none
  | (.lastore, 1) => match st with
    | .long x :: .int i :: .ref a :: r => match hs[a]? with
      | some (53, vs) => if i < 0 ∨ vs.length ≤ i.toNatClampNeg then none else some (pc + 1, xs, r, ns, hs.set a (53, vs.set i.toNatClampNeg (.long x)))
      | _ => none
    | _ => none
  | (.aastore, 1) => match st with
    | .ref v :: .int i :: .ref a :: r => match hs[a]?, hs[v]? with
      | some (tg, vs), some (tv, _) => if 54 ≤ tg ∧ tg < 56 ∧ tv = ak (tg - 50) ∧ tv < 50 ∧ ¬ (i < 0 ∨ vs.length ≤ i.toNatClampNeg) then some (pc + 1, xs, r, ns, hs.set a (tg, vs.set i.toNatClampNeg (.ref v))) else none
      | _, _ => none
    | _ => none
  | (.arraylength, 1) => match st with
    | .ref a :: r => match hs[a]? with
      | some (tg, vs) => if 50 ≤ tg ∧ tg < 56 then some (pc + 1, xs, .int (Int32.ofNat vs.length) :: r, ns, hs) else none
      | _ => none
    | _ => none
  | (.newarray ty, 2) => match st with
    | .int n :: r => if n < 0 ∨ 100000 < n.toNatClampNeg then none else match ty with
      | .int => some (pc + 2, xs, .ref hs.length :: r, ns + n.toNatClampNeg, hs ++ [(50, List.replicate n.toNatClampNeg (.int 0))])
      | .boolean => some (pc + 2, xs, .ref hs.length :: r, ns + n.toNatClampNeg, hs ++ [(51, List.replicate n.toNatClampNeg (.int 0))])
      | .char => some (pc + 2, xs, .ref hs.length :: r, ns + n.toNatClampNeg, hs ++ [(52, List.replicate n.toNatClampNeg (.int 0))])
      | .long => some (pc + 2, xs, .ref hs.length :: r, ns + n.toNatClampNeg, hs ++ [(53, List.replicate n.toNatClampNeg (.long 0))])
      | _ => none
    | _ => none
  | (.anewarray i, 3) => match pl i, st with
    | (2, _, k, _, _), .int n :: r => if n < 0 ∨ 100000 < n.toNatClampNeg ∨ ¬ (4 ≤ k ∧ k < 6) then none else some (pc + 3, xs, .ref hs.length :: r, ns + n.toNatClampNeg, hs ++ [(50 + k, List.replicate n.toNatClampNeg .null)])
    | _, _ => none
  | (.new i, 3) => match pl i with
    | (2, ci, _, _, _) => if ci < 50 then some (pc + 3, xs, .ref hs.length :: st, ns + (df ci).length, hs ++ [(ci, df ci)]) else none
    | _ => none
  | _ => none
/-- the heap holds our heap's cells, from the base on -/
def mn_R (D : va_G) (cl : List vw_C) (aC : Nat → ClassId) (b : Nat × Nat) (hs : mn_H) (H : Heap) : Prop :=
  b.1 + hs.length ≤ H.size ∧ ∃ ws : va_W, va_P D cl ws H ∧ va_D (fun q => b.1 ≤ q) ws ∧ ∀ (a : Nat) (e : va_E), (a, e) ∈ ws ↔ ∃ (i : Nat) (c : mn_C), a = b.1 + i ∧ hs[i]? = some c ∧ c.1 ≠ 99 ∧ e = mn_E aC b c
theorem mn_set_mem {aC : Nat → ClassId} {b : Nat × Nat} {hs : mn_H} {A : Nat → Prop} {ws : va_W} (hD : va_D A ws) (hm : ∀ (a : Nat) (e : va_E), (a, e) ∈ ws ↔ ∃ (i : Nat) (c : mn_C), a = b.1 + i ∧ hs[i]? = some c ∧ c.1 ≠ 99 ∧ e = mn_E aC b c)
    {q0 i : Nat} {e0 : va_E} (h0 : ws[q0]? = some (b.1 + i, e0)) {c' : mn_C} (hc : c'.1 ≠ 99) : ∀ (a : Nat) (e : va_E), (a, e) ∈ ws.set q0 (b.1 + i, mn_E aC b c') ↔ ∃ (j : Nat) (c : mn_C), a = b.1 + j ∧ (hs.set i c')[j]? = some c ∧ c.1 ≠ 99 ∧ e = mn_E aC b c := by
  have hq : q0 < ws.length := (List.getElem?_eq_some_iff.mp h0).1
  obtain ⟨i0, c0, g1, g2, g3, g4⟩ := (hm _ _).mp (List.mem_of_getElem? h0)
  have hi0 : i0 = i := by omega
  subst hi0
  have hil : i0 < hs.length := (List.getElem?_eq_some_iff.mp g2).1
  intro a e
  constructor
  · intro h
    obtain ⟨j, hj⟩ := List.getElem?_of_mem h
    rw [List.getElem?_set] at hj
    by_cases hjq : q0 = j
    · rw [if_pos hjq, if_pos hq] at hj
      cases hj
      exact ⟨i0, c', rfl, by rw [List.getElem?_set, if_pos rfl, if_pos hil], hc, rfl⟩
    · rw [if_neg hjq] at hj
      obtain ⟨i2, c2, k1, k2, k3, k4⟩ := (hm a e).mp (List.mem_of_getElem? hj)
      have hne : i0 ≠ i2 := by
        intro h9
        subst h9
        exact hjq (hD.1 q0 j _ _ h0 hj (by rw [k1]))
      exact ⟨i2, c2, k1, by rw [List.getElem?_set, if_neg hne]; exact k2, k3, k4⟩
  · rintro ⟨j, c, k1, k2, k3, k4⟩
    rw [List.getElem?_set] at k2
    by_cases hij : i0 = j
    · rw [if_pos hij, if_pos hil] at k2
      cases k2
      subst hij
      subst k1
      subst k4
      exact List.mem_of_getElem? (i := q0) (by rw [List.getElem?_set, if_pos rfl, if_pos hq])
    · rw [if_neg hij] at k2
      obtain ⟨j2, hj2⟩ := List.getElem?_of_mem ((hm a e).mpr ⟨j, c, k1, k2, k3, k4⟩)
      have hne : q0 ≠ j2 := by
        intro h9
        subst h9
        rw [h0] at hj2
        cases hj2
        omega
      exact List.mem_of_getElem? (i := j2) (by rw [List.getElem?_set, if_neg hne]; exact hj2)
theorem mn_push_mem {aC : Nat → ClassId} {b : Nat × Nat} {hs : mn_H} {ws : va_W} (hm : ∀ (a : Nat) (e : va_E), (a, e) ∈ ws ↔ ∃ (i : Nat) (c : mn_C), a = b.1 + i ∧ hs[i]? = some c ∧ c.1 ≠ 99 ∧ e = mn_E aC b c)
    {c' : mn_C} (hc : c'.1 ≠ 99) : ∀ (a : Nat) (e : va_E), (a, e) ∈ ws ++ [(b.1 + hs.length, mn_E aC b c')] ↔ ∃ (j : Nat) (c : mn_C), a = b.1 + j ∧ (hs ++ [c'])[j]? = some c ∧ c.1 ≠ 99 ∧ e = mn_E aC b c := by
  intro a e
  rw [List.mem_append, List.mem_singleton]
  constructor
  · rintro (h | h)
    · obtain ⟨i, c, k1, k2, k3, k4⟩ := (hm a e).mp h
      exact ⟨i, c, k1, by rw [List.getElem?_append_left (List.getElem?_eq_some_iff.mp k2).1]; exact k2, k3, k4⟩
    · cases h
      exact ⟨hs.length, c', rfl, by simp, hc, rfl⟩
  · rintro ⟨j, c, k1, k2, k3, k4⟩
    by_cases hj : j < hs.length
    · rw [List.getElem?_append_left hj] at k2
      exact Or.inl ((hm a e).mpr ⟨j, c, k1, k2, k3, k4⟩)
    · have hj2 : j = hs.length := by
        have := (List.getElem?_eq_some_iff.mp k2).1
        simp at this
        omega
      subst hj2
      simp at k2
      subst k2
      subst k1
      subst k4
      exact Or.inr rfl
theorem mn_hole_mem {aC : Nat → ClassId} {b : Nat × Nat} {hs : mn_H} {ws : va_W} (hm : ∀ (a : Nat) (e : va_E), (a, e) ∈ ws ↔ ∃ (i : Nat) (c : mn_C), a = b.1 + i ∧ hs[i]? = some c ∧ c.1 ≠ 99 ∧ e = mn_E aC b c)
    {c' : mn_C} (hc : c'.1 = 99) : ∀ (a : Nat) (e : va_E), (a, e) ∈ ws ↔ ∃ (j : Nat) (c : mn_C), a = b.1 + j ∧ (hs ++ [c'])[j]? = some c ∧ c.1 ≠ 99 ∧ e = mn_E aC b c := by
  intro a e
  rw [hm]
  constructor
  · rintro ⟨i, c, k1, k2, k3, k4⟩
    exact ⟨i, c, k1, by rw [List.getElem?_append_left (List.getElem?_eq_some_iff.mp k2).1]; exact k2, k3, k4⟩
  · rintro ⟨j, c, k1, k2, k3, k4⟩
    by_cases hj : j < hs.length
    · rw [List.getElem?_append_left hj] at k2
      exact ⟨j, c, k1, k2, k3, k4⟩
    · have hj2 : j = hs.length := by
        have := (List.getElem?_eq_some_iff.mp k2).1
        simp at this
        omega
      subst hj2
      simp at k2
      subst k2
      exact absurd hc k3
theorem mn_S_tr {A : Nat → Prop} {H0 H H1 : Heap} {locs locs1 : List Loc} (h : va_S A H0 H locs) (h1 : va_S A H H1 locs1) : va_S A H0 H1 locs1 :=
  ⟨Nat.le_trans h.1 h1.1, fun q hq ha => (h1.2.1 q (Nat.lt_of_lt_of_le hq h.1) ha).trans (h.2.1 q hq ha), h1.2.2⟩
theorem mn_S_at {A : Nat → Prop} {H0 H : Heap} {locs : List Loc} (h : va_S A H0 H locs) : va_S A H H locs := ⟨Nat.le_refl _, fun _ _ _ => rfl, h.2.2⟩
