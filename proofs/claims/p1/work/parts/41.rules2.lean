section RV
variable {sc : Option (List Int32)} {fr lo j pc : Nat} {xs : List (Option Value)} {st : List Value} {ns : Nat} {hs : mn_H} {r : mn_A}
theorem mn_op_C {q : Instr × Nat} {S : mn_S} (hA : mn_opA q pc xs st ns hs = none) (hB : mn_opB q pc xs st ns hs = none) (hB1 : mn_opB1 q pc xs st ns hs = none) (hC : mn_opC q pc xs st ns hs = some S) : mn_op j fr lo sc q pc xs st ns hs = some S := by
  unfold mn_op
  simp only [hA, hB, hB1, hC]
/-- a branch by a number's sign, the answer known -/
theorem Ru.br {k : ClassFile.Cond} {off : Int} {x : Int32} {bb : Bool} {tg : Nat} (hd : decode (mt_code j) pc = .ok (.ifCond k off, 3)) (hg : mn_gook pc off = true) (hc : mn_cmp k x 0 = bb) (ht : (if bb then mn_go pc off else pc + 3) = tg) (h : Ru sc fr lo j (tg, xs, st, ns, hs) r) : Ru sc fr lo j (pc, xs, .int x :: st, ns, hs) r := by
  refine Ru.op hd (mn_op_C rfl rfl rfl ?_) h
  show (if mn_gook pc off = true then some (if mn_cmp k x 0 then mn_go pc off else pc + 3, xs, st, ns, hs) else none) = _
  rw [if_pos hg, hc, ← ht]
theorem Ru.br2 {k : ClassFile.Cond} {off : Int} {x y : Int32} {bb : Bool} {tg : Nat} (hd : decode (mt_code j) pc = .ok (.if_icmp k off, 3)) (hg : mn_gook pc off = true) (hc : mn_cmp k x y = bb) (ht : (if bb then mn_go pc off else pc + 3) = tg) (h : Ru sc fr lo j (tg, xs, st, ns, hs) r) : Ru sc fr lo j (pc, xs, .int y :: .int x :: st, ns, hs) r := by
  refine Ru.op hd (mn_op_C rfl rfl rfl ?_) h
  show (if mn_gook pc off = true then some (if mn_cmp k x y then mn_go pc off else pc + 3, xs, st, ns, hs) else none) = _
  rw [if_pos hg, hc, ← ht]
/-- a switch, its number known -/
theorem Ru.sw {d lo2 hi : Int} {offs : Array Int} {len : Nat} {x : Int32} {tg : Nat} (hd : decode (mt_code j) pc = .ok (.tableswitch d lo2 hi offs, len)) (hx : mn_opC (.tableswitch d lo2 hi offs, len) pc [] [.int x] 0 [] = some (tg, [], [], 0, [])) (h : Ru sc fr lo j (tg, xs, st, ns, hs) r) : Ru sc fr lo j (pc, xs, .int x :: st, ns, hs) r := by
  refine Ru.op hd (mn_op_C (by cases len <;> rfl) ?_ ?_ ?_) h
  · unfold mn_opB
    split
    · next h9 => cases h9; split <;> rfl
    · rfl
  · unfold mn_opB1
    split
    · next h9 => cases h9; rfl
    · rfl
  · simp only [mn_opC] at hx ⊢
    split at hx
    · split at hx
      · simp only [Option.some.injEq, Prod.mk.injEq, and_true] at hx
        next h1 h2 => rw [if_pos h1, if_pos h2, hx]
      · cases hx
    · next h1 =>
      rw [if_neg h1]
      split at hx
      · next o h2 =>
        split at hx
        · next h3 =>
          simp only [Option.some.injEq, Prod.mk.injEq, and_true] at hx
          simp only [h2, h3, if_true, hx]
        · cases hx
      · cases hx
/-- a read of the script -/
theorem Ru.sld {l : List Int32} {i : Int32} {z k L : Nat} {v : Int32} (hsc : sc = some l) (hL : l.length = L) (hd : decode (mt_code j) pc = .ok (.iaload, 1)) (hi : ¬ (i < 0 ∨ L ≤ i.toNatClampNeg)) (hk : i.toNatClampNeg = k) (hv : l.getD k 0 = v) (h : Ru sc fr lo j (pc + 1, xs, .int v :: st, ns, hs) r) : Ru sc fr lo j (pc, xs, .int i :: .retAddr z :: st, ns, hs) r := by
  subst hsc
  refine Ru.op hd ?_ h
  have hi' : ¬ (i < 0 ∨ l.length ≤ i.toNatClampNeg) := by rw [hL]; exact hi
  show (if i < 0 ∨ l.length ≤ i.toNatClampNeg then none else some (pc + 1, xs, Value.int (l.getD i.toNatClampNeg 0) :: st, ns, hs)) = _
  rw [if_neg hi', hk, hv]
theorem Ru.slen {l : List Int32} {z L : Nat} (hsc : sc = some l) (hL : l.length = L) (hd : decode (mt_code j) pc = .ok (.arraylength, 1)) (h : Ru sc fr lo j (pc + 1, xs, .int (Int32.ofNat L) :: st, ns, hs) r) : Ru sc fr lo j (pc, xs, .retAddr z :: st, ns, hs) r := by
  subst hsc
  refine Ru.op hd ?_ h
  show some (pc + 1, xs, Value.int (Int32.ofNat l.length) :: st, ns, hs) = _
  rw [hL]
end RV
