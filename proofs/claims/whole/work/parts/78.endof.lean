/-! endOf and sameSymbols of the class, on arrays of natural numbers -/
/-- an array whose places hold g -/
def aN (N : Nat) (g : Nat → Nat) : List Value := aF N fun i => nI (g i)
theorem nI_pm (a b : Nat) : nI (a + 1) + (nI b - 1) = nI (a + b) := by
  rw [← nI_add a b, nI_succ, Int32.sub_eq_add_neg, Int32.add_assoc, ← Int32.add_assoc 1 (nI b), Int32.add_comm 1 (nI b), Int32.add_assoc (nI b), show (1 : Int32) + -1 = 0 by decide, Int32.add_zero]
theorem nI_255 (a : Nat) : nI a &&& (Int16.ofInt 255).toInt32 = nI (a % 256) := by
  show nI a &&& nI 255 = _
  rw [ty_and]
  exact congrArg nI (Nat.and_two_pow_sub_one_eq_mod a 8)
theorem cmp_le0 {a : Nat} (ha : a < 2 ^ 31) : mn_cmp .le (nI a) 0 = decide (a = 0) := by
  have h := cmp_le ha (show 0 < 2 ^ 31 by decide)
  rw [nI_0] at h
  rw [h]
  exact decide_eq_decide.mpr (by omega)
/-- from p on, o terms being due, at most m symbols: where they end -/
def ce (g : Nat → Nat) : Nat → Nat → Nat → Nat
  | 0, _, p => p
  | m + 1, o, p => if o = 0 then p else ce g m (o - 1 + g p % 256) (p + 1)
set_option maxRecDepth 100000 in
theorem eo_loop {ns a f L N : Nat} {hs : mn_H} {g : Nat → Nat} (ha : hs[a]? = some (50, aN N g)) (hN : N < 2 ^ 20) (hL : L ≤ N) : ∀ (m o p : Nat), p + m = L → o + 256 * m < 2 ^ 31 → Ru none 10 1000 57 (5, [some (.ref a), some (.int (nI f)), some (.int (nI L)), some (.int (nI o)), some (.int (nI p))], [], ns, hs) ((0, some (.int (nI (ce g m o p)))), ns, hs) := by
  intro m
  induction m with
  | zero =>
    intro o p hp ho
    refine Ru.op (q := (.iload 4, 2)) (by decide +kernel) rfl ?_
    refine Ru.op (q := (.iload_n 2, 1)) (by decide +kernel) rfl ?_
    refine Ru.br2 (k := .ge) (off := 26) (bb := true) (tg := 34) (by decide +kernel) (by decide +kernel) (by rw [cmp_ge (by omega) (by omega)]; exact decide_eq_true (by omega)) rfl ?_
    refine Ru.op (q := (.iload 4, 2)) (by decide +kernel) rfl ?_
    exact Ru.iret (by decide +kernel) rfl rfl
  | succ m ih =>
    intro o p hp ho
    unfold ce
    by_cases h0 : o = 0
    · rw [if_pos h0]
      refine Ru.op (q := (.iload 4, 2)) (by decide +kernel) rfl ?_
      refine Ru.op (q := (.iload_n 2, 1)) (by decide +kernel) rfl ?_
      refine Ru.br2 (k := .ge) (off := 26) (bb := false) (tg := 11) (by decide +kernel) (by decide +kernel) (by rw [cmp_ge (by omega) (by omega)]; exact decide_eq_false (by omega)) rfl ?_
      refine Ru.op (q := (.iload_n 3, 1)) (by decide +kernel) rfl ?_
      refine Ru.br (k := .le) (off := 22) (bb := true) (tg := 34) (by decide +kernel) (by decide +kernel) (by rw [cmp_le0 (by omega)]; exact decide_eq_true h0) rfl ?_
      refine Ru.op (q := (.iload 4, 2)) (by decide +kernel) rfl ?_
      exact Ru.iret (by decide +kernel) rfl rfl
    · rw [if_neg h0]
      obtain ⟨o', rfl⟩ : ∃ o', o = o' + 1 := ⟨o - 1, by omega⟩
      refine Ru.op (q := (.iload 4, 2)) (by decide +kernel) rfl ?_
      refine Ru.op (q := (.iload_n 2, 1)) (by decide +kernel) rfl ?_
      refine Ru.br2 (k := .ge) (off := 26) (bb := false) (tg := 11) (by decide +kernel) (by decide +kernel) (by rw [cmp_ge (by omega) (by omega)]; exact decide_eq_false (by omega)) rfl ?_
      refine Ru.op (q := (.iload_n 3, 1)) (by decide +kernel) rfl ?_
      refine Ru.br (k := .le) (off := 22) (bb := false) (tg := 15) (by decide +kernel) (by decide +kernel) (by rw [cmp_le0 (by omega)]; exact decide_eq_false h0) rfl ?_
      refine Ru.op (q := (.iload_n 3, 1)) (by decide +kernel) rfl ?_
      refine Ru.op (q := (.aload_n 0, 1)) (by decide +kernel) rfl ?_
      refine Ru.op (q := (.iload 4, 2)) (by decide +kernel) rfl ?_
      refine Ru.ild (n := p) (by decide +kernel) ha rfl (by omega) (by omega) ?_
      refine Ru.op (q := (.sipush 255, 3)) (by decide +kernel) rfl ?_
      refine Ru.op (q := (.iand, 1)) (by decide +kernel) rfl ?_
      refine Ru.op (q := (.iconst 1, 1)) (by decide +kernel) rfl ?_
      refine Ru.op (q := (.isub, 1)) (by decide +kernel) rfl ?_
      refine Ru.op (q := (.iadd, 1)) (by decide +kernel) rfl ?_
      refine Ru.op (q := (.istore_n 3, 1)) (by decide +kernel) rfl ?_
      refine Ru.op (q := (.iinc 4 1, 3)) (by decide +kernel) rfl ?_
      refine Ru.op (q := (.goto (-26), 3)) (by decide +kernel) rfl ?_
      show Ru none 10 1000 57 (5, [some (.ref a), some (.int (nI f)), some (.int (nI L)), some (.int (nI (o' + 1) + ((nI (g p) &&& (Int16.ofInt 255).toInt32) - 1))), some (.int (nI p + 1))], [], ns, hs) _
      have hm := Nat.mod_lt (g p) (show 0 < 256 by decide)
      rw [nI_255, nI_pm, nI_1]
      exact ih (o' + g p % 256) (p + 1) (by omega) (by omega)
set_option maxRecDepth 100000 in
/-- RefutationDesk.endOf -/
theorem eo_C {ns a f L N : Nat} {hs : mn_H} {g : Nat → Nat} (ha : hs[a]? = some (50, aN N g)) (hN : N < 2 ^ 20) (hL : L ≤ N) (hf : f ≤ L) : Ru none 10 1000 57 (0, mn_pad (mn_ent [.ref a, .int (nI f), .int (nI L)]) 5, [], ns, hs) ((0, some (.int (nI (ce g (L - f) 1 f)))), ns, hs) := by
  refine Ru.op (q := (.iconst 1, 1)) (by decide +kernel) rfl ?_
  refine Ru.op (q := (.istore_n 3, 1)) (by decide +kernel) rfl ?_
  refine Ru.op (q := (.iload_n 1, 1)) (by decide +kernel) rfl ?_
  refine Ru.op (q := (.istore 4, 2)) (by decide +kernel) rfl ?_
  exact eo_loop ha hN hL (L - f) 1 f (by omega) (by omega)
