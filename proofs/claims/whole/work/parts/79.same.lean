def bI (b : Bool) : Int32 := if b then 1 else 0
theorem cmp_eq {a b : Nat} (ha : a < 2 ^ 31) (hb : b < 2 ^ 31) : mn_cmp .eq (nI a) (nI b) = decide (a = b) := by
  unfold mn_cmp
  exact decide_eq_decide.mpr (nI_eq ha hb)
theorem cmp_ne {a b : Nat} (ha : a < 2 ^ 31) (hb : b < 2 ^ 31) : mn_cmp .ne (nI a) (nI b) = !decide (a = b) := by
  unfold mn_cmp
  rw [← decide_not]
  exact decide_eq_decide.mpr (not_congr (nI_eq ha hb))
theorem cmp_gt {a b : Nat} (ha : a < 2 ^ 31) (hb : b < 2 ^ 31) : mn_cmp .gt (nI a) (nI b) = decide (b < a) := by
  unfold mn_cmp
  exact decide_eq_decide.mpr (nI_ltI hb ha)
theorem cmp_lt {a b : Nat} (ha : a < 2 ^ 31) (hb : b < 2 ^ 31) : mn_cmp .lt (nI a) (nI b) = decide (a < b) := by
  unfold mn_cmp
  exact decide_eq_decide.mpr (nI_ltI ha hb)
theorem nar_b (b : Bool) : narrow .boolean (.int (bI b)) = .int (bI b) := by cases b <;> rfl
/-- n symbols from x on are those from y on -/
def sy (g : Nat → Nat) (x y n : Nat) : Bool := decide (∀ k, k < n → g (x + k) = g (y + k))
set_option maxRecDepth 100000 in
theorem sy_loop {ns a x y n N : Nat} {hs : mn_H} {g : Nat → Nat} (ha : hs[a]? = some (50, aN N g)) (hN : N < 2 ^ 20) (hg : ∀ k, g k < 2 ^ 31) (hx : x + n ≤ N) (hy : y + n ≤ N) : ∀ (m i : Nat), i + m = n → (∀ k, k < i → g (x + k) = g (y + k)) → Ru none 10 1000 47 (21, [some (.ref a), some (.int (nI x)), some (.int (nI y)), some (.int (nI n)), some (.int (nI i))], [], ns, hs) ((0, some (.int (bI (sy g x y n)))), ns, hs) := by
  intro m
  induction m with
  | zero =>
    intro i hi he
    have e : sy g x y n = true := decide_eq_true (fun k hk => he k (by omega))
    rw [e]
    refine Ru.op (q := (.iload 4, 2)) (by decide +kernel) rfl ?_
    refine Ru.op (q := (.iload_n 3, 1)) (by decide +kernel) rfl ?_
    refine Ru.br2 (k := .ge) (off := 26) (bb := true) (tg := 50) (by decide +kernel) (by decide +kernel) (by rw [cmp_ge (by omega) (by omega)]; exact decide_eq_true (by omega)) rfl ?_
    refine Ru.op (q := (.iconst 1, 1)) (by decide +kernel) rfl ?_
    exact Ru.iret (by decide +kernel) rfl rfl
  | succ m ih =>
    intro i hi he
    by_cases h0 : g (x + i) = g (y + i)
    · refine Ru.op (q := (.iload 4, 2)) (by decide +kernel) rfl ?_
      refine Ru.op (q := (.iload_n 3, 1)) (by decide +kernel) rfl ?_
      refine Ru.br2 (k := .ge) (off := 26) (bb := false) (tg := 27) (by decide +kernel) (by decide +kernel) (by rw [cmp_ge (by omega) (by omega)]; exact decide_eq_false (by omega)) rfl ?_
      refine Ru.op (q := (.aload_n 0, 1)) (by decide +kernel) rfl ?_
      refine Ru.op (q := (.iload_n 1, 1)) (by decide +kernel) rfl ?_
      refine Ru.op (q := (.iload 4, 2)) (by decide +kernel) rfl ?_
      refine Ru.op (q := (.iadd, 1)) (by decide +kernel) rfl ?_
      refine Ru.ild (n := (x + i)) (by decide +kernel) (ha) (nI_add x i) (by omega) (by omega) ?_
      refine Ru.op (q := (.aload_n 0, 1)) (by decide +kernel) rfl ?_
      refine Ru.op (q := (.iload_n 2, 1)) (by decide +kernel) rfl ?_
      refine Ru.op (q := (.iload 4, 2)) (by decide +kernel) rfl ?_
      refine Ru.op (q := (.iadd, 1)) (by decide +kernel) rfl ?_
      refine Ru.ild (n := (y + i)) (by decide +kernel) (ha) (nI_add y i) (by omega) (by omega) ?_
      refine Ru.br2 (k := .eq) (off := 5) (bb := true) (tg := 44) (by decide +kernel) (by decide +kernel) (by rw [cmp_eq (hg _) (hg _)]; exact decide_eq_true h0) rfl ?_
      refine Ru.op (q := (.iinc 4 1, 3)) (by decide +kernel) rfl ?_
      refine Ru.op (q := (.goto (-26), 3)) (by decide +kernel) rfl ?_
      show Ru none 10 1000 47 (21, [some (.ref a), some (.int (nI x)), some (.int (nI y)), some (.int (nI n)), some (.int (nI i + 1))], [], ns, hs) _
      rw [nI_1]
      refine ih (i + 1) (by omega) (fun k hk => ?_)
      by_cases hki : k = i
      · rw [hki]; exact h0
      · exact he k (by omega)
    · have e : sy g x y n = false := decide_eq_false (fun h => h0 (h i (by omega)))
      rw [e]
      refine Ru.op (q := (.iload 4, 2)) (by decide +kernel) rfl ?_
      refine Ru.op (q := (.iload_n 3, 1)) (by decide +kernel) rfl ?_
      refine Ru.br2 (k := .ge) (off := 26) (bb := false) (tg := 27) (by decide +kernel) (by decide +kernel) (by rw [cmp_ge (by omega) (by omega)]; exact decide_eq_false (by omega)) rfl ?_
      refine Ru.op (q := (.aload_n 0, 1)) (by decide +kernel) rfl ?_
      refine Ru.op (q := (.iload_n 1, 1)) (by decide +kernel) rfl ?_
      refine Ru.op (q := (.iload 4, 2)) (by decide +kernel) rfl ?_
      refine Ru.op (q := (.iadd, 1)) (by decide +kernel) rfl ?_
      refine Ru.ild (n := (x + i)) (by decide +kernel) (ha) (nI_add x i) (by omega) (by omega) ?_
      refine Ru.op (q := (.aload_n 0, 1)) (by decide +kernel) rfl ?_
      refine Ru.op (q := (.iload_n 2, 1)) (by decide +kernel) rfl ?_
      refine Ru.op (q := (.iload 4, 2)) (by decide +kernel) rfl ?_
      refine Ru.op (q := (.iadd, 1)) (by decide +kernel) rfl ?_
      refine Ru.ild (n := (y + i)) (by decide +kernel) (ha) (nI_add y i) (by omega) (by omega) ?_
      refine Ru.br2 (k := .eq) (off := 5) (bb := false) (tg := 42) (by decide +kernel) (by decide +kernel) (by rw [cmp_eq (hg _) (hg _)]; exact decide_eq_false h0) rfl ?_
      refine Ru.op (q := (.iconst 0, 1)) (by decide +kernel) rfl ?_
      exact Ru.iret (by decide +kernel) rfl rfl
set_option maxRecDepth 100000 in
/-- RefutationDesk.sameSymbols -/
theorem sy_C {ns a x y n N : Nat} {hs : mn_H} {g : Nat → Nat} (ha : hs[a]? = some (50, aN N g)) (hN : N < 2 ^ 20) (hg : ∀ k, g k < 2 ^ 31) (hx : x < 2 ^ 20) (hy : y < 2 ^ 20) (hn : n < 2 ^ 20) : Ru none 10 1000 47 (0, mn_pad (mn_ent [.ref a, .int (nI x), .int (nI y), .int (nI n)]) 5, [], ns, hs) ((0, some (.int (bI (decide (x + n ≤ N) && decide (y + n ≤ N) && sy g x y n)))), ns, hs) := by
  by_cases h1 : x + n ≤ N
  · by_cases h2 : y + n ≤ N
    · rw [decide_eq_true h1, decide_eq_true h2, Bool.true_and, Bool.true_and]
      refine Ru.op (q := (.iload_n 1, 1)) (by decide +kernel) rfl ?_
      refine Ru.op (q := (.iload_n 3, 1)) (by decide +kernel) rfl ?_
      refine Ru.op (q := (.iadd, 1)) (by decide +kernel) rfl ?_
      refine Ru.op (q := (.aload_n 0, 1)) (by decide +kernel) rfl ?_
      refine Ru.len (by decide +kernel) ha (by decide) ?_
      refine Ru.br2 (k := .gt) (off := 11) (bb := false) (tg := 8) (by decide +kernel) (by decide +kernel) (by rw [nI_add, show (aN N g).length = N from aF_len _ _, cmp_gt (by omega) (by omega)]; exact decide_eq_false (by omega)) rfl ?_
      refine Ru.op (q := (.iload_n 2, 1)) (by decide +kernel) rfl ?_
      refine Ru.op (q := (.iload_n 3, 1)) (by decide +kernel) rfl ?_
      refine Ru.op (q := (.iadd, 1)) (by decide +kernel) rfl ?_
      refine Ru.op (q := (.aload_n 0, 1)) (by decide +kernel) rfl ?_
      refine Ru.len (by decide +kernel) ha (by decide) ?_
      refine Ru.br2 (k := .le) (off := 5) (bb := true) (tg := 18) (by decide +kernel) (by decide +kernel) (by rw [nI_add, show (aN N g).length = N from aF_len _ _, cmp_le (by omega) (by omega)]; exact decide_eq_true (by omega)) rfl ?_
      refine Ru.op (q := (.iconst 0, 1)) (by decide +kernel) rfl ?_
      refine Ru.op (q := (.istore 4, 2)) (by decide +kernel) rfl ?_
      exact sy_loop ha hN hg h1 h2 n 0 (by omega) (fun k hk => absurd hk (by omega))
    · rw [decide_eq_false h2, Bool.and_false, Bool.false_and]
      refine Ru.op (q := (.iload_n 1, 1)) (by decide +kernel) rfl ?_
      refine Ru.op (q := (.iload_n 3, 1)) (by decide +kernel) rfl ?_
      refine Ru.op (q := (.iadd, 1)) (by decide +kernel) rfl ?_
      refine Ru.op (q := (.aload_n 0, 1)) (by decide +kernel) rfl ?_
      refine Ru.len (by decide +kernel) ha (by decide) ?_
      refine Ru.br2 (k := .gt) (off := 11) (bb := false) (tg := 8) (by decide +kernel) (by decide +kernel) (by rw [nI_add, show (aN N g).length = N from aF_len _ _, cmp_gt (by omega) (by omega)]; exact decide_eq_false (by omega)) rfl ?_
      refine Ru.op (q := (.iload_n 2, 1)) (by decide +kernel) rfl ?_
      refine Ru.op (q := (.iload_n 3, 1)) (by decide +kernel) rfl ?_
      refine Ru.op (q := (.iadd, 1)) (by decide +kernel) rfl ?_
      refine Ru.op (q := (.aload_n 0, 1)) (by decide +kernel) rfl ?_
      refine Ru.len (by decide +kernel) ha (by decide) ?_
      refine Ru.br2 (k := .le) (off := 5) (bb := false) (tg := 16) (by decide +kernel) (by decide +kernel) (by rw [nI_add, show (aN N g).length = N from aF_len _ _, cmp_le (by omega) (by omega)]; exact decide_eq_false (by omega)) rfl ?_
      refine Ru.op (q := (.iconst 0, 1)) (by decide +kernel) rfl ?_
      exact Ru.iret (by decide +kernel) rfl rfl
  · rw [decide_eq_false h1, Bool.false_and, Bool.false_and]
    refine Ru.op (q := (.iload_n 1, 1)) (by decide +kernel) rfl ?_
    refine Ru.op (q := (.iload_n 3, 1)) (by decide +kernel) rfl ?_
    refine Ru.op (q := (.iadd, 1)) (by decide +kernel) rfl ?_
    refine Ru.op (q := (.aload_n 0, 1)) (by decide +kernel) rfl ?_
    refine Ru.len (by decide +kernel) ha (by decide) ?_
    refine Ru.br2 (k := .gt) (off := 11) (bb := true) (tg := 16) (by decide +kernel) (by decide +kernel) (by rw [nI_add, show (aN N g).length = N from aF_len _ _, cmp_gt (by omega) (by omega)]; exact decide_eq_true (by omega)) rfl ?_
    refine Ru.op (q := (.iconst 0, 1)) (by decide +kernel) rfl ?_
    exact Ru.iret (by decide +kernel) rfl rfl
