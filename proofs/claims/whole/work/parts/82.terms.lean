/-! isVariable, terms, endOf of the model -/
theorem iv_M {ns c : Nat} {hs : mn_H} (hc : c < 2 ^ 31) : Ru none 10 1000 122 (0, mn_pad (mn_ent [.int (nI c)]) 1, [], ns, hs) ((0, some (.int (bI (decide (c < 4096))))), ns, hs) := by
  by_cases h : c < 4096
  · rw [decide_eq_true h]
    refine Ru.op (q := (.iload_n 0, 1)) (by decide +kernel) rfl ?_
    refine Ru.op (q := (.sipush 4096, 3)) (by decide +kernel) rfl ?_
    refine Ru.br2 (k := .ge) (off := 7) (bb := false) (tg := 7) (by decide +kernel) (by decide +kernel) (by show mn_cmp .ge (nI c) (nI 4096) = false; rw [cmp_ge hc (by decide)]; exact decide_eq_false (by omega)) rfl ?_
    refine Ru.op (q := (.iconst 1, 1)) (by decide +kernel) rfl ?_
    refine Ru.op (q := (.goto 4, 3)) (by decide +kernel) rfl ?_
    exact Ru.iret (by decide +kernel) rfl rfl
  · rw [decide_eq_false h]
    refine Ru.op (q := (.iload_n 0, 1)) (by decide +kernel) rfl ?_
    refine Ru.op (q := (.sipush 4096, 3)) (by decide +kernel) rfl ?_
    refine Ru.br2 (k := .ge) (off := 7) (bb := true) (tg := 11) (by decide +kernel) (by decide +kernel) (by show mn_cmp .ge (nI c) (nI 4096) = true; rw [cmp_ge hc (by decide)]; exact decide_eq_true (by omega)) rfl ?_
    refine Ru.op (q := (.iconst 0, 1)) (by decide +kernel) rfl ?_
    exact Ru.iret (by decide +kernel) rfl rfl
/-- how many terms a cell of the model has -/
def ar (c : Nat) : Nat := if c < 4096 then 0 else c % 128
theorem te_M {ns c : Nat} {hs : mn_H} (hc : c < 2 ^ 31) : Ru none 20 2000 123 (0, mn_pad (mn_ent [.int (nI c)]) 1, [], ns, hs) ((0, some (.int (nI (ar c)))), ns, hs) := by
  unfold ar
  by_cases h : c < 4096
  · rw [if_pos h]
    refine Ru.op (q := (.iload_n 0, 1)) (by decide +kernel) rfl ?_
    refine Ru.call (q := (.invokestatic 132, 3)) (j2 := 122) (by decide +kernel) rfl rfl rfl rfl ⟨Nat.le_of_ble_eq_true rfl, Nat.le_of_ble_eq_true rfl, Nat.le_of_ble_eq_true rfl, Nat.le_of_ble_eq_true rfl⟩ ((iv_M hc).up (by decide) (by decide)) ?_
    refine Ru.br (k := .eq) (off := 7) (bb := false) (tg := 7) (by decide +kernel) (by decide +kernel) (by rw [decide_eq_true h]; decide) rfl ?_
    refine Ru.op (q := (.iconst 0, 1)) (by decide +kernel) rfl ?_
    refine Ru.op (q := (.goto 8, 3)) (by decide +kernel) rfl ?_
    exact Ru.iret (by decide +kernel) rfl rfl
  · rw [if_neg h]
    refine Ru.op (q := (.iload_n 0, 1)) (by decide +kernel) rfl ?_
    refine Ru.call (q := (.invokestatic 132, 3)) (j2 := 122) (by decide +kernel) rfl rfl rfl rfl ⟨Nat.le_of_ble_eq_true rfl, Nat.le_of_ble_eq_true rfl, Nat.le_of_ble_eq_true rfl, Nat.le_of_ble_eq_true rfl⟩ ((iv_M hc).up (by decide) (by decide)) ?_
    refine Ru.br (k := .eq) (off := 7) (bb := true) (tg := 11) (by decide +kernel) (by decide +kernel) (by rw [decide_eq_false h]; decide) rfl ?_
    refine Ru.op (q := (.iload_n 0, 1)) (by decide +kernel) rfl ?_
    refine Ru.op (q := (.sipush 128, 3)) (by decide +kernel) rfl ?_
    refine Ru.op (q := (.irem, 1)) (by decide +kernel) rfl ?_
    show Ru none 20 2000 123 (16, [some (.int (nI c))], [.int (nI c - nI c / nI 128 * nI 128)], ns, hs) _
    rw [pk_rem hc (by decide) (by decide)]
    exact Ru.iret (by decide +kernel) rfl rfl
/-- from p on, o terms being due: where they end; m symbols suffice -/
def me (g : Nat → Nat) : Nat → Nat → Nat → Option Nat
  | _, 0, p => some p
  | 0, _ + 1, _ => none
  | m + 1, o + 1, p => me g m (o + ar (g p)) (p + 1)
set_option maxRecDepth 100000 in
theorem me_loop {ns a f N : Nat} {hs : mn_H} {g : Nat → Nat} (ha : hs[a]? = some (50, aN N g)) (hN : N < 2 ^ 20) (hg : ∀ k, g k < 2 ^ 31) : ∀ (m o p e : Nat), p + m ≤ N → o + 128 * m < 2 ^ 31 → me g m o p = some e → Ru none 30 3000 125 (4, [some (.ref a), some (.int (nI f)), some (.int (nI o)), some (.int (nI p))], [], ns, hs) ((0, some (.int (nI e))), ns, hs) := by
  intro m
  induction m with
  | zero =>
    intro o p e hp ho he
    cases o with
    | succ o => cases he
    | zero =>
      cases he
      refine Ru.op (q := (.iload_n 2, 1)) (by decide +kernel) rfl ?_
      refine Ru.br (k := .le) (off := 20) (bb := true) (tg := 25) (by decide +kernel) (by decide +kernel) (by decide +kernel) rfl ?_
      refine Ru.op (q := (.iload_n 3, 1)) (by decide +kernel) rfl ?_
      exact Ru.iret (by decide +kernel) rfl rfl
  | succ m ih =>
    intro o p e hp ho he
    cases o with
    | zero =>
      cases he
      refine Ru.op (q := (.iload_n 2, 1)) (by decide +kernel) rfl ?_
      refine Ru.br (k := .le) (off := 20) (bb := true) (tg := 25) (by decide +kernel) (by decide +kernel) (by decide +kernel) rfl ?_
      refine Ru.op (q := (.iload_n 3, 1)) (by decide +kernel) rfl ?_
      exact Ru.iret (by decide +kernel) rfl rfl
    | succ o =>
      refine Ru.op (q := (.iload_n 2, 1)) (by decide +kernel) rfl ?_
      refine Ru.br (k := .le) (off := 20) (bb := false) (tg := 8) (by decide +kernel) (by decide +kernel) (by rw [cmp_le0 (by omega)]; exact decide_eq_false (by omega)) rfl ?_
      refine Ru.op (q := (.iload_n 2, 1)) (by decide +kernel) rfl ?_
      refine Ru.op (q := (.iconst 1, 1)) (by decide +kernel) rfl ?_
      refine Ru.op (q := (.isub, 1)) (by decide +kernel) rfl ?_
      refine Ru.op (q := (.aload_n 0, 1)) (by decide +kernel) rfl ?_
      refine Ru.op (q := (.iload_n 3, 1)) (by decide +kernel) rfl ?_
      refine Ru.ild (n := p) (by decide +kernel) (ha) (rfl) (by omega) (by omega) ?_
      refine Ru.call (q := (.invokestatic 136, 3)) (j2 := 123) (by decide +kernel) rfl rfl rfl rfl ⟨Nat.le_of_ble_eq_true rfl, Nat.le_of_ble_eq_true rfl, Nat.le_of_ble_eq_true rfl, Nat.le_of_ble_eq_true rfl⟩ ((te_M (hg p)).up (by decide) (by decide)) ?_
      refine Ru.op (q := (.iadd, 1)) (by decide +kernel) rfl ?_
      refine Ru.op (q := (.istore_n 2, 1)) (by decide +kernel) rfl ?_
      refine Ru.op (q := (.iinc 3 1, 3)) (by decide +kernel) rfl ?_
      refine Ru.op (q := (.goto (-18), 3)) (by decide +kernel) rfl ?_
      show Ru none 30 3000 125 (4, [some (.ref a), some (.int (nI f)), some (.int (nI (o + 1) - 1 + nI (ar (g p)))), some (.int (nI p + 1))], [], ns, hs) _
      have hm : ar (g p) < 128 := by
        unfold ar
        split
        · decide
        · exact Nat.mod_lt _ (by decide)
      rw [nI_pred, nI_add, nI_1]
      exact ih (o + ar (g p)) (p + 1) e (by omega) (by omega) he
set_option maxRecDepth 100000 in
/-- the model's endOf -/
theorem me_M {ns a f N m e : Nat} {hs : mn_H} {g : Nat → Nat} (ha : hs[a]? = some (50, aN N g)) (hN : N < 2 ^ 20) (hg : ∀ k, g k < 2 ^ 31) (hm : f + m ≤ N) (he : me g m 1 f = some e) : Ru none 30 3000 125 (0, mn_pad (mn_ent [.ref a, .int (nI f)]) 4, [], ns, hs) ((0, some (.int (nI e))), ns, hs) := by
  refine Ru.op (q := (.iconst 1, 1)) (by decide +kernel) rfl ?_
  refine Ru.op (q := (.istore_n 2, 1)) (by decide +kernel) rfl ?_
  refine Ru.op (q := (.iload_n 1, 1)) (by decide +kernel) rfl ?_
  refine Ru.op (q := (.istore_n 3, 1)) (by decide +kernel) rfl ?_
  exact me_loop ha hN hg m 1 f e hm (by omega) he
