/-! the model's meant: the model at 36, pool at 46, bound at 47 -/
theorem pI_lt {k : Nat} (h : k < 2 ^ 31) : mn_cmp .lt (pI k) 0 = decide (k = 0) := by
  cases k with
  | zero => decide
  | succ k =>
    rw [pI_s]
    show decide (nI k < 0) = _
    rw [decide_eq_false (nI_pos (by omega)), decide_eq_false (by omega)]
/-- where a place leads in the model, m bindings on at most -/
def ms (g t : Nat → Nat) : Nat → Nat → Option Nat
  | 0, _ => none
  | m + 1, p => if 4096 ≤ g p ∨ t (g p) = 0 then some p else ms g t m (t (g p) - 1)
set_option maxRecDepth 100000 in
theorem ms_loop {ns q : Nat} {hs : mn_H} {mv : List Value} {g t : Nat → Nat} (hu : hs[36]? = some (10, mv)) (hm1 : mv[21]? = some (.ref 46)) (hm2 : mv[23]? = some (.ref 47)) (hw : hs[46]? = some (50, aN 1024 g)) (ht : hs[47]? = some (50, aF 128 (fun i => pI (t i)))) (hg : ∀ k, g k < 2 ^ 31) (hv : ∀ k, k < 1024 → g k < 4096 → g k < 128) (hb : ∀ k, k < 128 → t k ≤ 1024) : ∀ (m p e : Nat), p < 1024 → ms g t m p = some e → Ru none 20 2000 121 (2, [some (.ref 36), some (.int (nI q)), some (.int (nI p))], [], ns, hs) ((0, some (.int (nI e))), ns, hs) := by
  intro m
  induction m with
  | zero => intro p e hp he; cases he
  | succ m ih =>
    intro p e hp he
    unfold ms at he
    by_cases h1 : 4096 ≤ g p
    · rw [if_pos (Or.inl h1)] at he
      cases he
      refine Ru.op (q := (.aload_n 0, 1)) (by decide +kernel) rfl ?_
      refine Ru.get (i := 45) (by decide +kernel) (by rfl) (hu) (by decide) (hm1) ?_
      refine Ru.op (q := (.iload_n 2, 1)) (by decide +kernel) rfl ?_
      refine Ru.ild (n := p) (by decide +kernel) (hw) (rfl) (hp) (by decide) ?_
      refine Ru.call (q := (.invokestatic 132, 3)) (j2 := 122) (by decide +kernel) rfl rfl rfl rfl ⟨Nat.le_of_ble_eq_true rfl, Nat.le_of_ble_eq_true rfl, Nat.le_of_ble_eq_true rfl, Nat.le_of_ble_eq_true rfl⟩ ((iv_M (hg p)).up (by decide) (by decide)) ?_
      refine Ru.br (k := .eq) (off := 32) (bb := true) (tg := 43) (by decide +kernel) (by decide +kernel) (by rw [decide_eq_false (by omega)]; decide) rfl ?_
      refine Ru.op (q := (.iload_n 2, 1)) (by decide +kernel) rfl ?_
      exact Ru.iret (by decide +kernel) rfl rfl
    · have hv1 := hv p hp (by omega)
      have hb1 := hb _ hv1
      by_cases h2 : t (g p) = 0
      · rw [if_pos (Or.inr h2)] at he
        cases he
        refine Ru.op (q := (.aload_n 0, 1)) (by decide +kernel) rfl ?_
        refine Ru.get (i := 45) (by decide +kernel) (by rfl) (hu) (by decide) (hm1) ?_
        refine Ru.op (q := (.iload_n 2, 1)) (by decide +kernel) rfl ?_
        refine Ru.ild (n := p) (by decide +kernel) (hw) (rfl) (hp) (by decide) ?_
        refine Ru.call (q := (.invokestatic 132, 3)) (j2 := 122) (by decide +kernel) rfl rfl rfl rfl ⟨Nat.le_of_ble_eq_true rfl, Nat.le_of_ble_eq_true rfl, Nat.le_of_ble_eq_true rfl, Nat.le_of_ble_eq_true rfl⟩ ((iv_M (hg p)).up (by decide) (by decide)) ?_
        refine Ru.br (k := .eq) (off := 32) (bb := false) (tg := 14) (by decide +kernel) (by decide +kernel) (by rw [decide_eq_true (by omega)]; decide) rfl ?_
        refine Ru.op (q := (.aload_n 0, 1)) (by decide +kernel) rfl ?_
        refine Ru.get (i := 48) (by decide +kernel) (by rfl) (hu) (by decide) (hm2) ?_
        refine Ru.op (q := (.aload_n 0, 1)) (by decide +kernel) rfl ?_
        refine Ru.get (i := 45) (by decide +kernel) (by rfl) (hu) (by decide) (hm1) ?_
        refine Ru.op (q := (.iload_n 2, 1)) (by decide +kernel) rfl ?_
        refine Ru.ild (n := p) (by decide +kernel) (hw) (rfl) (hp) (by decide) ?_
        refine Ru.ild (n := (g p)) (by decide +kernel) (ht) (rfl) (hv1) (by decide) ?_
        refine Ru.br (k := .lt) (off := 18) (bb := true) (tg := 43) (by decide +kernel) (by decide +kernel) (by rw [pI_lt (by omega)]; exact decide_eq_true h2) rfl ?_
        refine Ru.op (q := (.iload_n 2, 1)) (by decide +kernel) rfl ?_
        exact Ru.iret (by decide +kernel) rfl rfl
      · rw [if_neg (fun h => h.elim h1 h2)] at he
        refine Ru.op (q := (.aload_n 0, 1)) (by decide +kernel) rfl ?_
        refine Ru.get (i := 45) (by decide +kernel) (by rfl) (hu) (by decide) (hm1) ?_
        refine Ru.op (q := (.iload_n 2, 1)) (by decide +kernel) rfl ?_
        refine Ru.ild (n := p) (by decide +kernel) (hw) (rfl) (hp) (by decide) ?_
        refine Ru.call (q := (.invokestatic 132, 3)) (j2 := 122) (by decide +kernel) rfl rfl rfl rfl ⟨Nat.le_of_ble_eq_true rfl, Nat.le_of_ble_eq_true rfl, Nat.le_of_ble_eq_true rfl, Nat.le_of_ble_eq_true rfl⟩ ((iv_M (hg p)).up (by decide) (by decide)) ?_
        refine Ru.br (k := .eq) (off := 32) (bb := false) (tg := 14) (by decide +kernel) (by decide +kernel) (by rw [decide_eq_true (by omega)]; decide) rfl ?_
        refine Ru.op (q := (.aload_n 0, 1)) (by decide +kernel) rfl ?_
        refine Ru.get (i := 48) (by decide +kernel) (by rfl) (hu) (by decide) (hm2) ?_
        refine Ru.op (q := (.aload_n 0, 1)) (by decide +kernel) rfl ?_
        refine Ru.get (i := 45) (by decide +kernel) (by rfl) (hu) (by decide) (hm1) ?_
        refine Ru.op (q := (.iload_n 2, 1)) (by decide +kernel) rfl ?_
        refine Ru.ild (n := p) (by decide +kernel) (hw) (rfl) (hp) (by decide) ?_
        refine Ru.ild (n := (g p)) (by decide +kernel) (ht) (rfl) (hv1) (by decide) ?_
        refine Ru.br (k := .lt) (off := 18) (bb := false) (tg := 28) (by decide +kernel) (by decide +kernel) (by rw [pI_lt (by omega)]; exact decide_eq_false h2) rfl ?_
        refine Ru.op (q := (.aload_n 0, 1)) (by decide +kernel) rfl ?_
        refine Ru.get (i := 48) (by decide +kernel) (by rfl) (hu) (by decide) (hm2) ?_
        refine Ru.op (q := (.aload_n 0, 1)) (by decide +kernel) rfl ?_
        refine Ru.get (i := 45) (by decide +kernel) (by rfl) (hu) (by decide) (hm1) ?_
        refine Ru.op (q := (.iload_n 2, 1)) (by decide +kernel) rfl ?_
        refine Ru.ild (n := p) (by decide +kernel) (hw) (rfl) (hp) (by decide) ?_
        refine Ru.ild (n := (g p)) (by decide +kernel) (ht) (rfl) (hv1) (by decide) ?_
        refine Ru.op (q := (.istore_n 2, 1)) (by decide +kernel) rfl ?_
        refine Ru.op (q := (.goto (-38), 3)) (by decide +kernel) rfl ?_
        obtain ⟨k, hk⟩ : ∃ k, t (g p) = k + 1 := ⟨t (g p) - 1, by omega⟩
        show Ru none 20 2000 121 (2, [some (.ref 36), some (.int (nI q)), some (.int (pI (t (g p))))], [], ns, hs) _
        rw [hk, Nat.add_sub_cancel] at he
        rw [hk, pI_s]
        exact ih k e (by omega) he
set_option maxRecDepth 100000 in
theorem ms_M {ns p m e : Nat} {hs : mn_H} {mv : List Value} {g t : Nat → Nat} (hu : hs[36]? = some (10, mv)) (hm1 : mv[21]? = some (.ref 46)) (hm2 : mv[23]? = some (.ref 47)) (hw : hs[46]? = some (50, aN 1024 g)) (ht : hs[47]? = some (50, aF 128 (fun i => pI (t i)))) (hg : ∀ k, g k < 2 ^ 31) (hv : ∀ k, k < 1024 → g k < 4096 → g k < 128) (hb : ∀ k, k < 128 → t k ≤ 1024) (hp : p < 1024) (he : ms g t m p = some e) : Ru none 20 2000 121 (0, mn_pad (mn_ent [.ref 36, .int (nI p)]) 3, [], ns, hs) ((0, some (.int (nI e))), ns, hs) := by
  refine Ru.op (q := (.iload_n 1, 1)) (by decide +kernel) rfl ?_
  refine Ru.op (q := (.istore_n 2, 1)) (by decide +kernel) rfl ?_
  exact ms_loop hu hm1 hm2 hw ht hg hv hb m p e hp he
