/-! settle: the unifier stands at 20, work at 21, terms at 22 -/
abbrev cUn : mn_C := (6, [.ref 21, .ref 22])
/-- a place or none: 0 is none, k + 1 the place k -/
def pI (k : Nat) : Int32 := nI k - 1
theorem pI_0 : pI 0 = -1 := by decide
theorem pI_s (k : Nat) : pI (k + 1) = nI k := nI_pred k
theorem pI_ne {k : Nat} (h : k < 2 ^ 31) : mn_cmp .ne (pI k) (Int32.ofInt (-1)) = !decide (k = 0) := by
  cases k with
  | zero => decide
  | succ k =>
    rw [pI_s]
    have h1 : ¬ nI k = Int32.ofInt (-1) := by
      intro e
      have h2 := nI_toInt (n := k) (by omega)
      rw [e] at h2
      have h3 : (Int32.ofInt (-1)).toInt = -1 := by decide
      omega
    show decide (¬ nI k = Int32.ofInt (-1)) = _
    rw [decide_eq_true h1]
    rfl
theorem nI_shr8 {a : Nat} (h : a < 2 ^ 31) : nI a >>> ((Int8.ofInt 8).toInt32 &&& 31) = nI (a / 256) := by
  exact pk_shrN h _ 8 (by decide)
/-- where a place leads, at most m bindings on -/
def se (g t : Nat → Nat) : Nat → Nat → Nat
  | 0, p => p
  | m + 1, p => if 32768 ≤ g p ∨ t (g p / 256) = 0 then p else se g t m (t (g p / 256) - 1)
set_option maxRecDepth 100000 in
theorem se_loop {ns q : Nat} {hs : mn_H} {g t : Nat → Nat} (hu : hs[20]? = some cUn) (hw : hs[21]? = some (50, aN 32 g)) (ht : hs[22]? = some (50, aF 32 (fun i => pI (t i)))) (hg : ∀ k, g k < 2 ^ 31) (hv : ∀ k, k < 32 → g k < 32768 → g k / 256 < 32) (hb : ∀ k, k < 32 → t k ≤ 32) : ∀ (m n p : Nat), n + m = 32 → p < 32 → Ru none 10 1000 70 (4, [some (.ref 20), some (.int (nI q)), some (.int (nI p)), some (.int (nI n))], [], ns, hs) ((0, some (.int (nI (se g t m p)))), ns, hs) := by
  intro m
  induction m with
  | zero =>
    intro n p hn hp
    refine Ru.op (q := (.iload_n 3, 1)) (by decide +kernel) rfl ?_
    refine Ru.op (q := (.aload_n 0, 1)) (by decide +kernel) rfl ?_
    refine Ru.get (i := 15) (by decide +kernel) (by rfl) (hu) (by decide) (rfl) ?_
    refine Ru.len (by decide +kernel) ht (by decide) ?_
    refine Ru.br2 (k := .ge) (off := 55) (bb := true) (tg := 65) (by decide +kernel) (by decide +kernel) (by rw [show (aF 32 (fun i => pI (t i))).length = 32 from aF_len _ _, cmp_ge (by omega) (by decide)]; exact decide_eq_true (by omega)) rfl ?_
    refine Ru.op (q := (.iload_n 2, 1)) (by decide +kernel) rfl ?_
    exact Ru.iret (by decide +kernel) rfl rfl
  | succ m ih =>
    intro n p hn hp
    unfold se
    by_cases h1 : 32768 ≤ g p
    · rw [if_pos (Or.inl h1)]
      refine Ru.op (q := (.iload_n 3, 1)) (by decide +kernel) rfl ?_
      refine Ru.op (q := (.aload_n 0, 1)) (by decide +kernel) rfl ?_
      refine Ru.get (i := 15) (by decide +kernel) (by rfl) (hu) (by decide) (rfl) ?_
      refine Ru.len (by decide +kernel) ht (by decide) ?_
      refine Ru.br2 (k := .ge) (off := 55) (bb := false) (tg := 13) (by decide +kernel) (by decide +kernel) (by rw [show (aF 32 (fun i => pI (t i))).length = 32 from aF_len _ _, cmp_ge (by omega) (by decide)]; exact decide_eq_false (by omega)) rfl ?_
      refine Ru.op (q := (.aload_n 0, 1)) (by decide +kernel) rfl ?_
      refine Ru.get (i := 9) (by decide +kernel) (by rfl) (hu) (by decide) (rfl) ?_
      refine Ru.op (q := (.iload_n 2, 1)) (by decide +kernel) rfl ?_
      refine Ru.ild (n := p) (by decide +kernel) (hw) (rfl) (by omega) (by decide) ?_
      refine Ru.op (q := (.ldc 50, 2)) (by decide +kernel) rfl ?_
      refine Ru.br2 (k := .ge) (off := 21) (bb := true) (tg := 42) (by decide +kernel) (by decide +kernel) (by show mn_cmp .ge (nI (g p)) (nI 32768) = true; rw [cmp_ge (hg p) (by decide)]; exact decide_eq_true (by omega)) rfl ?_
      refine Ru.op (q := (.iload_n 2, 1)) (by decide +kernel) rfl ?_
      exact Ru.iret (by decide +kernel) rfl rfl
    · have hv1 := hv p hp (by omega)
      have hb1 := hb _ hv1
      by_cases h2 : t (g p / 256) = 0
      · rw [if_pos (Or.inr h2)]
        refine Ru.op (q := (.iload_n 3, 1)) (by decide +kernel) rfl ?_
        refine Ru.op (q := (.aload_n 0, 1)) (by decide +kernel) rfl ?_
        refine Ru.get (i := 15) (by decide +kernel) (by rfl) (hu) (by decide) (rfl) ?_
        refine Ru.len (by decide +kernel) ht (by decide) ?_
        refine Ru.br2 (k := .ge) (off := 55) (bb := false) (tg := 13) (by decide +kernel) (by decide +kernel) (by rw [show (aF 32 (fun i => pI (t i))).length = 32 from aF_len _ _, cmp_ge (by omega) (by decide)]; exact decide_eq_false (by omega)) rfl ?_
        refine Ru.op (q := (.aload_n 0, 1)) (by decide +kernel) rfl ?_
        refine Ru.get (i := 9) (by decide +kernel) (by rfl) (hu) (by decide) (rfl) ?_
        refine Ru.op (q := (.iload_n 2, 1)) (by decide +kernel) rfl ?_
        refine Ru.ild (n := p) (by decide +kernel) (hw) (rfl) (by omega) (by decide) ?_
        refine Ru.op (q := (.ldc 50, 2)) (by decide +kernel) rfl ?_
        refine Ru.br2 (k := .ge) (off := 21) (bb := false) (tg := 24) (by decide +kernel) (by decide +kernel) (by show mn_cmp .ge (nI (g p)) (nI 32768) = false; rw [cmp_ge (hg p) (by decide)]; exact decide_eq_false (by omega)) rfl ?_
        refine Ru.op (q := (.aload_n 0, 1)) (by decide +kernel) rfl ?_
        refine Ru.get (i := 15) (by decide +kernel) (by rfl) (hu) (by decide) (rfl) ?_
        refine Ru.op (q := (.aload_n 0, 1)) (by decide +kernel) rfl ?_
        refine Ru.get (i := 9) (by decide +kernel) (by rfl) (hu) (by decide) (rfl) ?_
        refine Ru.op (q := (.iload_n 2, 1)) (by decide +kernel) rfl ?_
        refine Ru.ild (n := p) (by decide +kernel) (hw) (rfl) (by omega) (by decide) ?_
        refine Ru.op (q := (.bipush 8, 2)) (by decide +kernel) rfl ?_
        refine Ru.op (q := (.ishr, 1)) (by decide +kernel) rfl ?_
        refine Ru.ild (n := (g p / 256)) (by decide +kernel) (ht) (nI_shr8 (hg p)) (hv1) (by decide) ?_
        refine Ru.op (q := (.iconst (-1), 1)) (by decide +kernel) rfl ?_
        refine Ru.br2 (k := .ne) (off := 5) (bb := false) (tg := 42) (by decide +kernel) (by decide +kernel) (by rw [pI_ne (by omega), decide_eq_true h2]; rfl) rfl ?_
        refine Ru.op (q := (.iload_n 2, 1)) (by decide +kernel) rfl ?_
        exact Ru.iret (by decide +kernel) rfl rfl
      · rw [if_neg (fun h => h.elim h1 h2)]
        refine Ru.op (q := (.iload_n 3, 1)) (by decide +kernel) rfl ?_
        refine Ru.op (q := (.aload_n 0, 1)) (by decide +kernel) rfl ?_
        refine Ru.get (i := 15) (by decide +kernel) (by rfl) (hu) (by decide) (rfl) ?_
        refine Ru.len (by decide +kernel) ht (by decide) ?_
        refine Ru.br2 (k := .ge) (off := 55) (bb := false) (tg := 13) (by decide +kernel) (by decide +kernel) (by rw [show (aF 32 (fun i => pI (t i))).length = 32 from aF_len _ _, cmp_ge (by omega) (by decide)]; exact decide_eq_false (by omega)) rfl ?_
        refine Ru.op (q := (.aload_n 0, 1)) (by decide +kernel) rfl ?_
        refine Ru.get (i := 9) (by decide +kernel) (by rfl) (hu) (by decide) (rfl) ?_
        refine Ru.op (q := (.iload_n 2, 1)) (by decide +kernel) rfl ?_
        refine Ru.ild (n := p) (by decide +kernel) (hw) (rfl) (by omega) (by decide) ?_
        refine Ru.op (q := (.ldc 50, 2)) (by decide +kernel) rfl ?_
        refine Ru.br2 (k := .ge) (off := 21) (bb := false) (tg := 24) (by decide +kernel) (by decide +kernel) (by show mn_cmp .ge (nI (g p)) (nI 32768) = false; rw [cmp_ge (hg p) (by decide)]; exact decide_eq_false (by omega)) rfl ?_
        refine Ru.op (q := (.aload_n 0, 1)) (by decide +kernel) rfl ?_
        refine Ru.get (i := 15) (by decide +kernel) (by rfl) (hu) (by decide) (rfl) ?_
        refine Ru.op (q := (.aload_n 0, 1)) (by decide +kernel) rfl ?_
        refine Ru.get (i := 9) (by decide +kernel) (by rfl) (hu) (by decide) (rfl) ?_
        refine Ru.op (q := (.iload_n 2, 1)) (by decide +kernel) rfl ?_
        refine Ru.ild (n := p) (by decide +kernel) (hw) (rfl) (by omega) (by decide) ?_
        refine Ru.op (q := (.bipush 8, 2)) (by decide +kernel) rfl ?_
        refine Ru.op (q := (.ishr, 1)) (by decide +kernel) rfl ?_
        refine Ru.ild (n := (g p / 256)) (by decide +kernel) (ht) (nI_shr8 (hg p)) (hv1) (by decide) ?_
        refine Ru.op (q := (.iconst (-1), 1)) (by decide +kernel) rfl ?_
        refine Ru.br2 (k := .ne) (off := 5) (bb := true) (tg := 44) (by decide +kernel) (by decide +kernel) (by rw [pI_ne (by omega), decide_eq_false h2]; rfl) rfl ?_
        refine Ru.op (q := (.aload_n 0, 1)) (by decide +kernel) rfl ?_
        refine Ru.get (i := 15) (by decide +kernel) (by rfl) (hu) (by decide) (rfl) ?_
        refine Ru.op (q := (.aload_n 0, 1)) (by decide +kernel) rfl ?_
        refine Ru.get (i := 9) (by decide +kernel) (by rfl) (hu) (by decide) (rfl) ?_
        refine Ru.op (q := (.iload_n 2, 1)) (by decide +kernel) rfl ?_
        refine Ru.ild (n := p) (by decide +kernel) (hw) (rfl) (by omega) (by decide) ?_
        refine Ru.op (q := (.bipush 8, 2)) (by decide +kernel) rfl ?_
        refine Ru.op (q := (.ishr, 1)) (by decide +kernel) rfl ?_
        refine Ru.ild (n := (g p / 256)) (by decide +kernel) (ht) (nI_shr8 (hg p)) (hv1) (by decide) ?_
        refine Ru.op (q := (.istore_n 2, 1)) (by decide +kernel) rfl ?_
        refine Ru.op (q := (.iinc 3 1, 3)) (by decide +kernel) rfl ?_
        refine Ru.op (q := (.goto (-58), 3)) (by decide +kernel) rfl ?_
        obtain ⟨k, hk⟩ : ∃ k, t (g p / 256) = k + 1 := ⟨t (g p / 256) - 1, by omega⟩
        show Ru none 10 1000 70 (4, [some (.ref 20), some (.int (nI q)), some (.int (pI (t (g p / 256)))), some (.int (nI n + 1))], [], ns, hs) _
        rw [hk, pI_s, nI_1]
        exact ih (n + 1) k (by omega) (by omega)
set_option maxRecDepth 100000 in
/-- Unifier.settle -/
theorem se_C {ns p : Nat} {hs : mn_H} {g t : Nat → Nat} (hu : hs[20]? = some cUn) (hw : hs[21]? = some (50, aN 32 g)) (ht : hs[22]? = some (50, aF 32 (fun i => pI (t i)))) (hg : ∀ k, g k < 2 ^ 31) (hv : ∀ k, k < 32 → g k < 32768 → g k / 256 < 32) (hb : ∀ k, k < 32 → t k ≤ 32) (hp : p < 32) : Ru none 10 1000 70 (0, mn_pad (mn_ent [.ref 20, .int (nI p)]) 4, [], ns, hs) ((0, some (.int (nI (se g t 32 p)))), ns, hs) := by
  refine Ru.op (q := (.iload_n 1, 1)) (by decide +kernel) rfl ?_
  refine Ru.op (q := (.istore_n 2, 1)) (by decide +kernel) rfl ?_
  refine Ru.op (q := (.iconst 0, 1)) (by decide +kernel) rfl ?_
  refine Ru.op (q := (.istore_n 3, 1)) (by decide +kernel) rfl ?_
  exact se_loop hu hw ht hg hv hb 32 0 p (by omega) hp
