/-! the matcher stands at 23, its arrays at 24 (terms), 25 (since), 26 (picked) -/
/-- a cell of kind Clause: codes at b, starts at s, n literals, weight w -/
abbrev cCl (b s n w : Nat) : mn_C := (5, [.ref b, .ref s, .int (nI n), .int (nI w)])
abbrev cMt : mn_C := (7, [.ref 24, .ref 25, .ref 26])
/-- the terms that literal l or a later one has put are taken back, below place i -/
def fgt (T S : Nat → Int32) (l : Int32) (i : Nat) : Nat → Int32 := fun k => if k < i ∧ ¬ S k < l then -1 else T k
theorem fgt_0 (T S : Nat → Int32) (l : Int32) : fgt T S l 0 = T := by
  funext k
  exact if_neg (fun h => absurd h.1 (Nat.not_lt_zero k))
theorem fgt_s {T S : Nat → Int32} {l : Int32} {i : Nat} (h : ¬ S i < l) : up (fgt T S l i) i (-1) = fgt T S l (i + 1) := by
  funext k
  unfold up fgt
  by_cases hk : k = i
  · subst hk
    rw [if_pos rfl, if_pos ⟨Nat.lt_succ_self _, h⟩]
  · rw [if_neg hk]
    by_cases h2 : k < i ∧ ¬ S k < l
    · rw [if_pos h2, if_pos ⟨by omega, h2.2⟩]
    · rw [if_neg h2, if_neg (fun h3 => h2 ⟨by omega, h3.2⟩)]
theorem fgt_n {T S : Nat → Int32} {l : Int32} {i : Nat} (h : S i < l) : fgt T S l i = fgt T S l (i + 1) := by
  funext k
  unfold fgt
  by_cases hk : k = i
  · subst hk
    rw [if_neg (fun h3 => absurd h3.1 (Nat.lt_irrefl _)), if_neg (fun h3 => h3.2 h)]
  · by_cases h2 : k < i ∧ ¬ S k < l
    · rw [if_pos h2, if_pos ⟨by omega, h2.2⟩]
    · rw [if_neg h2, if_neg (fun h3 => h2 ⟨by omega, h3.2⟩)]
set_option maxRecDepth 100000 in
theorem fg_loop {ns c b s n w : Nat} {hs : mn_H} {T S : Nat → Int32} {l : Int32} (hm : hs[23]? = some cMt) (ht : hs[24]? = some (50, aF 64 T)) (hS : hs[25]? = some (50, aF 64 S)) (hc : hs[c]? = some (cCl b s n w)) (hw : w < 2 ^ 20) : ∀ (m i : Nat), i + m = min w 64 → Ru none 10 1000 55 (2, [some (.ref 23), some (.int l), some (.ref c), some (.int (nI i))], [], ns, (hs.set 24 (50, aF 64 (fgt T S l i)))) ((0, none), ns, (hs.set 24 (50, aF 64 (fgt T S l (min w 64))))) := by
  have hc24 : 24 ≠ c := h_ne ht hc (Nat.ne_of_beq_eq_false rfl)
  have gm : ∀ i, (hs.set 24 (50, aF 64 (fgt T S l i)))[23]? = some cMt := fun i => (h_oth (by decide)).trans hm
  have gS : ∀ i, (hs.set 24 (50, aF 64 (fgt T S l i)))[25]? = some (50, aF 64 S) := fun i => (h_oth (by decide)).trans hS
  have gc : ∀ i, (hs.set 24 (50, aF 64 (fgt T S l i)))[c]? = some (cCl b s n w) := fun i => (h_oth hc24).trans hc
  have gt : ∀ i, (hs.set 24 (50, aF 64 (fgt T S l i)))[24]? = some (50, aF 64 (fgt T S l i)) := fun i => h_set ht
  intro m
  induction m with
  | zero =>
    intro i hi
    have hi2 : i = min w 64 := by omega
    by_cases hw2 : w ≤ 64
    · refine Ru.op (q := (.iload_n 3, 1)) (by decide +kernel) rfl ?_
      refine Ru.op (q := (.aload_n 2, 1)) (by decide +kernel) rfl ?_
      refine Ru.get (i := 50) (by decide +kernel) (by rfl) (gc i) (by decide) (rfl) ?_
      refine Ru.br2 (k := .ge) (off := 32) (bb := true) (tg := 39) (by decide +kernel) (by decide +kernel) (by rw [cmp_ge (by omega) (by omega)]; exact decide_eq_true (by omega)) rfl ?_
      subst hi2
      exact Ru.end (q := (.return_, 1)) (by decide +kernel) rfl rfl
    · refine Ru.op (q := (.iload_n 3, 1)) (by decide +kernel) rfl ?_
      refine Ru.op (q := (.aload_n 2, 1)) (by decide +kernel) rfl ?_
      refine Ru.get (i := 50) (by decide +kernel) (by rfl) (gc i) (by decide) (rfl) ?_
      refine Ru.br2 (k := .ge) (off := 32) (bb := false) (tg := 10) (by decide +kernel) (by decide +kernel) (by rw [cmp_ge (by omega) (by omega)]; exact decide_eq_false (by omega)) rfl ?_
      refine Ru.op (q := (.iload_n 3, 1)) (by decide +kernel) rfl ?_
      refine Ru.op (q := (.bipush 64, 2)) (by decide +kernel) rfl ?_
      refine Ru.br2 (k := .ge) (off := 26) (bb := true) (tg := 39) (by decide +kernel) (by decide +kernel) (by show mn_cmp .ge (nI i) (nI 64) = true; rw [cmp_ge (by omega) (by omega)]; exact decide_eq_true (by omega)) rfl ?_
      subst hi2
      exact Ru.end (q := (.return_, 1)) (by decide +kernel) rfl rfl
  | succ m ih =>
    intro i hi
    by_cases h0 : S i < l
    · refine Ru.op (q := (.iload_n 3, 1)) (by decide +kernel) rfl ?_
      refine Ru.op (q := (.aload_n 2, 1)) (by decide +kernel) rfl ?_
      refine Ru.get (i := 50) (by decide +kernel) (by rfl) (gc i) (by decide) (rfl) ?_
      refine Ru.br2 (k := .ge) (off := 32) (bb := false) (tg := 10) (by decide +kernel) (by decide +kernel) (by rw [cmp_ge (by omega) (by omega)]; exact decide_eq_false (by omega)) rfl ?_
      refine Ru.op (q := (.iload_n 3, 1)) (by decide +kernel) rfl ?_
      refine Ru.op (q := (.bipush 64, 2)) (by decide +kernel) rfl ?_
      refine Ru.br2 (k := .ge) (off := 26) (bb := false) (tg := 16) (by decide +kernel) (by decide +kernel) (by show mn_cmp .ge (nI i) (nI 64) = false; rw [cmp_ge (by omega) (by omega)]; exact decide_eq_false (by omega)) rfl ?_
      refine Ru.op (q := (.aload_n 0, 1)) (by decide +kernel) rfl ?_
      refine Ru.get (i := 15) (by decide +kernel) (by rfl) (gm i) (by decide) (rfl) ?_
      refine Ru.op (q := (.iload_n 3, 1)) (by decide +kernel) rfl ?_
      refine Ru.ild (n := i) (by decide +kernel) (gS i) (rfl) (by omega) (by decide) ?_
      refine Ru.op (q := (.iload_n 1, 1)) (by decide +kernel) rfl ?_
      refine Ru.br2 (k := .lt) (off := 10) (bb := true) (tg := 33) (by decide +kernel) (by decide +kernel) (decide_eq_true h0) rfl ?_
      refine Ru.op (q := (.iinc 3 1, 3)) (by decide +kernel) rfl ?_
      refine Ru.op (q := (.goto (-34), 3)) (by decide +kernel) rfl ?_
      show Ru none 10 1000 55 (2, [some (.ref 23), some (.int l), some (.ref c), some (.int (nI i + 1))], [], ns, (hs.set 24 (50, aF 64 (fgt T S l i)))) _
      rw [nI_1, fgt_n h0]
      exact ih (i + 1) (by omega)
    · refine Ru.op (q := (.iload_n 3, 1)) (by decide +kernel) rfl ?_
      refine Ru.op (q := (.aload_n 2, 1)) (by decide +kernel) rfl ?_
      refine Ru.get (i := 50) (by decide +kernel) (by rfl) (gc i) (by decide) (rfl) ?_
      refine Ru.br2 (k := .ge) (off := 32) (bb := false) (tg := 10) (by decide +kernel) (by decide +kernel) (by rw [cmp_ge (by omega) (by omega)]; exact decide_eq_false (by omega)) rfl ?_
      refine Ru.op (q := (.iload_n 3, 1)) (by decide +kernel) rfl ?_
      refine Ru.op (q := (.bipush 64, 2)) (by decide +kernel) rfl ?_
      refine Ru.br2 (k := .ge) (off := 26) (bb := false) (tg := 16) (by decide +kernel) (by decide +kernel) (by show mn_cmp .ge (nI i) (nI 64) = false; rw [cmp_ge (by omega) (by omega)]; exact decide_eq_false (by omega)) rfl ?_
      refine Ru.op (q := (.aload_n 0, 1)) (by decide +kernel) rfl ?_
      refine Ru.get (i := 15) (by decide +kernel) (by rfl) (gm i) (by decide) (rfl) ?_
      refine Ru.op (q := (.iload_n 3, 1)) (by decide +kernel) rfl ?_
      refine Ru.ild (n := i) (by decide +kernel) (gS i) (rfl) (by omega) (by decide) ?_
      refine Ru.op (q := (.iload_n 1, 1)) (by decide +kernel) rfl ?_
      refine Ru.br2 (k := .lt) (off := 10) (bb := false) (tg := 26) (by decide +kernel) (by decide +kernel) (decide_eq_false h0) rfl ?_
      refine Ru.op (q := (.aload_n 0, 1)) (by decide +kernel) rfl ?_
      refine Ru.get (i := 11) (by decide +kernel) (by rfl) (gm i) (by decide) (rfl) ?_
      refine Ru.op (q := (.iload_n 3, 1)) (by decide +kernel) rfl ?_
      refine Ru.op (q := (.iconst (-1), 1)) (by decide +kernel) rfl ?_
      refine Ru.ist (n := i) (by decide +kernel) (gt i) (rfl) (by omega) (by decide) ?_
      refine Ru.op (q := (.iinc 3 1, 3)) (by decide +kernel) rfl ?_
      refine Ru.op (q := (.goto (-34), 3)) (by decide +kernel) rfl ?_
      show Ru none 10 1000 55 (2, [some (.ref 23), some (.int l), some (.ref c), some (.int (nI i + 1))], [], ns, ((hs.set 24 (50, aF 64 (fgt T S l i))).set 24 (50, aF 64 (up (fgt T S l i) i (-1))))) _
      rw [nI_1, List.set_set, fgt_s h0]
      exact ih (i + 1) (by omega)
set_option maxRecDepth 100000 in
/-- Matcher.forgetFrom -/
theorem fg_C {ns c b s n w : Nat} {hs : mn_H} {T S : Nat → Int32} {l : Int32} (hm : hs[23]? = some cMt) (ht : hs[24]? = some (50, aF 64 T)) (hS : hs[25]? = some (50, aF 64 S)) (hc : hs[c]? = some (cCl b s n w)) (hw : w < 2 ^ 20) : Ru none 10 1000 55 (0, mn_pad (mn_ent [.ref 23, .int l, .ref c]) 4, [], ns, hs) ((0, none), ns, (hs.set 24 (50, aF 64 (fgt T S l (min w 64))))) := by
  refine Ru.op (q := (.iconst 0, 1)) (by decide +kernel) rfl ?_
  refine Ru.op (q := (.istore_n 3, 1)) (by decide +kernel) rfl ?_
  have h := fg_loop (ns := ns) (l := l) hm ht hS hc hw (min w 64) 0 (by omega)
  rw [fgt_0, h_self ht] at h
  exact h
