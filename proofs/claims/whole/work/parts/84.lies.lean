/-! Matcher.liesOn -/
def un (f : Nat → Nat) (k x : Nat) : Nat → Nat := fun i => if i = k then x else f i
theorem up_pI (t : Nat → Nat) (k x : Nat) : up (fun i => pI (t i)) k (pI x) = fun i => pI (un t k x i) := by
  funext i
  unfold up un
  split <;> rfl
theorem up_nI (t : Nat → Nat) (k x : Nat) : up (fun i => nI (t i)) k (nI x) = fun i => nI (un t k x i) := by
  funext i
  unfold up un
  split <;> rfl
/-- m symbols of g from p on are laid on h from q on, but not behind E; t and s: the terms put, and by which literal; N: how long h's array is -/
def li (g h : Nat → Nat) (E N l : Nat) : Nat → Nat → Nat → (Nat → Nat) → (Nat → Nat) → Bool × (Nat → Nat) × (Nat → Nat)
  | 0, _, _, t, s => (true, t, s)
  | m + 1, p, q, t, s =>
    if E ≤ q then (false, t, s)
    else if 32768 ≤ g p then (if g p = h q then li g h E N l m (p + 1) (q + 1) t s else (false, t, s))
    else if t (g p / 256) = 0 then li g h E N l m (p + 1) (ce h (E - q) 1 q) (un t (g p / 256) (q + 1)) (un s (g p / 256) l)
    else if (decide (t (g p / 256) - 1 + (ce h (E - q) 1 q - q) ≤ N) && decide (q + (ce h (E - q) 1 q - q) ≤ N) && sy h (t (g p / 256) - 1) q (ce h (E - q) 1 q - q)) = true then li g h E N l m (p + 1) (ce h (E - q) 1 q) t s
    else (false, t, s)
theorem ce_ge (h : Nat → Nat) : ∀ m o p, p ≤ ce h m o p ∧ ce h m o p ≤ p + m := by
  intro m
  induction m with
  | zero => intro o p; exact ⟨Nat.le_refl _, Nat.le_refl _⟩
  | succ m ih =>
    intro o p
    unfold ce
    split
    · omega
    · have := ih (o - 1 + h p % 256) (p + 1); omega
/-- the heap with these terms and literals -/
def lH (hs : mn_H) (t s : Nat → Nat) : mn_H := (hs.set 24 (50, aF 64 (fun i => pI (t i)))).set 25 (50, aF 64 (fun i => nI (s i)))
set_option maxRecDepth 100000 in
set_option maxHeartbeats 4000000 in
theorem li_loop {ns a b sa na wa d b2 sd nd wd Ma Na N l mm E : Nat} {hs : mn_H} {g h ca : Nat → Nat} (hm : hs[23]? = some cMt) (h24 : ∃ x, hs[24]? = some (50, x)) (h25 : ∃ x, hs[25]? = some (50, x)) (ha : hs[a]? = some (cCl b sa na wa)) (hb : hs[b]? = some (50, aN Na g)) (hsa : hs[sa]? = some (50, aN Ma ca)) (hd : hs[d]? = some (cCl b2 sd nd wd)) (hb2 : hs[b2]? = some (50, aN N h)) (kb : b < 24 ∨ 26 < b) (ks : sa < 24 ∨ 26 < sa) (kb2 : b2 < 24 ∨ 26 < b2) (hMa : Ma < 2 ^ 20) (hNa : Na < 2 ^ 20) (hN : N < 2 ^ 20) (hg : ∀ k, g k < 2 ^ 31) (hh : ∀ k, h k < 2 ^ 31) (hl : l + 1 < Ma) (hE : E ≤ N) (hP : ca (l + 1) ≤ Na) (hv : ∀ k, k < ca (l + 1) → g k < 32768 → g k / 256 < 64) : ∀ (m p q : Nat) (t s : Nat → Nat) (x8 x9 x10 : Option Value), p + m = ca (l + 1) → q ≤ N → (∀ k, t k < 2 ^ 20) → Ru none 20 2000 56 (28, [some (.ref 23), some (.ref a), some (.int (nI l)), some (.ref d), some (.int (nI mm)), some (.int (nI q)), some (.int (nI E)), some (.int (nI p)), x8, x9, x10], [], ns, lH hs t s) ((0, some (.int (bI (li g h E N l m p q t s).1))), ns, lH hs (li g h E N l m p q t s).2.1 (li g h E N l m p q t s).2.2) := by
  obtain ⟨y24, h24⟩ := h24
  obtain ⟨y25, h25⟩ := h25
  have fr : ∀ t s i x, (i < 24 ∨ 26 < i) → hs[i]? = some x → (lH hs t s)[i]? = some x := fun t s i x hi hx => by unfold lH; rw [h_oth (by omega), h_oth (by omega)]; exact hx
  have a24 : 24 ≠ a := h_ne h24 ha (Nat.ne_of_beq_eq_false rfl)
  have a25 : 25 ≠ a := h_ne h25 ha (Nat.ne_of_beq_eq_false rfl)
  have d24 : 24 ≠ d := h_ne h24 hd (Nat.ne_of_beq_eq_false rfl)
  have d25 : 25 ≠ d := h_ne h25 hd (Nat.ne_of_beq_eq_false rfl)
  have gm : ∀ t s, (lH hs t s)[23]? = some cMt := fun t s => fr t s 23 _ (by omega) hm
  have ga : ∀ t s, (lH hs t s)[a]? = some (cCl b sa na wa) := fun t s => by unfold lH; rw [h_oth a25, h_oth a24]; exact ha
  have gd : ∀ t s, (lH hs t s)[d]? = some (cCl b2 sd nd wd) := fun t s => by unfold lH; rw [h_oth d25, h_oth d24]; exact hd
  have gb : ∀ t s, (lH hs t s)[b]? = some (50, aN Na g) := fun t s => fr t s b _ kb hb
  have gs : ∀ t s, (lH hs t s)[sa]? = some (50, aN Ma ca) := fun t s => fr t s sa _ ks hsa
  have gb2 : ∀ t s, (lH hs t s)[b2]? = some (50, aN N h) := fun t s => fr t s b2 _ kb2 hb2
  have gt : ∀ t s, (lH hs t s)[24]? = some (50, aF 64 (fun i => pI (t i))) := fun t s => by unfold lH; rw [h_oth (by decide)]; exact h_set h24
  have gS : ∀ t s, (lH hs t s)[25]? = some (50, aF 64 (fun i => nI (s i))) := fun t s => by unfold lH; exact h_set (x := (50, y25)) (by rw [h_oth (by decide)]; exact h25)
  intro m
  induction m with
  | zero =>
    intro p q t s x8 x9 x10 hp hq ht
    refine Ru.op (q := (.iload 7, 2)) (by decide +kernel) rfl ?_
    refine Ru.op (q := (.aload_n 1, 1)) (by decide +kernel) rfl ?_
    refine Ru.get (i := 35) (by decide +kernel) (by rfl) (ga t s) (by decide) (rfl) ?_
    refine Ru.op (q := (.iload_n 2, 1)) (by decide +kernel) rfl ?_
    refine Ru.op (q := (.iconst 1, 1)) (by decide +kernel) rfl ?_
    refine Ru.op (q := (.iadd, 1)) (by decide +kernel) rfl ?_
    refine Ru.ild (n := (l + 1)) (by decide +kernel) (gs t s) (nI_1 l) (hl) (by omega) ?_
    refine Ru.br2 (k := .ge) (off := 135) (bb := true) (tg := 173) (by decide +kernel) (by decide +kernel) (by rw [cmp_ge (by omega) (by omega)]; exact decide_eq_true (by omega)) rfl ?_
    refine Ru.op (q := (.iconst 1, 1)) (by decide +kernel) rfl ?_
    exact Ru.iret (by decide +kernel) rfl rfl
  | succ m ih =>
    intro p q t s x8 x9 x10 hp hq ht
    unfold li
    by_cases h1 : E ≤ q
    · rw [if_pos h1]
      refine Ru.op (q := (.iload 7, 2)) (by decide +kernel) rfl ?_
      refine Ru.op (q := (.aload_n 1, 1)) (by decide +kernel) rfl ?_
      refine Ru.get (i := 35) (by decide +kernel) (by rfl) (ga t s) (by decide) (rfl) ?_
      refine Ru.op (q := (.iload_n 2, 1)) (by decide +kernel) rfl ?_
      refine Ru.op (q := (.iconst 1, 1)) (by decide +kernel) rfl ?_
      refine Ru.op (q := (.iadd, 1)) (by decide +kernel) rfl ?_
      refine Ru.ild (n := (l + 1)) (by decide +kernel) (gs t s) (nI_1 l) (hl) (by omega) ?_
      refine Ru.br2 (k := .ge) (off := 135) (bb := false) (tg := 41) (by decide +kernel) (by decide +kernel) (by rw [cmp_ge (by omega) (by omega)]; exact decide_eq_false (by omega)) rfl ?_
      refine Ru.op (q := (.aload_n 1, 1)) (by decide +kernel) rfl ?_
      refine Ru.get (i := 38) (by decide +kernel) (by rfl) (ga t s) (by decide) (rfl) ?_
      refine Ru.op (q := (.iload 7, 2)) (by decide +kernel) rfl ?_
      refine Ru.ild (n := p) (by decide +kernel) (gb t s) (rfl) (by omega) (by omega) ?_
      refine Ru.op (q := (.istore 8, 2)) (by decide +kernel) rfl ?_
      refine Ru.op (q := (.iload 5, 2)) (by decide +kernel) rfl ?_
      refine Ru.op (q := (.iload 6, 2)) (by decide +kernel) rfl ?_
      refine Ru.br2 (k := .lt) (off := 5) (bb := false) (tg := 57) (by decide +kernel) (by decide +kernel) (by rw [cmp_lt (by omega) (by omega)]; exact decide_eq_false (by omega)) rfl ?_
      refine Ru.op (q := (.iconst 0, 1)) (by decide +kernel) rfl ?_
      exact Ru.iret (by decide +kernel) rfl rfl
    · rw [if_neg h1]
      by_cases h2 : 32768 ≤ g p
      · rw [if_pos h2]
        by_cases h3 : g p = h q
        · rw [if_pos h3]
          refine Ru.op (q := (.iload 7, 2)) (by decide +kernel) rfl ?_
          refine Ru.op (q := (.aload_n 1, 1)) (by decide +kernel) rfl ?_
          refine Ru.get (i := 35) (by decide +kernel) (by rfl) (ga t s) (by decide) (rfl) ?_
          refine Ru.op (q := (.iload_n 2, 1)) (by decide +kernel) rfl ?_
          refine Ru.op (q := (.iconst 1, 1)) (by decide +kernel) rfl ?_
          refine Ru.op (q := (.iadd, 1)) (by decide +kernel) rfl ?_
          refine Ru.ild (n := (l + 1)) (by decide +kernel) (gs t s) (nI_1 l) (hl) (by omega) ?_
          refine Ru.br2 (k := .ge) (off := 135) (bb := false) (tg := 41) (by decide +kernel) (by decide +kernel) (by rw [cmp_ge (by omega) (by omega)]; exact decide_eq_false (by omega)) rfl ?_
          refine Ru.op (q := (.aload_n 1, 1)) (by decide +kernel) rfl ?_
          refine Ru.get (i := 38) (by decide +kernel) (by rfl) (ga t s) (by decide) (rfl) ?_
          refine Ru.op (q := (.iload 7, 2)) (by decide +kernel) rfl ?_
          refine Ru.ild (n := p) (by decide +kernel) (gb t s) (rfl) (by omega) (by omega) ?_
          refine Ru.op (q := (.istore 8, 2)) (by decide +kernel) rfl ?_
          refine Ru.op (q := (.iload 5, 2)) (by decide +kernel) rfl ?_
          refine Ru.op (q := (.iload 6, 2)) (by decide +kernel) rfl ?_
          refine Ru.br2 (k := .lt) (off := 5) (bb := true) (tg := 59) (by decide +kernel) (by decide +kernel) (by rw [cmp_lt (by omega) (by omega)]; exact decide_eq_true (by omega)) rfl ?_
          refine Ru.op (q := (.iload 8, 2)) (by decide +kernel) rfl ?_
          refine Ru.op (q := (.ldc 41, 2)) (by decide +kernel) rfl ?_
          refine Ru.br2 (k := .lt) (off := 23) (bb := false) (tg := 66) (by decide +kernel) (by decide +kernel) (by show mn_cmp .lt (nI (g p)) (nI 32768) = false; rw [cmp_lt (hg p) (by decide)]; exact decide_eq_false (by omega)) rfl ?_
          refine Ru.op (q := (.iload 8, 2)) (by decide +kernel) rfl ?_
          refine Ru.op (q := (.aload_n 3, 1)) (by decide +kernel) rfl ?_
          refine Ru.get (i := 38) (by decide +kernel) (by rfl) (gd t s) (by decide) (rfl) ?_
          refine Ru.op (q := (.iload 5, 2)) (by decide +kernel) rfl ?_
          refine Ru.ild (n := q) (by decide +kernel) (gb2 t s) (rfl) (by omega) (by omega) ?_
          refine Ru.br2 (k := .eq) (off := 5) (bb := true) (tg := 80) (by decide +kernel) (by decide +kernel) (by rw [cmp_eq (hg p) (hh q)]; exact decide_eq_true h3) rfl ?_
          refine Ru.op (q := (.iinc 5 1, 3)) (by decide +kernel) rfl ?_
          refine Ru.op (q := (.goto 84, 3)) (by decide +kernel) rfl ?_
          refine Ru.op (q := (.iinc 7 1, 3)) (by decide +kernel) rfl ?_
          refine Ru.op (q := (.goto (-142), 3)) (by decide +kernel) rfl ?_
          show Ru none 20 2000 56 (28, [some (.ref 23), some (.ref a), some (.int (nI l)), some (.ref d), some (.int (nI mm)), some (.int (nI q + 1)), some (.int (nI E)), some (.int (nI p + 1)), some (.int (nI (g p))), x9, x10], [], ns, lH hs t s) _
          rw [nI_1, nI_1]
          exact ih (p + 1) (q + 1) t s _ _ _ (by omega) (by omega) ht
        · rw [if_neg h3]
          refine Ru.op (q := (.iload 7, 2)) (by decide +kernel) rfl ?_
          refine Ru.op (q := (.aload_n 1, 1)) (by decide +kernel) rfl ?_
          refine Ru.get (i := 35) (by decide +kernel) (by rfl) (ga t s) (by decide) (rfl) ?_
          refine Ru.op (q := (.iload_n 2, 1)) (by decide +kernel) rfl ?_
          refine Ru.op (q := (.iconst 1, 1)) (by decide +kernel) rfl ?_
          refine Ru.op (q := (.iadd, 1)) (by decide +kernel) rfl ?_
          refine Ru.ild (n := (l + 1)) (by decide +kernel) (gs t s) (nI_1 l) (hl) (by omega) ?_
          refine Ru.br2 (k := .ge) (off := 135) (bb := false) (tg := 41) (by decide +kernel) (by decide +kernel) (by rw [cmp_ge (by omega) (by omega)]; exact decide_eq_false (by omega)) rfl ?_
          refine Ru.op (q := (.aload_n 1, 1)) (by decide +kernel) rfl ?_
          refine Ru.get (i := 38) (by decide +kernel) (by rfl) (ga t s) (by decide) (rfl) ?_
          refine Ru.op (q := (.iload 7, 2)) (by decide +kernel) rfl ?_
          refine Ru.ild (n := p) (by decide +kernel) (gb t s) (rfl) (by omega) (by omega) ?_
          refine Ru.op (q := (.istore 8, 2)) (by decide +kernel) rfl ?_
          refine Ru.op (q := (.iload 5, 2)) (by decide +kernel) rfl ?_
          refine Ru.op (q := (.iload 6, 2)) (by decide +kernel) rfl ?_
          refine Ru.br2 (k := .lt) (off := 5) (bb := true) (tg := 59) (by decide +kernel) (by decide +kernel) (by rw [cmp_lt (by omega) (by omega)]; exact decide_eq_true (by omega)) rfl ?_
          refine Ru.op (q := (.iload 8, 2)) (by decide +kernel) rfl ?_
          refine Ru.op (q := (.ldc 41, 2)) (by decide +kernel) rfl ?_
          refine Ru.br2 (k := .lt) (off := 23) (bb := false) (tg := 66) (by decide +kernel) (by decide +kernel) (by show mn_cmp .lt (nI (g p)) (nI 32768) = false; rw [cmp_lt (hg p) (by decide)]; exact decide_eq_false (by omega)) rfl ?_
          refine Ru.op (q := (.iload 8, 2)) (by decide +kernel) rfl ?_
          refine Ru.op (q := (.aload_n 3, 1)) (by decide +kernel) rfl ?_
          refine Ru.get (i := 38) (by decide +kernel) (by rfl) (gd t s) (by decide) (rfl) ?_
          refine Ru.op (q := (.iload 5, 2)) (by decide +kernel) rfl ?_
          refine Ru.ild (n := q) (by decide +kernel) (gb2 t s) (rfl) (by omega) (by omega) ?_
          refine Ru.br2 (k := .eq) (off := 5) (bb := false) (tg := 78) (by decide +kernel) (by decide +kernel) (by rw [cmp_eq (hg p) (hh q)]; exact decide_eq_false h3) rfl ?_
          refine Ru.op (q := (.iconst 0, 1)) (by decide +kernel) rfl ?_
          exact Ru.iret (by decide +kernel) rfl rfl
      · rw [if_neg h2]
        have hv1 := hv p (by omega) (by omega)
        have hce := ce_ge h (E - q) 1 q
        by_cases h4 : t (g p / 256) = 0
        · rw [if_pos h4]
          refine Ru.op (q := (.iload 7, 2)) (by decide +kernel) rfl ?_
          refine Ru.op (q := (.aload_n 1, 1)) (by decide +kernel) rfl ?_
          refine Ru.get (i := 35) (by decide +kernel) (by rfl) (ga t s) (by decide) (rfl) ?_
          refine Ru.op (q := (.iload_n 2, 1)) (by decide +kernel) rfl ?_
          refine Ru.op (q := (.iconst 1, 1)) (by decide +kernel) rfl ?_
          refine Ru.op (q := (.iadd, 1)) (by decide +kernel) rfl ?_
          refine Ru.ild (n := (l + 1)) (by decide +kernel) (gs t s) (nI_1 l) (hl) (by omega) ?_
          refine Ru.br2 (k := .ge) (off := 135) (bb := false) (tg := 41) (by decide +kernel) (by decide +kernel) (by rw [cmp_ge (by omega) (by omega)]; exact decide_eq_false (by omega)) rfl ?_
          refine Ru.op (q := (.aload_n 1, 1)) (by decide +kernel) rfl ?_
          refine Ru.get (i := 38) (by decide +kernel) (by rfl) (ga t s) (by decide) (rfl) ?_
          refine Ru.op (q := (.iload 7, 2)) (by decide +kernel) rfl ?_
          refine Ru.ild (n := p) (by decide +kernel) (gb t s) (rfl) (by omega) (by omega) ?_
          refine Ru.op (q := (.istore 8, 2)) (by decide +kernel) rfl ?_
          refine Ru.op (q := (.iload 5, 2)) (by decide +kernel) rfl ?_
          refine Ru.op (q := (.iload 6, 2)) (by decide +kernel) rfl ?_
          refine Ru.br2 (k := .lt) (off := 5) (bb := true) (tg := 59) (by decide +kernel) (by decide +kernel) (by rw [cmp_lt (by omega) (by omega)]; exact decide_eq_true (by omega)) rfl ?_
          refine Ru.op (q := (.iload 8, 2)) (by decide +kernel) rfl ?_
          refine Ru.op (q := (.ldc 41, 2)) (by decide +kernel) rfl ?_
          refine Ru.br2 (k := .lt) (off := 23) (bb := true) (tg := 86) (by decide +kernel) (by decide +kernel) (by show mn_cmp .lt (nI (g p)) (nI 32768) = true; rw [cmp_lt (hg p) (by decide)]; exact decide_eq_true (by omega)) rfl ?_
          refine Ru.op (q := (.aload_n 3, 1)) (by decide +kernel) rfl ?_
          refine Ru.get (i := 38) (by decide +kernel) (by rfl) (gd t s) (by decide) (rfl) ?_
          refine Ru.op (q := (.iload 5, 2)) (by decide +kernel) rfl ?_
          refine Ru.op (q := (.iload 6, 2)) (by decide +kernel) rfl ?_
          refine Ru.call (q := (.invokestatic 42, 3)) (j2 := 57) (by decide +kernel) rfl rfl rfl rfl ⟨Nat.le_of_ble_eq_true rfl, Nat.le_of_ble_eq_true rfl, Nat.le_of_ble_eq_true rfl, Nat.le_of_ble_eq_true rfl⟩ ((eo_C (gb2 t s) hN hE (by omega)).up (by decide) (by decide)) ?_
          refine Ru.op (q := (.istore 9, 2)) (by decide +kernel) rfl ?_
          refine Ru.op (q := (.iload 8, 2)) (by decide +kernel) rfl ?_
          refine Ru.op (q := (.bipush 8, 2)) (by decide +kernel) rfl ?_
          refine Ru.op (q := (.ishr, 1)) (by decide +kernel) rfl ?_
          refine Ru.op (q := (.istore 10, 2)) (by decide +kernel) rfl ?_
          refine Ru.op (q := (.aload_n 0, 1)) (by decide +kernel) rfl ?_
          refine Ru.get (i := 11) (by decide +kernel) (by rfl) (gm t s) (by decide) (rfl) ?_
          refine Ru.op (q := (.iload 10, 2)) (by decide +kernel) rfl ?_
          refine Ru.ild (n := (g p / 256)) (by decide +kernel) (gt t s) (nI_shr8 (hg p)) (hv1) (by decide) ?_
          refine Ru.op (q := (.iconst (-1), 1)) (by decide +kernel) rfl ?_
          refine Ru.br2 (k := .ne) (off := 23) (bb := false) (tg := 117) (by decide +kernel) (by decide +kernel) (by rw [pI_ne (by have := ht (g p / 256); omega), decide_eq_true h4]; rfl) rfl ?_
          refine Ru.op (q := (.aload_n 0, 1)) (by decide +kernel) rfl ?_
          refine Ru.get (i := 11) (by decide +kernel) (by rfl) (gm t s) (by decide) (rfl) ?_
          refine Ru.op (q := (.iload 10, 2)) (by decide +kernel) rfl ?_
          refine Ru.op (q := (.iload 5, 2)) (by decide +kernel) rfl ?_
          refine Ru.ist (n := (g p / 256)) (by decide +kernel) (gt t s) (nI_shr8 (hg p)) (hv1) (by decide) ?_
          refine Ru.op (q := (.aload_n 0, 1)) (by decide +kernel) rfl ?_
          refine Ru.get (i := 15) (by decide +kernel) (by rfl) ((h_oth (by decide)).trans (gm t s)) (by decide) (rfl) ?_
          refine Ru.op (q := (.iload 10, 2)) (by decide +kernel) rfl ?_
          refine Ru.op (q := (.iload_n 2, 1)) (by decide +kernel) rfl ?_
          refine Ru.ist (n := (g p / 256)) (by decide +kernel) ((h_oth (by decide)).trans (gS t s)) (nI_shr8 (hg p)) (hv1) (by decide) ?_
          refine Ru.op (q := (.goto 29, 3)) (by decide +kernel) rfl ?_
          refine Ru.op (q := (.iload 9, 2)) (by decide +kernel) rfl ?_
          refine Ru.op (q := (.istore 5, 2)) (by decide +kernel) rfl ?_
          refine Ru.op (q := (.iinc 7 1, 3)) (by decide +kernel) rfl ?_
          refine Ru.op (q := (.goto (-142), 3)) (by decide +kernel) rfl ?_
          have e : ((lH hs t s).set 24 (50, aF 64 (up (fun i => pI (t i)) (g p / 256) (nI q)))).set 25 (50, aF 64 (up (fun i => nI (s i)) (g p / 256) (nI l))) = lH hs (un t (g p / 256) (q + 1)) (un s (g p / 256) l) := by
            rw [← pI_s q, up_pI, up_nI]
            unfold lH
            exact h_upd (by decide)
          show Ru none 20 2000 56 (28, [some (.ref 23), some (.ref a), some (.int (nI l)), some (.ref d), some (.int (nI mm)), some (.int (nI (ce h (E - q) 1 q))), some (.int (nI E)), some (.int (nI p + 1)), _, _, _], [], ns, ((lH hs t s).set 24 (50, aF 64 (up (fun i => pI (t i)) (g p / 256) (nI q)))).set 25 (50, aF 64 (up (fun i => nI (s i)) (g p / 256) (nI l)))) _
          rw [e, nI_1]
          exact ih (p + 1) _ _ _ _ _ _ (by omega) (by omega) (fun k => by unfold un; split; omega; exact ht k)
        · rw [if_neg h4]
          obtain ⟨k, hk⟩ : ∃ k, t (g p / 256) = k + 1 := ⟨t (g p / 256) - 1, by omega⟩
          have es : nI (ce h (E - q) 1 q) - nI q = nI (ce h (E - q) 1 q - q) := by
            have e1 : nI (ce h (E - q) 1 q) = nI (ce h (E - q) 1 q - q) + nI q := by rw [nI_add, Nat.sub_add_cancel hce.1]
            rw [e1, Int32.add_sub_cancel]
          have hk2 : k < 2 ^ 20 := by have := ht (g p / 256); omega
          have hS5 := sy_C (ns := ns) (x := k) (y := q) (n := ce h (E - q) 1 q - q) (gb2 t s) hN hh hk2 (by omega) (by omega)
          rw [hk, Nat.add_sub_cancel]
          cases h5 : (decide (k + (ce h (E - q) 1 q - q) ≤ N) && decide (q + (ce h (E - q) 1 q - q) ≤ N) && sy h k q (ce h (E - q) 1 q - q))
          · rw [if_neg (by decide)]
            refine Ru.op (q := (.iload 7, 2)) (by decide +kernel) rfl ?_
            refine Ru.op (q := (.aload_n 1, 1)) (by decide +kernel) rfl ?_
            refine Ru.get (i := 35) (by decide +kernel) (by rfl) (ga t s) (by decide) (rfl) ?_
            refine Ru.op (q := (.iload_n 2, 1)) (by decide +kernel) rfl ?_
            refine Ru.op (q := (.iconst 1, 1)) (by decide +kernel) rfl ?_
            refine Ru.op (q := (.iadd, 1)) (by decide +kernel) rfl ?_
            refine Ru.ild (n := (l + 1)) (by decide +kernel) (gs t s) (nI_1 l) (hl) (by omega) ?_
            refine Ru.br2 (k := .ge) (off := 135) (bb := false) (tg := 41) (by decide +kernel) (by decide +kernel) (by rw [cmp_ge (by omega) (by omega)]; exact decide_eq_false (by omega)) rfl ?_
            refine Ru.op (q := (.aload_n 1, 1)) (by decide +kernel) rfl ?_
            refine Ru.get (i := 38) (by decide +kernel) (by rfl) (ga t s) (by decide) (rfl) ?_
            refine Ru.op (q := (.iload 7, 2)) (by decide +kernel) rfl ?_
            refine Ru.ild (n := p) (by decide +kernel) (gb t s) (rfl) (by omega) (by omega) ?_
            refine Ru.op (q := (.istore 8, 2)) (by decide +kernel) rfl ?_
            refine Ru.op (q := (.iload 5, 2)) (by decide +kernel) rfl ?_
            refine Ru.op (q := (.iload 6, 2)) (by decide +kernel) rfl ?_
            refine Ru.br2 (k := .lt) (off := 5) (bb := true) (tg := 59) (by decide +kernel) (by decide +kernel) (by rw [cmp_lt (by omega) (by omega)]; exact decide_eq_true (by omega)) rfl ?_
            refine Ru.op (q := (.iload 8, 2)) (by decide +kernel) rfl ?_
            refine Ru.op (q := (.ldc 41, 2)) (by decide +kernel) rfl ?_
            refine Ru.br2 (k := .lt) (off := 23) (bb := true) (tg := 86) (by decide +kernel) (by decide +kernel) (by show mn_cmp .lt (nI (g p)) (nI 32768) = true; rw [cmp_lt (hg p) (by decide)]; exact decide_eq_true (by omega)) rfl ?_
            refine Ru.op (q := (.aload_n 3, 1)) (by decide +kernel) rfl ?_
            refine Ru.get (i := 38) (by decide +kernel) (by rfl) (gd t s) (by decide) (rfl) ?_
            refine Ru.op (q := (.iload 5, 2)) (by decide +kernel) rfl ?_
            refine Ru.op (q := (.iload 6, 2)) (by decide +kernel) rfl ?_
            refine Ru.call (q := (.invokestatic 42, 3)) (j2 := 57) (by decide +kernel) rfl rfl rfl rfl ⟨Nat.le_of_ble_eq_true rfl, Nat.le_of_ble_eq_true rfl, Nat.le_of_ble_eq_true rfl, Nat.le_of_ble_eq_true rfl⟩ ((eo_C (gb2 t s) hN hE (by omega)).up (by decide) (by decide)) ?_
            refine Ru.op (q := (.istore 9, 2)) (by decide +kernel) rfl ?_
            refine Ru.op (q := (.iload 8, 2)) (by decide +kernel) rfl ?_
            refine Ru.op (q := (.bipush 8, 2)) (by decide +kernel) rfl ?_
            refine Ru.op (q := (.ishr, 1)) (by decide +kernel) rfl ?_
            refine Ru.op (q := (.istore 10, 2)) (by decide +kernel) rfl ?_
            refine Ru.op (q := (.aload_n 0, 1)) (by decide +kernel) rfl ?_
            refine Ru.get (i := 11) (by decide +kernel) (by rfl) (gm t s) (by decide) (rfl) ?_
            refine Ru.op (q := (.iload 10, 2)) (by decide +kernel) rfl ?_
            refine Ru.ild (n := (g p / 256)) (by decide +kernel) (gt t s) (nI_shr8 (hg p)) (hv1) (by decide) ?_
            refine Ru.op (q := (.iconst (-1), 1)) (by decide +kernel) rfl ?_
            refine Ru.br2 (k := .ne) (off := 23) (bb := true) (tg := 137) (by decide +kernel) (by decide +kernel) (by rw [pI_ne (by have := ht (g p / 256); omega), decide_eq_false h4]; rfl) rfl ?_
            refine Ru.op (q := (.aload_n 3, 1)) (by decide +kernel) rfl ?_
            refine Ru.get (i := 38) (by decide +kernel) (by rfl) (gd t s) (by decide) (rfl) ?_
            refine Ru.op (q := (.aload_n 0, 1)) (by decide +kernel) rfl ?_
            refine Ru.get (i := 11) (by decide +kernel) (by rfl) (gm t s) (by decide) (rfl) ?_
            refine Ru.op (q := (.iload 10, 2)) (by decide +kernel) rfl ?_
            refine Ru.ild (n := (g p / 256)) (by decide +kernel) (gt t s) (nI_shr8 (hg p)) (hv1) (by decide) ?_
            refine Ru.op (q := (.iload 5, 2)) (by decide +kernel) rfl ?_
            refine Ru.op (q := (.iload 9, 2)) (by decide +kernel) rfl ?_
            refine Ru.op (q := (.iload 5, 2)) (by decide +kernel) rfl ?_
            refine Ru.op (q := (.isub, 1)) (by decide +kernel) rfl ?_
            show Ru none 20 2000 56 (155, [some (.ref 23), some (.ref a), some (.int (nI l)), some (.ref d), some (.int (nI mm)), some (.int (nI q)), some (.int (nI E)), some (.int (nI p)), _, _, _], [.int (nI (ce h (E - q) 1 q) - nI q), .int (nI q), .int (pI (t (g p / 256))), .ref b2], ns, lH hs t s) _
            rw [es, hk, pI_s]
            refine Ru.call (q := (.invokestatic 46, 3)) (j2 := 47) (by decide +kernel) rfl rfl rfl rfl ⟨Nat.le_of_ble_eq_true rfl, Nat.le_of_ble_eq_true rfl, Nat.le_of_ble_eq_true rfl, Nat.le_of_ble_eq_true rfl⟩ (hS5.up (by decide) (by decide)) ?_
            refine Ru.br (k := .ne) (off := 5) (bb := false) (tg := 161) (by decide +kernel) (by decide +kernel) (by rw [h5]; decide) rfl ?_
            refine Ru.op (q := (.iconst 0, 1)) (by decide +kernel) rfl ?_
            exact Ru.iret (by decide +kernel) rfl rfl
          · rw [if_pos rfl]
            refine Ru.op (q := (.iload 7, 2)) (by decide +kernel) rfl ?_
            refine Ru.op (q := (.aload_n 1, 1)) (by decide +kernel) rfl ?_
            refine Ru.get (i := 35) (by decide +kernel) (by rfl) (ga t s) (by decide) (rfl) ?_
            refine Ru.op (q := (.iload_n 2, 1)) (by decide +kernel) rfl ?_
            refine Ru.op (q := (.iconst 1, 1)) (by decide +kernel) rfl ?_
            refine Ru.op (q := (.iadd, 1)) (by decide +kernel) rfl ?_
            refine Ru.ild (n := (l + 1)) (by decide +kernel) (gs t s) (nI_1 l) (hl) (by omega) ?_
            refine Ru.br2 (k := .ge) (off := 135) (bb := false) (tg := 41) (by decide +kernel) (by decide +kernel) (by rw [cmp_ge (by omega) (by omega)]; exact decide_eq_false (by omega)) rfl ?_
            refine Ru.op (q := (.aload_n 1, 1)) (by decide +kernel) rfl ?_
            refine Ru.get (i := 38) (by decide +kernel) (by rfl) (ga t s) (by decide) (rfl) ?_
            refine Ru.op (q := (.iload 7, 2)) (by decide +kernel) rfl ?_
            refine Ru.ild (n := p) (by decide +kernel) (gb t s) (rfl) (by omega) (by omega) ?_
            refine Ru.op (q := (.istore 8, 2)) (by decide +kernel) rfl ?_
            refine Ru.op (q := (.iload 5, 2)) (by decide +kernel) rfl ?_
            refine Ru.op (q := (.iload 6, 2)) (by decide +kernel) rfl ?_
            refine Ru.br2 (k := .lt) (off := 5) (bb := true) (tg := 59) (by decide +kernel) (by decide +kernel) (by rw [cmp_lt (by omega) (by omega)]; exact decide_eq_true (by omega)) rfl ?_
            refine Ru.op (q := (.iload 8, 2)) (by decide +kernel) rfl ?_
            refine Ru.op (q := (.ldc 41, 2)) (by decide +kernel) rfl ?_
            refine Ru.br2 (k := .lt) (off := 23) (bb := true) (tg := 86) (by decide +kernel) (by decide +kernel) (by show mn_cmp .lt (nI (g p)) (nI 32768) = true; rw [cmp_lt (hg p) (by decide)]; exact decide_eq_true (by omega)) rfl ?_
            refine Ru.op (q := (.aload_n 3, 1)) (by decide +kernel) rfl ?_
            refine Ru.get (i := 38) (by decide +kernel) (by rfl) (gd t s) (by decide) (rfl) ?_
            refine Ru.op (q := (.iload 5, 2)) (by decide +kernel) rfl ?_
            refine Ru.op (q := (.iload 6, 2)) (by decide +kernel) rfl ?_
            refine Ru.call (q := (.invokestatic 42, 3)) (j2 := 57) (by decide +kernel) rfl rfl rfl rfl ⟨Nat.le_of_ble_eq_true rfl, Nat.le_of_ble_eq_true rfl, Nat.le_of_ble_eq_true rfl, Nat.le_of_ble_eq_true rfl⟩ ((eo_C (gb2 t s) hN hE (by omega)).up (by decide) (by decide)) ?_
            refine Ru.op (q := (.istore 9, 2)) (by decide +kernel) rfl ?_
            refine Ru.op (q := (.iload 8, 2)) (by decide +kernel) rfl ?_
            refine Ru.op (q := (.bipush 8, 2)) (by decide +kernel) rfl ?_
            refine Ru.op (q := (.ishr, 1)) (by decide +kernel) rfl ?_
            refine Ru.op (q := (.istore 10, 2)) (by decide +kernel) rfl ?_
            refine Ru.op (q := (.aload_n 0, 1)) (by decide +kernel) rfl ?_
            refine Ru.get (i := 11) (by decide +kernel) (by rfl) (gm t s) (by decide) (rfl) ?_
            refine Ru.op (q := (.iload 10, 2)) (by decide +kernel) rfl ?_
            refine Ru.ild (n := (g p / 256)) (by decide +kernel) (gt t s) (nI_shr8 (hg p)) (hv1) (by decide) ?_
            refine Ru.op (q := (.iconst (-1), 1)) (by decide +kernel) rfl ?_
            refine Ru.br2 (k := .ne) (off := 23) (bb := true) (tg := 137) (by decide +kernel) (by decide +kernel) (by rw [pI_ne (by have := ht (g p / 256); omega), decide_eq_false h4]; rfl) rfl ?_
            refine Ru.op (q := (.aload_n 3, 1)) (by decide +kernel) rfl ?_
            refine Ru.get (i := 38) (by decide +kernel) (by rfl) (gd t s) (by decide) (rfl) ?_
            refine Ru.op (q := (.aload_n 0, 1)) (by decide +kernel) rfl ?_
            refine Ru.get (i := 11) (by decide +kernel) (by rfl) (gm t s) (by decide) (rfl) ?_
            refine Ru.op (q := (.iload 10, 2)) (by decide +kernel) rfl ?_
            refine Ru.ild (n := (g p / 256)) (by decide +kernel) (gt t s) (nI_shr8 (hg p)) (hv1) (by decide) ?_
            refine Ru.op (q := (.iload 5, 2)) (by decide +kernel) rfl ?_
            refine Ru.op (q := (.iload 9, 2)) (by decide +kernel) rfl ?_
            refine Ru.op (q := (.iload 5, 2)) (by decide +kernel) rfl ?_
            refine Ru.op (q := (.isub, 1)) (by decide +kernel) rfl ?_
            show Ru none 20 2000 56 (155, [some (.ref 23), some (.ref a), some (.int (nI l)), some (.ref d), some (.int (nI mm)), some (.int (nI q)), some (.int (nI E)), some (.int (nI p)), _, _, _], [.int (nI (ce h (E - q) 1 q) - nI q), .int (nI q), .int (pI (t (g p / 256))), .ref b2], ns, lH hs t s) _
            rw [es, hk, pI_s]
            refine Ru.call (q := (.invokestatic 46, 3)) (j2 := 47) (by decide +kernel) rfl rfl rfl rfl ⟨Nat.le_of_ble_eq_true rfl, Nat.le_of_ble_eq_true rfl, Nat.le_of_ble_eq_true rfl, Nat.le_of_ble_eq_true rfl⟩ (hS5.up (by decide) (by decide)) ?_
            refine Ru.br (k := .ne) (off := 5) (bb := true) (tg := 163) (by decide +kernel) (by decide +kernel) (by rw [h5]; decide) rfl ?_
            refine Ru.op (q := (.iload 9, 2)) (by decide +kernel) rfl ?_
            refine Ru.op (q := (.istore 5, 2)) (by decide +kernel) rfl ?_
            refine Ru.op (q := (.iinc 7 1, 3)) (by decide +kernel) rfl ?_
            refine Ru.op (q := (.goto (-142), 3)) (by decide +kernel) rfl ?_
            show Ru none 20 2000 56 (28, [some (.ref 23), some (.ref a), some (.int (nI l)), some (.ref d), some (.int (nI mm)), some (.int (nI (ce h (E - q) 1 q))), some (.int (nI E)), some (.int (nI p + 1)), _, _, _], [], ns, lH hs t s) _
            rw [nI_1]
            exact ih (p + 1) _ _ _ _ _ _ (by omega) (by omega) ht
set_option maxRecDepth 100000 in
/-- Matcher.liesOn -/
theorem li_C {ns a b sa na wa d b2 sd nd wd Ma Na N l mm E : Nat} {hs : mn_H} {g h ca : Nat → Nat} {Md : Nat} {cd : Nat → Nat} {t s : Nat → Nat} (hm : hs[23]? = some cMt) (h24 : ∃ x, hs[24]? = some (50, x)) (h25 : ∃ x, hs[25]? = some (50, x)) (ha : hs[a]? = some (cCl b sa na wa)) (hb : hs[b]? = some (50, aN Na g)) (hsa : hs[sa]? = some (50, aN Ma ca)) (hd : hs[d]? = some (cCl b2 sd nd wd)) (hb2 : hs[b2]? = some (50, aN N h)) (kb : b < 24 ∨ 26 < b) (ks : sa < 24 ∨ 26 < sa) (kb2 : b2 < 24 ∨ 26 < b2) (hMa : Ma < 2 ^ 20) (hNa : Na < 2 ^ 20) (hN : N < 2 ^ 20) (hg : ∀ k, g k < 2 ^ 31) (hh : ∀ k, h k < 2 ^ 31) (hl : l + 1 < Ma) (hE : E ≤ N) (hP : ca (l + 1) ≤ Na) (hv : ∀ k, k < ca (l + 1) → g k < 32768 → g k / 256 < 64) (hsd : hs[sd]? = some (50, aN Md cd)) (hMd : Md < 2 ^ 20) (hmm : mm + 1 < Md) (hEd : cd (mm + 1) = E) (hq : cd mm ≤ N) (hca : ca l ≤ ca (l + 1)) (ht : ∀ k, t k < 2 ^ 20) (e0 : lH hs t s = hs) : Ru none 20 2000 56 (0, mn_pad (mn_ent [.ref 23, .ref a, .int (nI l), .ref d, .int (nI mm)]) 11, [], ns, hs) ((0, some (.int (bI (li g h E N l (ca (l + 1) - ca l) (ca l) (cd mm) t s).1))), ns, lH hs (li g h E N l (ca (l + 1) - ca l) (ca l) (cd mm) t s).2.1 (li g h E N l (ca (l + 1) - ca l) (ca l) (cd mm) t s).2.2) := by
  have h := li_loop (ns := ns) (mm := mm) hm h24 h25 ha hb hsa hd hb2 kb ks kb2 hMa hNa hN hg hh hl hE hP hv (ca (l + 1) - ca l) (ca l) (cd mm) t s none none none (by omega) hq ht
  rw [e0] at h
  refine Ru.op (q := (.aload_n 3, 1)) (by decide +kernel) rfl ?_
  refine Ru.get (i := 35) (by decide +kernel) (by rfl) (hd) (by decide) (rfl) ?_
  refine Ru.op (q := (.iload 4, 2)) (by decide +kernel) rfl ?_
  refine Ru.ild (n := mm) (by decide +kernel) (hsd) (rfl) (by omega) (by omega) ?_
  refine Ru.op (q := (.istore 5, 2)) (by decide +kernel) rfl ?_
  refine Ru.op (q := (.aload_n 3, 1)) (by decide +kernel) rfl ?_
  refine Ru.get (i := 35) (by decide +kernel) (by rfl) (hd) (by decide) (rfl) ?_
  refine Ru.op (q := (.iload 4, 2)) (by decide +kernel) rfl ?_
  refine Ru.op (q := (.iconst 1, 1)) (by decide +kernel) rfl ?_
  refine Ru.op (q := (.iadd, 1)) (by decide +kernel) rfl ?_
  refine Ru.ild (n := (mm + 1)) (by decide +kernel) (hsd) (nI_1 mm) (by omega) (by omega) ?_
  refine Ru.op (q := (.istore 6, 2)) (by decide +kernel) rfl ?_
  refine Ru.op (q := (.aload_n 1, 1)) (by decide +kernel) rfl ?_
  refine Ru.get (i := 35) (by decide +kernel) (by rfl) (ha) (by decide) (rfl) ?_
  refine Ru.op (q := (.iload_n 2, 1)) (by decide +kernel) rfl ?_
  refine Ru.ild (n := l) (by decide +kernel) (hsa) (rfl) (by omega) (by omega) ?_
  refine Ru.op (q := (.istore 7, 2)) (by decide +kernel) rfl ?_
  subst hEd
  exact h
