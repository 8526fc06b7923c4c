/-- the heap behind i signs written -/
def ty_H (hs : mn_H) (b c t : Nat) (bv cv : List Value) (v : Int64) (i : Nat) : mn_H := (hs.set c (52, ty_w cv t v i)).set b (1, bv.set 1 (.int (nI (t + i))))
set_option maxRecDepth 100000 in
set_option maxHeartbeats 4000000 in
theorem ty_l3 {ns a b c t n : Nat} {hs : mn_H} {v : Int64} {av bv cv : List Value} (ha : hs[a]? = some (0, av)) (hav : av[0]? = some (.ref b)) (hb : hs[b]? = some (1, bv)) (hbt : bv[1]? = some (.int (nI t))) (hbc : bv[0]? = some (.ref c)) (hc : hs[c]? = some (52, cv)) (hcl : cv.length = 160) (hn : n ≤ 8) (ht : t + n ≤ 160) : ∀ (m i : Nat) (x5 : Option Value), i + m = n → Ru none 2046 83951 17 (85, [some (.ref a), some (.long v), none, some (.int (nI n)), some (.int (nI i)), x5], [], ns, ty_H hs b c t bv cv v i) ((0, some (.int (nI (t + n)))), ns, ty_H hs b c t bv cv v n) := by
  have hab : a ≠ b := h_ne ha hb (Nat.ne_of_beq_eq_false rfl)
  have hac : a ≠ c := h_ne ha hc (Nat.ne_of_beq_eq_false rfl)
  have hbc2 : b ≠ c := h_ne hb hc (Nat.ne_of_beq_eq_false rfl)
  have ga : ∀ i, (ty_H hs b c t bv cv v i)[a]? = some (0, av) := fun i => by unfold ty_H; rw [h_oth (fun e => hab e.symm), h_oth (fun e => hac e.symm)]; exact ha
  have gb : ∀ i, (ty_H hs b c t bv cv v i)[b]? = some (1, bv.set 1 (.int (nI (t + i)))) := fun i => by unfold ty_H; exact h_set (x := (1, bv)) (by rw [h_oth (fun e => hbc2 e.symm)]; exact hb)
  have gc : ∀ i, (ty_H hs b c t bv cv v i)[c]? = some (52, ty_w cv t v i) := fun i => by unfold ty_H; rw [h_oth hbc2]; exact h_set hc
  intro m
  induction m with
  | zero =>
    intro i x5 hi
    have hi8 : i = n := by omega
    subst hi8
    refine Ru.op (q := (.iload 4, 2)) (by decide +kernel) rfl ?_
    refine Ru.op (q := (.iload_n 3, 1)) (by decide +kernel) rfl ?_
    refine Ru.br2 (k := .ge) (off := 44) (bb := true) (tg := 132) (by decide +kernel) (by decide +kernel) (by rw [cmp_ge (by omega) (by omega)]; exact decide_eq_true (Nat.le_refl _)) rfl ?_
    refine Ru.op (q := (.aload_n 0, 1)) (by decide +kernel) rfl ?_
    refine Ru.get (i := 12) (by decide +kernel) (by rfl) (ga i) (by decide) (hav) ?_
    refine Ru.get (i := 54) (by decide +kernel) (by rfl) (gb i) (by decide) (v_set hbt) ?_
    exact Ru.iret (by decide +kernel) rfl rfl
  | succ m ih =>
    intro i x5 hi
    refine Ru.op (q := (.iload 4, 2)) (by decide +kernel) rfl ?_
    refine Ru.op (q := (.iload_n 3, 1)) (by decide +kernel) rfl ?_
    refine Ru.br2 (k := .ge) (off := 44) (bb := false) (tg := 91) (by decide +kernel) (by decide +kernel) (by rw [cmp_ge (by omega) (by omega)]; exact decide_eq_false (by omega)) rfl ?_
    refine Ru.op (q := (.aload_n 0, 1)) (by decide +kernel) rfl ?_
    refine Ru.get (i := 12) (by decide +kernel) (by rfl) (ga i) (by decide) (hav) ?_
    refine Ru.get (i := 60) (by decide +kernel) (by rfl) (gb i) (by decide) ((v_oth (by decide)).trans hbc) ?_
    refine Ru.op (q := (.aload_n 0, 1)) (by decide +kernel) rfl ?_
    refine Ru.get (i := 12) (by decide +kernel) (by rfl) (ga i) (by decide) (hav) ?_
    refine Ru.get (i := 54) (by decide +kernel) (by rfl) (gb i) (by decide) (v_set hbt) ?_
    refine Ru.op (q := (.lload_n 1, 1)) (by decide +kernel) rfl ?_
    refine Ru.op (q := (.iload 4, 2)) (by decide +kernel) rfl ?_
    refine Ru.call (q := (.invokestatic 47, 3)) (by decide +kernel) rfl rfl rfl rfl ⟨Nat.le_of_ble_eq_true rfl, Nat.le_of_ble_eq_true rfl, Nat.le_of_ble_eq_true rfl, Nat.le_of_ble_eq_true rfl⟩ (ty_byteOf (k := i) (by omega)) ?_
    refine Ru.op (q := (.i2c, 1)) (by decide +kernel) rfl ?_
    refine Ru.cast (n := t + i) (by decide +kernel) (gc i) rfl (by omega) (by rw [ty_w_len]; omega) ?_
    rw [ty_i2c _ (ty_b_lt v i), ty_nar _ (ty_b_lt v i)]
    refine Ru.op (q := (.aload_n 0, 1)) (by decide +kernel) rfl ?_
    refine Ru.get (i := 12) (by decide +kernel) (by rfl) ((h_oth (fun e => hac e.symm)).trans (ga i)) (by decide) (hav) ?_
    refine Ru.op (q := (.dup, 1)) (by decide +kernel) rfl ?_
    refine Ru.get (i := 54) (by decide +kernel) (by rfl) ((h_oth (fun e => hbc2 e.symm)).trans (gb i)) (by decide) (v_set hbt) ?_
    refine Ru.op (q := (.iconst 1, 1)) (by decide +kernel) rfl ?_
    refine Ru.op (q := (.iadd, 1)) (by decide +kernel) rfl ?_
    refine Ru.put (i := 54) (by decide +kernel) (by rfl) ((h_oth (fun e => hbc2 e.symm)).trans (gb i)) (by decide) (by rw [List.length_set]; exact (List.getElem?_eq_some_iff.mp hbt).1) (by rfl) (by decide +kernel) ?_
    refine Ru.op (q := (.iinc 4 1, 3)) (by decide +kernel) rfl ?_
    refine Ru.op (q := (.goto (-44), 3)) (by decide +kernel) rfl ?_
    have e : (((ty_H hs b c t bv cv v i).set c (52, (ty_w cv t v i).set (t + i) (.int (nI (ty_b v i))))).set b (1, (bv.set 1 (.int (nI (t + i)))).set 1 (.int (nI (t + i) + 1)))) = ty_H hs b c t bv cv v (i + 1) := by
      unfold ty_H
      rw [h_upd (fun e => hbc2 e.symm), List.set_set, nI_1]
      rfl
    show Ru none 2046 83951 17 (85, [some (.ref a), some (.long v), none, some (.int (nI n)), some (.int (nI i + 1)), x5], [], ns, (((ty_H hs b c t bv cv v i).set c (52, (ty_w cv t v i).set (t + i) (.int (nI (ty_b v i))))).set b (1, (bv.set 1 (.int (nI (t + i)))).set 1 (.int (nI (t + i) + 1))))) _
    rw [e, nI_1]
    exact ih (i + 1) x5 (by omega)
set_option maxRecDepth 100000 in
set_option maxHeartbeats 4000000 in
theorem ty_l2 {ns a b c t n : Nat} {hs : mn_H} {v : Int64} {av bv cv : List Value} (ha : hs[a]? = some (0, av)) (hav : av[0]? = some (.ref b)) (hb : hs[b]? = some (1, bv)) (hbt : bv[1]? = some (.int (nI t))) (hbc : bv[0]? = some (.ref c)) (hc : hs[c]? = some (52, cv)) (hcl : cv.length = 160) (hn : n ≤ 8) (ht : t ≤ 160) (y : Option Value) : (t + n ≤ 160 → Ru none 2046 83951 17 (59, [some (.ref a), some (.long v), none, some (.int (nI n)), some (.int (nI n)), y], [], ns, hs) ((0, some (.int (nI (t + n)))), ns, ty_H hs b c t bv cv v n)) ∧ (160 < t + n → Ru none 2046 83951 17 (59, [some (.ref a), some (.long v), none, some (.int (nI n)), some (.int (nI n)), y], [], ns, hs) ((4, none), ns + 6, hs ++ [(99, [])])) := by
  have e0 : hs = ty_H hs b c t bv cv v 0 := by
    unfold ty_H
    show hs = (hs.set c (52, cv)).set b (1, bv.set 1 (.int (nI t)))
    rw [v_self hbt, h_self hc, h_self hb]
  constructor
  · intro h
    refine Ru.op (q := (.aload_n 0, 1)) (by decide +kernel) rfl ?_
    refine Ru.get (i := 12) (by decide +kernel) (by rfl) (ha) (by decide) (hav) ?_
    refine Ru.get (i := 54) (by decide +kernel) (by rfl) (hb) (by decide) (hbt) ?_
    refine Ru.op (q := (.iload_n 3, 1)) (by decide +kernel) rfl ?_
    refine Ru.op (q := (.iadd, 1)) (by decide +kernel) rfl ?_
    refine Ru.op (q := (.sipush 160, 3)) (by decide +kernel) rfl ?_
    refine Ru.br2 (k := .le) (off := 11) (bb := true) (tg := 82) (by decide +kernel) (by decide +kernel) (by show mn_cmp .le (nI t + nI n) (nI 160) = true; rw [nI_add, cmp_le (by omega) (by omega)]; exact decide_eq_true h) rfl ?_
    refine Ru.op (q := (.iconst 0, 1)) (by decide +kernel) rfl ?_
    refine Ru.op (q := (.istore 4, 2)) (by decide +kernel) rfl ?_
    show Ru none 2046 83951 17 (85, [some (.ref a), some (.long v), none, some (.int (nI n)), some (.int (nI 0)), y], [], ns, hs) _
    have h3 := ty_l3 (v := v) (ns := ns) ha hav hb hbt hbc hc hcl hn h n 0 y (by omega)
    rw [← e0] at h3
    exact h3
  · intro h
    refine Ru.op (q := (.aload_n 0, 1)) (by decide +kernel) rfl ?_
    refine Ru.get (i := 12) (by decide +kernel) (by rfl) (ha) (by decide) (hav) ?_
    refine Ru.get (i := 54) (by decide +kernel) (by rfl) (hb) (by decide) (hbt) ?_
    refine Ru.op (q := (.iload_n 3, 1)) (by decide +kernel) rfl ?_
    refine Ru.op (q := (.iadd, 1)) (by decide +kernel) rfl ?_
    refine Ru.op (q := (.sipush 160, 3)) (by decide +kernel) rfl ?_
    refine Ru.br2 (k := .le) (off := 11) (bb := false) (tg := 74) (by decide +kernel) (by decide +kernel) (by show mn_cmp .le (nI t + nI n) (nI 160) = false; rw [nI_add, cmp_le (by omega) (by omega)]; exact decide_eq_false (by omega)) rfl ?_
    exact Ru.thr (q := (.new 57, 3)) (by decide +kernel) rfl rfl (by decide +kernel)
set_option maxRecDepth 100000 in
set_option maxHeartbeats 4000000 in
/-- RefutationDesk.type -/
theorem ty_C {ns a b c t : Nat} {hs : mn_H} {v : Int64} {av bv cv : List Value} (ha : hs[a]? = some (0, av)) (hav : av[0]? = some (.ref b)) (hb : hs[b]? = some (1, bv)) (hbt : bv[1]? = some (.int (nI t))) (hbc : bv[0]? = some (.ref c)) (hc : hs[c]? = some (52, cv)) (hcl : cv.length = 160) (ht : t ≤ 160) : (ty_f (ty_b v) 8 0 = none → Ru none 2046 83951 17 (0, mn_pad (mn_ent [.ref a, .long v]) 6, [], ns, hs) ((1, none), ns + 6, hs ++ [(99, [])])) ∧ (∀ n, ty_f (ty_b v) 8 0 = some n → (t + n ≤ 160 → Ru none 2046 83951 17 (0, mn_pad (mn_ent [.ref a, .long v]) 6, [], ns, hs) ((0, some (.int (nI (t + n)))), ns, ty_H hs b c t bv cv v n)) ∧ (160 < t + n → Ru none 2046 83951 17 (0, mn_pad (mn_ent [.ref a, .long v]) 6, [], ns, hs) ((4, none), ns + 6, hs ++ [(99, [])]))) := by
  have st : ∀ r, Ru none 2046 83951 17 (5, [some (.ref a), some (.long v), none, some (.int (nI 0)), some (.int (nI 0)), none], [], ns, hs) r → Ru none 2046 83951 17 (0, mn_pad (mn_ent [.ref a, .long v]) 6, [], ns, hs) r := by
    intro r h
    refine Ru.op (q := (.iconst 0, 1)) (by decide +kernel) rfl ?_
    refine Ru.op (q := (.istore_n 3, 1)) (by decide +kernel) rfl ?_
    refine Ru.op (q := (.iconst 0, 1)) (by decide +kernel) rfl ?_
    refine Ru.op (q := (.istore 4, 2)) (by decide +kernel) rfl ?_
    exact h
  refine ⟨fun h => st _ ((ty_l1 8 0 none rfl).2 h), fun n h => ⟨fun h2 => ?_, fun h2 => ?_⟩⟩
  · exact st _ ((ty_l1 8 0 none rfl).1 n _ h fun y => (ty_l2 ha hav hb hbt hbc hc hcl (by have := ty_f_le _ _ _ h; omega) ht y).1 h2)
  · exact st _ ((ty_l1 8 0 none rfl).1 n _ h fun y => (ty_l2 ha hav hb hbt hbc hc hcl (by have := ty_f_le _ _ _ h; omega) ht y).2 h2)
