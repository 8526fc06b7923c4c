def ty_HM (hs : mn_H) (a c t : Nat) (mv tv : List Value) (v : Int64) (i : Nat) : mn_H := (hs.set c (50, ty_w tv t v i)).set a (10, (mv.set 0 (.int 0)).set 2 (.int (nI (t + i))))
set_option maxRecDepth 100000 in
set_option maxHeartbeats 4000000 in
theorem ty_m3 {ns a c t n : Nat} {hs : mn_H} {v : Int64} {mv tv : List Value} (ha : hs[a]? = some (10, mv)) (hml : mv.length = 59) (hmt : mv[2]? = some (.int (nI t))) (hmc : mv[3]? = some (.ref c)) (hc : hs[c]? = some (50, tv)) (hcl : tv.length = 160) (hn : n ≤ 8) (ht : t + n ≤ 160) : ∀ (m i : Nat) (x5 : Option Value), i + m = n → Ru none 2047 83975 95 (119, [some (.ref a), some (.long v), none, some (.int (nI n)), some (.int (nI i)), x5], [], ns, ty_HM hs a c t mv tv v i) ((0, some (.int (nI (t + n)))), ns, ty_HM hs a c t mv tv v n) := by
  have hac : a ≠ c := h_ne ha hc (Nat.ne_of_beq_eq_false rfl)
  have ga : ∀ i, (ty_HM hs a c t mv tv v i)[a]? = some (10, (mv.set 0 (.int 0)).set 2 (.int (nI (t + i)))) := fun i => by unfold ty_HM; exact h_set (x := (10, mv)) (by rw [h_oth (fun e => hac e.symm)]; exact ha)
  have gc : ∀ i, (ty_HM hs a c t mv tv v i)[c]? = some (50, ty_w tv t v i) := fun i => by unfold ty_HM; rw [h_oth hac]; exact h_set hc
  have g2 : (mv.set 0 (.int 0))[2]? = some (.int (nI t)) := (v_oth (by decide)).trans hmt
  have g3 : (mv.set 0 (.int 0))[3]? = some (.ref c) := (v_oth (by decide)).trans hmc
  intro m
  induction m with
  | zero =>
    intro i x5 hi
    have hi8 : i = n := by omega
    subst hi8
    refine Ru.op (q := (.iload 4, 2)) (by decide +kernel) rfl ?_
    refine Ru.op (q := (.iload_n 3, 1)) (by decide +kernel) rfl ?_
    refine Ru.br2 (k := .ge) (off := 40) (bb := true) (tg := 162) (by decide +kernel) (by decide +kernel) (by rw [cmp_ge (by omega) (by omega)]; exact decide_eq_true (Nat.le_refl _)) rfl ?_
    refine Ru.op (q := (.aload_n 0, 1)) (by decide +kernel) rfl ?_
    refine Ru.get (i := 129) (by decide +kernel) (by rfl) (ga i) (by decide) (v_set g2) ?_
    exact Ru.iret (by decide +kernel) rfl rfl
  | succ m ih =>
    intro i x5 hi
    refine Ru.op (q := (.iload 4, 2)) (by decide +kernel) rfl ?_
    refine Ru.op (q := (.iload_n 3, 1)) (by decide +kernel) rfl ?_
    refine Ru.br2 (k := .ge) (off := 40) (bb := false) (tg := 125) (by decide +kernel) (by decide +kernel) (by rw [cmp_ge (by omega) (by omega)]; exact decide_eq_false (by omega)) rfl ?_
    refine Ru.op (q := (.aload_n 0, 1)) (by decide +kernel) rfl ?_
    refine Ru.get (i := 13) (by decide +kernel) (by rfl) (ga i) (by decide) ((v_oth (by decide)).trans g3) ?_
    refine Ru.op (q := (.aload_n 0, 1)) (by decide +kernel) rfl ?_
    refine Ru.get (i := 129) (by decide +kernel) (by rfl) (ga i) (by decide) (v_set g2) ?_
    refine Ru.op (q := (.lload_n 1, 1)) (by decide +kernel) rfl ?_
    refine Ru.op (q := (.bipush 8, 2)) (by decide +kernel) rfl ?_
    refine Ru.op (q := (.iload 4, 2)) (by decide +kernel) rfl ?_
    refine Ru.op (q := (.imul, 1)) (by decide +kernel) rfl ?_
    refine Ru.op (q := (.lushr, 1)) (by decide +kernel) rfl ?_
    refine Ru.op (q := (.ldc2_w 123, 3)) (by decide +kernel) rfl ?_
    refine Ru.op (q := (.land, 1)) (by decide +kernel) rfl ?_
    show Ru none 2047 83975 95 (144, [some (.ref a), some (.long v), none, some (.int (nI n)), some (.int (nI i)), x5], [.long ((v.toUInt64 >>> (((Int8.ofInt 8).toInt32 * nI i).toInt64.toUInt64 &&& Int64.toUInt64 63)).toInt64 &&& Int64.ofInt 255), .int (nI (t + i)), .ref c], ns, ty_HM hs a c t mv tv v i) _
    rw [ty_B v (by omega)]
    refine Ru.op (q := (.l2i, 1)) (by decide +kernel) rfl ?_
    show Ru none 2047 83975 95 (145, [some (.ref a), some (.long v), none, some (.int (nI n)), some (.int (nI i)), x5], [.int (lN (ty_b v i)).toInt32, .int (nI (t + i)), .ref c], ns, ty_HM hs a c t mv tv v i) _
    rw [lN_i]
    refine Ru.iast (n := t + i) (by decide +kernel) (gc i) rfl (by omega) (by rw [ty_w_len]; omega) ?_
    refine Ru.op (q := (.aload_n 0, 1)) (by decide +kernel) rfl ?_
    refine Ru.op (q := (.dup, 1)) (by decide +kernel) rfl ?_
    refine Ru.get (i := 129) (by decide +kernel) (by rfl) ((h_oth (fun e => hac e.symm)).trans (ga i)) (by decide) (v_set g2) ?_
    refine Ru.op (q := (.iconst 1, 1)) (by decide +kernel) rfl ?_
    refine Ru.op (q := (.iadd, 1)) (by decide +kernel) rfl ?_
    refine Ru.put (i := 129) (by decide +kernel) (by rfl) ((h_oth (fun e => hac e.symm)).trans (ga i)) (by decide) (by rw [List.length_set, List.length_set, hml]; decide) (by rfl) (by decide +kernel) ?_
    refine Ru.op (q := (.iinc 4 1, 3)) (by decide +kernel) rfl ?_
    refine Ru.op (q := (.goto (-40), 3)) (by decide +kernel) rfl ?_
    have e : (((ty_HM hs a c t mv tv v i).set c (50, (ty_w tv t v i).set (t + i) (.int (nI (ty_b v i))))).set a (10, ((mv.set 0 (.int 0)).set 2 (.int (nI (t + i)))).set 2 (.int (nI (t + i) + 1)))) = ty_HM hs a c t mv tv v (i + 1) := by
      unfold ty_HM
      rw [h_upd (fun e => hac e.symm), List.set_set, nI_1]
      rfl
    show Ru none 2047 83975 95 (119, [some (.ref a), some (.long v), none, some (.int (nI n)), some (.int (nI i + 1)), x5], [], ns, (((ty_HM hs a c t mv tv v i).set c (50, (ty_w tv t v i).set (t + i) (.int (nI (ty_b v i))))).set a (10, ((mv.set 0 (.int 0)).set 2 (.int (nI (t + i)))).set 2 (.int (nI (t + i) + 1))))) _
    rw [e, nI_1]
    exact ih (i + 1) x5 (by omega)
set_option maxRecDepth 100000 in
set_option maxHeartbeats 4000000 in
theorem ty_m2 {ns a c t n : Nat} {hs : mn_H} {v : Int64} {mv tv : List Value} (ha : hs[a]? = some (10, mv)) (hml : mv.length = 59) (hmt : mv[2]? = some (.int (nI t))) (hmc : mv[3]? = some (.ref c)) (hc : hs[c]? = some (50, tv)) (hcl : tv.length = 160) (hn : n ≤ 8) (ht : t ≤ 160) (y4 y5 : Option Value) : (Ru none 2047 83975 95 (76, [some (.ref a), some (.long v), none, some (.int (nI n)), y4, y5], [], ns, (hs.set a (10, mv.set 0 (.int 1)))) ((0, some (.int 0)), ns, (hs.set a (10, mv.set 0 (.int 1))))) ∧ (160 < t + n → Ru none 2047 83975 95 (76, [some (.ref a), some (.long v), none, some (.int (nI n)), y4, y5], [], ns, (hs.set a (10, mv.set 0 (.int 0)))) ((0, some (.int 0)), ns, (hs.set a (10, mv.set 0 (.int 2))))) ∧ (t + n ≤ 160 → Ru none 2047 83975 95 (76, [some (.ref a), some (.long v), none, some (.int (nI n)), y4, y5], [], ns, (hs.set a (10, mv.set 0 (.int 0)))) ((0, some (.int (nI (t + n)))), ns, ty_HM hs a c t mv tv v n)) := by
  have g : ∀ f : Int32, (hs.set a (10, mv.set 0 (.int f)))[a]? = some (10, mv.set 0 (.int f)) := fun f => h_set ha
  have g0 : ∀ f : Int32, (mv.set 0 (.int f))[0]? = some (.int f) := fun f => v_set (x := mv[0]) (List.getElem?_eq_getElem _)
  have g2 : ∀ f : Int32, (mv.set 0 (.int f))[2]? = some (.int (nI t)) := fun f => (v_oth (by decide)).trans hmt
  have e : ∀ f f' : Int32, (hs.set a (10, mv.set 0 (.int f))).set a (10, (mv.set 0 (.int f)).set 0 (.int f')) = (hs.set a (10, mv.set 0 (.int f'))) := fun f f' => by rw [List.set_set, List.set_set]
  refine ⟨?_, fun h => ?_, fun h => ?_⟩
  · refine Ru.op (q := (.aload_n 0, 1)) (by decide +kernel) rfl ?_
    refine Ru.op (q := (.aload_n 0, 1)) (by decide +kernel) rfl ?_
    refine Ru.get (i := 120) (by decide +kernel) (by rfl) (g 1) (by decide) (g0 1) ?_
    refine Ru.br (k := .ne) (off := 19) (bb := true) (tg := 100) (by decide +kernel) (by decide +kernel) (by decide +kernel) rfl ?_
    refine Ru.op (q := (.aload_n 0, 1)) (by decide +kernel) rfl ?_
    refine Ru.get (i := 120) (by decide +kernel) (by rfl) (g 1) (by decide) (g0 1) ?_
    refine Ru.put (i := 120) (by decide +kernel) (by rfl) (g 1) (by decide) (by rw [List.length_set, hml]; decide) (by rfl) (by decide +kernel) ?_
    show Ru none 2047 83975 95 (107, [some (.ref a), some (.long v), none, some (.int (nI n)), y4, y5], [], ns, ((hs.set a (10, mv.set 0 (.int 1))).set a (10, (mv.set 0 (.int 1)).set 0 (.int 1)))) _
    rw [e]
    refine Ru.op (q := (.aload_n 0, 1)) (by decide +kernel) rfl ?_
    refine Ru.get (i := 120) (by decide +kernel) (by rfl) (g 1) (by decide) (g0 1) ?_
    refine Ru.br (k := .le) (off := 5) (bb := false) (tg := 114) (by decide +kernel) (by decide +kernel) (by decide +kernel) rfl ?_
    refine Ru.op (q := (.iconst 0, 1)) (by decide +kernel) rfl ?_
    exact Ru.iret (by decide +kernel) rfl rfl
  · refine Ru.op (q := (.aload_n 0, 1)) (by decide +kernel) rfl ?_
    refine Ru.op (q := (.aload_n 0, 1)) (by decide +kernel) rfl ?_
    refine Ru.get (i := 120) (by decide +kernel) (by rfl) (g 0) (by decide) (g0 0) ?_
    refine Ru.br (k := .ne) (off := 19) (bb := false) (tg := 84) (by decide +kernel) (by decide +kernel) (by decide +kernel) rfl ?_
    refine Ru.op (q := (.aload_n 0, 1)) (by decide +kernel) rfl ?_
    refine Ru.get (i := 129) (by decide +kernel) (by rfl) (g 0) (by decide) (g2 0) ?_
    refine Ru.op (q := (.iload_n 3, 1)) (by decide +kernel) rfl ?_
    refine Ru.op (q := (.iadd, 1)) (by decide +kernel) rfl ?_
    refine Ru.op (q := (.sipush 160, 3)) (by decide +kernel) rfl ?_
    refine Ru.br2 (k := .le) (off := 7) (bb := false) (tg := 96) (by decide +kernel) (by decide +kernel) (by show mn_cmp .le (nI t + nI n) (nI 160) = false; rw [nI_add, cmp_le (by omega) (by omega)]; exact decide_eq_false (by omega)) rfl ?_
    refine Ru.op (q := (.iconst 2, 1)) (by decide +kernel) rfl ?_
    refine Ru.op (q := (.goto 7, 3)) (by decide +kernel) rfl ?_
    refine Ru.put (i := 120) (by decide +kernel) (by rfl) (g 0) (by decide) (by rw [List.length_set, hml]; decide) (by rfl) (by decide +kernel) ?_
    show Ru none 2047 83975 95 (107, [some (.ref a), some (.long v), none, some (.int (nI n)), y4, y5], [], ns, ((hs.set a (10, mv.set 0 (.int 0))).set a (10, (mv.set 0 (.int 0)).set 0 (.int 2)))) _
    rw [e]
    refine Ru.op (q := (.aload_n 0, 1)) (by decide +kernel) rfl ?_
    refine Ru.get (i := 120) (by decide +kernel) (by rfl) (g 2) (by decide) (g0 2) ?_
    refine Ru.br (k := .le) (off := 5) (bb := false) (tg := 114) (by decide +kernel) (by decide +kernel) (by decide +kernel) rfl ?_
    refine Ru.op (q := (.iconst 0, 1)) (by decide +kernel) rfl ?_
    exact Ru.iret (by decide +kernel) rfl rfl
  · refine Ru.op (q := (.aload_n 0, 1)) (by decide +kernel) rfl ?_
    refine Ru.op (q := (.aload_n 0, 1)) (by decide +kernel) rfl ?_
    refine Ru.get (i := 120) (by decide +kernel) (by rfl) (g 0) (by decide) (g0 0) ?_
    refine Ru.br (k := .ne) (off := 19) (bb := false) (tg := 84) (by decide +kernel) (by decide +kernel) (by decide +kernel) rfl ?_
    refine Ru.op (q := (.aload_n 0, 1)) (by decide +kernel) rfl ?_
    refine Ru.get (i := 129) (by decide +kernel) (by rfl) (g 0) (by decide) (g2 0) ?_
    refine Ru.op (q := (.iload_n 3, 1)) (by decide +kernel) rfl ?_
    refine Ru.op (q := (.iadd, 1)) (by decide +kernel) rfl ?_
    refine Ru.op (q := (.sipush 160, 3)) (by decide +kernel) rfl ?_
    refine Ru.br2 (k := .le) (off := 7) (bb := true) (tg := 100) (by decide +kernel) (by decide +kernel) (by show mn_cmp .le (nI t + nI n) (nI 160) = true; rw [nI_add, cmp_le (by omega) (by omega)]; exact decide_eq_true h) rfl ?_
    refine Ru.op (q := (.aload_n 0, 1)) (by decide +kernel) rfl ?_
    refine Ru.get (i := 120) (by decide +kernel) (by rfl) (g 0) (by decide) (g0 0) ?_
    refine Ru.put (i := 120) (by decide +kernel) (by rfl) (g 0) (by decide) (by rw [List.length_set, hml]; decide) (by rfl) (by decide +kernel) ?_
    show Ru none 2047 83975 95 (107, [some (.ref a), some (.long v), none, some (.int (nI n)), y4, y5], [], ns, ((hs.set a (10, mv.set 0 (.int 0))).set a (10, (mv.set 0 (.int 0)).set 0 (.int 0)))) _
    rw [e]
    refine Ru.op (q := (.aload_n 0, 1)) (by decide +kernel) rfl ?_
    refine Ru.get (i := 120) (by decide +kernel) (by rfl) (g 0) (by decide) (g0 0) ?_
    refine Ru.br (k := .le) (off := 5) (bb := true) (tg := 116) (by decide +kernel) (by decide +kernel) (by decide +kernel) rfl ?_
    refine Ru.op (q := (.iconst 0, 1)) (by decide +kernel) rfl ?_
    refine Ru.op (q := (.istore 4, 2)) (by decide +kernel) rfl ?_
    have e0 : (hs.set a (10, mv.set 0 (.int 0))) = ty_HM hs a c t mv tv v 0 := by
      unfold ty_HM
      show _ = (hs.set c (50, tv)).set a (10, (mv.set 0 (.int 0)).set 2 (.int (nI t)))
      rw [v_self (g2 0), h_self hc]
    show Ru none 2047 83975 95 (119, [some (.ref a), some (.long v), none, some (.int (nI n)), some (.int (nI 0)), y5], [], ns, (hs.set a (10, mv.set 0 (.int 0)))) _
    rw [e0]
    exact ty_m3 ha hml hmt hmc hc hcl hn h n 0 y5 (by omega)
theorem ty_g_le {b : Nat → Nat} : ∀ m i f, (ty_g b m i f).1 ≤ i + m := by
  intro m
  induction m with
  | zero => intro i f; exact Nat.le_refl _
  | succ m ih =>
    intro i f
    unfold ty_g
    split
    · exact Nat.le_add_right _ _
    · have := ih (i + 1) (if ty_bad (b i) = true then 1 else f); omega
set_option maxRecDepth 100000 in
set_option maxHeartbeats 4000000 in
/-- the model's type -/
theorem ty_M {ns a c t : Nat} {hs : mn_H} {v : Int64} {mv tv : List Value} (ha : hs[a]? = some (10, mv)) (hml : mv.length = 59) (hmt : mv[2]? = some (.int (nI t))) (hmc : mv[3]? = some (.ref c)) (hc : hs[c]? = some (50, tv)) (hcl : tv.length = 160) (ht : t ≤ 160) : (ty_f (ty_b v) 8 0 = none → Ru none 2047 83975 95 (0, mn_pad (mn_ent [.ref a, .long v]) 6, [], ns, hs) ((0, some (.int 0)), ns, (hs.set a (10, mv.set 0 (.int 1))))) ∧ (∀ n, ty_f (ty_b v) 8 0 = some n → (t + n ≤ 160 → Ru none 2047 83975 95 (0, mn_pad (mn_ent [.ref a, .long v]) 6, [], ns, hs) ((0, some (.int (nI (t + n)))), ns, ty_HM hs a c t mv tv v n)) ∧ (160 < t + n → Ru none 2047 83975 95 (0, mn_pad (mn_ent [.ref a, .long v]) 6, [], ns, hs) ((0, some (.int 0)), ns, (hs.set a (10, mv.set 0 (.int 2)))))) := by
  have st : ∀ r, (∀ y4 y5, Ru none 2047 83975 95 (76, [some (.ref a), some (.long v), none, some (.int (nI (ty_g (ty_b v) 8 0 0).1)), y4, y5], [], ns, (hs.set a (10, mv.set 0 (.int (ty_g (ty_b v) 8 0 0).2)))) r) → Ru none 2047 83975 95 (0, mn_pad (mn_ent [.ref a, .long v]) 6, [], ns, hs) r := by
    intro r h
    refine Ru.op (q := (.iconst 0, 1)) (by decide +kernel) rfl ?_
    refine Ru.op (q := (.istore_n 3, 1)) (by decide +kernel) rfl ?_
    refine Ru.op (q := (.aload_n 0, 1)) (by decide +kernel) rfl ?_
    refine Ru.op (q := (.iconst 0, 1)) (by decide +kernel) rfl ?_
    refine Ru.put (i := 120) (by decide +kernel) (by rfl) (ha) (by decide) (by rw [hml]; decide) (by rfl) (by decide +kernel) ?_
    exact ty_m1 ha hml 8 0 0 none none rfl h
  have hle := ty_g_le (b := ty_b v) 8 0 0
  refine ⟨fun h => st _ fun y4 y5 => ?_, fun n h => ?_⟩
  · rw [(ty_fg 8 0).1 h]
    exact (ty_m2 ha hml hmt hmc hc hcl (by omega) ht y4 y5).1
  · have hg := (ty_fg 8 0).2 n h
    rw [hg] at st hle
    exact ⟨fun h2 => st _ fun y4 y5 => (ty_m2 ha hml hmt hmc hc hcl (by omega) ht y4 y5).2.2 h2, fun h2 => st _ fun y4 y5 => (ty_m2 ha hml hmt hmc hc hcl (by omega) ht y4 y5).2.1 h2⟩
