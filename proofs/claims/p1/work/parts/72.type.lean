/-- the model's count, and its mark -/
def ty_g (b : Nat → Nat) : Nat → Nat → Int32 → Nat × Int32
  | 0, i, f => (i, f)
  | m + 1, i, f => if b i = 0 then (i, f) else ty_g b m (i + 1) (if ty_bad (b i) then 1 else f)
theorem ty_g1 {b : Nat → Nat} : ∀ m i, (ty_g b m i 1).2 = 1 := by
  intro m
  induction m with
  | zero => intro i; rfl
  | succ m ih =>
    intro i
    unfold ty_g
    split
    · rfl
    · have e : (if ty_bad (b i) = true then (1 : Int32) else 1) = 1 := by split <;> rfl
      rw [e]
      exact ih _
theorem ty_fg {b : Nat → Nat} : ∀ m i, (ty_f b m i = none → (ty_g b m i 0).2 = 1) ∧ (∀ n, ty_f b m i = some n → ty_g b m i 0 = (n, 0)) := by
  intro m
  induction m with
  | zero => intro i; exact ⟨fun h => (by cases h), fun n h => by cases h; rfl⟩
  | succ m ih =>
    intro i
    unfold ty_f ty_g
    by_cases h0 : b i = 0
    · rw [if_pos h0, if_pos h0]
      exact ⟨fun h => (by cases h), fun n h => by cases h; rfl⟩
    · rw [if_neg h0, if_neg h0]
      cases hb : ty_bad (b i)
      · exact ih (i + 1)
      · exact ⟨fun _ => ty_g1 m (i + 1), fun n h => (by cases h)⟩
set_option maxRecDepth 100000 in
set_option maxHeartbeats 4000000 in
theorem ty_m1h {ns a : Nat} {hs : mn_H} {v : Int64} {mv : List Value} {i : Nat} {f : Int32} {x4 x5 : Option Value} {r : mn_A} (hi : i < 8) (h : Ru none 2047 83975 95 (25, [some (.ref a), some (.long v), none, some (.int (nI i)), x4, x5], [.int (lg_cmp (lN (ty_b v i)) (Int64.ofNat 0))], ns, (hs.set a (10, mv.set 0 (.int f)))) r) : Ru none 2047 83975 95 (7, [some (.ref a), some (.long v), none, some (.int (nI i)), x4, x5], [], ns, (hs.set a (10, mv.set 0 (.int f)))) r := by
  refine Ru.op (q := (.iload_n 3, 1)) (by decide +kernel) rfl ?_
  refine Ru.op (q := (.bipush 8, 2)) (by decide +kernel) rfl ?_
  refine Ru.br2 (k := .ge) (off := 66) (bb := false) (tg := 13) (by decide +kernel) (by decide +kernel) (by rw [ty_c8 i (by omega)]; exact decide_eq_false (by omega)) rfl ?_
  refine Ru.op (q := (.lload_n 1, 1)) (by decide +kernel) rfl ?_
  refine Ru.op (q := (.bipush 8, 2)) (by decide +kernel) rfl ?_
  refine Ru.op (q := (.iload_n 3, 1)) (by decide +kernel) rfl ?_
  refine Ru.op (q := (.imul, 1)) (by decide +kernel) rfl ?_
  refine Ru.op (q := (.lushr, 1)) (by decide +kernel) rfl ?_
  refine Ru.op (q := (.ldc2_w 123, 3)) (by decide +kernel) rfl ?_
  refine Ru.op (q := (.land, 1)) (by decide +kernel) rfl ?_
  show Ru none 2047 83975 95 (23, [some (.ref a), some (.long v), none, some (.int (nI i)), x4, x5], [.long ((v.toUInt64 >>> (((Int8.ofInt 8).toInt32 * nI i).toInt64.toUInt64 &&& Int64.toUInt64 63)).toInt64 &&& Int64.ofInt 255)], ns, (hs.set a (10, mv.set 0 (.int f)))) r
  rw [ty_B v hi]
  refine Ru.op (q := (.lconst 0, 1)) (by decide +kernel) rfl ?_
  refine Ru.op (q := (.lcmp, 1)) (by decide +kernel) rfl ?_
  exact h
set_option maxRecDepth 100000 in
set_option maxHeartbeats 4000000 in
theorem ty_m1s {ns a : Nat} {hs : mn_H} {v : Int64} {mv : List Value} {i : Nat} {f : Int32} {x4 x5 : Option Value} {r : mn_A} (ha : hs[a]? = some (10, mv)) (hml : mv.length = 59) (hi : i < 8) (h0 : ¬ ty_b v i = 0) (h : ∀ y4 y5, Ru none 2047 83975 95 (7, [some (.ref a), some (.long v), none, some (.int (nI (i + 1))), y4, y5], [], ns, (hs.set a (10, mv.set 0 (.int (if ty_bad (ty_b v i) = true then 1 else f))))) r) : Ru none 2047 83975 95 (7, [some (.ref a), some (.long v), none, some (.int (nI i)), x4, x5], [], ns, (hs.set a (10, mv.set 0 (.int f)))) r := by
  have hb := ty_b_lt v i
  have g : (hs.set a (10, mv.set 0 (.int f)))[a]? = some (10, mv.set 0 (.int f)) := h_set ha
  have e : ∀ f' : Int32, (hs.set a (10, mv.set 0 (.int f))).set a (10, (mv.set 0 (.int f)).set 0 (.int f')) = (hs.set a (10, mv.set 0 (.int f'))) := fun f' => by rw [List.set_set, List.set_set]
  refine ty_m1h hi ?_
  refine Ru.br (k := .eq) (off := 51) (bb := false) (tg := 28) (by decide +kernel) (by decide +kernel) (by rw [ty_d0 _ hb]; exact decide_eq_false h0) rfl ?_
  refine Ru.op (q := (.lload_n 1, 1)) (by decide +kernel) rfl ?_
  refine Ru.op (q := (.bipush 8, 2)) (by decide +kernel) rfl ?_
  refine Ru.op (q := (.iload_n 3, 1)) (by decide +kernel) rfl ?_
  refine Ru.op (q := (.imul, 1)) (by decide +kernel) rfl ?_
  refine Ru.op (q := (.lushr, 1)) (by decide +kernel) rfl ?_
  refine Ru.op (q := (.ldc2_w 123, 3)) (by decide +kernel) rfl ?_
  refine Ru.op (q := (.land, 1)) (by decide +kernel) rfl ?_
  show Ru none 2047 83975 95 (38, [some (.ref a), some (.long v), none, some (.int (nI i)), x4, x5], [.long ((v.toUInt64 >>> (((Int8.ofInt 8).toInt32 * nI i).toInt64.toUInt64 &&& Int64.toUInt64 63)).toInt64 &&& Int64.ofInt 255)], ns, (hs.set a (10, mv.set 0 (.int f)))) r
  rw [ty_B v hi]
  refine Ru.op (q := (.lstore 4, 2)) (by decide +kernel) rfl ?_
  refine Ru.op (q := (.aload_n 0, 1)) (by decide +kernel) rfl ?_
  refine Ru.op (q := (.lload 4, 2)) (by decide +kernel) rfl ?_
  refine Ru.op (q := (.ldc2_w 125, 3)) (by decide +kernel) rfl ?_
  refine Ru.op (q := (.lcmp, 1)) (by decide +kernel) rfl ?_
  by_cases h33 : ty_b v i < 33
  · refine Ru.br (k := .lt) (off := 12) (bb := true) (tg := 59) (by decide +kernel) (by decide +kernel) (by rw [ty_d1 _ hb]; exact decide_eq_true h33) rfl ?_
    refine Ru.op (q := (.iconst 1, 1)) (by decide +kernel) rfl ?_
    refine Ru.op (q := (.goto 7, 3)) (by decide +kernel) rfl ?_
    refine Ru.put (i := 120) (by decide +kernel) (by rfl) (g) (by decide) (by rw [List.length_set, hml]; decide) (by rfl) (by decide +kernel) ?_
    refine Ru.op (q := (.iinc 3 1, 3)) (by decide +kernel) rfl ?_
    refine Ru.op (q := (.goto (-66), 3)) (by decide +kernel) rfl ?_
    show Ru none 2047 83975 95 (7, [some (.ref a), some (.long v), none, some (.int (nI i + 1)), some (.long (lN (ty_b v i))), none], [], ns, ((hs.set a (10, mv.set 0 (.int f))).set a (10, (mv.set 0 (.int f)).set 0 (.int 1)))) r
    rw [e, nI_1]
    have h9 := h (some (.long (lN (ty_b v i)))) none
    rw [if_pos (by unfold ty_bad; rw [decide_eq_true h33]; rfl)] at h9
    exact h9
  · by_cases h126 : 126 < ty_b v i
    · refine Ru.br (k := .lt) (off := 12) (bb := false) (tg := 50) (by decide +kernel) (by decide +kernel) (by rw [ty_d1 _ hb]; exact decide_eq_false h33) rfl ?_
      refine Ru.op (q := (.lload 4, 2)) (by decide +kernel) rfl ?_
      refine Ru.op (q := (.ldc2_w 127, 3)) (by decide +kernel) rfl ?_
      refine Ru.op (q := (.lcmp, 1)) (by decide +kernel) rfl ?_
      refine Ru.br (k := .le) (off := 7) (bb := false) (tg := 59) (by decide +kernel) (by decide +kernel) (by rw [ty_d2 _ hb, decide_eq_true h126]; rfl) rfl ?_
      refine Ru.op (q := (.iconst 1, 1)) (by decide +kernel) rfl ?_
      refine Ru.op (q := (.goto 7, 3)) (by decide +kernel) rfl ?_
      refine Ru.put (i := 120) (by decide +kernel) (by rfl) (g) (by decide) (by rw [List.length_set, hml]; decide) (by rfl) (by decide +kernel) ?_
      refine Ru.op (q := (.iinc 3 1, 3)) (by decide +kernel) rfl ?_
      refine Ru.op (q := (.goto (-66), 3)) (by decide +kernel) rfl ?_
      show Ru none 2047 83975 95 (7, [some (.ref a), some (.long v), none, some (.int (nI i + 1)), some (.long (lN (ty_b v i))), none], [], ns, ((hs.set a (10, mv.set 0 (.int f))).set a (10, (mv.set 0 (.int f)).set 0 (.int 1)))) r
      rw [e, nI_1]
      have h9 := h (some (.long (lN (ty_b v i)))) none
      rw [if_pos (by unfold ty_bad; rw [decide_eq_true h126, Bool.or_true])] at h9
      exact h9
    · refine Ru.br (k := .lt) (off := 12) (bb := false) (tg := 50) (by decide +kernel) (by decide +kernel) (by rw [ty_d1 _ hb]; exact decide_eq_false h33) rfl ?_
      refine Ru.op (q := (.lload 4, 2)) (by decide +kernel) rfl ?_
      refine Ru.op (q := (.ldc2_w 127, 3)) (by decide +kernel) rfl ?_
      refine Ru.op (q := (.lcmp, 1)) (by decide +kernel) rfl ?_
      refine Ru.br (k := .le) (off := 7) (bb := true) (tg := 63) (by decide +kernel) (by decide +kernel) (by rw [ty_d2 _ hb, decide_eq_false h126]; rfl) rfl ?_
      refine Ru.op (q := (.aload_n 0, 1)) (by decide +kernel) rfl ?_
      refine Ru.get (i := 120) (by decide +kernel) (by rfl) (g) (by decide) (v_set (x := mv[0]) (List.getElem?_eq_getElem _)) ?_
      refine Ru.put (i := 120) (by decide +kernel) (by rfl) (g) (by decide) (by rw [List.length_set, hml]; decide) (by rfl) (by decide +kernel) ?_
      refine Ru.op (q := (.iinc 3 1, 3)) (by decide +kernel) rfl ?_
      refine Ru.op (q := (.goto (-66), 3)) (by decide +kernel) rfl ?_
      show Ru none 2047 83975 95 (7, [some (.ref a), some (.long v), none, some (.int (nI i + 1)), some (.long (lN (ty_b v i))), none], [], ns, ((hs.set a (10, mv.set 0 (.int f))).set a (10, (mv.set 0 (.int f)).set 0 (.int f)))) r
      rw [e, nI_1]
      have h9 := h (some (.long (lN (ty_b v i)))) none
      rw [if_neg (by unfold ty_bad; rw [decide_eq_false h33, decide_eq_false h126]; decide)] at h9
      exact h9
set_option maxRecDepth 100000 in
set_option maxHeartbeats 4000000 in
theorem ty_m1 {ns a : Nat} {hs : mn_H} {v : Int64} {mv : List Value} (ha : hs[a]? = some (10, mv)) (hml : mv.length = 59) {r : mn_A} : ∀ (m i : Nat) (f : Int32) (x4 x5 : Option Value), i + m = 8 → (∀ y4 y5, Ru none 2047 83975 95 (76, [some (.ref a), some (.long v), none, some (.int (nI (ty_g (ty_b v) m i f).1)), y4, y5], [], ns, (hs.set a (10, mv.set 0 (.int (ty_g (ty_b v) m i f).2)))) r) → Ru none 2047 83975 95 (7, [some (.ref a), some (.long v), none, some (.int (nI i)), x4, x5], [], ns, (hs.set a (10, mv.set 0 (.int f)))) r := by
  intro m
  induction m with
  | zero =>
    intro i f x4 x5 hi h
    have hi8 : i = 8 := by omega
    subst hi8
    refine Ru.op (q := (.iload_n 3, 1)) (by decide +kernel) rfl ?_
    refine Ru.op (q := (.bipush 8, 2)) (by decide +kernel) rfl ?_
    refine Ru.br2 (k := .ge) (off := 66) (bb := true) (tg := 76) (by decide +kernel) (by decide +kernel) (by decide +kernel) rfl ?_
    exact h x4 x5
  | succ m ih =>
    intro i f x4 x5 hi h
    by_cases h0 : ty_b v i = 0
    · unfold ty_g at h
      rw [if_pos h0] at h
      refine ty_m1h (by omega) ?_
      refine Ru.br (k := .eq) (off := 51) (bb := true) (tg := 76) (by decide +kernel) (by decide +kernel) (by rw [ty_d0 _ (ty_b_lt v i)]; exact decide_eq_true h0) rfl ?_
      exact h x4 x5
    · unfold ty_g at h
      rw [if_neg h0] at h
      exact ty_m1s ha hml (by omega) h0 fun y4 y5 => ih (i + 1) _ y4 y5 (by omega) h
