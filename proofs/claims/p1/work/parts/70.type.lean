theorem h_ne {hs : mn_H} {a b : Nat} {x y : mn_C} (ha : hs[a]? = some x) (hb : hs[b]? = some y) (h : x.1 ≠ y.1) : a ≠ b := by
  rintro rfl
  rw [ha] at hb
  cases hb
  exact h rfl
theorem h_set {hs : mn_H} {a : Nat} {x y : mn_C} (ha : hs[a]? = some x) : (hs.set a y)[a]? = some y := by
  have := (List.getElem?_eq_some_iff.mp ha).1
  rw [List.getElem?_set, if_pos rfl, if_pos this]
theorem h_oth {hs : mn_H} {a b : Nat} {y : mn_C} (h : a ≠ b) : (hs.set a y)[b]? = hs[b]? := by
  rw [List.getElem?_set, if_neg h]
theorem h_self {hs : mn_H} {a : Nat} {x : mn_C} (ha : hs[a]? = some x) : hs.set a x = hs := by
  apply List.ext_getElem?
  intro i
  rw [List.getElem?_set]
  split
  · next h =>
    subst h
    rw [if_pos (List.getElem?_eq_some_iff.mp ha).1, ha]
  · rfl
theorem h_upd {hs : mn_H} {b c : Nat} {X X' Y Y' : mn_C} (h : c ≠ b) : (((hs.set c X).set b Y).set c X').set b Y' = (hs.set c X').set b Y' := by
  rw [List.set_comm Y X' (fun e => h e.symm), List.set_set, List.set_set]
theorem v_set {vs : List Value} {k : Nat} {x y : Value} (h : vs[k]? = some x) : (vs.set k y)[k]? = some y := by
  have := (List.getElem?_eq_some_iff.mp h).1
  rw [List.getElem?_set, if_pos rfl, if_pos this]
theorem v_oth {vs : List Value} {k l : Nat} {y : Value} (h : k ≠ l) : (vs.set k y)[l]? = vs[l]? := by rw [List.getElem?_set, if_neg h]
theorem v_self {vs : List Value} {a : Nat} {x : Value} (ha : vs[a]? = some x) : vs.set a x = vs := by
  apply List.ext_getElem?
  intro i
  rw [List.getElem?_set]
  split
  · next h =>
    subst h
    rw [if_pos (List.getElem?_eq_some_iff.mp ha).1, ha]
  · rfl
theorem Ru.iret {sc : Option (List Int32)} {fr lo j pc : Nat} {xs : List (Option Value)} {ns : Nat} {hs : mn_H} {v : Int32} {ty : FieldType} (hd : decode (mt_code j) pc = .ok (.ireturn, 1)) (ht : mt_rt j = some ty) (hn : narrow ty (.int v) = .int v) : Ru sc fr lo j (pc, xs, [.int v], ns, hs) ((0, some (.int v)), ns, hs) := by
  refine Ru.end hd (by cases sc <;> rfl) ?_
  rw [ht]
  show (if narrow ty (Value.int v) = Value.int v then some (some (Value.int v)) else none) = _
  rw [if_pos hn]
theorem cmp_ge {a b : Nat} (ha : a < 2 ^ 31) (hb : b < 2 ^ 31) : mn_cmp .ge (nI a) (nI b) = decide (b ≤ a) := by
  unfold mn_cmp
  exact decide_eq_decide.mpr (nI_leI hb ha)
theorem cmp_le {a b : Nat} (ha : a < 2 ^ 31) (hb : b < 2 ^ 31) : mn_cmp .le (nI a) (nI b) = decide (a ≤ b) := by
  unfold mn_cmp
  exact decide_eq_decide.mpr (nI_leI ha hb)
/-- the bytes that stand ahead of the first zero; none where one of them is no sign -/
def ty_f (b : Nat → Nat) : Nat → Nat → Option Nat
  | 0, i => some i
  | m + 1, i => if b i = 0 then some i else if ty_bad (b i) then none else ty_f b m (i + 1)
theorem ty_f_le {b : Nat → Nat} : ∀ m i n, ty_f b m i = some n → n ≤ i + m := by
  intro m
  induction m with
  | zero => intro i n h; cases h; exact Nat.le_refl _
  | succ m ih =>
    intro i n h
    unfold ty_f at h
    split at h
    · cases h; omega
    · split at h
      · cases h
      · have := ih _ _ h; omega
/-- a text with n bytes of the word behind its place t -/
def ty_w (cv : List Value) (t : Nat) (v : Int64) : Nat → List Value
  | 0 => cv
  | i + 1 => (ty_w cv t v i).set (t + i) (.int (nI (ty_b v i)))
theorem ty_w_len (cv : List Value) (t : Nat) (v : Int64) (i : Nat) : (ty_w cv t v i).length = cv.length := by
  induction i with
  | zero => rfl
  | succ i ih => unfold ty_w; rw [List.length_set, ih]
set_option maxRecDepth 100000 in
theorem ty_byteOf {fr lo ns k : Nat} {hs : mn_H} {v : Int64} (hk : k < 8) : Ru none fr lo 18 (0, mn_pad (mn_ent [.long v, .int (nI k)]) 3, [], ns, hs) ((0, some (.int (nI (ty_b v k)))), ns, hs) := by
  refine Ru.op (q := (.lload_n 0, 1)) (by decide +kernel) rfl ?_
  refine Ru.op (q := (.bipush 8, 2)) (by decide +kernel) rfl ?_
  refine Ru.op (q := (.iload_n 2, 1)) (by decide +kernel) rfl ?_
  refine Ru.op (q := (.imul, 1)) (by decide +kernel) rfl ?_
  refine Ru.op (q := (.lushr, 1)) (by decide +kernel) rfl ?_
  refine Ru.op (q := (.l2i, 1)) (by decide +kernel) rfl ?_
  refine Ru.op (q := (.sipush 255, 3)) (by decide +kernel) rfl ?_
  refine Ru.op (q := (.iand, 1)) (by decide +kernel) rfl ?_
  show Ru none fr lo 18 (11, [some (.long v), none, some (.int (nI k))], [.int (((v.toUInt64 >>> (((Int8.ofInt 8).toInt32 * nI k).toInt64.toUInt64 &&& Int64.toUInt64 63)).toInt64).toInt32 &&& (Int16.ofInt 255).toInt32)], ns, hs) _
  rw [ty_A v hk]
  exact Ru.iret (by decide +kernel) rfl rfl
set_option maxRecDepth 100000 in
set_option maxHeartbeats 4000000 in
theorem ty_l1h {ns a i : Nat} {hs : mn_H} {v : Int64} {x5 : Option Value} {r : mn_A} (hi : i < 8) (h : Ru none 2046 83951 17 (22, [some (.ref a), some (.long v), none, some (.int (nI i)), some (.int (nI i)), some (.int (nI (ty_b v i)))], [.int (nI (ty_b v i))], ns, hs) r) : Ru none 2046 83951 17 (5, [some (.ref a), some (.long v), none, some (.int (nI i)), some (.int (nI i)), x5], [], ns, hs) r := by
  refine Ru.op (q := (.iload 4, 2)) (by decide +kernel) rfl ?_
  refine Ru.op (q := (.bipush 8, 2)) (by decide +kernel) rfl ?_
  refine Ru.br2 (k := .ge) (off := 50) (bb := false) (tg := 12) (by decide +kernel) (by decide +kernel) (by rw [ty_c8 i (by omega)]; exact decide_eq_false (by omega)) rfl ?_
  refine Ru.op (q := (.lload_n 1, 1)) (by decide +kernel) rfl ?_
  refine Ru.op (q := (.iload 4, 2)) (by decide +kernel) rfl ?_
  refine Ru.call (q := (.invokestatic 47, 3)) (by decide +kernel) rfl rfl rfl rfl ⟨Nat.le_of_ble_eq_true rfl, Nat.le_of_ble_eq_true rfl, Nat.le_of_ble_eq_true rfl, Nat.le_of_ble_eq_true rfl⟩ (ty_byteOf (k := i) (by omega)) ?_
  refine Ru.op (q := (.istore 5, 2)) (by decide +kernel) rfl ?_
  refine Ru.op (q := (.iload 5, 2)) (by decide +kernel) rfl ?_
  exact h
set_option maxRecDepth 100000 in
set_option maxHeartbeats 4000000 in
theorem ty_l1 {ns a : Nat} {hs : mn_H} {v : Int64} : ∀ (m i : Nat) (x5 : Option Value), i + m = 8 → (∀ n r, ty_f (ty_b v) m i = some n → (∀ y, Ru none 2046 83951 17 (59, [some (.ref a), some (.long v), none, some (.int (nI n)), some (.int (nI n)), y], [], ns, hs) r) → Ru none 2046 83951 17 (5, [some (.ref a), some (.long v), none, some (.int (nI i)), some (.int (nI i)), x5], [], ns, hs) r) ∧ (ty_f (ty_b v) m i = none → Ru none 2046 83951 17 (5, [some (.ref a), some (.long v), none, some (.int (nI i)), some (.int (nI i)), x5], [], ns, hs) ((1, none), ns + 6, hs ++ [(99, [])])) := by
  intro m
  induction m with
  | zero =>
    intro i x5 hi
    have hi8 : i = 8 := by omega
    subst hi8
    refine ⟨fun n r hn h => ?_, fun hn => (by cases hn)⟩
    cases hn
    refine Ru.op (q := (.iload 4, 2)) (by decide +kernel) rfl ?_
    refine Ru.op (q := (.bipush 8, 2)) (by decide +kernel) rfl ?_
    refine Ru.br2 (k := .ge) (off := 50) (bb := true) (tg := 59) (by decide +kernel) (by decide +kernel) (by decide +kernel) rfl ?_
    exact h x5
  | succ m ih =>
    intro i x5 hi
    have hb := ty_b_lt v i
    have hs2 : ∀ (r : mn_A), ¬ ty_b v i = 0 → ty_bad (ty_b v i) = false → Ru none 2046 83951 17 (5, [some (.ref a), some (.long v), none, some (.int (nI (i + 1))), some (.int (nI (i + 1))), some (.int (nI (ty_b v i)))], [], ns, hs) r → Ru none 2046 83951 17 (22, [some (.ref a), some (.long v), none, some (.int (nI i)), some (.int (nI i)), some (.int (nI (ty_b v i)))], [.int (nI (ty_b v i))], ns, hs) r := by
      intro r h0 hbad h
      unfold ty_bad at hbad
      rw [Bool.or_eq_false_iff] at hbad
      refine Ru.br (k := .ne) (off := 6) (bb := true) (tg := 28) (by decide +kernel) (by decide +kernel) (by rw [ty_c0 _ hb, decide_eq_false h0]; rfl) rfl ?_
      refine Ru.op (q := (.iload 5, 2)) (by decide +kernel) rfl ?_
      refine Ru.op (q := (.bipush 33, 2)) (by decide +kernel) rfl ?_
      refine Ru.br2 (k := .lt) (off := 10) (bb := false) (tg := 35) (by decide +kernel) (by decide +kernel) (by rw [ty_c1 _ hb]; exact hbad.1) rfl ?_
      refine Ru.op (q := (.iload 5, 2)) (by decide +kernel) rfl ?_
      refine Ru.op (q := (.bipush 126, 2)) (by decide +kernel) rfl ?_
      refine Ru.br2 (k := .le) (off := 11) (bb := true) (tg := 50) (by decide +kernel) (by decide +kernel) (by rw [ty_c2 _ hb, hbad.2]; rfl) rfl ?_
      refine Ru.op (q := (.iinc 3 1, 3)) (by decide +kernel) rfl ?_
      refine Ru.op (q := (.iinc 4 1, 3)) (by decide +kernel) rfl ?_
      refine Ru.op (q := (.goto (-51), 3)) (by decide +kernel) rfl ?_
      show Ru none 2046 83951 17 (5, [some (.ref a), some (.long v), none, some (.int (nI i + 1)), some (.int (nI i + 1)), some (.int (nI (ty_b v i)))], [], ns, hs) r
      rw [nI_1]
      exact h
    unfold ty_f
    by_cases h0 : ty_b v i = 0
    · rw [if_pos h0]
      refine ⟨fun n r hn h => ?_, fun hn => (by cases hn)⟩
      cases hn
      refine ty_l1h (by omega) ?_
      refine Ru.br (k := .ne) (off := 6) (bb := false) (tg := 25) (by decide +kernel) (by decide +kernel) (by rw [ty_c0 _ hb, decide_eq_true h0]; rfl) rfl ?_
      refine Ru.op (q := (.goto 34, 3)) (by decide +kernel) rfl ?_
      exact h _
    · rw [if_neg h0]
      cases hbad : ty_bad (ty_b v i)
      · refine ⟨fun n r hn h => ty_l1h (by omega) (hs2 r h0 hbad ((ih (i + 1) _ (by omega)).1 n r hn h)), fun hn => ty_l1h (by omega) (hs2 _ h0 hbad ((ih (i + 1) _ (by omega)).2 hn))⟩
      · refine ⟨fun n r hn h => (by cases hn), fun _ => ty_l1h (by omega) ?_⟩
        refine Ru.br (k := .ne) (off := 6) (bb := true) (tg := 28) (by decide +kernel) (by decide +kernel) (by rw [ty_c0 _ hb, decide_eq_false h0]; rfl) rfl ?_
        refine Ru.op (q := (.iload 5, 2)) (by decide +kernel) rfl ?_
        refine Ru.op (q := (.bipush 33, 2)) (by decide +kernel) rfl ?_
        by_cases h33 : ty_b v i < 33
        · refine Ru.br2 (k := .lt) (off := 10) (bb := true) (tg := 42) (by decide +kernel) (by decide +kernel) (by rw [ty_c1 _ hb]; exact decide_eq_true h33) rfl ?_
          exact Ru.thr (q := (.new 51, 3)) (by decide +kernel) rfl rfl (by decide +kernel)
        · have h126 : 126 < ty_b v i := by
            unfold ty_bad at hbad
            rw [decide_eq_false h33, Bool.false_or] at hbad
            exact of_decide_eq_true hbad
          refine Ru.br2 (k := .lt) (off := 10) (bb := false) (tg := 35) (by decide +kernel) (by decide +kernel) (by rw [ty_c1 _ hb]; exact decide_eq_false h33) rfl ?_
          refine Ru.op (q := (.iload 5, 2)) (by decide +kernel) rfl ?_
          refine Ru.op (q := (.bipush 126, 2)) (by decide +kernel) rfl ?_
          refine Ru.br2 (k := .le) (off := 11) (bb := false) (tg := 42) (by decide +kernel) (by decide +kernel) (by rw [ty_c2 _ hb, decide_eq_true h126]; rfl) rfl ?_
          exact Ru.thr (q := (.new 51, 3)) (by decide +kernel) rfl rfl (by decide +kernel)
