set_option maxRecDepth 100000 in
set_option maxHeartbeats 4000000 in
theorem g68L2_ok {v1 : Nat} {v2 : Int} : ∀ (n : Nat) (v3 : Int) (S : St) (d4 : Option Value) (_ : DD [d4]) (out : St), g68L2 v1 v2 n v3 S = some out → ∀ r, (∀ (e3 e4 : Option Value), DD [e3, e4] → Ru none 10 200 68 (23, [some (.ref 20), some (.ref v1), some (vI v2), e3, e4], [], out.ns, Hp out) r) → Ru none 10 200 68 (2, [some (.ref 20), some (.ref v1), some (vI v2), some (vI v3), d4], [], S.ns, Hp S) r := by
  intro n
  induction n with
  | zero => intro v3 S d4 hdd out h; cases h
  | succ n ih =>
    intro v3 S d4 hdd out h r hk
    unfold g68L2 at h
    refine Ru.op (q := (.iload_n 3, 1)) (S' := (3, _, _, _, _)) (by decide +kernel) rfl ?_
    refine Ru.kI (q := (.bipush 16, 2)) (c := 16) (pc' := 5) (by decide +kernel) rfl (by decide) rfl ?_
    obtain ⟨g1, h⟩ := gd_some h
    by_cases b2 : v3 < 16
    · replace h := if_t b2 h
      refine Ru.br2 (k := .ge) (off := 18) (bb := false) (tg := 8) (by decide +kernel) (by decide +kernel) (ci_ge0 g1 (by decide) b2) rfl ?_
      refine Ru.op (q := (.aload_n 0, 1)) (S' := (9, _, _, _, _)) (by decide +kernel) rfl ?_
      refine Ru.getR (pc' := 12) (i := 15) (ci := 6) (k := 1) (nn := 0) (z := 0) (v := .ref 22) (by decide +kernel) (by decide +kernel) (hp20 _) (by decide) rfl rfl ?_
      refine Ru.op (q := (.iload_n 2, 1)) (S' := (13, _, _, _, _)) (by decide +kernel) rfl ?_
      refine Ru.op (q := (.iload_n 3, 1)) (S' := (14, _, _, _, _)) (by decide +kernel) rfl ?_
      refine Ru.ar2 (i := .iadd) (z := (v2 + v3)) (pc' := 15) (by decide +kernel) rfl (ar_add _ _) rfl ?_
      refine Ru.kI (q := (.iconst (-1), 1)) (c := (-1)) (pc' := 16) (by decide +kernel) rfl (by decide) rfl ?_
      obtain ⟨g3, h⟩ := gd_some h
      refine Ru.istI (pc' := 17) (i := (v2 + v3)) (x := (-1)) (by decide +kernel) (hp22 _) g3 (ps_22 _ _ _) rfl ?_
      refine Ru.inc (k := 3) (n := 1) (x := v3) (z := (v3 + 1)) (xs' := [some (.ref 20), some (.ref v1), some (vI v2), some (vI (v3 + 1)), d4]) (pc' := 20) (by decide +kernel) rfl rfl rfl rfl ?_
      refine Ru.op (q := (.goto (-18), 3)) (S' := (2, _, _, _, _)) (by decide +kernel) rfl ?_
      exact ih _ _ _ ⟨hdd.1, trivial⟩ _ h r hk
    · replace h := if_f b2 h
      refine Ru.br2 (k := .ge) (off := 18) (bb := true) (tg := 23) (by decide +kernel) (by decide +kernel) (ci_ge1 g1 (by decide) b2) rfl ?_
      cases h
      exact hk _ _ ⟨rfl, hdd.1, trivial⟩
set_option maxRecDepth 100000 in
set_option maxHeartbeats 4000000 in
theorem g68L25_ok {v1 : Nat} {v2 : Int} : ∀ (n : Nat) (v3 : Int) (S : St) (d4 : Option Value) (_ : DD [d4]) (out : St), g68L25 v1 v2 n v3 S = some out → ∀ r, (∀ (e0 e1 e2 e3 e4 : Option Value), DD [e0, e1, e2, e3, e4] → Ru none 10 200 68 (80, [e0, e1, e2, e3, e4], [], out.ns, Hp out) r) → Ru none 10 200 68 (25, [some (.ref 20), some (.ref v1), some (vI v2), some (vI v3), d4], [], S.ns, Hp S) r := by
  intro n
  induction n with
  | zero => intro v3 S d4 hdd out h; cases h
  | succ n ih =>
    intro v3 S d4 hdd out h r hk
    unfold g68L25 at h
    refine Ru.op (q := (.iload_n 3, 1)) (S' := (26, _, _, _, _)) (by decide +kernel) rfl ?_
    refine Ru.op (q := (.aload_n 1, 1)) (S' := (27, _, _, _, _)) (by decide +kernel) rfl ?_
    obtain ⟨c9, c10, n11, n12, e13, q14, h⟩ := gC_some h
    refine Ru.getR (pc' := 30) (i := 46) (ci := 5) (k := 3) (nn := 0) (z := 0) (v := vI n12) (by decide +kernel) (by decide +kernel) q14 (by decide) rfl rfl ?_
    obtain ⟨g15, h⟩ := gd_some h
    by_cases b16 : v3 < n12
    · replace h := if_t b16 h
      refine Ru.br2 (k := .ge) (off := 50) (bb := false) (tg := 33) (by decide +kernel) (by decide +kernel) (ci_ge0 g15 e13.2 b16) rfl ?_
      refine Ru.op (q := (.iload_n 3, 1)) (S' := (34, _, _, _, _)) (by decide +kernel) rfl ?_
      refine Ru.kI (q := (.bipush 16, 2)) (c := 16) (pc' := 36) (by decide +kernel) rfl (by decide) rfl ?_
      by_cases b17 : v3 < 16
      · replace h := if_t b17 h
        refine Ru.br2 (k := .ge) (off := 44) (bb := false) (tg := 39) (by decide +kernel) (by decide +kernel) (ci_ge0 g15 (by decide) b17) rfl ?_
        refine Ru.op (q := (.aload_n 1, 1)) (S' := (40, _, _, _, _)) (by decide +kernel) rfl ?_
        refine Ru.getR (pc' := 43) (i := 23) (ci := 5) (k := 0) (nn := 0) (z := 0) (v := .ref c9) (by decide +kernel) (by decide +kernel) q14 (by decide) rfl rfl ?_
        refine Ru.op (q := (.iload_n 3, 1)) (S' := (44, _, _, _, _)) (by decide +kernel) rfl ?_
        obtain ⟨N18, f19, e20, q21, h⟩ := gA_some h
        obtain ⟨g22, h⟩ := gd_some h
        refine Ru.ildI (pc' := 45) (i := v3) (z := (f19 v3)) (by decide +kernel) q21 g22 rfl rfl ?_
        refine Ru.op (q := (.istore 4, 2)) (S' := (47, [some (.ref 20), some (.ref v1), some (vI v2), some (vI v3), some (vI (f19 v3))], [], _, _)) (by decide +kernel) rfl ?_
        refine Ru.op (q := (.aload_n 0, 1)) (S' := (48, _, _, _, _)) (by decide +kernel) rfl ?_
        refine Ru.getR (pc' := 51) (i := 9) (ci := 6) (k := 0) (nn := 0) (z := 0) (v := .ref 21) (by decide +kernel) (by decide +kernel) (hp20 _) (by decide) rfl rfl ?_
        refine Ru.op (q := (.iload_n 2, 1)) (S' := (52, _, _, _, _)) (by decide +kernel) rfl ?_
        refine Ru.op (q := (.iload_n 3, 1)) (S' := (53, _, _, _, _)) (by decide +kernel) rfl ?_
        refine Ru.ar2 (i := .iadd) (z := (v2 + v3)) (pc' := 54) (by decide +kernel) rfl (ar_add _ _) rfl ?_
        refine Ru.op (q := (.iload 4, 2)) (S' := (56, _, _, _, _)) (by decide +kernel) rfl ?_
        refine Ru.kI (q := (.ldc 50, 2)) (c := 32768) (pc' := 58) (by decide +kernel) rfl (by decide) rfl ?_
        by_cases b23 : (f19 v3) < 32768
        · replace h := if_t b23 h
          refine Ru.br2 (k := .ge) (off := 13) (bb := false) (tg := 61) (by decide +kernel) (by decide +kernel) (ci_ge0 (e20 _) (by decide) b23) rfl ?_
          refine Ru.op (q := (.iload 4, 2)) (S' := (63, _, _, _, _)) (by decide +kernel) rfl ?_
          refine Ru.op (q := (.iload_n 2, 1)) (S' := (64, _, _, _, _)) (by decide +kernel) rfl ?_
          refine Ru.kI (q := (.bipush 8, 2)) (c := 8) (pc' := 66) (by decide +kernel) rfl (by decide) rfl ?_
          refine Ru.ar2 (i := .ishl) (z := (v2 * 256)) (pc' := 67) (by decide +kernel) rfl (ar_shl _) rfl ?_
          refine Ru.ar2 (i := .iadd) (z := ((f19 v3) + (v2 * 256))) (pc' := 68) (by decide +kernel) rfl (ar_add _ _) rfl ?_
          refine Ru.op (q := (.goto 5, 3)) (S' := (73, _, _, _, _)) (by decide +kernel) rfl ?_
          obtain ⟨g24, h⟩ := gd_some h
          refine Ru.istI (pc' := 74) (i := (v2 + v3)) (x := ((f19 v3) + (v2 * 256))) (by decide +kernel) (hp21 _) g24 (ps_21 _ _ _) rfl ?_
          refine Ru.inc (k := 3) (n := 1) (x := v3) (z := (v3 + 1)) (xs' := [some (.ref 20), some (.ref v1), some (vI v2), some (vI (v3 + 1)), some (vI (f19 v3))]) (pc' := 77) (by decide +kernel) rfl rfl rfl rfl ?_
          refine Ru.op (q := (.goto (-52), 3)) (S' := (25, _, _, _, _)) (by decide +kernel) rfl ?_
          exact ih _ _ _ ⟨rfl, trivial⟩ _ h r hk
        · replace h := if_f b23 h
          refine Ru.br2 (k := .ge) (off := 13) (bb := true) (tg := 71) (by decide +kernel) (by decide +kernel) (ci_ge1 (e20 _) (by decide) b23) rfl ?_
          refine Ru.op (q := (.iload 4, 2)) (S' := (73, _, _, _, _)) (by decide +kernel) rfl ?_
          obtain ⟨g25, h⟩ := gd_some h
          refine Ru.istI (pc' := 74) (i := (v2 + v3)) (x := (f19 v3)) (by decide +kernel) (hp21 _) g25 (ps_21 _ _ _) rfl ?_
          refine Ru.inc (k := 3) (n := 1) (x := v3) (z := (v3 + 1)) (xs' := [some (.ref 20), some (.ref v1), some (vI v2), some (vI (v3 + 1)), some (vI (f19 v3))]) (pc' := 77) (by decide +kernel) rfl rfl rfl rfl ?_
          refine Ru.op (q := (.goto (-52), 3)) (S' := (25, _, _, _, _)) (by decide +kernel) rfl ?_
          exact ih _ _ _ ⟨rfl, trivial⟩ _ h r hk
      · replace h := if_f b17 h
        refine Ru.br2 (k := .ge) (off := 44) (bb := true) (tg := 80) (by decide +kernel) (by decide +kernel) (ci_ge1 g15 (by decide) b17) rfl ?_
        cases h
        exact hk _ _ _ _ _ ⟨rfl, rfl, rfl, rfl, hdd.1, trivial⟩
    · replace h := if_f b16 h
      refine Ru.br2 (k := .ge) (off := 50) (bb := true) (tg := 80) (by decide +kernel) (by decide +kernel) (ci_ge1 g15 e13.2 b16) rfl ?_
      cases h
      exact hk _ _ _ _ _ ⟨rfl, rfl, rfl, rfl, hdd.1, trivial⟩
set_option maxRecDepth 100000 in
set_option maxHeartbeats 4000000 in
theorem g68_ok {S : St} {v1 : Nat} {v2 : Int} {o : St} (h : g68 S v1 v2 = some o) : Ru none 10 200 68 (0, mn_pad (mn_ent [.ref 20, .ref v1, vI v2]) 5, [], S.ns, Hp S) ((0, none), o.ns, Hp o) := by
  unfold g68 at h
  show Ru none 10 200 68 (0, [some (.ref 20), some (.ref v1), some (vI v2), none, none], [], S.ns, Hp S) _
  refine Ru.kI (q := (.iconst 0, 1)) (c := 0) (pc' := 1) (by decide +kernel) rfl (by decide) rfl ?_
  refine Ru.op (q := (.istore_n 3, 1)) (S' := (2, [some (.ref 20), some (.ref v1), some (vI v2), some (vI 0), none], [], _, _)) (by decide +kernel) rfl ?_
  obtain ⟨o4, e7, h⟩ := ob_some h
  refine g68L2_ok FU _ _ _ ⟨rfl, trivial⟩ _ e7 _ ?_
  intro d5 d6 hd8
  refine Ru.kI (q := (.iconst 0, 1)) (c := 0) (pc' := 24) (by decide +kernel) rfl (by decide) rfl ?_
  refine Ru.op (q := (.istore_n 3, 1)) (S' := (25, [some (.ref 20), some (.ref v1), some (vI v2), some (vI 0), d6], [], _, _)) (by decide +kernel) rfl ?_
  obtain ⟨o26, e32, h⟩ := ob_some h
  refine g68L25_ok FU _ _ _ ⟨hd8.2.1, trivial⟩ _ e32 _ ?_
  intro d27 d28 d29 d30 d31 hd33
  cases h
  exact Ru.end (q := (.return_, 1)) (by decide +kernel) rfl rfl
set_option maxRecDepth 100000 in
set_option maxHeartbeats 4000000 in
theorem g70L4_ok {S : St} : ∀ (n : Nat) (v2 : Int) (v3 : Int) (d1 : Option Value) (_ : DD [d1]) (out : Sum (Int) (Int)), g70L4 S n v2 v3 = some out → ∀ r, (∀ o, out = .inl o → ∀ (e0 e1 e3 : Option Value), DD [e0, e1, e3] → Ru none 10 200 70 (65, [e0, e1, some (vI o), e3], [], S.ns, Hp S) r) → (∀ o, out = .inr o → r = ((0, some (vI o)), S.ns, Hp S)) → Ru none 10 200 70 (4, [some (.ref 20), d1, some (vI v2), some (vI v3)], [], S.ns, Hp S) r := by
  intro n
  induction n with
  | zero => intro v2 v3 d1 hdd out h; cases h
  | succ n ih =>
    intro v2 v3 d1 hdd out h r hk hr
    unfold g70L4 at h
    refine Ru.op (q := (.iload_n 3, 1)) (S' := (5, _, _, _, _)) (by decide +kernel) rfl ?_
    refine Ru.op (q := (.aload_n 0, 1)) (S' := (6, _, _, _, _)) (by decide +kernel) rfl ?_
    refine Ru.getR (pc' := 9) (i := 15) (ci := 6) (k := 1) (nn := 0) (z := 0) (v := .ref 22) (by decide +kernel) (by decide +kernel) (hp20 _) (by decide) rfl rfl ?_
    refine Ru.lenI (pc' := 10) (N := 32) (z := 32) (by decide +kernel) (hp22 _) (by decide) (aI_len _ _) rfl rfl ?_
    obtain ⟨g7, h⟩ := gd_some h
    by_cases b8 : v3 < 32
    · replace h := if_t b8 h
      refine Ru.br2 (k := .ge) (off := 55) (bb := false) (tg := 13) (by decide +kernel) (by decide +kernel) (ci_ge0 g7 (by decide) b8) rfl ?_
      refine Ru.op (q := (.aload_n 0, 1)) (S' := (14, _, _, _, _)) (by decide +kernel) rfl ?_
      refine Ru.getR (pc' := 17) (i := 9) (ci := 6) (k := 0) (nn := 0) (z := 0) (v := .ref 21) (by decide +kernel) (by decide +kernel) (hp20 _) (by decide) rfl rfl ?_
      refine Ru.op (q := (.iload_n 2, 1)) (S' := (18, _, _, _, _)) (by decide +kernel) rfl ?_
      obtain ⟨g9, h⟩ := gd_some h
      refine Ru.ildI (pc' := 19) (i := v2) (z := (S.A 21 v2)) (by decide +kernel) (hp21 _) g9 (eI_of _) rfl ?_
      refine Ru.kI (q := (.ldc 50, 2)) (c := 32768) (pc' := 21) (by decide +kernel) rfl (by decide) rfl ?_
      by_cases b10 : (S.A 21 v2) < 32768
      · replace h := if_t b10 h
        refine Ru.br2 (k := .ge) (off := 21) (bb := false) (tg := 24) (by decide +kernel) (by decide +kernel) (ci_ge0 (inR_to _) (by decide) b10) rfl ?_
        refine Ru.op (q := (.aload_n 0, 1)) (S' := (25, _, _, _, _)) (by decide +kernel) rfl ?_
        refine Ru.getR (pc' := 28) (i := 15) (ci := 6) (k := 1) (nn := 0) (z := 0) (v := .ref 22) (by decide +kernel) (by decide +kernel) (hp20 _) (by decide) rfl rfl ?_
        refine Ru.op (q := (.aload_n 0, 1)) (S' := (29, _, _, _, _)) (by decide +kernel) rfl ?_
        refine Ru.getR (pc' := 32) (i := 9) (ci := 6) (k := 0) (nn := 0) (z := 0) (v := .ref 21) (by decide +kernel) (by decide +kernel) (hp20 _) (by decide) rfl rfl ?_
        refine Ru.op (q := (.iload_n 2, 1)) (S' := (33, _, _, _, _)) (by decide +kernel) rfl ?_
        refine Ru.ildI (pc' := 34) (i := v2) (z := (S.A 21 v2)) (by decide +kernel) (hp21 _) g9 (eI_of _) rfl ?_
        refine Ru.kI (q := (.bipush 8, 2)) (c := 8) (pc' := 36) (by decide +kernel) rfl (by decide) rfl ?_
        refine Ru.ar2 (i := .ishr) (z := ((S.A 21 v2) / 256)) (pc' := 37) (by decide +kernel) rfl (ar_shr (inR_to _)) rfl ?_
        obtain ⟨g11, h⟩ := gd_some h
        refine Ru.ildI (pc' := 38) (i := ((S.A 21 v2) / 256)) (z := (S.A 22 ((S.A 21 v2) / 256))) (by decide +kernel) (hp22 _) g11 (eI_of _) rfl ?_
        refine Ru.kI (q := (.iconst (-1), 1)) (c := (-1)) (pc' := 39) (by decide +kernel) rfl (by decide) rfl ?_
        by_cases b12 : (S.A 22 ((S.A 21 v2) / 256)) = (-1)
        · replace h := if_t b12 h
          refine Ru.br2 (k := .ne) (off := 5) (bb := false) (tg := 42) (by decide +kernel) (by decide +kernel) (ci_ne0 (inR_to _) (by decide) b12) rfl ?_
          refine Ru.op (q := (.iload_n 2, 1)) (S' := (43, _, _, _, _)) (by decide +kernel) rfl ?_
          cases h
          have h9 := hr _ rfl
          subst h9
          exact Ru.iret (by decide +kernel) rfl rfl
        · replace h := if_f b12 h
          refine Ru.br2 (k := .ne) (off := 5) (bb := true) (tg := 44) (by decide +kernel) (by decide +kernel) (ci_ne1 (inR_to _) (by decide) b12) rfl ?_
          refine Ru.op (q := (.aload_n 0, 1)) (S' := (45, _, _, _, _)) (by decide +kernel) rfl ?_
          refine Ru.getR (pc' := 48) (i := 15) (ci := 6) (k := 1) (nn := 0) (z := 0) (v := .ref 22) (by decide +kernel) (by decide +kernel) (hp20 _) (by decide) rfl rfl ?_
          refine Ru.op (q := (.aload_n 0, 1)) (S' := (49, _, _, _, _)) (by decide +kernel) rfl ?_
          refine Ru.getR (pc' := 52) (i := 9) (ci := 6) (k := 0) (nn := 0) (z := 0) (v := .ref 21) (by decide +kernel) (by decide +kernel) (hp20 _) (by decide) rfl rfl ?_
          refine Ru.op (q := (.iload_n 2, 1)) (S' := (53, _, _, _, _)) (by decide +kernel) rfl ?_
          refine Ru.ildI (pc' := 54) (i := v2) (z := (S.A 21 v2)) (by decide +kernel) (hp21 _) g9 (eI_of _) rfl ?_
          refine Ru.kI (q := (.bipush 8, 2)) (c := 8) (pc' := 56) (by decide +kernel) rfl (by decide) rfl ?_
          refine Ru.ar2 (i := .ishr) (z := ((S.A 21 v2) / 256)) (pc' := 57) (by decide +kernel) rfl (ar_shr (inR_to _)) rfl ?_
          refine Ru.ildI (pc' := 58) (i := ((S.A 21 v2) / 256)) (z := (S.A 22 ((S.A 21 v2) / 256))) (by decide +kernel) (hp22 _) g11 (eI_of _) rfl ?_
          refine Ru.op (q := (.istore_n 2, 1)) (S' := (59, [some (.ref 20), d1, some (vI (S.A 22 ((S.A 21 v2) / 256))), some (vI v3)], [], _, _)) (by decide +kernel) (st_in (mn_st1_D (Nat.le_of_ble_eq_true rfl) hdd.1 rfl)) ?_
          refine Ru.inc (k := 3) (n := 1) (x := v3) (z := (v3 + 1)) (xs' := [some (.ref 20), d1, some (vI (S.A 22 ((S.A 21 v2) / 256))), some (vI (v3 + 1))]) (pc' := 62) (by decide +kernel) rfl rfl rfl rfl ?_
          refine Ru.op (q := (.goto (-58), 3)) (S' := (4, _, _, _, _)) (by decide +kernel) rfl ?_
          exact ih _ _ _ ⟨hdd.1, trivial⟩ _ h r hk hr
      · replace h := if_f b10 h
        refine Ru.br2 (k := .ge) (off := 21) (bb := true) (tg := 42) (by decide +kernel) (by decide +kernel) (ci_ge1 (inR_to _) (by decide) b10) rfl ?_
        refine Ru.op (q := (.iload_n 2, 1)) (S' := (43, _, _, _, _)) (by decide +kernel) rfl ?_
        cases h
        have h9 := hr _ rfl
        subst h9
        exact Ru.iret (by decide +kernel) rfl rfl
    · replace h := if_f b8 h
      refine Ru.br2 (k := .ge) (off := 55) (bb := true) (tg := 65) (by decide +kernel) (by decide +kernel) (ci_ge1 g7 (by decide) b8) rfl ?_
      cases h
      exact hk _ rfl _ _ _ ⟨rfl, hdd.1, rfl, trivial⟩
set_option maxRecDepth 100000 in
set_option maxHeartbeats 4000000 in
theorem g70_ok {S : St} {v1 : Int} {o : Int} (h : g70 S v1 = some o) : Ru none 10 200 70 (0, mn_pad (mn_ent [.ref 20, vI v1]) 4, [], S.ns, Hp S) ((0, some (vI o)), S.ns, Hp S) := by
  unfold g70 at h
  show Ru none 10 200 70 (0, [some (.ref 20), some (vI v1), none, none], [], S.ns, Hp S) _
  refine Ru.op (q := (.iload_n 1, 1)) (S' := (1, _, _, _, _)) (by decide +kernel) rfl ?_
  refine Ru.op (q := (.istore_n 2, 1)) (S' := (2, [some (.ref 20), some (vI v1), some (vI v1), none], [], _, _)) (by decide +kernel) rfl ?_
  refine Ru.kI (q := (.iconst 0, 1)) (c := 0) (pc' := 3) (by decide +kernel) rfl (by decide) rfl ?_
  refine Ru.op (q := (.istore_n 3, 1)) (S' := (4, [some (.ref 20), some (vI v1), some (vI v1), some (vI 0)], [], _, _)) (by decide +kernel) rfl ?_
  rcases obr_some h with ⟨o13, e17, h⟩ | e17
  · refine g70L4_ok FU _ _ _ ⟨rfl, trivial⟩ _ e17 _ (fun o' e' => ?_) (fun o' e' => by cases e')
    cases e'
    intro d14 d15 d16 hd18
    refine Ru.op (q := (.iload_n 2, 1)) (S' := (66, _, _, _, _)) (by decide +kernel) rfl ?_
    cases h
    exact Ru.iret (by decide +kernel) rfl rfl
  · exact g70L4_ok FU _ _ _ ⟨rfl, trivial⟩ _ e17 _ (fun o' e' => by cases e') (fun o' e' => by cases e'; rfl)
set_option maxRecDepth 100000 in
set_option maxHeartbeats 4000000 in
theorem g71L29_ok {FR LO : Nat} {rc : St → Int → Int → Int → Option (Int)} (hF : 11 ≤ FR) (hL : 224 ≤ LO) (hrc : ∀ {S : St} {v1 : Int} {v2 : Int} {v3 : Int} {o : Int}, rc S v1 v2 v3 = some o → Ru none FR LO 71 (0, mn_pad (mn_ent [.ref 20, vI v1, vI v2, vI v3]) 8, [], S.ns, Hp S) ((0, some (vI o)), S.ns, Hp S)) {S : St} {v1 : Int} {v3 : Int} {v4 : Int} {v5 : Int} : ∀ (n : Nat) (v6 : Int) (v7 : Int) (d2 : Option Value) (_ : DD [d2]) (out : Sum (Unit) (Int)), g71L29 rc S v1 v3 v4 v5 n v6 v7 = some out → ∀ r, (∀ o, out = .inl o → ∀ (e2 e3 e5 e6 e7 : Option Value), DD [e2, e3, e5, e6, e7] → Ru none (FR + 1) (LO + 27) 71 (79, [some (.ref 20), some (vI v1), e2, e3, some (vI v4), e5, e6, e7], [], S.ns, Hp S) r) → (∀ o, out = .inr o → r = ((0, some (vI o)), S.ns, Hp S)) → Ru none (FR + 1) (LO + 27) 71 (29, [some (.ref 20), some (vI v1), d2, some (vI v3), some (vI v4), some (vI v5), some (vI v6), some (vI v7)], [], S.ns, Hp S) r := by
  intro n
  induction n with
  | zero => intro v6 v7 d2 hdd out h; cases h
  | succ n ih =>
    intro v6 v7 d2 hdd out h r hk hr
    unfold g71L29 at h
    refine Ru.op (q := (.iload 7, 2)) (S' := (31, _, _, _, _)) (by decide +kernel) rfl ?_
    refine Ru.op (q := (.iload 5, 2)) (S' := (33, _, _, _, _)) (by decide +kernel) rfl ?_
    obtain ⟨g15, h⟩ := gd_some h
    obtain ⟨g16, h⟩ := gd_some h
    by_cases b17 : v7 < v5
    · replace h := if_t b17 h
      refine Ru.br2 (k := .ge) (off := 46) (bb := false) (tg := 36) (by decide +kernel) (by decide +kernel) (ci_ge0 g15 g16 b17) rfl ?_
      refine Ru.op (q := (.iload_n 3, 1)) (S' := (37, _, _, _, _)) (by decide +kernel) rfl ?_
      refine Ru.kI (q := (.bipush 40, 2)) (c := 40) (pc' := 39) (by decide +kernel) rfl (by decide) rfl ?_
      obtain ⟨g18, h⟩ := gd_some h
      by_cases b19 : v3 < 40
      · replace h := if_t b19 h
        refine Ru.br2 (k := .ge) (off := 40) (bb := false) (tg := 42) (by decide +kernel) (by decide +kernel) (ci_ge0 g18 (by decide) b19) rfl ?_
        refine Ru.op (q := (.aload_n 0, 1)) (S' := (43, _, _, _, _)) (by decide +kernel) rfl ?_
        refine Ru.op (q := (.iload_n 1, 1)) (S' := (44, _, _, _, _)) (by decide +kernel) rfl ?_
        refine Ru.op (q := (.iload 6, 2)) (S' := (46, _, _, _, _)) (by decide +kernel) rfl ?_
        refine Ru.op (q := (.iload_n 3, 1)) (S' := (47, _, _, _, _)) (by decide +kernel) rfl ?_
        refine Ru.kI (q := (.iconst 1, 1)) (c := 1) (pc' := 48) (by decide +kernel) rfl (by decide) rfl ?_
        refine Ru.ar2 (i := .iadd) (z := (v3 + 1)) (pc' := 49) (by decide +kernel) rfl (ar_add _ _) rfl ?_
        obtain ⟨o20, e21, h⟩ := ob_some h
        refine Ru.vcallI (pc' := 52) (st' := [vI o20]) (i := 77) (j2 := 71) (ci := 6) (k := 0) (z := 0) (as := [vI v1, vI v6, vI (v3 + 1)]) (by decide +kernel) (by decide +kernel) rfl rfl (hp20 _) (by decide) ⟨(by omega), (by show 19 + 8 ≤ (LO + 27); omega), Nat.le_of_ble_eq_true rfl, Nat.le_of_ble_eq_true rfl⟩ ((hrc e21).up (by omega) (by show _ ≤ (LO + 27) - (19 + 8); omega)) rfl rfl ?_
        obtain ⟨g22, h⟩ := gd_some h
        by_cases b23 : o20 = 0
        · replace h := if_t b23 h
          refine Ru.br (k := .eq) (off := 5) (bb := true) (tg := 57) (by decide +kernel) (by decide +kernel) (cz (ci_eq1 g22 (by decide) b23)) rfl ?_
          refine Ru.op (q := (.aload_n 0, 1)) (S' := (58, _, _, _, _)) (by decide +kernel) rfl ?_
          refine Ru.getR (pc' := 61) (i := 9) (ci := 6) (k := 0) (nn := 0) (z := 0) (v := .ref 21) (by decide +kernel) (by decide +kernel) (hp20 _) (by decide) rfl rfl ?_
          refine Ru.op (q := (.iload 6, 2)) (S' := (63, _, _, _, _)) (by decide +kernel) rfl ?_
          refine Ru.op (q := (.aload_n 0, 1)) (S' := (64, _, _, _, _)) (by decide +kernel) rfl ?_
          refine Ru.getR (pc' := 67) (i := 9) (ci := 6) (k := 0) (nn := 0) (z := 0) (v := .ref 21) (by decide +kernel) (by decide +kernel) (hp20 _) (by decide) rfl rfl ?_
          refine Ru.lenI (pc' := 68) (N := 32) (z := 32) (by decide +kernel) (hp21 _) (by decide) (aI_len _ _) rfl rfl ?_
          obtain ⟨o24, e25, h⟩ := ob_some h
          refine Ru.callI (pc' := 71) (q := (.invokestatic 73, 3)) (j2 := 57) (as := [.ref 21, vI v6, vI 32]) (st' := [vI o24]) (by decide +kernel) rfl rfl rfl rfl ⟨(by omega), (by show 19 + 5 ≤ (LO + 27); omega), Nat.le_of_ble_eq_true rfl, Nat.le_of_ble_eq_true rfl⟩ ((g57_ok e25).up (by omega) (by show _ ≤ (LO + 27) - (19 + 5); omega)) rfl rfl ?_
          refine Ru.op (q := (.istore 6, 2)) (S' := (73, [some (.ref 20), some (vI v1), d2, some (vI v3), some (vI v4), some (vI v5), some (vI o24), some (vI v7)], [], _, _)) (by decide +kernel) rfl ?_
          refine Ru.inc (k := 7) (n := 1) (x := v7) (z := (v7 + 1)) (xs' := [some (.ref 20), some (vI v1), d2, some (vI v3), some (vI v4), some (vI v5), some (vI o24), some (vI (v7 + 1))]) (pc' := 76) (by decide +kernel) rfl rfl rfl rfl ?_
          refine Ru.op (q := (.goto (-47), 3)) (S' := (29, _, _, _, _)) (by decide +kernel) rfl ?_
          exact ih _ _ _ ⟨hdd.1, trivial⟩ _ h r hk hr
        · replace h := if_f b23 h
          refine Ru.br (k := .eq) (off := 5) (bb := false) (tg := 55) (by decide +kernel) (by decide +kernel) (cz (ci_eq0 g22 (by decide) b23)) rfl ?_
          refine Ru.kI (q := (.iconst 1, 1)) (c := 1) (pc' := 56) (by decide +kernel) rfl (by decide) rfl ?_
          cases h
          have h9 := hr _ rfl
          subst h9
          exact Ru.iret (by decide +kernel) rfl (nar_b1 (by decide))
      · replace h := if_f b19 h
        refine Ru.br2 (k := .ge) (off := 40) (bb := true) (tg := 79) (by decide +kernel) (by decide +kernel) (ci_ge1 g18 (by decide) b19) rfl ?_
        cases h
        exact hk _ rfl _ _ _ _ _ ⟨hdd.1, rfl, rfl, rfl, rfl, trivial⟩
    · replace h := if_f b17 h
      refine Ru.br2 (k := .ge) (off := 46) (bb := true) (tg := 79) (by decide +kernel) (by decide +kernel) (ci_ge1 g15 g16 b17) rfl ?_
      cases h
      exact hk _ rfl _ _ _ _ _ ⟨hdd.1, rfl, rfl, rfl, rfl, trivial⟩
set_option maxRecDepth 100000 in
set_option maxHeartbeats 4000000 in
theorem g71b_ok {FR LO : Nat} {rc : St → Int → Int → Int → Option (Int)} (hF : 11 ≤ FR) (hL : 224 ≤ LO) (hrc : ∀ {S : St} {v1 : Int} {v2 : Int} {v3 : Int} {o : Int}, rc S v1 v2 v3 = some o → Ru none FR LO 71 (0, mn_pad (mn_ent [.ref 20, vI v1, vI v2, vI v3]) 8, [], S.ns, Hp S) ((0, some (vI o)), S.ns, Hp S)) {S : St} {v1 : Int} {v2 : Int} {v3 : Int} {o : Int} (h : g71b rc S v1 v2 v3 = some o) : Ru none (FR + 1) (LO + 27) 71 (0, mn_pad (mn_ent [.ref 20, vI v1, vI v2, vI v3]) 8, [], S.ns, Hp S) ((0, some (vI o)), S.ns, Hp S) := by
  unfold g71b at h
  show Ru none (FR + 1) (LO + 27) 71 (0, [some (.ref 20), some (vI v1), some (vI v2), some (vI v3), none, none, none, none], [], S.ns, Hp S) _
  refine Ru.op (q := (.aload_n 0, 1)) (S' := (1, _, _, _, _)) (by decide +kernel) rfl ?_
  refine Ru.op (q := (.iload_n 2, 1)) (S' := (2, _, _, _, _)) (by decide +kernel) rfl ?_
  obtain ⟨o1, e2, h⟩ := ob_some h
  refine Ru.vcallI (pc' := 5) (st' := [vI o1]) (i := 65) (j2 := 70) (ci := 6) (k := 0) (z := 0) (as := [vI v2]) (by decide +kernel) (by decide +kernel) rfl rfl (hp20 _) (by decide) ⟨(by omega), (by show 19 + 4 ≤ (LO + 27); omega), Nat.le_of_ble_eq_true rfl, Nat.le_of_ble_eq_true rfl⟩ ((g70_ok e2).up (by omega) (by show _ ≤ (LO + 27) - (19 + 4); omega)) rfl rfl ?_
  refine Ru.op (q := (.istore 4, 2)) (S' := (7, [some (.ref 20), some (vI v1), some (vI v2), some (vI v3), some (vI o1), none, none, none], [], _, _)) (by decide +kernel) rfl ?_
  refine Ru.op (q := (.aload_n 0, 1)) (S' := (8, _, _, _, _)) (by decide +kernel) rfl ?_
  refine Ru.getR (pc' := 11) (i := 9) (ci := 6) (k := 0) (nn := 0) (z := 0) (v := .ref 21) (by decide +kernel) (by decide +kernel) (hp20 _) (by decide) rfl rfl ?_
  refine Ru.op (q := (.iload 4, 2)) (S' := (13, _, _, _, _)) (by decide +kernel) rfl ?_
  obtain ⟨g3, h⟩ := gd_some h
  refine Ru.ildI (pc' := 14) (i := o1) (z := (S.A 21 o1)) (by decide +kernel) (hp21 _) g3 (eI_of _) rfl ?_
  refine Ru.kI (q := (.sipush 255, 3)) (c := 255) (pc' := 17) (by decide +kernel) rfl (by decide) rfl ?_
  refine Ru.ar2 (i := .iand) (z := ((S.A 21 o1) % 256)) (pc' := 18) (by decide +kernel) rfl (ar_and _) rfl ?_
  refine Ru.op (q := (.istore 5, 2)) (S' := (20, [some (.ref 20), some (vI v1), some (vI v2), some (vI v3), some (vI o1), some (vI ((S.A 21 o1) % 256)), none, none], [], _, _)) (by decide +kernel) rfl ?_
  refine Ru.op (q := (.iload 4, 2)) (S' := (22, _, _, _, _)) (by decide +kernel) rfl ?_
  refine Ru.kI (q := (.iconst 1, 1)) (c := 1) (pc' := 23) (by decide +kernel) rfl (by decide) rfl ?_
  refine Ru.ar2 (i := .iadd) (z := (o1 + 1)) (pc' := 24) (by decide +kernel) rfl (ar_add _ _) rfl ?_
  refine Ru.op (q := (.istore 6, 2)) (S' := (26, [some (.ref 20), some (vI v1), some (vI v2), some (vI v3), some (vI o1), some (vI ((S.A 21 o1) % 256)), some (vI (o1 + 1)), none], [], _, _)) (by decide +kernel) rfl ?_
  refine Ru.kI (q := (.iconst 0, 1)) (c := 0) (pc' := 27) (by decide +kernel) rfl (by decide) rfl ?_
  refine Ru.op (q := (.istore 7, 2)) (S' := (29, [some (.ref 20), some (vI v1), some (vI v2), some (vI v3), some (vI o1), some (vI ((S.A 21 o1) % 256)), some (vI (o1 + 1)), some (vI 0)], [], _, _)) (by decide +kernel) rfl ?_
  rcases obr_some h with ⟨o26, e32, h⟩ | e32
  · refine g71L29_ok hF hL hrc FU _ _ _ ⟨rfl, trivial⟩ _ e32 _ (fun o' e' => ?_) (fun o' e' => by cases e')
    cases e'
    intro d27 d28 d29 d30 d31 hd33
    refine Ru.op (q := (.aload_n 0, 1)) (S' := (80, _, _, _, _)) (by decide +kernel) rfl ?_
    refine Ru.getR (pc' := 83) (i := 9) (ci := 6) (k := 0) (nn := 0) (z := 0) (v := .ref 21) (by decide +kernel) (by decide +kernel) (hp20 _) (by decide) rfl rfl ?_
    refine Ru.op (q := (.iload 4, 2)) (S' := (85, _, _, _, _)) (by decide +kernel) rfl ?_
    refine Ru.ildI (pc' := 86) (i := o1) (z := (S.A 21 o1)) (by decide +kernel) (hp21 _) g3 (eI_of _) rfl ?_
    refine Ru.op (q := (.iload_n 1, 1)) (S' := (87, _, _, _, _)) (by decide +kernel) rfl ?_
    obtain ⟨g34, h⟩ := gd_some h
    by_cases b35 : (S.A 21 o1) = v1
    · replace h := if_t b35 h
      refine Ru.br2 (k := .ne) (off := 7) (bb := false) (tg := 90) (by decide +kernel) (by decide +kernel) (ci_ne0 (inR_to _) g34 b35) rfl ?_
      refine Ru.kI (q := (.iconst 1, 1)) (c := 1) (pc' := 91) (by decide +kernel) rfl (by decide) rfl ?_
      refine Ru.op (q := (.goto 4, 3)) (S' := (95, _, _, _, _)) (by decide +kernel) rfl ?_
      cases h
      exact Ru.iret (by decide +kernel) rfl (nar_b1 (by decide))
    · replace h := if_f b35 h
      refine Ru.br2 (k := .ne) (off := 7) (bb := true) (tg := 94) (by decide +kernel) (by decide +kernel) (ci_ne1 (inR_to _) g34 b35) rfl ?_
      refine Ru.kI (q := (.iconst 0, 1)) (c := 0) (pc' := 95) (by decide +kernel) rfl (by decide) rfl ?_
      cases h
      exact Ru.iret (by decide +kernel) rfl (nar_b1 (by decide))
  · exact g71L29_ok hF hL hrc FU _ _ _ ⟨rfl, trivial⟩ _ e32 _ (fun o' e' => by cases e') (fun o' e' => by cases e'; rfl)
theorem g71_ok : ∀ (n : Nat) {S : St} {v1 : Int} {v2 : Int} {v3 : Int} {o : Int}, g71 n S v1 v2 v3 = some o → Ru none (11 + 1 * n) (224 + 27 * n) 71 (0, mn_pad (mn_ent [.ref 20, vI v1, vI v2, vI v3]) 8, [], S.ns, Hp S) ((0, some (vI o)), S.ns, Hp S) := by
  intro n
  induction n with
  | zero => intro S v1 v2 v3 o h; cases h
  | succ n ih => intro S v1 v2 v3 o h; exact (g71b_ok (FR := 11 + 1 * n) (LO := 224 + 27 * n) (by omega) (by omega) ih h).up (by omega) (by omega)
