set_option maxRecDepth 100000 in
set_option maxHeartbeats 4000000 in
theorem g67_15_ok {S : St} {v1 : Nat} {v2 : Int} {v3 : Int} {o : Int × St} (h : g67_15 S v1 v2 v3 = some o) : Ru none 141 3929 67 (0, mn_pad (mn_ent [.ref 20, .ref v1, vI v2, vI v3, .ref 15]) 7, [], S.ns, Hp S) ((0, some (vI o.1)), o.2.ns, Hp o.2) := by
  unfold g67_15 at h
  show Ru none 141 3929 67 (0, [some (.ref 20), some (.ref v1), some (vI v2), some (vI v3), some (.ref 15), none, none], [], S.ns, Hp S) _
  refine Ru.op (q := (.aload_n 1, 1)) (S' := (1, _, _, _, _)) (by decide +kernel) rfl ?_
  obtain ⟨c1, c2, n3, n4, e5, q6, h⟩ := gC_some h
  refine Ru.getR (pc' := 4) (i := 18) (ci := 5) (k := 1) (nn := 0) (z := 0) (v := .ref c2) (by decide +kernel) (by decide +kernel) q6 (by decide) rfl rfl ?_
  refine Ru.op (q := (.iload_n 2, 1)) (S' := (5, _, _, _, _)) (by decide +kernel) rfl ?_
  obtain ⟨N7, f8, e9, q10, h⟩ := gA_some h
  obtain ⟨g11, h⟩ := gd_some h
  refine Ru.ildI (pc' := 6) (i := v2) (z := (f8 v2)) (by decide +kernel) q10 g11 rfl rfl ?_
  refine Ru.op (q := (.istore 5, 2)) (S' := (8, [some (.ref 20), some (.ref v1), some (vI v2), some (vI v3), some (.ref 15), some (vI (f8 v2)), none], [], _, _)) (by decide +kernel) rfl ?_
  refine Ru.op (q := (.aload_n 1, 1)) (S' := (9, _, _, _, _)) (by decide +kernel) rfl ?_
  refine Ru.getR (pc' := 12) (i := 18) (ci := 5) (k := 1) (nn := 0) (z := 0) (v := .ref c2) (by decide +kernel) (by decide +kernel) q6 (by decide) rfl rfl ?_
  refine Ru.op (q := (.iload_n 3, 1)) (S' := (13, _, _, _, _)) (by decide +kernel) rfl ?_
  obtain ⟨g12, h⟩ := gd_some h
  refine Ru.ildI (pc' := 14) (i := v3) (z := (f8 v3)) (by decide +kernel) q10 g12 rfl rfl ?_
  refine Ru.op (q := (.istore 6, 2)) (S' := (16, [some (.ref 20), some (.ref v1), some (vI v2), some (vI v3), some (.ref 15), some (vI (f8 v2)), some (vI (f8 v3))], [], _, _)) (by decide +kernel) rfl ?_
  refine Ru.op (q := (.aload_n 1, 1)) (S' := (17, _, _, _, _)) (by decide +kernel) rfl ?_
  refine Ru.getR (pc' := 20) (i := 23) (ci := 5) (k := 0) (nn := 0) (z := 0) (v := .ref c1) (by decide +kernel) (by decide +kernel) q6 (by decide) rfl rfl ?_
  refine Ru.op (q := (.iload 5, 2)) (S' := (22, _, _, _, _)) (by decide +kernel) rfl ?_
  obtain ⟨N13, f14, e15, q16, h⟩ := gA_some h
  obtain ⟨g17, h⟩ := gd_some h
  refine Ru.ildI (pc' := 23) (i := (f8 v2)) (z := (f14 (f8 v2))) (by decide +kernel) q16 g17 rfl rfl ?_
  refine Ru.op (q := (.aload_n 1, 1)) (S' := (24, _, _, _, _)) (by decide +kernel) rfl ?_
  refine Ru.getR (pc' := 27) (i := 23) (ci := 5) (k := 0) (nn := 0) (z := 0) (v := .ref c1) (by decide +kernel) (by decide +kernel) q6 (by decide) rfl rfl ?_
  refine Ru.op (q := (.iload 6, 2)) (S' := (29, _, _, _, _)) (by decide +kernel) rfl ?_
  obtain ⟨g18, h⟩ := gd_some h
  refine Ru.ildI (pc' := 30) (i := (f8 v3)) (z := (f14 (f8 v3))) (by decide +kernel) q16 g18 rfl rfl ?_
  by_cases b19 : (f14 (f8 v2)) = (f14 (f8 v3))
  · replace h := if_t b19 h
    refine Ru.br2 (k := .eq) (off := 5) (bb := true) (tg := 35) (by decide +kernel) (by decide +kernel) (ci_eq1 (e15 _) (e15 _) b19) rfl ?_
    refine Ru.op (q := (.aload_n 0, 1)) (S' := (36, _, _, _, _)) (by decide +kernel) rfl ?_
    refine Ru.op (q := (.aload_n 1, 1)) (S' := (37, _, _, _, _)) (by decide +kernel) rfl ?_
    refine Ru.kI (q := (.iconst 0, 1)) (c := 0) (pc' := 38) (by decide +kernel) rfl (by decide) rfl ?_
    obtain ⟨o20, e21, h⟩ := ob_some h
    refine Ru.vcallI (pc' := 41) (st' := []) (i := 26) (j2 := 68) (ci := 6) (k := 0) (z := 0) (as := [.ref v1, vI 0]) (by decide +kernel) (by decide +kernel) rfl rfl (hp20 _) (by decide) ⟨(Nat.le_of_ble_eq_true rfl), (by show 19 + 5 ≤ 3929; exact Nat.le_of_ble_eq_true rfl), Nat.le_of_ble_eq_true rfl, Nat.le_of_ble_eq_true rfl⟩ ((g68_ok e21).up (Nat.le_of_ble_eq_true rfl) (Nat.le_of_ble_eq_true rfl)) rfl rfl ?_
    refine Ru.op (q := (.aload_n 0, 1)) (S' := (42, _, _, _, _)) (by decide +kernel) rfl ?_
    refine Ru.op (q := (.iload 5, 2)) (S' := (44, _, _, _, _)) (by decide +kernel) rfl ?_
    refine Ru.op (q := (.iload 6, 2)) (S' := (46, _, _, _, _)) (by decide +kernel) rfl ?_
    refine Ru.kI (q := (.iconst 0, 1)) (c := 0) (pc' := 47) (by decide +kernel) rfl (by decide) rfl ?_
    obtain ⟨o22, e23, h⟩ := ob_some h
    refine Ru.vcallI (pc' := 50) (st' := [vI o22.1]) (i := 30) (j2 := 69) (ci := 6) (k := 0) (z := 0) (as := [vI (f8 v2), vI (f8 v3), vI 0]) (by decide +kernel) (by decide +kernel) rfl rfl (hp20 _) (by decide) ⟨(Nat.le_of_ble_eq_true rfl), (by show 19 + 11 ≤ 3929; exact Nat.le_of_ble_eq_true rfl), Nat.le_of_ble_eq_true rfl, Nat.le_of_ble_eq_true rfl⟩ ((g69_ok 64 e23).up (Nat.le_of_ble_eq_true rfl) (Nat.le_of_ble_eq_true rfl)) rfl rfl ?_
    obtain ⟨g24, h⟩ := gd_some h
    by_cases b25 : o22.1 = 0
    · replace h := if_t b25 h
      refine Ru.br (k := .ne) (off := 5) (bb := false) (tg := 53) (by decide +kernel) (by decide +kernel) (cz (ci_ne0 g24 (by decide) b25)) rfl ?_
      refine Ru.kI (q := (.iconst 0, 1)) (c := 0) (pc' := 54) (by decide +kernel) rfl (by decide) rfl ?_
      cases h
      exact Ru.iret (by decide +kernel) rfl (nar_b1 (by decide))
    · replace h := if_f b25 h
      refine Ru.br (k := .ne) (off := 5) (bb := true) (tg := 55) (by decide +kernel) (by decide +kernel) (cz (ci_ne1 g24 (by decide) b25)) rfl ?_
      refine Ru.op (q := (.aload 4, 2)) (S' := (57, _, _, _, _)) (by decide +kernel) rfl ?_
      obtain ⟨o26, e27, h⟩ := ob_some h
      refine Ru.vcallI (pc' := 60) (st' := []) (i := 34) (j2 := 41) (ci := 4) (k := 0) (z := 0) (as := []) (by decide +kernel) (by decide +kernel) rfl rfl (hp15 _) (by decide) ⟨(Nat.le_of_ble_eq_true rfl), (by show 19 + 1 ≤ 3929; exact Nat.le_of_ble_eq_true rfl), Nat.le_of_ble_eq_true rfl, Nat.le_of_ble_eq_true rfl⟩ ((g41_15_ok e27).up (Nat.le_of_ble_eq_true rfl) (Nat.le_of_ble_eq_true rfl)) rfl rfl ?_
      refine Ru.op (q := (.aload_n 0, 1)) (S' := (61, _, _, _, _)) (by decide +kernel) rfl ?_
      refine Ru.op (q := (.aload_n 1, 1)) (S' := (62, _, _, _, _)) (by decide +kernel) rfl ?_
      refine Ru.op (q := (.iload_n 3, 1)) (S' := (63, _, _, _, _)) (by decide +kernel) rfl ?_
      refine Ru.kI (q := (.iconst 0, 1)) (c := 0) (pc' := 64) (by decide +kernel) rfl (by decide) rfl ?_
      refine Ru.op (q := (.aload 4, 2)) (S' := (66, _, _, _, _)) (by decide +kernel) rfl ?_
      obtain ⟨o28, e29, h⟩ := ob_some h
      refine Ru.vcallI (pc' := 69) (st' := []) (i := 39) (j2 := 72) (ci := 6) (k := 0) (z := 0) (as := [.ref v1, vI v3, vI 0, .ref 15]) (by decide +kernel) (by decide +kernel) rfl rfl (hp20 _) (by decide) ⟨(Nat.le_of_ble_eq_true rfl), (by show 19 + 6 ≤ 3929; exact Nat.le_of_ble_eq_true rfl), Nat.le_of_ble_eq_true rfl, Nat.le_of_ble_eq_true rfl⟩ ((g72_15_ok e29).up (Nat.le_of_ble_eq_true rfl) (Nat.le_of_ble_eq_true rfl)) rfl rfl ?_
      refine Ru.op (q := (.aload 4, 2)) (S' := (71, _, _, _, _)) (by decide +kernel) rfl ?_
      obtain ⟨o30, e31, h⟩ := ob_some h
      refine Ru.vcallI (pc' := 74) (st' := []) (i := 43) (j2 := 48) (ci := 4) (k := 0) (z := 0) (as := []) (by decide +kernel) (by decide +kernel) rfl rfl (hp15 _) (by decide) ⟨(Nat.le_of_ble_eq_true rfl), (by show 19 + 5 ≤ 3929; exact Nat.le_of_ble_eq_true rfl), Nat.le_of_ble_eq_true rfl, Nat.le_of_ble_eq_true rfl⟩ ((g48_15_ok e31).up (Nat.le_of_ble_eq_true rfl) (Nat.le_of_ble_eq_true rfl)) rfl rfl ?_
      refine Ru.kI (q := (.iconst 1, 1)) (c := 1) (pc' := 75) (by decide +kernel) rfl (by decide) rfl ?_
      cases h
      exact Ru.iret (by decide +kernel) rfl (nar_b1 (by decide))
  · replace h := if_f b19 h
    refine Ru.br2 (k := .eq) (off := 5) (bb := false) (tg := 33) (by decide +kernel) (by decide +kernel) (ci_eq0 (e15 _) (e15 _) b19) rfl ?_
    refine Ru.kI (q := (.iconst 0, 1)) (c := 0) (pc' := 34) (by decide +kernel) rfl (by decide) rfl ?_
    cases h
    exact Ru.iret (by decide +kernel) rfl (nar_b1 (by decide))
set_option maxRecDepth 100000 in
set_option maxHeartbeats 4000000 in
theorem g65L25_ok {v1 : Int} {v2 : Nat} {v3 : Int} : ∀ (n : Nat) (v4 : Int) (S : St) (_ : DD []) (out : St), g65L25 v1 v2 v3 n v4 S = some out → ∀ r, (∀ (e4 : Option Value), DD [e4] → Ru none 142 3955 65 (75, [some (.ref 13), some (vI v1), some (.ref v2), some (vI v3), e4], [], out.ns, Hp out) r) → Ru none 142 3955 65 (25, [some (.ref 13), some (vI v1), some (.ref v2), some (vI v3), some (vI v4)], [], S.ns, Hp S) r := by
  intro n
  induction n with
  | zero => intro v4 S hdd out h; cases h
  | succ n ih =>
    intro v4 S hdd out h r hk
    unfold g65L25 at h
    refine Ru.op (q := (.iload 4, 2)) (S' := (27, _, _, _, _)) (by decide +kernel) rfl ?_
    refine Ru.op (q := (.aload_n 2, 1)) (S' := (28, _, _, _, _)) (by decide +kernel) rfl ?_
    obtain ⟨c21, c22, n23, n24, e25, q26, h⟩ := gC_some h
    refine Ru.getR (pc' := 31) (i := 104) (ci := 5) (k := 2) (nn := 0) (z := 0) (v := vI n23) (by decide +kernel) (by decide +kernel) q26 (by decide) rfl rfl ?_
    obtain ⟨g27, h⟩ := gd_some h
    by_cases b28 : v4 < n23
    · replace h := if_t b28 h
      refine Ru.br2 (k := .ge) (off := 44) (bb := false) (tg := 34) (by decide +kernel) (by decide +kernel) (ci_ge0 g27 e25.1 b28) rfl ?_
      refine Ru.op (q := (.aload_n 0, 1)) (S' := (35, _, _, _, _)) (by decide +kernel) rfl ?_
      obtain ⟨o29, e30, h⟩ := ob_some h
      refine Ru.vcallI (pc' := 38) (st' := [vI o29]) (i := 134) (j2 := 66) (ci := 3) (k := 0) (z := 0) (as := []) (by decide +kernel) (by decide +kernel) rfl rfl (hp13 _) (by decide) ⟨(Nat.le_of_ble_eq_true rfl), (by show 19 + 1 ≤ 3955; exact Nat.le_of_ble_eq_true rfl), Nat.le_of_ble_eq_true rfl, Nat.le_of_ble_eq_true rfl⟩ ((g66_ok e30).up (Nat.le_of_ble_eq_true rfl) (Nat.le_of_ble_eq_true rfl)) rfl rfl ?_
      obtain ⟨g31, h⟩ := gd_some h
      by_cases b32 : o29 = 0
      · replace h := if_t b32 h
        refine Ru.br (k := .ne) (off := 37) (bb := false) (tg := 41) (by decide +kernel) (by decide +kernel) (cz (ci_ne0 g31 (by decide) b32)) rfl ?_
        refine Ru.op (q := (.aload_n 0, 1)) (S' := (42, _, _, _, _)) (by decide +kernel) rfl ?_
        refine Ru.getR (pc' := 45) (i := 31) (ci := 3) (k := 10) (nn := 0) (z := 0) (v := .ref 20) (by decide +kernel) (by decide +kernel) (hp13 _) (by decide) rfl rfl ?_
        refine Ru.op (q := (.aload_n 2, 1)) (S' := (46, _, _, _, _)) (by decide +kernel) rfl ?_
        refine Ru.op (q := (.iload_n 3, 1)) (S' := (47, _, _, _, _)) (by decide +kernel) rfl ?_
        refine Ru.op (q := (.iload 4, 2)) (S' := (49, _, _, _, _)) (by decide +kernel) rfl ?_
        refine Ru.op (q := (.aload_n 0, 1)) (S' := (50, _, _, _, _)) (by decide +kernel) rfl ?_
        refine Ru.getR (pc' := 53) (i := 24) (ci := 3) (k := 9) (nn := 0) (z := 0) (v := .ref 15) (by decide +kernel) (by decide +kernel) (hp13 _) (by decide) rfl rfl ?_
        obtain ⟨o33, e34, h⟩ := ob_some h
        refine Ru.vcallI (pc' := 56) (st' := [vI o33.1]) (i := 144) (j2 := 67) (ci := 6) (k := 0) (z := 0) (as := [.ref v2, vI v3, vI v4, .ref 15]) (by decide +kernel) (by decide +kernel) rfl rfl (hp20 _) (by decide) ⟨(Nat.le_of_ble_eq_true rfl), (by show 19 + 7 ≤ 3955; exact Nat.le_of_ble_eq_true rfl), Nat.le_of_ble_eq_true rfl, Nat.le_of_ble_eq_true rfl⟩ ((g67_15_ok e34).up (Nat.le_of_ble_eq_true rfl) (Nat.le_of_ble_eq_true rfl)) rfl rfl ?_
        obtain ⟨g35, h⟩ := gd_some h
        by_cases b36 : o33.1 = 0
        · replace h := if_t b36 h
          refine Ru.br (k := .eq) (off := 13) (bb := true) (tg := 69) (by decide +kernel) (by decide +kernel) (cz (ci_eq1 g35 (by decide) b36)) rfl ?_
          refine Ru.inc (k := 4) (n := 1) (x := v4) (z := (v4 + 1)) (xs' := [some (.ref 13), some (vI v1), some (.ref v2), some (vI v3), some (vI (v4 + 1))]) (pc' := 72) (by decide +kernel) rfl rfl rfl rfl ?_
          refine Ru.op (q := (.goto (-47), 3)) (S' := (25, _, _, _, _)) (by decide +kernel) rfl ?_
          exact ih _ _ trivial _ h r hk
        · replace h := if_f b36 h
          refine Ru.br (k := .eq) (off := 13) (bb := false) (tg := 59) (by decide +kernel) (by decide +kernel) (cz (ci_eq0 g35 (by decide) b36)) rfl ?_
          refine Ru.op (q := (.aload_n 0, 1)) (S' := (60, _, _, _, _)) (by decide +kernel) rfl ?_
          refine Ru.kI (q := (.iconst 1, 1)) (c := 1) (pc' := 61) (by decide +kernel) rfl (by decide) rfl ?_
          refine Ru.op (q := (.iload_n 1, 1)) (S' := (62, _, _, _, _)) (by decide +kernel) rfl ?_
          refine Ru.op (q := (.iload_n 3, 1)) (S' := (63, _, _, _, _)) (by decide +kernel) rfl ?_
          refine Ru.op (q := (.iload_n 1, 1)) (S' := (64, _, _, _, _)) (by decide +kernel) rfl ?_
          refine Ru.op (q := (.iload 4, 2)) (S' := (66, _, _, _, _)) (by decide +kernel) rfl ?_
          obtain ⟨o37, e38, h⟩ := ob_some h
          refine Ru.vcallI (pc' := 69) (st' := []) (i := 73) (j2 := 49) (ci := 3) (k := 0) (z := 0) (as := [vI 1, vI v1, vI v3, vI v1, vI v4]) (by decide +kernel) (by decide +kernel) rfl rfl (hp13 _) (by decide) ⟨(Nat.le_of_ble_eq_true rfl), (by show 19 + 6 ≤ 3955; exact Nat.le_of_ble_eq_true rfl), Nat.le_of_ble_eq_true rfl, Nat.le_of_ble_eq_true rfl⟩ ((g49_ok e38).up (Nat.le_of_ble_eq_true rfl) (Nat.le_of_ble_eq_true rfl)) rfl rfl ?_
          refine Ru.inc (k := 4) (n := 1) (x := v4) (z := (v4 + 1)) (xs' := [some (.ref 13), some (vI v1), some (.ref v2), some (vI v3), some (vI (v4 + 1))]) (pc' := 72) (by decide +kernel) rfl rfl rfl rfl ?_
          refine Ru.op (q := (.goto (-47), 3)) (S' := (25, _, _, _, _)) (by decide +kernel) rfl ?_
          exact ih _ _ trivial _ h r hk
      · replace h := if_f b32 h
        refine Ru.br (k := .ne) (off := 37) (bb := true) (tg := 75) (by decide +kernel) (by decide +kernel) (cz (ci_ne1 g31 (by decide) b32)) rfl ?_
        cases h
        exact hk _ ⟨rfl, trivial⟩
    · replace h := if_f b28 h
      refine Ru.br2 (k := .ge) (off := 44) (bb := true) (tg := 75) (by decide +kernel) (by decide +kernel) (ci_ge1 g27 e25.1 b28) rfl ?_
      cases h
      exact hk _ ⟨rfl, trivial⟩
set_option maxRecDepth 100000 in
set_option maxHeartbeats 4000000 in
theorem g65L12_ok {v1 : Int} {v2 : Nat} : ∀ (n : Nat) (v3 : Int) (S : St) (d4 : Option Value) (_ : DD [d4]) (out : St), g65L12 v1 v2 n v3 S = some out → ∀ r, (∀ (e0 e1 e2 e3 e4 : Option Value), DD [e0, e1, e2, e3, e4] → Ru none 142 3955 65 (81, [e0, e1, e2, e3, e4], [], out.ns, Hp out) r) → Ru none 142 3955 65 (12, [some (.ref 13), some (vI v1), some (.ref v2), some (vI v3), d4], [], S.ns, Hp S) r := by
  intro n
  induction n with
  | zero => intro v3 S d4 hdd out h; cases h
  | succ n ih =>
    intro v3 S d4 hdd out h r hk
    unfold g65L12 at h
    refine Ru.op (q := (.iload_n 3, 1)) (S' := (13, _, _, _, _)) (by decide +kernel) rfl ?_
    refine Ru.op (q := (.aload_n 2, 1)) (S' := (14, _, _, _, _)) (by decide +kernel) rfl ?_
    obtain ⟨c13, c14, n15, n16, e17, q18, h⟩ := gC_some h
    refine Ru.getR (pc' := 17) (i := 104) (ci := 5) (k := 2) (nn := 0) (z := 0) (v := vI n15) (by decide +kernel) (by decide +kernel) q18 (by decide) rfl rfl ?_
    obtain ⟨g19, h⟩ := gd_some h
    by_cases b20 : v3 < n15
    · replace h := if_t b20 h
      refine Ru.br2 (k := .ge) (off := 64) (bb := false) (tg := 20) (by decide +kernel) (by decide +kernel) (ci_ge0 g19 e17.1 b20) rfl ?_
      refine Ru.op (q := (.iload_n 3, 1)) (S' := (21, _, _, _, _)) (by decide +kernel) rfl ?_
      refine Ru.kI (q := (.iconst 1, 1)) (c := 1) (pc' := 22) (by decide +kernel) rfl (by decide) rfl ?_
      refine Ru.ar2 (i := .iadd) (z := (v3 + 1)) (pc' := 23) (by decide +kernel) rfl (ar_add _ _) rfl ?_
      refine Ru.op (q := (.istore 4, 2)) (S' := (25, [some (.ref 13), some (vI v1), some (.ref v2), some (vI v3), some (vI (v3 + 1))], [], _, _)) (by decide +kernel) rfl ?_
      obtain ⟨o39, e41, h⟩ := ob_some h
      refine g65L25_ok FU _ _ trivial _ e41 _ ?_
      intro d40 hd42
      refine Ru.inc (k := 3) (n := 1) (x := v3) (z := (v3 + 1)) (xs' := [some (.ref 13), some (vI v1), some (.ref v2), some (vI (v3 + 1)), d40]) (pc' := 78) (by decide +kernel) rfl rfl rfl rfl ?_
      refine Ru.op (q := (.goto (-66), 3)) (S' := (12, _, _, _, _)) (by decide +kernel) rfl ?_
      exact ih _ _ _ ⟨hd42.1, trivial⟩ _ h r hk
    · replace h := if_f b20 h
      refine Ru.br2 (k := .ge) (off := 64) (bb := true) (tg := 81) (by decide +kernel) (by decide +kernel) (ci_ge1 g19 e17.1 b20) rfl ?_
      cases h
      exact hk _ _ _ _ _ ⟨rfl, rfl, rfl, rfl, hdd.1, trivial⟩
set_option maxRecDepth 100000 in
set_option maxHeartbeats 4000000 in
theorem g65_ok {S : St} {v1 : Int} {o : St} (h : g65 S v1 = some o) : Ru none 142 3955 65 (0, mn_pad (mn_ent [.ref 13, vI v1]) 5, [], S.ns, Hp S) ((0, none), o.ns, Hp o) := by
  unfold g65 at h
  show Ru none 142 3955 65 (0, [some (.ref 13), some (vI v1), none, none, none], [], S.ns, Hp S) _
  refine Ru.op (q := (.aload_n 0, 1)) (S' := (1, _, _, _, _)) (by decide +kernel) rfl ?_
  refine Ru.getR (pc' := 4) (i := 11) (ci := 3) (k := 0) (nn := 0) (z := 0) (v := .ref 14) (by decide +kernel) (by decide +kernel) (hp13 _) (by decide) rfl rfl ?_
  refine Ru.op (q := (.iload_n 1, 1)) (S' := (5, _, _, _, _)) (by decide +kernel) rfl ?_
  obtain ⟨g1, h⟩ := gd_some h
  obtain ⟨c2, e3, h⟩ := ob_some h
  refine Ru.aldI (pc' := 6) (i := v1) (b := c2) (by decide +kernel) (hp14 _) (by decide) g1 e3 rfl ?_
  obtain ⟨c4, n5, n6, n7, n8, n9, n10, e11, q12, h⟩ := gK_some h
  refine Ru.getR (pc' := 9) (i := 109) (ci := 9) (k := 0) (nn := 0) (z := 0) (v := .ref c4) (by decide +kernel) (by decide +kernel) q12 (by decide) rfl rfl ?_
  refine Ru.op (q := (.astore_n 2, 1)) (S' := (10, [some (.ref 13), some (vI v1), some (.ref c4), none, none], [], _, _)) (by decide +kernel) rfl ?_
  refine Ru.kI (q := (.iconst 0, 1)) (c := 0) (pc' := 11) (by decide +kernel) rfl (by decide) rfl ?_
  refine Ru.op (q := (.istore_n 3, 1)) (S' := (12, [some (.ref 13), some (vI v1), some (.ref c4), some (vI 0), none], [], _, _)) (by decide +kernel) rfl ?_
  obtain ⟨o43, e49, h⟩ := ob_some h
  refine g65L12_ok FU _ _ _ ⟨rfl, trivial⟩ _ e49 _ ?_
  intro d44 d45 d46 d47 d48 hd50
  cases h
  exact Ru.end (q := (.return_, 1)) (by decide +kernel) rfl rfl
set_option maxRecDepth 100000 in
set_option maxHeartbeats 4000000 in
theorem g75_15_ok {S : St} {v1 : Nat} {v2 : Int} {v3 : Nat} {v4 : Int} {o : Int × St} (h : g75_15 S v1 v2 v3 v4 = some o) : Ru none 141 3929 75 (0, mn_pad (mn_ent [.ref 20, .ref v1, vI v2, .ref v3, vI v4, .ref 15]) 8, [], S.ns, Hp S) ((0, some (vI o.1)), o.2.ns, Hp o.2) := by
  unfold g75_15 at h
  show Ru none 141 3929 75 (0, [some (.ref 20), some (.ref v1), some (vI v2), some (.ref v3), some (vI v4), some (.ref 15), none, none], [], S.ns, Hp S) _
  refine Ru.op (q := (.aload_n 1, 1)) (S' := (1, _, _, _, _)) (by decide +kernel) rfl ?_
  obtain ⟨c1, c2, n3, n4, e5, q6, h⟩ := gC_some h
  refine Ru.getR (pc' := 4) (i := 18) (ci := 5) (k := 1) (nn := 0) (z := 0) (v := .ref c2) (by decide +kernel) (by decide +kernel) q6 (by decide) rfl rfl ?_
  refine Ru.op (q := (.iload_n 2, 1)) (S' := (5, _, _, _, _)) (by decide +kernel) rfl ?_
  obtain ⟨N7, f8, e9, q10, h⟩ := gA_some h
  obtain ⟨g11, h⟩ := gd_some h
  refine Ru.ildI (pc' := 6) (i := v2) (z := (f8 v2)) (by decide +kernel) q10 g11 rfl rfl ?_
  refine Ru.op (q := (.istore 6, 2)) (S' := (8, [some (.ref 20), some (.ref v1), some (vI v2), some (.ref v3), some (vI v4), some (.ref 15), some (vI (f8 v2)), none], [], _, _)) (by decide +kernel) rfl ?_
  refine Ru.op (q := (.aload_n 3, 1)) (S' := (9, _, _, _, _)) (by decide +kernel) rfl ?_
  obtain ⟨c12, c13, n14, n15, e16, q17, h⟩ := gC_some h
  refine Ru.getR (pc' := 12) (i := 18) (ci := 5) (k := 1) (nn := 0) (z := 0) (v := .ref c13) (by decide +kernel) (by decide +kernel) q17 (by decide) rfl rfl ?_
  refine Ru.op (q := (.iload 4, 2)) (S' := (14, _, _, _, _)) (by decide +kernel) rfl ?_
  obtain ⟨N18, f19, e20, q21, h⟩ := gA_some h
  obtain ⟨g22, h⟩ := gd_some h
  refine Ru.ildI (pc' := 15) (i := v4) (z := (f19 v4)) (by decide +kernel) q21 g22 rfl rfl ?_
  refine Ru.op (q := (.istore 7, 2)) (S' := (17, [some (.ref 20), some (.ref v1), some (vI v2), some (.ref v3), some (vI v4), some (.ref 15), some (vI (f8 v2)), some (vI (f19 v4))], [], _, _)) (by decide +kernel) rfl ?_
  refine Ru.op (q := (.aload_n 1, 1)) (S' := (18, _, _, _, _)) (by decide +kernel) rfl ?_
  refine Ru.getR (pc' := 21) (i := 23) (ci := 5) (k := 0) (nn := 0) (z := 0) (v := .ref c1) (by decide +kernel) (by decide +kernel) q6 (by decide) rfl rfl ?_
  refine Ru.op (q := (.iload 6, 2)) (S' := (23, _, _, _, _)) (by decide +kernel) rfl ?_
  obtain ⟨N23, f24, e25, q26, h⟩ := gA_some h
  obtain ⟨g27, h⟩ := gd_some h
  refine Ru.ildI (pc' := 24) (i := (f8 v2)) (z := (f24 (f8 v2))) (by decide +kernel) q26 g27 rfl rfl ?_
  refine Ru.op (q := (.aload_n 3, 1)) (S' := (25, _, _, _, _)) (by decide +kernel) rfl ?_
  refine Ru.getR (pc' := 28) (i := 23) (ci := 5) (k := 0) (nn := 0) (z := 0) (v := .ref c12) (by decide +kernel) (by decide +kernel) q17 (by decide) rfl rfl ?_
  refine Ru.op (q := (.iload 7, 2)) (S' := (30, _, _, _, _)) (by decide +kernel) rfl ?_
  obtain ⟨N28, f29, e30, q31, h⟩ := gA_some h
  obtain ⟨g32, h⟩ := gd_some h
  refine Ru.ildI (pc' := 31) (i := (f19 v4)) (z := (f29 (f19 v4))) (by decide +kernel) q31 g32 rfl rfl ?_
  obtain ⟨g33, h⟩ := gd_some h
  refine Ru.ar2 (i := .ixor) (z := (xr (f24 (f8 v2)) (f29 (f19 v4)))) (pc' := 32) (by decide +kernel) rfl (ar_xor g33) rfl ?_
  refine Ru.kI (q := (.sipush 256, 3)) (c := 256) (pc' := 35) (by decide +kernel) rfl (by decide) rfl ?_
  obtain ⟨g34, h⟩ := gd_some h
  by_cases b35 : (xr (f24 (f8 v2)) (f29 (f19 v4))) = 256
  · replace h := if_t b35 h
    refine Ru.br2 (k := .eq) (off := 5) (bb := true) (tg := 40) (by decide +kernel) (by decide +kernel) (ci_eq1 g34 (by decide) b35) rfl ?_
    refine Ru.op (q := (.aload_n 0, 1)) (S' := (41, _, _, _, _)) (by decide +kernel) rfl ?_
    refine Ru.op (q := (.aload_n 1, 1)) (S' := (42, _, _, _, _)) (by decide +kernel) rfl ?_
    refine Ru.kI (q := (.iconst 0, 1)) (c := 0) (pc' := 43) (by decide +kernel) rfl (by decide) rfl ?_
    obtain ⟨o36, e37, h⟩ := ob_some h
    refine Ru.vcallI (pc' := 46) (st' := []) (i := 26) (j2 := 68) (ci := 6) (k := 0) (z := 0) (as := [.ref v1, vI 0]) (by decide +kernel) (by decide +kernel) rfl rfl (hp20 _) (by decide) ⟨(Nat.le_of_ble_eq_true rfl), (by show 19 + 5 ≤ 3929; exact Nat.le_of_ble_eq_true rfl), Nat.le_of_ble_eq_true rfl, Nat.le_of_ble_eq_true rfl⟩ ((g68_ok e37).up (Nat.le_of_ble_eq_true rfl) (Nat.le_of_ble_eq_true rfl)) rfl rfl ?_
    refine Ru.op (q := (.aload_n 0, 1)) (S' := (47, _, _, _, _)) (by decide +kernel) rfl ?_
    refine Ru.op (q := (.aload_n 3, 1)) (S' := (48, _, _, _, _)) (by decide +kernel) rfl ?_
    refine Ru.kI (q := (.bipush 16, 2)) (c := 16) (pc' := 50) (by decide +kernel) rfl (by decide) rfl ?_
    obtain ⟨o38, e39, h⟩ := ob_some h
    refine Ru.vcallI (pc' := 53) (st' := []) (i := 26) (j2 := 68) (ci := 6) (k := 0) (z := 0) (as := [.ref v3, vI 16]) (by decide +kernel) (by decide +kernel) rfl rfl (hp20 _) (by decide) ⟨(Nat.le_of_ble_eq_true rfl), (by show 19 + 5 ≤ 3929; exact Nat.le_of_ble_eq_true rfl), Nat.le_of_ble_eq_true rfl, Nat.le_of_ble_eq_true rfl⟩ ((g68_ok e39).up (Nat.le_of_ble_eq_true rfl) (Nat.le_of_ble_eq_true rfl)) rfl rfl ?_
    refine Ru.op (q := (.aload_n 0, 1)) (S' := (54, _, _, _, _)) (by decide +kernel) rfl ?_
    refine Ru.op (q := (.iload 6, 2)) (S' := (56, _, _, _, _)) (by decide +kernel) rfl ?_
    refine Ru.kI (q := (.bipush 16, 2)) (c := 16) (pc' := 58) (by decide +kernel) rfl (by decide) rfl ?_
    refine Ru.op (q := (.iload 7, 2)) (S' := (60, _, _, _, _)) (by decide +kernel) rfl ?_
    refine Ru.ar2 (i := .iadd) (z := (16 + (f19 v4))) (pc' := 61) (by decide +kernel) rfl (ar_add _ _) rfl ?_
    refine Ru.kI (q := (.iconst 0, 1)) (c := 0) (pc' := 62) (by decide +kernel) rfl (by decide) rfl ?_
    obtain ⟨o40, e41, h⟩ := ob_some h
    refine Ru.vcallI (pc' := 65) (st' := [vI o40.1]) (i := 30) (j2 := 69) (ci := 6) (k := 0) (z := 0) (as := [vI (f8 v2), vI (16 + (f19 v4)), vI 0]) (by decide +kernel) (by decide +kernel) rfl rfl (hp20 _) (by decide) ⟨(Nat.le_of_ble_eq_true rfl), (by show 19 + 11 ≤ 3929; exact Nat.le_of_ble_eq_true rfl), Nat.le_of_ble_eq_true rfl, Nat.le_of_ble_eq_true rfl⟩ ((g69_ok 64 e41).up (Nat.le_of_ble_eq_true rfl) (Nat.le_of_ble_eq_true rfl)) rfl rfl ?_
    obtain ⟨g42, h⟩ := gd_some h
    by_cases b43 : o40.1 = 0
    · replace h := if_t b43 h
      refine Ru.br (k := .ne) (off := 5) (bb := false) (tg := 68) (by decide +kernel) (by decide +kernel) (cz (ci_ne0 g42 (by decide) b43)) rfl ?_
      refine Ru.kI (q := (.iconst 0, 1)) (c := 0) (pc' := 69) (by decide +kernel) rfl (by decide) rfl ?_
      cases h
      exact Ru.iret (by decide +kernel) rfl (nar_b1 (by decide))
    · replace h := if_f b43 h
      refine Ru.br (k := .ne) (off := 5) (bb := true) (tg := 70) (by decide +kernel) (by decide +kernel) (cz (ci_ne1 g42 (by decide) b43)) rfl ?_
      refine Ru.op (q := (.aload 5, 2)) (S' := (72, _, _, _, _)) (by decide +kernel) rfl ?_
      obtain ⟨o44, e45, h⟩ := ob_some h
      refine Ru.vcallI (pc' := 75) (st' := []) (i := 34) (j2 := 41) (ci := 4) (k := 0) (z := 0) (as := []) (by decide +kernel) (by decide +kernel) rfl rfl (hp15 _) (by decide) ⟨(Nat.le_of_ble_eq_true rfl), (by show 19 + 1 ≤ 3929; exact Nat.le_of_ble_eq_true rfl), Nat.le_of_ble_eq_true rfl, Nat.le_of_ble_eq_true rfl⟩ ((g41_15_ok e45).up (Nat.le_of_ble_eq_true rfl) (Nat.le_of_ble_eq_true rfl)) rfl rfl ?_
      refine Ru.op (q := (.aload_n 0, 1)) (S' := (76, _, _, _, _)) (by decide +kernel) rfl ?_
      refine Ru.op (q := (.aload_n 1, 1)) (S' := (77, _, _, _, _)) (by decide +kernel) rfl ?_
      refine Ru.op (q := (.iload_n 2, 1)) (S' := (78, _, _, _, _)) (by decide +kernel) rfl ?_
      refine Ru.kI (q := (.iconst 0, 1)) (c := 0) (pc' := 79) (by decide +kernel) rfl (by decide) rfl ?_
      refine Ru.op (q := (.aload 5, 2)) (S' := (81, _, _, _, _)) (by decide +kernel) rfl ?_
      obtain ⟨o46, e47, h⟩ := ob_some h
      refine Ru.vcallI (pc' := 84) (st' := []) (i := 39) (j2 := 72) (ci := 6) (k := 0) (z := 0) (as := [.ref v1, vI v2, vI 0, .ref 15]) (by decide +kernel) (by decide +kernel) rfl rfl (hp20 _) (by decide) ⟨(Nat.le_of_ble_eq_true rfl), (by show 19 + 6 ≤ 3929; exact Nat.le_of_ble_eq_true rfl), Nat.le_of_ble_eq_true rfl, Nat.le_of_ble_eq_true rfl⟩ ((g72_15_ok e47).up (Nat.le_of_ble_eq_true rfl) (Nat.le_of_ble_eq_true rfl)) rfl rfl ?_
      refine Ru.op (q := (.aload_n 0, 1)) (S' := (85, _, _, _, _)) (by decide +kernel) rfl ?_
      refine Ru.op (q := (.aload_n 3, 1)) (S' := (86, _, _, _, _)) (by decide +kernel) rfl ?_
      refine Ru.op (q := (.iload 4, 2)) (S' := (88, _, _, _, _)) (by decide +kernel) rfl ?_
      refine Ru.kI (q := (.bipush 16, 2)) (c := 16) (pc' := 90) (by decide +kernel) rfl (by decide) rfl ?_
      refine Ru.op (q := (.aload 5, 2)) (S' := (92, _, _, _, _)) (by decide +kernel) rfl ?_
      obtain ⟨o48, e49, h⟩ := ob_some h
      refine Ru.vcallI (pc' := 95) (st' := []) (i := 39) (j2 := 72) (ci := 6) (k := 0) (z := 0) (as := [.ref v3, vI v4, vI 16, .ref 15]) (by decide +kernel) (by decide +kernel) rfl rfl (hp20 _) (by decide) ⟨(Nat.le_of_ble_eq_true rfl), (by show 19 + 6 ≤ 3929; exact Nat.le_of_ble_eq_true rfl), Nat.le_of_ble_eq_true rfl, Nat.le_of_ble_eq_true rfl⟩ ((g72_15_ok e49).up (Nat.le_of_ble_eq_true rfl) (Nat.le_of_ble_eq_true rfl)) rfl rfl ?_
      refine Ru.op (q := (.aload 5, 2)) (S' := (97, _, _, _, _)) (by decide +kernel) rfl ?_
      obtain ⟨o50, e51, h⟩ := ob_some h
      refine Ru.vcallI (pc' := 100) (st' := []) (i := 43) (j2 := 48) (ci := 4) (k := 0) (z := 0) (as := []) (by decide +kernel) (by decide +kernel) rfl rfl (hp15 _) (by decide) ⟨(Nat.le_of_ble_eq_true rfl), (by show 19 + 5 ≤ 3929; exact Nat.le_of_ble_eq_true rfl), Nat.le_of_ble_eq_true rfl, Nat.le_of_ble_eq_true rfl⟩ ((g48_15_ok e51).up (Nat.le_of_ble_eq_true rfl) (Nat.le_of_ble_eq_true rfl)) rfl rfl ?_
      refine Ru.kI (q := (.iconst 1, 1)) (c := 1) (pc' := 101) (by decide +kernel) rfl (by decide) rfl ?_
      cases h
      exact Ru.iret (by decide +kernel) rfl (nar_b1 (by decide))
  · replace h := if_f b35 h
    refine Ru.br2 (k := .eq) (off := 5) (bb := false) (tg := 38) (by decide +kernel) (by decide +kernel) (ci_eq0 g34 (by decide) b35) rfl ?_
    refine Ru.kI (q := (.iconst 0, 1)) (c := 0) (pc' := 39) (by decide +kernel) rfl (by decide) rfl ?_
    cases h
    exact Ru.iret (by decide +kernel) rfl (nar_b1 (by decide))
set_option maxRecDepth 100000 in
set_option maxHeartbeats 4000000 in
theorem g74L36_ok {v1 : Int} {v2 : Int} {v3 : Nat} {v4 : Nat} {v5 : Int} : ∀ (n : Nat) (v6 : Int) (S : St) (_ : DD []) (out : St), g74L36 v1 v2 v3 v4 v5 n v6 S = some out → ∀ r, (∀ (e6 : Option Value), DD [e6] → Ru none 142 3956 74 (91, [some (.ref 13), some (vI v1), some (vI v2), some (.ref v3), some (.ref v4), some (vI v5), e6], [], out.ns, Hp out) r) → Ru none 142 3956 74 (36, [some (.ref 13), some (vI v1), some (vI v2), some (.ref v3), some (.ref v4), some (vI v5), some (vI v6)], [], S.ns, Hp S) r := by
  intro n
  induction n with
  | zero => intro v6 S hdd out h; cases h
  | succ n ih =>
    intro v6 S hdd out h r hk
    unfold g74L36 at h
    refine Ru.op (q := (.iload 6, 2)) (S' := (38, _, _, _, _)) (by decide +kernel) rfl ?_
    refine Ru.op (q := (.aload 4, 2)) (S' := (40, _, _, _, _)) (by decide +kernel) rfl ?_
    obtain ⟨c33, c34, n35, n36, e37, q38, h⟩ := gC_some h
    refine Ru.getR (pc' := 43) (i := 104) (ci := 5) (k := 2) (nn := 0) (z := 0) (v := vI n35) (by decide +kernel) (by decide +kernel) q38 (by decide) rfl rfl ?_
    obtain ⟨g39, h⟩ := gd_some h
    by_cases b40 : v6 < n35
    · replace h := if_t b40 h
      refine Ru.br2 (k := .ge) (off := 48) (bb := false) (tg := 46) (by decide +kernel) (by decide +kernel) (ci_ge0 g39 e37.1 b40) rfl ?_
      refine Ru.op (q := (.aload_n 0, 1)) (S' := (47, _, _, _, _)) (by decide +kernel) rfl ?_
      obtain ⟨o41, e42, h⟩ := ob_some h
      refine Ru.vcallI (pc' := 50) (st' := [vI o41]) (i := 134) (j2 := 66) (ci := 3) (k := 0) (z := 0) (as := []) (by decide +kernel) (by decide +kernel) rfl rfl (hp13 _) (by decide) ⟨(Nat.le_of_ble_eq_true rfl), (by show 19 + 1 ≤ 3956; exact Nat.le_of_ble_eq_true rfl), Nat.le_of_ble_eq_true rfl, Nat.le_of_ble_eq_true rfl⟩ ((g66_ok e42).up (Nat.le_of_ble_eq_true rfl) (Nat.le_of_ble_eq_true rfl)) rfl rfl ?_
      obtain ⟨g43, h⟩ := gd_some h
      by_cases b44 : o41 = 0
      · replace h := if_t b44 h
        refine Ru.br (k := .ne) (off := 41) (bb := false) (tg := 53) (by decide +kernel) (by decide +kernel) (cz (ci_ne0 g43 (by decide) b44)) rfl ?_
        refine Ru.op (q := (.aload_n 0, 1)) (S' := (54, _, _, _, _)) (by decide +kernel) rfl ?_
        refine Ru.getR (pc' := 57) (i := 31) (ci := 3) (k := 10) (nn := 0) (z := 0) (v := .ref 20) (by decide +kernel) (by decide +kernel) (hp13 _) (by decide) rfl rfl ?_
        refine Ru.op (q := (.aload_n 3, 1)) (S' := (58, _, _, _, _)) (by decide +kernel) rfl ?_
        refine Ru.op (q := (.iload 5, 2)) (S' := (60, _, _, _, _)) (by decide +kernel) rfl ?_
        refine Ru.op (q := (.aload 4, 2)) (S' := (62, _, _, _, _)) (by decide +kernel) rfl ?_
        refine Ru.op (q := (.iload 6, 2)) (S' := (64, _, _, _, _)) (by decide +kernel) rfl ?_
        refine Ru.op (q := (.aload_n 0, 1)) (S' := (65, _, _, _, _)) (by decide +kernel) rfl ?_
        refine Ru.getR (pc' := 68) (i := 24) (ci := 3) (k := 9) (nn := 0) (z := 0) (v := .ref 15) (by decide +kernel) (by decide +kernel) (hp13 _) (by decide) rfl rfl ?_
        obtain ⟨o45, e46, h⟩ := ob_some h
        refine Ru.vcallI (pc' := 71) (st' := [vI o45.1]) (i := 148) (j2 := 75) (ci := 6) (k := 0) (z := 0) (as := [.ref v3, vI v5, .ref v4, vI v6, .ref 15]) (by decide +kernel) (by decide +kernel) rfl rfl (hp20 _) (by decide) ⟨(Nat.le_of_ble_eq_true rfl), (by show 19 + 8 ≤ 3956; exact Nat.le_of_ble_eq_true rfl), Nat.le_of_ble_eq_true rfl, Nat.le_of_ble_eq_true rfl⟩ ((g75_15_ok e46).up (Nat.le_of_ble_eq_true rfl) (Nat.le_of_ble_eq_true rfl)) rfl rfl ?_
        obtain ⟨g47, h⟩ := gd_some h
        by_cases b48 : o45.1 = 0
        · replace h := if_t b48 h
          refine Ru.br (k := .eq) (off := 14) (bb := true) (tg := 85) (by decide +kernel) (by decide +kernel) (cz (ci_eq1 g47 (by decide) b48)) rfl ?_
          refine Ru.inc (k := 6) (n := 1) (x := v6) (z := (v6 + 1)) (xs' := [some (.ref 13), some (vI v1), some (vI v2), some (.ref v3), some (.ref v4), some (vI v5), some (vI (v6 + 1))]) (pc' := 88) (by decide +kernel) rfl rfl rfl rfl ?_
          refine Ru.op (q := (.goto (-52), 3)) (S' := (36, _, _, _, _)) (by decide +kernel) rfl ?_
          exact ih _ _ trivial _ h r hk
        · replace h := if_f b48 h
          refine Ru.br (k := .eq) (off := 14) (bb := false) (tg := 74) (by decide +kernel) (by decide +kernel) (cz (ci_eq0 g47 (by decide) b48)) rfl ?_
          refine Ru.op (q := (.aload_n 0, 1)) (S' := (75, _, _, _, _)) (by decide +kernel) rfl ?_
          refine Ru.kI (q := (.iconst 2, 1)) (c := 2) (pc' := 76) (by decide +kernel) rfl (by decide) rfl ?_
          refine Ru.op (q := (.iload_n 1, 1)) (S' := (77, _, _, _, _)) (by decide +kernel) rfl ?_
          refine Ru.op (q := (.iload 5, 2)) (S' := (79, _, _, _, _)) (by decide +kernel) rfl ?_
          refine Ru.op (q := (.iload_n 2, 1)) (S' := (80, _, _, _, _)) (by decide +kernel) rfl ?_
          refine Ru.op (q := (.iload 6, 2)) (S' := (82, _, _, _, _)) (by decide +kernel) rfl ?_
          obtain ⟨o49, e50, h⟩ := ob_some h
          refine Ru.vcallI (pc' := 85) (st' := []) (i := 73) (j2 := 49) (ci := 3) (k := 0) (z := 0) (as := [vI 2, vI v1, vI v5, vI v2, vI v6]) (by decide +kernel) (by decide +kernel) rfl rfl (hp13 _) (by decide) ⟨(Nat.le_of_ble_eq_true rfl), (by show 19 + 6 ≤ 3956; exact Nat.le_of_ble_eq_true rfl), Nat.le_of_ble_eq_true rfl, Nat.le_of_ble_eq_true rfl⟩ ((g49_ok e50).up (Nat.le_of_ble_eq_true rfl) (Nat.le_of_ble_eq_true rfl)) rfl rfl ?_
          refine Ru.inc (k := 6) (n := 1) (x := v6) (z := (v6 + 1)) (xs' := [some (.ref 13), some (vI v1), some (vI v2), some (.ref v3), some (.ref v4), some (vI v5), some (vI (v6 + 1))]) (pc' := 88) (by decide +kernel) rfl rfl rfl rfl ?_
          refine Ru.op (q := (.goto (-52), 3)) (S' := (36, _, _, _, _)) (by decide +kernel) rfl ?_
          exact ih _ _ trivial _ h r hk
      · replace h := if_f b44 h
        refine Ru.br (k := .ne) (off := 41) (bb := true) (tg := 91) (by decide +kernel) (by decide +kernel) (cz (ci_ne1 g43 (by decide) b44)) rfl ?_
        cases h
        exact hk _ ⟨rfl, trivial⟩
    · replace h := if_f b40 h
      refine Ru.br2 (k := .ge) (off := 48) (bb := true) (tg := 91) (by decide +kernel) (by decide +kernel) (ci_ge1 g39 e37.1 b40) rfl ?_
      cases h
      exact hk _ ⟨rfl, trivial⟩
set_option maxRecDepth 100000 in
set_option maxHeartbeats 4000000 in
theorem g74L24_ok {v1 : Int} {v2 : Int} {v3 : Nat} {v4 : Nat} : ∀ (n : Nat) (v5 : Int) (S : St) (d6 : Option Value) (_ : DD [d6]) (out : St), g74L24 v1 v2 v3 v4 n v5 S = some out → ∀ r, (∀ (e0 e1 e2 e3 e4 e5 e6 : Option Value), DD [e0, e1, e2, e3, e4, e5, e6] → Ru none 142 3956 74 (97, [e0, e1, e2, e3, e4, e5, e6], [], out.ns, Hp out) r) → Ru none 142 3956 74 (24, [some (.ref 13), some (vI v1), some (vI v2), some (.ref v3), some (.ref v4), some (vI v5), d6], [], S.ns, Hp S) r := by
  intro n
  induction n with
  | zero => intro v5 S d6 hdd out h; cases h
  | succ n ih =>
    intro v5 S d6 hdd out h r hk
    unfold g74L24 at h
    refine Ru.op (q := (.iload 5, 2)) (S' := (26, _, _, _, _)) (by decide +kernel) rfl ?_
    refine Ru.op (q := (.aload_n 3, 1)) (S' := (27, _, _, _, _)) (by decide +kernel) rfl ?_
    obtain ⟨c25, c26, n27, n28, e29, q30, h⟩ := gC_some h
    refine Ru.getR (pc' := 30) (i := 104) (ci := 5) (k := 2) (nn := 0) (z := 0) (v := vI n27) (by decide +kernel) (by decide +kernel) q30 (by decide) rfl rfl ?_
    obtain ⟨g31, h⟩ := gd_some h
    by_cases b32 : v5 < n27
    · replace h := if_t b32 h
      refine Ru.br2 (k := .ge) (off := 67) (bb := false) (tg := 33) (by decide +kernel) (by decide +kernel) (ci_ge0 g31 e29.1 b32) rfl ?_
      refine Ru.kI (q := (.iconst 0, 1)) (c := 0) (pc' := 34) (by decide +kernel) rfl (by decide) rfl ?_
      refine Ru.op (q := (.istore 6, 2)) (S' := (36, [some (.ref 13), some (vI v1), some (vI v2), some (.ref v3), some (.ref v4), some (vI v5), some (vI 0)], [], _, _)) (by decide +kernel) rfl ?_
      obtain ⟨o51, e53, h⟩ := ob_some h
      refine g74L36_ok FU _ _ trivial _ e53 _ ?_
      intro d52 hd54
      refine Ru.inc (k := 5) (n := 1) (x := v5) (z := (v5 + 1)) (xs' := [some (.ref 13), some (vI v1), some (vI v2), some (.ref v3), some (.ref v4), some (vI (v5 + 1)), d52]) (pc' := 94) (by decide +kernel) rfl rfl rfl rfl ?_
      refine Ru.op (q := (.goto (-70), 3)) (S' := (24, _, _, _, _)) (by decide +kernel) rfl ?_
      exact ih _ _ _ ⟨hd54.1, trivial⟩ _ h r hk
    · replace h := if_f b32 h
      refine Ru.br2 (k := .ge) (off := 67) (bb := true) (tg := 97) (by decide +kernel) (by decide +kernel) (ci_ge1 g31 e29.1 b32) rfl ?_
      cases h
      exact hk _ _ _ _ _ _ _ ⟨rfl, rfl, rfl, rfl, rfl, rfl, hdd.1, trivial⟩
set_option maxRecDepth 100000 in
set_option maxHeartbeats 4000000 in
theorem g74_ok {S : St} {v1 : Int} {v2 : Int} {o : St} (h : g74 S v1 v2 = some o) : Ru none 142 3956 74 (0, mn_pad (mn_ent [.ref 13, vI v1, vI v2]) 7, [], S.ns, Hp S) ((0, none), o.ns, Hp o) := by
  unfold g74 at h
  show Ru none 142 3956 74 (0, [some (.ref 13), some (vI v1), some (vI v2), none, none, none, none], [], S.ns, Hp S) _
  refine Ru.op (q := (.aload_n 0, 1)) (S' := (1, _, _, _, _)) (by decide +kernel) rfl ?_
  refine Ru.getR (pc' := 4) (i := 11) (ci := 3) (k := 0) (nn := 0) (z := 0) (v := .ref 14) (by decide +kernel) (by decide +kernel) (hp13 _) (by decide) rfl rfl ?_
  refine Ru.op (q := (.iload_n 1, 1)) (S' := (5, _, _, _, _)) (by decide +kernel) rfl ?_
  obtain ⟨g1, h⟩ := gd_some h
  obtain ⟨c2, e3, h⟩ := ob_some h
  refine Ru.aldI (pc' := 6) (i := v1) (b := c2) (by decide +kernel) (hp14 _) (by decide) g1 e3 rfl ?_
  obtain ⟨c4, n5, n6, n7, n8, n9, n10, e11, q12, h⟩ := gK_some h
  refine Ru.getR (pc' := 9) (i := 109) (ci := 9) (k := 0) (nn := 0) (z := 0) (v := .ref c4) (by decide +kernel) (by decide +kernel) q12 (by decide) rfl rfl ?_
  refine Ru.op (q := (.astore_n 3, 1)) (S' := (10, [some (.ref 13), some (vI v1), some (vI v2), some (.ref c4), none, none, none], [], _, _)) (by decide +kernel) rfl ?_
  refine Ru.op (q := (.aload_n 0, 1)) (S' := (11, _, _, _, _)) (by decide +kernel) rfl ?_
  refine Ru.getR (pc' := 14) (i := 11) (ci := 3) (k := 0) (nn := 0) (z := 0) (v := .ref 14) (by decide +kernel) (by decide +kernel) (hp13 _) (by decide) rfl rfl ?_
  refine Ru.op (q := (.iload_n 2, 1)) (S' := (15, _, _, _, _)) (by decide +kernel) rfl ?_
  obtain ⟨g13, h⟩ := gd_some h
  obtain ⟨c14, e15, h⟩ := ob_some h
  refine Ru.aldI (pc' := 16) (i := v2) (b := c14) (by decide +kernel) (hp14 _) (by decide) g13 e15 rfl ?_
  obtain ⟨c16, n17, n18, n19, n20, n21, n22, e23, q24, h⟩ := gK_some h
  refine Ru.getR (pc' := 19) (i := 109) (ci := 9) (k := 0) (nn := 0) (z := 0) (v := .ref c16) (by decide +kernel) (by decide +kernel) q24 (by decide) rfl rfl ?_
  refine Ru.op (q := (.astore 4, 2)) (S' := (21, [some (.ref 13), some (vI v1), some (vI v2), some (.ref c4), some (.ref c16), none, none], [], _, _)) (by decide +kernel) rfl ?_
  refine Ru.kI (q := (.iconst 0, 1)) (c := 0) (pc' := 22) (by decide +kernel) rfl (by decide) rfl ?_
  refine Ru.op (q := (.istore 5, 2)) (S' := (24, [some (.ref 13), some (vI v1), some (vI v2), some (.ref c4), some (.ref c16), some (vI 0), none], [], _, _)) (by decide +kernel) rfl ?_
  obtain ⟨o55, e63, h⟩ := ob_some h
  refine g74L24_ok FU _ _ _ ⟨rfl, trivial⟩ _ e63 _ ?_
  intro d56 d57 d58 d59 d60 d61 d62 hd64
  cases h
  exact Ru.end (q := (.return_, 1)) (by decide +kernel) rfl rfl
set_option maxRecDepth 100000 in
set_option maxHeartbeats 4000000 in
theorem g61L85_ok {v1 : Int} {v2 : Int} : ∀ (n : Nat) (v3 : Int) (S : St) (_ : DD []) (out : St), g61L85 v1 v2 n v3 S = some out → ∀ r, (∀ (e0 e2 e3 : Option Value), DD [e0, e2, e3] → Ru none 143 3982 61 (122, [e0, some (vI v1), e2, e3], [], out.ns, Hp out) r) → Ru none 143 3982 61 (85, [some (.ref 13), some (vI v1), some (vI v2), some (vI v3)], [], S.ns, Hp S) r := by
  intro n
  induction n with
  | zero => intro v3 S hdd out h; cases h
  | succ n ih =>
    intro v3 S hdd out h r hk
    unfold g61L85 at h
    refine Ru.op (q := (.iload_n 3, 1)) (S' := (86, _, _, _, _)) (by decide +kernel) rfl ?_
    refine Ru.op (q := (.iload_n 2, 1)) (S' := (87, _, _, _, _)) (by decide +kernel) rfl ?_
    obtain ⟨g29, h⟩ := gd_some h
    obtain ⟨g30, h⟩ := gd_some h
    by_cases b31 : v3 < v2
    · replace h := if_t b31 h
      refine Ru.br2 (k := .ge) (off := 35) (bb := false) (tg := 90) (by decide +kernel) (by decide +kernel) (ci_ge0 g29 g30 b31) rfl ?_
      refine Ru.op (q := (.aload_n 0, 1)) (S' := (91, _, _, _, _)) (by decide +kernel) rfl ?_
      obtain ⟨o32, e33, h⟩ := ob_some h
      refine Ru.vcallI (pc' := 94) (st' := [vI o32]) (i := 134) (j2 := 66) (ci := 3) (k := 0) (z := 0) (as := []) (by decide +kernel) (by decide +kernel) rfl rfl (hp13 _) (by decide) ⟨(Nat.le_of_ble_eq_true rfl), (by show 19 + 1 ≤ 3982; exact Nat.le_of_ble_eq_true rfl), Nat.le_of_ble_eq_true rfl, Nat.le_of_ble_eq_true rfl⟩ ((g66_ok e33).up (Nat.le_of_ble_eq_true rfl) (Nat.le_of_ble_eq_true rfl)) rfl rfl ?_
      obtain ⟨g34, h⟩ := gd_some h
      by_cases b35 : o32 = 0
      · replace h := if_t b35 h
        refine Ru.br (k := .ne) (off := 28) (bb := false) (tg := 97) (by decide +kernel) (by decide +kernel) (cz (ci_ne0 g34 (by decide) b35)) rfl ?_
        refine Ru.op (q := (.aload_n 0, 1)) (S' := (98, _, _, _, _)) (by decide +kernel) rfl ?_
        refine Ru.getR (pc' := 101) (i := 11) (ci := 3) (k := 0) (nn := 0) (z := 0) (v := .ref 14) (by decide +kernel) (by decide +kernel) (hp13 _) (by decide) rfl rfl ?_
        refine Ru.op (q := (.iload_n 3, 1)) (S' := (102, _, _, _, _)) (by decide +kernel) rfl ?_
        obtain ⟨g36, h⟩ := gd_some h
        obtain ⟨c37, e38, h⟩ := ob_some h
        refine Ru.aldI (pc' := 103) (i := v3) (b := c37) (by decide +kernel) (hp14 _) (by decide) g36 e38 rfl ?_
        obtain ⟨c39, n40, n41, n42, n43, n44, n45, e46, q47, h⟩ := gK_some h
        refine Ru.getR (pc' := 106) (i := 60) (ci := 9) (k := 1) (nn := 0) (z := 0) (v := vI n40) (by decide +kernel) (by decide +kernel) q47 (by decide) rfl rfl ?_
        refine Ru.kI (q := (.iconst 1, 1)) (c := 1) (pc' := 107) (by decide +kernel) rfl (by decide) rfl ?_
        by_cases b48 : n40 = 1
        · replace h := if_t b48 h
          refine Ru.br2 (k := .ne) (off := 9) (bb := false) (tg := 110) (by decide +kernel) (by decide +kernel) (ci_ne0 e46.1 (by decide) b48) rfl ?_
          refine Ru.op (q := (.aload_n 0, 1)) (S' := (111, _, _, _, _)) (by decide +kernel) rfl ?_
          refine Ru.op (q := (.iload_n 1, 1)) (S' := (112, _, _, _, _)) (by decide +kernel) rfl ?_
          refine Ru.op (q := (.iload_n 3, 1)) (S' := (113, _, _, _, _)) (by decide +kernel) rfl ?_
          obtain ⟨o49, e50, h⟩ := ob_some h
          refine Ru.vcallI (pc' := 116) (st' := []) (i := 137) (j2 := 74) (ci := 3) (k := 0) (z := 0) (as := [vI v1, vI v3]) (by decide +kernel) (by decide +kernel) rfl rfl (hp13 _) (by decide) ⟨(Nat.le_of_ble_eq_true rfl), (by show 19 + 7 ≤ 3982; exact Nat.le_of_ble_eq_true rfl), Nat.le_of_ble_eq_true rfl, Nat.le_of_ble_eq_true rfl⟩ ((g74_ok e50).up (Nat.le_of_ble_eq_true rfl) (Nat.le_of_ble_eq_true rfl)) rfl rfl ?_
          refine Ru.inc (k := 3) (n := 1) (x := v3) (z := (v3 + 1)) (xs' := [some (.ref 13), some (vI v1), some (vI v2), some (vI (v3 + 1))]) (pc' := 119) (by decide +kernel) rfl rfl rfl rfl ?_
          refine Ru.op (q := (.goto (-34), 3)) (S' := (85, _, _, _, _)) (by decide +kernel) rfl ?_
          exact ih _ _ trivial _ h r hk
        · replace h := if_f b48 h
          refine Ru.br2 (k := .ne) (off := 9) (bb := true) (tg := 116) (by decide +kernel) (by decide +kernel) (ci_ne1 e46.1 (by decide) b48) rfl ?_
          refine Ru.inc (k := 3) (n := 1) (x := v3) (z := (v3 + 1)) (xs' := [some (.ref 13), some (vI v1), some (vI v2), some (vI (v3 + 1))]) (pc' := 119) (by decide +kernel) rfl rfl rfl rfl ?_
          refine Ru.op (q := (.goto (-34), 3)) (S' := (85, _, _, _, _)) (by decide +kernel) rfl ?_
          exact ih _ _ trivial _ h r hk
      · replace h := if_f b35 h
        refine Ru.br (k := .ne) (off := 28) (bb := true) (tg := 122) (by decide +kernel) (by decide +kernel) (cz (ci_ne1 g34 (by decide) b35)) rfl ?_
        cases h
        exact hk _ _ _ ⟨rfl, rfl, rfl, trivial⟩
    · replace h := if_f b31 h
      refine Ru.br2 (k := .ge) (off := 35) (bb := true) (tg := 122) (by decide +kernel) (by decide +kernel) (ci_ge1 g29 g30 b31) rfl ?_
      cases h
      exact hk _ _ _ ⟨rfl, rfl, rfl, trivial⟩
set_option maxRecDepth 100000 in
set_option maxHeartbeats 4000000 in
theorem g61_ok {S : St} {o : Int × St} (h : g61 S  = some o) : Ru none 143 3982 61 (0, mn_pad (mn_ent [.ref 13]) 4, [], S.ns, Hp S) ((0, some (vI o.1)), o.2.ns, Hp o.2) := by
  unfold g61 at h
  show Ru none 143 3982 61 (0, [some (.ref 13), none, none, none], [], S.ns, Hp S) _
  refine Ru.op (q := (.aload_n 0, 1)) (S' := (1, _, _, _, _)) (by decide +kernel) rfl ?_
  refine Ru.op (q := (.aload_n 0, 1)) (S' := (2, _, _, _, _)) (by decide +kernel) rfl ?_
  refine Ru.getI (pc' := 5) (i := 116) (ci := 3) (k := 3) (nn := 0) (z := 0) (x := (S.F 13 3)) (by decide +kernel) (by decide +kernel) (hp13 _) (by decide) rfl (eI_of _) rfl ?_
  refine Ru.kI (q := (.iconst 1, 1)) (c := 1) (pc' := 6) (by decide +kernel) rfl (by decide) rfl ?_
  refine Ru.ar2 (i := .iadd) (z := ((S.F 13 3) + 1)) (pc' := 7) (by decide +kernel) rfl (ar_add _ _) rfl ?_
  refine Ru.kI (q := (.iconst 4, 1)) (c := 4) (pc' := 8) (by decide +kernel) rfl (by decide) rfl ?_
  obtain ⟨g1, h⟩ := gd_some h
  refine Ru.ar2 (i := .irem) (z := (((S.F 13 3) + 1) % 4)) (pc' := 9) (by decide +kernel) rfl (ar_rem g1) rfl ?_
  obtain ⟨g2, h⟩ := gd_some h
  by_cases b3 : (((S.F 13 3) + 1) % 4) = 0
  · replace h := if_t b3 h
    refine Ru.br (k := .ne) (off := 7) (bb := false) (tg := 12) (by decide +kernel) (by decide +kernel) (cz (ci_ne0 g2 (by decide) b3)) rfl ?_
    refine Ru.kI (q := (.iconst 1, 1)) (c := 1) (pc' := 13) (by decide +kernel) rfl (by decide) rfl ?_
    refine Ru.op (q := (.goto 4, 3)) (S' := (17, _, _, _, _)) (by decide +kernel) rfl ?_
    obtain ⟨o4, e5, h⟩ := ob_some h
    refine Ru.vcallI (pc' := 20) (st' := [vI o4]) (i := 119) (j2 := 62) (ci := 3) (k := 0) (z := 0) (as := [vI 1]) (by decide +kernel) (by decide +kernel) rfl rfl (hp13 _) (by decide) ⟨(Nat.le_of_ble_eq_true rfl), (by show 19 + 4 ≤ 3982; exact Nat.le_of_ble_eq_true rfl), Nat.le_of_ble_eq_true rfl, Nat.le_of_ble_eq_true rfl⟩ ((g62_ok e5).up (Nat.le_of_ble_eq_true rfl) (Nat.le_of_ble_eq_true rfl)) rfl rfl ?_
    refine Ru.op (q := (.istore_n 1, 1)) (S' := (21, [some (.ref 13), some (vI o4), none, none], [], _, _)) (by decide +kernel) rfl ?_
    refine Ru.op (q := (.iload_n 1, 1)) (S' := (22, _, _, _, _)) (by decide +kernel) rfl ?_
    refine Ru.kI (q := (.iconst (-1), 1)) (c := (-1)) (pc' := 23) (by decide +kernel) rfl (by decide) rfl ?_
    obtain ⟨g6, h⟩ := gd_some h
    by_cases b7 : o4 = (-1)
    · replace h := if_t b7 h
      refine Ru.br2 (k := .ne) (off := 5) (bb := false) (tg := 26) (by decide +kernel) (by decide +kernel) (ci_ne0 g6 (by decide) b7) rfl ?_
      refine Ru.kI (q := (.iconst (-1), 1)) (c := (-1)) (pc' := 27) (by decide +kernel) rfl (by decide) rfl ?_
      cases h
      exact Ru.iret (by decide +kernel) rfl rfl
    · replace h := if_f b7 h
      refine Ru.br2 (k := .ne) (off := 5) (bb := true) (tg := 28) (by decide +kernel) (by decide +kernel) (ci_ne1 g6 (by decide) b7) rfl ?_
      refine Ru.op (q := (.aload_n 0, 1)) (S' := (29, _, _, _, _)) (by decide +kernel) rfl ?_
      refine Ru.op (q := (.dup, 1)) (S' := (30, _, _, _, _)) (by decide +kernel) rfl ?_
      refine Ru.getI (pc' := 33) (i := 116) (ci := 3) (k := 3) (nn := 0) (z := 0) (x := (S.F 13 3)) (by decide +kernel) (by decide +kernel) (hp13 _) (by decide) rfl (eI_of _) rfl ?_
      refine Ru.kI (q := (.iconst 1, 1)) (c := 1) (pc' := 34) (by decide +kernel) rfl (by decide) rfl ?_
      refine Ru.ar2 (i := .iadd) (z := ((S.F 13 3) + 1)) (pc' := 35) (by decide +kernel) rfl (ar_add _ _) rfl ?_
      refine Ru.putH (pc' := 38) (i := 116) (ci := 3) (k := 3) (nn := 0) (z := 0) (by decide +kernel) (by decide +kernel) (hp13 _) (by decide) (Nat.le_of_ble_eq_true rfl) rfl (by decide +kernel) (pf_13_3 _ _) rfl ?_
      refine Ru.op (q := (.aload_n 0, 1)) (S' := (39, _, _, _, _)) (by decide +kernel) rfl ?_
      refine Ru.op (q := (.iload_n 1, 1)) (S' := (40, _, _, _, _)) (by decide +kernel) rfl ?_
      obtain ⟨o8, e9, h⟩ := ob_some h
      refine Ru.vcallI (pc' := 43) (st' := [vI o8.1]) (i := 123) (j2 := 63) (ci := 3) (k := 0) (z := 0) (as := [vI o4]) (by decide +kernel) (by decide +kernel) rfl rfl (hp13 _) (by decide) ⟨(Nat.le_of_ble_eq_true rfl), (by show 19 + 3 ≤ 3982; exact Nat.le_of_ble_eq_true rfl), Nat.le_of_ble_eq_true rfl, Nat.le_of_ble_eq_true rfl⟩ ((g63_ok e9).up (Nat.le_of_ble_eq_true rfl) (Nat.le_of_ble_eq_true rfl)) rfl rfl ?_
      obtain ⟨g10, h⟩ := gd_some h
      by_cases b11 : o8.1 = 0
      · replace h := if_t b11 h
        refine Ru.br (k := .eq) (off := 15) (bb := true) (tg := 58) (by decide +kernel) (by decide +kernel) (cz (ci_eq1 g10 (by decide) b11)) rfl ?_
        refine Ru.op (q := (.aload_n 0, 1)) (S' := (59, _, _, _, _)) (by decide +kernel) rfl ?_
        refine Ru.op (q := (.iload_n 1, 1)) (S' := (60, _, _, _, _)) (by decide +kernel) rfl ?_
        obtain ⟨o12, e13, h⟩ := ob_some h
        refine Ru.vcallI (pc' := 63) (st' := []) (i := 127) (j2 := 64) (ci := 3) (k := 0) (z := 0) (as := [vI o4]) (by decide +kernel) (by decide +kernel) rfl rfl (hp13 _) (by decide) ⟨(Nat.le_of_ble_eq_true rfl), (by show 19 + 3 ≤ 3982; exact Nat.le_of_ble_eq_true rfl), Nat.le_of_ble_eq_true rfl, Nat.le_of_ble_eq_true rfl⟩ ((g64_ok e13).up (Nat.le_of_ble_eq_true rfl) (Nat.le_of_ble_eq_true rfl)) rfl rfl ?_
        refine Ru.op (q := (.aload_n 0, 1)) (S' := (64, _, _, _, _)) (by decide +kernel) rfl ?_
        refine Ru.getR (pc' := 67) (i := 11) (ci := 3) (k := 0) (nn := 0) (z := 0) (v := .ref 14) (by decide +kernel) (by decide +kernel) (hp13 _) (by decide) rfl rfl ?_
        refine Ru.op (q := (.iload_n 1, 1)) (S' := (68, _, _, _, _)) (by decide +kernel) rfl ?_
        obtain ⟨g14, h⟩ := gd_some h
        obtain ⟨c15, e16, h⟩ := ob_some h
        refine Ru.aldI (pc' := 69) (i := o4) (b := c15) (by decide +kernel) (hp14 _) (by decide) g14 e16 rfl ?_
        refine Ru.kI (q := (.iconst 1, 1)) (c := 1) (pc' := 70) (by decide +kernel) rfl (by decide) rfl ?_
        obtain ⟨c17, n18, n19, n20, n21, n22, n23, e24, q25, h⟩ := gK_some h
        obtain ⟨g26, h⟩ := gd_some h
        refine Ru.putH (pc' := 73) (i := 60) (ci := 9) (k := 1) (nn := 0) (z := 0) (by decide +kernel) (by decide +kernel) q25 (by decide) (Nat.le_of_ble_eq_true rfl) rfl (by decide +kernel) (pt_ok g26 (x := .ob 9 [c17] [eI 1, eI n19, eI n20, eI n21, eI n22, eI n23])) rfl ?_
        refine Ru.op (q := (.aload_n 0, 1)) (S' := (74, _, _, _, _)) (by decide +kernel) rfl ?_
        refine Ru.op (q := (.iload_n 1, 1)) (S' := (75, _, _, _, _)) (by decide +kernel) rfl ?_
        obtain ⟨o27, e28, h⟩ := ob_some h
        refine Ru.vcallI (pc' := 78) (st' := []) (i := 131) (j2 := 65) (ci := 3) (k := 0) (z := 0) (as := [vI o4]) (by decide +kernel) (by decide +kernel) rfl rfl (hp13 _) (by decide) ⟨(Nat.le_of_ble_eq_true rfl), (by show 19 + 5 ≤ 3982; exact Nat.le_of_ble_eq_true rfl), Nat.le_of_ble_eq_true rfl, Nat.le_of_ble_eq_true rfl⟩ ((g65_ok e28).up (Nat.le_of_ble_eq_true rfl) (Nat.le_of_ble_eq_true rfl)) rfl rfl ?_
        refine Ru.op (q := (.aload_n 0, 1)) (S' := (79, _, _, _, _)) (by decide +kernel) rfl ?_
        refine Ru.getI (pc' := 82) (i := 57) (ci := 3) (k := 1) (nn := 0) (z := 0) (x := (o27.F 13 1)) (by decide +kernel) (by decide +kernel) (hp13 _) (by decide) rfl (eI_of _) rfl ?_
        refine Ru.op (q := (.istore_n 2, 1)) (S' := (83, [some (.ref 13), some (vI o4), some (vI (o27.F 13 1)), none], [], _, _)) (by decide +kernel) rfl ?_
        refine Ru.kI (q := (.iconst 0, 1)) (c := 0) (pc' := 84) (by decide +kernel) rfl (by decide) rfl ?_
        refine Ru.op (q := (.istore_n 3, 1)) (S' := (85, [some (.ref 13), some (vI o4), some (vI (o27.F 13 1)), some (vI 0)], [], _, _)) (by decide +kernel) rfl ?_
        obtain ⟨o51, e55, h⟩ := ob_some h
        refine g61L85_ok FU _ _ trivial _ e55 _ ?_
        intro d52 d53 d54 hd56
        refine Ru.op (q := (.iload_n 1, 1)) (S' := (123, _, _, _, _)) (by decide +kernel) rfl ?_
        cases h
        exact Ru.iret (by decide +kernel) rfl rfl
      · replace h := if_f b11 h
        refine Ru.br (k := .eq) (off := 15) (bb := false) (tg := 46) (by decide +kernel) (by decide +kernel) (cz (ci_eq0 g10 (by decide) b11)) rfl ?_
        refine Ru.op (q := (.aload_n 0, 1)) (S' := (47, _, _, _, _)) (by decide +kernel) rfl ?_
        refine Ru.getR (pc' := 50) (i := 11) (ci := 3) (k := 0) (nn := 0) (z := 0) (v := .ref 14) (by decide +kernel) (by decide +kernel) (hp13 _) (by decide) rfl rfl ?_
        refine Ru.op (q := (.iload_n 1, 1)) (S' := (51, _, _, _, _)) (by decide +kernel) rfl ?_
        obtain ⟨g57, h⟩ := gd_some h
        obtain ⟨c58, e59, h⟩ := ob_some h
        refine Ru.aldI (pc' := 52) (i := o4) (b := c58) (by decide +kernel) (hp14 _) (by decide) g57 e59 rfl ?_
        refine Ru.kI (q := (.iconst 2, 1)) (c := 2) (pc' := 53) (by decide +kernel) rfl (by decide) rfl ?_
        obtain ⟨c60, n61, n62, n63, n64, n65, n66, e67, q68, h⟩ := gK_some h
        obtain ⟨g69, h⟩ := gd_some h
        refine Ru.putH (pc' := 56) (i := 60) (ci := 9) (k := 1) (nn := 0) (z := 0) (by decide +kernel) (by decide +kernel) q68 (by decide) (Nat.le_of_ble_eq_true rfl) rfl (by decide +kernel) (pt_ok g69 (x := .ob 9 [c60] [eI 2, eI n62, eI n63, eI n64, eI n65, eI n66])) rfl ?_
        refine Ru.op (q := (.iload_n 1, 1)) (S' := (57, _, _, _, _)) (by decide +kernel) rfl ?_
        cases h
        exact Ru.iret (by decide +kernel) rfl rfl
  · replace h := if_f b3 h
    refine Ru.br (k := .ne) (off := 7) (bb := true) (tg := 16) (by decide +kernel) (by decide +kernel) (cz (ci_ne1 g2 (by decide) b3)) rfl ?_
    refine Ru.kI (q := (.iconst 0, 1)) (c := 0) (pc' := 17) (by decide +kernel) rfl (by decide) rfl ?_
    obtain ⟨o70, e71, h⟩ := ob_some h
    refine Ru.vcallI (pc' := 20) (st' := [vI o70]) (i := 119) (j2 := 62) (ci := 3) (k := 0) (z := 0) (as := [vI 0]) (by decide +kernel) (by decide +kernel) rfl rfl (hp13 _) (by decide) ⟨(Nat.le_of_ble_eq_true rfl), (by show 19 + 4 ≤ 3982; exact Nat.le_of_ble_eq_true rfl), Nat.le_of_ble_eq_true rfl, Nat.le_of_ble_eq_true rfl⟩ ((g62_ok e71).up (Nat.le_of_ble_eq_true rfl) (Nat.le_of_ble_eq_true rfl)) rfl rfl ?_
    refine Ru.op (q := (.istore_n 1, 1)) (S' := (21, [some (.ref 13), some (vI o70), none, none], [], _, _)) (by decide +kernel) rfl ?_
    refine Ru.op (q := (.iload_n 1, 1)) (S' := (22, _, _, _, _)) (by decide +kernel) rfl ?_
    refine Ru.kI (q := (.iconst (-1), 1)) (c := (-1)) (pc' := 23) (by decide +kernel) rfl (by decide) rfl ?_
    obtain ⟨g72, h⟩ := gd_some h
    by_cases b73 : o70 = (-1)
    · replace h := if_t b73 h
      refine Ru.br2 (k := .ne) (off := 5) (bb := false) (tg := 26) (by decide +kernel) (by decide +kernel) (ci_ne0 g72 (by decide) b73) rfl ?_
      refine Ru.kI (q := (.iconst (-1), 1)) (c := (-1)) (pc' := 27) (by decide +kernel) rfl (by decide) rfl ?_
      cases h
      exact Ru.iret (by decide +kernel) rfl rfl
    · replace h := if_f b73 h
      refine Ru.br2 (k := .ne) (off := 5) (bb := true) (tg := 28) (by decide +kernel) (by decide +kernel) (ci_ne1 g72 (by decide) b73) rfl ?_
      refine Ru.op (q := (.aload_n 0, 1)) (S' := (29, _, _, _, _)) (by decide +kernel) rfl ?_
      refine Ru.op (q := (.dup, 1)) (S' := (30, _, _, _, _)) (by decide +kernel) rfl ?_
      refine Ru.getI (pc' := 33) (i := 116) (ci := 3) (k := 3) (nn := 0) (z := 0) (x := (S.F 13 3)) (by decide +kernel) (by decide +kernel) (hp13 _) (by decide) rfl (eI_of _) rfl ?_
      refine Ru.kI (q := (.iconst 1, 1)) (c := 1) (pc' := 34) (by decide +kernel) rfl (by decide) rfl ?_
      refine Ru.ar2 (i := .iadd) (z := ((S.F 13 3) + 1)) (pc' := 35) (by decide +kernel) rfl (ar_add _ _) rfl ?_
      refine Ru.putH (pc' := 38) (i := 116) (ci := 3) (k := 3) (nn := 0) (z := 0) (by decide +kernel) (by decide +kernel) (hp13 _) (by decide) (Nat.le_of_ble_eq_true rfl) rfl (by decide +kernel) (pf_13_3 _ _) rfl ?_
      refine Ru.op (q := (.aload_n 0, 1)) (S' := (39, _, _, _, _)) (by decide +kernel) rfl ?_
      refine Ru.op (q := (.iload_n 1, 1)) (S' := (40, _, _, _, _)) (by decide +kernel) rfl ?_
      obtain ⟨o74, e75, h⟩ := ob_some h
      refine Ru.vcallI (pc' := 43) (st' := [vI o74.1]) (i := 123) (j2 := 63) (ci := 3) (k := 0) (z := 0) (as := [vI o70]) (by decide +kernel) (by decide +kernel) rfl rfl (hp13 _) (by decide) ⟨(Nat.le_of_ble_eq_true rfl), (by show 19 + 3 ≤ 3982; exact Nat.le_of_ble_eq_true rfl), Nat.le_of_ble_eq_true rfl, Nat.le_of_ble_eq_true rfl⟩ ((g63_ok e75).up (Nat.le_of_ble_eq_true rfl) (Nat.le_of_ble_eq_true rfl)) rfl rfl ?_
      obtain ⟨g76, h⟩ := gd_some h
      by_cases b77 : o74.1 = 0
      · replace h := if_t b77 h
        refine Ru.br (k := .eq) (off := 15) (bb := true) (tg := 58) (by decide +kernel) (by decide +kernel) (cz (ci_eq1 g76 (by decide) b77)) rfl ?_
        refine Ru.op (q := (.aload_n 0, 1)) (S' := (59, _, _, _, _)) (by decide +kernel) rfl ?_
        refine Ru.op (q := (.iload_n 1, 1)) (S' := (60, _, _, _, _)) (by decide +kernel) rfl ?_
        obtain ⟨o78, e79, h⟩ := ob_some h
        refine Ru.vcallI (pc' := 63) (st' := []) (i := 127) (j2 := 64) (ci := 3) (k := 0) (z := 0) (as := [vI o70]) (by decide +kernel) (by decide +kernel) rfl rfl (hp13 _) (by decide) ⟨(Nat.le_of_ble_eq_true rfl), (by show 19 + 3 ≤ 3982; exact Nat.le_of_ble_eq_true rfl), Nat.le_of_ble_eq_true rfl, Nat.le_of_ble_eq_true rfl⟩ ((g64_ok e79).up (Nat.le_of_ble_eq_true rfl) (Nat.le_of_ble_eq_true rfl)) rfl rfl ?_
        refine Ru.op (q := (.aload_n 0, 1)) (S' := (64, _, _, _, _)) (by decide +kernel) rfl ?_
        refine Ru.getR (pc' := 67) (i := 11) (ci := 3) (k := 0) (nn := 0) (z := 0) (v := .ref 14) (by decide +kernel) (by decide +kernel) (hp13 _) (by decide) rfl rfl ?_
        refine Ru.op (q := (.iload_n 1, 1)) (S' := (68, _, _, _, _)) (by decide +kernel) rfl ?_
        obtain ⟨g80, h⟩ := gd_some h
        obtain ⟨c81, e82, h⟩ := ob_some h
        refine Ru.aldI (pc' := 69) (i := o70) (b := c81) (by decide +kernel) (hp14 _) (by decide) g80 e82 rfl ?_
        refine Ru.kI (q := (.iconst 1, 1)) (c := 1) (pc' := 70) (by decide +kernel) rfl (by decide) rfl ?_
        obtain ⟨c83, n84, n85, n86, n87, n88, n89, e90, q91, h⟩ := gK_some h
        obtain ⟨g92, h⟩ := gd_some h
        refine Ru.putH (pc' := 73) (i := 60) (ci := 9) (k := 1) (nn := 0) (z := 0) (by decide +kernel) (by decide +kernel) q91 (by decide) (Nat.le_of_ble_eq_true rfl) rfl (by decide +kernel) (pt_ok g92 (x := .ob 9 [c83] [eI 1, eI n85, eI n86, eI n87, eI n88, eI n89])) rfl ?_
        refine Ru.op (q := (.aload_n 0, 1)) (S' := (74, _, _, _, _)) (by decide +kernel) rfl ?_
        refine Ru.op (q := (.iload_n 1, 1)) (S' := (75, _, _, _, _)) (by decide +kernel) rfl ?_
        obtain ⟨o93, e94, h⟩ := ob_some h
        refine Ru.vcallI (pc' := 78) (st' := []) (i := 131) (j2 := 65) (ci := 3) (k := 0) (z := 0) (as := [vI o70]) (by decide +kernel) (by decide +kernel) rfl rfl (hp13 _) (by decide) ⟨(Nat.le_of_ble_eq_true rfl), (by show 19 + 5 ≤ 3982; exact Nat.le_of_ble_eq_true rfl), Nat.le_of_ble_eq_true rfl, Nat.le_of_ble_eq_true rfl⟩ ((g65_ok e94).up (Nat.le_of_ble_eq_true rfl) (Nat.le_of_ble_eq_true rfl)) rfl rfl ?_
        refine Ru.op (q := (.aload_n 0, 1)) (S' := (79, _, _, _, _)) (by decide +kernel) rfl ?_
        refine Ru.getI (pc' := 82) (i := 57) (ci := 3) (k := 1) (nn := 0) (z := 0) (x := (o93.F 13 1)) (by decide +kernel) (by decide +kernel) (hp13 _) (by decide) rfl (eI_of _) rfl ?_
        refine Ru.op (q := (.istore_n 2, 1)) (S' := (83, [some (.ref 13), some (vI o70), some (vI (o93.F 13 1)), none], [], _, _)) (by decide +kernel) rfl ?_
        refine Ru.kI (q := (.iconst 0, 1)) (c := 0) (pc' := 84) (by decide +kernel) rfl (by decide) rfl ?_
        refine Ru.op (q := (.istore_n 3, 1)) (S' := (85, [some (.ref 13), some (vI o70), some (vI (o93.F 13 1)), some (vI 0)], [], _, _)) (by decide +kernel) rfl ?_
        obtain ⟨o95, e99, h⟩ := ob_some h
        refine g61L85_ok FU _ _ trivial _ e99 _ ?_
        intro d96 d97 d98 hd100
        refine Ru.op (q := (.iload_n 1, 1)) (S' := (123, _, _, _, _)) (by decide +kernel) rfl ?_
        cases h
        exact Ru.iret (by decide +kernel) rfl rfl
      · replace h := if_f b77 h
        refine Ru.br (k := .eq) (off := 15) (bb := false) (tg := 46) (by decide +kernel) (by decide +kernel) (cz (ci_eq0 g76 (by decide) b77)) rfl ?_
        refine Ru.op (q := (.aload_n 0, 1)) (S' := (47, _, _, _, _)) (by decide +kernel) rfl ?_
        refine Ru.getR (pc' := 50) (i := 11) (ci := 3) (k := 0) (nn := 0) (z := 0) (v := .ref 14) (by decide +kernel) (by decide +kernel) (hp13 _) (by decide) rfl rfl ?_
        refine Ru.op (q := (.iload_n 1, 1)) (S' := (51, _, _, _, _)) (by decide +kernel) rfl ?_
        obtain ⟨g101, h⟩ := gd_some h
        obtain ⟨c102, e103, h⟩ := ob_some h
        refine Ru.aldI (pc' := 52) (i := o70) (b := c102) (by decide +kernel) (hp14 _) (by decide) g101 e103 rfl ?_
        refine Ru.kI (q := (.iconst 2, 1)) (c := 2) (pc' := 53) (by decide +kernel) rfl (by decide) rfl ?_
        obtain ⟨c104, n105, n106, n107, n108, n109, n110, e111, q112, h⟩ := gK_some h
        obtain ⟨g113, h⟩ := gd_some h
        refine Ru.putH (pc' := 56) (i := 60) (ci := 9) (k := 1) (nn := 0) (z := 0) (by decide +kernel) (by decide +kernel) q112 (by decide) (Nat.le_of_ble_eq_true rfl) rfl (by decide +kernel) (pt_ok g113 (x := .ob 9 [c104] [eI 2, eI n106, eI n107, eI n108, eI n109, eI n110])) rfl ?_
        refine Ru.op (q := (.iload_n 1, 1)) (S' := (57, _, _, _, _)) (by decide +kernel) rfl ?_
        cases h
        exact Ru.iret (by decide +kernel) rfl rfl
set_option maxRecDepth 100000 in
set_option maxHeartbeats 4000000 in
theorem g60_ok {S : St} {o : Nat × Int × St} (h : g60 S  = some o) : Ru none 144 4005 60 (0, mn_pad (mn_ent [.ref 0]) 1, [], S.ns, Hp S) ((o.1, tv o.1 o.2.1), o.2.2.ns, Hp o.2.2) := by
  unfold g60 at h
  show Ru none 144 4005 60 (0, [some (.ref 0)], [], S.ns, Hp S) _
  refine Ru.op (q := (.aload_n 0, 1)) (S' := (1, _, _, _, _)) (by decide +kernel) rfl ?_
  refine Ru.getR (pc' := 4) (i := 19) (ci := 0) (k := 1) (nn := 0) (z := 0) (v := .ref 13) (by decide +kernel) (by decide +kernel) (hp0 _) (by decide) rfl rfl ?_
  obtain ⟨o1, e2, h⟩ := ob_some h
  refine Ru.vcallI (pc' := 7) (st' := [vI o1]) (i := 95) (j2 := 12) (ci := 3) (k := 0) (z := 0) (as := []) (by decide +kernel) (by decide +kernel) rfl rfl (hp13 _) (by decide) ⟨(Nat.le_of_ble_eq_true rfl), (by show 19 + 1 ≤ 4005; exact Nat.le_of_ble_eq_true rfl), Nat.le_of_ble_eq_true rfl, Nat.le_of_ble_eq_true rfl⟩ ((g12_ok e2).up (Nat.le_of_ble_eq_true rfl) (Nat.le_of_ble_eq_true rfl)) rfl rfl ?_
  obtain ⟨g3, h⟩ := gd_some h
  by_cases b4 : o1 = 0
  · replace h := if_t b4 h
    refine Ru.br (k := .eq) (off := 11) (bb := true) (tg := 18) (by decide +kernel) (by decide +kernel) (cz (ci_eq1 g3 (by decide) b4)) rfl ?_
    refine Ru.op (q := (.aload_n 0, 1)) (S' := (19, _, _, _, _)) (by decide +kernel) rfl ?_
    refine Ru.getR (pc' := 22) (i := 19) (ci := 0) (k := 1) (nn := 0) (z := 0) (v := .ref 13) (by decide +kernel) (by decide +kernel) (hp0 _) (by decide) rfl rfl ?_
    obtain ⟨o5, e6, h⟩ := ob_some h
    refine Ru.vcallI (pc' := 25) (st' := [vI o5.1]) (i := 99) (j2 := 61) (ci := 3) (k := 0) (z := 0) (as := []) (by decide +kernel) (by decide +kernel) rfl rfl (hp13 _) (by decide) ⟨(Nat.le_of_ble_eq_true rfl), (by show 19 + 4 ≤ 4005; exact Nat.le_of_ble_eq_true rfl), Nat.le_of_ble_eq_true rfl, Nat.le_of_ble_eq_true rfl⟩ ((g61_ok e6).up (Nat.le_of_ble_eq_true rfl) (Nat.le_of_ble_eq_true rfl)) rfl rfl ?_
    cases h
    exact Ru.iret (by decide +kernel) rfl rfl
  · replace h := if_f b4 h
    refine Ru.br (k := .eq) (off := 11) (bb := false) (tg := 10) (by decide +kernel) (by decide +kernel) (cz (ci_eq0 g3 (by decide) b4)) rfl ?_
    cases h
    exact tho (S := S) (Ru.thr (q := (.new 88, 3)) (by decide +kernel) rfl rfl (by decide +kernel))
set_option maxRecDepth 100000 in
set_option maxHeartbeats 4000000 in
theorem g76L20_ok {v1 : Int} : ∀ (n : Nat) (v2 : Int) (S : St) (_ : DD []) (out : Int × St), g76L20 v1 n v2 S = some out → ∀ r, (∀ (e0 e1 : Option Value), DD [e0, e1] → Ru none 144 4005 76 (49, [e0, e1, some (vI out.1)], [], out.2.ns, Hp out.2) r) → Ru none 144 4005 76 (20, [some (.ref 0), some (vI v1), some (vI v2)], [], S.ns, Hp S) r := by
  intro n
  induction n with
  | zero => intro v2 S hdd out h; cases h
  | succ n ih =>
    intro v2 S hdd out h r hk
    unfold g76L20 at h
    refine Ru.op (q := (.iload_n 2, 1)) (S' := (21, _, _, _, _)) (by decide +kernel) rfl ?_
    refine Ru.op (q := (.iload_n 1, 1)) (S' := (22, _, _, _, _)) (by decide +kernel) rfl ?_
    obtain ⟨g4, h⟩ := gd_some h
    obtain ⟨g5, h⟩ := gd_some h
    by_cases b6 : v2 < v1
    · replace h := if_t b6 h
      refine Ru.br2 (k := .ge) (off := 27) (bb := false) (tg := 25) (by decide +kernel) (by decide +kernel) (ci_ge0 g4 g5 b6) rfl ?_
      refine Ru.op (q := (.aload_n 0, 1)) (S' := (26, _, _, _, _)) (by decide +kernel) rfl ?_
      refine Ru.getR (pc' := 29) (i := 19) (ci := 0) (k := 1) (nn := 0) (z := 0) (v := .ref 13) (by decide +kernel) (by decide +kernel) (hp0 _) (by decide) rfl rfl ?_
      obtain ⟨o7, e8, h⟩ := ob_some h
      refine Ru.vcallI (pc' := 32) (st' := [vI o7]) (i := 95) (j2 := 12) (ci := 3) (k := 0) (z := 0) (as := []) (by decide +kernel) (by decide +kernel) rfl rfl (hp13 _) (by decide) ⟨(Nat.le_of_ble_eq_true rfl), (by show 19 + 1 ≤ 4005; exact Nat.le_of_ble_eq_true rfl), Nat.le_of_ble_eq_true rfl, Nat.le_of_ble_eq_true rfl⟩ ((g12_ok e8).up (Nat.le_of_ble_eq_true rfl) (Nat.le_of_ble_eq_true rfl)) rfl rfl ?_
      obtain ⟨g9, h⟩ := gd_some h
      by_cases b10 : o7 = 0
      · replace h := if_t b10 h
        refine Ru.br (k := .ne) (off := 17) (bb := false) (tg := 35) (by decide +kernel) (by decide +kernel) (cz (ci_ne0 g9 (by decide) b10)) rfl ?_
        refine Ru.op (q := (.aload_n 0, 1)) (S' := (36, _, _, _, _)) (by decide +kernel) rfl ?_
        refine Ru.getR (pc' := 39) (i := 19) (ci := 0) (k := 1) (nn := 0) (z := 0) (v := .ref 13) (by decide +kernel) (by decide +kernel) (hp0 _) (by decide) rfl rfl ?_
        obtain ⟨o11, e12, h⟩ := ob_some h
        refine Ru.vcallI (pc' := 42) (st' := [vI o11.1]) (i := 99) (j2 := 61) (ci := 3) (k := 0) (z := 0) (as := []) (by decide +kernel) (by decide +kernel) rfl rfl (hp13 _) (by decide) ⟨(Nat.le_of_ble_eq_true rfl), (by show 19 + 4 ≤ 4005; exact Nat.le_of_ble_eq_true rfl), Nat.le_of_ble_eq_true rfl, Nat.le_of_ble_eq_true rfl⟩ ((g61_ok e12).up (Nat.le_of_ble_eq_true rfl) (Nat.le_of_ble_eq_true rfl)) rfl rfl ?_
        refine Ru.op (q := (.pop, 1)) (S' := (43, _, _, _, _)) (by decide +kernel) rfl ?_
        refine Ru.inc (k := 2) (n := 1) (x := v2) (z := (v2 + 1)) (xs' := [some (.ref 0), some (vI v1), some (vI (v2 + 1))]) (pc' := 46) (by decide +kernel) rfl rfl rfl rfl ?_
        refine Ru.op (q := (.goto (-26), 3)) (S' := (20, _, _, _, _)) (by decide +kernel) rfl ?_
        exact ih _ _ trivial _ h r hk
      · replace h := if_f b10 h
        refine Ru.br (k := .ne) (off := 17) (bb := true) (tg := 49) (by decide +kernel) (by decide +kernel) (cz (ci_ne1 g9 (by decide) b10)) rfl ?_
        cases h
        exact hk _ _ ⟨rfl, rfl, trivial⟩
    · replace h := if_f b6 h
      refine Ru.br2 (k := .ge) (off := 27) (bb := true) (tg := 49) (by decide +kernel) (by decide +kernel) (ci_ge1 g4 g5 b6) rfl ?_
      cases h
      exact hk _ _ ⟨rfl, rfl, trivial⟩
set_option maxRecDepth 100000 in
set_option maxHeartbeats 4000000 in
theorem g76_ok {S : St} {v1 : Int} {o : Nat × Int × St} (h : g76 S v1 = some o) : Ru none 144 4005 76 (0, mn_pad (mn_ent [.ref 0, vI v1]) 3, [], S.ns, Hp S) ((o.1, tv o.1 o.2.1), o.2.2.ns, Hp o.2.2) := by
  unfold g76 at h
  show Ru none 144 4005 76 (0, [some (.ref 0), some (vI v1), none], [], S.ns, Hp S) _
  refine Ru.op (q := (.iload_n 1, 1)) (S' := (1, _, _, _, _)) (by decide +kernel) rfl ?_
  obtain ⟨g1, h⟩ := gd_some h
  by_cases b2 : v1 < 0
  · replace h := if_t b2 h
    refine Ru.br (k := .lt) (off := 9) (bb := true) (tg := 10) (by decide +kernel) (by decide +kernel) (cz (ci_lt1 g1 (by decide) b2)) rfl ?_
    cases h
    exact tho (S := S) (Ru.thr (q := (.new 51, 3)) (by decide +kernel) rfl rfl (by decide +kernel))
  · replace h := if_f b2 h
    refine Ru.br (k := .lt) (off := 9) (bb := false) (tg := 4) (by decide +kernel) (by decide +kernel) (cz (ci_lt0 g1 (by decide) b2)) rfl ?_
    refine Ru.op (q := (.iload_n 1, 1)) (S' := (5, _, _, _, _)) (by decide +kernel) rfl ?_
    refine Ru.kI (q := (.bipush 50, 2)) (c := 50) (pc' := 7) (by decide +kernel) rfl (by decide) rfl ?_
    by_cases b3 : 50 < v1
    · replace h := if_t b3 h
      refine Ru.br2 (k := .le) (off := 11) (bb := false) (tg := 10) (by decide +kernel) (by decide +kernel) (ci_le0 g1 (by decide) b3) rfl ?_
      cases h
      exact tho (S := S) (Ru.thr (q := (.new 51, 3)) (by decide +kernel) rfl rfl (by decide +kernel))
    · replace h := if_f b3 h
      refine Ru.br2 (k := .le) (off := 11) (bb := true) (tg := 18) (by decide +kernel) (by decide +kernel) (ci_le1 g1 (by decide) b3) rfl ?_
      refine Ru.kI (q := (.iconst 0, 1)) (c := 0) (pc' := 19) (by decide +kernel) rfl (by decide) rfl ?_
      refine Ru.op (q := (.istore_n 2, 1)) (S' := (20, [some (.ref 0), some (vI v1), some (vI 0)], [], _, _)) (by decide +kernel) rfl ?_
      obtain ⟨o13, e16, h⟩ := ob_some h
      refine g76L20_ok FU _ _ trivial _ e16 _ ?_
      intro d14 d15 hd17
      refine Ru.op (q := (.iload_n 2, 1)) (S' := (50, _, _, _, _)) (by decide +kernel) rfl ?_
      cases h
      exact Ru.iret (by decide +kernel) rfl rfl
set_option maxRecDepth 100000 in
set_option maxHeartbeats 4000000 in
theorem g79_ok {S : St} {v1 : Int} {o : St} (h : g79 S v1 = some o) : Ru none 10 200 79 (0, mn_pad (mn_ent [.ref 28, vI v1]) 2, [], S.ns, Hp S) ((0, none), o.ns, Hp o) := by
  unfold g79 at h
  show Ru none 10 200 79 (0, [some (.ref 28), some (vI v1)], [], S.ns, Hp S) _
  refine Ru.op (q := (.aload_n 0, 1)) (S' := (1, _, _, _, _)) (by decide +kernel) rfl ?_
  refine Ru.getI (pc' := 4) (i := 15) (ci := 8) (k := 1) (nn := 0) (z := 0) (x := (S.F 28 1)) (by decide +kernel) (by decide +kernel) (hp28 _) (by decide) rfl (eI_of _) rfl ?_
  refine Ru.op (q := (.aload_n 0, 1)) (S' := (5, _, _, _, _)) (by decide +kernel) rfl ?_
  refine Ru.getR (pc' := 8) (i := 9) (ci := 8) (k := 0) (nn := 0) (z := 0) (v := .ref 29) (by decide +kernel) (by decide +kernel) (hp28 _) (by decide) rfl rfl ?_
  refine Ru.lenI (pc' := 9) (N := 128) (z := 128) (by decide +kernel) (hp29 _) (by decide) (aI_len _ _) rfl rfl ?_
  by_cases b1 : (S.F 28 1) < 128
  · replace h := if_t b1 h
    refine Ru.br2 (k := .ge) (off := 23) (bb := false) (tg := 12) (by decide +kernel) (by decide +kernel) (ci_ge0 (inR_to _) (by decide) b1) rfl ?_
    refine Ru.op (q := (.aload_n 0, 1)) (S' := (13, _, _, _, _)) (by decide +kernel) rfl ?_
    refine Ru.getR (pc' := 16) (i := 9) (ci := 8) (k := 0) (nn := 0) (z := 0) (v := .ref 29) (by decide +kernel) (by decide +kernel) (hp28 _) (by decide) rfl rfl ?_
    refine Ru.op (q := (.aload_n 0, 1)) (S' := (17, _, _, _, _)) (by decide +kernel) rfl ?_
    refine Ru.getI (pc' := 20) (i := 15) (ci := 8) (k := 1) (nn := 0) (z := 0) (x := (S.F 28 1)) (by decide +kernel) (by decide +kernel) (hp28 _) (by decide) rfl (eI_of _) rfl ?_
    refine Ru.op (q := (.iload_n 1, 1)) (S' := (21, _, _, _, _)) (by decide +kernel) rfl ?_
    obtain ⟨g2, h⟩ := gd_some h
    obtain ⟨g3, h⟩ := gd_some h
    refine Ru.cstI (pc' := 22) (i := (S.F 28 1)) (x := v1) (by decide +kernel) (hp29 _) g2 g3 (ps_29 _ _ _) rfl ?_
    refine Ru.op (q := (.aload_n 0, 1)) (S' := (23, _, _, _, _)) (by decide +kernel) rfl ?_
    refine Ru.op (q := (.dup, 1)) (S' := (24, _, _, _, _)) (by decide +kernel) rfl ?_
    refine Ru.getI (pc' := 27) (i := 15) (ci := 8) (k := 1) (nn := 0) (z := 0) (x := (S.F 28 1)) (by decide +kernel) (by decide +kernel) (hp28 _) (by decide) rfl (eI_of _) rfl ?_
    refine Ru.kI (q := (.iconst 1, 1)) (c := 1) (pc' := 28) (by decide +kernel) rfl (by decide) rfl ?_
    refine Ru.ar2 (i := .iadd) (z := ((S.F 28 1) + 1)) (pc' := 29) (by decide +kernel) rfl (ar_add _ _) rfl ?_
    refine Ru.putH (pc' := 32) (i := 15) (ci := 8) (k := 1) (nn := 0) (z := 0) (by decide +kernel) (by decide +kernel) (hp28 _) (by decide) (Nat.le_of_ble_eq_true rfl) rfl (by decide +kernel) (pf_28_1 _ _) rfl ?_
    cases h
    exact Ru.end (q := (.return_, 1)) (by decide +kernel) rfl rfl
  · replace h := if_f b1 h
    refine Ru.br2 (k := .ge) (off := 23) (bb := true) (tg := 32) (by decide +kernel) (by decide +kernel) (ci_ge1 (inR_to _) (by decide) b1) rfl ?_
    cases h
    exact Ru.end (q := (.return_, 1)) (by decide +kernel) rfl rfl
set_option maxRecDepth 100000 in
set_option maxHeartbeats 4000000 in
theorem g82_ok {S : St} {v1 : Int} {o : St} (h : g82 S v1 = some o) : Ru none 11 221 82 (0, mn_pad (mn_ent [.ref 28, vI v1]) 2, [], S.ns, Hp S) ((0, none), o.ns, Hp o) := by
  unfold g82 at h
  show Ru none 11 221 82 (0, [some (.ref 28), some (vI v1)], [], S.ns, Hp S) _
  refine Ru.op (q := (.iload_n 1, 1)) (S' := (1, _, _, _, _)) (by decide +kernel) rfl ?_
  refine Ru.kI (q := (.bipush 10, 2)) (c := 10) (pc' := 3) (by decide +kernel) rfl (by decide) rfl ?_
  obtain ⟨g1, h⟩ := gd_some h
  by_cases b2 : v1 < 10
  · replace h := if_t b2 h
    refine Ru.br2 (k := .lt) (off := 15) (bb := true) (tg := 18) (by decide +kernel) (by decide +kernel) (ci_lt1 g1 (by decide) b2) rfl ?_
    refine Ru.op (q := (.aload_n 0, 1)) (S' := (19, _, _, _, _)) (by decide +kernel) rfl ?_
    refine Ru.kI (q := (.bipush 48, 2)) (c := 48) (pc' := 21) (by decide +kernel) rfl (by decide) rfl ?_
    refine Ru.op (q := (.iload_n 1, 1)) (S' := (22, _, _, _, _)) (by decide +kernel) rfl ?_
    refine Ru.kI (q := (.bipush 10, 2)) (c := 10) (pc' := 24) (by decide +kernel) rfl (by decide) rfl ?_
    obtain ⟨g3, h⟩ := gd_some h
    refine Ru.ar2 (i := .irem) (z := (v1 % 10)) (pc' := 25) (by decide +kernel) rfl (ar_rem g3) rfl ?_
    refine Ru.ar2 (i := .iadd) (z := (48 + (v1 % 10))) (pc' := 26) (by decide +kernel) rfl (ar_add _ _) rfl ?_
    obtain ⟨g4, h⟩ := gd_some h
    refine Ru.i2c (pc' := 27) (by decide +kernel) g4 rfl ?_
    obtain ⟨o5, e6, h⟩ := ob_some h
    refine Ru.vcallI (pc' := 30) (st' := []) (i := 24) (j2 := 79) (ci := 8) (k := 0) (z := 0) (as := [vI (48 + (v1 % 10))]) (by decide +kernel) (by decide +kernel) rfl rfl (hp28 _) (by decide) ⟨(Nat.le_of_ble_eq_true rfl), (by show 19 + 2 ≤ 221; exact Nat.le_of_ble_eq_true rfl), Nat.le_of_ble_eq_true rfl, Nat.le_of_ble_eq_true rfl⟩ ((g79_ok e6).up (Nat.le_of_ble_eq_true rfl) (Nat.le_of_ble_eq_true rfl)) rfl rfl ?_
    cases h
    exact Ru.end (q := (.return_, 1)) (by decide +kernel) rfl rfl
  · replace h := if_f b2 h
    refine Ru.br2 (k := .lt) (off := 15) (bb := false) (tg := 6) (by decide +kernel) (by decide +kernel) (ci_lt0 g1 (by decide) b2) rfl ?_
    refine Ru.op (q := (.aload_n 0, 1)) (S' := (7, _, _, _, _)) (by decide +kernel) rfl ?_
    refine Ru.kI (q := (.bipush 48, 2)) (c := 48) (pc' := 9) (by decide +kernel) rfl (by decide) rfl ?_
    refine Ru.op (q := (.iload_n 1, 1)) (S' := (10, _, _, _, _)) (by decide +kernel) rfl ?_
    refine Ru.kI (q := (.bipush 10, 2)) (c := 10) (pc' := 12) (by decide +kernel) rfl (by decide) rfl ?_
    obtain ⟨g7, h⟩ := gd_some h
    refine Ru.ar2 (i := .idiv) (z := (v1 / 10)) (pc' := 13) (by decide +kernel) rfl (ar_div g7) rfl ?_
    refine Ru.ar2 (i := .iadd) (z := (48 + (v1 / 10))) (pc' := 14) (by decide +kernel) rfl (ar_add _ _) rfl ?_
    obtain ⟨g8, h⟩ := gd_some h
    refine Ru.i2c (pc' := 15) (by decide +kernel) g8 rfl ?_
    obtain ⟨o9, e10, h⟩ := ob_some h
    refine Ru.vcallI (pc' := 18) (st' := []) (i := 24) (j2 := 79) (ci := 8) (k := 0) (z := 0) (as := [vI (48 + (v1 / 10))]) (by decide +kernel) (by decide +kernel) rfl rfl (hp28 _) (by decide) ⟨(Nat.le_of_ble_eq_true rfl), (by show 19 + 2 ≤ 221; exact Nat.le_of_ble_eq_true rfl), Nat.le_of_ble_eq_true rfl, Nat.le_of_ble_eq_true rfl⟩ ((g79_ok e10).up (Nat.le_of_ble_eq_true rfl) (Nat.le_of_ble_eq_true rfl)) rfl rfl ?_
    refine Ru.op (q := (.aload_n 0, 1)) (S' := (19, _, _, _, _)) (by decide +kernel) rfl ?_
    refine Ru.kI (q := (.bipush 48, 2)) (c := 48) (pc' := 21) (by decide +kernel) rfl (by decide) rfl ?_
    refine Ru.op (q := (.iload_n 1, 1)) (S' := (22, _, _, _, _)) (by decide +kernel) rfl ?_
    refine Ru.kI (q := (.bipush 10, 2)) (c := 10) (pc' := 24) (by decide +kernel) rfl (by decide) rfl ?_
    refine Ru.ar2 (i := .irem) (z := (v1 % 10)) (pc' := 25) (by decide +kernel) rfl (ar_rem g7) rfl ?_
    refine Ru.ar2 (i := .iadd) (z := (48 + (v1 % 10))) (pc' := 26) (by decide +kernel) rfl (ar_add _ _) rfl ?_
    obtain ⟨g11, h⟩ := gd_some h
    refine Ru.i2c (pc' := 27) (by decide +kernel) g11 rfl ?_
    obtain ⟨o12, e13, h⟩ := ob_some h
    refine Ru.vcallI (pc' := 30) (st' := []) (i := 24) (j2 := 79) (ci := 8) (k := 0) (z := 0) (as := [vI (48 + (v1 % 10))]) (by decide +kernel) (by decide +kernel) rfl rfl (hp28 _) (by decide) ⟨(Nat.le_of_ble_eq_true rfl), (by show 19 + 2 ≤ 221; exact Nat.le_of_ble_eq_true rfl), Nat.le_of_ble_eq_true rfl, Nat.le_of_ble_eq_true rfl⟩ ((g79_ok e13).up (Nat.le_of_ble_eq_true rfl) (Nat.le_of_ble_eq_true rfl)) rfl rfl ?_
    cases h
    exact Ru.end (q := (.return_, 1)) (by decide +kernel) rfl rfl
