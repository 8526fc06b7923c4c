set_option maxRecDepth 100000 in
set_option maxHeartbeats 4000000 in
theorem g137L19_ok {v1 : Int} : ∀ (n : Nat) (v2 : Int) (v3 : Int) (S : St) (d4 d5 : Option Value) (_ : DD [d4, d5]) (out : Int × St), g137L19 v1 n v2 v3 S = some out → ∀ r, (∀ (e3 e4 e5 : Option Value), DD [e3, e4, e5] → Ru none 17 368 137 (62, [some (.ref 36), some (vI v1), some (vI out.1), e3, e4, e5], [], out.2.ns, Hp out.2) r) → Ru none 17 368 137 (19, [some (.ref 36), some (vI v1), some (vI v2), some (vI v3), d4, d5], [], S.ns, Hp S) r := by
  intro n
  induction n with
  | zero => intro v2 v3 S d4 d5 hdd out h; cases h
  | succ n ih =>
    intro v2 v3 S d4 d5 hdd out h r hk
    unfold g137L19 at h
    refine Ru.op (q := (.iload_n 3, 1)) (S' := (20, _, _, _, _)) (by decide +kernel) rfl ?_
    refine Ru.op (q := (.aload_n 0, 1)) (S' := (21, _, _, _, _)) (by decide +kernel) rfl ?_
    refine Ru.getI (pc' := 24) (i := 263) (ci := 10) (k := 9) (nn := 0) (z := 0) (x := (S.F 36 9)) (by decide +kernel) (by decide +kernel) (hp36 _) (by decide) rfl (eI_of _) rfl ?_
    obtain ⟨g3, h⟩ := gd_some h
    by_cases b4 : v3 < (S.F 36 9)
    · replace h := if_t b4 h
      refine Ru.br2 (k := .ge) (off := 38) (bb := false) (tg := 27) (by decide +kernel) (by decide +kernel) (ci_ge0 g3 (inR_to _) b4) rfl ?_
      refine Ru.op (q := (.iload_n 2, 1)) (S' := (28, _, _, _, _)) (by decide +kernel) rfl ?_
      obtain ⟨g5, h⟩ := gd_some h
      by_cases b6 : v2 = 0
      · replace h := if_t b6 h
        refine Ru.br (k := .ne) (off := 22) (bb := false) (tg := 31) (by decide +kernel) (by decide +kernel) (cz (ci_ne0 g5 (by decide) b6)) rfl ?_
        refine Ru.op (q := (.aload_n 0, 1)) (S' := (32, _, _, _, _)) (by decide +kernel) rfl ?_
        refine Ru.getR (pc' := 35) (i := 33) (ci := 10) (k := 11) (nn := 0) (z := 0) (v := .ref 43) (by decide +kernel) (by decide +kernel) (hp36 _) (by decide) rfl rfl ?_
        refine Ru.op (q := (.iload_n 3, 1)) (S' := (36, _, _, _, _)) (by decide +kernel) rfl ?_
        obtain ⟨g7, h⟩ := gd_some h
        refine Ru.ildI (pc' := 37) (i := v3) (z := (S.A 43 v3)) (by decide +kernel) (hp43 _) g7 (eI_of _) rfl ?_
        refine Ru.kI (q := (.iconst 1, 1)) (c := 1) (pc' := 38) (by decide +kernel) rfl (by decide) rfl ?_
        by_cases b8 : (S.A 43 v3) = 1
        · replace h := if_t b8 h
          refine Ru.br2 (k := .ne) (off := 16) (bb := false) (tg := 41) (by decide +kernel) (by decide +kernel) (ci_ne0 (inR_to _) (by decide) b8) rfl ?_
          refine Ru.op (q := (.aload_n 0, 1)) (S' := (42, _, _, _, _)) (by decide +kernel) rfl ?_
          refine Ru.op (q := (.iload_n 3, 1)) (S' := (43, _, _, _, _)) (by decide +kernel) rfl ?_
          refine Ru.op (q := (.iload_n 1, 1)) (S' := (44, _, _, _, _)) (by decide +kernel) rfl ?_
          obtain ⟨o9, e10, h⟩ := ob_some h
          refine Ru.vcallI (pc' := 47) (st' := [vI o9.1]) (i := 266) (j2 := 130) (ci := 10) (k := 0) (z := 0) (as := [vI v3, vI v1]) (by decide +kernel) (by decide +kernel) rfl rfl (hp36 _) (by decide) ⟨(Nat.le_of_ble_eq_true rfl), (by show 19 + 8 ≤ 368; exact Nat.le_of_ble_eq_true rfl), Nat.le_of_ble_eq_true rfl, Nat.le_of_ble_eq_true rfl⟩ ((g130_ok e10).up (Nat.le_of_ble_eq_true rfl) (Nat.le_of_ble_eq_true rfl)) rfl rfl ?_
          obtain ⟨g11, h⟩ := gd_some h
          by_cases b12 : o9.1 = 0
          · replace h := if_t b12 h
            refine Ru.br (k := .eq) (off := 7) (bb := true) (tg := 54) (by decide +kernel) (by decide +kernel) (cz (ci_eq1 g11 (by decide) b12)) rfl ?_
            refine Ru.kI (q := (.iconst 0, 1)) (c := 0) (pc' := 55) (by decide +kernel) rfl (by decide) rfl ?_
            refine Ru.op (q := (.istore_n 2, 1)) (S' := (56, [some (.ref 36), some (vI v1), some (vI 0), some (vI v3), d4, d5], [], _, _)) (by decide +kernel) rfl ?_
            refine Ru.inc (k := 3) (n := 1) (x := v3) (z := (v3 + 1)) (xs' := [some (.ref 36), some (vI v1), some (vI 0), some (vI (v3 + 1)), d4, d5]) (pc' := 59) (by decide +kernel) rfl rfl rfl rfl ?_
            refine Ru.op (q := (.goto (-40), 3)) (S' := (19, _, _, _, _)) (by decide +kernel) rfl ?_
            exact ih _ _ _ _ _ ⟨hdd.1, hdd.2.1, trivial⟩ _ h r hk
          · replace h := if_f b12 h
            refine Ru.br (k := .eq) (off := 7) (bb := false) (tg := 50) (by decide +kernel) (by decide +kernel) (cz (ci_eq0 g11 (by decide) b12)) rfl ?_
            refine Ru.kI (q := (.iconst 1, 1)) (c := 1) (pc' := 51) (by decide +kernel) rfl (by decide) rfl ?_
            refine Ru.op (q := (.goto 4, 3)) (S' := (55, _, _, _, _)) (by decide +kernel) rfl ?_
            refine Ru.op (q := (.istore_n 2, 1)) (S' := (56, [some (.ref 36), some (vI v1), some (vI 1), some (vI v3), d4, d5], [], _, _)) (by decide +kernel) rfl ?_
            refine Ru.inc (k := 3) (n := 1) (x := v3) (z := (v3 + 1)) (xs' := [some (.ref 36), some (vI v1), some (vI 1), some (vI (v3 + 1)), d4, d5]) (pc' := 59) (by decide +kernel) rfl rfl rfl rfl ?_
            refine Ru.op (q := (.goto (-40), 3)) (S' := (19, _, _, _, _)) (by decide +kernel) rfl ?_
            exact ih _ _ _ _ _ ⟨hdd.1, hdd.2.1, trivial⟩ _ h r hk
        · replace h := if_f b8 h
          refine Ru.br2 (k := .ne) (off := 16) (bb := true) (tg := 54) (by decide +kernel) (by decide +kernel) (ci_ne1 (inR_to _) (by decide) b8) rfl ?_
          refine Ru.kI (q := (.iconst 0, 1)) (c := 0) (pc' := 55) (by decide +kernel) rfl (by decide) rfl ?_
          refine Ru.op (q := (.istore_n 2, 1)) (S' := (56, [some (.ref 36), some (vI v1), some (vI 0), some (vI v3), d4, d5], [], _, _)) (by decide +kernel) rfl ?_
          refine Ru.inc (k := 3) (n := 1) (x := v3) (z := (v3 + 1)) (xs' := [some (.ref 36), some (vI v1), some (vI 0), some (vI (v3 + 1)), d4, d5]) (pc' := 59) (by decide +kernel) rfl rfl rfl rfl ?_
          refine Ru.op (q := (.goto (-40), 3)) (S' := (19, _, _, _, _)) (by decide +kernel) rfl ?_
          exact ih _ _ _ _ _ ⟨hdd.1, hdd.2.1, trivial⟩ _ h r hk
      · replace h := if_f b6 h
        refine Ru.br (k := .ne) (off := 22) (bb := true) (tg := 50) (by decide +kernel) (by decide +kernel) (cz (ci_ne1 g5 (by decide) b6)) rfl ?_
        refine Ru.kI (q := (.iconst 1, 1)) (c := 1) (pc' := 51) (by decide +kernel) rfl (by decide) rfl ?_
        refine Ru.op (q := (.goto 4, 3)) (S' := (55, _, _, _, _)) (by decide +kernel) rfl ?_
        refine Ru.op (q := (.istore_n 2, 1)) (S' := (56, [some (.ref 36), some (vI v1), some (vI 1), some (vI v3), d4, d5], [], _, _)) (by decide +kernel) rfl ?_
        refine Ru.inc (k := 3) (n := 1) (x := v3) (z := (v3 + 1)) (xs' := [some (.ref 36), some (vI v1), some (vI 1), some (vI (v3 + 1)), d4, d5]) (pc' := 59) (by decide +kernel) rfl rfl rfl rfl ?_
        refine Ru.op (q := (.goto (-40), 3)) (S' := (19, _, _, _, _)) (by decide +kernel) rfl ?_
        exact ih _ _ _ _ _ ⟨hdd.1, hdd.2.1, trivial⟩ _ h r hk
    · replace h := if_f b4 h
      refine Ru.br2 (k := .ge) (off := 38) (bb := true) (tg := 62) (by decide +kernel) (by decide +kernel) (ci_ge1 g3 (inR_to _) b4) rfl ?_
      cases h
      exact hk _ _ _ ⟨rfl, hdd.1, hdd.2.1, trivial⟩
set_option maxRecDepth 100000 in
set_option maxHeartbeats 4000000 in
theorem g137L77_ok {v1 : Int} : ∀ (n : Nat) (v3 : Int) (S : St) (d2 d4 d5 : Option Value) (_ : DD [d2, d4, d5]) (out : St), g137L77 v1 n v3 S = some out → ∀ r, (∀ (e2 e3 e4 e5 : Option Value), DD [e2, e3, e4, e5] → Ru none 17 368 137 (126, [some (.ref 36), some (vI v1), e2, e3, e4, e5], [], out.ns, Hp out) r) → Ru none 17 368 137 (77, [some (.ref 36), some (vI v1), d2, some (vI v3), d4, d5], [], S.ns, Hp S) r := by
  intro n
  induction n with
  | zero => intro v3 S d2 d4 d5 hdd out h; cases h
  | succ n ih =>
    intro v3 S d2 d4 d5 hdd out h r hk
    unfold g137L77 at h
    refine Ru.op (q := (.iload_n 3, 1)) (S' := (78, _, _, _, _)) (by decide +kernel) rfl ?_
    refine Ru.op (q := (.aload_n 0, 1)) (S' := (79, _, _, _, _)) (by decide +kernel) rfl ?_
    refine Ru.getI (pc' := 82) (i := 263) (ci := 10) (k := 9) (nn := 0) (z := 0) (x := (S.F 36 9)) (by decide +kernel) (by decide +kernel) (hp36 _) (by decide) rfl (eI_of _) rfl ?_
    obtain ⟨g21, h⟩ := gd_some h
    by_cases b22 : v3 < (S.F 36 9)
    · replace h := if_t b22 h
      refine Ru.br2 (k := .ge) (off := 44) (bb := false) (tg := 85) (by decide +kernel) (by decide +kernel) (ci_ge0 g21 (inR_to _) b22) rfl ?_
      refine Ru.op (q := (.aload_n 0, 1)) (S' := (86, _, _, _, _)) (by decide +kernel) rfl ?_
      refine Ru.getR (pc' := 89) (i := 33) (ci := 10) (k := 11) (nn := 0) (z := 0) (v := .ref 43) (by decide +kernel) (by decide +kernel) (hp36 _) (by decide) rfl rfl ?_
      refine Ru.op (q := (.iload_n 3, 1)) (S' := (90, _, _, _, _)) (by decide +kernel) rfl ?_
      refine Ru.op (q := (.aload_n 0, 1)) (S' := (91, _, _, _, _)) (by decide +kernel) rfl ?_
      refine Ru.getR (pc' := 94) (i := 33) (ci := 10) (k := 11) (nn := 0) (z := 0) (v := .ref 43) (by decide +kernel) (by decide +kernel) (hp36 _) (by decide) rfl rfl ?_
      refine Ru.op (q := (.iload_n 3, 1)) (S' := (95, _, _, _, _)) (by decide +kernel) rfl ?_
      obtain ⟨g23, h⟩ := gd_some h
      refine Ru.ildI (pc' := 96) (i := v3) (z := (S.A 43 v3)) (by decide +kernel) (hp43 _) g23 (eI_of _) rfl ?_
      refine Ru.kI (q := (.iconst 1, 1)) (c := 1) (pc' := 97) (by decide +kernel) rfl (by decide) rfl ?_
      by_cases b24 : (S.A 43 v3) = 1
      · replace h := if_t b24 h
        refine Ru.br2 (k := .ne) (off := 16) (bb := false) (tg := 100) (by decide +kernel) (by decide +kernel) (ci_ne0 (inR_to _) (by decide) b24) rfl ?_
        refine Ru.op (q := (.aload_n 0, 1)) (S' := (101, _, _, _, _)) (by decide +kernel) rfl ?_
        refine Ru.op (q := (.iload_n 1, 1)) (S' := (102, _, _, _, _)) (by decide +kernel) rfl ?_
        refine Ru.op (q := (.iload_n 3, 1)) (S' := (103, _, _, _, _)) (by decide +kernel) rfl ?_
        obtain ⟨o25, e26, h⟩ := ob_some h
        refine Ru.vcallI (pc' := 106) (st' := [vI o25.1, vI v3, .ref 43]) (i := 266) (j2 := 130) (ci := 10) (k := 0) (z := 0) (as := [vI v1, vI v3]) (by decide +kernel) (by decide +kernel) rfl rfl (hp36 _) (by decide) ⟨(Nat.le_of_ble_eq_true rfl), (by show 19 + 8 ≤ 368; exact Nat.le_of_ble_eq_true rfl), Nat.le_of_ble_eq_true rfl, Nat.le_of_ble_eq_true rfl⟩ ((g130_ok e26).up (Nat.le_of_ble_eq_true rfl) (Nat.le_of_ble_eq_true rfl)) rfl rfl ?_
        obtain ⟨g27, h⟩ := gd_some h
        by_cases b28 : o25.1 = 0
        · replace h := if_t b28 h
          refine Ru.br (k := .eq) (off := 7) (bb := true) (tg := 113) (by decide +kernel) (by decide +kernel) (cz (ci_eq1 g27 (by decide) b28)) rfl ?_
          refine Ru.op (q := (.aload_n 0, 1)) (S' := (114, _, _, _, _)) (by decide +kernel) rfl ?_
          refine Ru.getR (pc' := 117) (i := 33) (ci := 10) (k := 11) (nn := 0) (z := 0) (v := .ref 43) (by decide +kernel) (by decide +kernel) (hp36 _) (by decide) rfl rfl ?_
          refine Ru.op (q := (.iload_n 3, 1)) (S' := (118, _, _, _, _)) (by decide +kernel) rfl ?_
          refine Ru.ildI (pc' := 119) (i := v3) (z := (o25.2.A 43 v3)) (by decide +kernel) (hp43 _) g23 (eI_of _) rfl ?_
          refine Ru.istI (pc' := 120) (i := v3) (x := (o25.2.A 43 v3)) (by decide +kernel) (hp43 _) g23 (ps_43 _ _ _) rfl ?_
          refine Ru.inc (k := 3) (n := 1) (x := v3) (z := (v3 + 1)) (xs' := [some (.ref 36), some (vI v1), d2, some (vI (v3 + 1)), d4, d5]) (pc' := 123) (by decide +kernel) rfl rfl (mn_st1_D (Nat.le_of_ble_eq_true rfl) hdd.1 rfl) rfl ?_
          refine Ru.op (q := (.goto (-46), 3)) (S' := (77, _, _, _, _)) (by decide +kernel) rfl ?_
          exact ih _ _ _ _ _ ⟨hdd.1, hdd.2.1, hdd.2.2.1, trivial⟩ _ h r hk
        · replace h := if_f b28 h
          refine Ru.br (k := .eq) (off := 7) (bb := false) (tg := 109) (by decide +kernel) (by decide +kernel) (cz (ci_eq0 g27 (by decide) b28)) rfl ?_
          refine Ru.kI (q := (.iconst 2, 1)) (c := 2) (pc' := 110) (by decide +kernel) rfl (by decide) rfl ?_
          refine Ru.op (q := (.goto 9, 3)) (S' := (119, _, _, _, _)) (by decide +kernel) rfl ?_
          refine Ru.istI (pc' := 120) (i := v3) (x := 2) (by decide +kernel) (hp43 _) g23 (ps_43 _ _ _) rfl ?_
          refine Ru.inc (k := 3) (n := 1) (x := v3) (z := (v3 + 1)) (xs' := [some (.ref 36), some (vI v1), d2, some (vI (v3 + 1)), d4, d5]) (pc' := 123) (by decide +kernel) rfl rfl (mn_st1_D (Nat.le_of_ble_eq_true rfl) hdd.1 rfl) rfl ?_
          refine Ru.op (q := (.goto (-46), 3)) (S' := (77, _, _, _, _)) (by decide +kernel) rfl ?_
          exact ih _ _ _ _ _ ⟨hdd.1, hdd.2.1, hdd.2.2.1, trivial⟩ _ h r hk
      · replace h := if_f b24 h
        refine Ru.br2 (k := .ne) (off := 16) (bb := true) (tg := 113) (by decide +kernel) (by decide +kernel) (ci_ne1 (inR_to _) (by decide) b24) rfl ?_
        refine Ru.op (q := (.aload_n 0, 1)) (S' := (114, _, _, _, _)) (by decide +kernel) rfl ?_
        refine Ru.getR (pc' := 117) (i := 33) (ci := 10) (k := 11) (nn := 0) (z := 0) (v := .ref 43) (by decide +kernel) (by decide +kernel) (hp36 _) (by decide) rfl rfl ?_
        refine Ru.op (q := (.iload_n 3, 1)) (S' := (118, _, _, _, _)) (by decide +kernel) rfl ?_
        refine Ru.ildI (pc' := 119) (i := v3) (z := (S.A 43 v3)) (by decide +kernel) (hp43 _) g23 (eI_of _) rfl ?_
        refine Ru.istI (pc' := 120) (i := v3) (x := (S.A 43 v3)) (by decide +kernel) (hp43 _) g23 (ps_43 _ _ _) rfl ?_
        refine Ru.inc (k := 3) (n := 1) (x := v3) (z := (v3 + 1)) (xs' := [some (.ref 36), some (vI v1), d2, some (vI (v3 + 1)), d4, d5]) (pc' := 123) (by decide +kernel) rfl rfl (mn_st1_D (Nat.le_of_ble_eq_true rfl) hdd.1 rfl) rfl ?_
        refine Ru.op (q := (.goto (-46), 3)) (S' := (77, _, _, _, _)) (by decide +kernel) rfl ?_
        exact ih _ _ _ _ _ ⟨hdd.1, hdd.2.1, hdd.2.2.1, trivial⟩ _ h r hk
    · replace h := if_f b22 h
      refine Ru.br2 (k := .ge) (off := 44) (bb := true) (tg := 126) (by decide +kernel) (by decide +kernel) (ci_ge1 g21 (inR_to _) b22) rfl ?_
      cases h
      exact hk _ _ _ _ ⟨hdd.1, rfl, hdd.2.1, hdd.2.2.1, trivial⟩
set_option maxRecDepth 100000 in
set_option maxHeartbeats 4000000 in
theorem g137L150_ok {v1 : Int} {v3 : Int} : ∀ (n : Nat) (v4 : Int) (S : St) (d2 d5 : Option Value) (_ : DD [d2, d5]) (out : St), g137L150 v1 v3 n v4 S = some out → ∀ r, (∀ (e2 e4 e5 : Option Value), DD [e2, e4, e5] → Ru none 17 368 137 (205, [some (.ref 36), some (vI v1), e2, some (vI v3), e4, e5], [], out.ns, Hp out) r) → Ru none 17 368 137 (150, [some (.ref 36), some (vI v1), d2, some (vI v3), some (vI v4), d5], [], S.ns, Hp S) r := by
  intro n
  induction n with
  | zero => intro v4 S d2 d5 hdd out h; cases h
  | succ n ih =>
    intro v4 S d2 d5 hdd out h r hk
    unfold g137L150 at h
    refine Ru.op (q := (.iload 4, 2)) (S' := (152, _, _, _, _)) (by decide +kernel) rfl ?_
    refine Ru.op (q := (.aload_n 0, 1)) (S' := (153, _, _, _, _)) (by decide +kernel) rfl ?_
    refine Ru.getR (pc' := 156) (i := 27) (ci := 10) (k := 7) (nn := 0) (z := 0) (v := .ref 41) (by decide +kernel) (by decide +kernel) (hp36 _) (by decide) rfl rfl ?_
    refine Ru.op (q := (.iload_n 1, 1)) (S' := (157, _, _, _, _)) (by decide +kernel) rfl ?_
    obtain ⟨g40, h⟩ := gd_some h
    refine Ru.ildI (pc' := 158) (i := v1) (z := (S.A 41 v1)) (by decide +kernel) (hp41 _) g40 (eI_of _) rfl ?_
    obtain ⟨g41, h⟩ := gd_some h
    by_cases b42 : v4 < (S.A 41 v1)
    · replace h := if_t b42 h
      refine Ru.br2 (k := .ge) (off := 47) (bb := false) (tg := 161) (by decide +kernel) (by decide +kernel) (ci_ge0 g41 (inR_to _) b42) rfl ?_
      refine Ru.op (q := (.aload_n 0, 1)) (S' := (162, _, _, _, _)) (by decide +kernel) rfl ?_
      obtain ⟨o43, e44, h⟩ := ob_some h
      refine Ru.vcallI (pc' := 165) (st' := [vI o43]) (i := 330) (j2 := 139) (ci := 10) (k := 0) (z := 0) (as := []) (by decide +kernel) (by decide +kernel) rfl rfl (hp36 _) (by decide) ⟨(Nat.le_of_ble_eq_true rfl), (by show 19 + 1 ≤ 368; exact Nat.le_of_ble_eq_true rfl), Nat.le_of_ble_eq_true rfl, Nat.le_of_ble_eq_true rfl⟩ ((g139_ok e44).up (Nat.le_of_ble_eq_true rfl) (Nat.le_of_ble_eq_true rfl)) rfl rfl ?_
      obtain ⟨g45, h⟩ := gd_some h
      by_cases b46 : o43 = 0
      · replace h := if_t b46 h
        refine Ru.br (k := .ne) (off := 40) (bb := false) (tg := 168) (by decide +kernel) (by decide +kernel) (cz (ci_ne0 g45 (by decide) b46)) rfl ?_
        refine Ru.op (q := (.aload_n 0, 1)) (S' := (169, _, _, _, _)) (by decide +kernel) rfl ?_
        refine Ru.op (q := (.iload_n 1, 1)) (S' := (170, _, _, _, _)) (by decide +kernel) rfl ?_
        refine Ru.op (q := (.iload_n 3, 1)) (S' := (171, _, _, _, _)) (by decide +kernel) rfl ?_
        refine Ru.op (q := (.iload 4, 2)) (S' := (173, _, _, _, _)) (by decide +kernel) rfl ?_
        obtain ⟨o47, e48, h⟩ := ob_some h
        refine Ru.vcallI (pc' := 176) (st' := [vI o47.1]) (i := 333) (j2 := 140) (ci := 10) (k := 0) (z := 0) (as := [vI v1, vI v3, vI v4]) (by decide +kernel) (by decide +kernel) rfl rfl (hp36 _) (by decide) ⟨(Nat.le_of_ble_eq_true rfl), (by show 19 + 4 ≤ 368; exact Nat.le_of_ble_eq_true rfl), Nat.le_of_ble_eq_true rfl, Nat.le_of_ble_eq_true rfl⟩ ((g140_ok e48).up (Nat.le_of_ble_eq_true rfl) (Nat.le_of_ble_eq_true rfl)) rfl rfl ?_
        obtain ⟨g49, h⟩ := gd_some h
        by_cases b50 : o47.1 = 0
        · replace h := if_t b50 h
          refine Ru.br (k := .eq) (off := 20) (bb := true) (tg := 196) (by decide +kernel) (by decide +kernel) (cz (ci_eq1 g49 (by decide) b50)) rfl ?_
          refine Ru.kI (q := (.iconst 0, 1)) (c := 0) (pc' := 197) (by decide +kernel) rfl (by decide) rfl ?_
          refine Ru.op (q := (.istore 5, 2)) (S' := (199, [some (.ref 36), some (vI v1), d2, some (vI v3), some (vI v4), some (vI 0)], [], _, _)) (by decide +kernel) rfl ?_
          refine Ru.inc (k := 4) (n := 1) (x := v4) (z := (v4 + 1)) (xs' := [some (.ref 36), some (vI v1), d2, some (vI v3), some (vI (v4 + 1)), some (vI 0)]) (pc' := 202) (by decide +kernel) rfl rfl rfl rfl ?_
          refine Ru.op (q := (.goto (-52), 3)) (S' := (150, _, _, _, _)) (by decide +kernel) rfl ?_
          exact ih _ _ _ _ ⟨hdd.1, rfl, trivial⟩ _ h r hk
        · replace h := if_f b50 h
          refine Ru.br (k := .eq) (off := 20) (bb := false) (tg := 179) (by decide +kernel) (by decide +kernel) (cz (ci_eq0 g49 (by decide) b50)) rfl ?_
          refine Ru.op (q := (.aload_n 0, 1)) (S' := (180, _, _, _, _)) (by decide +kernel) rfl ?_
          refine Ru.kI (q := (.iconst 1, 1)) (c := 1) (pc' := 181) (by decide +kernel) rfl (by decide) rfl ?_
          refine Ru.op (q := (.iload_n 1, 1)) (S' := (182, _, _, _, _)) (by decide +kernel) rfl ?_
          refine Ru.op (q := (.iload_n 3, 1)) (S' := (183, _, _, _, _)) (by decide +kernel) rfl ?_
          refine Ru.op (q := (.iload_n 1, 1)) (S' := (184, _, _, _, _)) (by decide +kernel) rfl ?_
          refine Ru.op (q := (.iload 4, 2)) (S' := (186, _, _, _, _)) (by decide +kernel) rfl ?_
          obtain ⟨o51, e52, h⟩ := ob_some h
          refine Ru.vcallI (pc' := 189) (st' := [vI o51.1]) (i := 301) (j2 := 118) (ci := 10) (k := 0) (z := 0) (as := [vI 1, vI v1, vI v3, vI v1, vI v4]) (by decide +kernel) (by decide +kernel) rfl rfl (hp36 _) (by decide) ⟨(Nat.le_of_ble_eq_true rfl), (by show 19 + 6 ≤ 368; exact Nat.le_of_ble_eq_true rfl), Nat.le_of_ble_eq_true rfl, Nat.le_of_ble_eq_true rfl⟩ ((g118_ok e52).up (Nat.le_of_ble_eq_true rfl) (Nat.le_of_ble_eq_true rfl)) rfl rfl ?_
          obtain ⟨g53, h⟩ := gd_some h
          by_cases b54 : o51.1 = 0
          · replace h := if_t b54 h
            refine Ru.br (k := .eq) (off := 7) (bb := true) (tg := 196) (by decide +kernel) (by decide +kernel) (cz (ci_eq1 g53 (by decide) b54)) rfl ?_
            refine Ru.kI (q := (.iconst 0, 1)) (c := 0) (pc' := 197) (by decide +kernel) rfl (by decide) rfl ?_
            refine Ru.op (q := (.istore 5, 2)) (S' := (199, [some (.ref 36), some (vI v1), d2, some (vI v3), some (vI v4), some (vI 0)], [], _, _)) (by decide +kernel) rfl ?_
            refine Ru.inc (k := 4) (n := 1) (x := v4) (z := (v4 + 1)) (xs' := [some (.ref 36), some (vI v1), d2, some (vI v3), some (vI (v4 + 1)), some (vI 0)]) (pc' := 202) (by decide +kernel) rfl rfl rfl rfl ?_
            refine Ru.op (q := (.goto (-52), 3)) (S' := (150, _, _, _, _)) (by decide +kernel) rfl ?_
            exact ih _ _ _ _ ⟨hdd.1, rfl, trivial⟩ _ h r hk
          · replace h := if_f b54 h
            refine Ru.br (k := .eq) (off := 7) (bb := false) (tg := 192) (by decide +kernel) (by decide +kernel) (cz (ci_eq0 g53 (by decide) b54)) rfl ?_
            refine Ru.kI (q := (.iconst 1, 1)) (c := 1) (pc' := 193) (by decide +kernel) rfl (by decide) rfl ?_
            refine Ru.op (q := (.goto 4, 3)) (S' := (197, _, _, _, _)) (by decide +kernel) rfl ?_
            refine Ru.op (q := (.istore 5, 2)) (S' := (199, [some (.ref 36), some (vI v1), d2, some (vI v3), some (vI v4), some (vI 1)], [], _, _)) (by decide +kernel) rfl ?_
            refine Ru.inc (k := 4) (n := 1) (x := v4) (z := (v4 + 1)) (xs' := [some (.ref 36), some (vI v1), d2, some (vI v3), some (vI (v4 + 1)), some (vI 1)]) (pc' := 202) (by decide +kernel) rfl rfl rfl rfl ?_
            refine Ru.op (q := (.goto (-52), 3)) (S' := (150, _, _, _, _)) (by decide +kernel) rfl ?_
            exact ih _ _ _ _ ⟨hdd.1, rfl, trivial⟩ _ h r hk
      · replace h := if_f b46 h
        refine Ru.br (k := .ne) (off := 40) (bb := true) (tg := 205) (by decide +kernel) (by decide +kernel) (cz (ci_ne1 g45 (by decide) b46)) rfl ?_
        cases h
        exact hk _ _ _ ⟨hdd.1, rfl, hdd.2.1, trivial⟩
    · replace h := if_f b42 h
      refine Ru.br2 (k := .ge) (off := 47) (bb := true) (tg := 205) (by decide +kernel) (by decide +kernel) (ci_ge1 g41 (inR_to _) b42) rfl ?_
      cases h
      exact hk _ _ _ ⟨hdd.1, rfl, hdd.2.1, trivial⟩
set_option maxRecDepth 100000 in
set_option maxHeartbeats 4000000 in
theorem g137L135_ok {v1 : Int} : ∀ (n : Nat) (v3 : Int) (S : St) (d2 d4 d5 : Option Value) (_ : DD [d2, d4, d5]) (out : St), g137L135 v1 n v3 S = some out → ∀ r, (∀ (e2 e3 e4 e5 : Option Value), DD [e2, e3, e4, e5] → Ru none 17 368 137 (211, [some (.ref 36), some (vI v1), e2, e3, e4, e5], [], out.ns, Hp out) r) → Ru none 17 368 137 (135, [some (.ref 36), some (vI v1), d2, some (vI v3), d4, d5], [], S.ns, Hp S) r := by
  intro n
  induction n with
  | zero => intro v3 S d2 d4 d5 hdd out h; cases h
  | succ n ih =>
    intro v3 S d2 d4 d5 hdd out h r hk
    unfold g137L135 at h
    refine Ru.op (q := (.iload_n 3, 1)) (S' := (136, _, _, _, _)) (by decide +kernel) rfl ?_
    refine Ru.op (q := (.aload_n 0, 1)) (S' := (137, _, _, _, _)) (by decide +kernel) rfl ?_
    refine Ru.getR (pc' := 140) (i := 27) (ci := 10) (k := 7) (nn := 0) (z := 0) (v := .ref 41) (by decide +kernel) (by decide +kernel) (hp36 _) (by decide) rfl rfl ?_
    refine Ru.op (q := (.iload_n 1, 1)) (S' := (141, _, _, _, _)) (by decide +kernel) rfl ?_
    obtain ⟨g37, h⟩ := gd_some h
    refine Ru.ildI (pc' := 142) (i := v1) (z := (S.A 41 v1)) (by decide +kernel) (hp41 _) g37 (eI_of _) rfl ?_
    obtain ⟨g38, h⟩ := gd_some h
    by_cases b39 : v3 < (S.A 41 v1)
    · replace h := if_t b39 h
      refine Ru.br2 (k := .ge) (off := 69) (bb := false) (tg := 145) (by decide +kernel) (by decide +kernel) (ci_ge0 g38 (inR_to _) b39) rfl ?_
      refine Ru.op (q := (.iload_n 3, 1)) (S' := (146, _, _, _, _)) (by decide +kernel) rfl ?_
      refine Ru.kI (q := (.iconst 1, 1)) (c := 1) (pc' := 147) (by decide +kernel) rfl (by decide) rfl ?_
      refine Ru.ar2 (i := .iadd) (z := (v3 + 1)) (pc' := 148) (by decide +kernel) rfl (ar_add _ _) rfl ?_
      refine Ru.op (q := (.istore 4, 2)) (S' := (150, [some (.ref 36), some (vI v1), d2, some (vI v3), some (vI (v3 + 1)), d5], [], _, _)) (by decide +kernel) rfl ?_
      obtain ⟨o55, e59, h⟩ := ob_some h
      refine g137L150_ok FU _ _ _ _ ⟨hdd.1, hdd.2.2.1, trivial⟩ _ e59 _ ?_
      intro d56 d57 d58 hd60
      refine Ru.inc (k := 3) (n := 1) (x := v3) (z := (v3 + 1)) (xs' := [some (.ref 36), some (vI v1), d56, some (vI (v3 + 1)), d57, d58]) (pc' := 208) (by decide +kernel) rfl rfl (mn_st1_D (Nat.le_of_ble_eq_true rfl) hd60.1 rfl) rfl ?_
      refine Ru.op (q := (.goto (-73), 3)) (S' := (135, _, _, _, _)) (by decide +kernel) rfl ?_
      exact ih _ _ _ _ _ ⟨hd60.1, hd60.2.1, hd60.2.2.1, trivial⟩ _ h r hk
    · replace h := if_f b39 h
      refine Ru.br2 (k := .ge) (off := 69) (bb := true) (tg := 211) (by decide +kernel) (by decide +kernel) (ci_ge1 g38 (inR_to _) b39) rfl ?_
      cases h
      exact hk _ _ _ _ ⟨hdd.1, rfl, hdd.2.1, hdd.2.2.1, trivial⟩
set_option maxRecDepth 100000 in
set_option maxHeartbeats 4000000 in
theorem g137L231_ok {v1 : Int} {v3 : Int} : ∀ (n : Nat) (v4 : Int) (S : St) (d2 d5 : Option Value) (_ : DD [d2, d5]) (out : St), g137L231 v1 v3 n v4 S = some out → ∀ r, (∀ (e2 e4 e5 : Option Value), DD [e2, e4, e5] → Ru none 17 368 137 (334, [some (.ref 36), some (vI v1), e2, some (vI v3), e4, e5], [], out.ns, Hp out) r) → Ru none 17 368 137 (231, [some (.ref 36), some (vI v1), d2, some (vI v3), some (vI v4), d5], [], S.ns, Hp S) r := by
  intro n
  induction n with
  | zero => intro v4 S d2 d5 hdd out h; cases h
  | succ n ih =>
    intro v4 S d2 d5 hdd out h r hk
    unfold g137L231 at h
    refine Ru.op (q := (.iload 4, 2)) (S' := (233, _, _, _, _)) (by decide +kernel) rfl ?_
    refine Ru.op (q := (.aload_n 0, 1)) (S' := (234, _, _, _, _)) (by decide +kernel) rfl ?_
    refine Ru.getR (pc' := 237) (i := 27) (ci := 10) (k := 7) (nn := 0) (z := 0) (v := .ref 41) (by decide +kernel) (by decide +kernel) (hp36 _) (by decide) rfl rfl ?_
    refine Ru.op (q := (.iload_n 1, 1)) (S' := (238, _, _, _, _)) (by decide +kernel) rfl ?_
    obtain ⟨g74, h⟩ := gd_some h
    refine Ru.ildI (pc' := 239) (i := v1) (z := (S.A 41 v1)) (by decide +kernel) (hp41 _) g74 (eI_of _) rfl ?_
    refine Ru.op (q := (.aload_n 0, 1)) (S' := (240, _, _, _, _)) (by decide +kernel) rfl ?_
    refine Ru.getR (pc' := 243) (i := 27) (ci := 10) (k := 7) (nn := 0) (z := 0) (v := .ref 41) (by decide +kernel) (by decide +kernel) (hp36 _) (by decide) rfl rfl ?_
    refine Ru.op (q := (.iload_n 3, 1)) (S' := (244, _, _, _, _)) (by decide +kernel) rfl ?_
    obtain ⟨g75, h⟩ := gd_some h
    refine Ru.ildI (pc' := 245) (i := v3) (z := (S.A 41 v3)) (by decide +kernel) (hp41 _) g75 (eI_of _) rfl ?_
    refine Ru.ar2 (i := .imul) (z := ((S.A 41 v1) * (S.A 41 v3))) (pc' := 246) (by decide +kernel) rfl (ar_mul _ _) rfl ?_
    obtain ⟨g76, h⟩ := gd_some h
    obtain ⟨g77, h⟩ := gd_some h
    by_cases b78 : v4 < ((S.A 41 v1) * (S.A 41 v3))
    · replace h := if_t b78 h
      refine Ru.br2 (k := .ge) (off := 88) (bb := false) (tg := 249) (by decide +kernel) (by decide +kernel) (ci_ge0 g76 g77 b78) rfl ?_
      refine Ru.op (q := (.aload_n 0, 1)) (S' := (250, _, _, _, _)) (by decide +kernel) rfl ?_
      refine Ru.getR (pc' := 253) (i := 33) (ci := 10) (k := 11) (nn := 0) (z := 0) (v := .ref 43) (by decide +kernel) (by decide +kernel) (hp36 _) (by decide) rfl rfl ?_
      refine Ru.op (q := (.iload_n 3, 1)) (S' := (254, _, _, _, _)) (by decide +kernel) rfl ?_
      obtain ⟨g79, h⟩ := gd_some h
      refine Ru.ildI (pc' := 255) (i := v3) (z := (S.A 43 v3)) (by decide +kernel) (hp43 _) g79 (eI_of _) rfl ?_
      refine Ru.kI (q := (.iconst 1, 1)) (c := 1) (pc' := 256) (by decide +kernel) rfl (by decide) rfl ?_
      by_cases b80 : (S.A 43 v3) = 1
      · replace h := if_t b80 h
        refine Ru.br2 (k := .ne) (off := 78) (bb := false) (tg := 259) (by decide +kernel) (by decide +kernel) (ci_ne0 (inR_to _) (by decide) b80) rfl ?_
        refine Ru.op (q := (.aload_n 0, 1)) (S' := (260, _, _, _, _)) (by decide +kernel) rfl ?_
        obtain ⟨o81, e82, h⟩ := ob_some h
        refine Ru.vcallI (pc' := 263) (st' := [vI o81]) (i := 330) (j2 := 139) (ci := 10) (k := 0) (z := 0) (as := []) (by decide +kernel) (by decide +kernel) rfl rfl (hp36 _) (by decide) ⟨(Nat.le_of_ble_eq_true rfl), (by show 19 + 1 ≤ 368; exact Nat.le_of_ble_eq_true rfl), Nat.le_of_ble_eq_true rfl, Nat.le_of_ble_eq_true rfl⟩ ((g139_ok e82).up (Nat.le_of_ble_eq_true rfl) (Nat.le_of_ble_eq_true rfl)) rfl rfl ?_
        obtain ⟨g83, h⟩ := gd_some h
        by_cases b84 : o81 = 0
        · replace h := if_t b84 h
          refine Ru.br (k := .ne) (off := 71) (bb := false) (tg := 266) (by decide +kernel) (by decide +kernel) (cz (ci_ne0 g83 (by decide) b84)) rfl ?_
          refine Ru.op (q := (.aload_n 0, 1)) (S' := (267, _, _, _, _)) (by decide +kernel) rfl ?_
          refine Ru.op (q := (.iload_n 1, 1)) (S' := (268, _, _, _, _)) (by decide +kernel) rfl ?_
          refine Ru.op (q := (.iload 4, 2)) (S' := (270, _, _, _, _)) (by decide +kernel) rfl ?_
          refine Ru.op (q := (.aload_n 0, 1)) (S' := (271, _, _, _, _)) (by decide +kernel) rfl ?_
          refine Ru.getR (pc' := 274) (i := 27) (ci := 10) (k := 7) (nn := 0) (z := 0) (v := .ref 41) (by decide +kernel) (by decide +kernel) (hp36 _) (by decide) rfl rfl ?_
          refine Ru.op (q := (.iload_n 3, 1)) (S' := (275, _, _, _, _)) (by decide +kernel) rfl ?_
          refine Ru.ildI (pc' := 276) (i := v3) (z := (S.A 41 v3)) (by decide +kernel) (hp41 _) g75 (eI_of _) rfl ?_
          obtain ⟨g85, h⟩ := gd_some h
          refine Ru.ar2 (i := .idiv) (z := (v4 / (S.A 41 v3))) (pc' := 277) (by decide +kernel) rfl (ar_div g85) rfl ?_
          refine Ru.op (q := (.iload_n 3, 1)) (S' := (278, _, _, _, _)) (by decide +kernel) rfl ?_
          refine Ru.op (q := (.iload 4, 2)) (S' := (280, _, _, _, _)) (by decide +kernel) rfl ?_
          refine Ru.op (q := (.aload_n 0, 1)) (S' := (281, _, _, _, _)) (by decide +kernel) rfl ?_
          refine Ru.getR (pc' := 284) (i := 27) (ci := 10) (k := 7) (nn := 0) (z := 0) (v := .ref 41) (by decide +kernel) (by decide +kernel) (hp36 _) (by decide) rfl rfl ?_
          refine Ru.op (q := (.iload_n 3, 1)) (S' := (285, _, _, _, _)) (by decide +kernel) rfl ?_
          refine Ru.ildI (pc' := 286) (i := v3) (z := (S.A 41 v3)) (by decide +kernel) (hp41 _) g75 (eI_of _) rfl ?_
          refine Ru.ar2 (i := .irem) (z := (v4 % (S.A 41 v3))) (pc' := 287) (by decide +kernel) rfl (ar_rem g85) rfl ?_
          obtain ⟨o86, e87, h⟩ := ob_some h
          refine Ru.vcallI (pc' := 290) (st' := [vI o86.1]) (i := 337) (j2 := 146) (ci := 10) (k := 0) (z := 0) (as := [vI v1, vI (v4 / (S.A 41 v3)), vI v3, vI (v4 % (S.A 41 v3))]) (by decide +kernel) (by decide +kernel) rfl rfl (hp36 _) (by decide) ⟨(Nat.le_of_ble_eq_true rfl), (by show 19 + 5 ≤ 368; exact Nat.le_of_ble_eq_true rfl), Nat.le_of_ble_eq_true rfl, Nat.le_of_ble_eq_true rfl⟩ ((g146_ok e87).up (Nat.le_of_ble_eq_true rfl) (Nat.le_of_ble_eq_true rfl)) rfl rfl ?_
          obtain ⟨g88, h⟩ := gd_some h
          by_cases b89 : o86.1 = 0
          · replace h := if_t b89 h
            refine Ru.br (k := .eq) (off := 35) (bb := true) (tg := 325) (by decide +kernel) (by decide +kernel) (cz (ci_eq1 g88 (by decide) b89)) rfl ?_
            refine Ru.kI (q := (.iconst 0, 1)) (c := 0) (pc' := 326) (by decide +kernel) rfl (by decide) rfl ?_
            refine Ru.op (q := (.istore 5, 2)) (S' := (328, [some (.ref 36), some (vI v1), d2, some (vI v3), some (vI v4), some (vI 0)], [], _, _)) (by decide +kernel) rfl ?_
            refine Ru.inc (k := 4) (n := 1) (x := v4) (z := (v4 + 1)) (xs' := [some (.ref 36), some (vI v1), d2, some (vI v3), some (vI (v4 + 1)), some (vI 0)]) (pc' := 331) (by decide +kernel) rfl rfl rfl rfl ?_
            refine Ru.op (q := (.goto (-100), 3)) (S' := (231, _, _, _, _)) (by decide +kernel) rfl ?_
            exact ih _ _ _ _ ⟨hdd.1, rfl, trivial⟩ _ h r hk
          · replace h := if_f b89 h
            refine Ru.br (k := .eq) (off := 35) (bb := false) (tg := 293) (by decide +kernel) (by decide +kernel) (cz (ci_eq0 g88 (by decide) b89)) rfl ?_
            refine Ru.op (q := (.aload_n 0, 1)) (S' := (294, _, _, _, _)) (by decide +kernel) rfl ?_
            refine Ru.kI (q := (.iconst 2, 1)) (c := 2) (pc' := 295) (by decide +kernel) rfl (by decide) rfl ?_
            refine Ru.op (q := (.iload_n 1, 1)) (S' := (296, _, _, _, _)) (by decide +kernel) rfl ?_
            refine Ru.op (q := (.iload 4, 2)) (S' := (298, _, _, _, _)) (by decide +kernel) rfl ?_
            refine Ru.op (q := (.aload_n 0, 1)) (S' := (299, _, _, _, _)) (by decide +kernel) rfl ?_
            refine Ru.getR (pc' := 302) (i := 27) (ci := 10) (k := 7) (nn := 0) (z := 0) (v := .ref 41) (by decide +kernel) (by decide +kernel) (hp36 _) (by decide) rfl rfl ?_
            refine Ru.op (q := (.iload_n 3, 1)) (S' := (303, _, _, _, _)) (by decide +kernel) rfl ?_
            refine Ru.ildI (pc' := 304) (i := v3) (z := (o86.2.A 41 v3)) (by decide +kernel) (hp41 _) g75 (eI_of _) rfl ?_
            obtain ⟨g90, h⟩ := gd_some h
            refine Ru.ar2 (i := .idiv) (z := (v4 / (o86.2.A 41 v3))) (pc' := 305) (by decide +kernel) rfl (ar_div g90) rfl ?_
            refine Ru.op (q := (.iload_n 3, 1)) (S' := (306, _, _, _, _)) (by decide +kernel) rfl ?_
            refine Ru.op (q := (.iload 4, 2)) (S' := (308, _, _, _, _)) (by decide +kernel) rfl ?_
            refine Ru.op (q := (.aload_n 0, 1)) (S' := (309, _, _, _, _)) (by decide +kernel) rfl ?_
            refine Ru.getR (pc' := 312) (i := 27) (ci := 10) (k := 7) (nn := 0) (z := 0) (v := .ref 41) (by decide +kernel) (by decide +kernel) (hp36 _) (by decide) rfl rfl ?_
            refine Ru.op (q := (.iload_n 3, 1)) (S' := (313, _, _, _, _)) (by decide +kernel) rfl ?_
            refine Ru.ildI (pc' := 314) (i := v3) (z := (o86.2.A 41 v3)) (by decide +kernel) (hp41 _) g75 (eI_of _) rfl ?_
            refine Ru.ar2 (i := .irem) (z := (v4 % (o86.2.A 41 v3))) (pc' := 315) (by decide +kernel) rfl (ar_rem g90) rfl ?_
            obtain ⟨o91, e92, h⟩ := ob_some h
            refine Ru.vcallI (pc' := 318) (st' := [vI o91.1]) (i := 301) (j2 := 118) (ci := 10) (k := 0) (z := 0) (as := [vI 2, vI v1, vI (v4 / (o86.2.A 41 v3)), vI v3, vI (v4 % (o86.2.A 41 v3))]) (by decide +kernel) (by decide +kernel) rfl rfl (hp36 _) (by decide) ⟨(Nat.le_of_ble_eq_true rfl), (by show 19 + 6 ≤ 368; exact Nat.le_of_ble_eq_true rfl), Nat.le_of_ble_eq_true rfl, Nat.le_of_ble_eq_true rfl⟩ ((g118_ok e92).up (Nat.le_of_ble_eq_true rfl) (Nat.le_of_ble_eq_true rfl)) rfl rfl ?_
            obtain ⟨g93, h⟩ := gd_some h
            by_cases b94 : o91.1 = 0
            · replace h := if_t b94 h
              refine Ru.br (k := .eq) (off := 7) (bb := true) (tg := 325) (by decide +kernel) (by decide +kernel) (cz (ci_eq1 g93 (by decide) b94)) rfl ?_
              refine Ru.kI (q := (.iconst 0, 1)) (c := 0) (pc' := 326) (by decide +kernel) rfl (by decide) rfl ?_
              refine Ru.op (q := (.istore 5, 2)) (S' := (328, [some (.ref 36), some (vI v1), d2, some (vI v3), some (vI v4), some (vI 0)], [], _, _)) (by decide +kernel) rfl ?_
              refine Ru.inc (k := 4) (n := 1) (x := v4) (z := (v4 + 1)) (xs' := [some (.ref 36), some (vI v1), d2, some (vI v3), some (vI (v4 + 1)), some (vI 0)]) (pc' := 331) (by decide +kernel) rfl rfl rfl rfl ?_
              refine Ru.op (q := (.goto (-100), 3)) (S' := (231, _, _, _, _)) (by decide +kernel) rfl ?_
              exact ih _ _ _ _ ⟨hdd.1, rfl, trivial⟩ _ h r hk
            · replace h := if_f b94 h
              refine Ru.br (k := .eq) (off := 7) (bb := false) (tg := 321) (by decide +kernel) (by decide +kernel) (cz (ci_eq0 g93 (by decide) b94)) rfl ?_
              refine Ru.kI (q := (.iconst 1, 1)) (c := 1) (pc' := 322) (by decide +kernel) rfl (by decide) rfl ?_
              refine Ru.op (q := (.goto 4, 3)) (S' := (326, _, _, _, _)) (by decide +kernel) rfl ?_
              refine Ru.op (q := (.istore 5, 2)) (S' := (328, [some (.ref 36), some (vI v1), d2, some (vI v3), some (vI v4), some (vI 1)], [], _, _)) (by decide +kernel) rfl ?_
              refine Ru.inc (k := 4) (n := 1) (x := v4) (z := (v4 + 1)) (xs' := [some (.ref 36), some (vI v1), d2, some (vI v3), some (vI (v4 + 1)), some (vI 1)]) (pc' := 331) (by decide +kernel) rfl rfl rfl rfl ?_
              refine Ru.op (q := (.goto (-100), 3)) (S' := (231, _, _, _, _)) (by decide +kernel) rfl ?_
              exact ih _ _ _ _ ⟨hdd.1, rfl, trivial⟩ _ h r hk
        · replace h := if_f b84 h
          refine Ru.br (k := .ne) (off := 71) (bb := true) (tg := 334) (by decide +kernel) (by decide +kernel) (cz (ci_ne1 g83 (by decide) b84)) rfl ?_
          cases h
          exact hk _ _ _ ⟨hdd.1, rfl, hdd.2.1, trivial⟩
      · replace h := if_f b80 h
        refine Ru.br2 (k := .ne) (off := 78) (bb := true) (tg := 334) (by decide +kernel) (by decide +kernel) (ci_ne1 (inR_to _) (by decide) b80) rfl ?_
        cases h
        exact hk _ _ _ ⟨hdd.1, rfl, hdd.2.1, trivial⟩
    · replace h := if_f b78 h
      refine Ru.br2 (k := .ge) (off := 88) (bb := true) (tg := 334) (by decide +kernel) (by decide +kernel) (ci_ge1 g76 g77 b78) rfl ?_
      cases h
      exact hk _ _ _ ⟨hdd.1, rfl, hdd.2.1, trivial⟩
set_option maxRecDepth 100000 in
set_option maxHeartbeats 4000000 in
theorem g137L213_ok {v1 : Int} : ∀ (n : Nat) (v3 : Int) (S : St) (d2 d4 d5 : Option Value) (_ : DD [d2, d4, d5]) (out : St), g137L213 v1 n v3 S = some out → ∀ r, (∀ (e0 e2 e3 e4 e5 : Option Value), DD [e0, e2, e3, e4, e5] → Ru none 17 368 137 (340, [e0, some (vI v1), e2, e3, e4, e5], [], out.ns, Hp out) r) → Ru none 17 368 137 (213, [some (.ref 36), some (vI v1), d2, some (vI v3), d4, d5], [], S.ns, Hp S) r := by
  intro n
  induction n with
  | zero => intro v3 S d2 d4 d5 hdd out h; cases h
  | succ n ih =>
    intro v3 S d2 d4 d5 hdd out h r hk
    unfold g137L213 at h
    refine Ru.op (q := (.iload_n 3, 1)) (S' := (214, _, _, _, _)) (by decide +kernel) rfl ?_
    refine Ru.op (q := (.aload_n 0, 1)) (S' := (215, _, _, _, _)) (by decide +kernel) rfl ?_
    refine Ru.getI (pc' := 218) (i := 263) (ci := 10) (k := 9) (nn := 0) (z := 0) (x := (S.F 36 9)) (by decide +kernel) (by decide +kernel) (hp36 _) (by decide) rfl (eI_of _) rfl ?_
    obtain ⟨g68, h⟩ := gd_some h
    by_cases b69 : v3 < (S.F 36 9)
    · replace h := if_t b69 h
      refine Ru.br2 (k := .ge) (off := 122) (bb := false) (tg := 221) (by decide +kernel) (by decide +kernel) (ci_ge0 g68 (inR_to _) b69) rfl ?_
      refine Ru.op (q := (.aload_n 0, 1)) (S' := (222, _, _, _, _)) (by decide +kernel) rfl ?_
      obtain ⟨o70, e71, h⟩ := ob_some h
      refine Ru.vcallI (pc' := 225) (st' := [vI o70]) (i := 330) (j2 := 139) (ci := 10) (k := 0) (z := 0) (as := []) (by decide +kernel) (by decide +kernel) rfl rfl (hp36 _) (by decide) ⟨(Nat.le_of_ble_eq_true rfl), (by show 19 + 1 ≤ 368; exact Nat.le_of_ble_eq_true rfl), Nat.le_of_ble_eq_true rfl, Nat.le_of_ble_eq_true rfl⟩ ((g139_ok e71).up (Nat.le_of_ble_eq_true rfl) (Nat.le_of_ble_eq_true rfl)) rfl rfl ?_
      obtain ⟨g72, h⟩ := gd_some h
      by_cases b73 : o70 = 0
      · replace h := if_t b73 h
        refine Ru.br (k := .ne) (off := 115) (bb := false) (tg := 228) (by decide +kernel) (by decide +kernel) (cz (ci_ne0 g72 (by decide) b73)) rfl ?_
        refine Ru.kI (q := (.iconst 0, 1)) (c := 0) (pc' := 229) (by decide +kernel) rfl (by decide) rfl ?_
        refine Ru.op (q := (.istore 4, 2)) (S' := (231, [some (.ref 36), some (vI v1), d2, some (vI v3), some (vI 0), d5], [], _, _)) (by decide +kernel) rfl ?_
        obtain ⟨o95, e99, h⟩ := ob_some h
        refine g137L231_ok FU _ _ _ _ ⟨hdd.1, hdd.2.2.1, trivial⟩ _ e99 _ ?_
        intro d96 d97 d98 hd100
        refine Ru.inc (k := 3) (n := 1) (x := v3) (z := (v3 + 1)) (xs' := [some (.ref 36), some (vI v1), d96, some (vI (v3 + 1)), d97, d98]) (pc' := 337) (by decide +kernel) rfl rfl (mn_st1_D (Nat.le_of_ble_eq_true rfl) hd100.1 rfl) rfl ?_
        refine Ru.op (q := (.goto (-124), 3)) (S' := (213, _, _, _, _)) (by decide +kernel) rfl ?_
        exact ih _ _ _ _ _ ⟨hd100.1, hd100.2.1, hd100.2.2.1, trivial⟩ _ h r hk
      · replace h := if_f b73 h
        refine Ru.br (k := .ne) (off := 115) (bb := true) (tg := 340) (by decide +kernel) (by decide +kernel) (cz (ci_ne1 g72 (by decide) b73)) rfl ?_
        cases h
        exact hk _ _ _ _ _ ⟨rfl, hdd.1, rfl, hdd.2.1, hdd.2.2.1, trivial⟩
    · replace h := if_f b69 h
      refine Ru.br2 (k := .ge) (off := 122) (bb := true) (tg := 340) (by decide +kernel) (by decide +kernel) (ci_ge1 g68 (inR_to _) b69) rfl ?_
      cases h
      exact hk _ _ _ _ _ ⟨rfl, hdd.1, rfl, hdd.2.1, hdd.2.2.1, trivial⟩
set_option maxRecDepth 100000 in
set_option maxHeartbeats 4000000 in
theorem g137_ok {S : St} {o : Int × St} (h : g137 S  = some o) : Ru none 17 368 137 (0, mn_pad (mn_ent [.ref 36]) 6, [], S.ns, Hp S) ((0, some (vI o.1)), o.2.ns, Hp o.2) := by
  unfold g137 at h
  show Ru none 17 368 137 (0, [some (.ref 36), none, none, none, none, none], [], S.ns, Hp S) _
  refine Ru.op (q := (.aload_n 0, 1)) (S' := (1, _, _, _, _)) (by decide +kernel) rfl ?_
  obtain ⟨o1, e2, h⟩ := ob_some h
  refine Ru.vcallI (pc' := 4) (st' := [vI o1]) (i := 327) (j2 := 138) (ci := 10) (k := 0) (z := 0) (as := []) (by decide +kernel) (by decide +kernel) rfl rfl (hp36 _) (by decide) ⟨(Nat.le_of_ble_eq_true rfl), (by show 19 + 5 ≤ 368; exact Nat.le_of_ble_eq_true rfl), Nat.le_of_ble_eq_true rfl, Nat.le_of_ble_eq_true rfl⟩ ((g138_ok e2).up (Nat.le_of_ble_eq_true rfl) (Nat.le_of_ble_eq_true rfl)) rfl rfl ?_
  refine Ru.op (q := (.istore_n 1, 1)) (S' := (5, [some (.ref 36), some (vI o1), none, none, none, none], [], _, _)) (by decide +kernel) rfl ?_
  refine Ru.op (q := (.aload_n 0, 1)) (S' := (6, _, _, _, _)) (by decide +kernel) rfl ?_
  refine Ru.op (q := (.dup, 1)) (S' := (7, _, _, _, _)) (by decide +kernel) rfl ?_
  refine Ru.getI (pc' := 10) (i := 324) (ci := 10) (k := 16) (nn := 0) (z := 0) (x := (S.F 36 16)) (by decide +kernel) (by decide +kernel) (hp36 _) (by decide) rfl (eI_of _) rfl ?_
  refine Ru.kI (q := (.iconst 1, 1)) (c := 1) (pc' := 11) (by decide +kernel) rfl (by decide) rfl ?_
  refine Ru.ar2 (i := .iadd) (z := ((S.F 36 16) + 1)) (pc' := 12) (by decide +kernel) rfl (ar_add _ _) rfl ?_
  refine Ru.putH (pc' := 15) (i := 324) (ci := 10) (k := 16) (nn := 0) (z := 0) (by decide +kernel) (by decide +kernel) (hp36 _) (by decide) (Nat.le_of_ble_eq_true rfl) rfl (by decide +kernel) (pf_36_16 _ _) rfl ?_
  refine Ru.kI (q := (.iconst 0, 1)) (c := 0) (pc' := 16) (by decide +kernel) rfl (by decide) rfl ?_
  refine Ru.op (q := (.istore_n 2, 1)) (S' := (17, [some (.ref 36), some (vI o1), some (vI 0), none, none, none], [], _, _)) (by decide +kernel) rfl ?_
  refine Ru.kI (q := (.iconst 0, 1)) (c := 0) (pc' := 18) (by decide +kernel) rfl (by decide) rfl ?_
  refine Ru.op (q := (.istore_n 3, 1)) (S' := (19, [some (.ref 36), some (vI o1), some (vI 0), some (vI 0), none, none], [], _, _)) (by decide +kernel) rfl ?_
  obtain ⟨o13, e17, h⟩ := ob_some h
  refine g137L19_ok FU _ _ _ _ _ ⟨rfl, rfl, trivial⟩ _ e17 _ ?_
  intro d14 d15 d16 hd18
  refine Ru.op (q := (.iload_n 2, 1)) (S' := (63, _, _, _, _)) (by decide +kernel) rfl ?_
  obtain ⟨g19, h⟩ := gd_some h
  by_cases b20 : o13.1 = 0
  · replace h := if_t b20 h
    refine Ru.br (k := .eq) (off := 12) (bb := true) (tg := 75) (by decide +kernel) (by decide +kernel) (cz (ci_eq1 g19 (by decide) b20)) rfl ?_
    refine Ru.kI (q := (.iconst 0, 1)) (c := 0) (pc' := 76) (by decide +kernel) rfl (by decide) rfl ?_
    refine Ru.op (q := (.istore_n 3, 1)) (S' := (77, [some (.ref 36), some (vI o1), some (vI o13.1), some (vI 0), d15, d16], [], _, _)) (by decide +kernel) rfl ?_
    obtain ⟨o29, e34, h⟩ := ob_some h
    refine g137L77_ok FU _ _ _ _ _ ⟨rfl, hd18.2.1, hd18.2.2.1, trivial⟩ _ e34 _ ?_
    intro d30 d31 d32 d33 hd35
    refine Ru.op (q := (.aload_n 0, 1)) (S' := (127, _, _, _, _)) (by decide +kernel) rfl ?_
    refine Ru.getR (pc' := 130) (i := 33) (ci := 10) (k := 11) (nn := 0) (z := 0) (v := .ref 43) (by decide +kernel) (by decide +kernel) (hp36 _) (by decide) rfl rfl ?_
    refine Ru.op (q := (.iload_n 1, 1)) (S' := (131, _, _, _, _)) (by decide +kernel) rfl ?_
    refine Ru.kI (q := (.iconst 1, 1)) (c := 1) (pc' := 132) (by decide +kernel) rfl (by decide) rfl ?_
    obtain ⟨g36, h⟩ := gd_some h
    refine Ru.istI (pc' := 133) (i := o1) (x := 1) (by decide +kernel) (hp43 _) g36 (ps_43 _ _ _) rfl ?_
    refine Ru.kI (q := (.iconst 0, 1)) (c := 0) (pc' := 134) (by decide +kernel) rfl (by decide) rfl ?_
    refine Ru.op (q := (.istore_n 3, 1)) (S' := (135, [some (.ref 36), some (vI o1), d30, some (vI 0), d32, d33], [], _, _)) (by decide +kernel) (st_in (mn_st1_D (Nat.le_of_ble_eq_true rfl) hd35.1 rfl)) ?_
    obtain ⟨o61, e66, h⟩ := ob_some h
    refine g137L135_ok FU _ _ _ _ _ ⟨hd35.1, hd35.2.2.1, hd35.2.2.2.1, trivial⟩ _ e66 _ ?_
    intro d62 d63 d64 d65 hd67
    refine Ru.kI (q := (.iconst 0, 1)) (c := 0) (pc' := 212) (by decide +kernel) rfl (by decide) rfl ?_
    refine Ru.op (q := (.istore_n 3, 1)) (S' := (213, [some (.ref 36), some (vI o1), d62, some (vI 0), d64, d65], [], _, _)) (by decide +kernel) (st_in (mn_st1_D (Nat.le_of_ble_eq_true rfl) hd67.1 rfl)) ?_
    obtain ⟨o101, e107, h⟩ := ob_some h
    refine g137L213_ok FU _ _ _ _ _ ⟨hd67.1, hd67.2.2.1, hd67.2.2.2.1, trivial⟩ _ e107 _ ?_
    intro d102 d103 d104 d105 d106 hd108
    refine Ru.op (q := (.iload_n 1, 1)) (S' := (341, _, _, _, _)) (by decide +kernel) rfl ?_
    cases h
    exact Ru.iret (by decide +kernel) rfl rfl
  · replace h := if_f b20 h
    refine Ru.br (k := .eq) (off := 12) (bb := false) (tg := 66) (by decide +kernel) (by decide +kernel) (cz (ci_eq0 g19 (by decide) b20)) rfl ?_
    refine Ru.op (q := (.aload_n 0, 1)) (S' := (67, _, _, _, _)) (by decide +kernel) rfl ?_
    refine Ru.getR (pc' := 70) (i := 33) (ci := 10) (k := 11) (nn := 0) (z := 0) (v := .ref 43) (by decide +kernel) (by decide +kernel) (hp36 _) (by decide) rfl rfl ?_
    refine Ru.op (q := (.iload_n 1, 1)) (S' := (71, _, _, _, _)) (by decide +kernel) rfl ?_
    refine Ru.kI (q := (.iconst 2, 1)) (c := 2) (pc' := 72) (by decide +kernel) rfl (by decide) rfl ?_
    obtain ⟨g109, h⟩ := gd_some h
    refine Ru.istI (pc' := 73) (i := o1) (x := 2) (by decide +kernel) (hp43 _) g109 (ps_43 _ _ _) rfl ?_
    refine Ru.op (q := (.iload_n 1, 1)) (S' := (74, _, _, _, _)) (by decide +kernel) rfl ?_
    cases h
    exact Ru.iret (by decide +kernel) rfl rfl
set_option maxRecDepth 100000 in
set_option maxHeartbeats 4000000 in
theorem g136_ok {S : St} {o : Int × St} (h : g136 S  = some o) : Ru none 18 393 136 (0, mn_pad (mn_ent [.ref 36]) 1, [], S.ns, Hp S) ((0, some (vI o.1)), o.2.ns, Hp o.2) := by
  unfold g136 at h
  show Ru none 18 393 136 (0, [some (.ref 36)], [], S.ns, Hp S) _
  refine Ru.op (q := (.aload_n 0, 1)) (S' := (1, _, _, _, _)) (by decide +kernel) rfl ?_
  refine Ru.op (q := (.aload_n 0, 1)) (S' := (2, _, _, _, _)) (by decide +kernel) rfl ?_
  obtain ⟨o1, e2, h⟩ := ob_some h
  refine Ru.vcallI (pc' := 5) (st' := [vI o1, .ref 36]) (i := 308) (j2 := 134) (ci := 10) (k := 0) (z := 0) (as := []) (by decide +kernel) (by decide +kernel) rfl rfl (hp36 _) (by decide) ⟨(Nat.le_of_ble_eq_true rfl), (by show 19 + 1 ≤ 393; exact Nat.le_of_ble_eq_true rfl), Nat.le_of_ble_eq_true rfl, Nat.le_of_ble_eq_true rfl⟩ ((g134_ok e2).up (Nat.le_of_ble_eq_true rfl) (Nat.le_of_ble_eq_true rfl)) rfl rfl ?_
  obtain ⟨g3, h⟩ := gd_some h
  by_cases b4 : o1 = 0
  · replace h := if_t b4 h
    refine Ru.br (k := .ne) (off := 7) (bb := false) (tg := 8) (by decide +kernel) (by decide +kernel) (cz (ci_ne0 g3 (by decide) b4)) rfl ?_
    refine Ru.kI (q := (.iconst 0, 1)) (c := 0) (pc' := 9) (by decide +kernel) rfl (by decide) rfl ?_
    refine Ru.op (q := (.goto 4, 3)) (S' := (13, _, _, _, _)) (by decide +kernel) rfl ?_
    refine Ru.putH (pc' := 16) (i := 120) (ci := 10) (k := 0) (nn := 0) (z := 0) (by decide +kernel) (by decide +kernel) (hp36 _) (by decide) (Nat.le_of_ble_eq_true rfl) rfl (by decide +kernel) (pf_36_0 _ _) rfl ?_
    refine Ru.op (q := (.aload_n 0, 1)) (S' := (17, _, _, _, _)) (by decide +kernel) rfl ?_
    refine Ru.getI (pc' := 20) (i := 120) (ci := 10) (k := 0) (nn := 0) (z := 0) (x := 0) (by decide +kernel) (by decide +kernel) (hp36 _) (by decide) rfl rfl rfl ?_
    refine Ru.br (k := .ne) (off := 10) (bb := false) (tg := 23) (by decide +kernel) (by decide +kernel) (by decide) rfl ?_
    refine Ru.op (q := (.aload_n 0, 1)) (S' := (24, _, _, _, _)) (by decide +kernel) rfl ?_
    obtain ⟨o5, e6, h⟩ := ob_some h
    refine Ru.vcallI (pc' := 27) (st' := [vI o5.1]) (i := 341) (j2 := 137) (ci := 10) (k := 0) (z := 0) (as := []) (by decide +kernel) (by decide +kernel) rfl rfl (hp36 _) (by decide) ⟨(Nat.le_of_ble_eq_true rfl), (by show 19 + 6 ≤ 393; exact Nat.le_of_ble_eq_true rfl), Nat.le_of_ble_eq_true rfl, Nat.le_of_ble_eq_true rfl⟩ ((g137_ok e6).up (Nat.le_of_ble_eq_true rfl) (Nat.le_of_ble_eq_true rfl)) rfl rfl ?_
    refine Ru.op (q := (.goto 4, 3)) (S' := (31, _, _, _, _)) (by decide +kernel) rfl ?_
    cases h
    exact Ru.iret (by decide +kernel) rfl rfl
  · replace h := if_f b4 h
    refine Ru.br (k := .ne) (off := 7) (bb := true) (tg := 12) (by decide +kernel) (by decide +kernel) (cz (ci_ne1 g3 (by decide) b4)) rfl ?_
    refine Ru.kI (q := (.iconst 1, 1)) (c := 1) (pc' := 13) (by decide +kernel) rfl (by decide) rfl ?_
    refine Ru.putH (pc' := 16) (i := 120) (ci := 10) (k := 0) (nn := 0) (z := 0) (by decide +kernel) (by decide +kernel) (hp36 _) (by decide) (Nat.le_of_ble_eq_true rfl) rfl (by decide +kernel) (pf_36_0 _ _) rfl ?_
    refine Ru.op (q := (.aload_n 0, 1)) (S' := (17, _, _, _, _)) (by decide +kernel) rfl ?_
    refine Ru.getI (pc' := 20) (i := 120) (ci := 10) (k := 0) (nn := 0) (z := 0) (x := 1) (by decide +kernel) (by decide +kernel) (hp36 _) (by decide) rfl rfl rfl ?_
    refine Ru.br (k := .ne) (off := 10) (bb := true) (tg := 30) (by decide +kernel) (by decide +kernel) (by decide) rfl ?_
    refine Ru.kI (q := (.iconst 0, 1)) (c := 0) (pc' := 31) (by decide +kernel) rfl (by decide) rfl ?_
    cases h
    exact Ru.iret (by decide +kernel) rfl rfl
set_option maxRecDepth 100000 in
set_option maxHeartbeats 4000000 in
theorem g147L21_ok {v1 : Int} : ∀ (n : Nat) (v2 : Int) (S : St) (d3 : Option Value) (_ : DD [d3]) (out : Int × St), g147L21 v1 n v2 S = some out → ∀ r, (∀ (e0 e1 e3 : Option Value), DD [e0, e1, e3] → Ru none 18 393 147 (60, [e0, e1, some (vI out.1), e3], [], out.2.ns, Hp out.2) r) → Ru none 18 393 147 (21, [some (.ref 36), some (vI v1), some (vI v2), d3], [], S.ns, Hp S) r := by
  intro n
  induction n with
  | zero => intro v2 S d3 hdd out h; cases h
  | succ n ih =>
    intro v2 S d3 hdd out h r hk
    unfold g147L21 at h
    refine Ru.op (q := (.aload_n 0, 1)) (S' := (22, _, _, _, _)) (by decide +kernel) rfl ?_
    refine Ru.getI (pc' := 25) (i := 120) (ci := 10) (k := 0) (nn := 0) (z := 0) (x := (S.F 36 0)) (by decide +kernel) (by decide +kernel) (hp36 _) (by decide) rfl (eI_of _) rfl ?_
    by_cases b3 : (S.F 36 0) = 0
    · replace h := if_t b3 h
      refine Ru.br (k := .ne) (off := 35) (bb := false) (tg := 28) (by decide +kernel) (by decide +kernel) (cz (ci_ne0 (inR_to _) (by decide) b3)) rfl ?_
      refine Ru.op (q := (.iload_n 2, 1)) (S' := (29, _, _, _, _)) (by decide +kernel) rfl ?_
      refine Ru.op (q := (.iload_n 1, 1)) (S' := (30, _, _, _, _)) (by decide +kernel) rfl ?_
      obtain ⟨g4, h⟩ := gd_some h
      obtain ⟨g5, h⟩ := gd_some h
      by_cases b6 : v2 < v1
      · replace h := if_t b6 h
        refine Ru.br2 (k := .ge) (off := 30) (bb := false) (tg := 33) (by decide +kernel) (by decide +kernel) (ci_ge0 g4 g5 b6) rfl ?_
        refine Ru.op (q := (.aload_n 0, 1)) (S' := (34, _, _, _, _)) (by decide +kernel) rfl ?_
        obtain ⟨o7, e8, h⟩ := ob_some h
        refine Ru.vcallI (pc' := 37) (st' := [vI o7]) (i := 308) (j2 := 134) (ci := 10) (k := 0) (z := 0) (as := []) (by decide +kernel) (by decide +kernel) rfl rfl (hp36 _) (by decide) ⟨(Nat.le_of_ble_eq_true rfl), (by show 19 + 1 ≤ 393; exact Nat.le_of_ble_eq_true rfl), Nat.le_of_ble_eq_true rfl, Nat.le_of_ble_eq_true rfl⟩ ((g134_ok e8).up (Nat.le_of_ble_eq_true rfl) (Nat.le_of_ble_eq_true rfl)) rfl rfl ?_
        obtain ⟨g9, h⟩ := gd_some h
        by_cases b10 : o7 = 0
        · replace h := if_t b10 h
          refine Ru.br (k := .ne) (off := 23) (bb := false) (tg := 40) (by decide +kernel) (by decide +kernel) (cz (ci_ne0 g9 (by decide) b10)) rfl ?_
          refine Ru.op (q := (.aload_n 0, 1)) (S' := (41, _, _, _, _)) (by decide +kernel) rfl ?_
          obtain ⟨o11, e12, h⟩ := ob_some h
          refine Ru.vcallI (pc' := 44) (st' := [vI o11.1]) (i := 341) (j2 := 137) (ci := 10) (k := 0) (z := 0) (as := []) (by decide +kernel) (by decide +kernel) rfl rfl (hp36 _) (by decide) ⟨(Nat.le_of_ble_eq_true rfl), (by show 19 + 6 ≤ 393; exact Nat.le_of_ble_eq_true rfl), Nat.le_of_ble_eq_true rfl, Nat.le_of_ble_eq_true rfl⟩ ((g137_ok e12).up (Nat.le_of_ble_eq_true rfl) (Nat.le_of_ble_eq_true rfl)) rfl rfl ?_
          refine Ru.op (q := (.istore_n 3, 1)) (S' := (45, [some (.ref 36), some (vI v1), some (vI v2), some (vI o11.1)], [], _, _)) (by decide +kernel) rfl ?_
          refine Ru.op (q := (.iload_n 3, 1)) (S' := (46, _, _, _, _)) (by decide +kernel) rfl ?_
          obtain ⟨g13, h⟩ := gd_some h
          by_cases b14 : o11.1 < 0
          · replace h := if_t b14 h
            refine Ru.br (k := .lt) (off := 9) (bb := true) (tg := 55) (by decide +kernel) (by decide +kernel) (cz (ci_lt1 g13 (by decide) b14)) rfl ?_
            refine Ru.op (q := (.iload_n 2, 1)) (S' := (56, _, _, _, _)) (by decide +kernel) rfl ?_
            refine Ru.op (q := (.istore_n 2, 1)) (S' := (57, [some (.ref 36), some (vI v1), some (vI v2), some (vI o11.1)], [], _, _)) (by decide +kernel) rfl ?_
            refine Ru.op (q := (.goto (-36), 3)) (S' := (21, _, _, _, _)) (by decide +kernel) rfl ?_
            exact ih _ _ _ ⟨rfl, trivial⟩ _ h r hk
          · replace h := if_f b14 h
            refine Ru.br (k := .lt) (off := 9) (bb := false) (tg := 49) (by decide +kernel) (by decide +kernel) (cz (ci_lt0 g13 (by decide) b14)) rfl ?_
            refine Ru.op (q := (.iload_n 2, 1)) (S' := (50, _, _, _, _)) (by decide +kernel) rfl ?_
            refine Ru.kI (q := (.iconst 1, 1)) (c := 1) (pc' := 51) (by decide +kernel) rfl (by decide) rfl ?_
            refine Ru.ar2 (i := .iadd) (z := (v2 + 1)) (pc' := 52) (by decide +kernel) rfl (ar_add _ _) rfl ?_
            refine Ru.op (q := (.goto 4, 3)) (S' := (56, _, _, _, _)) (by decide +kernel) rfl ?_
            refine Ru.op (q := (.istore_n 2, 1)) (S' := (57, [some (.ref 36), some (vI v1), some (vI (v2 + 1)), some (vI o11.1)], [], _, _)) (by decide +kernel) rfl ?_
            refine Ru.op (q := (.goto (-36), 3)) (S' := (21, _, _, _, _)) (by decide +kernel) rfl ?_
            exact ih _ _ _ ⟨rfl, trivial⟩ _ h r hk
        · replace h := if_f b10 h
          refine Ru.br (k := .ne) (off := 23) (bb := true) (tg := 60) (by decide +kernel) (by decide +kernel) (cz (ci_ne1 g9 (by decide) b10)) rfl ?_
          cases h
          exact hk _ _ _ ⟨rfl, rfl, hdd.1, trivial⟩
      · replace h := if_f b6 h
        refine Ru.br2 (k := .ge) (off := 30) (bb := true) (tg := 60) (by decide +kernel) (by decide +kernel) (ci_ge1 g4 g5 b6) rfl ?_
        cases h
        exact hk _ _ _ ⟨rfl, rfl, hdd.1, trivial⟩
    · replace h := if_f b3 h
      refine Ru.br (k := .ne) (off := 35) (bb := true) (tg := 60) (by decide +kernel) (by decide +kernel) (cz (ci_ne1 (inR_to _) (by decide) b3)) rfl ?_
      cases h
      exact hk _ _ _ ⟨rfl, rfl, hdd.1, trivial⟩
set_option maxRecDepth 100000 in
set_option maxHeartbeats 4000000 in
theorem g147_ok {S : St} {v1 : Int} {o : Int × St} (h : g147 S v1 = some o) : Ru none 18 393 147 (0, mn_pad (mn_ent [.ref 36, vI v1]) 4, [], S.ns, Hp S) ((0, some (vI o.1)), o.2.ns, Hp o.2) := by
  unfold g147 at h
  show Ru none 18 393 147 (0, [some (.ref 36), some (vI v1), none, none], [], S.ns, Hp S) _
  refine Ru.op (q := (.aload_n 0, 1)) (S' := (1, _, _, _, _)) (by decide +kernel) rfl ?_
  refine Ru.op (q := (.iload_n 1, 1)) (S' := (2, _, _, _, _)) (by decide +kernel) rfl ?_
  obtain ⟨g1, h⟩ := gd_some h
  by_cases b2 : v1 < 0
  · replace h := if_t b2 h
    refine Ru.br (k := .lt) (off := 9) (bb := true) (tg := 11) (by decide +kernel) (by decide +kernel) (cz (ci_lt1 g1 (by decide) b2)) rfl ?_
    refine Ru.kI (q := (.iconst 1, 1)) (c := 1) (pc' := 12) (by decide +kernel) rfl (by decide) rfl ?_
    refine Ru.op (q := (.goto 4, 3)) (S' := (16, _, _, _, _)) (by decide +kernel) rfl ?_
    refine Ru.putH (pc' := 19) (i := 120) (ci := 10) (k := 0) (nn := 0) (z := 0) (by decide +kernel) (by decide +kernel) (hp36 _) (by decide) (Nat.le_of_ble_eq_true rfl) rfl (by decide +kernel) (pf_36_0 _ _) rfl ?_
    refine Ru.kI (q := (.iconst 0, 1)) (c := 0) (pc' := 20) (by decide +kernel) rfl (by decide) rfl ?_
    refine Ru.op (q := (.istore_n 2, 1)) (S' := (21, [some (.ref 36), some (vI v1), some (vI 0), none], [], _, _)) (by decide +kernel) rfl ?_
    obtain ⟨o15, e19, h⟩ := ob_some h
    refine g147L21_ok FU _ _ _ ⟨rfl, trivial⟩ _ e19 _ ?_
    intro d16 d17 d18 hd20
    refine Ru.op (q := (.iload_n 2, 1)) (S' := (61, _, _, _, _)) (by decide +kernel) rfl ?_
    cases h
    exact Ru.iret (by decide +kernel) rfl rfl
  · replace h := if_f b2 h
    refine Ru.br (k := .lt) (off := 9) (bb := false) (tg := 5) (by decide +kernel) (by decide +kernel) (cz (ci_lt0 g1 (by decide) b2)) rfl ?_
    refine Ru.op (q := (.iload_n 1, 1)) (S' := (6, _, _, _, _)) (by decide +kernel) rfl ?_
    refine Ru.kI (q := (.bipush 50, 2)) (c := 50) (pc' := 8) (by decide +kernel) rfl (by decide) rfl ?_
    by_cases b21 : 50 < v1
    · replace h := if_t b21 h
      refine Ru.br2 (k := .le) (off := 7) (bb := false) (tg := 11) (by decide +kernel) (by decide +kernel) (ci_le0 g1 (by decide) b21) rfl ?_
      refine Ru.kI (q := (.iconst 1, 1)) (c := 1) (pc' := 12) (by decide +kernel) rfl (by decide) rfl ?_
      refine Ru.op (q := (.goto 4, 3)) (S' := (16, _, _, _, _)) (by decide +kernel) rfl ?_
      refine Ru.putH (pc' := 19) (i := 120) (ci := 10) (k := 0) (nn := 0) (z := 0) (by decide +kernel) (by decide +kernel) (hp36 _) (by decide) (Nat.le_of_ble_eq_true rfl) rfl (by decide +kernel) (pf_36_0 _ _) rfl ?_
      refine Ru.kI (q := (.iconst 0, 1)) (c := 0) (pc' := 20) (by decide +kernel) rfl (by decide) rfl ?_
      refine Ru.op (q := (.istore_n 2, 1)) (S' := (21, [some (.ref 36), some (vI v1), some (vI 0), none], [], _, _)) (by decide +kernel) rfl ?_
      obtain ⟨o22, e26, h⟩ := ob_some h
      refine g147L21_ok FU _ _ _ ⟨rfl, trivial⟩ _ e26 _ ?_
      intro d23 d24 d25 hd27
      refine Ru.op (q := (.iload_n 2, 1)) (S' := (61, _, _, _, _)) (by decide +kernel) rfl ?_
      cases h
      exact Ru.iret (by decide +kernel) rfl rfl
    · replace h := if_f b21 h
      refine Ru.br2 (k := .le) (off := 7) (bb := true) (tg := 15) (by decide +kernel) (by decide +kernel) (ci_le1 g1 (by decide) b21) rfl ?_
      refine Ru.kI (q := (.iconst 0, 1)) (c := 0) (pc' := 16) (by decide +kernel) rfl (by decide) rfl ?_
      refine Ru.putH (pc' := 19) (i := 120) (ci := 10) (k := 0) (nn := 0) (z := 0) (by decide +kernel) (by decide +kernel) (hp36 _) (by decide) (Nat.le_of_ble_eq_true rfl) rfl (by decide +kernel) (pf_36_0 _ _) rfl ?_
      refine Ru.kI (q := (.iconst 0, 1)) (c := 0) (pc' := 20) (by decide +kernel) rfl (by decide) rfl ?_
      refine Ru.op (q := (.istore_n 2, 1)) (S' := (21, [some (.ref 36), some (vI v1), some (vI 0), none], [], _, _)) (by decide +kernel) rfl ?_
      obtain ⟨o28, e32, h⟩ := ob_some h
      refine g147L21_ok FU _ _ _ ⟨rfl, trivial⟩ _ e32 _ ?_
      intro d29 d30 d31 hd33
      refine Ru.op (q := (.iload_n 2, 1)) (S' := (61, _, _, _, _)) (by decide +kernel) rfl ?_
      cases h
      exact Ru.iret (by decide +kernel) rfl rfl
set_option maxRecDepth 100000 in
set_option maxHeartbeats 4000000 in
theorem g149_ok {S : St} {v1 : Int} {o : St} (h : g149 S v1 = some o) : Ru none 10 200 149 (0, mn_pad (mn_ent [.ref 36, vI v1]) 2, [], S.ns, Hp S) ((0, none), o.ns, Hp o) := by
  unfold g149 at h
  show Ru none 10 200 149 (0, [some (.ref 36), some (vI v1)], [], S.ns, Hp S) _
  refine Ru.op (q := (.aload_n 0, 1)) (S' := (1, _, _, _, _)) (by decide +kernel) rfl ?_
  refine Ru.getR (pc' := 4) (i := 114) (ci := 10) (k := 57) (nn := 0) (z := 0) (v := .ref 69) (by decide +kernel) (by decide +kernel) (hp36 _) (by decide) rfl rfl ?_
  refine Ru.op (q := (.aload_n 0, 1)) (S' := (5, _, _, _, _)) (by decide +kernel) rfl ?_
  refine Ru.getI (pc' := 8) (i := 344) (ci := 10) (k := 56) (nn := 0) (z := 0) (x := (S.F 36 56)) (by decide +kernel) (by decide +kernel) (hp36 _) (by decide) rfl (eI_of _) rfl ?_
  refine Ru.op (q := (.iload_n 1, 1)) (S' := (9, _, _, _, _)) (by decide +kernel) rfl ?_
  obtain ⟨g1, h⟩ := gd_some h
  refine Ru.istI (pc' := 10) (i := (S.F 36 56)) (x := v1) (by decide +kernel) (hp69 _) g1 (ps_69 _ _ _) rfl ?_
  refine Ru.op (q := (.aload_n 0, 1)) (S' := (11, _, _, _, _)) (by decide +kernel) rfl ?_
  refine Ru.op (q := (.dup, 1)) (S' := (12, _, _, _, _)) (by decide +kernel) rfl ?_
  refine Ru.getI (pc' := 15) (i := 344) (ci := 10) (k := 56) (nn := 0) (z := 0) (x := (S.F 36 56)) (by decide +kernel) (by decide +kernel) (hp36 _) (by decide) rfl (eI_of _) rfl ?_
  refine Ru.kI (q := (.iconst 1, 1)) (c := 1) (pc' := 16) (by decide +kernel) rfl (by decide) rfl ?_
  refine Ru.ar2 (i := .iadd) (z := ((S.F 36 56) + 1)) (pc' := 17) (by decide +kernel) rfl (ar_add _ _) rfl ?_
  refine Ru.putH (pc' := 20) (i := 344) (ci := 10) (k := 56) (nn := 0) (z := 0) (by decide +kernel) (by decide +kernel) (hp36 _) (by decide) (Nat.le_of_ble_eq_true rfl) rfl (by decide +kernel) (pf_36_56 _ _) rfl ?_
  cases h
  exact Ru.end (q := (.return_, 1)) (by decide +kernel) rfl rfl
set_option maxRecDepth 100000 in
set_option maxHeartbeats 4000000 in
theorem g152_ok {S : St} {v1 : Int} {o : St} (h : g152 S v1 = some o) : Ru none 11 221 152 (0, mn_pad (mn_ent [.ref 36, vI v1]) 2, [], S.ns, Hp S) ((0, none), o.ns, Hp o) := by
  unfold g152 at h
  show Ru none 11 221 152 (0, [some (.ref 36), some (vI v1)], [], S.ns, Hp S) _
  refine Ru.op (q := (.iload_n 1, 1)) (S' := (1, _, _, _, _)) (by decide +kernel) rfl ?_
  refine Ru.kI (q := (.bipush 9, 2)) (c := 9) (pc' := 3) (by decide +kernel) rfl (by decide) rfl ?_
  obtain ⟨g1, h⟩ := gd_some h
  by_cases b2 : 9 < v1
  · replace h := if_t b2 h
    refine Ru.br2 (k := .le) (off := 14) (bb := false) (tg := 6) (by decide +kernel) (by decide +kernel) (ci_le0 g1 (by decide) b2) rfl ?_
    refine Ru.op (q := (.aload_n 0, 1)) (S' := (7, _, _, _, _)) (by decide +kernel) rfl ?_
    refine Ru.kI (q := (.bipush 48, 2)) (c := 48) (pc' := 9) (by decide +kernel) rfl (by decide) rfl ?_
    refine Ru.op (q := (.iload_n 1, 1)) (S' := (10, _, _, _, _)) (by decide +kernel) rfl ?_
    refine Ru.kI (q := (.bipush 10, 2)) (c := 10) (pc' := 12) (by decide +kernel) rfl (by decide) rfl ?_
    obtain ⟨g3, h⟩ := gd_some h
    refine Ru.ar2 (i := .idiv) (z := (v1 / 10)) (pc' := 13) (by decide +kernel) rfl (ar_div g3) rfl ?_
    refine Ru.ar2 (i := .iadd) (z := (48 + (v1 / 10))) (pc' := 14) (by decide +kernel) rfl (ar_add _ _) rfl ?_
    obtain ⟨o4, e5, h⟩ := ob_some h
    refine Ru.vcallI (pc' := 17) (st' := []) (i := 347) (j2 := 149) (ci := 10) (k := 0) (z := 0) (as := [vI (48 + (v1 / 10))]) (by decide +kernel) (by decide +kernel) rfl rfl (hp36 _) (by decide) ⟨(Nat.le_of_ble_eq_true rfl), (by show 19 + 2 ≤ 221; exact Nat.le_of_ble_eq_true rfl), Nat.le_of_ble_eq_true rfl, Nat.le_of_ble_eq_true rfl⟩ ((g149_ok e5).up (Nat.le_of_ble_eq_true rfl) (Nat.le_of_ble_eq_true rfl)) rfl rfl ?_
    refine Ru.op (q := (.aload_n 0, 1)) (S' := (18, _, _, _, _)) (by decide +kernel) rfl ?_
    refine Ru.kI (q := (.bipush 48, 2)) (c := 48) (pc' := 20) (by decide +kernel) rfl (by decide) rfl ?_
    refine Ru.op (q := (.iload_n 1, 1)) (S' := (21, _, _, _, _)) (by decide +kernel) rfl ?_
    refine Ru.kI (q := (.bipush 10, 2)) (c := 10) (pc' := 23) (by decide +kernel) rfl (by decide) rfl ?_
    refine Ru.ar2 (i := .irem) (z := (v1 % 10)) (pc' := 24) (by decide +kernel) rfl (ar_rem g3) rfl ?_
    refine Ru.ar2 (i := .iadd) (z := (48 + (v1 % 10))) (pc' := 25) (by decide +kernel) rfl (ar_add _ _) rfl ?_
    obtain ⟨o6, e7, h⟩ := ob_some h
    refine Ru.vcallI (pc' := 28) (st' := []) (i := 347) (j2 := 149) (ci := 10) (k := 0) (z := 0) (as := [vI (48 + (v1 % 10))]) (by decide +kernel) (by decide +kernel) rfl rfl (hp36 _) (by decide) ⟨(Nat.le_of_ble_eq_true rfl), (by show 19 + 2 ≤ 221; exact Nat.le_of_ble_eq_true rfl), Nat.le_of_ble_eq_true rfl, Nat.le_of_ble_eq_true rfl⟩ ((g149_ok e7).up (Nat.le_of_ble_eq_true rfl) (Nat.le_of_ble_eq_true rfl)) rfl rfl ?_
    cases h
    exact Ru.end (q := (.return_, 1)) (by decide +kernel) rfl rfl
  · replace h := if_f b2 h
    refine Ru.br2 (k := .le) (off := 14) (bb := true) (tg := 17) (by decide +kernel) (by decide +kernel) (ci_le1 g1 (by decide) b2) rfl ?_
    refine Ru.op (q := (.aload_n 0, 1)) (S' := (18, _, _, _, _)) (by decide +kernel) rfl ?_
    refine Ru.kI (q := (.bipush 48, 2)) (c := 48) (pc' := 20) (by decide +kernel) rfl (by decide) rfl ?_
    refine Ru.op (q := (.iload_n 1, 1)) (S' := (21, _, _, _, _)) (by decide +kernel) rfl ?_
    refine Ru.kI (q := (.bipush 10, 2)) (c := 10) (pc' := 23) (by decide +kernel) rfl (by decide) rfl ?_
    obtain ⟨g8, h⟩ := gd_some h
    refine Ru.ar2 (i := .irem) (z := (v1 % 10)) (pc' := 24) (by decide +kernel) rfl (ar_rem g8) rfl ?_
    refine Ru.ar2 (i := .iadd) (z := (48 + (v1 % 10))) (pc' := 25) (by decide +kernel) rfl (ar_add _ _) rfl ?_
    obtain ⟨o9, e10, h⟩ := ob_some h
    refine Ru.vcallI (pc' := 28) (st' := []) (i := 347) (j2 := 149) (ci := 10) (k := 0) (z := 0) (as := [vI (48 + (v1 % 10))]) (by decide +kernel) (by decide +kernel) rfl rfl (hp36 _) (by decide) ⟨(Nat.le_of_ble_eq_true rfl), (by show 19 + 2 ≤ 221; exact Nat.le_of_ble_eq_true rfl), Nat.le_of_ble_eq_true rfl, Nat.le_of_ble_eq_true rfl⟩ ((g149_ok e10).up (Nat.le_of_ble_eq_true rfl) (Nat.le_of_ble_eq_true rfl)) rfl rfl ?_
    cases h
    exact Ru.end (q := (.return_, 1)) (by decide +kernel) rfl rfl
set_option maxRecDepth 100000 in
set_option maxHeartbeats 4000000 in
theorem g151_ok {S : St} {v1 : Int} {o : St} (h : g151 S v1 = some o) : Ru none 12 242 151 (0, mn_pad (mn_ent [.ref 36, vI v1]) 3, [], S.ns, Hp S) ((0, none), o.ns, Hp o) := by
  unfold g151 at h
  show Ru none 12 242 151 (0, [some (.ref 36), some (vI v1), none], [], S.ns, Hp S) _
  refine Ru.op (q := (.iload_n 1, 1)) (S' := (1, _, _, _, _)) (by decide +kernel) rfl ?_
  obtain ⟨o1, e2, h⟩ := ob_some h
  refine Ru.callI (pc' := 4) (q := (.invokestatic 132, 3)) (j2 := 122) (as := [vI v1]) (st' := [vI o1]) (by decide +kernel) rfl rfl rfl rfl ⟨(Nat.le_of_ble_eq_true rfl), (by show 19 + 1 ≤ 242; exact Nat.le_of_ble_eq_true rfl), Nat.le_of_ble_eq_true rfl, Nat.le_of_ble_eq_true rfl⟩ ((g122_ok e2).up (Nat.le_of_ble_eq_true rfl) (Nat.le_of_ble_eq_true rfl)) rfl rfl ?_
  obtain ⟨g3, h⟩ := gd_some h
  by_cases b4 : o1 = 0
  · replace h := if_t b4 h
    refine Ru.br (k := .eq) (off := 26) (bb := true) (tg := 30) (by decide +kernel) (by decide +kernel) (cz (ci_eq1 g3 (by decide) b4)) rfl ?_
    refine Ru.op (q := (.iload_n 1, 1)) (S' := (31, _, _, _, _)) (by decide +kernel) rfl ?_
    refine Ru.kI (q := (.sipush 4096, 3)) (c := 4096) (pc' := 34) (by decide +kernel) rfl (by decide) rfl ?_
    refine Ru.ar2 (i := .isub) (z := (v1 - 4096)) (pc' := 35) (by decide +kernel) rfl (ar_sub _ _) rfl ?_
    refine Ru.kI (q := (.sipush 128, 3)) (c := 128) (pc' := 38) (by decide +kernel) rfl (by decide) rfl ?_
    obtain ⟨g5, h⟩ := gd_some h
    refine Ru.ar2 (i := .idiv) (z := ((v1 - 4096) / 128)) (pc' := 39) (by decide +kernel) rfl (ar_div g5) rfl ?_
    refine Ru.op (q := (.istore_n 2, 1)) (S' := (40, [some (.ref 36), some (vI v1), some (vI ((v1 - 4096) / 128))], [], _, _)) (by decide +kernel) rfl ?_
    refine Ru.op (q := (.aload_n 0, 1)) (S' := (41, _, _, _, _)) (by decide +kernel) rfl ?_
    refine Ru.op (q := (.iload_n 2, 1)) (S' := (42, _, _, _, _)) (by decide +kernel) rfl ?_
    refine Ru.kI (q := (.sipush 128, 3)) (c := 128) (pc' := 45) (by decide +kernel) rfl (by decide) rfl ?_
    obtain ⟨g6, h⟩ := gd_some h
    refine Ru.ar2 (i := .irem) (z := (((v1 - 4096) / 128) % 128)) (pc' := 46) (by decide +kernel) rfl (ar_rem g6) rfl ?_
    obtain ⟨o7, e8, h⟩ := ob_some h
    refine Ru.vcallI (pc' := 49) (st' := []) (i := 347) (j2 := 149) (ci := 10) (k := 0) (z := 0) (as := [vI (((v1 - 4096) / 128) % 128)]) (by decide +kernel) (by decide +kernel) rfl rfl (hp36 _) (by decide) ⟨(Nat.le_of_ble_eq_true rfl), (by show 19 + 2 ≤ 242; exact Nat.le_of_ble_eq_true rfl), Nat.le_of_ble_eq_true rfl, Nat.le_of_ble_eq_true rfl⟩ ((g149_ok e8).up (Nat.le_of_ble_eq_true rfl) (Nat.le_of_ble_eq_true rfl)) rfl rfl ?_
    refine Ru.op (q := (.iload_n 2, 1)) (S' := (50, _, _, _, _)) (by decide +kernel) rfl ?_
    refine Ru.kI (q := (.sipush 128, 3)) (c := 128) (pc' := 53) (by decide +kernel) rfl (by decide) rfl ?_
    obtain ⟨g9, h⟩ := gd_some h
    by_cases b10 : ((v1 - 4096) / 128) < 128
    · replace h := if_t b10 h
      refine Ru.br2 (k := .lt) (off := 32) (bb := true) (tg := 85) (by decide +kernel) (by decide +kernel) (ci_lt1 g9 (by decide) b10) rfl ?_
      cases h
      exact Ru.end (q := (.return_, 1)) (by decide +kernel) rfl rfl
    · replace h := if_f b10 h
      refine Ru.br2 (k := .lt) (off := 32) (bb := false) (tg := 56) (by decide +kernel) (by decide +kernel) (ci_lt0 g9 (by decide) b10) rfl ?_
      refine Ru.op (q := (.aload_n 0, 1)) (S' := (57, _, _, _, _)) (by decide +kernel) rfl ?_
      refine Ru.op (q := (.iload_n 2, 1)) (S' := (58, _, _, _, _)) (by decide +kernel) rfl ?_
      refine Ru.kI (q := (.sipush 128, 3)) (c := 128) (pc' := 61) (by decide +kernel) rfl (by decide) rfl ?_
      refine Ru.ar2 (i := .irem) (z := (((v1 - 4096) / 128) % 128)) (pc' := 62) (by decide +kernel) rfl (ar_rem g6) rfl ?_
      refine Ru.kI (q := (.bipush 36, 2)) (c := 36) (pc' := 64) (by decide +kernel) rfl (by decide) rfl ?_
      obtain ⟨g11, h⟩ := gd_some h
      by_cases b12 : (((v1 - 4096) / 128) % 128) = 36
      · replace h := if_t b12 h
        refine Ru.br2 (k := .ne) (off := 11) (bb := false) (tg := 67) (by decide +kernel) (by decide +kernel) (ci_ne0 g11 (by decide) b12) rfl ?_
        refine Ru.op (q := (.iload_n 2, 1)) (S' := (68, _, _, _, _)) (by decide +kernel) rfl ?_
        refine Ru.kI (q := (.sipush 128, 3)) (c := 128) (pc' := 71) (by decide +kernel) rfl (by decide) rfl ?_
        refine Ru.ar2 (i := .idiv) (z := (((v1 - 4096) / 128) / 128)) (pc' := 72) (by decide +kernel) rfl (ar_div g6) rfl ?_
        refine Ru.op (q := (.goto 10, 3)) (S' := (82, _, _, _, _)) (by decide +kernel) rfl ?_
        obtain ⟨o13, e14, h⟩ := ob_some h
        refine Ru.vcallI (pc' := 85) (st' := []) (i := 350) (j2 := 152) (ci := 10) (k := 0) (z := 0) (as := [vI (((v1 - 4096) / 128) / 128)]) (by decide +kernel) (by decide +kernel) rfl rfl (hp36 _) (by decide) ⟨(Nat.le_of_ble_eq_true rfl), (by show 19 + 2 ≤ 242; exact Nat.le_of_ble_eq_true rfl), Nat.le_of_ble_eq_true rfl, Nat.le_of_ble_eq_true rfl⟩ ((g152_ok e14).up (Nat.le_of_ble_eq_true rfl) (Nat.le_of_ble_eq_true rfl)) rfl rfl ?_
        cases h
        exact Ru.end (q := (.return_, 1)) (by decide +kernel) rfl rfl
      · replace h := if_f b12 h
        refine Ru.br2 (k := .ne) (off := 11) (bb := true) (tg := 75) (by decide +kernel) (by decide +kernel) (ci_ne1 g11 (by decide) b12) rfl ?_
        refine Ru.op (q := (.iload_n 2, 1)) (S' := (76, _, _, _, _)) (by decide +kernel) rfl ?_
        refine Ru.kI (q := (.sipush 128, 3)) (c := 128) (pc' := 79) (by decide +kernel) rfl (by decide) rfl ?_
        refine Ru.ar2 (i := .idiv) (z := (((v1 - 4096) / 128) / 128)) (pc' := 80) (by decide +kernel) rfl (ar_div g6) rfl ?_
        refine Ru.kI (q := (.iconst 1, 1)) (c := 1) (pc' := 81) (by decide +kernel) rfl (by decide) rfl ?_
        refine Ru.ar2 (i := .isub) (z := ((((v1 - 4096) / 128) / 128) - 1)) (pc' := 82) (by decide +kernel) rfl (ar_sub _ _) rfl ?_
        obtain ⟨o15, e16, h⟩ := ob_some h
        refine Ru.vcallI (pc' := 85) (st' := []) (i := 350) (j2 := 152) (ci := 10) (k := 0) (z := 0) (as := [vI ((((v1 - 4096) / 128) / 128) - 1)]) (by decide +kernel) (by decide +kernel) rfl rfl (hp36 _) (by decide) ⟨(Nat.le_of_ble_eq_true rfl), (by show 19 + 2 ≤ 242; exact Nat.le_of_ble_eq_true rfl), Nat.le_of_ble_eq_true rfl, Nat.le_of_ble_eq_true rfl⟩ ((g152_ok e16).up (Nat.le_of_ble_eq_true rfl) (Nat.le_of_ble_eq_true rfl)) rfl rfl ?_
        cases h
        exact Ru.end (q := (.return_, 1)) (by decide +kernel) rfl rfl
  · replace h := if_f b4 h
    refine Ru.br (k := .eq) (off := 26) (bb := false) (tg := 7) (by decide +kernel) (by decide +kernel) (cz (ci_eq0 g3 (by decide) b4)) rfl ?_
    refine Ru.op (q := (.aload_n 0, 1)) (S' := (8, _, _, _, _)) (by decide +kernel) rfl ?_
    refine Ru.kI (q := (.bipush 120, 2)) (c := 120) (pc' := 10) (by decide +kernel) rfl (by decide) rfl ?_
    refine Ru.op (q := (.iload_n 1, 1)) (S' := (11, _, _, _, _)) (by decide +kernel) rfl ?_
    refine Ru.kI (q := (.iconst 3, 1)) (c := 3) (pc' := 12) (by decide +kernel) rfl (by decide) rfl ?_
    obtain ⟨g17, h⟩ := gd_some h
    refine Ru.ar2 (i := .irem) (z := (v1 % 3)) (pc' := 13) (by decide +kernel) rfl (ar_rem g17) rfl ?_
    refine Ru.ar2 (i := .iadd) (z := (120 + (v1 % 3))) (pc' := 14) (by decide +kernel) rfl (ar_add _ _) rfl ?_
    obtain ⟨o18, e19, h⟩ := ob_some h
    refine Ru.vcallI (pc' := 17) (st' := []) (i := 347) (j2 := 149) (ci := 10) (k := 0) (z := 0) (as := [vI (120 + (v1 % 3))]) (by decide +kernel) (by decide +kernel) rfl rfl (hp36 _) (by decide) ⟨(Nat.le_of_ble_eq_true rfl), (by show 19 + 2 ≤ 242; exact Nat.le_of_ble_eq_true rfl), Nat.le_of_ble_eq_true rfl, Nat.le_of_ble_eq_true rfl⟩ ((g149_ok e19).up (Nat.le_of_ble_eq_true rfl) (Nat.le_of_ble_eq_true rfl)) rfl rfl ?_
    refine Ru.op (q := (.iload_n 1, 1)) (S' := (18, _, _, _, _)) (by decide +kernel) rfl ?_
    refine Ru.kI (q := (.iconst 2, 1)) (c := 2) (pc' := 19) (by decide +kernel) rfl (by decide) rfl ?_
    obtain ⟨g20, h⟩ := gd_some h
    by_cases b21 : 2 < v1
    · replace h := if_t b21 h
      refine Ru.br2 (k := .le) (off := 10) (bb := false) (tg := 22) (by decide +kernel) (by decide +kernel) (ci_le0 g20 (by decide) b21) rfl ?_
      refine Ru.op (q := (.aload_n 0, 1)) (S' := (23, _, _, _, _)) (by decide +kernel) rfl ?_
      refine Ru.op (q := (.iload_n 1, 1)) (S' := (24, _, _, _, _)) (by decide +kernel) rfl ?_
      refine Ru.kI (q := (.iconst 3, 1)) (c := 3) (pc' := 25) (by decide +kernel) rfl (by decide) rfl ?_
      refine Ru.ar2 (i := .idiv) (z := (v1 / 3)) (pc' := 26) (by decide +kernel) rfl (ar_div g17) rfl ?_
      obtain ⟨o22, e23, h⟩ := ob_some h
      refine Ru.vcallI (pc' := 29) (st' := []) (i := 350) (j2 := 152) (ci := 10) (k := 0) (z := 0) (as := [vI (v1 / 3)]) (by decide +kernel) (by decide +kernel) rfl rfl (hp36 _) (by decide) ⟨(Nat.le_of_ble_eq_true rfl), (by show 19 + 2 ≤ 242; exact Nat.le_of_ble_eq_true rfl), Nat.le_of_ble_eq_true rfl, Nat.le_of_ble_eq_true rfl⟩ ((g152_ok e23).up (Nat.le_of_ble_eq_true rfl) (Nat.le_of_ble_eq_true rfl)) rfl rfl ?_
      cases h
      exact Ru.end (q := (.return_, 1)) (by decide +kernel) rfl rfl
    · replace h := if_f b21 h
      refine Ru.br2 (k := .le) (off := 10) (bb := true) (tg := 29) (by decide +kernel) (by decide +kernel) (ci_le1 g20 (by decide) b21) rfl ?_
      cases h
      exact Ru.end (q := (.return_, 1)) (by decide +kernel) rfl rfl
