set_option maxRecDepth 100000 in
set_option maxHeartbeats 4000000 in
theorem g131L154_ok {S : St} {v3 : Int} {v4 : Int} {v5 : Int} {v6 : Int} {v7 : Int} : ∀ (n : Nat) (v8 : Int) (v9 : Int) (d1 d2 : Option Value) (_ : DD [d1, d2]) (out : Int), g131L154 S v3 v4 v5 v6 v7 n v8 v9 = some out → ∀ r, (∀ (e1 e2 e6 e9 : Option Value), DD [e1, e2, e6, e9] → Ru none 13 263 131 (207, [some (.ref 36), e1, e2, some (vI v3), some (vI v4), some (vI v5), e6, some (vI v7), some (vI out), e9], [], S.ns, Hp S) r) → Ru none 13 263 131 (154, [some (.ref 36), d1, d2, some (vI v3), some (vI v4), some (vI v5), some (vI v6), some (vI v7), some (vI v8), some (vI v9)], [], S.ns, Hp S) r := by
  intro n
  induction n with
  | zero => intro v8 v9 d1 d2 hdd out h; cases h
  | succ n ih =>
    intro v8 v9 d1 d2 hdd out h r hk
    unfold g131L154 at h
    refine Ru.op (q := (.iload 9, 2)) (S' := (156, _, _, _, _)) (by decide +kernel) rfl ?_
    refine Ru.op (q := (.iload 7, 2)) (S' := (158, _, _, _, _)) (by decide +kernel) rfl ?_
    obtain ⟨g22, h⟩ := gd_some h
    obtain ⟨g23, h⟩ := gd_some h
    by_cases b24 : v9 < v7
    · replace h := if_t b24 h
      refine Ru.br2 (k := .ge) (off := 49) (bb := false) (tg := 161) (by decide +kernel) (by decide +kernel) (ci_ge0 g22 g23 b24) rfl ?_
      refine Ru.op (q := (.iload 8, 2)) (S' := (163, _, _, _, _)) (by decide +kernel) rfl ?_
      obtain ⟨g25, h⟩ := gd_some h
      by_cases b26 : v8 = 0
      · replace h := if_t b26 h
        refine Ru.br (k := .eq) (off := 44) (bb := true) (tg := 207) (by decide +kernel) (by decide +kernel) (cz (ci_eq1 g25 (by decide) b26)) rfl ?_
        cases h
        exact hk _ _ _ _ ⟨hdd.1, hdd.2.1, rfl, rfl, trivial⟩
      · replace h := if_f b26 h
        refine Ru.br (k := .eq) (off := 44) (bb := false) (tg := 166) (by decide +kernel) (by decide +kernel) (cz (ci_eq0 g25 (by decide) b26)) rfl ?_
        refine Ru.op (q := (.aload_n 0, 1)) (S' := (167, _, _, _, _)) (by decide +kernel) rfl ?_
        refine Ru.getR (pc' := 170) (i := 17) (ci := 10) (k := 4) (nn := 0) (z := 0) (v := .ref 38) (by decide +kernel) (by decide +kernel) (hp36 _) (by decide) rfl rfl ?_
        refine Ru.op (q := (.aload_n 0, 1)) (S' := (171, _, _, _, _)) (by decide +kernel) rfl ?_
        refine Ru.getR (pc' := 174) (i := 93) (ci := 10) (k := 49) (nn := 0) (z := 0) (v := .ref 62) (by decide +kernel) (by decide +kernel) (hp36 _) (by decide) rfl rfl ?_
        refine Ru.op (q := (.iload 6, 2)) (S' := (176, _, _, _, _)) (by decide +kernel) rfl ?_
        obtain ⟨g27, h⟩ := gd_some h
        refine Ru.ildI (pc' := 177) (i := v6) (z := (S.A 62 v6)) (by decide +kernel) (hp62 _) g27 (eI_of _) rfl ?_
        refine Ru.op (q := (.iload 9, 2)) (S' := (179, _, _, _, _)) (by decide +kernel) rfl ?_
        refine Ru.ar2 (i := .iadd) (z := ((S.A 62 v6) + v9)) (pc' := 180) (by decide +kernel) rfl (ar_add _ _) rfl ?_
        obtain ⟨g28, h⟩ := gd_some h
        refine Ru.ildI (pc' := 181) (i := ((S.A 62 v6) + v9)) (z := (S.A 38 ((S.A 62 v6) + v9))) (by decide +kernel) (hp38 _) g28 (eI_of _) rfl ?_
        refine Ru.op (q := (.aload_n 0, 1)) (S' := (182, _, _, _, _)) (by decide +kernel) rfl ?_
        refine Ru.getR (pc' := 185) (i := 17) (ci := 10) (k := 4) (nn := 0) (z := 0) (v := .ref 38) (by decide +kernel) (by decide +kernel) (hp36 _) (by decide) rfl rfl ?_
        refine Ru.op (q := (.iload 4, 2)) (S' := (187, _, _, _, _)) (by decide +kernel) rfl ?_
        refine Ru.op (q := (.iload 9, 2)) (S' := (189, _, _, _, _)) (by decide +kernel) rfl ?_
        refine Ru.ar2 (i := .iadd) (z := (v4 + v9)) (pc' := 190) (by decide +kernel) rfl (ar_add _ _) rfl ?_
        obtain ⟨g29, h⟩ := gd_some h
        refine Ru.ildI (pc' := 191) (i := (v4 + v9)) (z := (S.A 38 (v4 + v9))) (by decide +kernel) (hp38 _) g29 (eI_of _) rfl ?_
        by_cases b30 : (S.A 38 ((S.A 62 v6) + v9)) = (S.A 38 (v4 + v9))
        · replace h := if_t b30 h
          refine Ru.br2 (k := .ne) (off := 7) (bb := false) (tg := 194) (by decide +kernel) (by decide +kernel) (ci_ne0 (inR_to _) (inR_to _) b30) rfl ?_
          refine Ru.kI (q := (.iconst 1, 1)) (c := 1) (pc' := 195) (by decide +kernel) rfl (by decide) rfl ?_
          refine Ru.op (q := (.goto 4, 3)) (S' := (199, _, _, _, _)) (by decide +kernel) rfl ?_
          refine Ru.op (q := (.istore 8, 2)) (S' := (201, [some (.ref 36), d1, d2, some (vI v3), some (vI v4), some (vI v5), some (vI v6), some (vI v7), some (vI 1), some (vI v9)], [], _, _)) (by decide +kernel) rfl ?_
          refine Ru.inc (k := 9) (n := 1) (x := v9) (z := (v9 + 1)) (xs' := [some (.ref 36), d1, d2, some (vI v3), some (vI v4), some (vI v5), some (vI v6), some (vI v7), some (vI 1), some (vI (v9 + 1))]) (pc' := 204) (by decide +kernel) rfl rfl rfl rfl ?_
          refine Ru.op (q := (.goto (-50), 3)) (S' := (154, _, _, _, _)) (by decide +kernel) rfl ?_
          exact ih _ _ _ _ ⟨hdd.1, hdd.2.1, trivial⟩ _ h r hk
        · replace h := if_f b30 h
          refine Ru.br2 (k := .ne) (off := 7) (bb := true) (tg := 198) (by decide +kernel) (by decide +kernel) (ci_ne1 (inR_to _) (inR_to _) b30) rfl ?_
          refine Ru.kI (q := (.iconst 0, 1)) (c := 0) (pc' := 199) (by decide +kernel) rfl (by decide) rfl ?_
          refine Ru.op (q := (.istore 8, 2)) (S' := (201, [some (.ref 36), d1, d2, some (vI v3), some (vI v4), some (vI v5), some (vI v6), some (vI v7), some (vI 0), some (vI v9)], [], _, _)) (by decide +kernel) rfl ?_
          refine Ru.inc (k := 9) (n := 1) (x := v9) (z := (v9 + 1)) (xs' := [some (.ref 36), d1, d2, some (vI v3), some (vI v4), some (vI v5), some (vI v6), some (vI v7), some (vI 0), some (vI (v9 + 1))]) (pc' := 204) (by decide +kernel) rfl rfl rfl rfl ?_
          refine Ru.op (q := (.goto (-50), 3)) (S' := (154, _, _, _, _)) (by decide +kernel) rfl ?_
          exact ih _ _ _ _ ⟨hdd.1, hdd.2.1, trivial⟩ _ h r hk
    · replace h := if_f b24 h
      refine Ru.br2 (k := .ge) (off := 49) (bb := true) (tg := 207) (by decide +kernel) (by decide +kernel) (ci_ge1 g22 g23 b24) rfl ?_
      cases h
      exact hk _ _ _ _ ⟨hdd.1, hdd.2.1, rfl, rfl, trivial⟩
set_option maxRecDepth 100000 in
set_option maxHeartbeats 4000000 in
theorem g131L47_ok {v3 : Int} : ∀ (n : Nat) (v4 : Int) (v5 : Int) (S : St) (d1 d2 d6 d7 d8 d9 : Option Value) (_ : DD [d1, d2, d6, d7, d8, d9]) (out : Sum (St) (Int × St)), g131L47 v3 n v4 v5 S = some out → ∀ r, (∀ o, out = .inl o → ∀ (e0 e1 e2 e3 e4 e5 e6 e7 e8 e9 : Option Value), DD [e0, e1, e2, e3, e4, e5, e6, e7, e8, e9] → Ru none 13 263 131 (227, [e0, e1, e2, e3, e4, e5, e6, e7, e8, e9], [], o.ns, Hp o) r) → (∀ o, out = .inr o → r = ((0, some (vI o.1)), o.2.ns, Hp o.2)) → Ru none 13 263 131 (47, [some (.ref 36), d1, d2, some (vI v3), some (vI v4), some (vI v5), d6, d7, d8, d9], [], S.ns, Hp S) r := by
  intro n
  induction n with
  | zero => intro v4 v5 S d1 d2 d6 d7 d8 d9 hdd out h; cases h
  | succ n ih =>
    intro v4 v5 S d1 d2 d6 d7 d8 d9 hdd out h r hk hr
    unfold g131L47 at h
    refine Ru.op (q := (.iload 5, 2)) (S' := (49, _, _, _, _)) (by decide +kernel) rfl ?_
    refine Ru.op (q := (.iload_n 3, 1)) (S' := (50, _, _, _, _)) (by decide +kernel) rfl ?_
    obtain ⟨g69, h⟩ := gd_some h
    obtain ⟨g70, h⟩ := gd_some h
    by_cases b71 : v5 < v3
    · replace h := if_t b71 h
      refine Ru.br2 (k := .ge) (off := 177) (bb := false) (tg := 53) (by decide +kernel) (by decide +kernel) (ci_ge0 g69 g70 b71) rfl ?_
      refine Ru.op (q := (.aload_n 0, 1)) (S' := (54, _, _, _, _)) (by decide +kernel) rfl ?_
      refine Ru.getR (pc' := 57) (i := 17) (ci := 10) (k := 4) (nn := 0) (z := 0) (v := .ref 38) (by decide +kernel) (by decide +kernel) (hp36 _) (by decide) rfl rfl ?_
      refine Ru.op (q := (.iload 5, 2)) (S' := (59, _, _, _, _)) (by decide +kernel) rfl ?_
      obtain ⟨g72, h⟩ := gd_some h
      refine Ru.ildI (pc' := 60) (i := v5) (z := (S.A 38 v5)) (by decide +kernel) (hp38 _) g72 (eI_of _) rfl ?_
      refine Ru.op (q := (.istore 6, 2)) (S' := (62, [some (.ref 36), d1, d2, some (vI v3), some (vI v4), some (vI v5), some (vI (S.A 38 v5)), d7, d8, d9], [], _, _)) (by decide +kernel) rfl ?_
      refine Ru.op (q := (.iload 6, 2)) (S' := (64, _, _, _, _)) (by decide +kernel) rfl ?_
      obtain ⟨o73, e74, h⟩ := ob_some h
      refine Ru.callI (pc' := 67) (q := (.invokestatic 132, 3)) (j2 := 122) (as := [vI (S.A 38 v5)]) (st' := [vI o73]) (by decide +kernel) rfl rfl rfl rfl ⟨(Nat.le_of_ble_eq_true rfl), (by show 19 + 1 ≤ 263; exact Nat.le_of_ble_eq_true rfl), Nat.le_of_ble_eq_true rfl, Nat.le_of_ble_eq_true rfl⟩ ((g122_ok e74).up (Nat.le_of_ble_eq_true rfl) (Nat.le_of_ble_eq_true rfl)) rfl rfl ?_
      obtain ⟨g75, h⟩ := gd_some h
      by_cases b76 : o73 = 0
      · replace h := if_t b76 h
        refine Ru.br (k := .ne) (off := 23) (bb := false) (tg := 70) (by decide +kernel) (by decide +kernel) (cz (ci_ne0 g75 (by decide) b76)) rfl ?_
        refine Ru.op (q := (.iload 6, 2)) (S' := (72, _, _, _, _)) (by decide +kernel) rfl ?_
        refine Ru.op (q := (.aload_n 0, 1)) (S' := (73, _, _, _, _)) (by decide +kernel) rfl ?_
        refine Ru.getR (pc' := 76) (i := 17) (ci := 10) (k := 4) (nn := 0) (z := 0) (v := .ref 38) (by decide +kernel) (by decide +kernel) (hp36 _) (by decide) rfl rfl ?_
        refine Ru.op (q := (.iload 4, 2)) (S' := (78, _, _, _, _)) (by decide +kernel) rfl ?_
        obtain ⟨g77, h⟩ := gd_some h
        refine Ru.ildI (pc' := 79) (i := v4) (z := (S.A 38 v4)) (by decide +kernel) (hp38 _) g77 (eI_of _) rfl ?_
        by_cases b78 : (S.A 38 v5) = (S.A 38 v4)
        · replace h := if_t b78 h
          refine Ru.br2 (k := .eq) (off := 5) (bb := true) (tg := 84) (by decide +kernel) (by decide +kernel) (ci_eq1 (inR_to _) (inR_to _) b78) rfl ?_
          refine Ru.inc (k := 4) (n := 1) (x := v4) (z := (v4 + 1)) (xs' := [some (.ref 36), d1, d2, some (vI v3), some (vI (v4 + 1)), some (vI v5), some (vI (S.A 38 v5)), d7, d8, d9]) (pc' := 87) (by decide +kernel) rfl rfl rfl rfl ?_
          refine Ru.op (q := (.goto 134, 3)) (S' := (221, _, _, _, _)) (by decide +kernel) rfl ?_
          refine Ru.inc (k := 5) (n := 1) (x := v5) (z := (v5 + 1)) (xs' := [some (.ref 36), d1, d2, some (vI v3), some (vI (v4 + 1)), some (vI (v5 + 1)), some (vI (S.A 38 v5)), d7, d8, d9]) (pc' := 224) (by decide +kernel) rfl rfl rfl rfl ?_
          refine Ru.op (q := (.goto (-177), 3)) (S' := (47, _, _, _, _)) (by decide +kernel) rfl ?_
          exact ih _ _ _ _ _ _ _ _ _ ⟨hdd.1, hdd.2.1, rfl, hdd.2.2.2.1, hdd.2.2.2.2.1, hdd.2.2.2.2.2.1, trivial⟩ _ h r hk hr
        · replace h := if_f b78 h
          refine Ru.br2 (k := .eq) (off := 5) (bb := false) (tg := 82) (by decide +kernel) (by decide +kernel) (ci_eq0 (inR_to _) (inR_to _) b78) rfl ?_
          refine Ru.kI (q := (.iconst 0, 1)) (c := 0) (pc' := 83) (by decide +kernel) rfl (by decide) rfl ?_
          cases h
          have h9 := hr _ rfl
          subst h9
          exact Ru.iret (by decide +kernel) rfl (nar_b1 (by decide))
      · replace h := if_f b76 h
        refine Ru.br (k := .ne) (off := 23) (bb := true) (tg := 90) (by decide +kernel) (by decide +kernel) (cz (ci_ne1 g75 (by decide) b76)) rfl ?_
        refine Ru.op (q := (.aload_n 0, 1)) (S' := (91, _, _, _, _)) (by decide +kernel) rfl ?_
        refine Ru.getR (pc' := 94) (i := 17) (ci := 10) (k := 4) (nn := 0) (z := 0) (v := .ref 38) (by decide +kernel) (by decide +kernel) (hp36 _) (by decide) rfl rfl ?_
        refine Ru.op (q := (.iload 4, 2)) (S' := (96, _, _, _, _)) (by decide +kernel) rfl ?_
        obtain ⟨o79, e80, h⟩ := ob_some h
        refine Ru.callI (pc' := 99) (q := (.invokestatic 233, 3)) (j2 := 125) (as := [.ref 38, vI v4]) (st' := [vI o79]) (by decide +kernel) rfl rfl rfl rfl ⟨(Nat.le_of_ble_eq_true rfl), (by show 19 + 4 ≤ 263; exact Nat.le_of_ble_eq_true rfl), Nat.le_of_ble_eq_true rfl, Nat.le_of_ble_eq_true rfl⟩ ((g125_ok e80).up (Nat.le_of_ble_eq_true rfl) (Nat.le_of_ble_eq_true rfl)) rfl rfl ?_
        refine Ru.op (q := (.iload 4, 2)) (S' := (101, _, _, _, _)) (by decide +kernel) rfl ?_
        refine Ru.ar2 (i := .isub) (z := (o79 - v4)) (pc' := 102) (by decide +kernel) rfl (ar_sub _ _) rfl ?_
        refine Ru.op (q := (.istore 7, 2)) (S' := (104, [some (.ref 36), d1, d2, some (vI v3), some (vI v4), some (vI v5), some (vI (S.A 38 v5)), some (vI (o79 - v4)), d8, d9], [], _, _)) (by decide +kernel) rfl ?_
        refine Ru.op (q := (.aload_n 0, 1)) (S' := (105, _, _, _, _)) (by decide +kernel) rfl ?_
        refine Ru.getR (pc' := 108) (i := 93) (ci := 10) (k := 49) (nn := 0) (z := 0) (v := .ref 62) (by decide +kernel) (by decide +kernel) (hp36 _) (by decide) rfl rfl ?_
        refine Ru.op (q := (.iload 6, 2)) (S' := (110, _, _, _, _)) (by decide +kernel) rfl ?_
        obtain ⟨g81, h⟩ := gd_some h
        refine Ru.ildI (pc' := 111) (i := (S.A 38 v5)) (z := (S.A 62 (S.A 38 v5))) (by decide +kernel) (hp62 _) g81 (eI_of _) rfl ?_
        by_cases b82 : (S.A 62 (S.A 38 v5)) < 0
        · replace h := if_t b82 h
          refine Ru.br (k := .ge) (off := 21) (bb := false) (tg := 114) (by decide +kernel) (by decide +kernel) (cz (ci_ge0 (inR_to _) (by decide) b82)) rfl ?_
          refine Ru.op (q := (.aload_n 0, 1)) (S' := (115, _, _, _, _)) (by decide +kernel) rfl ?_
          refine Ru.getR (pc' := 118) (i := 93) (ci := 10) (k := 49) (nn := 0) (z := 0) (v := .ref 62) (by decide +kernel) (by decide +kernel) (hp36 _) (by decide) rfl rfl ?_
          refine Ru.op (q := (.iload 6, 2)) (S' := (120, _, _, _, _)) (by decide +kernel) rfl ?_
          refine Ru.op (q := (.iload 4, 2)) (S' := (122, _, _, _, _)) (by decide +kernel) rfl ?_
          refine Ru.istI (pc' := 123) (i := (S.A 38 v5)) (x := v4) (by decide +kernel) (hp62 _) g81 (ps_62 _ _ _) rfl ?_
          refine Ru.op (q := (.aload_n 0, 1)) (S' := (124, _, _, _, _)) (by decide +kernel) rfl ?_
          refine Ru.getR (pc' := 127) (i := 96) (ci := 10) (k := 50) (nn := 0) (z := 0) (v := .ref 63) (by decide +kernel) (by decide +kernel) (hp36 _) (by decide) rfl rfl ?_
          refine Ru.op (q := (.iload 6, 2)) (S' := (129, _, _, _, _)) (by decide +kernel) rfl ?_
          refine Ru.op (q := (.iload 7, 2)) (S' := (131, _, _, _, _)) (by decide +kernel) rfl ?_
          refine Ru.istI (pc' := 132) (i := (S.A 38 v5)) (x := (o79 - v4)) (by decide +kernel) (hp63 _) g81 (ps_63 _ _ _) rfl ?_
          refine Ru.op (q := (.iload 7, 2)) (S' := (134, _, _, _, _)) (by decide +kernel) rfl ?_
          refine Ru.op (q := (.aload_n 0, 1)) (S' := (135, _, _, _, _)) (by decide +kernel) rfl ?_
          refine Ru.getR (pc' := 138) (i := 96) (ci := 10) (k := 50) (nn := 0) (z := 0) (v := .ref 63) (by decide +kernel) (by decide +kernel) (hp36 _) (by decide) rfl rfl ?_
          refine Ru.op (q := (.iload 6, 2)) (S' := (140, _, _, _, _)) (by decide +kernel) rfl ?_
          refine Ru.ildI (pc' := 141) (i := (S.A 38 v5)) (z := (((S.a 62 (S.A 38 v5) v4).a 63 (S.A 38 v5) (o79 - v4)).A 63 (S.A 38 v5))) (by decide +kernel) (hp63 _) g81 (eI_of _) rfl ?_
          obtain ⟨g83, h⟩ := gd_some h
          by_cases b84 : (o79 - v4) = (((S.a 62 (S.A 38 v5) v4).a 63 (S.A 38 v5) (o79 - v4)).A 63 (S.A 38 v5))
          · replace h := if_t b84 h
            refine Ru.br2 (k := .ne) (off := 7) (bb := false) (tg := 144) (by decide +kernel) (by decide +kernel) (ci_ne0 g83 (inR_to _) b84) rfl ?_
            refine Ru.kI (q := (.iconst 1, 1)) (c := 1) (pc' := 145) (by decide +kernel) rfl (by decide) rfl ?_
            refine Ru.op (q := (.goto 4, 3)) (S' := (149, _, _, _, _)) (by decide +kernel) rfl ?_
            refine Ru.op (q := (.istore 8, 2)) (S' := (151, [some (.ref 36), d1, d2, some (vI v3), some (vI v4), some (vI v5), some (vI (S.A 38 v5)), some (vI (o79 - v4)), some (vI 1), d9], [], _, _)) (by decide +kernel) rfl ?_
            refine Ru.kI (q := (.iconst 0, 1)) (c := 0) (pc' := 152) (by decide +kernel) rfl (by decide) rfl ?_
            refine Ru.op (q := (.istore 9, 2)) (S' := (154, [some (.ref 36), d1, d2, some (vI v3), some (vI v4), some (vI v5), some (vI (S.A 38 v5)), some (vI (o79 - v4)), some (vI 1), some (vI 0)], [], _, _)) (by decide +kernel) rfl ?_
            obtain ⟨o85, e90, h⟩ := ob_some h
            refine g131L154_ok FU _ _ _ _ ⟨hdd.1, hdd.2.1, trivial⟩ _ e90 _ ?_
            intro d86 d87 d88 d89 hd91
            refine Ru.op (q := (.iload 8, 2)) (S' := (209, _, _, _, _)) (by decide +kernel) rfl ?_
            obtain ⟨g92, h⟩ := gd_some h
            by_cases b93 : o85 = 0
            · replace h := if_t b93 h
              refine Ru.br (k := .ne) (off := 5) (bb := false) (tg := 212) (by decide +kernel) (by decide +kernel) (cz (ci_ne0 g92 (by decide) b93)) rfl ?_
              refine Ru.kI (q := (.iconst 0, 1)) (c := 0) (pc' := 213) (by decide +kernel) rfl (by decide) rfl ?_
              cases h
              have h9 := hr _ rfl
              subst h9
              exact Ru.iret (by decide +kernel) rfl (nar_b1 (by decide))
            · replace h := if_f b93 h
              refine Ru.br (k := .ne) (off := 5) (bb := true) (tg := 214) (by decide +kernel) (by decide +kernel) (cz (ci_ne1 g92 (by decide) b93)) rfl ?_
              refine Ru.op (q := (.iload 4, 2)) (S' := (216, _, _, _, _)) (by decide +kernel) rfl ?_
              refine Ru.op (q := (.iload 7, 2)) (S' := (218, _, _, _, _)) (by decide +kernel) rfl ?_
              refine Ru.ar2 (i := .iadd) (z := (v4 + (o79 - v4))) (pc' := 219) (by decide +kernel) rfl (ar_add _ _) rfl ?_
              refine Ru.op (q := (.istore 4, 2)) (S' := (221, [some (.ref 36), d86, d87, some (vI v3), some (vI (v4 + (o79 - v4))), some (vI v5), d88, some (vI (o79 - v4)), some (vI o85), d89], [], _, _)) (by decide +kernel) rfl ?_
              refine Ru.inc (k := 5) (n := 1) (x := v5) (z := (v5 + 1)) (xs' := [some (.ref 36), d86, d87, some (vI v3), some (vI (v4 + (o79 - v4))), some (vI (v5 + 1)), d88, some (vI (o79 - v4)), some (vI o85), d89]) (pc' := 224) (by decide +kernel) rfl rfl rfl rfl ?_
              refine Ru.op (q := (.goto (-177), 3)) (S' := (47, _, _, _, _)) (by decide +kernel) rfl ?_
              exact ih _ _ _ _ _ _ _ _ _ ⟨hd91.1, hd91.2.1, hd91.2.2.1, rfl, rfl, hd91.2.2.2.1, trivial⟩ _ h r hk hr
          · replace h := if_f b84 h
            refine Ru.br2 (k := .ne) (off := 7) (bb := true) (tg := 148) (by decide +kernel) (by decide +kernel) (ci_ne1 g83 (inR_to _) b84) rfl ?_
            refine Ru.kI (q := (.iconst 0, 1)) (c := 0) (pc' := 149) (by decide +kernel) rfl (by decide) rfl ?_
            refine Ru.op (q := (.istore 8, 2)) (S' := (151, [some (.ref 36), d1, d2, some (vI v3), some (vI v4), some (vI v5), some (vI (S.A 38 v5)), some (vI (o79 - v4)), some (vI 0), d9], [], _, _)) (by decide +kernel) rfl ?_
            refine Ru.kI (q := (.iconst 0, 1)) (c := 0) (pc' := 152) (by decide +kernel) rfl (by decide) rfl ?_
            refine Ru.op (q := (.istore 9, 2)) (S' := (154, [some (.ref 36), d1, d2, some (vI v3), some (vI v4), some (vI v5), some (vI (S.A 38 v5)), some (vI (o79 - v4)), some (vI 0), some (vI 0)], [], _, _)) (by decide +kernel) rfl ?_
            obtain ⟨o94, e99, h⟩ := ob_some h
            refine g131L154_ok FU _ _ _ _ ⟨hdd.1, hdd.2.1, trivial⟩ _ e99 _ ?_
            intro d95 d96 d97 d98 hd100
            refine Ru.op (q := (.iload 8, 2)) (S' := (209, _, _, _, _)) (by decide +kernel) rfl ?_
            obtain ⟨g101, h⟩ := gd_some h
            by_cases b102 : o94 = 0
            · replace h := if_t b102 h
              refine Ru.br (k := .ne) (off := 5) (bb := false) (tg := 212) (by decide +kernel) (by decide +kernel) (cz (ci_ne0 g101 (by decide) b102)) rfl ?_
              refine Ru.kI (q := (.iconst 0, 1)) (c := 0) (pc' := 213) (by decide +kernel) rfl (by decide) rfl ?_
              cases h
              have h9 := hr _ rfl
              subst h9
              exact Ru.iret (by decide +kernel) rfl (nar_b1 (by decide))
            · replace h := if_f b102 h
              refine Ru.br (k := .ne) (off := 5) (bb := true) (tg := 214) (by decide +kernel) (by decide +kernel) (cz (ci_ne1 g101 (by decide) b102)) rfl ?_
              refine Ru.op (q := (.iload 4, 2)) (S' := (216, _, _, _, _)) (by decide +kernel) rfl ?_
              refine Ru.op (q := (.iload 7, 2)) (S' := (218, _, _, _, _)) (by decide +kernel) rfl ?_
              refine Ru.ar2 (i := .iadd) (z := (v4 + (o79 - v4))) (pc' := 219) (by decide +kernel) rfl (ar_add _ _) rfl ?_
              refine Ru.op (q := (.istore 4, 2)) (S' := (221, [some (.ref 36), d95, d96, some (vI v3), some (vI (v4 + (o79 - v4))), some (vI v5), d97, some (vI (o79 - v4)), some (vI o94), d98], [], _, _)) (by decide +kernel) rfl ?_
              refine Ru.inc (k := 5) (n := 1) (x := v5) (z := (v5 + 1)) (xs' := [some (.ref 36), d95, d96, some (vI v3), some (vI (v4 + (o79 - v4))), some (vI (v5 + 1)), d97, some (vI (o79 - v4)), some (vI o94), d98]) (pc' := 224) (by decide +kernel) rfl rfl rfl rfl ?_
              refine Ru.op (q := (.goto (-177), 3)) (S' := (47, _, _, _, _)) (by decide +kernel) rfl ?_
              exact ih _ _ _ _ _ _ _ _ _ ⟨hd100.1, hd100.2.1, hd100.2.2.1, rfl, rfl, hd100.2.2.2.1, trivial⟩ _ h r hk hr
        · replace h := if_f b82 h
          refine Ru.br (k := .ge) (off := 21) (bb := true) (tg := 132) (by decide +kernel) (by decide +kernel) (cz (ci_ge1 (inR_to _) (by decide) b82)) rfl ?_
          refine Ru.op (q := (.iload 7, 2)) (S' := (134, _, _, _, _)) (by decide +kernel) rfl ?_
          refine Ru.op (q := (.aload_n 0, 1)) (S' := (135, _, _, _, _)) (by decide +kernel) rfl ?_
          refine Ru.getR (pc' := 138) (i := 96) (ci := 10) (k := 50) (nn := 0) (z := 0) (v := .ref 63) (by decide +kernel) (by decide +kernel) (hp36 _) (by decide) rfl rfl ?_
          refine Ru.op (q := (.iload 6, 2)) (S' := (140, _, _, _, _)) (by decide +kernel) rfl ?_
          refine Ru.ildI (pc' := 141) (i := (S.A 38 v5)) (z := (S.A 63 (S.A 38 v5))) (by decide +kernel) (hp63 _) g81 (eI_of _) rfl ?_
          obtain ⟨g103, h⟩ := gd_some h
          by_cases b104 : (o79 - v4) = (S.A 63 (S.A 38 v5))
          · replace h := if_t b104 h
            refine Ru.br2 (k := .ne) (off := 7) (bb := false) (tg := 144) (by decide +kernel) (by decide +kernel) (ci_ne0 g103 (inR_to _) b104) rfl ?_
            refine Ru.kI (q := (.iconst 1, 1)) (c := 1) (pc' := 145) (by decide +kernel) rfl (by decide) rfl ?_
            refine Ru.op (q := (.goto 4, 3)) (S' := (149, _, _, _, _)) (by decide +kernel) rfl ?_
            refine Ru.op (q := (.istore 8, 2)) (S' := (151, [some (.ref 36), d1, d2, some (vI v3), some (vI v4), some (vI v5), some (vI (S.A 38 v5)), some (vI (o79 - v4)), some (vI 1), d9], [], _, _)) (by decide +kernel) rfl ?_
            refine Ru.kI (q := (.iconst 0, 1)) (c := 0) (pc' := 152) (by decide +kernel) rfl (by decide) rfl ?_
            refine Ru.op (q := (.istore 9, 2)) (S' := (154, [some (.ref 36), d1, d2, some (vI v3), some (vI v4), some (vI v5), some (vI (S.A 38 v5)), some (vI (o79 - v4)), some (vI 1), some (vI 0)], [], _, _)) (by decide +kernel) rfl ?_
            obtain ⟨o105, e110, h⟩ := ob_some h
            refine g131L154_ok FU _ _ _ _ ⟨hdd.1, hdd.2.1, trivial⟩ _ e110 _ ?_
            intro d106 d107 d108 d109 hd111
            refine Ru.op (q := (.iload 8, 2)) (S' := (209, _, _, _, _)) (by decide +kernel) rfl ?_
            obtain ⟨g112, h⟩ := gd_some h
            by_cases b113 : o105 = 0
            · replace h := if_t b113 h
              refine Ru.br (k := .ne) (off := 5) (bb := false) (tg := 212) (by decide +kernel) (by decide +kernel) (cz (ci_ne0 g112 (by decide) b113)) rfl ?_
              refine Ru.kI (q := (.iconst 0, 1)) (c := 0) (pc' := 213) (by decide +kernel) rfl (by decide) rfl ?_
              cases h
              have h9 := hr _ rfl
              subst h9
              exact Ru.iret (by decide +kernel) rfl (nar_b1 (by decide))
            · replace h := if_f b113 h
              refine Ru.br (k := .ne) (off := 5) (bb := true) (tg := 214) (by decide +kernel) (by decide +kernel) (cz (ci_ne1 g112 (by decide) b113)) rfl ?_
              refine Ru.op (q := (.iload 4, 2)) (S' := (216, _, _, _, _)) (by decide +kernel) rfl ?_
              refine Ru.op (q := (.iload 7, 2)) (S' := (218, _, _, _, _)) (by decide +kernel) rfl ?_
              refine Ru.ar2 (i := .iadd) (z := (v4 + (o79 - v4))) (pc' := 219) (by decide +kernel) rfl (ar_add _ _) rfl ?_
              refine Ru.op (q := (.istore 4, 2)) (S' := (221, [some (.ref 36), d106, d107, some (vI v3), some (vI (v4 + (o79 - v4))), some (vI v5), d108, some (vI (o79 - v4)), some (vI o105), d109], [], _, _)) (by decide +kernel) rfl ?_
              refine Ru.inc (k := 5) (n := 1) (x := v5) (z := (v5 + 1)) (xs' := [some (.ref 36), d106, d107, some (vI v3), some (vI (v4 + (o79 - v4))), some (vI (v5 + 1)), d108, some (vI (o79 - v4)), some (vI o105), d109]) (pc' := 224) (by decide +kernel) rfl rfl rfl rfl ?_
              refine Ru.op (q := (.goto (-177), 3)) (S' := (47, _, _, _, _)) (by decide +kernel) rfl ?_
              exact ih _ _ _ _ _ _ _ _ _ ⟨hd111.1, hd111.2.1, hd111.2.2.1, rfl, rfl, hd111.2.2.2.1, trivial⟩ _ h r hk hr
          · replace h := if_f b104 h
            refine Ru.br2 (k := .ne) (off := 7) (bb := true) (tg := 148) (by decide +kernel) (by decide +kernel) (ci_ne1 g103 (inR_to _) b104) rfl ?_
            refine Ru.kI (q := (.iconst 0, 1)) (c := 0) (pc' := 149) (by decide +kernel) rfl (by decide) rfl ?_
            refine Ru.op (q := (.istore 8, 2)) (S' := (151, [some (.ref 36), d1, d2, some (vI v3), some (vI v4), some (vI v5), some (vI (S.A 38 v5)), some (vI (o79 - v4)), some (vI 0), d9], [], _, _)) (by decide +kernel) rfl ?_
            refine Ru.kI (q := (.iconst 0, 1)) (c := 0) (pc' := 152) (by decide +kernel) rfl (by decide) rfl ?_
            refine Ru.op (q := (.istore 9, 2)) (S' := (154, [some (.ref 36), d1, d2, some (vI v3), some (vI v4), some (vI v5), some (vI (S.A 38 v5)), some (vI (o79 - v4)), some (vI 0), some (vI 0)], [], _, _)) (by decide +kernel) rfl ?_
            obtain ⟨o114, e119, h⟩ := ob_some h
            refine g131L154_ok FU _ _ _ _ ⟨hdd.1, hdd.2.1, trivial⟩ _ e119 _ ?_
            intro d115 d116 d117 d118 hd120
            refine Ru.op (q := (.iload 8, 2)) (S' := (209, _, _, _, _)) (by decide +kernel) rfl ?_
            obtain ⟨g121, h⟩ := gd_some h
            by_cases b122 : o114 = 0
            · replace h := if_t b122 h
              refine Ru.br (k := .ne) (off := 5) (bb := false) (tg := 212) (by decide +kernel) (by decide +kernel) (cz (ci_ne0 g121 (by decide) b122)) rfl ?_
              refine Ru.kI (q := (.iconst 0, 1)) (c := 0) (pc' := 213) (by decide +kernel) rfl (by decide) rfl ?_
              cases h
              have h9 := hr _ rfl
              subst h9
              exact Ru.iret (by decide +kernel) rfl (nar_b1 (by decide))
            · replace h := if_f b122 h
              refine Ru.br (k := .ne) (off := 5) (bb := true) (tg := 214) (by decide +kernel) (by decide +kernel) (cz (ci_ne1 g121 (by decide) b122)) rfl ?_
              refine Ru.op (q := (.iload 4, 2)) (S' := (216, _, _, _, _)) (by decide +kernel) rfl ?_
              refine Ru.op (q := (.iload 7, 2)) (S' := (218, _, _, _, _)) (by decide +kernel) rfl ?_
              refine Ru.ar2 (i := .iadd) (z := (v4 + (o79 - v4))) (pc' := 219) (by decide +kernel) rfl (ar_add _ _) rfl ?_
              refine Ru.op (q := (.istore 4, 2)) (S' := (221, [some (.ref 36), d115, d116, some (vI v3), some (vI (v4 + (o79 - v4))), some (vI v5), d117, some (vI (o79 - v4)), some (vI o114), d118], [], _, _)) (by decide +kernel) rfl ?_
              refine Ru.inc (k := 5) (n := 1) (x := v5) (z := (v5 + 1)) (xs' := [some (.ref 36), d115, d116, some (vI v3), some (vI (v4 + (o79 - v4))), some (vI (v5 + 1)), d117, some (vI (o79 - v4)), some (vI o114), d118]) (pc' := 224) (by decide +kernel) rfl rfl rfl rfl ?_
              refine Ru.op (q := (.goto (-177), 3)) (S' := (47, _, _, _, _)) (by decide +kernel) rfl ?_
              exact ih _ _ _ _ _ _ _ _ _ ⟨hd120.1, hd120.2.1, hd120.2.2.1, rfl, rfl, hd120.2.2.2.1, trivial⟩ _ h r hk hr
    · replace h := if_f b71 h
      refine Ru.br2 (k := .ge) (off := 177) (bb := true) (tg := 227) (by decide +kernel) (by decide +kernel) (ci_ge1 g69 g70 b71) rfl ?_
      cases h
      exact hk _ rfl _ _ _ _ _ _ _ _ _ _ ⟨rfl, hdd.1, hdd.2.1, rfl, rfl, rfl, hdd.2.2.1, hdd.2.2.2.1, hdd.2.2.2.2.1, hdd.2.2.2.2.2.1, trivial⟩
set_option maxRecDepth 100000 in
set_option maxHeartbeats 4000000 in
theorem g131_ok {S : St} {v1 : Int} {v2 : Int} {o : Int × St} (h : g131 S v1 v2 = some o) : Ru none 13 263 131 (0, mn_pad (mn_ent [.ref 36, vI v1, vI v2]) 10, [], S.ns, Hp S) ((0, some (vI o.1)), o.2.ns, Hp o.2) := by
  unfold g131 at h
  show Ru none 13 263 131 (0, [some (.ref 36), some (vI v1), some (vI v2), none, none, none, none, none, none, none], [], S.ns, Hp S) _
  refine Ru.op (q := (.aload_n 0, 1)) (S' := (1, _, _, _, _)) (by decide +kernel) rfl ?_
  refine Ru.getR (pc' := 4) (i := 23) (ci := 10) (k := 6) (nn := 0) (z := 0) (v := .ref 40) (by decide +kernel) (by decide +kernel) (hp36 _) (by decide) rfl rfl ?_
  refine Ru.op (q := (.iload_n 1, 1)) (S' := (5, _, _, _, _)) (by decide +kernel) rfl ?_
  obtain ⟨g1, h⟩ := gd_some h
  refine Ru.bldI (pc' := 6) (i := v1) (z := (S.A 40 v1)) (by decide +kernel) (hp40 _) g1 (eI_of _) rfl ?_
  refine Ru.op (q := (.aload_n 0, 1)) (S' := (7, _, _, _, _)) (by decide +kernel) rfl ?_
  refine Ru.getR (pc' := 10) (i := 23) (ci := 10) (k := 6) (nn := 0) (z := 0) (v := .ref 40) (by decide +kernel) (by decide +kernel) (hp36 _) (by decide) rfl rfl ?_
  refine Ru.op (q := (.iload_n 2, 1)) (S' := (11, _, _, _, _)) (by decide +kernel) rfl ?_
  obtain ⟨g2, h⟩ := gd_some h
  refine Ru.bldI (pc' := 12) (i := v2) (z := (S.A 40 v2)) (by decide +kernel) (hp40 _) g2 (eI_of _) rfl ?_
  by_cases b3 : (S.A 40 v1) = (S.A 40 v2)
  · replace h := if_t b3 h
    refine Ru.br2 (k := .eq) (off := 5) (bb := true) (tg := 17) (by decide +kernel) (by decide +kernel) (ci_eq1 (inR_to _) (inR_to _) b3) rfl ?_
    refine Ru.op (q := (.aload_n 0, 1)) (S' := (18, _, _, _, _)) (by decide +kernel) rfl ?_
    refine Ru.getR (pc' := 21) (i := 17) (ci := 10) (k := 4) (nn := 0) (z := 0) (v := .ref 38) (by decide +kernel) (by decide +kernel) (hp36 _) (by decide) rfl rfl ?_
    refine Ru.op (q := (.aload_n 0, 1)) (S' := (22, _, _, _, _)) (by decide +kernel) rfl ?_
    refine Ru.getR (pc' := 25) (i := 20) (ci := 10) (k := 5) (nn := 0) (z := 0) (v := .ref 39) (by decide +kernel) (by decide +kernel) (hp36 _) (by decide) rfl rfl ?_
    refine Ru.op (q := (.iload_n 1, 1)) (S' := (26, _, _, _, _)) (by decide +kernel) rfl ?_
    refine Ru.ildI (pc' := 27) (i := v1) (z := (S.A 39 v1)) (by decide +kernel) (hp39 _) g1 (eI_of _) rfl ?_
    obtain ⟨o4, e5, h⟩ := ob_some h
    refine Ru.callI (pc' := 30) (q := (.invokestatic 233, 3)) (j2 := 125) (as := [.ref 38, vI (S.A 39 v1)]) (st' := [vI o4]) (by decide +kernel) rfl rfl rfl rfl ⟨(Nat.le_of_ble_eq_true rfl), (by show 19 + 4 ≤ 263; exact Nat.le_of_ble_eq_true rfl), Nat.le_of_ble_eq_true rfl, Nat.le_of_ble_eq_true rfl⟩ ((g125_ok e5).up (Nat.le_of_ble_eq_true rfl) (Nat.le_of_ble_eq_true rfl)) rfl rfl ?_
    refine Ru.op (q := (.istore_n 3, 1)) (S' := (31, [some (.ref 36), some (vI v1), some (vI v2), some (vI o4), none, none, none, none, none, none], [], _, _)) (by decide +kernel) rfl ?_
    refine Ru.op (q := (.aload_n 0, 1)) (S' := (32, _, _, _, _)) (by decide +kernel) rfl ?_
    refine Ru.getR (pc' := 35) (i := 20) (ci := 10) (k := 5) (nn := 0) (z := 0) (v := .ref 39) (by decide +kernel) (by decide +kernel) (hp36 _) (by decide) rfl rfl ?_
    refine Ru.op (q := (.iload_n 2, 1)) (S' := (36, _, _, _, _)) (by decide +kernel) rfl ?_
    refine Ru.ildI (pc' := 37) (i := v2) (z := (S.A 39 v2)) (by decide +kernel) (hp39 _) g2 (eI_of _) rfl ?_
    refine Ru.op (q := (.istore 4, 2)) (S' := (39, [some (.ref 36), some (vI v1), some (vI v2), some (vI o4), some (vI (S.A 39 v2)), none, none, none, none, none], [], _, _)) (by decide +kernel) rfl ?_
    refine Ru.op (q := (.aload_n 0, 1)) (S' := (40, _, _, _, _)) (by decide +kernel) rfl ?_
    refine Ru.getR (pc' := 43) (i := 20) (ci := 10) (k := 5) (nn := 0) (z := 0) (v := .ref 39) (by decide +kernel) (by decide +kernel) (hp36 _) (by decide) rfl rfl ?_
    refine Ru.op (q := (.iload_n 1, 1)) (S' := (44, _, _, _, _)) (by decide +kernel) rfl ?_
    refine Ru.ildI (pc' := 45) (i := v1) (z := (S.A 39 v1)) (by decide +kernel) (hp39 _) g1 (eI_of _) rfl ?_
    refine Ru.op (q := (.istore 5, 2)) (S' := (47, [some (.ref 36), some (vI v1), some (vI v2), some (vI o4), some (vI (S.A 39 v2)), some (vI (S.A 39 v1)), none, none, none, none], [], _, _)) (by decide +kernel) rfl ?_
    rcases obr_some h with ⟨o123, e134, h⟩ | e134
    · refine g131L47_ok FU _ _ _ _ _ _ _ _ _ ⟨rfl, rfl, rfl, rfl, rfl, rfl, trivial⟩ _ e134 _ (fun o' e' => ?_) (fun o' e' => by cases e')
      cases e'
      intro d124 d125 d126 d127 d128 d129 d130 d131 d132 d133 hd135
      refine Ru.kI (q := (.iconst 1, 1)) (c := 1) (pc' := 228) (by decide +kernel) rfl (by decide) rfl ?_
      cases h
      exact Ru.iret (by decide +kernel) rfl (nar_b1 (by decide))
    · exact g131L47_ok FU _ _ _ _ _ _ _ _ _ ⟨rfl, rfl, rfl, rfl, rfl, rfl, trivial⟩ _ e134 _ (fun o' e' => by cases e') (fun o' e' => by cases e'; rfl)
  · replace h := if_f b3 h
    refine Ru.br2 (k := .eq) (off := 5) (bb := false) (tg := 15) (by decide +kernel) (by decide +kernel) (ci_eq0 (inR_to _) (inR_to _) b3) rfl ?_
    refine Ru.kI (q := (.iconst 0, 1)) (c := 0) (pc' := 16) (by decide +kernel) rfl (by decide) rfl ?_
    cases h
    exact Ru.iret (by decide +kernel) rfl (nar_b1 (by decide))
set_option maxRecDepth 100000 in
set_option maxHeartbeats 4000000 in
theorem g130L22_ok {S : St} {v1 : Int} {v2 : Int} : ∀ (n : Nat) (v3 : Int) (v4 : Int) (d5 d6 d7 : Option Value) (_ : DD [d5, d6, d7]) (out : Int), g130L22 S v1 v2 n v3 v4 = some out → ∀ r, (∀ (e4 e5 e6 e7 : Option Value), DD [e4, e5, e6, e7] → Ru none 14 292 130 (48, [some (.ref 36), some (vI v1), some (vI v2), some (vI out), e4, e5, e6, e7], [], S.ns, Hp S) r) → Ru none 14 292 130 (22, [some (.ref 36), some (vI v1), some (vI v2), some (vI v3), some (vI v4), d5, d6, d7], [], S.ns, Hp S) r := by
  intro n
  induction n with
  | zero => intro v3 v4 d5 d6 d7 hdd out h; cases h
  | succ n ih =>
    intro v3 v4 d5 d6 d7 hdd out h r hk
    unfold g130L22 at h
    refine Ru.op (q := (.iload 4, 2)) (S' := (24, _, _, _, _)) (by decide +kernel) rfl ?_
    refine Ru.op (q := (.aload_n 0, 1)) (S' := (25, _, _, _, _)) (by decide +kernel) rfl ?_
    refine Ru.getR (pc' := 28) (i := 27) (ci := 10) (k := 7) (nn := 0) (z := 0) (v := .ref 41) (by decide +kernel) (by decide +kernel) (hp36 _) (by decide) rfl rfl ?_
    refine Ru.op (q := (.iload_n 1, 1)) (S' := (29, _, _, _, _)) (by decide +kernel) rfl ?_
    obtain ⟨g4, h⟩ := gd_some h
    refine Ru.ildI (pc' := 30) (i := v1) (z := (S.A 41 v1)) (by decide +kernel) (hp41 _) g4 (eI_of _) rfl ?_
    obtain ⟨g5, h⟩ := gd_some h
    by_cases b6 : v4 < (S.A 41 v1)
    · replace h := if_t b6 h
      refine Ru.br2 (k := .ge) (off := 18) (bb := false) (tg := 33) (by decide +kernel) (by decide +kernel) (ci_ge0 g5 (inR_to _) b6) rfl ?_
      refine Ru.op (q := (.iload_n 3, 1)) (S' := (34, _, _, _, _)) (by decide +kernel) rfl ?_
      refine Ru.op (q := (.aload_n 0, 1)) (S' := (35, _, _, _, _)) (by decide +kernel) rfl ?_
      refine Ru.getR (pc' := 38) (i := 27) (ci := 10) (k := 7) (nn := 0) (z := 0) (v := .ref 41) (by decide +kernel) (by decide +kernel) (hp36 _) (by decide) rfl rfl ?_
      refine Ru.op (q := (.iload_n 2, 1)) (S' := (39, _, _, _, _)) (by decide +kernel) rfl ?_
      obtain ⟨g7, h⟩ := gd_some h
      refine Ru.ildI (pc' := 40) (i := v2) (z := (S.A 41 v2)) (by decide +kernel) (hp41 _) g7 (eI_of _) rfl ?_
      refine Ru.ar2 (i := .imul) (z := (v3 * (S.A 41 v2))) (pc' := 41) (by decide +kernel) rfl (ar_mul _ _) rfl ?_
      refine Ru.op (q := (.istore_n 3, 1)) (S' := (42, [some (.ref 36), some (vI v1), some (vI v2), some (vI (v3 * (S.A 41 v2))), some (vI v4), d5, d6, d7], [], _, _)) (by decide +kernel) rfl ?_
      refine Ru.inc (k := 4) (n := 1) (x := v4) (z := (v4 + 1)) (xs' := [some (.ref 36), some (vI v1), some (vI v2), some (vI (v3 * (S.A 41 v2))), some (vI (v4 + 1)), d5, d6, d7]) (pc' := 45) (by decide +kernel) rfl rfl rfl rfl ?_
      refine Ru.op (q := (.goto (-23), 3)) (S' := (22, _, _, _, _)) (by decide +kernel) rfl ?_
      exact ih _ _ _ _ _ ⟨hdd.1, hdd.2.1, hdd.2.2.1, trivial⟩ _ h r hk
    · replace h := if_f b6 h
      refine Ru.br2 (k := .ge) (off := 18) (bb := true) (tg := 48) (by decide +kernel) (by decide +kernel) (ci_ge1 g5 (inR_to _) b6) rfl ?_
      cases h
      exact hk _ _ _ _ ⟨rfl, hdd.1, hdd.2.1, hdd.2.2.1, trivial⟩
set_option maxRecDepth 100000 in
set_option maxHeartbeats 4000000 in
theorem g130L60_ok {v1 : Int} {v2 : Int} {v3 : Int} {v4 : Int} : ∀ (n : Nat) (v5 : Int) (S : St) (d6 d7 : Option Value) (_ : DD [d6, d7]) (out : St), g130L60 v1 v2 v3 v4 n v5 S = some out → ∀ r, (∀ (e5 e6 e7 : Option Value), DD [e5, e6, e7] → Ru none 14 292 130 (81, [some (.ref 36), some (vI v1), some (vI v2), some (vI v3), some (vI v4), e5, e6, e7], [], out.ns, Hp out) r) → Ru none 14 292 130 (60, [some (.ref 36), some (vI v1), some (vI v2), some (vI v3), some (vI v4), some (vI v5), d6, d7], [], S.ns, Hp S) r := by
  intro n
  induction n with
  | zero => intro v5 S d6 d7 hdd out h; cases h
  | succ n ih =>
    intro v5 S d6 d7 hdd out h r hk
    unfold g130L60 at h
    refine Ru.op (q := (.iload 5, 2)) (S' := (62, _, _, _, _)) (by decide +kernel) rfl ?_
    refine Ru.kI (q := (.bipush 64, 2)) (c := 64) (pc' := 64) (by decide +kernel) rfl (by decide) rfl ?_
    obtain ⟨g18, h⟩ := gd_some h
    by_cases b19 : v5 < 64
    · replace h := if_t b19 h
      refine Ru.br2 (k := .ge) (off := 17) (bb := false) (tg := 67) (by decide +kernel) (by decide +kernel) (ci_ge0 g18 (by decide) b19) rfl ?_
      refine Ru.op (q := (.aload_n 0, 1)) (S' := (68, _, _, _, _)) (by decide +kernel) rfl ?_
      refine Ru.getR (pc' := 71) (i := 93) (ci := 10) (k := 49) (nn := 0) (z := 0) (v := .ref 62) (by decide +kernel) (by decide +kernel) (hp36 _) (by decide) rfl rfl ?_
      refine Ru.op (q := (.iload 5, 2)) (S' := (73, _, _, _, _)) (by decide +kernel) rfl ?_
      refine Ru.kI (q := (.iconst (-1), 1)) (c := (-1)) (pc' := 74) (by decide +kernel) rfl (by decide) rfl ?_
      obtain ⟨g20, h⟩ := gd_some h
      refine Ru.istI (pc' := 75) (i := v5) (x := (-1)) (by decide +kernel) (hp62 _) g20 (ps_62 _ _ _) rfl ?_
      refine Ru.inc (k := 5) (n := 1) (x := v5) (z := (v5 + 1)) (xs' := [some (.ref 36), some (vI v1), some (vI v2), some (vI v3), some (vI v4), some (vI (v5 + 1)), d6, d7]) (pc' := 78) (by decide +kernel) rfl rfl rfl rfl ?_
      refine Ru.op (q := (.goto (-18), 3)) (S' := (60, _, _, _, _)) (by decide +kernel) rfl ?_
      exact ih _ _ _ _ ⟨hdd.1, hdd.2.1, trivial⟩ _ h r hk
    · replace h := if_f b19 h
      refine Ru.br2 (k := .ge) (off := 17) (bb := true) (tg := 81) (by decide +kernel) (by decide +kernel) (ci_ge1 g18 (by decide) b19) rfl ?_
      cases h
      exact hk _ _ _ ⟨rfl, hdd.1, hdd.2.1, trivial⟩
set_option maxRecDepth 100000 in
set_option maxHeartbeats 4000000 in
theorem g130L91_ok {v1 : Int} {v2 : Int} {v3 : Int} {v4 : Int} : ∀ (n : Nat) (v5 : Int) (v6 : Int) (v7 : Int) (S : St) (_ : DD []) (out : Int × St), g130L91 v1 v2 v3 v4 n v5 v6 v7 S = some out → ∀ r, (∀ (e6 e7 : Option Value), DD [e6, e7] → Ru none 14 292 130 (149, [some (.ref 36), some (vI v1), some (vI v2), some (vI v3), some (vI v4), some (vI out.1), e6, e7], [], out.2.ns, Hp out.2) r) → Ru none 14 292 130 (91, [some (.ref 36), some (vI v1), some (vI v2), some (vI v3), some (vI v4), some (vI v5), some (vI v6), some (vI v7)], [], S.ns, Hp S) r := by
  intro n
  induction n with
  | zero => intro v5 v6 v7 S hdd out h; cases h
  | succ n ih =>
    intro v5 v6 v7 S hdd out h r hk
    unfold g130L91 at h
    refine Ru.op (q := (.iload 7, 2)) (S' := (93, _, _, _, _)) (by decide +kernel) rfl ?_
    refine Ru.op (q := (.aload_n 0, 1)) (S' := (94, _, _, _, _)) (by decide +kernel) rfl ?_
    refine Ru.getR (pc' := 97) (i := 27) (ci := 10) (k := 7) (nn := 0) (z := 0) (v := .ref 41) (by decide +kernel) (by decide +kernel) (hp36 _) (by decide) rfl rfl ?_
    refine Ru.op (q := (.iload_n 1, 1)) (S' := (98, _, _, _, _)) (by decide +kernel) rfl ?_
    obtain ⟨g27, h⟩ := gd_some h
    refine Ru.ildI (pc' := 99) (i := v1) (z := (S.A 41 v1)) (by decide +kernel) (hp41 _) g27 (eI_of _) rfl ?_
    obtain ⟨g28, h⟩ := gd_some h
    by_cases b29 : v7 < (S.A 41 v1)
    · replace h := if_t b29 h
      refine Ru.br2 (k := .ge) (off := 50) (bb := false) (tg := 102) (by decide +kernel) (by decide +kernel) (ci_ge0 g28 (inR_to _) b29) rfl ?_
      refine Ru.op (q := (.iload 5, 2)) (S' := (104, _, _, _, _)) (by decide +kernel) rfl ?_
      obtain ⟨g30, h⟩ := gd_some h
      by_cases b31 : v5 = 0
      · replace h := if_t b31 h
        refine Ru.br (k := .eq) (off := 45) (bb := true) (tg := 149) (by decide +kernel) (by decide +kernel) (cz (ci_eq1 g30 (by decide) b31)) rfl ?_
        cases h
        exact hk _ _ ⟨rfl, rfl, trivial⟩
      · replace h := if_f b31 h
        refine Ru.br (k := .eq) (off := 45) (bb := false) (tg := 107) (by decide +kernel) (by decide +kernel) (cz (ci_eq0 g30 (by decide) b31)) rfl ?_
        refine Ru.op (q := (.aload_n 0, 1)) (S' := (108, _, _, _, _)) (by decide +kernel) rfl ?_
        refine Ru.kI (q := (.iconst 4, 1)) (c := 4) (pc' := 109) (by decide +kernel) rfl (by decide) rfl ?_
        refine Ru.op (q := (.iload_n 1, 1)) (S' := (110, _, _, _, _)) (by decide +kernel) rfl ?_
        refine Ru.ar2 (i := .imul) (z := (4 * v1)) (pc' := 111) (by decide +kernel) rfl (ar_mul _ _) rfl ?_
        refine Ru.op (q := (.iload 7, 2)) (S' := (113, _, _, _, _)) (by decide +kernel) rfl ?_
        refine Ru.ar2 (i := .iadd) (z := ((4 * v1) + v7)) (pc' := 114) (by decide +kernel) rfl (ar_add _ _) rfl ?_
        refine Ru.kI (q := (.iconst 4, 1)) (c := 4) (pc' := 115) (by decide +kernel) rfl (by decide) rfl ?_
        refine Ru.op (q := (.iload_n 2, 1)) (S' := (116, _, _, _, _)) (by decide +kernel) rfl ?_
        refine Ru.ar2 (i := .imul) (z := (4 * v2)) (pc' := 117) (by decide +kernel) rfl (ar_mul _ _) rfl ?_
        refine Ru.op (q := (.iload 6, 2)) (S' := (119, _, _, _, _)) (by decide +kernel) rfl ?_
        refine Ru.op (q := (.aload_n 0, 1)) (S' := (120, _, _, _, _)) (by decide +kernel) rfl ?_
        refine Ru.getR (pc' := 123) (i := 27) (ci := 10) (k := 7) (nn := 0) (z := 0) (v := .ref 41) (by decide +kernel) (by decide +kernel) (hp36 _) (by decide) rfl rfl ?_
        refine Ru.op (q := (.iload_n 2, 1)) (S' := (124, _, _, _, _)) (by decide +kernel) rfl ?_
        obtain ⟨g32, h⟩ := gd_some h
        refine Ru.ildI (pc' := 125) (i := v2) (z := (S.A 41 v2)) (by decide +kernel) (hp41 _) g32 (eI_of _) rfl ?_
        obtain ⟨g33, h⟩ := gd_some h
        refine Ru.ar2 (i := .irem) (z := (v6 % (S.A 41 v2))) (pc' := 126) (by decide +kernel) rfl (ar_rem g33) rfl ?_
        refine Ru.ar2 (i := .iadd) (z := ((4 * v2) + (v6 % (S.A 41 v2)))) (pc' := 127) (by decide +kernel) rfl (ar_add _ _) rfl ?_
        obtain ⟨o34, e35, h⟩ := ob_some h
        refine Ru.vcallI (pc' := 130) (st' := [vI o34.1]) (i := 260) (j2 := 131) (ci := 10) (k := 0) (z := 0) (as := [vI ((4 * v1) + v7), vI ((4 * v2) + (v6 % (S.A 41 v2)))]) (by decide +kernel) (by decide +kernel) rfl rfl (hp36 _) (by decide) ⟨(Nat.le_of_ble_eq_true rfl), (by show 19 + 10 ≤ 292; exact Nat.le_of_ble_eq_true rfl), Nat.le_of_ble_eq_true rfl, Nat.le_of_ble_eq_true rfl⟩ ((g131_ok e35).up (Nat.le_of_ble_eq_true rfl) (Nat.le_of_ble_eq_true rfl)) rfl rfl ?_
        refine Ru.op (q := (.istore 5, 2)) (S' := (132, [some (.ref 36), some (vI v1), some (vI v2), some (vI v3), some (vI v4), some (vI o34.1), some (vI v6), some (vI v7)], [], _, _)) (by decide +kernel) rfl ?_
        refine Ru.op (q := (.iload 6, 2)) (S' := (134, _, _, _, _)) (by decide +kernel) rfl ?_
        refine Ru.op (q := (.aload_n 0, 1)) (S' := (135, _, _, _, _)) (by decide +kernel) rfl ?_
        refine Ru.getR (pc' := 138) (i := 27) (ci := 10) (k := 7) (nn := 0) (z := 0) (v := .ref 41) (by decide +kernel) (by decide +kernel) (hp36 _) (by decide) rfl rfl ?_
        refine Ru.op (q := (.iload_n 2, 1)) (S' := (139, _, _, _, _)) (by decide +kernel) rfl ?_
        refine Ru.ildI (pc' := 140) (i := v2) (z := (o34.2.A 41 v2)) (by decide +kernel) (hp41 _) g32 (eI_of _) rfl ?_
        obtain ⟨g36, h⟩ := gd_some h
        refine Ru.ar2 (i := .idiv) (z := (v6 / (o34.2.A 41 v2))) (pc' := 141) (by decide +kernel) rfl (ar_div g36) rfl ?_
        refine Ru.op (q := (.istore 6, 2)) (S' := (143, [some (.ref 36), some (vI v1), some (vI v2), some (vI v3), some (vI v4), some (vI o34.1), some (vI (v6 / (o34.2.A 41 v2))), some (vI v7)], [], _, _)) (by decide +kernel) rfl ?_
        refine Ru.inc (k := 7) (n := 1) (x := v7) (z := (v7 + 1)) (xs' := [some (.ref 36), some (vI v1), some (vI v2), some (vI v3), some (vI v4), some (vI o34.1), some (vI (v6 / (o34.2.A 41 v2))), some (vI (v7 + 1))]) (pc' := 146) (by decide +kernel) rfl rfl rfl rfl ?_
        refine Ru.op (q := (.goto (-55), 3)) (S' := (91, _, _, _, _)) (by decide +kernel) rfl ?_
        exact ih _ _ _ _ trivial _ h r hk
    · replace h := if_f b29 h
      refine Ru.br2 (k := .ge) (off := 50) (bb := true) (tg := 149) (by decide +kernel) (by decide +kernel) (ci_ge1 g28 (inR_to _) b29) rfl ?_
      cases h
      exact hk _ _ ⟨rfl, rfl, trivial⟩
set_option maxRecDepth 100000 in
set_option maxHeartbeats 4000000 in
theorem g130L51_ok {v1 : Int} {v2 : Int} {v3 : Int} : ∀ (n : Nat) (v4 : Int) (S : St) (d5 d6 d7 : Option Value) (_ : DD [d5, d6, d7]) (out : Sum (St) (Int × St)), g130L51 v1 v2 v3 n v4 S = some out → ∀ r, (∀ o, out = .inl o → ∀ (e0 e1 e2 e3 e4 e5 e6 e7 : Option Value), DD [e0, e1, e2, e3, e4, e5, e6, e7] → Ru none 14 292 130 (162, [e0, e1, e2, e3, e4, e5, e6, e7], [], o.ns, Hp o) r) → (∀ o, out = .inr o → r = ((0, some (vI o.1)), o.2.ns, Hp o.2)) → Ru none 14 292 130 (51, [some (.ref 36), some (vI v1), some (vI v2), some (vI v3), some (vI v4), d5, d6, d7], [], S.ns, Hp S) r := by
  intro n
  induction n with
  | zero => intro v4 S d5 d6 d7 hdd out h; cases h
  | succ n ih =>
    intro v4 S d5 d6 d7 hdd out h r hk hr
    unfold g130L51 at h
    refine Ru.op (q := (.iload 4, 2)) (S' := (53, _, _, _, _)) (by decide +kernel) rfl ?_
    refine Ru.op (q := (.iload_n 3, 1)) (S' := (54, _, _, _, _)) (by decide +kernel) rfl ?_
    obtain ⟨g44, h⟩ := gd_some h
    obtain ⟨g45, h⟩ := gd_some h
    by_cases b46 : v4 < v3
    · replace h := if_t b46 h
      refine Ru.br2 (k := .ge) (off := 108) (bb := false) (tg := 57) (by decide +kernel) (by decide +kernel) (ci_ge0 g44 g45 b46) rfl ?_
      refine Ru.kI (q := (.iconst 0, 1)) (c := 0) (pc' := 58) (by decide +kernel) rfl (by decide) rfl ?_
      refine Ru.op (q := (.istore 5, 2)) (S' := (60, [some (.ref 36), some (vI v1), some (vI v2), some (vI v3), some (vI v4), some (vI 0), d6, d7], [], _, _)) (by decide +kernel) rfl ?_
      obtain ⟨o47, e51, h⟩ := ob_some h
      refine g130L60_ok FU _ _ _ _ ⟨hdd.2.1, hdd.2.2.1, trivial⟩ _ e51 _ ?_
      intro d48 d49 d50 hd52
      refine Ru.kI (q := (.iconst 1, 1)) (c := 1) (pc' := 82) (by decide +kernel) rfl (by decide) rfl ?_
      refine Ru.op (q := (.istore 5, 2)) (S' := (84, [some (.ref 36), some (vI v1), some (vI v2), some (vI v3), some (vI v4), some (vI 1), d49, d50], [], _, _)) (by decide +kernel) rfl ?_
      refine Ru.op (q := (.iload 4, 2)) (S' := (86, _, _, _, _)) (by decide +kernel) rfl ?_
      refine Ru.op (q := (.istore 6, 2)) (S' := (88, [some (.ref 36), some (vI v1), some (vI v2), some (vI v3), some (vI v4), some (vI 1), some (vI v4), d50], [], _, _)) (by decide +kernel) rfl ?_
      refine Ru.kI (q := (.iconst 0, 1)) (c := 0) (pc' := 89) (by decide +kernel) rfl (by decide) rfl ?_
      refine Ru.op (q := (.istore 7, 2)) (S' := (91, [some (.ref 36), some (vI v1), some (vI v2), some (vI v3), some (vI v4), some (vI 1), some (vI v4), some (vI 0)], [], _, _)) (by decide +kernel) rfl ?_
      obtain ⟨o53, e56, h⟩ := ob_some h
      refine g130L91_ok FU _ _ _ _ trivial _ e56 _ ?_
      intro d54 d55 hd57
      refine Ru.op (q := (.iload 5, 2)) (S' := (151, _, _, _, _)) (by decide +kernel) rfl ?_
      obtain ⟨g58, h⟩ := gd_some h
      by_cases b59 : o53.1 = 0
      · replace h := if_t b59 h
        refine Ru.br (k := .eq) (off := 5) (bb := true) (tg := 156) (by decide +kernel) (by decide +kernel) (cz (ci_eq1 g58 (by decide) b59)) rfl ?_
        refine Ru.inc (k := 4) (n := 1) (x := v4) (z := (v4 + 1)) (xs' := [some (.ref 36), some (vI v1), some (vI v2), some (vI v3), some (vI (v4 + 1)), some (vI o53.1), d54, d55]) (pc' := 159) (by decide +kernel) rfl rfl rfl rfl ?_
        refine Ru.op (q := (.goto (-108), 3)) (S' := (51, _, _, _, _)) (by decide +kernel) rfl ?_
        exact ih _ _ _ _ _ ⟨rfl, hd57.1, hd57.2.1, trivial⟩ _ h r hk hr
      · replace h := if_f b59 h
        refine Ru.br (k := .eq) (off := 5) (bb := false) (tg := 154) (by decide +kernel) (by decide +kernel) (cz (ci_eq0 g58 (by decide) b59)) rfl ?_
        refine Ru.kI (q := (.iconst 1, 1)) (c := 1) (pc' := 155) (by decide +kernel) rfl (by decide) rfl ?_
        cases h
        have h9 := hr _ rfl
        subst h9
        exact Ru.iret (by decide +kernel) rfl (nar_b1 (by decide))
    · replace h := if_f b46 h
      refine Ru.br2 (k := .ge) (off := 108) (bb := true) (tg := 162) (by decide +kernel) (by decide +kernel) (ci_ge1 g44 g45 b46) rfl ?_
      cases h
      exact hk _ rfl _ _ _ _ _ _ _ _ ⟨rfl, rfl, rfl, rfl, rfl, hdd.1, hdd.2.1, hdd.2.2.1, trivial⟩
set_option maxRecDepth 100000 in
set_option maxHeartbeats 4000000 in
theorem g130_ok {S : St} {v1 : Int} {v2 : Int} {o : Int × St} (h : g130 S v1 v2 = some o) : Ru none 14 292 130 (0, mn_pad (mn_ent [.ref 36, vI v1, vI v2]) 8, [], S.ns, Hp S) ((0, some (vI o.1)), o.2.ns, Hp o.2) := by
  unfold g130 at h
  show Ru none 14 292 130 (0, [some (.ref 36), some (vI v1), some (vI v2), none, none, none, none, none], [], S.ns, Hp S) _
  refine Ru.op (q := (.aload_n 0, 1)) (S' := (1, _, _, _, _)) (by decide +kernel) rfl ?_
  refine Ru.getR (pc' := 4) (i := 27) (ci := 10) (k := 7) (nn := 0) (z := 0) (v := .ref 41) (by decide +kernel) (by decide +kernel) (hp36 _) (by decide) rfl rfl ?_
  refine Ru.op (q := (.iload_n 1, 1)) (S' := (5, _, _, _, _)) (by decide +kernel) rfl ?_
  obtain ⟨g1, h⟩ := gd_some h
  refine Ru.ildI (pc' := 6) (i := v1) (z := (S.A 41 v1)) (by decide +kernel) (hp41 _) g1 (eI_of _) rfl ?_
  refine Ru.op (q := (.aload_n 0, 1)) (S' := (7, _, _, _, _)) (by decide +kernel) rfl ?_
  refine Ru.getR (pc' := 10) (i := 27) (ci := 10) (k := 7) (nn := 0) (z := 0) (v := .ref 41) (by decide +kernel) (by decide +kernel) (hp36 _) (by decide) rfl rfl ?_
  refine Ru.op (q := (.iload_n 2, 1)) (S' := (11, _, _, _, _)) (by decide +kernel) rfl ?_
  obtain ⟨g2, h⟩ := gd_some h
  refine Ru.ildI (pc' := 12) (i := v2) (z := (S.A 41 v2)) (by decide +kernel) (hp41 _) g2 (eI_of _) rfl ?_
  by_cases b3 : (S.A 41 v2) < (S.A 41 v1)
  · replace h := if_t b3 h
    refine Ru.br2 (k := .le) (off := 5) (bb := false) (tg := 15) (by decide +kernel) (by decide +kernel) (ci_le0 (inR_to _) (inR_to _) b3) rfl ?_
    refine Ru.kI (q := (.iconst 0, 1)) (c := 0) (pc' := 16) (by decide +kernel) rfl (by decide) rfl ?_
    cases h
    exact Ru.iret (by decide +kernel) rfl (nar_b1 (by decide))
  · replace h := if_f b3 h
    refine Ru.br2 (k := .le) (off := 5) (bb := true) (tg := 17) (by decide +kernel) (by decide +kernel) (ci_le1 (inR_to _) (inR_to _) b3) rfl ?_
    refine Ru.kI (q := (.iconst 1, 1)) (c := 1) (pc' := 18) (by decide +kernel) rfl (by decide) rfl ?_
    refine Ru.op (q := (.istore_n 3, 1)) (S' := (19, [some (.ref 36), some (vI v1), some (vI v2), some (vI 1), none, none, none, none], [], _, _)) (by decide +kernel) rfl ?_
    refine Ru.kI (q := (.iconst 0, 1)) (c := 0) (pc' := 20) (by decide +kernel) rfl (by decide) rfl ?_
    refine Ru.op (q := (.istore 4, 2)) (S' := (22, [some (.ref 36), some (vI v1), some (vI v2), some (vI 1), some (vI 0), none, none, none], [], _, _)) (by decide +kernel) rfl ?_
    obtain ⟨o8, e13, h⟩ := ob_some h
    refine g130L22_ok FU _ _ _ _ _ ⟨rfl, rfl, rfl, trivial⟩ _ e13 _ ?_
    intro d9 d10 d11 d12 hd14
    refine Ru.kI (q := (.iconst 0, 1)) (c := 0) (pc' := 49) (by decide +kernel) rfl (by decide) rfl ?_
    refine Ru.op (q := (.istore 4, 2)) (S' := (51, [some (.ref 36), some (vI v1), some (vI v2), some (vI o8), some (vI 0), d10, d11, d12], [], _, _)) (by decide +kernel) rfl ?_
    rcases obr_some h with ⟨o60, e69, h⟩ | e69
    · refine g130L51_ok FU _ _ _ _ _ ⟨hd14.2.1, hd14.2.2.1, hd14.2.2.2.1, trivial⟩ _ e69 _ (fun o' e' => ?_) (fun o' e' => by cases e')
      cases e'
      intro d61 d62 d63 d64 d65 d66 d67 d68 hd70
      refine Ru.kI (q := (.iconst 0, 1)) (c := 0) (pc' := 163) (by decide +kernel) rfl (by decide) rfl ?_
      cases h
      exact Ru.iret (by decide +kernel) rfl (nar_b1 (by decide))
    · exact g130L51_ok FU _ _ _ _ _ ⟨hd14.2.1, hd14.2.2.1, hd14.2.2.2.1, trivial⟩ _ e69 _ (fun o' e' => by cases e') (fun o' e' => by cases e'; rfl)
set_option maxRecDepth 100000 in
set_option maxHeartbeats 4000000 in
theorem g129L4_ok : ∀ (n : Nat) (v1 : Int) (v2 : Int) (S : St) (_ : DD []) (out : Int × St), g129L4 n v1 v2 S = some out → ∀ r, (∀ (e0 e2 : Option Value), DD [e0, e2] → Ru none 15 319 129 (48, [e0, some (vI out.1), e2], [], out.2.ns, Hp out.2) r) → Ru none 15 319 129 (4, [some (.ref 36), some (vI v1), some (vI v2)], [], S.ns, Hp S) r := by
  intro n
  induction n with
  | zero => intro v1 v2 S hdd out h; cases h
  | succ n ih =>
    intro v1 v2 S hdd out h r hk
    unfold g129L4 at h
    refine Ru.op (q := (.iload_n 2, 1)) (S' := (5, _, _, _, _)) (by decide +kernel) rfl ?_
    refine Ru.op (q := (.aload_n 0, 1)) (S' := (6, _, _, _, _)) (by decide +kernel) rfl ?_
    refine Ru.getI (pc' := 9) (i := 263) (ci := 10) (k := 9) (nn := 0) (z := 0) (x := (S.F 36 9)) (by decide +kernel) (by decide +kernel) (hp36 _) (by decide) rfl (eI_of _) rfl ?_
    obtain ⟨g1, h⟩ := gd_some h
    by_cases b2 : v2 < (S.F 36 9)
    · replace h := if_t b2 h
      refine Ru.br2 (k := .ge) (off := 39) (bb := false) (tg := 12) (by decide +kernel) (by decide +kernel) (ci_ge0 g1 (inR_to _) b2) rfl ?_
      refine Ru.op (q := (.iload_n 1, 1)) (S' := (13, _, _, _, _)) (by decide +kernel) rfl ?_
      obtain ⟨g3, h⟩ := gd_some h
      by_cases b4 : v1 = 0
      · replace h := if_t b4 h
        refine Ru.br (k := .ne) (off := 35) (bb := false) (tg := 16) (by decide +kernel) (by decide +kernel) (cz (ci_ne0 g3 (by decide) b4)) rfl ?_
        refine Ru.op (q := (.aload_n 0, 1)) (S' := (17, _, _, _, _)) (by decide +kernel) rfl ?_
        refine Ru.getR (pc' := 20) (i := 33) (ci := 10) (k := 11) (nn := 0) (z := 0) (v := .ref 43) (by decide +kernel) (by decide +kernel) (hp36 _) (by decide) rfl rfl ?_
        refine Ru.op (q := (.iload_n 2, 1)) (S' := (21, _, _, _, _)) (by decide +kernel) rfl ?_
        obtain ⟨g5, h⟩ := gd_some h
        refine Ru.ildI (pc' := 22) (i := v2) (z := (S.A 43 v2)) (by decide +kernel) (hp43 _) g5 (eI_of _) rfl ?_
        refine Ru.kI (q := (.iconst 2, 1)) (c := 2) (pc' := 23) (by decide +kernel) rfl (by decide) rfl ?_
        by_cases b6 : (S.A 43 v2) < 2
        · replace h := if_t b6 h
          refine Ru.br2 (k := .ge) (off := 17) (bb := false) (tg := 26) (by decide +kernel) (by decide +kernel) (ci_ge0 (inR_to _) (by decide) b6) rfl ?_
          refine Ru.op (q := (.aload_n 0, 1)) (S' := (27, _, _, _, _)) (by decide +kernel) rfl ?_
          refine Ru.op (q := (.iload_n 2, 1)) (S' := (28, _, _, _, _)) (by decide +kernel) rfl ?_
          refine Ru.kI (q := (.bipush 124, 2)) (c := 124) (pc' := 30) (by decide +kernel) rfl (by decide) rfl ?_
          obtain ⟨o7, e8, h⟩ := ob_some h
          refine Ru.vcallI (pc' := 33) (st' := [vI o7.1]) (i := 266) (j2 := 130) (ci := 10) (k := 0) (z := 0) (as := [vI v2, vI 124]) (by decide +kernel) (by decide +kernel) rfl rfl (hp36 _) (by decide) ⟨(Nat.le_of_ble_eq_true rfl), (by show 19 + 8 ≤ 319; exact Nat.le_of_ble_eq_true rfl), Nat.le_of_ble_eq_true rfl, Nat.le_of_ble_eq_true rfl⟩ ((g130_ok e8).up (Nat.le_of_ble_eq_true rfl) (Nat.le_of_ble_eq_true rfl)) rfl rfl ?_
          obtain ⟨g9, h⟩ := gd_some h
          by_cases b10 : o7.1 = 0
          · replace h := if_t b10 h
            refine Ru.br (k := .eq) (off := 7) (bb := true) (tg := 40) (by decide +kernel) (by decide +kernel) (cz (ci_eq1 g9 (by decide) b10)) rfl ?_
            refine Ru.kI (q := (.iconst 0, 1)) (c := 0) (pc' := 41) (by decide +kernel) rfl (by decide) rfl ?_
            refine Ru.op (q := (.istore_n 1, 1)) (S' := (42, [some (.ref 36), some (vI 0), some (vI v2)], [], _, _)) (by decide +kernel) rfl ?_
            refine Ru.inc (k := 2) (n := 1) (x := v2) (z := (v2 + 1)) (xs' := [some (.ref 36), some (vI 0), some (vI (v2 + 1))]) (pc' := 45) (by decide +kernel) rfl rfl rfl rfl ?_
            refine Ru.op (q := (.goto (-41), 3)) (S' := (4, _, _, _, _)) (by decide +kernel) rfl ?_
            exact ih _ _ _ trivial _ h r hk
          · replace h := if_f b10 h
            refine Ru.br (k := .eq) (off := 7) (bb := false) (tg := 36) (by decide +kernel) (by decide +kernel) (cz (ci_eq0 g9 (by decide) b10)) rfl ?_
            refine Ru.kI (q := (.iconst 1, 1)) (c := 1) (pc' := 37) (by decide +kernel) rfl (by decide) rfl ?_
            refine Ru.op (q := (.goto 4, 3)) (S' := (41, _, _, _, _)) (by decide +kernel) rfl ?_
            refine Ru.op (q := (.istore_n 1, 1)) (S' := (42, [some (.ref 36), some (vI 1), some (vI v2)], [], _, _)) (by decide +kernel) rfl ?_
            refine Ru.inc (k := 2) (n := 1) (x := v2) (z := (v2 + 1)) (xs' := [some (.ref 36), some (vI 1), some (vI (v2 + 1))]) (pc' := 45) (by decide +kernel) rfl rfl rfl rfl ?_
            refine Ru.op (q := (.goto (-41), 3)) (S' := (4, _, _, _, _)) (by decide +kernel) rfl ?_
            exact ih _ _ _ trivial _ h r hk
        · replace h := if_f b6 h
          refine Ru.br2 (k := .ge) (off := 17) (bb := true) (tg := 40) (by decide +kernel) (by decide +kernel) (ci_ge1 (inR_to _) (by decide) b6) rfl ?_
          refine Ru.kI (q := (.iconst 0, 1)) (c := 0) (pc' := 41) (by decide +kernel) rfl (by decide) rfl ?_
          refine Ru.op (q := (.istore_n 1, 1)) (S' := (42, [some (.ref 36), some (vI 0), some (vI v2)], [], _, _)) (by decide +kernel) rfl ?_
          refine Ru.inc (k := 2) (n := 1) (x := v2) (z := (v2 + 1)) (xs' := [some (.ref 36), some (vI 0), some (vI (v2 + 1))]) (pc' := 45) (by decide +kernel) rfl rfl rfl rfl ?_
          refine Ru.op (q := (.goto (-41), 3)) (S' := (4, _, _, _, _)) (by decide +kernel) rfl ?_
          exact ih _ _ _ trivial _ h r hk
      · replace h := if_f b4 h
        refine Ru.br (k := .ne) (off := 35) (bb := true) (tg := 48) (by decide +kernel) (by decide +kernel) (cz (ci_ne1 g3 (by decide) b4)) rfl ?_
        cases h
        exact hk _ _ ⟨rfl, rfl, trivial⟩
    · replace h := if_f b2 h
      refine Ru.br2 (k := .ge) (off := 39) (bb := true) (tg := 48) (by decide +kernel) (by decide +kernel) (ci_ge1 g1 (inR_to _) b2) rfl ?_
      cases h
      exact hk _ _ ⟨rfl, rfl, trivial⟩
set_option maxRecDepth 100000 in
set_option maxHeartbeats 4000000 in
theorem g129_ok {S : St} {o : Int × St} (h : g129 S  = some o) : Ru none 15 319 129 (0, mn_pad (mn_ent [.ref 36]) 3, [], S.ns, Hp S) ((0, some (vI o.1)), o.2.ns, Hp o.2) := by
  unfold g129 at h
  show Ru none 15 319 129 (0, [some (.ref 36), none, none], [], S.ns, Hp S) _
  refine Ru.kI (q := (.iconst 0, 1)) (c := 0) (pc' := 1) (by decide +kernel) rfl (by decide) rfl ?_
  refine Ru.op (q := (.istore_n 1, 1)) (S' := (2, [some (.ref 36), some (vI 0), none], [], _, _)) (by decide +kernel) rfl ?_
  refine Ru.kI (q := (.iconst 0, 1)) (c := 0) (pc' := 3) (by decide +kernel) rfl (by decide) rfl ?_
  refine Ru.op (q := (.istore_n 2, 1)) (S' := (4, [some (.ref 36), some (vI 0), some (vI 0)], [], _, _)) (by decide +kernel) rfl ?_
  obtain ⟨o11, e14, h⟩ := ob_some h
  refine g129L4_ok FU _ _ _ trivial _ e14 _ ?_
  intro d12 d13 hd15
  refine Ru.op (q := (.iload_n 1, 1)) (S' := (49, _, _, _, _)) (by decide +kernel) rfl ?_
  obtain ⟨g16, h⟩ := gd_some h
  cases h
  exact Ru.iret (by decide +kernel) rfl (nar_b1 g16)
set_option maxRecDepth 100000 in
set_option maxHeartbeats 4000000 in
theorem g132L2_ok {v1 : Int} : ∀ (n : Nat) (v2 : Int) (S : St) (_ : DD []) (out : St), g132L2 v1 n v2 S = some out → ∀ r, (∀ (e2 : Option Value), DD [e2] → Ru none 10 200 132 (40, [some (.ref 36), some (vI v1), e2], [], out.ns, Hp out) r) → Ru none 10 200 132 (2, [some (.ref 36), some (vI v1), some (vI v2)], [], S.ns, Hp S) r := by
  intro n
  induction n with
  | zero => intro v2 S hdd out h; cases h
  | succ n ih =>
    intro v2 S hdd out h r hk
    unfold g132L2 at h
    refine Ru.op (q := (.iload_n 2, 1)) (S' := (3, _, _, _, _)) (by decide +kernel) rfl ?_
    refine Ru.op (q := (.aload_n 0, 1)) (S' := (4, _, _, _, _)) (by decide +kernel) rfl ?_
    refine Ru.getR (pc' := 7) (i := 30) (ci := 10) (k := 8) (nn := 0) (z := 0) (v := .ref 42) (by decide +kernel) (by decide +kernel) (hp36 _) (by decide) rfl rfl ?_
    refine Ru.kI (q := (.bipush 124, 2)) (c := 124) (pc' := 9) (by decide +kernel) rfl (by decide) rfl ?_
    refine Ru.ildI (pc' := 10) (i := 124) (z := (S.A 42 124)) (by decide +kernel) (hp42 _) (by decide) (eI_of _) rfl ?_
    obtain ⟨g1, h⟩ := gd_some h
    by_cases b2 : v2 < (S.A 42 124)
    · replace h := if_t b2 h
      refine Ru.br2 (k := .ge) (off := 30) (bb := false) (tg := 13) (by decide +kernel) (by decide +kernel) (ci_ge0 g1 (inR_to _) b2) rfl ?_
      refine Ru.op (q := (.aload_n 0, 1)) (S' := (14, _, _, _, _)) (by decide +kernel) rfl ?_
      refine Ru.getR (pc' := 17) (i := 17) (ci := 10) (k := 4) (nn := 0) (z := 0) (v := .ref 38) (by decide +kernel) (by decide +kernel) (hp36 _) (by decide) rfl rfl ?_
      refine Ru.kI (q := (.bipush 64, 2)) (c := 64) (pc' := 19) (by decide +kernel) rfl (by decide) rfl ?_
      refine Ru.op (q := (.iload_n 1, 1)) (S' := (20, _, _, _, _)) (by decide +kernel) rfl ?_
      refine Ru.ar2 (i := .imul) (z := (64 * v1)) (pc' := 21) (by decide +kernel) rfl (ar_mul _ _) rfl ?_
      refine Ru.op (q := (.iload_n 2, 1)) (S' := (22, _, _, _, _)) (by decide +kernel) rfl ?_
      refine Ru.ar2 (i := .iadd) (z := ((64 * v1) + v2)) (pc' := 23) (by decide +kernel) rfl (ar_add _ _) rfl ?_
      refine Ru.op (q := (.aload_n 0, 1)) (S' := (24, _, _, _, _)) (by decide +kernel) rfl ?_
      refine Ru.getR (pc' := 27) (i := 17) (ci := 10) (k := 4) (nn := 0) (z := 0) (v := .ref 38) (by decide +kernel) (by decide +kernel) (hp36 _) (by decide) rfl rfl ?_
      refine Ru.kI (q := (.sipush 7936, 3)) (c := 7936) (pc' := 30) (by decide +kernel) rfl (by decide) rfl ?_
      refine Ru.op (q := (.iload_n 2, 1)) (S' := (31, _, _, _, _)) (by decide +kernel) rfl ?_
      refine Ru.ar2 (i := .iadd) (z := (7936 + v2)) (pc' := 32) (by decide +kernel) rfl (ar_add _ _) rfl ?_
      obtain ⟨g3, h⟩ := gd_some h
      refine Ru.ildI (pc' := 33) (i := (7936 + v2)) (z := (S.A 38 (7936 + v2))) (by decide +kernel) (hp38 _) g3 (eI_of _) rfl ?_
      obtain ⟨g4, h⟩ := gd_some h
      refine Ru.istI (pc' := 34) (i := ((64 * v1) + v2)) (x := (S.A 38 (7936 + v2))) (by decide +kernel) (hp38 _) g4 (ps_38 _ _ _) rfl ?_
      refine Ru.inc (k := 2) (n := 1) (x := v2) (z := (v2 + 1)) (xs' := [some (.ref 36), some (vI v1), some (vI (v2 + 1))]) (pc' := 37) (by decide +kernel) rfl rfl rfl rfl ?_
      refine Ru.op (q := (.goto (-35), 3)) (S' := (2, _, _, _, _)) (by decide +kernel) rfl ?_
      exact ih _ _ trivial _ h r hk
    · replace h := if_f b2 h
      refine Ru.br2 (k := .ge) (off := 30) (bb := true) (tg := 40) (by decide +kernel) (by decide +kernel) (ci_ge1 g1 (inR_to _) b2) rfl ?_
      cases h
      exact hk _ ⟨rfl, trivial⟩
set_option maxRecDepth 100000 in
set_option maxHeartbeats 4000000 in
theorem g132L42_ok {v1 : Int} : ∀ (n : Nat) (v2 : Int) (S : St) (_ : DD []) (out : St), g132L42 v1 n v2 S = some out → ∀ r, (∀ (e2 : Option Value), DD [e2] → Ru none 10 200 132 (108, [some (.ref 36), some (vI v1), e2], [], out.ns, Hp out) r) → Ru none 10 200 132 (42, [some (.ref 36), some (vI v1), some (vI v2)], [], S.ns, Hp S) r := by
  intro n
  induction n with
  | zero => intro v2 S hdd out h; cases h
  | succ n ih =>
    intro v2 S hdd out h r hk
    unfold g132L42 at h
    refine Ru.op (q := (.iload_n 2, 1)) (S' := (43, _, _, _, _)) (by decide +kernel) rfl ?_
    refine Ru.op (q := (.aload_n 0, 1)) (S' := (44, _, _, _, _)) (by decide +kernel) rfl ?_
    refine Ru.getR (pc' := 47) (i := 27) (ci := 10) (k := 7) (nn := 0) (z := 0) (v := .ref 41) (by decide +kernel) (by decide +kernel) (hp36 _) (by decide) rfl rfl ?_
    refine Ru.kI (q := (.bipush 124, 2)) (c := 124) (pc' := 49) (by decide +kernel) rfl (by decide) rfl ?_
    refine Ru.ildI (pc' := 50) (i := 124) (z := (S.A 41 124)) (by decide +kernel) (hp41 _) (by decide) (eI_of _) rfl ?_
    obtain ⟨g9, h⟩ := gd_some h
    by_cases b10 : v2 < (S.A 41 124)
    · replace h := if_t b10 h
      refine Ru.br2 (k := .ge) (off := 58) (bb := false) (tg := 53) (by decide +kernel) (by decide +kernel) (ci_ge0 g9 (inR_to _) b10) rfl ?_
      refine Ru.op (q := (.aload_n 0, 1)) (S' := (54, _, _, _, _)) (by decide +kernel) rfl ?_
      refine Ru.getR (pc' := 57) (i := 20) (ci := 10) (k := 5) (nn := 0) (z := 0) (v := .ref 39) (by decide +kernel) (by decide +kernel) (hp36 _) (by decide) rfl rfl ?_
      refine Ru.kI (q := (.iconst 4, 1)) (c := 4) (pc' := 58) (by decide +kernel) rfl (by decide) rfl ?_
      refine Ru.op (q := (.iload_n 1, 1)) (S' := (59, _, _, _, _)) (by decide +kernel) rfl ?_
      refine Ru.ar2 (i := .imul) (z := (4 * v1)) (pc' := 60) (by decide +kernel) rfl (ar_mul _ _) rfl ?_
      refine Ru.op (q := (.iload_n 2, 1)) (S' := (61, _, _, _, _)) (by decide +kernel) rfl ?_
      refine Ru.ar2 (i := .iadd) (z := ((4 * v1) + v2)) (pc' := 62) (by decide +kernel) rfl (ar_add _ _) rfl ?_
      refine Ru.op (q := (.aload_n 0, 1)) (S' := (63, _, _, _, _)) (by decide +kernel) rfl ?_
      refine Ru.getR (pc' := 66) (i := 20) (ci := 10) (k := 5) (nn := 0) (z := 0) (v := .ref 39) (by decide +kernel) (by decide +kernel) (hp36 _) (by decide) rfl rfl ?_
      refine Ru.kI (q := (.sipush 496, 3)) (c := 496) (pc' := 69) (by decide +kernel) rfl (by decide) rfl ?_
      refine Ru.op (q := (.iload_n 2, 1)) (S' := (70, _, _, _, _)) (by decide +kernel) rfl ?_
      refine Ru.ar2 (i := .iadd) (z := (496 + v2)) (pc' := 71) (by decide +kernel) rfl (ar_add _ _) rfl ?_
      obtain ⟨g11, h⟩ := gd_some h
      refine Ru.ildI (pc' := 72) (i := (496 + v2)) (z := (S.A 39 (496 + v2))) (by decide +kernel) (hp39 _) g11 (eI_of _) rfl ?_
      refine Ru.kI (q := (.sipush 7936, 3)) (c := 7936) (pc' := 75) (by decide +kernel) rfl (by decide) rfl ?_
      refine Ru.ar2 (i := .isub) (z := ((S.A 39 (496 + v2)) - 7936)) (pc' := 76) (by decide +kernel) rfl (ar_sub _ _) rfl ?_
      refine Ru.kI (q := (.bipush 64, 2)) (c := 64) (pc' := 78) (by decide +kernel) rfl (by decide) rfl ?_
      refine Ru.op (q := (.iload_n 1, 1)) (S' := (79, _, _, _, _)) (by decide +kernel) rfl ?_
      refine Ru.ar2 (i := .imul) (z := (64 * v1)) (pc' := 80) (by decide +kernel) rfl (ar_mul _ _) rfl ?_
      refine Ru.ar2 (i := .iadd) (z := (((S.A 39 (496 + v2)) - 7936) + (64 * v1))) (pc' := 81) (by decide +kernel) rfl (ar_add _ _) rfl ?_
      obtain ⟨g12, h⟩ := gd_some h
      refine Ru.istI (pc' := 82) (i := ((4 * v1) + v2)) (x := (((S.A 39 (496 + v2)) - 7936) + (64 * v1))) (by decide +kernel) (hp39 _) g12 (ps_39 _ _ _) rfl ?_
      refine Ru.op (q := (.aload_n 0, 1)) (S' := (83, _, _, _, _)) (by decide +kernel) rfl ?_
      refine Ru.getR (pc' := 86) (i := 23) (ci := 10) (k := 6) (nn := 0) (z := 0) (v := .ref 40) (by decide +kernel) (by decide +kernel) (hp36 _) (by decide) rfl rfl ?_
      refine Ru.kI (q := (.iconst 4, 1)) (c := 4) (pc' := 87) (by decide +kernel) rfl (by decide) rfl ?_
      refine Ru.op (q := (.iload_n 1, 1)) (S' := (88, _, _, _, _)) (by decide +kernel) rfl ?_
      refine Ru.ar2 (i := .imul) (z := (4 * v1)) (pc' := 89) (by decide +kernel) rfl (ar_mul _ _) rfl ?_
      refine Ru.op (q := (.iload_n 2, 1)) (S' := (90, _, _, _, _)) (by decide +kernel) rfl ?_
      refine Ru.ar2 (i := .iadd) (z := ((4 * v1) + v2)) (pc' := 91) (by decide +kernel) rfl (ar_add _ _) rfl ?_
      refine Ru.op (q := (.aload_n 0, 1)) (S' := (92, _, _, _, _)) (by decide +kernel) rfl ?_
      refine Ru.getR (pc' := 95) (i := 23) (ci := 10) (k := 6) (nn := 0) (z := 0) (v := .ref 40) (by decide +kernel) (by decide +kernel) (hp36 _) (by decide) rfl rfl ?_
      refine Ru.kI (q := (.sipush 496, 3)) (c := 496) (pc' := 98) (by decide +kernel) rfl (by decide) rfl ?_
      refine Ru.op (q := (.iload_n 2, 1)) (S' := (99, _, _, _, _)) (by decide +kernel) rfl ?_
      refine Ru.ar2 (i := .iadd) (z := (496 + v2)) (pc' := 100) (by decide +kernel) rfl (ar_add _ _) rfl ?_
      refine Ru.bldI (pc' := 101) (i := (496 + v2)) (z := (S.A 40 (496 + v2))) (by decide +kernel) (hp40 _) g11 (eI_of _) rfl ?_
      obtain ⟨g13, h⟩ := gd_some h
      refine Ru.bstI (pc' := 102) (i := ((4 * v1) + v2)) (x := (S.A 40 (496 + v2))) (by decide +kernel) (hp40 _) g12 g13 (ps_40 _ _ _) rfl ?_
      refine Ru.inc (k := 2) (n := 1) (x := v2) (z := (v2 + 1)) (xs' := [some (.ref 36), some (vI v1), some (vI (v2 + 1))]) (pc' := 105) (by decide +kernel) rfl rfl rfl rfl ?_
      refine Ru.op (q := (.goto (-63), 3)) (S' := (42, _, _, _, _)) (by decide +kernel) rfl ?_
      exact ih _ _ trivial _ h r hk
    · replace h := if_f b10 h
      refine Ru.br2 (k := .ge) (off := 58) (bb := true) (tg := 108) (by decide +kernel) (by decide +kernel) (ci_ge1 g9 (inR_to _) b10) rfl ?_
      cases h
      exact hk _ ⟨rfl, trivial⟩
set_option maxRecDepth 100000 in
set_option maxHeartbeats 4000000 in
theorem g132_ok {S : St} {v1 : Int} {o : St} (h : g132 S v1 = some o) : Ru none 10 200 132 (0, mn_pad (mn_ent [.ref 36, vI v1]) 3, [], S.ns, Hp S) ((0, none), o.ns, Hp o) := by
  unfold g132 at h
  show Ru none 10 200 132 (0, [some (.ref 36), some (vI v1), none], [], S.ns, Hp S) _
  refine Ru.kI (q := (.iconst 0, 1)) (c := 0) (pc' := 1) (by decide +kernel) rfl (by decide) rfl ?_
  refine Ru.op (q := (.istore_n 2, 1)) (S' := (2, [some (.ref 36), some (vI v1), some (vI 0)], [], _, _)) (by decide +kernel) rfl ?_
  obtain ⟨o5, e7, h⟩ := ob_some h
  refine g132L2_ok FU _ _ trivial _ e7 _ ?_
  intro d6 hd8
  refine Ru.kI (q := (.iconst 0, 1)) (c := 0) (pc' := 41) (by decide +kernel) rfl (by decide) rfl ?_
  refine Ru.op (q := (.istore_n 2, 1)) (S' := (42, [some (.ref 36), some (vI v1), some (vI 0)], [], _, _)) (by decide +kernel) rfl ?_
  obtain ⟨o14, e16, h⟩ := ob_some h
  refine g132L42_ok FU _ _ trivial _ e16 _ ?_
  intro d15 hd17
  refine Ru.op (q := (.aload_n 0, 1)) (S' := (109, _, _, _, _)) (by decide +kernel) rfl ?_
  refine Ru.getR (pc' := 112) (i := 27) (ci := 10) (k := 7) (nn := 0) (z := 0) (v := .ref 41) (by decide +kernel) (by decide +kernel) (hp36 _) (by decide) rfl rfl ?_
  refine Ru.op (q := (.iload_n 1, 1)) (S' := (113, _, _, _, _)) (by decide +kernel) rfl ?_
  refine Ru.op (q := (.aload_n 0, 1)) (S' := (114, _, _, _, _)) (by decide +kernel) rfl ?_
  refine Ru.getR (pc' := 117) (i := 27) (ci := 10) (k := 7) (nn := 0) (z := 0) (v := .ref 41) (by decide +kernel) (by decide +kernel) (hp36 _) (by decide) rfl rfl ?_
  refine Ru.kI (q := (.bipush 124, 2)) (c := 124) (pc' := 119) (by decide +kernel) rfl (by decide) rfl ?_
  refine Ru.ildI (pc' := 120) (i := 124) (z := (o14.A 41 124)) (by decide +kernel) (hp41 _) (by decide) (eI_of _) rfl ?_
  obtain ⟨g18, h⟩ := gd_some h
  refine Ru.istI (pc' := 121) (i := v1) (x := (o14.A 41 124)) (by decide +kernel) (hp41 _) g18 (ps_41 _ _ _) rfl ?_
  refine Ru.op (q := (.aload_n 0, 1)) (S' := (122, _, _, _, _)) (by decide +kernel) rfl ?_
  refine Ru.getR (pc' := 125) (i := 30) (ci := 10) (k := 8) (nn := 0) (z := 0) (v := .ref 42) (by decide +kernel) (by decide +kernel) (hp36 _) (by decide) rfl rfl ?_
  refine Ru.op (q := (.iload_n 1, 1)) (S' := (126, _, _, _, _)) (by decide +kernel) rfl ?_
  refine Ru.op (q := (.aload_n 0, 1)) (S' := (127, _, _, _, _)) (by decide +kernel) rfl ?_
  refine Ru.getR (pc' := 130) (i := 30) (ci := 10) (k := 8) (nn := 0) (z := 0) (v := .ref 42) (by decide +kernel) (by decide +kernel) (hp36 _) (by decide) rfl rfl ?_
  refine Ru.kI (q := (.bipush 124, 2)) (c := 124) (pc' := 132) (by decide +kernel) rfl (by decide) rfl ?_
  refine Ru.ildI (pc' := 133) (i := 124) (z := (o14.A 42 124)) (by decide +kernel) (hp42 _) (by decide) (eI_of _) rfl ?_
  refine Ru.istI (pc' := 134) (i := v1) (x := (o14.A 42 124)) (by decide +kernel) (hp42 _) g18 (ps_42 _ _ _) rfl ?_
  cases h
  exact Ru.end (q := (.return_, 1)) (by decide +kernel) rfl rfl
