set_option maxRecDepth 100000 in
set_option maxHeartbeats 4000000 in
theorem g81_ok {S : St} {v1 : Int} {o : St} (h : g81 S v1 = some o) : Ru none 12 242 81 (0, mn_pad (mn_ent [.ref 28, vI v1]) 3, [], S.ns, Hp S) ((0, none), o.ns, Hp o) := by
  unfold g81 at h
  show Ru none 12 242 81 (0, [some (.ref 28), some (vI v1), none], [], S.ns, Hp S) _
  refine Ru.op (q := (.iload_n 1, 1)) (S' := (1, _, _, _, _)) (by decide +kernel) rfl ?_
  refine Ru.kI (q := (.ldc 47, 2)) (c := 131072) (pc' := 3) (by decide +kernel) rfl (by decide) rfl ?_
  obtain ⟨g1, h⟩ := gd_some h
  by_cases b2 : v1 < 131072
  · replace h := if_t b2 h
    refine Ru.br2 (k := .lt) (off := 38) (bb := true) (tg := 41) (by decide +kernel) (by decide +kernel) (ci_lt1 g1 (by decide) b2) rfl ?_
    refine Ru.op (q := (.iload_n 1, 1)) (S' := (42, _, _, _, _)) (by decide +kernel) rfl ?_
    refine Ru.kI (q := (.ldc 48, 2)) (c := 65536) (pc' := 44) (by decide +kernel) rfl (by decide) rfl ?_
    by_cases b3 : v1 < 65536
    · replace h := if_t b3 h
      refine Ru.br2 (k := .lt) (off := 23) (bb := true) (tg := 67) (by decide +kernel) (by decide +kernel) (ci_lt1 g1 (by decide) b3) rfl ?_
      refine Ru.op (q := (.iload_n 1, 1)) (S' := (68, _, _, _, _)) (by decide +kernel) rfl ?_
      refine Ru.kI (q := (.ldc 52, 2)) (c := 32768) (pc' := 70) (by decide +kernel) rfl (by decide) rfl ?_
      by_cases b4 : v1 < 32768
      · replace h := if_t b4 h
        refine Ru.br2 (k := .lt) (off := 43) (bb := true) (tg := 113) (by decide +kernel) (by decide +kernel) (ci_lt1 g1 (by decide) b4) rfl ?_
        refine Ru.op (q := (.iload_n 1, 1)) (S' := (114, _, _, _, _)) (by decide +kernel) rfl ?_
        refine Ru.kI (q := (.bipush 8, 2)) (c := 8) (pc' := 116) (by decide +kernel) rfl (by decide) rfl ?_
        refine Ru.ar2 (i := .ishr) (z := (v1 / 256)) (pc' := 117) (by decide +kernel) rfl (ar_shr g1) rfl ?_
        refine Ru.op (q := (.istore_n 2, 1)) (S' := (118, [some (.ref 28), some (vI v1), some (vI (v1 / 256))], [], _, _)) (by decide +kernel) rfl ?_
        refine Ru.op (q := (.aload_n 0, 1)) (S' := (119, _, _, _, _)) (by decide +kernel) rfl ?_
        refine Ru.kI (q := (.bipush 120, 2)) (c := 120) (pc' := 121) (by decide +kernel) rfl (by decide) rfl ?_
        refine Ru.op (q := (.iload_n 2, 1)) (S' := (122, _, _, _, _)) (by decide +kernel) rfl ?_
        refine Ru.kI (q := (.iconst 3, 1)) (c := 3) (pc' := 123) (by decide +kernel) rfl (by decide) rfl ?_
        obtain ⟨g5, h⟩ := gd_some h
        refine Ru.ar2 (i := .irem) (z := ((v1 / 256) % 3)) (pc' := 124) (by decide +kernel) rfl (ar_rem g5) rfl ?_
        refine Ru.ar2 (i := .iadd) (z := (120 + ((v1 / 256) % 3))) (pc' := 125) (by decide +kernel) rfl (ar_add _ _) rfl ?_
        obtain ⟨g6, h⟩ := gd_some h
        refine Ru.i2c (pc' := 126) (by decide +kernel) g6 rfl ?_
        obtain ⟨o7, e8, h⟩ := ob_some h
        refine Ru.vcallI (pc' := 129) (st' := []) (i := 24) (j2 := 79) (ci := 8) (k := 0) (z := 0) (as := [vI (120 + ((v1 / 256) % 3))]) (by decide +kernel) (by decide +kernel) rfl rfl (hp28 _) (by decide) ⟨(Nat.le_of_ble_eq_true rfl), (by show 19 + 2 ≤ 242; exact Nat.le_of_ble_eq_true rfl), Nat.le_of_ble_eq_true rfl, Nat.le_of_ble_eq_true rfl⟩ ((g79_ok e8).up (Nat.le_of_ble_eq_true rfl) (Nat.le_of_ble_eq_true rfl)) rfl rfl ?_
        refine Ru.op (q := (.iload_n 2, 1)) (S' := (130, _, _, _, _)) (by decide +kernel) rfl ?_
        refine Ru.kI (q := (.iconst 3, 1)) (c := 3) (pc' := 131) (by decide +kernel) rfl (by decide) rfl ?_
        obtain ⟨g9, h⟩ := gd_some h
        by_cases b10 : (v1 / 256) < 3
        · replace h := if_t b10 h
          refine Ru.br2 (k := .lt) (off := 10) (bb := true) (tg := 141) (by decide +kernel) (by decide +kernel) (ci_lt1 g9 (by decide) b10) rfl ?_
          cases h
          exact Ru.end (q := (.return_, 1)) (by decide +kernel) rfl rfl
        · replace h := if_f b10 h
          refine Ru.br2 (k := .lt) (off := 10) (bb := false) (tg := 134) (by decide +kernel) (by decide +kernel) (ci_lt0 g9 (by decide) b10) rfl ?_
          refine Ru.op (q := (.aload_n 0, 1)) (S' := (135, _, _, _, _)) (by decide +kernel) rfl ?_
          refine Ru.op (q := (.iload_n 2, 1)) (S' := (136, _, _, _, _)) (by decide +kernel) rfl ?_
          refine Ru.kI (q := (.iconst 3, 1)) (c := 3) (pc' := 137) (by decide +kernel) rfl (by decide) rfl ?_
          refine Ru.ar2 (i := .idiv) (z := ((v1 / 256) / 3)) (pc' := 138) (by decide +kernel) rfl (ar_div g5) rfl ?_
          obtain ⟨o11, e12, h⟩ := ob_some h
          refine Ru.vcallI (pc' := 141) (st' := []) (i := 49) (j2 := 82) (ci := 8) (k := 0) (z := 0) (as := [vI ((v1 / 256) / 3)]) (by decide +kernel) (by decide +kernel) rfl rfl (hp28 _) (by decide) ⟨(Nat.le_of_ble_eq_true rfl), (by show 19 + 2 ≤ 242; exact Nat.le_of_ble_eq_true rfl), Nat.le_of_ble_eq_true rfl, Nat.le_of_ble_eq_true rfl⟩ ((g82_ok e12).up (Nat.le_of_ble_eq_true rfl) (Nat.le_of_ble_eq_true rfl)) rfl rfl ?_
          cases h
          exact Ru.end (q := (.return_, 1)) (by decide +kernel) rfl rfl
      · replace h := if_f b4 h
        refine Ru.br2 (k := .lt) (off := 43) (bb := false) (tg := 73) (by decide +kernel) (by decide +kernel) (ci_lt0 g1 (by decide) b4) rfl ?_
        refine Ru.op (q := (.iload_n 1, 1)) (S' := (74, _, _, _, _)) (by decide +kernel) rfl ?_
        refine Ru.kI (q := (.ldc 52, 2)) (c := 32768) (pc' := 76) (by decide +kernel) rfl (by decide) rfl ?_
        refine Ru.ar2 (i := .isub) (z := (v1 - 32768)) (pc' := 77) (by decide +kernel) rfl (ar_sub _ _) rfl ?_
        refine Ru.kI (q := (.bipush 8, 2)) (c := 8) (pc' := 79) (by decide +kernel) rfl (by decide) rfl ?_
        obtain ⟨g13, h⟩ := gd_some h
        refine Ru.ar2 (i := .ishr) (z := ((v1 - 32768) / 256)) (pc' := 80) (by decide +kernel) rfl (ar_shr g13) rfl ?_
        refine Ru.op (q := (.istore_n 2, 1)) (S' := (81, [some (.ref 28), some (vI v1), some (vI ((v1 - 32768) / 256))], [], _, _)) (by decide +kernel) rfl ?_
        refine Ru.op (q := (.aload_n 0, 1)) (S' := (82, _, _, _, _)) (by decide +kernel) rfl ?_
        refine Ru.kI (q := (.bipush 97, 2)) (c := 97) (pc' := 84) (by decide +kernel) rfl (by decide) rfl ?_
        refine Ru.op (q := (.iload_n 2, 1)) (S' := (85, _, _, _, _)) (by decide +kernel) rfl ?_
        refine Ru.kI (q := (.bipush 11, 2)) (c := 11) (pc' := 87) (by decide +kernel) rfl (by decide) rfl ?_
        obtain ⟨g14, h⟩ := gd_some h
        refine Ru.ar2 (i := .idiv) (z := (((v1 - 32768) / 256) / 11)) (pc' := 88) (by decide +kernel) rfl (ar_div g14) rfl ?_
        refine Ru.ar2 (i := .iadd) (z := (97 + (((v1 - 32768) / 256) / 11))) (pc' := 89) (by decide +kernel) rfl (ar_add _ _) rfl ?_
        obtain ⟨g15, h⟩ := gd_some h
        refine Ru.i2c (pc' := 90) (by decide +kernel) g15 rfl ?_
        obtain ⟨o16, e17, h⟩ := ob_some h
        refine Ru.vcallI (pc' := 93) (st' := []) (i := 24) (j2 := 79) (ci := 8) (k := 0) (z := 0) (as := [vI (97 + (((v1 - 32768) / 256) / 11))]) (by decide +kernel) (by decide +kernel) rfl rfl (hp28 _) (by decide) ⟨(Nat.le_of_ble_eq_true rfl), (by show 19 + 2 ≤ 242; exact Nat.le_of_ble_eq_true rfl), Nat.le_of_ble_eq_true rfl, Nat.le_of_ble_eq_true rfl⟩ ((g79_ok e17).up (Nat.le_of_ble_eq_true rfl) (Nat.le_of_ble_eq_true rfl)) rfl rfl ?_
        refine Ru.op (q := (.iload_n 2, 1)) (S' := (94, _, _, _, _)) (by decide +kernel) rfl ?_
        refine Ru.kI (q := (.bipush 11, 2)) (c := 11) (pc' := 96) (by decide +kernel) rfl (by decide) rfl ?_
        refine Ru.ar2 (i := .irem) (z := (((v1 - 32768) / 256) % 11)) (pc' := 97) (by decide +kernel) rfl (ar_rem g14) rfl ?_
        obtain ⟨g18, h⟩ := gd_some h
        by_cases b19 : 0 < (((v1 - 32768) / 256) % 11)
        · replace h := if_t b19 h
          refine Ru.br (k := .le) (off := 13) (bb := false) (tg := 100) (by decide +kernel) (by decide +kernel) (cz (ci_le0 g18 (by decide) b19)) rfl ?_
          refine Ru.op (q := (.aload_n 0, 1)) (S' := (101, _, _, _, _)) (by decide +kernel) rfl ?_
          refine Ru.op (q := (.iload_n 2, 1)) (S' := (102, _, _, _, _)) (by decide +kernel) rfl ?_
          refine Ru.kI (q := (.bipush 11, 2)) (c := 11) (pc' := 104) (by decide +kernel) rfl (by decide) rfl ?_
          refine Ru.ar2 (i := .irem) (z := (((v1 - 32768) / 256) % 11)) (pc' := 105) (by decide +kernel) rfl (ar_rem g14) rfl ?_
          refine Ru.kI (q := (.iconst 1, 1)) (c := 1) (pc' := 106) (by decide +kernel) rfl (by decide) rfl ?_
          refine Ru.ar2 (i := .isub) (z := ((((v1 - 32768) / 256) % 11) - 1)) (pc' := 107) (by decide +kernel) rfl (ar_sub _ _) rfl ?_
          obtain ⟨o20, e21, h⟩ := ob_some h
          refine Ru.vcallI (pc' := 110) (st' := []) (i := 49) (j2 := 82) (ci := 8) (k := 0) (z := 0) (as := [vI ((((v1 - 32768) / 256) % 11) - 1)]) (by decide +kernel) (by decide +kernel) rfl rfl (hp28 _) (by decide) ⟨(Nat.le_of_ble_eq_true rfl), (by show 19 + 2 ≤ 242; exact Nat.le_of_ble_eq_true rfl), Nat.le_of_ble_eq_true rfl, Nat.le_of_ble_eq_true rfl⟩ ((g82_ok e21).up (Nat.le_of_ble_eq_true rfl) (Nat.le_of_ble_eq_true rfl)) rfl rfl ?_
          refine Ru.op (q := (.goto 31, 3)) (S' := (141, _, _, _, _)) (by decide +kernel) rfl ?_
          cases h
          exact Ru.end (q := (.return_, 1)) (by decide +kernel) rfl rfl
        · replace h := if_f b19 h
          refine Ru.br (k := .le) (off := 13) (bb := true) (tg := 110) (by decide +kernel) (by decide +kernel) (cz (ci_le1 g18 (by decide) b19)) rfl ?_
          refine Ru.op (q := (.goto 31, 3)) (S' := (141, _, _, _, _)) (by decide +kernel) rfl ?_
          cases h
          exact Ru.end (q := (.return_, 1)) (by decide +kernel) rfl rfl
    · replace h := if_f b3 h
      refine Ru.br2 (k := .lt) (off := 23) (bb := false) (tg := 47) (by decide +kernel) (by decide +kernel) (ci_lt0 g1 (by decide) b3) rfl ?_
      refine Ru.op (q := (.aload_n 0, 1)) (S' := (48, _, _, _, _)) (by decide +kernel) rfl ?_
      refine Ru.kI (q := (.bipush 36, 2)) (c := 36) (pc' := 50) (by decide +kernel) rfl (by decide) rfl ?_
      obtain ⟨o22, e23, h⟩ := ob_some h
      refine Ru.vcallI (pc' := 53) (st' := []) (i := 24) (j2 := 79) (ci := 8) (k := 0) (z := 0) (as := [vI 36]) (by decide +kernel) (by decide +kernel) rfl rfl (hp28 _) (by decide) ⟨(Nat.le_of_ble_eq_true rfl), (by show 19 + 2 ≤ 242; exact Nat.le_of_ble_eq_true rfl), Nat.le_of_ble_eq_true rfl, Nat.le_of_ble_eq_true rfl⟩ ((g79_ok e23).up (Nat.le_of_ble_eq_true rfl) (Nat.le_of_ble_eq_true rfl)) rfl rfl ?_
      refine Ru.op (q := (.aload_n 0, 1)) (S' := (54, _, _, _, _)) (by decide +kernel) rfl ?_
      refine Ru.op (q := (.iload_n 1, 1)) (S' := (55, _, _, _, _)) (by decide +kernel) rfl ?_
      refine Ru.kI (q := (.ldc 48, 2)) (c := 65536) (pc' := 57) (by decide +kernel) rfl (by decide) rfl ?_
      refine Ru.ar2 (i := .isub) (z := (v1 - 65536)) (pc' := 58) (by decide +kernel) rfl (ar_sub _ _) rfl ?_
      refine Ru.kI (q := (.bipush 8, 2)) (c := 8) (pc' := 60) (by decide +kernel) rfl (by decide) rfl ?_
      obtain ⟨g24, h⟩ := gd_some h
      refine Ru.ar2 (i := .ishr) (z := ((v1 - 65536) / 256)) (pc' := 61) (by decide +kernel) rfl (ar_shr g24) rfl ?_
      obtain ⟨o25, e26, h⟩ := ob_some h
      refine Ru.vcallI (pc' := 64) (st' := []) (i := 49) (j2 := 82) (ci := 8) (k := 0) (z := 0) (as := [vI ((v1 - 65536) / 256)]) (by decide +kernel) (by decide +kernel) rfl rfl (hp28 _) (by decide) ⟨(Nat.le_of_ble_eq_true rfl), (by show 19 + 2 ≤ 242; exact Nat.le_of_ble_eq_true rfl), Nat.le_of_ble_eq_true rfl, Nat.le_of_ble_eq_true rfl⟩ ((g82_ok e26).up (Nat.le_of_ble_eq_true rfl) (Nat.le_of_ble_eq_true rfl)) rfl rfl ?_
      refine Ru.op (q := (.goto 77, 3)) (S' := (141, _, _, _, _)) (by decide +kernel) rfl ?_
      cases h
      exact Ru.end (q := (.return_, 1)) (by decide +kernel) rfl rfl
  · replace h := if_f b2 h
    refine Ru.br2 (k := .lt) (off := 38) (bb := false) (tg := 6) (by decide +kernel) (by decide +kernel) (ci_lt0 g1 (by decide) b2) rfl ?_
    refine Ru.op (q := (.iload_n 1, 1)) (S' := (7, _, _, _, _)) (by decide +kernel) rfl ?_
    refine Ru.kI (q := (.ldc 47, 2)) (c := 131072) (pc' := 9) (by decide +kernel) rfl (by decide) rfl ?_
    refine Ru.ar2 (i := .isub) (z := (v1 - 131072)) (pc' := 10) (by decide +kernel) rfl (ar_sub _ _) rfl ?_
    refine Ru.kI (q := (.bipush 8, 2)) (c := 8) (pc' := 12) (by decide +kernel) rfl (by decide) rfl ?_
    obtain ⟨g27, h⟩ := gd_some h
    refine Ru.ar2 (i := .ishr) (z := ((v1 - 131072) / 256)) (pc' := 13) (by decide +kernel) rfl (ar_shr g27) rfl ?_
    refine Ru.op (q := (.istore_n 2, 1)) (S' := (14, [some (.ref 28), some (vI v1), some (vI ((v1 - 131072) / 256))], [], _, _)) (by decide +kernel) rfl ?_
    refine Ru.op (q := (.iload_n 2, 1)) (S' := (15, _, _, _, _)) (by decide +kernel) rfl ?_
    refine Ru.kI (q := (.iconst 2, 1)) (c := 2) (pc' := 16) (by decide +kernel) rfl (by decide) rfl ?_
    obtain ⟨g28, h⟩ := gd_some h
    refine Ru.ar2 (i := .irem) (z := (((v1 - 131072) / 256) % 2)) (pc' := 17) (by decide +kernel) rfl (ar_rem g28) rfl ?_
    refine Ru.kI (q := (.iconst 1, 1)) (c := 1) (pc' := 18) (by decide +kernel) rfl (by decide) rfl ?_
    obtain ⟨g29, h⟩ := gd_some h
    by_cases b30 : (((v1 - 131072) / 256) % 2) = 1
    · replace h := if_t b30 h
      refine Ru.br2 (k := .ne) (off := 9) (bb := false) (tg := 21) (by decide +kernel) (by decide +kernel) (ci_ne0 g29 (by decide) b30) rfl ?_
      refine Ru.op (q := (.aload_n 0, 1)) (S' := (22, _, _, _, _)) (by decide +kernel) rfl ?_
      refine Ru.kI (q := (.bipush 126, 2)) (c := 126) (pc' := 24) (by decide +kernel) rfl (by decide) rfl ?_
      obtain ⟨o31, e32, h⟩ := ob_some h
      refine Ru.vcallI (pc' := 27) (st' := []) (i := 24) (j2 := 79) (ci := 8) (k := 0) (z := 0) (as := [vI 126]) (by decide +kernel) (by decide +kernel) rfl rfl (hp28 _) (by decide) ⟨(Nat.le_of_ble_eq_true rfl), (by show 19 + 2 ≤ 242; exact Nat.le_of_ble_eq_true rfl), Nat.le_of_ble_eq_true rfl, Nat.le_of_ble_eq_true rfl⟩ ((g79_ok e32).up (Nat.le_of_ble_eq_true rfl) (Nat.le_of_ble_eq_true rfl)) rfl rfl ?_
      refine Ru.op (q := (.aload_n 0, 1)) (S' := (28, _, _, _, _)) (by decide +kernel) rfl ?_
      refine Ru.kI (q := (.bipush 65, 2)) (c := 65) (pc' := 30) (by decide +kernel) rfl (by decide) rfl ?_
      refine Ru.op (q := (.iload_n 2, 1)) (S' := (31, _, _, _, _)) (by decide +kernel) rfl ?_
      refine Ru.kI (q := (.iconst 2, 1)) (c := 2) (pc' := 32) (by decide +kernel) rfl (by decide) rfl ?_
      refine Ru.ar2 (i := .idiv) (z := (((v1 - 131072) / 256) / 2)) (pc' := 33) (by decide +kernel) rfl (ar_div g28) rfl ?_
      refine Ru.ar2 (i := .iadd) (z := (65 + (((v1 - 131072) / 256) / 2))) (pc' := 34) (by decide +kernel) rfl (ar_add _ _) rfl ?_
      obtain ⟨g33, h⟩ := gd_some h
      refine Ru.i2c (pc' := 35) (by decide +kernel) g33 rfl ?_
      obtain ⟨o34, e35, h⟩ := ob_some h
      refine Ru.vcallI (pc' := 38) (st' := []) (i := 24) (j2 := 79) (ci := 8) (k := 0) (z := 0) (as := [vI (65 + (((v1 - 131072) / 256) / 2))]) (by decide +kernel) (by decide +kernel) rfl rfl (hp28 _) (by decide) ⟨(Nat.le_of_ble_eq_true rfl), (by show 19 + 2 ≤ 242; exact Nat.le_of_ble_eq_true rfl), Nat.le_of_ble_eq_true rfl, Nat.le_of_ble_eq_true rfl⟩ ((g79_ok e35).up (Nat.le_of_ble_eq_true rfl) (Nat.le_of_ble_eq_true rfl)) rfl rfl ?_
      refine Ru.op (q := (.goto 103, 3)) (S' := (141, _, _, _, _)) (by decide +kernel) rfl ?_
      cases h
      exact Ru.end (q := (.return_, 1)) (by decide +kernel) rfl rfl
    · replace h := if_f b30 h
      refine Ru.br2 (k := .ne) (off := 9) (bb := true) (tg := 27) (by decide +kernel) (by decide +kernel) (ci_ne1 g29 (by decide) b30) rfl ?_
      refine Ru.op (q := (.aload_n 0, 1)) (S' := (28, _, _, _, _)) (by decide +kernel) rfl ?_
      refine Ru.kI (q := (.bipush 65, 2)) (c := 65) (pc' := 30) (by decide +kernel) rfl (by decide) rfl ?_
      refine Ru.op (q := (.iload_n 2, 1)) (S' := (31, _, _, _, _)) (by decide +kernel) rfl ?_
      refine Ru.kI (q := (.iconst 2, 1)) (c := 2) (pc' := 32) (by decide +kernel) rfl (by decide) rfl ?_
      refine Ru.ar2 (i := .idiv) (z := (((v1 - 131072) / 256) / 2)) (pc' := 33) (by decide +kernel) rfl (ar_div g28) rfl ?_
      refine Ru.ar2 (i := .iadd) (z := (65 + (((v1 - 131072) / 256) / 2))) (pc' := 34) (by decide +kernel) rfl (ar_add _ _) rfl ?_
      obtain ⟨g36, h⟩ := gd_some h
      refine Ru.i2c (pc' := 35) (by decide +kernel) g36 rfl ?_
      obtain ⟨o37, e38, h⟩ := ob_some h
      refine Ru.vcallI (pc' := 38) (st' := []) (i := 24) (j2 := 79) (ci := 8) (k := 0) (z := 0) (as := [vI (65 + (((v1 - 131072) / 256) / 2))]) (by decide +kernel) (by decide +kernel) rfl rfl (hp28 _) (by decide) ⟨(Nat.le_of_ble_eq_true rfl), (by show 19 + 2 ≤ 242; exact Nat.le_of_ble_eq_true rfl), Nat.le_of_ble_eq_true rfl, Nat.le_of_ble_eq_true rfl⟩ ((g79_ok e38).up (Nat.le_of_ble_eq_true rfl) (Nat.le_of_ble_eq_true rfl)) rfl rfl ?_
      refine Ru.op (q := (.goto 103, 3)) (S' := (141, _, _, _, _)) (by decide +kernel) rfl ?_
      cases h
      exact Ru.end (q := (.return_, 1)) (by decide +kernel) rfl rfl
set_option maxRecDepth 100000 in
set_option maxHeartbeats 4000000 in
theorem g80L34_ok {FR LO : Nat} {rc : St → Nat → Int → Int → Option (St)} (hF : 13 ≤ FR) (hL : 264 ≤ LO) (hrc : ∀ {S : St} {v1 : Nat} {v2 : Int} {v3 : Int} {o : St}, rc S v1 v2 v3 = some o → Ru none FR LO 80 (0, mn_pad (mn_ent [.ref 28, .ref v1, vI v2, vI v3]) 7, [], S.ns, Hp S) ((0, none), o.ns, Hp o)) {v1 : Nat} {v3 : Int} {v4 : Int} : ∀ (n : Nat) (v5 : Int) (v6 : Int) (S : St) (d2 : Option Value) (_ : DD [d2]) (out : St), g80L34 rc v1 v3 v4 n v5 v6 S = some out → ∀ r, (∀ (e1 e2 e3 e5 e6 : Option Value), DD [e1, e2, e3, e5, e6] → Ru none (FR + 1) (LO + 26) 80 (90, [some (.ref 28), e1, e2, e3, some (vI v4), e5, e6], [], out.ns, Hp out) r) → Ru none (FR + 1) (LO + 26) 80 (34, [some (.ref 28), some (.ref v1), d2, some (vI v3), some (vI v4), some (vI v5), some (vI v6)], [], S.ns, Hp S) r := by
  intro n
  induction n with
  | zero => intro v5 v6 S d2 hdd out h; cases h
  | succ n ih =>
    intro v5 v6 S d2 hdd out h r hk
    unfold g80L34 at h
    refine Ru.op (q := (.iload 6, 2)) (S' := (36, _, _, _, _)) (by decide +kernel) rfl ?_
    refine Ru.op (q := (.iload 4, 2)) (S' := (38, _, _, _, _)) (by decide +kernel) rfl ?_
    obtain ⟨g15, h⟩ := gd_some h
    obtain ⟨g16, h⟩ := gd_some h
    by_cases b17 : v6 < v4
    · replace h := if_t b17 h
      refine Ru.br2 (k := .ge) (off := 52) (bb := false) (tg := 41) (by decide +kernel) (by decide +kernel) (ci_ge0 g15 g16 b17) rfl ?_
      refine Ru.op (q := (.iload 5, 2)) (S' := (43, _, _, _, _)) (by decide +kernel) rfl ?_
      refine Ru.op (q := (.aload_n 1, 1)) (S' := (44, _, _, _, _)) (by decide +kernel) rfl ?_
      obtain ⟨N18, f19, e20, q21, h⟩ := gA_some h
      refine Ru.lenI (pc' := 45) (N := N18) (z := (N18 : Int)) (by decide +kernel) q21 (by decide) (aI_len _ _) rfl rfl ?_
      obtain ⟨g22, h⟩ := gd_some h
      obtain ⟨g23, h⟩ := gd_some h
      by_cases b24 : v5 < (N18 : Int)
      · replace h := if_t b24 h
        refine Ru.br2 (k := .ge) (off := 45) (bb := false) (tg := 48) (by decide +kernel) (by decide +kernel) (ci_ge0 g22 g23 b24) rfl ?_
        refine Ru.op (q := (.aload_n 0, 1)) (S' := (49, _, _, _, _)) (by decide +kernel) rfl ?_
        refine Ru.op (q := (.iload 6, 2)) (S' := (51, _, _, _, _)) (by decide +kernel) rfl ?_
        by_cases b25 : v6 = 0
        · replace h := if_t b25 h
          refine Ru.br (k := .ne) (off := 8) (bb := false) (tg := 54) (by decide +kernel) (by decide +kernel) (cz (ci_ne0 g15 (by decide) b25)) rfl ?_
          refine Ru.kI (q := (.bipush 40, 2)) (c := 40) (pc' := 56) (by decide +kernel) rfl (by decide) rfl ?_
          refine Ru.op (q := (.goto 5, 3)) (S' := (61, _, _, _, _)) (by decide +kernel) rfl ?_
          obtain ⟨o26, e27, h⟩ := ob_some h
          refine Ru.vcallI (pc' := 64) (st' := []) (i := 24) (j2 := 79) (ci := 8) (k := 0) (z := 0) (as := [vI 40]) (by decide +kernel) (by decide +kernel) rfl rfl (hp28 _) (by decide) ⟨(by omega), (by show 19 + 2 ≤ (LO + 26); omega), Nat.le_of_ble_eq_true rfl, Nat.le_of_ble_eq_true rfl⟩ ((g79_ok e27).up (by omega) (by show _ ≤ (LO + 26) - (19 + 2); omega)) rfl rfl ?_
          refine Ru.op (q := (.aload_n 0, 1)) (S' := (65, _, _, _, _)) (by decide +kernel) rfl ?_
          refine Ru.op (q := (.aload_n 1, 1)) (S' := (66, _, _, _, _)) (by decide +kernel) rfl ?_
          refine Ru.op (q := (.iload 5, 2)) (S' := (68, _, _, _, _)) (by decide +kernel) rfl ?_
          refine Ru.op (q := (.iload_n 3, 1)) (S' := (69, _, _, _, _)) (by decide +kernel) rfl ?_
          refine Ru.kI (q := (.iconst 1, 1)) (c := 1) (pc' := 70) (by decide +kernel) rfl (by decide) rfl ?_
          refine Ru.ar2 (i := .iadd) (z := (v3 + 1)) (pc' := 71) (by decide +kernel) rfl (ar_add _ _) rfl ?_
          obtain ⟨o28, e29, h⟩ := ob_some h
          refine Ru.vcallI (pc' := 74) (st' := []) (i := 35) (j2 := 80) (ci := 8) (k := 0) (z := 0) (as := [.ref v1, vI v5, vI (v3 + 1)]) (by decide +kernel) (by decide +kernel) rfl rfl (hp28 _) (by decide) ⟨(by omega), (by show 19 + 7 ≤ (LO + 26); omega), Nat.le_of_ble_eq_true rfl, Nat.le_of_ble_eq_true rfl⟩ ((hrc e29).up (by omega) (by show _ ≤ (LO + 26) - (19 + 7); omega)) rfl rfl ?_
          refine Ru.op (q := (.aload_n 1, 1)) (S' := (75, _, _, _, _)) (by decide +kernel) rfl ?_
          refine Ru.op (q := (.iload 5, 2)) (S' := (77, _, _, _, _)) (by decide +kernel) rfl ?_
          refine Ru.op (q := (.aload_n 1, 1)) (S' := (78, _, _, _, _)) (by decide +kernel) rfl ?_
          obtain ⟨N30, f31, e32, q33, h⟩ := gA_some h
          refine Ru.lenI (pc' := 79) (N := N30) (z := (N30 : Int)) (by decide +kernel) q33 (by decide) (aI_len _ _) rfl rfl ?_
          obtain ⟨o34, e35, h⟩ := ob_some h
          refine Ru.callI (pc' := 82) (q := (.invokestatic 43, 3)) (j2 := 57) (as := [.ref v1, vI v5, vI (N30 : Int)]) (st' := [vI o34]) (by decide +kernel) rfl rfl rfl rfl ⟨(by omega), (by show 19 + 5 ≤ (LO + 26); omega), Nat.le_of_ble_eq_true rfl, Nat.le_of_ble_eq_true rfl⟩ ((g57_ok e35).up (by omega) (by show _ ≤ (LO + 26) - (19 + 5); omega)) rfl rfl ?_
          refine Ru.op (q := (.istore 5, 2)) (S' := (84, [some (.ref 28), some (.ref v1), d2, some (vI v3), some (vI v4), some (vI o34), some (vI v6)], [], _, _)) (by decide +kernel) rfl ?_
          refine Ru.inc (k := 6) (n := 1) (x := v6) (z := (v6 + 1)) (xs' := [some (.ref 28), some (.ref v1), d2, some (vI v3), some (vI v4), some (vI o34), some (vI (v6 + 1))]) (pc' := 87) (by decide +kernel) rfl rfl rfl rfl ?_
          refine Ru.op (q := (.goto (-53), 3)) (S' := (34, _, _, _, _)) (by decide +kernel) rfl ?_
          exact ih _ _ _ _ ⟨hdd.1, trivial⟩ _ h r hk
        · replace h := if_f b25 h
          refine Ru.br (k := .ne) (off := 8) (bb := true) (tg := 59) (by decide +kernel) (by decide +kernel) (cz (ci_ne1 g15 (by decide) b25)) rfl ?_
          refine Ru.kI (q := (.bipush 44, 2)) (c := 44) (pc' := 61) (by decide +kernel) rfl (by decide) rfl ?_
          obtain ⟨o36, e37, h⟩ := ob_some h
          refine Ru.vcallI (pc' := 64) (st' := []) (i := 24) (j2 := 79) (ci := 8) (k := 0) (z := 0) (as := [vI 44]) (by decide +kernel) (by decide +kernel) rfl rfl (hp28 _) (by decide) ⟨(by omega), (by show 19 + 2 ≤ (LO + 26); omega), Nat.le_of_ble_eq_true rfl, Nat.le_of_ble_eq_true rfl⟩ ((g79_ok e37).up (by omega) (by show _ ≤ (LO + 26) - (19 + 2); omega)) rfl rfl ?_
          refine Ru.op (q := (.aload_n 0, 1)) (S' := (65, _, _, _, _)) (by decide +kernel) rfl ?_
          refine Ru.op (q := (.aload_n 1, 1)) (S' := (66, _, _, _, _)) (by decide +kernel) rfl ?_
          refine Ru.op (q := (.iload 5, 2)) (S' := (68, _, _, _, _)) (by decide +kernel) rfl ?_
          refine Ru.op (q := (.iload_n 3, 1)) (S' := (69, _, _, _, _)) (by decide +kernel) rfl ?_
          refine Ru.kI (q := (.iconst 1, 1)) (c := 1) (pc' := 70) (by decide +kernel) rfl (by decide) rfl ?_
          refine Ru.ar2 (i := .iadd) (z := (v3 + 1)) (pc' := 71) (by decide +kernel) rfl (ar_add _ _) rfl ?_
          obtain ⟨o38, e39, h⟩ := ob_some h
          refine Ru.vcallI (pc' := 74) (st' := []) (i := 35) (j2 := 80) (ci := 8) (k := 0) (z := 0) (as := [.ref v1, vI v5, vI (v3 + 1)]) (by decide +kernel) (by decide +kernel) rfl rfl (hp28 _) (by decide) ⟨(by omega), (by show 19 + 7 ≤ (LO + 26); omega), Nat.le_of_ble_eq_true rfl, Nat.le_of_ble_eq_true rfl⟩ ((hrc e39).up (by omega) (by show _ ≤ (LO + 26) - (19 + 7); omega)) rfl rfl ?_
          refine Ru.op (q := (.aload_n 1, 1)) (S' := (75, _, _, _, _)) (by decide +kernel) rfl ?_
          refine Ru.op (q := (.iload 5, 2)) (S' := (77, _, _, _, _)) (by decide +kernel) rfl ?_
          refine Ru.op (q := (.aload_n 1, 1)) (S' := (78, _, _, _, _)) (by decide +kernel) rfl ?_
          obtain ⟨N40, f41, e42, q43, h⟩ := gA_some h
          refine Ru.lenI (pc' := 79) (N := N40) (z := (N40 : Int)) (by decide +kernel) q43 (by decide) (aI_len _ _) rfl rfl ?_
          obtain ⟨o44, e45, h⟩ := ob_some h
          refine Ru.callI (pc' := 82) (q := (.invokestatic 43, 3)) (j2 := 57) (as := [.ref v1, vI v5, vI (N40 : Int)]) (st' := [vI o44]) (by decide +kernel) rfl rfl rfl rfl ⟨(by omega), (by show 19 + 5 ≤ (LO + 26); omega), Nat.le_of_ble_eq_true rfl, Nat.le_of_ble_eq_true rfl⟩ ((g57_ok e45).up (by omega) (by show _ ≤ (LO + 26) - (19 + 5); omega)) rfl rfl ?_
          refine Ru.op (q := (.istore 5, 2)) (S' := (84, [some (.ref 28), some (.ref v1), d2, some (vI v3), some (vI v4), some (vI o44), some (vI v6)], [], _, _)) (by decide +kernel) rfl ?_
          refine Ru.inc (k := 6) (n := 1) (x := v6) (z := (v6 + 1)) (xs' := [some (.ref 28), some (.ref v1), d2, some (vI v3), some (vI v4), some (vI o44), some (vI (v6 + 1))]) (pc' := 87) (by decide +kernel) rfl rfl rfl rfl ?_
          refine Ru.op (q := (.goto (-53), 3)) (S' := (34, _, _, _, _)) (by decide +kernel) rfl ?_
          exact ih _ _ _ _ ⟨hdd.1, trivial⟩ _ h r hk
      · replace h := if_f b24 h
        refine Ru.br2 (k := .ge) (off := 45) (bb := true) (tg := 90) (by decide +kernel) (by decide +kernel) (ci_ge1 g22 g23 b24) rfl ?_
        cases h
        exact hk _ _ _ _ _ ⟨rfl, hdd.1, rfl, rfl, rfl, trivial⟩
    · replace h := if_f b17 h
      refine Ru.br2 (k := .ge) (off := 52) (bb := true) (tg := 90) (by decide +kernel) (by decide +kernel) (ci_ge1 g15 g16 b17) rfl ?_
      cases h
      exact hk _ _ _ _ _ ⟨rfl, hdd.1, rfl, rfl, rfl, trivial⟩
set_option maxRecDepth 100000 in
set_option maxHeartbeats 4000000 in
theorem g80b_ok {FR LO : Nat} {rc : St → Nat → Int → Int → Option (St)} (hF : 13 ≤ FR) (hL : 264 ≤ LO) (hrc : ∀ {S : St} {v1 : Nat} {v2 : Int} {v3 : Int} {o : St}, rc S v1 v2 v3 = some o → Ru none FR LO 80 (0, mn_pad (mn_ent [.ref 28, .ref v1, vI v2, vI v3]) 7, [], S.ns, Hp S) ((0, none), o.ns, Hp o)) {S : St} {v1 : Nat} {v2 : Int} {v3 : Int} {o : St} (h : g80b rc S v1 v2 v3 = some o) : Ru none (FR + 1) (LO + 26) 80 (0, mn_pad (mn_ent [.ref 28, .ref v1, vI v2, vI v3]) 7, [], S.ns, Hp S) ((0, none), o.ns, Hp o) := by
  unfold g80b at h
  show Ru none (FR + 1) (LO + 26) 80 (0, [some (.ref 28), some (.ref v1), some (vI v2), some (vI v3), none, none, none], [], S.ns, Hp S) _
  refine Ru.op (q := (.aload_n 0, 1)) (S' := (1, _, _, _, _)) (by decide +kernel) rfl ?_
  refine Ru.op (q := (.aload_n 1, 1)) (S' := (2, _, _, _, _)) (by decide +kernel) rfl ?_
  refine Ru.op (q := (.iload_n 2, 1)) (S' := (3, _, _, _, _)) (by decide +kernel) rfl ?_
  obtain ⟨N1, f2, e3, q4, h⟩ := gA_some h
  obtain ⟨g5, h⟩ := gd_some h
  refine Ru.ildI (pc' := 4) (i := v2) (z := (f2 v2)) (by decide +kernel) q4 g5 rfl rfl ?_
  obtain ⟨o6, e7, h⟩ := ob_some h
  refine Ru.vcallI (pc' := 7) (st' := []) (i := 39) (j2 := 81) (ci := 8) (k := 0) (z := 0) (as := [vI (f2 v2)]) (by decide +kernel) (by decide +kernel) rfl rfl (hp28 _) (by decide) ⟨(by omega), (by show 19 + 3 ≤ (LO + 26); omega), Nat.le_of_ble_eq_true rfl, Nat.le_of_ble_eq_true rfl⟩ ((g81_ok e7).up (by omega) (by show _ ≤ (LO + 26) - (19 + 3); omega)) rfl rfl ?_
  refine Ru.op (q := (.iload_n 3, 1)) (S' := (8, _, _, _, _)) (by decide +kernel) rfl ?_
  refine Ru.kI (q := (.bipush 40, 2)) (c := 40) (pc' := 10) (by decide +kernel) rfl (by decide) rfl ?_
  obtain ⟨g8, h⟩ := gd_some h
  by_cases b9 : v3 < 40
  · replace h := if_t b9 h
    refine Ru.br2 (k := .ge) (off := 13) (bb := false) (tg := 13) (by decide +kernel) (by decide +kernel) (ci_ge0 g8 (by decide) b9) rfl ?_
    refine Ru.op (q := (.aload_n 1, 1)) (S' := (14, _, _, _, _)) (by decide +kernel) rfl ?_
    refine Ru.op (q := (.iload_n 2, 1)) (S' := (15, _, _, _, _)) (by decide +kernel) rfl ?_
    obtain ⟨N10, f11, e12, q13, h⟩ := gA_some h
    obtain ⟨g14, h⟩ := gd_some h
    refine Ru.ildI (pc' := 16) (i := v2) (z := (f11 v2)) (by decide +kernel) q13 g14 rfl rfl ?_
    refine Ru.kI (q := (.sipush 255, 3)) (c := 255) (pc' := 19) (by decide +kernel) rfl (by decide) rfl ?_
    refine Ru.ar2 (i := .iand) (z := ((f11 v2) % 256)) (pc' := 20) (by decide +kernel) rfl (ar_and _) rfl ?_
    refine Ru.op (q := (.goto 4, 3)) (S' := (24, _, _, _, _)) (by decide +kernel) rfl ?_
    refine Ru.op (q := (.istore 4, 2)) (S' := (26, [some (.ref 28), some (.ref v1), some (vI v2), some (vI v3), some (vI ((f11 v2) % 256)), none, none], [], _, _)) (by decide +kernel) rfl ?_
    refine Ru.op (q := (.iload_n 2, 1)) (S' := (27, _, _, _, _)) (by decide +kernel) rfl ?_
    refine Ru.kI (q := (.iconst 1, 1)) (c := 1) (pc' := 28) (by decide +kernel) rfl (by decide) rfl ?_
    refine Ru.ar2 (i := .iadd) (z := (v2 + 1)) (pc' := 29) (by decide +kernel) rfl (ar_add _ _) rfl ?_
    refine Ru.op (q := (.istore 5, 2)) (S' := (31, [some (.ref 28), some (.ref v1), some (vI v2), some (vI v3), some (vI ((f11 v2) % 256)), some (vI (v2 + 1)), none], [], _, _)) (by decide +kernel) rfl ?_
    refine Ru.kI (q := (.iconst 0, 1)) (c := 0) (pc' := 32) (by decide +kernel) rfl (by decide) rfl ?_
    refine Ru.op (q := (.istore 6, 2)) (S' := (34, [some (.ref 28), some (.ref v1), some (vI v2), some (vI v3), some (vI ((f11 v2) % 256)), some (vI (v2 + 1)), some (vI 0)], [], _, _)) (by decide +kernel) rfl ?_
    obtain ⟨o46, e52, h⟩ := ob_some h
    refine g80L34_ok hF hL hrc FU _ _ _ _ ⟨rfl, trivial⟩ _ e52 _ ?_
    intro d47 d48 d49 d50 d51 hd53
    refine Ru.op (q := (.iload 4, 2)) (S' := (92, _, _, _, _)) (by decide +kernel) rfl ?_
    obtain ⟨g54, h⟩ := gd_some h
    by_cases b55 : 0 < ((f11 v2) % 256)
    · replace h := if_t b55 h
      refine Ru.br (k := .le) (off := 9) (bb := false) (tg := 95) (by decide +kernel) (by decide +kernel) (cz (ci_le0 g54 (by decide) b55)) rfl ?_
      refine Ru.op (q := (.aload_n 0, 1)) (S' := (96, _, _, _, _)) (by decide +kernel) rfl ?_
      refine Ru.kI (q := (.bipush 41, 2)) (c := 41) (pc' := 98) (by decide +kernel) rfl (by decide) rfl ?_
      obtain ⟨o56, e57, h⟩ := ob_some h
      refine Ru.vcallI (pc' := 101) (st' := []) (i := 24) (j2 := 79) (ci := 8) (k := 0) (z := 0) (as := [vI 41]) (by decide +kernel) (by decide +kernel) rfl rfl (hp28 _) (by decide) ⟨(by omega), (by show 19 + 2 ≤ (LO + 26); omega), Nat.le_of_ble_eq_true rfl, Nat.le_of_ble_eq_true rfl⟩ ((g79_ok e57).up (by omega) (by show _ ≤ (LO + 26) - (19 + 2); omega)) rfl rfl ?_
      cases h
      exact Ru.end (q := (.return_, 1)) (by decide +kernel) rfl rfl
    · replace h := if_f b55 h
      refine Ru.br (k := .le) (off := 9) (bb := true) (tg := 101) (by decide +kernel) (by decide +kernel) (cz (ci_le1 g54 (by decide) b55)) rfl ?_
      cases h
      exact Ru.end (q := (.return_, 1)) (by decide +kernel) rfl rfl
  · replace h := if_f b9 h
    refine Ru.br2 (k := .ge) (off := 13) (bb := true) (tg := 23) (by decide +kernel) (by decide +kernel) (ci_ge1 g8 (by decide) b9) rfl ?_
    refine Ru.kI (q := (.iconst 0, 1)) (c := 0) (pc' := 24) (by decide +kernel) rfl (by decide) rfl ?_
    refine Ru.op (q := (.istore 4, 2)) (S' := (26, [some (.ref 28), some (.ref v1), some (vI v2), some (vI v3), some (vI 0), none, none], [], _, _)) (by decide +kernel) rfl ?_
    refine Ru.op (q := (.iload_n 2, 1)) (S' := (27, _, _, _, _)) (by decide +kernel) rfl ?_
    refine Ru.kI (q := (.iconst 1, 1)) (c := 1) (pc' := 28) (by decide +kernel) rfl (by decide) rfl ?_
    refine Ru.ar2 (i := .iadd) (z := (v2 + 1)) (pc' := 29) (by decide +kernel) rfl (ar_add _ _) rfl ?_
    refine Ru.op (q := (.istore 5, 2)) (S' := (31, [some (.ref 28), some (.ref v1), some (vI v2), some (vI v3), some (vI 0), some (vI (v2 + 1)), none], [], _, _)) (by decide +kernel) rfl ?_
    refine Ru.kI (q := (.iconst 0, 1)) (c := 0) (pc' := 32) (by decide +kernel) rfl (by decide) rfl ?_
    refine Ru.op (q := (.istore 6, 2)) (S' := (34, [some (.ref 28), some (.ref v1), some (vI v2), some (vI v3), some (vI 0), some (vI (v2 + 1)), some (vI 0)], [], _, _)) (by decide +kernel) rfl ?_
    obtain ⟨o58, e64, h⟩ := ob_some h
    refine g80L34_ok hF hL hrc FU _ _ _ _ ⟨rfl, trivial⟩ _ e64 _ ?_
    intro d59 d60 d61 d62 d63 hd65
    refine Ru.op (q := (.iload 4, 2)) (S' := (92, _, _, _, _)) (by decide +kernel) rfl ?_
    refine Ru.br (k := .le) (off := 9) (bb := true) (tg := 101) (by decide +kernel) (by decide +kernel) (by decide) rfl ?_
    cases h
    exact Ru.end (q := (.return_, 1)) (by decide +kernel) rfl rfl
theorem g80_ok : ∀ (n : Nat) {S : St} {v1 : Nat} {v2 : Int} {v3 : Int} {o : St}, g80 n S v1 v2 v3 = some o → Ru none (13 + 1 * n) (264 + 26 * n) 80 (0, mn_pad (mn_ent [.ref 28, .ref v1, vI v2, vI v3]) 7, [], S.ns, Hp S) ((0, none), o.ns, Hp o) := by
  intro n
  induction n with
  | zero => intro S v1 v2 v3 o h; cases h
  | succ n ih => intro S v1 v2 v3 o h; exact (g80b_ok (FR := 13 + 1 * n) (LO := 264 + 26 * n) (by omega) (by omega) ih h).up (by omega) (by omega)
set_option maxRecDepth 100000 in
set_option maxHeartbeats 4000000 in
theorem g78L20_ok {v1 : Nat} : ∀ (n : Nat) (v2 : Int) (S : St) (_ : DD []) (out : St), g78L20 v1 n v2 S = some out → ∀ r, (∀ (e0 e1 e2 : Option Value), DD [e0, e1, e2] → Ru none 78 1954 78 (59, [e0, e1, e2], [], out.ns, Hp out) r) → Ru none 78 1954 78 (20, [some (.ref 28), some (.ref v1), some (vI v2)], [], S.ns, Hp S) r := by
  intro n
  induction n with
  | zero => intro v2 S hdd out h; cases h
  | succ n ih =>
    intro v2 S hdd out h r hk
    unfold g78L20 at h
    refine Ru.op (q := (.iload_n 2, 1)) (S' := (21, _, _, _, _)) (by decide +kernel) rfl ?_
    refine Ru.op (q := (.aload_n 1, 1)) (S' := (22, _, _, _, _)) (by decide +kernel) rfl ?_
    obtain ⟨c10, c11, n12, n13, e14, q15, h⟩ := gC_some h
    refine Ru.getR (pc' := 25) (i := 19) (ci := 5) (k := 2) (nn := 0) (z := 0) (v := vI n12) (by decide +kernel) (by decide +kernel) q15 (by decide) rfl rfl ?_
    obtain ⟨g16, h⟩ := gd_some h
    by_cases b17 : v2 < n12
    · replace h := if_t b17 h
      refine Ru.br2 (k := .ge) (off := 34) (bb := false) (tg := 28) (by decide +kernel) (by decide +kernel) (ci_ge0 g16 e14.1 b17) rfl ?_
      refine Ru.op (q := (.iload_n 2, 1)) (S' := (29, _, _, _, _)) (by decide +kernel) rfl ?_
      by_cases b18 : 0 < v2
      · replace h := if_t b18 h
        refine Ru.br (k := .le) (off := 9) (bb := false) (tg := 32) (by decide +kernel) (by decide +kernel) (cz (ci_le0 g16 (by decide) b18)) rfl ?_
        refine Ru.op (q := (.aload_n 0, 1)) (S' := (33, _, _, _, _)) (by decide +kernel) rfl ?_
        refine Ru.kI (q := (.bipush 124, 2)) (c := 124) (pc' := 35) (by decide +kernel) rfl (by decide) rfl ?_
        obtain ⟨o19, e20, h⟩ := ob_some h
        refine Ru.vcallI (pc' := 38) (st' := []) (i := 24) (j2 := 79) (ci := 8) (k := 0) (z := 0) (as := [vI 124]) (by decide +kernel) (by decide +kernel) rfl rfl (hp28 _) (by decide) ⟨(Nat.le_of_ble_eq_true rfl), (by show 19 + 2 ≤ 1954; exact Nat.le_of_ble_eq_true rfl), Nat.le_of_ble_eq_true rfl, Nat.le_of_ble_eq_true rfl⟩ ((g79_ok e20).up (Nat.le_of_ble_eq_true rfl) (Nat.le_of_ble_eq_true rfl)) rfl rfl ?_
        refine Ru.op (q := (.aload_n 0, 1)) (S' := (39, _, _, _, _)) (by decide +kernel) rfl ?_
        refine Ru.op (q := (.aload_n 1, 1)) (S' := (40, _, _, _, _)) (by decide +kernel) rfl ?_
        obtain ⟨c21, c22, n23, n24, e25, q26, h⟩ := gC_some h
        refine Ru.getR (pc' := 43) (i := 28) (ci := 5) (k := 0) (nn := 0) (z := 0) (v := .ref c21) (by decide +kernel) (by decide +kernel) q26 (by decide) rfl rfl ?_
        refine Ru.op (q := (.aload_n 1, 1)) (S' := (44, _, _, _, _)) (by decide +kernel) rfl ?_
        refine Ru.getR (pc' := 47) (i := 32) (ci := 5) (k := 1) (nn := 0) (z := 0) (v := .ref c22) (by decide +kernel) (by decide +kernel) q26 (by decide) rfl rfl ?_
        refine Ru.op (q := (.iload_n 2, 1)) (S' := (48, _, _, _, _)) (by decide +kernel) rfl ?_
        obtain ⟨N27, f28, e29, q30, h⟩ := gA_some h
        obtain ⟨g31, h⟩ := gd_some h
        refine Ru.ildI (pc' := 49) (i := v2) (z := (f28 v2)) (by decide +kernel) q30 g31 rfl rfl ?_
        refine Ru.kI (q := (.iconst 0, 1)) (c := 0) (pc' := 50) (by decide +kernel) rfl (by decide) rfl ?_
        obtain ⟨o32, e33, h⟩ := ob_some h
        refine Ru.vcallI (pc' := 53) (st' := []) (i := 35) (j2 := 80) (ci := 8) (k := 0) (z := 0) (as := [.ref c21, vI (f28 v2), vI 0]) (by decide +kernel) (by decide +kernel) rfl rfl (hp28 _) (by decide) ⟨(Nat.le_of_ble_eq_true rfl), (by show 19 + 7 ≤ 1954; exact Nat.le_of_ble_eq_true rfl), Nat.le_of_ble_eq_true rfl, Nat.le_of_ble_eq_true rfl⟩ ((g80_ok 64 e33).up (Nat.le_of_ble_eq_true rfl) (Nat.le_of_ble_eq_true rfl)) rfl rfl ?_
        refine Ru.inc (k := 2) (n := 1) (x := v2) (z := (v2 + 1)) (xs' := [some (.ref 28), some (.ref v1), some (vI (v2 + 1))]) (pc' := 56) (by decide +kernel) rfl rfl rfl rfl ?_
        refine Ru.op (q := (.goto (-36), 3)) (S' := (20, _, _, _, _)) (by decide +kernel) rfl ?_
        exact ih _ _ trivial _ h r hk
      · replace h := if_f b18 h
        refine Ru.br (k := .le) (off := 9) (bb := true) (tg := 38) (by decide +kernel) (by decide +kernel) (cz (ci_le1 g16 (by decide) b18)) rfl ?_
        refine Ru.op (q := (.aload_n 0, 1)) (S' := (39, _, _, _, _)) (by decide +kernel) rfl ?_
        refine Ru.op (q := (.aload_n 1, 1)) (S' := (40, _, _, _, _)) (by decide +kernel) rfl ?_
        refine Ru.getR (pc' := 43) (i := 28) (ci := 5) (k := 0) (nn := 0) (z := 0) (v := .ref c10) (by decide +kernel) (by decide +kernel) q15 (by decide) rfl rfl ?_
        refine Ru.op (q := (.aload_n 1, 1)) (S' := (44, _, _, _, _)) (by decide +kernel) rfl ?_
        refine Ru.getR (pc' := 47) (i := 32) (ci := 5) (k := 1) (nn := 0) (z := 0) (v := .ref c11) (by decide +kernel) (by decide +kernel) q15 (by decide) rfl rfl ?_
        refine Ru.op (q := (.iload_n 2, 1)) (S' := (48, _, _, _, _)) (by decide +kernel) rfl ?_
        obtain ⟨N34, f35, e36, q37, h⟩ := gA_some h
        obtain ⟨g38, h⟩ := gd_some h
        refine Ru.ildI (pc' := 49) (i := v2) (z := (f35 v2)) (by decide +kernel) q37 g38 rfl rfl ?_
        refine Ru.kI (q := (.iconst 0, 1)) (c := 0) (pc' := 50) (by decide +kernel) rfl (by decide) rfl ?_
        obtain ⟨o39, e40, h⟩ := ob_some h
        refine Ru.vcallI (pc' := 53) (st' := []) (i := 35) (j2 := 80) (ci := 8) (k := 0) (z := 0) (as := [.ref c10, vI (f35 v2), vI 0]) (by decide +kernel) (by decide +kernel) rfl rfl (hp28 _) (by decide) ⟨(Nat.le_of_ble_eq_true rfl), (by show 19 + 7 ≤ 1954; exact Nat.le_of_ble_eq_true rfl), Nat.le_of_ble_eq_true rfl, Nat.le_of_ble_eq_true rfl⟩ ((g80_ok 64 e40).up (Nat.le_of_ble_eq_true rfl) (Nat.le_of_ble_eq_true rfl)) rfl rfl ?_
        refine Ru.inc (k := 2) (n := 1) (x := v2) (z := (v2 + 1)) (xs' := [some (.ref 28), some (.ref v1), some (vI (v2 + 1))]) (pc' := 56) (by decide +kernel) rfl rfl rfl rfl ?_
        refine Ru.op (q := (.goto (-36), 3)) (S' := (20, _, _, _, _)) (by decide +kernel) rfl ?_
        exact ih _ _ trivial _ h r hk
    · replace h := if_f b17 h
      refine Ru.br2 (k := .ge) (off := 34) (bb := true) (tg := 59) (by decide +kernel) (by decide +kernel) (ci_ge1 g16 e14.1 b17) rfl ?_
      cases h
      exact hk _ _ _ ⟨rfl, rfl, rfl, trivial⟩
set_option maxRecDepth 100000 in
set_option maxHeartbeats 4000000 in
theorem g78_ok {S : St} {v1 : Nat} {o : St} (h : g78 S v1 = some o) : Ru none 78 1954 78 (0, mn_pad (mn_ent [.ref 28, .ref v1]) 3, [], S.ns, Hp S) ((0, none), o.ns, Hp o) := by
  unfold g78 at h
  show Ru none 78 1954 78 (0, [some (.ref 28), some (.ref v1), none], [], S.ns, Hp S) _
  refine Ru.op (q := (.aload_n 0, 1)) (S' := (1, _, _, _, _)) (by decide +kernel) rfl ?_
  refine Ru.kI (q := (.iconst 0, 1)) (c := 0) (pc' := 2) (by decide +kernel) rfl (by decide) rfl ?_
  refine Ru.putH (pc' := 5) (i := 15) (ci := 8) (k := 1) (nn := 0) (z := 0) (by decide +kernel) (by decide +kernel) (hp28 _) (by decide) (Nat.le_of_ble_eq_true rfl) rfl (by decide +kernel) (pf_28_1 _ _) rfl ?_
  refine Ru.op (q := (.aload_n 1, 1)) (S' := (6, _, _, _, _)) (by decide +kernel) rfl ?_
  obtain ⟨c1, c2, n3, n4, e5, q6, h⟩ := gC_some h
  refine Ru.getR (pc' := 9) (i := 19) (ci := 5) (k := 2) (nn := 0) (z := 0) (v := vI n3) (by decide +kernel) (by decide +kernel) q6 (by decide) rfl rfl ?_
  by_cases b7 : n3 = 0
  · replace h := if_t b7 h
    refine Ru.br (k := .ne) (off := 9) (bb := false) (tg := 12) (by decide +kernel) (by decide +kernel) (cz (ci_ne0 e5.1 (by decide) b7)) rfl ?_
    refine Ru.op (q := (.aload_n 0, 1)) (S' := (13, _, _, _, _)) (by decide +kernel) rfl ?_
    refine Ru.kI (q := (.bipush 48, 2)) (c := 48) (pc' := 15) (by decide +kernel) rfl (by decide) rfl ?_
    obtain ⟨o8, e9, h⟩ := ob_some h
    refine Ru.vcallI (pc' := 18) (st' := []) (i := 24) (j2 := 79) (ci := 8) (k := 0) (z := 0) (as := [vI 48]) (by decide +kernel) (by decide +kernel) rfl rfl (hp28 _) (by decide) ⟨(Nat.le_of_ble_eq_true rfl), (by show 19 + 2 ≤ 1954; exact Nat.le_of_ble_eq_true rfl), Nat.le_of_ble_eq_true rfl, Nat.le_of_ble_eq_true rfl⟩ ((g79_ok e9).up (Nat.le_of_ble_eq_true rfl) (Nat.le_of_ble_eq_true rfl)) rfl rfl ?_
    refine Ru.kI (q := (.iconst 0, 1)) (c := 0) (pc' := 19) (by decide +kernel) rfl (by decide) rfl ?_
    refine Ru.op (q := (.istore_n 2, 1)) (S' := (20, [some (.ref 28), some (.ref v1), some (vI 0)], [], _, _)) (by decide +kernel) rfl ?_
    obtain ⟨o41, e45, h⟩ := ob_some h
    refine g78L20_ok FU _ _ trivial _ e45 _ ?_
    intro d42 d43 d44 hd46
    cases h
    exact Ru.end (q := (.return_, 1)) (by decide +kernel) rfl rfl
  · replace h := if_f b7 h
    refine Ru.br (k := .ne) (off := 9) (bb := true) (tg := 18) (by decide +kernel) (by decide +kernel) (cz (ci_ne1 e5.1 (by decide) b7)) rfl ?_
    refine Ru.kI (q := (.iconst 0, 1)) (c := 0) (pc' := 19) (by decide +kernel) rfl (by decide) rfl ?_
    refine Ru.op (q := (.istore_n 2, 1)) (S' := (20, [some (.ref 28), some (.ref v1), some (vI 0)], [], _, _)) (by decide +kernel) rfl ?_
    obtain ⟨o47, e51, h⟩ := ob_some h
    refine g78L20_ok FU _ _ trivial _ e51 _ ?_
    intro d48 d49 d50 hd52
    cases h
    exact Ru.end (q := (.return_, 1)) (by decide +kernel) rfl rfl
set_option maxRecDepth 100000 in
set_option maxHeartbeats 4000000 in
theorem g77_ok {S : St} {v1 : Int} {v2 : Int} {o : Nat × Int × St} (h : g77 S v1 v2 = some o) : Ru none 79 1976 77 (0, mn_pad (mn_ent [.ref 0, vI v1, vI v2]) 4, [], S.ns, Hp S) ((o.1, tv o.1 o.2.1), o.2.2.ns, Hp o.2.2) := by
  unfold g77 at h
  show Ru none 79 1976 77 (0, [some (.ref 0), some (vI v1), some (vI v2), none], [], S.ns, Hp S) _
  refine Ru.op (q := (.iload_n 1, 1)) (S' := (1, _, _, _, _)) (by decide +kernel) rfl ?_
  obtain ⟨g1, h⟩ := gd_some h
  by_cases b2 : v1 = 0
  · replace h := if_t b2 h
    refine Ru.br (k := .eq) (off := 10) (bb := true) (tg := 11) (by decide +kernel) (by decide +kernel) (cz (ci_eq1 g1 (by decide) b2)) rfl ?_
    refine Ru.op (q := (.aload_n 0, 1)) (S' := (12, _, _, _, _)) (by decide +kernel) rfl ?_
    refine Ru.getR (pc' := 15) (i := 19) (ci := 0) (k := 1) (nn := 0) (z := 0) (v := .ref 13) (by decide +kernel) (by decide +kernel) (hp0 _) (by decide) rfl rfl ?_
    refine Ru.getI (pc' := 18) (i := 105) (ci := 3) (k := 1) (nn := 0) (z := 0) (x := (S.F 13 1)) (by decide +kernel) (by decide +kernel) (hp13 _) (by decide) rfl (eI_of _) rfl ?_
    refine Ru.op (q := (.istore_n 3, 1)) (S' := (19, [some (.ref 0), some (vI v1), some (vI v2), some (vI (S.F 13 1))], [], _, _)) (by decide +kernel) rfl ?_
    refine Ru.op (q := (.iload_n 2, 1)) (S' := (20, _, _, _, _)) (by decide +kernel) rfl ?_
    obtain ⟨g3, h⟩ := gd_some h
    by_cases b4 : v2 < 0
    · replace h := if_t b4 h
      refine Ru.br (k := .lt) (off := 8) (bb := true) (tg := 28) (by decide +kernel) (by decide +kernel) (cz (ci_lt1 g3 (by decide) b4)) rfl ?_
      cases h
      exact tho (S := S) (Ru.thr (q := (.new 108, 3)) (by decide +kernel) rfl rfl (by decide +kernel))
    · replace h := if_f b4 h
      refine Ru.br (k := .lt) (off := 8) (bb := false) (tg := 23) (by decide +kernel) (by decide +kernel) (cz (ci_lt0 g3 (by decide) b4)) rfl ?_
      refine Ru.op (q := (.iload_n 2, 1)) (S' := (24, _, _, _, _)) (by decide +kernel) rfl ?_
      refine Ru.op (q := (.iload_n 3, 1)) (S' := (25, _, _, _, _)) (by decide +kernel) rfl ?_
      by_cases b5 : v2 < (S.F 13 1)
      · replace h := if_t b5 h
        refine Ru.br2 (k := .lt) (off := 11) (bb := true) (tg := 36) (by decide +kernel) (by decide +kernel) (ci_lt1 g3 (inR_to _) b5) rfl ?_
        refine Ru.op (q := (.aload_n 0, 1)) (S' := (37, _, _, _, _)) (by decide +kernel) rfl ?_
        refine Ru.getR (pc' := 40) (i := 26) (ci := 0) (k := 2) (nn := 0) (z := 0) (v := .ref 28) (by decide +kernel) (by decide +kernel) (hp0 _) (by decide) rfl rfl ?_
        refine Ru.op (q := (.iload_n 1, 1)) (S' := (41, _, _, _, _)) (by decide +kernel) rfl ?_
        refine Ru.br (k := .eq) (off := 12) (bb := true) (tg := 53) (by decide +kernel) (by decide +kernel) (cz (ci_eq1 g1 (by decide) b2)) rfl ?_
        refine Ru.op (q := (.aload_n 0, 1)) (S' := (54, _, _, _, _)) (by decide +kernel) rfl ?_
        refine Ru.getR (pc' := 57) (i := 19) (ci := 0) (k := 1) (nn := 0) (z := 0) (v := .ref 13) (by decide +kernel) (by decide +kernel) (hp0 _) (by decide) rfl rfl ?_
        refine Ru.getR (pc' := 60) (i := 111) (ci := 3) (k := 0) (nn := 0) (z := 0) (v := .ref 14) (by decide +kernel) (by decide +kernel) (hp13 _) (by decide) rfl rfl ?_
        refine Ru.op (q := (.iload_n 2, 1)) (S' := (61, _, _, _, _)) (by decide +kernel) rfl ?_
        obtain ⟨g6, h⟩ := gd_some h
        obtain ⟨c7, e8, h⟩ := ob_some h
        refine Ru.aldI (pc' := 62) (i := v2) (b := c7) (by decide +kernel) (hp14 _) (by decide) g6 e8 rfl ?_
        obtain ⟨c9, n10, n11, n12, n13, n14, n15, e16, q17, h⟩ := gK_some h
        refine Ru.getR (pc' := 65) (i := 115) (ci := 9) (k := 0) (nn := 0) (z := 0) (v := .ref c9) (by decide +kernel) (by decide +kernel) q17 (by decide) rfl rfl ?_
        obtain ⟨o18, e19, h⟩ := ob_some h
        refine Ru.vcallI (pc' := 68) (st' := []) (i := 121) (j2 := 78) (ci := 8) (k := 0) (z := 0) (as := [.ref c9]) (by decide +kernel) (by decide +kernel) rfl rfl (hp28 _) (by decide) ⟨(Nat.le_of_ble_eq_true rfl), (by show 19 + 3 ≤ 1976; exact Nat.le_of_ble_eq_true rfl), Nat.le_of_ble_eq_true rfl, Nat.le_of_ble_eq_true rfl⟩ ((g78_ok e19).up (Nat.le_of_ble_eq_true rfl) (Nat.le_of_ble_eq_true rfl)) rfl rfl ?_
        refine Ru.op (q := (.aload_n 0, 1)) (S' := (69, _, _, _, _)) (by decide +kernel) rfl ?_
        refine Ru.getR (pc' := 72) (i := 26) (ci := 0) (k := 2) (nn := 0) (z := 0) (v := .ref 28) (by decide +kernel) (by decide +kernel) (hp0 _) (by decide) rfl rfl ?_
        refine Ru.getI (pc' := 75) (i := 125) (ci := 8) (k := 1) (nn := 0) (z := 0) (x := (o18.F 28 1)) (by decide +kernel) (by decide +kernel) (hp28 _) (by decide) rfl (eI_of _) rfl ?_
        cases h
        exact Ru.iret (by decide +kernel) rfl rfl
      · replace h := if_f b5 h
        refine Ru.br2 (k := .lt) (off := 11) (bb := false) (tg := 28) (by decide +kernel) (by decide +kernel) (ci_lt0 g3 (inR_to _) b5) rfl ?_
        cases h
        exact tho (S := S) (Ru.thr (q := (.new 108, 3)) (by decide +kernel) rfl rfl (by decide +kernel))
  · replace h := if_f b2 h
    refine Ru.br (k := .eq) (off := 10) (bb := false) (tg := 4) (by decide +kernel) (by decide +kernel) (cz (ci_eq0 g1 (by decide) b2)) rfl ?_
    refine Ru.op (q := (.aload_n 0, 1)) (S' := (5, _, _, _, _)) (by decide +kernel) rfl ?_
    refine Ru.getI (pc' := 8) (i := 102) (ci := 0) (k := 5) (nn := 0) (z := 0) (x := (S.F 0 5)) (by decide +kernel) (by decide +kernel) (hp0 _) (by decide) rfl (eI_of _) rfl ?_
    refine Ru.op (q := (.goto 10, 3)) (S' := (18, _, _, _, _)) (by decide +kernel) rfl ?_
    refine Ru.op (q := (.istore_n 3, 1)) (S' := (19, [some (.ref 0), some (vI v1), some (vI v2), some (vI (S.F 0 5))], [], _, _)) (by decide +kernel) rfl ?_
    refine Ru.op (q := (.iload_n 2, 1)) (S' := (20, _, _, _, _)) (by decide +kernel) rfl ?_
    obtain ⟨g20, h⟩ := gd_some h
    by_cases b21 : v2 < 0
    · replace h := if_t b21 h
      refine Ru.br (k := .lt) (off := 8) (bb := true) (tg := 28) (by decide +kernel) (by decide +kernel) (cz (ci_lt1 g20 (by decide) b21)) rfl ?_
      cases h
      exact tho (S := S) (Ru.thr (q := (.new 108, 3)) (by decide +kernel) rfl rfl (by decide +kernel))
    · replace h := if_f b21 h
      refine Ru.br (k := .lt) (off := 8) (bb := false) (tg := 23) (by decide +kernel) (by decide +kernel) (cz (ci_lt0 g20 (by decide) b21)) rfl ?_
      refine Ru.op (q := (.iload_n 2, 1)) (S' := (24, _, _, _, _)) (by decide +kernel) rfl ?_
      refine Ru.op (q := (.iload_n 3, 1)) (S' := (25, _, _, _, _)) (by decide +kernel) rfl ?_
      by_cases b22 : v2 < (S.F 0 5)
      · replace h := if_t b22 h
        refine Ru.br2 (k := .lt) (off := 11) (bb := true) (tg := 36) (by decide +kernel) (by decide +kernel) (ci_lt1 g20 (inR_to _) b22) rfl ?_
        refine Ru.op (q := (.aload_n 0, 1)) (S' := (37, _, _, _, _)) (by decide +kernel) rfl ?_
        refine Ru.getR (pc' := 40) (i := 26) (ci := 0) (k := 2) (nn := 0) (z := 0) (v := .ref 28) (by decide +kernel) (by decide +kernel) (hp0 _) (by decide) rfl rfl ?_
        refine Ru.op (q := (.iload_n 1, 1)) (S' := (41, _, _, _, _)) (by decide +kernel) rfl ?_
        refine Ru.br (k := .eq) (off := 12) (bb := false) (tg := 44) (by decide +kernel) (by decide +kernel) (cz (ci_eq0 g1 (by decide) b2)) rfl ?_
        refine Ru.op (q := (.aload_n 0, 1)) (S' := (45, _, _, _, _)) (by decide +kernel) rfl ?_
        refine Ru.getR (pc' := 48) (i := 39) (ci := 0) (k := 4) (nn := 0) (z := 0) (v := .ref 35) (by decide +kernel) (by decide +kernel) (hp0 _) (by decide) rfl rfl ?_
        refine Ru.op (q := (.iload_n 2, 1)) (S' := (49, _, _, _, _)) (by decide +kernel) rfl ?_
        obtain ⟨g23, h⟩ := gd_some h
        obtain ⟨c24, e25, h⟩ := ob_some h
        refine Ru.aldI (pc' := 50) (i := v2) (b := c24) (by decide +kernel) (hp35 _) (by decide) g23 e25 rfl ?_
        refine Ru.op (q := (.goto 15, 3)) (S' := (65, _, _, _, _)) (by decide +kernel) rfl ?_
        obtain ⟨o26, e27, h⟩ := ob_some h
        refine Ru.vcallI (pc' := 68) (st' := []) (i := 121) (j2 := 78) (ci := 8) (k := 0) (z := 0) (as := [.ref c24]) (by decide +kernel) (by decide +kernel) rfl rfl (hp28 _) (by decide) ⟨(Nat.le_of_ble_eq_true rfl), (by show 19 + 3 ≤ 1976; exact Nat.le_of_ble_eq_true rfl), Nat.le_of_ble_eq_true rfl, Nat.le_of_ble_eq_true rfl⟩ ((g78_ok e27).up (Nat.le_of_ble_eq_true rfl) (Nat.le_of_ble_eq_true rfl)) rfl rfl ?_
        refine Ru.op (q := (.aload_n 0, 1)) (S' := (69, _, _, _, _)) (by decide +kernel) rfl ?_
        refine Ru.getR (pc' := 72) (i := 26) (ci := 0) (k := 2) (nn := 0) (z := 0) (v := .ref 28) (by decide +kernel) (by decide +kernel) (hp0 _) (by decide) rfl rfl ?_
        refine Ru.getI (pc' := 75) (i := 125) (ci := 8) (k := 1) (nn := 0) (z := 0) (x := (o26.F 28 1)) (by decide +kernel) (by decide +kernel) (hp28 _) (by decide) rfl (eI_of _) rfl ?_
        cases h
        exact Ru.iret (by decide +kernel) rfl rfl
      · replace h := if_f b22 h
        refine Ru.br2 (k := .lt) (off := 11) (bb := false) (tg := 28) (by decide +kernel) (by decide +kernel) (ci_lt0 g20 (inR_to _) b22) rfl ?_
        cases h
        exact tho (S := S) (Ru.thr (q := (.new 108, 3)) (by decide +kernel) rfl rfl (by decide +kernel))
set_option maxRecDepth 100000 in
set_option maxHeartbeats 4000000 in
theorem g83_ok {S : St} {v1 : Int} {o : Nat × Int × St} (h : g83 S v1 = some o) : Ru none 10 200 83 (0, mn_pad (mn_ent [.ref 0, vI v1]) 2, [], S.ns, Hp S) ((o.1, tv o.1 o.2.1), o.2.2.ns, Hp o.2.2) := by
  unfold g83 at h
  show Ru none 10 200 83 (0, [some (.ref 0), some (vI v1)], [], S.ns, Hp S) _
  refine Ru.op (q := (.iload_n 1, 1)) (S' := (1, _, _, _, _)) (by decide +kernel) rfl ?_
  obtain ⟨g1, h⟩ := gd_some h
  by_cases b2 : v1 < 0
  · replace h := if_t b2 h
    refine Ru.br (k := .lt) (off := 14) (bb := true) (tg := 15) (by decide +kernel) (by decide +kernel) (cz (ci_lt1 g1 (by decide) b2)) rfl ?_
    cases h
    exact tho (S := S) (Ru.thr (q := (.new 108, 3)) (by decide +kernel) rfl rfl (by decide +kernel))
  · replace h := if_f b2 h
    refine Ru.br (k := .lt) (off := 14) (bb := false) (tg := 4) (by decide +kernel) (by decide +kernel) (cz (ci_lt0 g1 (by decide) b2)) rfl ?_
    refine Ru.op (q := (.iload_n 1, 1)) (S' := (5, _, _, _, _)) (by decide +kernel) rfl ?_
    refine Ru.op (q := (.aload_n 0, 1)) (S' := (6, _, _, _, _)) (by decide +kernel) rfl ?_
    refine Ru.getR (pc' := 9) (i := 26) (ci := 0) (k := 2) (nn := 0) (z := 0) (v := .ref 28) (by decide +kernel) (by decide +kernel) (hp0 _) (by decide) rfl rfl ?_
    refine Ru.getI (pc' := 12) (i := 125) (ci := 8) (k := 1) (nn := 0) (z := 0) (x := (S.F 28 1)) (by decide +kernel) (by decide +kernel) (hp28 _) (by decide) rfl (eI_of _) rfl ?_
    by_cases b3 : v1 < (S.F 28 1)
    · replace h := if_t b3 h
      refine Ru.br2 (k := .lt) (off := 11) (bb := true) (tg := 23) (by decide +kernel) (by decide +kernel) (ci_lt1 g1 (inR_to _) b3) rfl ?_
      refine Ru.op (q := (.aload_n 0, 1)) (S' := (24, _, _, _, _)) (by decide +kernel) rfl ?_
      refine Ru.getR (pc' := 27) (i := 26) (ci := 0) (k := 2) (nn := 0) (z := 0) (v := .ref 28) (by decide +kernel) (by decide +kernel) (hp0 _) (by decide) rfl rfl ?_
      refine Ru.getR (pc' := 30) (i := 126) (ci := 8) (k := 0) (nn := 0) (z := 0) (v := .ref 29) (by decide +kernel) (by decide +kernel) (hp28 _) (by decide) rfl rfl ?_
      refine Ru.op (q := (.iload_n 1, 1)) (S' := (31, _, _, _, _)) (by decide +kernel) rfl ?_
      obtain ⟨g4, h⟩ := gd_some h
      refine Ru.cldI (pc' := 32) (i := v1) (z := (S.A 29 v1)) (by decide +kernel) (hp29 _) g4 (eI_of _) rfl ?_
      obtain ⟨g5, h⟩ := gd_some h
      cases h
      exact Ru.iret (by decide +kernel) rfl (nar_ch g5)
    · replace h := if_f b3 h
      refine Ru.br2 (k := .lt) (off := 11) (bb := false) (tg := 15) (by decide +kernel) (by decide +kernel) (ci_lt0 g1 (inR_to _) b3) rfl ?_
      cases h
      exact tho (S := S) (Ru.thr (q := (.new 108, 3)) (by decide +kernel) rfl rfl (by decide +kernel))
set_option maxRecDepth 100000 in
set_option maxHeartbeats 4000000 in
theorem g84_ok {S : St} {v1 : Int} {v2 : Int} {o : Nat × Int × St} (h : g84 S v1 v2 = some o) : Ru none 10 200 84 (0, mn_pad (mn_ent [.ref 0, vI v1, vI v2]) 4, [], S.ns, Hp S) ((o.1, tv o.1 o.2.1), o.2.2.ns, Hp o.2.2) := by
  unfold g84 at h
  show Ru none 10 200 84 (0, [some (.ref 0), some (vI v1), some (vI v2), none], [], S.ns, Hp S) _
  refine Ru.op (q := (.iload_n 1, 1)) (S' := (1, _, _, _, _)) (by decide +kernel) rfl ?_
  obtain ⟨g1, h⟩ := gd_some h
  by_cases b2 : v1 < 0
  · replace h := if_t b2 h
    refine Ru.br (k := .lt) (off := 14) (bb := true) (tg := 15) (by decide +kernel) (by decide +kernel) (cz (ci_lt1 g1 (by decide) b2)) rfl ?_
    cases h
    exact tho (S := S) (Ru.thr (q := (.new 108, 3)) (by decide +kernel) rfl rfl (by decide +kernel))
  · replace h := if_f b2 h
    refine Ru.br (k := .lt) (off := 14) (bb := false) (tg := 4) (by decide +kernel) (by decide +kernel) (cz (ci_lt0 g1 (by decide) b2)) rfl ?_
    refine Ru.op (q := (.iload_n 1, 1)) (S' := (5, _, _, _, _)) (by decide +kernel) rfl ?_
    refine Ru.op (q := (.aload_n 0, 1)) (S' := (6, _, _, _, _)) (by decide +kernel) rfl ?_
    refine Ru.getR (pc' := 9) (i := 19) (ci := 0) (k := 1) (nn := 0) (z := 0) (v := .ref 13) (by decide +kernel) (by decide +kernel) (hp0 _) (by decide) rfl rfl ?_
    refine Ru.getI (pc' := 12) (i := 105) (ci := 3) (k := 1) (nn := 0) (z := 0) (x := (S.F 13 1)) (by decide +kernel) (by decide +kernel) (hp13 _) (by decide) rfl (eI_of _) rfl ?_
    by_cases b3 : v1 < (S.F 13 1)
    · replace h := if_t b3 h
      refine Ru.br2 (k := .lt) (off := 11) (bb := true) (tg := 23) (by decide +kernel) (by decide +kernel) (ci_lt1 g1 (inR_to _) b3) rfl ?_
      refine Ru.op (q := (.aload_n 0, 1)) (S' := (24, _, _, _, _)) (by decide +kernel) rfl ?_
      refine Ru.getR (pc' := 27) (i := 19) (ci := 0) (k := 1) (nn := 0) (z := 0) (v := .ref 13) (by decide +kernel) (by decide +kernel) (hp0 _) (by decide) rfl rfl ?_
      refine Ru.getR (pc' := 30) (i := 111) (ci := 3) (k := 0) (nn := 0) (z := 0) (v := .ref 14) (by decide +kernel) (by decide +kernel) (hp13 _) (by decide) rfl rfl ?_
      refine Ru.op (q := (.iload_n 1, 1)) (S' := (31, _, _, _, _)) (by decide +kernel) rfl ?_
      obtain ⟨g4, h⟩ := gd_some h
      obtain ⟨c5, e6, h⟩ := ob_some h
      refine Ru.aldI (pc' := 32) (i := v1) (b := c5) (by decide +kernel) (hp14 _) (by decide) g4 e6 rfl ?_
      refine Ru.op (q := (.astore_n 3, 1)) (S' := (33, [some (.ref 0), some (vI v1), some (vI v2), some (.ref c5)], [], _, _)) (by decide +kernel) rfl ?_
      refine Ru.op (q := (.iload_n 2, 1)) (S' := (34, _, _, _, _)) (by decide +kernel) rfl ?_
      obtain ⟨g7, h⟩ := gd_some h
      by_cases b8 : v2 = 0
      · replace h := if_t b8 h
        refine Ru.sw (d := 92) (lo2 := 0) (hi := 7) (offs := #[46, 51, 59, 67, 72, 77, 82, 87]) (len := 46) (tg := 80) (by decide +kernel) (by rw [b8]; rfl) ?_
        refine Ru.op (q := (.aload_n 3, 1)) (S' := (81, _, _, _, _)) (by decide +kernel) rfl ?_
        obtain ⟨c9, n10, n11, n12, n13, n14, n15, e16, q17, h⟩ := gK_some h
        refine Ru.getR (pc' := 84) (i := 129) (ci := 9) (k := 1) (nn := 0) (z := 0) (v := vI n10) (by decide +kernel) (by decide +kernel) q17 (by decide) rfl rfl ?_
        cases h
        exact Ru.iret (by decide +kernel) rfl rfl
      · replace h := if_f b8 h
        by_cases b18 : v2 = 1
        · replace h := if_t b18 h
          refine Ru.sw (d := 92) (lo2 := 0) (hi := 7) (offs := #[46, 51, 59, 67, 72, 77, 82, 87]) (len := 46) (tg := 85) (by decide +kernel) (by rw [b18]; rfl) ?_
          refine Ru.op (q := (.aload_n 3, 1)) (S' := (86, _, _, _, _)) (by decide +kernel) rfl ?_
          obtain ⟨c19, n20, n21, n22, n23, n24, n25, e26, q27, h⟩ := gK_some h
          refine Ru.getR (pc' := 89) (i := 115) (ci := 9) (k := 0) (nn := 0) (z := 0) (v := .ref c19) (by decide +kernel) (by decide +kernel) q27 (by decide) rfl rfl ?_
          obtain ⟨c28, c29, n30, n31, e32, q33, h⟩ := gC_some h
          refine Ru.getR (pc' := 92) (i := 132) (ci := 5) (k := 2) (nn := 0) (z := 0) (v := vI n30) (by decide +kernel) (by decide +kernel) q33 (by decide) rfl rfl ?_
          cases h
          exact Ru.iret (by decide +kernel) rfl rfl
        · replace h := if_f b18 h
          by_cases b34 : v2 = 2
          · replace h := if_t b34 h
            refine Ru.sw (d := 92) (lo2 := 0) (hi := 7) (offs := #[46, 51, 59, 67, 72, 77, 82, 87]) (len := 46) (tg := 93) (by decide +kernel) (by rw [b34]; rfl) ?_
            refine Ru.op (q := (.aload_n 3, 1)) (S' := (94, _, _, _, _)) (by decide +kernel) rfl ?_
            obtain ⟨c35, n36, n37, n38, n39, n40, n41, e42, q43, h⟩ := gK_some h
            refine Ru.getR (pc' := 97) (i := 115) (ci := 9) (k := 0) (nn := 0) (z := 0) (v := .ref c35) (by decide +kernel) (by decide +kernel) q43 (by decide) rfl rfl ?_
            obtain ⟨c44, c45, n46, n47, e48, q49, h⟩ := gC_some h
            refine Ru.getR (pc' := 100) (i := 135) (ci := 5) (k := 3) (nn := 0) (z := 0) (v := vI n47) (by decide +kernel) (by decide +kernel) q49 (by decide) rfl rfl ?_
            cases h
            exact Ru.iret (by decide +kernel) rfl rfl
          · replace h := if_f b34 h
            by_cases b50 : v2 = 3
            · replace h := if_t b50 h
              refine Ru.sw (d := 92) (lo2 := 0) (hi := 7) (offs := #[46, 51, 59, 67, 72, 77, 82, 87]) (len := 46) (tg := 101) (by decide +kernel) (by rw [b50]; rfl) ?_
              refine Ru.op (q := (.aload_n 3, 1)) (S' := (102, _, _, _, _)) (by decide +kernel) rfl ?_
              obtain ⟨c51, n52, n53, n54, n55, n56, n57, e58, q59, h⟩ := gK_some h
              refine Ru.getR (pc' := 105) (i := 138) (ci := 9) (k := 2) (nn := 0) (z := 0) (v := vI n53) (by decide +kernel) (by decide +kernel) q59 (by decide) rfl rfl ?_
              cases h
              exact Ru.iret (by decide +kernel) rfl rfl
            · replace h := if_f b50 h
              by_cases b60 : v2 = 4
              · replace h := if_t b60 h
                refine Ru.sw (d := 92) (lo2 := 0) (hi := 7) (offs := #[46, 51, 59, 67, 72, 77, 82, 87]) (len := 46) (tg := 106) (by decide +kernel) (by rw [b60]; rfl) ?_
                refine Ru.op (q := (.aload_n 3, 1)) (S' := (107, _, _, _, _)) (by decide +kernel) rfl ?_
                obtain ⟨c61, n62, n63, n64, n65, n66, n67, e68, q69, h⟩ := gK_some h
                refine Ru.getR (pc' := 110) (i := 141) (ci := 9) (k := 3) (nn := 0) (z := 0) (v := vI n64) (by decide +kernel) (by decide +kernel) q69 (by decide) rfl rfl ?_
                cases h
                exact Ru.iret (by decide +kernel) rfl rfl
              · replace h := if_f b60 h
                by_cases b70 : v2 = 5
                · replace h := if_t b70 h
                  refine Ru.sw (d := 92) (lo2 := 0) (hi := 7) (offs := #[46, 51, 59, 67, 72, 77, 82, 87]) (len := 46) (tg := 111) (by decide +kernel) (by rw [b70]; rfl) ?_
                  refine Ru.op (q := (.aload_n 3, 1)) (S' := (112, _, _, _, _)) (by decide +kernel) rfl ?_
                  obtain ⟨c71, n72, n73, n74, n75, n76, n77, e78, q79, h⟩ := gK_some h
                  refine Ru.getR (pc' := 115) (i := 144) (ci := 9) (k := 4) (nn := 0) (z := 0) (v := vI n75) (by decide +kernel) (by decide +kernel) q79 (by decide) rfl rfl ?_
                  cases h
                  exact Ru.iret (by decide +kernel) rfl rfl
                · replace h := if_f b70 h
                  by_cases b80 : v2 = 6
                  · replace h := if_t b80 h
                    refine Ru.sw (d := 92) (lo2 := 0) (hi := 7) (offs := #[46, 51, 59, 67, 72, 77, 82, 87]) (len := 46) (tg := 116) (by decide +kernel) (by rw [b80]; rfl) ?_
                    refine Ru.op (q := (.aload_n 3, 1)) (S' := (117, _, _, _, _)) (by decide +kernel) rfl ?_
                    obtain ⟨c81, n82, n83, n84, n85, n86, n87, e88, q89, h⟩ := gK_some h
                    refine Ru.getR (pc' := 120) (i := 147) (ci := 9) (k := 5) (nn := 0) (z := 0) (v := vI n86) (by decide +kernel) (by decide +kernel) q89 (by decide) rfl rfl ?_
                    cases h
                    exact Ru.iret (by decide +kernel) rfl rfl
                  · replace h := if_f b80 h
                    by_cases b90 : v2 = 7
                    · replace h := if_t b90 h
                      refine Ru.sw (d := 92) (lo2 := 0) (hi := 7) (offs := #[46, 51, 59, 67, 72, 77, 82, 87]) (len := 46) (tg := 121) (by decide +kernel) (by rw [b90]; rfl) ?_
                      refine Ru.op (q := (.aload_n 3, 1)) (S' := (122, _, _, _, _)) (by decide +kernel) rfl ?_
                      obtain ⟨c91, n92, n93, n94, n95, n96, n97, e98, q99, h⟩ := gK_some h
                      refine Ru.getR (pc' := 125) (i := 150) (ci := 9) (k := 6) (nn := 0) (z := 0) (v := vI n97) (by decide +kernel) (by decide +kernel) q99 (by decide) rfl rfl ?_
                      cases h
                      exact Ru.iret (by decide +kernel) rfl rfl
                    · replace h := if_f b90 h
                      refine Ru.sw (d := 92) (lo2 := 0) (hi := 7) (offs := #[46, 51, 59, 67, 72, 77, 82, 87]) (len := 46) (tg := 126) (by decide +kernel) (by simp only [mn_opC]; rw [eI_to g7, if_pos (by omega)]; rfl) ?_
                      cases h
                      exact tho (S := S) (Ru.thr (q := (.new 51, 3)) (by decide +kernel) rfl rfl (by decide +kernel))
    · replace h := if_f b3 h
      refine Ru.br2 (k := .lt) (off := 11) (bb := false) (tg := 15) (by decide +kernel) (by decide +kernel) (ci_lt0 g1 (inR_to _) b3) rfl ?_
      cases h
      exact tho (S := S) (Ru.thr (q := (.new 108, 3)) (by decide +kernel) rfl rfl (by decide +kernel))
set_option maxRecDepth 100000 in
set_option maxHeartbeats 4000000 in
theorem g85_ok {S : St} {v1 : Int} {v2 : Int} {o : Nat × Int × St} (h : g85 S v1 v2 = some o) : Ru none 13 278 85 (0, mn_pad (mn_ent [.ref 0, vI v1, vI v2]) 3, [], S.ns, Hp S) ((o.1, tv o.1 o.2.1), o.2.2.ns, Hp o.2.2) := by
  unfold g85 at h
  show Ru none 13 278 85 (0, [some (.ref 0), some (vI v1), some (vI v2)], [], S.ns, Hp S) _
  refine Ru.op (q := (.iload_n 1, 1)) (S' := (1, _, _, _, _)) (by decide +kernel) rfl ?_
  obtain ⟨g1, h⟩ := gd_some h
  by_cases b2 : v1 < 0
  · replace h := if_t b2 h
    refine Ru.br (k := .lt) (off := 29) (bb := true) (tg := 30) (by decide +kernel) (by decide +kernel) (cz (ci_lt1 g1 (by decide) b2)) rfl ?_
    cases h
    exact tho (S := S) (Ru.thr (q := (.new 108, 3)) (by decide +kernel) rfl rfl (by decide +kernel))
  · replace h := if_f b2 h
    refine Ru.br (k := .lt) (off := 29) (bb := false) (tg := 4) (by decide +kernel) (by decide +kernel) (cz (ci_lt0 g1 (by decide) b2)) rfl ?_
    refine Ru.op (q := (.iload_n 1, 1)) (S' := (5, _, _, _, _)) (by decide +kernel) rfl ?_
    refine Ru.op (q := (.aload_n 0, 1)) (S' := (6, _, _, _, _)) (by decide +kernel) rfl ?_
    refine Ru.getR (pc' := 9) (i := 19) (ci := 0) (k := 1) (nn := 0) (z := 0) (v := .ref 13) (by decide +kernel) (by decide +kernel) (hp0 _) (by decide) rfl rfl ?_
    refine Ru.getI (pc' := 12) (i := 105) (ci := 3) (k := 1) (nn := 0) (z := 0) (x := (S.F 13 1)) (by decide +kernel) (by decide +kernel) (hp13 _) (by decide) rfl (eI_of _) rfl ?_
    by_cases b3 : v1 < (S.F 13 1)
    · replace h := if_t b3 h
      refine Ru.br2 (k := .ge) (off := 18) (bb := false) (tg := 15) (by decide +kernel) (by decide +kernel) (ci_ge0 g1 (inR_to _) b3) rfl ?_
      refine Ru.op (q := (.iload_n 2, 1)) (S' := (16, _, _, _, _)) (by decide +kernel) rfl ?_
      obtain ⟨g4, h⟩ := gd_some h
      by_cases b5 : v2 < 0
      · replace h := if_t b5 h
        refine Ru.br (k := .lt) (off := 14) (bb := true) (tg := 30) (by decide +kernel) (by decide +kernel) (cz (ci_lt1 g4 (by decide) b5)) rfl ?_
        cases h
        exact tho (S := S) (Ru.thr (q := (.new 108, 3)) (by decide +kernel) rfl rfl (by decide +kernel))
      · replace h := if_f b5 h
        refine Ru.br (k := .lt) (off := 14) (bb := false) (tg := 19) (by decide +kernel) (by decide +kernel) (cz (ci_lt0 g4 (by decide) b5)) rfl ?_
        refine Ru.op (q := (.iload_n 2, 1)) (S' := (20, _, _, _, _)) (by decide +kernel) rfl ?_
        refine Ru.op (q := (.aload_n 0, 1)) (S' := (21, _, _, _, _)) (by decide +kernel) rfl ?_
        refine Ru.getR (pc' := 24) (i := 19) (ci := 0) (k := 1) (nn := 0) (z := 0) (v := .ref 13) (by decide +kernel) (by decide +kernel) (hp0 _) (by decide) rfl rfl ?_
        refine Ru.getI (pc' := 27) (i := 105) (ci := 3) (k := 1) (nn := 0) (z := 0) (x := (S.F 13 1)) (by decide +kernel) (by decide +kernel) (hp13 _) (by decide) rfl (eI_of _) rfl ?_
        by_cases b6 : v2 < (S.F 13 1)
        · replace h := if_t b6 h
          refine Ru.br2 (k := .lt) (off := 11) (bb := true) (tg := 38) (by decide +kernel) (by decide +kernel) (ci_lt1 g4 (inR_to _) b6) rfl ?_
          refine Ru.op (q := (.aload_n 0, 1)) (S' := (39, _, _, _, _)) (by decide +kernel) rfl ?_
          refine Ru.getR (pc' := 42) (i := 19) (ci := 0) (k := 1) (nn := 0) (z := 0) (v := .ref 13) (by decide +kernel) (by decide +kernel) (hp0 _) (by decide) rfl rfl ?_
          refine Ru.getR (pc' := 45) (i := 153) (ci := 3) (k := 11) (nn := 0) (z := 0) (v := .ref 23) (by decide +kernel) (by decide +kernel) (hp13 _) (by decide) rfl rfl ?_
          refine Ru.op (q := (.aload_n 0, 1)) (S' := (46, _, _, _, _)) (by decide +kernel) rfl ?_
          refine Ru.getR (pc' := 49) (i := 19) (ci := 0) (k := 1) (nn := 0) (z := 0) (v := .ref 13) (by decide +kernel) (by decide +kernel) (hp0 _) (by decide) rfl rfl ?_
          refine Ru.getR (pc' := 52) (i := 111) (ci := 3) (k := 0) (nn := 0) (z := 0) (v := .ref 14) (by decide +kernel) (by decide +kernel) (hp13 _) (by decide) rfl rfl ?_
          refine Ru.op (q := (.iload_n 1, 1)) (S' := (53, _, _, _, _)) (by decide +kernel) rfl ?_
          obtain ⟨g7, h⟩ := gd_some h
          obtain ⟨c8, e9, h⟩ := ob_some h
          refine Ru.aldI (pc' := 54) (i := v1) (b := c8) (by decide +kernel) (hp14 _) (by decide) g7 e9 rfl ?_
          obtain ⟨c10, n11, n12, n13, n14, n15, n16, e17, q18, h⟩ := gK_some h
          refine Ru.getR (pc' := 57) (i := 115) (ci := 9) (k := 0) (nn := 0) (z := 0) (v := .ref c10) (by decide +kernel) (by decide +kernel) q18 (by decide) rfl rfl ?_
          refine Ru.op (q := (.aload_n 0, 1)) (S' := (58, _, _, _, _)) (by decide +kernel) rfl ?_
          refine Ru.getR (pc' := 61) (i := 19) (ci := 0) (k := 1) (nn := 0) (z := 0) (v := .ref 13) (by decide +kernel) (by decide +kernel) (hp0 _) (by decide) rfl rfl ?_
          refine Ru.getR (pc' := 64) (i := 111) (ci := 3) (k := 0) (nn := 0) (z := 0) (v := .ref 14) (by decide +kernel) (by decide +kernel) (hp13 _) (by decide) rfl rfl ?_
          refine Ru.op (q := (.iload_n 2, 1)) (S' := (65, _, _, _, _)) (by decide +kernel) rfl ?_
          obtain ⟨g19, h⟩ := gd_some h
          obtain ⟨c20, e21, h⟩ := ob_some h
          refine Ru.aldI (pc' := 66) (i := v2) (b := c20) (by decide +kernel) (hp14 _) (by decide) g19 e21 rfl ?_
          obtain ⟨c22, n23, n24, n25, n26, n27, n28, e29, q30, h⟩ := gK_some h
          refine Ru.getR (pc' := 69) (i := 115) (ci := 9) (k := 0) (nn := 0) (z := 0) (v := .ref c22) (by decide +kernel) (by decide +kernel) q30 (by decide) rfl rfl ?_
          obtain ⟨o31, e32, h⟩ := ob_some h
          refine Ru.vcallI (pc' := 72) (st' := [vI o31.1]) (i := 157) (j2 := 54) (ci := 7) (k := 0) (z := 0) (as := [.ref c10, .ref c22]) (by decide +kernel) (by decide +kernel) rfl rfl (hp23 _) (by decide) ⟨(Nat.le_of_ble_eq_true rfl), (by show 19 + 5 ≤ 278; exact Nat.le_of_ble_eq_true rfl), Nat.le_of_ble_eq_true rfl, Nat.le_of_ble_eq_true rfl⟩ ((g54_ok e32).up (Nat.le_of_ble_eq_true rfl) (Nat.le_of_ble_eq_true rfl)) rfl rfl ?_
          obtain ⟨g33, h⟩ := gd_some h
          cases h
          exact Ru.iret (by decide +kernel) rfl (nar_b1 g33)
        · replace h := if_f b6 h
          refine Ru.br2 (k := .lt) (off := 11) (bb := false) (tg := 30) (by decide +kernel) (by decide +kernel) (ci_lt0 g4 (inR_to _) b6) rfl ?_
          cases h
          exact tho (S := S) (Ru.thr (q := (.new 108, 3)) (by decide +kernel) rfl rfl (by decide +kernel))
    · replace h := if_f b3 h
      refine Ru.br2 (k := .ge) (off := 18) (bb := true) (tg := 30) (by decide +kernel) (by decide +kernel) (ci_ge1 g1 (inR_to _) b3) rfl ?_
      cases h
      exact tho (S := S) (Ru.thr (q := (.new 108, 3)) (by decide +kernel) rfl rfl (by decide +kernel))
set_option maxRecDepth 100000 in
set_option maxHeartbeats 4000000 in
theorem g41_30_ok {S : St} {o : St} (h : g41_30 S  = some o) : Ru none 10 200 41 (0, mn_pad (mn_ent [.ref 30]) 1, [], S.ns, Hp S) ((0, none), o.ns, Hp o) := by
  unfold g41_30 at h
  show Ru none 10 200 41 (0, [some (.ref 30)], [], S.ns, Hp S) _
  refine Ru.op (q := (.aload_n 0, 1)) (S' := (1, _, _, _, _)) (by decide +kernel) rfl ?_
  refine Ru.getR (pc' := 4) (i := 14) (ci := 4) (k := 0) (nn := 0) (z := 0) (v := .ref 31) (by decide +kernel) (by decide +kernel) (hp30 _) (by decide) rfl rfl ?_
  refine Ru.kI (q := (.iconst 0, 1)) (c := 0) (pc' := 5) (by decide +kernel) rfl (by decide) rfl ?_
  refine Ru.putH (pc' := 8) (i := 24) (ci := 5) (k := 2) (nn := 0) (z := 0) (by decide +kernel) (by decide +kernel) (hp31 _) (by decide) (Nat.le_of_ble_eq_true rfl) rfl (by decide +kernel) (pf_31_2 _ _) rfl ?_
  refine Ru.op (q := (.aload_n 0, 1)) (S' := (9, _, _, _, _)) (by decide +kernel) rfl ?_
  refine Ru.getR (pc' := 12) (i := 14) (ci := 4) (k := 0) (nn := 0) (z := 0) (v := .ref 31) (by decide +kernel) (by decide +kernel) (hp30 _) (by decide) rfl rfl ?_
  refine Ru.kI (q := (.iconst 0, 1)) (c := 0) (pc' := 13) (by decide +kernel) rfl (by decide) rfl ?_
  refine Ru.putH (pc' := 16) (i := 28) (ci := 5) (k := 3) (nn := 0) (z := 0) (by decide +kernel) (by decide +kernel) (hp31 _) (by decide) (Nat.le_of_ble_eq_true rfl) rfl (by decide +kernel) (pf_31_3 _ _) rfl ?_
  refine Ru.op (q := (.aload_n 0, 1)) (S' := (17, _, _, _, _)) (by decide +kernel) rfl ?_
  refine Ru.getR (pc' := 20) (i := 14) (ci := 4) (k := 0) (nn := 0) (z := 0) (v := .ref 31) (by decide +kernel) (by decide +kernel) (hp30 _) (by decide) rfl rfl ?_
  refine Ru.getR (pc' := 23) (i := 31) (ci := 5) (k := 1) (nn := 0) (z := 0) (v := .ref 33) (by decide +kernel) (by decide +kernel) (hp31 _) (by decide) rfl rfl ?_
  refine Ru.kI (q := (.iconst 0, 1)) (c := 0) (pc' := 24) (by decide +kernel) rfl (by decide) rfl ?_
  refine Ru.kI (q := (.iconst 0, 1)) (c := 0) (pc' := 25) (by decide +kernel) rfl (by decide) rfl ?_
  refine Ru.istI (pc' := 26) (i := 0) (x := 0) (by decide +kernel) (hp33 _) (by decide) (ps_33 _ _ _) rfl ?_
  refine Ru.op (q := (.aload_n 0, 1)) (S' := (27, _, _, _, _)) (by decide +kernel) rfl ?_
  refine Ru.kI (q := (.iconst 0, 1)) (c := 0) (pc' := 28) (by decide +kernel) rfl (by decide) rfl ?_
  refine Ru.putH (pc' := 31) (i := 34) (ci := 4) (k := 2) (nn := 0) (z := 0) (by decide +kernel) (by decide +kernel) (hp30 _) (by decide) (Nat.le_of_ble_eq_true rfl) rfl (by decide +kernel) (pf_30_2 _ _) rfl ?_
  refine Ru.op (q := (.aload_n 0, 1)) (S' := (32, _, _, _, _)) (by decide +kernel) rfl ?_
  refine Ru.kI (q := (.iconst 0, 1)) (c := 0) (pc' := 33) (by decide +kernel) rfl (by decide) rfl ?_
  refine Ru.putH (pc' := 36) (i := 37) (ci := 4) (k := 3) (nn := 0) (z := 0) (by decide +kernel) (by decide +kernel) (hp30 _) (by decide) (Nat.le_of_ble_eq_true rfl) (fk_b (by decide)) (by decide +kernel) (pf_30_3 _ _) rfl ?_
  cases h
  exact Ru.end (q := (.return_, 1)) (by decide +kernel) rfl rfl
set_option maxRecDepth 100000 in
set_option maxHeartbeats 4000000 in
theorem g48_30L10_ok : ∀ (n : Nat) (v2 : Int) (S : St) (d3 d4 : Option Value) (_ : DD [d3, d4]) (out : St), g48_30L10 n v2 S = some out → ∀ r, (∀ (e2 e3 e4 : Option Value), DD [e2, e3, e4] → Ru none 10 200 48 (47, [some (.ref 30), some (.ref 32), e2, e3, e4], [], out.ns, Hp out) r) → Ru none 10 200 48 (10, [some (.ref 30), some (.ref 32), some (vI v2), d3, d4], [], S.ns, Hp S) r := by
  intro n
  induction n with
  | zero => intro v2 S d3 d4 hdd out h; cases h
  | succ n ih =>
    intro v2 S d3 d4 hdd out h r hk
    unfold g48_30L10 at h
    refine Ru.op (q := (.iload_n 2, 1)) (S' := (11, _, _, _, _)) (by decide +kernel) rfl ?_
    refine Ru.op (q := (.aload_n 0, 1)) (S' := (12, _, _, _, _)) (by decide +kernel) rfl ?_
    refine Ru.getR (pc' := 15) (i := 14) (ci := 4) (k := 0) (nn := 0) (z := 0) (v := .ref 31) (by decide +kernel) (by decide +kernel) (hp30 _) (by decide) rfl rfl ?_
    refine Ru.getI (pc' := 18) (i := 28) (ci := 5) (k := 3) (nn := 0) (z := 0) (x := (S.F 31 3)) (by decide +kernel) (by decide +kernel) (hp31 _) (by decide) rfl (eI_of _) rfl ?_
    obtain ⟨g1, h⟩ := gd_some h
    by_cases b2 : v2 < (S.F 31 3)
    · replace h := if_t b2 h
      refine Ru.br2 (k := .ge) (off := 29) (bb := false) (tg := 21) (by decide +kernel) (by decide +kernel) (ci_ge0 g1 (inR_to _) b2) rfl ?_
      refine Ru.op (q := (.aload_n 1, 1)) (S' := (22, _, _, _, _)) (by decide +kernel) rfl ?_
      refine Ru.op (q := (.iload_n 2, 1)) (S' := (23, _, _, _, _)) (by decide +kernel) rfl ?_
      obtain ⟨g3, h⟩ := gd_some h
      refine Ru.ildI (pc' := 24) (i := v2) (z := (S.A 32 v2)) (by decide +kernel) (hp32 _) g3 (eI_of _) rfl ?_
      refine Ru.kI (q := (.ldc 59, 2)) (c := 32768) (pc' := 26) (by decide +kernel) rfl (by decide) rfl ?_
      by_cases b4 : (S.A 32 v2) < 32768
      · replace h := if_t b4 h
        refine Ru.br2 (k := .ge) (off := 15) (bb := false) (tg := 29) (by decide +kernel) (by decide +kernel) (ci_ge0 (inR_to _) (by decide) b4) rfl ?_
        refine Ru.op (q := (.aload_n 0, 1)) (S' := (30, _, _, _, _)) (by decide +kernel) rfl ?_
        refine Ru.getR (pc' := 33) (i := 20) (ci := 4) (k := 1) (nn := 0) (z := 0) (v := .ref 34) (by decide +kernel) (by decide +kernel) (hp30 _) (by decide) rfl rfl ?_
        refine Ru.op (q := (.aload_n 1, 1)) (S' := (34, _, _, _, _)) (by decide +kernel) rfl ?_
        refine Ru.op (q := (.iload_n 2, 1)) (S' := (35, _, _, _, _)) (by decide +kernel) rfl ?_
        refine Ru.ildI (pc' := 36) (i := v2) (z := (S.A 32 v2)) (by decide +kernel) (hp32 _) g3 (eI_of _) rfl ?_
        refine Ru.kI (q := (.bipush 8, 2)) (c := 8) (pc' := 38) (by decide +kernel) rfl (by decide) rfl ?_
        refine Ru.ar2 (i := .ishr) (z := ((S.A 32 v2) / 256)) (pc' := 39) (by decide +kernel) rfl (ar_shr (inR_to _)) rfl ?_
        refine Ru.kI (q := (.iconst (-1), 1)) (c := (-1)) (pc' := 40) (by decide +kernel) rfl (by decide) rfl ?_
        obtain ⟨g5, h⟩ := gd_some h
        refine Ru.istI (pc' := 41) (i := ((S.A 32 v2) / 256)) (x := (-1)) (by decide +kernel) (hp34 _) g5 (ps_34 _ _ _) rfl ?_
        refine Ru.inc (k := 2) (n := 1) (x := v2) (z := (v2 + 1)) (xs' := [some (.ref 30), some (.ref 32), some (vI (v2 + 1)), d3, d4]) (pc' := 44) (by decide +kernel) rfl rfl rfl rfl ?_
        refine Ru.op (q := (.goto (-34), 3)) (S' := (10, _, _, _, _)) (by decide +kernel) rfl ?_
        exact ih _ _ _ _ ⟨hdd.1, hdd.2.1, trivial⟩ _ h r hk
      · replace h := if_f b4 h
        refine Ru.br2 (k := .ge) (off := 15) (bb := true) (tg := 41) (by decide +kernel) (by decide +kernel) (ci_ge1 (inR_to _) (by decide) b4) rfl ?_
        refine Ru.inc (k := 2) (n := 1) (x := v2) (z := (v2 + 1)) (xs' := [some (.ref 30), some (.ref 32), some (vI (v2 + 1)), d3, d4]) (pc' := 44) (by decide +kernel) rfl rfl rfl rfl ?_
        refine Ru.op (q := (.goto (-34), 3)) (S' := (10, _, _, _, _)) (by decide +kernel) rfl ?_
        exact ih _ _ _ _ ⟨hdd.1, hdd.2.1, trivial⟩ _ h r hk
    · replace h := if_f b2 h
      refine Ru.br2 (k := .ge) (off := 29) (bb := true) (tg := 47) (by decide +kernel) (by decide +kernel) (ci_ge1 g1 (inR_to _) b2) rfl ?_
      cases h
      exact hk _ _ _ ⟨rfl, hdd.1, hdd.2.1, trivial⟩
set_option maxRecDepth 100000 in
set_option maxHeartbeats 4000000 in
theorem g48_30L51_ok : ∀ (n : Nat) (v2 : Int) (v3 : Int) (S : St) (d4 : Option Value) (_ : DD [d4]) (out : St), g48_30L51 n v2 v3 S = some out → ∀ r, (∀ (e0 e1 e2 e3 e4 : Option Value), DD [e0, e1, e2, e3, e4] → Ru none 10 200 48 (119, [e0, e1, e2, e3, e4], [], out.ns, Hp out) r) → Ru none 10 200 48 (51, [some (.ref 30), some (.ref 32), some (vI v2), some (vI v3), d4], [], S.ns, Hp S) r := by
  intro n
  induction n with
  | zero => intro v2 v3 S d4 hdd out h; cases h
  | succ n ih =>
    intro v2 v3 S d4 hdd out h r hk
    unfold g48_30L51 at h
    refine Ru.op (q := (.iload_n 3, 1)) (S' := (52, _, _, _, _)) (by decide +kernel) rfl ?_
    refine Ru.op (q := (.aload_n 0, 1)) (S' := (53, _, _, _, _)) (by decide +kernel) rfl ?_
    refine Ru.getR (pc' := 56) (i := 14) (ci := 4) (k := 0) (nn := 0) (z := 0) (v := .ref 31) (by decide +kernel) (by decide +kernel) (hp30 _) (by decide) rfl rfl ?_
    refine Ru.getI (pc' := 59) (i := 28) (ci := 5) (k := 3) (nn := 0) (z := 0) (x := (S.F 31 3)) (by decide +kernel) (by decide +kernel) (hp31 _) (by decide) rfl (eI_of _) rfl ?_
    obtain ⟨g12, h⟩ := gd_some h
    by_cases b13 : v3 < (S.F 31 3)
    · replace h := if_t b13 h
      refine Ru.br2 (k := .ge) (off := 60) (bb := false) (tg := 62) (by decide +kernel) (by decide +kernel) (ci_ge0 g12 (inR_to _) b13) rfl ?_
      refine Ru.op (q := (.aload_n 1, 1)) (S' := (63, _, _, _, _)) (by decide +kernel) rfl ?_
      refine Ru.op (q := (.iload_n 3, 1)) (S' := (64, _, _, _, _)) (by decide +kernel) rfl ?_
      obtain ⟨g14, h⟩ := gd_some h
      refine Ru.ildI (pc' := 65) (i := v3) (z := (S.A 32 v3)) (by decide +kernel) (hp32 _) g14 (eI_of _) rfl ?_
      refine Ru.kI (q := (.ldc 59, 2)) (c := 32768) (pc' := 67) (by decide +kernel) rfl (by decide) rfl ?_
      by_cases b15 : (S.A 32 v3) < 32768
      · replace h := if_t b15 h
        refine Ru.br2 (k := .ge) (off := 46) (bb := false) (tg := 70) (by decide +kernel) (by decide +kernel) (ci_ge0 (inR_to _) (by decide) b15) rfl ?_
        refine Ru.op (q := (.aload_n 1, 1)) (S' := (71, _, _, _, _)) (by decide +kernel) rfl ?_
        refine Ru.op (q := (.iload_n 3, 1)) (S' := (72, _, _, _, _)) (by decide +kernel) rfl ?_
        refine Ru.ildI (pc' := 73) (i := v3) (z := (S.A 32 v3)) (by decide +kernel) (hp32 _) g14 (eI_of _) rfl ?_
        refine Ru.kI (q := (.bipush 8, 2)) (c := 8) (pc' := 75) (by decide +kernel) rfl (by decide) rfl ?_
        refine Ru.ar2 (i := .ishr) (z := ((S.A 32 v3) / 256)) (pc' := 76) (by decide +kernel) rfl (ar_shr (inR_to _)) rfl ?_
        refine Ru.op (q := (.istore 4, 2)) (S' := (78, [some (.ref 30), some (.ref 32), some (vI v2), some (vI v3), some (vI ((S.A 32 v3) / 256))], [], _, _)) (by decide +kernel) rfl ?_
        refine Ru.op (q := (.aload_n 0, 1)) (S' := (79, _, _, _, _)) (by decide +kernel) rfl ?_
        refine Ru.getR (pc' := 82) (i := 20) (ci := 4) (k := 1) (nn := 0) (z := 0) (v := .ref 34) (by decide +kernel) (by decide +kernel) (hp30 _) (by decide) rfl rfl ?_
        refine Ru.op (q := (.iload 4, 2)) (S' := (84, _, _, _, _)) (by decide +kernel) rfl ?_
        obtain ⟨g16, h⟩ := gd_some h
        refine Ru.ildI (pc' := 85) (i := ((S.A 32 v3) / 256)) (z := (S.A 34 ((S.A 32 v3) / 256))) (by decide +kernel) (hp34 _) g16 (eI_of _) rfl ?_
        refine Ru.kI (q := (.iconst (-1), 1)) (c := (-1)) (pc' := 86) (by decide +kernel) rfl (by decide) rfl ?_
        by_cases b17 : (S.A 34 ((S.A 32 v3) / 256)) = (-1)
        · replace h := if_t b17 h
          refine Ru.br2 (k := .ne) (off := 14) (bb := false) (tg := 89) (by decide +kernel) (by decide +kernel) (ci_ne0 (inR_to _) (by decide) b17) rfl ?_
          refine Ru.op (q := (.aload_n 0, 1)) (S' := (90, _, _, _, _)) (by decide +kernel) rfl ?_
          refine Ru.getR (pc' := 93) (i := 20) (ci := 4) (k := 1) (nn := 0) (z := 0) (v := .ref 34) (by decide +kernel) (by decide +kernel) (hp30 _) (by decide) rfl rfl ?_
          refine Ru.op (q := (.iload 4, 2)) (S' := (95, _, _, _, _)) (by decide +kernel) rfl ?_
          refine Ru.op (q := (.iload_n 2, 1)) (S' := (96, _, _, _, _)) (by decide +kernel) rfl ?_
          refine Ru.istI (pc' := 97) (i := ((S.A 32 v3) / 256)) (x := v2) (by decide +kernel) (hp34 _) g16 (ps_34 _ _ _) rfl ?_
          refine Ru.inc (k := 2) (n := 1) (x := v2) (z := (v2 + 1)) (xs' := [some (.ref 30), some (.ref 32), some (vI (v2 + 1)), some (vI v3), some (vI ((S.A 32 v3) / 256))]) (pc' := 100) (by decide +kernel) rfl rfl rfl rfl ?_
          refine Ru.op (q := (.aload_n 1, 1)) (S' := (101, _, _, _, _)) (by decide +kernel) rfl ?_
          refine Ru.op (q := (.iload_n 3, 1)) (S' := (102, _, _, _, _)) (by decide +kernel) rfl ?_
          refine Ru.op (q := (.aload_n 0, 1)) (S' := (103, _, _, _, _)) (by decide +kernel) rfl ?_
          refine Ru.getR (pc' := 106) (i := 20) (ci := 4) (k := 1) (nn := 0) (z := 0) (v := .ref 34) (by decide +kernel) (by decide +kernel) (hp30 _) (by decide) rfl rfl ?_
          refine Ru.op (q := (.iload 4, 2)) (S' := (108, _, _, _, _)) (by decide +kernel) rfl ?_
          refine Ru.ildI (pc' := 109) (i := ((S.A 32 v3) / 256)) (z := ((S.a 34 ((S.A 32 v3) / 256) v2).A 34 ((S.A 32 v3) / 256))) (by decide +kernel) (hp34 _) g16 (eI_of _) rfl ?_
          refine Ru.kI (q := (.bipush 8, 2)) (c := 8) (pc' := 111) (by decide +kernel) rfl (by decide) rfl ?_
          refine Ru.ar2 (i := .ishl) (z := (((S.a 34 ((S.A 32 v3) / 256) v2).A 34 ((S.A 32 v3) / 256)) * 256)) (pc' := 112) (by decide +kernel) rfl (ar_shl _) rfl ?_
          refine Ru.istI (pc' := 113) (i := v3) (x := (((S.a 34 ((S.A 32 v3) / 256) v2).A 34 ((S.A 32 v3) / 256)) * 256)) (by decide +kernel) (hp32 _) g14 (ps_32 _ _ _) rfl ?_
          refine Ru.inc (k := 3) (n := 1) (x := v3) (z := (v3 + 1)) (xs' := [some (.ref 30), some (.ref 32), some (vI (v2 + 1)), some (vI (v3 + 1)), some (vI ((S.A 32 v3) / 256))]) (pc' := 116) (by decide +kernel) rfl rfl rfl rfl ?_
          refine Ru.op (q := (.goto (-65), 3)) (S' := (51, _, _, _, _)) (by decide +kernel) rfl ?_
          exact ih _ _ _ _ ⟨rfl, trivial⟩ _ h r hk
        · replace h := if_f b17 h
          refine Ru.br2 (k := .ne) (off := 14) (bb := true) (tg := 100) (by decide +kernel) (by decide +kernel) (ci_ne1 (inR_to _) (by decide) b17) rfl ?_
          refine Ru.op (q := (.aload_n 1, 1)) (S' := (101, _, _, _, _)) (by decide +kernel) rfl ?_
          refine Ru.op (q := (.iload_n 3, 1)) (S' := (102, _, _, _, _)) (by decide +kernel) rfl ?_
          refine Ru.op (q := (.aload_n 0, 1)) (S' := (103, _, _, _, _)) (by decide +kernel) rfl ?_
          refine Ru.getR (pc' := 106) (i := 20) (ci := 4) (k := 1) (nn := 0) (z := 0) (v := .ref 34) (by decide +kernel) (by decide +kernel) (hp30 _) (by decide) rfl rfl ?_
          refine Ru.op (q := (.iload 4, 2)) (S' := (108, _, _, _, _)) (by decide +kernel) rfl ?_
          refine Ru.ildI (pc' := 109) (i := ((S.A 32 v3) / 256)) (z := (S.A 34 ((S.A 32 v3) / 256))) (by decide +kernel) (hp34 _) g16 (eI_of _) rfl ?_
          refine Ru.kI (q := (.bipush 8, 2)) (c := 8) (pc' := 111) (by decide +kernel) rfl (by decide) rfl ?_
          refine Ru.ar2 (i := .ishl) (z := ((S.A 34 ((S.A 32 v3) / 256)) * 256)) (pc' := 112) (by decide +kernel) rfl (ar_shl _) rfl ?_
          refine Ru.istI (pc' := 113) (i := v3) (x := ((S.A 34 ((S.A 32 v3) / 256)) * 256)) (by decide +kernel) (hp32 _) g14 (ps_32 _ _ _) rfl ?_
          refine Ru.inc (k := 3) (n := 1) (x := v3) (z := (v3 + 1)) (xs' := [some (.ref 30), some (.ref 32), some (vI v2), some (vI (v3 + 1)), some (vI ((S.A 32 v3) / 256))]) (pc' := 116) (by decide +kernel) rfl rfl rfl rfl ?_
          refine Ru.op (q := (.goto (-65), 3)) (S' := (51, _, _, _, _)) (by decide +kernel) rfl ?_
          exact ih _ _ _ _ ⟨rfl, trivial⟩ _ h r hk
      · replace h := if_f b15 h
        refine Ru.br2 (k := .ge) (off := 46) (bb := true) (tg := 113) (by decide +kernel) (by decide +kernel) (ci_ge1 (inR_to _) (by decide) b15) rfl ?_
        refine Ru.inc (k := 3) (n := 1) (x := v3) (z := (v3 + 1)) (xs' := [some (.ref 30), some (.ref 32), some (vI v2), some (vI (v3 + 1)), d4]) (pc' := 116) (by decide +kernel) rfl rfl rfl rfl ?_
        refine Ru.op (q := (.goto (-65), 3)) (S' := (51, _, _, _, _)) (by decide +kernel) rfl ?_
        exact ih _ _ _ _ ⟨hdd.1, trivial⟩ _ h r hk
    · replace h := if_f b13 h
      refine Ru.br2 (k := .ge) (off := 60) (bb := true) (tg := 119) (by decide +kernel) (by decide +kernel) (ci_ge1 g12 (inR_to _) b13) rfl ?_
      cases h
      exact hk _ _ _ _ _ ⟨rfl, rfl, rfl, rfl, hdd.1, trivial⟩
set_option maxRecDepth 100000 in
set_option maxHeartbeats 4000000 in
theorem g48_30_ok {S : St} {o : St} (h : g48_30 S  = some o) : Ru none 10 200 48 (0, mn_pad (mn_ent [.ref 30]) 5, [], S.ns, Hp S) ((0, none), o.ns, Hp o) := by
  unfold g48_30 at h
  show Ru none 10 200 48 (0, [some (.ref 30), none, none, none, none], [], S.ns, Hp S) _
  refine Ru.op (q := (.aload_n 0, 1)) (S' := (1, _, _, _, _)) (by decide +kernel) rfl ?_
  refine Ru.getR (pc' := 4) (i := 14) (ci := 4) (k := 0) (nn := 0) (z := 0) (v := .ref 31) (by decide +kernel) (by decide +kernel) (hp30 _) (by decide) rfl rfl ?_
  refine Ru.getR (pc' := 7) (i := 41) (ci := 5) (k := 0) (nn := 0) (z := 0) (v := .ref 32) (by decide +kernel) (by decide +kernel) (hp31 _) (by decide) rfl rfl ?_
  refine Ru.op (q := (.astore_n 1, 1)) (S' := (8, [some (.ref 30), some (.ref 32), none, none, none], [], _, _)) (by decide +kernel) rfl ?_
  refine Ru.kI (q := (.iconst 0, 1)) (c := 0) (pc' := 9) (by decide +kernel) rfl (by decide) rfl ?_
  refine Ru.op (q := (.istore_n 2, 1)) (S' := (10, [some (.ref 30), some (.ref 32), some (vI 0), none, none], [], _, _)) (by decide +kernel) rfl ?_
  obtain ⟨o6, e10, h⟩ := ob_some h
  refine g48_30L10_ok FU _ _ _ _ ⟨rfl, rfl, trivial⟩ _ e10 _ ?_
  intro d7 d8 d9 hd11
  refine Ru.kI (q := (.iconst 0, 1)) (c := 0) (pc' := 48) (by decide +kernel) rfl (by decide) rfl ?_
  refine Ru.op (q := (.istore_n 2, 1)) (S' := (49, [some (.ref 30), some (.ref 32), some (vI 0), d8, d9], [], _, _)) (by decide +kernel) rfl ?_
  refine Ru.kI (q := (.iconst 0, 1)) (c := 0) (pc' := 50) (by decide +kernel) rfl (by decide) rfl ?_
  refine Ru.op (q := (.istore_n 3, 1)) (S' := (51, [some (.ref 30), some (.ref 32), some (vI 0), some (vI 0), d9], [], _, _)) (by decide +kernel) rfl ?_
  obtain ⟨o18, e24, h⟩ := ob_some h
  refine g48_30L51_ok FU _ _ _ _ ⟨hd11.2.2.1, trivial⟩ _ e24 _ ?_
  intro d19 d20 d21 d22 d23 hd25
  cases h
  exact Ru.end (q := (.return_, 1)) (by decide +kernel) rfl rfl
