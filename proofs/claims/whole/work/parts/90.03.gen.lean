set_option maxRecDepth 100000 in
set_option maxHeartbeats 4000000 in
theorem g28b_ok {FR LO : Nat} {rc : St → Int → Int → Option (St)} (hF : 12 ≤ FR) (hL : 245 ≤ LO) (hrc : ∀ {S : St} {v1 : Int} {v2 : Int} {o : St}, rc S v1 v2 = some o → Ru none FR LO 27 (0, mn_pad (mn_ent [.ref 1, vI v1, vI v2]) 5, [], S.ns, Hp S) ((0, none), o.ns, Hp o)) {S : St} {v1 : Int} {o : St} (h : g28b rc S v1 = some o) : Ru none (FR + 1) (LO + 24) 28 (0, mn_pad (mn_ent [.ref 1, vI v1]) 6, [], S.ns, Hp S) ((0, none), o.ns, Hp o) := by
  unfold g28b at h
  show Ru none (FR + 1) (LO + 24) 28 (0, [some (.ref 1), some (vI v1), none, none, none, none], [], S.ns, Hp S) _
  refine Ru.op (q := (.aload_n 0, 1)) (S' := (1, _, _, _, _)) (by decide +kernel) rfl ?_
  refine Ru.getI (pc' := 4) (i := 36) (ci := 1) (k := 4) (nn := 0) (z := 0) (x := (S.F 1 4)) (by decide +kernel) (by decide +kernel) (hp1 _) (by decide) rfl (eI_of _) rfl ?_
  refine Ru.op (q := (.istore_n 2, 1)) (S' := (5, [some (.ref 1), some (vI v1), some (vI (S.F 1 4)), none, none, none], [], _, _)) (by decide +kernel) rfl ?_
  refine Ru.op (q := (.aload_n 0, 1)) (S' := (6, _, _, _, _)) (by decide +kernel) rfl ?_
  refine Ru.kI (q := (.bipush 120, 2)) (c := 120) (pc' := 8) (by decide +kernel) rfl (by decide) rfl ?_
  refine Ru.kI (q := (.bipush 122, 2)) (c := 122) (pc' := 10) (by decide +kernel) rfl (by decide) rfl ?_
  obtain ⟨o1, e2, h⟩ := ob_some h
  refine Ru.vcallI (pc' := 13) (st' := [vI o1.1]) (i := 103) (j2 := 29) (ci := 1) (k := 0) (z := 0) (as := [vI 120, vI 122]) (by decide +kernel) (by decide +kernel) rfl rfl (hp1 _) (by decide) ⟨(by omega), (by show 19 + 5 ≤ (LO + 24); omega), Nat.le_of_ble_eq_true rfl, Nat.le_of_ble_eq_true rfl⟩ ((g29_ok e2).up (by omega) (by show _ ≤ (LO + 24) - (19 + 5); omega)) rfl rfl ?_
  refine Ru.op (q := (.istore_n 3, 1)) (S' := (14, [some (.ref 1), some (vI v1), some (vI (S.F 1 4)), some (vI o1.1), none, none], [], _, _)) (by decide +kernel) rfl ?_
  refine Ru.op (q := (.iload_n 3, 1)) (S' := (15, _, _, _, _)) (by decide +kernel) rfl ?_
  refine Ru.kI (q := (.iconst (-1), 1)) (c := (-1)) (pc' := 16) (by decide +kernel) rfl (by decide) rfl ?_
  obtain ⟨g3, h⟩ := gd_some h
  by_cases b4 : o1.1 = (-1)
  · replace h := if_t b4 h
    refine Ru.br2 (k := .eq) (off := 10) (bb := true) (tg := 26) (by decide +kernel) (by decide +kernel) (ci_eq1 g3 (by decide) b4) rfl ?_
    refine Ru.op (q := (.aload_n 0, 1)) (S' := (27, _, _, _, _)) (by decide +kernel) rfl ?_
    obtain ⟨o5, e6, h⟩ := ob_some h
    refine Ru.vcallI (pc' := 30) (st' := [vI o5]) (i := 69) (j2 := 23) (ci := 1) (k := 0) (z := 0) (as := []) (by decide +kernel) (by decide +kernel) rfl rfl (hp1 _) (by decide) ⟨(by omega), (by show 19 + 1 ≤ (LO + 24); omega), Nat.le_of_ble_eq_true rfl, Nat.le_of_ble_eq_true rfl⟩ ((g23_ok e6).up (by omega) (by show _ ≤ (LO + 24) - (19 + 1); omega)) rfl rfl ?_
    refine Ru.kI (q := (.bipush 36, 2)) (c := 36) (pc' := 32) (by decide +kernel) rfl (by decide) rfl ?_
    obtain ⟨g7, h⟩ := gd_some h
    by_cases b8 : o5 = 36
    · replace h := if_t b8 h
      refine Ru.br2 (k := .ne) (off := 17) (bb := false) (tg := 35) (by decide +kernel) (by decide +kernel) (ci_ne0 g7 (by decide) b8) rfl ?_
      refine Ru.op (q := (.aload_n 0, 1)) (S' := (36, _, _, _, _)) (by decide +kernel) rfl ?_
      refine Ru.getI (pc' := 39) (i := 32) (ci := 1) (k := 5) (nn := 0) (z := 0) (x := (o1.2.F 1 5)) (by decide +kernel) (by decide +kernel) (hp1 _) (by decide) rfl (eI_of _) rfl ?_
      by_cases b9 : (o1.2.F 1 5) = 0
      · replace h := if_t b9 h
        refine Ru.br (k := .eq) (off := 10) (bb := true) (tg := 49) (by decide +kernel) (by decide +kernel) (cz (ci_eq1 (inR_to _) (by decide) b9)) rfl ?_
        refine Ru.op (q := (.aload_n 0, 1)) (S' := (50, _, _, _, _)) (by decide +kernel) rfl ?_
        refine Ru.kI (q := (.bipush 97, 2)) (c := 97) (pc' := 52) (by decide +kernel) rfl (by decide) rfl ?_
        refine Ru.kI (q := (.bipush 107, 2)) (c := 107) (pc' := 54) (by decide +kernel) rfl (by decide) rfl ?_
        obtain ⟨o10, e11, h⟩ := ob_some h
        refine Ru.vcallI (pc' := 57) (st' := [vI o10.1]) (i := 103) (j2 := 29) (ci := 1) (k := 0) (z := 0) (as := [vI 97, vI 107]) (by decide +kernel) (by decide +kernel) rfl rfl (hp1 _) (by decide) ⟨(by omega), (by show 19 + 5 ≤ (LO + 24); omega), Nat.le_of_ble_eq_true rfl, Nat.le_of_ble_eq_true rfl⟩ ((g29_ok e11).up (by omega) (by show _ ≤ (LO + 24) - (19 + 5); omega)) rfl rfl ?_
        refine Ru.op (q := (.istore 4, 2)) (S' := (59, [some (.ref 1), some (vI v1), some (vI (S.F 1 4)), some (vI o1.1), some (vI o10.1), none], [], _, _)) (by decide +kernel) rfl ?_
        refine Ru.op (q := (.iload 4, 2)) (S' := (61, _, _, _, _)) (by decide +kernel) rfl ?_
        refine Ru.kI (q := (.iconst (-1), 1)) (c := (-1)) (pc' := 62) (by decide +kernel) rfl (by decide) rfl ?_
        obtain ⟨g12, h⟩ := gd_some h
        by_cases b13 : o10.1 = (-1)
        · replace h := if_t b13 h
          refine Ru.br2 (k := .ne) (off := 13) (bb := false) (tg := 65) (by decide +kernel) (by decide +kernel) (ci_ne0 g12 (by decide) b13) rfl ?_
          refine Ru.op (q := (.aload_n 0, 1)) (S' := (66, _, _, _, _)) (by decide +kernel) rfl ?_
          refine Ru.op (q := (.aload_n 0, 1)) (S' := (67, _, _, _, _)) (by decide +kernel) rfl ?_
          refine Ru.getI (pc' := 70) (i := 36) (ci := 1) (k := 4) (nn := 0) (z := 0) (x := (o10.2.F 1 4)) (by decide +kernel) (by decide +kernel) (hp1 _) (by decide) rfl (eI_of _) rfl ?_
          obtain ⟨o14, e15, h⟩ := ob_some h
          refine Ru.vcallI (pc' := 73) (st' := [vI o14.1]) (i := 62) (j2 := 25) (ci := 1) (k := 0) (z := 0) (as := [vI (o10.2.F 1 4)]) (by decide +kernel) (by decide +kernel) rfl rfl (hp1 _) (by decide) ⟨(by omega), (by show 19 + 2 ≤ (LO + 24); omega), Nat.le_of_ble_eq_true rfl, Nat.le_of_ble_eq_true rfl⟩ ((g25_ok e15).up (by omega) (by show _ ≤ (LO + 24) - (19 + 2); omega)) rfl rfl ?_
          refine Ru.op (q := (.pop, 1)) (S' := (74, _, _, _, _)) (by decide +kernel) rfl ?_
          cases h
          exact Ru.end (q := (.return_, 1)) (by decide +kernel) rfl rfl
        · replace h := if_f b13 h
          refine Ru.br2 (k := .ne) (off := 13) (bb := true) (tg := 75) (by decide +kernel) (by decide +kernel) (ci_ne1 g12 (by decide) b13) rfl ?_
          refine Ru.op (q := (.aload_n 0, 1)) (S' := (76, _, _, _, _)) (by decide +kernel) rfl ?_
          refine Ru.getI (pc' := 79) (i := 84) (ci := 1) (k := 12) (nn := 0) (z := 0) (x := (o10.2.F 1 12)) (by decide +kernel) (by decide +kernel) (hp1 _) (by decide) rfl (eI_of _) rfl ?_
          refine Ru.op (q := (.istore 5, 2)) (S' := (81, [some (.ref 1), some (vI v1), some (vI (S.F 1 4)), some (vI o1.1), some (vI o10.1), some (vI (o10.2.F 1 12))], [], _, _)) (by decide +kernel) rfl ?_
          refine Ru.op (q := (.aload_n 0, 1)) (S' := (82, _, _, _, _)) (by decide +kernel) rfl ?_
          refine Ru.kI (q := (.ldc 112, 2)) (c := 32768) (pc' := 84) (by decide +kernel) rfl (by decide) rfl ?_
          refine Ru.op (q := (.iload 4, 2)) (S' := (86, _, _, _, _)) (by decide +kernel) rfl ?_
          refine Ru.kI (q := (.bipush 8, 2)) (c := 8) (pc' := 88) (by decide +kernel) rfl (by decide) rfl ?_
          refine Ru.ar2 (i := .ishl) (z := (o10.1 * 256)) (pc' := 89) (by decide +kernel) rfl (ar_shl _) rfl ?_
          refine Ru.ar2 (i := .iadd) (z := (32768 + (o10.1 * 256))) (pc' := 90) (by decide +kernel) rfl (ar_add _ _) rfl ?_
          obtain ⟨o16, e17, h⟩ := ob_some h
          refine Ru.vcallI (pc' := 93) (st' := []) (i := 118) (j2 := 26) (ci := 1) (k := 0) (z := 0) (as := [vI (32768 + (o10.1 * 256))]) (by decide +kernel) (by decide +kernel) rfl rfl (hp1 _) (by decide) ⟨(by omega), (by show 19 + 2 ≤ (LO + 24); omega), Nat.le_of_ble_eq_true rfl, Nat.le_of_ble_eq_true rfl⟩ ((g26_ok e17).up (by omega) (by show _ ≤ (LO + 24) - (19 + 2); omega)) rfl rfl ?_
          refine Ru.op (q := (.aload_n 0, 1)) (S' := (94, _, _, _, _)) (by decide +kernel) rfl ?_
          obtain ⟨o18, e19, h⟩ := ob_some h
          refine Ru.vcallI (pc' := 97) (st' := [vI o18]) (i := 69) (j2 := 23) (ci := 1) (k := 0) (z := 0) (as := []) (by decide +kernel) (by decide +kernel) rfl rfl (hp1 _) (by decide) ⟨(by omega), (by show 19 + 1 ≤ (LO + 24); omega), Nat.le_of_ble_eq_true rfl, Nat.le_of_ble_eq_true rfl⟩ ((g23_ok e19).up (by omega) (by show _ ≤ (LO + 24) - (19 + 1); omega)) rfl rfl ?_
          refine Ru.kI (q := (.bipush 40, 2)) (c := 40) (pc' := 99) (by decide +kernel) rfl (by decide) rfl ?_
          obtain ⟨g20, h⟩ := gd_some h
          by_cases b21 : o18 = 40
          · replace h := if_t b21 h
            refine Ru.br2 (k := .ne) (off := 30) (bb := false) (tg := 102) (by decide +kernel) (by decide +kernel) (ci_ne0 g20 (by decide) b21) rfl ?_
            refine Ru.op (q := (.iload_n 1, 1)) (S' := (103, _, _, _, _)) (by decide +kernel) rfl ?_
            refine Ru.kI (q := (.bipush 14, 2)) (c := 14) (pc' := 105) (by decide +kernel) rfl (by decide) rfl ?_
            obtain ⟨g22, h⟩ := gd_some h
            by_cases b23 : v1 < 14
            · replace h := if_t b23 h
              refine Ru.br2 (k := .lt) (off := 15) (bb := true) (tg := 120) (by decide +kernel) (by decide +kernel) (ci_lt1 g22 (by decide) b23) rfl ?_
              refine Ru.op (q := (.aload_n 0, 1)) (S' := (121, _, _, _, _)) (by decide +kernel) rfl ?_
              refine Ru.op (q := (.iload 5, 2)) (S' := (123, _, _, _, _)) (by decide +kernel) rfl ?_
              refine Ru.op (q := (.iload_n 1, 1)) (S' := (124, _, _, _, _)) (by decide +kernel) rfl ?_
              refine Ru.kI (q := (.iconst 1, 1)) (c := 1) (pc' := 125) (by decide +kernel) rfl (by decide) rfl ?_
              refine Ru.ar2 (i := .iadd) (z := (v1 + 1)) (pc' := 126) (by decide +kernel) rfl (ar_add _ _) rfl ?_
              obtain ⟨o24, e25, h⟩ := ob_some h
              refine Ru.vcallI (pc' := 129) (st' := []) (i := 122) (j2 := 27) (ci := 1) (k := 0) (z := 0) (as := [vI (o10.2.F 1 12), vI (v1 + 1)]) (by decide +kernel) (by decide +kernel) rfl rfl (hp1 _) (by decide) ⟨(by omega), (by show 19 + 5 ≤ (LO + 24); omega), Nat.le_of_ble_eq_true rfl, Nat.le_of_ble_eq_true rfl⟩ ((hrc e25).up (by omega) (by show _ ≤ (LO + 24) - (19 + 5); omega)) rfl rfl ?_
              cases h
              exact Ru.end (q := (.return_, 1)) (by decide +kernel) rfl rfl
            · replace h := if_f b23 h
              refine Ru.br2 (k := .lt) (off := 15) (bb := false) (tg := 108) (by decide +kernel) (by decide +kernel) (ci_lt0 g22 (by decide) b23) rfl ?_
              refine Ru.op (q := (.aload_n 0, 1)) (S' := (109, _, _, _, _)) (by decide +kernel) rfl ?_
              refine Ru.op (q := (.aload_n 0, 1)) (S' := (110, _, _, _, _)) (by decide +kernel) rfl ?_
              refine Ru.getI (pc' := 113) (i := 36) (ci := 1) (k := 4) (nn := 0) (z := 0) (x := (o16.F 1 4)) (by decide +kernel) (by decide +kernel) (hp1 _) (by decide) rfl (eI_of _) rfl ?_
              obtain ⟨o26, e27, h⟩ := ob_some h
              refine Ru.vcallI (pc' := 116) (st' := [vI o26.1]) (i := 62) (j2 := 25) (ci := 1) (k := 0) (z := 0) (as := [vI (o16.F 1 4)]) (by decide +kernel) (by decide +kernel) rfl rfl (hp1 _) (by decide) ⟨(by omega), (by show 19 + 2 ≤ (LO + 24); omega), Nat.le_of_ble_eq_true rfl, Nat.le_of_ble_eq_true rfl⟩ ((g25_ok e27).up (by omega) (by show _ ≤ (LO + 24) - (19 + 2); omega)) rfl rfl ?_
              refine Ru.op (q := (.pop, 1)) (S' := (117, _, _, _, _)) (by decide +kernel) rfl ?_
              refine Ru.op (q := (.goto 12, 3)) (S' := (129, _, _, _, _)) (by decide +kernel) rfl ?_
              cases h
              exact Ru.end (q := (.return_, 1)) (by decide +kernel) rfl rfl
          · replace h := if_f b21 h
            refine Ru.br2 (k := .ne) (off := 30) (bb := true) (tg := 129) (by decide +kernel) (by decide +kernel) (ci_ne1 g20 (by decide) b21) rfl ?_
            cases h
            exact Ru.end (q := (.return_, 1)) (by decide +kernel) rfl rfl
      · replace h := if_f b9 h
        refine Ru.br (k := .eq) (off := 10) (bb := false) (tg := 42) (by decide +kernel) (by decide +kernel) (cz (ci_eq0 (inR_to _) (by decide) b9)) rfl ?_
        refine Ru.op (q := (.aload_n 0, 1)) (S' := (43, _, _, _, _)) (by decide +kernel) rfl ?_
        obtain ⟨o28, e29, h⟩ := ob_some h
        refine Ru.vcallI (pc' := 46) (st' := [vI o28.1]) (i := 132) (j2 := 31) (ci := 1) (k := 0) (z := 0) (as := []) (by decide +kernel) (by decide +kernel) rfl rfl (hp1 _) (by decide) ⟨(by omega), (by show 19 + 4 ≤ (LO + 24); omega), Nat.le_of_ble_eq_true rfl, Nat.le_of_ble_eq_true rfl⟩ ((g31_ok e29).up (by omega) (by show _ ≤ (LO + 24) - (19 + 4); omega)) rfl rfl ?_
        refine Ru.op (q := (.goto 11, 3)) (S' := (57, _, _, _, _)) (by decide +kernel) rfl ?_
        refine Ru.op (q := (.istore 4, 2)) (S' := (59, [some (.ref 1), some (vI v1), some (vI (S.F 1 4)), some (vI o1.1), some (vI o28.1), none], [], _, _)) (by decide +kernel) rfl ?_
        refine Ru.op (q := (.iload 4, 2)) (S' := (61, _, _, _, _)) (by decide +kernel) rfl ?_
        refine Ru.kI (q := (.iconst (-1), 1)) (c := (-1)) (pc' := 62) (by decide +kernel) rfl (by decide) rfl ?_
        obtain ⟨g30, h⟩ := gd_some h
        by_cases b31 : o28.1 = (-1)
        · replace h := if_t b31 h
          refine Ru.br2 (k := .ne) (off := 13) (bb := false) (tg := 65) (by decide +kernel) (by decide +kernel) (ci_ne0 g30 (by decide) b31) rfl ?_
          refine Ru.op (q := (.aload_n 0, 1)) (S' := (66, _, _, _, _)) (by decide +kernel) rfl ?_
          refine Ru.op (q := (.aload_n 0, 1)) (S' := (67, _, _, _, _)) (by decide +kernel) rfl ?_
          refine Ru.getI (pc' := 70) (i := 36) (ci := 1) (k := 4) (nn := 0) (z := 0) (x := (o28.2.F 1 4)) (by decide +kernel) (by decide +kernel) (hp1 _) (by decide) rfl (eI_of _) rfl ?_
          obtain ⟨o32, e33, h⟩ := ob_some h
          refine Ru.vcallI (pc' := 73) (st' := [vI o32.1]) (i := 62) (j2 := 25) (ci := 1) (k := 0) (z := 0) (as := [vI (o28.2.F 1 4)]) (by decide +kernel) (by decide +kernel) rfl rfl (hp1 _) (by decide) ⟨(by omega), (by show 19 + 2 ≤ (LO + 24); omega), Nat.le_of_ble_eq_true rfl, Nat.le_of_ble_eq_true rfl⟩ ((g25_ok e33).up (by omega) (by show _ ≤ (LO + 24) - (19 + 2); omega)) rfl rfl ?_
          refine Ru.op (q := (.pop, 1)) (S' := (74, _, _, _, _)) (by decide +kernel) rfl ?_
          cases h
          exact Ru.end (q := (.return_, 1)) (by decide +kernel) rfl rfl
        · replace h := if_f b31 h
          refine Ru.br2 (k := .ne) (off := 13) (bb := true) (tg := 75) (by decide +kernel) (by decide +kernel) (ci_ne1 g30 (by decide) b31) rfl ?_
          refine Ru.op (q := (.aload_n 0, 1)) (S' := (76, _, _, _, _)) (by decide +kernel) rfl ?_
          refine Ru.getI (pc' := 79) (i := 84) (ci := 1) (k := 12) (nn := 0) (z := 0) (x := (o28.2.F 1 12)) (by decide +kernel) (by decide +kernel) (hp1 _) (by decide) rfl (eI_of _) rfl ?_
          refine Ru.op (q := (.istore 5, 2)) (S' := (81, [some (.ref 1), some (vI v1), some (vI (S.F 1 4)), some (vI o1.1), some (vI o28.1), some (vI (o28.2.F 1 12))], [], _, _)) (by decide +kernel) rfl ?_
          refine Ru.op (q := (.aload_n 0, 1)) (S' := (82, _, _, _, _)) (by decide +kernel) rfl ?_
          refine Ru.kI (q := (.ldc 112, 2)) (c := 32768) (pc' := 84) (by decide +kernel) rfl (by decide) rfl ?_
          refine Ru.op (q := (.iload 4, 2)) (S' := (86, _, _, _, _)) (by decide +kernel) rfl ?_
          refine Ru.kI (q := (.bipush 8, 2)) (c := 8) (pc' := 88) (by decide +kernel) rfl (by decide) rfl ?_
          refine Ru.ar2 (i := .ishl) (z := (o28.1 * 256)) (pc' := 89) (by decide +kernel) rfl (ar_shl _) rfl ?_
          refine Ru.ar2 (i := .iadd) (z := (32768 + (o28.1 * 256))) (pc' := 90) (by decide +kernel) rfl (ar_add _ _) rfl ?_
          obtain ⟨o34, e35, h⟩ := ob_some h
          refine Ru.vcallI (pc' := 93) (st' := []) (i := 118) (j2 := 26) (ci := 1) (k := 0) (z := 0) (as := [vI (32768 + (o28.1 * 256))]) (by decide +kernel) (by decide +kernel) rfl rfl (hp1 _) (by decide) ⟨(by omega), (by show 19 + 2 ≤ (LO + 24); omega), Nat.le_of_ble_eq_true rfl, Nat.le_of_ble_eq_true rfl⟩ ((g26_ok e35).up (by omega) (by show _ ≤ (LO + 24) - (19 + 2); omega)) rfl rfl ?_
          refine Ru.op (q := (.aload_n 0, 1)) (S' := (94, _, _, _, _)) (by decide +kernel) rfl ?_
          obtain ⟨o36, e37, h⟩ := ob_some h
          refine Ru.vcallI (pc' := 97) (st' := [vI o36]) (i := 69) (j2 := 23) (ci := 1) (k := 0) (z := 0) (as := []) (by decide +kernel) (by decide +kernel) rfl rfl (hp1 _) (by decide) ⟨(by omega), (by show 19 + 1 ≤ (LO + 24); omega), Nat.le_of_ble_eq_true rfl, Nat.le_of_ble_eq_true rfl⟩ ((g23_ok e37).up (by omega) (by show _ ≤ (LO + 24) - (19 + 1); omega)) rfl rfl ?_
          refine Ru.kI (q := (.bipush 40, 2)) (c := 40) (pc' := 99) (by decide +kernel) rfl (by decide) rfl ?_
          obtain ⟨g38, h⟩ := gd_some h
          by_cases b39 : o36 = 40
          · replace h := if_t b39 h
            refine Ru.br2 (k := .ne) (off := 30) (bb := false) (tg := 102) (by decide +kernel) (by decide +kernel) (ci_ne0 g38 (by decide) b39) rfl ?_
            refine Ru.op (q := (.iload_n 1, 1)) (S' := (103, _, _, _, _)) (by decide +kernel) rfl ?_
            refine Ru.kI (q := (.bipush 14, 2)) (c := 14) (pc' := 105) (by decide +kernel) rfl (by decide) rfl ?_
            obtain ⟨g40, h⟩ := gd_some h
            by_cases b41 : v1 < 14
            · replace h := if_t b41 h
              refine Ru.br2 (k := .lt) (off := 15) (bb := true) (tg := 120) (by decide +kernel) (by decide +kernel) (ci_lt1 g40 (by decide) b41) rfl ?_
              refine Ru.op (q := (.aload_n 0, 1)) (S' := (121, _, _, _, _)) (by decide +kernel) rfl ?_
              refine Ru.op (q := (.iload 5, 2)) (S' := (123, _, _, _, _)) (by decide +kernel) rfl ?_
              refine Ru.op (q := (.iload_n 1, 1)) (S' := (124, _, _, _, _)) (by decide +kernel) rfl ?_
              refine Ru.kI (q := (.iconst 1, 1)) (c := 1) (pc' := 125) (by decide +kernel) rfl (by decide) rfl ?_
              refine Ru.ar2 (i := .iadd) (z := (v1 + 1)) (pc' := 126) (by decide +kernel) rfl (ar_add _ _) rfl ?_
              obtain ⟨o42, e43, h⟩ := ob_some h
              refine Ru.vcallI (pc' := 129) (st' := []) (i := 122) (j2 := 27) (ci := 1) (k := 0) (z := 0) (as := [vI (o28.2.F 1 12), vI (v1 + 1)]) (by decide +kernel) (by decide +kernel) rfl rfl (hp1 _) (by decide) ⟨(by omega), (by show 19 + 5 ≤ (LO + 24); omega), Nat.le_of_ble_eq_true rfl, Nat.le_of_ble_eq_true rfl⟩ ((hrc e43).up (by omega) (by show _ ≤ (LO + 24) - (19 + 5); omega)) rfl rfl ?_
              cases h
              exact Ru.end (q := (.return_, 1)) (by decide +kernel) rfl rfl
            · replace h := if_f b41 h
              refine Ru.br2 (k := .lt) (off := 15) (bb := false) (tg := 108) (by decide +kernel) (by decide +kernel) (ci_lt0 g40 (by decide) b41) rfl ?_
              refine Ru.op (q := (.aload_n 0, 1)) (S' := (109, _, _, _, _)) (by decide +kernel) rfl ?_
              refine Ru.op (q := (.aload_n 0, 1)) (S' := (110, _, _, _, _)) (by decide +kernel) rfl ?_
              refine Ru.getI (pc' := 113) (i := 36) (ci := 1) (k := 4) (nn := 0) (z := 0) (x := (o34.F 1 4)) (by decide +kernel) (by decide +kernel) (hp1 _) (by decide) rfl (eI_of _) rfl ?_
              obtain ⟨o44, e45, h⟩ := ob_some h
              refine Ru.vcallI (pc' := 116) (st' := [vI o44.1]) (i := 62) (j2 := 25) (ci := 1) (k := 0) (z := 0) (as := [vI (o34.F 1 4)]) (by decide +kernel) (by decide +kernel) rfl rfl (hp1 _) (by decide) ⟨(by omega), (by show 19 + 2 ≤ (LO + 24); omega), Nat.le_of_ble_eq_true rfl, Nat.le_of_ble_eq_true rfl⟩ ((g25_ok e45).up (by omega) (by show _ ≤ (LO + 24) - (19 + 2); omega)) rfl rfl ?_
              refine Ru.op (q := (.pop, 1)) (S' := (117, _, _, _, _)) (by decide +kernel) rfl ?_
              refine Ru.op (q := (.goto 12, 3)) (S' := (129, _, _, _, _)) (by decide +kernel) rfl ?_
              cases h
              exact Ru.end (q := (.return_, 1)) (by decide +kernel) rfl rfl
          · replace h := if_f b39 h
            refine Ru.br2 (k := .ne) (off := 30) (bb := true) (tg := 129) (by decide +kernel) (by decide +kernel) (ci_ne1 g38 (by decide) b39) rfl ?_
            cases h
            exact Ru.end (q := (.return_, 1)) (by decide +kernel) rfl rfl
    · replace h := if_f b8 h
      refine Ru.br2 (k := .ne) (off := 17) (bb := true) (tg := 49) (by decide +kernel) (by decide +kernel) (ci_ne1 g7 (by decide) b8) rfl ?_
      refine Ru.op (q := (.aload_n 0, 1)) (S' := (50, _, _, _, _)) (by decide +kernel) rfl ?_
      refine Ru.kI (q := (.bipush 97, 2)) (c := 97) (pc' := 52) (by decide +kernel) rfl (by decide) rfl ?_
      refine Ru.kI (q := (.bipush 107, 2)) (c := 107) (pc' := 54) (by decide +kernel) rfl (by decide) rfl ?_
      obtain ⟨o46, e47, h⟩ := ob_some h
      refine Ru.vcallI (pc' := 57) (st' := [vI o46.1]) (i := 103) (j2 := 29) (ci := 1) (k := 0) (z := 0) (as := [vI 97, vI 107]) (by decide +kernel) (by decide +kernel) rfl rfl (hp1 _) (by decide) ⟨(by omega), (by show 19 + 5 ≤ (LO + 24); omega), Nat.le_of_ble_eq_true rfl, Nat.le_of_ble_eq_true rfl⟩ ((g29_ok e47).up (by omega) (by show _ ≤ (LO + 24) - (19 + 5); omega)) rfl rfl ?_
      refine Ru.op (q := (.istore 4, 2)) (S' := (59, [some (.ref 1), some (vI v1), some (vI (S.F 1 4)), some (vI o1.1), some (vI o46.1), none], [], _, _)) (by decide +kernel) rfl ?_
      refine Ru.op (q := (.iload 4, 2)) (S' := (61, _, _, _, _)) (by decide +kernel) rfl ?_
      refine Ru.kI (q := (.iconst (-1), 1)) (c := (-1)) (pc' := 62) (by decide +kernel) rfl (by decide) rfl ?_
      obtain ⟨g48, h⟩ := gd_some h
      by_cases b49 : o46.1 = (-1)
      · replace h := if_t b49 h
        refine Ru.br2 (k := .ne) (off := 13) (bb := false) (tg := 65) (by decide +kernel) (by decide +kernel) (ci_ne0 g48 (by decide) b49) rfl ?_
        refine Ru.op (q := (.aload_n 0, 1)) (S' := (66, _, _, _, _)) (by decide +kernel) rfl ?_
        refine Ru.op (q := (.aload_n 0, 1)) (S' := (67, _, _, _, _)) (by decide +kernel) rfl ?_
        refine Ru.getI (pc' := 70) (i := 36) (ci := 1) (k := 4) (nn := 0) (z := 0) (x := (o46.2.F 1 4)) (by decide +kernel) (by decide +kernel) (hp1 _) (by decide) rfl (eI_of _) rfl ?_
        obtain ⟨o50, e51, h⟩ := ob_some h
        refine Ru.vcallI (pc' := 73) (st' := [vI o50.1]) (i := 62) (j2 := 25) (ci := 1) (k := 0) (z := 0) (as := [vI (o46.2.F 1 4)]) (by decide +kernel) (by decide +kernel) rfl rfl (hp1 _) (by decide) ⟨(by omega), (by show 19 + 2 ≤ (LO + 24); omega), Nat.le_of_ble_eq_true rfl, Nat.le_of_ble_eq_true rfl⟩ ((g25_ok e51).up (by omega) (by show _ ≤ (LO + 24) - (19 + 2); omega)) rfl rfl ?_
        refine Ru.op (q := (.pop, 1)) (S' := (74, _, _, _, _)) (by decide +kernel) rfl ?_
        cases h
        exact Ru.end (q := (.return_, 1)) (by decide +kernel) rfl rfl
      · replace h := if_f b49 h
        refine Ru.br2 (k := .ne) (off := 13) (bb := true) (tg := 75) (by decide +kernel) (by decide +kernel) (ci_ne1 g48 (by decide) b49) rfl ?_
        refine Ru.op (q := (.aload_n 0, 1)) (S' := (76, _, _, _, _)) (by decide +kernel) rfl ?_
        refine Ru.getI (pc' := 79) (i := 84) (ci := 1) (k := 12) (nn := 0) (z := 0) (x := (o46.2.F 1 12)) (by decide +kernel) (by decide +kernel) (hp1 _) (by decide) rfl (eI_of _) rfl ?_
        refine Ru.op (q := (.istore 5, 2)) (S' := (81, [some (.ref 1), some (vI v1), some (vI (S.F 1 4)), some (vI o1.1), some (vI o46.1), some (vI (o46.2.F 1 12))], [], _, _)) (by decide +kernel) rfl ?_
        refine Ru.op (q := (.aload_n 0, 1)) (S' := (82, _, _, _, _)) (by decide +kernel) rfl ?_
        refine Ru.kI (q := (.ldc 112, 2)) (c := 32768) (pc' := 84) (by decide +kernel) rfl (by decide) rfl ?_
        refine Ru.op (q := (.iload 4, 2)) (S' := (86, _, _, _, _)) (by decide +kernel) rfl ?_
        refine Ru.kI (q := (.bipush 8, 2)) (c := 8) (pc' := 88) (by decide +kernel) rfl (by decide) rfl ?_
        refine Ru.ar2 (i := .ishl) (z := (o46.1 * 256)) (pc' := 89) (by decide +kernel) rfl (ar_shl _) rfl ?_
        refine Ru.ar2 (i := .iadd) (z := (32768 + (o46.1 * 256))) (pc' := 90) (by decide +kernel) rfl (ar_add _ _) rfl ?_
        obtain ⟨o52, e53, h⟩ := ob_some h
        refine Ru.vcallI (pc' := 93) (st' := []) (i := 118) (j2 := 26) (ci := 1) (k := 0) (z := 0) (as := [vI (32768 + (o46.1 * 256))]) (by decide +kernel) (by decide +kernel) rfl rfl (hp1 _) (by decide) ⟨(by omega), (by show 19 + 2 ≤ (LO + 24); omega), Nat.le_of_ble_eq_true rfl, Nat.le_of_ble_eq_true rfl⟩ ((g26_ok e53).up (by omega) (by show _ ≤ (LO + 24) - (19 + 2); omega)) rfl rfl ?_
        refine Ru.op (q := (.aload_n 0, 1)) (S' := (94, _, _, _, _)) (by decide +kernel) rfl ?_
        obtain ⟨o54, e55, h⟩ := ob_some h
        refine Ru.vcallI (pc' := 97) (st' := [vI o54]) (i := 69) (j2 := 23) (ci := 1) (k := 0) (z := 0) (as := []) (by decide +kernel) (by decide +kernel) rfl rfl (hp1 _) (by decide) ⟨(by omega), (by show 19 + 1 ≤ (LO + 24); omega), Nat.le_of_ble_eq_true rfl, Nat.le_of_ble_eq_true rfl⟩ ((g23_ok e55).up (by omega) (by show _ ≤ (LO + 24) - (19 + 1); omega)) rfl rfl ?_
        refine Ru.kI (q := (.bipush 40, 2)) (c := 40) (pc' := 99) (by decide +kernel) rfl (by decide) rfl ?_
        obtain ⟨g56, h⟩ := gd_some h
        by_cases b57 : o54 = 40
        · replace h := if_t b57 h
          refine Ru.br2 (k := .ne) (off := 30) (bb := false) (tg := 102) (by decide +kernel) (by decide +kernel) (ci_ne0 g56 (by decide) b57) rfl ?_
          refine Ru.op (q := (.iload_n 1, 1)) (S' := (103, _, _, _, _)) (by decide +kernel) rfl ?_
          refine Ru.kI (q := (.bipush 14, 2)) (c := 14) (pc' := 105) (by decide +kernel) rfl (by decide) rfl ?_
          obtain ⟨g58, h⟩ := gd_some h
          by_cases b59 : v1 < 14
          · replace h := if_t b59 h
            refine Ru.br2 (k := .lt) (off := 15) (bb := true) (tg := 120) (by decide +kernel) (by decide +kernel) (ci_lt1 g58 (by decide) b59) rfl ?_
            refine Ru.op (q := (.aload_n 0, 1)) (S' := (121, _, _, _, _)) (by decide +kernel) rfl ?_
            refine Ru.op (q := (.iload 5, 2)) (S' := (123, _, _, _, _)) (by decide +kernel) rfl ?_
            refine Ru.op (q := (.iload_n 1, 1)) (S' := (124, _, _, _, _)) (by decide +kernel) rfl ?_
            refine Ru.kI (q := (.iconst 1, 1)) (c := 1) (pc' := 125) (by decide +kernel) rfl (by decide) rfl ?_
            refine Ru.ar2 (i := .iadd) (z := (v1 + 1)) (pc' := 126) (by decide +kernel) rfl (ar_add _ _) rfl ?_
            obtain ⟨o60, e61, h⟩ := ob_some h
            refine Ru.vcallI (pc' := 129) (st' := []) (i := 122) (j2 := 27) (ci := 1) (k := 0) (z := 0) (as := [vI (o46.2.F 1 12), vI (v1 + 1)]) (by decide +kernel) (by decide +kernel) rfl rfl (hp1 _) (by decide) ⟨(by omega), (by show 19 + 5 ≤ (LO + 24); omega), Nat.le_of_ble_eq_true rfl, Nat.le_of_ble_eq_true rfl⟩ ((hrc e61).up (by omega) (by show _ ≤ (LO + 24) - (19 + 5); omega)) rfl rfl ?_
            cases h
            exact Ru.end (q := (.return_, 1)) (by decide +kernel) rfl rfl
          · replace h := if_f b59 h
            refine Ru.br2 (k := .lt) (off := 15) (bb := false) (tg := 108) (by decide +kernel) (by decide +kernel) (ci_lt0 g58 (by decide) b59) rfl ?_
            refine Ru.op (q := (.aload_n 0, 1)) (S' := (109, _, _, _, _)) (by decide +kernel) rfl ?_
            refine Ru.op (q := (.aload_n 0, 1)) (S' := (110, _, _, _, _)) (by decide +kernel) rfl ?_
            refine Ru.getI (pc' := 113) (i := 36) (ci := 1) (k := 4) (nn := 0) (z := 0) (x := (o52.F 1 4)) (by decide +kernel) (by decide +kernel) (hp1 _) (by decide) rfl (eI_of _) rfl ?_
            obtain ⟨o62, e63, h⟩ := ob_some h
            refine Ru.vcallI (pc' := 116) (st' := [vI o62.1]) (i := 62) (j2 := 25) (ci := 1) (k := 0) (z := 0) (as := [vI (o52.F 1 4)]) (by decide +kernel) (by decide +kernel) rfl rfl (hp1 _) (by decide) ⟨(by omega), (by show 19 + 2 ≤ (LO + 24); omega), Nat.le_of_ble_eq_true rfl, Nat.le_of_ble_eq_true rfl⟩ ((g25_ok e63).up (by omega) (by show _ ≤ (LO + 24) - (19 + 2); omega)) rfl rfl ?_
            refine Ru.op (q := (.pop, 1)) (S' := (117, _, _, _, _)) (by decide +kernel) rfl ?_
            refine Ru.op (q := (.goto 12, 3)) (S' := (129, _, _, _, _)) (by decide +kernel) rfl ?_
            cases h
            exact Ru.end (q := (.return_, 1)) (by decide +kernel) rfl rfl
        · replace h := if_f b57 h
          refine Ru.br2 (k := .ne) (off := 30) (bb := true) (tg := 129) (by decide +kernel) (by decide +kernel) (ci_ne1 g56 (by decide) b57) rfl ?_
          cases h
          exact Ru.end (q := (.return_, 1)) (by decide +kernel) rfl rfl
  · replace h := if_f b4 h
    refine Ru.br2 (k := .eq) (off := 10) (bb := false) (tg := 19) (by decide +kernel) (by decide +kernel) (ci_eq0 g3 (by decide) b4) rfl ?_
    refine Ru.op (q := (.aload_n 0, 1)) (S' := (20, _, _, _, _)) (by decide +kernel) rfl ?_
    refine Ru.op (q := (.iload_n 3, 1)) (S' := (21, _, _, _, _)) (by decide +kernel) rfl ?_
    refine Ru.op (q := (.iload_n 2, 1)) (S' := (22, _, _, _, _)) (by decide +kernel) rfl ?_
    obtain ⟨o64, e65, h⟩ := ob_some h
    refine Ru.vcallI (pc' := 25) (st' := []) (i := 129) (j2 := 30) (ci := 1) (k := 0) (z := 0) (as := [vI o1.1, vI (S.F 1 4)]) (by decide +kernel) (by decide +kernel) rfl rfl (hp1 _) (by decide) ⟨(by omega), (by show 19 + 5 ≤ (LO + 24); omega), Nat.le_of_ble_eq_true rfl, Nat.le_of_ble_eq_true rfl⟩ ((g30_ok e65).up (by omega) (by show _ ≤ (LO + 24) - (19 + 5); omega)) rfl rfl ?_
    cases h
    exact Ru.end (q := (.return_, 1)) (by decide +kernel) rfl rfl
set_option maxRecDepth 100000 in
set_option maxHeartbeats 4000000 in
theorem g27L2_ok {FR LO : Nat} {rc : St → Int → Int → Option (St)} (hF : 12 ≤ FR) (hL : 245 ≤ LO) (hrc : ∀ {S : St} {v1 : Int} {v2 : Int} {o : St}, rc S v1 v2 = some o → Ru none FR LO 27 (0, mn_pad (mn_ent [.ref 1, vI v1, vI v2]) 5, [], S.ns, Hp S) ((0, none), o.ns, Hp o)) {v1 : Int} {v2 : Int} : ∀ (n : Nat) (v3 : Int) (S : St) (d4 : Option Value) (_ : DD [d4]) (out : Sum (St) (St)), g27L2 rc v1 v2 n v3 S = some out → ∀ r, (∀ o, out = .inl o → ∀ (e0 e1 e2 e3 e4 : Option Value), DD [e0, e1, e2, e3, e4] → Ru none (FR + 2) (LO + 49) 27 (96, [e0, e1, e2, e3, e4], [], o.ns, Hp o) r) → (∀ o, out = .inr o → r = ((0, none), o.ns, Hp o)) → Ru none (FR + 2) (LO + 49) 27 (2, [some (.ref 1), some (vI v1), some (vI v2), some (vI v3), d4], [], S.ns, Hp S) r := by
  intro n
  induction n with
  | zero => intro v3 S d4 hdd out h; cases h
  | succ n ih =>
    intro v3 S d4 hdd out h r hk hr
    unfold g27L2 at h
    refine Ru.op (q := (.iload_n 3, 1)) (S' := (3, _, _, _, _)) (by decide +kernel) rfl ?_
    refine Ru.kI (q := (.sipush 160, 3)) (c := 160) (pc' := 6) (by decide +kernel) rfl (by decide) rfl ?_
    obtain ⟨g16, h⟩ := gd_some h
    by_cases b17 : 160 < v3
    · replace h := if_t b17 h
      refine Ru.br2 (k := .gt) (off := 90) (bb := true) (tg := 96) (by decide +kernel) (by decide +kernel) (ci_gt1 g16 (by decide) b17) rfl ?_
      cases h
      exact hk _ rfl _ _ _ _ _ ⟨rfl, rfl, rfl, rfl, hdd.1, trivial⟩
    · replace h := if_f b17 h
      refine Ru.br2 (k := .gt) (off := 90) (bb := false) (tg := 9) (by decide +kernel) (by decide +kernel) (ci_gt0 g16 (by decide) b17) rfl ?_
      refine Ru.op (q := (.aload_n 0, 1)) (S' := (10, _, _, _, _)) (by decide +kernel) rfl ?_
      refine Ru.op (q := (.dup, 1)) (S' := (11, _, _, _, _)) (by decide +kernel) rfl ?_
      refine Ru.getI (pc' := 14) (i := 36) (ci := 1) (k := 4) (nn := 0) (z := 0) (x := (S.F 1 4)) (by decide +kernel) (by decide +kernel) (hp1 _) (by decide) rfl (eI_of _) rfl ?_
      refine Ru.kI (q := (.iconst 1, 1)) (c := 1) (pc' := 15) (by decide +kernel) rfl (by decide) rfl ?_
      refine Ru.ar2 (i := .iadd) (z := ((S.F 1 4) + 1)) (pc' := 16) (by decide +kernel) rfl (ar_add _ _) rfl ?_
      refine Ru.putH (pc' := 19) (i := 36) (ci := 1) (k := 4) (nn := 0) (z := 0) (by decide +kernel) (by decide +kernel) (hp1 _) (by decide) (Nat.le_of_ble_eq_true rfl) rfl (by decide +kernel) (pf_1_4 _ _) rfl ?_
      refine Ru.op (q := (.aload_n 0, 1)) (S' := (20, _, _, _, _)) (by decide +kernel) rfl ?_
      refine Ru.op (q := (.iload_n 2, 1)) (S' := (21, _, _, _, _)) (by decide +kernel) rfl ?_
      obtain ⟨o18, e19, h⟩ := ob_some h
      refine Ru.vcallI (pc' := 24) (st' := []) (i := 126) (j2 := 28) (ci := 1) (k := 0) (z := 0) (as := [vI v2]) (by decide +kernel) (by decide +kernel) rfl rfl (hp1 _) (by decide) ⟨(by omega), (by show 19 + 6 ≤ (LO + 49); omega), Nat.le_of_ble_eq_true rfl, Nat.le_of_ble_eq_true rfl⟩ ((g28b_ok (by omega) (by omega) hrc e19).up (by omega) (by show _ ≤ (LO + 49) - (19 + 6); omega)) rfl rfl ?_
      refine Ru.op (q := (.aload_n 0, 1)) (S' := (25, _, _, _, _)) (by decide +kernel) rfl ?_
      refine Ru.getI (pc' := 28) (i := 40) (ci := 1) (k := 3) (nn := 0) (z := 0) (x := (o18.F 1 3)) (by decide +kernel) (by decide +kernel) (hp1 _) (by decide) rfl (eI_of _) rfl ?_
      refine Ru.kI (q := (.iconst (-1), 1)) (c := (-1)) (pc' := 29) (by decide +kernel) rfl (by decide) rfl ?_
      by_cases b20 : (o18.F 1 3) = (-1)
      · replace h := if_t b20 h
        refine Ru.br2 (k := .eq) (off := 4) (bb := true) (tg := 33) (by decide +kernel) (by decide +kernel) (ci_eq1 (inR_to _) (by decide) b20) rfl ?_
        refine Ru.op (q := (.aload_n 0, 1)) (S' := (34, _, _, _, _)) (by decide +kernel) rfl ?_
        obtain ⟨o21, e22, h⟩ := ob_some h
        refine Ru.vcallI (pc' := 37) (st' := [vI o21]) (i := 69) (j2 := 23) (ci := 1) (k := 0) (z := 0) (as := []) (by decide +kernel) (by decide +kernel) rfl rfl (hp1 _) (by decide) ⟨(by omega), (by show 19 + 1 ≤ (LO + 49); omega), Nat.le_of_ble_eq_true rfl, Nat.le_of_ble_eq_true rfl⟩ ((g23_ok e22).up (by omega) (by show _ ≤ (LO + 49) - (19 + 1); omega)) rfl rfl ?_
        refine Ru.op (q := (.istore 4, 2)) (S' := (39, [some (.ref 1), some (vI v1), some (vI v2), some (vI v3), some (vI o21)], [], _, _)) (by decide +kernel) rfl ?_
        refine Ru.op (q := (.iload 4, 2)) (S' := (41, _, _, _, _)) (by decide +kernel) rfl ?_
        refine Ru.kI (q := (.bipush 41, 2)) (c := 41) (pc' := 43) (by decide +kernel) rfl (by decide) rfl ?_
        obtain ⟨g23, h⟩ := gd_some h
        by_cases b24 : o21 = 41
        · replace h := if_t b24 h
          refine Ru.br2 (k := .ne) (off := 30) (bb := false) (tg := 46) (by decide +kernel) (by decide +kernel) (ci_ne0 g23 (by decide) b24) rfl ?_
          refine Ru.op (q := (.aload_n 0, 1)) (S' := (47, _, _, _, _)) (by decide +kernel) rfl ?_
          refine Ru.op (q := (.dup, 1)) (S' := (48, _, _, _, _)) (by decide +kernel) rfl ?_
          refine Ru.getI (pc' := 51) (i := 36) (ci := 1) (k := 4) (nn := 0) (z := 0) (x := (o18.F 1 4)) (by decide +kernel) (by decide +kernel) (hp1 _) (by decide) rfl (eI_of _) rfl ?_
          refine Ru.kI (q := (.iconst 1, 1)) (c := 1) (pc' := 52) (by decide +kernel) rfl (by decide) rfl ?_
          refine Ru.ar2 (i := .iadd) (z := ((o18.F 1 4) + 1)) (pc' := 53) (by decide +kernel) rfl (ar_add _ _) rfl ?_
          refine Ru.putH (pc' := 56) (i := 36) (ci := 1) (k := 4) (nn := 0) (z := 0) (by decide +kernel) (by decide +kernel) (hp1 _) (by decide) (Nat.le_of_ble_eq_true rfl) rfl (by decide +kernel) (pf_1_4 _ _) rfl ?_
          refine Ru.op (q := (.iload_n 1, 1)) (S' := (57, _, _, _, _)) (by decide +kernel) rfl ?_
          refine Ru.kI (q := (.bipush 16, 2)) (c := 16) (pc' := 59) (by decide +kernel) rfl (by decide) rfl ?_
          obtain ⟨g25, h⟩ := gd_some h
          by_cases b26 : v1 < 16
          · replace h := if_t b26 h
            refine Ru.br2 (k := .ge) (off := 13) (bb := false) (tg := 62) (by decide +kernel) (by decide +kernel) (ci_ge0 g25 (by decide) b26) rfl ?_
            refine Ru.op (q := (.aload_n 0, 1)) (S' := (63, _, _, _, _)) (by decide +kernel) rfl ?_
            refine Ru.getR (pc' := 66) (i := 29) (ci := 1) (k := 11) (nn := 0) (z := 0) (v := .ref 12) (by decide +kernel) (by decide +kernel) (hp1 _) (by decide) rfl rfl ?_
            refine Ru.op (q := (.iload_n 1, 1)) (S' := (67, _, _, _, _)) (by decide +kernel) rfl ?_
            refine Ru.op (q := (.dup2, 1)) (S' := (68, _, _, _, _)) (by decide +kernel) rfl ?_
            obtain ⟨g27, h⟩ := gd_some h
            refine Ru.ildI (pc' := 69) (i := v1) (z := (o18.A 12 v1)) (by decide +kernel) (hp12 _) g27 (eI_of _) rfl ?_
            refine Ru.op (q := (.iload_n 3, 1)) (S' := (70, _, _, _, _)) (by decide +kernel) rfl ?_
            refine Ru.ar2 (i := .iadd) (z := ((o18.A 12 v1) + v3)) (pc' := 71) (by decide +kernel) rfl (ar_add _ _) rfl ?_
            refine Ru.istI (pc' := 72) (i := v1) (x := ((o18.A 12 v1) + v3)) (by decide +kernel) (hp12 _) g27 (ps_12 _ _ _) rfl ?_
            cases h
            have h9 := hr _ rfl
            subst h9
            exact Ru.end (q := (.return_, 1)) (by decide +kernel) rfl rfl
          · replace h := if_f b26 h
            refine Ru.br2 (k := .ge) (off := 13) (bb := true) (tg := 72) (by decide +kernel) (by decide +kernel) (ci_ge1 g25 (by decide) b26) rfl ?_
            cases h
            have h9 := hr _ rfl
            subst h9
            exact Ru.end (q := (.return_, 1)) (by decide +kernel) rfl rfl
        · replace h := if_f b24 h
          refine Ru.br2 (k := .ne) (off := 30) (bb := true) (tg := 73) (by decide +kernel) (by decide +kernel) (ci_ne1 g23 (by decide) b24) rfl ?_
          refine Ru.op (q := (.iload 4, 2)) (S' := (75, _, _, _, _)) (by decide +kernel) rfl ?_
          refine Ru.kI (q := (.bipush 44, 2)) (c := 44) (pc' := 77) (by decide +kernel) rfl (by decide) rfl ?_
          by_cases b28 : o21 = 44
          · replace h := if_t b28 h
            refine Ru.br2 (k := .eq) (off := 13) (bb := true) (tg := 90) (by decide +kernel) (by decide +kernel) (ci_eq1 g23 (by decide) b28) rfl ?_
            refine Ru.inc (k := 3) (n := 1) (x := v3) (z := (v3 + 1)) (xs' := [some (.ref 1), some (vI v1), some (vI v2), some (vI (v3 + 1)), some (vI o21)]) (pc' := 93) (by decide +kernel) rfl rfl rfl rfl ?_
            refine Ru.op (q := (.goto (-91), 3)) (S' := (2, _, _, _, _)) (by decide +kernel) rfl ?_
            exact ih _ _ _ ⟨rfl, trivial⟩ _ h r hk hr
          · replace h := if_f b28 h
            refine Ru.br2 (k := .eq) (off := 13) (bb := false) (tg := 80) (by decide +kernel) (by decide +kernel) (ci_eq0 g23 (by decide) b28) rfl ?_
            refine Ru.op (q := (.aload_n 0, 1)) (S' := (81, _, _, _, _)) (by decide +kernel) rfl ?_
            refine Ru.op (q := (.aload_n 0, 1)) (S' := (82, _, _, _, _)) (by decide +kernel) rfl ?_
            refine Ru.getI (pc' := 85) (i := 36) (ci := 1) (k := 4) (nn := 0) (z := 0) (x := (o18.F 1 4)) (by decide +kernel) (by decide +kernel) (hp1 _) (by decide) rfl (eI_of _) rfl ?_
            obtain ⟨o29, e30, h⟩ := ob_some h
            refine Ru.vcallI (pc' := 88) (st' := [vI o29.1]) (i := 62) (j2 := 25) (ci := 1) (k := 0) (z := 0) (as := [vI (o18.F 1 4)]) (by decide +kernel) (by decide +kernel) rfl rfl (hp1 _) (by decide) ⟨(by omega), (by show 19 + 2 ≤ (LO + 49); omega), Nat.le_of_ble_eq_true rfl, Nat.le_of_ble_eq_true rfl⟩ ((g25_ok e30).up (by omega) (by show _ ≤ (LO + 49) - (19 + 2); omega)) rfl rfl ?_
            refine Ru.op (q := (.pop, 1)) (S' := (89, _, _, _, _)) (by decide +kernel) rfl ?_
            cases h
            have h9 := hr _ rfl
            subst h9
            exact Ru.end (q := (.return_, 1)) (by decide +kernel) rfl rfl
      · replace h := if_f b20 h
        refine Ru.br2 (k := .eq) (off := 4) (bb := false) (tg := 32) (by decide +kernel) (by decide +kernel) (ci_eq0 (inR_to _) (by decide) b20) rfl ?_
        cases h
        have h9 := hr _ rfl
        subst h9
        exact Ru.end (q := (.return_, 1)) (by decide +kernel) rfl rfl
set_option maxRecDepth 100000 in
set_option maxHeartbeats 4000000 in
theorem g27b_ok {FR LO : Nat} {rc : St → Int → Int → Option (St)} (hF : 12 ≤ FR) (hL : 245 ≤ LO) (hrc : ∀ {S : St} {v1 : Int} {v2 : Int} {o : St}, rc S v1 v2 = some o → Ru none FR LO 27 (0, mn_pad (mn_ent [.ref 1, vI v1, vI v2]) 5, [], S.ns, Hp S) ((0, none), o.ns, Hp o)) {S : St} {v1 : Int} {v2 : Int} {o : St} (h : g27b rc S v1 v2 = some o) : Ru none (FR + 2) (LO + 49) 27 (0, mn_pad (mn_ent [.ref 1, vI v1, vI v2]) 5, [], S.ns, Hp S) ((0, none), o.ns, Hp o) := by
  unfold g27b at h
  show Ru none (FR + 2) (LO + 49) 27 (0, [some (.ref 1), some (vI v1), some (vI v2), none, none], [], S.ns, Hp S) _
  refine Ru.kI (q := (.iconst 1, 1)) (c := 1) (pc' := 1) (by decide +kernel) rfl (by decide) rfl ?_
  refine Ru.op (q := (.istore_n 3, 1)) (S' := (2, [some (.ref 1), some (vI v1), some (vI v2), some (vI 1), none], [], _, _)) (by decide +kernel) rfl ?_
  rcases obr_some h with ⟨o31, e37, h⟩ | e37
  · refine g27L2_ok hF hL hrc FU _ _ _ ⟨rfl, trivial⟩ _ e37 _ (fun o' e' => ?_) (fun o' e' => by cases e')
    cases e'
    intro d32 d33 d34 d35 d36 hd38
    cases h
    exact Ru.end (q := (.return_, 1)) (by decide +kernel) rfl rfl
  · exact g27L2_ok hF hL hrc FU _ _ _ ⟨rfl, trivial⟩ _ e37 _ (fun o' e' => by cases e') (fun o' e' => by cases e'; rfl)
theorem g27_ok : ∀ (n : Nat) {S : St} {v1 : Int} {v2 : Int} {o : St}, g27 n S v1 v2 = some o → Ru none (12 + 2 * n) (245 + 49 * n) 27 (0, mn_pad (mn_ent [.ref 1, vI v1, vI v2]) 5, [], S.ns, Hp S) ((0, none), o.ns, Hp o) := by
  intro n
  induction n with
  | zero => intro S v1 v2 o h; cases h
  | succ n ih => intro S v1 v2 o h; exact (g27b_ok (FR := 12 + 2 * n) (LO := 245 + 49 * n) (by omega) (by omega) ih h).up (by omega) (by omega)
set_option maxRecDepth 100000 in
set_option maxHeartbeats 4000000 in
theorem g24_ok {S : St} {v1 : Int} {o : St} (h : g24 S v1 = some o) : Ru none 141 3405 24 (0, mn_pad (mn_ent [.ref 1, vI v1]) 3, [], S.ns, Hp S) ((0, none), o.ns, Hp o) := by
  unfold g24 at h
  show Ru none 141 3405 24 (0, [some (.ref 1), some (vI v1), none], [], S.ns, Hp S) _
  refine Ru.op (q := (.aload_n 0, 1)) (S' := (1, _, _, _, _)) (by decide +kernel) rfl ?_
  obtain ⟨o1, e2, h⟩ := ob_some h
  refine Ru.vcallI (pc' := 4) (st' := [vI o1]) (i := 69) (j2 := 23) (ci := 1) (k := 0) (z := 0) (as := []) (by decide +kernel) (by decide +kernel) rfl rfl (hp1 _) (by decide) ⟨(Nat.le_of_ble_eq_true rfl), (by show 19 + 1 ≤ 3405; exact Nat.le_of_ble_eq_true rfl), Nat.le_of_ble_eq_true rfl, Nat.le_of_ble_eq_true rfl⟩ ((g23_ok e2).up (Nat.le_of_ble_eq_true rfl) (Nat.le_of_ble_eq_true rfl)) rfl rfl ?_
  refine Ru.op (q := (.istore_n 2, 1)) (S' := (5, [some (.ref 1), some (vI v1), some (vI o1)], [], _, _)) (by decide +kernel) rfl ?_
  refine Ru.op (q := (.aload_n 0, 1)) (S' := (6, _, _, _, _)) (by decide +kernel) rfl ?_
  refine Ru.kI (q := (.iconst 0, 1)) (c := 0) (pc' := 7) (by decide +kernel) rfl (by decide) rfl ?_
  refine Ru.putH (pc' := 10) (i := 84) (ci := 1) (k := 12) (nn := 0) (z := 0) (by decide +kernel) (by decide +kernel) (hp1 _) (by decide) (Nat.le_of_ble_eq_true rfl) rfl (by decide +kernel) (pf_1_12 _ _) rfl ?_
  refine Ru.op (q := (.iload_n 2, 1)) (S' := (11, _, _, _, _)) (by decide +kernel) rfl ?_
  refine Ru.kI (q := (.bipush 65, 2)) (c := 65) (pc' := 13) (by decide +kernel) rfl (by decide) rfl ?_
  obtain ⟨g3, h⟩ := gd_some h
  by_cases b4 : o1 < 65
  · replace h := if_t b4 h
    refine Ru.br2 (k := .lt) (off := 9) (bb := true) (tg := 22) (by decide +kernel) (by decide +kernel) (ci_lt1 g3 (by decide) b4) rfl ?_
    refine Ru.op (q := (.aload_n 0, 1)) (S' := (23, _, _, _, _)) (by decide +kernel) rfl ?_
    refine Ru.op (q := (.aload_n 0, 1)) (S' := (24, _, _, _, _)) (by decide +kernel) rfl ?_
    refine Ru.getI (pc' := 27) (i := 36) (ci := 1) (k := 4) (nn := 0) (z := 0) (x := (S.F 1 4)) (by decide +kernel) (by decide +kernel) (hp1 _) (by decide) rfl (eI_of _) rfl ?_
    obtain ⟨o5, e6, h⟩ := ob_some h
    refine Ru.vcallI (pc' := 30) (st' := [vI o5.1]) (i := 62) (j2 := 25) (ci := 1) (k := 0) (z := 0) (as := [vI (S.F 1 4)]) (by decide +kernel) (by decide +kernel) rfl rfl (hp1 _) (by decide) ⟨(Nat.le_of_ble_eq_true rfl), (by show 19 + 2 ≤ 3405; exact Nat.le_of_ble_eq_true rfl), Nat.le_of_ble_eq_true rfl, Nat.le_of_ble_eq_true rfl⟩ ((g25_ok e6).up (Nat.le_of_ble_eq_true rfl) (Nat.le_of_ble_eq_true rfl)) rfl rfl ?_
    refine Ru.op (q := (.pop, 1)) (S' := (31, _, _, _, _)) (by decide +kernel) rfl ?_
    cases h
    exact Ru.end (q := (.return_, 1)) (by decide +kernel) rfl rfl
  · replace h := if_f b4 h
    refine Ru.br2 (k := .lt) (off := 9) (bb := false) (tg := 16) (by decide +kernel) (by decide +kernel) (ci_lt0 g3 (by decide) b4) rfl ?_
    refine Ru.op (q := (.iload_n 2, 1)) (S' := (17, _, _, _, _)) (by decide +kernel) rfl ?_
    refine Ru.kI (q := (.bipush 90, 2)) (c := 90) (pc' := 19) (by decide +kernel) rfl (by decide) rfl ?_
    by_cases b7 : 90 < o1
    · replace h := if_t b7 h
      refine Ru.br2 (k := .le) (off := 13) (bb := false) (tg := 22) (by decide +kernel) (by decide +kernel) (ci_le0 g3 (by decide) b7) rfl ?_
      refine Ru.op (q := (.aload_n 0, 1)) (S' := (23, _, _, _, _)) (by decide +kernel) rfl ?_
      refine Ru.op (q := (.aload_n 0, 1)) (S' := (24, _, _, _, _)) (by decide +kernel) rfl ?_
      refine Ru.getI (pc' := 27) (i := 36) (ci := 1) (k := 4) (nn := 0) (z := 0) (x := (S.F 1 4)) (by decide +kernel) (by decide +kernel) (hp1 _) (by decide) rfl (eI_of _) rfl ?_
      obtain ⟨o8, e9, h⟩ := ob_some h
      refine Ru.vcallI (pc' := 30) (st' := [vI o8.1]) (i := 62) (j2 := 25) (ci := 1) (k := 0) (z := 0) (as := [vI (S.F 1 4)]) (by decide +kernel) (by decide +kernel) rfl rfl (hp1 _) (by decide) ⟨(Nat.le_of_ble_eq_true rfl), (by show 19 + 2 ≤ 3405; exact Nat.le_of_ble_eq_true rfl), Nat.le_of_ble_eq_true rfl, Nat.le_of_ble_eq_true rfl⟩ ((g25_ok e9).up (Nat.le_of_ble_eq_true rfl) (Nat.le_of_ble_eq_true rfl)) rfl rfl ?_
      refine Ru.op (q := (.pop, 1)) (S' := (31, _, _, _, _)) (by decide +kernel) rfl ?_
      cases h
      exact Ru.end (q := (.return_, 1)) (by decide +kernel) rfl rfl
    · replace h := if_f b7 h
      refine Ru.br2 (k := .le) (off := 13) (bb := true) (tg := 32) (by decide +kernel) (by decide +kernel) (ci_le1 g3 (by decide) b7) rfl ?_
      refine Ru.op (q := (.aload_n 0, 1)) (S' := (33, _, _, _, _)) (by decide +kernel) rfl ?_
      refine Ru.op (q := (.dup, 1)) (S' := (34, _, _, _, _)) (by decide +kernel) rfl ?_
      refine Ru.getI (pc' := 37) (i := 36) (ci := 1) (k := 4) (nn := 0) (z := 0) (x := (S.F 1 4)) (by decide +kernel) (by decide +kernel) (hp1 _) (by decide) rfl (eI_of _) rfl ?_
      refine Ru.kI (q := (.iconst 1, 1)) (c := 1) (pc' := 38) (by decide +kernel) rfl (by decide) rfl ?_
      refine Ru.ar2 (i := .iadd) (z := ((S.F 1 4) + 1)) (pc' := 39) (by decide +kernel) rfl (ar_add _ _) rfl ?_
      refine Ru.putH (pc' := 42) (i := 36) (ci := 1) (k := 4) (nn := 0) (z := 0) (by decide +kernel) (by decide +kernel) (hp1 _) (by decide) (Nat.le_of_ble_eq_true rfl) rfl (by decide +kernel) (pf_1_4 _ _) rfl ?_
      refine Ru.op (q := (.aload_n 0, 1)) (S' := (43, _, _, _, _)) (by decide +kernel) rfl ?_
      refine Ru.kI (q := (.ldc 117, 2)) (c := 131072) (pc' := 45) (by decide +kernel) rfl (by decide) rfl ?_
      refine Ru.op (q := (.iload_n 2, 1)) (S' := (46, _, _, _, _)) (by decide +kernel) rfl ?_
      refine Ru.kI (q := (.bipush 65, 2)) (c := 65) (pc' := 48) (by decide +kernel) rfl (by decide) rfl ?_
      refine Ru.ar2 (i := .isub) (z := (o1 - 65)) (pc' := 49) (by decide +kernel) rfl (ar_sub _ _) rfl ?_
      refine Ru.kI (q := (.iconst 2, 1)) (c := 2) (pc' := 50) (by decide +kernel) rfl (by decide) rfl ?_
      refine Ru.ar2 (i := .imul) (z := ((o1 - 65) * 2)) (pc' := 51) (by decide +kernel) rfl (ar_mul _ _) rfl ?_
      refine Ru.kI (q := (.sipush 256, 3)) (c := 256) (pc' := 54) (by decide +kernel) rfl (by decide) rfl ?_
      refine Ru.ar2 (i := .imul) (z := (((o1 - 65) * 2) * 256)) (pc' := 55) (by decide +kernel) rfl (ar_mul _ _) rfl ?_
      refine Ru.ar2 (i := .iadd) (z := (131072 + (((o1 - 65) * 2) * 256))) (pc' := 56) (by decide +kernel) rfl (ar_add _ _) rfl ?_
      refine Ru.op (q := (.iload_n 1, 1)) (S' := (57, _, _, _, _)) (by decide +kernel) rfl ?_
      obtain ⟨g10, h⟩ := gd_some h
      by_cases b11 : v1 = 0
      · replace h := if_t b11 h
        refine Ru.br (k := .eq) (off := 9) (bb := true) (tg := 66) (by decide +kernel) (by decide +kernel) (cz (ci_eq1 g10 (by decide) b11)) rfl ?_
        refine Ru.kI (q := (.iconst 0, 1)) (c := 0) (pc' := 67) (by decide +kernel) rfl (by decide) rfl ?_
        refine Ru.ar2 (i := .iadd) (z := ((131072 + (((o1 - 65) * 2) * 256)) + 0)) (pc' := 68) (by decide +kernel) rfl (ar_add _ _) rfl ?_
        obtain ⟨o12, e13, h⟩ := ob_some h
        refine Ru.vcallI (pc' := 71) (st' := []) (i := 118) (j2 := 26) (ci := 1) (k := 0) (z := 0) (as := [vI ((131072 + (((o1 - 65) * 2) * 256)) + 0)]) (by decide +kernel) (by decide +kernel) rfl rfl (hp1 _) (by decide) ⟨(Nat.le_of_ble_eq_true rfl), (by show 19 + 2 ≤ 3405; exact Nat.le_of_ble_eq_true rfl), Nat.le_of_ble_eq_true rfl, Nat.le_of_ble_eq_true rfl⟩ ((g26_ok e13).up (Nat.le_of_ble_eq_true rfl) (Nat.le_of_ble_eq_true rfl)) rfl rfl ?_
        refine Ru.op (q := (.aload_n 0, 1)) (S' := (72, _, _, _, _)) (by decide +kernel) rfl ?_
        obtain ⟨o14, e15, h⟩ := ob_some h
        refine Ru.vcallI (pc' := 75) (st' := [vI o14]) (i := 69) (j2 := 23) (ci := 1) (k := 0) (z := 0) (as := []) (by decide +kernel) (by decide +kernel) rfl rfl (hp1 _) (by decide) ⟨(Nat.le_of_ble_eq_true rfl), (by show 19 + 1 ≤ 3405; exact Nat.le_of_ble_eq_true rfl), Nat.le_of_ble_eq_true rfl, Nat.le_of_ble_eq_true rfl⟩ ((g23_ok e15).up (Nat.le_of_ble_eq_true rfl) (Nat.le_of_ble_eq_true rfl)) rfl rfl ?_
        refine Ru.kI (q := (.bipush 40, 2)) (c := 40) (pc' := 77) (by decide +kernel) rfl (by decide) rfl ?_
        obtain ⟨g16, h⟩ := gd_some h
        by_cases b17 : o14 = 40
        · replace h := if_t b17 h
          refine Ru.br2 (k := .ne) (off := 9) (bb := false) (tg := 80) (by decide +kernel) (by decide +kernel) (ci_ne0 g16 (by decide) b17) rfl ?_
          refine Ru.op (q := (.aload_n 0, 1)) (S' := (81, _, _, _, _)) (by decide +kernel) rfl ?_
          refine Ru.kI (q := (.iconst 0, 1)) (c := 0) (pc' := 82) (by decide +kernel) rfl (by decide) rfl ?_
          refine Ru.kI (q := (.iconst 0, 1)) (c := 0) (pc' := 83) (by decide +kernel) rfl (by decide) rfl ?_
          obtain ⟨o18, e19, h⟩ := ob_some h
          refine Ru.vcallI (pc' := 86) (st' := []) (i := 122) (j2 := 27) (ci := 1) (k := 0) (z := 0) (as := [vI 0, vI 0]) (by decide +kernel) (by decide +kernel) rfl rfl (hp1 _) (by decide) ⟨(Nat.le_of_ble_eq_true rfl), (by show 19 + 5 ≤ 3405; exact Nat.le_of_ble_eq_true rfl), Nat.le_of_ble_eq_true rfl, Nat.le_of_ble_eq_true rfl⟩ ((g27_ok 64 e19).up (Nat.le_of_ble_eq_true rfl) (Nat.le_of_ble_eq_true rfl)) rfl rfl ?_
          cases h
          exact Ru.end (q := (.return_, 1)) (by decide +kernel) rfl rfl
        · replace h := if_f b17 h
          refine Ru.br2 (k := .ne) (off := 9) (bb := true) (tg := 86) (by decide +kernel) (by decide +kernel) (ci_ne1 g16 (by decide) b17) rfl ?_
          cases h
          exact Ru.end (q := (.return_, 1)) (by decide +kernel) rfl rfl
      · replace h := if_f b11 h
        refine Ru.br (k := .eq) (off := 9) (bb := false) (tg := 60) (by decide +kernel) (by decide +kernel) (cz (ci_eq0 g10 (by decide) b11)) rfl ?_
        refine Ru.kI (q := (.sipush 256, 3)) (c := 256) (pc' := 63) (by decide +kernel) rfl (by decide) rfl ?_
        refine Ru.op (q := (.goto 4, 3)) (S' := (67, _, _, _, _)) (by decide +kernel) rfl ?_
        refine Ru.ar2 (i := .iadd) (z := ((131072 + (((o1 - 65) * 2) * 256)) + 256)) (pc' := 68) (by decide +kernel) rfl (ar_add _ _) rfl ?_
        obtain ⟨o20, e21, h⟩ := ob_some h
        refine Ru.vcallI (pc' := 71) (st' := []) (i := 118) (j2 := 26) (ci := 1) (k := 0) (z := 0) (as := [vI ((131072 + (((o1 - 65) * 2) * 256)) + 256)]) (by decide +kernel) (by decide +kernel) rfl rfl (hp1 _) (by decide) ⟨(Nat.le_of_ble_eq_true rfl), (by show 19 + 2 ≤ 3405; exact Nat.le_of_ble_eq_true rfl), Nat.le_of_ble_eq_true rfl, Nat.le_of_ble_eq_true rfl⟩ ((g26_ok e21).up (Nat.le_of_ble_eq_true rfl) (Nat.le_of_ble_eq_true rfl)) rfl rfl ?_
        refine Ru.op (q := (.aload_n 0, 1)) (S' := (72, _, _, _, _)) (by decide +kernel) rfl ?_
        obtain ⟨o22, e23, h⟩ := ob_some h
        refine Ru.vcallI (pc' := 75) (st' := [vI o22]) (i := 69) (j2 := 23) (ci := 1) (k := 0) (z := 0) (as := []) (by decide +kernel) (by decide +kernel) rfl rfl (hp1 _) (by decide) ⟨(Nat.le_of_ble_eq_true rfl), (by show 19 + 1 ≤ 3405; exact Nat.le_of_ble_eq_true rfl), Nat.le_of_ble_eq_true rfl, Nat.le_of_ble_eq_true rfl⟩ ((g23_ok e23).up (Nat.le_of_ble_eq_true rfl) (Nat.le_of_ble_eq_true rfl)) rfl rfl ?_
        refine Ru.kI (q := (.bipush 40, 2)) (c := 40) (pc' := 77) (by decide +kernel) rfl (by decide) rfl ?_
        obtain ⟨g24, h⟩ := gd_some h
        by_cases b25 : o22 = 40
        · replace h := if_t b25 h
          refine Ru.br2 (k := .ne) (off := 9) (bb := false) (tg := 80) (by decide +kernel) (by decide +kernel) (ci_ne0 g24 (by decide) b25) rfl ?_
          refine Ru.op (q := (.aload_n 0, 1)) (S' := (81, _, _, _, _)) (by decide +kernel) rfl ?_
          refine Ru.kI (q := (.iconst 0, 1)) (c := 0) (pc' := 82) (by decide +kernel) rfl (by decide) rfl ?_
          refine Ru.kI (q := (.iconst 0, 1)) (c := 0) (pc' := 83) (by decide +kernel) rfl (by decide) rfl ?_
          obtain ⟨o26, e27, h⟩ := ob_some h
          refine Ru.vcallI (pc' := 86) (st' := []) (i := 122) (j2 := 27) (ci := 1) (k := 0) (z := 0) (as := [vI 0, vI 0]) (by decide +kernel) (by decide +kernel) rfl rfl (hp1 _) (by decide) ⟨(Nat.le_of_ble_eq_true rfl), (by show 19 + 5 ≤ 3405; exact Nat.le_of_ble_eq_true rfl), Nat.le_of_ble_eq_true rfl, Nat.le_of_ble_eq_true rfl⟩ ((g27_ok 64 e27).up (Nat.le_of_ble_eq_true rfl) (Nat.le_of_ble_eq_true rfl)) rfl rfl ?_
          cases h
          exact Ru.end (q := (.return_, 1)) (by decide +kernel) rfl rfl
        · replace h := if_f b25 h
          refine Ru.br2 (k := .ne) (off := 9) (bb := true) (tg := 86) (by decide +kernel) (by decide +kernel) (ci_ne1 g24 (by decide) b25) rfl ?_
          cases h
          exact Ru.end (q := (.return_, 1)) (by decide +kernel) rfl rfl
set_option maxRecDepth 100000 in
set_option maxHeartbeats 4000000 in
theorem g32L33_ok {v1 : Nat} {v2 : Int} {v3 : Int} : ∀ (n : Nat) (v4 : Int) (S : St) (_ : DD []) (out : St), g32L33 v1 v2 v3 n v4 S = some out → ∀ r, (∀ (e0 e1 e2 e4 : Option Value), DD [e0, e1, e2, e4] → Ru none 11 223 32 (87, [e0, e1, e2, some (vI v3), e4], [], out.ns, Hp out) r) → Ru none 11 223 32 (33, [some (.ref 3), some (.ref v1), some (vI v2), some (vI v3), some (vI v4)], [], S.ns, Hp S) r := by
  intro n
  induction n with
  | zero => intro v4 S hdd out h; cases h
  | succ n ih =>
    intro v4 S hdd out h r hk
    unfold g32L33 at h
    refine Ru.op (q := (.iload 4, 2)) (S' := (35, _, _, _, _)) (by decide +kernel) rfl ?_
    refine Ru.op (q := (.iload_n 2, 1)) (S' := (36, _, _, _, _)) (by decide +kernel) rfl ?_
    obtain ⟨g6, h⟩ := gd_some h
    obtain ⟨g7, h⟩ := gd_some h
    by_cases b8 : v4 < v2
    · replace h := if_t b8 h
      refine Ru.br2 (k := .ge) (off := 51) (bb := false) (tg := 39) (by decide +kernel) (by decide +kernel) (ci_ge0 g6 g7 b8) rfl ?_
      refine Ru.op (q := (.iload 4, 2)) (S' := (41, _, _, _, _)) (by decide +kernel) rfl ?_
      refine Ru.kI (q := (.bipush 16, 2)) (c := 16) (pc' := 43) (by decide +kernel) rfl (by decide) rfl ?_
      by_cases b9 : v4 < 16
      · replace h := if_t b9 h
        refine Ru.br2 (k := .ge) (off := 44) (bb := false) (tg := 46) (by decide +kernel) (by decide +kernel) (ci_ge0 g6 (by decide) b9) rfl ?_
        refine Ru.op (q := (.aload_n 0, 1)) (S' := (47, _, _, _, _)) (by decide +kernel) rfl ?_
        refine Ru.getI (pc' := 50) (i := 34) (ci := 2) (k := 7) (nn := 0) (z := 0) (x := (S.F 3 7)) (by decide +kernel) (by decide +kernel) (hp3 _) (by decide) rfl (eI_of _) rfl ?_
        refine Ru.op (q := (.aload_n 0, 1)) (S' := (51, _, _, _, _)) (by decide +kernel) rfl ?_
        refine Ru.getR (pc' := 54) (i := 27) (ci := 2) (k := 6) (nn := 0) (z := 0) (v := .ref 9) (by decide +kernel) (by decide +kernel) (hp3 _) (by decide) rfl rfl ?_
        refine Ru.lenI (pc' := 55) (N := 1280) (z := 1280) (by decide +kernel) (hp9 _) (by decide) (aI_len _ _) rfl rfl ?_
        by_cases b10 : (S.F 3 7) < 1280
        · replace h := if_t b10 h
          refine Ru.br2 (k := .ge) (off := 32) (bb := false) (tg := 58) (by decide +kernel) (by decide +kernel) (ci_ge0 (inR_to _) (by decide) b10) rfl ?_
          refine Ru.op (q := (.aload_n 0, 1)) (S' := (59, _, _, _, _)) (by decide +kernel) rfl ?_
          refine Ru.getR (pc' := 62) (i := 27) (ci := 2) (k := 6) (nn := 0) (z := 0) (v := .ref 9) (by decide +kernel) (by decide +kernel) (hp3 _) (by decide) rfl rfl ?_
          refine Ru.op (q := (.aload_n 0, 1)) (S' := (63, _, _, _, _)) (by decide +kernel) rfl ?_
          refine Ru.getI (pc' := 66) (i := 34) (ci := 2) (k := 7) (nn := 0) (z := 0) (x := (S.F 3 7)) (by decide +kernel) (by decide +kernel) (hp3 _) (by decide) rfl (eI_of _) rfl ?_
          refine Ru.op (q := (.aload_n 1, 1)) (S' := (67, _, _, _, _)) (by decide +kernel) rfl ?_
          refine Ru.op (q := (.iload 4, 2)) (S' := (69, _, _, _, _)) (by decide +kernel) rfl ?_
          obtain ⟨N11, f12, e13, q14, h⟩ := gA_some h
          obtain ⟨g15, h⟩ := gd_some h
          refine Ru.ildI (pc' := 70) (i := v4) (z := (f12 v4)) (by decide +kernel) q14 g15 rfl rfl ?_
          obtain ⟨g16, h⟩ := gd_some h
          refine Ru.istI (pc' := 71) (i := (S.F 3 7)) (x := (f12 v4)) (by decide +kernel) (hp9 _) g16 (ps_9 _ _ _) rfl ?_
          refine Ru.op (q := (.aload_n 0, 1)) (S' := (72, _, _, _, _)) (by decide +kernel) rfl ?_
          refine Ru.op (q := (.dup, 1)) (S' := (73, _, _, _, _)) (by decide +kernel) rfl ?_
          refine Ru.getI (pc' := 76) (i := 34) (ci := 2) (k := 7) (nn := 0) (z := 0) (x := (S.F 3 7)) (by decide +kernel) (by decide +kernel) (hp3 _) (by decide) rfl (eI_of _) rfl ?_
          refine Ru.kI (q := (.iconst 1, 1)) (c := 1) (pc' := 77) (by decide +kernel) rfl (by decide) rfl ?_
          refine Ru.ar2 (i := .iadd) (z := ((S.F 3 7) + 1)) (pc' := 78) (by decide +kernel) rfl (ar_add _ _) rfl ?_
          refine Ru.putH (pc' := 81) (i := 34) (ci := 2) (k := 7) (nn := 0) (z := 0) (by decide +kernel) (by decide +kernel) (hp3 _) (by decide) (Nat.le_of_ble_eq_true rfl) rfl (by decide +kernel) (pf_3_7 _ _) rfl ?_
          refine Ru.inc (k := 4) (n := 1) (x := v4) (z := (v4 + 1)) (xs' := [some (.ref 3), some (.ref v1), some (vI v2), some (vI v3), some (vI (v4 + 1))]) (pc' := 84) (by decide +kernel) rfl rfl rfl rfl ?_
          refine Ru.op (q := (.goto (-51), 3)) (S' := (33, _, _, _, _)) (by decide +kernel) rfl ?_
          exact ih _ _ trivial _ h r hk
        · replace h := if_f b10 h
          refine Ru.br2 (k := .ge) (off := 32) (bb := true) (tg := 87) (by decide +kernel) (by decide +kernel) (ci_ge1 (inR_to _) (by decide) b10) rfl ?_
          cases h
          exact hk _ _ _ _ ⟨rfl, rfl, rfl, rfl, trivial⟩
      · replace h := if_f b9 h
        refine Ru.br2 (k := .ge) (off := 44) (bb := true) (tg := 87) (by decide +kernel) (by decide +kernel) (ci_ge1 g6 (by decide) b9) rfl ?_
        cases h
        exact hk _ _ _ _ ⟨rfl, rfl, rfl, rfl, trivial⟩
    · replace h := if_f b8 h
      refine Ru.br2 (k := .ge) (off := 51) (bb := true) (tg := 87) (by decide +kernel) (by decide +kernel) (ci_ge1 g6 g7 b8) rfl ?_
      cases h
      exact hk _ _ _ _ ⟨rfl, rfl, rfl, rfl, trivial⟩
set_option maxRecDepth 100000 in
set_option maxHeartbeats 4000000 in
theorem g32_ok {S : St} {v1 : Nat} {v2 : Int} {o : Int × St} (h : g32 S v1 v2 = some o) : Ru none 11 223 32 (0, mn_pad (mn_ent [.ref 3, .ref v1, vI v2]) 5, [], S.ns, Hp S) ((0, some (vI o.1)), o.2.ns, Hp o.2) := by
  unfold g32 at h
  show Ru none 11 223 32 (0, [some (.ref 3), some (.ref v1), some (vI v2), none, none], [], S.ns, Hp S) _
  refine Ru.op (q := (.aload_n 0, 1)) (S' := (1, _, _, _, _)) (by decide +kernel) rfl ?_
  refine Ru.kI (q := (.iconst 0, 1)) (c := 0) (pc' := 2) (by decide +kernel) rfl (by decide) rfl ?_
  refine Ru.op (q := (.aload_n 0, 1)) (S' := (3, _, _, _, _)) (by decide +kernel) rfl ?_
  refine Ru.getI (pc' := 6) (i := 34) (ci := 2) (k := 7) (nn := 0) (z := 0) (x := (S.F 3 7)) (by decide +kernel) (by decide +kernel) (hp3 _) (by decide) rfl (eI_of _) rfl ?_
  refine Ru.op (q := (.iload_n 2, 1)) (S' := (7, _, _, _, _)) (by decide +kernel) rfl ?_
  obtain ⟨o1, e2, h⟩ := ob_some h
  refine Ru.vcallI (pc' := 10) (st' := [vI o1.1]) (i := 37) (j2 := 33) (ci := 2) (k := 0) (z := 0) (as := [vI 0, vI (S.F 3 7), vI v2]) (by decide +kernel) (by decide +kernel) rfl rfl (hp3 _) (by decide) ⟨(Nat.le_of_ble_eq_true rfl), (by show 19 + 4 ≤ 223; exact Nat.le_of_ble_eq_true rfl), Nat.le_of_ble_eq_true rfl, Nat.le_of_ble_eq_true rfl⟩ ((g33_ok e2).up (Nat.le_of_ble_eq_true rfl) (Nat.le_of_ble_eq_true rfl)) rfl rfl ?_
  refine Ru.op (q := (.istore_n 3, 1)) (S' := (11, [some (.ref 3), some (.ref v1), some (vI v2), some (vI o1.1), none], [], _, _)) (by decide +kernel) rfl ?_
  refine Ru.op (q := (.iload_n 3, 1)) (S' := (12, _, _, _, _)) (by decide +kernel) rfl ?_
  refine Ru.kI (q := (.iconst (-1), 1)) (c := (-1)) (pc' := 13) (by decide +kernel) rfl (by decide) rfl ?_
  obtain ⟨g3, h⟩ := gd_some h
  by_cases b4 : o1.1 = (-1)
  · replace h := if_t b4 h
    refine Ru.br2 (k := .eq) (off := 74) (bb := true) (tg := 87) (by decide +kernel) (by decide +kernel) (ci_eq1 g3 (by decide) b4) rfl ?_
    refine Ru.op (q := (.iload_n 3, 1)) (S' := (88, _, _, _, _)) (by decide +kernel) rfl ?_
    cases h
    exact Ru.iret (by decide +kernel) rfl rfl
  · replace h := if_f b4 h
    refine Ru.br2 (k := .eq) (off := 74) (bb := false) (tg := 16) (by decide +kernel) (by decide +kernel) (ci_eq0 g3 (by decide) b4) rfl ?_
    refine Ru.op (q := (.aload_n 0, 1)) (S' := (17, _, _, _, _)) (by decide +kernel) rfl ?_
    refine Ru.getR (pc' := 20) (i := 21) (ci := 2) (k := 3) (nn := 0) (z := 0) (v := .ref 7) (by decide +kernel) (by decide +kernel) (hp3 _) (by decide) rfl rfl ?_
    refine Ru.op (q := (.iload_n 3, 1)) (S' := (21, _, _, _, _)) (by decide +kernel) rfl ?_
    refine Ru.kI (q := (.iconst 1, 1)) (c := 1) (pc' := 22) (by decide +kernel) rfl (by decide) rfl ?_
    obtain ⟨g5, h⟩ := gd_some h
    refine Ru.istI (pc' := 23) (i := o1.1) (x := 1) (by decide +kernel) (hp7 _) g5 (ps_7 _ _ _) rfl ?_
    refine Ru.op (q := (.aload_n 0, 1)) (S' := (24, _, _, _, _)) (by decide +kernel) rfl ?_
    refine Ru.getR (pc' := 27) (i := 24) (ci := 2) (k := 4) (nn := 0) (z := 0) (v := .ref 8) (by decide +kernel) (by decide +kernel) (hp3 _) (by decide) rfl rfl ?_
    refine Ru.op (q := (.iload_n 3, 1)) (S' := (28, _, _, _, _)) (by decide +kernel) rfl ?_
    refine Ru.kI (q := (.iconst 1, 1)) (c := 1) (pc' := 29) (by decide +kernel) rfl (by decide) rfl ?_
    refine Ru.istI (pc' := 30) (i := o1.1) (x := 1) (by decide +kernel) (hp8 _) g5 (ps_8 _ _ _) rfl ?_
    refine Ru.kI (q := (.iconst 0, 1)) (c := 0) (pc' := 31) (by decide +kernel) rfl (by decide) rfl ?_
    refine Ru.op (q := (.istore 4, 2)) (S' := (33, [some (.ref 3), some (.ref v1), some (vI v2), some (vI o1.1), some (vI 0)], [], _, _)) (by decide +kernel) rfl ?_
    obtain ⟨o17, e22, h⟩ := ob_some h
    refine g32L33_ok FU _ _ trivial _ e22 _ ?_
    intro d18 d19 d20 d21 hd23
    refine Ru.op (q := (.iload_n 3, 1)) (S' := (88, _, _, _, _)) (by decide +kernel) rfl ?_
    cases h
    exact Ru.iret (by decide +kernel) rfl rfl
