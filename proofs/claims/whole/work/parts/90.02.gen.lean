set_option maxRecDepth 100000 in
set_option maxHeartbeats 4000000 in
theorem g34b_ok {FR LO : Nat} {rc : St → Int → Int → Option (Int × St)} (hF : 12 ≤ FR) (hL : 247 ≤ LO) (hrc : ∀ {S : St} {v1 : Int} {v2 : Int} {o : Int × St}, rc S v1 v2 = some o → Ru none FR LO 22 (0, mn_pad (mn_ent [.ref 1, vI v1, vI v2]) 4, [], S.ns, Hp S) ((0, some (vI o.1)), o.2.ns, Hp o.2)) {S : St} {v1 : Int} {v2 : Int} {v3 : Int} {o : Int × St} (h : g34b rc S v1 v2 v3 = some o) : Ru none (FR + 1) (LO + 23) 34 (0, mn_pad (mn_ent [.ref 1, vI v1, vI v2, vI v3]) 6, [], S.ns, Hp S) ((0, some (vI o.1)), o.2.ns, Hp o.2) := by
  unfold g34b at h
  show Ru none (FR + 1) (LO + 23) 34 (0, [some (.ref 1), some (vI v1), some (vI v2), some (vI v3), none, none], [], S.ns, Hp S) _
  refine Ru.op (q := (.aload_n 0, 1)) (S' := (1, _, _, _, _)) (by decide +kernel) rfl ?_
  refine Ru.op (q := (.iload_n 1, 1)) (S' := (2, _, _, _, _)) (by decide +kernel) rfl ?_
  refine Ru.kI (q := (.bipush 62, 2)) (c := 62) (pc' := 4) (by decide +kernel) rfl (by decide) rfl ?_
  obtain ⟨g1, h⟩ := gd_some h
  by_cases b2 : v1 = 62
  · replace h := if_t b2 h
    refine Ru.br2 (k := .ne) (off := 7) (bb := false) (tg := 7) (by decide +kernel) (by decide +kernel) (ci_ne0 g1 (by decide) b2) rfl ?_
    refine Ru.kI (q := (.iconst 1, 1)) (c := 1) (pc' := 8) (by decide +kernel) rfl (by decide) rfl ?_
    refine Ru.op (q := (.goto 4, 3)) (S' := (12, _, _, _, _)) (by decide +kernel) rfl ?_
    refine Ru.op (q := (.iload_n 2, 1)) (S' := (13, _, _, _, _)) (by decide +kernel) rfl ?_
    obtain ⟨g3, h⟩ := gd_some h
    by_cases b4 : 1 = v2
    · replace h := if_t b4 h
      refine Ru.br2 (k := .eq) (off := 7) (bb := true) (tg := 20) (by decide +kernel) (by decide +kernel) (ci_eq1 (by decide) g3 b4) rfl ?_
      refine Ru.kI (q := (.iconst 0, 1)) (c := 0) (pc' := 21) (by decide +kernel) rfl (by decide) rfl ?_
      refine Ru.op (q := (.iload_n 3, 1)) (S' := (22, _, _, _, _)) (by decide +kernel) rfl ?_
      refine Ru.kI (q := (.iconst 1, 1)) (c := 1) (pc' := 23) (by decide +kernel) rfl (by decide) rfl ?_
      refine Ru.ar2 (i := .iadd) (z := (v3 + 1)) (pc' := 24) (by decide +kernel) rfl (ar_add _ _) rfl ?_
      obtain ⟨o5, e6, h⟩ := ob_some h
      refine Ru.vcallI (pc' := 27) (st' := [vI o5.1]) (i := 55) (j2 := 22) (ci := 1) (k := 0) (z := 0) (as := [vI 0, vI (v3 + 1)]) (by decide +kernel) (by decide +kernel) rfl rfl (hp1 _) (by decide) ⟨(by omega), (by show 19 + 4 ≤ (LO + 23); omega), Nat.le_of_ble_eq_true rfl, Nat.le_of_ble_eq_true rfl⟩ ((hrc e6).up (by omega) (by show _ ≤ (LO + 23) - (19 + 4); omega)) rfl rfl ?_
      refine Ru.op (q := (.istore 4, 2)) (S' := (29, [some (.ref 1), some (vI v1), some (vI v2), some (vI v3), some (vI o5.1), none], [], _, _)) (by decide +kernel) rfl ?_
      refine Ru.op (q := (.iload 4, 2)) (S' := (31, _, _, _, _)) (by decide +kernel) rfl ?_
      refine Ru.kI (q := (.iconst (-1), 1)) (c := (-1)) (pc' := 32) (by decide +kernel) rfl (by decide) rfl ?_
      obtain ⟨g7, h⟩ := gd_some h
      by_cases b8 : o5.1 = (-1)
      · replace h := if_t b8 h
        refine Ru.br2 (k := .ne) (off := 5) (bb := false) (tg := 35) (by decide +kernel) (by decide +kernel) (ci_ne0 g7 (by decide) b8) rfl ?_
        refine Ru.kI (q := (.iconst (-1), 1)) (c := (-1)) (pc' := 36) (by decide +kernel) rfl (by decide) rfl ?_
        cases h
        exact Ru.iret (by decide +kernel) rfl rfl
      · replace h := if_f b8 h
        refine Ru.br2 (k := .ne) (off := 5) (bb := true) (tg := 37) (by decide +kernel) (by decide +kernel) (ci_ne1 g7 (by decide) b8) rfl ?_
        refine Ru.op (q := (.aload_n 0, 1)) (S' := (38, _, _, _, _)) (by decide +kernel) rfl ?_
        refine Ru.op (q := (.iload_n 2, 1)) (S' := (39, _, _, _, _)) (by decide +kernel) rfl ?_
        refine Ru.op (q := (.iload_n 3, 1)) (S' := (40, _, _, _, _)) (by decide +kernel) rfl ?_
        refine Ru.kI (q := (.iconst 1, 1)) (c := 1) (pc' := 41) (by decide +kernel) rfl (by decide) rfl ?_
        refine Ru.ar2 (i := .iadd) (z := (v3 + 1)) (pc' := 42) (by decide +kernel) rfl (ar_add _ _) rfl ?_
        obtain ⟨o9, e10, h⟩ := ob_some h
        refine Ru.vcallI (pc' := 45) (st' := [vI o9.1]) (i := 55) (j2 := 22) (ci := 1) (k := 0) (z := 0) (as := [vI v2, vI (v3 + 1)]) (by decide +kernel) (by decide +kernel) rfl rfl (hp1 _) (by decide) ⟨(by omega), (by show 19 + 4 ≤ (LO + 23); omega), Nat.le_of_ble_eq_true rfl, Nat.le_of_ble_eq_true rfl⟩ ((hrc e10).up (by omega) (by show _ ≤ (LO + 23) - (19 + 4); omega)) rfl rfl ?_
        refine Ru.op (q := (.istore 5, 2)) (S' := (47, [some (.ref 1), some (vI v1), some (vI v2), some (vI v3), some (vI o5.1), some (vI o9.1)], [], _, _)) (by decide +kernel) rfl ?_
        refine Ru.op (q := (.iload 5, 2)) (S' := (49, _, _, _, _)) (by decide +kernel) rfl ?_
        refine Ru.kI (q := (.iconst (-1), 1)) (c := (-1)) (pc' := 50) (by decide +kernel) rfl (by decide) rfl ?_
        obtain ⟨g11, h⟩ := gd_some h
        by_cases b12 : o9.1 = (-1)
        · replace h := if_t b12 h
          refine Ru.br2 (k := .ne) (off := 5) (bb := false) (tg := 53) (by decide +kernel) (by decide +kernel) (ci_ne0 g11 (by decide) b12) rfl ?_
          refine Ru.kI (q := (.iconst (-1), 1)) (c := (-1)) (pc' := 54) (by decide +kernel) rfl (by decide) rfl ?_
          cases h
          exact Ru.iret (by decide +kernel) rfl rfl
        · replace h := if_f b12 h
          refine Ru.br2 (k := .ne) (off := 5) (bb := true) (tg := 55) (by decide +kernel) (by decide +kernel) (ci_ne1 g11 (by decide) b12) rfl ?_
          refine Ru.op (q := (.aload_n 0, 1)) (S' := (56, _, _, _, _)) (by decide +kernel) rfl ?_
          refine Ru.getR (pc' := 59) (i := 18) (ci := 1) (k := 2) (nn := 0) (z := 0) (v := .ref 3) (by decide +kernel) (by decide +kernel) (hp1 _) (by decide) rfl rfl ?_
          refine Ru.op (q := (.iload_n 1, 1)) (S' := (60, _, _, _, _)) (by decide +kernel) rfl ?_
          refine Ru.kI (q := (.bipush 38, 2)) (c := 38) (pc' := 62) (by decide +kernel) rfl (by decide) rfl ?_
          by_cases b13 : v1 = 38
          · replace h := if_t b13 h
            refine Ru.br2 (k := .ne) (off := 7) (bb := false) (tg := 65) (by decide +kernel) (by decide +kernel) (ci_ne0 g1 (by decide) b13) rfl ?_
            refine Ru.kI (q := (.iconst 1, 1)) (c := 1) (pc' := 66) (by decide +kernel) rfl (by decide) rfl ?_
            refine Ru.op (q := (.goto 4, 3)) (S' := (70, _, _, _, _)) (by decide +kernel) rfl ?_
            refine Ru.op (q := (.iload_n 2, 1)) (S' := (71, _, _, _, _)) (by decide +kernel) rfl ?_
            refine Ru.br2 (k := .eq) (off := 7) (bb := true) (tg := 78) (by decide +kernel) (by decide +kernel) (ci_eq1 (by decide) g3 b4) rfl ?_
            refine Ru.kI (q := (.iconst 0, 1)) (c := 0) (pc' := 79) (by decide +kernel) rfl (by decide) rfl ?_
            refine Ru.op (q := (.iload 4, 2)) (S' := (81, _, _, _, _)) (by decide +kernel) rfl ?_
            refine Ru.op (q := (.iload 5, 2)) (S' := (83, _, _, _, _)) (by decide +kernel) rfl ?_
            obtain ⟨o14, e15, h⟩ := ob_some h
            refine Ru.vcallI (pc' := 86) (st' := [vI o14.1]) (i := 99) (j2 := 35) (ci := 2) (k := 0) (z := 0) (as := [vI 0, vI o5.1, vI o9.1]) (by decide +kernel) (by decide +kernel) rfl rfl (hp3 _) (by decide) ⟨(by omega), (by show 19 + 5 ≤ (LO + 23); omega), Nat.le_of_ble_eq_true rfl, Nat.le_of_ble_eq_true rfl⟩ ((g35_ok e15).up (by omega) (by show _ ≤ (LO + 23) - (19 + 5); omega)) rfl rfl ?_
            cases h
            exact Ru.iret (by decide +kernel) rfl rfl
          · replace h := if_f b13 h
            refine Ru.br2 (k := .ne) (off := 7) (bb := true) (tg := 69) (by decide +kernel) (by decide +kernel) (ci_ne1 g1 (by decide) b13) rfl ?_
            refine Ru.kI (q := (.iconst 0, 1)) (c := 0) (pc' := 70) (by decide +kernel) rfl (by decide) rfl ?_
            refine Ru.op (q := (.iload_n 2, 1)) (S' := (71, _, _, _, _)) (by decide +kernel) rfl ?_
            by_cases b16 : 0 = v2
            · replace h := if_t b16 h
              refine Ru.br2 (k := .eq) (off := 7) (bb := true) (tg := 78) (by decide +kernel) (by decide +kernel) (ci_eq1 (by decide) g3 b16) rfl ?_
              refine Ru.kI (q := (.iconst 0, 1)) (c := 0) (pc' := 79) (by decide +kernel) rfl (by decide) rfl ?_
              refine Ru.op (q := (.iload 4, 2)) (S' := (81, _, _, _, _)) (by decide +kernel) rfl ?_
              refine Ru.op (q := (.iload 5, 2)) (S' := (83, _, _, _, _)) (by decide +kernel) rfl ?_
              obtain ⟨o17, e18, h⟩ := ob_some h
              refine Ru.vcallI (pc' := 86) (st' := [vI o17.1]) (i := 99) (j2 := 35) (ci := 2) (k := 0) (z := 0) (as := [vI 0, vI o5.1, vI o9.1]) (by decide +kernel) (by decide +kernel) rfl rfl (hp3 _) (by decide) ⟨(by omega), (by show 19 + 5 ≤ (LO + 23); omega), Nat.le_of_ble_eq_true rfl, Nat.le_of_ble_eq_true rfl⟩ ((g35_ok e18).up (by omega) (by show _ ≤ (LO + 23) - (19 + 5); omega)) rfl rfl ?_
              cases h
              exact Ru.iret (by decide +kernel) rfl rfl
            · replace h := if_f b16 h
              refine Ru.br2 (k := .eq) (off := 7) (bb := false) (tg := 74) (by decide +kernel) (by decide +kernel) (ci_eq0 (by decide) g3 b16) rfl ?_
              refine Ru.kI (q := (.iconst 1, 1)) (c := 1) (pc' := 75) (by decide +kernel) rfl (by decide) rfl ?_
              refine Ru.op (q := (.goto 4, 3)) (S' := (79, _, _, _, _)) (by decide +kernel) rfl ?_
              refine Ru.op (q := (.iload 4, 2)) (S' := (81, _, _, _, _)) (by decide +kernel) rfl ?_
              refine Ru.op (q := (.iload 5, 2)) (S' := (83, _, _, _, _)) (by decide +kernel) rfl ?_
              obtain ⟨o19, e20, h⟩ := ob_some h
              refine Ru.vcallI (pc' := 86) (st' := [vI o19.1]) (i := 99) (j2 := 35) (ci := 2) (k := 0) (z := 0) (as := [vI 1, vI o5.1, vI o9.1]) (by decide +kernel) (by decide +kernel) rfl rfl (hp3 _) (by decide) ⟨(by omega), (by show 19 + 5 ≤ (LO + 23); omega), Nat.le_of_ble_eq_true rfl, Nat.le_of_ble_eq_true rfl⟩ ((g35_ok e20).up (by omega) (by show _ ≤ (LO + 23) - (19 + 5); omega)) rfl rfl ?_
              cases h
              exact Ru.iret (by decide +kernel) rfl rfl
    · replace h := if_f b4 h
      refine Ru.br2 (k := .eq) (off := 7) (bb := false) (tg := 16) (by decide +kernel) (by decide +kernel) (ci_eq0 (by decide) g3 b4) rfl ?_
      refine Ru.kI (q := (.iconst 1, 1)) (c := 1) (pc' := 17) (by decide +kernel) rfl (by decide) rfl ?_
      refine Ru.op (q := (.goto 4, 3)) (S' := (21, _, _, _, _)) (by decide +kernel) rfl ?_
      refine Ru.op (q := (.iload_n 3, 1)) (S' := (22, _, _, _, _)) (by decide +kernel) rfl ?_
      refine Ru.kI (q := (.iconst 1, 1)) (c := 1) (pc' := 23) (by decide +kernel) rfl (by decide) rfl ?_
      refine Ru.ar2 (i := .iadd) (z := (v3 + 1)) (pc' := 24) (by decide +kernel) rfl (ar_add _ _) rfl ?_
      obtain ⟨o21, e22, h⟩ := ob_some h
      refine Ru.vcallI (pc' := 27) (st' := [vI o21.1]) (i := 55) (j2 := 22) (ci := 1) (k := 0) (z := 0) (as := [vI 1, vI (v3 + 1)]) (by decide +kernel) (by decide +kernel) rfl rfl (hp1 _) (by decide) ⟨(by omega), (by show 19 + 4 ≤ (LO + 23); omega), Nat.le_of_ble_eq_true rfl, Nat.le_of_ble_eq_true rfl⟩ ((hrc e22).up (by omega) (by show _ ≤ (LO + 23) - (19 + 4); omega)) rfl rfl ?_
      refine Ru.op (q := (.istore 4, 2)) (S' := (29, [some (.ref 1), some (vI v1), some (vI v2), some (vI v3), some (vI o21.1), none], [], _, _)) (by decide +kernel) rfl ?_
      refine Ru.op (q := (.iload 4, 2)) (S' := (31, _, _, _, _)) (by decide +kernel) rfl ?_
      refine Ru.kI (q := (.iconst (-1), 1)) (c := (-1)) (pc' := 32) (by decide +kernel) rfl (by decide) rfl ?_
      obtain ⟨g23, h⟩ := gd_some h
      by_cases b24 : o21.1 = (-1)
      · replace h := if_t b24 h
        refine Ru.br2 (k := .ne) (off := 5) (bb := false) (tg := 35) (by decide +kernel) (by decide +kernel) (ci_ne0 g23 (by decide) b24) rfl ?_
        refine Ru.kI (q := (.iconst (-1), 1)) (c := (-1)) (pc' := 36) (by decide +kernel) rfl (by decide) rfl ?_
        cases h
        exact Ru.iret (by decide +kernel) rfl rfl
      · replace h := if_f b24 h
        refine Ru.br2 (k := .ne) (off := 5) (bb := true) (tg := 37) (by decide +kernel) (by decide +kernel) (ci_ne1 g23 (by decide) b24) rfl ?_
        refine Ru.op (q := (.aload_n 0, 1)) (S' := (38, _, _, _, _)) (by decide +kernel) rfl ?_
        refine Ru.op (q := (.iload_n 2, 1)) (S' := (39, _, _, _, _)) (by decide +kernel) rfl ?_
        refine Ru.op (q := (.iload_n 3, 1)) (S' := (40, _, _, _, _)) (by decide +kernel) rfl ?_
        refine Ru.kI (q := (.iconst 1, 1)) (c := 1) (pc' := 41) (by decide +kernel) rfl (by decide) rfl ?_
        refine Ru.ar2 (i := .iadd) (z := (v3 + 1)) (pc' := 42) (by decide +kernel) rfl (ar_add _ _) rfl ?_
        obtain ⟨o25, e26, h⟩ := ob_some h
        refine Ru.vcallI (pc' := 45) (st' := [vI o25.1]) (i := 55) (j2 := 22) (ci := 1) (k := 0) (z := 0) (as := [vI v2, vI (v3 + 1)]) (by decide +kernel) (by decide +kernel) rfl rfl (hp1 _) (by decide) ⟨(by omega), (by show 19 + 4 ≤ (LO + 23); omega), Nat.le_of_ble_eq_true rfl, Nat.le_of_ble_eq_true rfl⟩ ((hrc e26).up (by omega) (by show _ ≤ (LO + 23) - (19 + 4); omega)) rfl rfl ?_
        refine Ru.op (q := (.istore 5, 2)) (S' := (47, [some (.ref 1), some (vI v1), some (vI v2), some (vI v3), some (vI o21.1), some (vI o25.1)], [], _, _)) (by decide +kernel) rfl ?_
        refine Ru.op (q := (.iload 5, 2)) (S' := (49, _, _, _, _)) (by decide +kernel) rfl ?_
        refine Ru.kI (q := (.iconst (-1), 1)) (c := (-1)) (pc' := 50) (by decide +kernel) rfl (by decide) rfl ?_
        obtain ⟨g27, h⟩ := gd_some h
        by_cases b28 : o25.1 = (-1)
        · replace h := if_t b28 h
          refine Ru.br2 (k := .ne) (off := 5) (bb := false) (tg := 53) (by decide +kernel) (by decide +kernel) (ci_ne0 g27 (by decide) b28) rfl ?_
          refine Ru.kI (q := (.iconst (-1), 1)) (c := (-1)) (pc' := 54) (by decide +kernel) rfl (by decide) rfl ?_
          cases h
          exact Ru.iret (by decide +kernel) rfl rfl
        · replace h := if_f b28 h
          refine Ru.br2 (k := .ne) (off := 5) (bb := true) (tg := 55) (by decide +kernel) (by decide +kernel) (ci_ne1 g27 (by decide) b28) rfl ?_
          refine Ru.op (q := (.aload_n 0, 1)) (S' := (56, _, _, _, _)) (by decide +kernel) rfl ?_
          refine Ru.getR (pc' := 59) (i := 18) (ci := 1) (k := 2) (nn := 0) (z := 0) (v := .ref 3) (by decide +kernel) (by decide +kernel) (hp1 _) (by decide) rfl rfl ?_
          refine Ru.op (q := (.iload_n 1, 1)) (S' := (60, _, _, _, _)) (by decide +kernel) rfl ?_
          refine Ru.kI (q := (.bipush 38, 2)) (c := 38) (pc' := 62) (by decide +kernel) rfl (by decide) rfl ?_
          by_cases b29 : v1 = 38
          · replace h := if_t b29 h
            refine Ru.br2 (k := .ne) (off := 7) (bb := false) (tg := 65) (by decide +kernel) (by decide +kernel) (ci_ne0 g1 (by decide) b29) rfl ?_
            refine Ru.kI (q := (.iconst 1, 1)) (c := 1) (pc' := 66) (by decide +kernel) rfl (by decide) rfl ?_
            refine Ru.op (q := (.goto 4, 3)) (S' := (70, _, _, _, _)) (by decide +kernel) rfl ?_
            refine Ru.op (q := (.iload_n 2, 1)) (S' := (71, _, _, _, _)) (by decide +kernel) rfl ?_
            refine Ru.br2 (k := .eq) (off := 7) (bb := false) (tg := 74) (by decide +kernel) (by decide +kernel) (ci_eq0 (by decide) g3 b4) rfl ?_
            refine Ru.kI (q := (.iconst 1, 1)) (c := 1) (pc' := 75) (by decide +kernel) rfl (by decide) rfl ?_
            refine Ru.op (q := (.goto 4, 3)) (S' := (79, _, _, _, _)) (by decide +kernel) rfl ?_
            refine Ru.op (q := (.iload 4, 2)) (S' := (81, _, _, _, _)) (by decide +kernel) rfl ?_
            refine Ru.op (q := (.iload 5, 2)) (S' := (83, _, _, _, _)) (by decide +kernel) rfl ?_
            obtain ⟨o30, e31, h⟩ := ob_some h
            refine Ru.vcallI (pc' := 86) (st' := [vI o30.1]) (i := 99) (j2 := 35) (ci := 2) (k := 0) (z := 0) (as := [vI 1, vI o21.1, vI o25.1]) (by decide +kernel) (by decide +kernel) rfl rfl (hp3 _) (by decide) ⟨(by omega), (by show 19 + 5 ≤ (LO + 23); omega), Nat.le_of_ble_eq_true rfl, Nat.le_of_ble_eq_true rfl⟩ ((g35_ok e31).up (by omega) (by show _ ≤ (LO + 23) - (19 + 5); omega)) rfl rfl ?_
            cases h
            exact Ru.iret (by decide +kernel) rfl rfl
          · replace h := if_f b29 h
            refine Ru.br2 (k := .ne) (off := 7) (bb := true) (tg := 69) (by decide +kernel) (by decide +kernel) (ci_ne1 g1 (by decide) b29) rfl ?_
            refine Ru.kI (q := (.iconst 0, 1)) (c := 0) (pc' := 70) (by decide +kernel) rfl (by decide) rfl ?_
            refine Ru.op (q := (.iload_n 2, 1)) (S' := (71, _, _, _, _)) (by decide +kernel) rfl ?_
            by_cases b32 : 0 = v2
            · replace h := if_t b32 h
              refine Ru.br2 (k := .eq) (off := 7) (bb := true) (tg := 78) (by decide +kernel) (by decide +kernel) (ci_eq1 (by decide) g3 b32) rfl ?_
              refine Ru.kI (q := (.iconst 0, 1)) (c := 0) (pc' := 79) (by decide +kernel) rfl (by decide) rfl ?_
              refine Ru.op (q := (.iload 4, 2)) (S' := (81, _, _, _, _)) (by decide +kernel) rfl ?_
              refine Ru.op (q := (.iload 5, 2)) (S' := (83, _, _, _, _)) (by decide +kernel) rfl ?_
              obtain ⟨o33, e34, h⟩ := ob_some h
              refine Ru.vcallI (pc' := 86) (st' := [vI o33.1]) (i := 99) (j2 := 35) (ci := 2) (k := 0) (z := 0) (as := [vI 0, vI o21.1, vI o25.1]) (by decide +kernel) (by decide +kernel) rfl rfl (hp3 _) (by decide) ⟨(by omega), (by show 19 + 5 ≤ (LO + 23); omega), Nat.le_of_ble_eq_true rfl, Nat.le_of_ble_eq_true rfl⟩ ((g35_ok e34).up (by omega) (by show _ ≤ (LO + 23) - (19 + 5); omega)) rfl rfl ?_
              cases h
              exact Ru.iret (by decide +kernel) rfl rfl
            · replace h := if_f b32 h
              refine Ru.br2 (k := .eq) (off := 7) (bb := false) (tg := 74) (by decide +kernel) (by decide +kernel) (ci_eq0 (by decide) g3 b32) rfl ?_
              refine Ru.kI (q := (.iconst 1, 1)) (c := 1) (pc' := 75) (by decide +kernel) rfl (by decide) rfl ?_
              refine Ru.op (q := (.goto 4, 3)) (S' := (79, _, _, _, _)) (by decide +kernel) rfl ?_
              refine Ru.op (q := (.iload 4, 2)) (S' := (81, _, _, _, _)) (by decide +kernel) rfl ?_
              refine Ru.op (q := (.iload 5, 2)) (S' := (83, _, _, _, _)) (by decide +kernel) rfl ?_
              obtain ⟨o35, e36, h⟩ := ob_some h
              refine Ru.vcallI (pc' := 86) (st' := [vI o35.1]) (i := 99) (j2 := 35) (ci := 2) (k := 0) (z := 0) (as := [vI 1, vI o21.1, vI o25.1]) (by decide +kernel) (by decide +kernel) rfl rfl (hp3 _) (by decide) ⟨(by omega), (by show 19 + 5 ≤ (LO + 23); omega), Nat.le_of_ble_eq_true rfl, Nat.le_of_ble_eq_true rfl⟩ ((g35_ok e36).up (by omega) (by show _ ≤ (LO + 23) - (19 + 5); omega)) rfl rfl ?_
              cases h
              exact Ru.iret (by decide +kernel) rfl rfl
  · replace h := if_f b2 h
    refine Ru.br2 (k := .ne) (off := 7) (bb := true) (tg := 11) (by decide +kernel) (by decide +kernel) (ci_ne1 g1 (by decide) b2) rfl ?_
    refine Ru.kI (q := (.iconst 0, 1)) (c := 0) (pc' := 12) (by decide +kernel) rfl (by decide) rfl ?_
    refine Ru.op (q := (.iload_n 2, 1)) (S' := (13, _, _, _, _)) (by decide +kernel) rfl ?_
    obtain ⟨g37, h⟩ := gd_some h
    by_cases b38 : 0 = v2
    · replace h := if_t b38 h
      refine Ru.br2 (k := .eq) (off := 7) (bb := true) (tg := 20) (by decide +kernel) (by decide +kernel) (ci_eq1 (by decide) g37 b38) rfl ?_
      refine Ru.kI (q := (.iconst 0, 1)) (c := 0) (pc' := 21) (by decide +kernel) rfl (by decide) rfl ?_
      refine Ru.op (q := (.iload_n 3, 1)) (S' := (22, _, _, _, _)) (by decide +kernel) rfl ?_
      refine Ru.kI (q := (.iconst 1, 1)) (c := 1) (pc' := 23) (by decide +kernel) rfl (by decide) rfl ?_
      refine Ru.ar2 (i := .iadd) (z := (v3 + 1)) (pc' := 24) (by decide +kernel) rfl (ar_add _ _) rfl ?_
      obtain ⟨o39, e40, h⟩ := ob_some h
      refine Ru.vcallI (pc' := 27) (st' := [vI o39.1]) (i := 55) (j2 := 22) (ci := 1) (k := 0) (z := 0) (as := [vI 0, vI (v3 + 1)]) (by decide +kernel) (by decide +kernel) rfl rfl (hp1 _) (by decide) ⟨(by omega), (by show 19 + 4 ≤ (LO + 23); omega), Nat.le_of_ble_eq_true rfl, Nat.le_of_ble_eq_true rfl⟩ ((hrc e40).up (by omega) (by show _ ≤ (LO + 23) - (19 + 4); omega)) rfl rfl ?_
      refine Ru.op (q := (.istore 4, 2)) (S' := (29, [some (.ref 1), some (vI v1), some (vI v2), some (vI v3), some (vI o39.1), none], [], _, _)) (by decide +kernel) rfl ?_
      refine Ru.op (q := (.iload 4, 2)) (S' := (31, _, _, _, _)) (by decide +kernel) rfl ?_
      refine Ru.kI (q := (.iconst (-1), 1)) (c := (-1)) (pc' := 32) (by decide +kernel) rfl (by decide) rfl ?_
      obtain ⟨g41, h⟩ := gd_some h
      by_cases b42 : o39.1 = (-1)
      · replace h := if_t b42 h
        refine Ru.br2 (k := .ne) (off := 5) (bb := false) (tg := 35) (by decide +kernel) (by decide +kernel) (ci_ne0 g41 (by decide) b42) rfl ?_
        refine Ru.kI (q := (.iconst (-1), 1)) (c := (-1)) (pc' := 36) (by decide +kernel) rfl (by decide) rfl ?_
        cases h
        exact Ru.iret (by decide +kernel) rfl rfl
      · replace h := if_f b42 h
        refine Ru.br2 (k := .ne) (off := 5) (bb := true) (tg := 37) (by decide +kernel) (by decide +kernel) (ci_ne1 g41 (by decide) b42) rfl ?_
        refine Ru.op (q := (.aload_n 0, 1)) (S' := (38, _, _, _, _)) (by decide +kernel) rfl ?_
        refine Ru.op (q := (.iload_n 2, 1)) (S' := (39, _, _, _, _)) (by decide +kernel) rfl ?_
        refine Ru.op (q := (.iload_n 3, 1)) (S' := (40, _, _, _, _)) (by decide +kernel) rfl ?_
        refine Ru.kI (q := (.iconst 1, 1)) (c := 1) (pc' := 41) (by decide +kernel) rfl (by decide) rfl ?_
        refine Ru.ar2 (i := .iadd) (z := (v3 + 1)) (pc' := 42) (by decide +kernel) rfl (ar_add _ _) rfl ?_
        obtain ⟨o43, e44, h⟩ := ob_some h
        refine Ru.vcallI (pc' := 45) (st' := [vI o43.1]) (i := 55) (j2 := 22) (ci := 1) (k := 0) (z := 0) (as := [vI v2, vI (v3 + 1)]) (by decide +kernel) (by decide +kernel) rfl rfl (hp1 _) (by decide) ⟨(by omega), (by show 19 + 4 ≤ (LO + 23); omega), Nat.le_of_ble_eq_true rfl, Nat.le_of_ble_eq_true rfl⟩ ((hrc e44).up (by omega) (by show _ ≤ (LO + 23) - (19 + 4); omega)) rfl rfl ?_
        refine Ru.op (q := (.istore 5, 2)) (S' := (47, [some (.ref 1), some (vI v1), some (vI v2), some (vI v3), some (vI o39.1), some (vI o43.1)], [], _, _)) (by decide +kernel) rfl ?_
        refine Ru.op (q := (.iload 5, 2)) (S' := (49, _, _, _, _)) (by decide +kernel) rfl ?_
        refine Ru.kI (q := (.iconst (-1), 1)) (c := (-1)) (pc' := 50) (by decide +kernel) rfl (by decide) rfl ?_
        obtain ⟨g45, h⟩ := gd_some h
        by_cases b46 : o43.1 = (-1)
        · replace h := if_t b46 h
          refine Ru.br2 (k := .ne) (off := 5) (bb := false) (tg := 53) (by decide +kernel) (by decide +kernel) (ci_ne0 g45 (by decide) b46) rfl ?_
          refine Ru.kI (q := (.iconst (-1), 1)) (c := (-1)) (pc' := 54) (by decide +kernel) rfl (by decide) rfl ?_
          cases h
          exact Ru.iret (by decide +kernel) rfl rfl
        · replace h := if_f b46 h
          refine Ru.br2 (k := .ne) (off := 5) (bb := true) (tg := 55) (by decide +kernel) (by decide +kernel) (ci_ne1 g45 (by decide) b46) rfl ?_
          refine Ru.op (q := (.aload_n 0, 1)) (S' := (56, _, _, _, _)) (by decide +kernel) rfl ?_
          refine Ru.getR (pc' := 59) (i := 18) (ci := 1) (k := 2) (nn := 0) (z := 0) (v := .ref 3) (by decide +kernel) (by decide +kernel) (hp1 _) (by decide) rfl rfl ?_
          refine Ru.op (q := (.iload_n 1, 1)) (S' := (60, _, _, _, _)) (by decide +kernel) rfl ?_
          refine Ru.kI (q := (.bipush 38, 2)) (c := 38) (pc' := 62) (by decide +kernel) rfl (by decide) rfl ?_
          by_cases b47 : v1 = 38
          · replace h := if_t b47 h
            refine Ru.br2 (k := .ne) (off := 7) (bb := false) (tg := 65) (by decide +kernel) (by decide +kernel) (ci_ne0 g1 (by decide) b47) rfl ?_
            refine Ru.kI (q := (.iconst 1, 1)) (c := 1) (pc' := 66) (by decide +kernel) rfl (by decide) rfl ?_
            refine Ru.op (q := (.goto 4, 3)) (S' := (70, _, _, _, _)) (by decide +kernel) rfl ?_
            refine Ru.op (q := (.iload_n 2, 1)) (S' := (71, _, _, _, _)) (by decide +kernel) rfl ?_
            by_cases b48 : 1 = v2
            · replace h := if_t b48 h
              refine Ru.br2 (k := .eq) (off := 7) (bb := true) (tg := 78) (by decide +kernel) (by decide +kernel) (ci_eq1 (by decide) g37 b48) rfl ?_
              refine Ru.kI (q := (.iconst 0, 1)) (c := 0) (pc' := 79) (by decide +kernel) rfl (by decide) rfl ?_
              refine Ru.op (q := (.iload 4, 2)) (S' := (81, _, _, _, _)) (by decide +kernel) rfl ?_
              refine Ru.op (q := (.iload 5, 2)) (S' := (83, _, _, _, _)) (by decide +kernel) rfl ?_
              obtain ⟨o49, e50, h⟩ := ob_some h
              refine Ru.vcallI (pc' := 86) (st' := [vI o49.1]) (i := 99) (j2 := 35) (ci := 2) (k := 0) (z := 0) (as := [vI 0, vI o39.1, vI o43.1]) (by decide +kernel) (by decide +kernel) rfl rfl (hp3 _) (by decide) ⟨(by omega), (by show 19 + 5 ≤ (LO + 23); omega), Nat.le_of_ble_eq_true rfl, Nat.le_of_ble_eq_true rfl⟩ ((g35_ok e50).up (by omega) (by show _ ≤ (LO + 23) - (19 + 5); omega)) rfl rfl ?_
              cases h
              exact Ru.iret (by decide +kernel) rfl rfl
            · replace h := if_f b48 h
              refine Ru.br2 (k := .eq) (off := 7) (bb := false) (tg := 74) (by decide +kernel) (by decide +kernel) (ci_eq0 (by decide) g37 b48) rfl ?_
              refine Ru.kI (q := (.iconst 1, 1)) (c := 1) (pc' := 75) (by decide +kernel) rfl (by decide) rfl ?_
              refine Ru.op (q := (.goto 4, 3)) (S' := (79, _, _, _, _)) (by decide +kernel) rfl ?_
              refine Ru.op (q := (.iload 4, 2)) (S' := (81, _, _, _, _)) (by decide +kernel) rfl ?_
              refine Ru.op (q := (.iload 5, 2)) (S' := (83, _, _, _, _)) (by decide +kernel) rfl ?_
              obtain ⟨o51, e52, h⟩ := ob_some h
              refine Ru.vcallI (pc' := 86) (st' := [vI o51.1]) (i := 99) (j2 := 35) (ci := 2) (k := 0) (z := 0) (as := [vI 1, vI o39.1, vI o43.1]) (by decide +kernel) (by decide +kernel) rfl rfl (hp3 _) (by decide) ⟨(by omega), (by show 19 + 5 ≤ (LO + 23); omega), Nat.le_of_ble_eq_true rfl, Nat.le_of_ble_eq_true rfl⟩ ((g35_ok e52).up (by omega) (by show _ ≤ (LO + 23) - (19 + 5); omega)) rfl rfl ?_
              cases h
              exact Ru.iret (by decide +kernel) rfl rfl
          · replace h := if_f b47 h
            refine Ru.br2 (k := .ne) (off := 7) (bb := true) (tg := 69) (by decide +kernel) (by decide +kernel) (ci_ne1 g1 (by decide) b47) rfl ?_
            refine Ru.kI (q := (.iconst 0, 1)) (c := 0) (pc' := 70) (by decide +kernel) rfl (by decide) rfl ?_
            refine Ru.op (q := (.iload_n 2, 1)) (S' := (71, _, _, _, _)) (by decide +kernel) rfl ?_
            refine Ru.br2 (k := .eq) (off := 7) (bb := true) (tg := 78) (by decide +kernel) (by decide +kernel) (ci_eq1 (by decide) g37 b38) rfl ?_
            refine Ru.kI (q := (.iconst 0, 1)) (c := 0) (pc' := 79) (by decide +kernel) rfl (by decide) rfl ?_
            refine Ru.op (q := (.iload 4, 2)) (S' := (81, _, _, _, _)) (by decide +kernel) rfl ?_
            refine Ru.op (q := (.iload 5, 2)) (S' := (83, _, _, _, _)) (by decide +kernel) rfl ?_
            obtain ⟨o53, e54, h⟩ := ob_some h
            refine Ru.vcallI (pc' := 86) (st' := [vI o53.1]) (i := 99) (j2 := 35) (ci := 2) (k := 0) (z := 0) (as := [vI 0, vI o39.1, vI o43.1]) (by decide +kernel) (by decide +kernel) rfl rfl (hp3 _) (by decide) ⟨(by omega), (by show 19 + 5 ≤ (LO + 23); omega), Nat.le_of_ble_eq_true rfl, Nat.le_of_ble_eq_true rfl⟩ ((g35_ok e54).up (by omega) (by show _ ≤ (LO + 23) - (19 + 5); omega)) rfl rfl ?_
            cases h
            exact Ru.iret (by decide +kernel) rfl rfl
    · replace h := if_f b38 h
      refine Ru.br2 (k := .eq) (off := 7) (bb := false) (tg := 16) (by decide +kernel) (by decide +kernel) (ci_eq0 (by decide) g37 b38) rfl ?_
      refine Ru.kI (q := (.iconst 1, 1)) (c := 1) (pc' := 17) (by decide +kernel) rfl (by decide) rfl ?_
      refine Ru.op (q := (.goto 4, 3)) (S' := (21, _, _, _, _)) (by decide +kernel) rfl ?_
      refine Ru.op (q := (.iload_n 3, 1)) (S' := (22, _, _, _, _)) (by decide +kernel) rfl ?_
      refine Ru.kI (q := (.iconst 1, 1)) (c := 1) (pc' := 23) (by decide +kernel) rfl (by decide) rfl ?_
      refine Ru.ar2 (i := .iadd) (z := (v3 + 1)) (pc' := 24) (by decide +kernel) rfl (ar_add _ _) rfl ?_
      obtain ⟨o55, e56, h⟩ := ob_some h
      refine Ru.vcallI (pc' := 27) (st' := [vI o55.1]) (i := 55) (j2 := 22) (ci := 1) (k := 0) (z := 0) (as := [vI 1, vI (v3 + 1)]) (by decide +kernel) (by decide +kernel) rfl rfl (hp1 _) (by decide) ⟨(by omega), (by show 19 + 4 ≤ (LO + 23); omega), Nat.le_of_ble_eq_true rfl, Nat.le_of_ble_eq_true rfl⟩ ((hrc e56).up (by omega) (by show _ ≤ (LO + 23) - (19 + 4); omega)) rfl rfl ?_
      refine Ru.op (q := (.istore 4, 2)) (S' := (29, [some (.ref 1), some (vI v1), some (vI v2), some (vI v3), some (vI o55.1), none], [], _, _)) (by decide +kernel) rfl ?_
      refine Ru.op (q := (.iload 4, 2)) (S' := (31, _, _, _, _)) (by decide +kernel) rfl ?_
      refine Ru.kI (q := (.iconst (-1), 1)) (c := (-1)) (pc' := 32) (by decide +kernel) rfl (by decide) rfl ?_
      obtain ⟨g57, h⟩ := gd_some h
      by_cases b58 : o55.1 = (-1)
      · replace h := if_t b58 h
        refine Ru.br2 (k := .ne) (off := 5) (bb := false) (tg := 35) (by decide +kernel) (by decide +kernel) (ci_ne0 g57 (by decide) b58) rfl ?_
        refine Ru.kI (q := (.iconst (-1), 1)) (c := (-1)) (pc' := 36) (by decide +kernel) rfl (by decide) rfl ?_
        cases h
        exact Ru.iret (by decide +kernel) rfl rfl
      · replace h := if_f b58 h
        refine Ru.br2 (k := .ne) (off := 5) (bb := true) (tg := 37) (by decide +kernel) (by decide +kernel) (ci_ne1 g57 (by decide) b58) rfl ?_
        refine Ru.op (q := (.aload_n 0, 1)) (S' := (38, _, _, _, _)) (by decide +kernel) rfl ?_
        refine Ru.op (q := (.iload_n 2, 1)) (S' := (39, _, _, _, _)) (by decide +kernel) rfl ?_
        refine Ru.op (q := (.iload_n 3, 1)) (S' := (40, _, _, _, _)) (by decide +kernel) rfl ?_
        refine Ru.kI (q := (.iconst 1, 1)) (c := 1) (pc' := 41) (by decide +kernel) rfl (by decide) rfl ?_
        refine Ru.ar2 (i := .iadd) (z := (v3 + 1)) (pc' := 42) (by decide +kernel) rfl (ar_add _ _) rfl ?_
        obtain ⟨o59, e60, h⟩ := ob_some h
        refine Ru.vcallI (pc' := 45) (st' := [vI o59.1]) (i := 55) (j2 := 22) (ci := 1) (k := 0) (z := 0) (as := [vI v2, vI (v3 + 1)]) (by decide +kernel) (by decide +kernel) rfl rfl (hp1 _) (by decide) ⟨(by omega), (by show 19 + 4 ≤ (LO + 23); omega), Nat.le_of_ble_eq_true rfl, Nat.le_of_ble_eq_true rfl⟩ ((hrc e60).up (by omega) (by show _ ≤ (LO + 23) - (19 + 4); omega)) rfl rfl ?_
        refine Ru.op (q := (.istore 5, 2)) (S' := (47, [some (.ref 1), some (vI v1), some (vI v2), some (vI v3), some (vI o55.1), some (vI o59.1)], [], _, _)) (by decide +kernel) rfl ?_
        refine Ru.op (q := (.iload 5, 2)) (S' := (49, _, _, _, _)) (by decide +kernel) rfl ?_
        refine Ru.kI (q := (.iconst (-1), 1)) (c := (-1)) (pc' := 50) (by decide +kernel) rfl (by decide) rfl ?_
        obtain ⟨g61, h⟩ := gd_some h
        by_cases b62 : o59.1 = (-1)
        · replace h := if_t b62 h
          refine Ru.br2 (k := .ne) (off := 5) (bb := false) (tg := 53) (by decide +kernel) (by decide +kernel) (ci_ne0 g61 (by decide) b62) rfl ?_
          refine Ru.kI (q := (.iconst (-1), 1)) (c := (-1)) (pc' := 54) (by decide +kernel) rfl (by decide) rfl ?_
          cases h
          exact Ru.iret (by decide +kernel) rfl rfl
        · replace h := if_f b62 h
          refine Ru.br2 (k := .ne) (off := 5) (bb := true) (tg := 55) (by decide +kernel) (by decide +kernel) (ci_ne1 g61 (by decide) b62) rfl ?_
          refine Ru.op (q := (.aload_n 0, 1)) (S' := (56, _, _, _, _)) (by decide +kernel) rfl ?_
          refine Ru.getR (pc' := 59) (i := 18) (ci := 1) (k := 2) (nn := 0) (z := 0) (v := .ref 3) (by decide +kernel) (by decide +kernel) (hp1 _) (by decide) rfl rfl ?_
          refine Ru.op (q := (.iload_n 1, 1)) (S' := (60, _, _, _, _)) (by decide +kernel) rfl ?_
          refine Ru.kI (q := (.bipush 38, 2)) (c := 38) (pc' := 62) (by decide +kernel) rfl (by decide) rfl ?_
          by_cases b63 : v1 = 38
          · replace h := if_t b63 h
            refine Ru.br2 (k := .ne) (off := 7) (bb := false) (tg := 65) (by decide +kernel) (by decide +kernel) (ci_ne0 g1 (by decide) b63) rfl ?_
            refine Ru.kI (q := (.iconst 1, 1)) (c := 1) (pc' := 66) (by decide +kernel) rfl (by decide) rfl ?_
            refine Ru.op (q := (.goto 4, 3)) (S' := (70, _, _, _, _)) (by decide +kernel) rfl ?_
            refine Ru.op (q := (.iload_n 2, 1)) (S' := (71, _, _, _, _)) (by decide +kernel) rfl ?_
            by_cases b64 : 1 = v2
            · replace h := if_t b64 h
              refine Ru.br2 (k := .eq) (off := 7) (bb := true) (tg := 78) (by decide +kernel) (by decide +kernel) (ci_eq1 (by decide) g37 b64) rfl ?_
              refine Ru.kI (q := (.iconst 0, 1)) (c := 0) (pc' := 79) (by decide +kernel) rfl (by decide) rfl ?_
              refine Ru.op (q := (.iload 4, 2)) (S' := (81, _, _, _, _)) (by decide +kernel) rfl ?_
              refine Ru.op (q := (.iload 5, 2)) (S' := (83, _, _, _, _)) (by decide +kernel) rfl ?_
              obtain ⟨o65, e66, h⟩ := ob_some h
              refine Ru.vcallI (pc' := 86) (st' := [vI o65.1]) (i := 99) (j2 := 35) (ci := 2) (k := 0) (z := 0) (as := [vI 0, vI o55.1, vI o59.1]) (by decide +kernel) (by decide +kernel) rfl rfl (hp3 _) (by decide) ⟨(by omega), (by show 19 + 5 ≤ (LO + 23); omega), Nat.le_of_ble_eq_true rfl, Nat.le_of_ble_eq_true rfl⟩ ((g35_ok e66).up (by omega) (by show _ ≤ (LO + 23) - (19 + 5); omega)) rfl rfl ?_
              cases h
              exact Ru.iret (by decide +kernel) rfl rfl
            · replace h := if_f b64 h
              refine Ru.br2 (k := .eq) (off := 7) (bb := false) (tg := 74) (by decide +kernel) (by decide +kernel) (ci_eq0 (by decide) g37 b64) rfl ?_
              refine Ru.kI (q := (.iconst 1, 1)) (c := 1) (pc' := 75) (by decide +kernel) rfl (by decide) rfl ?_
              refine Ru.op (q := (.goto 4, 3)) (S' := (79, _, _, _, _)) (by decide +kernel) rfl ?_
              refine Ru.op (q := (.iload 4, 2)) (S' := (81, _, _, _, _)) (by decide +kernel) rfl ?_
              refine Ru.op (q := (.iload 5, 2)) (S' := (83, _, _, _, _)) (by decide +kernel) rfl ?_
              obtain ⟨o67, e68, h⟩ := ob_some h
              refine Ru.vcallI (pc' := 86) (st' := [vI o67.1]) (i := 99) (j2 := 35) (ci := 2) (k := 0) (z := 0) (as := [vI 1, vI o55.1, vI o59.1]) (by decide +kernel) (by decide +kernel) rfl rfl (hp3 _) (by decide) ⟨(by omega), (by show 19 + 5 ≤ (LO + 23); omega), Nat.le_of_ble_eq_true rfl, Nat.le_of_ble_eq_true rfl⟩ ((g35_ok e68).up (by omega) (by show _ ≤ (LO + 23) - (19 + 5); omega)) rfl rfl ?_
              cases h
              exact Ru.iret (by decide +kernel) rfl rfl
          · replace h := if_f b63 h
            refine Ru.br2 (k := .ne) (off := 7) (bb := true) (tg := 69) (by decide +kernel) (by decide +kernel) (ci_ne1 g1 (by decide) b63) rfl ?_
            refine Ru.kI (q := (.iconst 0, 1)) (c := 0) (pc' := 70) (by decide +kernel) rfl (by decide) rfl ?_
            refine Ru.op (q := (.iload_n 2, 1)) (S' := (71, _, _, _, _)) (by decide +kernel) rfl ?_
            refine Ru.br2 (k := .eq) (off := 7) (bb := false) (tg := 74) (by decide +kernel) (by decide +kernel) (ci_eq0 (by decide) g37 b38) rfl ?_
            refine Ru.kI (q := (.iconst 1, 1)) (c := 1) (pc' := 75) (by decide +kernel) rfl (by decide) rfl ?_
            refine Ru.op (q := (.goto 4, 3)) (S' := (79, _, _, _, _)) (by decide +kernel) rfl ?_
            refine Ru.op (q := (.iload 4, 2)) (S' := (81, _, _, _, _)) (by decide +kernel) rfl ?_
            refine Ru.op (q := (.iload 5, 2)) (S' := (83, _, _, _, _)) (by decide +kernel) rfl ?_
            obtain ⟨o69, e70, h⟩ := ob_some h
            refine Ru.vcallI (pc' := 86) (st' := [vI o69.1]) (i := 99) (j2 := 35) (ci := 2) (k := 0) (z := 0) (as := [vI 1, vI o55.1, vI o59.1]) (by decide +kernel) (by decide +kernel) rfl rfl (hp3 _) (by decide) ⟨(by omega), (by show 19 + 5 ≤ (LO + 23); omega), Nat.le_of_ble_eq_true rfl, Nat.le_of_ble_eq_true rfl⟩ ((g35_ok e70).up (by omega) (by show _ ≤ (LO + 23) - (19 + 5); omega)) rfl rfl ?_
            cases h
            exact Ru.iret (by decide +kernel) rfl rfl
set_option maxRecDepth 100000 in
set_option maxHeartbeats 4000000 in
theorem g26_ok {S : St} {v1 : Int} {o : St} (h : g26 S v1 = some o) : Ru none 10 200 26 (0, mn_pad (mn_ent [.ref 1, vI v1]) 2, [], S.ns, Hp S) ((0, none), o.ns, Hp o) := by
  unfold g26 at h
  show Ru none 10 200 26 (0, [some (.ref 1), some (vI v1)], [], S.ns, Hp S) _
  refine Ru.op (q := (.aload_n 0, 1)) (S' := (1, _, _, _, _)) (by decide +kernel) rfl ?_
  refine Ru.getI (pc' := 4) (i := 84) (ci := 1) (k := 12) (nn := 0) (z := 0) (x := (S.F 1 12)) (by decide +kernel) (by decide +kernel) (hp1 _) (by decide) rfl (eI_of _) rfl ?_
  refine Ru.kI (q := (.bipush 16, 2)) (c := 16) (pc' := 6) (by decide +kernel) rfl (by decide) rfl ?_
  by_cases b1 : (S.F 1 12) < 16
  · replace h := if_t b1 h
    refine Ru.br2 (k := .ge) (off := 13) (bb := false) (tg := 9) (by decide +kernel) (by decide +kernel) (ci_ge0 (inR_to _) (by decide) b1) rfl ?_
    refine Ru.op (q := (.aload_n 0, 1)) (S' := (10, _, _, _, _)) (by decide +kernel) rfl ?_
    refine Ru.getR (pc' := 13) (i := 29) (ci := 1) (k := 11) (nn := 0) (z := 0) (v := .ref 12) (by decide +kernel) (by decide +kernel) (hp1 _) (by decide) rfl rfl ?_
    refine Ru.op (q := (.aload_n 0, 1)) (S' := (14, _, _, _, _)) (by decide +kernel) rfl ?_
    refine Ru.getI (pc' := 17) (i := 84) (ci := 1) (k := 12) (nn := 0) (z := 0) (x := (S.F 1 12)) (by decide +kernel) (by decide +kernel) (hp1 _) (by decide) rfl (eI_of _) rfl ?_
    refine Ru.op (q := (.iload_n 1, 1)) (S' := (18, _, _, _, _)) (by decide +kernel) rfl ?_
    obtain ⟨g2, h⟩ := gd_some h
    refine Ru.istI (pc' := 19) (i := (S.F 1 12)) (x := v1) (by decide +kernel) (hp12 _) g2 (ps_12 _ _ _) rfl ?_
    refine Ru.op (q := (.aload_n 0, 1)) (S' := (20, _, _, _, _)) (by decide +kernel) rfl ?_
    refine Ru.op (q := (.dup, 1)) (S' := (21, _, _, _, _)) (by decide +kernel) rfl ?_
    refine Ru.getI (pc' := 24) (i := 84) (ci := 1) (k := 12) (nn := 0) (z := 0) (x := (S.F 1 12)) (by decide +kernel) (by decide +kernel) (hp1 _) (by decide) rfl (eI_of _) rfl ?_
    refine Ru.kI (q := (.iconst 1, 1)) (c := 1) (pc' := 25) (by decide +kernel) rfl (by decide) rfl ?_
    refine Ru.ar2 (i := .iadd) (z := ((S.F 1 12) + 1)) (pc' := 26) (by decide +kernel) rfl (ar_add _ _) rfl ?_
    refine Ru.putH (pc' := 29) (i := 84) (ci := 1) (k := 12) (nn := 0) (z := 0) (by decide +kernel) (by decide +kernel) (hp1 _) (by decide) (Nat.le_of_ble_eq_true rfl) rfl (by decide +kernel) (pf_1_12 _ _) rfl ?_
    cases h
    exact Ru.end (q := (.return_, 1)) (by decide +kernel) rfl rfl
  · replace h := if_f b1 h
    refine Ru.br2 (k := .ge) (off := 13) (bb := true) (tg := 19) (by decide +kernel) (by decide +kernel) (ci_ge1 (inR_to _) (by decide) b1) rfl ?_
    refine Ru.op (q := (.aload_n 0, 1)) (S' := (20, _, _, _, _)) (by decide +kernel) rfl ?_
    refine Ru.op (q := (.dup, 1)) (S' := (21, _, _, _, _)) (by decide +kernel) rfl ?_
    refine Ru.getI (pc' := 24) (i := 84) (ci := 1) (k := 12) (nn := 0) (z := 0) (x := (S.F 1 12)) (by decide +kernel) (by decide +kernel) (hp1 _) (by decide) rfl (eI_of _) rfl ?_
    refine Ru.kI (q := (.iconst 1, 1)) (c := 1) (pc' := 25) (by decide +kernel) rfl (by decide) rfl ?_
    refine Ru.ar2 (i := .iadd) (z := ((S.F 1 12) + 1)) (pc' := 26) (by decide +kernel) rfl (ar_add _ _) rfl ?_
    refine Ru.putH (pc' := 29) (i := 84) (ci := 1) (k := 12) (nn := 0) (z := 0) (by decide +kernel) (by decide +kernel) (hp1 _) (by decide) (Nat.le_of_ble_eq_true rfl) rfl (by decide +kernel) (pf_1_12 _ _) rfl ?_
    cases h
    exact Ru.end (q := (.return_, 1)) (by decide +kernel) rfl rfl
set_option maxRecDepth 100000 in
set_option maxHeartbeats 4000000 in
theorem g31_ok {S : St} {o : Int × St} (h : g31 S  = some o) : Ru none 11 220 31 (0, mn_pad (mn_ent [.ref 1]) 4, [], S.ns, Hp S) ((0, some (vI o.1)), o.2.ns, Hp o.2) := by
  unfold g31 at h
  show Ru none 11 220 31 (0, [some (.ref 1), none, none, none], [], S.ns, Hp S) _
  refine Ru.op (q := (.aload_n 0, 1)) (S' := (1, _, _, _, _)) (by decide +kernel) rfl ?_
  refine Ru.op (q := (.dup, 1)) (S' := (2, _, _, _, _)) (by decide +kernel) rfl ?_
  refine Ru.getI (pc' := 5) (i := 36) (ci := 1) (k := 4) (nn := 0) (z := 0) (x := (S.F 1 4)) (by decide +kernel) (by decide +kernel) (hp1 _) (by decide) rfl (eI_of _) rfl ?_
  refine Ru.kI (q := (.iconst 1, 1)) (c := 1) (pc' := 6) (by decide +kernel) rfl (by decide) rfl ?_
  refine Ru.ar2 (i := .iadd) (z := ((S.F 1 4) + 1)) (pc' := 7) (by decide +kernel) rfl (ar_add _ _) rfl ?_
  refine Ru.putH (pc' := 10) (i := 36) (ci := 1) (k := 4) (nn := 0) (z := 0) (by decide +kernel) (by decide +kernel) (hp1 _) (by decide) (Nat.le_of_ble_eq_true rfl) rfl (by decide +kernel) (pf_1_4 _ _) rfl ?_
  refine Ru.op (q := (.aload_n 0, 1)) (S' := (11, _, _, _, _)) (by decide +kernel) rfl ?_
  obtain ⟨o1, e2, h⟩ := ob_some h
  refine Ru.vcallI (pc' := 14) (st' := [vI o1]) (i := 69) (j2 := 23) (ci := 1) (k := 0) (z := 0) (as := []) (by decide +kernel) (by decide +kernel) rfl rfl (hp1 _) (by decide) ⟨(Nat.le_of_ble_eq_true rfl), (by show 19 + 1 ≤ 220; exact Nat.le_of_ble_eq_true rfl), Nat.le_of_ble_eq_true rfl, Nat.le_of_ble_eq_true rfl⟩ ((g23_ok e2).up (Nat.le_of_ble_eq_true rfl) (Nat.le_of_ble_eq_true rfl)) rfl rfl ?_
  refine Ru.op (q := (.istore_n 1, 1)) (S' := (15, [some (.ref 1), some (vI o1), none, none], [], _, _)) (by decide +kernel) rfl ?_
  refine Ru.op (q := (.iload_n 1, 1)) (S' := (16, _, _, _, _)) (by decide +kernel) rfl ?_
  refine Ru.kI (q := (.bipush 49, 2)) (c := 49) (pc' := 18) (by decide +kernel) rfl (by decide) rfl ?_
  obtain ⟨g3, h⟩ := gd_some h
  by_cases b4 : o1 < 49
  · replace h := if_t b4 h
    refine Ru.br2 (k := .lt) (off := 9) (bb := true) (tg := 27) (by decide +kernel) (by decide +kernel) (ci_lt1 g3 (by decide) b4) rfl ?_
    refine Ru.kI (q := (.iconst (-1), 1)) (c := (-1)) (pc' := 28) (by decide +kernel) rfl (by decide) rfl ?_
    cases h
    exact Ru.iret (by decide +kernel) rfl rfl
  · replace h := if_f b4 h
    refine Ru.br2 (k := .lt) (off := 9) (bb := false) (tg := 21) (by decide +kernel) (by decide +kernel) (ci_lt0 g3 (by decide) b4) rfl ?_
    refine Ru.op (q := (.iload_n 1, 1)) (S' := (22, _, _, _, _)) (by decide +kernel) rfl ?_
    refine Ru.kI (q := (.bipush 57, 2)) (c := 57) (pc' := 24) (by decide +kernel) rfl (by decide) rfl ?_
    by_cases b5 : 57 < o1
    · replace h := if_t b5 h
      refine Ru.br2 (k := .le) (off := 5) (bb := false) (tg := 27) (by decide +kernel) (by decide +kernel) (ci_le0 g3 (by decide) b5) rfl ?_
      refine Ru.kI (q := (.iconst (-1), 1)) (c := (-1)) (pc' := 28) (by decide +kernel) rfl (by decide) rfl ?_
      cases h
      exact Ru.iret (by decide +kernel) rfl rfl
    · replace h := if_f b5 h
      refine Ru.br2 (k := .le) (off := 5) (bb := true) (tg := 29) (by decide +kernel) (by decide +kernel) (ci_le1 g3 (by decide) b5) rfl ?_
      refine Ru.op (q := (.aload_n 0, 1)) (S' := (30, _, _, _, _)) (by decide +kernel) rfl ?_
      refine Ru.op (q := (.dup, 1)) (S' := (31, _, _, _, _)) (by decide +kernel) rfl ?_
      refine Ru.getI (pc' := 34) (i := 36) (ci := 1) (k := 4) (nn := 0) (z := 0) (x := ((S.F 1 4) + 1)) (by decide +kernel) (by decide +kernel) (hp1 _) (by decide) rfl rfl rfl ?_
      refine Ru.kI (q := (.iconst 1, 1)) (c := 1) (pc' := 35) (by decide +kernel) rfl (by decide) rfl ?_
      refine Ru.ar2 (i := .iadd) (z := (((S.F 1 4) + 1) + 1)) (pc' := 36) (by decide +kernel) rfl (ar_add _ _) rfl ?_
      refine Ru.putH (pc' := 39) (i := 36) (ci := 1) (k := 4) (nn := 0) (z := 0) (by decide +kernel) (by decide +kernel) (hp1 _) (by decide) (Nat.le_of_ble_eq_true rfl) rfl (by decide +kernel) (pf_1_4 _ _) rfl ?_
      refine Ru.op (q := (.iload_n 1, 1)) (S' := (40, _, _, _, _)) (by decide +kernel) rfl ?_
      refine Ru.kI (q := (.bipush 48, 2)) (c := 48) (pc' := 42) (by decide +kernel) rfl (by decide) rfl ?_
      refine Ru.ar2 (i := .isub) (z := (o1 - 48)) (pc' := 43) (by decide +kernel) rfl (ar_sub _ _) rfl ?_
      refine Ru.op (q := (.istore_n 2, 1)) (S' := (44, [some (.ref 1), some (vI o1), some (vI (o1 - 48)), none], [], _, _)) (by decide +kernel) rfl ?_
      refine Ru.op (q := (.aload_n 0, 1)) (S' := (45, _, _, _, _)) (by decide +kernel) rfl ?_
      obtain ⟨o6, e7, h⟩ := ob_some h
      refine Ru.vcallI (pc' := 48) (st' := [vI o6]) (i := 69) (j2 := 23) (ci := 1) (k := 0) (z := 0) (as := []) (by decide +kernel) (by decide +kernel) rfl rfl (hp1 _) (by decide) ⟨(Nat.le_of_ble_eq_true rfl), (by show 19 + 1 ≤ 220; exact Nat.le_of_ble_eq_true rfl), Nat.le_of_ble_eq_true rfl, Nat.le_of_ble_eq_true rfl⟩ ((g23_ok e7).up (Nat.le_of_ble_eq_true rfl) (Nat.le_of_ble_eq_true rfl)) rfl rfl ?_
      refine Ru.op (q := (.istore_n 3, 1)) (S' := (49, [some (.ref 1), some (vI o1), some (vI (o1 - 48)), some (vI o6)], [], _, _)) (by decide +kernel) rfl ?_
      refine Ru.op (q := (.iload_n 3, 1)) (S' := (50, _, _, _, _)) (by decide +kernel) rfl ?_
      refine Ru.kI (q := (.bipush 48, 2)) (c := 48) (pc' := 52) (by decide +kernel) rfl (by decide) rfl ?_
      obtain ⟨g8, h⟩ := gd_some h
      by_cases b9 : o6 < 48
      · replace h := if_t b9 h
        refine Ru.br2 (k := .lt) (off := 29) (bb := true) (tg := 81) (by decide +kernel) (by decide +kernel) (ci_lt1 g8 (by decide) b9) rfl ?_
        refine Ru.kI (q := (.sipush 128, 3)) (c := 128) (pc' := 84) (by decide +kernel) rfl (by decide) rfl ?_
        refine Ru.op (q := (.iload_n 2, 1)) (S' := (85, _, _, _, _)) (by decide +kernel) rfl ?_
        refine Ru.ar2 (i := .iadd) (z := (128 + (o1 - 48))) (pc' := 86) (by decide +kernel) rfl (ar_add _ _) rfl ?_
        cases h
        exact Ru.iret (by decide +kernel) rfl rfl
      · replace h := if_f b9 h
        refine Ru.br2 (k := .lt) (off := 29) (bb := false) (tg := 55) (by decide +kernel) (by decide +kernel) (ci_lt0 g8 (by decide) b9) rfl ?_
        refine Ru.op (q := (.iload_n 3, 1)) (S' := (56, _, _, _, _)) (by decide +kernel) rfl ?_
        refine Ru.kI (q := (.bipush 57, 2)) (c := 57) (pc' := 58) (by decide +kernel) rfl (by decide) rfl ?_
        by_cases b10 : 57 < o6
        · replace h := if_t b10 h
          refine Ru.br2 (k := .gt) (off := 23) (bb := true) (tg := 81) (by decide +kernel) (by decide +kernel) (ci_gt1 g8 (by decide) b10) rfl ?_
          refine Ru.kI (q := (.sipush 128, 3)) (c := 128) (pc' := 84) (by decide +kernel) rfl (by decide) rfl ?_
          refine Ru.op (q := (.iload_n 2, 1)) (S' := (85, _, _, _, _)) (by decide +kernel) rfl ?_
          refine Ru.ar2 (i := .iadd) (z := (128 + (o1 - 48))) (pc' := 86) (by decide +kernel) rfl (ar_add _ _) rfl ?_
          cases h
          exact Ru.iret (by decide +kernel) rfl rfl
        · replace h := if_f b10 h
          refine Ru.br2 (k := .gt) (off := 23) (bb := false) (tg := 61) (by decide +kernel) (by decide +kernel) (ci_gt0 g8 (by decide) b10) rfl ?_
          refine Ru.op (q := (.aload_n 0, 1)) (S' := (62, _, _, _, _)) (by decide +kernel) rfl ?_
          refine Ru.op (q := (.dup, 1)) (S' := (63, _, _, _, _)) (by decide +kernel) rfl ?_
          refine Ru.getI (pc' := 66) (i := 36) (ci := 1) (k := 4) (nn := 0) (z := 0) (x := (((S.F 1 4) + 1) + 1)) (by decide +kernel) (by decide +kernel) (hp1 _) (by decide) rfl rfl rfl ?_
          refine Ru.kI (q := (.iconst 1, 1)) (c := 1) (pc' := 67) (by decide +kernel) rfl (by decide) rfl ?_
          refine Ru.ar2 (i := .iadd) (z := ((((S.F 1 4) + 1) + 1) + 1)) (pc' := 68) (by decide +kernel) rfl (ar_add _ _) rfl ?_
          refine Ru.putH (pc' := 71) (i := 36) (ci := 1) (k := 4) (nn := 0) (z := 0) (by decide +kernel) (by decide +kernel) (hp1 _) (by decide) (Nat.le_of_ble_eq_true rfl) rfl (by decide +kernel) (pf_1_4 _ _) rfl ?_
          refine Ru.op (q := (.iload_n 2, 1)) (S' := (72, _, _, _, _)) (by decide +kernel) rfl ?_
          refine Ru.kI (q := (.bipush 10, 2)) (c := 10) (pc' := 74) (by decide +kernel) rfl (by decide) rfl ?_
          refine Ru.ar2 (i := .imul) (z := ((o1 - 48) * 10)) (pc' := 75) (by decide +kernel) rfl (ar_mul _ _) rfl ?_
          refine Ru.op (q := (.iload_n 3, 1)) (S' := (76, _, _, _, _)) (by decide +kernel) rfl ?_
          refine Ru.ar2 (i := .iadd) (z := (((o1 - 48) * 10) + o6)) (pc' := 77) (by decide +kernel) rfl (ar_add _ _) rfl ?_
          refine Ru.kI (q := (.bipush 48, 2)) (c := 48) (pc' := 79) (by decide +kernel) rfl (by decide) rfl ?_
          refine Ru.ar2 (i := .isub) (z := ((((o1 - 48) * 10) + o6) - 48)) (pc' := 80) (by decide +kernel) rfl (ar_sub _ _) rfl ?_
          refine Ru.op (q := (.istore_n 2, 1)) (S' := (81, [some (.ref 1), some (vI o1), some (vI ((((o1 - 48) * 10) + o6) - 48)), some (vI o6)], [], _, _)) (by decide +kernel) rfl ?_
          refine Ru.kI (q := (.sipush 128, 3)) (c := 128) (pc' := 84) (by decide +kernel) rfl (by decide) rfl ?_
          refine Ru.op (q := (.iload_n 2, 1)) (S' := (85, _, _, _, _)) (by decide +kernel) rfl ?_
          refine Ru.ar2 (i := .iadd) (z := (128 + ((((o1 - 48) * 10) + o6) - 48))) (pc' := 86) (by decide +kernel) rfl (ar_add _ _) rfl ?_
          cases h
          exact Ru.iret (by decide +kernel) rfl rfl
set_option maxRecDepth 100000 in
set_option maxHeartbeats 4000000 in
theorem g30L23_ok {S : St} {v1 : Int} {v2 : Int} : ∀ (n : Nat) (v3 : Int) (d4 : Option Value) (_ : DD [d4]) (out : Int), g30L23 S v1 v2 n v3 = some out → ∀ r, (∀ (e1 e4 : Option Value), DD [e1, e4] → Ru none 11 221 30 (43, [some (.ref 1), e1, some (vI v2), some (vI out), e4], [], S.ns, Hp S) r) → Ru none 11 221 30 (23, [some (.ref 1), some (vI v1), some (vI v2), some (vI v3), d4], [], S.ns, Hp S) r := by
  intro n
  induction n with
  | zero => intro v3 d4 hdd out h; cases h
  | succ n ih =>
    intro v3 d4 hdd out h r hk
    unfold g30L23 at h
    refine Ru.op (q := (.iload_n 3, 1)) (S' := (24, _, _, _, _)) (by decide +kernel) rfl ?_
    obtain ⟨g2, h⟩ := gd_some h
    by_cases b3 : v3 < 0
    · replace h := if_t b3 h
      refine Ru.br (k := .lt) (off := 19) (bb := true) (tg := 43) (by decide +kernel) (by decide +kernel) (cz (ci_lt1 g2 (by decide) b3)) rfl ?_
      cases h
      exact hk _ _ ⟨rfl, hdd.1, trivial⟩
    · replace h := if_f b3 h
      refine Ru.br (k := .lt) (off := 19) (bb := false) (tg := 27) (by decide +kernel) (by decide +kernel) (cz (ci_lt0 g2 (by decide) b3)) rfl ?_
      refine Ru.op (q := (.aload_n 0, 1)) (S' := (28, _, _, _, _)) (by decide +kernel) rfl ?_
      refine Ru.getR (pc' := 31) (i := 22) (ci := 1) (k := 6) (nn := 0) (z := 0) (v := .ref 10) (by decide +kernel) (by decide +kernel) (hp1 _) (by decide) rfl rfl ?_
      refine Ru.op (q := (.iload_n 3, 1)) (S' := (32, _, _, _, _)) (by decide +kernel) rfl ?_
      obtain ⟨g4, h⟩ := gd_some h
      refine Ru.ildI (pc' := 33) (i := v3) (z := (S.A 10 v3)) (by decide +kernel) (hp10 _) g4 (eI_of _) rfl ?_
      refine Ru.op (q := (.iload_n 1, 1)) (S' := (34, _, _, _, _)) (by decide +kernel) rfl ?_
      obtain ⟨g5, h⟩ := gd_some h
      by_cases b6 : (S.A 10 v3) = v1
      · replace h := if_t b6 h
        refine Ru.br2 (k := .eq) (off := 9) (bb := true) (tg := 43) (by decide +kernel) (by decide +kernel) (ci_eq1 (inR_to _) g5 b6) rfl ?_
        cases h
        exact hk _ _ ⟨rfl, hdd.1, trivial⟩
      · replace h := if_f b6 h
        refine Ru.br2 (k := .eq) (off := 9) (bb := false) (tg := 37) (by decide +kernel) (by decide +kernel) (ci_eq0 (inR_to _) g5 b6) rfl ?_
        refine Ru.inc (k := 3) (n := (-1)) (x := v3) (z := (v3 + (-1))) (xs' := [some (.ref 1), some (vI v1), some (vI v2), some (vI (v3 + (-1))), d4]) (pc' := 40) (by decide +kernel) rfl rfl rfl rfl ?_
        refine Ru.op (q := (.goto (-17), 3)) (S' := (23, _, _, _, _)) (by decide +kernel) rfl ?_
        exact ih _ _ ⟨hdd.1, trivial⟩ _ h r hk
set_option maxRecDepth 100000 in
set_option maxHeartbeats 4000000 in
theorem g30L78_ok {v3 : Int} : ∀ (n : Nat) (v4 : Int) (S : St) (d1 d2 : Option Value) (_ : DD [d1, d2]) (out : St), g30L78 v3 n v4 S = some out → ∀ r, (∀ (e0 e1 e2 e3 e4 : Option Value), DD [e0, e1, e2, e3, e4] → Ru none 11 221 30 (113, [e0, e1, e2, e3, e4], [], out.ns, Hp out) r) → Ru none 11 221 30 (78, [some (.ref 1), d1, d2, some (vI v3), some (vI v4)], [], S.ns, Hp S) r := by
  intro n
  induction n with
  | zero => intro v4 S d1 d2 hdd out h; cases h
  | succ n ih =>
    intro v4 S d1 d2 hdd out h r hk
    unfold g30L78 at h
    refine Ru.op (q := (.iload 4, 2)) (S' := (80, _, _, _, _)) (by decide +kernel) rfl ?_
    refine Ru.op (q := (.iload_n 3, 1)) (S' := (81, _, _, _, _)) (by decide +kernel) rfl ?_
    obtain ⟨g20, h⟩ := gd_some h
    obtain ⟨g21, h⟩ := gd_some h
    by_cases b22 : v4 < v3
    · replace h := if_t b22 h
      refine Ru.br2 (k := .ge) (off := 32) (bb := false) (tg := 84) (by decide +kernel) (by decide +kernel) (ci_ge0 g20 g21 b22) rfl ?_
      refine Ru.op (q := (.aload_n 0, 1)) (S' := (85, _, _, _, _)) (by decide +kernel) rfl ?_
      refine Ru.getR (pc' := 88) (i := 26) (ci := 1) (k := 7) (nn := 0) (z := 0) (v := .ref 11) (by decide +kernel) (by decide +kernel) (hp1 _) (by decide) rfl rfl ?_
      refine Ru.op (q := (.iload 4, 2)) (S' := (90, _, _, _, _)) (by decide +kernel) rfl ?_
      obtain ⟨g23, h⟩ := gd_some h
      refine Ru.ildI (pc' := 91) (i := v4) (z := (S.A 11 v4)) (by decide +kernel) (hp11 _) g23 (eI_of _) rfl ?_
      refine Ru.kI (q := (.ldc 112, 2)) (c := 32768) (pc' := 93) (by decide +kernel) rfl (by decide) rfl ?_
      by_cases b24 : (S.A 11 v4) < 32768
      · replace h := if_t b24 h
        refine Ru.br2 (k := .ge) (off := 14) (bb := false) (tg := 96) (by decide +kernel) (by decide +kernel) (ci_ge0 (inR_to _) (by decide) b24) rfl ?_
        refine Ru.op (q := (.aload_n 0, 1)) (S' := (97, _, _, _, _)) (by decide +kernel) rfl ?_
        refine Ru.op (q := (.aload_n 0, 1)) (S' := (98, _, _, _, _)) (by decide +kernel) rfl ?_
        refine Ru.getR (pc' := 101) (i := 26) (ci := 1) (k := 7) (nn := 0) (z := 0) (v := .ref 11) (by decide +kernel) (by decide +kernel) (hp1 _) (by decide) rfl rfl ?_
        refine Ru.op (q := (.iload 4, 2)) (S' := (103, _, _, _, _)) (by decide +kernel) rfl ?_
        refine Ru.ildI (pc' := 104) (i := v4) (z := (S.A 11 v4)) (by decide +kernel) (hp11 _) g23 (eI_of _) rfl ?_
        obtain ⟨o25, e26, h⟩ := ob_some h
        refine Ru.vcallI (pc' := 107) (st' := []) (i := 118) (j2 := 26) (ci := 1) (k := 0) (z := 0) (as := [vI (S.A 11 v4)]) (by decide +kernel) (by decide +kernel) rfl rfl (hp1 _) (by decide) ⟨(Nat.le_of_ble_eq_true rfl), (by show 19 + 2 ≤ 221; exact Nat.le_of_ble_eq_true rfl), Nat.le_of_ble_eq_true rfl, Nat.le_of_ble_eq_true rfl⟩ ((g26_ok e26).up (Nat.le_of_ble_eq_true rfl) (Nat.le_of_ble_eq_true rfl)) rfl rfl ?_
        refine Ru.inc (k := 4) (n := 1) (x := v4) (z := (v4 + 1)) (xs' := [some (.ref 1), d1, d2, some (vI v3), some (vI (v4 + 1))]) (pc' := 110) (by decide +kernel) rfl rfl rfl rfl ?_
        refine Ru.op (q := (.goto (-32), 3)) (S' := (78, _, _, _, _)) (by decide +kernel) rfl ?_
        exact ih _ _ _ _ ⟨hdd.1, hdd.2.1, trivial⟩ _ h r hk
      · replace h := if_f b24 h
        refine Ru.br2 (k := .ge) (off := 14) (bb := true) (tg := 107) (by decide +kernel) (by decide +kernel) (ci_ge1 (inR_to _) (by decide) b24) rfl ?_
        refine Ru.inc (k := 4) (n := 1) (x := v4) (z := (v4 + 1)) (xs' := [some (.ref 1), d1, d2, some (vI v3), some (vI (v4 + 1))]) (pc' := 110) (by decide +kernel) rfl rfl rfl rfl ?_
        refine Ru.op (q := (.goto (-32), 3)) (S' := (78, _, _, _, _)) (by decide +kernel) rfl ?_
        exact ih _ _ _ _ ⟨hdd.1, hdd.2.1, trivial⟩ _ h r hk
    · replace h := if_f b22 h
      refine Ru.br2 (k := .ge) (off := 32) (bb := true) (tg := 113) (by decide +kernel) (by decide +kernel) (ci_ge1 g20 g21 b22) rfl ?_
      cases h
      exact hk _ _ _ _ _ ⟨rfl, hdd.1, hdd.2.1, rfl, rfl, trivial⟩
set_option maxRecDepth 100000 in
set_option maxHeartbeats 4000000 in
theorem g30_ok {S : St} {v1 : Int} {v2 : Int} {o : St} (h : g30 S v1 v2 = some o) : Ru none 11 221 30 (0, mn_pad (mn_ent [.ref 1, vI v1, vI v2]) 5, [], S.ns, Hp S) ((0, none), o.ns, Hp o) := by
  unfold g30 at h
  show Ru none 11 221 30 (0, [some (.ref 1), some (vI v1), some (vI v2), none, none], [], S.ns, Hp S) _
  refine Ru.op (q := (.aload_n 0, 1)) (S' := (1, _, _, _, _)) (by decide +kernel) rfl ?_
  refine Ru.getI (pc' := 4) (i := 32) (ci := 1) (k := 5) (nn := 0) (z := 0) (x := (S.F 1 5)) (by decide +kernel) (by decide +kernel) (hp1 _) (by decide) rfl (eI_of _) rfl ?_
  by_cases b1 : (S.F 1 5) = 0
  · replace h := if_t b1 h
    refine Ru.br (k := .eq) (off := 12) (bb := true) (tg := 16) (by decide +kernel) (by decide +kernel) (cz (ci_eq1 (inR_to _) (by decide) b1)) rfl ?_
    refine Ru.op (q := (.aload_n 0, 1)) (S' := (17, _, _, _, _)) (by decide +kernel) rfl ?_
    refine Ru.getI (pc' := 20) (i := 46) (ci := 1) (k := 8) (nn := 0) (z := 0) (x := (S.F 1 8)) (by decide +kernel) (by decide +kernel) (hp1 _) (by decide) rfl (eI_of _) rfl ?_
    refine Ru.kI (q := (.iconst 1, 1)) (c := 1) (pc' := 21) (by decide +kernel) rfl (by decide) rfl ?_
    refine Ru.ar2 (i := .isub) (z := ((S.F 1 8) - 1)) (pc' := 22) (by decide +kernel) rfl (ar_sub _ _) rfl ?_
    refine Ru.op (q := (.istore_n 3, 1)) (S' := (23, [some (.ref 1), some (vI v1), some (vI v2), some (vI ((S.F 1 8) - 1)), none], [], _, _)) (by decide +kernel) rfl ?_
    obtain ⟨o7, e10, h⟩ := ob_some h
    refine g30L23_ok FU _ _ ⟨rfl, trivial⟩ _ e10 _ ?_
    intro d8 d9 hd11
    refine Ru.op (q := (.iload_n 3, 1)) (S' := (44, _, _, _, _)) (by decide +kernel) rfl ?_
    obtain ⟨g12, h⟩ := gd_some h
    by_cases b13 : o7 < 0
    · replace h := if_t b13 h
      refine Ru.br (k := .ge) (off := 10) (bb := false) (tg := 47) (by decide +kernel) (by decide +kernel) (cz (ci_ge0 g12 (by decide) b13)) rfl ?_
      refine Ru.op (q := (.aload_n 0, 1)) (S' := (48, _, _, _, _)) (by decide +kernel) rfl ?_
      refine Ru.op (q := (.iload_n 2, 1)) (S' := (49, _, _, _, _)) (by decide +kernel) rfl ?_
      obtain ⟨o14, e15, h⟩ := ob_some h
      refine Ru.vcallI (pc' := 52) (st' := [vI o14.1]) (i := 62) (j2 := 25) (ci := 1) (k := 0) (z := 0) (as := [vI v2]) (by decide +kernel) (by decide +kernel) rfl rfl (hp1 _) (by decide) ⟨(Nat.le_of_ble_eq_true rfl), (by show 19 + 2 ≤ 221; exact Nat.le_of_ble_eq_true rfl), Nat.le_of_ble_eq_true rfl, Nat.le_of_ble_eq_true rfl⟩ ((g25_ok e15).up (Nat.le_of_ble_eq_true rfl) (Nat.le_of_ble_eq_true rfl)) rfl rfl ?_
      refine Ru.op (q := (.pop, 1)) (S' := (53, _, _, _, _)) (by decide +kernel) rfl ?_
      cases h
      exact Ru.end (q := (.return_, 1)) (by decide +kernel) rfl rfl
    · replace h := if_f b13 h
      refine Ru.br (k := .ge) (off := 10) (bb := true) (tg := 54) (by decide +kernel) (by decide +kernel) (cz (ci_ge1 g12 (by decide) b13)) rfl ?_
      refine Ru.op (q := (.aload_n 0, 1)) (S' := (55, _, _, _, _)) (by decide +kernel) rfl ?_
      refine Ru.op (q := (.aload_n 0, 1)) (S' := (56, _, _, _, _)) (by decide +kernel) rfl ?_
      refine Ru.getR (pc' := 59) (i := 26) (ci := 1) (k := 7) (nn := 0) (z := 0) (v := .ref 11) (by decide +kernel) (by decide +kernel) (hp1 _) (by decide) rfl rfl ?_
      refine Ru.op (q := (.iload_n 3, 1)) (S' := (60, _, _, _, _)) (by decide +kernel) rfl ?_
      obtain ⟨g16, h⟩ := gd_some h
      refine Ru.ildI (pc' := 61) (i := o7) (z := (S.A 11 o7)) (by decide +kernel) (hp11 _) g16 (eI_of _) rfl ?_
      obtain ⟨o17, e18, h⟩ := ob_some h
      refine Ru.vcallI (pc' := 64) (st' := []) (i := 118) (j2 := 26) (ci := 1) (k := 0) (z := 0) (as := [vI (S.A 11 o7)]) (by decide +kernel) (by decide +kernel) rfl rfl (hp1 _) (by decide) ⟨(Nat.le_of_ble_eq_true rfl), (by show 19 + 2 ≤ 221; exact Nat.le_of_ble_eq_true rfl), Nat.le_of_ble_eq_true rfl, Nat.le_of_ble_eq_true rfl⟩ ((g26_ok e18).up (Nat.le_of_ble_eq_true rfl) (Nat.le_of_ble_eq_true rfl)) rfl rfl ?_
      refine Ru.op (q := (.aload_n 0, 1)) (S' := (65, _, _, _, _)) (by decide +kernel) rfl ?_
      refine Ru.getR (pc' := 68) (i := 26) (ci := 1) (k := 7) (nn := 0) (z := 0) (v := .ref 11) (by decide +kernel) (by decide +kernel) (hp1 _) (by decide) rfl rfl ?_
      refine Ru.op (q := (.iload_n 3, 1)) (S' := (69, _, _, _, _)) (by decide +kernel) rfl ?_
      refine Ru.ildI (pc' := 70) (i := o7) (z := (o17.A 11 o7)) (by decide +kernel) (hp11 _) g16 (eI_of _) rfl ?_
      refine Ru.kI (q := (.ldc 112, 2)) (c := 32768) (pc' := 72) (by decide +kernel) rfl (by decide) rfl ?_
      by_cases b19 : (o17.A 11 o7) < 32768
      · replace h := if_t b19 h
        refine Ru.br2 (k := .lt) (off := 41) (bb := true) (tg := 113) (by decide +kernel) (by decide +kernel) (ci_lt1 (inR_to _) (by decide) b19) rfl ?_
        cases h
        exact Ru.end (q := (.return_, 1)) (by decide +kernel) rfl rfl
      · replace h := if_f b19 h
        refine Ru.br2 (k := .lt) (off := 41) (bb := false) (tg := 75) (by decide +kernel) (by decide +kernel) (ci_lt0 (inR_to _) (by decide) b19) rfl ?_
        refine Ru.kI (q := (.iconst 0, 1)) (c := 0) (pc' := 76) (by decide +kernel) rfl (by decide) rfl ?_
        refine Ru.op (q := (.istore 4, 2)) (S' := (78, [some (.ref 1), d8, some (vI v2), some (vI o7), some (vI 0)], [], _, _)) (by decide +kernel) rfl ?_
        obtain ⟨o27, e33, h⟩ := ob_some h
        refine g30L78_ok FU _ _ _ _ ⟨hd11.1, rfl, trivial⟩ _ e33 _ ?_
        intro d28 d29 d30 d31 d32 hd34
        cases h
        exact Ru.end (q := (.return_, 1)) (by decide +kernel) rfl rfl
  · replace h := if_f b1 h
    refine Ru.br (k := .eq) (off := 12) (bb := false) (tg := 7) (by decide +kernel) (by decide +kernel) (cz (ci_eq0 (inR_to _) (by decide) b1)) rfl ?_
    refine Ru.op (q := (.aload_n 0, 1)) (S' := (8, _, _, _, _)) (by decide +kernel) rfl ?_
    refine Ru.op (q := (.iload_n 1, 1)) (S' := (9, _, _, _, _)) (by decide +kernel) rfl ?_
    refine Ru.kI (q := (.bipush 8, 2)) (c := 8) (pc' := 11) (by decide +kernel) rfl (by decide) rfl ?_
    refine Ru.ar2 (i := .ishl) (z := (v1 * 256)) (pc' := 12) (by decide +kernel) rfl (ar_shl _) rfl ?_
    obtain ⟨o35, e36, h⟩ := ob_some h
    refine Ru.vcallI (pc' := 15) (st' := []) (i := 118) (j2 := 26) (ci := 1) (k := 0) (z := 0) (as := [vI (v1 * 256)]) (by decide +kernel) (by decide +kernel) rfl rfl (hp1 _) (by decide) ⟨(Nat.le_of_ble_eq_true rfl), (by show 19 + 2 ≤ 221; exact Nat.le_of_ble_eq_true rfl), Nat.le_of_ble_eq_true rfl, Nat.le_of_ble_eq_true rfl⟩ ((g26_ok e36).up (Nat.le_of_ble_eq_true rfl) (Nat.le_of_ble_eq_true rfl)) rfl rfl ?_
    cases h
    exact Ru.end (q := (.return_, 1)) (by decide +kernel) rfl rfl
