set_option maxRecDepth 100000 in
set_option maxHeartbeats 4000000 in
theorem g118_ok {S : St} {v1 : Int} {v2 : Int} {v3 : Int} {v4 : Int} {v5 : Int} {o : Int × St} (h : g118 S v1 v2 v3 v4 v5 = some o) : Ru none 16 343 118 (0, mn_pad (mn_ent [.ref 36, vI v1, vI v2, vI v3, vI v4, vI v5]) 6, [], S.ns, Hp S) ((0, some (vI o.1)), o.2.ns, Hp o.2) := by
  unfold g118 at h
  show Ru none 16 343 118 (0, [some (.ref 36), some (vI v1), some (vI v2), some (vI v3), some (vI v4), some (vI v5)], [], S.ns, Hp S) _
  refine Ru.op (q := (.aload_n 0, 1)) (S' := (1, _, _, _, _)) (by decide +kernel) rfl ?_
  obtain ⟨o1, e2, h⟩ := ob_some h
  refine Ru.vcallI (pc' := 4) (st' := [vI o1.1]) (i := 269) (j2 := 119) (ci := 10) (k := 0) (z := 0) (as := []) (by decide +kernel) (by decide +kernel) rfl rfl (hp36 _) (by decide) ⟨(Nat.le_of_ble_eq_true rfl), (by show 19 + 9 ≤ 343; exact Nat.le_of_ble_eq_true rfl), Nat.le_of_ble_eq_true rfl, Nat.le_of_ble_eq_true rfl⟩ ((g119_ok e2).up (Nat.le_of_ble_eq_true rfl) (Nat.le_of_ble_eq_true rfl)) rfl rfl ?_
  obtain ⟨g3, h⟩ := gd_some h
  by_cases b4 : o1.1 = 0
  · replace h := if_t b4 h
    refine Ru.br (k := .eq) (off := 15) (bb := true) (tg := 19) (by decide +kernel) (by decide +kernel) (cz (ci_eq1 g3 (by decide) b4)) rfl ?_
    refine Ru.op (q := (.aload_n 0, 1)) (S' := (20, _, _, _, _)) (by decide +kernel) rfl ?_
    refine Ru.op (q := (.dup, 1)) (S' := (21, _, _, _, _)) (by decide +kernel) rfl ?_
    refine Ru.getI (pc' := 24) (i := 273) (ci := 10) (k := 17) (nn := 0) (z := 0) (x := (o1.2.F 36 17)) (by decide +kernel) (by decide +kernel) (hp36 _) (by decide) rfl (eI_of _) rfl ?_
    refine Ru.kI (q := (.iconst 1, 1)) (c := 1) (pc' := 25) (by decide +kernel) rfl (by decide) rfl ?_
    refine Ru.ar2 (i := .iadd) (z := ((o1.2.F 36 17) + 1)) (pc' := 26) (by decide +kernel) rfl (ar_add _ _) rfl ?_
    refine Ru.putH (pc' := 29) (i := 273) (ci := 10) (k := 17) (nn := 0) (z := 0) (by decide +kernel) (by decide +kernel) (hp36 _) (by decide) (Nat.le_of_ble_eq_true rfl) rfl (by decide +kernel) (pf_36_17 _ _) rfl ?_
    refine Ru.kI (q := (.iconst 0, 1)) (c := 0) (pc' := 30) (by decide +kernel) rfl (by decide) rfl ?_
    cases h
    exact Ru.iret (by decide +kernel) rfl (nar_b1 (by decide))
  · replace h := if_f b4 h
    refine Ru.br (k := .eq) (off := 15) (bb := false) (tg := 7) (by decide +kernel) (by decide +kernel) (cz (ci_eq0 g3 (by decide) b4)) rfl ?_
    refine Ru.op (q := (.aload_n 0, 1)) (S' := (8, _, _, _, _)) (by decide +kernel) rfl ?_
    refine Ru.getR (pc' := 11) (i := 30) (ci := 10) (k := 8) (nn := 0) (z := 0) (v := .ref 42) (by decide +kernel) (by decide +kernel) (hp36 _) (by decide) rfl rfl ?_
    refine Ru.kI (q := (.bipush 124, 2)) (c := 124) (pc' := 13) (by decide +kernel) rfl (by decide) rfl ?_
    refine Ru.ildI (pc' := 14) (i := 124) (z := (o1.2.A 42 124)) (by decide +kernel) (hp42 _) (by decide) (eI_of _) rfl ?_
    refine Ru.kI (q := (.bipush 16, 2)) (c := 16) (pc' := 16) (by decide +kernel) rfl (by decide) rfl ?_
    by_cases b5 : 16 < (o1.2.A 42 124)
    · replace h := if_t b5 h
      refine Ru.br2 (k := .le) (off := 15) (bb := false) (tg := 19) (by decide +kernel) (by decide +kernel) (ci_le0 (inR_to _) (by decide) b5) rfl ?_
      refine Ru.op (q := (.aload_n 0, 1)) (S' := (20, _, _, _, _)) (by decide +kernel) rfl ?_
      refine Ru.op (q := (.dup, 1)) (S' := (21, _, _, _, _)) (by decide +kernel) rfl ?_
      refine Ru.getI (pc' := 24) (i := 273) (ci := 10) (k := 17) (nn := 0) (z := 0) (x := (o1.2.F 36 17)) (by decide +kernel) (by decide +kernel) (hp36 _) (by decide) rfl (eI_of _) rfl ?_
      refine Ru.kI (q := (.iconst 1, 1)) (c := 1) (pc' := 25) (by decide +kernel) rfl (by decide) rfl ?_
      refine Ru.ar2 (i := .iadd) (z := ((o1.2.F 36 17) + 1)) (pc' := 26) (by decide +kernel) rfl (ar_add _ _) rfl ?_
      refine Ru.putH (pc' := 29) (i := 273) (ci := 10) (k := 17) (nn := 0) (z := 0) (by decide +kernel) (by decide +kernel) (hp36 _) (by decide) (Nat.le_of_ble_eq_true rfl) rfl (by decide +kernel) (pf_36_17 _ _) rfl ?_
      refine Ru.kI (q := (.iconst 0, 1)) (c := 0) (pc' := 30) (by decide +kernel) rfl (by decide) rfl ?_
      cases h
      exact Ru.iret (by decide +kernel) rfl (nar_b1 (by decide))
    · replace h := if_f b5 h
      refine Ru.br2 (k := .le) (off := 15) (bb := true) (tg := 31) (by decide +kernel) (by decide +kernel) (ci_le1 (inR_to _) (by decide) b5) rfl ?_
      refine Ru.op (q := (.aload_n 0, 1)) (S' := (32, _, _, _, _)) (by decide +kernel) rfl ?_
      obtain ⟨o6, e7, h⟩ := ob_some h
      refine Ru.vcallI (pc' := 35) (st' := [vI o6]) (i := 276) (j2 := 128) (ci := 10) (k := 0) (z := 0) (as := []) (by decide +kernel) (by decide +kernel) rfl rfl (hp36 _) (by decide) ⟨(Nat.le_of_ble_eq_true rfl), (by show 19 + 4 ≤ 343; exact Nat.le_of_ble_eq_true rfl), Nat.le_of_ble_eq_true rfl, Nat.le_of_ble_eq_true rfl⟩ ((g128_ok e7).up (Nat.le_of_ble_eq_true rfl) (Nat.le_of_ble_eq_true rfl)) rfl rfl ?_
      obtain ⟨g8, h⟩ := gd_some h
      by_cases b9 : o6 = 0
      · replace h := if_t b9 h
        refine Ru.br (k := .eq) (off := 15) (bb := true) (tg := 50) (by decide +kernel) (by decide +kernel) (cz (ci_eq1 g8 (by decide) b9)) rfl ?_
        refine Ru.op (q := (.aload_n 0, 1)) (S' := (51, _, _, _, _)) (by decide +kernel) rfl ?_
        obtain ⟨o10, e11, h⟩ := ob_some h
        refine Ru.vcallI (pc' := 54) (st' := [vI o10.1]) (i := 282) (j2 := 129) (ci := 10) (k := 0) (z := 0) (as := []) (by decide +kernel) (by decide +kernel) rfl rfl (hp36 _) (by decide) ⟨(Nat.le_of_ble_eq_true rfl), (by show 19 + 3 ≤ 343; exact Nat.le_of_ble_eq_true rfl), Nat.le_of_ble_eq_true rfl, Nat.le_of_ble_eq_true rfl⟩ ((g129_ok e11).up (Nat.le_of_ble_eq_true rfl) (Nat.le_of_ble_eq_true rfl)) rfl rfl ?_
        obtain ⟨g12, h⟩ := gd_some h
        by_cases b13 : o10.1 = 0
        · replace h := if_t b13 h
          refine Ru.br (k := .eq) (off := 15) (bb := true) (tg := 69) (by decide +kernel) (by decide +kernel) (cz (ci_eq1 g12 (by decide) b13)) rfl ?_
          refine Ru.op (q := (.aload_n 0, 1)) (S' := (70, _, _, _, _)) (by decide +kernel) rfl ?_
          refine Ru.getI (pc' := 73) (i := 263) (ci := 10) (k := 9) (nn := 0) (z := 0) (x := (o10.2.F 36 9)) (by decide +kernel) (by decide +kernel) (hp36 _) (by decide) rfl (eI_of _) rfl ?_
          refine Ru.kI (q := (.bipush 100, 2)) (c := 100) (pc' := 75) (by decide +kernel) rfl (by decide) rfl ?_
          by_cases b14 : (o10.2.F 36 9) = 100
          · replace h := if_t b14 h
            refine Ru.br2 (k := .ne) (off := 10) (bb := false) (tg := 78) (by decide +kernel) (by decide +kernel) (ci_ne0 (inR_to _) (by decide) b14) rfl ?_
            refine Ru.op (q := (.aload_n 0, 1)) (S' := (79, _, _, _, _)) (by decide +kernel) rfl ?_
            refine Ru.kI (q := (.iconst 1, 1)) (c := 1) (pc' := 80) (by decide +kernel) rfl (by decide) rfl ?_
            refine Ru.putH (pc' := 83) (i := 288) (ci := 10) (k := 15) (nn := 0) (z := 0) (by decide +kernel) (by decide +kernel) (hp36 _) (by decide) (Nat.le_of_ble_eq_true rfl) (fk_b (by decide)) (by decide +kernel) (pf_36_15 _ _) rfl ?_
            refine Ru.kI (q := (.iconst 0, 1)) (c := 0) (pc' := 84) (by decide +kernel) rfl (by decide) rfl ?_
            cases h
            exact Ru.iret (by decide +kernel) rfl (nar_b1 (by decide))
          · replace h := if_f b14 h
            refine Ru.br2 (k := .ne) (off := 10) (bb := true) (tg := 85) (by decide +kernel) (by decide +kernel) (ci_ne1 (inR_to _) (by decide) b14) rfl ?_
            refine Ru.op (q := (.aload_n 0, 1)) (S' := (86, _, _, _, _)) (by decide +kernel) rfl ?_
            refine Ru.op (q := (.aload_n 0, 1)) (S' := (87, _, _, _, _)) (by decide +kernel) rfl ?_
            refine Ru.getI (pc' := 90) (i := 263) (ci := 10) (k := 9) (nn := 0) (z := 0) (x := (o10.2.F 36 9)) (by decide +kernel) (by decide +kernel) (hp36 _) (by decide) rfl (eI_of _) rfl ?_
            obtain ⟨o15, e16, h⟩ := ob_some h
            refine Ru.vcallI (pc' := 93) (st' := []) (i := 291) (j2 := 132) (ci := 10) (k := 0) (z := 0) (as := [vI (o10.2.F 36 9)]) (by decide +kernel) (by decide +kernel) rfl rfl (hp36 _) (by decide) ⟨(Nat.le_of_ble_eq_true rfl), (by show 19 + 3 ≤ 343; exact Nat.le_of_ble_eq_true rfl), Nat.le_of_ble_eq_true rfl, Nat.le_of_ble_eq_true rfl⟩ ((g132_ok e16).up (Nat.le_of_ble_eq_true rfl) (Nat.le_of_ble_eq_true rfl)) rfl rfl ?_
            refine Ru.op (q := (.aload_n 0, 1)) (S' := (94, _, _, _, _)) (by decide +kernel) rfl ?_
            refine Ru.getR (pc' := 97) (i := 33) (ci := 10) (k := 11) (nn := 0) (z := 0) (v := .ref 43) (by decide +kernel) (by decide +kernel) (hp36 _) (by decide) rfl rfl ?_
            refine Ru.op (q := (.aload_n 0, 1)) (S' := (98, _, _, _, _)) (by decide +kernel) rfl ?_
            refine Ru.getI (pc' := 101) (i := 263) (ci := 10) (k := 9) (nn := 0) (z := 0) (x := (o15.F 36 9)) (by decide +kernel) (by decide +kernel) (hp36 _) (by decide) rfl (eI_of _) rfl ?_
            refine Ru.kI (q := (.iconst 0, 1)) (c := 0) (pc' := 102) (by decide +kernel) rfl (by decide) rfl ?_
            obtain ⟨g17, h⟩ := gd_some h
            refine Ru.istI (pc' := 103) (i := (o15.F 36 9)) (x := 0) (by decide +kernel) (hp43 _) g17 (ps_43 _ _ _) rfl ?_
            refine Ru.op (q := (.aload_n 0, 1)) (S' := (104, _, _, _, _)) (by decide +kernel) rfl ?_
            refine Ru.getR (pc' := 107) (i := 36) (ci := 10) (k := 12) (nn := 0) (z := 0) (v := .ref 44) (by decide +kernel) (by decide +kernel) (hp36 _) (by decide) rfl rfl ?_
            refine Ru.op (q := (.aload_n 0, 1)) (S' := (108, _, _, _, _)) (by decide +kernel) rfl ?_
            refine Ru.getI (pc' := 111) (i := 263) (ci := 10) (k := 9) (nn := 0) (z := 0) (x := (o15.F 36 9)) (by decide +kernel) (by decide +kernel) (hp36 _) (by decide) rfl (eI_of _) rfl ?_
            refine Ru.op (q := (.iload_n 1, 1)) (S' := (112, _, _, _, _)) (by decide +kernel) rfl ?_
            refine Ru.istI (pc' := 113) (i := (o15.F 36 9)) (x := v1) (by decide +kernel) (hp44 _) g17 (ps_44 _ _ _) rfl ?_
            refine Ru.op (q := (.aload_n 0, 1)) (S' := (114, _, _, _, _)) (by decide +kernel) rfl ?_
            refine Ru.getR (pc' := 117) (i := 39) (ci := 10) (k := 13) (nn := 0) (z := 0) (v := .ref 45) (by decide +kernel) (by decide +kernel) (hp36 _) (by decide) rfl rfl ?_
            refine Ru.kI (q := (.iconst 4, 1)) (c := 4) (pc' := 118) (by decide +kernel) rfl (by decide) rfl ?_
            refine Ru.op (q := (.aload_n 0, 1)) (S' := (119, _, _, _, _)) (by decide +kernel) rfl ?_
            refine Ru.getI (pc' := 122) (i := 263) (ci := 10) (k := 9) (nn := 0) (z := 0) (x := (o15.F 36 9)) (by decide +kernel) (by decide +kernel) (hp36 _) (by decide) rfl (eI_of _) rfl ?_
            refine Ru.ar2 (i := .imul) (z := (4 * (o15.F 36 9))) (pc' := 123) (by decide +kernel) rfl (ar_mul _ _) rfl ?_
            refine Ru.op (q := (.iload_n 2, 1)) (S' := (124, _, _, _, _)) (by decide +kernel) rfl ?_
            obtain ⟨g18, h⟩ := gd_some h
            refine Ru.istI (pc' := 125) (i := (4 * (o15.F 36 9))) (x := v2) (by decide +kernel) (hp45 _) g18 (ps_45 _ _ _) rfl ?_
            refine Ru.op (q := (.aload_n 0, 1)) (S' := (126, _, _, _, _)) (by decide +kernel) rfl ?_
            refine Ru.getR (pc' := 129) (i := 39) (ci := 10) (k := 13) (nn := 0) (z := 0) (v := .ref 45) (by decide +kernel) (by decide +kernel) (hp36 _) (by decide) rfl rfl ?_
            refine Ru.kI (q := (.iconst 4, 1)) (c := 4) (pc' := 130) (by decide +kernel) rfl (by decide) rfl ?_
            refine Ru.op (q := (.aload_n 0, 1)) (S' := (131, _, _, _, _)) (by decide +kernel) rfl ?_
            refine Ru.getI (pc' := 134) (i := 263) (ci := 10) (k := 9) (nn := 0) (z := 0) (x := (o15.F 36 9)) (by decide +kernel) (by decide +kernel) (hp36 _) (by decide) rfl (eI_of _) rfl ?_
            refine Ru.ar2 (i := .imul) (z := (4 * (o15.F 36 9))) (pc' := 135) (by decide +kernel) rfl (ar_mul _ _) rfl ?_
            refine Ru.kI (q := (.iconst 1, 1)) (c := 1) (pc' := 136) (by decide +kernel) rfl (by decide) rfl ?_
            refine Ru.ar2 (i := .iadd) (z := ((4 * (o15.F 36 9)) + 1)) (pc' := 137) (by decide +kernel) rfl (ar_add _ _) rfl ?_
            refine Ru.op (q := (.iload_n 3, 1)) (S' := (138, _, _, _, _)) (by decide +kernel) rfl ?_
            obtain ⟨g19, h⟩ := gd_some h
            refine Ru.istI (pc' := 139) (i := ((4 * (o15.F 36 9)) + 1)) (x := v3) (by decide +kernel) (hp45 _) g19 (ps_45 _ _ _) rfl ?_
            refine Ru.op (q := (.aload_n 0, 1)) (S' := (140, _, _, _, _)) (by decide +kernel) rfl ?_
            refine Ru.getR (pc' := 143) (i := 39) (ci := 10) (k := 13) (nn := 0) (z := 0) (v := .ref 45) (by decide +kernel) (by decide +kernel) (hp36 _) (by decide) rfl rfl ?_
            refine Ru.kI (q := (.iconst 4, 1)) (c := 4) (pc' := 144) (by decide +kernel) rfl (by decide) rfl ?_
            refine Ru.op (q := (.aload_n 0, 1)) (S' := (145, _, _, _, _)) (by decide +kernel) rfl ?_
            refine Ru.getI (pc' := 148) (i := 263) (ci := 10) (k := 9) (nn := 0) (z := 0) (x := (o15.F 36 9)) (by decide +kernel) (by decide +kernel) (hp36 _) (by decide) rfl (eI_of _) rfl ?_
            refine Ru.ar2 (i := .imul) (z := (4 * (o15.F 36 9))) (pc' := 149) (by decide +kernel) rfl (ar_mul _ _) rfl ?_
            refine Ru.kI (q := (.iconst 2, 1)) (c := 2) (pc' := 150) (by decide +kernel) rfl (by decide) rfl ?_
            refine Ru.ar2 (i := .iadd) (z := ((4 * (o15.F 36 9)) + 2)) (pc' := 151) (by decide +kernel) rfl (ar_add _ _) rfl ?_
            refine Ru.op (q := (.iload 4, 2)) (S' := (153, _, _, _, _)) (by decide +kernel) rfl ?_
            obtain ⟨g20, h⟩ := gd_some h
            refine Ru.istI (pc' := 154) (i := ((4 * (o15.F 36 9)) + 2)) (x := v4) (by decide +kernel) (hp45 _) g20 (ps_45 _ _ _) rfl ?_
            refine Ru.op (q := (.aload_n 0, 1)) (S' := (155, _, _, _, _)) (by decide +kernel) rfl ?_
            refine Ru.getR (pc' := 158) (i := 39) (ci := 10) (k := 13) (nn := 0) (z := 0) (v := .ref 45) (by decide +kernel) (by decide +kernel) (hp36 _) (by decide) rfl rfl ?_
            refine Ru.kI (q := (.iconst 4, 1)) (c := 4) (pc' := 159) (by decide +kernel) rfl (by decide) rfl ?_
            refine Ru.op (q := (.aload_n 0, 1)) (S' := (160, _, _, _, _)) (by decide +kernel) rfl ?_
            refine Ru.getI (pc' := 163) (i := 263) (ci := 10) (k := 9) (nn := 0) (z := 0) (x := (o15.F 36 9)) (by decide +kernel) (by decide +kernel) (hp36 _) (by decide) rfl (eI_of _) rfl ?_
            refine Ru.ar2 (i := .imul) (z := (4 * (o15.F 36 9))) (pc' := 164) (by decide +kernel) rfl (ar_mul _ _) rfl ?_
            refine Ru.kI (q := (.iconst 3, 1)) (c := 3) (pc' := 165) (by decide +kernel) rfl (by decide) rfl ?_
            refine Ru.ar2 (i := .iadd) (z := ((4 * (o15.F 36 9)) + 3)) (pc' := 166) (by decide +kernel) rfl (ar_add _ _) rfl ?_
            refine Ru.op (q := (.iload 5, 2)) (S' := (168, _, _, _, _)) (by decide +kernel) rfl ?_
            obtain ⟨g21, h⟩ := gd_some h
            refine Ru.istI (pc' := 169) (i := ((4 * (o15.F 36 9)) + 3)) (x := v5) (by decide +kernel) (hp45 _) g21 (ps_45 _ _ _) rfl ?_
            refine Ru.op (q := (.aload_n 0, 1)) (S' := (170, _, _, _, _)) (by decide +kernel) rfl ?_
            refine Ru.op (q := (.aload_n 0, 1)) (S' := (171, _, _, _, _)) (by decide +kernel) rfl ?_
            refine Ru.getR (pc' := 174) (i := 27) (ci := 10) (k := 7) (nn := 0) (z := 0) (v := .ref 41) (by decide +kernel) (by decide +kernel) (hp36 _) (by decide) rfl rfl ?_
            refine Ru.op (q := (.aload_n 0, 1)) (S' := (175, _, _, _, _)) (by decide +kernel) rfl ?_
            refine Ru.getI (pc' := 178) (i := 263) (ci := 10) (k := 9) (nn := 0) (z := 0) (x := (o15.F 36 9)) (by decide +kernel) (by decide +kernel) (hp36 _) (by decide) rfl (eI_of _) rfl ?_
            obtain ⟨g22, h⟩ := gd_some h
            refine Ru.ildI (pc' := 179) (i := (o15.F 36 9)) (z := (o15.A 41 (o15.F 36 9))) (by decide +kernel) (hp41 _) g22 (eI_of _) rfl ?_
            by_cases b23 : (o15.A 41 (o15.F 36 9)) = 0
            · replace h := if_t b23 h
              refine Ru.br (k := .ne) (off := 10) (bb := false) (tg := 182) (by decide +kernel) (by decide +kernel) (cz (ci_ne0 (inR_to _) (by decide) b23)) rfl ?_
              refine Ru.op (q := (.aload_n 0, 1)) (S' := (183, _, _, _, _)) (by decide +kernel) rfl ?_
              refine Ru.getI (pc' := 186) (i := 263) (ci := 10) (k := 9) (nn := 0) (z := 0) (x := (o15.F 36 9)) (by decide +kernel) (by decide +kernel) (hp36 _) (by decide) rfl (eI_of _) rfl ?_
              refine Ru.op (q := (.goto 7, 3)) (S' := (193, _, _, _, _)) (by decide +kernel) rfl ?_
              refine Ru.putH (pc' := 196) (i := 42) (ci := 10) (k := 14) (nn := 0) (z := 0) (by decide +kernel) (by decide +kernel) (hp36 _) (by decide) (Nat.le_of_ble_eq_true rfl) rfl (by decide +kernel) (pf_36_14 _ _) rfl ?_
              refine Ru.op (q := (.aload_n 0, 1)) (S' := (197, _, _, _, _)) (by decide +kernel) rfl ?_
              refine Ru.op (q := (.dup, 1)) (S' := (198, _, _, _, _)) (by decide +kernel) rfl ?_
              refine Ru.getI (pc' := 201) (i := 263) (ci := 10) (k := 9) (nn := 0) (z := 0) (x := (o15.F 36 9)) (by decide +kernel) (by decide +kernel) (hp36 _) (by decide) rfl (eI_of _) rfl ?_
              refine Ru.kI (q := (.iconst 1, 1)) (c := 1) (pc' := 202) (by decide +kernel) rfl (by decide) rfl ?_
              refine Ru.ar2 (i := .iadd) (z := ((o15.F 36 9) + 1)) (pc' := 203) (by decide +kernel) rfl (ar_add _ _) rfl ?_
              refine Ru.putH (pc' := 206) (i := 263) (ci := 10) (k := 9) (nn := 0) (z := 0) (by decide +kernel) (by decide +kernel) (hp36 _) (by decide) (Nat.le_of_ble_eq_true rfl) rfl (by decide +kernel) (pf_36_9 _ _) rfl ?_
              refine Ru.kI (q := (.iconst 1, 1)) (c := 1) (pc' := 207) (by decide +kernel) rfl (by decide) rfl ?_
              cases h
              exact Ru.iret (by decide +kernel) rfl (nar_b1 (by decide))
            · replace h := if_f b23 h
              refine Ru.br (k := .ne) (off := 10) (bb := true) (tg := 189) (by decide +kernel) (by decide +kernel) (cz (ci_ne1 (inR_to _) (by decide) b23)) rfl ?_
              refine Ru.op (q := (.aload_n 0, 1)) (S' := (190, _, _, _, _)) (by decide +kernel) rfl ?_
              refine Ru.getI (pc' := 193) (i := 42) (ci := 10) (k := 14) (nn := 0) (z := 0) (x := (o15.F 36 14)) (by decide +kernel) (by decide +kernel) (hp36 _) (by decide) rfl (eI_of _) rfl ?_
              refine Ru.putH (pc' := 196) (i := 42) (ci := 10) (k := 14) (nn := 0) (z := 0) (by decide +kernel) (by decide +kernel) (hp36 _) (by decide) (Nat.le_of_ble_eq_true rfl) rfl (by decide +kernel) (pf_36_14 _ _) rfl ?_
              refine Ru.op (q := (.aload_n 0, 1)) (S' := (197, _, _, _, _)) (by decide +kernel) rfl ?_
              refine Ru.op (q := (.dup, 1)) (S' := (198, _, _, _, _)) (by decide +kernel) rfl ?_
              refine Ru.getI (pc' := 201) (i := 263) (ci := 10) (k := 9) (nn := 0) (z := 0) (x := (o15.F 36 9)) (by decide +kernel) (by decide +kernel) (hp36 _) (by decide) rfl (eI_of _) rfl ?_
              refine Ru.kI (q := (.iconst 1, 1)) (c := 1) (pc' := 202) (by decide +kernel) rfl (by decide) rfl ?_
              refine Ru.ar2 (i := .iadd) (z := ((o15.F 36 9) + 1)) (pc' := 203) (by decide +kernel) rfl (ar_add _ _) rfl ?_
              refine Ru.putH (pc' := 206) (i := 263) (ci := 10) (k := 9) (nn := 0) (z := 0) (by decide +kernel) (by decide +kernel) (hp36 _) (by decide) (Nat.le_of_ble_eq_true rfl) rfl (by decide +kernel) (pf_36_9 _ _) rfl ?_
              refine Ru.kI (q := (.iconst 1, 1)) (c := 1) (pc' := 207) (by decide +kernel) rfl (by decide) rfl ?_
              cases h
              exact Ru.iret (by decide +kernel) rfl (nar_b1 (by decide))
        · replace h := if_f b13 h
          refine Ru.br (k := .eq) (off := 15) (bb := false) (tg := 57) (by decide +kernel) (by decide +kernel) (cz (ci_eq0 g12 (by decide) b13)) rfl ?_
          refine Ru.op (q := (.aload_n 0, 1)) (S' := (58, _, _, _, _)) (by decide +kernel) rfl ?_
          refine Ru.op (q := (.dup, 1)) (S' := (59, _, _, _, _)) (by decide +kernel) rfl ?_
          refine Ru.getI (pc' := 62) (i := 285) (ci := 10) (k := 19) (nn := 0) (z := 0) (x := (o10.2.F 36 19)) (by decide +kernel) (by decide +kernel) (hp36 _) (by decide) rfl (eI_of _) rfl ?_
          refine Ru.kI (q := (.iconst 1, 1)) (c := 1) (pc' := 63) (by decide +kernel) rfl (by decide) rfl ?_
          refine Ru.ar2 (i := .iadd) (z := ((o10.2.F 36 19) + 1)) (pc' := 64) (by decide +kernel) rfl (ar_add _ _) rfl ?_
          refine Ru.putH (pc' := 67) (i := 285) (ci := 10) (k := 19) (nn := 0) (z := 0) (by decide +kernel) (by decide +kernel) (hp36 _) (by decide) (Nat.le_of_ble_eq_true rfl) rfl (by decide +kernel) (pf_36_19 _ _) rfl ?_
          refine Ru.kI (q := (.iconst 0, 1)) (c := 0) (pc' := 68) (by decide +kernel) rfl (by decide) rfl ?_
          cases h
          exact Ru.iret (by decide +kernel) rfl (nar_b1 (by decide))
      · replace h := if_f b9 h
        refine Ru.br (k := .eq) (off := 15) (bb := false) (tg := 38) (by decide +kernel) (by decide +kernel) (cz (ci_eq0 g8 (by decide) b9)) rfl ?_
        refine Ru.op (q := (.aload_n 0, 1)) (S' := (39, _, _, _, _)) (by decide +kernel) rfl ?_
        refine Ru.op (q := (.dup, 1)) (S' := (40, _, _, _, _)) (by decide +kernel) rfl ?_
        refine Ru.getI (pc' := 43) (i := 279) (ci := 10) (k := 18) (nn := 0) (z := 0) (x := (o1.2.F 36 18)) (by decide +kernel) (by decide +kernel) (hp36 _) (by decide) rfl (eI_of _) rfl ?_
        refine Ru.kI (q := (.iconst 1, 1)) (c := 1) (pc' := 44) (by decide +kernel) rfl (by decide) rfl ?_
        refine Ru.ar2 (i := .iadd) (z := ((o1.2.F 36 18) + 1)) (pc' := 45) (by decide +kernel) rfl (ar_add _ _) rfl ?_
        refine Ru.putH (pc' := 48) (i := 279) (ci := 10) (k := 18) (nn := 0) (z := 0) (by decide +kernel) (by decide +kernel) (hp36 _) (by decide) (Nat.le_of_ble_eq_true rfl) rfl (by decide +kernel) (pf_36_18 _ _) rfl ?_
        refine Ru.kI (q := (.iconst 0, 1)) (c := 0) (pc' := 49) (by decide +kernel) rfl (by decide) rfl ?_
        cases h
        exact Ru.iret (by decide +kernel) rfl (nar_b1 (by decide))
set_option maxRecDepth 100000 in
set_option maxHeartbeats 4000000 in
theorem g98L151_ok {v2 : Int} {v3 : Int} {v4 : Int} : ∀ (n : Nat) (v5 : Int) (S : St) (d1 : Option Value) (_ : DD [d1]) (out : St), g98L151 v2 v3 v4 n v5 S = some out → ∀ r, (∀ (e1 e5 : Option Value), DD [e1, e5] → Ru none 18 379 98 (216, [some (.ref 36), e1, some (vI v2), some (vI v3), some (vI v4), e5], [], out.ns, Hp out) r) → Ru none 18 379 98 (151, [some (.ref 36), d1, some (vI v2), some (vI v3), some (vI v4), some (vI v5)], [], S.ns, Hp S) r := by
  intro n
  induction n with
  | zero => intro v5 S d1 hdd out h; cases h
  | succ n ih =>
    intro v5 S d1 hdd out h r hk
    unfold g98L151 at h
    refine Ru.op (q := (.iload 5, 2)) (S' := (153, _, _, _, _)) (by decide +kernel) rfl ?_
    refine Ru.op (q := (.aload_n 0, 1)) (S' := (154, _, _, _, _)) (by decide +kernel) rfl ?_
    refine Ru.getI (pc' := 157) (i := 246) (ci := 10) (k := 24) (nn := 0) (z := 0) (x := (S.F 36 24)) (by decide +kernel) (by decide +kernel) (hp36 _) (by decide) rfl (eI_of _) rfl ?_
    obtain ⟨g13, h⟩ := gd_some h
    by_cases b14 : v5 < (S.F 36 24)
    · replace h := if_t b14 h
      refine Ru.br2 (k := .ge) (off := 59) (bb := false) (tg := 160) (by decide +kernel) (by decide +kernel) (ci_ge0 g13 (inR_to _) b14) rfl ?_
      refine Ru.op (q := (.aload_n 0, 1)) (S' := (161, _, _, _, _)) (by decide +kernel) rfl ?_
      refine Ru.getR (pc' := 164) (i := 51) (ci := 10) (k := 25) (nn := 0) (z := 0) (v := .ref 48) (by decide +kernel) (by decide +kernel) (hp36 _) (by decide) rfl rfl ?_
      refine Ru.op (q := (.iload 5, 2)) (S' := (166, _, _, _, _)) (by decide +kernel) rfl ?_
      refine Ru.op (q := (.aload_n 0, 1)) (S' := (167, _, _, _, _)) (by decide +kernel) rfl ?_
      refine Ru.getR (pc' := 170) (i := 87) (ci := 10) (k := 47) (nn := 0) (z := 0) (v := .ref 60) (by decide +kernel) (by decide +kernel) (hp36 _) (by decide) rfl rfl ?_
      refine Ru.op (q := (.aload_n 0, 1)) (S' := (171, _, _, _, _)) (by decide +kernel) rfl ?_
      refine Ru.getR (pc' := 174) (i := 84) (ci := 10) (k := 45) (nn := 0) (z := 0) (v := .ref 59) (by decide +kernel) (by decide +kernel) (hp36 _) (by decide) rfl rfl ?_
      refine Ru.kI (q := (.bipush 8, 2)) (c := 8) (pc' := 176) (by decide +kernel) rfl (by decide) rfl ?_
      refine Ru.op (q := (.iload 4, 2)) (S' := (178, _, _, _, _)) (by decide +kernel) rfl ?_
      refine Ru.ar2 (i := .imul) (z := (8 * v4)) (pc' := 179) (by decide +kernel) rfl (ar_mul _ _) rfl ?_
      refine Ru.op (q := (.iload 5, 2)) (S' := (181, _, _, _, _)) (by decide +kernel) rfl ?_
      refine Ru.ar2 (i := .iadd) (z := ((8 * v4) + v5)) (pc' := 182) (by decide +kernel) rfl (ar_add _ _) rfl ?_
      obtain ⟨g15, h⟩ := gd_some h
      refine Ru.ildI (pc' := 183) (i := ((8 * v4) + v5)) (z := (S.A 59 ((8 * v4) + v5))) (by decide +kernel) (hp59 _) g15 (eI_of _) rfl ?_
      obtain ⟨g16, h⟩ := gd_some h
      refine Ru.ildI (pc' := 184) (i := (S.A 59 ((8 * v4) + v5))) (z := (S.A 60 (S.A 59 ((8 * v4) + v5)))) (by decide +kernel) (hp60 _) g16 (eI_of _) rfl ?_
      obtain ⟨g17, h⟩ := gd_some h
      refine Ru.istI (pc' := 185) (i := v5) (x := (S.A 60 (S.A 59 ((8 * v4) + v5)))) (by decide +kernel) (hp48 _) g17 (ps_48 _ _ _) rfl ?_
      refine Ru.op (q := (.aload_n 0, 1)) (S' := (186, _, _, _, _)) (by decide +kernel) rfl ?_
      refine Ru.getR (pc' := 189) (i := 54) (ci := 10) (k := 26) (nn := 0) (z := 0) (v := .ref 49) (by decide +kernel) (by decide +kernel) (hp36 _) (by decide) rfl rfl ?_
      refine Ru.op (q := (.iload 5, 2)) (S' := (191, _, _, _, _)) (by decide +kernel) rfl ?_
      refine Ru.op (q := (.aload_n 0, 1)) (S' := (192, _, _, _, _)) (by decide +kernel) rfl ?_
      refine Ru.getR (pc' := 195) (i := 90) (ci := 10) (k := 48) (nn := 0) (z := 0) (v := .ref 61) (by decide +kernel) (by decide +kernel) (hp36 _) (by decide) rfl rfl ?_
      refine Ru.op (q := (.aload_n 0, 1)) (S' := (196, _, _, _, _)) (by decide +kernel) rfl ?_
      refine Ru.getR (pc' := 199) (i := 84) (ci := 10) (k := 45) (nn := 0) (z := 0) (v := .ref 59) (by decide +kernel) (by decide +kernel) (hp36 _) (by decide) rfl rfl ?_
      refine Ru.kI (q := (.bipush 8, 2)) (c := 8) (pc' := 201) (by decide +kernel) rfl (by decide) rfl ?_
      refine Ru.op (q := (.iload 4, 2)) (S' := (203, _, _, _, _)) (by decide +kernel) rfl ?_
      refine Ru.ar2 (i := .imul) (z := (8 * v4)) (pc' := 204) (by decide +kernel) rfl (ar_mul _ _) rfl ?_
      refine Ru.op (q := (.iload 5, 2)) (S' := (206, _, _, _, _)) (by decide +kernel) rfl ?_
      refine Ru.ar2 (i := .iadd) (z := ((8 * v4) + v5)) (pc' := 207) (by decide +kernel) rfl (ar_add _ _) rfl ?_
      refine Ru.ildI (pc' := 208) (i := ((8 * v4) + v5)) (z := (S.A 59 ((8 * v4) + v5))) (by decide +kernel) (hp59 _) g15 (eI_of _) rfl ?_
      refine Ru.bldI (pc' := 209) (i := (S.A 59 ((8 * v4) + v5))) (z := (S.A 61 (S.A 59 ((8 * v4) + v5)))) (by decide +kernel) (hp61 _) g16 (eI_of _) rfl ?_
      obtain ⟨g18, h⟩ := gd_some h
      refine Ru.bstI (pc' := 210) (i := v5) (x := (S.A 61 (S.A 59 ((8 * v4) + v5)))) (by decide +kernel) (hp49 _) g17 g18 (ps_49 _ _ _) rfl ?_
      refine Ru.inc (k := 5) (n := 1) (x := v5) (z := (v5 + 1)) (xs' := [some (.ref 36), d1, some (vI v2), some (vI v3), some (vI v4), some (vI (v5 + 1))]) (pc' := 213) (by decide +kernel) rfl rfl rfl rfl ?_
      refine Ru.op (q := (.goto (-62), 3)) (S' := (151, _, _, _, _)) (by decide +kernel) rfl ?_
      exact ih _ _ _ ⟨hdd.1, trivial⟩ _ h r hk
    · replace h := if_f b14 h
      refine Ru.br2 (k := .ge) (off := 59) (bb := true) (tg := 216) (by decide +kernel) (by decide +kernel) (ci_ge1 g13 (inR_to _) b14) rfl ?_
      cases h
      exact hk _ _ ⟨hdd.1, rfl, trivial⟩
set_option maxRecDepth 100000 in
set_option maxHeartbeats 4000000 in
theorem g98L124_ok {v2 : Int} : ∀ (n : Nat) (v3 : Int) (v4 : Int) (S : St) (d1 d5 : Option Value) (_ : DD [d1, d5]) (out : Int × St), g98L124 v2 n v3 v4 S = some out → ∀ r, (∀ (e0 e1 e2 e4 e5 : Option Value), DD [e0, e1, e2, e4, e5] → Ru none 18 379 98 (242, [e0, e1, e2, some (vI out.1), e4, e5], [], out.2.ns, Hp out.2) r) → Ru none 18 379 98 (124, [some (.ref 36), d1, some (vI v2), some (vI v3), some (vI v4), d5], [], S.ns, Hp S) r := by
  intro n
  induction n with
  | zero => intro v3 v4 S d1 d5 hdd out h; cases h
  | succ n ih =>
    intro v3 v4 S d1 d5 hdd out h r hk
    unfold g98L124 at h
    refine Ru.op (q := (.iload 4, 2)) (S' := (126, _, _, _, _)) (by decide +kernel) rfl ?_
    refine Ru.op (q := (.iload_n 2, 1)) (S' := (127, _, _, _, _)) (by decide +kernel) rfl ?_
    obtain ⟨g8, h⟩ := gd_some h
    obtain ⟨g9, h⟩ := gd_some h
    by_cases b10 : v4 < v2
    · replace h := if_t b10 h
      refine Ru.br2 (k := .ge) (off := 115) (bb := false) (tg := 130) (by decide +kernel) (by decide +kernel) (ci_ge0 g8 g9 b10) rfl ?_
      refine Ru.op (q := (.aload_n 0, 1)) (S' := (131, _, _, _, _)) (by decide +kernel) rfl ?_
      refine Ru.getI (pc' := 134) (i := 288) (ci := 10) (k := 15) (nn := 0) (z := 0) (x := (S.F 36 15)) (by decide +kernel) (by decide +kernel) (hp36 _) (by decide) rfl (eI_of _) rfl ?_
      by_cases b11 : (S.F 36 15) = 0
      · replace h := if_t b11 h
        refine Ru.br (k := .ne) (off := 108) (bb := false) (tg := 137) (by decide +kernel) (by decide +kernel) (cz (ci_ne0 (inR_to _) (by decide) b11)) rfl ?_
        refine Ru.op (q := (.aload_n 0, 1)) (S' := (138, _, _, _, _)) (by decide +kernel) rfl ?_
        refine Ru.op (q := (.aload_n 0, 1)) (S' := (139, _, _, _, _)) (by decide +kernel) rfl ?_
        refine Ru.getR (pc' := 142) (i := 81) (ci := 10) (k := 44) (nn := 0) (z := 0) (v := .ref 58) (by decide +kernel) (by decide +kernel) (hp36 _) (by decide) rfl rfl ?_
        refine Ru.op (q := (.iload 4, 2)) (S' := (144, _, _, _, _)) (by decide +kernel) rfl ?_
        obtain ⟨g12, h⟩ := gd_some h
        refine Ru.ildI (pc' := 145) (i := v4) (z := (S.A 58 v4)) (by decide +kernel) (hp58 _) g12 (eI_of _) rfl ?_
        refine Ru.putH (pc' := 148) (i := 246) (ci := 10) (k := 24) (nn := 0) (z := 0) (by decide +kernel) (by decide +kernel) (hp36 _) (by decide) (Nat.le_of_ble_eq_true rfl) rfl (by decide +kernel) (pf_36_24 _ _) rfl ?_
        refine Ru.kI (q := (.iconst 0, 1)) (c := 0) (pc' := 149) (by decide +kernel) rfl (by decide) rfl ?_
        refine Ru.op (q := (.istore 5, 2)) (S' := (151, [some (.ref 36), d1, some (vI v2), some (vI v3), some (vI v4), some (vI 0)], [], _, _)) (by decide +kernel) rfl ?_
        obtain ⟨o19, e22, h⟩ := ob_some h
        refine g98L151_ok FU _ _ _ ⟨hdd.1, trivial⟩ _ e22 _ ?_
        intro d20 d21 hd23
        refine Ru.op (q := (.aload_n 0, 1)) (S' := (217, _, _, _, _)) (by decide +kernel) rfl ?_
        refine Ru.kI (q := (.iconst 0, 1)) (c := 0) (pc' := 218) (by decide +kernel) rfl (by decide) rfl ?_
        refine Ru.kI (q := (.iconst (-1), 1)) (c := (-1)) (pc' := 219) (by decide +kernel) rfl (by decide) rfl ?_
        refine Ru.kI (q := (.iconst (-1), 1)) (c := (-1)) (pc' := 220) (by decide +kernel) rfl (by decide) rfl ?_
        refine Ru.kI (q := (.iconst (-1), 1)) (c := (-1)) (pc' := 221) (by decide +kernel) rfl (by decide) rfl ?_
        refine Ru.kI (q := (.iconst (-1), 1)) (c := (-1)) (pc' := 222) (by decide +kernel) rfl (by decide) rfl ?_
        obtain ⟨o24, e25, h⟩ := ob_some h
        refine Ru.vcallI (pc' := 225) (st' := [vI o24.1]) (i := 301) (j2 := 118) (ci := 10) (k := 0) (z := 0) (as := [vI 0, vI (-1), vI (-1), vI (-1), vI (-1)]) (by decide +kernel) (by decide +kernel) rfl rfl (hp36 _) (by decide) ⟨(Nat.le_of_ble_eq_true rfl), (by show 19 + 6 ≤ 379; exact Nat.le_of_ble_eq_true rfl), Nat.le_of_ble_eq_true rfl, Nat.le_of_ble_eq_true rfl⟩ ((g118_ok e25).up (Nat.le_of_ble_eq_true rfl) (Nat.le_of_ble_eq_true rfl)) rfl rfl ?_
        obtain ⟨g26, h⟩ := gd_some h
        by_cases b27 : o24.1 = 0
        · replace h := if_t b27 h
          refine Ru.br (k := .eq) (off := 9) (bb := true) (tg := 234) (by decide +kernel) (by decide +kernel) (cz (ci_eq1 g26 (by decide) b27)) rfl ?_
          refine Ru.op (q := (.iload_n 3, 1)) (S' := (235, _, _, _, _)) (by decide +kernel) rfl ?_
          refine Ru.op (q := (.istore_n 3, 1)) (S' := (236, [some (.ref 36), d20, some (vI v2), some (vI v3), some (vI v4), d21], [], _, _)) (by decide +kernel) rfl ?_
          refine Ru.inc (k := 4) (n := 1) (x := v4) (z := (v4 + 1)) (xs' := [some (.ref 36), d20, some (vI v2), some (vI v3), some (vI (v4 + 1)), d21]) (pc' := 239) (by decide +kernel) rfl rfl rfl rfl ?_
          refine Ru.op (q := (.goto (-115), 3)) (S' := (124, _, _, _, _)) (by decide +kernel) rfl ?_
          exact ih _ _ _ _ _ ⟨hd23.1, hd23.2.1, trivial⟩ _ h r hk
        · replace h := if_f b27 h
          refine Ru.br (k := .eq) (off := 9) (bb := false) (tg := 228) (by decide +kernel) (by decide +kernel) (cz (ci_eq0 g26 (by decide) b27)) rfl ?_
          refine Ru.op (q := (.iload_n 3, 1)) (S' := (229, _, _, _, _)) (by decide +kernel) rfl ?_
          refine Ru.kI (q := (.iconst 1, 1)) (c := 1) (pc' := 230) (by decide +kernel) rfl (by decide) rfl ?_
          refine Ru.ar2 (i := .iadd) (z := (v3 + 1)) (pc' := 231) (by decide +kernel) rfl (ar_add _ _) rfl ?_
          refine Ru.op (q := (.goto 4, 3)) (S' := (235, _, _, _, _)) (by decide +kernel) rfl ?_
          refine Ru.op (q := (.istore_n 3, 1)) (S' := (236, [some (.ref 36), d20, some (vI v2), some (vI (v3 + 1)), some (vI v4), d21], [], _, _)) (by decide +kernel) rfl ?_
          refine Ru.inc (k := 4) (n := 1) (x := v4) (z := (v4 + 1)) (xs' := [some (.ref 36), d20, some (vI v2), some (vI (v3 + 1)), some (vI (v4 + 1)), d21]) (pc' := 239) (by decide +kernel) rfl rfl rfl rfl ?_
          refine Ru.op (q := (.goto (-115), 3)) (S' := (124, _, _, _, _)) (by decide +kernel) rfl ?_
          exact ih _ _ _ _ _ ⟨hd23.1, hd23.2.1, trivial⟩ _ h r hk
      · replace h := if_f b11 h
        refine Ru.br (k := .ne) (off := 108) (bb := true) (tg := 242) (by decide +kernel) (by decide +kernel) (cz (ci_ne1 (inR_to _) (by decide) b11)) rfl ?_
        cases h
        exact hk _ _ _ _ _ ⟨rfl, hdd.1, rfl, rfl, hdd.2.1, trivial⟩
    · replace h := if_f b10 h
      refine Ru.br2 (k := .ge) (off := 115) (bb := true) (tg := 242) (by decide +kernel) (by decide +kernel) (ci_ge1 g8 g9 b10) rfl ?_
      cases h
      exact hk _ _ _ _ _ ⟨rfl, hdd.1, rfl, rfl, hdd.2.1, trivial⟩
set_option maxRecDepth 100000 in
set_option maxHeartbeats 4000000 in
theorem g98_ok {S : St} {v1 : Int} {o : Int × St} (h : g98 S v1 = some o) : Ru none 18 379 98 (0, mn_pad (mn_ent [.ref 36, vI v1]) 6, [], S.ns, Hp S) ((0, some (vI o.1)), o.2.ns, Hp o.2) := by
  unfold g98 at h
  show Ru none 18 379 98 (0, [some (.ref 36), some (vI v1), none, none, none, none], [], S.ns, Hp S) _
  refine Ru.op (q := (.aload_n 0, 1)) (S' := (1, _, _, _, _)) (by decide +kernel) rfl ?_
  obtain ⟨o1, e2, h⟩ := ob_some h
  refine Ru.vcallI (pc' := 4) (st' := []) (i := 294) (j2 := 99) (ci := 10) (k := 0) (z := 0) (as := []) (by decide +kernel) (by decide +kernel) rfl rfl (hp36 _) (by decide) ⟨(Nat.le_of_ble_eq_true rfl), (by show 19 + 1 ≤ 379; exact Nat.le_of_ble_eq_true rfl), Nat.le_of_ble_eq_true rfl, Nat.le_of_ble_eq_true rfl⟩ ((g99_ok e2).up (Nat.le_of_ble_eq_true rfl) (Nat.le_of_ble_eq_true rfl)) rfl rfl ?_
  refine Ru.op (q := (.aload_n 0, 1)) (S' := (5, _, _, _, _)) (by decide +kernel) rfl ?_
  refine Ru.op (q := (.iload_n 1, 1)) (S' := (6, _, _, _, _)) (by decide +kernel) rfl ?_
  obtain ⟨o3, e4, h⟩ := ob_some h
  refine Ru.vcallI (pc' := 9) (st' := [vI o3.1]) (i := 297) (j2 := 101) (ci := 10) (k := 0) (z := 0) (as := [vI v1]) (by decide +kernel) (by decide +kernel) rfl rfl (hp36 _) (by decide) ⟨(Nat.le_of_ble_eq_true rfl), (by show 19 + 7 ≤ 379; exact Nat.le_of_ble_eq_true rfl), Nat.le_of_ble_eq_true rfl, Nat.le_of_ble_eq_true rfl⟩ ((g101_ok e4).up (Nat.le_of_ble_eq_true rfl) (Nat.le_of_ble_eq_true rfl)) rfl rfl ?_
  refine Ru.op (q := (.istore_n 2, 1)) (S' := (10, [some (.ref 36), some (vI v1), some (vI o3.1), none, none, none], [], _, _)) (by decide +kernel) rfl ?_
  refine Ru.op (q := (.aload_n 0, 1)) (S' := (11, _, _, _, _)) (by decide +kernel) rfl ?_
  refine Ru.op (q := (.aload_n 0, 1)) (S' := (12, _, _, _, _)) (by decide +kernel) rfl ?_
  refine Ru.getI (pc' := 15) (i := 151) (ci := 10) (k := 28) (nn := 0) (z := 0) (x := (o3.2.F 36 28)) (by decide +kernel) (by decide +kernel) (hp36 _) (by decide) rfl (eI_of _) rfl ?_
  by_cases b5 : (o3.2.F 36 28) = 0
  · replace h := if_t b5 h
    refine Ru.br (k := .ne) (off := 14) (bb := false) (tg := 18) (by decide +kernel) (by decide +kernel) (cz (ci_ne0 (inR_to _) (by decide) b5)) rfl ?_
    refine Ru.op (q := (.aload_n 0, 1)) (S' := (19, _, _, _, _)) (by decide +kernel) rfl ?_
    refine Ru.getI (pc' := 22) (i := 140) (ci := 10) (k := 27) (nn := 0) (z := 0) (x := (o3.2.F 36 27)) (by decide +kernel) (by decide +kernel) (hp36 _) (by decide) rfl (eI_of _) rfl ?_
    refine Ru.op (q := (.aload_n 0, 1)) (S' := (23, _, _, _, _)) (by decide +kernel) rfl ?_
    refine Ru.getI (pc' := 26) (i := 129) (ci := 10) (k := 2) (nn := 0) (z := 0) (x := (o3.2.F 36 2)) (by decide +kernel) (by decide +kernel) (hp36 _) (by decide) rfl (eI_of _) rfl ?_
    by_cases b6 : (o3.2.F 36 27) = (o3.2.F 36 2)
    · replace h := if_t b6 h
      refine Ru.br2 (k := .eq) (off := 7) (bb := true) (tg := 33) (by decide +kernel) (by decide +kernel) (ci_eq1 (inR_to _) (inR_to _) b6) rfl ?_
      refine Ru.kI (q := (.iconst 0, 1)) (c := 0) (pc' := 34) (by decide +kernel) rfl (by decide) rfl ?_
      refine Ru.putH (pc' := 37) (i := 151) (ci := 10) (k := 28) (nn := 0) (z := 0) (by decide +kernel) (by decide +kernel) (hp36 _) (by decide) (Nat.le_of_ble_eq_true rfl) (fk_b (by decide)) (by decide +kernel) (pf_36_28 _ _) rfl ?_
      refine Ru.op (q := (.aload_n 0, 1)) (S' := (38, _, _, _, _)) (by decide +kernel) rfl ?_
      refine Ru.op (q := (.aload_n 0, 1)) (S' := (39, _, _, _, _)) (by decide +kernel) rfl ?_
      refine Ru.getI (pc' := 42) (i := 151) (ci := 10) (k := 28) (nn := 0) (z := 0) (x := 0) (by decide +kernel) (by decide +kernel) (hp36 _) (by decide) rfl rfl rfl ?_
      refine Ru.br (k := .eq) (off := 7) (bb := true) (tg := 49) (by decide +kernel) (by decide +kernel) (by decide) rfl ?_
      refine Ru.op (q := (.aload_n 0, 1)) (S' := (50, _, _, _, _)) (by decide +kernel) rfl ?_
      refine Ru.getI (pc' := 53) (i := 192) (ci := 10) (k := 36) (nn := 0) (z := 0) (x := (o3.2.F 36 36)) (by decide +kernel) (by decide +kernel) (hp36 _) (by decide) rfl (eI_of _) rfl ?_
      by_cases b7 : (o3.2.F 36 36) = 0
      · replace h := if_t b7 h
        refine Ru.br (k := .eq) (off := 7) (bb := true) (tg := 60) (by decide +kernel) (by decide +kernel) (cz (ci_eq1 (inR_to _) (by decide) b7)) rfl ?_
        refine Ru.kI (q := (.iconst 0, 1)) (c := 0) (pc' := 61) (by decide +kernel) rfl (by decide) rfl ?_
        refine Ru.putH (pc' := 64) (i := 120) (ci := 10) (k := 0) (nn := 0) (z := 0) (by decide +kernel) (by decide +kernel) (hp36 _) (by decide) (Nat.le_of_ble_eq_true rfl) rfl (by decide +kernel) (pf_36_0 _ _) rfl ?_
        refine Ru.op (q := (.aload_n 0, 1)) (S' := (65, _, _, _, _)) (by decide +kernel) rfl ?_
        refine Ru.op (q := (.aload_n 0, 1)) (S' := (66, _, _, _, _)) (by decide +kernel) rfl ?_
        refine Ru.getI (pc' := 69) (i := 151) (ci := 10) (k := 28) (nn := 0) (z := 0) (x := 0) (by decide +kernel) (by decide +kernel) (hp36 _) (by decide) rfl rfl rfl ?_
        refine Ru.br (k := .eq) (off := 10) (bb := true) (tg := 79) (by decide +kernel) (by decide +kernel) (by decide) rfl ?_
        refine Ru.op (q := (.aload_n 0, 1)) (S' := (80, _, _, _, _)) (by decide +kernel) rfl ?_
        refine Ru.getI (pc' := 83) (i := 192) (ci := 10) (k := 36) (nn := 0) (z := 0) (x := (o3.2.F 36 36)) (by decide +kernel) (by decide +kernel) (hp36 _) (by decide) rfl (eI_of _) rfl ?_
        refine Ru.br (k := .eq) (off := 10) (bb := true) (tg := 93) (by decide +kernel) (by decide +kernel) (cz (ci_eq1 (inR_to _) (by decide) b7)) rfl ?_
        refine Ru.kI (q := (.iconst (-1), 1)) (c := (-1)) (pc' := 94) (by decide +kernel) rfl (by decide) rfl ?_
        refine Ru.putH (pc' := 97) (i := 9) (ci := 10) (k := 1) (nn := 0) (z := 0) (by decide +kernel) (by decide +kernel) (hp36 _) (by decide) (Nat.le_of_ble_eq_true rfl) rfl (by decide +kernel) (pf_36_1 _ _) rfl ?_
        refine Ru.op (q := (.aload_n 0, 1)) (S' := (98, _, _, _, _)) (by decide +kernel) rfl ?_
        refine Ru.getI (pc' := 101) (i := 120) (ci := 10) (k := 0) (nn := 0) (z := 0) (x := 0) (by decide +kernel) (by decide +kernel) (hp36 _) (by decide) rfl rfl rfl ?_
        refine Ru.br (k := .le) (off := 5) (bb := true) (tg := 106) (by decide +kernel) (by decide +kernel) (by decide) rfl ?_
        refine Ru.op (q := (.aload_n 0, 1)) (S' := (107, _, _, _, _)) (by decide +kernel) rfl ?_
        refine Ru.op (q := (.aload_n 0, 1)) (S' := (108, _, _, _, _)) (by decide +kernel) rfl ?_
        refine Ru.getI (pc' := 111) (i := 198) (ci := 10) (k := 35) (nn := 0) (z := 0) (x := (o3.2.F 36 35)) (by decide +kernel) (by decide +kernel) (hp36 _) (by decide) rfl (eI_of _) rfl ?_
        refine Ru.putH (pc' := 114) (i := 195) (ci := 10) (k := 20) (nn := 0) (z := 0) (by decide +kernel) (by decide +kernel) (hp36 _) (by decide) (Nat.le_of_ble_eq_true rfl) rfl (by decide +kernel) (pf_36_20 _ _) rfl ?_
        refine Ru.op (q := (.aload_n 0, 1)) (S' := (115, _, _, _, _)) (by decide +kernel) rfl ?_
        refine Ru.kI (q := (.iconst 0, 1)) (c := 0) (pc' := 116) (by decide +kernel) rfl (by decide) rfl ?_
        refine Ru.putH (pc' := 119) (i := 129) (ci := 10) (k := 2) (nn := 0) (z := 0) (by decide +kernel) (by decide +kernel) (hp36 _) (by decide) (Nat.le_of_ble_eq_true rfl) rfl (by decide +kernel) (pf_36_2 _ _) rfl ?_
        refine Ru.kI (q := (.iconst 0, 1)) (c := 0) (pc' := 120) (by decide +kernel) rfl (by decide) rfl ?_
        refine Ru.op (q := (.istore_n 3, 1)) (S' := (121, [some (.ref 36), some (vI v1), some (vI o3.1), some (vI 0), none, none], [], _, _)) (by decide +kernel) rfl ?_
        refine Ru.kI (q := (.iconst 0, 1)) (c := 0) (pc' := 122) (by decide +kernel) rfl (by decide) rfl ?_
        refine Ru.op (q := (.istore 4, 2)) (S' := (124, [some (.ref 36), some (vI v1), some (vI o3.1), some (vI 0), some (vI 0), none], [], _, _)) (by decide +kernel) rfl ?_
        obtain ⟨o28, e34, h⟩ := ob_some h
        refine g98L124_ok FU _ _ _ _ _ ⟨rfl, rfl, trivial⟩ _ e34 _ ?_
        intro d29 d30 d31 d32 d33 hd35
        refine Ru.op (q := (.iload_n 3, 1)) (S' := (243, _, _, _, _)) (by decide +kernel) rfl ?_
        cases h
        exact Ru.iret (by decide +kernel) rfl rfl
      · replace h := if_f b7 h
        refine Ru.br (k := .eq) (off := 7) (bb := false) (tg := 56) (by decide +kernel) (by decide +kernel) (cz (ci_eq0 (inR_to _) (by decide) b7)) rfl ?_
        refine Ru.kI (q := (.iconst 2, 1)) (c := 2) (pc' := 57) (by decide +kernel) rfl (by decide) rfl ?_
        refine Ru.op (q := (.goto 4, 3)) (S' := (61, _, _, _, _)) (by decide +kernel) rfl ?_
        refine Ru.putH (pc' := 64) (i := 120) (ci := 10) (k := 0) (nn := 0) (z := 0) (by decide +kernel) (by decide +kernel) (hp36 _) (by decide) (Nat.le_of_ble_eq_true rfl) rfl (by decide +kernel) (pf_36_0 _ _) rfl ?_
        refine Ru.op (q := (.aload_n 0, 1)) (S' := (65, _, _, _, _)) (by decide +kernel) rfl ?_
        refine Ru.op (q := (.aload_n 0, 1)) (S' := (66, _, _, _, _)) (by decide +kernel) rfl ?_
        refine Ru.getI (pc' := 69) (i := 151) (ci := 10) (k := 28) (nn := 0) (z := 0) (x := 0) (by decide +kernel) (by decide +kernel) (hp36 _) (by decide) rfl rfl rfl ?_
        refine Ru.br (k := .eq) (off := 10) (bb := true) (tg := 79) (by decide +kernel) (by decide +kernel) (by decide) rfl ?_
        refine Ru.op (q := (.aload_n 0, 1)) (S' := (80, _, _, _, _)) (by decide +kernel) rfl ?_
        refine Ru.getI (pc' := 83) (i := 192) (ci := 10) (k := 36) (nn := 0) (z := 0) (x := (o3.2.F 36 36)) (by decide +kernel) (by decide +kernel) (hp36 _) (by decide) rfl (eI_of _) rfl ?_
        refine Ru.br (k := .eq) (off := 10) (bb := false) (tg := 86) (by decide +kernel) (by decide +kernel) (cz (ci_eq0 (inR_to _) (by decide) b7)) rfl ?_
        refine Ru.op (q := (.aload_n 0, 1)) (S' := (87, _, _, _, _)) (by decide +kernel) rfl ?_
        refine Ru.getI (pc' := 90) (i := 9) (ci := 10) (k := 1) (nn := 0) (z := 0) (x := (o3.2.F 36 1)) (by decide +kernel) (by decide +kernel) (hp36 _) (by decide) rfl (eI_of _) rfl ?_
        refine Ru.op (q := (.goto 4, 3)) (S' := (94, _, _, _, _)) (by decide +kernel) rfl ?_
        refine Ru.putH (pc' := 97) (i := 9) (ci := 10) (k := 1) (nn := 0) (z := 0) (by decide +kernel) (by decide +kernel) (hp36 _) (by decide) (Nat.le_of_ble_eq_true rfl) rfl (by decide +kernel) (pf_36_1 _ _) rfl ?_
        refine Ru.op (q := (.aload_n 0, 1)) (S' := (98, _, _, _, _)) (by decide +kernel) rfl ?_
        refine Ru.getI (pc' := 101) (i := 120) (ci := 10) (k := 0) (nn := 0) (z := 0) (x := 2) (by decide +kernel) (by decide +kernel) (hp36 _) (by decide) rfl rfl rfl ?_
        refine Ru.br (k := .le) (off := 5) (bb := false) (tg := 104) (by decide +kernel) (by decide +kernel) (by decide) rfl ?_
        refine Ru.kI (q := (.iconst 0, 1)) (c := 0) (pc' := 105) (by decide +kernel) rfl (by decide) rfl ?_
        cases h
        exact Ru.iret (by decide +kernel) rfl rfl
    · replace h := if_f b6 h
      refine Ru.br2 (k := .eq) (off := 7) (bb := false) (tg := 29) (by decide +kernel) (by decide +kernel) (ci_eq0 (inR_to _) (inR_to _) b6) rfl ?_
      refine Ru.kI (q := (.iconst 1, 1)) (c := 1) (pc' := 30) (by decide +kernel) rfl (by decide) rfl ?_
      refine Ru.op (q := (.goto 4, 3)) (S' := (34, _, _, _, _)) (by decide +kernel) rfl ?_
      refine Ru.putH (pc' := 37) (i := 151) (ci := 10) (k := 28) (nn := 0) (z := 0) (by decide +kernel) (by decide +kernel) (hp36 _) (by decide) (Nat.le_of_ble_eq_true rfl) (fk_b (by decide)) (by decide +kernel) (pf_36_28 _ _) rfl ?_
      refine Ru.op (q := (.aload_n 0, 1)) (S' := (38, _, _, _, _)) (by decide +kernel) rfl ?_
      refine Ru.op (q := (.aload_n 0, 1)) (S' := (39, _, _, _, _)) (by decide +kernel) rfl ?_
      refine Ru.getI (pc' := 42) (i := 151) (ci := 10) (k := 28) (nn := 0) (z := 0) (x := 1) (by decide +kernel) (by decide +kernel) (hp36 _) (by decide) rfl rfl rfl ?_
      refine Ru.br (k := .eq) (off := 7) (bb := false) (tg := 45) (by decide +kernel) (by decide +kernel) (by decide) rfl ?_
      refine Ru.kI (q := (.iconst 1, 1)) (c := 1) (pc' := 46) (by decide +kernel) rfl (by decide) rfl ?_
      refine Ru.op (q := (.goto 15, 3)) (S' := (61, _, _, _, _)) (by decide +kernel) rfl ?_
      refine Ru.putH (pc' := 64) (i := 120) (ci := 10) (k := 0) (nn := 0) (z := 0) (by decide +kernel) (by decide +kernel) (hp36 _) (by decide) (Nat.le_of_ble_eq_true rfl) rfl (by decide +kernel) (pf_36_0 _ _) rfl ?_
      refine Ru.op (q := (.aload_n 0, 1)) (S' := (65, _, _, _, _)) (by decide +kernel) rfl ?_
      refine Ru.op (q := (.aload_n 0, 1)) (S' := (66, _, _, _, _)) (by decide +kernel) rfl ?_
      refine Ru.getI (pc' := 69) (i := 151) (ci := 10) (k := 28) (nn := 0) (z := 0) (x := 1) (by decide +kernel) (by decide +kernel) (hp36 _) (by decide) rfl rfl rfl ?_
      refine Ru.br (k := .eq) (off := 10) (bb := false) (tg := 72) (by decide +kernel) (by decide +kernel) (by decide) rfl ?_
      refine Ru.op (q := (.aload_n 0, 1)) (S' := (73, _, _, _, _)) (by decide +kernel) rfl ?_
      refine Ru.getI (pc' := 76) (i := 140) (ci := 10) (k := 27) (nn := 0) (z := 0) (x := (o3.2.F 36 27)) (by decide +kernel) (by decide +kernel) (hp36 _) (by decide) rfl (eI_of _) rfl ?_
      refine Ru.op (q := (.goto 18, 3)) (S' := (94, _, _, _, _)) (by decide +kernel) rfl ?_
      refine Ru.putH (pc' := 97) (i := 9) (ci := 10) (k := 1) (nn := 0) (z := 0) (by decide +kernel) (by decide +kernel) (hp36 _) (by decide) (Nat.le_of_ble_eq_true rfl) rfl (by decide +kernel) (pf_36_1 _ _) rfl ?_
      refine Ru.op (q := (.aload_n 0, 1)) (S' := (98, _, _, _, _)) (by decide +kernel) rfl ?_
      refine Ru.getI (pc' := 101) (i := 120) (ci := 10) (k := 0) (nn := 0) (z := 0) (x := 1) (by decide +kernel) (by decide +kernel) (hp36 _) (by decide) rfl rfl rfl ?_
      refine Ru.br (k := .le) (off := 5) (bb := false) (tg := 104) (by decide +kernel) (by decide +kernel) (by decide) rfl ?_
      refine Ru.kI (q := (.iconst 0, 1)) (c := 0) (pc' := 105) (by decide +kernel) rfl (by decide) rfl ?_
      cases h
      exact Ru.iret (by decide +kernel) rfl rfl
  · replace h := if_f b5 h
    refine Ru.br (k := .ne) (off := 14) (bb := true) (tg := 29) (by decide +kernel) (by decide +kernel) (cz (ci_ne1 (inR_to _) (by decide) b5)) rfl ?_
    refine Ru.kI (q := (.iconst 1, 1)) (c := 1) (pc' := 30) (by decide +kernel) rfl (by decide) rfl ?_
    refine Ru.op (q := (.goto 4, 3)) (S' := (34, _, _, _, _)) (by decide +kernel) rfl ?_
    refine Ru.putH (pc' := 37) (i := 151) (ci := 10) (k := 28) (nn := 0) (z := 0) (by decide +kernel) (by decide +kernel) (hp36 _) (by decide) (Nat.le_of_ble_eq_true rfl) (fk_b (by decide)) (by decide +kernel) (pf_36_28 _ _) rfl ?_
    refine Ru.op (q := (.aload_n 0, 1)) (S' := (38, _, _, _, _)) (by decide +kernel) rfl ?_
    refine Ru.op (q := (.aload_n 0, 1)) (S' := (39, _, _, _, _)) (by decide +kernel) rfl ?_
    refine Ru.getI (pc' := 42) (i := 151) (ci := 10) (k := 28) (nn := 0) (z := 0) (x := 1) (by decide +kernel) (by decide +kernel) (hp36 _) (by decide) rfl rfl rfl ?_
    refine Ru.br (k := .eq) (off := 7) (bb := false) (tg := 45) (by decide +kernel) (by decide +kernel) (by decide) rfl ?_
    refine Ru.kI (q := (.iconst 1, 1)) (c := 1) (pc' := 46) (by decide +kernel) rfl (by decide) rfl ?_
    refine Ru.op (q := (.goto 15, 3)) (S' := (61, _, _, _, _)) (by decide +kernel) rfl ?_
    refine Ru.putH (pc' := 64) (i := 120) (ci := 10) (k := 0) (nn := 0) (z := 0) (by decide +kernel) (by decide +kernel) (hp36 _) (by decide) (Nat.le_of_ble_eq_true rfl) rfl (by decide +kernel) (pf_36_0 _ _) rfl ?_
    refine Ru.op (q := (.aload_n 0, 1)) (S' := (65, _, _, _, _)) (by decide +kernel) rfl ?_
    refine Ru.op (q := (.aload_n 0, 1)) (S' := (66, _, _, _, _)) (by decide +kernel) rfl ?_
    refine Ru.getI (pc' := 69) (i := 151) (ci := 10) (k := 28) (nn := 0) (z := 0) (x := 1) (by decide +kernel) (by decide +kernel) (hp36 _) (by decide) rfl rfl rfl ?_
    refine Ru.br (k := .eq) (off := 10) (bb := false) (tg := 72) (by decide +kernel) (by decide +kernel) (by decide) rfl ?_
    refine Ru.op (q := (.aload_n 0, 1)) (S' := (73, _, _, _, _)) (by decide +kernel) rfl ?_
    refine Ru.getI (pc' := 76) (i := 140) (ci := 10) (k := 27) (nn := 0) (z := 0) (x := (o3.2.F 36 27)) (by decide +kernel) (by decide +kernel) (hp36 _) (by decide) rfl (eI_of _) rfl ?_
    refine Ru.op (q := (.goto 18, 3)) (S' := (94, _, _, _, _)) (by decide +kernel) rfl ?_
    refine Ru.putH (pc' := 97) (i := 9) (ci := 10) (k := 1) (nn := 0) (z := 0) (by decide +kernel) (by decide +kernel) (hp36 _) (by decide) (Nat.le_of_ble_eq_true rfl) rfl (by decide +kernel) (pf_36_1 _ _) rfl ?_
    refine Ru.op (q := (.aload_n 0, 1)) (S' := (98, _, _, _, _)) (by decide +kernel) rfl ?_
    refine Ru.getI (pc' := 101) (i := 120) (ci := 10) (k := 0) (nn := 0) (z := 0) (x := 1) (by decide +kernel) (by decide +kernel) (hp36 _) (by decide) rfl rfl rfl ?_
    refine Ru.br (k := .le) (off := 5) (bb := false) (tg := 104) (by decide +kernel) (by decide +kernel) (by decide) rfl ?_
    refine Ru.kI (q := (.iconst 0, 1)) (c := 0) (pc' := 105) (by decide +kernel) rfl (by decide) rfl ?_
    cases h
    exact Ru.iret (by decide +kernel) rfl rfl
set_option maxRecDepth 100000 in
set_option maxHeartbeats 4000000 in
theorem g135L4_ok {S : St} {v1 : Int} : ∀ (n : Nat) (v2 : Int) (v3 : Int) (_ : DD []) (out : Int), g135L4 S v1 n v2 v3 = some out → ∀ r, (∀ (e0 e1 e3 : Option Value), DD [e0, e1, e3] → Ru none 10 200 135 (36, [e0, e1, some (vI out), e3], [], S.ns, Hp S) r) → Ru none 10 200 135 (4, [some (.ref 36), some (vI v1), some (vI v2), some (vI v3)], [], S.ns, Hp S) r := by
  intro n
  induction n with
  | zero => intro v2 v3 hdd out h; cases h
  | succ n ih =>
    intro v2 v3 hdd out h r hk
    unfold g135L4 at h
    refine Ru.op (q := (.iload_n 3, 1)) (S' := (5, _, _, _, _)) (by decide +kernel) rfl ?_
    refine Ru.op (q := (.aload_n 0, 1)) (S' := (6, _, _, _, _)) (by decide +kernel) rfl ?_
    refine Ru.getI (pc' := 9) (i := 263) (ci := 10) (k := 9) (nn := 0) (z := 0) (x := (S.F 36 9)) (by decide +kernel) (by decide +kernel) (hp36 _) (by decide) rfl (eI_of _) rfl ?_
    obtain ⟨g1, h⟩ := gd_some h
    by_cases b2 : v3 < (S.F 36 9)
    · replace h := if_t b2 h
      refine Ru.br2 (k := .ge) (off := 27) (bb := false) (tg := 12) (by decide +kernel) (by decide +kernel) (ci_ge0 g1 (inR_to _) b2) rfl ?_
      refine Ru.op (q := (.aload_n 0, 1)) (S' := (13, _, _, _, _)) (by decide +kernel) rfl ?_
      refine Ru.getR (pc' := 16) (i := 33) (ci := 10) (k := 11) (nn := 0) (z := 0) (v := .ref 43) (by decide +kernel) (by decide +kernel) (hp36 _) (by decide) rfl rfl ?_
      refine Ru.op (q := (.iload_n 3, 1)) (S' := (17, _, _, _, _)) (by decide +kernel) rfl ?_
      obtain ⟨g3, h⟩ := gd_some h
      refine Ru.ildI (pc' := 18) (i := v3) (z := (S.A 43 v3)) (by decide +kernel) (hp43 _) g3 (eI_of _) rfl ?_
      refine Ru.op (q := (.iload_n 1, 1)) (S' := (19, _, _, _, _)) (by decide +kernel) rfl ?_
      obtain ⟨g4, h⟩ := gd_some h
      by_cases b5 : (S.A 43 v3) = v1
      · replace h := if_t b5 h
        refine Ru.br2 (k := .ne) (off := 9) (bb := false) (tg := 22) (by decide +kernel) (by decide +kernel) (ci_ne0 (inR_to _) g4 b5) rfl ?_
        refine Ru.op (q := (.iload_n 2, 1)) (S' := (23, _, _, _, _)) (by decide +kernel) rfl ?_
        refine Ru.kI (q := (.iconst 1, 1)) (c := 1) (pc' := 24) (by decide +kernel) rfl (by decide) rfl ?_
        refine Ru.ar2 (i := .iadd) (z := (v2 + 1)) (pc' := 25) (by decide +kernel) rfl (ar_add _ _) rfl ?_
        refine Ru.op (q := (.goto 4, 3)) (S' := (29, _, _, _, _)) (by decide +kernel) rfl ?_
        refine Ru.op (q := (.istore_n 2, 1)) (S' := (30, [some (.ref 36), some (vI v1), some (vI (v2 + 1)), some (vI v3)], [], _, _)) (by decide +kernel) rfl ?_
        refine Ru.inc (k := 3) (n := 1) (x := v3) (z := (v3 + 1)) (xs' := [some (.ref 36), some (vI v1), some (vI (v2 + 1)), some (vI (v3 + 1))]) (pc' := 33) (by decide +kernel) rfl rfl rfl rfl ?_
        refine Ru.op (q := (.goto (-29), 3)) (S' := (4, _, _, _, _)) (by decide +kernel) rfl ?_
        exact ih _ _ trivial _ h r hk
      · replace h := if_f b5 h
        refine Ru.br2 (k := .ne) (off := 9) (bb := true) (tg := 28) (by decide +kernel) (by decide +kernel) (ci_ne1 (inR_to _) g4 b5) rfl ?_
        refine Ru.op (q := (.iload_n 2, 1)) (S' := (29, _, _, _, _)) (by decide +kernel) rfl ?_
        refine Ru.op (q := (.istore_n 2, 1)) (S' := (30, [some (.ref 36), some (vI v1), some (vI v2), some (vI v3)], [], _, _)) (by decide +kernel) rfl ?_
        refine Ru.inc (k := 3) (n := 1) (x := v3) (z := (v3 + 1)) (xs' := [some (.ref 36), some (vI v1), some (vI v2), some (vI (v3 + 1))]) (pc' := 33) (by decide +kernel) rfl rfl rfl rfl ?_
        refine Ru.op (q := (.goto (-29), 3)) (S' := (4, _, _, _, _)) (by decide +kernel) rfl ?_
        exact ih _ _ trivial _ h r hk
    · replace h := if_f b2 h
      refine Ru.br2 (k := .ge) (off := 27) (bb := true) (tg := 36) (by decide +kernel) (by decide +kernel) (ci_ge1 g1 (inR_to _) b2) rfl ?_
      cases h
      exact hk _ _ _ ⟨rfl, rfl, rfl, trivial⟩
set_option maxRecDepth 100000 in
set_option maxHeartbeats 4000000 in
theorem g135_ok {S : St} {v1 : Int} {o : Int} (h : g135 S v1 = some o) : Ru none 10 200 135 (0, mn_pad (mn_ent [.ref 36, vI v1]) 4, [], S.ns, Hp S) ((0, some (vI o)), S.ns, Hp S) := by
  unfold g135 at h
  show Ru none 10 200 135 (0, [some (.ref 36), some (vI v1), none, none], [], S.ns, Hp S) _
  refine Ru.kI (q := (.iconst 0, 1)) (c := 0) (pc' := 1) (by decide +kernel) rfl (by decide) rfl ?_
  refine Ru.op (q := (.istore_n 2, 1)) (S' := (2, [some (.ref 36), some (vI v1), some (vI 0), none], [], _, _)) (by decide +kernel) rfl ?_
  refine Ru.kI (q := (.iconst 0, 1)) (c := 0) (pc' := 3) (by decide +kernel) rfl (by decide) rfl ?_
  refine Ru.op (q := (.istore_n 3, 1)) (S' := (4, [some (.ref 36), some (vI v1), some (vI 0), some (vI 0)], [], _, _)) (by decide +kernel) rfl ?_
  obtain ⟨o6, e10, h⟩ := ob_some h
  refine g135L4_ok FU _ _ trivial _ e10 _ ?_
  intro d7 d8 d9 hd11
  refine Ru.op (q := (.iload_n 2, 1)) (S' := (37, _, _, _, _)) (by decide +kernel) rfl ?_
  cases h
  exact Ru.iret (by decide +kernel) rfl rfl
set_option maxRecDepth 100000 in
set_option maxHeartbeats 4000000 in
theorem g134_ok {S : St} {o : Int} (h : g134 S  = some o) : Ru none 11 223 134 (0, mn_pad (mn_ent [.ref 36]) 1, [], S.ns, Hp S) ((0, some (vI o)), S.ns, Hp S) := by
  unfold g134 at h
  show Ru none 11 223 134 (0, [some (.ref 36)], [], S.ns, Hp S) _
  refine Ru.op (q := (.aload_n 0, 1)) (S' := (1, _, _, _, _)) (by decide +kernel) rfl ?_
  refine Ru.getI (pc' := 4) (i := 42) (ci := 10) (k := 14) (nn := 0) (z := 0) (x := (S.F 36 14)) (by decide +kernel) (by decide +kernel) (hp36 _) (by decide) rfl (eI_of _) rfl ?_
  by_cases b1 : (S.F 36 14) < 0
  · replace h := if_t b1 h
    refine Ru.br (k := .lt) (off := 5) (bb := true) (tg := 9) (by decide +kernel) (by decide +kernel) (cz (ci_lt1 (inR_to _) (by decide) b1)) rfl ?_
    refine Ru.op (q := (.aload_n 0, 1)) (S' := (10, _, _, _, _)) (by decide +kernel) rfl ?_
    refine Ru.getI (pc' := 13) (i := 288) (ci := 10) (k := 15) (nn := 0) (z := 0) (x := (S.F 36 15)) (by decide +kernel) (by decide +kernel) (hp36 _) (by decide) rfl (eI_of _) rfl ?_
    by_cases b2 : (S.F 36 15) = 0
    · replace h := if_t b2 h
      refine Ru.br (k := .eq) (off := 7) (bb := true) (tg := 20) (by decide +kernel) (by decide +kernel) (cz (ci_eq1 (inR_to _) (by decide) b2)) rfl ?_
      refine Ru.op (q := (.aload_n 0, 1)) (S' := (21, _, _, _, _)) (by decide +kernel) rfl ?_
      refine Ru.kI (q := (.iconst 0, 1)) (c := 0) (pc' := 22) (by decide +kernel) rfl (by decide) rfl ?_
      obtain ⟨o3, e4, h⟩ := ob_some h
      refine Ru.vcallI (pc' := 25) (st' := [vI o3]) (i := 305) (j2 := 135) (ci := 10) (k := 0) (z := 0) (as := [vI 0]) (by decide +kernel) (by decide +kernel) rfl rfl (hp36 _) (by decide) ⟨(Nat.le_of_ble_eq_true rfl), (by show 19 + 4 ≤ 223; exact Nat.le_of_ble_eq_true rfl), Nat.le_of_ble_eq_true rfl, Nat.le_of_ble_eq_true rfl⟩ ((g135_ok e4).up (Nat.le_of_ble_eq_true rfl) (Nat.le_of_ble_eq_true rfl)) rfl rfl ?_
      obtain ⟨g5, h⟩ := gd_some h
      by_cases b6 : 0 < o3
      · replace h := if_t b6 h
        refine Ru.br (k := .le) (off := 7) (bb := false) (tg := 28) (by decide +kernel) (by decide +kernel) (cz (ci_le0 g5 (by decide) b6)) rfl ?_
        refine Ru.kI (q := (.iconst 0, 1)) (c := 0) (pc' := 29) (by decide +kernel) rfl (by decide) rfl ?_
        refine Ru.op (q := (.goto 15, 3)) (S' := (44, _, _, _, _)) (by decide +kernel) rfl ?_
        cases h
        exact Ru.iret (by decide +kernel) rfl rfl
      · replace h := if_f b6 h
        refine Ru.br (k := .le) (off := 7) (bb := true) (tg := 32) (by decide +kernel) (by decide +kernel) (cz (ci_le1 g5 (by decide) b6)) rfl ?_
        refine Ru.op (q := (.aload_n 0, 1)) (S' := (33, _, _, _, _)) (by decide +kernel) rfl ?_
        refine Ru.getI (pc' := 36) (i := 273) (ci := 10) (k := 17) (nn := 0) (z := 0) (x := (S.F 36 17)) (by decide +kernel) (by decide +kernel) (hp36 _) (by decide) rfl (eI_of _) rfl ?_
        by_cases b7 : (S.F 36 17) = 0
        · replace h := if_t b7 h
          refine Ru.br (k := .ne) (off := 7) (bb := false) (tg := 39) (by decide +kernel) (by decide +kernel) (cz (ci_ne0 (inR_to _) (by decide) b7)) rfl ?_
          refine Ru.kI (q := (.iconst 3, 1)) (c := 3) (pc' := 40) (by decide +kernel) rfl (by decide) rfl ?_
          refine Ru.op (q := (.goto 4, 3)) (S' := (44, _, _, _, _)) (by decide +kernel) rfl ?_
          cases h
          exact Ru.iret (by decide +kernel) rfl rfl
        · replace h := if_f b7 h
          refine Ru.br (k := .ne) (off := 7) (bb := true) (tg := 43) (by decide +kernel) (by decide +kernel) (cz (ci_ne1 (inR_to _) (by decide) b7)) rfl ?_
          refine Ru.kI (q := (.iconst 4, 1)) (c := 4) (pc' := 44) (by decide +kernel) rfl (by decide) rfl ?_
          cases h
          exact Ru.iret (by decide +kernel) rfl rfl
    · replace h := if_f b2 h
      refine Ru.br (k := .eq) (off := 7) (bb := false) (tg := 16) (by decide +kernel) (by decide +kernel) (cz (ci_eq0 (inR_to _) (by decide) b2)) rfl ?_
      refine Ru.kI (q := (.iconst 2, 1)) (c := 2) (pc' := 17) (by decide +kernel) rfl (by decide) rfl ?_
      refine Ru.op (q := (.goto 27, 3)) (S' := (44, _, _, _, _)) (by decide +kernel) rfl ?_
      cases h
      exact Ru.iret (by decide +kernel) rfl rfl
  · replace h := if_f b1 h
    refine Ru.br (k := .lt) (off := 5) (bb := false) (tg := 7) (by decide +kernel) (by decide +kernel) (cz (ci_lt0 (inR_to _) (by decide) b1)) rfl ?_
    refine Ru.kI (q := (.iconst 1, 1)) (c := 1) (pc' := 8) (by decide +kernel) rfl (by decide) rfl ?_
    cases h
    exact Ru.iret (by decide +kernel) rfl rfl
set_option maxRecDepth 100000 in
set_option maxHeartbeats 4000000 in
theorem g133_ok {S : St} {o : Int × St} (h : g133 S  = some o) : Ru none 12 243 133 (0, mn_pad (mn_ent [.ref 36]) 1, [], S.ns, Hp S) ((0, some (vI o.1)), o.2.ns, Hp o.2) := by
  unfold g133 at h
  show Ru none 12 243 133 (0, [some (.ref 36)], [], S.ns, Hp S) _
  refine Ru.op (q := (.aload_n 0, 1)) (S' := (1, _, _, _, _)) (by decide +kernel) rfl ?_
  refine Ru.kI (q := (.iconst 0, 1)) (c := 0) (pc' := 2) (by decide +kernel) rfl (by decide) rfl ?_
  refine Ru.putH (pc' := 5) (i := 120) (ci := 10) (k := 0) (nn := 0) (z := 0) (by decide +kernel) (by decide +kernel) (hp36 _) (by decide) (Nat.le_of_ble_eq_true rfl) rfl (by decide +kernel) (pf_36_0 _ _) rfl ?_
  refine Ru.op (q := (.aload_n 0, 1)) (S' := (6, _, _, _, _)) (by decide +kernel) rfl ?_
  obtain ⟨o1, e2, h⟩ := ob_some h
  refine Ru.vcallI (pc' := 9) (st' := [vI o1]) (i := 308) (j2 := 134) (ci := 10) (k := 0) (z := 0) (as := []) (by decide +kernel) (by decide +kernel) rfl rfl (hp36 _) (by decide) ⟨(Nat.le_of_ble_eq_true rfl), (by show 19 + 1 ≤ 243; exact Nat.le_of_ble_eq_true rfl), Nat.le_of_ble_eq_true rfl, Nat.le_of_ble_eq_true rfl⟩ ((g134_ok e2).up (Nat.le_of_ble_eq_true rfl) (Nat.le_of_ble_eq_true rfl)) rfl rfl ?_
  cases h
  exact Ru.iret (by decide +kernel) rfl rfl
set_option maxRecDepth 100000 in
set_option maxHeartbeats 4000000 in
theorem g138L20_ok {S : St} {v1 : Int} : ∀ (n : Nat) (v2 : Int) (v3 : Int) (d4 : Option Value) (_ : DD [d4]) (out : Int), g138L20 S v1 n v2 v3 = some out → ∀ r, (∀ (e0 e1 e3 e4 : Option Value), DD [e0, e1, e3, e4] → Ru none 10 200 138 (84, [e0, e1, some (vI out), e3, e4], [], S.ns, Hp S) r) → Ru none 10 200 138 (20, [some (.ref 36), some (vI v1), some (vI v2), some (vI v3), d4], [], S.ns, Hp S) r := by
  intro n
  induction n with
  | zero => intro v2 v3 d4 hdd out h; cases h
  | succ n ih =>
    intro v2 v3 d4 hdd out h r hk
    unfold g138L20 at h
    refine Ru.op (q := (.iload_n 3, 1)) (S' := (21, _, _, _, _)) (by decide +kernel) rfl ?_
    refine Ru.op (q := (.aload_n 0, 1)) (S' := (22, _, _, _, _)) (by decide +kernel) rfl ?_
    refine Ru.getI (pc' := 25) (i := 263) (ci := 10) (k := 9) (nn := 0) (z := 0) (x := (S.F 36 9)) (by decide +kernel) (by decide +kernel) (hp36 _) (by decide) rfl (eI_of _) rfl ?_
    obtain ⟨g4, h⟩ := gd_some h
    by_cases b5 : v3 < (S.F 36 9)
    · replace h := if_t b5 h
      refine Ru.br2 (k := .ge) (off := 59) (bb := false) (tg := 28) (by decide +kernel) (by decide +kernel) (ci_ge0 g4 (inR_to _) b5) rfl ?_
      refine Ru.op (q := (.iload_n 2, 1)) (S' := (29, _, _, _, _)) (by decide +kernel) rfl ?_
      obtain ⟨g6, h⟩ := gd_some h
      by_cases b7 : v2 < 0
      · replace h := if_t b7 h
        refine Ru.br (k := .lt) (off := 22) (bb := true) (tg := 51) (by decide +kernel) (by decide +kernel) (cz (ci_lt1 g6 (by decide) b7)) rfl ?_
        refine Ru.kI (q := (.iconst 1, 1)) (c := 1) (pc' := 52) (by decide +kernel) rfl (by decide) rfl ?_
        refine Ru.op (q := (.goto 4, 3)) (S' := (56, _, _, _, _)) (by decide +kernel) rfl ?_
        refine Ru.op (q := (.istore 4, 2)) (S' := (58, [some (.ref 36), some (vI v1), some (vI v2), some (vI v3), some (vI 1)], [], _, _)) (by decide +kernel) rfl ?_
        refine Ru.op (q := (.aload_n 0, 1)) (S' := (59, _, _, _, _)) (by decide +kernel) rfl ?_
        refine Ru.getR (pc' := 62) (i := 33) (ci := 10) (k := 11) (nn := 0) (z := 0) (v := .ref 43) (by decide +kernel) (by decide +kernel) (hp36 _) (by decide) rfl rfl ?_
        refine Ru.op (q := (.iload_n 3, 1)) (S' := (63, _, _, _, _)) (by decide +kernel) rfl ?_
        obtain ⟨g8, h⟩ := gd_some h
        refine Ru.ildI (pc' := 64) (i := v3) (z := (S.A 43 v3)) (by decide +kernel) (hp43 _) g8 (eI_of _) rfl ?_
        by_cases b9 : (S.A 43 v3) = 0
        · replace h := if_t b9 h
          refine Ru.br (k := .ne) (off := 12) (bb := false) (tg := 67) (by decide +kernel) (by decide +kernel) (cz (ci_ne0 (inR_to _) (by decide) b9)) rfl ?_
          refine Ru.op (q := (.iload 4, 2)) (S' := (69, _, _, _, _)) (by decide +kernel) rfl ?_
          refine Ru.br (k := .eq) (off := 7) (bb := false) (tg := 72) (by decide +kernel) (by decide +kernel) (by decide) rfl ?_
          refine Ru.op (q := (.iload_n 3, 1)) (S' := (73, _, _, _, _)) (by decide +kernel) rfl ?_
          refine Ru.op (q := (.goto 4, 3)) (S' := (77, _, _, _, _)) (by decide +kernel) rfl ?_
          refine Ru.op (q := (.istore_n 2, 1)) (S' := (78, [some (.ref 36), some (vI v1), some (vI v3), some (vI v3), some (vI 1)], [], _, _)) (by decide +kernel) rfl ?_
          refine Ru.inc (k := 3) (n := 1) (x := v3) (z := (v3 + 1)) (xs' := [some (.ref 36), some (vI v1), some (vI v3), some (vI (v3 + 1)), some (vI 1)]) (pc' := 81) (by decide +kernel) rfl rfl rfl rfl ?_
          refine Ru.op (q := (.goto (-61), 3)) (S' := (20, _, _, _, _)) (by decide +kernel) rfl ?_
          exact ih _ _ _ ⟨rfl, trivial⟩ _ h r hk
        · replace h := if_f b9 h
          refine Ru.br (k := .ne) (off := 12) (bb := true) (tg := 76) (by decide +kernel) (by decide +kernel) (cz (ci_ne1 (inR_to _) (by decide) b9)) rfl ?_
          refine Ru.op (q := (.iload_n 2, 1)) (S' := (77, _, _, _, _)) (by decide +kernel) rfl ?_
          refine Ru.op (q := (.istore_n 2, 1)) (S' := (78, [some (.ref 36), some (vI v1), some (vI v2), some (vI v3), some (vI 1)], [], _, _)) (by decide +kernel) rfl ?_
          refine Ru.inc (k := 3) (n := 1) (x := v3) (z := (v3 + 1)) (xs' := [some (.ref 36), some (vI v1), some (vI v2), some (vI (v3 + 1)), some (vI 1)]) (pc' := 81) (by decide +kernel) rfl rfl rfl rfl ?_
          refine Ru.op (q := (.goto (-61), 3)) (S' := (20, _, _, _, _)) (by decide +kernel) rfl ?_
          exact ih _ _ _ ⟨rfl, trivial⟩ _ h r hk
      · replace h := if_f b7 h
        refine Ru.br (k := .lt) (off := 22) (bb := false) (tg := 32) (by decide +kernel) (by decide +kernel) (cz (ci_lt0 g6 (by decide) b7)) rfl ?_
        refine Ru.op (q := (.iload_n 1, 1)) (S' := (33, _, _, _, _)) (by decide +kernel) rfl ?_
        obtain ⟨g10, h⟩ := gd_some h
        by_cases b11 : v1 = 0
        · replace h := if_t b11 h
          refine Ru.br (k := .ne) (off := 22) (bb := false) (tg := 36) (by decide +kernel) (by decide +kernel) (cz (ci_ne0 g10 (by decide) b11)) rfl ?_
          refine Ru.op (q := (.aload_n 0, 1)) (S' := (37, _, _, _, _)) (by decide +kernel) rfl ?_
          refine Ru.getR (pc' := 40) (i := 30) (ci := 10) (k := 8) (nn := 0) (z := 0) (v := .ref 42) (by decide +kernel) (by decide +kernel) (hp36 _) (by decide) rfl rfl ?_
          refine Ru.op (q := (.iload_n 3, 1)) (S' := (41, _, _, _, _)) (by decide +kernel) rfl ?_
          obtain ⟨g12, h⟩ := gd_some h
          refine Ru.ildI (pc' := 42) (i := v3) (z := (S.A 42 v3)) (by decide +kernel) (hp42 _) g12 (eI_of _) rfl ?_
          refine Ru.op (q := (.aload_n 0, 1)) (S' := (43, _, _, _, _)) (by decide +kernel) rfl ?_
          refine Ru.getR (pc' := 46) (i := 30) (ci := 10) (k := 8) (nn := 0) (z := 0) (v := .ref 42) (by decide +kernel) (by decide +kernel) (hp36 _) (by decide) rfl rfl ?_
          refine Ru.op (q := (.iload_n 2, 1)) (S' := (47, _, _, _, _)) (by decide +kernel) rfl ?_
          obtain ⟨g13, h⟩ := gd_some h
          refine Ru.ildI (pc' := 48) (i := v2) (z := (S.A 42 v2)) (by decide +kernel) (hp42 _) g13 (eI_of _) rfl ?_
          by_cases b14 : (S.A 42 v3) < (S.A 42 v2)
          · replace h := if_t b14 h
            refine Ru.br2 (k := .ge) (off := 7) (bb := false) (tg := 51) (by decide +kernel) (by decide +kernel) (ci_ge0 (inR_to _) (inR_to _) b14) rfl ?_
            refine Ru.kI (q := (.iconst 1, 1)) (c := 1) (pc' := 52) (by decide +kernel) rfl (by decide) rfl ?_
            refine Ru.op (q := (.goto 4, 3)) (S' := (56, _, _, _, _)) (by decide +kernel) rfl ?_
            refine Ru.op (q := (.istore 4, 2)) (S' := (58, [some (.ref 36), some (vI v1), some (vI v2), some (vI v3), some (vI 1)], [], _, _)) (by decide +kernel) rfl ?_
            refine Ru.op (q := (.aload_n 0, 1)) (S' := (59, _, _, _, _)) (by decide +kernel) rfl ?_
            refine Ru.getR (pc' := 62) (i := 33) (ci := 10) (k := 11) (nn := 0) (z := 0) (v := .ref 43) (by decide +kernel) (by decide +kernel) (hp36 _) (by decide) rfl rfl ?_
            refine Ru.op (q := (.iload_n 3, 1)) (S' := (63, _, _, _, _)) (by decide +kernel) rfl ?_
            obtain ⟨g15, h⟩ := gd_some h
            refine Ru.ildI (pc' := 64) (i := v3) (z := (S.A 43 v3)) (by decide +kernel) (hp43 _) g15 (eI_of _) rfl ?_
            by_cases b16 : (S.A 43 v3) = 0
            · replace h := if_t b16 h
              refine Ru.br (k := .ne) (off := 12) (bb := false) (tg := 67) (by decide +kernel) (by decide +kernel) (cz (ci_ne0 (inR_to _) (by decide) b16)) rfl ?_
              refine Ru.op (q := (.iload 4, 2)) (S' := (69, _, _, _, _)) (by decide +kernel) rfl ?_
              refine Ru.br (k := .eq) (off := 7) (bb := false) (tg := 72) (by decide +kernel) (by decide +kernel) (by decide) rfl ?_
              refine Ru.op (q := (.iload_n 3, 1)) (S' := (73, _, _, _, _)) (by decide +kernel) rfl ?_
              refine Ru.op (q := (.goto 4, 3)) (S' := (77, _, _, _, _)) (by decide +kernel) rfl ?_
              refine Ru.op (q := (.istore_n 2, 1)) (S' := (78, [some (.ref 36), some (vI v1), some (vI v3), some (vI v3), some (vI 1)], [], _, _)) (by decide +kernel) rfl ?_
              refine Ru.inc (k := 3) (n := 1) (x := v3) (z := (v3 + 1)) (xs' := [some (.ref 36), some (vI v1), some (vI v3), some (vI (v3 + 1)), some (vI 1)]) (pc' := 81) (by decide +kernel) rfl rfl rfl rfl ?_
              refine Ru.op (q := (.goto (-61), 3)) (S' := (20, _, _, _, _)) (by decide +kernel) rfl ?_
              exact ih _ _ _ ⟨rfl, trivial⟩ _ h r hk
            · replace h := if_f b16 h
              refine Ru.br (k := .ne) (off := 12) (bb := true) (tg := 76) (by decide +kernel) (by decide +kernel) (cz (ci_ne1 (inR_to _) (by decide) b16)) rfl ?_
              refine Ru.op (q := (.iload_n 2, 1)) (S' := (77, _, _, _, _)) (by decide +kernel) rfl ?_
              refine Ru.op (q := (.istore_n 2, 1)) (S' := (78, [some (.ref 36), some (vI v1), some (vI v2), some (vI v3), some (vI 1)], [], _, _)) (by decide +kernel) rfl ?_
              refine Ru.inc (k := 3) (n := 1) (x := v3) (z := (v3 + 1)) (xs' := [some (.ref 36), some (vI v1), some (vI v2), some (vI (v3 + 1)), some (vI 1)]) (pc' := 81) (by decide +kernel) rfl rfl rfl rfl ?_
              refine Ru.op (q := (.goto (-61), 3)) (S' := (20, _, _, _, _)) (by decide +kernel) rfl ?_
              exact ih _ _ _ ⟨rfl, trivial⟩ _ h r hk
          · replace h := if_f b14 h
            refine Ru.br2 (k := .ge) (off := 7) (bb := true) (tg := 55) (by decide +kernel) (by decide +kernel) (ci_ge1 (inR_to _) (inR_to _) b14) rfl ?_
            refine Ru.kI (q := (.iconst 0, 1)) (c := 0) (pc' := 56) (by decide +kernel) rfl (by decide) rfl ?_
            refine Ru.op (q := (.istore 4, 2)) (S' := (58, [some (.ref 36), some (vI v1), some (vI v2), some (vI v3), some (vI 0)], [], _, _)) (by decide +kernel) rfl ?_
            refine Ru.op (q := (.aload_n 0, 1)) (S' := (59, _, _, _, _)) (by decide +kernel) rfl ?_
            refine Ru.getR (pc' := 62) (i := 33) (ci := 10) (k := 11) (nn := 0) (z := 0) (v := .ref 43) (by decide +kernel) (by decide +kernel) (hp36 _) (by decide) rfl rfl ?_
            refine Ru.op (q := (.iload_n 3, 1)) (S' := (63, _, _, _, _)) (by decide +kernel) rfl ?_
            obtain ⟨g17, h⟩ := gd_some h
            refine Ru.ildI (pc' := 64) (i := v3) (z := (S.A 43 v3)) (by decide +kernel) (hp43 _) g17 (eI_of _) rfl ?_
            by_cases b18 : (S.A 43 v3) = 0
            · replace h := if_t b18 h
              refine Ru.br (k := .ne) (off := 12) (bb := false) (tg := 67) (by decide +kernel) (by decide +kernel) (cz (ci_ne0 (inR_to _) (by decide) b18)) rfl ?_
              refine Ru.op (q := (.iload 4, 2)) (S' := (69, _, _, _, _)) (by decide +kernel) rfl ?_
              refine Ru.br (k := .eq) (off := 7) (bb := true) (tg := 76) (by decide +kernel) (by decide +kernel) (by decide) rfl ?_
              refine Ru.op (q := (.iload_n 2, 1)) (S' := (77, _, _, _, _)) (by decide +kernel) rfl ?_
              refine Ru.op (q := (.istore_n 2, 1)) (S' := (78, [some (.ref 36), some (vI v1), some (vI v2), some (vI v3), some (vI 0)], [], _, _)) (by decide +kernel) rfl ?_
              refine Ru.inc (k := 3) (n := 1) (x := v3) (z := (v3 + 1)) (xs' := [some (.ref 36), some (vI v1), some (vI v2), some (vI (v3 + 1)), some (vI 0)]) (pc' := 81) (by decide +kernel) rfl rfl rfl rfl ?_
              refine Ru.op (q := (.goto (-61), 3)) (S' := (20, _, _, _, _)) (by decide +kernel) rfl ?_
              exact ih _ _ _ ⟨rfl, trivial⟩ _ h r hk
            · replace h := if_f b18 h
              refine Ru.br (k := .ne) (off := 12) (bb := true) (tg := 76) (by decide +kernel) (by decide +kernel) (cz (ci_ne1 (inR_to _) (by decide) b18)) rfl ?_
              refine Ru.op (q := (.iload_n 2, 1)) (S' := (77, _, _, _, _)) (by decide +kernel) rfl ?_
              refine Ru.op (q := (.istore_n 2, 1)) (S' := (78, [some (.ref 36), some (vI v1), some (vI v2), some (vI v3), some (vI 0)], [], _, _)) (by decide +kernel) rfl ?_
              refine Ru.inc (k := 3) (n := 1) (x := v3) (z := (v3 + 1)) (xs' := [some (.ref 36), some (vI v1), some (vI v2), some (vI (v3 + 1)), some (vI 0)]) (pc' := 81) (by decide +kernel) rfl rfl rfl rfl ?_
              refine Ru.op (q := (.goto (-61), 3)) (S' := (20, _, _, _, _)) (by decide +kernel) rfl ?_
              exact ih _ _ _ ⟨rfl, trivial⟩ _ h r hk
        · replace h := if_f b11 h
          refine Ru.br (k := .ne) (off := 22) (bb := true) (tg := 55) (by decide +kernel) (by decide +kernel) (cz (ci_ne1 g10 (by decide) b11)) rfl ?_
          refine Ru.kI (q := (.iconst 0, 1)) (c := 0) (pc' := 56) (by decide +kernel) rfl (by decide) rfl ?_
          refine Ru.op (q := (.istore 4, 2)) (S' := (58, [some (.ref 36), some (vI v1), some (vI v2), some (vI v3), some (vI 0)], [], _, _)) (by decide +kernel) rfl ?_
          refine Ru.op (q := (.aload_n 0, 1)) (S' := (59, _, _, _, _)) (by decide +kernel) rfl ?_
          refine Ru.getR (pc' := 62) (i := 33) (ci := 10) (k := 11) (nn := 0) (z := 0) (v := .ref 43) (by decide +kernel) (by decide +kernel) (hp36 _) (by decide) rfl rfl ?_
          refine Ru.op (q := (.iload_n 3, 1)) (S' := (63, _, _, _, _)) (by decide +kernel) rfl ?_
          obtain ⟨g19, h⟩ := gd_some h
          refine Ru.ildI (pc' := 64) (i := v3) (z := (S.A 43 v3)) (by decide +kernel) (hp43 _) g19 (eI_of _) rfl ?_
          by_cases b20 : (S.A 43 v3) = 0
          · replace h := if_t b20 h
            refine Ru.br (k := .ne) (off := 12) (bb := false) (tg := 67) (by decide +kernel) (by decide +kernel) (cz (ci_ne0 (inR_to _) (by decide) b20)) rfl ?_
            refine Ru.op (q := (.iload 4, 2)) (S' := (69, _, _, _, _)) (by decide +kernel) rfl ?_
            refine Ru.br (k := .eq) (off := 7) (bb := true) (tg := 76) (by decide +kernel) (by decide +kernel) (by decide) rfl ?_
            refine Ru.op (q := (.iload_n 2, 1)) (S' := (77, _, _, _, _)) (by decide +kernel) rfl ?_
            refine Ru.op (q := (.istore_n 2, 1)) (S' := (78, [some (.ref 36), some (vI v1), some (vI v2), some (vI v3), some (vI 0)], [], _, _)) (by decide +kernel) rfl ?_
            refine Ru.inc (k := 3) (n := 1) (x := v3) (z := (v3 + 1)) (xs' := [some (.ref 36), some (vI v1), some (vI v2), some (vI (v3 + 1)), some (vI 0)]) (pc' := 81) (by decide +kernel) rfl rfl rfl rfl ?_
            refine Ru.op (q := (.goto (-61), 3)) (S' := (20, _, _, _, _)) (by decide +kernel) rfl ?_
            exact ih _ _ _ ⟨rfl, trivial⟩ _ h r hk
          · replace h := if_f b20 h
            refine Ru.br (k := .ne) (off := 12) (bb := true) (tg := 76) (by decide +kernel) (by decide +kernel) (cz (ci_ne1 (inR_to _) (by decide) b20)) rfl ?_
            refine Ru.op (q := (.iload_n 2, 1)) (S' := (77, _, _, _, _)) (by decide +kernel) rfl ?_
            refine Ru.op (q := (.istore_n 2, 1)) (S' := (78, [some (.ref 36), some (vI v1), some (vI v2), some (vI v3), some (vI 0)], [], _, _)) (by decide +kernel) rfl ?_
            refine Ru.inc (k := 3) (n := 1) (x := v3) (z := (v3 + 1)) (xs' := [some (.ref 36), some (vI v1), some (vI v2), some (vI (v3 + 1)), some (vI 0)]) (pc' := 81) (by decide +kernel) rfl rfl rfl rfl ?_
            refine Ru.op (q := (.goto (-61), 3)) (S' := (20, _, _, _, _)) (by decide +kernel) rfl ?_
            exact ih _ _ _ ⟨rfl, trivial⟩ _ h r hk
    · replace h := if_f b5 h
      refine Ru.br2 (k := .ge) (off := 59) (bb := true) (tg := 84) (by decide +kernel) (by decide +kernel) (ci_ge1 g4 (inR_to _) b5) rfl ?_
      cases h
      exact hk _ _ _ _ ⟨rfl, rfl, rfl, hdd.1, trivial⟩
set_option maxRecDepth 100000 in
set_option maxHeartbeats 4000000 in
theorem g138_ok {S : St} {o : Int} (h : g138 S  = some o) : Ru none 10 200 138 (0, mn_pad (mn_ent [.ref 36]) 5, [], S.ns, Hp S) ((0, some (vI o)), S.ns, Hp S) := by
  unfold g138 at h
  show Ru none 10 200 138 (0, [some (.ref 36), none, none, none, none], [], S.ns, Hp S) _
  refine Ru.op (q := (.aload_n 0, 1)) (S' := (1, _, _, _, _)) (by decide +kernel) rfl ?_
  refine Ru.getI (pc' := 4) (i := 324) (ci := 10) (k := 16) (nn := 0) (z := 0) (x := (S.F 36 16)) (by decide +kernel) (by decide +kernel) (hp36 _) (by decide) rfl (eI_of _) rfl ?_
  refine Ru.kI (q := (.iconst 4, 1)) (c := 4) (pc' := 5) (by decide +kernel) rfl (by decide) rfl ?_
  obtain ⟨g1, h⟩ := gd_some h
  refine Ru.ar2 (i := .irem) (z := ((S.F 36 16) % 4)) (pc' := 6) (by decide +kernel) rfl (ar_rem g1) rfl ?_
  refine Ru.kI (q := (.iconst 3, 1)) (c := 3) (pc' := 7) (by decide +kernel) rfl (by decide) rfl ?_
  obtain ⟨g2, h⟩ := gd_some h
  by_cases b3 : ((S.F 36 16) % 4) = 3
  · replace h := if_t b3 h
    refine Ru.br2 (k := .ne) (off := 7) (bb := false) (tg := 10) (by decide +kernel) (by decide +kernel) (ci_ne0 g2 (by decide) b3) rfl ?_
    refine Ru.kI (q := (.iconst 1, 1)) (c := 1) (pc' := 11) (by decide +kernel) rfl (by decide) rfl ?_
    refine Ru.op (q := (.goto 4, 3)) (S' := (15, _, _, _, _)) (by decide +kernel) rfl ?_
    refine Ru.op (q := (.istore_n 1, 1)) (S' := (16, [some (.ref 36), some (vI 1), none, none, none], [], _, _)) (by decide +kernel) rfl ?_
    refine Ru.kI (q := (.iconst (-1), 1)) (c := (-1)) (pc' := 17) (by decide +kernel) rfl (by decide) rfl ?_
    refine Ru.op (q := (.istore_n 2, 1)) (S' := (18, [some (.ref 36), some (vI 1), some (vI (-1)), none, none], [], _, _)) (by decide +kernel) rfl ?_
    refine Ru.kI (q := (.iconst 0, 1)) (c := 0) (pc' := 19) (by decide +kernel) rfl (by decide) rfl ?_
    refine Ru.op (q := (.istore_n 3, 1)) (S' := (20, [some (.ref 36), some (vI 1), some (vI (-1)), some (vI 0), none], [], _, _)) (by decide +kernel) rfl ?_
    obtain ⟨o21, e26, h⟩ := ob_some h
    refine g138L20_ok FU _ _ _ ⟨rfl, trivial⟩ _ e26 _ ?_
    intro d22 d23 d24 d25 hd27
    refine Ru.op (q := (.iload_n 2, 1)) (S' := (85, _, _, _, _)) (by decide +kernel) rfl ?_
    cases h
    exact Ru.iret (by decide +kernel) rfl rfl
  · replace h := if_f b3 h
    refine Ru.br2 (k := .ne) (off := 7) (bb := true) (tg := 14) (by decide +kernel) (by decide +kernel) (ci_ne1 g2 (by decide) b3) rfl ?_
    refine Ru.kI (q := (.iconst 0, 1)) (c := 0) (pc' := 15) (by decide +kernel) rfl (by decide) rfl ?_
    refine Ru.op (q := (.istore_n 1, 1)) (S' := (16, [some (.ref 36), some (vI 0), none, none, none], [], _, _)) (by decide +kernel) rfl ?_
    refine Ru.kI (q := (.iconst (-1), 1)) (c := (-1)) (pc' := 17) (by decide +kernel) rfl (by decide) rfl ?_
    refine Ru.op (q := (.istore_n 2, 1)) (S' := (18, [some (.ref 36), some (vI 0), some (vI (-1)), none, none], [], _, _)) (by decide +kernel) rfl ?_
    refine Ru.kI (q := (.iconst 0, 1)) (c := 0) (pc' := 19) (by decide +kernel) rfl (by decide) rfl ?_
    refine Ru.op (q := (.istore_n 3, 1)) (S' := (20, [some (.ref 36), some (vI 0), some (vI (-1)), some (vI 0), none], [], _, _)) (by decide +kernel) rfl ?_
    obtain ⟨o28, e33, h⟩ := ob_some h
    refine g138L20_ok FU _ _ _ ⟨rfl, trivial⟩ _ e33 _ ?_
    intro d29 d30 d31 d32 hd34
    refine Ru.op (q := (.iload_n 2, 1)) (S' := (85, _, _, _, _)) (by decide +kernel) rfl ?_
    cases h
    exact Ru.iret (by decide +kernel) rfl rfl
set_option maxRecDepth 100000 in
set_option maxHeartbeats 4000000 in
theorem g139_ok {S : St} {o : Int} (h : g139 S  = some o) : Ru none 10 200 139 (0, mn_pad (mn_ent [.ref 36]) 1, [], S.ns, Hp S) ((0, some (vI o)), S.ns, Hp S) := by
  unfold g139 at h
  show Ru none 10 200 139 (0, [some (.ref 36)], [], S.ns, Hp S) _
  refine Ru.op (q := (.aload_n 0, 1)) (S' := (1, _, _, _, _)) (by decide +kernel) rfl ?_
  refine Ru.getI (pc' := 4) (i := 42) (ci := 10) (k := 14) (nn := 0) (z := 0) (x := (S.F 36 14)) (by decide +kernel) (by decide +kernel) (hp36 _) (by decide) rfl (eI_of _) rfl ?_
  by_cases b1 : (S.F 36 14) < 0
  · replace h := if_t b1 h
    refine Ru.br (k := .ge) (off := 10) (bb := false) (tg := 7) (by decide +kernel) (by decide +kernel) (cz (ci_ge0 (inR_to _) (by decide) b1)) rfl ?_
    refine Ru.op (q := (.aload_n 0, 1)) (S' := (8, _, _, _, _)) (by decide +kernel) rfl ?_
    refine Ru.getI (pc' := 11) (i := 288) (ci := 10) (k := 15) (nn := 0) (z := 0) (x := (S.F 36 15)) (by decide +kernel) (by decide +kernel) (hp36 _) (by decide) rfl (eI_of _) rfl ?_
    by_cases b2 : (S.F 36 15) = 0
    · replace h := if_t b2 h
      refine Ru.br (k := .eq) (off := 7) (bb := true) (tg := 18) (by decide +kernel) (by decide +kernel) (cz (ci_eq1 (inR_to _) (by decide) b2)) rfl ?_
      refine Ru.kI (q := (.iconst 0, 1)) (c := 0) (pc' := 19) (by decide +kernel) rfl (by decide) rfl ?_
      cases h
      exact Ru.iret (by decide +kernel) rfl (nar_b1 (by decide))
    · replace h := if_f b2 h
      refine Ru.br (k := .eq) (off := 7) (bb := false) (tg := 14) (by decide +kernel) (by decide +kernel) (cz (ci_eq0 (inR_to _) (by decide) b2)) rfl ?_
      refine Ru.kI (q := (.iconst 1, 1)) (c := 1) (pc' := 15) (by decide +kernel) rfl (by decide) rfl ?_
      refine Ru.op (q := (.goto 4, 3)) (S' := (19, _, _, _, _)) (by decide +kernel) rfl ?_
      cases h
      exact Ru.iret (by decide +kernel) rfl (nar_b1 (by decide))
  · replace h := if_f b1 h
    refine Ru.br (k := .ge) (off := 10) (bb := true) (tg := 14) (by decide +kernel) (by decide +kernel) (cz (ci_ge1 (inR_to _) (by decide) b1)) rfl ?_
    refine Ru.kI (q := (.iconst 1, 1)) (c := 1) (pc' := 15) (by decide +kernel) rfl (by decide) rfl ?_
    refine Ru.op (q := (.goto 4, 3)) (S' := (19, _, _, _, _)) (by decide +kernel) rfl ?_
    cases h
    exact Ru.iret (by decide +kernel) rfl (nar_b1 (by decide))
