def g107 (S : St) (v1 : Int) : Option (Int × St) := gd (ixR v1 1024) (ob (g104 (S.a 46 v1 ((S.A 46 v1) + 1)) 120 122) (fun o2 => gd (inR o2) (if o2 = 0 then ob (g104 (S.a 46 v1 ((S.A 46 v1) + 1)) 97 107) (fun o6 => gd (inR o6) (if o6 = 0 then ob (g102 (S.a 46 v1 ((S.A 46 v1) + 1))) (fun o10 => gd (inR o10) (if o10 = 36 then if (S.F 36 29) = 0 then some (0, ((S.a 46 v1 ((S.A 46 v1) + 1)).f 36 28 1)) else ob (g102 (S.a 46 v1 ((S.A 46 v1) + 1))) (fun o15 => gd (inR o15) (if o15 = 36 then ob (g111 (S.a 46 v1 ((S.A 46 v1) + 1))) (fun o19 => ob (g105 o19.2 (4096 + (128 * o19.1))) (fun o21 => some (1, o21))) else ob (g109 (S.a 46 v1 ((S.A 46 v1) + 1))) (fun o23 => ob (g105 o23.2 (4096 + (128 * o23.1))) (fun o25 => some (1, o25))))) else some (0, ((S.a 46 v1 ((S.A 46 v1) + 1)).f 36 28 1)))) else ob (g102 (S.a 46 v1 ((S.A 46 v1) + 1))) (fun o27 => gd (inR o27) (if o27 = 36 then ob (g111 (S.a 46 v1 ((S.A 46 v1) + 1))) (fun o31 => ob (g105 o31.2 (4096 + (128 * o31.1))) (fun o33 => some (1, o33))) else ob (g109 (S.a 46 v1 ((S.A 46 v1) + 1))) (fun o35 => ob (g105 o35.2 (4096 + (128 * o35.1))) (fun o37 => some (1, o37))))))) else ob (g108 (S.a 46 v1 ((S.A 46 v1) + 1))) (fun o39 => some (0, o39)))))
set_option maxRecDepth 100000 in
set_option maxHeartbeats 4000000 in
theorem g107_ok {S : St} {v1 : Int} {o : Int × St} (h : g107 S v1 = some o) : Ru none 14 287 107 (0, mn_pad (mn_ent [.ref 36, vI v1]) 3, [], S.ns, Hp S) ((0, some (vI o.1)), o.2.ns, Hp o.2) := by
  unfold g107 at h
  show Ru none 14 287 107 (0, [some (.ref 36), some (vI v1), none], [], S.ns, Hp S) _
  refine Ru.op (q := (.aload_n 0, 1)) (by decide +kernel) rfl ?_
  refine Ru.get (i := 45) (v := .ref 46) (by decide +kernel) (by rfl) (hp36 _) (by decide) rfl ?_
  refine Ru.op (q := (.iload_n 1, 1)) (by decide +kernel) rfl ?_
  refine Ru.op (q := (.aload_n 0, 1)) (by decide +kernel) rfl ?_
  refine Ru.get (i := 45) (v := .ref 46) (by decide +kernel) (by rfl) (hp36 _) (by decide) rfl ?_
  refine Ru.op (q := (.iload_n 1, 1)) (by decide +kernel) rfl ?_
  obtain ⟨g1, h⟩ := gd_some h
  refine Ru.ildI (i := v1) (z := (S.A 46 v1)) (by decide +kernel) (hp46 _) g1 (eI_of _) ?_
  refine Ru.kI (q := (.iconst 1, 1)) (c := 1) (by decide +kernel) rfl (by decide) ?_
  refine Ru.ar2 (i := .iadd) (z := ((S.A 46 v1) + 1)) (by decide +kernel) rfl (ar_add _ _) ?_
  refine Ru.istI (i := v1) (x := ((S.A 46 v1) + 1)) (by decide +kernel) (hp46 _) g1 (ps_46 _ _ _) ?_
  refine Ru.op (q := (.aload_n 0, 1)) (by decide +kernel) rfl ?_
  refine Ru.kI (q := (.bipush 120, 2)) (c := 120) (by decide +kernel) rfl (by decide) ?_
  refine Ru.kI (q := (.bipush 122, 2)) (c := 122) (by decide +kernel) rfl (by decide) ?_
  obtain ⟨o2, e3, h⟩ := ob_some h
  refine Ru.vcall (i := 147) (j2 := 104) (as := [vI 120, vI 122]) (by decide +kernel) (by rfl) rfl rfl (hp36 _) (by decide) ⟨(Nat.le_of_ble_eq_true rfl), (by show 19 + 3 ≤ 287; exact Nat.le_of_ble_eq_true rfl), Nat.le_of_ble_eq_true rfl, Nat.le_of_ble_eq_true rfl⟩ ((g104_ok e3).up (Nat.le_of_ble_eq_true rfl) (Nat.le_of_ble_eq_true rfl)) ?_
  obtain ⟨g4, h⟩ := gd_some h
  by_cases b5 : o2 = 0
  · replace h := if_t b5 h
    refine Ru.br (k := .eq) (off := 9) (bb := true) (tg := 31) (by decide +kernel) (by decide +kernel) (cz (ci_eq1 g4 (by decide) b5)) rfl ?_
    refine Ru.op (q := (.aload_n 0, 1)) (by decide +kernel) rfl ?_
    refine Ru.kI (q := (.bipush 97, 2)) (c := 97) (by decide +kernel) rfl (by decide) ?_
    refine Ru.kI (q := (.bipush 107, 2)) (c := 107) (by decide +kernel) rfl (by decide) ?_
    obtain ⟨o6, e7, h⟩ := ob_some h
    refine Ru.vcall (i := 147) (j2 := 104) (as := [vI 97, vI 107]) (by decide +kernel) (by rfl) rfl rfl (hp36 _) (by decide) ⟨(Nat.le_of_ble_eq_true rfl), (by show 19 + 3 ≤ 287; exact Nat.le_of_ble_eq_true rfl), Nat.le_of_ble_eq_true rfl, Nat.le_of_ble_eq_true rfl⟩ ((g104_ok e7).up (Nat.le_of_ble_eq_true rfl) (Nat.le_of_ble_eq_true rfl)) ?_
    obtain ⟨g8, h⟩ := gd_some h
    by_cases b9 : o6 = 0
    · replace h := if_t b9 h
      refine Ru.br (k := .ne) (off := 26) (bb := false) (tg := 42) (by decide +kernel) (by decide +kernel) (cz (ci_ne0 g8 (by decide) b9)) rfl ?_
      refine Ru.op (q := (.aload_n 0, 1)) (by decide +kernel) rfl ?_
      obtain ⟨o10, e11, h⟩ := ob_some h
      refine Ru.vcall (i := 143) (j2 := 102) (as := []) (by decide +kernel) (by rfl) rfl rfl (hp36 _) (by decide) ⟨(Nat.le_of_ble_eq_true rfl), (by show 19 + 1 ≤ 287; exact Nat.le_of_ble_eq_true rfl), Nat.le_of_ble_eq_true rfl, Nat.le_of_ble_eq_true rfl⟩ ((g102_ok e11).up (Nat.le_of_ble_eq_true rfl) (Nat.le_of_ble_eq_true rfl)) ?_
      refine Ru.kI (q := (.bipush 36, 2)) (c := 36) (by decide +kernel) rfl (by decide) ?_
      obtain ⟨g12, h⟩ := gd_some h
      by_cases b13 : o10 = 36
      · replace h := if_t b13 h
        refine Ru.br2 (k := .ne) (off := 10) (bb := false) (tg := 51) (by decide +kernel) (by decide +kernel) (ci_ne0 g12 (by decide) b13) rfl ?_
        refine Ru.op (q := (.aload_n 0, 1)) (by decide +kernel) rfl ?_
        refine Ru.getI (i := 167) (x := (S.F 36 29)) (by decide +kernel) (by rfl) (hp36 _) (by decide) rfl (eI_of _) ?_
        by_cases b14 : (S.F 36 29) = 0
        · replace h := if_t b14 h
          refine Ru.br (k := .ne) (off := 10) (bb := false) (tg := 58) (by decide +kernel) (by decide +kernel) (cz (ci_ne0 (inR_to _) (by decide) b14)) rfl ?_
          refine Ru.op (q := (.aload_n 0, 1)) (by decide +kernel) rfl ?_
          refine Ru.kI (q := (.iconst 1, 1)) (c := 1) (by decide +kernel) rfl (by decide) ?_
          refine Ru.putH (i := 151) (by decide +kernel) (by rfl) (hp36 _) (by decide) (Nat.le_of_ble_eq_true rfl) (fk_b (by decide)) (by decide +kernel) (pf_36_28 _ _) ?_
          refine Ru.kI (q := (.iconst 0, 1)) (c := 0) (by decide +kernel) rfl (by decide) ?_
          cases h
          exact Ru.iret (by decide +kernel) rfl (nar_b1 (by decide))
        · replace h := if_f b14 h
          refine Ru.br (k := .ne) (off := 10) (bb := true) (tg := 65) (by decide +kernel) (by decide +kernel) (cz (ci_ne1 (inR_to _) (by decide) b14)) rfl ?_
          refine Ru.op (q := (.aload_n 0, 1)) (by decide +kernel) rfl ?_
          obtain ⟨o15, e16, h⟩ := ob_some h
          refine Ru.vcall (i := 143) (j2 := 102) (as := []) (by decide +kernel) (by rfl) rfl rfl (hp36 _) (by decide) ⟨(Nat.le_of_ble_eq_true rfl), (by show 19 + 1 ≤ 287; exact Nat.le_of_ble_eq_true rfl), Nat.le_of_ble_eq_true rfl, Nat.le_of_ble_eq_true rfl⟩ ((g102_ok e16).up (Nat.le_of_ble_eq_true rfl) (Nat.le_of_ble_eq_true rfl)) ?_
          refine Ru.kI (q := (.bipush 36, 2)) (c := 36) (by decide +kernel) rfl (by decide) ?_
          obtain ⟨g17, h⟩ := gd_some h
          by_cases b18 : o15 = 36
          · replace h := if_t b18 h
            refine Ru.br2 (k := .ne) (off := 10) (bb := false) (tg := 74) (by decide +kernel) (by decide +kernel) (ci_ne0 g17 (by decide) b18) rfl ?_
            refine Ru.op (q := (.aload_n 0, 1)) (by decide +kernel) rfl ?_
            obtain ⟨o19, e20, h⟩ := ob_some h
            refine Ru.vcall (i := 180) (j2 := 111) (as := []) (by decide +kernel) (by rfl) rfl rfl (hp36 _) (by decide) ⟨(Nat.le_of_ble_eq_true rfl), (by show 19 + 2 ≤ 287; exact Nat.le_of_ble_eq_true rfl), Nat.le_of_ble_eq_true rfl, Nat.le_of_ble_eq_true rfl⟩ ((g111_ok e20).up (Nat.le_of_ble_eq_true rfl) (Nat.le_of_ble_eq_true rfl)) ?_
            refine Ru.op (q := (.goto 7, 3)) (by decide +kernel) rfl ?_
            refine Ru.op (q := (.istore_n 2, 1)) (S' := (86, [some (.ref 36), some (vI v1), some (vI o19.1)], [], _, _)) (by decide +kernel) rfl ?_
            refine Ru.op (q := (.aload_n 0, 1)) (by decide +kernel) rfl ?_
            refine Ru.kI (q := (.sipush 4096, 3)) (c := 4096) (by decide +kernel) rfl (by decide) ?_
            refine Ru.kI (q := (.sipush 128, 3)) (c := 128) (by decide +kernel) rfl (by decide) ?_
            refine Ru.op (q := (.iload_n 2, 1)) (by decide +kernel) rfl ?_
            refine Ru.ar2 (i := .imul) (z := (128 * o19.1)) (by decide +kernel) rfl (ar_mul _ _) ?_
            refine Ru.ar2 (i := .iadd) (z := (4096 + (128 * o19.1))) (by decide +kernel) rfl (ar_add _ _) ?_
            obtain ⟨o21, e22, h⟩ := ob_some h
            refine Ru.vcall (i := 173) (j2 := 105) (as := [vI (4096 + (128 * o19.1))]) (by decide +kernel) (by rfl) rfl rfl (hp36 _) (by decide) ⟨(Nat.le_of_ble_eq_true rfl), (by show 19 + 2 ≤ 287; exact Nat.le_of_ble_eq_true rfl), Nat.le_of_ble_eq_true rfl, Nat.le_of_ble_eq_true rfl⟩ ((g105_ok e22).up (Nat.le_of_ble_eq_true rfl) (Nat.le_of_ble_eq_true rfl)) ?_
            refine Ru.kI (q := (.iconst 1, 1)) (c := 1) (by decide +kernel) rfl (by decide) ?_
            cases h
            exact Ru.iret (by decide +kernel) rfl (nar_b1 (by decide))
          · replace h := if_f b18 h
            refine Ru.br2 (k := .ne) (off := 10) (bb := true) (tg := 81) (by decide +kernel) (by decide +kernel) (ci_ne1 g17 (by decide) b18) rfl ?_
            refine Ru.op (q := (.aload_n 0, 1)) (by decide +kernel) rfl ?_
            obtain ⟨o23, e24, h⟩ := ob_some h
            refine Ru.vcall (i := 164) (j2 := 109) (as := []) (by decide +kernel) (by rfl) rfl rfl (hp36 _) (by decide) ⟨(Nat.le_of_ble_eq_true rfl), (by show 19 + 2 ≤ 287; exact Nat.le_of_ble_eq_true rfl), Nat.le_of_ble_eq_true rfl, Nat.le_of_ble_eq_true rfl⟩ ((g109_ok e24).up (Nat.le_of_ble_eq_true rfl) (Nat.le_of_ble_eq_true rfl)) ?_
            refine Ru.op (q := (.istore_n 2, 1)) (S' := (86, [some (.ref 36), some (vI v1), some (vI o23.1)], [], _, _)) (by decide +kernel) rfl ?_
            refine Ru.op (q := (.aload_n 0, 1)) (by decide +kernel) rfl ?_
            refine Ru.kI (q := (.sipush 4096, 3)) (c := 4096) (by decide +kernel) rfl (by decide) ?_
            refine Ru.kI (q := (.sipush 128, 3)) (c := 128) (by decide +kernel) rfl (by decide) ?_
            refine Ru.op (q := (.iload_n 2, 1)) (by decide +kernel) rfl ?_
            refine Ru.ar2 (i := .imul) (z := (128 * o23.1)) (by decide +kernel) rfl (ar_mul _ _) ?_
            refine Ru.ar2 (i := .iadd) (z := (4096 + (128 * o23.1))) (by decide +kernel) rfl (ar_add _ _) ?_
            obtain ⟨o25, e26, h⟩ := ob_some h
            refine Ru.vcall (i := 173) (j2 := 105) (as := [vI (4096 + (128 * o23.1))]) (by decide +kernel) (by rfl) rfl rfl (hp36 _) (by decide) ⟨(Nat.le_of_ble_eq_true rfl), (by show 19 + 2 ≤ 287; exact Nat.le_of_ble_eq_true rfl), Nat.le_of_ble_eq_true rfl, Nat.le_of_ble_eq_true rfl⟩ ((g105_ok e26).up (Nat.le_of_ble_eq_true rfl) (Nat.le_of_ble_eq_true rfl)) ?_
            refine Ru.kI (q := (.iconst 1, 1)) (c := 1) (by decide +kernel) rfl (by decide) ?_
            cases h
            exact Ru.iret (by decide +kernel) rfl (nar_b1 (by decide))
      · replace h := if_f b13 h
        refine Ru.br2 (k := .ne) (off := 10) (bb := true) (tg := 58) (by decide +kernel) (by decide +kernel) (ci_ne1 g12 (by decide) b13) rfl ?_
        refine Ru.op (q := (.aload_n 0, 1)) (by decide +kernel) rfl ?_
        refine Ru.kI (q := (.iconst 1, 1)) (c := 1) (by decide +kernel) rfl (by decide) ?_
        refine Ru.putH (i := 151) (by decide +kernel) (by rfl) (hp36 _) (by decide) (Nat.le_of_ble_eq_true rfl) (fk_b (by decide)) (by decide +kernel) (pf_36_28 _ _) ?_
        refine Ru.kI (q := (.iconst 0, 1)) (c := 0) (by decide +kernel) rfl (by decide) ?_
        cases h
        exact Ru.iret (by decide +kernel) rfl (nar_b1 (by decide))
    · replace h := if_f b9 h
      refine Ru.br (k := .ne) (off := 26) (bb := true) (tg := 65) (by decide +kernel) (by decide +kernel) (cz (ci_ne1 g8 (by decide) b9)) rfl ?_
      refine Ru.op (q := (.aload_n 0, 1)) (by decide +kernel) rfl ?_
      obtain ⟨o27, e28, h⟩ := ob_some h
      refine Ru.vcall (i := 143) (j2 := 102) (as := []) (by decide +kernel) (by rfl) rfl rfl (hp36 _) (by decide) ⟨(Nat.le_of_ble_eq_true rfl), (by show 19 + 1 ≤ 287; exact Nat.le_of_ble_eq_true rfl), Nat.le_of_ble_eq_true rfl, Nat.le_of_ble_eq_true rfl⟩ ((g102_ok e28).up (Nat.le_of_ble_eq_true rfl) (Nat.le_of_ble_eq_true rfl)) ?_
      refine Ru.kI (q := (.bipush 36, 2)) (c := 36) (by decide +kernel) rfl (by decide) ?_
      obtain ⟨g29, h⟩ := gd_some h
      by_cases b30 : o27 = 36
      · replace h := if_t b30 h
        refine Ru.br2 (k := .ne) (off := 10) (bb := false) (tg := 74) (by decide +kernel) (by decide +kernel) (ci_ne0 g29 (by decide) b30) rfl ?_
        refine Ru.op (q := (.aload_n 0, 1)) (by decide +kernel) rfl ?_
        obtain ⟨o31, e32, h⟩ := ob_some h
        refine Ru.vcall (i := 180) (j2 := 111) (as := []) (by decide +kernel) (by rfl) rfl rfl (hp36 _) (by decide) ⟨(Nat.le_of_ble_eq_true rfl), (by show 19 + 2 ≤ 287; exact Nat.le_of_ble_eq_true rfl), Nat.le_of_ble_eq_true rfl, Nat.le_of_ble_eq_true rfl⟩ ((g111_ok e32).up (Nat.le_of_ble_eq_true rfl) (Nat.le_of_ble_eq_true rfl)) ?_
        refine Ru.op (q := (.goto 7, 3)) (by decide +kernel) rfl ?_
        refine Ru.op (q := (.istore_n 2, 1)) (S' := (86, [some (.ref 36), some (vI v1), some (vI o31.1)], [], _, _)) (by decide +kernel) rfl ?_
        refine Ru.op (q := (.aload_n 0, 1)) (by decide +kernel) rfl ?_
        refine Ru.kI (q := (.sipush 4096, 3)) (c := 4096) (by decide +kernel) rfl (by decide) ?_
        refine Ru.kI (q := (.sipush 128, 3)) (c := 128) (by decide +kernel) rfl (by decide) ?_
        refine Ru.op (q := (.iload_n 2, 1)) (by decide +kernel) rfl ?_
        refine Ru.ar2 (i := .imul) (z := (128 * o31.1)) (by decide +kernel) rfl (ar_mul _ _) ?_
        refine Ru.ar2 (i := .iadd) (z := (4096 + (128 * o31.1))) (by decide +kernel) rfl (ar_add _ _) ?_
        obtain ⟨o33, e34, h⟩ := ob_some h
        refine Ru.vcall (i := 173) (j2 := 105) (as := [vI (4096 + (128 * o31.1))]) (by decide +kernel) (by rfl) rfl rfl (hp36 _) (by decide) ⟨(Nat.le_of_ble_eq_true rfl), (by show 19 + 2 ≤ 287; exact Nat.le_of_ble_eq_true rfl), Nat.le_of_ble_eq_true rfl, Nat.le_of_ble_eq_true rfl⟩ ((g105_ok e34).up (Nat.le_of_ble_eq_true rfl) (Nat.le_of_ble_eq_true rfl)) ?_
        refine Ru.kI (q := (.iconst 1, 1)) (c := 1) (by decide +kernel) rfl (by decide) ?_
        cases h
        exact Ru.iret (by decide +kernel) rfl (nar_b1 (by decide))
      · replace h := if_f b30 h
        refine Ru.br2 (k := .ne) (off := 10) (bb := true) (tg := 81) (by decide +kernel) (by decide +kernel) (ci_ne1 g29 (by decide) b30) rfl ?_
        refine Ru.op (q := (.aload_n 0, 1)) (by decide +kernel) rfl ?_
        obtain ⟨o35, e36, h⟩ := ob_some h
        refine Ru.vcall (i := 164) (j2 := 109) (as := []) (by decide +kernel) (by rfl) rfl rfl (hp36 _) (by decide) ⟨(Nat.le_of_ble_eq_true rfl), (by show 19 + 2 ≤ 287; exact Nat.le_of_ble_eq_true rfl), Nat.le_of_ble_eq_true rfl, Nat.le_of_ble_eq_true rfl⟩ ((g109_ok e36).up (Nat.le_of_ble_eq_true rfl) (Nat.le_of_ble_eq_true rfl)) ?_
        refine Ru.op (q := (.istore_n 2, 1)) (S' := (86, [some (.ref 36), some (vI v1), some (vI o35.1)], [], _, _)) (by decide +kernel) rfl ?_
        refine Ru.op (q := (.aload_n 0, 1)) (by decide +kernel) rfl ?_
        refine Ru.kI (q := (.sipush 4096, 3)) (c := 4096) (by decide +kernel) rfl (by decide) ?_
        refine Ru.kI (q := (.sipush 128, 3)) (c := 128) (by decide +kernel) rfl (by decide) ?_
        refine Ru.op (q := (.iload_n 2, 1)) (by decide +kernel) rfl ?_
        refine Ru.ar2 (i := .imul) (z := (128 * o35.1)) (by decide +kernel) rfl (ar_mul _ _) ?_
        refine Ru.ar2 (i := .iadd) (z := (4096 + (128 * o35.1))) (by decide +kernel) rfl (ar_add _ _) ?_
        obtain ⟨o37, e38, h⟩ := ob_some h
        refine Ru.vcall (i := 173) (j2 := 105) (as := [vI (4096 + (128 * o35.1))]) (by decide +kernel) (by rfl) rfl rfl (hp36 _) (by decide) ⟨(Nat.le_of_ble_eq_true rfl), (by show 19 + 2 ≤ 287; exact Nat.le_of_ble_eq_true rfl), Nat.le_of_ble_eq_true rfl, Nat.le_of_ble_eq_true rfl⟩ ((g105_ok e38).up (Nat.le_of_ble_eq_true rfl) (Nat.le_of_ble_eq_true rfl)) ?_
        refine Ru.kI (q := (.iconst 1, 1)) (c := 1) (by decide +kernel) rfl (by decide) ?_
        cases h
        exact Ru.iret (by decide +kernel) rfl (nar_b1 (by decide))
  · replace h := if_f b5 h
    refine Ru.br (k := .eq) (off := 9) (bb := false) (tg := 25) (by decide +kernel) (by decide +kernel) (cz (ci_eq0 g4 (by decide) b5)) rfl ?_
    refine Ru.op (q := (.aload_n 0, 1)) (by decide +kernel) rfl ?_
    obtain ⟨o39, e40, h⟩ := ob_some h
    refine Ru.vcall (i := 177) (j2 := 108) (as := []) (by decide +kernel) (by rfl) rfl rfl (hp36 _) (by decide) ⟨(Nat.le_of_ble_eq_true rfl), (by show 19 + 5 ≤ 287; exact Nat.le_of_ble_eq_true rfl), Nat.le_of_ble_eq_true rfl, Nat.le_of_ble_eq_true rfl⟩ ((g108_ok e40).up (Nat.le_of_ble_eq_true rfl) (Nat.le_of_ble_eq_true rfl)) ?_
    refine Ru.kI (q := (.iconst 0, 1)) (c := 0) (by decide +kernel) rfl (by decide) ?_
    cases h
    exact Ru.iret (by decide +kernel) rfl (nar_b1 (by decide))
def g106L6  : Nat → Int → Int → Int → St → Option (St)
  | 0, _, _, _, _ => none
  | n + 1, v1, v2, v3, S => gd (inR v3) (if v3 = 0 then some S else if (S.F 36 28) = 0 then gd (inR v2) (if v2 = 0 then gd (inR v1) (if v1 = 0 then g106L6 n v1 v2 0 S else ob (g102 S) (fun o8 => gd (inR o8) (if o8 = 44 then gd (ixR (v1 - 1) 16) (ob (g107 (S.f 36 27 ((S.F 36 27) + 1)) (S.A 53 (v1 - 1))) (fun o13 => g106L6 n v1 o13.1 v3 o13.2)) else ob (g102 S) (fun o15 => gd (inR o15) (if o15 = 41 then g106L6 n (v1 + (-1)) 0 v3 (S.f 36 27 ((S.F 36 27) + 1)) else g106L6 n v1 v2 v3 (S.f 36 28 1)))))) else ob (g102 S) (fun o19 => gd (inR o19) (if o19 = 40 then gd (inR v1) (if 14 < v1 then g106L6 n v1 v2 v3 (S.f 36 28 1) else gd (ixR v1 16) (gd (ixR ((v1 + 1) - 1) 16) (ob (g107 (((S.f 36 28 0).a 53 v1 ((S.F 36 22) - 1)).f 36 27 ((S.F 36 27) + 1)) (((S.f 36 28 0).a 53 v1 ((S.F 36 22) - 1)).A 53 ((v1 + 1) - 1))) (fun o27 => g106L6 n (v1 + 1) o27.1 v3 o27.2)))) else gd (inR v1) (if v1 = 0 then g106L6 n v1 v2 0 S else ob (g102 S) (fun o31 => gd (inR o31) (if o31 = 44 then gd (ixR (v1 - 1) 16) (ob (g107 (S.f 36 27 ((S.F 36 27) + 1)) (S.A 53 (v1 - 1))) (fun o36 => g106L6 n v1 o36.1 v3 o36.2)) else ob (g102 S) (fun o38 => gd (inR o38) (if o38 = 41 then g106L6 n (v1 + (-1)) 0 v3 (S.f 36 27 ((S.F 36 27) + 1)) else g106L6 n v1 v2 v3 (S.f 36 28 1))))))))) else some S)
set_option maxRecDepth 100000 in
set_option maxHeartbeats 4000000 in
theorem g106L6_ok : ∀ (n : Nat) (v1 : Int) (v2 : Int) (v3 : Int) (S : St) (out : St), g106L6 n v1 v2 v3 S = some out → ∀ r, (∀ (e0 e1 e2 e3 : Option Value), Ru none 15 309 106 (172, [e0, e1, e2, e3], [], out.ns, Hp out) r) → Ru none 15 309 106 (6, [some (.ref 36), some (vI v1), some (vI v2), some (vI v3)], [], S.ns, Hp S) r := by
  intro n
  induction n with
  | zero => intro v1 v2 v3 S out h; cases h
  | succ n ih =>
    intro v1 v2 v3 S out h r hk
    unfold g106L6 at h
    refine Ru.op (q := (.iload_n 3, 1)) (by decide +kernel) rfl ?_
    obtain ⟨g1, h⟩ := gd_some h
    by_cases b2 : v3 = 0
    · replace h := if_t b2 h
      refine Ru.br (k := .eq) (off := 165) (bb := true) (tg := 172) (by decide +kernel) (by decide +kernel) (cz (ci_eq1 g1 (by decide) b2)) rfl ?_
      cases h
      exact hk _ _ _ _
    · replace h := if_f b2 h
      refine Ru.br (k := .eq) (off := 165) (bb := false) (tg := 10) (by decide +kernel) (by decide +kernel) (cz (ci_eq0 g1 (by decide) b2)) rfl ?_
      refine Ru.op (q := (.aload_n 0, 1)) (by decide +kernel) rfl ?_
      refine Ru.getI (i := 151) (x := (S.F 36 28)) (by decide +kernel) (by rfl) (hp36 _) (by decide) rfl (eI_of _) ?_
      by_cases b3 : (S.F 36 28) = 0
      · replace h := if_t b3 h
        refine Ru.br (k := .ne) (off := 158) (bb := false) (tg := 17) (by decide +kernel) (by decide +kernel) (cz (ci_ne0 (inR_to _) (by decide) b3)) rfl ?_
        refine Ru.op (q := (.iload_n 2, 1)) (by decide +kernel) rfl ?_
        obtain ⟨g4, h⟩ := gd_some h
        by_cases b5 : v2 = 0
        · replace h := if_t b5 h
          refine Ru.br (k := .eq) (off := 75) (bb := true) (tg := 93) (by decide +kernel) (by decide +kernel) (cz (ci_eq1 g4 (by decide) b5)) rfl ?_
          refine Ru.op (q := (.iload_n 1, 1)) (by decide +kernel) rfl ?_
          obtain ⟨g6, h⟩ := gd_some h
          by_cases b7 : v1 = 0
          · replace h := if_t b7 h
            refine Ru.br (k := .ne) (off := 8) (bb := false) (tg := 97) (by decide +kernel) (by decide +kernel) (cz (ci_ne0 g6 (by decide) b7)) rfl ?_
            refine Ru.kI (q := (.iconst 0, 1)) (c := 0) (by decide +kernel) rfl (by decide) ?_
            refine Ru.op (q := (.istore_n 3, 1)) (S' := (99, [some (.ref 36), some (vI v1), some (vI v2), some (vI 0)], [], _, _)) (by decide +kernel) rfl ?_
            refine Ru.op (q := (.goto (-93), 3)) (by decide +kernel) rfl ?_
            exact ih _ _ _ _ _ h r hk
          · replace h := if_f b7 h
            refine Ru.br (k := .ne) (off := 8) (bb := true) (tg := 102) (by decide +kernel) (by decide +kernel) (cz (ci_ne1 g6 (by decide) b7)) rfl ?_
            refine Ru.op (q := (.aload_n 0, 1)) (by decide +kernel) rfl ?_
            obtain ⟨o8, e9, h⟩ := ob_some h
            refine Ru.vcall (i := 143) (j2 := 102) (as := []) (by decide +kernel) (by rfl) rfl rfl (hp36 _) (by decide) ⟨(Nat.le_of_ble_eq_true rfl), (by show 19 + 1 ≤ 309; exact Nat.le_of_ble_eq_true rfl), Nat.le_of_ble_eq_true rfl, Nat.le_of_ble_eq_true rfl⟩ ((g102_ok e9).up (Nat.le_of_ble_eq_true rfl) (Nat.le_of_ble_eq_true rfl)) ?_
            refine Ru.kI (q := (.bipush 44, 2)) (c := 44) (by decide +kernel) rfl (by decide) ?_
            obtain ⟨g10, h⟩ := gd_some h
            by_cases b11 : o8 = 44
            · replace h := if_t b11 h
              refine Ru.br2 (k := .ne) (off := 29) (bb := false) (tg := 111) (by decide +kernel) (by decide +kernel) (ci_ne0 g10 (by decide) b11) rfl ?_
              refine Ru.op (q := (.aload_n 0, 1)) (by decide +kernel) rfl ?_
              refine Ru.op (q := (.dup, 1)) (by decide +kernel) rfl ?_
              refine Ru.getI (i := 140) (x := (S.F 36 27)) (by decide +kernel) (by rfl) (hp36 _) (by decide) rfl (eI_of _) ?_
              refine Ru.kI (q := (.iconst 1, 1)) (c := 1) (by decide +kernel) rfl (by decide) ?_
              refine Ru.ar2 (i := .iadd) (z := ((S.F 36 27) + 1)) (by decide +kernel) rfl (ar_add _ _) ?_
              refine Ru.putH (i := 140) (by decide +kernel) (by rfl) (hp36 _) (by decide) (Nat.le_of_ble_eq_true rfl) rfl (by decide +kernel) (pf_36_27 _ _) ?_
              refine Ru.op (q := (.aload_n 0, 1)) (by decide +kernel) rfl ?_
              refine Ru.op (q := (.aload_n 0, 1)) (by decide +kernel) rfl ?_
              refine Ru.get (i := 66) (v := .ref 53) (by decide +kernel) (by rfl) (hp36 _) (by decide) rfl ?_
              refine Ru.op (q := (.iload_n 1, 1)) (by decide +kernel) rfl ?_
              refine Ru.kI (q := (.iconst 1, 1)) (c := 1) (by decide +kernel) rfl (by decide) ?_
              refine Ru.ar2 (i := .isub) (z := (v1 - 1)) (by decide +kernel) rfl (ar_sub _ _) ?_
              obtain ⟨g12, h⟩ := gd_some h
              refine Ru.ildI (i := (v1 - 1)) (z := (S.A 53 (v1 - 1))) (by decide +kernel) (hp53 _) g12 (eI_of _) ?_
              obtain ⟨o13, e14, h⟩ := ob_some h
              refine Ru.vcall (i := 183) (j2 := 107) (as := [vI (S.A 53 (v1 - 1))]) (by decide +kernel) (by rfl) rfl rfl (hp36 _) (by decide) ⟨(Nat.le_of_ble_eq_true rfl), (by show 19 + 3 ≤ 309; exact Nat.le_of_ble_eq_true rfl), Nat.le_of_ble_eq_true rfl, Nat.le_of_ble_eq_true rfl⟩ ((g107_ok e14).up (Nat.le_of_ble_eq_true rfl) (Nat.le_of_ble_eq_true rfl)) ?_
              refine Ru.op (q := (.istore_n 2, 1)) (S' := (134, [some (.ref 36), some (vI v1), some (vI o13.1), some (vI v3)], [], _, _)) (by decide +kernel) rfl ?_
              refine Ru.op (q := (.goto (-128), 3)) (by decide +kernel) rfl ?_
              exact ih _ _ _ _ _ h r hk
            · replace h := if_f b11 h
              refine Ru.br2 (k := .ne) (off := 29) (bb := true) (tg := 137) (by decide +kernel) (by decide +kernel) (ci_ne1 g10 (by decide) b11) rfl ?_
              refine Ru.op (q := (.aload_n 0, 1)) (by decide +kernel) rfl ?_
              obtain ⟨o15, e16, h⟩ := ob_some h
              refine Ru.vcall (i := 143) (j2 := 102) (as := []) (by decide +kernel) (by rfl) rfl rfl (hp36 _) (by decide) ⟨(Nat.le_of_ble_eq_true rfl), (by show 19 + 1 ≤ 309; exact Nat.le_of_ble_eq_true rfl), Nat.le_of_ble_eq_true rfl, Nat.le_of_ble_eq_true rfl⟩ ((g102_ok e16).up (Nat.le_of_ble_eq_true rfl) (Nat.le_of_ble_eq_true rfl)) ?_
              refine Ru.kI (q := (.bipush 41, 2)) (c := 41) (by decide +kernel) rfl (by decide) ?_
              obtain ⟨g17, h⟩ := gd_some h
              by_cases b18 : o15 = 41
              · replace h := if_t b18 h
                refine Ru.br2 (k := .ne) (off := 21) (bb := false) (tg := 146) (by decide +kernel) (by decide +kernel) (ci_ne0 g17 (by decide) b18) rfl ?_
                refine Ru.op (q := (.aload_n 0, 1)) (by decide +kernel) rfl ?_
                refine Ru.op (q := (.dup, 1)) (by decide +kernel) rfl ?_
                refine Ru.getI (i := 140) (x := (S.F 36 27)) (by decide +kernel) (by rfl) (hp36 _) (by decide) rfl (eI_of _) ?_
                refine Ru.kI (q := (.iconst 1, 1)) (c := 1) (by decide +kernel) rfl (by decide) ?_
                refine Ru.ar2 (i := .iadd) (z := ((S.F 36 27) + 1)) (by decide +kernel) rfl (ar_add _ _) ?_
                refine Ru.putH (i := 140) (by decide +kernel) (by rfl) (hp36 _) (by decide) (Nat.le_of_ble_eq_true rfl) rfl (by decide +kernel) (pf_36_27 _ _) ?_
                refine Ru.inc (x := v1) (z := (v1 + (-1))) (xs' := [some (.ref 36), some (vI (v1 + (-1))), some (vI v2), some (vI v3)]) (by decide +kernel) rfl rfl rfl ?_
                refine Ru.kI (q := (.iconst 0, 1)) (c := 0) (by decide +kernel) rfl (by decide) ?_
                refine Ru.op (q := (.istore_n 2, 1)) (S' := (161, [some (.ref 36), some (vI (v1 + (-1))), some (vI 0), some (vI v3)], [], _, _)) (by decide +kernel) rfl ?_
                refine Ru.op (q := (.goto (-155), 3)) (by decide +kernel) rfl ?_
                exact ih _ _ _ _ _ h r hk
              · replace h := if_f b18 h
                refine Ru.br2 (k := .ne) (off := 21) (bb := true) (tg := 164) (by decide +kernel) (by decide +kernel) (ci_ne1 g17 (by decide) b18) rfl ?_
                refine Ru.op (q := (.aload_n 0, 1)) (by decide +kernel) rfl ?_
                refine Ru.kI (q := (.iconst 1, 1)) (c := 1) (by decide +kernel) rfl (by decide) ?_
                refine Ru.putH (i := 151) (by decide +kernel) (by rfl) (hp36 _) (by decide) (Nat.le_of_ble_eq_true rfl) (fk_b (by decide)) (by decide +kernel) (pf_36_28 _ _) ?_
                refine Ru.op (q := (.goto (-163), 3)) (by decide +kernel) rfl ?_
                exact ih _ _ _ _ _ h r hk
        · replace h := if_f b5 h
          refine Ru.br (k := .eq) (off := 75) (bb := false) (tg := 21) (by decide +kernel) (by decide +kernel) (cz (ci_eq0 g4 (by decide) b5)) rfl ?_
          refine Ru.op (q := (.aload_n 0, 1)) (by decide +kernel) rfl ?_
          obtain ⟨o19, e20, h⟩ := ob_some h
          refine Ru.vcall (i := 143) (j2 := 102) (as := []) (by decide +kernel) (by rfl) rfl rfl (hp36 _) (by decide) ⟨(Nat.le_of_ble_eq_true rfl), (by show 19 + 1 ≤ 309; exact Nat.le_of_ble_eq_true rfl), Nat.le_of_ble_eq_true rfl, Nat.le_of_ble_eq_true rfl⟩ ((g102_ok e20).up (Nat.le_of_ble_eq_true rfl) (Nat.le_of_ble_eq_true rfl)) ?_
          refine Ru.kI (q := (.bipush 40, 2)) (c := 40) (by decide +kernel) rfl (by decide) ?_
          obtain ⟨g21, h⟩ := gd_some h
          by_cases b22 : o19 = 40
          · replace h := if_t b22 h
            refine Ru.br2 (k := .ne) (off := 66) (bb := false) (tg := 30) (by decide +kernel) (by decide +kernel) (ci_ne0 g21 (by decide) b22) rfl ?_
            refine Ru.op (q := (.aload_n 0, 1)) (by decide +kernel) rfl ?_
            refine Ru.op (q := (.iload_n 1, 1)) (by decide +kernel) rfl ?_
            refine Ru.kI (q := (.bipush 14, 2)) (c := 14) (by decide +kernel) rfl (by decide) ?_
            obtain ⟨g23, h⟩ := gd_some h
            by_cases b24 : 14 < v1
            · replace h := if_t b24 h
              refine Ru.br2 (k := .le) (off := 7) (bb := false) (tg := 37) (by decide +kernel) (by decide +kernel) (ci_le0 g23 (by decide) b24) rfl ?_
              refine Ru.kI (q := (.iconst 1, 1)) (c := 1) (by decide +kernel) rfl (by decide) ?_
              refine Ru.op (q := (.goto 4, 3)) (by decide +kernel) rfl ?_
              refine Ru.putH (i := 151) (by decide +kernel) (by rfl) (hp36 _) (by decide) (Nat.le_of_ble_eq_true rfl) (fk_b (by decide)) (by decide +kernel) (pf_36_28 _ _) ?_
              refine Ru.op (q := (.aload_n 0, 1)) (by decide +kernel) rfl ?_
              refine Ru.getI (i := 151) (x := 1) (by decide +kernel) (by rfl) (hp36 _) (by decide) rfl rfl ?_
              refine Ru.br (k := .ne) (off := -43) (bb := true) (tg := 6) (by decide +kernel) (by decide +kernel) (by decide) rfl ?_
              exact ih _ _ _ _ _ h r hk
            · replace h := if_f b24 h
              refine Ru.br2 (k := .le) (off := 7) (bb := true) (tg := 41) (by decide +kernel) (by decide +kernel) (ci_le1 g23 (by decide) b24) rfl ?_
              refine Ru.kI (q := (.iconst 0, 1)) (c := 0) (by decide +kernel) rfl (by decide) ?_
              refine Ru.putH (i := 151) (by decide +kernel) (by rfl) (hp36 _) (by decide) (Nat.le_of_ble_eq_true rfl) (fk_b (by decide)) (by decide +kernel) (pf_36_28 _ _) ?_
              refine Ru.op (q := (.aload_n 0, 1)) (by decide +kernel) rfl ?_
              refine Ru.getI (i := 151) (x := 0) (by decide +kernel) (by rfl) (hp36 _) (by decide) rfl rfl ?_
              refine Ru.br (k := .ne) (off := -43) (bb := false) (tg := 52) (by decide +kernel) (by decide +kernel) (by decide) rfl ?_
              refine Ru.op (q := (.aload_n 0, 1)) (by decide +kernel) rfl ?_
              refine Ru.get (i := 66) (v := .ref 53) (by decide +kernel) (by rfl) (hp36 _) (by decide) rfl ?_
              refine Ru.op (q := (.iload_n 1, 1)) (by decide +kernel) rfl ?_
              refine Ru.op (q := (.aload_n 0, 1)) (by decide +kernel) rfl ?_
              refine Ru.getI (i := 155) (x := (S.F 36 22)) (by decide +kernel) (by rfl) (hp36 _) (by decide) rfl (eI_of _) ?_
              refine Ru.kI (q := (.iconst 1, 1)) (c := 1) (by decide +kernel) rfl (by decide) ?_
              refine Ru.ar2 (i := .isub) (z := ((S.F 36 22) - 1)) (by decide +kernel) rfl (ar_sub _ _) ?_
              obtain ⟨g25, h⟩ := gd_some h
              refine Ru.istI (i := v1) (x := ((S.F 36 22) - 1)) (by decide +kernel) (hp53 _) g25 (ps_53 _ _ _) ?_
              refine Ru.inc (x := v1) (z := (v1 + 1)) (xs' := [some (.ref 36), some (vI (v1 + 1)), some (vI v2), some (vI v3)]) (by decide +kernel) rfl rfl rfl ?_
              refine Ru.op (q := (.aload_n 0, 1)) (by decide +kernel) rfl ?_
              refine Ru.op (q := (.dup, 1)) (by decide +kernel) rfl ?_
              refine Ru.getI (i := 140) (x := (S.F 36 27)) (by decide +kernel) (by rfl) (hp36 _) (by decide) rfl (eI_of _) ?_
              refine Ru.kI (q := (.iconst 1, 1)) (c := 1) (by decide +kernel) rfl (by decide) ?_
              refine Ru.ar2 (i := .iadd) (z := ((S.F 36 27) + 1)) (by decide +kernel) rfl (ar_add _ _) ?_
              refine Ru.putH (i := 140) (by decide +kernel) (by rfl) (hp36 _) (by decide) (Nat.le_of_ble_eq_true rfl) rfl (by decide +kernel) (pf_36_27 _ _) ?_
              refine Ru.op (q := (.aload_n 0, 1)) (by decide +kernel) rfl ?_
              refine Ru.op (q := (.aload_n 0, 1)) (by decide +kernel) rfl ?_
              refine Ru.get (i := 66) (v := .ref 53) (by decide +kernel) (by rfl) (hp36 _) (by decide) rfl ?_
              refine Ru.op (q := (.iload_n 1, 1)) (by decide +kernel) rfl ?_
              refine Ru.kI (q := (.iconst 1, 1)) (c := 1) (by decide +kernel) rfl (by decide) ?_
              refine Ru.ar2 (i := .isub) (z := ((v1 + 1) - 1)) (by decide +kernel) rfl (ar_sub _ _) ?_
              obtain ⟨g26, h⟩ := gd_some h
              refine Ru.ildI (i := ((v1 + 1) - 1)) (z := (((S.f 36 28 0).a 53 v1 ((S.F 36 22) - 1)).A 53 ((v1 + 1) - 1))) (by decide +kernel) (hp53 _) g26 (eI_of _) ?_
              obtain ⟨o27, e28, h⟩ := ob_some h
              refine Ru.vcall (i := 183) (j2 := 107) (as := [vI (((S.f 36 28 0).a 53 v1 ((S.F 36 22) - 1)).A 53 ((v1 + 1) - 1))]) (by decide +kernel) (by rfl) rfl rfl (hp36 _) (by decide) ⟨(Nat.le_of_ble_eq_true rfl), (by show 19 + 3 ≤ 309; exact Nat.le_of_ble_eq_true rfl), Nat.le_of_ble_eq_true rfl, Nat.le_of_ble_eq_true rfl⟩ ((g107_ok e28).up (Nat.le_of_ble_eq_true rfl) (Nat.le_of_ble_eq_true rfl)) ?_
              refine Ru.op (q := (.istore_n 2, 1)) (S' := (90, [some (.ref 36), some (vI (v1 + 1)), some (vI o27.1), some (vI v3)], [], _, _)) (by decide +kernel) rfl ?_
              refine Ru.op (q := (.goto (-84), 3)) (by decide +kernel) rfl ?_
              exact ih _ _ _ _ _ h r hk
          · replace h := if_f b22 h
            refine Ru.br2 (k := .ne) (off := 66) (bb := true) (tg := 93) (by decide +kernel) (by decide +kernel) (ci_ne1 g21 (by decide) b22) rfl ?_
            refine Ru.op (q := (.iload_n 1, 1)) (by decide +kernel) rfl ?_
            obtain ⟨g29, h⟩ := gd_some h
            by_cases b30 : v1 = 0
            · replace h := if_t b30 h
              refine Ru.br (k := .ne) (off := 8) (bb := false) (tg := 97) (by decide +kernel) (by decide +kernel) (cz (ci_ne0 g29 (by decide) b30)) rfl ?_
              refine Ru.kI (q := (.iconst 0, 1)) (c := 0) (by decide +kernel) rfl (by decide) ?_
              refine Ru.op (q := (.istore_n 3, 1)) (S' := (99, [some (.ref 36), some (vI v1), some (vI v2), some (vI 0)], [], _, _)) (by decide +kernel) rfl ?_
              refine Ru.op (q := (.goto (-93), 3)) (by decide +kernel) rfl ?_
              exact ih _ _ _ _ _ h r hk
            · replace h := if_f b30 h
              refine Ru.br (k := .ne) (off := 8) (bb := true) (tg := 102) (by decide +kernel) (by decide +kernel) (cz (ci_ne1 g29 (by decide) b30)) rfl ?_
              refine Ru.op (q := (.aload_n 0, 1)) (by decide +kernel) rfl ?_
              obtain ⟨o31, e32, h⟩ := ob_some h
              refine Ru.vcall (i := 143) (j2 := 102) (as := []) (by decide +kernel) (by rfl) rfl rfl (hp36 _) (by decide) ⟨(Nat.le_of_ble_eq_true rfl), (by show 19 + 1 ≤ 309; exact Nat.le_of_ble_eq_true rfl), Nat.le_of_ble_eq_true rfl, Nat.le_of_ble_eq_true rfl⟩ ((g102_ok e32).up (Nat.le_of_ble_eq_true rfl) (Nat.le_of_ble_eq_true rfl)) ?_
              refine Ru.kI (q := (.bipush 44, 2)) (c := 44) (by decide +kernel) rfl (by decide) ?_
              obtain ⟨g33, h⟩ := gd_some h
              by_cases b34 : o31 = 44
              · replace h := if_t b34 h
                refine Ru.br2 (k := .ne) (off := 29) (bb := false) (tg := 111) (by decide +kernel) (by decide +kernel) (ci_ne0 g33 (by decide) b34) rfl ?_
                refine Ru.op (q := (.aload_n 0, 1)) (by decide +kernel) rfl ?_
                refine Ru.op (q := (.dup, 1)) (by decide +kernel) rfl ?_
                refine Ru.getI (i := 140) (x := (S.F 36 27)) (by decide +kernel) (by rfl) (hp36 _) (by decide) rfl (eI_of _) ?_
                refine Ru.kI (q := (.iconst 1, 1)) (c := 1) (by decide +kernel) rfl (by decide) ?_
                refine Ru.ar2 (i := .iadd) (z := ((S.F 36 27) + 1)) (by decide +kernel) rfl (ar_add _ _) ?_
                refine Ru.putH (i := 140) (by decide +kernel) (by rfl) (hp36 _) (by decide) (Nat.le_of_ble_eq_true rfl) rfl (by decide +kernel) (pf_36_27 _ _) ?_
                refine Ru.op (q := (.aload_n 0, 1)) (by decide +kernel) rfl ?_
                refine Ru.op (q := (.aload_n 0, 1)) (by decide +kernel) rfl ?_
                refine Ru.get (i := 66) (v := .ref 53) (by decide +kernel) (by rfl) (hp36 _) (by decide) rfl ?_
                refine Ru.op (q := (.iload_n 1, 1)) (by decide +kernel) rfl ?_
                refine Ru.kI (q := (.iconst 1, 1)) (c := 1) (by decide +kernel) rfl (by decide) ?_
                refine Ru.ar2 (i := .isub) (z := (v1 - 1)) (by decide +kernel) rfl (ar_sub _ _) ?_
                obtain ⟨g35, h⟩ := gd_some h
                refine Ru.ildI (i := (v1 - 1)) (z := (S.A 53 (v1 - 1))) (by decide +kernel) (hp53 _) g35 (eI_of _) ?_
                obtain ⟨o36, e37, h⟩ := ob_some h
                refine Ru.vcall (i := 183) (j2 := 107) (as := [vI (S.A 53 (v1 - 1))]) (by decide +kernel) (by rfl) rfl rfl (hp36 _) (by decide) ⟨(Nat.le_of_ble_eq_true rfl), (by show 19 + 3 ≤ 309; exact Nat.le_of_ble_eq_true rfl), Nat.le_of_ble_eq_true rfl, Nat.le_of_ble_eq_true rfl⟩ ((g107_ok e37).up (Nat.le_of_ble_eq_true rfl) (Nat.le_of_ble_eq_true rfl)) ?_
                refine Ru.op (q := (.istore_n 2, 1)) (S' := (134, [some (.ref 36), some (vI v1), some (vI o36.1), some (vI v3)], [], _, _)) (by decide +kernel) rfl ?_
                refine Ru.op (q := (.goto (-128), 3)) (by decide +kernel) rfl ?_
                exact ih _ _ _ _ _ h r hk
              · replace h := if_f b34 h
                refine Ru.br2 (k := .ne) (off := 29) (bb := true) (tg := 137) (by decide +kernel) (by decide +kernel) (ci_ne1 g33 (by decide) b34) rfl ?_
                refine Ru.op (q := (.aload_n 0, 1)) (by decide +kernel) rfl ?_
                obtain ⟨o38, e39, h⟩ := ob_some h
                refine Ru.vcall (i := 143) (j2 := 102) (as := []) (by decide +kernel) (by rfl) rfl rfl (hp36 _) (by decide) ⟨(Nat.le_of_ble_eq_true rfl), (by show 19 + 1 ≤ 309; exact Nat.le_of_ble_eq_true rfl), Nat.le_of_ble_eq_true rfl, Nat.le_of_ble_eq_true rfl⟩ ((g102_ok e39).up (Nat.le_of_ble_eq_true rfl) (Nat.le_of_ble_eq_true rfl)) ?_
                refine Ru.kI (q := (.bipush 41, 2)) (c := 41) (by decide +kernel) rfl (by decide) ?_
                obtain ⟨g40, h⟩ := gd_some h
                by_cases b41 : o38 = 41
                · replace h := if_t b41 h
                  refine Ru.br2 (k := .ne) (off := 21) (bb := false) (tg := 146) (by decide +kernel) (by decide +kernel) (ci_ne0 g40 (by decide) b41) rfl ?_
                  refine Ru.op (q := (.aload_n 0, 1)) (by decide +kernel) rfl ?_
                  refine Ru.op (q := (.dup, 1)) (by decide +kernel) rfl ?_
                  refine Ru.getI (i := 140) (x := (S.F 36 27)) (by decide +kernel) (by rfl) (hp36 _) (by decide) rfl (eI_of _) ?_
                  refine Ru.kI (q := (.iconst 1, 1)) (c := 1) (by decide +kernel) rfl (by decide) ?_
                  refine Ru.ar2 (i := .iadd) (z := ((S.F 36 27) + 1)) (by decide +kernel) rfl (ar_add _ _) ?_
                  refine Ru.putH (i := 140) (by decide +kernel) (by rfl) (hp36 _) (by decide) (Nat.le_of_ble_eq_true rfl) rfl (by decide +kernel) (pf_36_27 _ _) ?_
                  refine Ru.inc (x := v1) (z := (v1 + (-1))) (xs' := [some (.ref 36), some (vI (v1 + (-1))), some (vI v2), some (vI v3)]) (by decide +kernel) rfl rfl rfl ?_
                  refine Ru.kI (q := (.iconst 0, 1)) (c := 0) (by decide +kernel) rfl (by decide) ?_
                  refine Ru.op (q := (.istore_n 2, 1)) (S' := (161, [some (.ref 36), some (vI (v1 + (-1))), some (vI 0), some (vI v3)], [], _, _)) (by decide +kernel) rfl ?_
                  refine Ru.op (q := (.goto (-155), 3)) (by decide +kernel) rfl ?_
                  exact ih _ _ _ _ _ h r hk
                · replace h := if_f b41 h
                  refine Ru.br2 (k := .ne) (off := 21) (bb := true) (tg := 164) (by decide +kernel) (by decide +kernel) (ci_ne1 g40 (by decide) b41) rfl ?_
                  refine Ru.op (q := (.aload_n 0, 1)) (by decide +kernel) rfl ?_
                  refine Ru.kI (q := (.iconst 1, 1)) (c := 1) (by decide +kernel) rfl (by decide) ?_
                  refine Ru.putH (i := 151) (by decide +kernel) (by rfl) (hp36 _) (by decide) (Nat.le_of_ble_eq_true rfl) (fk_b (by decide)) (by decide +kernel) (pf_36_28 _ _) ?_
                  refine Ru.op (q := (.goto (-163), 3)) (by decide +kernel) rfl ?_
                  exact ih _ _ _ _ _ h r hk
      · replace h := if_f b3 h
        refine Ru.br (k := .ne) (off := 158) (bb := true) (tg := 172) (by decide +kernel) (by decide +kernel) (cz (ci_ne1 (inR_to _) (by decide) b3)) rfl ?_
        cases h
        exact hk _ _ _ _
def g106 (S : St) : Option (St) := ob (g106L6 FU 0 1 1 S) (fun o42 => some o42)
set_option maxRecDepth 100000 in
set_option maxHeartbeats 4000000 in
theorem g106_ok {S : St} {o : St} (h : g106 S  = some o) : Ru none 15 309 106 (0, mn_pad (mn_ent [.ref 36]) 4, [], S.ns, Hp S) ((0, none), o.ns, Hp o) := by
  unfold g106 at h
  show Ru none 15 309 106 (0, [some (.ref 36), none, none, none], [], S.ns, Hp S) _
  refine Ru.kI (q := (.iconst 0, 1)) (c := 0) (by decide +kernel) rfl (by decide) ?_
  refine Ru.op (q := (.istore_n 1, 1)) (S' := (2, [some (.ref 36), some (vI 0), none, none], [], _, _)) (by decide +kernel) rfl ?_
  refine Ru.kI (q := (.iconst 1, 1)) (c := 1) (by decide +kernel) rfl (by decide) ?_
  refine Ru.op (q := (.istore_n 2, 1)) (S' := (4, [some (.ref 36), some (vI 0), some (vI 1), none], [], _, _)) (by decide +kernel) rfl ?_
  refine Ru.kI (q := (.iconst 1, 1)) (c := 1) (by decide +kernel) rfl (by decide) ?_
  refine Ru.op (q := (.istore_n 3, 1)) (S' := (6, [some (.ref 36), some (vI 0), some (vI 1), some (vI 1)], [], _, _)) (by decide +kernel) rfl ?_
  obtain ⟨o42, e47, h⟩ := ob_some h
  refine g106L6_ok FU _ _ _ _ _ e47 _ ?_
  intro d43 d44 d45 d46
  cases h
  exact Ru.end (q := (.return_, 1)) (by decide +kernel) rfl rfl
def g103 (S : St) (v1 : Int) : Option (St) := ob (g104 S 65 90) (fun o1 => gd (inR o1) (if o1 = 0 then some (S.f 36 28 1) else gd (ixR (S.F 36 46) 100) (gd (b1R v1) (ob (g102 (((S.a 60 (S.F 36 46) (S.F 36 22)).a 61 (S.F 36 46) v1).f 36 46 ((S.F 36 46) + 1))) (fun o7 => ob (g105 (((S.a 60 (S.F 36 46) (S.F 36 22)).a 61 (S.F 36 46) v1).f 36 46 ((S.F 36 46) + 1)) (4096 + (128 * o7))) (fun o9 => ob (g106 (o9.f 36 27 ((o9.F 36 27) + 1))) (fun o11 => some o11)))))))
set_option maxRecDepth 100000 in
set_option maxHeartbeats 4000000 in
theorem g103_ok {S : St} {v1 : Int} {o : St} (h : g103 S v1 = some o) : Ru none 16 332 103 (0, mn_pad (mn_ent [.ref 36, vI v1]) 2, [], S.ns, Hp S) ((0, none), o.ns, Hp o) := by
  unfold g103 at h
  show Ru none 16 332 103 (0, [some (.ref 36), some (vI v1)], [], S.ns, Hp S) _
  refine Ru.op (q := (.aload_n 0, 1)) (by decide +kernel) rfl ?_
  refine Ru.kI (q := (.bipush 65, 2)) (c := 65) (by decide +kernel) rfl (by decide) ?_
  refine Ru.kI (q := (.bipush 90, 2)) (c := 90) (by decide +kernel) rfl (by decide) ?_
  obtain ⟨o1, e2, h⟩ := ob_some h
  refine Ru.vcall (i := 147) (j2 := 104) (as := [vI 65, vI 90]) (by decide +kernel) (by rfl) rfl rfl (hp36 _) (by decide) ⟨(Nat.le_of_ble_eq_true rfl), (by show 19 + 3 ≤ 332; exact Nat.le_of_ble_eq_true rfl), Nat.le_of_ble_eq_true rfl, Nat.le_of_ble_eq_true rfl⟩ ((g104_ok e2).up (Nat.le_of_ble_eq_true rfl) (Nat.le_of_ble_eq_true rfl)) ?_
  obtain ⟨g3, h⟩ := gd_some h
  by_cases b4 : o1 = 0
  · replace h := if_t b4 h
    refine Ru.br (k := .ne) (off := 9) (bb := false) (tg := 11) (by decide +kernel) (by decide +kernel) (cz (ci_ne0 g3 (by decide) b4)) rfl ?_
    refine Ru.op (q := (.aload_n 0, 1)) (by decide +kernel) rfl ?_
    refine Ru.kI (q := (.iconst 1, 1)) (c := 1) (by decide +kernel) rfl (by decide) ?_
    refine Ru.putH (i := 151) (by decide +kernel) (by rfl) (hp36 _) (by decide) (Nat.le_of_ble_eq_true rfl) (fk_b (by decide)) (by decide +kernel) (pf_36_28 _ _) ?_
    cases h
    exact Ru.end (q := (.return_, 1)) (by decide +kernel) rfl rfl
  · replace h := if_f b4 h
    refine Ru.br (k := .ne) (off := 9) (bb := true) (tg := 17) (by decide +kernel) (by decide +kernel) (cz (ci_ne1 g3 (by decide) b4)) rfl ?_
    refine Ru.op (q := (.aload_n 0, 1)) (by decide +kernel) rfl ?_
    refine Ru.get (i := 87) (v := .ref 60) (by decide +kernel) (by rfl) (hp36 _) (by decide) rfl ?_
    refine Ru.op (q := (.aload_n 0, 1)) (by decide +kernel) rfl ?_
    refine Ru.getI (i := 186) (x := (S.F 36 46)) (by decide +kernel) (by rfl) (hp36 _) (by decide) rfl (eI_of _) ?_
    refine Ru.op (q := (.aload_n 0, 1)) (by decide +kernel) rfl ?_
    refine Ru.getI (i := 155) (x := (S.F 36 22)) (by decide +kernel) (by rfl) (hp36 _) (by decide) rfl (eI_of _) ?_
    obtain ⟨g5, h⟩ := gd_some h
    refine Ru.istI (i := (S.F 36 46)) (x := (S.F 36 22)) (by decide +kernel) (hp60 _) g5 (ps_60 _ _ _) ?_
    refine Ru.op (q := (.aload_n 0, 1)) (by decide +kernel) rfl ?_
    refine Ru.get (i := 90) (v := .ref 61) (by decide +kernel) (by rfl) (hp36 _) (by decide) rfl ?_
    refine Ru.op (q := (.aload_n 0, 1)) (by decide +kernel) rfl ?_
    refine Ru.getI (i := 186) (x := (S.F 36 46)) (by decide +kernel) (by rfl) (hp36 _) (by decide) rfl (eI_of _) ?_
    refine Ru.op (q := (.iload_n 1, 1)) (by decide +kernel) rfl ?_
    obtain ⟨g6, h⟩ := gd_some h
    refine Ru.bstI (i := (S.F 36 46)) (x := v1) (by decide +kernel) (hp61 _) g5 g6 (ps_61 _ _ _) ?_
    refine Ru.op (q := (.aload_n 0, 1)) (by decide +kernel) rfl ?_
    refine Ru.op (q := (.dup, 1)) (by decide +kernel) rfl ?_
    refine Ru.getI (i := 186) (x := (S.F 36 46)) (by decide +kernel) (by rfl) (hp36 _) (by decide) rfl (eI_of _) ?_
    refine Ru.kI (q := (.iconst 1, 1)) (c := 1) (by decide +kernel) rfl (by decide) ?_
    refine Ru.ar2 (i := .iadd) (z := ((S.F 36 46) + 1)) (by decide +kernel) rfl (ar_add _ _) ?_
    refine Ru.putH (i := 186) (by decide +kernel) (by rfl) (hp36 _) (by decide) (Nat.le_of_ble_eq_true rfl) rfl (by decide +kernel) (pf_36_46 _ _) ?_
    refine Ru.op (q := (.aload_n 0, 1)) (by decide +kernel) rfl ?_
    refine Ru.kI (q := (.sipush 4096, 3)) (c := 4096) (by decide +kernel) rfl (by decide) ?_
    refine Ru.kI (q := (.sipush 128, 3)) (c := 128) (by decide +kernel) rfl (by decide) ?_
    refine Ru.op (q := (.aload_n 0, 1)) (by decide +kernel) rfl ?_
    obtain ⟨o7, e8, h⟩ := ob_some h
    refine Ru.vcall (i := 143) (j2 := 102) (as := []) (by decide +kernel) (by rfl) rfl rfl (hp36 _) (by decide) ⟨(Nat.le_of_ble_eq_true rfl), (by show 19 + 1 ≤ 332; exact Nat.le_of_ble_eq_true rfl), Nat.le_of_ble_eq_true rfl, Nat.le_of_ble_eq_true rfl⟩ ((g102_ok e8).up (Nat.le_of_ble_eq_true rfl) (Nat.le_of_ble_eq_true rfl)) ?_
    refine Ru.ar2 (i := .imul) (z := (128 * o7)) (by decide +kernel) rfl (ar_mul _ _) ?_
    refine Ru.ar2 (i := .iadd) (z := (4096 + (128 * o7))) (by decide +kernel) rfl (ar_add _ _) ?_
    obtain ⟨o9, e10, h⟩ := ob_some h
    refine Ru.vcall (i := 173) (j2 := 105) (as := [vI (4096 + (128 * o7))]) (by decide +kernel) (by rfl) rfl rfl (hp36 _) (by decide) ⟨(Nat.le_of_ble_eq_true rfl), (by show 19 + 2 ≤ 332; exact Nat.le_of_ble_eq_true rfl), Nat.le_of_ble_eq_true rfl, Nat.le_of_ble_eq_true rfl⟩ ((g105_ok e10).up (Nat.le_of_ble_eq_true rfl) (Nat.le_of_ble_eq_true rfl)) ?_
    refine Ru.op (q := (.aload_n 0, 1)) (by decide +kernel) rfl ?_
    refine Ru.op (q := (.dup, 1)) (by decide +kernel) rfl ?_
    refine Ru.getI (i := 140) (x := (o9.F 36 27)) (by decide +kernel) (by rfl) (hp36 _) (by decide) rfl (eI_of _) ?_
    refine Ru.kI (q := (.iconst 1, 1)) (c := 1) (by decide +kernel) rfl (by decide) ?_
    refine Ru.ar2 (i := .iadd) (z := ((o9.F 36 27) + 1)) (by decide +kernel) rfl (ar_add _ _) ?_
    refine Ru.putH (i := 140) (by decide +kernel) (by rfl) (hp36 _) (by decide) (Nat.le_of_ble_eq_true rfl) rfl (by decide +kernel) (pf_36_27 _ _) ?_
    refine Ru.op (q := (.aload_n 0, 1)) (by decide +kernel) rfl ?_
    obtain ⟨o11, e12, h⟩ := ob_some h
    refine Ru.vcall (i := 189) (j2 := 106) (as := []) (by decide +kernel) (by rfl) rfl rfl (hp36 _) (by decide) ⟨(Nat.le_of_ble_eq_true rfl), (by show 19 + 4 ≤ 332; exact Nat.le_of_ble_eq_true rfl), Nat.le_of_ble_eq_true rfl, Nat.le_of_ble_eq_true rfl⟩ ((g106_ok e12).up (Nat.le_of_ble_eq_true rfl) (Nat.le_of_ble_eq_true rfl)) ?_
    cases h
    exact Ru.end (q := (.return_, 1)) (by decide +kernel) rfl rfl
def g112 (S : St) (v1 : Int) : Option (Int × St) := gd (ixR (S.F 36 43) 300) (gd (ixR (8 * (S.F 36 43)) 2400) (some (1, (((S.a 58 (S.F 36 43) 1).a 59 (8 * (S.F 36 43)) v1).f 36 43 ((S.F 36 43) + 1)))))
set_option maxRecDepth 100000 in
set_option maxHeartbeats 4000000 in
theorem g112_ok {S : St} {v1 : Int} {o : Int × St} (h : g112 S v1 = some o) : Ru none 10 200 112 (0, mn_pad (mn_ent [.ref 36, vI v1]) 2, [], S.ns, Hp S) ((0, some (vI o.1)), o.2.ns, Hp o.2) := by
  unfold g112 at h
  show Ru none 10 200 112 (0, [some (.ref 36), some (vI v1)], [], S.ns, Hp S) _
  refine Ru.op (q := (.aload_n 0, 1)) (by decide +kernel) rfl ?_
  refine Ru.get (i := 81) (v := .ref 58) (by decide +kernel) (by rfl) (hp36 _) (by decide) rfl ?_
  refine Ru.op (q := (.aload_n 0, 1)) (by decide +kernel) rfl ?_
  refine Ru.getI (i := 201) (x := (S.F 36 43)) (by decide +kernel) (by rfl) (hp36 _) (by decide) rfl (eI_of _) ?_
  refine Ru.kI (q := (.iconst 1, 1)) (c := 1) (by decide +kernel) rfl (by decide) ?_
  obtain ⟨g1, h⟩ := gd_some h
  refine Ru.istI (i := (S.F 36 43)) (x := 1) (by decide +kernel) (hp58 _) g1 (ps_58 _ _ _) ?_
  refine Ru.op (q := (.aload_n 0, 1)) (by decide +kernel) rfl ?_
  refine Ru.get (i := 84) (v := .ref 59) (by decide +kernel) (by rfl) (hp36 _) (by decide) rfl ?_
  refine Ru.kI (q := (.bipush 8, 2)) (c := 8) (by decide +kernel) rfl (by decide) ?_
  refine Ru.op (q := (.aload_n 0, 1)) (by decide +kernel) rfl ?_
  refine Ru.getI (i := 201) (x := (S.F 36 43)) (by decide +kernel) (by rfl) (hp36 _) (by decide) rfl (eI_of _) ?_
  refine Ru.ar2 (i := .imul) (z := (8 * (S.F 36 43))) (by decide +kernel) rfl (ar_mul _ _) ?_
  refine Ru.op (q := (.iload_n 1, 1)) (by decide +kernel) rfl ?_
  obtain ⟨g2, h⟩ := gd_some h
  refine Ru.istI (i := (8 * (S.F 36 43))) (x := v1) (by decide +kernel) (hp59 _) g2 (ps_59 _ _ _) ?_
  refine Ru.op (q := (.aload_n 0, 1)) (by decide +kernel) rfl ?_
  refine Ru.op (q := (.dup, 1)) (by decide +kernel) rfl ?_
  refine Ru.getI (i := 201) (x := (S.F 36 43)) (by decide +kernel) (by rfl) (hp36 _) (by decide) rfl (eI_of _) ?_
  refine Ru.kI (q := (.iconst 1, 1)) (c := 1) (by decide +kernel) rfl (by decide) ?_
  refine Ru.ar2 (i := .iadd) (z := ((S.F 36 43) + 1)) (by decide +kernel) rfl (ar_add _ _) ?_
  refine Ru.putH (i := 201) (by decide +kernel) (by rfl) (hp36 _) (by decide) (Nat.le_of_ble_eq_true rfl) rfl (by decide +kernel) (pf_36_43 _ _) ?_
  refine Ru.kI (q := (.iconst 1, 1)) (c := 1) (by decide +kernel) rfl (by decide) ?_
  cases h
  exact Ru.iret (by decide +kernel) rfl rfl
def g114L132 (v1 : Int) (v2 : Int) (v3 : Int) (v4 : Int) (v5 : Int) (v6 : Int) (v7 : Int) : Nat → Int → St → Option (St)
  | 0, _, _ => none
  | n + 1, v8, S => gd (ixR v7 300) (gd (inR v8) (if v8 < (S.A 58 v7) then if (S.F 36 36) = 0 then gd (ixR v5 300) (if v8 < (S.A 58 v5) then gd (ixR ((8 * v5) + v8) 2400) (gd (ixR ((8 * v7) + v8) 2400) (g114L132 v1 v2 v3 v4 v5 v6 v7 n (v8 + 1) (S.a 59 ((8 * v7) + v8) (S.A 59 ((8 * v5) + v8))))) else gd (ixR (((8 * v6) + v8) - (S.A 58 v5)) 2400) (gd (ixR ((8 * v7) + v8) 2400) (g114L132 v1 v2 v3 v4 v5 v6 v7 n (v8 + 1) (S.a 59 ((8 * v7) + v8) (S.A 59 (((8 * v6) + v8) - (S.A 58 v5))))))) else some S else some S))
set_option maxRecDepth 100000 in
set_option maxHeartbeats 4000000 in
theorem g114L132_ok {v1 : Int} {v2 : Int} {v3 : Int} {v4 : Int} {v5 : Int} {v6 : Int} {v7 : Int} : ∀ (n : Nat) (v8 : Int) (S : St) (out : St), g114L132 v1 v2 v3 v4 v5 v6 v7 n v8 S = some out → ∀ r, (∀ (e5 e6 e7 e8 : Option Value), Ru none 10 200 114 (219, [some (.ref 36), some (vI v1), some (vI v2), some (vI v3), some (vI v4), e5, e6, e7, e8], [], out.ns, Hp out) r) → Ru none 10 200 114 (132, [some (.ref 36), some (vI v1), some (vI v2), some (vI v3), some (vI v4), some (vI v5), some (vI v6), some (vI v7), some (vI v8)], [], S.ns, Hp S) r := by
  intro n
  induction n with
  | zero => intro v8 S out h; cases h
  | succ n ih =>
    intro v8 S out h r hk
    unfold g114L132 at h
    refine Ru.op (q := (.iload 8, 2)) (by decide +kernel) rfl ?_
    refine Ru.op (q := (.aload_n 0, 1)) (by decide +kernel) rfl ?_
    refine Ru.get (i := 81) (v := .ref 58) (by decide +kernel) (by rfl) (hp36 _) (by decide) rfl ?_
    refine Ru.op (q := (.iload 7, 2)) (by decide +kernel) rfl ?_
    obtain ⟨g14, h⟩ := gd_some h
    refine Ru.ildI (i := v7) (z := (S.A 58 v7)) (by decide +kernel) (hp58 _) g14 (eI_of _) ?_
    obtain ⟨g15, h⟩ := gd_some h
    by_cases b16 : v8 < (S.A 58 v7)
    · replace h := if_t b16 h
      refine Ru.br2 (k := .ge) (off := 78) (bb := false) (tg := 144) (by decide +kernel) (by decide +kernel) (ci_ge0 g15 (inR_to _) b16) rfl ?_
      refine Ru.op (q := (.aload_n 0, 1)) (by decide +kernel) rfl ?_
      refine Ru.getI (i := 192) (x := (S.F 36 36)) (by decide +kernel) (by rfl) (hp36 _) (by decide) rfl (eI_of _) ?_
      by_cases b17 : (S.F 36 36) = 0
      · replace h := if_t b17 h
        refine Ru.br (k := .ne) (off := 71) (bb := false) (tg := 151) (by decide +kernel) (by decide +kernel) (cz (ci_ne0 (inR_to _) (by decide) b17)) rfl ?_
        refine Ru.op (q := (.aload_n 0, 1)) (by decide +kernel) rfl ?_
        refine Ru.get (i := 84) (v := .ref 59) (by decide +kernel) (by rfl) (hp36 _) (by decide) rfl ?_
        refine Ru.kI (q := (.bipush 8, 2)) (c := 8) (by decide +kernel) rfl (by decide) ?_
        refine Ru.op (q := (.iload 7, 2)) (by decide +kernel) rfl ?_
        refine Ru.ar2 (i := .imul) (z := (8 * v7)) (by decide +kernel) rfl (ar_mul _ _) ?_
        refine Ru.op (q := (.iload 8, 2)) (by decide +kernel) rfl ?_
        refine Ru.ar2 (i := .iadd) (z := ((8 * v7) + v8)) (by decide +kernel) rfl (ar_add _ _) ?_
        refine Ru.op (q := (.iload 8, 2)) (by decide +kernel) rfl ?_
        refine Ru.op (q := (.aload_n 0, 1)) (by decide +kernel) rfl ?_
        refine Ru.get (i := 81) (v := .ref 58) (by decide +kernel) (by rfl) (hp36 _) (by decide) rfl ?_
        refine Ru.op (q := (.iload 5, 2)) (by decide +kernel) rfl ?_
        obtain ⟨g18, h⟩ := gd_some h
        refine Ru.ildI (i := v5) (z := (S.A 58 v5)) (by decide +kernel) (hp58 _) g18 (eI_of _) ?_
        by_cases b19 : v8 < (S.A 58 v5)
        · replace h := if_t b19 h
          refine Ru.br2 (k := .ge) (off := 19) (bb := false) (tg := 175) (by decide +kernel) (by decide +kernel) (ci_ge0 g15 (inR_to _) b19) rfl ?_
          refine Ru.op (q := (.aload_n 0, 1)) (by decide +kernel) rfl ?_
          refine Ru.get (i := 84) (v := .ref 59) (by decide +kernel) (by rfl) (hp36 _) (by decide) rfl ?_
          refine Ru.kI (q := (.bipush 8, 2)) (c := 8) (by decide +kernel) rfl (by decide) ?_
          refine Ru.op (q := (.iload 5, 2)) (by decide +kernel) rfl ?_
          refine Ru.ar2 (i := .imul) (z := (8 * v5)) (by decide +kernel) rfl (ar_mul _ _) ?_
          refine Ru.op (q := (.iload 8, 2)) (by decide +kernel) rfl ?_
          refine Ru.ar2 (i := .iadd) (z := ((8 * v5) + v8)) (by decide +kernel) rfl (ar_add _ _) ?_
          obtain ⟨g20, h⟩ := gd_some h
          refine Ru.ildI (i := ((8 * v5) + v8)) (z := (S.A 59 ((8 * v5) + v8))) (by decide +kernel) (hp59 _) g20 (eI_of _) ?_
          refine Ru.op (q := (.goto 24, 3)) (by decide +kernel) rfl ?_
          obtain ⟨g21, h⟩ := gd_some h
          refine Ru.istI (i := ((8 * v7) + v8)) (x := (S.A 59 ((8 * v5) + v8))) (by decide +kernel) (hp59 _) g21 (ps_59 _ _ _) ?_
          refine Ru.inc (x := v8) (z := (v8 + 1)) (xs' := [some (.ref 36), some (vI v1), some (vI v2), some (vI v3), some (vI v4), some (vI v5), some (vI v6), some (vI v7), some (vI (v8 + 1))]) (by decide +kernel) rfl rfl rfl ?_
          refine Ru.op (q := (.goto (-84), 3)) (by decide +kernel) rfl ?_
          exact ih _ _ _ h r hk
        · replace h := if_f b19 h
          refine Ru.br2 (k := .ge) (off := 19) (bb := true) (tg := 191) (by decide +kernel) (by decide +kernel) (ci_ge1 g15 (inR_to _) b19) rfl ?_
          refine Ru.op (q := (.aload_n 0, 1)) (by decide +kernel) rfl ?_
          refine Ru.get (i := 84) (v := .ref 59) (by decide +kernel) (by rfl) (hp36 _) (by decide) rfl ?_
          refine Ru.kI (q := (.bipush 8, 2)) (c := 8) (by decide +kernel) rfl (by decide) ?_
          refine Ru.op (q := (.iload 6, 2)) (by decide +kernel) rfl ?_
          refine Ru.ar2 (i := .imul) (z := (8 * v6)) (by decide +kernel) rfl (ar_mul _ _) ?_
          refine Ru.op (q := (.iload 8, 2)) (by decide +kernel) rfl ?_
          refine Ru.ar2 (i := .iadd) (z := ((8 * v6) + v8)) (by decide +kernel) rfl (ar_add _ _) ?_
          refine Ru.op (q := (.aload_n 0, 1)) (by decide +kernel) rfl ?_
          refine Ru.get (i := 81) (v := .ref 58) (by decide +kernel) (by rfl) (hp36 _) (by decide) rfl ?_
          refine Ru.op (q := (.iload 5, 2)) (by decide +kernel) rfl ?_
          refine Ru.ildI (i := v5) (z := (S.A 58 v5)) (by decide +kernel) (hp58 _) g18 (eI_of _) ?_
          refine Ru.ar2 (i := .isub) (z := (((8 * v6) + v8) - (S.A 58 v5))) (by decide +kernel) rfl (ar_sub _ _) ?_
          obtain ⟨g22, h⟩ := gd_some h
          refine Ru.ildI (i := (((8 * v6) + v8) - (S.A 58 v5))) (z := (S.A 59 (((8 * v6) + v8) - (S.A 58 v5)))) (by decide +kernel) (hp59 _) g22 (eI_of _) ?_
          obtain ⟨g23, h⟩ := gd_some h
          refine Ru.istI (i := ((8 * v7) + v8)) (x := (S.A 59 (((8 * v6) + v8) - (S.A 58 v5)))) (by decide +kernel) (hp59 _) g23 (ps_59 _ _ _) ?_
          refine Ru.inc (x := v8) (z := (v8 + 1)) (xs' := [some (.ref 36), some (vI v1), some (vI v2), some (vI v3), some (vI v4), some (vI v5), some (vI v6), some (vI v7), some (vI (v8 + 1))]) (by decide +kernel) rfl rfl rfl ?_
          refine Ru.op (q := (.goto (-84), 3)) (by decide +kernel) rfl ?_
          exact ih _ _ _ h r hk
      · replace h := if_f b17 h
        refine Ru.br (k := .ne) (off := 71) (bb := true) (tg := 219) (by decide +kernel) (by decide +kernel) (cz (ci_ne1 (inR_to _) (by decide) b17)) rfl ?_
        cases h
        exact hk _ _ _ _
    · replace h := if_f b16 h
      refine Ru.br2 (k := .ge) (off := 78) (bb := true) (tg := 219) (by decide +kernel) (by decide +kernel) (ci_ge1 g15 (inR_to _) b16) rfl ?_
      cases h
      exact hk _ _ _ _
def g114L36 (v1 : Int) (v2 : Int) (v3 : Int) : Nat → Int → St → Option (St)
  | 0, _, _ => none
  | n + 1, v4, S => gd (inR v4) (gd (inR (v1 * v2)) (if v4 < (v1 * v2) then if (S.F 36 36) = 0 then gd (dvR v4 v2) (gd (ixR (v3 + (v4 / v2)) 300) (gd (ixR ((v3 + v1) + (v4 % v2)) 300) (gd (inR ((S.A 58 (v3 + (v4 / v2))) + (S.A 58 ((v3 + v1) + (v4 % v2))))) (if 8 < ((S.A 58 (v3 + (v4 / v2))) + (S.A 58 ((v3 + v1) + (v4 % v2)))) then gd (ixR ((S.F 36 43) + v4) 300) (ob (g114L132 v1 v2 v3 v4 (v3 + (v4 / v2)) ((v3 + v1) + (v4 % v2)) ((S.F 36 43) + v4) FU 0 ((S.f 36 36 1).a 58 ((S.F 36 43) + v4) ((S.A 58 (v3 + (v4 / v2))) + (S.A 58 ((v3 + v1) + (v4 % v2)))))) (fun o24 => g114L36 v1 v2 v3 n (v4 + 1) o24)) else gd (ixR ((S.F 36 43) + v4) 300) (ob (g114L132 v1 v2 v3 v4 (v3 + (v4 / v2)) ((v3 + v1) + (v4 % v2)) ((S.F 36 43) + v4) FU 0 ((S.f 36 36 0).a 58 ((S.F 36 43) + v4) ((S.A 58 (v3 + (v4 / v2))) + (S.A 58 ((v3 + v1) + (v4 % v2)))))) (fun o31 => g114L36 v1 v2 v3 n (v4 + 1) o31)))))) else some S else some S))
set_option maxRecDepth 100000 in
set_option maxHeartbeats 4000000 in
theorem g114L36_ok {v1 : Int} {v2 : Int} {v3 : Int} : ∀ (n : Nat) (v4 : Int) (S : St) (d5 d6 d7 d8 : Option Value) (out : St), g114L36 v1 v2 v3 n v4 S = some out → ∀ r, (∀ (e4 e5 e6 e7 e8 : Option Value), Ru none 10 200 114 (225, [some (.ref 36), some (vI v1), some (vI v2), some (vI v3), e4, e5, e6, e7, e8], [], out.ns, Hp out) r) → Ru none 10 200 114 (36, [some (.ref 36), some (vI v1), some (vI v2), some (vI v3), some (vI v4), d5, d6, d7, d8], [], S.ns, Hp S) r := by
  intro n
  induction n with
  | zero => intro v4 S d5 d6 d7 d8 out h; cases h
  | succ n ih =>
    intro v4 S d5 d6 d7 d8 out h r hk
    unfold g114L36 at h
    refine Ru.op (q := (.iload 4, 2)) (by decide +kernel) rfl ?_
    refine Ru.op (q := (.iload_n 1, 1)) (by decide +kernel) rfl ?_
    refine Ru.op (q := (.iload_n 2, 1)) (by decide +kernel) rfl ?_
    refine Ru.ar2 (i := .imul) (z := (v1 * v2)) (by decide +kernel) rfl (ar_mul _ _) ?_
    obtain ⟨g4, h⟩ := gd_some h
    obtain ⟨g5, h⟩ := gd_some h
    by_cases b6 : v4 < (v1 * v2)
    · replace h := if_t b6 h
      refine Ru.br2 (k := .ge) (off := 184) (bb := false) (tg := 44) (by decide +kernel) (by decide +kernel) (ci_ge0 g4 g5 b6) rfl ?_
      refine Ru.op (q := (.aload_n 0, 1)) (by decide +kernel) rfl ?_
      refine Ru.getI (i := 192) (x := (S.F 36 36)) (by decide +kernel) (by rfl) (hp36 _) (by decide) rfl (eI_of _) ?_
      by_cases b7 : (S.F 36 36) = 0
      · replace h := if_t b7 h
        refine Ru.br (k := .ne) (off := 177) (bb := false) (tg := 51) (by decide +kernel) (by decide +kernel) (cz (ci_ne0 (inR_to _) (by decide) b7)) rfl ?_
        refine Ru.op (q := (.iload_n 3, 1)) (by decide +kernel) rfl ?_
        refine Ru.op (q := (.iload 4, 2)) (by decide +kernel) rfl ?_
        refine Ru.op (q := (.iload_n 2, 1)) (by decide +kernel) rfl ?_
        obtain ⟨g8, h⟩ := gd_some h
        refine Ru.ar2 (i := .idiv) (z := (v4 / v2)) (by decide +kernel) rfl (ar_div g8) ?_
        refine Ru.ar2 (i := .iadd) (z := (v3 + (v4 / v2))) (by decide +kernel) rfl (ar_add _ _) ?_
        refine Ru.op (q := (.istore 5, 2)) (S' := (59, [some (.ref 36), some (vI v1), some (vI v2), some (vI v3), some (vI v4), some (vI (v3 + (v4 / v2))), d6, d7, d8], [], _, _)) (by decide +kernel) rfl ?_
        refine Ru.op (q := (.iload_n 3, 1)) (by decide +kernel) rfl ?_
        refine Ru.op (q := (.iload_n 1, 1)) (by decide +kernel) rfl ?_
        refine Ru.ar2 (i := .iadd) (z := (v3 + v1)) (by decide +kernel) rfl (ar_add _ _) ?_
        refine Ru.op (q := (.iload 4, 2)) (by decide +kernel) rfl ?_
        refine Ru.op (q := (.iload_n 2, 1)) (by decide +kernel) rfl ?_
        refine Ru.ar2 (i := .irem) (z := (v4 % v2)) (by decide +kernel) rfl (ar_rem g8) ?_
        refine Ru.ar2 (i := .iadd) (z := ((v3 + v1) + (v4 % v2))) (by decide +kernel) rfl (ar_add _ _) ?_
        refine Ru.op (q := (.istore 6, 2)) (S' := (69, [some (.ref 36), some (vI v1), some (vI v2), some (vI v3), some (vI v4), some (vI (v3 + (v4 / v2))), some (vI ((v3 + v1) + (v4 % v2))), d7, d8], [], _, _)) (by decide +kernel) rfl ?_
        refine Ru.op (q := (.aload_n 0, 1)) (by decide +kernel) rfl ?_
        refine Ru.op (q := (.aload_n 0, 1)) (by decide +kernel) rfl ?_
        refine Ru.get (i := 81) (v := .ref 58) (by decide +kernel) (by rfl) (hp36 _) (by decide) rfl ?_
        refine Ru.op (q := (.iload 5, 2)) (by decide +kernel) rfl ?_
        obtain ⟨g9, h⟩ := gd_some h
        refine Ru.ildI (i := (v3 + (v4 / v2))) (z := (S.A 58 (v3 + (v4 / v2)))) (by decide +kernel) (hp58 _) g9 (eI_of _) ?_
        refine Ru.op (q := (.aload_n 0, 1)) (by decide +kernel) rfl ?_
        refine Ru.get (i := 81) (v := .ref 58) (by decide +kernel) (by rfl) (hp36 _) (by decide) rfl ?_
        refine Ru.op (q := (.iload 6, 2)) (by decide +kernel) rfl ?_
        obtain ⟨g10, h⟩ := gd_some h
        refine Ru.ildI (i := ((v3 + v1) + (v4 % v2))) (z := (S.A 58 ((v3 + v1) + (v4 % v2)))) (by decide +kernel) (hp58 _) g10 (eI_of _) ?_
        refine Ru.ar2 (i := .iadd) (z := ((S.A 58 (v3 + (v4 / v2))) + (S.A 58 ((v3 + v1) + (v4 % v2))))) (by decide +kernel) rfl (ar_add _ _) ?_
        refine Ru.kI (q := (.bipush 8, 2)) (c := 8) (by decide +kernel) rfl (by decide) ?_
        obtain ⟨g11, h⟩ := gd_some h
        by_cases b12 : 8 < ((S.A 58 (v3 + (v4 / v2))) + (S.A 58 ((v3 + v1) + (v4 % v2))))
        · replace h := if_t b12 h
          refine Ru.br2 (k := .le) (off := 7) (bb := false) (tg := 90) (by decide +kernel) (by decide +kernel) (ci_le0 g11 (by decide) b12) rfl ?_
          refine Ru.kI (q := (.iconst 1, 1)) (c := 1) (by decide +kernel) rfl (by decide) ?_
          refine Ru.op (q := (.goto 4, 3)) (by decide +kernel) rfl ?_
          refine Ru.putH (i := 192) (by decide +kernel) (by rfl) (hp36 _) (by decide) (Nat.le_of_ble_eq_true rfl) (fk_b (by decide)) (by decide +kernel) (pf_36_36 _ _) ?_
          refine Ru.op (q := (.aload_n 0, 1)) (by decide +kernel) rfl ?_
          refine Ru.getI (i := 201) (x := (S.F 36 43)) (by decide +kernel) (by rfl) (hp36 _) (by decide) rfl (eI_of _) ?_
          refine Ru.op (q := (.iload 4, 2)) (by decide +kernel) rfl ?_
          refine Ru.ar2 (i := .iadd) (z := ((S.F 36 43) + v4)) (by decide +kernel) rfl (ar_add _ _) ?_
          refine Ru.op (q := (.istore 7, 2)) (S' := (107, [some (.ref 36), some (vI v1), some (vI v2), some (vI v3), some (vI v4), some (vI (v3 + (v4 / v2))), some (vI ((v3 + v1) + (v4 % v2))), some (vI ((S.F 36 43) + v4)), d8], [], _, _)) (by decide +kernel) rfl ?_
          refine Ru.op (q := (.aload_n 0, 1)) (by decide +kernel) rfl ?_
          refine Ru.get (i := 81) (v := .ref 58) (by decide +kernel) (by rfl) (hp36 _) (by decide) rfl ?_
          refine Ru.op (q := (.iload 7, 2)) (by decide +kernel) rfl ?_
          refine Ru.op (q := (.aload_n 0, 1)) (by decide +kernel) rfl ?_
          refine Ru.get (i := 81) (v := .ref 58) (by decide +kernel) (by rfl) (hp36 _) (by decide) rfl ?_
          refine Ru.op (q := (.iload 5, 2)) (by decide +kernel) rfl ?_
          refine Ru.ildI (i := (v3 + (v4 / v2))) (z := (S.A 58 (v3 + (v4 / v2)))) (by decide +kernel) (hp58 _) g9 (eI_of _) ?_
          refine Ru.op (q := (.aload_n 0, 1)) (by decide +kernel) rfl ?_
          refine Ru.get (i := 81) (v := .ref 58) (by decide +kernel) (by rfl) (hp36 _) (by decide) rfl ?_
          refine Ru.op (q := (.iload 6, 2)) (by decide +kernel) rfl ?_
          refine Ru.ildI (i := ((v3 + v1) + (v4 % v2))) (z := (S.A 58 ((v3 + v1) + (v4 % v2)))) (by decide +kernel) (hp58 _) g10 (eI_of _) ?_
          refine Ru.ar2 (i := .iadd) (z := ((S.A 58 (v3 + (v4 / v2))) + (S.A 58 ((v3 + v1) + (v4 % v2))))) (by decide +kernel) rfl (ar_add _ _) ?_
          obtain ⟨g13, h⟩ := gd_some h
          refine Ru.istI (i := ((S.F 36 43) + v4)) (x := ((S.A 58 (v3 + (v4 / v2))) + (S.A 58 ((v3 + v1) + (v4 % v2))))) (by decide +kernel) (hp58 _) g13 (ps_58 _ _ _) ?_
          refine Ru.kI (q := (.iconst 0, 1)) (c := 0) (by decide +kernel) rfl (by decide) ?_
          refine Ru.op (q := (.istore 8, 2)) (S' := (132, [some (.ref 36), some (vI v1), some (vI v2), some (vI v3), some (vI v4), some (vI (v3 + (v4 / v2))), some (vI ((v3 + v1) + (v4 % v2))), some (vI ((S.F 36 43) + v4)), some (vI 0)], [], _, _)) (by decide +kernel) rfl ?_
          obtain ⟨o24, e29, h⟩ := ob_some h
          refine g114L132_ok FU _ _ _ e29 _ ?_
          intro d25 d26 d27 d28
          refine Ru.inc (x := v4) (z := (v4 + 1)) (xs' := [some (.ref 36), some (vI v1), some (vI v2), some (vI v3), some (vI (v4 + 1)), d25, d26, d27, d28]) (by decide +kernel) rfl rfl rfl ?_
          refine Ru.op (q := (.goto (-186), 3)) (by decide +kernel) rfl ?_
          exact ih _ _ _ _ _ _ _ h r hk
        · replace h := if_f b12 h
          refine Ru.br2 (k := .le) (off := 7) (bb := true) (tg := 94) (by decide +kernel) (by decide +kernel) (ci_le1 g11 (by decide) b12) rfl ?_
          refine Ru.kI (q := (.iconst 0, 1)) (c := 0) (by decide +kernel) rfl (by decide) ?_
          refine Ru.putH (i := 192) (by decide +kernel) (by rfl) (hp36 _) (by decide) (Nat.le_of_ble_eq_true rfl) (fk_b (by decide)) (by decide +kernel) (pf_36_36 _ _) ?_
          refine Ru.op (q := (.aload_n 0, 1)) (by decide +kernel) rfl ?_
          refine Ru.getI (i := 201) (x := (S.F 36 43)) (by decide +kernel) (by rfl) (hp36 _) (by decide) rfl (eI_of _) ?_
          refine Ru.op (q := (.iload 4, 2)) (by decide +kernel) rfl ?_
          refine Ru.ar2 (i := .iadd) (z := ((S.F 36 43) + v4)) (by decide +kernel) rfl (ar_add _ _) ?_
          refine Ru.op (q := (.istore 7, 2)) (S' := (107, [some (.ref 36), some (vI v1), some (vI v2), some (vI v3), some (vI v4), some (vI (v3 + (v4 / v2))), some (vI ((v3 + v1) + (v4 % v2))), some (vI ((S.F 36 43) + v4)), d8], [], _, _)) (by decide +kernel) rfl ?_
          refine Ru.op (q := (.aload_n 0, 1)) (by decide +kernel) rfl ?_
          refine Ru.get (i := 81) (v := .ref 58) (by decide +kernel) (by rfl) (hp36 _) (by decide) rfl ?_
          refine Ru.op (q := (.iload 7, 2)) (by decide +kernel) rfl ?_
          refine Ru.op (q := (.aload_n 0, 1)) (by decide +kernel) rfl ?_
          refine Ru.get (i := 81) (v := .ref 58) (by decide +kernel) (by rfl) (hp36 _) (by decide) rfl ?_
          refine Ru.op (q := (.iload 5, 2)) (by decide +kernel) rfl ?_
          refine Ru.ildI (i := (v3 + (v4 / v2))) (z := (S.A 58 (v3 + (v4 / v2)))) (by decide +kernel) (hp58 _) g9 (eI_of _) ?_
          refine Ru.op (q := (.aload_n 0, 1)) (by decide +kernel) rfl ?_
          refine Ru.get (i := 81) (v := .ref 58) (by decide +kernel) (by rfl) (hp36 _) (by decide) rfl ?_
          refine Ru.op (q := (.iload 6, 2)) (by decide +kernel) rfl ?_
          refine Ru.ildI (i := ((v3 + v1) + (v4 % v2))) (z := (S.A 58 ((v3 + v1) + (v4 % v2)))) (by decide +kernel) (hp58 _) g10 (eI_of _) ?_
          refine Ru.ar2 (i := .iadd) (z := ((S.A 58 (v3 + (v4 / v2))) + (S.A 58 ((v3 + v1) + (v4 % v2))))) (by decide +kernel) rfl (ar_add _ _) ?_
          obtain ⟨g30, h⟩ := gd_some h
          refine Ru.istI (i := ((S.F 36 43) + v4)) (x := ((S.A 58 (v3 + (v4 / v2))) + (S.A 58 ((v3 + v1) + (v4 % v2))))) (by decide +kernel) (hp58 _) g30 (ps_58 _ _ _) ?_
          refine Ru.kI (q := (.iconst 0, 1)) (c := 0) (by decide +kernel) rfl (by decide) ?_
          refine Ru.op (q := (.istore 8, 2)) (S' := (132, [some (.ref 36), some (vI v1), some (vI v2), some (vI v3), some (vI v4), some (vI (v3 + (v4 / v2))), some (vI ((v3 + v1) + (v4 % v2))), some (vI ((S.F 36 43) + v4)), some (vI 0)], [], _, _)) (by decide +kernel) rfl ?_
          obtain ⟨o31, e36, h⟩ := ob_some h
          refine g114L132_ok FU _ _ _ e36 _ ?_
          intro d32 d33 d34 d35
          refine Ru.inc (x := v4) (z := (v4 + 1)) (xs' := [some (.ref 36), some (vI v1), some (vI v2), some (vI v3), some (vI (v4 + 1)), d32, d33, d34, d35]) (by decide +kernel) rfl rfl rfl ?_
          refine Ru.op (q := (.goto (-186), 3)) (by decide +kernel) rfl ?_
          exact ih _ _ _ _ _ _ _ h r hk
      · replace h := if_f b7 h
        refine Ru.br (k := .ne) (off := 177) (bb := true) (tg := 225) (by decide +kernel) (by decide +kernel) (cz (ci_ne1 (inR_to _) (by decide) b7)) rfl ?_
        cases h
        exact hk _ _ _ _ _
    · replace h := if_f b6 h
      refine Ru.br2 (k := .ge) (off := 184) (bb := true) (tg := 225) (by decide +kernel) (by decide +kernel) (ci_ge1 g4 g5 b6) rfl ?_
      cases h
      exact hk _ _ _ _ _
def g114L267 (v1 : Int) (v2 : Int) (v3 : Int) (v4 : Int) : Nat → Int → St → Option (St)
  | 0, _, _ => none
  | n + 1, v5, S => gd (inR v5) (if v5 < 8 then gd (ixR ((8 * ((S.F 36 43) + v4)) + v5) 2400) (gd (ixR ((8 * (v3 + v4)) + v5) 2400) (g114L267 v1 v2 v3 v4 n (v5 + 1) (S.a 59 ((8 * (v3 + v4)) + v5) (S.A 59 ((8 * ((S.F 36 43) + v4)) + v5))))) else some S)
set_option maxRecDepth 100000 in
set_option maxHeartbeats 4000000 in
theorem g114L267_ok {v1 : Int} {v2 : Int} {v3 : Int} {v4 : Int} : ∀ (n : Nat) (v5 : Int) (S : St) (d6 d7 d8 : Option Value) (out : St), g114L267 v1 v2 v3 v4 n v5 S = some out → ∀ r, (∀ (e5 e6 e7 e8 : Option Value), Ru none 10 200 114 (313, [some (.ref 36), some (vI v1), some (vI v2), some (vI v3), some (vI v4), e5, e6, e7, e8], [], out.ns, Hp out) r) → Ru none 10 200 114 (267, [some (.ref 36), some (vI v1), some (vI v2), some (vI v3), some (vI v4), some (vI v5), d6, d7, d8], [], S.ns, Hp S) r := by
  intro n
  induction n with
  | zero => intro v5 S d6 d7 d8 out h; cases h
  | succ n ih =>
    intro v5 S d6 d7 d8 out h r hk
    unfold g114L267 at h
    refine Ru.op (q := (.iload 5, 2)) (by decide +kernel) rfl ?_
    refine Ru.kI (q := (.bipush 8, 2)) (c := 8) (by decide +kernel) rfl (by decide) ?_
    obtain ⟨g50, h⟩ := gd_some h
    by_cases b51 : v5 < 8
    · replace h := if_t b51 h
      refine Ru.br2 (k := .ge) (off := 42) (bb := false) (tg := 274) (by decide +kernel) (by decide +kernel) (ci_ge0 g50 (by decide) b51) rfl ?_
      refine Ru.op (q := (.aload_n 0, 1)) (by decide +kernel) rfl ?_
      refine Ru.get (i := 84) (v := .ref 59) (by decide +kernel) (by rfl) (hp36 _) (by decide) rfl ?_
      refine Ru.kI (q := (.bipush 8, 2)) (c := 8) (by decide +kernel) rfl (by decide) ?_
      refine Ru.op (q := (.iload_n 3, 1)) (by decide +kernel) rfl ?_
      refine Ru.op (q := (.iload 4, 2)) (by decide +kernel) rfl ?_
      refine Ru.ar2 (i := .iadd) (z := (v3 + v4)) (by decide +kernel) rfl (ar_add _ _) ?_
      refine Ru.ar2 (i := .imul) (z := (8 * (v3 + v4))) (by decide +kernel) rfl (ar_mul _ _) ?_
      refine Ru.op (q := (.iload 5, 2)) (by decide +kernel) rfl ?_
      refine Ru.ar2 (i := .iadd) (z := ((8 * (v3 + v4)) + v5)) (by decide +kernel) rfl (ar_add _ _) ?_
      refine Ru.op (q := (.aload_n 0, 1)) (by decide +kernel) rfl ?_
      refine Ru.get (i := 84) (v := .ref 59) (by decide +kernel) (by rfl) (hp36 _) (by decide) rfl ?_
      refine Ru.kI (q := (.bipush 8, 2)) (c := 8) (by decide +kernel) rfl (by decide) ?_
      refine Ru.op (q := (.aload_n 0, 1)) (by decide +kernel) rfl ?_
      refine Ru.getI (i := 201) (x := (S.F 36 43)) (by decide +kernel) (by rfl) (hp36 _) (by decide) rfl (eI_of _) ?_
      refine Ru.op (q := (.iload 4, 2)) (by decide +kernel) rfl ?_
      refine Ru.ar2 (i := .iadd) (z := ((S.F 36 43) + v4)) (by decide +kernel) rfl (ar_add _ _) ?_
      refine Ru.ar2 (i := .imul) (z := (8 * ((S.F 36 43) + v4))) (by decide +kernel) rfl (ar_mul _ _) ?_
      refine Ru.op (q := (.iload 5, 2)) (by decide +kernel) rfl ?_
      refine Ru.ar2 (i := .iadd) (z := ((8 * ((S.F 36 43) + v4)) + v5)) (by decide +kernel) rfl (ar_add _ _) ?_
      obtain ⟨g52, h⟩ := gd_some h
      refine Ru.ildI (i := ((8 * ((S.F 36 43) + v4)) + v5)) (z := (S.A 59 ((8 * ((S.F 36 43) + v4)) + v5))) (by decide +kernel) (hp59 _) g52 (eI_of _) ?_
      obtain ⟨g53, h⟩ := gd_some h
      refine Ru.istI (i := ((8 * (v3 + v4)) + v5)) (x := (S.A 59 ((8 * ((S.F 36 43) + v4)) + v5))) (by decide +kernel) (hp59 _) g53 (ps_59 _ _ _) ?_
      refine Ru.inc (x := v5) (z := (v5 + 1)) (xs' := [some (.ref 36), some (vI v1), some (vI v2), some (vI v3), some (vI v4), some (vI (v5 + 1)), d6, d7, d8]) (by decide +kernel) rfl rfl rfl ?_
      refine Ru.op (q := (.goto (-43), 3)) (by decide +kernel) rfl ?_
      exact ih _ _ _ _ _ _ h r hk
    · replace h := if_f b51 h
      refine Ru.br2 (k := .ge) (off := 42) (bb := true) (tg := 313) (by decide +kernel) (by decide +kernel) (ci_ge1 g50 (by decide) b51) rfl ?_
      cases h
      exact hk _ _ _ _
def g114L228 (v1 : Int) (v2 : Int) (v3 : Int) : Nat → Int → St → Option (St)
  | 0, _, _ => none
  | n + 1, v4, S => gd (inR v4) (gd (inR (v1 * v2)) (if v4 < (v1 * v2) then if (S.F 36 36) = 0 then gd (ixR ((S.F 36 43) + v4) 300) (gd (ixR (v3 + v4) 300) (ob (g114L267 v1 v2 v3 v4 FU 0 (S.a 58 (v3 + v4) (S.A 58 ((S.F 36 43) + v4)))) (fun o54 => g114L228 v1 v2 v3 n (v4 + 1) o54))) else some S else some S))
set_option maxRecDepth 100000 in
set_option maxHeartbeats 4000000 in
theorem g114L228_ok {v1 : Int} {v2 : Int} {v3 : Int} : ∀ (n : Nat) (v4 : Int) (S : St) (d5 d6 d7 d8 : Option Value) (out : St), g114L228 v1 v2 v3 n v4 S = some out → ∀ r, (∀ (e4 e5 e6 e7 e8 : Option Value), Ru none 10 200 114 (319, [some (.ref 36), some (vI v1), some (vI v2), some (vI v3), e4, e5, e6, e7, e8], [], out.ns, Hp out) r) → Ru none 10 200 114 (228, [some (.ref 36), some (vI v1), some (vI v2), some (vI v3), some (vI v4), d5, d6, d7, d8], [], S.ns, Hp S) r := by
  intro n
  induction n with
  | zero => intro v4 S d5 d6 d7 d8 out h; cases h
  | succ n ih =>
    intro v4 S d5 d6 d7 d8 out h r hk
    unfold g114L228 at h
    refine Ru.op (q := (.iload 4, 2)) (by decide +kernel) rfl ?_
    refine Ru.op (q := (.iload_n 1, 1)) (by decide +kernel) rfl ?_
    refine Ru.op (q := (.iload_n 2, 1)) (by decide +kernel) rfl ?_
    refine Ru.ar2 (i := .imul) (z := (v1 * v2)) (by decide +kernel) rfl (ar_mul _ _) ?_
    obtain ⟨g44, h⟩ := gd_some h
    obtain ⟨g45, h⟩ := gd_some h
    by_cases b46 : v4 < (v1 * v2)
    · replace h := if_t b46 h
      refine Ru.br2 (k := .ge) (off := 86) (bb := false) (tg := 236) (by decide +kernel) (by decide +kernel) (ci_ge0 g44 g45 b46) rfl ?_
      refine Ru.op (q := (.aload_n 0, 1)) (by decide +kernel) rfl ?_
      refine Ru.getI (i := 192) (x := (S.F 36 36)) (by decide +kernel) (by rfl) (hp36 _) (by decide) rfl (eI_of _) ?_
      by_cases b47 : (S.F 36 36) = 0
      · replace h := if_t b47 h
        refine Ru.br (k := .ne) (off := 79) (bb := false) (tg := 243) (by decide +kernel) (by decide +kernel) (cz (ci_ne0 (inR_to _) (by decide) b47)) rfl ?_
        refine Ru.op (q := (.aload_n 0, 1)) (by decide +kernel) rfl ?_
        refine Ru.get (i := 81) (v := .ref 58) (by decide +kernel) (by rfl) (hp36 _) (by decide) rfl ?_
        refine Ru.op (q := (.iload_n 3, 1)) (by decide +kernel) rfl ?_
        refine Ru.op (q := (.iload 4, 2)) (by decide +kernel) rfl ?_
        refine Ru.ar2 (i := .iadd) (z := (v3 + v4)) (by decide +kernel) rfl (ar_add _ _) ?_
        refine Ru.op (q := (.aload_n 0, 1)) (by decide +kernel) rfl ?_
        refine Ru.get (i := 81) (v := .ref 58) (by decide +kernel) (by rfl) (hp36 _) (by decide) rfl ?_
        refine Ru.op (q := (.aload_n 0, 1)) (by decide +kernel) rfl ?_
        refine Ru.getI (i := 201) (x := (S.F 36 43)) (by decide +kernel) (by rfl) (hp36 _) (by decide) rfl (eI_of _) ?_
        refine Ru.op (q := (.iload 4, 2)) (by decide +kernel) rfl ?_
        refine Ru.ar2 (i := .iadd) (z := ((S.F 36 43) + v4)) (by decide +kernel) rfl (ar_add _ _) ?_
        obtain ⟨g48, h⟩ := gd_some h
        refine Ru.ildI (i := ((S.F 36 43) + v4)) (z := (S.A 58 ((S.F 36 43) + v4))) (by decide +kernel) (hp58 _) g48 (eI_of _) ?_
        obtain ⟨g49, h⟩ := gd_some h
        refine Ru.istI (i := (v3 + v4)) (x := (S.A 58 ((S.F 36 43) + v4))) (by decide +kernel) (hp58 _) g49 (ps_58 _ _ _) ?_
        refine Ru.kI (q := (.iconst 0, 1)) (c := 0) (by decide +kernel) rfl (by decide) ?_
        refine Ru.op (q := (.istore 5, 2)) (S' := (267, [some (.ref 36), some (vI v1), some (vI v2), some (vI v3), some (vI v4), some (vI 0), d6, d7, d8], [], _, _)) (by decide +kernel) rfl ?_
        obtain ⟨o54, e59, h⟩ := ob_some h
        refine g114L267_ok FU _ _ _ _ _ _ e59 _ ?_
        intro d55 d56 d57 d58
        refine Ru.inc (x := v4) (z := (v4 + 1)) (xs' := [some (.ref 36), some (vI v1), some (vI v2), some (vI v3), some (vI (v4 + 1)), d55, d56, d57, d58]) (by decide +kernel) rfl rfl rfl ?_
        refine Ru.op (q := (.goto (-88), 3)) (by decide +kernel) rfl ?_
        exact ih _ _ _ _ _ _ _ h r hk
      · replace h := if_f b47 h
        refine Ru.br (k := .ne) (off := 79) (bb := true) (tg := 319) (by decide +kernel) (by decide +kernel) (cz (ci_ne1 (inR_to _) (by decide) b47)) rfl ?_
        cases h
        exact hk _ _ _ _ _
    · replace h := if_f b46 h
      refine Ru.br2 (k := .ge) (off := 86) (bb := true) (tg := 319) (by decide +kernel) (by decide +kernel) (ci_ge1 g44 g45 b46) rfl ?_
      cases h
      exact hk _ _ _ _ _
def g114 (S : St) (v1 : Int) (v2 : Int) : Option (Int × St) := if (S.F 36 36) = 0 then gd (inR (v1 * v2)) (if 16 < (v1 * v2) then ob (g114L36 v1 v2 (((S.F 36 43) - v1) - v2) FU 0 (S.f 36 36 1)) (fun o37 => ob (g114L228 v1 v2 (((S.F 36 43) - v1) - v2) FU 0 o37) (fun o60 => some ((v1 * v2), (o60.f 36 43 ((((S.F 36 43) - v1) - v2) + (v1 * v2)))))) else ob (g114L36 v1 v2 (((S.F 36 43) - v1) - v2) FU 0 (S.f 36 36 0)) (fun o67 => ob (g114L228 v1 v2 (((S.F 36 43) - v1) - v2) FU 0 o67) (fun o74 => some ((v1 * v2), (o74.f 36 43 ((((S.F 36 43) - v1) - v2) + (v1 * v2))))))) else ob (g114L36 v1 v2 (((S.F 36 43) - v1) - v2) FU 0 (S.f 36 36 1)) (fun o81 => ob (g114L228 v1 v2 (((S.F 36 43) - v1) - v2) FU 0 o81) (fun o88 => some ((v1 * v2), (o88.f 36 43 ((((S.F 36 43) - v1) - v2) + (v1 * v2))))))
set_option maxRecDepth 100000 in
set_option maxHeartbeats 4000000 in
theorem g114_ok {S : St} {v1 : Int} {v2 : Int} {o : Int × St} (h : g114 S v1 v2 = some o) : Ru none 10 200 114 (0, mn_pad (mn_ent [.ref 36, vI v1, vI v2]) 9, [], S.ns, Hp S) ((0, some (vI o.1)), o.2.ns, Hp o.2) := by
  unfold g114 at h
  show Ru none 10 200 114 (0, [some (.ref 36), some (vI v1), some (vI v2), none, none, none, none, none, none], [], S.ns, Hp S) _
  refine Ru.op (q := (.aload_n 0, 1)) (by decide +kernel) rfl ?_
  refine Ru.op (q := (.aload_n 0, 1)) (by decide +kernel) rfl ?_
  refine Ru.getI (i := 192) (x := (S.F 36 36)) (by decide +kernel) (by rfl) (hp36 _) (by decide) rfl (eI_of _) ?_
  by_cases b1 : (S.F 36 36) = 0
  · replace h := if_t b1 h
    refine Ru.br (k := .ne) (off := 11) (bb := false) (tg := 8) (by decide +kernel) (by decide +kernel) (cz (ci_ne0 (inR_to _) (by decide) b1)) rfl ?_
    refine Ru.op (q := (.iload_n 1, 1)) (by decide +kernel) rfl ?_
    refine Ru.op (q := (.iload_n 2, 1)) (by decide +kernel) rfl ?_
    refine Ru.ar2 (i := .imul) (z := (v1 * v2)) (by decide +kernel) rfl (ar_mul _ _) ?_
    refine Ru.kI (q := (.bipush 16, 2)) (c := 16) (by decide +kernel) rfl (by decide) ?_
    obtain ⟨g2, h⟩ := gd_some h
    by_cases b3 : 16 < (v1 * v2)
    · replace h := if_t b3 h
      refine Ru.br2 (k := .le) (off := 7) (bb := false) (tg := 16) (by decide +kernel) (by decide +kernel) (ci_le0 g2 (by decide) b3) rfl ?_
      refine Ru.kI (q := (.iconst 1, 1)) (c := 1) (by decide +kernel) rfl (by decide) ?_
      refine Ru.op (q := (.goto 4, 3)) (by decide +kernel) rfl ?_
      refine Ru.putH (i := 192) (by decide +kernel) (by rfl) (hp36 _) (by decide) (Nat.le_of_ble_eq_true rfl) (fk_b (by decide)) (by decide +kernel) (pf_36_36 _ _) ?_
      refine Ru.op (q := (.aload_n 0, 1)) (by decide +kernel) rfl ?_
      refine Ru.getI (i := 201) (x := (S.F 36 43)) (by decide +kernel) (by rfl) (hp36 _) (by decide) rfl (eI_of _) ?_
      refine Ru.op (q := (.iload_n 1, 1)) (by decide +kernel) rfl ?_
      refine Ru.ar2 (i := .isub) (z := ((S.F 36 43) - v1)) (by decide +kernel) rfl (ar_sub _ _) ?_
      refine Ru.op (q := (.iload_n 2, 1)) (by decide +kernel) rfl ?_
      refine Ru.ar2 (i := .isub) (z := (((S.F 36 43) - v1) - v2)) (by decide +kernel) rfl (ar_sub _ _) ?_
      refine Ru.op (q := (.istore_n 3, 1)) (S' := (33, [some (.ref 36), some (vI v1), some (vI v2), some (vI (((S.F 36 43) - v1) - v2)), none, none, none, none, none], [], _, _)) (by decide +kernel) rfl ?_
      refine Ru.kI (q := (.iconst 0, 1)) (c := 0) (by decide +kernel) rfl (by decide) ?_
      refine Ru.op (q := (.istore 4, 2)) (S' := (36, [some (.ref 36), some (vI v1), some (vI v2), some (vI (((S.F 36 43) - v1) - v2)), some (vI 0), none, none, none, none], [], _, _)) (by decide +kernel) rfl ?_
      obtain ⟨o37, e43, h⟩ := ob_some h
      refine g114L36_ok FU _ _ _ _ _ _ _ e43 _ ?_
      intro d38 d39 d40 d41 d42
      refine Ru.kI (q := (.iconst 0, 1)) (c := 0) (by decide +kernel) rfl (by decide) ?_
      refine Ru.op (q := (.istore 4, 2)) (S' := (228, [some (.ref 36), some (vI v1), some (vI v2), some (vI (((S.F 36 43) - v1) - v2)), some (vI 0), d39, d40, d41, d42], [], _, _)) (by decide +kernel) rfl ?_
      obtain ⟨o60, e66, h⟩ := ob_some h
      refine g114L228_ok FU _ _ _ _ _ _ _ e66 _ ?_
      intro d61 d62 d63 d64 d65
      refine Ru.op (q := (.aload_n 0, 1)) (by decide +kernel) rfl ?_
      refine Ru.op (q := (.iload_n 3, 1)) (by decide +kernel) rfl ?_
      refine Ru.op (q := (.iload_n 1, 1)) (by decide +kernel) rfl ?_
      refine Ru.op (q := (.iload_n 2, 1)) (by decide +kernel) rfl ?_
      refine Ru.ar2 (i := .imul) (z := (v1 * v2)) (by decide +kernel) rfl (ar_mul _ _) ?_
      refine Ru.ar2 (i := .iadd) (z := ((((S.F 36 43) - v1) - v2) + (v1 * v2))) (by decide +kernel) rfl (ar_add _ _) ?_
      refine Ru.putH (i := 201) (by decide +kernel) (by rfl) (hp36 _) (by decide) (Nat.le_of_ble_eq_true rfl) rfl (by decide +kernel) (pf_36_43 _ _) ?_
      refine Ru.op (q := (.iload_n 1, 1)) (by decide +kernel) rfl ?_
      refine Ru.op (q := (.iload_n 2, 1)) (by decide +kernel) rfl ?_
      refine Ru.ar2 (i := .imul) (z := (v1 * v2)) (by decide +kernel) rfl (ar_mul _ _) ?_
      cases h
      exact Ru.iret (by decide +kernel) rfl rfl
    · replace h := if_f b3 h
      refine Ru.br2 (k := .le) (off := 7) (bb := true) (tg := 20) (by decide +kernel) (by decide +kernel) (ci_le1 g2 (by decide) b3) rfl ?_
      refine Ru.kI (q := (.iconst 0, 1)) (c := 0) (by decide +kernel) rfl (by decide) ?_
      refine Ru.putH (i := 192) (by decide +kernel) (by rfl) (hp36 _) (by decide) (Nat.le_of_ble_eq_true rfl) (fk_b (by decide)) (by decide +kernel) (pf_36_36 _ _) ?_
      refine Ru.op (q := (.aload_n 0, 1)) (by decide +kernel) rfl ?_
      refine Ru.getI (i := 201) (x := (S.F 36 43)) (by decide +kernel) (by rfl) (hp36 _) (by decide) rfl (eI_of _) ?_
      refine Ru.op (q := (.iload_n 1, 1)) (by decide +kernel) rfl ?_
      refine Ru.ar2 (i := .isub) (z := ((S.F 36 43) - v1)) (by decide +kernel) rfl (ar_sub _ _) ?_
      refine Ru.op (q := (.iload_n 2, 1)) (by decide +kernel) rfl ?_
      refine Ru.ar2 (i := .isub) (z := (((S.F 36 43) - v1) - v2)) (by decide +kernel) rfl (ar_sub _ _) ?_
      refine Ru.op (q := (.istore_n 3, 1)) (S' := (33, [some (.ref 36), some (vI v1), some (vI v2), some (vI (((S.F 36 43) - v1) - v2)), none, none, none, none, none], [], _, _)) (by decide +kernel) rfl ?_
      refine Ru.kI (q := (.iconst 0, 1)) (c := 0) (by decide +kernel) rfl (by decide) ?_
      refine Ru.op (q := (.istore 4, 2)) (S' := (36, [some (.ref 36), some (vI v1), some (vI v2), some (vI (((S.F 36 43) - v1) - v2)), some (vI 0), none, none, none, none], [], _, _)) (by decide +kernel) rfl ?_
      obtain ⟨o67, e73, h⟩ := ob_some h
      refine g114L36_ok FU _ _ _ _ _ _ _ e73 _ ?_
      intro d68 d69 d70 d71 d72
      refine Ru.kI (q := (.iconst 0, 1)) (c := 0) (by decide +kernel) rfl (by decide) ?_
      refine Ru.op (q := (.istore 4, 2)) (S' := (228, [some (.ref 36), some (vI v1), some (vI v2), some (vI (((S.F 36 43) - v1) - v2)), some (vI 0), d69, d70, d71, d72], [], _, _)) (by decide +kernel) rfl ?_
      obtain ⟨o74, e80, h⟩ := ob_some h
      refine g114L228_ok FU _ _ _ _ _ _ _ e80 _ ?_
      intro d75 d76 d77 d78 d79
      refine Ru.op (q := (.aload_n 0, 1)) (by decide +kernel) rfl ?_
      refine Ru.op (q := (.iload_n 3, 1)) (by decide +kernel) rfl ?_
      refine Ru.op (q := (.iload_n 1, 1)) (by decide +kernel) rfl ?_
      refine Ru.op (q := (.iload_n 2, 1)) (by decide +kernel) rfl ?_
      refine Ru.ar2 (i := .imul) (z := (v1 * v2)) (by decide +kernel) rfl (ar_mul _ _) ?_
      refine Ru.ar2 (i := .iadd) (z := ((((S.F 36 43) - v1) - v2) + (v1 * v2))) (by decide +kernel) rfl (ar_add _ _) ?_
      refine Ru.putH (i := 201) (by decide +kernel) (by rfl) (hp36 _) (by decide) (Nat.le_of_ble_eq_true rfl) rfl (by decide +kernel) (pf_36_43 _ _) ?_
      refine Ru.op (q := (.iload_n 1, 1)) (by decide +kernel) rfl ?_
      refine Ru.op (q := (.iload_n 2, 1)) (by decide +kernel) rfl ?_
      refine Ru.ar2 (i := .imul) (z := (v1 * v2)) (by decide +kernel) rfl (ar_mul _ _) ?_
      cases h
      exact Ru.iret (by decide +kernel) rfl rfl
  · replace h := if_f b1 h
    refine Ru.br (k := .ne) (off := 11) (bb := true) (tg := 16) (by decide +kernel) (by decide +kernel) (cz (ci_ne1 (inR_to _) (by decide) b1)) rfl ?_
    refine Ru.kI (q := (.iconst 1, 1)) (c := 1) (by decide +kernel) rfl (by decide) ?_
    refine Ru.op (q := (.goto 4, 3)) (by decide +kernel) rfl ?_
    refine Ru.putH (i := 192) (by decide +kernel) (by rfl) (hp36 _) (by decide) (Nat.le_of_ble_eq_true rfl) (fk_b (by decide)) (by decide +kernel) (pf_36_36 _ _) ?_
    refine Ru.op (q := (.aload_n 0, 1)) (by decide +kernel) rfl ?_
    refine Ru.getI (i := 201) (x := (S.F 36 43)) (by decide +kernel) (by rfl) (hp36 _) (by decide) rfl (eI_of _) ?_
    refine Ru.op (q := (.iload_n 1, 1)) (by decide +kernel) rfl ?_
    refine Ru.ar2 (i := .isub) (z := ((S.F 36 43) - v1)) (by decide +kernel) rfl (ar_sub _ _) ?_
    refine Ru.op (q := (.iload_n 2, 1)) (by decide +kernel) rfl ?_
    refine Ru.ar2 (i := .isub) (z := (((S.F 36 43) - v1) - v2)) (by decide +kernel) rfl (ar_sub _ _) ?_
    refine Ru.op (q := (.istore_n 3, 1)) (S' := (33, [some (.ref 36), some (vI v1), some (vI v2), some (vI (((S.F 36 43) - v1) - v2)), none, none, none, none, none], [], _, _)) (by decide +kernel) rfl ?_
    refine Ru.kI (q := (.iconst 0, 1)) (c := 0) (by decide +kernel) rfl (by decide) ?_
    refine Ru.op (q := (.istore 4, 2)) (S' := (36, [some (.ref 36), some (vI v1), some (vI v2), some (vI (((S.F 36 43) - v1) - v2)), some (vI 0), none, none, none, none], [], _, _)) (by decide +kernel) rfl ?_
    obtain ⟨o81, e87, h⟩ := ob_some h
    refine g114L36_ok FU _ _ _ _ _ _ _ e87 _ ?_
    intro d82 d83 d84 d85 d86
    refine Ru.kI (q := (.iconst 0, 1)) (c := 0) (by decide +kernel) rfl (by decide) ?_
    refine Ru.op (q := (.istore 4, 2)) (S' := (228, [some (.ref 36), some (vI v1), some (vI v2), some (vI (((S.F 36 43) - v1) - v2)), some (vI 0), d83, d84, d85, d86], [], _, _)) (by decide +kernel) rfl ?_
    obtain ⟨o88, e94, h⟩ := ob_some h
    refine g114L228_ok FU _ _ _ _ _ _ _ e94 _ ?_
    intro d89 d90 d91 d92 d93
    refine Ru.op (q := (.aload_n 0, 1)) (by decide +kernel) rfl ?_
    refine Ru.op (q := (.iload_n 3, 1)) (by decide +kernel) rfl ?_
    refine Ru.op (q := (.iload_n 1, 1)) (by decide +kernel) rfl ?_
    refine Ru.op (q := (.iload_n 2, 1)) (by decide +kernel) rfl ?_
    refine Ru.ar2 (i := .imul) (z := (v1 * v2)) (by decide +kernel) rfl (ar_mul _ _) ?_
    refine Ru.ar2 (i := .iadd) (z := ((((S.F 36 43) - v1) - v2) + (v1 * v2))) (by decide +kernel) rfl (ar_add _ _) ?_
    refine Ru.putH (i := 201) (by decide +kernel) (by rfl) (hp36 _) (by decide) (Nat.le_of_ble_eq_true rfl) rfl (by decide +kernel) (pf_36_43 _ _) ?_
    refine Ru.op (q := (.iload_n 1, 1)) (by decide +kernel) rfl ?_
    refine Ru.op (q := (.iload_n 2, 1)) (by decide +kernel) rfl ?_
    refine Ru.ar2 (i := .imul) (z := (v1 * v2)) (by decide +kernel) rfl (ar_mul _ _) ?_
    cases h
    exact Ru.iret (by decide +kernel) rfl rfl
