set_option maxRecDepth 100000 in
set_option maxHeartbeats 4000000 in
theorem g158L223_ok {v1 : Int} {v2 : Int} {v3 : Int} {v4 : Int} : ∀ (n : Nat) (v5 : Int) (S : St) (d6 : Option Value) (_ : DD [d6]) (out : St), g158L223 v1 v2 v3 v4 n v5 S = some out → ∀ r, (∀ (e5 e6 : Option Value), DD [e5, e6] → Ru none 18 391 158 (266, [some (.ref 36), some (vI v1), some (vI v2), some (vI v3), some (vI v4), e5, e6], [], out.ns, Hp out) r) → Ru none 18 391 158 (223, [some (.ref 36), some (vI v1), some (vI v2), some (vI v3), some (vI v4), some (vI v5), d6], [], S.ns, Hp S) r := by
  intro n
  induction n with
  | zero => intro v5 S d6 hdd out h; cases h
  | succ n ih =>
    intro v5 S d6 hdd out h r hk
    unfold g158L223 at h
    refine Ru.op (q := (.iload 5, 2)) (S' := (225, _, _, _, _)) (by decide +kernel) rfl ?_
    refine Ru.op (q := (.aload_n 0, 1)) (S' := (226, _, _, _, _)) (by decide +kernel) rfl ?_
    refine Ru.getI (pc' := 229) (i := 186) (ci := 10) (k := 46) (nn := 0) (z := 0) (x := (S.F 36 46)) (by decide +kernel) (by decide +kernel) (hp36 _) (by decide) rfl (eI_of _) rfl ?_
    obtain ⟨g13, h⟩ := gd_some h
    by_cases b14 : v5 < (S.F 36 46)
    · replace h := if_t b14 h
      refine Ru.br2 (k := .ge) (off := 37) (bb := false) (tg := 232) (by decide +kernel) (by decide +kernel) (ci_ge0 g13 (inR_to _) b14) rfl ?_
      refine Ru.op (q := (.aload_n 0, 1)) (S' := (233, _, _, _, _)) (by decide +kernel) rfl ?_
      refine Ru.getR (pc' := 236) (i := 51) (ci := 10) (k := 25) (nn := 0) (z := 0) (v := .ref 48) (by decide +kernel) (by decide +kernel) (hp36 _) (by decide) rfl rfl ?_
      refine Ru.op (q := (.iload 5, 2)) (S' := (238, _, _, _, _)) (by decide +kernel) rfl ?_
      refine Ru.op (q := (.aload_n 0, 1)) (S' := (239, _, _, _, _)) (by decide +kernel) rfl ?_
      refine Ru.getR (pc' := 242) (i := 87) (ci := 10) (k := 47) (nn := 0) (z := 0) (v := .ref 60) (by decide +kernel) (by decide +kernel) (hp36 _) (by decide) rfl rfl ?_
      refine Ru.op (q := (.iload 5, 2)) (S' := (244, _, _, _, _)) (by decide +kernel) rfl ?_
      obtain ⟨g15, h⟩ := gd_some h
      refine Ru.ildI (pc' := 245) (i := v5) (z := (S.A 60 v5)) (by decide +kernel) (hp60 _) g15 (eI_of _) rfl ?_
      refine Ru.istI (pc' := 246) (i := v5) (x := (S.A 60 v5)) (by decide +kernel) (hp48 _) g15 (ps_48 _ _ _) rfl ?_
      refine Ru.op (q := (.aload_n 0, 1)) (S' := (247, _, _, _, _)) (by decide +kernel) rfl ?_
      refine Ru.getR (pc' := 250) (i := 54) (ci := 10) (k := 26) (nn := 0) (z := 0) (v := .ref 49) (by decide +kernel) (by decide +kernel) (hp36 _) (by decide) rfl rfl ?_
      refine Ru.op (q := (.iload 5, 2)) (S' := (252, _, _, _, _)) (by decide +kernel) rfl ?_
      refine Ru.op (q := (.aload_n 0, 1)) (S' := (253, _, _, _, _)) (by decide +kernel) rfl ?_
      refine Ru.getR (pc' := 256) (i := 90) (ci := 10) (k := 48) (nn := 0) (z := 0) (v := .ref 61) (by decide +kernel) (by decide +kernel) (hp36 _) (by decide) rfl rfl ?_
      refine Ru.op (q := (.iload 5, 2)) (S' := (258, _, _, _, _)) (by decide +kernel) rfl ?_
      refine Ru.bldI (pc' := 259) (i := v5) (z := (S.A 61 v5)) (by decide +kernel) (hp61 _) g15 (eI_of _) rfl ?_
      obtain ⟨g16, h⟩ := gd_some h
      refine Ru.bstI (pc' := 260) (i := v5) (x := (S.A 61 v5)) (by decide +kernel) (hp49 _) g15 g16 (ps_49 _ _ _) rfl ?_
      refine Ru.inc (k := 5) (n := 1) (x := v5) (z := (v5 + 1)) (xs' := [some (.ref 36), some (vI v1), some (vI v2), some (vI v3), some (vI v4), some (vI (v5 + 1)), d6]) (pc' := 263) (by decide +kernel) rfl rfl rfl rfl ?_
      refine Ru.op (q := (.goto (-40), 3)) (S' := (223, _, _, _, _)) (by decide +kernel) rfl ?_
      exact ih _ _ _ ⟨hdd.1, trivial⟩ _ h r hk
    · replace h := if_f b14 h
      refine Ru.br2 (k := .ge) (off := 37) (bb := true) (tg := 266) (by decide +kernel) (by decide +kernel) (ci_ge1 g13 (inR_to _) b14) rfl ?_
      cases h
      exact hk _ _ ⟨rfl, hdd.1, trivial⟩
set_option maxRecDepth 100000 in
set_option maxHeartbeats 4000000 in
theorem g158C212_ok {S : St} {v1 : Int} {v2 : Int} {v3 : Int} {v4 : Int} {d5 d6 : Option Value} (hdd : DD [d5, d6]) {o : Int × St} (h : g158C212 S v1 v2 v3 v4 = some o) : Ru none 18 391 158 (212, [some (.ref 36), some (vI v1), some (vI v2), some (vI v3), some (vI v4), d5, d6], [], S.ns, Hp S) ((0, some (vI o.1)), o.2.ns, Hp o.2) := by
  unfold g158C212 at h
  refine Ru.op (q := (.aload_n 0, 1)) (S' := (213, _, _, _, _)) (by decide +kernel) rfl ?_
  refine Ru.op (q := (.aload_n 0, 1)) (S' := (214, _, _, _, _)) (by decide +kernel) rfl ?_
  refine Ru.getI (pc' := 217) (i := 186) (ci := 10) (k := 46) (nn := 0) (z := 0) (x := (S.F 36 46)) (by decide +kernel) (by decide +kernel) (hp36 _) (by decide) rfl (eI_of _) rfl ?_
  refine Ru.putH (pc' := 220) (i := 246) (ci := 10) (k := 24) (nn := 0) (z := 0) (by decide +kernel) (by decide +kernel) (hp36 _) (by decide) (Nat.le_of_ble_eq_true rfl) rfl (by decide +kernel) (pf_36_24 _ _) rfl ?_
  refine Ru.kI (q := (.iconst 0, 1)) (c := 0) (pc' := 221) (by decide +kernel) rfl (by decide) rfl ?_
  refine Ru.op (q := (.istore 5, 2)) (S' := (223, [some (.ref 36), some (vI v1), some (vI v2), some (vI v3), some (vI v4), some (vI 0), d6], [], _, _)) (by decide +kernel) rfl ?_
  obtain ⟨o17, e20, h⟩ := ob_some h
  refine g158L223_ok FU _ _ _ ⟨hdd.2.1, trivial⟩ _ e20 _ ?_
  intro d18 d19 hd21
  refine Ru.op (q := (.aload_n 0, 1)) (S' := (267, _, _, _, _)) (by decide +kernel) rfl ?_
  refine Ru.getI (pc' := 270) (i := 120) (ci := 10) (k := 0) (nn := 0) (z := 0) (x := (o17.F 36 0)) (by decide +kernel) (by decide +kernel) (hp36 _) (by decide) rfl (eI_of _) rfl ?_
  by_cases b22 : (o17.F 36 0) = 0
  · replace h := if_t b22 h
    refine Ru.br (k := .ne) (off := 36) (bb := false) (tg := 273) (by decide +kernel) (by decide +kernel) (cz (ci_ne0 (inR_to _) (by decide) b22)) rfl ?_
    refine Ru.op (q := (.aload_n 0, 1)) (S' := (274, _, _, _, _)) (by decide +kernel) rfl ?_
    refine Ru.getI (pc' := 277) (i := 356) (ci := 10) (k := 10) (nn := 0) (z := 0) (x := (o17.F 36 10)) (by decide +kernel) (by decide +kernel) (hp36 _) (by decide) rfl (eI_of _) rfl ?_
    refine Ru.kI (q := (.bipush 24, 2)) (c := 24) (pc' := 279) (by decide +kernel) rfl (by decide) rfl ?_
    by_cases b23 : (o17.F 36 10) = 24
    · replace h := if_t b23 h
      refine Ru.br2 (k := .eq) (off := 22) (bb := true) (tg := 301) (by decide +kernel) (by decide +kernel) (ci_eq1 (inR_to _) (by decide) b23) rfl ?_
      refine Ru.op (q := (.aload_n 0, 1)) (S' := (302, _, _, _, _)) (by decide +kernel) rfl ?_
      refine Ru.kI (q := (.iconst 3, 1)) (c := 3) (pc' := 303) (by decide +kernel) rfl (by decide) rfl ?_
      refine Ru.putH (pc' := 306) (i := 120) (ci := 10) (k := 0) (nn := 0) (z := 0) (by decide +kernel) (by decide +kernel) (hp36 _) (by decide) (Nat.le_of_ble_eq_true rfl) rfl (by decide +kernel) (pf_36_0 _ _) rfl ?_
      refine Ru.op (q := (.aload_n 0, 1)) (S' := (307, _, _, _, _)) (by decide +kernel) rfl ?_
      refine Ru.getI (pc' := 310) (i := 120) (ci := 10) (k := 0) (nn := 0) (z := 0) (x := 3) (by decide +kernel) (by decide +kernel) (hp36 _) (by decide) rfl rfl rfl ?_
      refine Ru.br (k := .le) (off := 5) (bb := false) (tg := 313) (by decide +kernel) (by decide +kernel) (by decide) rfl ?_
      refine Ru.kI (q := (.iconst 0, 1)) (c := 0) (pc' := 314) (by decide +kernel) rfl (by decide) rfl ?_
      cases h
      exact Ru.iret (by decide +kernel) rfl rfl
    · replace h := if_f b23 h
      refine Ru.br2 (k := .eq) (off := 22) (bb := false) (tg := 282) (by decide +kernel) (by decide +kernel) (ci_eq0 (inR_to _) (by decide) b23) rfl ?_
      refine Ru.op (q := (.aload_n 0, 1)) (S' := (283, _, _, _, _)) (by decide +kernel) rfl ?_
      obtain ⟨o24, e25, h⟩ := ob_some h
      refine Ru.vcallI (pc' := 286) (st' := [vI o24.1]) (i := 269) (j2 := 119) (ci := 10) (k := 0) (z := 0) (as := []) (by decide +kernel) (by decide +kernel) rfl rfl (hp36 _) (by decide) ⟨(Nat.le_of_ble_eq_true rfl), (by show 19 + 9 ≤ 391; exact Nat.le_of_ble_eq_true rfl), Nat.le_of_ble_eq_true rfl, Nat.le_of_ble_eq_true rfl⟩ ((g119_ok e25).up (Nat.le_of_ble_eq_true rfl) (Nat.le_of_ble_eq_true rfl)) rfl rfl ?_
      obtain ⟨g26, h⟩ := gd_some h
      by_cases b27 : o24.1 = 0
      · replace h := if_t b27 h
        refine Ru.br (k := .eq) (off := 15) (bb := true) (tg := 301) (by decide +kernel) (by decide +kernel) (cz (ci_eq1 g26 (by decide) b27)) rfl ?_
        refine Ru.op (q := (.aload_n 0, 1)) (S' := (302, _, _, _, _)) (by decide +kernel) rfl ?_
        refine Ru.kI (q := (.iconst 3, 1)) (c := 3) (pc' := 303) (by decide +kernel) rfl (by decide) rfl ?_
        refine Ru.putH (pc' := 306) (i := 120) (ci := 10) (k := 0) (nn := 0) (z := 0) (by decide +kernel) (by decide +kernel) (hp36 _) (by decide) (Nat.le_of_ble_eq_true rfl) rfl (by decide +kernel) (pf_36_0 _ _) rfl ?_
        refine Ru.op (q := (.aload_n 0, 1)) (S' := (307, _, _, _, _)) (by decide +kernel) rfl ?_
        refine Ru.getI (pc' := 310) (i := 120) (ci := 10) (k := 0) (nn := 0) (z := 0) (x := 3) (by decide +kernel) (by decide +kernel) (hp36 _) (by decide) rfl rfl rfl ?_
        refine Ru.br (k := .le) (off := 5) (bb := false) (tg := 313) (by decide +kernel) (by decide +kernel) (by decide) rfl ?_
        refine Ru.kI (q := (.iconst 0, 1)) (c := 0) (pc' := 314) (by decide +kernel) rfl (by decide) rfl ?_
        cases h
        exact Ru.iret (by decide +kernel) rfl rfl
      · replace h := if_f b27 h
        refine Ru.br (k := .eq) (off := 15) (bb := false) (tg := 289) (by decide +kernel) (by decide +kernel) (cz (ci_eq0 g26 (by decide) b27)) rfl ?_
        refine Ru.op (q := (.aload_n 0, 1)) (S' := (290, _, _, _, _)) (by decide +kernel) rfl ?_
        refine Ru.getR (pc' := 293) (i := 30) (ci := 10) (k := 8) (nn := 0) (z := 0) (v := .ref 42) (by decide +kernel) (by decide +kernel) (hp36 _) (by decide) rfl rfl ?_
        refine Ru.kI (q := (.bipush 124, 2)) (c := 124) (pc' := 295) (by decide +kernel) rfl (by decide) rfl ?_
        refine Ru.ildI (pc' := 296) (i := 124) (z := (o24.2.A 42 124)) (by decide +kernel) (hp42 _) (by decide) (eI_of _) rfl ?_
        refine Ru.kI (q := (.bipush 16, 2)) (c := 16) (pc' := 298) (by decide +kernel) rfl (by decide) rfl ?_
        by_cases b28 : 16 < (o24.2.A 42 124)
        · replace h := if_t b28 h
          refine Ru.br2 (k := .le) (off := 8) (bb := false) (tg := 301) (by decide +kernel) (by decide +kernel) (ci_le0 (inR_to _) (by decide) b28) rfl ?_
          refine Ru.op (q := (.aload_n 0, 1)) (S' := (302, _, _, _, _)) (by decide +kernel) rfl ?_
          refine Ru.kI (q := (.iconst 3, 1)) (c := 3) (pc' := 303) (by decide +kernel) rfl (by decide) rfl ?_
          refine Ru.putH (pc' := 306) (i := 120) (ci := 10) (k := 0) (nn := 0) (z := 0) (by decide +kernel) (by decide +kernel) (hp36 _) (by decide) (Nat.le_of_ble_eq_true rfl) rfl (by decide +kernel) (pf_36_0 _ _) rfl ?_
          refine Ru.op (q := (.aload_n 0, 1)) (S' := (307, _, _, _, _)) (by decide +kernel) rfl ?_
          refine Ru.getI (pc' := 310) (i := 120) (ci := 10) (k := 0) (nn := 0) (z := 0) (x := 3) (by decide +kernel) (by decide +kernel) (hp36 _) (by decide) rfl rfl rfl ?_
          refine Ru.br (k := .le) (off := 5) (bb := false) (tg := 313) (by decide +kernel) (by decide +kernel) (by decide) rfl ?_
          refine Ru.kI (q := (.iconst 0, 1)) (c := 0) (pc' := 314) (by decide +kernel) rfl (by decide) rfl ?_
          cases h
          exact Ru.iret (by decide +kernel) rfl rfl
        · replace h := if_f b28 h
          refine Ru.br2 (k := .le) (off := 8) (bb := true) (tg := 306) (by decide +kernel) (by decide +kernel) (ci_le1 (inR_to _) (by decide) b28) rfl ?_
          refine Ru.op (q := (.aload_n 0, 1)) (S' := (307, _, _, _, _)) (by decide +kernel) rfl ?_
          refine Ru.getI (pc' := 310) (i := 120) (ci := 10) (k := 0) (nn := 0) (z := 0) (x := (o24.2.F 36 0)) (by decide +kernel) (by decide +kernel) (hp36 _) (by decide) rfl (eI_of _) rfl ?_
          by_cases b29 : 0 < (o24.2.F 36 0)
          · replace h := if_t b29 h
            refine Ru.br (k := .le) (off := 5) (bb := false) (tg := 313) (by decide +kernel) (by decide +kernel) (cz (ci_le0 (inR_to _) (by decide) b29)) rfl ?_
            refine Ru.kI (q := (.iconst 0, 1)) (c := 0) (pc' := 314) (by decide +kernel) rfl (by decide) rfl ?_
            cases h
            exact Ru.iret (by decide +kernel) rfl rfl
          · replace h := if_f b29 h
            refine Ru.br (k := .le) (off := 5) (bb := true) (tg := 315) (by decide +kernel) (by decide +kernel) (cz (ci_le1 (inR_to _) (by decide) b29)) rfl ?_
            refine Ru.op (q := (.aload_n 0, 1)) (S' := (316, _, _, _, _)) (by decide +kernel) rfl ?_
            refine Ru.kI (q := (.iconst 0, 1)) (c := 0) (pc' := 317) (by decide +kernel) rfl (by decide) rfl ?_
            refine Ru.putH (pc' := 320) (i := 129) (ci := 10) (k := 2) (nn := 0) (z := 0) (by decide +kernel) (by decide +kernel) (hp36 _) (by decide) (Nat.le_of_ble_eq_true rfl) rfl (by decide +kernel) (pf_36_2 _ _) rfl ?_
            refine Ru.op (q := (.aload_n 0, 1)) (S' := (321, _, _, _, _)) (by decide +kernel) rfl ?_
            refine Ru.kI (q := (.iconst (-1), 1)) (c := (-1)) (pc' := 322) (by decide +kernel) rfl (by decide) rfl ?_
            refine Ru.putH (pc' := 325) (i := 9) (ci := 10) (k := 1) (nn := 0) (z := 0) (by decide +kernel) (by decide +kernel) (hp36 _) (by decide) (Nat.le_of_ble_eq_true rfl) rfl (by decide +kernel) (pf_36_1 _ _) rfl ?_
            refine Ru.op (q := (.aload_n 0, 1)) (S' := (326, _, _, _, _)) (by decide +kernel) rfl ?_
            refine Ru.kI (q := (.bipush 100, 2)) (c := 100) (pc' := 328) (by decide +kernel) rfl (by decide) rfl ?_
            refine Ru.op (q := (.aload_n 0, 1)) (S' := (329, _, _, _, _)) (by decide +kernel) rfl ?_
            refine Ru.getI (pc' := 332) (i := 356) (ci := 10) (k := 10) (nn := 0) (z := 0) (x := (o24.2.F 36 10)) (by decide +kernel) (by decide +kernel) (hp36 _) (by decide) rfl (eI_of _) rfl ?_
            refine Ru.ar2 (i := .iadd) (z := (100 + (o24.2.F 36 10))) (pc' := 333) (by decide +kernel) rfl (ar_add _ _) rfl ?_
            obtain ⟨o30, e31, h⟩ := ob_some h
            refine Ru.vcallI (pc' := 336) (st' := []) (i := 291) (j2 := 132) (ci := 10) (k := 0) (z := 0) (as := [vI (100 + (o24.2.F 36 10))]) (by decide +kernel) (by decide +kernel) rfl rfl (hp36 _) (by decide) ⟨(Nat.le_of_ble_eq_true rfl), (by show 19 + 3 ≤ 391; exact Nat.le_of_ble_eq_true rfl), Nat.le_of_ble_eq_true rfl, Nat.le_of_ble_eq_true rfl⟩ ((g132_ok e31).up (Nat.le_of_ble_eq_true rfl) (Nat.le_of_ble_eq_true rfl)) rfl rfl ?_
            refine Ru.op (q := (.aload_n 0, 1)) (S' := (337, _, _, _, _)) (by decide +kernel) rfl ?_
            refine Ru.op (q := (.iload_n 1, 1)) (S' := (338, _, _, _, _)) (by decide +kernel) rfl ?_
            refine Ru.op (q := (.iload_n 2, 1)) (S' := (339, _, _, _, _)) (by decide +kernel) rfl ?_
            refine Ru.op (q := (.iload_n 3, 1)) (S' := (340, _, _, _, _)) (by decide +kernel) rfl ?_
            refine Ru.op (q := (.iload 4, 2)) (S' := (342, _, _, _, _)) (by decide +kernel) rfl ?_
            obtain ⟨o32, e33, h⟩ := ob_some h
            refine Ru.vcallI (pc' := 345) (st' := [vI o32.1]) (i := 368) (j2 := 161) (ci := 10) (k := 0) (z := 0) (as := [vI v1, vI v2, vI v3, vI v4]) (by decide +kernel) (by decide +kernel) rfl rfl (hp36 _) (by decide) ⟨(Nat.le_of_ble_eq_true rfl), (by show 19 + 7 ≤ 391; exact Nat.le_of_ble_eq_true rfl), Nat.le_of_ble_eq_true rfl, Nat.le_of_ble_eq_true rfl⟩ ((g161_ok e33).up (Nat.le_of_ble_eq_true rfl) (Nat.le_of_ble_eq_true rfl)) rfl rfl ?_
            obtain ⟨g34, h⟩ := gd_some h
            by_cases b35 : o32.1 = 0
            · replace h := if_t b35 h
              refine Ru.br (k := .ne) (off := 5) (bb := false) (tg := 348) (by decide +kernel) (by decide +kernel) (cz (ci_ne0 g34 (by decide) b35)) rfl ?_
              refine Ru.kI (q := (.iconst (-1), 1)) (c := (-1)) (pc' := 349) (by decide +kernel) rfl (by decide) rfl ?_
              cases h
              exact Ru.iret (by decide +kernel) rfl rfl
            · replace h := if_f b35 h
              refine Ru.br (k := .ne) (off := 5) (bb := true) (tg := 350) (by decide +kernel) (by decide +kernel) (cz (ci_ne1 g34 (by decide) b35)) rfl ?_
              refine Ru.op (q := (.aload_n 0, 1)) (S' := (351, _, _, _, _)) (by decide +kernel) rfl ?_
              refine Ru.op (q := (.dup, 1)) (S' := (352, _, _, _, _)) (by decide +kernel) rfl ?_
              refine Ru.getI (pc' := 355) (i := 356) (ci := 10) (k := 10) (nn := 0) (z := 0) (x := (o32.2.F 36 10)) (by decide +kernel) (by decide +kernel) (hp36 _) (by decide) rfl (eI_of _) rfl ?_
              refine Ru.kI (q := (.iconst 1, 1)) (c := 1) (pc' := 356) (by decide +kernel) rfl (by decide) rfl ?_
              refine Ru.ar2 (i := .iadd) (z := ((o32.2.F 36 10) + 1)) (pc' := 357) (by decide +kernel) rfl (ar_add _ _) rfl ?_
              refine Ru.putH (pc' := 360) (i := 356) (ci := 10) (k := 10) (nn := 0) (z := 0) (by decide +kernel) (by decide +kernel) (hp36 _) (by decide) (Nat.le_of_ble_eq_true rfl) rfl (by decide +kernel) (pf_36_10 _ _) rfl ?_
              refine Ru.op (q := (.aload_n 0, 1)) (S' := (361, _, _, _, _)) (by decide +kernel) rfl ?_
              refine Ru.getI (pc' := 364) (i := 356) (ci := 10) (k := 10) (nn := 0) (z := 0) (x := ((o32.2.F 36 10) + 1)) (by decide +kernel) (by decide +kernel) (hp36 _) (by decide) rfl rfl rfl ?_
              refine Ru.kI (q := (.iconst 1, 1)) (c := 1) (pc' := 365) (by decide +kernel) rfl (by decide) rfl ?_
              refine Ru.ar2 (i := .isub) (z := (((o32.2.F 36 10) + 1) - 1)) (pc' := 366) (by decide +kernel) rfl (ar_sub _ _) rfl ?_
              cases h
              exact Ru.iret (by decide +kernel) rfl rfl
  · replace h := if_f b22 h
    refine Ru.br (k := .ne) (off := 36) (bb := true) (tg := 306) (by decide +kernel) (by decide +kernel) (cz (ci_ne1 (inR_to _) (by decide) b22)) rfl ?_
    refine Ru.op (q := (.aload_n 0, 1)) (S' := (307, _, _, _, _)) (by decide +kernel) rfl ?_
    refine Ru.getI (pc' := 310) (i := 120) (ci := 10) (k := 0) (nn := 0) (z := 0) (x := (o17.F 36 0)) (by decide +kernel) (by decide +kernel) (hp36 _) (by decide) rfl (eI_of _) rfl ?_
    by_cases b36 : 0 < (o17.F 36 0)
    · replace h := if_t b36 h
      refine Ru.br (k := .le) (off := 5) (bb := false) (tg := 313) (by decide +kernel) (by decide +kernel) (cz (ci_le0 (inR_to _) (by decide) b36)) rfl ?_
      refine Ru.kI (q := (.iconst 0, 1)) (c := 0) (pc' := 314) (by decide +kernel) rfl (by decide) rfl ?_
      cases h
      exact Ru.iret (by decide +kernel) rfl rfl
    · replace h := if_f b36 h
      refine Ru.br (k := .le) (off := 5) (bb := true) (tg := 315) (by decide +kernel) (by decide +kernel) (cz (ci_le1 (inR_to _) (by decide) b36)) rfl ?_
      refine Ru.op (q := (.aload_n 0, 1)) (S' := (316, _, _, _, _)) (by decide +kernel) rfl ?_
      refine Ru.kI (q := (.iconst 0, 1)) (c := 0) (pc' := 317) (by decide +kernel) rfl (by decide) rfl ?_
      refine Ru.putH (pc' := 320) (i := 129) (ci := 10) (k := 2) (nn := 0) (z := 0) (by decide +kernel) (by decide +kernel) (hp36 _) (by decide) (Nat.le_of_ble_eq_true rfl) rfl (by decide +kernel) (pf_36_2 _ _) rfl ?_
      refine Ru.op (q := (.aload_n 0, 1)) (S' := (321, _, _, _, _)) (by decide +kernel) rfl ?_
      refine Ru.kI (q := (.iconst (-1), 1)) (c := (-1)) (pc' := 322) (by decide +kernel) rfl (by decide) rfl ?_
      refine Ru.putH (pc' := 325) (i := 9) (ci := 10) (k := 1) (nn := 0) (z := 0) (by decide +kernel) (by decide +kernel) (hp36 _) (by decide) (Nat.le_of_ble_eq_true rfl) rfl (by decide +kernel) (pf_36_1 _ _) rfl ?_
      refine Ru.op (q := (.aload_n 0, 1)) (S' := (326, _, _, _, _)) (by decide +kernel) rfl ?_
      refine Ru.kI (q := (.bipush 100, 2)) (c := 100) (pc' := 328) (by decide +kernel) rfl (by decide) rfl ?_
      refine Ru.op (q := (.aload_n 0, 1)) (S' := (329, _, _, _, _)) (by decide +kernel) rfl ?_
      refine Ru.getI (pc' := 332) (i := 356) (ci := 10) (k := 10) (nn := 0) (z := 0) (x := (o17.F 36 10)) (by decide +kernel) (by decide +kernel) (hp36 _) (by decide) rfl (eI_of _) rfl ?_
      refine Ru.ar2 (i := .iadd) (z := (100 + (o17.F 36 10))) (pc' := 333) (by decide +kernel) rfl (ar_add _ _) rfl ?_
      obtain ⟨o37, e38, h⟩ := ob_some h
      refine Ru.vcallI (pc' := 336) (st' := []) (i := 291) (j2 := 132) (ci := 10) (k := 0) (z := 0) (as := [vI (100 + (o17.F 36 10))]) (by decide +kernel) (by decide +kernel) rfl rfl (hp36 _) (by decide) ⟨(Nat.le_of_ble_eq_true rfl), (by show 19 + 3 ≤ 391; exact Nat.le_of_ble_eq_true rfl), Nat.le_of_ble_eq_true rfl, Nat.le_of_ble_eq_true rfl⟩ ((g132_ok e38).up (Nat.le_of_ble_eq_true rfl) (Nat.le_of_ble_eq_true rfl)) rfl rfl ?_
      refine Ru.op (q := (.aload_n 0, 1)) (S' := (337, _, _, _, _)) (by decide +kernel) rfl ?_
      refine Ru.op (q := (.iload_n 1, 1)) (S' := (338, _, _, _, _)) (by decide +kernel) rfl ?_
      refine Ru.op (q := (.iload_n 2, 1)) (S' := (339, _, _, _, _)) (by decide +kernel) rfl ?_
      refine Ru.op (q := (.iload_n 3, 1)) (S' := (340, _, _, _, _)) (by decide +kernel) rfl ?_
      refine Ru.op (q := (.iload 4, 2)) (S' := (342, _, _, _, _)) (by decide +kernel) rfl ?_
      obtain ⟨o39, e40, h⟩ := ob_some h
      refine Ru.vcallI (pc' := 345) (st' := [vI o39.1]) (i := 368) (j2 := 161) (ci := 10) (k := 0) (z := 0) (as := [vI v1, vI v2, vI v3, vI v4]) (by decide +kernel) (by decide +kernel) rfl rfl (hp36 _) (by decide) ⟨(Nat.le_of_ble_eq_true rfl), (by show 19 + 7 ≤ 391; exact Nat.le_of_ble_eq_true rfl), Nat.le_of_ble_eq_true rfl, Nat.le_of_ble_eq_true rfl⟩ ((g161_ok e40).up (Nat.le_of_ble_eq_true rfl) (Nat.le_of_ble_eq_true rfl)) rfl rfl ?_
      obtain ⟨g41, h⟩ := gd_some h
      by_cases b42 : o39.1 = 0
      · replace h := if_t b42 h
        refine Ru.br (k := .ne) (off := 5) (bb := false) (tg := 348) (by decide +kernel) (by decide +kernel) (cz (ci_ne0 g41 (by decide) b42)) rfl ?_
        refine Ru.kI (q := (.iconst (-1), 1)) (c := (-1)) (pc' := 349) (by decide +kernel) rfl (by decide) rfl ?_
        cases h
        exact Ru.iret (by decide +kernel) rfl rfl
      · replace h := if_f b42 h
        refine Ru.br (k := .ne) (off := 5) (bb := true) (tg := 350) (by decide +kernel) (by decide +kernel) (cz (ci_ne1 g41 (by decide) b42)) rfl ?_
        refine Ru.op (q := (.aload_n 0, 1)) (S' := (351, _, _, _, _)) (by decide +kernel) rfl ?_
        refine Ru.op (q := (.dup, 1)) (S' := (352, _, _, _, _)) (by decide +kernel) rfl ?_
        refine Ru.getI (pc' := 355) (i := 356) (ci := 10) (k := 10) (nn := 0) (z := 0) (x := (o39.2.F 36 10)) (by decide +kernel) (by decide +kernel) (hp36 _) (by decide) rfl (eI_of _) rfl ?_
        refine Ru.kI (q := (.iconst 1, 1)) (c := 1) (pc' := 356) (by decide +kernel) rfl (by decide) rfl ?_
        refine Ru.ar2 (i := .iadd) (z := ((o39.2.F 36 10) + 1)) (pc' := 357) (by decide +kernel) rfl (ar_add _ _) rfl ?_
        refine Ru.putH (pc' := 360) (i := 356) (ci := 10) (k := 10) (nn := 0) (z := 0) (by decide +kernel) (by decide +kernel) (hp36 _) (by decide) (Nat.le_of_ble_eq_true rfl) rfl (by decide +kernel) (pf_36_10 _ _) rfl ?_
        refine Ru.op (q := (.aload_n 0, 1)) (S' := (361, _, _, _, _)) (by decide +kernel) rfl ?_
        refine Ru.getI (pc' := 364) (i := 356) (ci := 10) (k := 10) (nn := 0) (z := 0) (x := ((o39.2.F 36 10) + 1)) (by decide +kernel) (by decide +kernel) (hp36 _) (by decide) rfl rfl rfl ?_
        refine Ru.kI (q := (.iconst 1, 1)) (c := 1) (pc' := 365) (by decide +kernel) rfl (by decide) rfl ?_
        refine Ru.ar2 (i := .isub) (z := (((o39.2.F 36 10) + 1) - 1)) (pc' := 366) (by decide +kernel) rfl (ar_sub _ _) rfl ?_
        cases h
        exact Ru.iret (by decide +kernel) rfl rfl
set_option maxRecDepth 100000 in
set_option maxHeartbeats 4000000 in
theorem g158C131_ok {S : St} {v1 : Int} {v2 : Int} {v3 : Int} {v4 : Int} {d5 d6 : Option Value} (hdd : DD [d5, d6]) {o : Int × St} (h : g158C131 S v1 v2 v3 v4 = some o) : Ru none 18 391 158 (131, [some (.ref 36), some (vI v1), some (vI v2), some (vI v3), some (vI v4), d5, d6], [], S.ns, Hp S) ((0, some (vI o.1)), o.2.ns, Hp o.2) := by
  unfold g158C131 at h
  refine Ru.op (q := (.aload_n 0, 1)) (S' := (132, _, _, _, _)) (by decide +kernel) rfl ?_
  refine Ru.op (q := (.aload_n 0, 1)) (S' := (133, _, _, _, _)) (by decide +kernel) rfl ?_
  refine Ru.getI (pc' := 136) (i := 151) (ci := 10) (k := 28) (nn := 0) (z := 0) (x := (S.F 36 28)) (by decide +kernel) (by decide +kernel) (hp36 _) (by decide) rfl (eI_of _) rfl ?_
  by_cases b7 : (S.F 36 28) = 0
  · replace h := if_t b7 h
    refine Ru.br (k := .ne) (off := 14) (bb := false) (tg := 139) (by decide +kernel) (by decide +kernel) (cz (ci_ne0 (inR_to _) (by decide) b7)) rfl ?_
    refine Ru.op (q := (.aload_n 0, 1)) (S' := (140, _, _, _, _)) (by decide +kernel) rfl ?_
    refine Ru.getI (pc' := 143) (i := 140) (ci := 10) (k := 27) (nn := 0) (z := 0) (x := (S.F 36 27)) (by decide +kernel) (by decide +kernel) (hp36 _) (by decide) rfl (eI_of _) rfl ?_
    refine Ru.op (q := (.aload_n 0, 1)) (S' := (144, _, _, _, _)) (by decide +kernel) rfl ?_
    refine Ru.getI (pc' := 147) (i := 129) (ci := 10) (k := 2) (nn := 0) (z := 0) (x := (S.F 36 2)) (by decide +kernel) (by decide +kernel) (hp36 _) (by decide) rfl (eI_of _) rfl ?_
    by_cases b8 : (S.F 36 27) = (S.F 36 2)
    · replace h := if_t b8 h
      refine Ru.br2 (k := .eq) (off := 7) (bb := true) (tg := 154) (by decide +kernel) (by decide +kernel) (ci_eq1 (inR_to _) (inR_to _) b8) rfl ?_
      refine Ru.kI (q := (.iconst 0, 1)) (c := 0) (pc' := 155) (by decide +kernel) rfl (by decide) rfl ?_
      refine Ru.putH (pc' := 158) (i := 151) (ci := 10) (k := 28) (nn := 0) (z := 0) (by decide +kernel) (by decide +kernel) (hp36 _) (by decide) (Nat.le_of_ble_eq_true rfl) (fk_b (by decide)) (by decide +kernel) (pf_36_28 _ _) rfl ?_
      refine Ru.op (q := (.aload_n 0, 1)) (S' := (159, _, _, _, _)) (by decide +kernel) rfl ?_
      refine Ru.op (q := (.aload_n 0, 1)) (S' := (160, _, _, _, _)) (by decide +kernel) rfl ?_
      refine Ru.getI (pc' := 163) (i := 151) (ci := 10) (k := 28) (nn := 0) (z := 0) (x := 0) (by decide +kernel) (by decide +kernel) (hp36 _) (by decide) rfl rfl rfl ?_
      refine Ru.br (k := .eq) (off := 7) (bb := true) (tg := 170) (by decide +kernel) (by decide +kernel) (by decide) rfl ?_
      refine Ru.op (q := (.aload_n 0, 1)) (S' := (171, _, _, _, _)) (by decide +kernel) rfl ?_
      refine Ru.op (q := (.iload_n 1, 1)) (S' := (172, _, _, _, _)) (by decide +kernel) rfl ?_
      refine Ru.op (q := (.iload_n 2, 1)) (S' := (173, _, _, _, _)) (by decide +kernel) rfl ?_
      refine Ru.op (q := (.iload_n 3, 1)) (S' := (174, _, _, _, _)) (by decide +kernel) rfl ?_
      refine Ru.op (q := (.iload 4, 2)) (S' := (176, _, _, _, _)) (by decide +kernel) rfl ?_
      obtain ⟨o9, e10, h⟩ := ob_some h
      refine Ru.vcallI (pc' := 179) (st' := [vI o9, .ref 36]) (i := 365) (j2 := 159) (ci := 10) (k := 0) (z := 0) (as := [vI v1, vI v2, vI v3, vI v4]) (by decide +kernel) (by decide +kernel) rfl rfl (hp36 _) (by decide) ⟨(Nat.le_of_ble_eq_true rfl), (by show 19 + 6 ≤ 391; exact Nat.le_of_ble_eq_true rfl), Nat.le_of_ble_eq_true rfl, Nat.le_of_ble_eq_true rfl⟩ ((g159_ok e10).up (Nat.le_of_ble_eq_true rfl) (Nat.le_of_ble_eq_true rfl)) rfl rfl ?_
      obtain ⟨g11, h⟩ := gd_some h
      by_cases b12 : o9 = 0
      · replace h := if_t b12 h
        refine Ru.br (k := .eq) (off := 7) (bb := true) (tg := 186) (by decide +kernel) (by decide +kernel) (cz (ci_eq1 g11 (by decide) b12)) rfl ?_
        refine Ru.kI (q := (.iconst 2, 1)) (c := 2) (pc' := 187) (by decide +kernel) rfl (by decide) rfl ?_
        refine Ru.putH (pc' := 190) (i := 120) (ci := 10) (k := 0) (nn := 0) (z := 0) (by decide +kernel) (by decide +kernel) (hp36 _) (by decide) (Nat.le_of_ble_eq_true rfl) rfl (by decide +kernel) (pf_36_0 _ _) rfl ?_
        refine Ru.op (q := (.aload_n 0, 1)) (S' := (191, _, _, _, _)) (by decide +kernel) rfl ?_
        refine Ru.op (q := (.aload_n 0, 1)) (S' := (192, _, _, _, _)) (by decide +kernel) rfl ?_
        refine Ru.getI (pc' := 195) (i := 151) (ci := 10) (k := 28) (nn := 0) (z := 0) (x := 0) (by decide +kernel) (by decide +kernel) (hp36 _) (by decide) rfl rfl rfl ?_
        refine Ru.br (k := .eq) (off := 10) (bb := true) (tg := 205) (by decide +kernel) (by decide +kernel) (by decide) rfl ?_
        refine Ru.op (q := (.aload_n 0, 1)) (S' := (206, _, _, _, _)) (by decide +kernel) rfl ?_
        refine Ru.getI (pc' := 209) (i := 9) (ci := 10) (k := 1) (nn := 0) (z := 0) (x := (S.F 36 1)) (by decide +kernel) (by decide +kernel) (hp36 _) (by decide) rfl (eI_of _) rfl ?_
        refine Ru.putH (pc' := 212) (i := 9) (ci := 10) (k := 1) (nn := 0) (z := 0) (by decide +kernel) (by decide +kernel) (hp36 _) (by decide) (Nat.le_of_ble_eq_true rfl) rfl (by decide +kernel) (pf_36_1 _ _) rfl ?_
        exact g158C212_ok ⟨hdd.1, hdd.2.1, trivial⟩ h
      · replace h := if_f b12 h
        refine Ru.br (k := .eq) (off := 7) (bb := false) (tg := 182) (by decide +kernel) (by decide +kernel) (cz (ci_eq0 g11 (by decide) b12)) rfl ?_
        refine Ru.kI (q := (.iconst 0, 1)) (c := 0) (pc' := 183) (by decide +kernel) rfl (by decide) rfl ?_
        refine Ru.op (q := (.goto 4, 3)) (S' := (187, _, _, _, _)) (by decide +kernel) rfl ?_
        refine Ru.putH (pc' := 190) (i := 120) (ci := 10) (k := 0) (nn := 0) (z := 0) (by decide +kernel) (by decide +kernel) (hp36 _) (by decide) (Nat.le_of_ble_eq_true rfl) rfl (by decide +kernel) (pf_36_0 _ _) rfl ?_
        refine Ru.op (q := (.aload_n 0, 1)) (S' := (191, _, _, _, _)) (by decide +kernel) rfl ?_
        refine Ru.op (q := (.aload_n 0, 1)) (S' := (192, _, _, _, _)) (by decide +kernel) rfl ?_
        refine Ru.getI (pc' := 195) (i := 151) (ci := 10) (k := 28) (nn := 0) (z := 0) (x := 0) (by decide +kernel) (by decide +kernel) (hp36 _) (by decide) rfl rfl rfl ?_
        refine Ru.br (k := .eq) (off := 10) (bb := true) (tg := 205) (by decide +kernel) (by decide +kernel) (by decide) rfl ?_
        refine Ru.op (q := (.aload_n 0, 1)) (S' := (206, _, _, _, _)) (by decide +kernel) rfl ?_
        refine Ru.getI (pc' := 209) (i := 9) (ci := 10) (k := 1) (nn := 0) (z := 0) (x := (S.F 36 1)) (by decide +kernel) (by decide +kernel) (hp36 _) (by decide) rfl (eI_of _) rfl ?_
        refine Ru.putH (pc' := 212) (i := 9) (ci := 10) (k := 1) (nn := 0) (z := 0) (by decide +kernel) (by decide +kernel) (hp36 _) (by decide) (Nat.le_of_ble_eq_true rfl) rfl (by decide +kernel) (pf_36_1 _ _) rfl ?_
        exact g158C212_ok ⟨hdd.1, hdd.2.1, trivial⟩ h
    · replace h := if_f b8 h
      refine Ru.br2 (k := .eq) (off := 7) (bb := false) (tg := 150) (by decide +kernel) (by decide +kernel) (ci_eq0 (inR_to _) (inR_to _) b8) rfl ?_
      refine Ru.kI (q := (.iconst 1, 1)) (c := 1) (pc' := 151) (by decide +kernel) rfl (by decide) rfl ?_
      refine Ru.op (q := (.goto 4, 3)) (S' := (155, _, _, _, _)) (by decide +kernel) rfl ?_
      refine Ru.putH (pc' := 158) (i := 151) (ci := 10) (k := 28) (nn := 0) (z := 0) (by decide +kernel) (by decide +kernel) (hp36 _) (by decide) (Nat.le_of_ble_eq_true rfl) (fk_b (by decide)) (by decide +kernel) (pf_36_28 _ _) rfl ?_
      refine Ru.op (q := (.aload_n 0, 1)) (S' := (159, _, _, _, _)) (by decide +kernel) rfl ?_
      refine Ru.op (q := (.aload_n 0, 1)) (S' := (160, _, _, _, _)) (by decide +kernel) rfl ?_
      refine Ru.getI (pc' := 163) (i := 151) (ci := 10) (k := 28) (nn := 0) (z := 0) (x := 1) (by decide +kernel) (by decide +kernel) (hp36 _) (by decide) rfl rfl rfl ?_
      refine Ru.br (k := .eq) (off := 7) (bb := false) (tg := 166) (by decide +kernel) (by decide +kernel) (by decide) rfl ?_
      refine Ru.kI (q := (.iconst 1, 1)) (c := 1) (pc' := 167) (by decide +kernel) rfl (by decide) rfl ?_
      refine Ru.op (q := (.goto 20, 3)) (S' := (187, _, _, _, _)) (by decide +kernel) rfl ?_
      refine Ru.putH (pc' := 190) (i := 120) (ci := 10) (k := 0) (nn := 0) (z := 0) (by decide +kernel) (by decide +kernel) (hp36 _) (by decide) (Nat.le_of_ble_eq_true rfl) rfl (by decide +kernel) (pf_36_0 _ _) rfl ?_
      refine Ru.op (q := (.aload_n 0, 1)) (S' := (191, _, _, _, _)) (by decide +kernel) rfl ?_
      refine Ru.op (q := (.aload_n 0, 1)) (S' := (192, _, _, _, _)) (by decide +kernel) rfl ?_
      refine Ru.getI (pc' := 195) (i := 151) (ci := 10) (k := 28) (nn := 0) (z := 0) (x := 1) (by decide +kernel) (by decide +kernel) (hp36 _) (by decide) rfl rfl rfl ?_
      refine Ru.br (k := .eq) (off := 10) (bb := false) (tg := 198) (by decide +kernel) (by decide +kernel) (by decide) rfl ?_
      refine Ru.op (q := (.aload_n 0, 1)) (S' := (199, _, _, _, _)) (by decide +kernel) rfl ?_
      refine Ru.getI (pc' := 202) (i := 140) (ci := 10) (k := 27) (nn := 0) (z := 0) (x := (S.F 36 27)) (by decide +kernel) (by decide +kernel) (hp36 _) (by decide) rfl (eI_of _) rfl ?_
      refine Ru.op (q := (.goto 7, 3)) (S' := (209, _, _, _, _)) (by decide +kernel) rfl ?_
      refine Ru.putH (pc' := 212) (i := 9) (ci := 10) (k := 1) (nn := 0) (z := 0) (by decide +kernel) (by decide +kernel) (hp36 _) (by decide) (Nat.le_of_ble_eq_true rfl) rfl (by decide +kernel) (pf_36_1 _ _) rfl ?_
      exact g158C212_ok ⟨hdd.1, hdd.2.1, trivial⟩ h
  · replace h := if_f b7 h
    refine Ru.br (k := .ne) (off := 14) (bb := true) (tg := 150) (by decide +kernel) (by decide +kernel) (cz (ci_ne1 (inR_to _) (by decide) b7)) rfl ?_
    refine Ru.kI (q := (.iconst 1, 1)) (c := 1) (pc' := 151) (by decide +kernel) rfl (by decide) rfl ?_
    refine Ru.op (q := (.goto 4, 3)) (S' := (155, _, _, _, _)) (by decide +kernel) rfl ?_
    refine Ru.putH (pc' := 158) (i := 151) (ci := 10) (k := 28) (nn := 0) (z := 0) (by decide +kernel) (by decide +kernel) (hp36 _) (by decide) (Nat.le_of_ble_eq_true rfl) (fk_b (by decide)) (by decide +kernel) (pf_36_28 _ _) rfl ?_
    refine Ru.op (q := (.aload_n 0, 1)) (S' := (159, _, _, _, _)) (by decide +kernel) rfl ?_
    refine Ru.op (q := (.aload_n 0, 1)) (S' := (160, _, _, _, _)) (by decide +kernel) rfl ?_
    refine Ru.getI (pc' := 163) (i := 151) (ci := 10) (k := 28) (nn := 0) (z := 0) (x := 1) (by decide +kernel) (by decide +kernel) (hp36 _) (by decide) rfl rfl rfl ?_
    refine Ru.br (k := .eq) (off := 7) (bb := false) (tg := 166) (by decide +kernel) (by decide +kernel) (by decide) rfl ?_
    refine Ru.kI (q := (.iconst 1, 1)) (c := 1) (pc' := 167) (by decide +kernel) rfl (by decide) rfl ?_
    refine Ru.op (q := (.goto 20, 3)) (S' := (187, _, _, _, _)) (by decide +kernel) rfl ?_
    refine Ru.putH (pc' := 190) (i := 120) (ci := 10) (k := 0) (nn := 0) (z := 0) (by decide +kernel) (by decide +kernel) (hp36 _) (by decide) (Nat.le_of_ble_eq_true rfl) rfl (by decide +kernel) (pf_36_0 _ _) rfl ?_
    refine Ru.op (q := (.aload_n 0, 1)) (S' := (191, _, _, _, _)) (by decide +kernel) rfl ?_
    refine Ru.op (q := (.aload_n 0, 1)) (S' := (192, _, _, _, _)) (by decide +kernel) rfl ?_
    refine Ru.getI (pc' := 195) (i := 151) (ci := 10) (k := 28) (nn := 0) (z := 0) (x := 1) (by decide +kernel) (by decide +kernel) (hp36 _) (by decide) rfl rfl rfl ?_
    refine Ru.br (k := .eq) (off := 10) (bb := false) (tg := 198) (by decide +kernel) (by decide +kernel) (by decide) rfl ?_
    refine Ru.op (q := (.aload_n 0, 1)) (S' := (199, _, _, _, _)) (by decide +kernel) rfl ?_
    refine Ru.getI (pc' := 202) (i := 140) (ci := 10) (k := 27) (nn := 0) (z := 0) (x := (S.F 36 27)) (by decide +kernel) (by decide +kernel) (hp36 _) (by decide) rfl (eI_of _) rfl ?_
    refine Ru.op (q := (.goto 7, 3)) (S' := (209, _, _, _, _)) (by decide +kernel) rfl ?_
    refine Ru.putH (pc' := 212) (i := 9) (ci := 10) (k := 1) (nn := 0) (z := 0) (by decide +kernel) (by decide +kernel) (hp36 _) (by decide) (Nat.le_of_ble_eq_true rfl) rfl (by decide +kernel) (pf_36_1 _ _) rfl ?_
    exact g158C212_ok ⟨hdd.1, hdd.2.1, trivial⟩ h
set_option maxRecDepth 100000 in
set_option maxHeartbeats 4000000 in
theorem g158L34_ok {v1 : Int} {v2 : Int} {v3 : Int} {v4 : Int} : ∀ (n : Nat) (v5 : Int) (S : St) (d6 : Option Value) (_ : DD [d6]) (out : St), g158L34 v1 v2 v3 v4 n v5 S = some out → ∀ r, (∀ (e5 e6 : Option Value), DD [e5, e6] → Ru none 18 391 158 (131, [some (.ref 36), some (vI v1), some (vI v2), some (vI v3), some (vI v4), e5, e6], [], out.ns, Hp out) r) → Ru none 18 391 158 (34, [some (.ref 36), some (vI v1), some (vI v2), some (vI v3), some (vI v4), some (vI v5), d6], [], S.ns, Hp S) r := by
  intro n
  induction n with
  | zero => intro v5 S d6 hdd out h; cases h
  | succ n ih =>
    intro v5 S d6 hdd out h r hk
    unfold g158L34 at h
    refine Ru.op (q := (.iload 5, 2)) (S' := (36, _, _, _, _)) (by decide +kernel) rfl ?_
    obtain ⟨g43, h⟩ := gd_some h
    by_cases b44 : v5 = 0
    · replace h := if_t b44 h
      refine Ru.br (k := .eq) (off := 95) (bb := true) (tg := 131) (by decide +kernel) (by decide +kernel) (cz (ci_eq1 g43 (by decide) b44)) rfl ?_
      cases h
      exact hk _ _ ⟨rfl, hdd.1, trivial⟩
    · replace h := if_f b44 h
      refine Ru.br (k := .eq) (off := 95) (bb := false) (tg := 39) (by decide +kernel) (by decide +kernel) (cz (ci_eq0 g43 (by decide) b44)) rfl ?_
      refine Ru.op (q := (.aload_n 0, 1)) (S' := (40, _, _, _, _)) (by decide +kernel) rfl ?_
      obtain ⟨o45, e46, h⟩ := ob_some h
      refine Ru.vcallI (pc' := 43) (st' := [vI o45]) (i := 143) (j2 := 102) (ci := 10) (k := 0) (z := 0) (as := []) (by decide +kernel) (by decide +kernel) rfl rfl (hp36 _) (by decide) ⟨(Nat.le_of_ble_eq_true rfl), (by show 19 + 1 ≤ 391; exact Nat.le_of_ble_eq_true rfl), Nat.le_of_ble_eq_true rfl, Nat.le_of_ble_eq_true rfl⟩ ((g102_ok e46).up (Nat.le_of_ble_eq_true rfl) (Nat.le_of_ble_eq_true rfl)) rfl rfl ?_
      refine Ru.kI (q := (.bipush 126, 2)) (c := 126) (pc' := 45) (by decide +kernel) rfl (by decide) rfl ?_
      obtain ⟨g47, h⟩ := gd_some h
      by_cases b48 : o45 = 126
      · replace h := if_t b48 h
        refine Ru.br2 (k := .ne) (off := 7) (bb := false) (tg := 48) (by decide +kernel) (by decide +kernel) (ci_ne0 g47 (by decide) b48) rfl ?_
        refine Ru.kI (q := (.iconst 1, 1)) (c := 1) (pc' := 49) (by decide +kernel) rfl (by decide) rfl ?_
        refine Ru.op (q := (.goto 4, 3)) (S' := (53, _, _, _, _)) (by decide +kernel) rfl ?_
        refine Ru.op (q := (.istore 6, 2)) (S' := (55, [some (.ref 36), some (vI v1), some (vI v2), some (vI v3), some (vI v4), some (vI v5), some (vI 1)], [], _, _)) (by decide +kernel) rfl ?_
        refine Ru.op (q := (.aload_n 0, 1)) (S' := (56, _, _, _, _)) (by decide +kernel) rfl ?_
        refine Ru.op (q := (.iload 6, 2)) (S' := (58, _, _, _, _)) (by decide +kernel) rfl ?_
        refine Ru.br (k := .eq) (off := 12) (bb := false) (tg := 61) (by decide +kernel) (by decide +kernel) (by decide) rfl ?_
        refine Ru.op (q := (.aload_n 0, 1)) (S' := (62, _, _, _, _)) (by decide +kernel) rfl ?_
        refine Ru.getI (pc' := 65) (i := 140) (ci := 10) (k := 27) (nn := 0) (z := 0) (x := (S.F 36 27)) (by decide +kernel) (by decide +kernel) (hp36 _) (by decide) rfl (eI_of _) rfl ?_
        refine Ru.kI (q := (.iconst 1, 1)) (c := 1) (pc' := 66) (by decide +kernel) rfl (by decide) rfl ?_
        refine Ru.ar2 (i := .iadd) (z := ((S.F 36 27) + 1)) (pc' := 67) (by decide +kernel) rfl (ar_add _ _) rfl ?_
        refine Ru.op (q := (.goto 7, 3)) (S' := (74, _, _, _, _)) (by decide +kernel) rfl ?_
        refine Ru.putH (pc' := 77) (i := 140) (ci := 10) (k := 27) (nn := 0) (z := 0) (by decide +kernel) (by decide +kernel) (hp36 _) (by decide) (Nat.le_of_ble_eq_true rfl) rfl (by decide +kernel) (pf_36_27 _ _) rfl ?_
        refine Ru.op (q := (.aload_n 0, 1)) (S' := (78, _, _, _, _)) (by decide +kernel) rfl ?_
        refine Ru.op (q := (.iload 6, 2)) (S' := (80, _, _, _, _)) (by decide +kernel) rfl ?_
        obtain ⟨o49, e50, h⟩ := ob_some h
        refine Ru.vcallI (pc' := 83) (st' := []) (i := 207) (j2 := 103) (ci := 10) (k := 0) (z := 0) (as := [vI 1]) (by decide +kernel) (by decide +kernel) rfl rfl (hp36 _) (by decide) ⟨(Nat.le_of_ble_eq_true rfl), (by show 19 + 2 ≤ 391; exact Nat.le_of_ble_eq_true rfl), Nat.le_of_ble_eq_true rfl, Nat.le_of_ble_eq_true rfl⟩ ((g103_ok e50).up (Nat.le_of_ble_eq_true rfl) (Nat.le_of_ble_eq_true rfl)) rfl rfl ?_
        refine Ru.op (q := (.aload_n 0, 1)) (S' := (84, _, _, _, _)) (by decide +kernel) rfl ?_
        refine Ru.getI (pc' := 87) (i := 151) (ci := 10) (k := 28) (nn := 0) (z := 0) (x := (o49.F 36 28)) (by decide +kernel) (by decide +kernel) (hp36 _) (by decide) rfl (eI_of _) rfl ?_
        by_cases b51 : (o49.F 36 28) = 0
        · replace h := if_t b51 h
          refine Ru.br (k := .ne) (off := 16) (bb := false) (tg := 90) (by decide +kernel) (by decide +kernel) (cz (ci_ne0 (inR_to _) (by decide) b51)) rfl ?_
          refine Ru.op (q := (.aload_n 0, 1)) (S' := (91, _, _, _, _)) (by decide +kernel) rfl ?_
          obtain ⟨o52, e53, h⟩ := ob_some h
          refine Ru.vcallI (pc' := 94) (st' := [vI o52]) (i := 143) (j2 := 102) (ci := 10) (k := 0) (z := 0) (as := []) (by decide +kernel) (by decide +kernel) rfl rfl (hp36 _) (by decide) ⟨(Nat.le_of_ble_eq_true rfl), (by show 19 + 1 ≤ 391; exact Nat.le_of_ble_eq_true rfl), Nat.le_of_ble_eq_true rfl, Nat.le_of_ble_eq_true rfl⟩ ((g102_ok e53).up (Nat.le_of_ble_eq_true rfl) (Nat.le_of_ble_eq_true rfl)) rfl rfl ?_
          refine Ru.kI (q := (.bipush 124, 2)) (c := 124) (pc' := 96) (by decide +kernel) rfl (by decide) rfl ?_
          obtain ⟨g54, h⟩ := gd_some h
          by_cases b55 : o52 = 124
          · replace h := if_t b55 h
            refine Ru.br2 (k := .ne) (off := 7) (bb := false) (tg := 99) (by decide +kernel) (by decide +kernel) (ci_ne0 g54 (by decide) b55) rfl ?_
            refine Ru.kI (q := (.iconst 1, 1)) (c := 1) (pc' := 100) (by decide +kernel) rfl (by decide) rfl ?_
            refine Ru.op (q := (.goto 4, 3)) (S' := (104, _, _, _, _)) (by decide +kernel) rfl ?_
            refine Ru.op (q := (.istore 5, 2)) (S' := (106, [some (.ref 36), some (vI v1), some (vI v2), some (vI v3), some (vI v4), some (vI 1), some (vI 1)], [], _, _)) (by decide +kernel) rfl ?_
            refine Ru.op (q := (.aload_n 0, 1)) (S' := (107, _, _, _, _)) (by decide +kernel) rfl ?_
            refine Ru.op (q := (.iload 5, 2)) (S' := (109, _, _, _, _)) (by decide +kernel) rfl ?_
            refine Ru.br (k := .eq) (off := 12) (bb := false) (tg := 112) (by decide +kernel) (by decide +kernel) (by decide) rfl ?_
            refine Ru.op (q := (.aload_n 0, 1)) (S' := (113, _, _, _, _)) (by decide +kernel) rfl ?_
            refine Ru.getI (pc' := 116) (i := 140) (ci := 10) (k := 27) (nn := 0) (z := 0) (x := (o49.F 36 27)) (by decide +kernel) (by decide +kernel) (hp36 _) (by decide) rfl (eI_of _) rfl ?_
            refine Ru.kI (q := (.iconst 1, 1)) (c := 1) (pc' := 117) (by decide +kernel) rfl (by decide) rfl ?_
            refine Ru.ar2 (i := .iadd) (z := ((o49.F 36 27) + 1)) (pc' := 118) (by decide +kernel) rfl (ar_add _ _) rfl ?_
            refine Ru.op (q := (.goto 7, 3)) (S' := (125, _, _, _, _)) (by decide +kernel) rfl ?_
            refine Ru.putH (pc' := 128) (i := 140) (ci := 10) (k := 27) (nn := 0) (z := 0) (by decide +kernel) (by decide +kernel) (hp36 _) (by decide) (Nat.le_of_ble_eq_true rfl) rfl (by decide +kernel) (pf_36_27 _ _) rfl ?_
            refine Ru.op (q := (.goto (-94), 3)) (S' := (34, _, _, _, _)) (by decide +kernel) rfl ?_
            exact ih _ _ _ ⟨rfl, trivial⟩ _ h r hk
          · replace h := if_f b55 h
            refine Ru.br2 (k := .ne) (off := 7) (bb := true) (tg := 103) (by decide +kernel) (by decide +kernel) (ci_ne1 g54 (by decide) b55) rfl ?_
            refine Ru.kI (q := (.iconst 0, 1)) (c := 0) (pc' := 104) (by decide +kernel) rfl (by decide) rfl ?_
            refine Ru.op (q := (.istore 5, 2)) (S' := (106, [some (.ref 36), some (vI v1), some (vI v2), some (vI v3), some (vI v4), some (vI 0), some (vI 1)], [], _, _)) (by decide +kernel) rfl ?_
            refine Ru.op (q := (.aload_n 0, 1)) (S' := (107, _, _, _, _)) (by decide +kernel) rfl ?_
            refine Ru.op (q := (.iload 5, 2)) (S' := (109, _, _, _, _)) (by decide +kernel) rfl ?_
            refine Ru.br (k := .eq) (off := 12) (bb := true) (tg := 121) (by decide +kernel) (by decide +kernel) (by decide) rfl ?_
            refine Ru.op (q := (.aload_n 0, 1)) (S' := (122, _, _, _, _)) (by decide +kernel) rfl ?_
            refine Ru.getI (pc' := 125) (i := 140) (ci := 10) (k := 27) (nn := 0) (z := 0) (x := (o49.F 36 27)) (by decide +kernel) (by decide +kernel) (hp36 _) (by decide) rfl (eI_of _) rfl ?_
            refine Ru.putH (pc' := 128) (i := 140) (ci := 10) (k := 27) (nn := 0) (z := 0) (by decide +kernel) (by decide +kernel) (hp36 _) (by decide) (Nat.le_of_ble_eq_true rfl) rfl (by decide +kernel) (pf_36_27 _ _) rfl ?_
            refine Ru.op (q := (.goto (-94), 3)) (S' := (34, _, _, _, _)) (by decide +kernel) rfl ?_
            exact ih _ _ _ ⟨rfl, trivial⟩ _ h r hk
        · replace h := if_f b51 h
          refine Ru.br (k := .ne) (off := 16) (bb := true) (tg := 103) (by decide +kernel) (by decide +kernel) (cz (ci_ne1 (inR_to _) (by decide) b51)) rfl ?_
          refine Ru.kI (q := (.iconst 0, 1)) (c := 0) (pc' := 104) (by decide +kernel) rfl (by decide) rfl ?_
          refine Ru.op (q := (.istore 5, 2)) (S' := (106, [some (.ref 36), some (vI v1), some (vI v2), some (vI v3), some (vI v4), some (vI 0), some (vI 1)], [], _, _)) (by decide +kernel) rfl ?_
          refine Ru.op (q := (.aload_n 0, 1)) (S' := (107, _, _, _, _)) (by decide +kernel) rfl ?_
          refine Ru.op (q := (.iload 5, 2)) (S' := (109, _, _, _, _)) (by decide +kernel) rfl ?_
          refine Ru.br (k := .eq) (off := 12) (bb := true) (tg := 121) (by decide +kernel) (by decide +kernel) (by decide) rfl ?_
          refine Ru.op (q := (.aload_n 0, 1)) (S' := (122, _, _, _, _)) (by decide +kernel) rfl ?_
          refine Ru.getI (pc' := 125) (i := 140) (ci := 10) (k := 27) (nn := 0) (z := 0) (x := (o49.F 36 27)) (by decide +kernel) (by decide +kernel) (hp36 _) (by decide) rfl (eI_of _) rfl ?_
          refine Ru.putH (pc' := 128) (i := 140) (ci := 10) (k := 27) (nn := 0) (z := 0) (by decide +kernel) (by decide +kernel) (hp36 _) (by decide) (Nat.le_of_ble_eq_true rfl) rfl (by decide +kernel) (pf_36_27 _ _) rfl ?_
          refine Ru.op (q := (.goto (-94), 3)) (S' := (34, _, _, _, _)) (by decide +kernel) rfl ?_
          exact ih _ _ _ ⟨rfl, trivial⟩ _ h r hk
      · replace h := if_f b48 h
        refine Ru.br2 (k := .ne) (off := 7) (bb := true) (tg := 52) (by decide +kernel) (by decide +kernel) (ci_ne1 g47 (by decide) b48) rfl ?_
        refine Ru.kI (q := (.iconst 0, 1)) (c := 0) (pc' := 53) (by decide +kernel) rfl (by decide) rfl ?_
        refine Ru.op (q := (.istore 6, 2)) (S' := (55, [some (.ref 36), some (vI v1), some (vI v2), some (vI v3), some (vI v4), some (vI v5), some (vI 0)], [], _, _)) (by decide +kernel) rfl ?_
        refine Ru.op (q := (.aload_n 0, 1)) (S' := (56, _, _, _, _)) (by decide +kernel) rfl ?_
        refine Ru.op (q := (.iload 6, 2)) (S' := (58, _, _, _, _)) (by decide +kernel) rfl ?_
        refine Ru.br (k := .eq) (off := 12) (bb := true) (tg := 70) (by decide +kernel) (by decide +kernel) (by decide) rfl ?_
        refine Ru.op (q := (.aload_n 0, 1)) (S' := (71, _, _, _, _)) (by decide +kernel) rfl ?_
        refine Ru.getI (pc' := 74) (i := 140) (ci := 10) (k := 27) (nn := 0) (z := 0) (x := (S.F 36 27)) (by decide +kernel) (by decide +kernel) (hp36 _) (by decide) rfl (eI_of _) rfl ?_
        refine Ru.putH (pc' := 77) (i := 140) (ci := 10) (k := 27) (nn := 0) (z := 0) (by decide +kernel) (by decide +kernel) (hp36 _) (by decide) (Nat.le_of_ble_eq_true rfl) rfl (by decide +kernel) (pf_36_27 _ _) rfl ?_
        refine Ru.op (q := (.aload_n 0, 1)) (S' := (78, _, _, _, _)) (by decide +kernel) rfl ?_
        refine Ru.op (q := (.iload 6, 2)) (S' := (80, _, _, _, _)) (by decide +kernel) rfl ?_
        obtain ⟨o56, e57, h⟩ := ob_some h
        refine Ru.vcallI (pc' := 83) (st' := []) (i := 207) (j2 := 103) (ci := 10) (k := 0) (z := 0) (as := [vI 0]) (by decide +kernel) (by decide +kernel) rfl rfl (hp36 _) (by decide) ⟨(Nat.le_of_ble_eq_true rfl), (by show 19 + 2 ≤ 391; exact Nat.le_of_ble_eq_true rfl), Nat.le_of_ble_eq_true rfl, Nat.le_of_ble_eq_true rfl⟩ ((g103_ok e57).up (Nat.le_of_ble_eq_true rfl) (Nat.le_of_ble_eq_true rfl)) rfl rfl ?_
        refine Ru.op (q := (.aload_n 0, 1)) (S' := (84, _, _, _, _)) (by decide +kernel) rfl ?_
        refine Ru.getI (pc' := 87) (i := 151) (ci := 10) (k := 28) (nn := 0) (z := 0) (x := (o56.F 36 28)) (by decide +kernel) (by decide +kernel) (hp36 _) (by decide) rfl (eI_of _) rfl ?_
        by_cases b58 : (o56.F 36 28) = 0
        · replace h := if_t b58 h
          refine Ru.br (k := .ne) (off := 16) (bb := false) (tg := 90) (by decide +kernel) (by decide +kernel) (cz (ci_ne0 (inR_to _) (by decide) b58)) rfl ?_
          refine Ru.op (q := (.aload_n 0, 1)) (S' := (91, _, _, _, _)) (by decide +kernel) rfl ?_
          obtain ⟨o59, e60, h⟩ := ob_some h
          refine Ru.vcallI (pc' := 94) (st' := [vI o59]) (i := 143) (j2 := 102) (ci := 10) (k := 0) (z := 0) (as := []) (by decide +kernel) (by decide +kernel) rfl rfl (hp36 _) (by decide) ⟨(Nat.le_of_ble_eq_true rfl), (by show 19 + 1 ≤ 391; exact Nat.le_of_ble_eq_true rfl), Nat.le_of_ble_eq_true rfl, Nat.le_of_ble_eq_true rfl⟩ ((g102_ok e60).up (Nat.le_of_ble_eq_true rfl) (Nat.le_of_ble_eq_true rfl)) rfl rfl ?_
          refine Ru.kI (q := (.bipush 124, 2)) (c := 124) (pc' := 96) (by decide +kernel) rfl (by decide) rfl ?_
          obtain ⟨g61, h⟩ := gd_some h
          by_cases b62 : o59 = 124
          · replace h := if_t b62 h
            refine Ru.br2 (k := .ne) (off := 7) (bb := false) (tg := 99) (by decide +kernel) (by decide +kernel) (ci_ne0 g61 (by decide) b62) rfl ?_
            refine Ru.kI (q := (.iconst 1, 1)) (c := 1) (pc' := 100) (by decide +kernel) rfl (by decide) rfl ?_
            refine Ru.op (q := (.goto 4, 3)) (S' := (104, _, _, _, _)) (by decide +kernel) rfl ?_
            refine Ru.op (q := (.istore 5, 2)) (S' := (106, [some (.ref 36), some (vI v1), some (vI v2), some (vI v3), some (vI v4), some (vI 1), some (vI 0)], [], _, _)) (by decide +kernel) rfl ?_
            refine Ru.op (q := (.aload_n 0, 1)) (S' := (107, _, _, _, _)) (by decide +kernel) rfl ?_
            refine Ru.op (q := (.iload 5, 2)) (S' := (109, _, _, _, _)) (by decide +kernel) rfl ?_
            refine Ru.br (k := .eq) (off := 12) (bb := false) (tg := 112) (by decide +kernel) (by decide +kernel) (by decide) rfl ?_
            refine Ru.op (q := (.aload_n 0, 1)) (S' := (113, _, _, _, _)) (by decide +kernel) rfl ?_
            refine Ru.getI (pc' := 116) (i := 140) (ci := 10) (k := 27) (nn := 0) (z := 0) (x := (o56.F 36 27)) (by decide +kernel) (by decide +kernel) (hp36 _) (by decide) rfl (eI_of _) rfl ?_
            refine Ru.kI (q := (.iconst 1, 1)) (c := 1) (pc' := 117) (by decide +kernel) rfl (by decide) rfl ?_
            refine Ru.ar2 (i := .iadd) (z := ((o56.F 36 27) + 1)) (pc' := 118) (by decide +kernel) rfl (ar_add _ _) rfl ?_
            refine Ru.op (q := (.goto 7, 3)) (S' := (125, _, _, _, _)) (by decide +kernel) rfl ?_
            refine Ru.putH (pc' := 128) (i := 140) (ci := 10) (k := 27) (nn := 0) (z := 0) (by decide +kernel) (by decide +kernel) (hp36 _) (by decide) (Nat.le_of_ble_eq_true rfl) rfl (by decide +kernel) (pf_36_27 _ _) rfl ?_
            refine Ru.op (q := (.goto (-94), 3)) (S' := (34, _, _, _, _)) (by decide +kernel) rfl ?_
            exact ih _ _ _ ⟨rfl, trivial⟩ _ h r hk
          · replace h := if_f b62 h
            refine Ru.br2 (k := .ne) (off := 7) (bb := true) (tg := 103) (by decide +kernel) (by decide +kernel) (ci_ne1 g61 (by decide) b62) rfl ?_
            refine Ru.kI (q := (.iconst 0, 1)) (c := 0) (pc' := 104) (by decide +kernel) rfl (by decide) rfl ?_
            refine Ru.op (q := (.istore 5, 2)) (S' := (106, [some (.ref 36), some (vI v1), some (vI v2), some (vI v3), some (vI v4), some (vI 0), some (vI 0)], [], _, _)) (by decide +kernel) rfl ?_
            refine Ru.op (q := (.aload_n 0, 1)) (S' := (107, _, _, _, _)) (by decide +kernel) rfl ?_
            refine Ru.op (q := (.iload 5, 2)) (S' := (109, _, _, _, _)) (by decide +kernel) rfl ?_
            refine Ru.br (k := .eq) (off := 12) (bb := true) (tg := 121) (by decide +kernel) (by decide +kernel) (by decide) rfl ?_
            refine Ru.op (q := (.aload_n 0, 1)) (S' := (122, _, _, _, _)) (by decide +kernel) rfl ?_
            refine Ru.getI (pc' := 125) (i := 140) (ci := 10) (k := 27) (nn := 0) (z := 0) (x := (o56.F 36 27)) (by decide +kernel) (by decide +kernel) (hp36 _) (by decide) rfl (eI_of _) rfl ?_
            refine Ru.putH (pc' := 128) (i := 140) (ci := 10) (k := 27) (nn := 0) (z := 0) (by decide +kernel) (by decide +kernel) (hp36 _) (by decide) (Nat.le_of_ble_eq_true rfl) rfl (by decide +kernel) (pf_36_27 _ _) rfl ?_
            refine Ru.op (q := (.goto (-94), 3)) (S' := (34, _, _, _, _)) (by decide +kernel) rfl ?_
            exact ih _ _ _ ⟨rfl, trivial⟩ _ h r hk
        · replace h := if_f b58 h
          refine Ru.br (k := .ne) (off := 16) (bb := true) (tg := 103) (by decide +kernel) (by decide +kernel) (cz (ci_ne1 (inR_to _) (by decide) b58)) rfl ?_
          refine Ru.kI (q := (.iconst 0, 1)) (c := 0) (pc' := 104) (by decide +kernel) rfl (by decide) rfl ?_
          refine Ru.op (q := (.istore 5, 2)) (S' := (106, [some (.ref 36), some (vI v1), some (vI v2), some (vI v3), some (vI v4), some (vI 0), some (vI 0)], [], _, _)) (by decide +kernel) rfl ?_
          refine Ru.op (q := (.aload_n 0, 1)) (S' := (107, _, _, _, _)) (by decide +kernel) rfl ?_
          refine Ru.op (q := (.iload 5, 2)) (S' := (109, _, _, _, _)) (by decide +kernel) rfl ?_
          refine Ru.br (k := .eq) (off := 12) (bb := true) (tg := 121) (by decide +kernel) (by decide +kernel) (by decide) rfl ?_
          refine Ru.op (q := (.aload_n 0, 1)) (S' := (122, _, _, _, _)) (by decide +kernel) rfl ?_
          refine Ru.getI (pc' := 125) (i := 140) (ci := 10) (k := 27) (nn := 0) (z := 0) (x := (o56.F 36 27)) (by decide +kernel) (by decide +kernel) (hp36 _) (by decide) rfl (eI_of _) rfl ?_
          refine Ru.putH (pc' := 128) (i := 140) (ci := 10) (k := 27) (nn := 0) (z := 0) (by decide +kernel) (by decide +kernel) (hp36 _) (by decide) (Nat.le_of_ble_eq_true rfl) rfl (by decide +kernel) (pf_36_27 _ _) rfl ?_
          refine Ru.op (q := (.goto (-94), 3)) (S' := (34, _, _, _, _)) (by decide +kernel) rfl ?_
          exact ih _ _ _ ⟨rfl, trivial⟩ _ h r hk
set_option maxRecDepth 100000 in
set_option maxHeartbeats 4000000 in
theorem g158_ok {S : St} {v1 : Int} {v2 : Int} {v3 : Int} {v4 : Int} {o : Int × St} (h : g158 S v1 v2 v3 v4 = some o) : Ru none 18 391 158 (0, mn_pad (mn_ent [.ref 36, vI v1, vI v2, vI v3, vI v4]) 7, [], S.ns, Hp S) ((0, some (vI o.1)), o.2.ns, Hp o.2) := by
  unfold g158 at h
  show Ru none 18 391 158 (0, [some (.ref 36), some (vI v1), some (vI v2), some (vI v3), some (vI v4), none, none], [], S.ns, Hp S) _
  refine Ru.op (q := (.aload_n 0, 1)) (S' := (1, _, _, _, _)) (by decide +kernel) rfl ?_
  obtain ⟨o1, e2, h⟩ := ob_some h
  refine Ru.vcallI (pc' := 4) (st' := []) (i := 294) (j2 := 99) (ci := 10) (k := 0) (z := 0) (as := []) (by decide +kernel) (by decide +kernel) rfl rfl (hp36 _) (by decide) ⟨(Nat.le_of_ble_eq_true rfl), (by show 19 + 1 ≤ 391; exact Nat.le_of_ble_eq_true rfl), Nat.le_of_ble_eq_true rfl, Nat.le_of_ble_eq_true rfl⟩ ((g99_ok e2).up (Nat.le_of_ble_eq_true rfl) (Nat.le_of_ble_eq_true rfl)) rfl rfl ?_
  refine Ru.op (q := (.aload_n 0, 1)) (S' := (5, _, _, _, _)) (by decide +kernel) rfl ?_
  refine Ru.kI (q := (.iconst 1, 1)) (c := 1) (pc' := 6) (by decide +kernel) rfl (by decide) rfl ?_
  refine Ru.putH (pc' := 9) (i := 167) (ci := 10) (k := 29) (nn := 0) (z := 0) (by decide +kernel) (by decide +kernel) (hp36 _) (by decide) (Nat.le_of_ble_eq_true rfl) (fk_b (by decide)) (by decide +kernel) (pf_36_29 _ _) rfl ?_
  refine Ru.op (q := (.aload_n 0, 1)) (S' := (10, _, _, _, _)) (by decide +kernel) rfl ?_
  obtain ⟨o3, e4, h⟩ := ob_some h
  refine Ru.vcallI (pc' := 13) (st' := [vI o3]) (i := 143) (j2 := 102) (ci := 10) (k := 0) (z := 0) (as := []) (by decide +kernel) (by decide +kernel) rfl rfl (hp36 _) (by decide) ⟨(Nat.le_of_ble_eq_true rfl), (by show 19 + 1 ≤ 391; exact Nat.le_of_ble_eq_true rfl), Nat.le_of_ble_eq_true rfl, Nat.le_of_ble_eq_true rfl⟩ ((g102_ok e4).up (Nat.le_of_ble_eq_true rfl) (Nat.le_of_ble_eq_true rfl)) rfl rfl ?_
  refine Ru.kI (q := (.bipush 48, 2)) (c := 48) (pc' := 15) (by decide +kernel) rfl (by decide) rfl ?_
  obtain ⟨g5, h⟩ := gd_some h
  by_cases b6 : o3 = 48
  · replace h := if_t b6 h
    refine Ru.br2 (k := .ne) (off := 16) (bb := false) (tg := 18) (by decide +kernel) (by decide +kernel) (ci_ne0 g5 (by decide) b6) rfl ?_
    refine Ru.op (q := (.aload_n 0, 1)) (S' := (19, _, _, _, _)) (by decide +kernel) rfl ?_
    refine Ru.op (q := (.dup, 1)) (S' := (20, _, _, _, _)) (by decide +kernel) rfl ?_
    refine Ru.getI (pc' := 23) (i := 140) (ci := 10) (k := 27) (nn := 0) (z := 0) (x := (o1.F 36 27)) (by decide +kernel) (by decide +kernel) (hp36 _) (by decide) rfl (eI_of _) rfl ?_
    refine Ru.kI (q := (.iconst 1, 1)) (c := 1) (pc' := 24) (by decide +kernel) rfl (by decide) rfl ?_
    refine Ru.ar2 (i := .iadd) (z := ((o1.F 36 27) + 1)) (pc' := 25) (by decide +kernel) rfl (ar_add _ _) rfl ?_
    refine Ru.putH (pc' := 28) (i := 140) (ci := 10) (k := 27) (nn := 0) (z := 0) (by decide +kernel) (by decide +kernel) (hp36 _) (by decide) (Nat.le_of_ble_eq_true rfl) rfl (by decide +kernel) (pf_36_27 _ _) rfl ?_
    refine Ru.op (q := (.goto 103, 3)) (S' := (131, _, _, _, _)) (by decide +kernel) rfl ?_
    exact g158C131_ok ⟨rfl, rfl, trivial⟩ h
  · replace h := if_f b6 h
    refine Ru.br2 (k := .ne) (off := 16) (bb := true) (tg := 31) (by decide +kernel) (by decide +kernel) (ci_ne1 g5 (by decide) b6) rfl ?_
    refine Ru.kI (q := (.iconst 1, 1)) (c := 1) (pc' := 32) (by decide +kernel) rfl (by decide) rfl ?_
    refine Ru.op (q := (.istore 5, 2)) (S' := (34, [some (.ref 36), some (vI v1), some (vI v2), some (vI v3), some (vI v4), some (vI 1), none], [], _, _)) (by decide +kernel) rfl ?_
    obtain ⟨o63, e66, h⟩ := ob_some h
    refine g158L34_ok FU _ _ _ ⟨rfl, trivial⟩ _ e66 _ ?_
    intro d64 d65 hd67
    exact g158C131_ok ⟨hd67.1, hd67.2.1, trivial⟩ h
