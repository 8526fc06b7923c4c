set_option maxRecDepth 100000 in
set_option maxHeartbeats 4000000 in
theorem g106L6_ok : ∀ (n : Nat) (v1 : Int) (v2 : Int) (v3 : Int) (S : St) (_ : DD []) (out : St), g106L6 n v1 v2 v3 S = some out → ∀ r, (∀ (e0 e1 e2 e3 : Option Value), DD [e0, e1, e2, e3] → Ru none 15 309 106 (172, [e0, e1, e2, e3], [], out.ns, Hp out) r) → Ru none 15 309 106 (6, [some (.ref 36), some (vI v1), some (vI v2), some (vI v3)], [], S.ns, Hp S) r := by
  intro n
  induction n with
  | zero => intro v1 v2 v3 S hdd out h; cases h
  | succ n ih =>
    intro v1 v2 v3 S hdd out h r hk
    unfold g106L6 at h
    refine Ru.op (q := (.iload_n 3, 1)) (S' := (7, _, _, _, _)) (by decide +kernel) rfl ?_
    obtain ⟨g1, h⟩ := gd_some h
    by_cases b2 : v3 = 0
    · replace h := if_t b2 h
      refine Ru.br (k := .eq) (off := 165) (bb := true) (tg := 172) (by decide +kernel) (by decide +kernel) (cz (ci_eq1 g1 (by decide) b2)) rfl ?_
      cases h
      exact hk _ _ _ _ ⟨rfl, rfl, rfl, rfl, trivial⟩
    · replace h := if_f b2 h
      refine Ru.br (k := .eq) (off := 165) (bb := false) (tg := 10) (by decide +kernel) (by decide +kernel) (cz (ci_eq0 g1 (by decide) b2)) rfl ?_
      refine Ru.op (q := (.aload_n 0, 1)) (S' := (11, _, _, _, _)) (by decide +kernel) rfl ?_
      refine Ru.getI (pc' := 14) (i := 151) (ci := 10) (k := 28) (nn := 0) (z := 0) (x := (S.F 36 28)) (by decide +kernel) (by decide +kernel) (hp36 _) (by decide) rfl (eI_of _) rfl ?_
      by_cases b3 : (S.F 36 28) = 0
      · replace h := if_t b3 h
        refine Ru.br (k := .ne) (off := 158) (bb := false) (tg := 17) (by decide +kernel) (by decide +kernel) (cz (ci_ne0 (inR_to _) (by decide) b3)) rfl ?_
        refine Ru.op (q := (.iload_n 2, 1)) (S' := (18, _, _, _, _)) (by decide +kernel) rfl ?_
        obtain ⟨g4, h⟩ := gd_some h
        by_cases b5 : v2 = 0
        · replace h := if_t b5 h
          refine Ru.br (k := .eq) (off := 75) (bb := true) (tg := 93) (by decide +kernel) (by decide +kernel) (cz (ci_eq1 g4 (by decide) b5)) rfl ?_
          refine Ru.op (q := (.iload_n 1, 1)) (S' := (94, _, _, _, _)) (by decide +kernel) rfl ?_
          obtain ⟨g6, h⟩ := gd_some h
          by_cases b7 : v1 = 0
          · replace h := if_t b7 h
            refine Ru.br (k := .ne) (off := 8) (bb := false) (tg := 97) (by decide +kernel) (by decide +kernel) (cz (ci_ne0 g6 (by decide) b7)) rfl ?_
            refine Ru.kI (q := (.iconst 0, 1)) (c := 0) (pc' := 98) (by decide +kernel) rfl (by decide) rfl ?_
            refine Ru.op (q := (.istore_n 3, 1)) (S' := (99, [some (.ref 36), some (vI v1), some (vI v2), some (vI 0)], [], _, _)) (by decide +kernel) rfl ?_
            refine Ru.op (q := (.goto (-93), 3)) (S' := (6, _, _, _, _)) (by decide +kernel) rfl ?_
            exact ih _ _ _ _ trivial _ h r hk
          · replace h := if_f b7 h
            refine Ru.br (k := .ne) (off := 8) (bb := true) (tg := 102) (by decide +kernel) (by decide +kernel) (cz (ci_ne1 g6 (by decide) b7)) rfl ?_
            refine Ru.op (q := (.aload_n 0, 1)) (S' := (103, _, _, _, _)) (by decide +kernel) rfl ?_
            obtain ⟨o8, e9, h⟩ := ob_some h
            refine Ru.vcallI (pc' := 106) (st' := [vI o8]) (i := 143) (j2 := 102) (ci := 10) (k := 0) (z := 0) (as := []) (by decide +kernel) (by decide +kernel) rfl rfl (hp36 _) (by decide) ⟨(Nat.le_of_ble_eq_true rfl), (by show 19 + 1 ≤ 309; exact Nat.le_of_ble_eq_true rfl), Nat.le_of_ble_eq_true rfl, Nat.le_of_ble_eq_true rfl⟩ ((g102_ok e9).up (Nat.le_of_ble_eq_true rfl) (Nat.le_of_ble_eq_true rfl)) rfl rfl ?_
            refine Ru.kI (q := (.bipush 44, 2)) (c := 44) (pc' := 108) (by decide +kernel) rfl (by decide) rfl ?_
            obtain ⟨g10, h⟩ := gd_some h
            by_cases b11 : o8 = 44
            · replace h := if_t b11 h
              refine Ru.br2 (k := .ne) (off := 29) (bb := false) (tg := 111) (by decide +kernel) (by decide +kernel) (ci_ne0 g10 (by decide) b11) rfl ?_
              refine Ru.op (q := (.aload_n 0, 1)) (S' := (112, _, _, _, _)) (by decide +kernel) rfl ?_
              refine Ru.op (q := (.dup, 1)) (S' := (113, _, _, _, _)) (by decide +kernel) rfl ?_
              refine Ru.getI (pc' := 116) (i := 140) (ci := 10) (k := 27) (nn := 0) (z := 0) (x := (S.F 36 27)) (by decide +kernel) (by decide +kernel) (hp36 _) (by decide) rfl (eI_of _) rfl ?_
              refine Ru.kI (q := (.iconst 1, 1)) (c := 1) (pc' := 117) (by decide +kernel) rfl (by decide) rfl ?_
              refine Ru.ar2 (i := .iadd) (z := ((S.F 36 27) + 1)) (pc' := 118) (by decide +kernel) rfl (ar_add _ _) rfl ?_
              refine Ru.putH (pc' := 121) (i := 140) (ci := 10) (k := 27) (nn := 0) (z := 0) (by decide +kernel) (by decide +kernel) (hp36 _) (by decide) (Nat.le_of_ble_eq_true rfl) rfl (by decide +kernel) (pf_36_27 _ _) rfl ?_
              refine Ru.op (q := (.aload_n 0, 1)) (S' := (122, _, _, _, _)) (by decide +kernel) rfl ?_
              refine Ru.op (q := (.aload_n 0, 1)) (S' := (123, _, _, _, _)) (by decide +kernel) rfl ?_
              refine Ru.getR (pc' := 126) (i := 66) (ci := 10) (k := 37) (nn := 0) (z := 0) (v := .ref 53) (by decide +kernel) (by decide +kernel) (hp36 _) (by decide) rfl rfl ?_
              refine Ru.op (q := (.iload_n 1, 1)) (S' := (127, _, _, _, _)) (by decide +kernel) rfl ?_
              refine Ru.kI (q := (.iconst 1, 1)) (c := 1) (pc' := 128) (by decide +kernel) rfl (by decide) rfl ?_
              refine Ru.ar2 (i := .isub) (z := (v1 - 1)) (pc' := 129) (by decide +kernel) rfl (ar_sub _ _) rfl ?_
              obtain ⟨g12, h⟩ := gd_some h
              refine Ru.ildI (pc' := 130) (i := (v1 - 1)) (z := (S.A 53 (v1 - 1))) (by decide +kernel) (hp53 _) g12 (eI_of _) rfl ?_
              obtain ⟨o13, e14, h⟩ := ob_some h
              refine Ru.vcallI (pc' := 133) (st' := [vI o13.1]) (i := 183) (j2 := 107) (ci := 10) (k := 0) (z := 0) (as := [vI (S.A 53 (v1 - 1))]) (by decide +kernel) (by decide +kernel) rfl rfl (hp36 _) (by decide) ⟨(Nat.le_of_ble_eq_true rfl), (by show 19 + 3 ≤ 309; exact Nat.le_of_ble_eq_true rfl), Nat.le_of_ble_eq_true rfl, Nat.le_of_ble_eq_true rfl⟩ ((g107_ok e14).up (Nat.le_of_ble_eq_true rfl) (Nat.le_of_ble_eq_true rfl)) rfl rfl ?_
              refine Ru.op (q := (.istore_n 2, 1)) (S' := (134, [some (.ref 36), some (vI v1), some (vI o13.1), some (vI v3)], [], _, _)) (by decide +kernel) rfl ?_
              refine Ru.op (q := (.goto (-128), 3)) (S' := (6, _, _, _, _)) (by decide +kernel) rfl ?_
              exact ih _ _ _ _ trivial _ h r hk
            · replace h := if_f b11 h
              refine Ru.br2 (k := .ne) (off := 29) (bb := true) (tg := 137) (by decide +kernel) (by decide +kernel) (ci_ne1 g10 (by decide) b11) rfl ?_
              refine Ru.op (q := (.aload_n 0, 1)) (S' := (138, _, _, _, _)) (by decide +kernel) rfl ?_
              obtain ⟨o15, e16, h⟩ := ob_some h
              refine Ru.vcallI (pc' := 141) (st' := [vI o15]) (i := 143) (j2 := 102) (ci := 10) (k := 0) (z := 0) (as := []) (by decide +kernel) (by decide +kernel) rfl rfl (hp36 _) (by decide) ⟨(Nat.le_of_ble_eq_true rfl), (by show 19 + 1 ≤ 309; exact Nat.le_of_ble_eq_true rfl), Nat.le_of_ble_eq_true rfl, Nat.le_of_ble_eq_true rfl⟩ ((g102_ok e16).up (Nat.le_of_ble_eq_true rfl) (Nat.le_of_ble_eq_true rfl)) rfl rfl ?_
              refine Ru.kI (q := (.bipush 41, 2)) (c := 41) (pc' := 143) (by decide +kernel) rfl (by decide) rfl ?_
              obtain ⟨g17, h⟩ := gd_some h
              by_cases b18 : o15 = 41
              · replace h := if_t b18 h
                refine Ru.br2 (k := .ne) (off := 21) (bb := false) (tg := 146) (by decide +kernel) (by decide +kernel) (ci_ne0 g17 (by decide) b18) rfl ?_
                refine Ru.op (q := (.aload_n 0, 1)) (S' := (147, _, _, _, _)) (by decide +kernel) rfl ?_
                refine Ru.op (q := (.dup, 1)) (S' := (148, _, _, _, _)) (by decide +kernel) rfl ?_
                refine Ru.getI (pc' := 151) (i := 140) (ci := 10) (k := 27) (nn := 0) (z := 0) (x := (S.F 36 27)) (by decide +kernel) (by decide +kernel) (hp36 _) (by decide) rfl (eI_of _) rfl ?_
                refine Ru.kI (q := (.iconst 1, 1)) (c := 1) (pc' := 152) (by decide +kernel) rfl (by decide) rfl ?_
                refine Ru.ar2 (i := .iadd) (z := ((S.F 36 27) + 1)) (pc' := 153) (by decide +kernel) rfl (ar_add _ _) rfl ?_
                refine Ru.putH (pc' := 156) (i := 140) (ci := 10) (k := 27) (nn := 0) (z := 0) (by decide +kernel) (by decide +kernel) (hp36 _) (by decide) (Nat.le_of_ble_eq_true rfl) rfl (by decide +kernel) (pf_36_27 _ _) rfl ?_
                refine Ru.inc (k := 1) (n := (-1)) (x := v1) (z := (v1 + (-1))) (xs' := [some (.ref 36), some (vI (v1 + (-1))), some (vI v2), some (vI v3)]) (pc' := 159) (by decide +kernel) rfl rfl rfl rfl ?_
                refine Ru.kI (q := (.iconst 0, 1)) (c := 0) (pc' := 160) (by decide +kernel) rfl (by decide) rfl ?_
                refine Ru.op (q := (.istore_n 2, 1)) (S' := (161, [some (.ref 36), some (vI (v1 + (-1))), some (vI 0), some (vI v3)], [], _, _)) (by decide +kernel) rfl ?_
                refine Ru.op (q := (.goto (-155), 3)) (S' := (6, _, _, _, _)) (by decide +kernel) rfl ?_
                exact ih _ _ _ _ trivial _ h r hk
              · replace h := if_f b18 h
                refine Ru.br2 (k := .ne) (off := 21) (bb := true) (tg := 164) (by decide +kernel) (by decide +kernel) (ci_ne1 g17 (by decide) b18) rfl ?_
                refine Ru.op (q := (.aload_n 0, 1)) (S' := (165, _, _, _, _)) (by decide +kernel) rfl ?_
                refine Ru.kI (q := (.iconst 1, 1)) (c := 1) (pc' := 166) (by decide +kernel) rfl (by decide) rfl ?_
                refine Ru.putH (pc' := 169) (i := 151) (ci := 10) (k := 28) (nn := 0) (z := 0) (by decide +kernel) (by decide +kernel) (hp36 _) (by decide) (Nat.le_of_ble_eq_true rfl) (fk_b (by decide)) (by decide +kernel) (pf_36_28 _ _) rfl ?_
                refine Ru.op (q := (.goto (-163), 3)) (S' := (6, _, _, _, _)) (by decide +kernel) rfl ?_
                exact ih _ _ _ _ trivial _ h r hk
        · replace h := if_f b5 h
          refine Ru.br (k := .eq) (off := 75) (bb := false) (tg := 21) (by decide +kernel) (by decide +kernel) (cz (ci_eq0 g4 (by decide) b5)) rfl ?_
          refine Ru.op (q := (.aload_n 0, 1)) (S' := (22, _, _, _, _)) (by decide +kernel) rfl ?_
          obtain ⟨o19, e20, h⟩ := ob_some h
          refine Ru.vcallI (pc' := 25) (st' := [vI o19]) (i := 143) (j2 := 102) (ci := 10) (k := 0) (z := 0) (as := []) (by decide +kernel) (by decide +kernel) rfl rfl (hp36 _) (by decide) ⟨(Nat.le_of_ble_eq_true rfl), (by show 19 + 1 ≤ 309; exact Nat.le_of_ble_eq_true rfl), Nat.le_of_ble_eq_true rfl, Nat.le_of_ble_eq_true rfl⟩ ((g102_ok e20).up (Nat.le_of_ble_eq_true rfl) (Nat.le_of_ble_eq_true rfl)) rfl rfl ?_
          refine Ru.kI (q := (.bipush 40, 2)) (c := 40) (pc' := 27) (by decide +kernel) rfl (by decide) rfl ?_
          obtain ⟨g21, h⟩ := gd_some h
          by_cases b22 : o19 = 40
          · replace h := if_t b22 h
            refine Ru.br2 (k := .ne) (off := 66) (bb := false) (tg := 30) (by decide +kernel) (by decide +kernel) (ci_ne0 g21 (by decide) b22) rfl ?_
            refine Ru.op (q := (.aload_n 0, 1)) (S' := (31, _, _, _, _)) (by decide +kernel) rfl ?_
            refine Ru.op (q := (.iload_n 1, 1)) (S' := (32, _, _, _, _)) (by decide +kernel) rfl ?_
            refine Ru.kI (q := (.bipush 14, 2)) (c := 14) (pc' := 34) (by decide +kernel) rfl (by decide) rfl ?_
            obtain ⟨g23, h⟩ := gd_some h
            by_cases b24 : 14 < v1
            · replace h := if_t b24 h
              refine Ru.br2 (k := .le) (off := 7) (bb := false) (tg := 37) (by decide +kernel) (by decide +kernel) (ci_le0 g23 (by decide) b24) rfl ?_
              refine Ru.kI (q := (.iconst 1, 1)) (c := 1) (pc' := 38) (by decide +kernel) rfl (by decide) rfl ?_
              refine Ru.op (q := (.goto 4, 3)) (S' := (42, _, _, _, _)) (by decide +kernel) rfl ?_
              refine Ru.putH (pc' := 45) (i := 151) (ci := 10) (k := 28) (nn := 0) (z := 0) (by decide +kernel) (by decide +kernel) (hp36 _) (by decide) (Nat.le_of_ble_eq_true rfl) (fk_b (by decide)) (by decide +kernel) (pf_36_28 _ _) rfl ?_
              refine Ru.op (q := (.aload_n 0, 1)) (S' := (46, _, _, _, _)) (by decide +kernel) rfl ?_
              refine Ru.getI (pc' := 49) (i := 151) (ci := 10) (k := 28) (nn := 0) (z := 0) (x := 1) (by decide +kernel) (by decide +kernel) (hp36 _) (by decide) rfl rfl rfl ?_
              refine Ru.br (k := .ne) (off := -43) (bb := true) (tg := 6) (by decide +kernel) (by decide +kernel) (by decide) rfl ?_
              exact ih _ _ _ _ trivial _ h r hk
            · replace h := if_f b24 h
              refine Ru.br2 (k := .le) (off := 7) (bb := true) (tg := 41) (by decide +kernel) (by decide +kernel) (ci_le1 g23 (by decide) b24) rfl ?_
              refine Ru.kI (q := (.iconst 0, 1)) (c := 0) (pc' := 42) (by decide +kernel) rfl (by decide) rfl ?_
              refine Ru.putH (pc' := 45) (i := 151) (ci := 10) (k := 28) (nn := 0) (z := 0) (by decide +kernel) (by decide +kernel) (hp36 _) (by decide) (Nat.le_of_ble_eq_true rfl) (fk_b (by decide)) (by decide +kernel) (pf_36_28 _ _) rfl ?_
              refine Ru.op (q := (.aload_n 0, 1)) (S' := (46, _, _, _, _)) (by decide +kernel) rfl ?_
              refine Ru.getI (pc' := 49) (i := 151) (ci := 10) (k := 28) (nn := 0) (z := 0) (x := 0) (by decide +kernel) (by decide +kernel) (hp36 _) (by decide) rfl rfl rfl ?_
              refine Ru.br (k := .ne) (off := -43) (bb := false) (tg := 52) (by decide +kernel) (by decide +kernel) (by decide) rfl ?_
              refine Ru.op (q := (.aload_n 0, 1)) (S' := (53, _, _, _, _)) (by decide +kernel) rfl ?_
              refine Ru.getR (pc' := 56) (i := 66) (ci := 10) (k := 37) (nn := 0) (z := 0) (v := .ref 53) (by decide +kernel) (by decide +kernel) (hp36 _) (by decide) rfl rfl ?_
              refine Ru.op (q := (.iload_n 1, 1)) (S' := (57, _, _, _, _)) (by decide +kernel) rfl ?_
              refine Ru.op (q := (.aload_n 0, 1)) (S' := (58, _, _, _, _)) (by decide +kernel) rfl ?_
              refine Ru.getI (pc' := 61) (i := 155) (ci := 10) (k := 22) (nn := 0) (z := 0) (x := (S.F 36 22)) (by decide +kernel) (by decide +kernel) (hp36 _) (by decide) rfl (eI_of _) rfl ?_
              refine Ru.kI (q := (.iconst 1, 1)) (c := 1) (pc' := 62) (by decide +kernel) rfl (by decide) rfl ?_
              refine Ru.ar2 (i := .isub) (z := ((S.F 36 22) - 1)) (pc' := 63) (by decide +kernel) rfl (ar_sub _ _) rfl ?_
              obtain ⟨g25, h⟩ := gd_some h
              refine Ru.istI (pc' := 64) (i := v1) (x := ((S.F 36 22) - 1)) (by decide +kernel) (hp53 _) g25 (ps_53 _ _ _) rfl ?_
              refine Ru.inc (k := 1) (n := 1) (x := v1) (z := (v1 + 1)) (xs' := [some (.ref 36), some (vI (v1 + 1)), some (vI v2), some (vI v3)]) (pc' := 67) (by decide +kernel) rfl rfl rfl rfl ?_
              refine Ru.op (q := (.aload_n 0, 1)) (S' := (68, _, _, _, _)) (by decide +kernel) rfl ?_
              refine Ru.op (q := (.dup, 1)) (S' := (69, _, _, _, _)) (by decide +kernel) rfl ?_
              refine Ru.getI (pc' := 72) (i := 140) (ci := 10) (k := 27) (nn := 0) (z := 0) (x := (S.F 36 27)) (by decide +kernel) (by decide +kernel) (hp36 _) (by decide) rfl (eI_of _) rfl ?_
              refine Ru.kI (q := (.iconst 1, 1)) (c := 1) (pc' := 73) (by decide +kernel) rfl (by decide) rfl ?_
              refine Ru.ar2 (i := .iadd) (z := ((S.F 36 27) + 1)) (pc' := 74) (by decide +kernel) rfl (ar_add _ _) rfl ?_
              refine Ru.putH (pc' := 77) (i := 140) (ci := 10) (k := 27) (nn := 0) (z := 0) (by decide +kernel) (by decide +kernel) (hp36 _) (by decide) (Nat.le_of_ble_eq_true rfl) rfl (by decide +kernel) (pf_36_27 _ _) rfl ?_
              refine Ru.op (q := (.aload_n 0, 1)) (S' := (78, _, _, _, _)) (by decide +kernel) rfl ?_
              refine Ru.op (q := (.aload_n 0, 1)) (S' := (79, _, _, _, _)) (by decide +kernel) rfl ?_
              refine Ru.getR (pc' := 82) (i := 66) (ci := 10) (k := 37) (nn := 0) (z := 0) (v := .ref 53) (by decide +kernel) (by decide +kernel) (hp36 _) (by decide) rfl rfl ?_
              refine Ru.op (q := (.iload_n 1, 1)) (S' := (83, _, _, _, _)) (by decide +kernel) rfl ?_
              refine Ru.kI (q := (.iconst 1, 1)) (c := 1) (pc' := 84) (by decide +kernel) rfl (by decide) rfl ?_
              refine Ru.ar2 (i := .isub) (z := ((v1 + 1) - 1)) (pc' := 85) (by decide +kernel) rfl (ar_sub _ _) rfl ?_
              obtain ⟨g26, h⟩ := gd_some h
              refine Ru.ildI (pc' := 86) (i := ((v1 + 1) - 1)) (z := (((S.f 36 28 0).a 53 v1 ((S.F 36 22) - 1)).A 53 ((v1 + 1) - 1))) (by decide +kernel) (hp53 _) g26 (eI_of _) rfl ?_
              obtain ⟨o27, e28, h⟩ := ob_some h
              refine Ru.vcallI (pc' := 89) (st' := [vI o27.1]) (i := 183) (j2 := 107) (ci := 10) (k := 0) (z := 0) (as := [vI (((S.f 36 28 0).a 53 v1 ((S.F 36 22) - 1)).A 53 ((v1 + 1) - 1))]) (by decide +kernel) (by decide +kernel) rfl rfl (hp36 _) (by decide) ⟨(Nat.le_of_ble_eq_true rfl), (by show 19 + 3 ≤ 309; exact Nat.le_of_ble_eq_true rfl), Nat.le_of_ble_eq_true rfl, Nat.le_of_ble_eq_true rfl⟩ ((g107_ok e28).up (Nat.le_of_ble_eq_true rfl) (Nat.le_of_ble_eq_true rfl)) rfl rfl ?_
              refine Ru.op (q := (.istore_n 2, 1)) (S' := (90, [some (.ref 36), some (vI (v1 + 1)), some (vI o27.1), some (vI v3)], [], _, _)) (by decide +kernel) rfl ?_
              refine Ru.op (q := (.goto (-84), 3)) (S' := (6, _, _, _, _)) (by decide +kernel) rfl ?_
              exact ih _ _ _ _ trivial _ h r hk
          · replace h := if_f b22 h
            refine Ru.br2 (k := .ne) (off := 66) (bb := true) (tg := 93) (by decide +kernel) (by decide +kernel) (ci_ne1 g21 (by decide) b22) rfl ?_
            refine Ru.op (q := (.iload_n 1, 1)) (S' := (94, _, _, _, _)) (by decide +kernel) rfl ?_
            obtain ⟨g29, h⟩ := gd_some h
            by_cases b30 : v1 = 0
            · replace h := if_t b30 h
              refine Ru.br (k := .ne) (off := 8) (bb := false) (tg := 97) (by decide +kernel) (by decide +kernel) (cz (ci_ne0 g29 (by decide) b30)) rfl ?_
              refine Ru.kI (q := (.iconst 0, 1)) (c := 0) (pc' := 98) (by decide +kernel) rfl (by decide) rfl ?_
              refine Ru.op (q := (.istore_n 3, 1)) (S' := (99, [some (.ref 36), some (vI v1), some (vI v2), some (vI 0)], [], _, _)) (by decide +kernel) rfl ?_
              refine Ru.op (q := (.goto (-93), 3)) (S' := (6, _, _, _, _)) (by decide +kernel) rfl ?_
              exact ih _ _ _ _ trivial _ h r hk
            · replace h := if_f b30 h
              refine Ru.br (k := .ne) (off := 8) (bb := true) (tg := 102) (by decide +kernel) (by decide +kernel) (cz (ci_ne1 g29 (by decide) b30)) rfl ?_
              refine Ru.op (q := (.aload_n 0, 1)) (S' := (103, _, _, _, _)) (by decide +kernel) rfl ?_
              obtain ⟨o31, e32, h⟩ := ob_some h
              refine Ru.vcallI (pc' := 106) (st' := [vI o31]) (i := 143) (j2 := 102) (ci := 10) (k := 0) (z := 0) (as := []) (by decide +kernel) (by decide +kernel) rfl rfl (hp36 _) (by decide) ⟨(Nat.le_of_ble_eq_true rfl), (by show 19 + 1 ≤ 309; exact Nat.le_of_ble_eq_true rfl), Nat.le_of_ble_eq_true rfl, Nat.le_of_ble_eq_true rfl⟩ ((g102_ok e32).up (Nat.le_of_ble_eq_true rfl) (Nat.le_of_ble_eq_true rfl)) rfl rfl ?_
              refine Ru.kI (q := (.bipush 44, 2)) (c := 44) (pc' := 108) (by decide +kernel) rfl (by decide) rfl ?_
              obtain ⟨g33, h⟩ := gd_some h
              by_cases b34 : o31 = 44
              · replace h := if_t b34 h
                refine Ru.br2 (k := .ne) (off := 29) (bb := false) (tg := 111) (by decide +kernel) (by decide +kernel) (ci_ne0 g33 (by decide) b34) rfl ?_
                refine Ru.op (q := (.aload_n 0, 1)) (S' := (112, _, _, _, _)) (by decide +kernel) rfl ?_
                refine Ru.op (q := (.dup, 1)) (S' := (113, _, _, _, _)) (by decide +kernel) rfl ?_
                refine Ru.getI (pc' := 116) (i := 140) (ci := 10) (k := 27) (nn := 0) (z := 0) (x := (S.F 36 27)) (by decide +kernel) (by decide +kernel) (hp36 _) (by decide) rfl (eI_of _) rfl ?_
                refine Ru.kI (q := (.iconst 1, 1)) (c := 1) (pc' := 117) (by decide +kernel) rfl (by decide) rfl ?_
                refine Ru.ar2 (i := .iadd) (z := ((S.F 36 27) + 1)) (pc' := 118) (by decide +kernel) rfl (ar_add _ _) rfl ?_
                refine Ru.putH (pc' := 121) (i := 140) (ci := 10) (k := 27) (nn := 0) (z := 0) (by decide +kernel) (by decide +kernel) (hp36 _) (by decide) (Nat.le_of_ble_eq_true rfl) rfl (by decide +kernel) (pf_36_27 _ _) rfl ?_
                refine Ru.op (q := (.aload_n 0, 1)) (S' := (122, _, _, _, _)) (by decide +kernel) rfl ?_
                refine Ru.op (q := (.aload_n 0, 1)) (S' := (123, _, _, _, _)) (by decide +kernel) rfl ?_
                refine Ru.getR (pc' := 126) (i := 66) (ci := 10) (k := 37) (nn := 0) (z := 0) (v := .ref 53) (by decide +kernel) (by decide +kernel) (hp36 _) (by decide) rfl rfl ?_
                refine Ru.op (q := (.iload_n 1, 1)) (S' := (127, _, _, _, _)) (by decide +kernel) rfl ?_
                refine Ru.kI (q := (.iconst 1, 1)) (c := 1) (pc' := 128) (by decide +kernel) rfl (by decide) rfl ?_
                refine Ru.ar2 (i := .isub) (z := (v1 - 1)) (pc' := 129) (by decide +kernel) rfl (ar_sub _ _) rfl ?_
                obtain ⟨g35, h⟩ := gd_some h
                refine Ru.ildI (pc' := 130) (i := (v1 - 1)) (z := (S.A 53 (v1 - 1))) (by decide +kernel) (hp53 _) g35 (eI_of _) rfl ?_
                obtain ⟨o36, e37, h⟩ := ob_some h
                refine Ru.vcallI (pc' := 133) (st' := [vI o36.1]) (i := 183) (j2 := 107) (ci := 10) (k := 0) (z := 0) (as := [vI (S.A 53 (v1 - 1))]) (by decide +kernel) (by decide +kernel) rfl rfl (hp36 _) (by decide) ⟨(Nat.le_of_ble_eq_true rfl), (by show 19 + 3 ≤ 309; exact Nat.le_of_ble_eq_true rfl), Nat.le_of_ble_eq_true rfl, Nat.le_of_ble_eq_true rfl⟩ ((g107_ok e37).up (Nat.le_of_ble_eq_true rfl) (Nat.le_of_ble_eq_true rfl)) rfl rfl ?_
                refine Ru.op (q := (.istore_n 2, 1)) (S' := (134, [some (.ref 36), some (vI v1), some (vI o36.1), some (vI v3)], [], _, _)) (by decide +kernel) rfl ?_
                refine Ru.op (q := (.goto (-128), 3)) (S' := (6, _, _, _, _)) (by decide +kernel) rfl ?_
                exact ih _ _ _ _ trivial _ h r hk
              · replace h := if_f b34 h
                refine Ru.br2 (k := .ne) (off := 29) (bb := true) (tg := 137) (by decide +kernel) (by decide +kernel) (ci_ne1 g33 (by decide) b34) rfl ?_
                refine Ru.op (q := (.aload_n 0, 1)) (S' := (138, _, _, _, _)) (by decide +kernel) rfl ?_
                obtain ⟨o38, e39, h⟩ := ob_some h
                refine Ru.vcallI (pc' := 141) (st' := [vI o38]) (i := 143) (j2 := 102) (ci := 10) (k := 0) (z := 0) (as := []) (by decide +kernel) (by decide +kernel) rfl rfl (hp36 _) (by decide) ⟨(Nat.le_of_ble_eq_true rfl), (by show 19 + 1 ≤ 309; exact Nat.le_of_ble_eq_true rfl), Nat.le_of_ble_eq_true rfl, Nat.le_of_ble_eq_true rfl⟩ ((g102_ok e39).up (Nat.le_of_ble_eq_true rfl) (Nat.le_of_ble_eq_true rfl)) rfl rfl ?_
                refine Ru.kI (q := (.bipush 41, 2)) (c := 41) (pc' := 143) (by decide +kernel) rfl (by decide) rfl ?_
                obtain ⟨g40, h⟩ := gd_some h
                by_cases b41 : o38 = 41
                · replace h := if_t b41 h
                  refine Ru.br2 (k := .ne) (off := 21) (bb := false) (tg := 146) (by decide +kernel) (by decide +kernel) (ci_ne0 g40 (by decide) b41) rfl ?_
                  refine Ru.op (q := (.aload_n 0, 1)) (S' := (147, _, _, _, _)) (by decide +kernel) rfl ?_
                  refine Ru.op (q := (.dup, 1)) (S' := (148, _, _, _, _)) (by decide +kernel) rfl ?_
                  refine Ru.getI (pc' := 151) (i := 140) (ci := 10) (k := 27) (nn := 0) (z := 0) (x := (S.F 36 27)) (by decide +kernel) (by decide +kernel) (hp36 _) (by decide) rfl (eI_of _) rfl ?_
                  refine Ru.kI (q := (.iconst 1, 1)) (c := 1) (pc' := 152) (by decide +kernel) rfl (by decide) rfl ?_
                  refine Ru.ar2 (i := .iadd) (z := ((S.F 36 27) + 1)) (pc' := 153) (by decide +kernel) rfl (ar_add _ _) rfl ?_
                  refine Ru.putH (pc' := 156) (i := 140) (ci := 10) (k := 27) (nn := 0) (z := 0) (by decide +kernel) (by decide +kernel) (hp36 _) (by decide) (Nat.le_of_ble_eq_true rfl) rfl (by decide +kernel) (pf_36_27 _ _) rfl ?_
                  refine Ru.inc (k := 1) (n := (-1)) (x := v1) (z := (v1 + (-1))) (xs' := [some (.ref 36), some (vI (v1 + (-1))), some (vI v2), some (vI v3)]) (pc' := 159) (by decide +kernel) rfl rfl rfl rfl ?_
                  refine Ru.kI (q := (.iconst 0, 1)) (c := 0) (pc' := 160) (by decide +kernel) rfl (by decide) rfl ?_
                  refine Ru.op (q := (.istore_n 2, 1)) (S' := (161, [some (.ref 36), some (vI (v1 + (-1))), some (vI 0), some (vI v3)], [], _, _)) (by decide +kernel) rfl ?_
                  refine Ru.op (q := (.goto (-155), 3)) (S' := (6, _, _, _, _)) (by decide +kernel) rfl ?_
                  exact ih _ _ _ _ trivial _ h r hk
                · replace h := if_f b41 h
                  refine Ru.br2 (k := .ne) (off := 21) (bb := true) (tg := 164) (by decide +kernel) (by decide +kernel) (ci_ne1 g40 (by decide) b41) rfl ?_
                  refine Ru.op (q := (.aload_n 0, 1)) (S' := (165, _, _, _, _)) (by decide +kernel) rfl ?_
                  refine Ru.kI (q := (.iconst 1, 1)) (c := 1) (pc' := 166) (by decide +kernel) rfl (by decide) rfl ?_
                  refine Ru.putH (pc' := 169) (i := 151) (ci := 10) (k := 28) (nn := 0) (z := 0) (by decide +kernel) (by decide +kernel) (hp36 _) (by decide) (Nat.le_of_ble_eq_true rfl) (fk_b (by decide)) (by decide +kernel) (pf_36_28 _ _) rfl ?_
                  refine Ru.op (q := (.goto (-163), 3)) (S' := (6, _, _, _, _)) (by decide +kernel) rfl ?_
                  exact ih _ _ _ _ trivial _ h r hk
      · replace h := if_f b3 h
        refine Ru.br (k := .ne) (off := 158) (bb := true) (tg := 172) (by decide +kernel) (by decide +kernel) (cz (ci_ne1 (inR_to _) (by decide) b3)) rfl ?_
        cases h
        exact hk _ _ _ _ ⟨rfl, rfl, rfl, rfl, trivial⟩
set_option maxRecDepth 100000 in
set_option maxHeartbeats 4000000 in
theorem g106_ok {S : St} {o : St} (h : g106 S  = some o) : Ru none 15 309 106 (0, mn_pad (mn_ent [.ref 36]) 4, [], S.ns, Hp S) ((0, none), o.ns, Hp o) := by
  unfold g106 at h
  show Ru none 15 309 106 (0, [some (.ref 36), none, none, none], [], S.ns, Hp S) _
  refine Ru.kI (q := (.iconst 0, 1)) (c := 0) (pc' := 1) (by decide +kernel) rfl (by decide) rfl ?_
  refine Ru.op (q := (.istore_n 1, 1)) (S' := (2, [some (.ref 36), some (vI 0), none, none], [], _, _)) (by decide +kernel) rfl ?_
  refine Ru.kI (q := (.iconst 1, 1)) (c := 1) (pc' := 3) (by decide +kernel) rfl (by decide) rfl ?_
  refine Ru.op (q := (.istore_n 2, 1)) (S' := (4, [some (.ref 36), some (vI 0), some (vI 1), none], [], _, _)) (by decide +kernel) rfl ?_
  refine Ru.kI (q := (.iconst 1, 1)) (c := 1) (pc' := 5) (by decide +kernel) rfl (by decide) rfl ?_
  refine Ru.op (q := (.istore_n 3, 1)) (S' := (6, [some (.ref 36), some (vI 0), some (vI 1), some (vI 1)], [], _, _)) (by decide +kernel) rfl ?_
  obtain ⟨o42, e47, h⟩ := ob_some h
  refine g106L6_ok FU _ _ _ _ trivial _ e47 _ ?_
  intro d43 d44 d45 d46 hd48
  cases h
  exact Ru.end (q := (.return_, 1)) (by decide +kernel) rfl rfl
set_option maxRecDepth 100000 in
set_option maxHeartbeats 4000000 in
theorem g103_ok {S : St} {v1 : Int} {o : St} (h : g103 S v1 = some o) : Ru none 16 332 103 (0, mn_pad (mn_ent [.ref 36, vI v1]) 2, [], S.ns, Hp S) ((0, none), o.ns, Hp o) := by
  unfold g103 at h
  show Ru none 16 332 103 (0, [some (.ref 36), some (vI v1)], [], S.ns, Hp S) _
  refine Ru.op (q := (.aload_n 0, 1)) (S' := (1, _, _, _, _)) (by decide +kernel) rfl ?_
  refine Ru.kI (q := (.bipush 65, 2)) (c := 65) (pc' := 3) (by decide +kernel) rfl (by decide) rfl ?_
  refine Ru.kI (q := (.bipush 90, 2)) (c := 90) (pc' := 5) (by decide +kernel) rfl (by decide) rfl ?_
  obtain ⟨o1, e2, h⟩ := ob_some h
  refine Ru.vcallI (pc' := 8) (st' := [vI o1]) (i := 147) (j2 := 104) (ci := 10) (k := 0) (z := 0) (as := [vI 65, vI 90]) (by decide +kernel) (by decide +kernel) rfl rfl (hp36 _) (by decide) ⟨(Nat.le_of_ble_eq_true rfl), (by show 19 + 3 ≤ 332; exact Nat.le_of_ble_eq_true rfl), Nat.le_of_ble_eq_true rfl, Nat.le_of_ble_eq_true rfl⟩ ((g104_ok e2).up (Nat.le_of_ble_eq_true rfl) (Nat.le_of_ble_eq_true rfl)) rfl rfl ?_
  obtain ⟨g3, h⟩ := gd_some h
  by_cases b4 : o1 = 0
  · replace h := if_t b4 h
    refine Ru.br (k := .ne) (off := 9) (bb := false) (tg := 11) (by decide +kernel) (by decide +kernel) (cz (ci_ne0 g3 (by decide) b4)) rfl ?_
    refine Ru.op (q := (.aload_n 0, 1)) (S' := (12, _, _, _, _)) (by decide +kernel) rfl ?_
    refine Ru.kI (q := (.iconst 1, 1)) (c := 1) (pc' := 13) (by decide +kernel) rfl (by decide) rfl ?_
    refine Ru.putH (pc' := 16) (i := 151) (ci := 10) (k := 28) (nn := 0) (z := 0) (by decide +kernel) (by decide +kernel) (hp36 _) (by decide) (Nat.le_of_ble_eq_true rfl) (fk_b (by decide)) (by decide +kernel) (pf_36_28 _ _) rfl ?_
    cases h
    exact Ru.end (q := (.return_, 1)) (by decide +kernel) rfl rfl
  · replace h := if_f b4 h
    refine Ru.br (k := .ne) (off := 9) (bb := true) (tg := 17) (by decide +kernel) (by decide +kernel) (cz (ci_ne1 g3 (by decide) b4)) rfl ?_
    refine Ru.op (q := (.aload_n 0, 1)) (S' := (18, _, _, _, _)) (by decide +kernel) rfl ?_
    refine Ru.getR (pc' := 21) (i := 87) (ci := 10) (k := 47) (nn := 0) (z := 0) (v := .ref 60) (by decide +kernel) (by decide +kernel) (hp36 _) (by decide) rfl rfl ?_
    refine Ru.op (q := (.aload_n 0, 1)) (S' := (22, _, _, _, _)) (by decide +kernel) rfl ?_
    refine Ru.getI (pc' := 25) (i := 186) (ci := 10) (k := 46) (nn := 0) (z := 0) (x := (S.F 36 46)) (by decide +kernel) (by decide +kernel) (hp36 _) (by decide) rfl (eI_of _) rfl ?_
    refine Ru.op (q := (.aload_n 0, 1)) (S' := (26, _, _, _, _)) (by decide +kernel) rfl ?_
    refine Ru.getI (pc' := 29) (i := 155) (ci := 10) (k := 22) (nn := 0) (z := 0) (x := (S.F 36 22)) (by decide +kernel) (by decide +kernel) (hp36 _) (by decide) rfl (eI_of _) rfl ?_
    obtain ⟨g5, h⟩ := gd_some h
    refine Ru.istI (pc' := 30) (i := (S.F 36 46)) (x := (S.F 36 22)) (by decide +kernel) (hp60 _) g5 (ps_60 _ _ _) rfl ?_
    refine Ru.op (q := (.aload_n 0, 1)) (S' := (31, _, _, _, _)) (by decide +kernel) rfl ?_
    refine Ru.getR (pc' := 34) (i := 90) (ci := 10) (k := 48) (nn := 0) (z := 0) (v := .ref 61) (by decide +kernel) (by decide +kernel) (hp36 _) (by decide) rfl rfl ?_
    refine Ru.op (q := (.aload_n 0, 1)) (S' := (35, _, _, _, _)) (by decide +kernel) rfl ?_
    refine Ru.getI (pc' := 38) (i := 186) (ci := 10) (k := 46) (nn := 0) (z := 0) (x := (S.F 36 46)) (by decide +kernel) (by decide +kernel) (hp36 _) (by decide) rfl (eI_of _) rfl ?_
    refine Ru.op (q := (.iload_n 1, 1)) (S' := (39, _, _, _, _)) (by decide +kernel) rfl ?_
    obtain ⟨g6, h⟩ := gd_some h
    refine Ru.bstI (pc' := 40) (i := (S.F 36 46)) (x := v1) (by decide +kernel) (hp61 _) g5 g6 (ps_61 _ _ _) rfl ?_
    refine Ru.op (q := (.aload_n 0, 1)) (S' := (41, _, _, _, _)) (by decide +kernel) rfl ?_
    refine Ru.op (q := (.dup, 1)) (S' := (42, _, _, _, _)) (by decide +kernel) rfl ?_
    refine Ru.getI (pc' := 45) (i := 186) (ci := 10) (k := 46) (nn := 0) (z := 0) (x := (S.F 36 46)) (by decide +kernel) (by decide +kernel) (hp36 _) (by decide) rfl (eI_of _) rfl ?_
    refine Ru.kI (q := (.iconst 1, 1)) (c := 1) (pc' := 46) (by decide +kernel) rfl (by decide) rfl ?_
    refine Ru.ar2 (i := .iadd) (z := ((S.F 36 46) + 1)) (pc' := 47) (by decide +kernel) rfl (ar_add _ _) rfl ?_
    refine Ru.putH (pc' := 50) (i := 186) (ci := 10) (k := 46) (nn := 0) (z := 0) (by decide +kernel) (by decide +kernel) (hp36 _) (by decide) (Nat.le_of_ble_eq_true rfl) rfl (by decide +kernel) (pf_36_46 _ _) rfl ?_
    refine Ru.op (q := (.aload_n 0, 1)) (S' := (51, _, _, _, _)) (by decide +kernel) rfl ?_
    refine Ru.kI (q := (.sipush 4096, 3)) (c := 4096) (pc' := 54) (by decide +kernel) rfl (by decide) rfl ?_
    refine Ru.kI (q := (.sipush 128, 3)) (c := 128) (pc' := 57) (by decide +kernel) rfl (by decide) rfl ?_
    refine Ru.op (q := (.aload_n 0, 1)) (S' := (58, _, _, _, _)) (by decide +kernel) rfl ?_
    obtain ⟨o7, e8, h⟩ := ob_some h
    refine Ru.vcallI (pc' := 61) (st' := [vI o7, vI 128, vI 4096, .ref 36]) (i := 143) (j2 := 102) (ci := 10) (k := 0) (z := 0) (as := []) (by decide +kernel) (by decide +kernel) rfl rfl (hp36 _) (by decide) ⟨(Nat.le_of_ble_eq_true rfl), (by show 19 + 1 ≤ 332; exact Nat.le_of_ble_eq_true rfl), Nat.le_of_ble_eq_true rfl, Nat.le_of_ble_eq_true rfl⟩ ((g102_ok e8).up (Nat.le_of_ble_eq_true rfl) (Nat.le_of_ble_eq_true rfl)) rfl rfl ?_
    refine Ru.ar2 (i := .imul) (z := (128 * o7)) (pc' := 62) (by decide +kernel) rfl (ar_mul _ _) rfl ?_
    refine Ru.ar2 (i := .iadd) (z := (4096 + (128 * o7))) (pc' := 63) (by decide +kernel) rfl (ar_add _ _) rfl ?_
    obtain ⟨o9, e10, h⟩ := ob_some h
    refine Ru.vcallI (pc' := 66) (st' := []) (i := 173) (j2 := 105) (ci := 10) (k := 0) (z := 0) (as := [vI (4096 + (128 * o7))]) (by decide +kernel) (by decide +kernel) rfl rfl (hp36 _) (by decide) ⟨(Nat.le_of_ble_eq_true rfl), (by show 19 + 2 ≤ 332; exact Nat.le_of_ble_eq_true rfl), Nat.le_of_ble_eq_true rfl, Nat.le_of_ble_eq_true rfl⟩ ((g105_ok e10).up (Nat.le_of_ble_eq_true rfl) (Nat.le_of_ble_eq_true rfl)) rfl rfl ?_
    refine Ru.op (q := (.aload_n 0, 1)) (S' := (67, _, _, _, _)) (by decide +kernel) rfl ?_
    refine Ru.op (q := (.dup, 1)) (S' := (68, _, _, _, _)) (by decide +kernel) rfl ?_
    refine Ru.getI (pc' := 71) (i := 140) (ci := 10) (k := 27) (nn := 0) (z := 0) (x := (o9.F 36 27)) (by decide +kernel) (by decide +kernel) (hp36 _) (by decide) rfl (eI_of _) rfl ?_
    refine Ru.kI (q := (.iconst 1, 1)) (c := 1) (pc' := 72) (by decide +kernel) rfl (by decide) rfl ?_
    refine Ru.ar2 (i := .iadd) (z := ((o9.F 36 27) + 1)) (pc' := 73) (by decide +kernel) rfl (ar_add _ _) rfl ?_
    refine Ru.putH (pc' := 76) (i := 140) (ci := 10) (k := 27) (nn := 0) (z := 0) (by decide +kernel) (by decide +kernel) (hp36 _) (by decide) (Nat.le_of_ble_eq_true rfl) rfl (by decide +kernel) (pf_36_27 _ _) rfl ?_
    refine Ru.op (q := (.aload_n 0, 1)) (S' := (77, _, _, _, _)) (by decide +kernel) rfl ?_
    obtain ⟨o11, e12, h⟩ := ob_some h
    refine Ru.vcallI (pc' := 80) (st' := []) (i := 189) (j2 := 106) (ci := 10) (k := 0) (z := 0) (as := []) (by decide +kernel) (by decide +kernel) rfl rfl (hp36 _) (by decide) ⟨(Nat.le_of_ble_eq_true rfl), (by show 19 + 4 ≤ 332; exact Nat.le_of_ble_eq_true rfl), Nat.le_of_ble_eq_true rfl, Nat.le_of_ble_eq_true rfl⟩ ((g106_ok e12).up (Nat.le_of_ble_eq_true rfl) (Nat.le_of_ble_eq_true rfl)) rfl rfl ?_
    cases h
    exact Ru.end (q := (.return_, 1)) (by decide +kernel) rfl rfl
set_option maxRecDepth 100000 in
set_option maxHeartbeats 4000000 in
theorem g112_ok {S : St} {v1 : Int} {o : Int × St} (h : g112 S v1 = some o) : Ru none 10 200 112 (0, mn_pad (mn_ent [.ref 36, vI v1]) 2, [], S.ns, Hp S) ((0, some (vI o.1)), o.2.ns, Hp o.2) := by
  unfold g112 at h
  show Ru none 10 200 112 (0, [some (.ref 36), some (vI v1)], [], S.ns, Hp S) _
  refine Ru.op (q := (.aload_n 0, 1)) (S' := (1, _, _, _, _)) (by decide +kernel) rfl ?_
  refine Ru.getR (pc' := 4) (i := 81) (ci := 10) (k := 44) (nn := 0) (z := 0) (v := .ref 58) (by decide +kernel) (by decide +kernel) (hp36 _) (by decide) rfl rfl ?_
  refine Ru.op (q := (.aload_n 0, 1)) (S' := (5, _, _, _, _)) (by decide +kernel) rfl ?_
  refine Ru.getI (pc' := 8) (i := 201) (ci := 10) (k := 43) (nn := 0) (z := 0) (x := (S.F 36 43)) (by decide +kernel) (by decide +kernel) (hp36 _) (by decide) rfl (eI_of _) rfl ?_
  refine Ru.kI (q := (.iconst 1, 1)) (c := 1) (pc' := 9) (by decide +kernel) rfl (by decide) rfl ?_
  obtain ⟨g1, h⟩ := gd_some h
  refine Ru.istI (pc' := 10) (i := (S.F 36 43)) (x := 1) (by decide +kernel) (hp58 _) g1 (ps_58 _ _ _) rfl ?_
  refine Ru.op (q := (.aload_n 0, 1)) (S' := (11, _, _, _, _)) (by decide +kernel) rfl ?_
  refine Ru.getR (pc' := 14) (i := 84) (ci := 10) (k := 45) (nn := 0) (z := 0) (v := .ref 59) (by decide +kernel) (by decide +kernel) (hp36 _) (by decide) rfl rfl ?_
  refine Ru.kI (q := (.bipush 8, 2)) (c := 8) (pc' := 16) (by decide +kernel) rfl (by decide) rfl ?_
  refine Ru.op (q := (.aload_n 0, 1)) (S' := (17, _, _, _, _)) (by decide +kernel) rfl ?_
  refine Ru.getI (pc' := 20) (i := 201) (ci := 10) (k := 43) (nn := 0) (z := 0) (x := (S.F 36 43)) (by decide +kernel) (by decide +kernel) (hp36 _) (by decide) rfl (eI_of _) rfl ?_
  refine Ru.ar2 (i := .imul) (z := (8 * (S.F 36 43))) (pc' := 21) (by decide +kernel) rfl (ar_mul _ _) rfl ?_
  refine Ru.op (q := (.iload_n 1, 1)) (S' := (22, _, _, _, _)) (by decide +kernel) rfl ?_
  obtain ⟨g2, h⟩ := gd_some h
  refine Ru.istI (pc' := 23) (i := (8 * (S.F 36 43))) (x := v1) (by decide +kernel) (hp59 _) g2 (ps_59 _ _ _) rfl ?_
  refine Ru.op (q := (.aload_n 0, 1)) (S' := (24, _, _, _, _)) (by decide +kernel) rfl ?_
  refine Ru.op (q := (.dup, 1)) (S' := (25, _, _, _, _)) (by decide +kernel) rfl ?_
  refine Ru.getI (pc' := 28) (i := 201) (ci := 10) (k := 43) (nn := 0) (z := 0) (x := (S.F 36 43)) (by decide +kernel) (by decide +kernel) (hp36 _) (by decide) rfl (eI_of _) rfl ?_
  refine Ru.kI (q := (.iconst 1, 1)) (c := 1) (pc' := 29) (by decide +kernel) rfl (by decide) rfl ?_
  refine Ru.ar2 (i := .iadd) (z := ((S.F 36 43) + 1)) (pc' := 30) (by decide +kernel) rfl (ar_add _ _) rfl ?_
  refine Ru.putH (pc' := 33) (i := 201) (ci := 10) (k := 43) (nn := 0) (z := 0) (by decide +kernel) (by decide +kernel) (hp36 _) (by decide) (Nat.le_of_ble_eq_true rfl) rfl (by decide +kernel) (pf_36_43 _ _) rfl ?_
  refine Ru.kI (q := (.iconst 1, 1)) (c := 1) (pc' := 34) (by decide +kernel) rfl (by decide) rfl ?_
  cases h
  exact Ru.iret (by decide +kernel) rfl rfl
set_option maxRecDepth 100000 in
set_option maxHeartbeats 4000000 in
theorem g114L132_ok {v1 : Int} {v2 : Int} {v3 : Int} {v4 : Int} {v5 : Int} {v6 : Int} {v7 : Int} : ∀ (n : Nat) (v8 : Int) (S : St) (_ : DD []) (out : St), g114L132 v1 v2 v3 v4 v5 v6 v7 n v8 S = some out → ∀ r, (∀ (e5 e6 e7 e8 : Option Value), DD [e5, e6, e7, e8] → Ru none 10 200 114 (219, [some (.ref 36), some (vI v1), some (vI v2), some (vI v3), some (vI v4), e5, e6, e7, e8], [], out.ns, Hp out) r) → Ru none 10 200 114 (132, [some (.ref 36), some (vI v1), some (vI v2), some (vI v3), some (vI v4), some (vI v5), some (vI v6), some (vI v7), some (vI v8)], [], S.ns, Hp S) r := by
  intro n
  induction n with
  | zero => intro v8 S hdd out h; cases h
  | succ n ih =>
    intro v8 S hdd out h r hk
    unfold g114L132 at h
    refine Ru.op (q := (.iload 8, 2)) (S' := (134, _, _, _, _)) (by decide +kernel) rfl ?_
    refine Ru.op (q := (.aload_n 0, 1)) (S' := (135, _, _, _, _)) (by decide +kernel) rfl ?_
    refine Ru.getR (pc' := 138) (i := 81) (ci := 10) (k := 44) (nn := 0) (z := 0) (v := .ref 58) (by decide +kernel) (by decide +kernel) (hp36 _) (by decide) rfl rfl ?_
    refine Ru.op (q := (.iload 7, 2)) (S' := (140, _, _, _, _)) (by decide +kernel) rfl ?_
    obtain ⟨g14, h⟩ := gd_some h
    refine Ru.ildI (pc' := 141) (i := v7) (z := (S.A 58 v7)) (by decide +kernel) (hp58 _) g14 (eI_of _) rfl ?_
    obtain ⟨g15, h⟩ := gd_some h
    by_cases b16 : v8 < (S.A 58 v7)
    · replace h := if_t b16 h
      refine Ru.br2 (k := .ge) (off := 78) (bb := false) (tg := 144) (by decide +kernel) (by decide +kernel) (ci_ge0 g15 (inR_to _) b16) rfl ?_
      refine Ru.op (q := (.aload_n 0, 1)) (S' := (145, _, _, _, _)) (by decide +kernel) rfl ?_
      refine Ru.getI (pc' := 148) (i := 192) (ci := 10) (k := 36) (nn := 0) (z := 0) (x := (S.F 36 36)) (by decide +kernel) (by decide +kernel) (hp36 _) (by decide) rfl (eI_of _) rfl ?_
      by_cases b17 : (S.F 36 36) = 0
      · replace h := if_t b17 h
        refine Ru.br (k := .ne) (off := 71) (bb := false) (tg := 151) (by decide +kernel) (by decide +kernel) (cz (ci_ne0 (inR_to _) (by decide) b17)) rfl ?_
        refine Ru.op (q := (.aload_n 0, 1)) (S' := (152, _, _, _, _)) (by decide +kernel) rfl ?_
        refine Ru.getR (pc' := 155) (i := 84) (ci := 10) (k := 45) (nn := 0) (z := 0) (v := .ref 59) (by decide +kernel) (by decide +kernel) (hp36 _) (by decide) rfl rfl ?_
        refine Ru.kI (q := (.bipush 8, 2)) (c := 8) (pc' := 157) (by decide +kernel) rfl (by decide) rfl ?_
        refine Ru.op (q := (.iload 7, 2)) (S' := (159, _, _, _, _)) (by decide +kernel) rfl ?_
        refine Ru.ar2 (i := .imul) (z := (8 * v7)) (pc' := 160) (by decide +kernel) rfl (ar_mul _ _) rfl ?_
        refine Ru.op (q := (.iload 8, 2)) (S' := (162, _, _, _, _)) (by decide +kernel) rfl ?_
        refine Ru.ar2 (i := .iadd) (z := ((8 * v7) + v8)) (pc' := 163) (by decide +kernel) rfl (ar_add _ _) rfl ?_
        refine Ru.op (q := (.iload 8, 2)) (S' := (165, _, _, _, _)) (by decide +kernel) rfl ?_
        refine Ru.op (q := (.aload_n 0, 1)) (S' := (166, _, _, _, _)) (by decide +kernel) rfl ?_
        refine Ru.getR (pc' := 169) (i := 81) (ci := 10) (k := 44) (nn := 0) (z := 0) (v := .ref 58) (by decide +kernel) (by decide +kernel) (hp36 _) (by decide) rfl rfl ?_
        refine Ru.op (q := (.iload 5, 2)) (S' := (171, _, _, _, _)) (by decide +kernel) rfl ?_
        obtain ⟨g18, h⟩ := gd_some h
        refine Ru.ildI (pc' := 172) (i := v5) (z := (S.A 58 v5)) (by decide +kernel) (hp58 _) g18 (eI_of _) rfl ?_
        by_cases b19 : v8 < (S.A 58 v5)
        · replace h := if_t b19 h
          refine Ru.br2 (k := .ge) (off := 19) (bb := false) (tg := 175) (by decide +kernel) (by decide +kernel) (ci_ge0 g15 (inR_to _) b19) rfl ?_
          refine Ru.op (q := (.aload_n 0, 1)) (S' := (176, _, _, _, _)) (by decide +kernel) rfl ?_
          refine Ru.getR (pc' := 179) (i := 84) (ci := 10) (k := 45) (nn := 0) (z := 0) (v := .ref 59) (by decide +kernel) (by decide +kernel) (hp36 _) (by decide) rfl rfl ?_
          refine Ru.kI (q := (.bipush 8, 2)) (c := 8) (pc' := 181) (by decide +kernel) rfl (by decide) rfl ?_
          refine Ru.op (q := (.iload 5, 2)) (S' := (183, _, _, _, _)) (by decide +kernel) rfl ?_
          refine Ru.ar2 (i := .imul) (z := (8 * v5)) (pc' := 184) (by decide +kernel) rfl (ar_mul _ _) rfl ?_
          refine Ru.op (q := (.iload 8, 2)) (S' := (186, _, _, _, _)) (by decide +kernel) rfl ?_
          refine Ru.ar2 (i := .iadd) (z := ((8 * v5) + v8)) (pc' := 187) (by decide +kernel) rfl (ar_add _ _) rfl ?_
          obtain ⟨g20, h⟩ := gd_some h
          refine Ru.ildI (pc' := 188) (i := ((8 * v5) + v8)) (z := (S.A 59 ((8 * v5) + v8))) (by decide +kernel) (hp59 _) g20 (eI_of _) rfl ?_
          refine Ru.op (q := (.goto 24, 3)) (S' := (212, _, _, _, _)) (by decide +kernel) rfl ?_
          obtain ⟨g21, h⟩ := gd_some h
          refine Ru.istI (pc' := 213) (i := ((8 * v7) + v8)) (x := (S.A 59 ((8 * v5) + v8))) (by decide +kernel) (hp59 _) g21 (ps_59 _ _ _) rfl ?_
          refine Ru.inc (k := 8) (n := 1) (x := v8) (z := (v8 + 1)) (xs' := [some (.ref 36), some (vI v1), some (vI v2), some (vI v3), some (vI v4), some (vI v5), some (vI v6), some (vI v7), some (vI (v8 + 1))]) (pc' := 216) (by decide +kernel) rfl rfl rfl rfl ?_
          refine Ru.op (q := (.goto (-84), 3)) (S' := (132, _, _, _, _)) (by decide +kernel) rfl ?_
          exact ih _ _ trivial _ h r hk
        · replace h := if_f b19 h
          refine Ru.br2 (k := .ge) (off := 19) (bb := true) (tg := 191) (by decide +kernel) (by decide +kernel) (ci_ge1 g15 (inR_to _) b19) rfl ?_
          refine Ru.op (q := (.aload_n 0, 1)) (S' := (192, _, _, _, _)) (by decide +kernel) rfl ?_
          refine Ru.getR (pc' := 195) (i := 84) (ci := 10) (k := 45) (nn := 0) (z := 0) (v := .ref 59) (by decide +kernel) (by decide +kernel) (hp36 _) (by decide) rfl rfl ?_
          refine Ru.kI (q := (.bipush 8, 2)) (c := 8) (pc' := 197) (by decide +kernel) rfl (by decide) rfl ?_
          refine Ru.op (q := (.iload 6, 2)) (S' := (199, _, _, _, _)) (by decide +kernel) rfl ?_
          refine Ru.ar2 (i := .imul) (z := (8 * v6)) (pc' := 200) (by decide +kernel) rfl (ar_mul _ _) rfl ?_
          refine Ru.op (q := (.iload 8, 2)) (S' := (202, _, _, _, _)) (by decide +kernel) rfl ?_
          refine Ru.ar2 (i := .iadd) (z := ((8 * v6) + v8)) (pc' := 203) (by decide +kernel) rfl (ar_add _ _) rfl ?_
          refine Ru.op (q := (.aload_n 0, 1)) (S' := (204, _, _, _, _)) (by decide +kernel) rfl ?_
          refine Ru.getR (pc' := 207) (i := 81) (ci := 10) (k := 44) (nn := 0) (z := 0) (v := .ref 58) (by decide +kernel) (by decide +kernel) (hp36 _) (by decide) rfl rfl ?_
          refine Ru.op (q := (.iload 5, 2)) (S' := (209, _, _, _, _)) (by decide +kernel) rfl ?_
          refine Ru.ildI (pc' := 210) (i := v5) (z := (S.A 58 v5)) (by decide +kernel) (hp58 _) g18 (eI_of _) rfl ?_
          refine Ru.ar2 (i := .isub) (z := (((8 * v6) + v8) - (S.A 58 v5))) (pc' := 211) (by decide +kernel) rfl (ar_sub _ _) rfl ?_
          obtain ⟨g22, h⟩ := gd_some h
          refine Ru.ildI (pc' := 212) (i := (((8 * v6) + v8) - (S.A 58 v5))) (z := (S.A 59 (((8 * v6) + v8) - (S.A 58 v5)))) (by decide +kernel) (hp59 _) g22 (eI_of _) rfl ?_
          obtain ⟨g23, h⟩ := gd_some h
          refine Ru.istI (pc' := 213) (i := ((8 * v7) + v8)) (x := (S.A 59 (((8 * v6) + v8) - (S.A 58 v5)))) (by decide +kernel) (hp59 _) g23 (ps_59 _ _ _) rfl ?_
          refine Ru.inc (k := 8) (n := 1) (x := v8) (z := (v8 + 1)) (xs' := [some (.ref 36), some (vI v1), some (vI v2), some (vI v3), some (vI v4), some (vI v5), some (vI v6), some (vI v7), some (vI (v8 + 1))]) (pc' := 216) (by decide +kernel) rfl rfl rfl rfl ?_
          refine Ru.op (q := (.goto (-84), 3)) (S' := (132, _, _, _, _)) (by decide +kernel) rfl ?_
          exact ih _ _ trivial _ h r hk
      · replace h := if_f b17 h
        refine Ru.br (k := .ne) (off := 71) (bb := true) (tg := 219) (by decide +kernel) (by decide +kernel) (cz (ci_ne1 (inR_to _) (by decide) b17)) rfl ?_
        cases h
        exact hk _ _ _ _ ⟨rfl, rfl, rfl, rfl, trivial⟩
    · replace h := if_f b16 h
      refine Ru.br2 (k := .ge) (off := 78) (bb := true) (tg := 219) (by decide +kernel) (by decide +kernel) (ci_ge1 g15 (inR_to _) b16) rfl ?_
      cases h
      exact hk _ _ _ _ ⟨rfl, rfl, rfl, rfl, trivial⟩
set_option maxRecDepth 100000 in
set_option maxHeartbeats 4000000 in
theorem g114L36_ok {v1 : Int} {v2 : Int} {v3 : Int} : ∀ (n : Nat) (v4 : Int) (S : St) (d5 d6 d7 d8 : Option Value) (_ : DD [d5, d6, d7, d8]) (out : St), g114L36 v1 v2 v3 n v4 S = some out → ∀ r, (∀ (e4 e5 e6 e7 e8 : Option Value), DD [e4, e5, e6, e7, e8] → Ru none 10 200 114 (225, [some (.ref 36), some (vI v1), some (vI v2), some (vI v3), e4, e5, e6, e7, e8], [], out.ns, Hp out) r) → Ru none 10 200 114 (36, [some (.ref 36), some (vI v1), some (vI v2), some (vI v3), some (vI v4), d5, d6, d7, d8], [], S.ns, Hp S) r := by
  intro n
  induction n with
  | zero => intro v4 S d5 d6 d7 d8 hdd out h; cases h
  | succ n ih =>
    intro v4 S d5 d6 d7 d8 hdd out h r hk
    unfold g114L36 at h
    refine Ru.op (q := (.iload 4, 2)) (S' := (38, _, _, _, _)) (by decide +kernel) rfl ?_
    refine Ru.op (q := (.iload_n 1, 1)) (S' := (39, _, _, _, _)) (by decide +kernel) rfl ?_
    refine Ru.op (q := (.iload_n 2, 1)) (S' := (40, _, _, _, _)) (by decide +kernel) rfl ?_
    refine Ru.ar2 (i := .imul) (z := (v1 * v2)) (pc' := 41) (by decide +kernel) rfl (ar_mul _ _) rfl ?_
    obtain ⟨g4, h⟩ := gd_some h
    obtain ⟨g5, h⟩ := gd_some h
    by_cases b6 : v4 < (v1 * v2)
    · replace h := if_t b6 h
      refine Ru.br2 (k := .ge) (off := 184) (bb := false) (tg := 44) (by decide +kernel) (by decide +kernel) (ci_ge0 g4 g5 b6) rfl ?_
      refine Ru.op (q := (.aload_n 0, 1)) (S' := (45, _, _, _, _)) (by decide +kernel) rfl ?_
      refine Ru.getI (pc' := 48) (i := 192) (ci := 10) (k := 36) (nn := 0) (z := 0) (x := (S.F 36 36)) (by decide +kernel) (by decide +kernel) (hp36 _) (by decide) rfl (eI_of _) rfl ?_
      by_cases b7 : (S.F 36 36) = 0
      · replace h := if_t b7 h
        refine Ru.br (k := .ne) (off := 177) (bb := false) (tg := 51) (by decide +kernel) (by decide +kernel) (cz (ci_ne0 (inR_to _) (by decide) b7)) rfl ?_
        refine Ru.op (q := (.iload_n 3, 1)) (S' := (52, _, _, _, _)) (by decide +kernel) rfl ?_
        refine Ru.op (q := (.iload 4, 2)) (S' := (54, _, _, _, _)) (by decide +kernel) rfl ?_
        refine Ru.op (q := (.iload_n 2, 1)) (S' := (55, _, _, _, _)) (by decide +kernel) rfl ?_
        obtain ⟨g8, h⟩ := gd_some h
        refine Ru.ar2 (i := .idiv) (z := (v4 / v2)) (pc' := 56) (by decide +kernel) rfl (ar_div g8) rfl ?_
        refine Ru.ar2 (i := .iadd) (z := (v3 + (v4 / v2))) (pc' := 57) (by decide +kernel) rfl (ar_add _ _) rfl ?_
        refine Ru.op (q := (.istore 5, 2)) (S' := (59, [some (.ref 36), some (vI v1), some (vI v2), some (vI v3), some (vI v4), some (vI (v3 + (v4 / v2))), d6, d7, d8], [], _, _)) (by decide +kernel) rfl ?_
        refine Ru.op (q := (.iload_n 3, 1)) (S' := (60, _, _, _, _)) (by decide +kernel) rfl ?_
        refine Ru.op (q := (.iload_n 1, 1)) (S' := (61, _, _, _, _)) (by decide +kernel) rfl ?_
        refine Ru.ar2 (i := .iadd) (z := (v3 + v1)) (pc' := 62) (by decide +kernel) rfl (ar_add _ _) rfl ?_
        refine Ru.op (q := (.iload 4, 2)) (S' := (64, _, _, _, _)) (by decide +kernel) rfl ?_
        refine Ru.op (q := (.iload_n 2, 1)) (S' := (65, _, _, _, _)) (by decide +kernel) rfl ?_
        refine Ru.ar2 (i := .irem) (z := (v4 % v2)) (pc' := 66) (by decide +kernel) rfl (ar_rem g8) rfl ?_
        refine Ru.ar2 (i := .iadd) (z := ((v3 + v1) + (v4 % v2))) (pc' := 67) (by decide +kernel) rfl (ar_add _ _) rfl ?_
        refine Ru.op (q := (.istore 6, 2)) (S' := (69, [some (.ref 36), some (vI v1), some (vI v2), some (vI v3), some (vI v4), some (vI (v3 + (v4 / v2))), some (vI ((v3 + v1) + (v4 % v2))), d7, d8], [], _, _)) (by decide +kernel) rfl ?_
        refine Ru.op (q := (.aload_n 0, 1)) (S' := (70, _, _, _, _)) (by decide +kernel) rfl ?_
        refine Ru.op (q := (.aload_n 0, 1)) (S' := (71, _, _, _, _)) (by decide +kernel) rfl ?_
        refine Ru.getR (pc' := 74) (i := 81) (ci := 10) (k := 44) (nn := 0) (z := 0) (v := .ref 58) (by decide +kernel) (by decide +kernel) (hp36 _) (by decide) rfl rfl ?_
        refine Ru.op (q := (.iload 5, 2)) (S' := (76, _, _, _, _)) (by decide +kernel) rfl ?_
        obtain ⟨g9, h⟩ := gd_some h
        refine Ru.ildI (pc' := 77) (i := (v3 + (v4 / v2))) (z := (S.A 58 (v3 + (v4 / v2)))) (by decide +kernel) (hp58 _) g9 (eI_of _) rfl ?_
        refine Ru.op (q := (.aload_n 0, 1)) (S' := (78, _, _, _, _)) (by decide +kernel) rfl ?_
        refine Ru.getR (pc' := 81) (i := 81) (ci := 10) (k := 44) (nn := 0) (z := 0) (v := .ref 58) (by decide +kernel) (by decide +kernel) (hp36 _) (by decide) rfl rfl ?_
        refine Ru.op (q := (.iload 6, 2)) (S' := (83, _, _, _, _)) (by decide +kernel) rfl ?_
        obtain ⟨g10, h⟩ := gd_some h
        refine Ru.ildI (pc' := 84) (i := ((v3 + v1) + (v4 % v2))) (z := (S.A 58 ((v3 + v1) + (v4 % v2)))) (by decide +kernel) (hp58 _) g10 (eI_of _) rfl ?_
        refine Ru.ar2 (i := .iadd) (z := ((S.A 58 (v3 + (v4 / v2))) + (S.A 58 ((v3 + v1) + (v4 % v2))))) (pc' := 85) (by decide +kernel) rfl (ar_add _ _) rfl ?_
        refine Ru.kI (q := (.bipush 8, 2)) (c := 8) (pc' := 87) (by decide +kernel) rfl (by decide) rfl ?_
        obtain ⟨g11, h⟩ := gd_some h
        by_cases b12 : 8 < ((S.A 58 (v3 + (v4 / v2))) + (S.A 58 ((v3 + v1) + (v4 % v2))))
        · replace h := if_t b12 h
          refine Ru.br2 (k := .le) (off := 7) (bb := false) (tg := 90) (by decide +kernel) (by decide +kernel) (ci_le0 g11 (by decide) b12) rfl ?_
          refine Ru.kI (q := (.iconst 1, 1)) (c := 1) (pc' := 91) (by decide +kernel) rfl (by decide) rfl ?_
          refine Ru.op (q := (.goto 4, 3)) (S' := (95, _, _, _, _)) (by decide +kernel) rfl ?_
          refine Ru.putH (pc' := 98) (i := 192) (ci := 10) (k := 36) (nn := 0) (z := 0) (by decide +kernel) (by decide +kernel) (hp36 _) (by decide) (Nat.le_of_ble_eq_true rfl) (fk_b (by decide)) (by decide +kernel) (pf_36_36 _ _) rfl ?_
          refine Ru.op (q := (.aload_n 0, 1)) (S' := (99, _, _, _, _)) (by decide +kernel) rfl ?_
          refine Ru.getI (pc' := 102) (i := 201) (ci := 10) (k := 43) (nn := 0) (z := 0) (x := (S.F 36 43)) (by decide +kernel) (by decide +kernel) (hp36 _) (by decide) rfl (eI_of _) rfl ?_
          refine Ru.op (q := (.iload 4, 2)) (S' := (104, _, _, _, _)) (by decide +kernel) rfl ?_
          refine Ru.ar2 (i := .iadd) (z := ((S.F 36 43) + v4)) (pc' := 105) (by decide +kernel) rfl (ar_add _ _) rfl ?_
          refine Ru.op (q := (.istore 7, 2)) (S' := (107, [some (.ref 36), some (vI v1), some (vI v2), some (vI v3), some (vI v4), some (vI (v3 + (v4 / v2))), some (vI ((v3 + v1) + (v4 % v2))), some (vI ((S.F 36 43) + v4)), d8], [], _, _)) (by decide +kernel) rfl ?_
          refine Ru.op (q := (.aload_n 0, 1)) (S' := (108, _, _, _, _)) (by decide +kernel) rfl ?_
          refine Ru.getR (pc' := 111) (i := 81) (ci := 10) (k := 44) (nn := 0) (z := 0) (v := .ref 58) (by decide +kernel) (by decide +kernel) (hp36 _) (by decide) rfl rfl ?_
          refine Ru.op (q := (.iload 7, 2)) (S' := (113, _, _, _, _)) (by decide +kernel) rfl ?_
          refine Ru.op (q := (.aload_n 0, 1)) (S' := (114, _, _, _, _)) (by decide +kernel) rfl ?_
          refine Ru.getR (pc' := 117) (i := 81) (ci := 10) (k := 44) (nn := 0) (z := 0) (v := .ref 58) (by decide +kernel) (by decide +kernel) (hp36 _) (by decide) rfl rfl ?_
          refine Ru.op (q := (.iload 5, 2)) (S' := (119, _, _, _, _)) (by decide +kernel) rfl ?_
          refine Ru.ildI (pc' := 120) (i := (v3 + (v4 / v2))) (z := (S.A 58 (v3 + (v4 / v2)))) (by decide +kernel) (hp58 _) g9 (eI_of _) rfl ?_
          refine Ru.op (q := (.aload_n 0, 1)) (S' := (121, _, _, _, _)) (by decide +kernel) rfl ?_
          refine Ru.getR (pc' := 124) (i := 81) (ci := 10) (k := 44) (nn := 0) (z := 0) (v := .ref 58) (by decide +kernel) (by decide +kernel) (hp36 _) (by decide) rfl rfl ?_
          refine Ru.op (q := (.iload 6, 2)) (S' := (126, _, _, _, _)) (by decide +kernel) rfl ?_
          refine Ru.ildI (pc' := 127) (i := ((v3 + v1) + (v4 % v2))) (z := (S.A 58 ((v3 + v1) + (v4 % v2)))) (by decide +kernel) (hp58 _) g10 (eI_of _) rfl ?_
          refine Ru.ar2 (i := .iadd) (z := ((S.A 58 (v3 + (v4 / v2))) + (S.A 58 ((v3 + v1) + (v4 % v2))))) (pc' := 128) (by decide +kernel) rfl (ar_add _ _) rfl ?_
          obtain ⟨g13, h⟩ := gd_some h
          refine Ru.istI (pc' := 129) (i := ((S.F 36 43) + v4)) (x := ((S.A 58 (v3 + (v4 / v2))) + (S.A 58 ((v3 + v1) + (v4 % v2))))) (by decide +kernel) (hp58 _) g13 (ps_58 _ _ _) rfl ?_
          refine Ru.kI (q := (.iconst 0, 1)) (c := 0) (pc' := 130) (by decide +kernel) rfl (by decide) rfl ?_
          refine Ru.op (q := (.istore 8, 2)) (S' := (132, [some (.ref 36), some (vI v1), some (vI v2), some (vI v3), some (vI v4), some (vI (v3 + (v4 / v2))), some (vI ((v3 + v1) + (v4 % v2))), some (vI ((S.F 36 43) + v4)), some (vI 0)], [], _, _)) (by decide +kernel) rfl ?_
          obtain ⟨o24, e29, h⟩ := ob_some h
          refine g114L132_ok FU _ _ trivial _ e29 _ ?_
          intro d25 d26 d27 d28 hd30
          refine Ru.inc (k := 4) (n := 1) (x := v4) (z := (v4 + 1)) (xs' := [some (.ref 36), some (vI v1), some (vI v2), some (vI v3), some (vI (v4 + 1)), d25, d26, d27, d28]) (pc' := 222) (by decide +kernel) rfl rfl rfl rfl ?_
          refine Ru.op (q := (.goto (-186), 3)) (S' := (36, _, _, _, _)) (by decide +kernel) rfl ?_
          exact ih _ _ _ _ _ _ ⟨hd30.1, hd30.2.1, hd30.2.2.1, hd30.2.2.2.1, trivial⟩ _ h r hk
        · replace h := if_f b12 h
          refine Ru.br2 (k := .le) (off := 7) (bb := true) (tg := 94) (by decide +kernel) (by decide +kernel) (ci_le1 g11 (by decide) b12) rfl ?_
          refine Ru.kI (q := (.iconst 0, 1)) (c := 0) (pc' := 95) (by decide +kernel) rfl (by decide) rfl ?_
          refine Ru.putH (pc' := 98) (i := 192) (ci := 10) (k := 36) (nn := 0) (z := 0) (by decide +kernel) (by decide +kernel) (hp36 _) (by decide) (Nat.le_of_ble_eq_true rfl) (fk_b (by decide)) (by decide +kernel) (pf_36_36 _ _) rfl ?_
          refine Ru.op (q := (.aload_n 0, 1)) (S' := (99, _, _, _, _)) (by decide +kernel) rfl ?_
          refine Ru.getI (pc' := 102) (i := 201) (ci := 10) (k := 43) (nn := 0) (z := 0) (x := (S.F 36 43)) (by decide +kernel) (by decide +kernel) (hp36 _) (by decide) rfl (eI_of _) rfl ?_
          refine Ru.op (q := (.iload 4, 2)) (S' := (104, _, _, _, _)) (by decide +kernel) rfl ?_
          refine Ru.ar2 (i := .iadd) (z := ((S.F 36 43) + v4)) (pc' := 105) (by decide +kernel) rfl (ar_add _ _) rfl ?_
          refine Ru.op (q := (.istore 7, 2)) (S' := (107, [some (.ref 36), some (vI v1), some (vI v2), some (vI v3), some (vI v4), some (vI (v3 + (v4 / v2))), some (vI ((v3 + v1) + (v4 % v2))), some (vI ((S.F 36 43) + v4)), d8], [], _, _)) (by decide +kernel) rfl ?_
          refine Ru.op (q := (.aload_n 0, 1)) (S' := (108, _, _, _, _)) (by decide +kernel) rfl ?_
          refine Ru.getR (pc' := 111) (i := 81) (ci := 10) (k := 44) (nn := 0) (z := 0) (v := .ref 58) (by decide +kernel) (by decide +kernel) (hp36 _) (by decide) rfl rfl ?_
          refine Ru.op (q := (.iload 7, 2)) (S' := (113, _, _, _, _)) (by decide +kernel) rfl ?_
          refine Ru.op (q := (.aload_n 0, 1)) (S' := (114, _, _, _, _)) (by decide +kernel) rfl ?_
          refine Ru.getR (pc' := 117) (i := 81) (ci := 10) (k := 44) (nn := 0) (z := 0) (v := .ref 58) (by decide +kernel) (by decide +kernel) (hp36 _) (by decide) rfl rfl ?_
          refine Ru.op (q := (.iload 5, 2)) (S' := (119, _, _, _, _)) (by decide +kernel) rfl ?_
          refine Ru.ildI (pc' := 120) (i := (v3 + (v4 / v2))) (z := (S.A 58 (v3 + (v4 / v2)))) (by decide +kernel) (hp58 _) g9 (eI_of _) rfl ?_
          refine Ru.op (q := (.aload_n 0, 1)) (S' := (121, _, _, _, _)) (by decide +kernel) rfl ?_
          refine Ru.getR (pc' := 124) (i := 81) (ci := 10) (k := 44) (nn := 0) (z := 0) (v := .ref 58) (by decide +kernel) (by decide +kernel) (hp36 _) (by decide) rfl rfl ?_
          refine Ru.op (q := (.iload 6, 2)) (S' := (126, _, _, _, _)) (by decide +kernel) rfl ?_
          refine Ru.ildI (pc' := 127) (i := ((v3 + v1) + (v4 % v2))) (z := (S.A 58 ((v3 + v1) + (v4 % v2)))) (by decide +kernel) (hp58 _) g10 (eI_of _) rfl ?_
          refine Ru.ar2 (i := .iadd) (z := ((S.A 58 (v3 + (v4 / v2))) + (S.A 58 ((v3 + v1) + (v4 % v2))))) (pc' := 128) (by decide +kernel) rfl (ar_add _ _) rfl ?_
          obtain ⟨g31, h⟩ := gd_some h
          refine Ru.istI (pc' := 129) (i := ((S.F 36 43) + v4)) (x := ((S.A 58 (v3 + (v4 / v2))) + (S.A 58 ((v3 + v1) + (v4 % v2))))) (by decide +kernel) (hp58 _) g31 (ps_58 _ _ _) rfl ?_
          refine Ru.kI (q := (.iconst 0, 1)) (c := 0) (pc' := 130) (by decide +kernel) rfl (by decide) rfl ?_
          refine Ru.op (q := (.istore 8, 2)) (S' := (132, [some (.ref 36), some (vI v1), some (vI v2), some (vI v3), some (vI v4), some (vI (v3 + (v4 / v2))), some (vI ((v3 + v1) + (v4 % v2))), some (vI ((S.F 36 43) + v4)), some (vI 0)], [], _, _)) (by decide +kernel) rfl ?_
          obtain ⟨o32, e37, h⟩ := ob_some h
          refine g114L132_ok FU _ _ trivial _ e37 _ ?_
          intro d33 d34 d35 d36 hd38
          refine Ru.inc (k := 4) (n := 1) (x := v4) (z := (v4 + 1)) (xs' := [some (.ref 36), some (vI v1), some (vI v2), some (vI v3), some (vI (v4 + 1)), d33, d34, d35, d36]) (pc' := 222) (by decide +kernel) rfl rfl rfl rfl ?_
          refine Ru.op (q := (.goto (-186), 3)) (S' := (36, _, _, _, _)) (by decide +kernel) rfl ?_
          exact ih _ _ _ _ _ _ ⟨hd38.1, hd38.2.1, hd38.2.2.1, hd38.2.2.2.1, trivial⟩ _ h r hk
      · replace h := if_f b7 h
        refine Ru.br (k := .ne) (off := 177) (bb := true) (tg := 225) (by decide +kernel) (by decide +kernel) (cz (ci_ne1 (inR_to _) (by decide) b7)) rfl ?_
        cases h
        exact hk _ _ _ _ _ ⟨rfl, hdd.1, hdd.2.1, hdd.2.2.1, hdd.2.2.2.1, trivial⟩
    · replace h := if_f b6 h
      refine Ru.br2 (k := .ge) (off := 184) (bb := true) (tg := 225) (by decide +kernel) (by decide +kernel) (ci_ge1 g4 g5 b6) rfl ?_
      cases h
      exact hk _ _ _ _ _ ⟨rfl, hdd.1, hdd.2.1, hdd.2.2.1, hdd.2.2.2.1, trivial⟩
set_option maxRecDepth 100000 in
set_option maxHeartbeats 4000000 in
theorem g114L267_ok {v1 : Int} {v2 : Int} {v3 : Int} {v4 : Int} : ∀ (n : Nat) (v5 : Int) (S : St) (d6 d7 d8 : Option Value) (_ : DD [d6, d7, d8]) (out : St), g114L267 v1 v2 v3 v4 n v5 S = some out → ∀ r, (∀ (e5 e6 e7 e8 : Option Value), DD [e5, e6, e7, e8] → Ru none 10 200 114 (313, [some (.ref 36), some (vI v1), some (vI v2), some (vI v3), some (vI v4), e5, e6, e7, e8], [], out.ns, Hp out) r) → Ru none 10 200 114 (267, [some (.ref 36), some (vI v1), some (vI v2), some (vI v3), some (vI v4), some (vI v5), d6, d7, d8], [], S.ns, Hp S) r := by
  intro n
  induction n with
  | zero => intro v5 S d6 d7 d8 hdd out h; cases h
  | succ n ih =>
    intro v5 S d6 d7 d8 hdd out h r hk
    unfold g114L267 at h
    refine Ru.op (q := (.iload 5, 2)) (S' := (269, _, _, _, _)) (by decide +kernel) rfl ?_
    refine Ru.kI (q := (.bipush 8, 2)) (c := 8) (pc' := 271) (by decide +kernel) rfl (by decide) rfl ?_
    obtain ⟨g53, h⟩ := gd_some h
    by_cases b54 : v5 < 8
    · replace h := if_t b54 h
      refine Ru.br2 (k := .ge) (off := 42) (bb := false) (tg := 274) (by decide +kernel) (by decide +kernel) (ci_ge0 g53 (by decide) b54) rfl ?_
      refine Ru.op (q := (.aload_n 0, 1)) (S' := (275, _, _, _, _)) (by decide +kernel) rfl ?_
      refine Ru.getR (pc' := 278) (i := 84) (ci := 10) (k := 45) (nn := 0) (z := 0) (v := .ref 59) (by decide +kernel) (by decide +kernel) (hp36 _) (by decide) rfl rfl ?_
      refine Ru.kI (q := (.bipush 8, 2)) (c := 8) (pc' := 280) (by decide +kernel) rfl (by decide) rfl ?_
      refine Ru.op (q := (.iload_n 3, 1)) (S' := (281, _, _, _, _)) (by decide +kernel) rfl ?_
      refine Ru.op (q := (.iload 4, 2)) (S' := (283, _, _, _, _)) (by decide +kernel) rfl ?_
      refine Ru.ar2 (i := .iadd) (z := (v3 + v4)) (pc' := 284) (by decide +kernel) rfl (ar_add _ _) rfl ?_
      refine Ru.ar2 (i := .imul) (z := (8 * (v3 + v4))) (pc' := 285) (by decide +kernel) rfl (ar_mul _ _) rfl ?_
      refine Ru.op (q := (.iload 5, 2)) (S' := (287, _, _, _, _)) (by decide +kernel) rfl ?_
      refine Ru.ar2 (i := .iadd) (z := ((8 * (v3 + v4)) + v5)) (pc' := 288) (by decide +kernel) rfl (ar_add _ _) rfl ?_
      refine Ru.op (q := (.aload_n 0, 1)) (S' := (289, _, _, _, _)) (by decide +kernel) rfl ?_
      refine Ru.getR (pc' := 292) (i := 84) (ci := 10) (k := 45) (nn := 0) (z := 0) (v := .ref 59) (by decide +kernel) (by decide +kernel) (hp36 _) (by decide) rfl rfl ?_
      refine Ru.kI (q := (.bipush 8, 2)) (c := 8) (pc' := 294) (by decide +kernel) rfl (by decide) rfl ?_
      refine Ru.op (q := (.aload_n 0, 1)) (S' := (295, _, _, _, _)) (by decide +kernel) rfl ?_
      refine Ru.getI (pc' := 298) (i := 201) (ci := 10) (k := 43) (nn := 0) (z := 0) (x := (S.F 36 43)) (by decide +kernel) (by decide +kernel) (hp36 _) (by decide) rfl (eI_of _) rfl ?_
      refine Ru.op (q := (.iload 4, 2)) (S' := (300, _, _, _, _)) (by decide +kernel) rfl ?_
      refine Ru.ar2 (i := .iadd) (z := ((S.F 36 43) + v4)) (pc' := 301) (by decide +kernel) rfl (ar_add _ _) rfl ?_
      refine Ru.ar2 (i := .imul) (z := (8 * ((S.F 36 43) + v4))) (pc' := 302) (by decide +kernel) rfl (ar_mul _ _) rfl ?_
      refine Ru.op (q := (.iload 5, 2)) (S' := (304, _, _, _, _)) (by decide +kernel) rfl ?_
      refine Ru.ar2 (i := .iadd) (z := ((8 * ((S.F 36 43) + v4)) + v5)) (pc' := 305) (by decide +kernel) rfl (ar_add _ _) rfl ?_
      obtain ⟨g55, h⟩ := gd_some h
      refine Ru.ildI (pc' := 306) (i := ((8 * ((S.F 36 43) + v4)) + v5)) (z := (S.A 59 ((8 * ((S.F 36 43) + v4)) + v5))) (by decide +kernel) (hp59 _) g55 (eI_of _) rfl ?_
      obtain ⟨g56, h⟩ := gd_some h
      refine Ru.istI (pc' := 307) (i := ((8 * (v3 + v4)) + v5)) (x := (S.A 59 ((8 * ((S.F 36 43) + v4)) + v5))) (by decide +kernel) (hp59 _) g56 (ps_59 _ _ _) rfl ?_
      refine Ru.inc (k := 5) (n := 1) (x := v5) (z := (v5 + 1)) (xs' := [some (.ref 36), some (vI v1), some (vI v2), some (vI v3), some (vI v4), some (vI (v5 + 1)), d6, d7, d8]) (pc' := 310) (by decide +kernel) rfl rfl rfl rfl ?_
      refine Ru.op (q := (.goto (-43), 3)) (S' := (267, _, _, _, _)) (by decide +kernel) rfl ?_
      exact ih _ _ _ _ _ ⟨hdd.1, hdd.2.1, hdd.2.2.1, trivial⟩ _ h r hk
    · replace h := if_f b54 h
      refine Ru.br2 (k := .ge) (off := 42) (bb := true) (tg := 313) (by decide +kernel) (by decide +kernel) (ci_ge1 g53 (by decide) b54) rfl ?_
      cases h
      exact hk _ _ _ _ ⟨rfl, hdd.1, hdd.2.1, hdd.2.2.1, trivial⟩
set_option maxRecDepth 100000 in
set_option maxHeartbeats 4000000 in
theorem g114L228_ok {v1 : Int} {v2 : Int} {v3 : Int} : ∀ (n : Nat) (v4 : Int) (S : St) (d5 d6 d7 d8 : Option Value) (_ : DD [d5, d6, d7, d8]) (out : St), g114L228 v1 v2 v3 n v4 S = some out → ∀ r, (∀ (e4 e5 e6 e7 e8 : Option Value), DD [e4, e5, e6, e7, e8] → Ru none 10 200 114 (319, [some (.ref 36), some (vI v1), some (vI v2), some (vI v3), e4, e5, e6, e7, e8], [], out.ns, Hp out) r) → Ru none 10 200 114 (228, [some (.ref 36), some (vI v1), some (vI v2), some (vI v3), some (vI v4), d5, d6, d7, d8], [], S.ns, Hp S) r := by
  intro n
  induction n with
  | zero => intro v4 S d5 d6 d7 d8 hdd out h; cases h
  | succ n ih =>
    intro v4 S d5 d6 d7 d8 hdd out h r hk
    unfold g114L228 at h
    refine Ru.op (q := (.iload 4, 2)) (S' := (230, _, _, _, _)) (by decide +kernel) rfl ?_
    refine Ru.op (q := (.iload_n 1, 1)) (S' := (231, _, _, _, _)) (by decide +kernel) rfl ?_
    refine Ru.op (q := (.iload_n 2, 1)) (S' := (232, _, _, _, _)) (by decide +kernel) rfl ?_
    refine Ru.ar2 (i := .imul) (z := (v1 * v2)) (pc' := 233) (by decide +kernel) rfl (ar_mul _ _) rfl ?_
    obtain ⟨g47, h⟩ := gd_some h
    obtain ⟨g48, h⟩ := gd_some h
    by_cases b49 : v4 < (v1 * v2)
    · replace h := if_t b49 h
      refine Ru.br2 (k := .ge) (off := 86) (bb := false) (tg := 236) (by decide +kernel) (by decide +kernel) (ci_ge0 g47 g48 b49) rfl ?_
      refine Ru.op (q := (.aload_n 0, 1)) (S' := (237, _, _, _, _)) (by decide +kernel) rfl ?_
      refine Ru.getI (pc' := 240) (i := 192) (ci := 10) (k := 36) (nn := 0) (z := 0) (x := (S.F 36 36)) (by decide +kernel) (by decide +kernel) (hp36 _) (by decide) rfl (eI_of _) rfl ?_
      by_cases b50 : (S.F 36 36) = 0
      · replace h := if_t b50 h
        refine Ru.br (k := .ne) (off := 79) (bb := false) (tg := 243) (by decide +kernel) (by decide +kernel) (cz (ci_ne0 (inR_to _) (by decide) b50)) rfl ?_
        refine Ru.op (q := (.aload_n 0, 1)) (S' := (244, _, _, _, _)) (by decide +kernel) rfl ?_
        refine Ru.getR (pc' := 247) (i := 81) (ci := 10) (k := 44) (nn := 0) (z := 0) (v := .ref 58) (by decide +kernel) (by decide +kernel) (hp36 _) (by decide) rfl rfl ?_
        refine Ru.op (q := (.iload_n 3, 1)) (S' := (248, _, _, _, _)) (by decide +kernel) rfl ?_
        refine Ru.op (q := (.iload 4, 2)) (S' := (250, _, _, _, _)) (by decide +kernel) rfl ?_
        refine Ru.ar2 (i := .iadd) (z := (v3 + v4)) (pc' := 251) (by decide +kernel) rfl (ar_add _ _) rfl ?_
        refine Ru.op (q := (.aload_n 0, 1)) (S' := (252, _, _, _, _)) (by decide +kernel) rfl ?_
        refine Ru.getR (pc' := 255) (i := 81) (ci := 10) (k := 44) (nn := 0) (z := 0) (v := .ref 58) (by decide +kernel) (by decide +kernel) (hp36 _) (by decide) rfl rfl ?_
        refine Ru.op (q := (.aload_n 0, 1)) (S' := (256, _, _, _, _)) (by decide +kernel) rfl ?_
        refine Ru.getI (pc' := 259) (i := 201) (ci := 10) (k := 43) (nn := 0) (z := 0) (x := (S.F 36 43)) (by decide +kernel) (by decide +kernel) (hp36 _) (by decide) rfl (eI_of _) rfl ?_
        refine Ru.op (q := (.iload 4, 2)) (S' := (261, _, _, _, _)) (by decide +kernel) rfl ?_
        refine Ru.ar2 (i := .iadd) (z := ((S.F 36 43) + v4)) (pc' := 262) (by decide +kernel) rfl (ar_add _ _) rfl ?_
        obtain ⟨g51, h⟩ := gd_some h
        refine Ru.ildI (pc' := 263) (i := ((S.F 36 43) + v4)) (z := (S.A 58 ((S.F 36 43) + v4))) (by decide +kernel) (hp58 _) g51 (eI_of _) rfl ?_
        obtain ⟨g52, h⟩ := gd_some h
        refine Ru.istI (pc' := 264) (i := (v3 + v4)) (x := (S.A 58 ((S.F 36 43) + v4))) (by decide +kernel) (hp58 _) g52 (ps_58 _ _ _) rfl ?_
        refine Ru.kI (q := (.iconst 0, 1)) (c := 0) (pc' := 265) (by decide +kernel) rfl (by decide) rfl ?_
        refine Ru.op (q := (.istore 5, 2)) (S' := (267, [some (.ref 36), some (vI v1), some (vI v2), some (vI v3), some (vI v4), some (vI 0), d6, d7, d8], [], _, _)) (by decide +kernel) rfl ?_
        obtain ⟨o57, e62, h⟩ := ob_some h
        refine g114L267_ok FU _ _ _ _ _ ⟨hdd.2.1, hdd.2.2.1, hdd.2.2.2.1, trivial⟩ _ e62 _ ?_
        intro d58 d59 d60 d61 hd63
        refine Ru.inc (k := 4) (n := 1) (x := v4) (z := (v4 + 1)) (xs' := [some (.ref 36), some (vI v1), some (vI v2), some (vI v3), some (vI (v4 + 1)), d58, d59, d60, d61]) (pc' := 316) (by decide +kernel) rfl rfl rfl rfl ?_
        refine Ru.op (q := (.goto (-88), 3)) (S' := (228, _, _, _, _)) (by decide +kernel) rfl ?_
        exact ih _ _ _ _ _ _ ⟨hd63.1, hd63.2.1, hd63.2.2.1, hd63.2.2.2.1, trivial⟩ _ h r hk
      · replace h := if_f b50 h
        refine Ru.br (k := .ne) (off := 79) (bb := true) (tg := 319) (by decide +kernel) (by decide +kernel) (cz (ci_ne1 (inR_to _) (by decide) b50)) rfl ?_
        cases h
        exact hk _ _ _ _ _ ⟨rfl, hdd.1, hdd.2.1, hdd.2.2.1, hdd.2.2.2.1, trivial⟩
    · replace h := if_f b49 h
      refine Ru.br2 (k := .ge) (off := 86) (bb := true) (tg := 319) (by decide +kernel) (by decide +kernel) (ci_ge1 g47 g48 b49) rfl ?_
      cases h
      exact hk _ _ _ _ _ ⟨rfl, hdd.1, hdd.2.1, hdd.2.2.1, hdd.2.2.2.1, trivial⟩
set_option maxRecDepth 100000 in
set_option maxHeartbeats 4000000 in
theorem g114_ok {S : St} {v1 : Int} {v2 : Int} {o : Int × St} (h : g114 S v1 v2 = some o) : Ru none 10 200 114 (0, mn_pad (mn_ent [.ref 36, vI v1, vI v2]) 9, [], S.ns, Hp S) ((0, some (vI o.1)), o.2.ns, Hp o.2) := by
  unfold g114 at h
  show Ru none 10 200 114 (0, [some (.ref 36), some (vI v1), some (vI v2), none, none, none, none, none, none], [], S.ns, Hp S) _
  refine Ru.op (q := (.aload_n 0, 1)) (S' := (1, _, _, _, _)) (by decide +kernel) rfl ?_
  refine Ru.op (q := (.aload_n 0, 1)) (S' := (2, _, _, _, _)) (by decide +kernel) rfl ?_
  refine Ru.getI (pc' := 5) (i := 192) (ci := 10) (k := 36) (nn := 0) (z := 0) (x := (S.F 36 36)) (by decide +kernel) (by decide +kernel) (hp36 _) (by decide) rfl (eI_of _) rfl ?_
  by_cases b1 : (S.F 36 36) = 0
  · replace h := if_t b1 h
    refine Ru.br (k := .ne) (off := 11) (bb := false) (tg := 8) (by decide +kernel) (by decide +kernel) (cz (ci_ne0 (inR_to _) (by decide) b1)) rfl ?_
    refine Ru.op (q := (.iload_n 1, 1)) (S' := (9, _, _, _, _)) (by decide +kernel) rfl ?_
    refine Ru.op (q := (.iload_n 2, 1)) (S' := (10, _, _, _, _)) (by decide +kernel) rfl ?_
    refine Ru.ar2 (i := .imul) (z := (v1 * v2)) (pc' := 11) (by decide +kernel) rfl (ar_mul _ _) rfl ?_
    refine Ru.kI (q := (.bipush 16, 2)) (c := 16) (pc' := 13) (by decide +kernel) rfl (by decide) rfl ?_
    obtain ⟨g2, h⟩ := gd_some h
    by_cases b3 : 16 < (v1 * v2)
    · replace h := if_t b3 h
      refine Ru.br2 (k := .le) (off := 7) (bb := false) (tg := 16) (by decide +kernel) (by decide +kernel) (ci_le0 g2 (by decide) b3) rfl ?_
      refine Ru.kI (q := (.iconst 1, 1)) (c := 1) (pc' := 17) (by decide +kernel) rfl (by decide) rfl ?_
      refine Ru.op (q := (.goto 4, 3)) (S' := (21, _, _, _, _)) (by decide +kernel) rfl ?_
      refine Ru.putH (pc' := 24) (i := 192) (ci := 10) (k := 36) (nn := 0) (z := 0) (by decide +kernel) (by decide +kernel) (hp36 _) (by decide) (Nat.le_of_ble_eq_true rfl) (fk_b (by decide)) (by decide +kernel) (pf_36_36 _ _) rfl ?_
      refine Ru.op (q := (.aload_n 0, 1)) (S' := (25, _, _, _, _)) (by decide +kernel) rfl ?_
      refine Ru.getI (pc' := 28) (i := 201) (ci := 10) (k := 43) (nn := 0) (z := 0) (x := (S.F 36 43)) (by decide +kernel) (by decide +kernel) (hp36 _) (by decide) rfl (eI_of _) rfl ?_
      refine Ru.op (q := (.iload_n 1, 1)) (S' := (29, _, _, _, _)) (by decide +kernel) rfl ?_
      refine Ru.ar2 (i := .isub) (z := ((S.F 36 43) - v1)) (pc' := 30) (by decide +kernel) rfl (ar_sub _ _) rfl ?_
      refine Ru.op (q := (.iload_n 2, 1)) (S' := (31, _, _, _, _)) (by decide +kernel) rfl ?_
      refine Ru.ar2 (i := .isub) (z := (((S.F 36 43) - v1) - v2)) (pc' := 32) (by decide +kernel) rfl (ar_sub _ _) rfl ?_
      refine Ru.op (q := (.istore_n 3, 1)) (S' := (33, [some (.ref 36), some (vI v1), some (vI v2), some (vI (((S.F 36 43) - v1) - v2)), none, none, none, none, none], [], _, _)) (by decide +kernel) rfl ?_
      refine Ru.kI (q := (.iconst 0, 1)) (c := 0) (pc' := 34) (by decide +kernel) rfl (by decide) rfl ?_
      refine Ru.op (q := (.istore 4, 2)) (S' := (36, [some (.ref 36), some (vI v1), some (vI v2), some (vI (((S.F 36 43) - v1) - v2)), some (vI 0), none, none, none, none], [], _, _)) (by decide +kernel) rfl ?_
      obtain ⟨o39, e45, h⟩ := ob_some h
      refine g114L36_ok FU _ _ _ _ _ _ ⟨rfl, rfl, rfl, rfl, trivial⟩ _ e45 _ ?_
      intro d40 d41 d42 d43 d44 hd46
      refine Ru.kI (q := (.iconst 0, 1)) (c := 0) (pc' := 226) (by decide +kernel) rfl (by decide) rfl ?_
      refine Ru.op (q := (.istore 4, 2)) (S' := (228, [some (.ref 36), some (vI v1), some (vI v2), some (vI (((S.F 36 43) - v1) - v2)), some (vI 0), d41, d42, d43, d44], [], _, _)) (by decide +kernel) rfl ?_
      obtain ⟨o64, e70, h⟩ := ob_some h
      refine g114L228_ok FU _ _ _ _ _ _ ⟨hd46.2.1, hd46.2.2.1, hd46.2.2.2.1, hd46.2.2.2.2.1, trivial⟩ _ e70 _ ?_
      intro d65 d66 d67 d68 d69 hd71
      refine Ru.op (q := (.aload_n 0, 1)) (S' := (320, _, _, _, _)) (by decide +kernel) rfl ?_
      refine Ru.op (q := (.iload_n 3, 1)) (S' := (321, _, _, _, _)) (by decide +kernel) rfl ?_
      refine Ru.op (q := (.iload_n 1, 1)) (S' := (322, _, _, _, _)) (by decide +kernel) rfl ?_
      refine Ru.op (q := (.iload_n 2, 1)) (S' := (323, _, _, _, _)) (by decide +kernel) rfl ?_
      refine Ru.ar2 (i := .imul) (z := (v1 * v2)) (pc' := 324) (by decide +kernel) rfl (ar_mul _ _) rfl ?_
      refine Ru.ar2 (i := .iadd) (z := ((((S.F 36 43) - v1) - v2) + (v1 * v2))) (pc' := 325) (by decide +kernel) rfl (ar_add _ _) rfl ?_
      refine Ru.putH (pc' := 328) (i := 201) (ci := 10) (k := 43) (nn := 0) (z := 0) (by decide +kernel) (by decide +kernel) (hp36 _) (by decide) (Nat.le_of_ble_eq_true rfl) rfl (by decide +kernel) (pf_36_43 _ _) rfl ?_
      refine Ru.op (q := (.iload_n 1, 1)) (S' := (329, _, _, _, _)) (by decide +kernel) rfl ?_
      refine Ru.op (q := (.iload_n 2, 1)) (S' := (330, _, _, _, _)) (by decide +kernel) rfl ?_
      refine Ru.ar2 (i := .imul) (z := (v1 * v2)) (pc' := 331) (by decide +kernel) rfl (ar_mul _ _) rfl ?_
      cases h
      exact Ru.iret (by decide +kernel) rfl rfl
    · replace h := if_f b3 h
      refine Ru.br2 (k := .le) (off := 7) (bb := true) (tg := 20) (by decide +kernel) (by decide +kernel) (ci_le1 g2 (by decide) b3) rfl ?_
      refine Ru.kI (q := (.iconst 0, 1)) (c := 0) (pc' := 21) (by decide +kernel) rfl (by decide) rfl ?_
      refine Ru.putH (pc' := 24) (i := 192) (ci := 10) (k := 36) (nn := 0) (z := 0) (by decide +kernel) (by decide +kernel) (hp36 _) (by decide) (Nat.le_of_ble_eq_true rfl) (fk_b (by decide)) (by decide +kernel) (pf_36_36 _ _) rfl ?_
      refine Ru.op (q := (.aload_n 0, 1)) (S' := (25, _, _, _, _)) (by decide +kernel) rfl ?_
      refine Ru.getI (pc' := 28) (i := 201) (ci := 10) (k := 43) (nn := 0) (z := 0) (x := (S.F 36 43)) (by decide +kernel) (by decide +kernel) (hp36 _) (by decide) rfl (eI_of _) rfl ?_
      refine Ru.op (q := (.iload_n 1, 1)) (S' := (29, _, _, _, _)) (by decide +kernel) rfl ?_
      refine Ru.ar2 (i := .isub) (z := ((S.F 36 43) - v1)) (pc' := 30) (by decide +kernel) rfl (ar_sub _ _) rfl ?_
      refine Ru.op (q := (.iload_n 2, 1)) (S' := (31, _, _, _, _)) (by decide +kernel) rfl ?_
      refine Ru.ar2 (i := .isub) (z := (((S.F 36 43) - v1) - v2)) (pc' := 32) (by decide +kernel) rfl (ar_sub _ _) rfl ?_
      refine Ru.op (q := (.istore_n 3, 1)) (S' := (33, [some (.ref 36), some (vI v1), some (vI v2), some (vI (((S.F 36 43) - v1) - v2)), none, none, none, none, none], [], _, _)) (by decide +kernel) rfl ?_
      refine Ru.kI (q := (.iconst 0, 1)) (c := 0) (pc' := 34) (by decide +kernel) rfl (by decide) rfl ?_
      refine Ru.op (q := (.istore 4, 2)) (S' := (36, [some (.ref 36), some (vI v1), some (vI v2), some (vI (((S.F 36 43) - v1) - v2)), some (vI 0), none, none, none, none], [], _, _)) (by decide +kernel) rfl ?_
      obtain ⟨o72, e78, h⟩ := ob_some h
      refine g114L36_ok FU _ _ _ _ _ _ ⟨rfl, rfl, rfl, rfl, trivial⟩ _ e78 _ ?_
      intro d73 d74 d75 d76 d77 hd79
      refine Ru.kI (q := (.iconst 0, 1)) (c := 0) (pc' := 226) (by decide +kernel) rfl (by decide) rfl ?_
      refine Ru.op (q := (.istore 4, 2)) (S' := (228, [some (.ref 36), some (vI v1), some (vI v2), some (vI (((S.F 36 43) - v1) - v2)), some (vI 0), d74, d75, d76, d77], [], _, _)) (by decide +kernel) rfl ?_
      obtain ⟨o80, e86, h⟩ := ob_some h
      refine g114L228_ok FU _ _ _ _ _ _ ⟨hd79.2.1, hd79.2.2.1, hd79.2.2.2.1, hd79.2.2.2.2.1, trivial⟩ _ e86 _ ?_
      intro d81 d82 d83 d84 d85 hd87
      refine Ru.op (q := (.aload_n 0, 1)) (S' := (320, _, _, _, _)) (by decide +kernel) rfl ?_
      refine Ru.op (q := (.iload_n 3, 1)) (S' := (321, _, _, _, _)) (by decide +kernel) rfl ?_
      refine Ru.op (q := (.iload_n 1, 1)) (S' := (322, _, _, _, _)) (by decide +kernel) rfl ?_
      refine Ru.op (q := (.iload_n 2, 1)) (S' := (323, _, _, _, _)) (by decide +kernel) rfl ?_
      refine Ru.ar2 (i := .imul) (z := (v1 * v2)) (pc' := 324) (by decide +kernel) rfl (ar_mul _ _) rfl ?_
      refine Ru.ar2 (i := .iadd) (z := ((((S.F 36 43) - v1) - v2) + (v1 * v2))) (pc' := 325) (by decide +kernel) rfl (ar_add _ _) rfl ?_
      refine Ru.putH (pc' := 328) (i := 201) (ci := 10) (k := 43) (nn := 0) (z := 0) (by decide +kernel) (by decide +kernel) (hp36 _) (by decide) (Nat.le_of_ble_eq_true rfl) rfl (by decide +kernel) (pf_36_43 _ _) rfl ?_
      refine Ru.op (q := (.iload_n 1, 1)) (S' := (329, _, _, _, _)) (by decide +kernel) rfl ?_
      refine Ru.op (q := (.iload_n 2, 1)) (S' := (330, _, _, _, _)) (by decide +kernel) rfl ?_
      refine Ru.ar2 (i := .imul) (z := (v1 * v2)) (pc' := 331) (by decide +kernel) rfl (ar_mul _ _) rfl ?_
      cases h
      exact Ru.iret (by decide +kernel) rfl rfl
  · replace h := if_f b1 h
    refine Ru.br (k := .ne) (off := 11) (bb := true) (tg := 16) (by decide +kernel) (by decide +kernel) (cz (ci_ne1 (inR_to _) (by decide) b1)) rfl ?_
    refine Ru.kI (q := (.iconst 1, 1)) (c := 1) (pc' := 17) (by decide +kernel) rfl (by decide) rfl ?_
    refine Ru.op (q := (.goto 4, 3)) (S' := (21, _, _, _, _)) (by decide +kernel) rfl ?_
    refine Ru.putH (pc' := 24) (i := 192) (ci := 10) (k := 36) (nn := 0) (z := 0) (by decide +kernel) (by decide +kernel) (hp36 _) (by decide) (Nat.le_of_ble_eq_true rfl) (fk_b (by decide)) (by decide +kernel) (pf_36_36 _ _) rfl ?_
    refine Ru.op (q := (.aload_n 0, 1)) (S' := (25, _, _, _, _)) (by decide +kernel) rfl ?_
    refine Ru.getI (pc' := 28) (i := 201) (ci := 10) (k := 43) (nn := 0) (z := 0) (x := (S.F 36 43)) (by decide +kernel) (by decide +kernel) (hp36 _) (by decide) rfl (eI_of _) rfl ?_
    refine Ru.op (q := (.iload_n 1, 1)) (S' := (29, _, _, _, _)) (by decide +kernel) rfl ?_
    refine Ru.ar2 (i := .isub) (z := ((S.F 36 43) - v1)) (pc' := 30) (by decide +kernel) rfl (ar_sub _ _) rfl ?_
    refine Ru.op (q := (.iload_n 2, 1)) (S' := (31, _, _, _, _)) (by decide +kernel) rfl ?_
    refine Ru.ar2 (i := .isub) (z := (((S.F 36 43) - v1) - v2)) (pc' := 32) (by decide +kernel) rfl (ar_sub _ _) rfl ?_
    refine Ru.op (q := (.istore_n 3, 1)) (S' := (33, [some (.ref 36), some (vI v1), some (vI v2), some (vI (((S.F 36 43) - v1) - v2)), none, none, none, none, none], [], _, _)) (by decide +kernel) rfl ?_
    refine Ru.kI (q := (.iconst 0, 1)) (c := 0) (pc' := 34) (by decide +kernel) rfl (by decide) rfl ?_
    refine Ru.op (q := (.istore 4, 2)) (S' := (36, [some (.ref 36), some (vI v1), some (vI v2), some (vI (((S.F 36 43) - v1) - v2)), some (vI 0), none, none, none, none], [], _, _)) (by decide +kernel) rfl ?_
    obtain ⟨o88, e94, h⟩ := ob_some h
    refine g114L36_ok FU _ _ _ _ _ _ ⟨rfl, rfl, rfl, rfl, trivial⟩ _ e94 _ ?_
    intro d89 d90 d91 d92 d93 hd95
    refine Ru.kI (q := (.iconst 0, 1)) (c := 0) (pc' := 226) (by decide +kernel) rfl (by decide) rfl ?_
    refine Ru.op (q := (.istore 4, 2)) (S' := (228, [some (.ref 36), some (vI v1), some (vI v2), some (vI (((S.F 36 43) - v1) - v2)), some (vI 0), d90, d91, d92, d93], [], _, _)) (by decide +kernel) rfl ?_
    obtain ⟨o96, e102, h⟩ := ob_some h
    refine g114L228_ok FU _ _ _ _ _ _ ⟨hd95.2.1, hd95.2.2.1, hd95.2.2.2.1, hd95.2.2.2.2.1, trivial⟩ _ e102 _ ?_
    intro d97 d98 d99 d100 d101 hd103
    refine Ru.op (q := (.aload_n 0, 1)) (S' := (320, _, _, _, _)) (by decide +kernel) rfl ?_
    refine Ru.op (q := (.iload_n 3, 1)) (S' := (321, _, _, _, _)) (by decide +kernel) rfl ?_
    refine Ru.op (q := (.iload_n 1, 1)) (S' := (322, _, _, _, _)) (by decide +kernel) rfl ?_
    refine Ru.op (q := (.iload_n 2, 1)) (S' := (323, _, _, _, _)) (by decide +kernel) rfl ?_
    refine Ru.ar2 (i := .imul) (z := (v1 * v2)) (pc' := 324) (by decide +kernel) rfl (ar_mul _ _) rfl ?_
    refine Ru.ar2 (i := .iadd) (z := ((((S.F 36 43) - v1) - v2) + (v1 * v2))) (pc' := 325) (by decide +kernel) rfl (ar_add _ _) rfl ?_
    refine Ru.putH (pc' := 328) (i := 201) (ci := 10) (k := 43) (nn := 0) (z := 0) (by decide +kernel) (by decide +kernel) (hp36 _) (by decide) (Nat.le_of_ble_eq_true rfl) rfl (by decide +kernel) (pf_36_43 _ _) rfl ?_
    refine Ru.op (q := (.iload_n 1, 1)) (S' := (329, _, _, _, _)) (by decide +kernel) rfl ?_
    refine Ru.op (q := (.iload_n 2, 1)) (S' := (330, _, _, _, _)) (by decide +kernel) rfl ?_
    refine Ru.ar2 (i := .imul) (z := (v1 * v2)) (pc' := 331) (by decide +kernel) rfl (ar_mul _ _) rfl ?_
    cases h
    exact Ru.iret (by decide +kernel) rfl rfl
