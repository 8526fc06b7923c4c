set_option maxRecDepth 100000 in
set_option maxHeartbeats 4000000 in
theorem g113L7_ok : ∀ (n : Nat) (v3 : Int) (S : St) (d1 d2 d4 : Option Value) (_ : DD [d1, d2, d4]) (out : Sum (Int × St) (Int × St)), g113L7 n v3 S = some out → ∀ r, (∀ o, out = .inl o → ∀ (e0 e1 e2 e4 : Option Value), DD [e0, e1, e2, e4] → Ru none 11 228 113 (208, [e0, e1, e2, some (vI o.1), e4], [], o.2.ns, Hp o.2) r) → (∀ o, out = .inr o → r = ((0, some (vI o.1)), o.2.ns, Hp o.2)) → Ru none 11 228 113 (7, [some (.ref 36), d1, d2, some (vI v3), d4], [], S.ns, Hp S) r := by
  intro n
  induction n with
  | zero => intro v3 S d1 d2 d4 hdd out h; cases h
  | succ n ih =>
    intro v3 S d1 d2 d4 hdd out h r hk hr
    unfold g113L7 at h
    refine Ru.op (q := (.iload_n 3, 1)) (S' := (8, _, _, _, _)) (by decide +kernel) rfl ?_
    obtain ⟨g23, h⟩ := gd_some h
    by_cases b24 : 0 < v3
    · replace h := if_t b24 h
      refine Ru.br (k := .le) (off := 200) (bb := false) (tg := 11) (by decide +kernel) (by decide +kernel) (cz (ci_le0 g23 (by decide) b24)) rfl ?_
      refine Ru.op (q := (.aload_n 0, 1)) (S' := (12, _, _, _, _)) (by decide +kernel) rfl ?_
      refine Ru.getR (pc' := 15) (i := 69) (ci := 10) (k := 38) (nn := 0) (z := 0) (v := .ref 54) (by decide +kernel) (by decide +kernel) (hp36 _) (by decide) rfl rfl ?_
      refine Ru.op (q := (.iload_n 3, 1)) (S' := (16, _, _, _, _)) (by decide +kernel) rfl ?_
      refine Ru.kI (q := (.iconst 1, 1)) (c := 1) (pc' := 17) (by decide +kernel) rfl (by decide) rfl ?_
      refine Ru.ar2 (i := .isub) (z := (v3 - 1)) (pc' := 18) (by decide +kernel) rfl (ar_sub _ _) rfl ?_
      obtain ⟨g25, h⟩ := gd_some h
      refine Ru.ildI (pc' := 19) (i := (v3 - 1)) (z := (S.A 54 (v3 - 1))) (by decide +kernel) (hp54 _) g25 (eI_of _) rfl ?_
      refine Ru.op (q := (.istore 4, 2)) (S' := (21, [some (.ref 36), d1, d2, some (vI v3), some (vI (S.A 54 (v3 - 1)))], [], _, _)) (by decide +kernel) rfl ?_
      refine Ru.op (q := (.iload 4, 2)) (S' := (23, _, _, _, _)) (by decide +kernel) rfl ?_
      refine Ru.kI (q := (.bipush 33, 2)) (c := 33) (pc' := 25) (by decide +kernel) rfl (by decide) rfl ?_
      by_cases b26 : (S.A 54 (v3 - 1)) = 33
      · replace h := if_t b26 h
        refine Ru.br2 (k := .eq) (off := 10) (bb := true) (tg := 35) (by decide +kernel) (by decide +kernel) (ci_eq1 (inR_to _) (by decide) b26) rfl ?_
        refine Ru.op (q := (.aload_n 0, 1)) (S' := (36, _, _, _, _)) (by decide +kernel) rfl ?_
        refine Ru.op (q := (.dup, 1)) (S' := (37, _, _, _, _)) (by decide +kernel) rfl ?_
        refine Ru.getI (pc' := 40) (i := 158) (ci := 10) (k := 30) (nn := 0) (z := 0) (x := (S.F 36 30)) (by decide +kernel) (by decide +kernel) (hp36 _) (by decide) rfl (eI_of _) rfl ?_
        refine Ru.kI (q := (.iconst 1, 1)) (c := 1) (pc' := 41) (by decide +kernel) rfl (by decide) rfl ?_
        refine Ru.ar2 (i := .isub) (z := ((S.F 36 30) - 1)) (pc' := 42) (by decide +kernel) rfl (ar_sub _ _) rfl ?_
        refine Ru.putH (pc' := 45) (i := 158) (ci := 10) (k := 30) (nn := 0) (z := 0) (by decide +kernel) (by decide +kernel) (hp36 _) (by decide) (Nat.le_of_ble_eq_true rfl) rfl (by decide +kernel) (pf_36_30 _ _) rfl ?_
        refine Ru.op (q := (.goto 157, 3)) (S' := (202, _, _, _, _)) (by decide +kernel) rfl ?_
        refine Ru.inc (k := 3) (n := (-1)) (x := v3) (z := (v3 + (-1))) (xs' := [some (.ref 36), d1, d2, some (vI (v3 + (-1))), some (vI (S.A 54 (v3 - 1)))]) (pc' := 205) (by decide +kernel) rfl rfl (mn_st1_D (Nat.le_of_ble_eq_true rfl) hdd.2.1 rfl) rfl ?_
        refine Ru.op (q := (.goto (-198), 3)) (S' := (7, _, _, _, _)) (by decide +kernel) rfl ?_
        exact ih _ _ _ _ _ ⟨hdd.1, hdd.2.1, rfl, trivial⟩ _ h r hk hr
      · replace h := if_f b26 h
        refine Ru.br2 (k := .eq) (off := 10) (bb := false) (tg := 28) (by decide +kernel) (by decide +kernel) (ci_eq0 (inR_to _) (by decide) b26) rfl ?_
        refine Ru.op (q := (.iload 4, 2)) (S' := (30, _, _, _, _)) (by decide +kernel) rfl ?_
        refine Ru.kI (q := (.bipush 63, 2)) (c := 63) (pc' := 32) (by decide +kernel) rfl (by decide) rfl ?_
        by_cases b27 : (S.A 54 (v3 - 1)) = 63
        · replace h := if_t b27 h
          refine Ru.br2 (k := .ne) (off := 16) (bb := false) (tg := 35) (by decide +kernel) (by decide +kernel) (ci_ne0 (inR_to _) (by decide) b27) rfl ?_
          refine Ru.op (q := (.aload_n 0, 1)) (S' := (36, _, _, _, _)) (by decide +kernel) rfl ?_
          refine Ru.op (q := (.dup, 1)) (S' := (37, _, _, _, _)) (by decide +kernel) rfl ?_
          refine Ru.getI (pc' := 40) (i := 158) (ci := 10) (k := 30) (nn := 0) (z := 0) (x := (S.F 36 30)) (by decide +kernel) (by decide +kernel) (hp36 _) (by decide) rfl (eI_of _) rfl ?_
          refine Ru.kI (q := (.iconst 1, 1)) (c := 1) (pc' := 41) (by decide +kernel) rfl (by decide) rfl ?_
          refine Ru.ar2 (i := .isub) (z := ((S.F 36 30) - 1)) (pc' := 42) (by decide +kernel) rfl (ar_sub _ _) rfl ?_
          refine Ru.putH (pc' := 45) (i := 158) (ci := 10) (k := 30) (nn := 0) (z := 0) (by decide +kernel) (by decide +kernel) (hp36 _) (by decide) (Nat.le_of_ble_eq_true rfl) rfl (by decide +kernel) (pf_36_30 _ _) rfl ?_
          refine Ru.op (q := (.goto 157, 3)) (S' := (202, _, _, _, _)) (by decide +kernel) rfl ?_
          refine Ru.inc (k := 3) (n := (-1)) (x := v3) (z := (v3 + (-1))) (xs' := [some (.ref 36), d1, d2, some (vI (v3 + (-1))), some (vI (S.A 54 (v3 - 1)))]) (pc' := 205) (by decide +kernel) rfl rfl (mn_st1_D (Nat.le_of_ble_eq_true rfl) hdd.2.1 rfl) rfl ?_
          refine Ru.op (q := (.goto (-198), 3)) (S' := (7, _, _, _, _)) (by decide +kernel) rfl ?_
          exact ih _ _ _ _ _ ⟨hdd.1, hdd.2.1, rfl, trivial⟩ _ h r hk hr
        · replace h := if_f b27 h
          refine Ru.br2 (k := .ne) (off := 16) (bb := true) (tg := 48) (by decide +kernel) (by decide +kernel) (ci_ne1 (inR_to _) (by decide) b27) rfl ?_
          refine Ru.op (q := (.iload 4, 2)) (S' := (50, _, _, _, _)) (by decide +kernel) rfl ?_
          refine Ru.kI (q := (.bipush 126, 2)) (c := 126) (pc' := 52) (by decide +kernel) rfl (by decide) rfl ?_
          by_cases b28 : (S.A 54 (v3 - 1)) = 126
          · replace h := if_t b28 h
            refine Ru.br2 (k := .eq) (off := 37) (bb := true) (tg := 89) (by decide +kernel) (by decide +kernel) (ci_eq1 (inR_to _) (by decide) b28) rfl ?_
            refine Ru.op (q := (.iload 4, 2)) (S' := (91, _, _, _, _)) (by decide +kernel) rfl ?_
            refine Ru.kI (q := (.bipush 126, 2)) (c := 126) (pc' := 93) (by decide +kernel) rfl (by decide) rfl ?_
            refine Ru.br2 (k := .eq) (off := 71) (bb := true) (tg := 164) (by decide +kernel) (by decide +kernel) (ci_eq1 (inR_to _) (by decide) b28) rfl ?_
            refine Ru.op (q := (.iload 4, 2)) (S' := (166, _, _, _, _)) (by decide +kernel) rfl ?_
            refine Ru.kI (q := (.bipush 126, 2)) (c := 126) (pc' := 168) (by decide +kernel) rfl (by decide) rfl ?_
            refine Ru.br2 (k := .eq) (off := 34) (bb := true) (tg := 202) (by decide +kernel) (by decide +kernel) (ci_eq1 (inR_to _) (by decide) b28) rfl ?_
            refine Ru.inc (k := 3) (n := (-1)) (x := v3) (z := (v3 + (-1))) (xs' := [some (.ref 36), d1, d2, some (vI (v3 + (-1))), some (vI (S.A 54 (v3 - 1)))]) (pc' := 205) (by decide +kernel) rfl rfl (mn_st1_D (Nat.le_of_ble_eq_true rfl) hdd.2.1 rfl) rfl ?_
            refine Ru.op (q := (.goto (-198), 3)) (S' := (7, _, _, _, _)) (by decide +kernel) rfl ?_
            exact ih _ _ _ _ _ ⟨hdd.1, hdd.2.1, rfl, trivial⟩ _ h r hk hr
          · replace h := if_f b28 h
            refine Ru.br2 (k := .eq) (off := 37) (bb := false) (tg := 55) (by decide +kernel) (by decide +kernel) (ci_eq0 (inR_to _) (by decide) b28) rfl ?_
            refine Ru.op (q := (.aload_n 0, 1)) (S' := (56, _, _, _, _)) (by decide +kernel) rfl ?_
            refine Ru.getR (pc' := 59) (i := 75) (ci := 10) (k := 40) (nn := 0) (z := 0) (v := .ref 56) (by decide +kernel) (by decide +kernel) (hp36 _) (by decide) rfl rfl ?_
            refine Ru.op (q := (.iload_n 3, 1)) (S' := (60, _, _, _, _)) (by decide +kernel) rfl ?_
            refine Ru.kI (q := (.iconst 1, 1)) (c := 1) (pc' := 61) (by decide +kernel) rfl (by decide) rfl ?_
            refine Ru.ar2 (i := .isub) (z := (v3 - 1)) (pc' := 62) (by decide +kernel) rfl (ar_sub _ _) rfl ?_
            refine Ru.bldI (pc' := 63) (i := (v3 - 1)) (z := (S.A 56 (v3 - 1))) (by decide +kernel) (hp56 _) g25 (eI_of _) rfl ?_
            by_cases b29 : (S.A 56 (v3 - 1)) = 0
            · replace h := if_t b29 h
              refine Ru.br (k := .ne) (off := 26) (bb := false) (tg := 66) (by decide +kernel) (by decide +kernel) (cz (ci_ne0 (inR_to _) (by decide) b29)) rfl ?_
              refine Ru.op (q := (.aload_n 0, 1)) (S' := (67, _, _, _, _)) (by decide +kernel) rfl ?_
              refine Ru.getR (pc' := 70) (i := 75) (ci := 10) (k := 40) (nn := 0) (z := 0) (v := .ref 56) (by decide +kernel) (by decide +kernel) (hp36 _) (by decide) rfl rfl ?_
              refine Ru.op (q := (.iload_n 3, 1)) (S' := (71, _, _, _, _)) (by decide +kernel) rfl ?_
              refine Ru.kI (q := (.iconst 1, 1)) (c := 1) (pc' := 72) (by decide +kernel) rfl (by decide) rfl ?_
              refine Ru.ar2 (i := .isub) (z := (v3 - 1)) (pc' := 73) (by decide +kernel) rfl (ar_sub _ _) rfl ?_
              refine Ru.kI (q := (.iconst 1, 1)) (c := 1) (pc' := 74) (by decide +kernel) rfl (by decide) rfl ?_
              refine Ru.bstI (pc' := 75) (i := (v3 - 1)) (x := 1) (by decide +kernel) (hp56 _) g25 (by decide) (ps_56 _ _ _) rfl ?_
              refine Ru.op (q := (.aload_n 0, 1)) (S' := (76, _, _, _, _)) (by decide +kernel) rfl ?_
              refine Ru.getR (pc' := 79) (i := 78) (ci := 10) (k := 41) (nn := 0) (z := 0) (v := .ref 57) (by decide +kernel) (by decide +kernel) (hp36 _) (by decide) rfl rfl ?_
              refine Ru.op (q := (.iload_n 3, 1)) (S' := (80, _, _, _, _)) (by decide +kernel) rfl ?_
              refine Ru.kI (q := (.iconst 1, 1)) (c := 1) (pc' := 81) (by decide +kernel) rfl (by decide) rfl ?_
              refine Ru.ar2 (i := .isub) (z := (v3 - 1)) (pc' := 82) (by decide +kernel) rfl (ar_sub _ _) rfl ?_
              refine Ru.op (q := (.aload_n 0, 1)) (S' := (83, _, _, _, _)) (by decide +kernel) rfl ?_
              refine Ru.getI (pc' := 86) (i := 218) (ci := 10) (k := 42) (nn := 0) (z := 0) (x := (S.F 36 42)) (by decide +kernel) (by decide +kernel) (hp36 _) (by decide) rfl (eI_of _) rfl ?_
              refine Ru.istI (pc' := 87) (i := (v3 - 1)) (x := (S.F 36 42)) (by decide +kernel) (hp57 _) g25 (ps_57 _ _ _) rfl ?_
              refine Ru.op (q := (.iload_n 3, 1)) (S' := (88, _, _, _, _)) (by decide +kernel) rfl ?_
              cases h
              have h9 := hr _ rfl
              subst h9
              exact Ru.iret (by decide +kernel) rfl rfl
            · replace h := if_f b29 h
              refine Ru.br (k := .ne) (off := 26) (bb := true) (tg := 89) (by decide +kernel) (by decide +kernel) (cz (ci_ne1 (inR_to _) (by decide) b29)) rfl ?_
              refine Ru.op (q := (.iload 4, 2)) (S' := (91, _, _, _, _)) (by decide +kernel) rfl ?_
              refine Ru.kI (q := (.bipush 126, 2)) (c := 126) (pc' := 93) (by decide +kernel) rfl (by decide) rfl ?_
              refine Ru.br2 (k := .eq) (off := 71) (bb := false) (tg := 96) (by decide +kernel) (by decide +kernel) (ci_eq0 (inR_to _) (by decide) b28) rfl ?_
              refine Ru.op (q := (.iload 4, 2)) (S' := (98, _, _, _, _)) (by decide +kernel) rfl ?_
              refine Ru.kI (q := (.bipush 38, 2)) (c := 38) (pc' := 100) (by decide +kernel) rfl (by decide) rfl ?_
              by_cases b30 : (S.A 54 (v3 - 1)) = 38
              · replace h := if_t b30 h
                refine Ru.br2 (k := .ne) (off := 7) (bb := false) (tg := 103) (by decide +kernel) (by decide +kernel) (ci_ne0 (inR_to _) (by decide) b30) rfl ?_
                refine Ru.kI (q := (.iconst 1, 1)) (c := 1) (pc' := 104) (by decide +kernel) rfl (by decide) rfl ?_
                refine Ru.op (q := (.goto 4, 3)) (S' := (108, _, _, _, _)) (by decide +kernel) rfl ?_
                refine Ru.op (q := (.aload_n 0, 1)) (S' := (109, _, _, _, _)) (by decide +kernel) rfl ?_
                refine Ru.getR (pc' := 112) (i := 72) (ci := 10) (k := 39) (nn := 0) (z := 0) (v := .ref 55) (by decide +kernel) (by decide +kernel) (hp36 _) (by decide) rfl rfl ?_
                refine Ru.op (q := (.iload_n 3, 1)) (S' := (113, _, _, _, _)) (by decide +kernel) rfl ?_
                refine Ru.kI (q := (.iconst 1, 1)) (c := 1) (pc' := 114) (by decide +kernel) rfl (by decide) rfl ?_
                refine Ru.ar2 (i := .isub) (z := (v3 - 1)) (pc' := 115) (by decide +kernel) rfl (ar_sub _ _) rfl ?_
                refine Ru.bldI (pc' := 116) (i := (v3 - 1)) (z := (S.A 55 (v3 - 1))) (by decide +kernel) (hp55 _) g25 (eI_of _) rfl ?_
                by_cases b31 : 1 = (S.A 55 (v3 - 1))
                · replace h := if_t b31 h
                  refine Ru.br2 (k := .eq) (off := 48) (bb := true) (tg := 164) (by decide +kernel) (by decide +kernel) (ci_eq1 (by decide) (inR_to _) b31) rfl ?_
                  refine Ru.op (q := (.iload 4, 2)) (S' := (166, _, _, _, _)) (by decide +kernel) rfl ?_
                  refine Ru.kI (q := (.bipush 126, 2)) (c := 126) (pc' := 168) (by decide +kernel) rfl (by decide) rfl ?_
                  refine Ru.br2 (k := .eq) (off := 34) (bb := false) (tg := 171) (by decide +kernel) (by decide +kernel) (ci_eq0 (inR_to _) (by decide) b28) rfl ?_
                  refine Ru.op (q := (.aload_n 0, 1)) (S' := (172, _, _, _, _)) (by decide +kernel) rfl ?_
                  refine Ru.op (q := (.aload_n 0, 1)) (S' := (173, _, _, _, _)) (by decide +kernel) rfl ?_
                  refine Ru.getI (pc' := 176) (i := 192) (ci := 10) (k := 36) (nn := 0) (z := 0) (x := (S.F 36 36)) (by decide +kernel) (by decide +kernel) (hp36 _) (by decide) rfl (eI_of _) rfl ?_
                  by_cases b32 : (S.F 36 36) = 0
                  · replace h := if_t b32 h
                    refine Ru.br (k := .eq) (off := 7) (bb := true) (tg := 183) (by decide +kernel) (by decide +kernel) (cz (ci_eq1 (inR_to _) (by decide) b32)) rfl ?_
                    refine Ru.op (q := (.aload_n 0, 1)) (S' := (184, _, _, _, _)) (by decide +kernel) rfl ?_
                    refine Ru.op (q := (.aload_n 0, 1)) (S' := (185, _, _, _, _)) (by decide +kernel) rfl ?_
                    refine Ru.getR (pc' := 188) (i := 78) (ci := 10) (k := 41) (nn := 0) (z := 0) (v := .ref 57) (by decide +kernel) (by decide +kernel) (hp36 _) (by decide) rfl rfl ?_
                    refine Ru.op (q := (.iload_n 3, 1)) (S' := (189, _, _, _, _)) (by decide +kernel) rfl ?_
                    refine Ru.kI (q := (.iconst 1, 1)) (c := 1) (pc' := 190) (by decide +kernel) rfl (by decide) rfl ?_
                    refine Ru.ar2 (i := .isub) (z := (v3 - 1)) (pc' := 191) (by decide +kernel) rfl (ar_sub _ _) rfl ?_
                    refine Ru.ildI (pc' := 192) (i := (v3 - 1)) (z := (S.A 57 (v3 - 1))) (by decide +kernel) (hp57 _) g25 (eI_of _) rfl ?_
                    refine Ru.op (q := (.aload_n 0, 1)) (S' := (193, _, _, _, _)) (by decide +kernel) rfl ?_
                    refine Ru.getI (pc' := 196) (i := 218) (ci := 10) (k := 42) (nn := 0) (z := 0) (x := (S.F 36 42)) (by decide +kernel) (by decide +kernel) (hp36 _) (by decide) rfl (eI_of _) rfl ?_
                    obtain ⟨o33, e34, h⟩ := ob_some h
                    refine Ru.vcallI (pc' := 199) (st' := [vI o33.1, .ref 36]) (i := 227) (j2 := 114) (ci := 10) (k := 0) (z := 0) (as := [vI (S.A 57 (v3 - 1)), vI (S.F 36 42)]) (by decide +kernel) (by decide +kernel) rfl rfl (hp36 _) (by decide) ⟨(Nat.le_of_ble_eq_true rfl), (by show 19 + 9 ≤ 228; exact Nat.le_of_ble_eq_true rfl), Nat.le_of_ble_eq_true rfl, Nat.le_of_ble_eq_true rfl⟩ ((g114_ok e34).up (Nat.le_of_ble_eq_true rfl) (Nat.le_of_ble_eq_true rfl)) rfl rfl ?_
                    refine Ru.putH (pc' := 202) (i := 218) (ci := 10) (k := 42) (nn := 0) (z := 0) (by decide +kernel) (by decide +kernel) (hp36 _) (by decide) (Nat.le_of_ble_eq_true rfl) rfl (by decide +kernel) (pf_36_42 _ _) rfl ?_
                    refine Ru.inc (k := 3) (n := (-1)) (x := v3) (z := (v3 + (-1))) (xs' := [some (.ref 36), d1, d2, some (vI (v3 + (-1))), some (vI (S.A 54 (v3 - 1)))]) (pc' := 205) (by decide +kernel) rfl rfl (mn_st1_D (Nat.le_of_ble_eq_true rfl) hdd.2.1 rfl) rfl ?_
                    refine Ru.op (q := (.goto (-198), 3)) (S' := (7, _, _, _, _)) (by decide +kernel) rfl ?_
                    exact ih _ _ _ _ _ ⟨hdd.1, hdd.2.1, rfl, trivial⟩ _ h r hk hr
                  · replace h := if_f b32 h
                    refine Ru.br (k := .eq) (off := 7) (bb := false) (tg := 179) (by decide +kernel) (by decide +kernel) (cz (ci_eq0 (inR_to _) (by decide) b32)) rfl ?_
                    refine Ru.kI (q := (.iconst 0, 1)) (c := 0) (pc' := 180) (by decide +kernel) rfl (by decide) rfl ?_
                    refine Ru.op (q := (.goto 19, 3)) (S' := (199, _, _, _, _)) (by decide +kernel) rfl ?_
                    refine Ru.putH (pc' := 202) (i := 218) (ci := 10) (k := 42) (nn := 0) (z := 0) (by decide +kernel) (by decide +kernel) (hp36 _) (by decide) (Nat.le_of_ble_eq_true rfl) rfl (by decide +kernel) (pf_36_42 _ _) rfl ?_
                    refine Ru.inc (k := 3) (n := (-1)) (x := v3) (z := (v3 + (-1))) (xs' := [some (.ref 36), d1, d2, some (vI (v3 + (-1))), some (vI (S.A 54 (v3 - 1)))]) (pc' := 205) (by decide +kernel) rfl rfl (mn_st1_D (Nat.le_of_ble_eq_true rfl) hdd.2.1 rfl) rfl ?_
                    refine Ru.op (q := (.goto (-198), 3)) (S' := (7, _, _, _, _)) (by decide +kernel) rfl ?_
                    exact ih _ _ _ _ _ ⟨hdd.1, hdd.2.1, rfl, trivial⟩ _ h r hk hr
                · replace h := if_f b31 h
                  refine Ru.br2 (k := .eq) (off := 48) (bb := false) (tg := 119) (by decide +kernel) (by decide +kernel) (ci_eq0 (by decide) (inR_to _) b31) rfl ?_
                  refine Ru.op (q := (.aload_n 0, 1)) (S' := (120, _, _, _, _)) (by decide +kernel) rfl ?_
                  refine Ru.op (q := (.aload_n 0, 1)) (S' := (121, _, _, _, _)) (by decide +kernel) rfl ?_
                  refine Ru.getR (pc' := 124) (i := 78) (ci := 10) (k := 41) (nn := 0) (z := 0) (v := .ref 57) (by decide +kernel) (by decide +kernel) (hp36 _) (by decide) rfl rfl ?_
                  refine Ru.op (q := (.iload_n 3, 1)) (S' := (125, _, _, _, _)) (by decide +kernel) rfl ?_
                  refine Ru.kI (q := (.iconst 1, 1)) (c := 1) (pc' := 126) (by decide +kernel) rfl (by decide) rfl ?_
                  refine Ru.ar2 (i := .isub) (z := (v3 - 1)) (pc' := 127) (by decide +kernel) rfl (ar_sub _ _) rfl ?_
                  refine Ru.ildI (pc' := 128) (i := (v3 - 1)) (z := (S.A 57 (v3 - 1))) (by decide +kernel) (hp57 _) g25 (eI_of _) rfl ?_
                  refine Ru.op (q := (.aload_n 0, 1)) (S' := (129, _, _, _, _)) (by decide +kernel) rfl ?_
                  refine Ru.getI (pc' := 132) (i := 218) (ci := 10) (k := 42) (nn := 0) (z := 0) (x := (S.F 36 42)) (by decide +kernel) (by decide +kernel) (hp36 _) (by decide) rfl (eI_of _) rfl ?_
                  refine Ru.ar2 (i := .iadd) (z := ((S.A 57 (v3 - 1)) + (S.F 36 42))) (pc' := 133) (by decide +kernel) rfl (ar_add _ _) rfl ?_
                  refine Ru.putH (pc' := 136) (i := 218) (ci := 10) (k := 42) (nn := 0) (z := 0) (by decide +kernel) (by decide +kernel) (hp36 _) (by decide) (Nat.le_of_ble_eq_true rfl) rfl (by decide +kernel) (pf_36_42 _ _) rfl ?_
                  refine Ru.op (q := (.aload_n 0, 1)) (S' := (137, _, _, _, _)) (by decide +kernel) rfl ?_
                  refine Ru.op (q := (.aload_n 0, 1)) (S' := (138, _, _, _, _)) (by decide +kernel) rfl ?_
                  refine Ru.getI (pc' := 141) (i := 192) (ci := 10) (k := 36) (nn := 0) (z := 0) (x := (S.F 36 36)) (by decide +kernel) (by decide +kernel) (hp36 _) (by decide) rfl (eI_of _) rfl ?_
                  by_cases b35 : (S.F 36 36) = 0
                  · replace h := if_t b35 h
                    refine Ru.br (k := .ne) (off := 12) (bb := false) (tg := 144) (by decide +kernel) (by decide +kernel) (cz (ci_ne0 (inR_to _) (by decide) b35)) rfl ?_
                    refine Ru.op (q := (.aload_n 0, 1)) (S' := (145, _, _, _, _)) (by decide +kernel) rfl ?_
                    refine Ru.getI (pc' := 148) (i := 218) (ci := 10) (k := 42) (nn := 0) (z := 0) (x := ((S.A 57 (v3 - 1)) + (S.F 36 42))) (by decide +kernel) (by decide +kernel) (hp36 _) (by decide) rfl rfl rfl ?_
                    refine Ru.kI (q := (.bipush 16, 2)) (c := 16) (pc' := 150) (by decide +kernel) rfl (by decide) rfl ?_
                    obtain ⟨g36, h⟩ := gd_some h
                    by_cases b37 : 16 < ((S.A 57 (v3 - 1)) + (S.F 36 42))
                    · replace h := if_t b37 h
                      refine Ru.br2 (k := .le) (off := 7) (bb := false) (tg := 153) (by decide +kernel) (by decide +kernel) (ci_le0 g36 (by decide) b37) rfl ?_
                      refine Ru.kI (q := (.iconst 1, 1)) (c := 1) (pc' := 154) (by decide +kernel) rfl (by decide) rfl ?_
                      refine Ru.op (q := (.goto 4, 3)) (S' := (158, _, _, _, _)) (by decide +kernel) rfl ?_
                      refine Ru.putH (pc' := 161) (i := 192) (ci := 10) (k := 36) (nn := 0) (z := 0) (by decide +kernel) (by decide +kernel) (hp36 _) (by decide) (Nat.le_of_ble_eq_true rfl) (fk_b (by decide)) (by decide +kernel) (pf_36_36 _ _) rfl ?_
                      refine Ru.op (q := (.goto 41, 3)) (S' := (202, _, _, _, _)) (by decide +kernel) rfl ?_
                      refine Ru.inc (k := 3) (n := (-1)) (x := v3) (z := (v3 + (-1))) (xs' := [some (.ref 36), d1, d2, some (vI (v3 + (-1))), some (vI (S.A 54 (v3 - 1)))]) (pc' := 205) (by decide +kernel) rfl rfl (mn_st1_D (Nat.le_of_ble_eq_true rfl) hdd.2.1 rfl) rfl ?_
                      refine Ru.op (q := (.goto (-198), 3)) (S' := (7, _, _, _, _)) (by decide +kernel) rfl ?_
                      exact ih _ _ _ _ _ ⟨hdd.1, hdd.2.1, rfl, trivial⟩ _ h r hk hr
                    · replace h := if_f b37 h
                      refine Ru.br2 (k := .le) (off := 7) (bb := true) (tg := 157) (by decide +kernel) (by decide +kernel) (ci_le1 g36 (by decide) b37) rfl ?_
                      refine Ru.kI (q := (.iconst 0, 1)) (c := 0) (pc' := 158) (by decide +kernel) rfl (by decide) rfl ?_
                      refine Ru.putH (pc' := 161) (i := 192) (ci := 10) (k := 36) (nn := 0) (z := 0) (by decide +kernel) (by decide +kernel) (hp36 _) (by decide) (Nat.le_of_ble_eq_true rfl) (fk_b (by decide)) (by decide +kernel) (pf_36_36 _ _) rfl ?_
                      refine Ru.op (q := (.goto 41, 3)) (S' := (202, _, _, _, _)) (by decide +kernel) rfl ?_
                      refine Ru.inc (k := 3) (n := (-1)) (x := v3) (z := (v3 + (-1))) (xs' := [some (.ref 36), d1, d2, some (vI (v3 + (-1))), some (vI (S.A 54 (v3 - 1)))]) (pc' := 205) (by decide +kernel) rfl rfl (mn_st1_D (Nat.le_of_ble_eq_true rfl) hdd.2.1 rfl) rfl ?_
                      refine Ru.op (q := (.goto (-198), 3)) (S' := (7, _, _, _, _)) (by decide +kernel) rfl ?_
                      exact ih _ _ _ _ _ ⟨hdd.1, hdd.2.1, rfl, trivial⟩ _ h r hk hr
                  · replace h := if_f b35 h
                    refine Ru.br (k := .ne) (off := 12) (bb := true) (tg := 153) (by decide +kernel) (by decide +kernel) (cz (ci_ne1 (inR_to _) (by decide) b35)) rfl ?_
                    refine Ru.kI (q := (.iconst 1, 1)) (c := 1) (pc' := 154) (by decide +kernel) rfl (by decide) rfl ?_
                    refine Ru.op (q := (.goto 4, 3)) (S' := (158, _, _, _, _)) (by decide +kernel) rfl ?_
                    refine Ru.putH (pc' := 161) (i := 192) (ci := 10) (k := 36) (nn := 0) (z := 0) (by decide +kernel) (by decide +kernel) (hp36 _) (by decide) (Nat.le_of_ble_eq_true rfl) (fk_b (by decide)) (by decide +kernel) (pf_36_36 _ _) rfl ?_
                    refine Ru.op (q := (.goto 41, 3)) (S' := (202, _, _, _, _)) (by decide +kernel) rfl ?_
                    refine Ru.inc (k := 3) (n := (-1)) (x := v3) (z := (v3 + (-1))) (xs' := [some (.ref 36), d1, d2, some (vI (v3 + (-1))), some (vI (S.A 54 (v3 - 1)))]) (pc' := 205) (by decide +kernel) rfl rfl (mn_st1_D (Nat.le_of_ble_eq_true rfl) hdd.2.1 rfl) rfl ?_
                    refine Ru.op (q := (.goto (-198), 3)) (S' := (7, _, _, _, _)) (by decide +kernel) rfl ?_
                    exact ih _ _ _ _ _ ⟨hdd.1, hdd.2.1, rfl, trivial⟩ _ h r hk hr
              · replace h := if_f b30 h
                refine Ru.br2 (k := .ne) (off := 7) (bb := true) (tg := 107) (by decide +kernel) (by decide +kernel) (ci_ne1 (inR_to _) (by decide) b30) rfl ?_
                refine Ru.kI (q := (.iconst 0, 1)) (c := 0) (pc' := 108) (by decide +kernel) rfl (by decide) rfl ?_
                refine Ru.op (q := (.aload_n 0, 1)) (S' := (109, _, _, _, _)) (by decide +kernel) rfl ?_
                refine Ru.getR (pc' := 112) (i := 72) (ci := 10) (k := 39) (nn := 0) (z := 0) (v := .ref 55) (by decide +kernel) (by decide +kernel) (hp36 _) (by decide) rfl rfl ?_
                refine Ru.op (q := (.iload_n 3, 1)) (S' := (113, _, _, _, _)) (by decide +kernel) rfl ?_
                refine Ru.kI (q := (.iconst 1, 1)) (c := 1) (pc' := 114) (by decide +kernel) rfl (by decide) rfl ?_
                refine Ru.ar2 (i := .isub) (z := (v3 - 1)) (pc' := 115) (by decide +kernel) rfl (ar_sub _ _) rfl ?_
                refine Ru.bldI (pc' := 116) (i := (v3 - 1)) (z := (S.A 55 (v3 - 1))) (by decide +kernel) (hp55 _) g25 (eI_of _) rfl ?_
                by_cases b38 : 0 = (S.A 55 (v3 - 1))
                · replace h := if_t b38 h
                  refine Ru.br2 (k := .eq) (off := 48) (bb := true) (tg := 164) (by decide +kernel) (by decide +kernel) (ci_eq1 (by decide) (inR_to _) b38) rfl ?_
                  refine Ru.op (q := (.iload 4, 2)) (S' := (166, _, _, _, _)) (by decide +kernel) rfl ?_
                  refine Ru.kI (q := (.bipush 126, 2)) (c := 126) (pc' := 168) (by decide +kernel) rfl (by decide) rfl ?_
                  refine Ru.br2 (k := .eq) (off := 34) (bb := false) (tg := 171) (by decide +kernel) (by decide +kernel) (ci_eq0 (inR_to _) (by decide) b28) rfl ?_
                  refine Ru.op (q := (.aload_n 0, 1)) (S' := (172, _, _, _, _)) (by decide +kernel) rfl ?_
                  refine Ru.op (q := (.aload_n 0, 1)) (S' := (173, _, _, _, _)) (by decide +kernel) rfl ?_
                  refine Ru.getI (pc' := 176) (i := 192) (ci := 10) (k := 36) (nn := 0) (z := 0) (x := (S.F 36 36)) (by decide +kernel) (by decide +kernel) (hp36 _) (by decide) rfl (eI_of _) rfl ?_
                  by_cases b39 : (S.F 36 36) = 0
                  · replace h := if_t b39 h
                    refine Ru.br (k := .eq) (off := 7) (bb := true) (tg := 183) (by decide +kernel) (by decide +kernel) (cz (ci_eq1 (inR_to _) (by decide) b39)) rfl ?_
                    refine Ru.op (q := (.aload_n 0, 1)) (S' := (184, _, _, _, _)) (by decide +kernel) rfl ?_
                    refine Ru.op (q := (.aload_n 0, 1)) (S' := (185, _, _, _, _)) (by decide +kernel) rfl ?_
                    refine Ru.getR (pc' := 188) (i := 78) (ci := 10) (k := 41) (nn := 0) (z := 0) (v := .ref 57) (by decide +kernel) (by decide +kernel) (hp36 _) (by decide) rfl rfl ?_
                    refine Ru.op (q := (.iload_n 3, 1)) (S' := (189, _, _, _, _)) (by decide +kernel) rfl ?_
                    refine Ru.kI (q := (.iconst 1, 1)) (c := 1) (pc' := 190) (by decide +kernel) rfl (by decide) rfl ?_
                    refine Ru.ar2 (i := .isub) (z := (v3 - 1)) (pc' := 191) (by decide +kernel) rfl (ar_sub _ _) rfl ?_
                    refine Ru.ildI (pc' := 192) (i := (v3 - 1)) (z := (S.A 57 (v3 - 1))) (by decide +kernel) (hp57 _) g25 (eI_of _) rfl ?_
                    refine Ru.op (q := (.aload_n 0, 1)) (S' := (193, _, _, _, _)) (by decide +kernel) rfl ?_
                    refine Ru.getI (pc' := 196) (i := 218) (ci := 10) (k := 42) (nn := 0) (z := 0) (x := (S.F 36 42)) (by decide +kernel) (by decide +kernel) (hp36 _) (by decide) rfl (eI_of _) rfl ?_
                    obtain ⟨o40, e41, h⟩ := ob_some h
                    refine Ru.vcallI (pc' := 199) (st' := [vI o40.1, .ref 36]) (i := 227) (j2 := 114) (ci := 10) (k := 0) (z := 0) (as := [vI (S.A 57 (v3 - 1)), vI (S.F 36 42)]) (by decide +kernel) (by decide +kernel) rfl rfl (hp36 _) (by decide) ⟨(Nat.le_of_ble_eq_true rfl), (by show 19 + 9 ≤ 228; exact Nat.le_of_ble_eq_true rfl), Nat.le_of_ble_eq_true rfl, Nat.le_of_ble_eq_true rfl⟩ ((g114_ok e41).up (Nat.le_of_ble_eq_true rfl) (Nat.le_of_ble_eq_true rfl)) rfl rfl ?_
                    refine Ru.putH (pc' := 202) (i := 218) (ci := 10) (k := 42) (nn := 0) (z := 0) (by decide +kernel) (by decide +kernel) (hp36 _) (by decide) (Nat.le_of_ble_eq_true rfl) rfl (by decide +kernel) (pf_36_42 _ _) rfl ?_
                    refine Ru.inc (k := 3) (n := (-1)) (x := v3) (z := (v3 + (-1))) (xs' := [some (.ref 36), d1, d2, some (vI (v3 + (-1))), some (vI (S.A 54 (v3 - 1)))]) (pc' := 205) (by decide +kernel) rfl rfl (mn_st1_D (Nat.le_of_ble_eq_true rfl) hdd.2.1 rfl) rfl ?_
                    refine Ru.op (q := (.goto (-198), 3)) (S' := (7, _, _, _, _)) (by decide +kernel) rfl ?_
                    exact ih _ _ _ _ _ ⟨hdd.1, hdd.2.1, rfl, trivial⟩ _ h r hk hr
                  · replace h := if_f b39 h
                    refine Ru.br (k := .eq) (off := 7) (bb := false) (tg := 179) (by decide +kernel) (by decide +kernel) (cz (ci_eq0 (inR_to _) (by decide) b39)) rfl ?_
                    refine Ru.kI (q := (.iconst 0, 1)) (c := 0) (pc' := 180) (by decide +kernel) rfl (by decide) rfl ?_
                    refine Ru.op (q := (.goto 19, 3)) (S' := (199, _, _, _, _)) (by decide +kernel) rfl ?_
                    refine Ru.putH (pc' := 202) (i := 218) (ci := 10) (k := 42) (nn := 0) (z := 0) (by decide +kernel) (by decide +kernel) (hp36 _) (by decide) (Nat.le_of_ble_eq_true rfl) rfl (by decide +kernel) (pf_36_42 _ _) rfl ?_
                    refine Ru.inc (k := 3) (n := (-1)) (x := v3) (z := (v3 + (-1))) (xs' := [some (.ref 36), d1, d2, some (vI (v3 + (-1))), some (vI (S.A 54 (v3 - 1)))]) (pc' := 205) (by decide +kernel) rfl rfl (mn_st1_D (Nat.le_of_ble_eq_true rfl) hdd.2.1 rfl) rfl ?_
                    refine Ru.op (q := (.goto (-198), 3)) (S' := (7, _, _, _, _)) (by decide +kernel) rfl ?_
                    exact ih _ _ _ _ _ ⟨hdd.1, hdd.2.1, rfl, trivial⟩ _ h r hk hr
                · replace h := if_f b38 h
                  refine Ru.br2 (k := .eq) (off := 48) (bb := false) (tg := 119) (by decide +kernel) (by decide +kernel) (ci_eq0 (by decide) (inR_to _) b38) rfl ?_
                  refine Ru.op (q := (.aload_n 0, 1)) (S' := (120, _, _, _, _)) (by decide +kernel) rfl ?_
                  refine Ru.op (q := (.aload_n 0, 1)) (S' := (121, _, _, _, _)) (by decide +kernel) rfl ?_
                  refine Ru.getR (pc' := 124) (i := 78) (ci := 10) (k := 41) (nn := 0) (z := 0) (v := .ref 57) (by decide +kernel) (by decide +kernel) (hp36 _) (by decide) rfl rfl ?_
                  refine Ru.op (q := (.iload_n 3, 1)) (S' := (125, _, _, _, _)) (by decide +kernel) rfl ?_
                  refine Ru.kI (q := (.iconst 1, 1)) (c := 1) (pc' := 126) (by decide +kernel) rfl (by decide) rfl ?_
                  refine Ru.ar2 (i := .isub) (z := (v3 - 1)) (pc' := 127) (by decide +kernel) rfl (ar_sub _ _) rfl ?_
                  refine Ru.ildI (pc' := 128) (i := (v3 - 1)) (z := (S.A 57 (v3 - 1))) (by decide +kernel) (hp57 _) g25 (eI_of _) rfl ?_
                  refine Ru.op (q := (.aload_n 0, 1)) (S' := (129, _, _, _, _)) (by decide +kernel) rfl ?_
                  refine Ru.getI (pc' := 132) (i := 218) (ci := 10) (k := 42) (nn := 0) (z := 0) (x := (S.F 36 42)) (by decide +kernel) (by decide +kernel) (hp36 _) (by decide) rfl (eI_of _) rfl ?_
                  refine Ru.ar2 (i := .iadd) (z := ((S.A 57 (v3 - 1)) + (S.F 36 42))) (pc' := 133) (by decide +kernel) rfl (ar_add _ _) rfl ?_
                  refine Ru.putH (pc' := 136) (i := 218) (ci := 10) (k := 42) (nn := 0) (z := 0) (by decide +kernel) (by decide +kernel) (hp36 _) (by decide) (Nat.le_of_ble_eq_true rfl) rfl (by decide +kernel) (pf_36_42 _ _) rfl ?_
                  refine Ru.op (q := (.aload_n 0, 1)) (S' := (137, _, _, _, _)) (by decide +kernel) rfl ?_
                  refine Ru.op (q := (.aload_n 0, 1)) (S' := (138, _, _, _, _)) (by decide +kernel) rfl ?_
                  refine Ru.getI (pc' := 141) (i := 192) (ci := 10) (k := 36) (nn := 0) (z := 0) (x := (S.F 36 36)) (by decide +kernel) (by decide +kernel) (hp36 _) (by decide) rfl (eI_of _) rfl ?_
                  by_cases b42 : (S.F 36 36) = 0
                  · replace h := if_t b42 h
                    refine Ru.br (k := .ne) (off := 12) (bb := false) (tg := 144) (by decide +kernel) (by decide +kernel) (cz (ci_ne0 (inR_to _) (by decide) b42)) rfl ?_
                    refine Ru.op (q := (.aload_n 0, 1)) (S' := (145, _, _, _, _)) (by decide +kernel) rfl ?_
                    refine Ru.getI (pc' := 148) (i := 218) (ci := 10) (k := 42) (nn := 0) (z := 0) (x := ((S.A 57 (v3 - 1)) + (S.F 36 42))) (by decide +kernel) (by decide +kernel) (hp36 _) (by decide) rfl rfl rfl ?_
                    refine Ru.kI (q := (.bipush 16, 2)) (c := 16) (pc' := 150) (by decide +kernel) rfl (by decide) rfl ?_
                    obtain ⟨g43, h⟩ := gd_some h
                    by_cases b44 : 16 < ((S.A 57 (v3 - 1)) + (S.F 36 42))
                    · replace h := if_t b44 h
                      refine Ru.br2 (k := .le) (off := 7) (bb := false) (tg := 153) (by decide +kernel) (by decide +kernel) (ci_le0 g43 (by decide) b44) rfl ?_
                      refine Ru.kI (q := (.iconst 1, 1)) (c := 1) (pc' := 154) (by decide +kernel) rfl (by decide) rfl ?_
                      refine Ru.op (q := (.goto 4, 3)) (S' := (158, _, _, _, _)) (by decide +kernel) rfl ?_
                      refine Ru.putH (pc' := 161) (i := 192) (ci := 10) (k := 36) (nn := 0) (z := 0) (by decide +kernel) (by decide +kernel) (hp36 _) (by decide) (Nat.le_of_ble_eq_true rfl) (fk_b (by decide)) (by decide +kernel) (pf_36_36 _ _) rfl ?_
                      refine Ru.op (q := (.goto 41, 3)) (S' := (202, _, _, _, _)) (by decide +kernel) rfl ?_
                      refine Ru.inc (k := 3) (n := (-1)) (x := v3) (z := (v3 + (-1))) (xs' := [some (.ref 36), d1, d2, some (vI (v3 + (-1))), some (vI (S.A 54 (v3 - 1)))]) (pc' := 205) (by decide +kernel) rfl rfl (mn_st1_D (Nat.le_of_ble_eq_true rfl) hdd.2.1 rfl) rfl ?_
                      refine Ru.op (q := (.goto (-198), 3)) (S' := (7, _, _, _, _)) (by decide +kernel) rfl ?_
                      exact ih _ _ _ _ _ ⟨hdd.1, hdd.2.1, rfl, trivial⟩ _ h r hk hr
                    · replace h := if_f b44 h
                      refine Ru.br2 (k := .le) (off := 7) (bb := true) (tg := 157) (by decide +kernel) (by decide +kernel) (ci_le1 g43 (by decide) b44) rfl ?_
                      refine Ru.kI (q := (.iconst 0, 1)) (c := 0) (pc' := 158) (by decide +kernel) rfl (by decide) rfl ?_
                      refine Ru.putH (pc' := 161) (i := 192) (ci := 10) (k := 36) (nn := 0) (z := 0) (by decide +kernel) (by decide +kernel) (hp36 _) (by decide) (Nat.le_of_ble_eq_true rfl) (fk_b (by decide)) (by decide +kernel) (pf_36_36 _ _) rfl ?_
                      refine Ru.op (q := (.goto 41, 3)) (S' := (202, _, _, _, _)) (by decide +kernel) rfl ?_
                      refine Ru.inc (k := 3) (n := (-1)) (x := v3) (z := (v3 + (-1))) (xs' := [some (.ref 36), d1, d2, some (vI (v3 + (-1))), some (vI (S.A 54 (v3 - 1)))]) (pc' := 205) (by decide +kernel) rfl rfl (mn_st1_D (Nat.le_of_ble_eq_true rfl) hdd.2.1 rfl) rfl ?_
                      refine Ru.op (q := (.goto (-198), 3)) (S' := (7, _, _, _, _)) (by decide +kernel) rfl ?_
                      exact ih _ _ _ _ _ ⟨hdd.1, hdd.2.1, rfl, trivial⟩ _ h r hk hr
                  · replace h := if_f b42 h
                    refine Ru.br (k := .ne) (off := 12) (bb := true) (tg := 153) (by decide +kernel) (by decide +kernel) (cz (ci_ne1 (inR_to _) (by decide) b42)) rfl ?_
                    refine Ru.kI (q := (.iconst 1, 1)) (c := 1) (pc' := 154) (by decide +kernel) rfl (by decide) rfl ?_
                    refine Ru.op (q := (.goto 4, 3)) (S' := (158, _, _, _, _)) (by decide +kernel) rfl ?_
                    refine Ru.putH (pc' := 161) (i := 192) (ci := 10) (k := 36) (nn := 0) (z := 0) (by decide +kernel) (by decide +kernel) (hp36 _) (by decide) (Nat.le_of_ble_eq_true rfl) (fk_b (by decide)) (by decide +kernel) (pf_36_36 _ _) rfl ?_
                    refine Ru.op (q := (.goto 41, 3)) (S' := (202, _, _, _, _)) (by decide +kernel) rfl ?_
                    refine Ru.inc (k := 3) (n := (-1)) (x := v3) (z := (v3 + (-1))) (xs' := [some (.ref 36), d1, d2, some (vI (v3 + (-1))), some (vI (S.A 54 (v3 - 1)))]) (pc' := 205) (by decide +kernel) rfl rfl (mn_st1_D (Nat.le_of_ble_eq_true rfl) hdd.2.1 rfl) rfl ?_
                    refine Ru.op (q := (.goto (-198), 3)) (S' := (7, _, _, _, _)) (by decide +kernel) rfl ?_
                    exact ih _ _ _ _ _ ⟨hdd.1, hdd.2.1, rfl, trivial⟩ _ h r hk hr
    · replace h := if_f b24 h
      refine Ru.br (k := .le) (off := 200) (bb := true) (tg := 208) (by decide +kernel) (by decide +kernel) (cz (ci_le1 g23 (by decide) b24)) rfl ?_
      cases h
      exact hk _ rfl _ _ _ _ ⟨rfl, hdd.1, hdd.2.1, hdd.2.2.1, trivial⟩
set_option maxRecDepth 100000 in
set_option maxHeartbeats 4000000 in
theorem g113_ok {S : St} {v1 : Int} {v2 : Int} {o : Int × St} (h : g113 S v1 v2 = some o) : Ru none 11 228 113 (0, mn_pad (mn_ent [.ref 36, vI v1, vI v2]) 5, [], S.ns, Hp S) ((0, some (vI o.1)), o.2.ns, Hp o.2) := by
  unfold g113 at h
  show Ru none 11 228 113 (0, [some (.ref 36), some (vI v1), some (vI v2), none, none], [], S.ns, Hp S) _
  refine Ru.op (q := (.iload_n 1, 1)) (S' := (1, _, _, _, _)) (by decide +kernel) rfl ?_
  refine Ru.op (q := (.istore_n 3, 1)) (S' := (2, [some (.ref 36), some (vI v1), some (vI v2), some (vI v1), none], [], _, _)) (by decide +kernel) rfl ?_
  refine Ru.op (q := (.aload_n 0, 1)) (S' := (3, _, _, _, _)) (by decide +kernel) rfl ?_
  refine Ru.op (q := (.iload_n 2, 1)) (S' := (4, _, _, _, _)) (by decide +kernel) rfl ?_
  refine Ru.putH (pc' := 7) (i := 218) (ci := 10) (k := 42) (nn := 0) (z := 0) (by decide +kernel) (by decide +kernel) (hp36 _) (by decide) (Nat.le_of_ble_eq_true rfl) rfl (by decide +kernel) (pf_36_42 _ _) rfl ?_
  rcases obr_some h with ⟨o45, e50, h⟩ | e50
  · refine g113L7_ok FU _ _ _ _ _ ⟨rfl, rfl, rfl, trivial⟩ _ e50 _ (fun o' e' => ?_) (fun o' e' => by cases e')
    cases e'
    intro d46 d47 d48 d49 hd51
    refine Ru.op (q := (.iload_n 3, 1)) (S' := (209, _, _, _, _)) (by decide +kernel) rfl ?_
    cases h
    exact Ru.iret (by decide +kernel) rfl rfl
  · exact g113L7_ok FU _ _ _ _ _ ⟨rfl, rfl, rfl, trivial⟩ _ e50 _ (fun o' e' => by cases e') (fun o' e' => by cases e'; rfl)
