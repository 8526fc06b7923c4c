set_option maxRecDepth 100000 in
set_option maxHeartbeats 4000000 in
theorem g101L10_ok : ∀ (n : Nat) (v2 : Int) (v3 : Int) (v4 : Int) (v5 : Int) (S : St) (d1 d6 : Option Value) (_ : DD [d1, d6]) (out : Int × St), g101L10 n v2 v3 v4 v5 S = some out → ∀ r, (∀ (e0 e1 e2 e3 e5 e6 : Option Value), DD [e0, e1, e2, e3, e5, e6] → Ru none 17 353 101 (268, [e0, e1, e2, e3, some (vI out.1), e5, e6], [], out.2.ns, Hp out.2) r) → Ru none 17 353 101 (10, [some (.ref 36), d1, some (vI v2), some (vI v3), some (vI v4), some (vI v5), d6], [], S.ns, Hp S) r := by
  intro n
  induction n with
  | zero => intro v2 v3 v4 v5 S d1 d6 hdd out h; cases h
  | succ n ih =>
    intro v2 v3 v4 v5 S d1 d6 hdd out h r hk
    unfold g101L10 at h
    refine Ru.op (q := (.iload 5, 2)) (S' := (12, _, _, _, _)) (by decide +kernel) rfl ?_
    obtain ⟨g1, h⟩ := gd_some h
    by_cases b2 : v5 = 0
    · replace h := if_t b2 h
      refine Ru.br (k := .eq) (off := 256) (bb := true) (tg := 268) (by decide +kernel) (by decide +kernel) (cz (ci_eq1 g1 (by decide) b2)) rfl ?_
      cases h
      exact hk _ _ _ _ _ _ ⟨rfl, hdd.1, rfl, rfl, rfl, hdd.2.1, trivial⟩
    · replace h := if_f b2 h
      refine Ru.br (k := .eq) (off := 256) (bb := false) (tg := 15) (by decide +kernel) (by decide +kernel) (cz (ci_eq0 g1 (by decide) b2)) rfl ?_
      refine Ru.op (q := (.aload_n 0, 1)) (S' := (16, _, _, _, _)) (by decide +kernel) rfl ?_
      refine Ru.getI (pc' := 19) (i := 151) (ci := 10) (k := 28) (nn := 0) (z := 0) (x := (S.F 36 28)) (by decide +kernel) (by decide +kernel) (hp36 _) (by decide) rfl (eI_of _) rfl ?_
      by_cases b3 : (S.F 36 28) = 0
      · replace h := if_t b3 h
        refine Ru.br (k := .ne) (off := 249) (bb := false) (tg := 22) (by decide +kernel) (by decide +kernel) (cz (ci_ne0 (inR_to _) (by decide) b3)) rfl ?_
        refine Ru.op (q := (.aload_n 0, 1)) (S' := (23, _, _, _, _)) (by decide +kernel) rfl ?_
        obtain ⟨o4, e5, h⟩ := ob_some h
        refine Ru.vcallI (pc' := 26) (st' := [vI o4]) (i := 143) (j2 := 102) (ci := 10) (k := 0) (z := 0) (as := []) (by decide +kernel) (by decide +kernel) rfl rfl (hp36 _) (by decide) ⟨(Nat.le_of_ble_eq_true rfl), (by show 19 + 1 ≤ 353; exact Nat.le_of_ble_eq_true rfl), Nat.le_of_ble_eq_true rfl, Nat.le_of_ble_eq_true rfl⟩ ((g102_ok e5).up (Nat.le_of_ble_eq_true rfl) (Nat.le_of_ble_eq_true rfl)) rfl rfl ?_
        refine Ru.op (q := (.istore 6, 2)) (S' := (28, [some (.ref 36), d1, some (vI v2), some (vI v3), some (vI v4), some (vI v5), some (vI o4)], [], _, _)) (by decide +kernel) rfl ?_
        refine Ru.op (q := (.iload 6, 2)) (S' := (30, _, _, _, _)) (by decide +kernel) rfl ?_
        refine Ru.kI (q := (.bipush 65, 2)) (c := 65) (pc' := 32) (by decide +kernel) rfl (by decide) rfl ?_
        obtain ⟨g6, h⟩ := gd_some h
        by_cases b7 : o4 < 65
        · replace h := if_t b7 h
          refine Ru.br2 (k := .lt) (off := 95) (bb := true) (tg := 127) (by decide +kernel) (by decide +kernel) (ci_lt1 g6 (by decide) b7) rfl ?_
          refine Ru.op (q := (.aload_n 0, 1)) (S' := (128, _, _, _, _)) (by decide +kernel) rfl ?_
          refine Ru.op (q := (.iload 6, 2)) (S' := (130, _, _, _, _)) (by decide +kernel) rfl ?_
          obtain ⟨o8, e9, h⟩ := ob_some h
          refine Ru.vcallI (pc' := 133) (st' := [vI o8]) (i := 221) (j2 := 115) (ci := 10) (k := 0) (z := 0) (as := [vI o4]) (by decide +kernel) (by decide +kernel) rfl rfl (hp36 _) (by decide) ⟨(Nat.le_of_ble_eq_true rfl), (by show 19 + 2 ≤ 353; exact Nat.le_of_ble_eq_true rfl), Nat.le_of_ble_eq_true rfl, Nat.le_of_ble_eq_true rfl⟩ ((g115_ok e9).up (Nat.le_of_ble_eq_true rfl) (Nat.le_of_ble_eq_true rfl)) rfl rfl ?_
          obtain ⟨g10, h⟩ := gd_some h
          by_cases b11 : o8 = 0
          · replace h := if_t b11 h
            refine Ru.br (k := .eq) (off := 127) (bb := true) (tg := 260) (by decide +kernel) (by decide +kernel) (cz (ci_eq1 g10 (by decide) b11)) rfl ?_
            refine Ru.op (q := (.aload_n 0, 1)) (S' := (261, _, _, _, _)) (by decide +kernel) rfl ?_
            refine Ru.kI (q := (.iconst 1, 1)) (c := 1) (pc' := 262) (by decide +kernel) rfl (by decide) rfl ?_
            refine Ru.putH (pc' := 265) (i := 151) (ci := 10) (k := 28) (nn := 0) (z := 0) (by decide +kernel) (by decide +kernel) (hp36 _) (by decide) (Nat.le_of_ble_eq_true rfl) (fk_b (by decide)) (by decide +kernel) (pf_36_28 _ _) rfl ?_
            refine Ru.op (q := (.goto (-255), 3)) (S' := (10, _, _, _, _)) (by decide +kernel) rfl ?_
            exact ih _ _ _ _ _ _ _ ⟨hdd.1, rfl, trivial⟩ _ h r hk
          · replace h := if_f b11 h
            refine Ru.br (k := .eq) (off := 127) (bb := false) (tg := 136) (by decide +kernel) (by decide +kernel) (cz (ci_eq0 g10 (by decide) b11)) rfl ?_
            refine Ru.op (q := (.iload_n 3, 1)) (S' := (137, _, _, _, _)) (by decide +kernel) rfl ?_
            refine Ru.kI (q := (.bipush 10, 2)) (c := 10) (pc' := 139) (by decide +kernel) rfl (by decide) rfl ?_
            obtain ⟨g12, h⟩ := gd_some h
            by_cases b13 : v3 < 10
            · replace h := if_t b13 h
              refine Ru.br2 (k := .ge) (off := 121) (bb := false) (tg := 142) (by decide +kernel) (by decide +kernel) (ci_ge0 g12 (by decide) b13) rfl ?_
              refine Ru.op (q := (.aload_n 0, 1)) (S' := (143, _, _, _, _)) (by decide +kernel) rfl ?_
              refine Ru.op (q := (.dup, 1)) (S' := (144, _, _, _, _)) (by decide +kernel) rfl ?_
              refine Ru.getI (pc' := 147) (i := 140) (ci := 10) (k := 27) (nn := 0) (z := 0) (x := (S.F 36 27)) (by decide +kernel) (by decide +kernel) (hp36 _) (by decide) rfl (eI_of _) rfl ?_
              refine Ru.kI (q := (.iconst 1, 1)) (c := 1) (pc' := 148) (by decide +kernel) rfl (by decide) rfl ?_
              refine Ru.ar2 (i := .iadd) (z := ((S.F 36 27) + 1)) (pc' := 149) (by decide +kernel) rfl (ar_add _ _) rfl ?_
              refine Ru.putH (pc' := 152) (i := 140) (ci := 10) (k := 27) (nn := 0) (z := 0) (by decide +kernel) (by decide +kernel) (hp36 _) (by decide) (Nat.le_of_ble_eq_true rfl) rfl (by decide +kernel) (pf_36_27 _ _) rfl ?_
              refine Ru.op (q := (.aload_n 0, 1)) (S' := (153, _, _, _, _)) (by decide +kernel) rfl ?_
              refine Ru.getR (pc' := 156) (i := 69) (ci := 10) (k := 38) (nn := 0) (z := 0) (v := .ref 54) (by decide +kernel) (by decide +kernel) (hp36 _) (by decide) rfl rfl ?_
              refine Ru.op (q := (.iload_n 3, 1)) (S' := (157, _, _, _, _)) (by decide +kernel) rfl ?_
              refine Ru.op (q := (.iload 6, 2)) (S' := (159, _, _, _, _)) (by decide +kernel) rfl ?_
              obtain ⟨g14, h⟩ := gd_some h
              refine Ru.istI (pc' := 160) (i := v3) (x := o4) (by decide +kernel) (hp54 _) g14 (ps_54 _ _ _) rfl ?_
              refine Ru.op (q := (.aload_n 0, 1)) (S' := (161, _, _, _, _)) (by decide +kernel) rfl ?_
              refine Ru.getR (pc' := 164) (i := 72) (ci := 10) (k := 39) (nn := 0) (z := 0) (v := .ref 55) (by decide +kernel) (by decide +kernel) (hp36 _) (by decide) rfl rfl ?_
              refine Ru.op (q := (.iload_n 3, 1)) (S' := (165, _, _, _, _)) (by decide +kernel) rfl ?_
              refine Ru.op (q := (.iload_n 2, 1)) (S' := (166, _, _, _, _)) (by decide +kernel) rfl ?_
              obtain ⟨g15, h⟩ := gd_some h
              refine Ru.bstI (pc' := 167) (i := v3) (x := v2) (by decide +kernel) (hp55 _) g14 g15 (ps_55 _ _ _) rfl ?_
              refine Ru.op (q := (.aload_n 0, 1)) (S' := (168, _, _, _, _)) (by decide +kernel) rfl ?_
              refine Ru.getR (pc' := 171) (i := 75) (ci := 10) (k := 40) (nn := 0) (z := 0) (v := .ref 56) (by decide +kernel) (by decide +kernel) (hp36 _) (by decide) rfl rfl ?_
              refine Ru.op (q := (.iload_n 3, 1)) (S' := (172, _, _, _, _)) (by decide +kernel) rfl ?_
              refine Ru.kI (q := (.iconst 0, 1)) (c := 0) (pc' := 173) (by decide +kernel) rfl (by decide) rfl ?_
              refine Ru.bstI (pc' := 174) (i := v3) (x := 0) (by decide +kernel) (hp56 _) g14 (by decide) (ps_56 _ _ _) rfl ?_
              refine Ru.inc (k := 3) (n := 1) (x := v3) (z := (v3 + 1)) (xs' := [some (.ref 36), d1, some (vI v2), some (vI (v3 + 1)), some (vI v4), some (vI v5), some (vI o4)]) (pc' := 177) (by decide +kernel) rfl rfl rfl rfl ?_
              refine Ru.op (q := (.iload 6, 2)) (S' := (179, _, _, _, _)) (by decide +kernel) rfl ?_
              refine Ru.kI (q := (.bipush 33, 2)) (c := 33) (pc' := 181) (by decide +kernel) rfl (by decide) rfl ?_
              by_cases b16 : o4 = 33
              · replace h := if_t b16 h
                refine Ru.br2 (k := .eq) (off := 10) (bb := true) (tg := 191) (by decide +kernel) (by decide +kernel) (ci_eq1 g6 (by decide) b16) rfl ?_
                refine Ru.op (q := (.aload_n 0, 1)) (S' := (192, _, _, _, _)) (by decide +kernel) rfl ?_
                refine Ru.op (q := (.iload 6, 2)) (S' := (194, _, _, _, _)) (by decide +kernel) rfl ?_
                refine Ru.kI (q := (.bipush 33, 2)) (c := 33) (pc' := 196) (by decide +kernel) rfl (by decide) rfl ?_
                refine Ru.br2 (k := .ne) (off := 7) (bb := false) (tg := 199) (by decide +kernel) (by decide +kernel) (ci_ne0 g6 (by decide) b16) rfl ?_
                refine Ru.kI (q := (.iconst 1, 1)) (c := 1) (pc' := 200) (by decide +kernel) rfl (by decide) rfl ?_
                refine Ru.op (q := (.goto 4, 3)) (S' := (204, _, _, _, _)) (by decide +kernel) rfl ?_
                refine Ru.op (q := (.iload_n 2, 1)) (S' := (205, _, _, _, _)) (by decide +kernel) rfl ?_
                obtain ⟨g17, h⟩ := gd_some h
                by_cases b18 : 1 = v2
                · replace h := if_t b18 h
                  refine Ru.br2 (k := .eq) (off := 7) (bb := true) (tg := 212) (by decide +kernel) (by decide +kernel) (ci_eq1 (by decide) g17 b18) rfl ?_
                  refine Ru.kI (q := (.iconst 0, 1)) (c := 0) (pc' := 213) (by decide +kernel) rfl (by decide) rfl ?_
                  obtain ⟨o19, e20, h⟩ := ob_some h
                  refine Ru.vcallI (pc' := 216) (st' := []) (i := 224) (j2 := 116) (ci := 10) (k := 0) (z := 0) (as := [vI 0]) (by decide +kernel) (by decide +kernel) rfl rfl (hp36 _) (by decide) ⟨(Nat.le_of_ble_eq_true rfl), (by show 19 + 3 ≤ 353; exact Nat.le_of_ble_eq_true rfl), Nat.le_of_ble_eq_true rfl, Nat.le_of_ble_eq_true rfl⟩ ((g116_ok e20).up (Nat.le_of_ble_eq_true rfl) (Nat.le_of_ble_eq_true rfl)) rfl rfl ?_
                  refine Ru.op (q := (.iload 6, 2)) (S' := (218, _, _, _, _)) (by decide +kernel) rfl ?_
                  refine Ru.kI (q := (.bipush 126, 2)) (c := 126) (pc' := 220) (by decide +kernel) rfl (by decide) rfl ?_
                  by_cases b21 : o4 = 126
                  · replace h := if_t b21 h
                    refine Ru.br2 (k := .ne) (off := 15) (bb := false) (tg := 223) (by decide +kernel) (by decide +kernel) (ci_ne0 g6 (by decide) b21) rfl ?_
                    refine Ru.op (q := (.iload_n 2, 1)) (S' := (224, _, _, _, _)) (by decide +kernel) rfl ?_
                    by_cases b22 : v2 = 0
                    · replace h := if_t b22 h
                      refine Ru.br (k := .ne) (off := 7) (bb := false) (tg := 227) (by decide +kernel) (by decide +kernel) (cz (ci_ne0 g17 (by decide) b22)) rfl ?_
                      refine Ru.kI (q := (.iconst 1, 1)) (c := 1) (pc' := 228) (by decide +kernel) rfl (by decide) rfl ?_
                      refine Ru.op (q := (.goto 28, 3)) (S' := (256, _, _, _, _)) (by decide +kernel) rfl ?_
                      refine Ru.op (q := (.istore_n 2, 1)) (S' := (257, [some (.ref 36), d1, some (vI 1), some (vI (v3 + 1)), some (vI v4), some (vI v5), some (vI o4)], [], _, _)) (by decide +kernel) (st_in (mn_st1_D (Nat.le_of_ble_eq_true rfl) hdd.1 rfl)) ?_
                      refine Ru.op (q := (.goto 8, 3)) (S' := (265, _, _, _, _)) (by decide +kernel) rfl ?_
                      refine Ru.op (q := (.goto (-255), 3)) (S' := (10, _, _, _, _)) (by decide +kernel) rfl ?_
                      exact ih _ _ _ _ _ _ _ ⟨hdd.1, rfl, trivial⟩ _ h r hk
                    · replace h := if_f b22 h
                      refine Ru.br (k := .ne) (off := 7) (bb := true) (tg := 231) (by decide +kernel) (by decide +kernel) (cz (ci_ne1 g17 (by decide) b22)) rfl ?_
                      refine Ru.kI (q := (.iconst 0, 1)) (c := 0) (pc' := 232) (by decide +kernel) rfl (by decide) rfl ?_
                      refine Ru.op (q := (.goto 24, 3)) (S' := (256, _, _, _, _)) (by decide +kernel) rfl ?_
                      refine Ru.op (q := (.istore_n 2, 1)) (S' := (257, [some (.ref 36), d1, some (vI 0), some (vI (v3 + 1)), some (vI v4), some (vI v5), some (vI o4)], [], _, _)) (by decide +kernel) (st_in (mn_st1_D (Nat.le_of_ble_eq_true rfl) hdd.1 rfl)) ?_
                      refine Ru.op (q := (.goto 8, 3)) (S' := (265, _, _, _, _)) (by decide +kernel) rfl ?_
                      refine Ru.op (q := (.goto (-255), 3)) (S' := (10, _, _, _, _)) (by decide +kernel) rfl ?_
                      exact ih _ _ _ _ _ _ _ ⟨hdd.1, rfl, trivial⟩ _ h r hk
                  · replace h := if_f b21 h
                    refine Ru.br2 (k := .ne) (off := 15) (bb := true) (tg := 235) (by decide +kernel) (by decide +kernel) (ci_ne1 g6 (by decide) b21) rfl ?_
                    refine Ru.op (q := (.iload_n 2, 1)) (S' := (236, _, _, _, _)) (by decide +kernel) rfl ?_
                    refine Ru.op (q := (.iload 6, 2)) (S' := (238, _, _, _, _)) (by decide +kernel) rfl ?_
                    refine Ru.kI (q := (.bipush 62, 2)) (c := 62) (pc' := 240) (by decide +kernel) rfl (by decide) rfl ?_
                    by_cases b23 : o4 = 62
                    · replace h := if_t b23 h
                      refine Ru.br2 (k := .ne) (off := 7) (bb := false) (tg := 243) (by decide +kernel) (by decide +kernel) (ci_ne0 g6 (by decide) b23) rfl ?_
                      refine Ru.kI (q := (.iconst 1, 1)) (c := 1) (pc' := 244) (by decide +kernel) rfl (by decide) rfl ?_
                      refine Ru.op (q := (.goto 4, 3)) (S' := (248, _, _, _, _)) (by decide +kernel) rfl ?_
                      by_cases b24 : v2 = 1
                      · replace h := if_t b24 h
                        refine Ru.br2 (k := .eq) (off := 7) (bb := true) (tg := 255) (by decide +kernel) (by decide +kernel) (ci_eq1 g17 (by decide) b24) rfl ?_
                        refine Ru.kI (q := (.iconst 0, 1)) (c := 0) (pc' := 256) (by decide +kernel) rfl (by decide) rfl ?_
                        refine Ru.op (q := (.istore_n 2, 1)) (S' := (257, [some (.ref 36), d1, some (vI 0), some (vI (v3 + 1)), some (vI v4), some (vI v5), some (vI o4)], [], _, _)) (by decide +kernel) (st_in (mn_st1_D (Nat.le_of_ble_eq_true rfl) hdd.1 rfl)) ?_
                        refine Ru.op (q := (.goto 8, 3)) (S' := (265, _, _, _, _)) (by decide +kernel) rfl ?_
                        refine Ru.op (q := (.goto (-255), 3)) (S' := (10, _, _, _, _)) (by decide +kernel) rfl ?_
                        exact ih _ _ _ _ _ _ _ ⟨hdd.1, rfl, trivial⟩ _ h r hk
                      · replace h := if_f b24 h
                        refine Ru.br2 (k := .eq) (off := 7) (bb := false) (tg := 251) (by decide +kernel) (by decide +kernel) (ci_eq0 g17 (by decide) b24) rfl ?_
                        refine Ru.kI (q := (.iconst 1, 1)) (c := 1) (pc' := 252) (by decide +kernel) rfl (by decide) rfl ?_
                        refine Ru.op (q := (.goto 4, 3)) (S' := (256, _, _, _, _)) (by decide +kernel) rfl ?_
                        refine Ru.op (q := (.istore_n 2, 1)) (S' := (257, [some (.ref 36), d1, some (vI 1), some (vI (v3 + 1)), some (vI v4), some (vI v5), some (vI o4)], [], _, _)) (by decide +kernel) (st_in (mn_st1_D (Nat.le_of_ble_eq_true rfl) hdd.1 rfl)) ?_
                        refine Ru.op (q := (.goto 8, 3)) (S' := (265, _, _, _, _)) (by decide +kernel) rfl ?_
                        refine Ru.op (q := (.goto (-255), 3)) (S' := (10, _, _, _, _)) (by decide +kernel) rfl ?_
                        exact ih _ _ _ _ _ _ _ ⟨hdd.1, rfl, trivial⟩ _ h r hk
                    · replace h := if_f b23 h
                      refine Ru.br2 (k := .ne) (off := 7) (bb := true) (tg := 247) (by decide +kernel) (by decide +kernel) (ci_ne1 g6 (by decide) b23) rfl ?_
                      refine Ru.kI (q := (.iconst 0, 1)) (c := 0) (pc' := 248) (by decide +kernel) rfl (by decide) rfl ?_
                      by_cases b25 : v2 = 0
                      · replace h := if_t b25 h
                        refine Ru.br2 (k := .eq) (off := 7) (bb := true) (tg := 255) (by decide +kernel) (by decide +kernel) (ci_eq1 g17 (by decide) b25) rfl ?_
                        refine Ru.kI (q := (.iconst 0, 1)) (c := 0) (pc' := 256) (by decide +kernel) rfl (by decide) rfl ?_
                        refine Ru.op (q := (.istore_n 2, 1)) (S' := (257, [some (.ref 36), d1, some (vI 0), some (vI (v3 + 1)), some (vI v4), some (vI v5), some (vI o4)], [], _, _)) (by decide +kernel) (st_in (mn_st1_D (Nat.le_of_ble_eq_true rfl) hdd.1 rfl)) ?_
                        refine Ru.op (q := (.goto 8, 3)) (S' := (265, _, _, _, _)) (by decide +kernel) rfl ?_
                        refine Ru.op (q := (.goto (-255), 3)) (S' := (10, _, _, _, _)) (by decide +kernel) rfl ?_
                        exact ih _ _ _ _ _ _ _ ⟨hdd.1, rfl, trivial⟩ _ h r hk
                      · replace h := if_f b25 h
                        refine Ru.br2 (k := .eq) (off := 7) (bb := false) (tg := 251) (by decide +kernel) (by decide +kernel) (ci_eq0 g17 (by decide) b25) rfl ?_
                        refine Ru.kI (q := (.iconst 1, 1)) (c := 1) (pc' := 252) (by decide +kernel) rfl (by decide) rfl ?_
                        refine Ru.op (q := (.goto 4, 3)) (S' := (256, _, _, _, _)) (by decide +kernel) rfl ?_
                        refine Ru.op (q := (.istore_n 2, 1)) (S' := (257, [some (.ref 36), d1, some (vI 1), some (vI (v3 + 1)), some (vI v4), some (vI v5), some (vI o4)], [], _, _)) (by decide +kernel) (st_in (mn_st1_D (Nat.le_of_ble_eq_true rfl) hdd.1 rfl)) ?_
                        refine Ru.op (q := (.goto 8, 3)) (S' := (265, _, _, _, _)) (by decide +kernel) rfl ?_
                        refine Ru.op (q := (.goto (-255), 3)) (S' := (10, _, _, _, _)) (by decide +kernel) rfl ?_
                        exact ih _ _ _ _ _ _ _ ⟨hdd.1, rfl, trivial⟩ _ h r hk
                · replace h := if_f b18 h
                  refine Ru.br2 (k := .eq) (off := 7) (bb := false) (tg := 208) (by decide +kernel) (by decide +kernel) (ci_eq0 (by decide) g17 b18) rfl ?_
                  refine Ru.kI (q := (.iconst 1, 1)) (c := 1) (pc' := 209) (by decide +kernel) rfl (by decide) rfl ?_
                  refine Ru.op (q := (.goto 4, 3)) (S' := (213, _, _, _, _)) (by decide +kernel) rfl ?_
                  obtain ⟨o26, e27, h⟩ := ob_some h
                  refine Ru.vcallI (pc' := 216) (st' := []) (i := 224) (j2 := 116) (ci := 10) (k := 0) (z := 0) (as := [vI 1]) (by decide +kernel) (by decide +kernel) rfl rfl (hp36 _) (by decide) ⟨(Nat.le_of_ble_eq_true rfl), (by show 19 + 3 ≤ 353; exact Nat.le_of_ble_eq_true rfl), Nat.le_of_ble_eq_true rfl, Nat.le_of_ble_eq_true rfl⟩ ((g116_ok e27).up (Nat.le_of_ble_eq_true rfl) (Nat.le_of_ble_eq_true rfl)) rfl rfl ?_
                  refine Ru.op (q := (.iload 6, 2)) (S' := (218, _, _, _, _)) (by decide +kernel) rfl ?_
                  refine Ru.kI (q := (.bipush 126, 2)) (c := 126) (pc' := 220) (by decide +kernel) rfl (by decide) rfl ?_
                  by_cases b28 : o4 = 126
                  · replace h := if_t b28 h
                    refine Ru.br2 (k := .ne) (off := 15) (bb := false) (tg := 223) (by decide +kernel) (by decide +kernel) (ci_ne0 g6 (by decide) b28) rfl ?_
                    refine Ru.op (q := (.iload_n 2, 1)) (S' := (224, _, _, _, _)) (by decide +kernel) rfl ?_
                    by_cases b29 : v2 = 0
                    · replace h := if_t b29 h
                      refine Ru.br (k := .ne) (off := 7) (bb := false) (tg := 227) (by decide +kernel) (by decide +kernel) (cz (ci_ne0 g17 (by decide) b29)) rfl ?_
                      refine Ru.kI (q := (.iconst 1, 1)) (c := 1) (pc' := 228) (by decide +kernel) rfl (by decide) rfl ?_
                      refine Ru.op (q := (.goto 28, 3)) (S' := (256, _, _, _, _)) (by decide +kernel) rfl ?_
                      refine Ru.op (q := (.istore_n 2, 1)) (S' := (257, [some (.ref 36), d1, some (vI 1), some (vI (v3 + 1)), some (vI v4), some (vI v5), some (vI o4)], [], _, _)) (by decide +kernel) (st_in (mn_st1_D (Nat.le_of_ble_eq_true rfl) hdd.1 rfl)) ?_
                      refine Ru.op (q := (.goto 8, 3)) (S' := (265, _, _, _, _)) (by decide +kernel) rfl ?_
                      refine Ru.op (q := (.goto (-255), 3)) (S' := (10, _, _, _, _)) (by decide +kernel) rfl ?_
                      exact ih _ _ _ _ _ _ _ ⟨hdd.1, rfl, trivial⟩ _ h r hk
                    · replace h := if_f b29 h
                      refine Ru.br (k := .ne) (off := 7) (bb := true) (tg := 231) (by decide +kernel) (by decide +kernel) (cz (ci_ne1 g17 (by decide) b29)) rfl ?_
                      refine Ru.kI (q := (.iconst 0, 1)) (c := 0) (pc' := 232) (by decide +kernel) rfl (by decide) rfl ?_
                      refine Ru.op (q := (.goto 24, 3)) (S' := (256, _, _, _, _)) (by decide +kernel) rfl ?_
                      refine Ru.op (q := (.istore_n 2, 1)) (S' := (257, [some (.ref 36), d1, some (vI 0), some (vI (v3 + 1)), some (vI v4), some (vI v5), some (vI o4)], [], _, _)) (by decide +kernel) (st_in (mn_st1_D (Nat.le_of_ble_eq_true rfl) hdd.1 rfl)) ?_
                      refine Ru.op (q := (.goto 8, 3)) (S' := (265, _, _, _, _)) (by decide +kernel) rfl ?_
                      refine Ru.op (q := (.goto (-255), 3)) (S' := (10, _, _, _, _)) (by decide +kernel) rfl ?_
                      exact ih _ _ _ _ _ _ _ ⟨hdd.1, rfl, trivial⟩ _ h r hk
                  · replace h := if_f b28 h
                    refine Ru.br2 (k := .ne) (off := 15) (bb := true) (tg := 235) (by decide +kernel) (by decide +kernel) (ci_ne1 g6 (by decide) b28) rfl ?_
                    refine Ru.op (q := (.iload_n 2, 1)) (S' := (236, _, _, _, _)) (by decide +kernel) rfl ?_
                    refine Ru.op (q := (.iload 6, 2)) (S' := (238, _, _, _, _)) (by decide +kernel) rfl ?_
                    refine Ru.kI (q := (.bipush 62, 2)) (c := 62) (pc' := 240) (by decide +kernel) rfl (by decide) rfl ?_
                    by_cases b30 : o4 = 62
                    · replace h := if_t b30 h
                      refine Ru.br2 (k := .ne) (off := 7) (bb := false) (tg := 243) (by decide +kernel) (by decide +kernel) (ci_ne0 g6 (by decide) b30) rfl ?_
                      refine Ru.kI (q := (.iconst 1, 1)) (c := 1) (pc' := 244) (by decide +kernel) rfl (by decide) rfl ?_
                      refine Ru.op (q := (.goto 4, 3)) (S' := (248, _, _, _, _)) (by decide +kernel) rfl ?_
                      by_cases b31 : v2 = 1
                      · replace h := if_t b31 h
                        refine Ru.br2 (k := .eq) (off := 7) (bb := true) (tg := 255) (by decide +kernel) (by decide +kernel) (ci_eq1 g17 (by decide) b31) rfl ?_
                        refine Ru.kI (q := (.iconst 0, 1)) (c := 0) (pc' := 256) (by decide +kernel) rfl (by decide) rfl ?_
                        refine Ru.op (q := (.istore_n 2, 1)) (S' := (257, [some (.ref 36), d1, some (vI 0), some (vI (v3 + 1)), some (vI v4), some (vI v5), some (vI o4)], [], _, _)) (by decide +kernel) (st_in (mn_st1_D (Nat.le_of_ble_eq_true rfl) hdd.1 rfl)) ?_
                        refine Ru.op (q := (.goto 8, 3)) (S' := (265, _, _, _, _)) (by decide +kernel) rfl ?_
                        refine Ru.op (q := (.goto (-255), 3)) (S' := (10, _, _, _, _)) (by decide +kernel) rfl ?_
                        exact ih _ _ _ _ _ _ _ ⟨hdd.1, rfl, trivial⟩ _ h r hk
                      · replace h := if_f b31 h
                        refine Ru.br2 (k := .eq) (off := 7) (bb := false) (tg := 251) (by decide +kernel) (by decide +kernel) (ci_eq0 g17 (by decide) b31) rfl ?_
                        refine Ru.kI (q := (.iconst 1, 1)) (c := 1) (pc' := 252) (by decide +kernel) rfl (by decide) rfl ?_
                        refine Ru.op (q := (.goto 4, 3)) (S' := (256, _, _, _, _)) (by decide +kernel) rfl ?_
                        refine Ru.op (q := (.istore_n 2, 1)) (S' := (257, [some (.ref 36), d1, some (vI 1), some (vI (v3 + 1)), some (vI v4), some (vI v5), some (vI o4)], [], _, _)) (by decide +kernel) (st_in (mn_st1_D (Nat.le_of_ble_eq_true rfl) hdd.1 rfl)) ?_
                        refine Ru.op (q := (.goto 8, 3)) (S' := (265, _, _, _, _)) (by decide +kernel) rfl ?_
                        refine Ru.op (q := (.goto (-255), 3)) (S' := (10, _, _, _, _)) (by decide +kernel) rfl ?_
                        exact ih _ _ _ _ _ _ _ ⟨hdd.1, rfl, trivial⟩ _ h r hk
                    · replace h := if_f b30 h
                      refine Ru.br2 (k := .ne) (off := 7) (bb := true) (tg := 247) (by decide +kernel) (by decide +kernel) (ci_ne1 g6 (by decide) b30) rfl ?_
                      refine Ru.kI (q := (.iconst 0, 1)) (c := 0) (pc' := 248) (by decide +kernel) rfl (by decide) rfl ?_
                      by_cases b32 : v2 = 0
                      · replace h := if_t b32 h
                        refine Ru.br2 (k := .eq) (off := 7) (bb := true) (tg := 255) (by decide +kernel) (by decide +kernel) (ci_eq1 g17 (by decide) b32) rfl ?_
                        refine Ru.kI (q := (.iconst 0, 1)) (c := 0) (pc' := 256) (by decide +kernel) rfl (by decide) rfl ?_
                        refine Ru.op (q := (.istore_n 2, 1)) (S' := (257, [some (.ref 36), d1, some (vI 0), some (vI (v3 + 1)), some (vI v4), some (vI v5), some (vI o4)], [], _, _)) (by decide +kernel) (st_in (mn_st1_D (Nat.le_of_ble_eq_true rfl) hdd.1 rfl)) ?_
                        refine Ru.op (q := (.goto 8, 3)) (S' := (265, _, _, _, _)) (by decide +kernel) rfl ?_
                        refine Ru.op (q := (.goto (-255), 3)) (S' := (10, _, _, _, _)) (by decide +kernel) rfl ?_
                        exact ih _ _ _ _ _ _ _ ⟨hdd.1, rfl, trivial⟩ _ h r hk
                      · replace h := if_f b32 h
                        refine Ru.br2 (k := .eq) (off := 7) (bb := false) (tg := 251) (by decide +kernel) (by decide +kernel) (ci_eq0 g17 (by decide) b32) rfl ?_
                        refine Ru.kI (q := (.iconst 1, 1)) (c := 1) (pc' := 252) (by decide +kernel) rfl (by decide) rfl ?_
                        refine Ru.op (q := (.goto 4, 3)) (S' := (256, _, _, _, _)) (by decide +kernel) rfl ?_
                        refine Ru.op (q := (.istore_n 2, 1)) (S' := (257, [some (.ref 36), d1, some (vI 1), some (vI (v3 + 1)), some (vI v4), some (vI v5), some (vI o4)], [], _, _)) (by decide +kernel) (st_in (mn_st1_D (Nat.le_of_ble_eq_true rfl) hdd.1 rfl)) ?_
                        refine Ru.op (q := (.goto 8, 3)) (S' := (265, _, _, _, _)) (by decide +kernel) rfl ?_
                        refine Ru.op (q := (.goto (-255), 3)) (S' := (10, _, _, _, _)) (by decide +kernel) rfl ?_
                        exact ih _ _ _ _ _ _ _ ⟨hdd.1, rfl, trivial⟩ _ h r hk
              · replace h := if_f b16 h
                refine Ru.br2 (k := .eq) (off := 10) (bb := false) (tg := 184) (by decide +kernel) (by decide +kernel) (ci_eq0 g6 (by decide) b16) rfl ?_
                refine Ru.op (q := (.iload 6, 2)) (S' := (186, _, _, _, _)) (by decide +kernel) rfl ?_
                refine Ru.kI (q := (.bipush 63, 2)) (c := 63) (pc' := 188) (by decide +kernel) rfl (by decide) rfl ?_
                by_cases b33 : o4 = 63
                · replace h := if_t b33 h
                  refine Ru.br2 (k := .ne) (off := 28) (bb := false) (tg := 191) (by decide +kernel) (by decide +kernel) (ci_ne0 g6 (by decide) b33) rfl ?_
                  refine Ru.op (q := (.aload_n 0, 1)) (S' := (192, _, _, _, _)) (by decide +kernel) rfl ?_
                  refine Ru.op (q := (.iload 6, 2)) (S' := (194, _, _, _, _)) (by decide +kernel) rfl ?_
                  refine Ru.kI (q := (.bipush 33, 2)) (c := 33) (pc' := 196) (by decide +kernel) rfl (by decide) rfl ?_
                  refine Ru.br2 (k := .ne) (off := 7) (bb := true) (tg := 203) (by decide +kernel) (by decide +kernel) (ci_ne1 g6 (by decide) b16) rfl ?_
                  refine Ru.kI (q := (.iconst 0, 1)) (c := 0) (pc' := 204) (by decide +kernel) rfl (by decide) rfl ?_
                  refine Ru.op (q := (.iload_n 2, 1)) (S' := (205, _, _, _, _)) (by decide +kernel) rfl ?_
                  obtain ⟨g34, h⟩ := gd_some h
                  by_cases b35 : 0 = v2
                  · replace h := if_t b35 h
                    refine Ru.br2 (k := .eq) (off := 7) (bb := true) (tg := 212) (by decide +kernel) (by decide +kernel) (ci_eq1 (by decide) g34 b35) rfl ?_
                    refine Ru.kI (q := (.iconst 0, 1)) (c := 0) (pc' := 213) (by decide +kernel) rfl (by decide) rfl ?_
                    obtain ⟨o36, e37, h⟩ := ob_some h
                    refine Ru.vcallI (pc' := 216) (st' := []) (i := 224) (j2 := 116) (ci := 10) (k := 0) (z := 0) (as := [vI 0]) (by decide +kernel) (by decide +kernel) rfl rfl (hp36 _) (by decide) ⟨(Nat.le_of_ble_eq_true rfl), (by show 19 + 3 ≤ 353; exact Nat.le_of_ble_eq_true rfl), Nat.le_of_ble_eq_true rfl, Nat.le_of_ble_eq_true rfl⟩ ((g116_ok e37).up (Nat.le_of_ble_eq_true rfl) (Nat.le_of_ble_eq_true rfl)) rfl rfl ?_
                    refine Ru.op (q := (.iload 6, 2)) (S' := (218, _, _, _, _)) (by decide +kernel) rfl ?_
                    refine Ru.kI (q := (.bipush 126, 2)) (c := 126) (pc' := 220) (by decide +kernel) rfl (by decide) rfl ?_
                    by_cases b38 : o4 = 126
                    · replace h := if_t b38 h
                      refine Ru.br2 (k := .ne) (off := 15) (bb := false) (tg := 223) (by decide +kernel) (by decide +kernel) (ci_ne0 g6 (by decide) b38) rfl ?_
                      refine Ru.op (q := (.iload_n 2, 1)) (S' := (224, _, _, _, _)) (by decide +kernel) rfl ?_
                      by_cases b39 : v2 = 0
                      · replace h := if_t b39 h
                        refine Ru.br (k := .ne) (off := 7) (bb := false) (tg := 227) (by decide +kernel) (by decide +kernel) (cz (ci_ne0 g34 (by decide) b39)) rfl ?_
                        refine Ru.kI (q := (.iconst 1, 1)) (c := 1) (pc' := 228) (by decide +kernel) rfl (by decide) rfl ?_
                        refine Ru.op (q := (.goto 28, 3)) (S' := (256, _, _, _, _)) (by decide +kernel) rfl ?_
                        refine Ru.op (q := (.istore_n 2, 1)) (S' := (257, [some (.ref 36), d1, some (vI 1), some (vI (v3 + 1)), some (vI v4), some (vI v5), some (vI o4)], [], _, _)) (by decide +kernel) (st_in (mn_st1_D (Nat.le_of_ble_eq_true rfl) hdd.1 rfl)) ?_
                        refine Ru.op (q := (.goto 8, 3)) (S' := (265, _, _, _, _)) (by decide +kernel) rfl ?_
                        refine Ru.op (q := (.goto (-255), 3)) (S' := (10, _, _, _, _)) (by decide +kernel) rfl ?_
                        exact ih _ _ _ _ _ _ _ ⟨hdd.1, rfl, trivial⟩ _ h r hk
                      · replace h := if_f b39 h
                        refine Ru.br (k := .ne) (off := 7) (bb := true) (tg := 231) (by decide +kernel) (by decide +kernel) (cz (ci_ne1 g34 (by decide) b39)) rfl ?_
                        refine Ru.kI (q := (.iconst 0, 1)) (c := 0) (pc' := 232) (by decide +kernel) rfl (by decide) rfl ?_
                        refine Ru.op (q := (.goto 24, 3)) (S' := (256, _, _, _, _)) (by decide +kernel) rfl ?_
                        refine Ru.op (q := (.istore_n 2, 1)) (S' := (257, [some (.ref 36), d1, some (vI 0), some (vI (v3 + 1)), some (vI v4), some (vI v5), some (vI o4)], [], _, _)) (by decide +kernel) (st_in (mn_st1_D (Nat.le_of_ble_eq_true rfl) hdd.1 rfl)) ?_
                        refine Ru.op (q := (.goto 8, 3)) (S' := (265, _, _, _, _)) (by decide +kernel) rfl ?_
                        refine Ru.op (q := (.goto (-255), 3)) (S' := (10, _, _, _, _)) (by decide +kernel) rfl ?_
                        exact ih _ _ _ _ _ _ _ ⟨hdd.1, rfl, trivial⟩ _ h r hk
                    · replace h := if_f b38 h
                      refine Ru.br2 (k := .ne) (off := 15) (bb := true) (tg := 235) (by decide +kernel) (by decide +kernel) (ci_ne1 g6 (by decide) b38) rfl ?_
                      refine Ru.op (q := (.iload_n 2, 1)) (S' := (236, _, _, _, _)) (by decide +kernel) rfl ?_
                      refine Ru.op (q := (.iload 6, 2)) (S' := (238, _, _, _, _)) (by decide +kernel) rfl ?_
                      refine Ru.kI (q := (.bipush 62, 2)) (c := 62) (pc' := 240) (by decide +kernel) rfl (by decide) rfl ?_
                      by_cases b40 : o4 = 62
                      · replace h := if_t b40 h
                        refine Ru.br2 (k := .ne) (off := 7) (bb := false) (tg := 243) (by decide +kernel) (by decide +kernel) (ci_ne0 g6 (by decide) b40) rfl ?_
                        refine Ru.kI (q := (.iconst 1, 1)) (c := 1) (pc' := 244) (by decide +kernel) rfl (by decide) rfl ?_
                        refine Ru.op (q := (.goto 4, 3)) (S' := (248, _, _, _, _)) (by decide +kernel) rfl ?_
                        by_cases b41 : v2 = 1
                        · replace h := if_t b41 h
                          refine Ru.br2 (k := .eq) (off := 7) (bb := true) (tg := 255) (by decide +kernel) (by decide +kernel) (ci_eq1 g34 (by decide) b41) rfl ?_
                          refine Ru.kI (q := (.iconst 0, 1)) (c := 0) (pc' := 256) (by decide +kernel) rfl (by decide) rfl ?_
                          refine Ru.op (q := (.istore_n 2, 1)) (S' := (257, [some (.ref 36), d1, some (vI 0), some (vI (v3 + 1)), some (vI v4), some (vI v5), some (vI o4)], [], _, _)) (by decide +kernel) (st_in (mn_st1_D (Nat.le_of_ble_eq_true rfl) hdd.1 rfl)) ?_
                          refine Ru.op (q := (.goto 8, 3)) (S' := (265, _, _, _, _)) (by decide +kernel) rfl ?_
                          refine Ru.op (q := (.goto (-255), 3)) (S' := (10, _, _, _, _)) (by decide +kernel) rfl ?_
                          exact ih _ _ _ _ _ _ _ ⟨hdd.1, rfl, trivial⟩ _ h r hk
                        · replace h := if_f b41 h
                          refine Ru.br2 (k := .eq) (off := 7) (bb := false) (tg := 251) (by decide +kernel) (by decide +kernel) (ci_eq0 g34 (by decide) b41) rfl ?_
                          refine Ru.kI (q := (.iconst 1, 1)) (c := 1) (pc' := 252) (by decide +kernel) rfl (by decide) rfl ?_
                          refine Ru.op (q := (.goto 4, 3)) (S' := (256, _, _, _, _)) (by decide +kernel) rfl ?_
                          refine Ru.op (q := (.istore_n 2, 1)) (S' := (257, [some (.ref 36), d1, some (vI 1), some (vI (v3 + 1)), some (vI v4), some (vI v5), some (vI o4)], [], _, _)) (by decide +kernel) (st_in (mn_st1_D (Nat.le_of_ble_eq_true rfl) hdd.1 rfl)) ?_
                          refine Ru.op (q := (.goto 8, 3)) (S' := (265, _, _, _, _)) (by decide +kernel) rfl ?_
                          refine Ru.op (q := (.goto (-255), 3)) (S' := (10, _, _, _, _)) (by decide +kernel) rfl ?_
                          exact ih _ _ _ _ _ _ _ ⟨hdd.1, rfl, trivial⟩ _ h r hk
                      · replace h := if_f b40 h
                        refine Ru.br2 (k := .ne) (off := 7) (bb := true) (tg := 247) (by decide +kernel) (by decide +kernel) (ci_ne1 g6 (by decide) b40) rfl ?_
                        refine Ru.kI (q := (.iconst 0, 1)) (c := 0) (pc' := 248) (by decide +kernel) rfl (by decide) rfl ?_
                        by_cases b42 : v2 = 0
                        · replace h := if_t b42 h
                          refine Ru.br2 (k := .eq) (off := 7) (bb := true) (tg := 255) (by decide +kernel) (by decide +kernel) (ci_eq1 g34 (by decide) b42) rfl ?_
                          refine Ru.kI (q := (.iconst 0, 1)) (c := 0) (pc' := 256) (by decide +kernel) rfl (by decide) rfl ?_
                          refine Ru.op (q := (.istore_n 2, 1)) (S' := (257, [some (.ref 36), d1, some (vI 0), some (vI (v3 + 1)), some (vI v4), some (vI v5), some (vI o4)], [], _, _)) (by decide +kernel) (st_in (mn_st1_D (Nat.le_of_ble_eq_true rfl) hdd.1 rfl)) ?_
                          refine Ru.op (q := (.goto 8, 3)) (S' := (265, _, _, _, _)) (by decide +kernel) rfl ?_
                          refine Ru.op (q := (.goto (-255), 3)) (S' := (10, _, _, _, _)) (by decide +kernel) rfl ?_
                          exact ih _ _ _ _ _ _ _ ⟨hdd.1, rfl, trivial⟩ _ h r hk
                        · replace h := if_f b42 h
                          refine Ru.br2 (k := .eq) (off := 7) (bb := false) (tg := 251) (by decide +kernel) (by decide +kernel) (ci_eq0 g34 (by decide) b42) rfl ?_
                          refine Ru.kI (q := (.iconst 1, 1)) (c := 1) (pc' := 252) (by decide +kernel) rfl (by decide) rfl ?_
                          refine Ru.op (q := (.goto 4, 3)) (S' := (256, _, _, _, _)) (by decide +kernel) rfl ?_
                          refine Ru.op (q := (.istore_n 2, 1)) (S' := (257, [some (.ref 36), d1, some (vI 1), some (vI (v3 + 1)), some (vI v4), some (vI v5), some (vI o4)], [], _, _)) (by decide +kernel) (st_in (mn_st1_D (Nat.le_of_ble_eq_true rfl) hdd.1 rfl)) ?_
                          refine Ru.op (q := (.goto 8, 3)) (S' := (265, _, _, _, _)) (by decide +kernel) rfl ?_
                          refine Ru.op (q := (.goto (-255), 3)) (S' := (10, _, _, _, _)) (by decide +kernel) rfl ?_
                          exact ih _ _ _ _ _ _ _ ⟨hdd.1, rfl, trivial⟩ _ h r hk
                  · replace h := if_f b35 h
                    refine Ru.br2 (k := .eq) (off := 7) (bb := false) (tg := 208) (by decide +kernel) (by decide +kernel) (ci_eq0 (by decide) g34 b35) rfl ?_
                    refine Ru.kI (q := (.iconst 1, 1)) (c := 1) (pc' := 209) (by decide +kernel) rfl (by decide) rfl ?_
                    refine Ru.op (q := (.goto 4, 3)) (S' := (213, _, _, _, _)) (by decide +kernel) rfl ?_
                    obtain ⟨o43, e44, h⟩ := ob_some h
                    refine Ru.vcallI (pc' := 216) (st' := []) (i := 224) (j2 := 116) (ci := 10) (k := 0) (z := 0) (as := [vI 1]) (by decide +kernel) (by decide +kernel) rfl rfl (hp36 _) (by decide) ⟨(Nat.le_of_ble_eq_true rfl), (by show 19 + 3 ≤ 353; exact Nat.le_of_ble_eq_true rfl), Nat.le_of_ble_eq_true rfl, Nat.le_of_ble_eq_true rfl⟩ ((g116_ok e44).up (Nat.le_of_ble_eq_true rfl) (Nat.le_of_ble_eq_true rfl)) rfl rfl ?_
                    refine Ru.op (q := (.iload 6, 2)) (S' := (218, _, _, _, _)) (by decide +kernel) rfl ?_
                    refine Ru.kI (q := (.bipush 126, 2)) (c := 126) (pc' := 220) (by decide +kernel) rfl (by decide) rfl ?_
                    by_cases b45 : o4 = 126
                    · replace h := if_t b45 h
                      refine Ru.br2 (k := .ne) (off := 15) (bb := false) (tg := 223) (by decide +kernel) (by decide +kernel) (ci_ne0 g6 (by decide) b45) rfl ?_
                      refine Ru.op (q := (.iload_n 2, 1)) (S' := (224, _, _, _, _)) (by decide +kernel) rfl ?_
                      by_cases b46 : v2 = 0
                      · replace h := if_t b46 h
                        refine Ru.br (k := .ne) (off := 7) (bb := false) (tg := 227) (by decide +kernel) (by decide +kernel) (cz (ci_ne0 g34 (by decide) b46)) rfl ?_
                        refine Ru.kI (q := (.iconst 1, 1)) (c := 1) (pc' := 228) (by decide +kernel) rfl (by decide) rfl ?_
                        refine Ru.op (q := (.goto 28, 3)) (S' := (256, _, _, _, _)) (by decide +kernel) rfl ?_
                        refine Ru.op (q := (.istore_n 2, 1)) (S' := (257, [some (.ref 36), d1, some (vI 1), some (vI (v3 + 1)), some (vI v4), some (vI v5), some (vI o4)], [], _, _)) (by decide +kernel) (st_in (mn_st1_D (Nat.le_of_ble_eq_true rfl) hdd.1 rfl)) ?_
                        refine Ru.op (q := (.goto 8, 3)) (S' := (265, _, _, _, _)) (by decide +kernel) rfl ?_
                        refine Ru.op (q := (.goto (-255), 3)) (S' := (10, _, _, _, _)) (by decide +kernel) rfl ?_
                        exact ih _ _ _ _ _ _ _ ⟨hdd.1, rfl, trivial⟩ _ h r hk
                      · replace h := if_f b46 h
                        refine Ru.br (k := .ne) (off := 7) (bb := true) (tg := 231) (by decide +kernel) (by decide +kernel) (cz (ci_ne1 g34 (by decide) b46)) rfl ?_
                        refine Ru.kI (q := (.iconst 0, 1)) (c := 0) (pc' := 232) (by decide +kernel) rfl (by decide) rfl ?_
                        refine Ru.op (q := (.goto 24, 3)) (S' := (256, _, _, _, _)) (by decide +kernel) rfl ?_
                        refine Ru.op (q := (.istore_n 2, 1)) (S' := (257, [some (.ref 36), d1, some (vI 0), some (vI (v3 + 1)), some (vI v4), some (vI v5), some (vI o4)], [], _, _)) (by decide +kernel) (st_in (mn_st1_D (Nat.le_of_ble_eq_true rfl) hdd.1 rfl)) ?_
                        refine Ru.op (q := (.goto 8, 3)) (S' := (265, _, _, _, _)) (by decide +kernel) rfl ?_
                        refine Ru.op (q := (.goto (-255), 3)) (S' := (10, _, _, _, _)) (by decide +kernel) rfl ?_
                        exact ih _ _ _ _ _ _ _ ⟨hdd.1, rfl, trivial⟩ _ h r hk
                    · replace h := if_f b45 h
                      refine Ru.br2 (k := .ne) (off := 15) (bb := true) (tg := 235) (by decide +kernel) (by decide +kernel) (ci_ne1 g6 (by decide) b45) rfl ?_
                      refine Ru.op (q := (.iload_n 2, 1)) (S' := (236, _, _, _, _)) (by decide +kernel) rfl ?_
                      refine Ru.op (q := (.iload 6, 2)) (S' := (238, _, _, _, _)) (by decide +kernel) rfl ?_
                      refine Ru.kI (q := (.bipush 62, 2)) (c := 62) (pc' := 240) (by decide +kernel) rfl (by decide) rfl ?_
                      by_cases b47 : o4 = 62
                      · replace h := if_t b47 h
                        refine Ru.br2 (k := .ne) (off := 7) (bb := false) (tg := 243) (by decide +kernel) (by decide +kernel) (ci_ne0 g6 (by decide) b47) rfl ?_
                        refine Ru.kI (q := (.iconst 1, 1)) (c := 1) (pc' := 244) (by decide +kernel) rfl (by decide) rfl ?_
                        refine Ru.op (q := (.goto 4, 3)) (S' := (248, _, _, _, _)) (by decide +kernel) rfl ?_
                        by_cases b48 : v2 = 1
                        · replace h := if_t b48 h
                          refine Ru.br2 (k := .eq) (off := 7) (bb := true) (tg := 255) (by decide +kernel) (by decide +kernel) (ci_eq1 g34 (by decide) b48) rfl ?_
                          refine Ru.kI (q := (.iconst 0, 1)) (c := 0) (pc' := 256) (by decide +kernel) rfl (by decide) rfl ?_
                          refine Ru.op (q := (.istore_n 2, 1)) (S' := (257, [some (.ref 36), d1, some (vI 0), some (vI (v3 + 1)), some (vI v4), some (vI v5), some (vI o4)], [], _, _)) (by decide +kernel) (st_in (mn_st1_D (Nat.le_of_ble_eq_true rfl) hdd.1 rfl)) ?_
                          refine Ru.op (q := (.goto 8, 3)) (S' := (265, _, _, _, _)) (by decide +kernel) rfl ?_
                          refine Ru.op (q := (.goto (-255), 3)) (S' := (10, _, _, _, _)) (by decide +kernel) rfl ?_
                          exact ih _ _ _ _ _ _ _ ⟨hdd.1, rfl, trivial⟩ _ h r hk
                        · replace h := if_f b48 h
                          refine Ru.br2 (k := .eq) (off := 7) (bb := false) (tg := 251) (by decide +kernel) (by decide +kernel) (ci_eq0 g34 (by decide) b48) rfl ?_
                          refine Ru.kI (q := (.iconst 1, 1)) (c := 1) (pc' := 252) (by decide +kernel) rfl (by decide) rfl ?_
                          refine Ru.op (q := (.goto 4, 3)) (S' := (256, _, _, _, _)) (by decide +kernel) rfl ?_
                          refine Ru.op (q := (.istore_n 2, 1)) (S' := (257, [some (.ref 36), d1, some (vI 1), some (vI (v3 + 1)), some (vI v4), some (vI v5), some (vI o4)], [], _, _)) (by decide +kernel) (st_in (mn_st1_D (Nat.le_of_ble_eq_true rfl) hdd.1 rfl)) ?_
                          refine Ru.op (q := (.goto 8, 3)) (S' := (265, _, _, _, _)) (by decide +kernel) rfl ?_
                          refine Ru.op (q := (.goto (-255), 3)) (S' := (10, _, _, _, _)) (by decide +kernel) rfl ?_
                          exact ih _ _ _ _ _ _ _ ⟨hdd.1, rfl, trivial⟩ _ h r hk
                      · replace h := if_f b47 h
                        refine Ru.br2 (k := .ne) (off := 7) (bb := true) (tg := 247) (by decide +kernel) (by decide +kernel) (ci_ne1 g6 (by decide) b47) rfl ?_
                        refine Ru.kI (q := (.iconst 0, 1)) (c := 0) (pc' := 248) (by decide +kernel) rfl (by decide) rfl ?_
                        by_cases b49 : v2 = 0
                        · replace h := if_t b49 h
                          refine Ru.br2 (k := .eq) (off := 7) (bb := true) (tg := 255) (by decide +kernel) (by decide +kernel) (ci_eq1 g34 (by decide) b49) rfl ?_
                          refine Ru.kI (q := (.iconst 0, 1)) (c := 0) (pc' := 256) (by decide +kernel) rfl (by decide) rfl ?_
                          refine Ru.op (q := (.istore_n 2, 1)) (S' := (257, [some (.ref 36), d1, some (vI 0), some (vI (v3 + 1)), some (vI v4), some (vI v5), some (vI o4)], [], _, _)) (by decide +kernel) (st_in (mn_st1_D (Nat.le_of_ble_eq_true rfl) hdd.1 rfl)) ?_
                          refine Ru.op (q := (.goto 8, 3)) (S' := (265, _, _, _, _)) (by decide +kernel) rfl ?_
                          refine Ru.op (q := (.goto (-255), 3)) (S' := (10, _, _, _, _)) (by decide +kernel) rfl ?_
                          exact ih _ _ _ _ _ _ _ ⟨hdd.1, rfl, trivial⟩ _ h r hk
                        · replace h := if_f b49 h
                          refine Ru.br2 (k := .eq) (off := 7) (bb := false) (tg := 251) (by decide +kernel) (by decide +kernel) (ci_eq0 g34 (by decide) b49) rfl ?_
                          refine Ru.kI (q := (.iconst 1, 1)) (c := 1) (pc' := 252) (by decide +kernel) rfl (by decide) rfl ?_
                          refine Ru.op (q := (.goto 4, 3)) (S' := (256, _, _, _, _)) (by decide +kernel) rfl ?_
                          refine Ru.op (q := (.istore_n 2, 1)) (S' := (257, [some (.ref 36), d1, some (vI 1), some (vI (v3 + 1)), some (vI v4), some (vI v5), some (vI o4)], [], _, _)) (by decide +kernel) (st_in (mn_st1_D (Nat.le_of_ble_eq_true rfl) hdd.1 rfl)) ?_
                          refine Ru.op (q := (.goto 8, 3)) (S' := (265, _, _, _, _)) (by decide +kernel) rfl ?_
                          refine Ru.op (q := (.goto (-255), 3)) (S' := (10, _, _, _, _)) (by decide +kernel) rfl ?_
                          exact ih _ _ _ _ _ _ _ ⟨hdd.1, rfl, trivial⟩ _ h r hk
                · replace h := if_f b33 h
                  refine Ru.br2 (k := .ne) (off := 28) (bb := true) (tg := 216) (by decide +kernel) (by decide +kernel) (ci_ne1 g6 (by decide) b33) rfl ?_
                  refine Ru.op (q := (.iload 6, 2)) (S' := (218, _, _, _, _)) (by decide +kernel) rfl ?_
                  refine Ru.kI (q := (.bipush 126, 2)) (c := 126) (pc' := 220) (by decide +kernel) rfl (by decide) rfl ?_
                  by_cases b50 : o4 = 126
                  · replace h := if_t b50 h
                    refine Ru.br2 (k := .ne) (off := 15) (bb := false) (tg := 223) (by decide +kernel) (by decide +kernel) (ci_ne0 g6 (by decide) b50) rfl ?_
                    refine Ru.op (q := (.iload_n 2, 1)) (S' := (224, _, _, _, _)) (by decide +kernel) rfl ?_
                    obtain ⟨g51, h⟩ := gd_some h
                    by_cases b52 : v2 = 0
                    · replace h := if_t b52 h
                      refine Ru.br (k := .ne) (off := 7) (bb := false) (tg := 227) (by decide +kernel) (by decide +kernel) (cz (ci_ne0 g51 (by decide) b52)) rfl ?_
                      refine Ru.kI (q := (.iconst 1, 1)) (c := 1) (pc' := 228) (by decide +kernel) rfl (by decide) rfl ?_
                      refine Ru.op (q := (.goto 28, 3)) (S' := (256, _, _, _, _)) (by decide +kernel) rfl ?_
                      refine Ru.op (q := (.istore_n 2, 1)) (S' := (257, [some (.ref 36), d1, some (vI 1), some (vI (v3 + 1)), some (vI v4), some (vI v5), some (vI o4)], [], _, _)) (by decide +kernel) (st_in (mn_st1_D (Nat.le_of_ble_eq_true rfl) hdd.1 rfl)) ?_
                      refine Ru.op (q := (.goto 8, 3)) (S' := (265, _, _, _, _)) (by decide +kernel) rfl ?_
                      refine Ru.op (q := (.goto (-255), 3)) (S' := (10, _, _, _, _)) (by decide +kernel) rfl ?_
                      exact ih _ _ _ _ _ _ _ ⟨hdd.1, rfl, trivial⟩ _ h r hk
                    · replace h := if_f b52 h
                      refine Ru.br (k := .ne) (off := 7) (bb := true) (tg := 231) (by decide +kernel) (by decide +kernel) (cz (ci_ne1 g51 (by decide) b52)) rfl ?_
                      refine Ru.kI (q := (.iconst 0, 1)) (c := 0) (pc' := 232) (by decide +kernel) rfl (by decide) rfl ?_
                      refine Ru.op (q := (.goto 24, 3)) (S' := (256, _, _, _, _)) (by decide +kernel) rfl ?_
                      refine Ru.op (q := (.istore_n 2, 1)) (S' := (257, [some (.ref 36), d1, some (vI 0), some (vI (v3 + 1)), some (vI v4), some (vI v5), some (vI o4)], [], _, _)) (by decide +kernel) (st_in (mn_st1_D (Nat.le_of_ble_eq_true rfl) hdd.1 rfl)) ?_
                      refine Ru.op (q := (.goto 8, 3)) (S' := (265, _, _, _, _)) (by decide +kernel) rfl ?_
                      refine Ru.op (q := (.goto (-255), 3)) (S' := (10, _, _, _, _)) (by decide +kernel) rfl ?_
                      exact ih _ _ _ _ _ _ _ ⟨hdd.1, rfl, trivial⟩ _ h r hk
                  · replace h := if_f b50 h
                    refine Ru.br2 (k := .ne) (off := 15) (bb := true) (tg := 235) (by decide +kernel) (by decide +kernel) (ci_ne1 g6 (by decide) b50) rfl ?_
                    refine Ru.op (q := (.iload_n 2, 1)) (S' := (236, _, _, _, _)) (by decide +kernel) rfl ?_
                    refine Ru.op (q := (.iload 6, 2)) (S' := (238, _, _, _, _)) (by decide +kernel) rfl ?_
                    refine Ru.kI (q := (.bipush 62, 2)) (c := 62) (pc' := 240) (by decide +kernel) rfl (by decide) rfl ?_
                    by_cases b53 : o4 = 62
                    · replace h := if_t b53 h
                      refine Ru.br2 (k := .ne) (off := 7) (bb := false) (tg := 243) (by decide +kernel) (by decide +kernel) (ci_ne0 g6 (by decide) b53) rfl ?_
                      refine Ru.kI (q := (.iconst 1, 1)) (c := 1) (pc' := 244) (by decide +kernel) rfl (by decide) rfl ?_
                      refine Ru.op (q := (.goto 4, 3)) (S' := (248, _, _, _, _)) (by decide +kernel) rfl ?_
                      obtain ⟨g54, h⟩ := gd_some h
                      by_cases b55 : v2 = 1
                      · replace h := if_t b55 h
                        refine Ru.br2 (k := .eq) (off := 7) (bb := true) (tg := 255) (by decide +kernel) (by decide +kernel) (ci_eq1 g54 (by decide) b55) rfl ?_
                        refine Ru.kI (q := (.iconst 0, 1)) (c := 0) (pc' := 256) (by decide +kernel) rfl (by decide) rfl ?_
                        refine Ru.op (q := (.istore_n 2, 1)) (S' := (257, [some (.ref 36), d1, some (vI 0), some (vI (v3 + 1)), some (vI v4), some (vI v5), some (vI o4)], [], _, _)) (by decide +kernel) (st_in (mn_st1_D (Nat.le_of_ble_eq_true rfl) hdd.1 rfl)) ?_
                        refine Ru.op (q := (.goto 8, 3)) (S' := (265, _, _, _, _)) (by decide +kernel) rfl ?_
                        refine Ru.op (q := (.goto (-255), 3)) (S' := (10, _, _, _, _)) (by decide +kernel) rfl ?_
                        exact ih _ _ _ _ _ _ _ ⟨hdd.1, rfl, trivial⟩ _ h r hk
                      · replace h := if_f b55 h
                        refine Ru.br2 (k := .eq) (off := 7) (bb := false) (tg := 251) (by decide +kernel) (by decide +kernel) (ci_eq0 g54 (by decide) b55) rfl ?_
                        refine Ru.kI (q := (.iconst 1, 1)) (c := 1) (pc' := 252) (by decide +kernel) rfl (by decide) rfl ?_
                        refine Ru.op (q := (.goto 4, 3)) (S' := (256, _, _, _, _)) (by decide +kernel) rfl ?_
                        refine Ru.op (q := (.istore_n 2, 1)) (S' := (257, [some (.ref 36), d1, some (vI 1), some (vI (v3 + 1)), some (vI v4), some (vI v5), some (vI o4)], [], _, _)) (by decide +kernel) (st_in (mn_st1_D (Nat.le_of_ble_eq_true rfl) hdd.1 rfl)) ?_
                        refine Ru.op (q := (.goto 8, 3)) (S' := (265, _, _, _, _)) (by decide +kernel) rfl ?_
                        refine Ru.op (q := (.goto (-255), 3)) (S' := (10, _, _, _, _)) (by decide +kernel) rfl ?_
                        exact ih _ _ _ _ _ _ _ ⟨hdd.1, rfl, trivial⟩ _ h r hk
                    · replace h := if_f b53 h
                      refine Ru.br2 (k := .ne) (off := 7) (bb := true) (tg := 247) (by decide +kernel) (by decide +kernel) (ci_ne1 g6 (by decide) b53) rfl ?_
                      refine Ru.kI (q := (.iconst 0, 1)) (c := 0) (pc' := 248) (by decide +kernel) rfl (by decide) rfl ?_
                      obtain ⟨g56, h⟩ := gd_some h
                      by_cases b57 : v2 = 0
                      · replace h := if_t b57 h
                        refine Ru.br2 (k := .eq) (off := 7) (bb := true) (tg := 255) (by decide +kernel) (by decide +kernel) (ci_eq1 g56 (by decide) b57) rfl ?_
                        refine Ru.kI (q := (.iconst 0, 1)) (c := 0) (pc' := 256) (by decide +kernel) rfl (by decide) rfl ?_
                        refine Ru.op (q := (.istore_n 2, 1)) (S' := (257, [some (.ref 36), d1, some (vI 0), some (vI (v3 + 1)), some (vI v4), some (vI v5), some (vI o4)], [], _, _)) (by decide +kernel) (st_in (mn_st1_D (Nat.le_of_ble_eq_true rfl) hdd.1 rfl)) ?_
                        refine Ru.op (q := (.goto 8, 3)) (S' := (265, _, _, _, _)) (by decide +kernel) rfl ?_
                        refine Ru.op (q := (.goto (-255), 3)) (S' := (10, _, _, _, _)) (by decide +kernel) rfl ?_
                        exact ih _ _ _ _ _ _ _ ⟨hdd.1, rfl, trivial⟩ _ h r hk
                      · replace h := if_f b57 h
                        refine Ru.br2 (k := .eq) (off := 7) (bb := false) (tg := 251) (by decide +kernel) (by decide +kernel) (ci_eq0 g56 (by decide) b57) rfl ?_
                        refine Ru.kI (q := (.iconst 1, 1)) (c := 1) (pc' := 252) (by decide +kernel) rfl (by decide) rfl ?_
                        refine Ru.op (q := (.goto 4, 3)) (S' := (256, _, _, _, _)) (by decide +kernel) rfl ?_
                        refine Ru.op (q := (.istore_n 2, 1)) (S' := (257, [some (.ref 36), d1, some (vI 1), some (vI (v3 + 1)), some (vI v4), some (vI v5), some (vI o4)], [], _, _)) (by decide +kernel) (st_in (mn_st1_D (Nat.le_of_ble_eq_true rfl) hdd.1 rfl)) ?_
                        refine Ru.op (q := (.goto 8, 3)) (S' := (265, _, _, _, _)) (by decide +kernel) rfl ?_
                        refine Ru.op (q := (.goto (-255), 3)) (S' := (10, _, _, _, _)) (by decide +kernel) rfl ?_
                        exact ih _ _ _ _ _ _ _ ⟨hdd.1, rfl, trivial⟩ _ h r hk
            · replace h := if_f b13 h
              refine Ru.br2 (k := .ge) (off := 121) (bb := true) (tg := 260) (by decide +kernel) (by decide +kernel) (ci_ge1 g12 (by decide) b13) rfl ?_
              refine Ru.op (q := (.aload_n 0, 1)) (S' := (261, _, _, _, _)) (by decide +kernel) rfl ?_
              refine Ru.kI (q := (.iconst 1, 1)) (c := 1) (pc' := 262) (by decide +kernel) rfl (by decide) rfl ?_
              refine Ru.putH (pc' := 265) (i := 151) (ci := 10) (k := 28) (nn := 0) (z := 0) (by decide +kernel) (by decide +kernel) (hp36 _) (by decide) (Nat.le_of_ble_eq_true rfl) (fk_b (by decide)) (by decide +kernel) (pf_36_28 _ _) rfl ?_
              refine Ru.op (q := (.goto (-255), 3)) (S' := (10, _, _, _, _)) (by decide +kernel) rfl ?_
              exact ih _ _ _ _ _ _ _ ⟨hdd.1, rfl, trivial⟩ _ h r hk
        · replace h := if_f b7 h
          refine Ru.br2 (k := .lt) (off := 95) (bb := false) (tg := 35) (by decide +kernel) (by decide +kernel) (ci_lt0 g6 (by decide) b7) rfl ?_
          refine Ru.op (q := (.iload 6, 2)) (S' := (37, _, _, _, _)) (by decide +kernel) rfl ?_
          refine Ru.kI (q := (.bipush 90, 2)) (c := 90) (pc' := 39) (by decide +kernel) rfl (by decide) rfl ?_
          by_cases b58 : 90 < o4
          · replace h := if_t b58 h
            refine Ru.br2 (k := .gt) (off := 88) (bb := true) (tg := 127) (by decide +kernel) (by decide +kernel) (ci_gt1 g6 (by decide) b58) rfl ?_
            refine Ru.op (q := (.aload_n 0, 1)) (S' := (128, _, _, _, _)) (by decide +kernel) rfl ?_
            refine Ru.op (q := (.iload 6, 2)) (S' := (130, _, _, _, _)) (by decide +kernel) rfl ?_
            obtain ⟨o59, e60, h⟩ := ob_some h
            refine Ru.vcallI (pc' := 133) (st' := [vI o59]) (i := 221) (j2 := 115) (ci := 10) (k := 0) (z := 0) (as := [vI o4]) (by decide +kernel) (by decide +kernel) rfl rfl (hp36 _) (by decide) ⟨(Nat.le_of_ble_eq_true rfl), (by show 19 + 2 ≤ 353; exact Nat.le_of_ble_eq_true rfl), Nat.le_of_ble_eq_true rfl, Nat.le_of_ble_eq_true rfl⟩ ((g115_ok e60).up (Nat.le_of_ble_eq_true rfl) (Nat.le_of_ble_eq_true rfl)) rfl rfl ?_
            obtain ⟨g61, h⟩ := gd_some h
            by_cases b62 : o59 = 0
            · replace h := if_t b62 h
              refine Ru.br (k := .eq) (off := 127) (bb := true) (tg := 260) (by decide +kernel) (by decide +kernel) (cz (ci_eq1 g61 (by decide) b62)) rfl ?_
              refine Ru.op (q := (.aload_n 0, 1)) (S' := (261, _, _, _, _)) (by decide +kernel) rfl ?_
              refine Ru.kI (q := (.iconst 1, 1)) (c := 1) (pc' := 262) (by decide +kernel) rfl (by decide) rfl ?_
              refine Ru.putH (pc' := 265) (i := 151) (ci := 10) (k := 28) (nn := 0) (z := 0) (by decide +kernel) (by decide +kernel) (hp36 _) (by decide) (Nat.le_of_ble_eq_true rfl) (fk_b (by decide)) (by decide +kernel) (pf_36_28 _ _) rfl ?_
              refine Ru.op (q := (.goto (-255), 3)) (S' := (10, _, _, _, _)) (by decide +kernel) rfl ?_
              exact ih _ _ _ _ _ _ _ ⟨hdd.1, rfl, trivial⟩ _ h r hk
            · replace h := if_f b62 h
              refine Ru.br (k := .eq) (off := 127) (bb := false) (tg := 136) (by decide +kernel) (by decide +kernel) (cz (ci_eq0 g61 (by decide) b62)) rfl ?_
              refine Ru.op (q := (.iload_n 3, 1)) (S' := (137, _, _, _, _)) (by decide +kernel) rfl ?_
              refine Ru.kI (q := (.bipush 10, 2)) (c := 10) (pc' := 139) (by decide +kernel) rfl (by decide) rfl ?_
              obtain ⟨g63, h⟩ := gd_some h
              by_cases b64 : v3 < 10
              · replace h := if_t b64 h
                refine Ru.br2 (k := .ge) (off := 121) (bb := false) (tg := 142) (by decide +kernel) (by decide +kernel) (ci_ge0 g63 (by decide) b64) rfl ?_
                refine Ru.op (q := (.aload_n 0, 1)) (S' := (143, _, _, _, _)) (by decide +kernel) rfl ?_
                refine Ru.op (q := (.dup, 1)) (S' := (144, _, _, _, _)) (by decide +kernel) rfl ?_
                refine Ru.getI (pc' := 147) (i := 140) (ci := 10) (k := 27) (nn := 0) (z := 0) (x := (S.F 36 27)) (by decide +kernel) (by decide +kernel) (hp36 _) (by decide) rfl (eI_of _) rfl ?_
                refine Ru.kI (q := (.iconst 1, 1)) (c := 1) (pc' := 148) (by decide +kernel) rfl (by decide) rfl ?_
                refine Ru.ar2 (i := .iadd) (z := ((S.F 36 27) + 1)) (pc' := 149) (by decide +kernel) rfl (ar_add _ _) rfl ?_
                refine Ru.putH (pc' := 152) (i := 140) (ci := 10) (k := 27) (nn := 0) (z := 0) (by decide +kernel) (by decide +kernel) (hp36 _) (by decide) (Nat.le_of_ble_eq_true rfl) rfl (by decide +kernel) (pf_36_27 _ _) rfl ?_
                refine Ru.op (q := (.aload_n 0, 1)) (S' := (153, _, _, _, _)) (by decide +kernel) rfl ?_
                refine Ru.getR (pc' := 156) (i := 69) (ci := 10) (k := 38) (nn := 0) (z := 0) (v := .ref 54) (by decide +kernel) (by decide +kernel) (hp36 _) (by decide) rfl rfl ?_
                refine Ru.op (q := (.iload_n 3, 1)) (S' := (157, _, _, _, _)) (by decide +kernel) rfl ?_
                refine Ru.op (q := (.iload 6, 2)) (S' := (159, _, _, _, _)) (by decide +kernel) rfl ?_
                obtain ⟨g65, h⟩ := gd_some h
                refine Ru.istI (pc' := 160) (i := v3) (x := o4) (by decide +kernel) (hp54 _) g65 (ps_54 _ _ _) rfl ?_
                refine Ru.op (q := (.aload_n 0, 1)) (S' := (161, _, _, _, _)) (by decide +kernel) rfl ?_
                refine Ru.getR (pc' := 164) (i := 72) (ci := 10) (k := 39) (nn := 0) (z := 0) (v := .ref 55) (by decide +kernel) (by decide +kernel) (hp36 _) (by decide) rfl rfl ?_
                refine Ru.op (q := (.iload_n 3, 1)) (S' := (165, _, _, _, _)) (by decide +kernel) rfl ?_
                refine Ru.op (q := (.iload_n 2, 1)) (S' := (166, _, _, _, _)) (by decide +kernel) rfl ?_
                obtain ⟨g66, h⟩ := gd_some h
                refine Ru.bstI (pc' := 167) (i := v3) (x := v2) (by decide +kernel) (hp55 _) g65 g66 (ps_55 _ _ _) rfl ?_
                refine Ru.op (q := (.aload_n 0, 1)) (S' := (168, _, _, _, _)) (by decide +kernel) rfl ?_
                refine Ru.getR (pc' := 171) (i := 75) (ci := 10) (k := 40) (nn := 0) (z := 0) (v := .ref 56) (by decide +kernel) (by decide +kernel) (hp36 _) (by decide) rfl rfl ?_
                refine Ru.op (q := (.iload_n 3, 1)) (S' := (172, _, _, _, _)) (by decide +kernel) rfl ?_
                refine Ru.kI (q := (.iconst 0, 1)) (c := 0) (pc' := 173) (by decide +kernel) rfl (by decide) rfl ?_
                refine Ru.bstI (pc' := 174) (i := v3) (x := 0) (by decide +kernel) (hp56 _) g65 (by decide) (ps_56 _ _ _) rfl ?_
                refine Ru.inc (k := 3) (n := 1) (x := v3) (z := (v3 + 1)) (xs' := [some (.ref 36), d1, some (vI v2), some (vI (v3 + 1)), some (vI v4), some (vI v5), some (vI o4)]) (pc' := 177) (by decide +kernel) rfl rfl rfl rfl ?_
                refine Ru.op (q := (.iload 6, 2)) (S' := (179, _, _, _, _)) (by decide +kernel) rfl ?_
                refine Ru.kI (q := (.bipush 33, 2)) (c := 33) (pc' := 181) (by decide +kernel) rfl (by decide) rfl ?_
                by_cases b67 : o4 = 33
                · replace h := if_t b67 h
                  refine Ru.br2 (k := .eq) (off := 10) (bb := true) (tg := 191) (by decide +kernel) (by decide +kernel) (ci_eq1 g6 (by decide) b67) rfl ?_
                  refine Ru.op (q := (.aload_n 0, 1)) (S' := (192, _, _, _, _)) (by decide +kernel) rfl ?_
                  refine Ru.op (q := (.iload 6, 2)) (S' := (194, _, _, _, _)) (by decide +kernel) rfl ?_
                  refine Ru.kI (q := (.bipush 33, 2)) (c := 33) (pc' := 196) (by decide +kernel) rfl (by decide) rfl ?_
                  refine Ru.br2 (k := .ne) (off := 7) (bb := false) (tg := 199) (by decide +kernel) (by decide +kernel) (ci_ne0 g6 (by decide) b67) rfl ?_
                  refine Ru.kI (q := (.iconst 1, 1)) (c := 1) (pc' := 200) (by decide +kernel) rfl (by decide) rfl ?_
                  refine Ru.op (q := (.goto 4, 3)) (S' := (204, _, _, _, _)) (by decide +kernel) rfl ?_
                  refine Ru.op (q := (.iload_n 2, 1)) (S' := (205, _, _, _, _)) (by decide +kernel) rfl ?_
                  obtain ⟨g68, h⟩ := gd_some h
                  by_cases b69 : 1 = v2
                  · replace h := if_t b69 h
                    refine Ru.br2 (k := .eq) (off := 7) (bb := true) (tg := 212) (by decide +kernel) (by decide +kernel) (ci_eq1 (by decide) g68 b69) rfl ?_
                    refine Ru.kI (q := (.iconst 0, 1)) (c := 0) (pc' := 213) (by decide +kernel) rfl (by decide) rfl ?_
                    obtain ⟨o70, e71, h⟩ := ob_some h
                    refine Ru.vcallI (pc' := 216) (st' := []) (i := 224) (j2 := 116) (ci := 10) (k := 0) (z := 0) (as := [vI 0]) (by decide +kernel) (by decide +kernel) rfl rfl (hp36 _) (by decide) ⟨(Nat.le_of_ble_eq_true rfl), (by show 19 + 3 ≤ 353; exact Nat.le_of_ble_eq_true rfl), Nat.le_of_ble_eq_true rfl, Nat.le_of_ble_eq_true rfl⟩ ((g116_ok e71).up (Nat.le_of_ble_eq_true rfl) (Nat.le_of_ble_eq_true rfl)) rfl rfl ?_
                    refine Ru.op (q := (.iload 6, 2)) (S' := (218, _, _, _, _)) (by decide +kernel) rfl ?_
                    refine Ru.kI (q := (.bipush 126, 2)) (c := 126) (pc' := 220) (by decide +kernel) rfl (by decide) rfl ?_
                    by_cases b72 : o4 = 126
                    · replace h := if_t b72 h
                      refine Ru.br2 (k := .ne) (off := 15) (bb := false) (tg := 223) (by decide +kernel) (by decide +kernel) (ci_ne0 g6 (by decide) b72) rfl ?_
                      refine Ru.op (q := (.iload_n 2, 1)) (S' := (224, _, _, _, _)) (by decide +kernel) rfl ?_
                      by_cases b73 : v2 = 0
                      · replace h := if_t b73 h
                        refine Ru.br (k := .ne) (off := 7) (bb := false) (tg := 227) (by decide +kernel) (by decide +kernel) (cz (ci_ne0 g68 (by decide) b73)) rfl ?_
                        refine Ru.kI (q := (.iconst 1, 1)) (c := 1) (pc' := 228) (by decide +kernel) rfl (by decide) rfl ?_
                        refine Ru.op (q := (.goto 28, 3)) (S' := (256, _, _, _, _)) (by decide +kernel) rfl ?_
                        refine Ru.op (q := (.istore_n 2, 1)) (S' := (257, [some (.ref 36), d1, some (vI 1), some (vI (v3 + 1)), some (vI v4), some (vI v5), some (vI o4)], [], _, _)) (by decide +kernel) (st_in (mn_st1_D (Nat.le_of_ble_eq_true rfl) hdd.1 rfl)) ?_
                        refine Ru.op (q := (.goto 8, 3)) (S' := (265, _, _, _, _)) (by decide +kernel) rfl ?_
                        refine Ru.op (q := (.goto (-255), 3)) (S' := (10, _, _, _, _)) (by decide +kernel) rfl ?_
                        exact ih _ _ _ _ _ _ _ ⟨hdd.1, rfl, trivial⟩ _ h r hk
                      · replace h := if_f b73 h
                        refine Ru.br (k := .ne) (off := 7) (bb := true) (tg := 231) (by decide +kernel) (by decide +kernel) (cz (ci_ne1 g68 (by decide) b73)) rfl ?_
                        refine Ru.kI (q := (.iconst 0, 1)) (c := 0) (pc' := 232) (by decide +kernel) rfl (by decide) rfl ?_
                        refine Ru.op (q := (.goto 24, 3)) (S' := (256, _, _, _, _)) (by decide +kernel) rfl ?_
                        refine Ru.op (q := (.istore_n 2, 1)) (S' := (257, [some (.ref 36), d1, some (vI 0), some (vI (v3 + 1)), some (vI v4), some (vI v5), some (vI o4)], [], _, _)) (by decide +kernel) (st_in (mn_st1_D (Nat.le_of_ble_eq_true rfl) hdd.1 rfl)) ?_
                        refine Ru.op (q := (.goto 8, 3)) (S' := (265, _, _, _, _)) (by decide +kernel) rfl ?_
                        refine Ru.op (q := (.goto (-255), 3)) (S' := (10, _, _, _, _)) (by decide +kernel) rfl ?_
                        exact ih _ _ _ _ _ _ _ ⟨hdd.1, rfl, trivial⟩ _ h r hk
                    · replace h := if_f b72 h
                      refine Ru.br2 (k := .ne) (off := 15) (bb := true) (tg := 235) (by decide +kernel) (by decide +kernel) (ci_ne1 g6 (by decide) b72) rfl ?_
                      refine Ru.op (q := (.iload_n 2, 1)) (S' := (236, _, _, _, _)) (by decide +kernel) rfl ?_
                      refine Ru.op (q := (.iload 6, 2)) (S' := (238, _, _, _, _)) (by decide +kernel) rfl ?_
                      refine Ru.kI (q := (.bipush 62, 2)) (c := 62) (pc' := 240) (by decide +kernel) rfl (by decide) rfl ?_
                      by_cases b74 : o4 = 62
                      · replace h := if_t b74 h
                        refine Ru.br2 (k := .ne) (off := 7) (bb := false) (tg := 243) (by decide +kernel) (by decide +kernel) (ci_ne0 g6 (by decide) b74) rfl ?_
                        refine Ru.kI (q := (.iconst 1, 1)) (c := 1) (pc' := 244) (by decide +kernel) rfl (by decide) rfl ?_
                        refine Ru.op (q := (.goto 4, 3)) (S' := (248, _, _, _, _)) (by decide +kernel) rfl ?_
                        by_cases b75 : v2 = 1
                        · replace h := if_t b75 h
                          refine Ru.br2 (k := .eq) (off := 7) (bb := true) (tg := 255) (by decide +kernel) (by decide +kernel) (ci_eq1 g68 (by decide) b75) rfl ?_
                          refine Ru.kI (q := (.iconst 0, 1)) (c := 0) (pc' := 256) (by decide +kernel) rfl (by decide) rfl ?_
                          refine Ru.op (q := (.istore_n 2, 1)) (S' := (257, [some (.ref 36), d1, some (vI 0), some (vI (v3 + 1)), some (vI v4), some (vI v5), some (vI o4)], [], _, _)) (by decide +kernel) (st_in (mn_st1_D (Nat.le_of_ble_eq_true rfl) hdd.1 rfl)) ?_
                          refine Ru.op (q := (.goto 8, 3)) (S' := (265, _, _, _, _)) (by decide +kernel) rfl ?_
                          refine Ru.op (q := (.goto (-255), 3)) (S' := (10, _, _, _, _)) (by decide +kernel) rfl ?_
                          exact ih _ _ _ _ _ _ _ ⟨hdd.1, rfl, trivial⟩ _ h r hk
                        · replace h := if_f b75 h
                          refine Ru.br2 (k := .eq) (off := 7) (bb := false) (tg := 251) (by decide +kernel) (by decide +kernel) (ci_eq0 g68 (by decide) b75) rfl ?_
                          refine Ru.kI (q := (.iconst 1, 1)) (c := 1) (pc' := 252) (by decide +kernel) rfl (by decide) rfl ?_
                          refine Ru.op (q := (.goto 4, 3)) (S' := (256, _, _, _, _)) (by decide +kernel) rfl ?_
                          refine Ru.op (q := (.istore_n 2, 1)) (S' := (257, [some (.ref 36), d1, some (vI 1), some (vI (v3 + 1)), some (vI v4), some (vI v5), some (vI o4)], [], _, _)) (by decide +kernel) (st_in (mn_st1_D (Nat.le_of_ble_eq_true rfl) hdd.1 rfl)) ?_
                          refine Ru.op (q := (.goto 8, 3)) (S' := (265, _, _, _, _)) (by decide +kernel) rfl ?_
                          refine Ru.op (q := (.goto (-255), 3)) (S' := (10, _, _, _, _)) (by decide +kernel) rfl ?_
                          exact ih _ _ _ _ _ _ _ ⟨hdd.1, rfl, trivial⟩ _ h r hk
                      · replace h := if_f b74 h
                        refine Ru.br2 (k := .ne) (off := 7) (bb := true) (tg := 247) (by decide +kernel) (by decide +kernel) (ci_ne1 g6 (by decide) b74) rfl ?_
                        refine Ru.kI (q := (.iconst 0, 1)) (c := 0) (pc' := 248) (by decide +kernel) rfl (by decide) rfl ?_
                        by_cases b76 : v2 = 0
                        · replace h := if_t b76 h
                          refine Ru.br2 (k := .eq) (off := 7) (bb := true) (tg := 255) (by decide +kernel) (by decide +kernel) (ci_eq1 g68 (by decide) b76) rfl ?_
                          refine Ru.kI (q := (.iconst 0, 1)) (c := 0) (pc' := 256) (by decide +kernel) rfl (by decide) rfl ?_
                          refine Ru.op (q := (.istore_n 2, 1)) (S' := (257, [some (.ref 36), d1, some (vI 0), some (vI (v3 + 1)), some (vI v4), some (vI v5), some (vI o4)], [], _, _)) (by decide +kernel) (st_in (mn_st1_D (Nat.le_of_ble_eq_true rfl) hdd.1 rfl)) ?_
                          refine Ru.op (q := (.goto 8, 3)) (S' := (265, _, _, _, _)) (by decide +kernel) rfl ?_
                          refine Ru.op (q := (.goto (-255), 3)) (S' := (10, _, _, _, _)) (by decide +kernel) rfl ?_
                          exact ih _ _ _ _ _ _ _ ⟨hdd.1, rfl, trivial⟩ _ h r hk
                        · replace h := if_f b76 h
                          refine Ru.br2 (k := .eq) (off := 7) (bb := false) (tg := 251) (by decide +kernel) (by decide +kernel) (ci_eq0 g68 (by decide) b76) rfl ?_
                          refine Ru.kI (q := (.iconst 1, 1)) (c := 1) (pc' := 252) (by decide +kernel) rfl (by decide) rfl ?_
                          refine Ru.op (q := (.goto 4, 3)) (S' := (256, _, _, _, _)) (by decide +kernel) rfl ?_
                          refine Ru.op (q := (.istore_n 2, 1)) (S' := (257, [some (.ref 36), d1, some (vI 1), some (vI (v3 + 1)), some (vI v4), some (vI v5), some (vI o4)], [], _, _)) (by decide +kernel) (st_in (mn_st1_D (Nat.le_of_ble_eq_true rfl) hdd.1 rfl)) ?_
                          refine Ru.op (q := (.goto 8, 3)) (S' := (265, _, _, _, _)) (by decide +kernel) rfl ?_
                          refine Ru.op (q := (.goto (-255), 3)) (S' := (10, _, _, _, _)) (by decide +kernel) rfl ?_
                          exact ih _ _ _ _ _ _ _ ⟨hdd.1, rfl, trivial⟩ _ h r hk
                  · replace h := if_f b69 h
                    refine Ru.br2 (k := .eq) (off := 7) (bb := false) (tg := 208) (by decide +kernel) (by decide +kernel) (ci_eq0 (by decide) g68 b69) rfl ?_
                    refine Ru.kI (q := (.iconst 1, 1)) (c := 1) (pc' := 209) (by decide +kernel) rfl (by decide) rfl ?_
                    refine Ru.op (q := (.goto 4, 3)) (S' := (213, _, _, _, _)) (by decide +kernel) rfl ?_
                    obtain ⟨o77, e78, h⟩ := ob_some h
                    refine Ru.vcallI (pc' := 216) (st' := []) (i := 224) (j2 := 116) (ci := 10) (k := 0) (z := 0) (as := [vI 1]) (by decide +kernel) (by decide +kernel) rfl rfl (hp36 _) (by decide) ⟨(Nat.le_of_ble_eq_true rfl), (by show 19 + 3 ≤ 353; exact Nat.le_of_ble_eq_true rfl), Nat.le_of_ble_eq_true rfl, Nat.le_of_ble_eq_true rfl⟩ ((g116_ok e78).up (Nat.le_of_ble_eq_true rfl) (Nat.le_of_ble_eq_true rfl)) rfl rfl ?_
                    refine Ru.op (q := (.iload 6, 2)) (S' := (218, _, _, _, _)) (by decide +kernel) rfl ?_
                    refine Ru.kI (q := (.bipush 126, 2)) (c := 126) (pc' := 220) (by decide +kernel) rfl (by decide) rfl ?_
                    by_cases b79 : o4 = 126
                    · replace h := if_t b79 h
                      refine Ru.br2 (k := .ne) (off := 15) (bb := false) (tg := 223) (by decide +kernel) (by decide +kernel) (ci_ne0 g6 (by decide) b79) rfl ?_
                      refine Ru.op (q := (.iload_n 2, 1)) (S' := (224, _, _, _, _)) (by decide +kernel) rfl ?_
                      by_cases b80 : v2 = 0
                      · replace h := if_t b80 h
                        refine Ru.br (k := .ne) (off := 7) (bb := false) (tg := 227) (by decide +kernel) (by decide +kernel) (cz (ci_ne0 g68 (by decide) b80)) rfl ?_
                        refine Ru.kI (q := (.iconst 1, 1)) (c := 1) (pc' := 228) (by decide +kernel) rfl (by decide) rfl ?_
                        refine Ru.op (q := (.goto 28, 3)) (S' := (256, _, _, _, _)) (by decide +kernel) rfl ?_
                        refine Ru.op (q := (.istore_n 2, 1)) (S' := (257, [some (.ref 36), d1, some (vI 1), some (vI (v3 + 1)), some (vI v4), some (vI v5), some (vI o4)], [], _, _)) (by decide +kernel) (st_in (mn_st1_D (Nat.le_of_ble_eq_true rfl) hdd.1 rfl)) ?_
                        refine Ru.op (q := (.goto 8, 3)) (S' := (265, _, _, _, _)) (by decide +kernel) rfl ?_
                        refine Ru.op (q := (.goto (-255), 3)) (S' := (10, _, _, _, _)) (by decide +kernel) rfl ?_
                        exact ih _ _ _ _ _ _ _ ⟨hdd.1, rfl, trivial⟩ _ h r hk
                      · replace h := if_f b80 h
                        refine Ru.br (k := .ne) (off := 7) (bb := true) (tg := 231) (by decide +kernel) (by decide +kernel) (cz (ci_ne1 g68 (by decide) b80)) rfl ?_
                        refine Ru.kI (q := (.iconst 0, 1)) (c := 0) (pc' := 232) (by decide +kernel) rfl (by decide) rfl ?_
                        refine Ru.op (q := (.goto 24, 3)) (S' := (256, _, _, _, _)) (by decide +kernel) rfl ?_
                        refine Ru.op (q := (.istore_n 2, 1)) (S' := (257, [some (.ref 36), d1, some (vI 0), some (vI (v3 + 1)), some (vI v4), some (vI v5), some (vI o4)], [], _, _)) (by decide +kernel) (st_in (mn_st1_D (Nat.le_of_ble_eq_true rfl) hdd.1 rfl)) ?_
                        refine Ru.op (q := (.goto 8, 3)) (S' := (265, _, _, _, _)) (by decide +kernel) rfl ?_
                        refine Ru.op (q := (.goto (-255), 3)) (S' := (10, _, _, _, _)) (by decide +kernel) rfl ?_
                        exact ih _ _ _ _ _ _ _ ⟨hdd.1, rfl, trivial⟩ _ h r hk
                    · replace h := if_f b79 h
                      refine Ru.br2 (k := .ne) (off := 15) (bb := true) (tg := 235) (by decide +kernel) (by decide +kernel) (ci_ne1 g6 (by decide) b79) rfl ?_
                      refine Ru.op (q := (.iload_n 2, 1)) (S' := (236, _, _, _, _)) (by decide +kernel) rfl ?_
                      refine Ru.op (q := (.iload 6, 2)) (S' := (238, _, _, _, _)) (by decide +kernel) rfl ?_
                      refine Ru.kI (q := (.bipush 62, 2)) (c := 62) (pc' := 240) (by decide +kernel) rfl (by decide) rfl ?_
                      by_cases b81 : o4 = 62
                      · replace h := if_t b81 h
                        refine Ru.br2 (k := .ne) (off := 7) (bb := false) (tg := 243) (by decide +kernel) (by decide +kernel) (ci_ne0 g6 (by decide) b81) rfl ?_
                        refine Ru.kI (q := (.iconst 1, 1)) (c := 1) (pc' := 244) (by decide +kernel) rfl (by decide) rfl ?_
                        refine Ru.op (q := (.goto 4, 3)) (S' := (248, _, _, _, _)) (by decide +kernel) rfl ?_
                        by_cases b82 : v2 = 1
                        · replace h := if_t b82 h
                          refine Ru.br2 (k := .eq) (off := 7) (bb := true) (tg := 255) (by decide +kernel) (by decide +kernel) (ci_eq1 g68 (by decide) b82) rfl ?_
                          refine Ru.kI (q := (.iconst 0, 1)) (c := 0) (pc' := 256) (by decide +kernel) rfl (by decide) rfl ?_
                          refine Ru.op (q := (.istore_n 2, 1)) (S' := (257, [some (.ref 36), d1, some (vI 0), some (vI (v3 + 1)), some (vI v4), some (vI v5), some (vI o4)], [], _, _)) (by decide +kernel) (st_in (mn_st1_D (Nat.le_of_ble_eq_true rfl) hdd.1 rfl)) ?_
                          refine Ru.op (q := (.goto 8, 3)) (S' := (265, _, _, _, _)) (by decide +kernel) rfl ?_
                          refine Ru.op (q := (.goto (-255), 3)) (S' := (10, _, _, _, _)) (by decide +kernel) rfl ?_
                          exact ih _ _ _ _ _ _ _ ⟨hdd.1, rfl, trivial⟩ _ h r hk
                        · replace h := if_f b82 h
                          refine Ru.br2 (k := .eq) (off := 7) (bb := false) (tg := 251) (by decide +kernel) (by decide +kernel) (ci_eq0 g68 (by decide) b82) rfl ?_
                          refine Ru.kI (q := (.iconst 1, 1)) (c := 1) (pc' := 252) (by decide +kernel) rfl (by decide) rfl ?_
                          refine Ru.op (q := (.goto 4, 3)) (S' := (256, _, _, _, _)) (by decide +kernel) rfl ?_
                          refine Ru.op (q := (.istore_n 2, 1)) (S' := (257, [some (.ref 36), d1, some (vI 1), some (vI (v3 + 1)), some (vI v4), some (vI v5), some (vI o4)], [], _, _)) (by decide +kernel) (st_in (mn_st1_D (Nat.le_of_ble_eq_true rfl) hdd.1 rfl)) ?_
                          refine Ru.op (q := (.goto 8, 3)) (S' := (265, _, _, _, _)) (by decide +kernel) rfl ?_
                          refine Ru.op (q := (.goto (-255), 3)) (S' := (10, _, _, _, _)) (by decide +kernel) rfl ?_
                          exact ih _ _ _ _ _ _ _ ⟨hdd.1, rfl, trivial⟩ _ h r hk
                      · replace h := if_f b81 h
                        refine Ru.br2 (k := .ne) (off := 7) (bb := true) (tg := 247) (by decide +kernel) (by decide +kernel) (ci_ne1 g6 (by decide) b81) rfl ?_
                        refine Ru.kI (q := (.iconst 0, 1)) (c := 0) (pc' := 248) (by decide +kernel) rfl (by decide) rfl ?_
                        by_cases b83 : v2 = 0
                        · replace h := if_t b83 h
                          refine Ru.br2 (k := .eq) (off := 7) (bb := true) (tg := 255) (by decide +kernel) (by decide +kernel) (ci_eq1 g68 (by decide) b83) rfl ?_
                          refine Ru.kI (q := (.iconst 0, 1)) (c := 0) (pc' := 256) (by decide +kernel) rfl (by decide) rfl ?_
                          refine Ru.op (q := (.istore_n 2, 1)) (S' := (257, [some (.ref 36), d1, some (vI 0), some (vI (v3 + 1)), some (vI v4), some (vI v5), some (vI o4)], [], _, _)) (by decide +kernel) (st_in (mn_st1_D (Nat.le_of_ble_eq_true rfl) hdd.1 rfl)) ?_
                          refine Ru.op (q := (.goto 8, 3)) (S' := (265, _, _, _, _)) (by decide +kernel) rfl ?_
                          refine Ru.op (q := (.goto (-255), 3)) (S' := (10, _, _, _, _)) (by decide +kernel) rfl ?_
                          exact ih _ _ _ _ _ _ _ ⟨hdd.1, rfl, trivial⟩ _ h r hk
                        · replace h := if_f b83 h
                          refine Ru.br2 (k := .eq) (off := 7) (bb := false) (tg := 251) (by decide +kernel) (by decide +kernel) (ci_eq0 g68 (by decide) b83) rfl ?_
                          refine Ru.kI (q := (.iconst 1, 1)) (c := 1) (pc' := 252) (by decide +kernel) rfl (by decide) rfl ?_
                          refine Ru.op (q := (.goto 4, 3)) (S' := (256, _, _, _, _)) (by decide +kernel) rfl ?_
                          refine Ru.op (q := (.istore_n 2, 1)) (S' := (257, [some (.ref 36), d1, some (vI 1), some (vI (v3 + 1)), some (vI v4), some (vI v5), some (vI o4)], [], _, _)) (by decide +kernel) (st_in (mn_st1_D (Nat.le_of_ble_eq_true rfl) hdd.1 rfl)) ?_
                          refine Ru.op (q := (.goto 8, 3)) (S' := (265, _, _, _, _)) (by decide +kernel) rfl ?_
                          refine Ru.op (q := (.goto (-255), 3)) (S' := (10, _, _, _, _)) (by decide +kernel) rfl ?_
                          exact ih _ _ _ _ _ _ _ ⟨hdd.1, rfl, trivial⟩ _ h r hk
                · replace h := if_f b67 h
                  refine Ru.br2 (k := .eq) (off := 10) (bb := false) (tg := 184) (by decide +kernel) (by decide +kernel) (ci_eq0 g6 (by decide) b67) rfl ?_
                  refine Ru.op (q := (.iload 6, 2)) (S' := (186, _, _, _, _)) (by decide +kernel) rfl ?_
                  refine Ru.kI (q := (.bipush 63, 2)) (c := 63) (pc' := 188) (by decide +kernel) rfl (by decide) rfl ?_
                  by_cases b84 : o4 = 63
                  · replace h := if_t b84 h
                    refine Ru.br2 (k := .ne) (off := 28) (bb := false) (tg := 191) (by decide +kernel) (by decide +kernel) (ci_ne0 g6 (by decide) b84) rfl ?_
                    refine Ru.op (q := (.aload_n 0, 1)) (S' := (192, _, _, _, _)) (by decide +kernel) rfl ?_
                    refine Ru.op (q := (.iload 6, 2)) (S' := (194, _, _, _, _)) (by decide +kernel) rfl ?_
                    refine Ru.kI (q := (.bipush 33, 2)) (c := 33) (pc' := 196) (by decide +kernel) rfl (by decide) rfl ?_
                    refine Ru.br2 (k := .ne) (off := 7) (bb := true) (tg := 203) (by decide +kernel) (by decide +kernel) (ci_ne1 g6 (by decide) b67) rfl ?_
                    refine Ru.kI (q := (.iconst 0, 1)) (c := 0) (pc' := 204) (by decide +kernel) rfl (by decide) rfl ?_
                    refine Ru.op (q := (.iload_n 2, 1)) (S' := (205, _, _, _, _)) (by decide +kernel) rfl ?_
                    obtain ⟨g85, h⟩ := gd_some h
                    by_cases b86 : 0 = v2
                    · replace h := if_t b86 h
                      refine Ru.br2 (k := .eq) (off := 7) (bb := true) (tg := 212) (by decide +kernel) (by decide +kernel) (ci_eq1 (by decide) g85 b86) rfl ?_
                      refine Ru.kI (q := (.iconst 0, 1)) (c := 0) (pc' := 213) (by decide +kernel) rfl (by decide) rfl ?_
                      obtain ⟨o87, e88, h⟩ := ob_some h
                      refine Ru.vcallI (pc' := 216) (st' := []) (i := 224) (j2 := 116) (ci := 10) (k := 0) (z := 0) (as := [vI 0]) (by decide +kernel) (by decide +kernel) rfl rfl (hp36 _) (by decide) ⟨(Nat.le_of_ble_eq_true rfl), (by show 19 + 3 ≤ 353; exact Nat.le_of_ble_eq_true rfl), Nat.le_of_ble_eq_true rfl, Nat.le_of_ble_eq_true rfl⟩ ((g116_ok e88).up (Nat.le_of_ble_eq_true rfl) (Nat.le_of_ble_eq_true rfl)) rfl rfl ?_
                      refine Ru.op (q := (.iload 6, 2)) (S' := (218, _, _, _, _)) (by decide +kernel) rfl ?_
                      refine Ru.kI (q := (.bipush 126, 2)) (c := 126) (pc' := 220) (by decide +kernel) rfl (by decide) rfl ?_
                      by_cases b89 : o4 = 126
                      · replace h := if_t b89 h
                        refine Ru.br2 (k := .ne) (off := 15) (bb := false) (tg := 223) (by decide +kernel) (by decide +kernel) (ci_ne0 g6 (by decide) b89) rfl ?_
                        refine Ru.op (q := (.iload_n 2, 1)) (S' := (224, _, _, _, _)) (by decide +kernel) rfl ?_
                        by_cases b90 : v2 = 0
                        · replace h := if_t b90 h
                          refine Ru.br (k := .ne) (off := 7) (bb := false) (tg := 227) (by decide +kernel) (by decide +kernel) (cz (ci_ne0 g85 (by decide) b90)) rfl ?_
                          refine Ru.kI (q := (.iconst 1, 1)) (c := 1) (pc' := 228) (by decide +kernel) rfl (by decide) rfl ?_
                          refine Ru.op (q := (.goto 28, 3)) (S' := (256, _, _, _, _)) (by decide +kernel) rfl ?_
                          refine Ru.op (q := (.istore_n 2, 1)) (S' := (257, [some (.ref 36), d1, some (vI 1), some (vI (v3 + 1)), some (vI v4), some (vI v5), some (vI o4)], [], _, _)) (by decide +kernel) (st_in (mn_st1_D (Nat.le_of_ble_eq_true rfl) hdd.1 rfl)) ?_
                          refine Ru.op (q := (.goto 8, 3)) (S' := (265, _, _, _, _)) (by decide +kernel) rfl ?_
                          refine Ru.op (q := (.goto (-255), 3)) (S' := (10, _, _, _, _)) (by decide +kernel) rfl ?_
                          exact ih _ _ _ _ _ _ _ ⟨hdd.1, rfl, trivial⟩ _ h r hk
                        · replace h := if_f b90 h
                          refine Ru.br (k := .ne) (off := 7) (bb := true) (tg := 231) (by decide +kernel) (by decide +kernel) (cz (ci_ne1 g85 (by decide) b90)) rfl ?_
                          refine Ru.kI (q := (.iconst 0, 1)) (c := 0) (pc' := 232) (by decide +kernel) rfl (by decide) rfl ?_
                          refine Ru.op (q := (.goto 24, 3)) (S' := (256, _, _, _, _)) (by decide +kernel) rfl ?_
                          refine Ru.op (q := (.istore_n 2, 1)) (S' := (257, [some (.ref 36), d1, some (vI 0), some (vI (v3 + 1)), some (vI v4), some (vI v5), some (vI o4)], [], _, _)) (by decide +kernel) (st_in (mn_st1_D (Nat.le_of_ble_eq_true rfl) hdd.1 rfl)) ?_
                          refine Ru.op (q := (.goto 8, 3)) (S' := (265, _, _, _, _)) (by decide +kernel) rfl ?_
                          refine Ru.op (q := (.goto (-255), 3)) (S' := (10, _, _, _, _)) (by decide +kernel) rfl ?_
                          exact ih _ _ _ _ _ _ _ ⟨hdd.1, rfl, trivial⟩ _ h r hk
                      · replace h := if_f b89 h
                        refine Ru.br2 (k := .ne) (off := 15) (bb := true) (tg := 235) (by decide +kernel) (by decide +kernel) (ci_ne1 g6 (by decide) b89) rfl ?_
                        refine Ru.op (q := (.iload_n 2, 1)) (S' := (236, _, _, _, _)) (by decide +kernel) rfl ?_
                        refine Ru.op (q := (.iload 6, 2)) (S' := (238, _, _, _, _)) (by decide +kernel) rfl ?_
                        refine Ru.kI (q := (.bipush 62, 2)) (c := 62) (pc' := 240) (by decide +kernel) rfl (by decide) rfl ?_
                        by_cases b91 : o4 = 62
                        · replace h := if_t b91 h
                          refine Ru.br2 (k := .ne) (off := 7) (bb := false) (tg := 243) (by decide +kernel) (by decide +kernel) (ci_ne0 g6 (by decide) b91) rfl ?_
                          refine Ru.kI (q := (.iconst 1, 1)) (c := 1) (pc' := 244) (by decide +kernel) rfl (by decide) rfl ?_
                          refine Ru.op (q := (.goto 4, 3)) (S' := (248, _, _, _, _)) (by decide +kernel) rfl ?_
                          by_cases b92 : v2 = 1
                          · replace h := if_t b92 h
                            refine Ru.br2 (k := .eq) (off := 7) (bb := true) (tg := 255) (by decide +kernel) (by decide +kernel) (ci_eq1 g85 (by decide) b92) rfl ?_
                            refine Ru.kI (q := (.iconst 0, 1)) (c := 0) (pc' := 256) (by decide +kernel) rfl (by decide) rfl ?_
                            refine Ru.op (q := (.istore_n 2, 1)) (S' := (257, [some (.ref 36), d1, some (vI 0), some (vI (v3 + 1)), some (vI v4), some (vI v5), some (vI o4)], [], _, _)) (by decide +kernel) (st_in (mn_st1_D (Nat.le_of_ble_eq_true rfl) hdd.1 rfl)) ?_
                            refine Ru.op (q := (.goto 8, 3)) (S' := (265, _, _, _, _)) (by decide +kernel) rfl ?_
                            refine Ru.op (q := (.goto (-255), 3)) (S' := (10, _, _, _, _)) (by decide +kernel) rfl ?_
                            exact ih _ _ _ _ _ _ _ ⟨hdd.1, rfl, trivial⟩ _ h r hk
                          · replace h := if_f b92 h
                            refine Ru.br2 (k := .eq) (off := 7) (bb := false) (tg := 251) (by decide +kernel) (by decide +kernel) (ci_eq0 g85 (by decide) b92) rfl ?_
                            refine Ru.kI (q := (.iconst 1, 1)) (c := 1) (pc' := 252) (by decide +kernel) rfl (by decide) rfl ?_
                            refine Ru.op (q := (.goto 4, 3)) (S' := (256, _, _, _, _)) (by decide +kernel) rfl ?_
                            refine Ru.op (q := (.istore_n 2, 1)) (S' := (257, [some (.ref 36), d1, some (vI 1), some (vI (v3 + 1)), some (vI v4), some (vI v5), some (vI o4)], [], _, _)) (by decide +kernel) (st_in (mn_st1_D (Nat.le_of_ble_eq_true rfl) hdd.1 rfl)) ?_
                            refine Ru.op (q := (.goto 8, 3)) (S' := (265, _, _, _, _)) (by decide +kernel) rfl ?_
                            refine Ru.op (q := (.goto (-255), 3)) (S' := (10, _, _, _, _)) (by decide +kernel) rfl ?_
                            exact ih _ _ _ _ _ _ _ ⟨hdd.1, rfl, trivial⟩ _ h r hk
                        · replace h := if_f b91 h
                          refine Ru.br2 (k := .ne) (off := 7) (bb := true) (tg := 247) (by decide +kernel) (by decide +kernel) (ci_ne1 g6 (by decide) b91) rfl ?_
                          refine Ru.kI (q := (.iconst 0, 1)) (c := 0) (pc' := 248) (by decide +kernel) rfl (by decide) rfl ?_
                          by_cases b93 : v2 = 0
                          · replace h := if_t b93 h
                            refine Ru.br2 (k := .eq) (off := 7) (bb := true) (tg := 255) (by decide +kernel) (by decide +kernel) (ci_eq1 g85 (by decide) b93) rfl ?_
                            refine Ru.kI (q := (.iconst 0, 1)) (c := 0) (pc' := 256) (by decide +kernel) rfl (by decide) rfl ?_
                            refine Ru.op (q := (.istore_n 2, 1)) (S' := (257, [some (.ref 36), d1, some (vI 0), some (vI (v3 + 1)), some (vI v4), some (vI v5), some (vI o4)], [], _, _)) (by decide +kernel) (st_in (mn_st1_D (Nat.le_of_ble_eq_true rfl) hdd.1 rfl)) ?_
                            refine Ru.op (q := (.goto 8, 3)) (S' := (265, _, _, _, _)) (by decide +kernel) rfl ?_
                            refine Ru.op (q := (.goto (-255), 3)) (S' := (10, _, _, _, _)) (by decide +kernel) rfl ?_
                            exact ih _ _ _ _ _ _ _ ⟨hdd.1, rfl, trivial⟩ _ h r hk
                          · replace h := if_f b93 h
                            refine Ru.br2 (k := .eq) (off := 7) (bb := false) (tg := 251) (by decide +kernel) (by decide +kernel) (ci_eq0 g85 (by decide) b93) rfl ?_
                            refine Ru.kI (q := (.iconst 1, 1)) (c := 1) (pc' := 252) (by decide +kernel) rfl (by decide) rfl ?_
                            refine Ru.op (q := (.goto 4, 3)) (S' := (256, _, _, _, _)) (by decide +kernel) rfl ?_
                            refine Ru.op (q := (.istore_n 2, 1)) (S' := (257, [some (.ref 36), d1, some (vI 1), some (vI (v3 + 1)), some (vI v4), some (vI v5), some (vI o4)], [], _, _)) (by decide +kernel) (st_in (mn_st1_D (Nat.le_of_ble_eq_true rfl) hdd.1 rfl)) ?_
                            refine Ru.op (q := (.goto 8, 3)) (S' := (265, _, _, _, _)) (by decide +kernel) rfl ?_
                            refine Ru.op (q := (.goto (-255), 3)) (S' := (10, _, _, _, _)) (by decide +kernel) rfl ?_
                            exact ih _ _ _ _ _ _ _ ⟨hdd.1, rfl, trivial⟩ _ h r hk
                    · replace h := if_f b86 h
                      refine Ru.br2 (k := .eq) (off := 7) (bb := false) (tg := 208) (by decide +kernel) (by decide +kernel) (ci_eq0 (by decide) g85 b86) rfl ?_
                      refine Ru.kI (q := (.iconst 1, 1)) (c := 1) (pc' := 209) (by decide +kernel) rfl (by decide) rfl ?_
                      refine Ru.op (q := (.goto 4, 3)) (S' := (213, _, _, _, _)) (by decide +kernel) rfl ?_
                      obtain ⟨o94, e95, h⟩ := ob_some h
                      refine Ru.vcallI (pc' := 216) (st' := []) (i := 224) (j2 := 116) (ci := 10) (k := 0) (z := 0) (as := [vI 1]) (by decide +kernel) (by decide +kernel) rfl rfl (hp36 _) (by decide) ⟨(Nat.le_of_ble_eq_true rfl), (by show 19 + 3 ≤ 353; exact Nat.le_of_ble_eq_true rfl), Nat.le_of_ble_eq_true rfl, Nat.le_of_ble_eq_true rfl⟩ ((g116_ok e95).up (Nat.le_of_ble_eq_true rfl) (Nat.le_of_ble_eq_true rfl)) rfl rfl ?_
                      refine Ru.op (q := (.iload 6, 2)) (S' := (218, _, _, _, _)) (by decide +kernel) rfl ?_
                      refine Ru.kI (q := (.bipush 126, 2)) (c := 126) (pc' := 220) (by decide +kernel) rfl (by decide) rfl ?_
                      by_cases b96 : o4 = 126
                      · replace h := if_t b96 h
                        refine Ru.br2 (k := .ne) (off := 15) (bb := false) (tg := 223) (by decide +kernel) (by decide +kernel) (ci_ne0 g6 (by decide) b96) rfl ?_
                        refine Ru.op (q := (.iload_n 2, 1)) (S' := (224, _, _, _, _)) (by decide +kernel) rfl ?_
                        by_cases b97 : v2 = 0
                        · replace h := if_t b97 h
                          refine Ru.br (k := .ne) (off := 7) (bb := false) (tg := 227) (by decide +kernel) (by decide +kernel) (cz (ci_ne0 g85 (by decide) b97)) rfl ?_
                          refine Ru.kI (q := (.iconst 1, 1)) (c := 1) (pc' := 228) (by decide +kernel) rfl (by decide) rfl ?_
                          refine Ru.op (q := (.goto 28, 3)) (S' := (256, _, _, _, _)) (by decide +kernel) rfl ?_
                          refine Ru.op (q := (.istore_n 2, 1)) (S' := (257, [some (.ref 36), d1, some (vI 1), some (vI (v3 + 1)), some (vI v4), some (vI v5), some (vI o4)], [], _, _)) (by decide +kernel) (st_in (mn_st1_D (Nat.le_of_ble_eq_true rfl) hdd.1 rfl)) ?_
                          refine Ru.op (q := (.goto 8, 3)) (S' := (265, _, _, _, _)) (by decide +kernel) rfl ?_
                          refine Ru.op (q := (.goto (-255), 3)) (S' := (10, _, _, _, _)) (by decide +kernel) rfl ?_
                          exact ih _ _ _ _ _ _ _ ⟨hdd.1, rfl, trivial⟩ _ h r hk
                        · replace h := if_f b97 h
                          refine Ru.br (k := .ne) (off := 7) (bb := true) (tg := 231) (by decide +kernel) (by decide +kernel) (cz (ci_ne1 g85 (by decide) b97)) rfl ?_
                          refine Ru.kI (q := (.iconst 0, 1)) (c := 0) (pc' := 232) (by decide +kernel) rfl (by decide) rfl ?_
                          refine Ru.op (q := (.goto 24, 3)) (S' := (256, _, _, _, _)) (by decide +kernel) rfl ?_
                          refine Ru.op (q := (.istore_n 2, 1)) (S' := (257, [some (.ref 36), d1, some (vI 0), some (vI (v3 + 1)), some (vI v4), some (vI v5), some (vI o4)], [], _, _)) (by decide +kernel) (st_in (mn_st1_D (Nat.le_of_ble_eq_true rfl) hdd.1 rfl)) ?_
                          refine Ru.op (q := (.goto 8, 3)) (S' := (265, _, _, _, _)) (by decide +kernel) rfl ?_
                          refine Ru.op (q := (.goto (-255), 3)) (S' := (10, _, _, _, _)) (by decide +kernel) rfl ?_
                          exact ih _ _ _ _ _ _ _ ⟨hdd.1, rfl, trivial⟩ _ h r hk
                      · replace h := if_f b96 h
                        refine Ru.br2 (k := .ne) (off := 15) (bb := true) (tg := 235) (by decide +kernel) (by decide +kernel) (ci_ne1 g6 (by decide) b96) rfl ?_
                        refine Ru.op (q := (.iload_n 2, 1)) (S' := (236, _, _, _, _)) (by decide +kernel) rfl ?_
                        refine Ru.op (q := (.iload 6, 2)) (S' := (238, _, _, _, _)) (by decide +kernel) rfl ?_
                        refine Ru.kI (q := (.bipush 62, 2)) (c := 62) (pc' := 240) (by decide +kernel) rfl (by decide) rfl ?_
                        by_cases b98 : o4 = 62
                        · replace h := if_t b98 h
                          refine Ru.br2 (k := .ne) (off := 7) (bb := false) (tg := 243) (by decide +kernel) (by decide +kernel) (ci_ne0 g6 (by decide) b98) rfl ?_
                          refine Ru.kI (q := (.iconst 1, 1)) (c := 1) (pc' := 244) (by decide +kernel) rfl (by decide) rfl ?_
                          refine Ru.op (q := (.goto 4, 3)) (S' := (248, _, _, _, _)) (by decide +kernel) rfl ?_
                          by_cases b99 : v2 = 1
                          · replace h := if_t b99 h
                            refine Ru.br2 (k := .eq) (off := 7) (bb := true) (tg := 255) (by decide +kernel) (by decide +kernel) (ci_eq1 g85 (by decide) b99) rfl ?_
                            refine Ru.kI (q := (.iconst 0, 1)) (c := 0) (pc' := 256) (by decide +kernel) rfl (by decide) rfl ?_
                            refine Ru.op (q := (.istore_n 2, 1)) (S' := (257, [some (.ref 36), d1, some (vI 0), some (vI (v3 + 1)), some (vI v4), some (vI v5), some (vI o4)], [], _, _)) (by decide +kernel) (st_in (mn_st1_D (Nat.le_of_ble_eq_true rfl) hdd.1 rfl)) ?_
                            refine Ru.op (q := (.goto 8, 3)) (S' := (265, _, _, _, _)) (by decide +kernel) rfl ?_
                            refine Ru.op (q := (.goto (-255), 3)) (S' := (10, _, _, _, _)) (by decide +kernel) rfl ?_
                            exact ih _ _ _ _ _ _ _ ⟨hdd.1, rfl, trivial⟩ _ h r hk
                          · replace h := if_f b99 h
                            refine Ru.br2 (k := .eq) (off := 7) (bb := false) (tg := 251) (by decide +kernel) (by decide +kernel) (ci_eq0 g85 (by decide) b99) rfl ?_
                            refine Ru.kI (q := (.iconst 1, 1)) (c := 1) (pc' := 252) (by decide +kernel) rfl (by decide) rfl ?_
                            refine Ru.op (q := (.goto 4, 3)) (S' := (256, _, _, _, _)) (by decide +kernel) rfl ?_
                            refine Ru.op (q := (.istore_n 2, 1)) (S' := (257, [some (.ref 36), d1, some (vI 1), some (vI (v3 + 1)), some (vI v4), some (vI v5), some (vI o4)], [], _, _)) (by decide +kernel) (st_in (mn_st1_D (Nat.le_of_ble_eq_true rfl) hdd.1 rfl)) ?_
                            refine Ru.op (q := (.goto 8, 3)) (S' := (265, _, _, _, _)) (by decide +kernel) rfl ?_
                            refine Ru.op (q := (.goto (-255), 3)) (S' := (10, _, _, _, _)) (by decide +kernel) rfl ?_
                            exact ih _ _ _ _ _ _ _ ⟨hdd.1, rfl, trivial⟩ _ h r hk
                        · replace h := if_f b98 h
                          refine Ru.br2 (k := .ne) (off := 7) (bb := true) (tg := 247) (by decide +kernel) (by decide +kernel) (ci_ne1 g6 (by decide) b98) rfl ?_
                          refine Ru.kI (q := (.iconst 0, 1)) (c := 0) (pc' := 248) (by decide +kernel) rfl (by decide) rfl ?_
                          by_cases b100 : v2 = 0
                          · replace h := if_t b100 h
                            refine Ru.br2 (k := .eq) (off := 7) (bb := true) (tg := 255) (by decide +kernel) (by decide +kernel) (ci_eq1 g85 (by decide) b100) rfl ?_
                            refine Ru.kI (q := (.iconst 0, 1)) (c := 0) (pc' := 256) (by decide +kernel) rfl (by decide) rfl ?_
                            refine Ru.op (q := (.istore_n 2, 1)) (S' := (257, [some (.ref 36), d1, some (vI 0), some (vI (v3 + 1)), some (vI v4), some (vI v5), some (vI o4)], [], _, _)) (by decide +kernel) (st_in (mn_st1_D (Nat.le_of_ble_eq_true rfl) hdd.1 rfl)) ?_
                            refine Ru.op (q := (.goto 8, 3)) (S' := (265, _, _, _, _)) (by decide +kernel) rfl ?_
                            refine Ru.op (q := (.goto (-255), 3)) (S' := (10, _, _, _, _)) (by decide +kernel) rfl ?_
                            exact ih _ _ _ _ _ _ _ ⟨hdd.1, rfl, trivial⟩ _ h r hk
                          · replace h := if_f b100 h
                            refine Ru.br2 (k := .eq) (off := 7) (bb := false) (tg := 251) (by decide +kernel) (by decide +kernel) (ci_eq0 g85 (by decide) b100) rfl ?_
                            refine Ru.kI (q := (.iconst 1, 1)) (c := 1) (pc' := 252) (by decide +kernel) rfl (by decide) rfl ?_
                            refine Ru.op (q := (.goto 4, 3)) (S' := (256, _, _, _, _)) (by decide +kernel) rfl ?_
                            refine Ru.op (q := (.istore_n 2, 1)) (S' := (257, [some (.ref 36), d1, some (vI 1), some (vI (v3 + 1)), some (vI v4), some (vI v5), some (vI o4)], [], _, _)) (by decide +kernel) (st_in (mn_st1_D (Nat.le_of_ble_eq_true rfl) hdd.1 rfl)) ?_
                            refine Ru.op (q := (.goto 8, 3)) (S' := (265, _, _, _, _)) (by decide +kernel) rfl ?_
                            refine Ru.op (q := (.goto (-255), 3)) (S' := (10, _, _, _, _)) (by decide +kernel) rfl ?_
                            exact ih _ _ _ _ _ _ _ ⟨hdd.1, rfl, trivial⟩ _ h r hk
                  · replace h := if_f b84 h
                    refine Ru.br2 (k := .ne) (off := 28) (bb := true) (tg := 216) (by decide +kernel) (by decide +kernel) (ci_ne1 g6 (by decide) b84) rfl ?_
                    refine Ru.op (q := (.iload 6, 2)) (S' := (218, _, _, _, _)) (by decide +kernel) rfl ?_
                    refine Ru.kI (q := (.bipush 126, 2)) (c := 126) (pc' := 220) (by decide +kernel) rfl (by decide) rfl ?_
                    by_cases b101 : o4 = 126
                    · replace h := if_t b101 h
                      refine Ru.br2 (k := .ne) (off := 15) (bb := false) (tg := 223) (by decide +kernel) (by decide +kernel) (ci_ne0 g6 (by decide) b101) rfl ?_
                      refine Ru.op (q := (.iload_n 2, 1)) (S' := (224, _, _, _, _)) (by decide +kernel) rfl ?_
                      obtain ⟨g102, h⟩ := gd_some h
                      by_cases b103 : v2 = 0
                      · replace h := if_t b103 h
                        refine Ru.br (k := .ne) (off := 7) (bb := false) (tg := 227) (by decide +kernel) (by decide +kernel) (cz (ci_ne0 g102 (by decide) b103)) rfl ?_
                        refine Ru.kI (q := (.iconst 1, 1)) (c := 1) (pc' := 228) (by decide +kernel) rfl (by decide) rfl ?_
                        refine Ru.op (q := (.goto 28, 3)) (S' := (256, _, _, _, _)) (by decide +kernel) rfl ?_
                        refine Ru.op (q := (.istore_n 2, 1)) (S' := (257, [some (.ref 36), d1, some (vI 1), some (vI (v3 + 1)), some (vI v4), some (vI v5), some (vI o4)], [], _, _)) (by decide +kernel) (st_in (mn_st1_D (Nat.le_of_ble_eq_true rfl) hdd.1 rfl)) ?_
                        refine Ru.op (q := (.goto 8, 3)) (S' := (265, _, _, _, _)) (by decide +kernel) rfl ?_
                        refine Ru.op (q := (.goto (-255), 3)) (S' := (10, _, _, _, _)) (by decide +kernel) rfl ?_
                        exact ih _ _ _ _ _ _ _ ⟨hdd.1, rfl, trivial⟩ _ h r hk
                      · replace h := if_f b103 h
                        refine Ru.br (k := .ne) (off := 7) (bb := true) (tg := 231) (by decide +kernel) (by decide +kernel) (cz (ci_ne1 g102 (by decide) b103)) rfl ?_
                        refine Ru.kI (q := (.iconst 0, 1)) (c := 0) (pc' := 232) (by decide +kernel) rfl (by decide) rfl ?_
                        refine Ru.op (q := (.goto 24, 3)) (S' := (256, _, _, _, _)) (by decide +kernel) rfl ?_
                        refine Ru.op (q := (.istore_n 2, 1)) (S' := (257, [some (.ref 36), d1, some (vI 0), some (vI (v3 + 1)), some (vI v4), some (vI v5), some (vI o4)], [], _, _)) (by decide +kernel) (st_in (mn_st1_D (Nat.le_of_ble_eq_true rfl) hdd.1 rfl)) ?_
                        refine Ru.op (q := (.goto 8, 3)) (S' := (265, _, _, _, _)) (by decide +kernel) rfl ?_
                        refine Ru.op (q := (.goto (-255), 3)) (S' := (10, _, _, _, _)) (by decide +kernel) rfl ?_
                        exact ih _ _ _ _ _ _ _ ⟨hdd.1, rfl, trivial⟩ _ h r hk
                    · replace h := if_f b101 h
                      refine Ru.br2 (k := .ne) (off := 15) (bb := true) (tg := 235) (by decide +kernel) (by decide +kernel) (ci_ne1 g6 (by decide) b101) rfl ?_
                      refine Ru.op (q := (.iload_n 2, 1)) (S' := (236, _, _, _, _)) (by decide +kernel) rfl ?_
                      refine Ru.op (q := (.iload 6, 2)) (S' := (238, _, _, _, _)) (by decide +kernel) rfl ?_
                      refine Ru.kI (q := (.bipush 62, 2)) (c := 62) (pc' := 240) (by decide +kernel) rfl (by decide) rfl ?_
                      by_cases b104 : o4 = 62
                      · replace h := if_t b104 h
                        refine Ru.br2 (k := .ne) (off := 7) (bb := false) (tg := 243) (by decide +kernel) (by decide +kernel) (ci_ne0 g6 (by decide) b104) rfl ?_
                        refine Ru.kI (q := (.iconst 1, 1)) (c := 1) (pc' := 244) (by decide +kernel) rfl (by decide) rfl ?_
                        refine Ru.op (q := (.goto 4, 3)) (S' := (248, _, _, _, _)) (by decide +kernel) rfl ?_
                        obtain ⟨g105, h⟩ := gd_some h
                        by_cases b106 : v2 = 1
                        · replace h := if_t b106 h
                          refine Ru.br2 (k := .eq) (off := 7) (bb := true) (tg := 255) (by decide +kernel) (by decide +kernel) (ci_eq1 g105 (by decide) b106) rfl ?_
                          refine Ru.kI (q := (.iconst 0, 1)) (c := 0) (pc' := 256) (by decide +kernel) rfl (by decide) rfl ?_
                          refine Ru.op (q := (.istore_n 2, 1)) (S' := (257, [some (.ref 36), d1, some (vI 0), some (vI (v3 + 1)), some (vI v4), some (vI v5), some (vI o4)], [], _, _)) (by decide +kernel) (st_in (mn_st1_D (Nat.le_of_ble_eq_true rfl) hdd.1 rfl)) ?_
                          refine Ru.op (q := (.goto 8, 3)) (S' := (265, _, _, _, _)) (by decide +kernel) rfl ?_
                          refine Ru.op (q := (.goto (-255), 3)) (S' := (10, _, _, _, _)) (by decide +kernel) rfl ?_
                          exact ih _ _ _ _ _ _ _ ⟨hdd.1, rfl, trivial⟩ _ h r hk
                        · replace h := if_f b106 h
                          refine Ru.br2 (k := .eq) (off := 7) (bb := false) (tg := 251) (by decide +kernel) (by decide +kernel) (ci_eq0 g105 (by decide) b106) rfl ?_
                          refine Ru.kI (q := (.iconst 1, 1)) (c := 1) (pc' := 252) (by decide +kernel) rfl (by decide) rfl ?_
                          refine Ru.op (q := (.goto 4, 3)) (S' := (256, _, _, _, _)) (by decide +kernel) rfl ?_
                          refine Ru.op (q := (.istore_n 2, 1)) (S' := (257, [some (.ref 36), d1, some (vI 1), some (vI (v3 + 1)), some (vI v4), some (vI v5), some (vI o4)], [], _, _)) (by decide +kernel) (st_in (mn_st1_D (Nat.le_of_ble_eq_true rfl) hdd.1 rfl)) ?_
                          refine Ru.op (q := (.goto 8, 3)) (S' := (265, _, _, _, _)) (by decide +kernel) rfl ?_
                          refine Ru.op (q := (.goto (-255), 3)) (S' := (10, _, _, _, _)) (by decide +kernel) rfl ?_
                          exact ih _ _ _ _ _ _ _ ⟨hdd.1, rfl, trivial⟩ _ h r hk
                      · replace h := if_f b104 h
                        refine Ru.br2 (k := .ne) (off := 7) (bb := true) (tg := 247) (by decide +kernel) (by decide +kernel) (ci_ne1 g6 (by decide) b104) rfl ?_
                        refine Ru.kI (q := (.iconst 0, 1)) (c := 0) (pc' := 248) (by decide +kernel) rfl (by decide) rfl ?_
                        obtain ⟨g107, h⟩ := gd_some h
                        by_cases b108 : v2 = 0
                        · replace h := if_t b108 h
                          refine Ru.br2 (k := .eq) (off := 7) (bb := true) (tg := 255) (by decide +kernel) (by decide +kernel) (ci_eq1 g107 (by decide) b108) rfl ?_
                          refine Ru.kI (q := (.iconst 0, 1)) (c := 0) (pc' := 256) (by decide +kernel) rfl (by decide) rfl ?_
                          refine Ru.op (q := (.istore_n 2, 1)) (S' := (257, [some (.ref 36), d1, some (vI 0), some (vI (v3 + 1)), some (vI v4), some (vI v5), some (vI o4)], [], _, _)) (by decide +kernel) (st_in (mn_st1_D (Nat.le_of_ble_eq_true rfl) hdd.1 rfl)) ?_
                          refine Ru.op (q := (.goto 8, 3)) (S' := (265, _, _, _, _)) (by decide +kernel) rfl ?_
                          refine Ru.op (q := (.goto (-255), 3)) (S' := (10, _, _, _, _)) (by decide +kernel) rfl ?_
                          exact ih _ _ _ _ _ _ _ ⟨hdd.1, rfl, trivial⟩ _ h r hk
                        · replace h := if_f b108 h
                          refine Ru.br2 (k := .eq) (off := 7) (bb := false) (tg := 251) (by decide +kernel) (by decide +kernel) (ci_eq0 g107 (by decide) b108) rfl ?_
                          refine Ru.kI (q := (.iconst 1, 1)) (c := 1) (pc' := 252) (by decide +kernel) rfl (by decide) rfl ?_
                          refine Ru.op (q := (.goto 4, 3)) (S' := (256, _, _, _, _)) (by decide +kernel) rfl ?_
                          refine Ru.op (q := (.istore_n 2, 1)) (S' := (257, [some (.ref 36), d1, some (vI 1), some (vI (v3 + 1)), some (vI v4), some (vI v5), some (vI o4)], [], _, _)) (by decide +kernel) (st_in (mn_st1_D (Nat.le_of_ble_eq_true rfl) hdd.1 rfl)) ?_
                          refine Ru.op (q := (.goto 8, 3)) (S' := (265, _, _, _, _)) (by decide +kernel) rfl ?_
                          refine Ru.op (q := (.goto (-255), 3)) (S' := (10, _, _, _, _)) (by decide +kernel) rfl ?_
                          exact ih _ _ _ _ _ _ _ ⟨hdd.1, rfl, trivial⟩ _ h r hk
              · replace h := if_f b64 h
                refine Ru.br2 (k := .ge) (off := 121) (bb := true) (tg := 260) (by decide +kernel) (by decide +kernel) (ci_ge1 g63 (by decide) b64) rfl ?_
                refine Ru.op (q := (.aload_n 0, 1)) (S' := (261, _, _, _, _)) (by decide +kernel) rfl ?_
                refine Ru.kI (q := (.iconst 1, 1)) (c := 1) (pc' := 262) (by decide +kernel) rfl (by decide) rfl ?_
                refine Ru.putH (pc' := 265) (i := 151) (ci := 10) (k := 28) (nn := 0) (z := 0) (by decide +kernel) (by decide +kernel) (hp36 _) (by decide) (Nat.le_of_ble_eq_true rfl) (fk_b (by decide)) (by decide +kernel) (pf_36_28 _ _) rfl ?_
                refine Ru.op (q := (.goto (-255), 3)) (S' := (10, _, _, _, _)) (by decide +kernel) rfl ?_
                exact ih _ _ _ _ _ _ _ ⟨hdd.1, rfl, trivial⟩ _ h r hk
          · replace h := if_f b58 h
            refine Ru.br2 (k := .gt) (off := 88) (bb := false) (tg := 42) (by decide +kernel) (by decide +kernel) (ci_gt0 g6 (by decide) b58) rfl ?_
            refine Ru.op (q := (.aload_n 0, 1)) (S' := (43, _, _, _, _)) (by decide +kernel) rfl ?_
            refine Ru.op (q := (.iload_n 2, 1)) (S' := (44, _, _, _, _)) (by decide +kernel) rfl ?_
            obtain ⟨o109, e110, h⟩ := ob_some h
            refine Ru.vcallI (pc' := 47) (st' := []) (i := 207) (j2 := 103) (ci := 10) (k := 0) (z := 0) (as := [vI v2]) (by decide +kernel) (by decide +kernel) rfl rfl (hp36 _) (by decide) ⟨(Nat.le_of_ble_eq_true rfl), (by show 19 + 2 ≤ 353; exact Nat.le_of_ble_eq_true rfl), Nat.le_of_ble_eq_true rfl, Nat.le_of_ble_eq_true rfl⟩ ((g103_ok e110).up (Nat.le_of_ble_eq_true rfl) (Nat.le_of_ble_eq_true rfl)) rfl rfl ?_
            refine Ru.op (q := (.aload_n 0, 1)) (S' := (48, _, _, _, _)) (by decide +kernel) rfl ?_
            refine Ru.getI (pc' := 51) (i := 192) (ci := 10) (k := 36) (nn := 0) (z := 0) (x := (o109.F 36 36)) (by decide +kernel) (by decide +kernel) (hp36 _) (by decide) rfl (eI_of _) rfl ?_
            by_cases b111 : (o109.F 36 36) = 0
            · replace h := if_t b111 h
              refine Ru.br (k := .ne) (off := 10) (bb := false) (tg := 54) (by decide +kernel) (by decide +kernel) (cz (ci_ne0 (inR_to _) (by decide) b111)) rfl ?_
              refine Ru.op (q := (.aload_n 0, 1)) (S' := (55, _, _, _, _)) (by decide +kernel) rfl ?_
              refine Ru.getI (pc' := 58) (i := 151) (ci := 10) (k := 28) (nn := 0) (z := 0) (x := (o109.F 36 28)) (by decide +kernel) (by decide +kernel) (hp36 _) (by decide) rfl (eI_of _) rfl ?_
              by_cases b112 : (o109.F 36 28) = 0
              · replace h := if_t b112 h
                refine Ru.br (k := .eq) (off := 7) (bb := true) (tg := 65) (by decide +kernel) (by decide +kernel) (cz (ci_eq1 (inR_to _) (by decide) b112)) rfl ?_
                refine Ru.op (q := (.aload_n 0, 1)) (S' := (66, _, _, _, _)) (by decide +kernel) rfl ?_
                refine Ru.op (q := (.aload_n 0, 1)) (S' := (67, _, _, _, _)) (by decide +kernel) rfl ?_
                refine Ru.getI (pc' := 70) (i := 186) (ci := 10) (k := 46) (nn := 0) (z := 0) (x := (o109.F 36 46)) (by decide +kernel) (by decide +kernel) (hp36 _) (by decide) rfl (eI_of _) rfl ?_
                refine Ru.kI (q := (.iconst 1, 1)) (c := 1) (pc' := 71) (by decide +kernel) rfl (by decide) rfl ?_
                refine Ru.ar2 (i := .isub) (z := ((o109.F 36 46) - 1)) (pc' := 72) (by decide +kernel) rfl (ar_sub _ _) rfl ?_
                obtain ⟨o113, e114, h⟩ := ob_some h
                refine Ru.vcallI (pc' := 75) (st' := [vI o113.1]) (i := 211) (j2 := 112) (ci := 10) (k := 0) (z := 0) (as := [vI ((o109.F 36 46) - 1)]) (by decide +kernel) (by decide +kernel) rfl rfl (hp36 _) (by decide) ⟨(Nat.le_of_ble_eq_true rfl), (by show 19 + 2 ≤ 353; exact Nat.le_of_ble_eq_true rfl), Nat.le_of_ble_eq_true rfl, Nat.le_of_ble_eq_true rfl⟩ ((g112_ok e114).up (Nat.le_of_ble_eq_true rfl) (Nat.le_of_ble_eq_true rfl)) rfl rfl ?_
                refine Ru.op (q := (.istore 4, 2)) (S' := (77, [some (.ref 36), d1, some (vI v2), some (vI v3), some (vI o113.1), some (vI v5), some (vI o4)], [], _, _)) (by decide +kernel) rfl ?_
                refine Ru.op (q := (.aload_n 0, 1)) (S' := (78, _, _, _, _)) (by decide +kernel) rfl ?_
                refine Ru.op (q := (.iload_n 3, 1)) (S' := (79, _, _, _, _)) (by decide +kernel) rfl ?_
                refine Ru.op (q := (.iload 4, 2)) (S' := (81, _, _, _, _)) (by decide +kernel) rfl ?_
                obtain ⟨o115, e116, h⟩ := ob_some h
                refine Ru.vcallI (pc' := 84) (st' := [vI o115.1]) (i := 214) (j2 := 113) (ci := 10) (k := 0) (z := 0) (as := [vI v3, vI o113.1]) (by decide +kernel) (by decide +kernel) rfl rfl (hp36 _) (by decide) ⟨(Nat.le_of_ble_eq_true rfl), (by show 19 + 5 ≤ 353; exact Nat.le_of_ble_eq_true rfl), Nat.le_of_ble_eq_true rfl, Nat.le_of_ble_eq_true rfl⟩ ((g113_ok e116).up (Nat.le_of_ble_eq_true rfl) (Nat.le_of_ble_eq_true rfl)) rfl rfl ?_
                refine Ru.op (q := (.istore_n 3, 1)) (S' := (85, [some (.ref 36), d1, some (vI v2), some (vI o115.1), some (vI o113.1), some (vI v5), some (vI o4)], [], _, _)) (by decide +kernel) rfl ?_
                refine Ru.op (q := (.iload_n 3, 1)) (S' := (86, _, _, _, _)) (by decide +kernel) rfl ?_
                obtain ⟨g117, h⟩ := gd_some h
                by_cases b118 : 0 < o115.1
                · replace h := if_t b118 h
                  refine Ru.br (k := .le) (off := 7) (bb := false) (tg := 89) (by decide +kernel) (by decide +kernel) (cz (ci_le0 g117 (by decide) b118)) rfl ?_
                  refine Ru.kI (q := (.iconst 1, 1)) (c := 1) (pc' := 90) (by decide +kernel) rfl (by decide) rfl ?_
                  refine Ru.op (q := (.goto 4, 3)) (S' := (94, _, _, _, _)) (by decide +kernel) rfl ?_
                  refine Ru.op (q := (.istore 5, 2)) (S' := (96, [some (.ref 36), d1, some (vI v2), some (vI o115.1), some (vI o113.1), some (vI 1), some (vI o4)], [], _, _)) (by decide +kernel) rfl ?_
                  refine Ru.op (q := (.iload 5, 2)) (S' := (98, _, _, _, _)) (by decide +kernel) rfl ?_
                  refine Ru.br (k := .eq) (off := 18) (bb := false) (tg := 101) (by decide +kernel) (by decide +kernel) (by decide) rfl ?_
                  refine Ru.op (q := (.aload_n 0, 1)) (S' := (102, _, _, _, _)) (by decide +kernel) rfl ?_
                  refine Ru.getR (pc' := 105) (i := 72) (ci := 10) (k := 39) (nn := 0) (z := 0) (v := .ref 55) (by decide +kernel) (by decide +kernel) (hp36 _) (by decide) rfl rfl ?_
                  refine Ru.op (q := (.iload_n 3, 1)) (S' := (106, _, _, _, _)) (by decide +kernel) rfl ?_
                  refine Ru.kI (q := (.iconst 1, 1)) (c := 1) (pc' := 107) (by decide +kernel) rfl (by decide) rfl ?_
                  refine Ru.ar2 (i := .isub) (z := (o115.1 - 1)) (pc' := 108) (by decide +kernel) rfl (ar_sub _ _) rfl ?_
                  obtain ⟨g119, h⟩ := gd_some h
                  refine Ru.bldI (pc' := 109) (i := (o115.1 - 1)) (z := (o115.2.A 55 (o115.1 - 1))) (by decide +kernel) (hp55 _) g119 (eI_of _) rfl ?_
                  by_cases b120 : (o115.2.A 55 (o115.1 - 1)) = 0
                  · replace h := if_t b120 h
                    refine Ru.br (k := .eq) (off := 7) (bb := true) (tg := 116) (by decide +kernel) (by decide +kernel) (cz (ci_eq1 (inR_to _) (by decide) b120)) rfl ?_
                    refine Ru.kI (q := (.iconst 0, 1)) (c := 0) (pc' := 117) (by decide +kernel) rfl (by decide) rfl ?_
                    refine Ru.op (q := (.istore_n 2, 1)) (S' := (118, [some (.ref 36), d1, some (vI 0), some (vI o115.1), some (vI o113.1), some (vI 1), some (vI o4)], [], _, _)) (by decide +kernel) (st_in (mn_st1_D (Nat.le_of_ble_eq_true rfl) hdd.1 rfl)) ?_
                    refine Ru.op (q := (.aload_n 0, 1)) (S' := (119, _, _, _, _)) (by decide +kernel) rfl ?_
                    refine Ru.getI (pc' := 122) (i := 218) (ci := 10) (k := 42) (nn := 0) (z := 0) (x := (o115.2.F 36 42)) (by decide +kernel) (by decide +kernel) (hp36 _) (by decide) rfl (eI_of _) rfl ?_
                    refine Ru.op (q := (.istore 4, 2)) (S' := (124, [some (.ref 36), d1, some (vI 0), some (vI o115.1), some (vI (o115.2.F 36 42)), some (vI 1), some (vI o4)], [], _, _)) (by decide +kernel) rfl ?_
                    refine Ru.op (q := (.goto 141, 3)) (S' := (265, _, _, _, _)) (by decide +kernel) rfl ?_
                    refine Ru.op (q := (.goto (-255), 3)) (S' := (10, _, _, _, _)) (by decide +kernel) rfl ?_
                    exact ih _ _ _ _ _ _ _ ⟨hdd.1, rfl, trivial⟩ _ h r hk
                  · replace h := if_f b120 h
                    refine Ru.br (k := .eq) (off := 7) (bb := false) (tg := 112) (by decide +kernel) (by decide +kernel) (cz (ci_eq0 (inR_to _) (by decide) b120)) rfl ?_
                    refine Ru.kI (q := (.iconst 1, 1)) (c := 1) (pc' := 113) (by decide +kernel) rfl (by decide) rfl ?_
                    refine Ru.op (q := (.goto 4, 3)) (S' := (117, _, _, _, _)) (by decide +kernel) rfl ?_
                    refine Ru.op (q := (.istore_n 2, 1)) (S' := (118, [some (.ref 36), d1, some (vI 1), some (vI o115.1), some (vI o113.1), some (vI 1), some (vI o4)], [], _, _)) (by decide +kernel) (st_in (mn_st1_D (Nat.le_of_ble_eq_true rfl) hdd.1 rfl)) ?_
                    refine Ru.op (q := (.aload_n 0, 1)) (S' := (119, _, _, _, _)) (by decide +kernel) rfl ?_
                    refine Ru.getI (pc' := 122) (i := 218) (ci := 10) (k := 42) (nn := 0) (z := 0) (x := (o115.2.F 36 42)) (by decide +kernel) (by decide +kernel) (hp36 _) (by decide) rfl (eI_of _) rfl ?_
                    refine Ru.op (q := (.istore 4, 2)) (S' := (124, [some (.ref 36), d1, some (vI 1), some (vI o115.1), some (vI (o115.2.F 36 42)), some (vI 1), some (vI o4)], [], _, _)) (by decide +kernel) rfl ?_
                    refine Ru.op (q := (.goto 141, 3)) (S' := (265, _, _, _, _)) (by decide +kernel) rfl ?_
                    refine Ru.op (q := (.goto (-255), 3)) (S' := (10, _, _, _, _)) (by decide +kernel) rfl ?_
                    exact ih _ _ _ _ _ _ _ ⟨hdd.1, rfl, trivial⟩ _ h r hk
                · replace h := if_f b118 h
                  refine Ru.br (k := .le) (off := 7) (bb := true) (tg := 93) (by decide +kernel) (by decide +kernel) (cz (ci_le1 g117 (by decide) b118)) rfl ?_
                  refine Ru.kI (q := (.iconst 0, 1)) (c := 0) (pc' := 94) (by decide +kernel) rfl (by decide) rfl ?_
                  refine Ru.op (q := (.istore 5, 2)) (S' := (96, [some (.ref 36), d1, some (vI v2), some (vI o115.1), some (vI o113.1), some (vI 0), some (vI o4)], [], _, _)) (by decide +kernel) rfl ?_
                  refine Ru.op (q := (.iload 5, 2)) (S' := (98, _, _, _, _)) (by decide +kernel) rfl ?_
                  refine Ru.br (k := .eq) (off := 18) (bb := true) (tg := 116) (by decide +kernel) (by decide +kernel) (by decide) rfl ?_
                  refine Ru.kI (q := (.iconst 0, 1)) (c := 0) (pc' := 117) (by decide +kernel) rfl (by decide) rfl ?_
                  refine Ru.op (q := (.istore_n 2, 1)) (S' := (118, [some (.ref 36), d1, some (vI 0), some (vI o115.1), some (vI o113.1), some (vI 0), some (vI o4)], [], _, _)) (by decide +kernel) (st_in (mn_st1_D (Nat.le_of_ble_eq_true rfl) hdd.1 rfl)) ?_
                  refine Ru.op (q := (.aload_n 0, 1)) (S' := (119, _, _, _, _)) (by decide +kernel) rfl ?_
                  refine Ru.getI (pc' := 122) (i := 218) (ci := 10) (k := 42) (nn := 0) (z := 0) (x := (o115.2.F 36 42)) (by decide +kernel) (by decide +kernel) (hp36 _) (by decide) rfl (eI_of _) rfl ?_
                  refine Ru.op (q := (.istore 4, 2)) (S' := (124, [some (.ref 36), d1, some (vI 0), some (vI o115.1), some (vI (o115.2.F 36 42)), some (vI 0), some (vI o4)], [], _, _)) (by decide +kernel) rfl ?_
                  refine Ru.op (q := (.goto 141, 3)) (S' := (265, _, _, _, _)) (by decide +kernel) rfl ?_
                  refine Ru.op (q := (.goto (-255), 3)) (S' := (10, _, _, _, _)) (by decide +kernel) rfl ?_
                  exact ih _ _ _ _ _ _ _ ⟨hdd.1, rfl, trivial⟩ _ h r hk
              · replace h := if_f b112 h
                refine Ru.br (k := .eq) (off := 7) (bb := false) (tg := 61) (by decide +kernel) (by decide +kernel) (cz (ci_eq0 (inR_to _) (by decide) b112)) rfl ?_
                refine Ru.kI (q := (.iconst 0, 1)) (c := 0) (pc' := 62) (by decide +kernel) rfl (by decide) rfl ?_
                refine Ru.op (q := (.goto 13, 3)) (S' := (75, _, _, _, _)) (by decide +kernel) rfl ?_
                refine Ru.op (q := (.istore 4, 2)) (S' := (77, [some (.ref 36), d1, some (vI v2), some (vI v3), some (vI 0), some (vI v5), some (vI o4)], [], _, _)) (by decide +kernel) rfl ?_
                refine Ru.op (q := (.aload_n 0, 1)) (S' := (78, _, _, _, _)) (by decide +kernel) rfl ?_
                refine Ru.op (q := (.iload_n 3, 1)) (S' := (79, _, _, _, _)) (by decide +kernel) rfl ?_
                refine Ru.op (q := (.iload 4, 2)) (S' := (81, _, _, _, _)) (by decide +kernel) rfl ?_
                obtain ⟨o121, e122, h⟩ := ob_some h
                refine Ru.vcallI (pc' := 84) (st' := [vI o121.1]) (i := 214) (j2 := 113) (ci := 10) (k := 0) (z := 0) (as := [vI v3, vI 0]) (by decide +kernel) (by decide +kernel) rfl rfl (hp36 _) (by decide) ⟨(Nat.le_of_ble_eq_true rfl), (by show 19 + 5 ≤ 353; exact Nat.le_of_ble_eq_true rfl), Nat.le_of_ble_eq_true rfl, Nat.le_of_ble_eq_true rfl⟩ ((g113_ok e122).up (Nat.le_of_ble_eq_true rfl) (Nat.le_of_ble_eq_true rfl)) rfl rfl ?_
                refine Ru.op (q := (.istore_n 3, 1)) (S' := (85, [some (.ref 36), d1, some (vI v2), some (vI o121.1), some (vI 0), some (vI v5), some (vI o4)], [], _, _)) (by decide +kernel) rfl ?_
                refine Ru.op (q := (.iload_n 3, 1)) (S' := (86, _, _, _, _)) (by decide +kernel) rfl ?_
                obtain ⟨g123, h⟩ := gd_some h
                by_cases b124 : 0 < o121.1
                · replace h := if_t b124 h
                  refine Ru.br (k := .le) (off := 7) (bb := false) (tg := 89) (by decide +kernel) (by decide +kernel) (cz (ci_le0 g123 (by decide) b124)) rfl ?_
                  refine Ru.kI (q := (.iconst 1, 1)) (c := 1) (pc' := 90) (by decide +kernel) rfl (by decide) rfl ?_
                  refine Ru.op (q := (.goto 4, 3)) (S' := (94, _, _, _, _)) (by decide +kernel) rfl ?_
                  refine Ru.op (q := (.istore 5, 2)) (S' := (96, [some (.ref 36), d1, some (vI v2), some (vI o121.1), some (vI 0), some (vI 1), some (vI o4)], [], _, _)) (by decide +kernel) rfl ?_
                  refine Ru.op (q := (.iload 5, 2)) (S' := (98, _, _, _, _)) (by decide +kernel) rfl ?_
                  refine Ru.br (k := .eq) (off := 18) (bb := false) (tg := 101) (by decide +kernel) (by decide +kernel) (by decide) rfl ?_
                  refine Ru.op (q := (.aload_n 0, 1)) (S' := (102, _, _, _, _)) (by decide +kernel) rfl ?_
                  refine Ru.getR (pc' := 105) (i := 72) (ci := 10) (k := 39) (nn := 0) (z := 0) (v := .ref 55) (by decide +kernel) (by decide +kernel) (hp36 _) (by decide) rfl rfl ?_
                  refine Ru.op (q := (.iload_n 3, 1)) (S' := (106, _, _, _, _)) (by decide +kernel) rfl ?_
                  refine Ru.kI (q := (.iconst 1, 1)) (c := 1) (pc' := 107) (by decide +kernel) rfl (by decide) rfl ?_
                  refine Ru.ar2 (i := .isub) (z := (o121.1 - 1)) (pc' := 108) (by decide +kernel) rfl (ar_sub _ _) rfl ?_
                  obtain ⟨g125, h⟩ := gd_some h
                  refine Ru.bldI (pc' := 109) (i := (o121.1 - 1)) (z := (o121.2.A 55 (o121.1 - 1))) (by decide +kernel) (hp55 _) g125 (eI_of _) rfl ?_
                  by_cases b126 : (o121.2.A 55 (o121.1 - 1)) = 0
                  · replace h := if_t b126 h
                    refine Ru.br (k := .eq) (off := 7) (bb := true) (tg := 116) (by decide +kernel) (by decide +kernel) (cz (ci_eq1 (inR_to _) (by decide) b126)) rfl ?_
                    refine Ru.kI (q := (.iconst 0, 1)) (c := 0) (pc' := 117) (by decide +kernel) rfl (by decide) rfl ?_
                    refine Ru.op (q := (.istore_n 2, 1)) (S' := (118, [some (.ref 36), d1, some (vI 0), some (vI o121.1), some (vI 0), some (vI 1), some (vI o4)], [], _, _)) (by decide +kernel) (st_in (mn_st1_D (Nat.le_of_ble_eq_true rfl) hdd.1 rfl)) ?_
                    refine Ru.op (q := (.aload_n 0, 1)) (S' := (119, _, _, _, _)) (by decide +kernel) rfl ?_
                    refine Ru.getI (pc' := 122) (i := 218) (ci := 10) (k := 42) (nn := 0) (z := 0) (x := (o121.2.F 36 42)) (by decide +kernel) (by decide +kernel) (hp36 _) (by decide) rfl (eI_of _) rfl ?_
                    refine Ru.op (q := (.istore 4, 2)) (S' := (124, [some (.ref 36), d1, some (vI 0), some (vI o121.1), some (vI (o121.2.F 36 42)), some (vI 1), some (vI o4)], [], _, _)) (by decide +kernel) rfl ?_
                    refine Ru.op (q := (.goto 141, 3)) (S' := (265, _, _, _, _)) (by decide +kernel) rfl ?_
                    refine Ru.op (q := (.goto (-255), 3)) (S' := (10, _, _, _, _)) (by decide +kernel) rfl ?_
                    exact ih _ _ _ _ _ _ _ ⟨hdd.1, rfl, trivial⟩ _ h r hk
                  · replace h := if_f b126 h
                    refine Ru.br (k := .eq) (off := 7) (bb := false) (tg := 112) (by decide +kernel) (by decide +kernel) (cz (ci_eq0 (inR_to _) (by decide) b126)) rfl ?_
                    refine Ru.kI (q := (.iconst 1, 1)) (c := 1) (pc' := 113) (by decide +kernel) rfl (by decide) rfl ?_
                    refine Ru.op (q := (.goto 4, 3)) (S' := (117, _, _, _, _)) (by decide +kernel) rfl ?_
                    refine Ru.op (q := (.istore_n 2, 1)) (S' := (118, [some (.ref 36), d1, some (vI 1), some (vI o121.1), some (vI 0), some (vI 1), some (vI o4)], [], _, _)) (by decide +kernel) (st_in (mn_st1_D (Nat.le_of_ble_eq_true rfl) hdd.1 rfl)) ?_
                    refine Ru.op (q := (.aload_n 0, 1)) (S' := (119, _, _, _, _)) (by decide +kernel) rfl ?_
                    refine Ru.getI (pc' := 122) (i := 218) (ci := 10) (k := 42) (nn := 0) (z := 0) (x := (o121.2.F 36 42)) (by decide +kernel) (by decide +kernel) (hp36 _) (by decide) rfl (eI_of _) rfl ?_
                    refine Ru.op (q := (.istore 4, 2)) (S' := (124, [some (.ref 36), d1, some (vI 1), some (vI o121.1), some (vI (o121.2.F 36 42)), some (vI 1), some (vI o4)], [], _, _)) (by decide +kernel) rfl ?_
                    refine Ru.op (q := (.goto 141, 3)) (S' := (265, _, _, _, _)) (by decide +kernel) rfl ?_
                    refine Ru.op (q := (.goto (-255), 3)) (S' := (10, _, _, _, _)) (by decide +kernel) rfl ?_
                    exact ih _ _ _ _ _ _ _ ⟨hdd.1, rfl, trivial⟩ _ h r hk
                · replace h := if_f b124 h
                  refine Ru.br (k := .le) (off := 7) (bb := true) (tg := 93) (by decide +kernel) (by decide +kernel) (cz (ci_le1 g123 (by decide) b124)) rfl ?_
                  refine Ru.kI (q := (.iconst 0, 1)) (c := 0) (pc' := 94) (by decide +kernel) rfl (by decide) rfl ?_
                  refine Ru.op (q := (.istore 5, 2)) (S' := (96, [some (.ref 36), d1, some (vI v2), some (vI o121.1), some (vI 0), some (vI 0), some (vI o4)], [], _, _)) (by decide +kernel) rfl ?_
                  refine Ru.op (q := (.iload 5, 2)) (S' := (98, _, _, _, _)) (by decide +kernel) rfl ?_
                  refine Ru.br (k := .eq) (off := 18) (bb := true) (tg := 116) (by decide +kernel) (by decide +kernel) (by decide) rfl ?_
                  refine Ru.kI (q := (.iconst 0, 1)) (c := 0) (pc' := 117) (by decide +kernel) rfl (by decide) rfl ?_
                  refine Ru.op (q := (.istore_n 2, 1)) (S' := (118, [some (.ref 36), d1, some (vI 0), some (vI o121.1), some (vI 0), some (vI 0), some (vI o4)], [], _, _)) (by decide +kernel) (st_in (mn_st1_D (Nat.le_of_ble_eq_true rfl) hdd.1 rfl)) ?_
                  refine Ru.op (q := (.aload_n 0, 1)) (S' := (119, _, _, _, _)) (by decide +kernel) rfl ?_
                  refine Ru.getI (pc' := 122) (i := 218) (ci := 10) (k := 42) (nn := 0) (z := 0) (x := (o121.2.F 36 42)) (by decide +kernel) (by decide +kernel) (hp36 _) (by decide) rfl (eI_of _) rfl ?_
                  refine Ru.op (q := (.istore 4, 2)) (S' := (124, [some (.ref 36), d1, some (vI 0), some (vI o121.1), some (vI (o121.2.F 36 42)), some (vI 0), some (vI o4)], [], _, _)) (by decide +kernel) rfl ?_
                  refine Ru.op (q := (.goto 141, 3)) (S' := (265, _, _, _, _)) (by decide +kernel) rfl ?_
                  refine Ru.op (q := (.goto (-255), 3)) (S' := (10, _, _, _, _)) (by decide +kernel) rfl ?_
                  exact ih _ _ _ _ _ _ _ ⟨hdd.1, rfl, trivial⟩ _ h r hk
            · replace h := if_f b111 h
              refine Ru.br (k := .ne) (off := 10) (bb := true) (tg := 61) (by decide +kernel) (by decide +kernel) (cz (ci_ne1 (inR_to _) (by decide) b111)) rfl ?_
              refine Ru.kI (q := (.iconst 0, 1)) (c := 0) (pc' := 62) (by decide +kernel) rfl (by decide) rfl ?_
              refine Ru.op (q := (.goto 13, 3)) (S' := (75, _, _, _, _)) (by decide +kernel) rfl ?_
              refine Ru.op (q := (.istore 4, 2)) (S' := (77, [some (.ref 36), d1, some (vI v2), some (vI v3), some (vI 0), some (vI v5), some (vI o4)], [], _, _)) (by decide +kernel) rfl ?_
              refine Ru.op (q := (.aload_n 0, 1)) (S' := (78, _, _, _, _)) (by decide +kernel) rfl ?_
              refine Ru.op (q := (.iload_n 3, 1)) (S' := (79, _, _, _, _)) (by decide +kernel) rfl ?_
              refine Ru.op (q := (.iload 4, 2)) (S' := (81, _, _, _, _)) (by decide +kernel) rfl ?_
              obtain ⟨o127, e128, h⟩ := ob_some h
              refine Ru.vcallI (pc' := 84) (st' := [vI o127.1]) (i := 214) (j2 := 113) (ci := 10) (k := 0) (z := 0) (as := [vI v3, vI 0]) (by decide +kernel) (by decide +kernel) rfl rfl (hp36 _) (by decide) ⟨(Nat.le_of_ble_eq_true rfl), (by show 19 + 5 ≤ 353; exact Nat.le_of_ble_eq_true rfl), Nat.le_of_ble_eq_true rfl, Nat.le_of_ble_eq_true rfl⟩ ((g113_ok e128).up (Nat.le_of_ble_eq_true rfl) (Nat.le_of_ble_eq_true rfl)) rfl rfl ?_
              refine Ru.op (q := (.istore_n 3, 1)) (S' := (85, [some (.ref 36), d1, some (vI v2), some (vI o127.1), some (vI 0), some (vI v5), some (vI o4)], [], _, _)) (by decide +kernel) rfl ?_
              refine Ru.op (q := (.iload_n 3, 1)) (S' := (86, _, _, _, _)) (by decide +kernel) rfl ?_
              obtain ⟨g129, h⟩ := gd_some h
              by_cases b130 : 0 < o127.1
              · replace h := if_t b130 h
                refine Ru.br (k := .le) (off := 7) (bb := false) (tg := 89) (by decide +kernel) (by decide +kernel) (cz (ci_le0 g129 (by decide) b130)) rfl ?_
                refine Ru.kI (q := (.iconst 1, 1)) (c := 1) (pc' := 90) (by decide +kernel) rfl (by decide) rfl ?_
                refine Ru.op (q := (.goto 4, 3)) (S' := (94, _, _, _, _)) (by decide +kernel) rfl ?_
                refine Ru.op (q := (.istore 5, 2)) (S' := (96, [some (.ref 36), d1, some (vI v2), some (vI o127.1), some (vI 0), some (vI 1), some (vI o4)], [], _, _)) (by decide +kernel) rfl ?_
                refine Ru.op (q := (.iload 5, 2)) (S' := (98, _, _, _, _)) (by decide +kernel) rfl ?_
                refine Ru.br (k := .eq) (off := 18) (bb := false) (tg := 101) (by decide +kernel) (by decide +kernel) (by decide) rfl ?_
                refine Ru.op (q := (.aload_n 0, 1)) (S' := (102, _, _, _, _)) (by decide +kernel) rfl ?_
                refine Ru.getR (pc' := 105) (i := 72) (ci := 10) (k := 39) (nn := 0) (z := 0) (v := .ref 55) (by decide +kernel) (by decide +kernel) (hp36 _) (by decide) rfl rfl ?_
                refine Ru.op (q := (.iload_n 3, 1)) (S' := (106, _, _, _, _)) (by decide +kernel) rfl ?_
                refine Ru.kI (q := (.iconst 1, 1)) (c := 1) (pc' := 107) (by decide +kernel) rfl (by decide) rfl ?_
                refine Ru.ar2 (i := .isub) (z := (o127.1 - 1)) (pc' := 108) (by decide +kernel) rfl (ar_sub _ _) rfl ?_
                obtain ⟨g131, h⟩ := gd_some h
                refine Ru.bldI (pc' := 109) (i := (o127.1 - 1)) (z := (o127.2.A 55 (o127.1 - 1))) (by decide +kernel) (hp55 _) g131 (eI_of _) rfl ?_
                by_cases b132 : (o127.2.A 55 (o127.1 - 1)) = 0
                · replace h := if_t b132 h
                  refine Ru.br (k := .eq) (off := 7) (bb := true) (tg := 116) (by decide +kernel) (by decide +kernel) (cz (ci_eq1 (inR_to _) (by decide) b132)) rfl ?_
                  refine Ru.kI (q := (.iconst 0, 1)) (c := 0) (pc' := 117) (by decide +kernel) rfl (by decide) rfl ?_
                  refine Ru.op (q := (.istore_n 2, 1)) (S' := (118, [some (.ref 36), d1, some (vI 0), some (vI o127.1), some (vI 0), some (vI 1), some (vI o4)], [], _, _)) (by decide +kernel) (st_in (mn_st1_D (Nat.le_of_ble_eq_true rfl) hdd.1 rfl)) ?_
                  refine Ru.op (q := (.aload_n 0, 1)) (S' := (119, _, _, _, _)) (by decide +kernel) rfl ?_
                  refine Ru.getI (pc' := 122) (i := 218) (ci := 10) (k := 42) (nn := 0) (z := 0) (x := (o127.2.F 36 42)) (by decide +kernel) (by decide +kernel) (hp36 _) (by decide) rfl (eI_of _) rfl ?_
                  refine Ru.op (q := (.istore 4, 2)) (S' := (124, [some (.ref 36), d1, some (vI 0), some (vI o127.1), some (vI (o127.2.F 36 42)), some (vI 1), some (vI o4)], [], _, _)) (by decide +kernel) rfl ?_
                  refine Ru.op (q := (.goto 141, 3)) (S' := (265, _, _, _, _)) (by decide +kernel) rfl ?_
                  refine Ru.op (q := (.goto (-255), 3)) (S' := (10, _, _, _, _)) (by decide +kernel) rfl ?_
                  exact ih _ _ _ _ _ _ _ ⟨hdd.1, rfl, trivial⟩ _ h r hk
                · replace h := if_f b132 h
                  refine Ru.br (k := .eq) (off := 7) (bb := false) (tg := 112) (by decide +kernel) (by decide +kernel) (cz (ci_eq0 (inR_to _) (by decide) b132)) rfl ?_
                  refine Ru.kI (q := (.iconst 1, 1)) (c := 1) (pc' := 113) (by decide +kernel) rfl (by decide) rfl ?_
                  refine Ru.op (q := (.goto 4, 3)) (S' := (117, _, _, _, _)) (by decide +kernel) rfl ?_
                  refine Ru.op (q := (.istore_n 2, 1)) (S' := (118, [some (.ref 36), d1, some (vI 1), some (vI o127.1), some (vI 0), some (vI 1), some (vI o4)], [], _, _)) (by decide +kernel) (st_in (mn_st1_D (Nat.le_of_ble_eq_true rfl) hdd.1 rfl)) ?_
                  refine Ru.op (q := (.aload_n 0, 1)) (S' := (119, _, _, _, _)) (by decide +kernel) rfl ?_
                  refine Ru.getI (pc' := 122) (i := 218) (ci := 10) (k := 42) (nn := 0) (z := 0) (x := (o127.2.F 36 42)) (by decide +kernel) (by decide +kernel) (hp36 _) (by decide) rfl (eI_of _) rfl ?_
                  refine Ru.op (q := (.istore 4, 2)) (S' := (124, [some (.ref 36), d1, some (vI 1), some (vI o127.1), some (vI (o127.2.F 36 42)), some (vI 1), some (vI o4)], [], _, _)) (by decide +kernel) rfl ?_
                  refine Ru.op (q := (.goto 141, 3)) (S' := (265, _, _, _, _)) (by decide +kernel) rfl ?_
                  refine Ru.op (q := (.goto (-255), 3)) (S' := (10, _, _, _, _)) (by decide +kernel) rfl ?_
                  exact ih _ _ _ _ _ _ _ ⟨hdd.1, rfl, trivial⟩ _ h r hk
              · replace h := if_f b130 h
                refine Ru.br (k := .le) (off := 7) (bb := true) (tg := 93) (by decide +kernel) (by decide +kernel) (cz (ci_le1 g129 (by decide) b130)) rfl ?_
                refine Ru.kI (q := (.iconst 0, 1)) (c := 0) (pc' := 94) (by decide +kernel) rfl (by decide) rfl ?_
                refine Ru.op (q := (.istore 5, 2)) (S' := (96, [some (.ref 36), d1, some (vI v2), some (vI o127.1), some (vI 0), some (vI 0), some (vI o4)], [], _, _)) (by decide +kernel) rfl ?_
                refine Ru.op (q := (.iload 5, 2)) (S' := (98, _, _, _, _)) (by decide +kernel) rfl ?_
                refine Ru.br (k := .eq) (off := 18) (bb := true) (tg := 116) (by decide +kernel) (by decide +kernel) (by decide) rfl ?_
                refine Ru.kI (q := (.iconst 0, 1)) (c := 0) (pc' := 117) (by decide +kernel) rfl (by decide) rfl ?_
                refine Ru.op (q := (.istore_n 2, 1)) (S' := (118, [some (.ref 36), d1, some (vI 0), some (vI o127.1), some (vI 0), some (vI 0), some (vI o4)], [], _, _)) (by decide +kernel) (st_in (mn_st1_D (Nat.le_of_ble_eq_true rfl) hdd.1 rfl)) ?_
                refine Ru.op (q := (.aload_n 0, 1)) (S' := (119, _, _, _, _)) (by decide +kernel) rfl ?_
                refine Ru.getI (pc' := 122) (i := 218) (ci := 10) (k := 42) (nn := 0) (z := 0) (x := (o127.2.F 36 42)) (by decide +kernel) (by decide +kernel) (hp36 _) (by decide) rfl (eI_of _) rfl ?_
                refine Ru.op (q := (.istore 4, 2)) (S' := (124, [some (.ref 36), d1, some (vI 0), some (vI o127.1), some (vI (o127.2.F 36 42)), some (vI 0), some (vI o4)], [], _, _)) (by decide +kernel) rfl ?_
                refine Ru.op (q := (.goto 141, 3)) (S' := (265, _, _, _, _)) (by decide +kernel) rfl ?_
                refine Ru.op (q := (.goto (-255), 3)) (S' := (10, _, _, _, _)) (by decide +kernel) rfl ?_
                exact ih _ _ _ _ _ _ _ ⟨hdd.1, rfl, trivial⟩ _ h r hk
      · replace h := if_f b3 h
        refine Ru.br (k := .ne) (off := 249) (bb := true) (tg := 268) (by decide +kernel) (by decide +kernel) (cz (ci_ne1 (inR_to _) (by decide) b3)) rfl ?_
        cases h
        exact hk _ _ _ _ _ _ ⟨rfl, hdd.1, rfl, rfl, rfl, hdd.2.1, trivial⟩
set_option maxRecDepth 100000 in
set_option maxHeartbeats 4000000 in
theorem g101_ok {S : St} {v1 : Int} {o : Int × St} (h : g101 S v1 = some o) : Ru none 17 353 101 (0, mn_pad (mn_ent [.ref 36, vI v1]) 7, [], S.ns, Hp S) ((0, some (vI o.1)), o.2.ns, Hp o.2) := by
  unfold g101 at h
  show Ru none 17 353 101 (0, [some (.ref 36), some (vI v1), none, none, none, none, none], [], S.ns, Hp S) _
  refine Ru.op (q := (.iload_n 1, 1)) (S' := (1, _, _, _, _)) (by decide +kernel) rfl ?_
  refine Ru.op (q := (.istore_n 2, 1)) (S' := (2, [some (.ref 36), some (vI v1), some (vI v1), none, none, none, none], [], _, _)) (by decide +kernel) rfl ?_
  refine Ru.kI (q := (.iconst 0, 1)) (c := 0) (pc' := 3) (by decide +kernel) rfl (by decide) rfl ?_
  refine Ru.op (q := (.istore_n 3, 1)) (S' := (4, [some (.ref 36), some (vI v1), some (vI v1), some (vI 0), none, none, none], [], _, _)) (by decide +kernel) rfl ?_
  refine Ru.kI (q := (.iconst 0, 1)) (c := 0) (pc' := 5) (by decide +kernel) rfl (by decide) rfl ?_
  refine Ru.op (q := (.istore 4, 2)) (S' := (7, [some (.ref 36), some (vI v1), some (vI v1), some (vI 0), some (vI 0), none, none], [], _, _)) (by decide +kernel) rfl ?_
  refine Ru.kI (q := (.iconst 1, 1)) (c := 1) (pc' := 8) (by decide +kernel) rfl (by decide) rfl ?_
  refine Ru.op (q := (.istore 5, 2)) (S' := (10, [some (.ref 36), some (vI v1), some (vI v1), some (vI 0), some (vI 0), some (vI 1), none], [], _, _)) (by decide +kernel) rfl ?_
  obtain ⟨o133, e140, h⟩ := ob_some h
  refine g101L10_ok FU _ _ _ _ _ _ _ ⟨rfl, rfl, trivial⟩ _ e140 _ ?_
  intro d134 d135 d136 d137 d138 d139 hd141
  refine Ru.op (q := (.iload 4, 2)) (S' := (270, _, _, _, _)) (by decide +kernel) rfl ?_
  cases h
  exact Ru.iret (by decide +kernel) rfl rfl
