set_option maxRecDepth 100000 in
set_option maxHeartbeats 4000000 in
theorem g150L77_ok {v2 : Int} {v4 : Int} : ∀ (n : Nat) (v3 : Int) (v6 : Int) (S : St) (d1 d5 : Option Value) (_ : DD [d1, d5]) (out : Int × St), g150L77 v2 v4 n v3 v6 S = some out → ∀ r, (∀ (e1 e5 e6 : Option Value), DD [e1, e5, e6] → Ru none 13 264 150 (154, [some (.ref 36), e1, some (vI v2), some (vI out.1), some (vI v4), e5, e6], [], out.2.ns, Hp out.2) r) → Ru none 13 264 150 (77, [some (.ref 36), d1, some (vI v2), some (vI v3), some (vI v4), d5, some (vI v6)], [], S.ns, Hp S) r := by
  intro n
  induction n with
  | zero => intro v3 v6 S d1 d5 hdd out h; cases h
  | succ n ih =>
    intro v3 v6 S d1 d5 hdd out h r hk
    unfold g150L77 at h
    refine Ru.op (q := (.iload 6, 2)) (S' := (79, _, _, _, _)) (by decide +kernel) rfl ?_
    obtain ⟨g17, h⟩ := gd_some h
    by_cases b18 : v6 = 0
    · replace h := if_t b18 h
      refine Ru.br (k := .eq) (off := 75) (bb := true) (tg := 154) (by decide +kernel) (by decide +kernel) (cz (ci_eq1 g17 (by decide) b18)) rfl ?_
      cases h
      exact hk _ _ _ ⟨hdd.1, hdd.2.1, rfl, trivial⟩
    · replace h := if_f b18 h
      refine Ru.br (k := .eq) (off := 75) (bb := false) (tg := 82) (by decide +kernel) (by decide +kernel) (cz (ci_eq0 g17 (by decide) b18)) rfl ?_
      refine Ru.op (q := (.iload_n 3, 1)) (S' := (83, _, _, _, _)) (by decide +kernel) rfl ?_
      obtain ⟨g19, h⟩ := gd_some h
      by_cases b20 : 0 < v3
      · replace h := if_t b20 h
        refine Ru.br (k := .le) (off := 71) (bb := false) (tg := 86) (by decide +kernel) (by decide +kernel) (cz (ci_le0 g19 (by decide) b20)) rfl ?_
        refine Ru.op (q := (.aload_n 0, 1)) (S' := (87, _, _, _, _)) (by decide +kernel) rfl ?_
        refine Ru.getR (pc' := 90) (i := 111) (ci := 10) (k := 55) (nn := 0) (z := 0) (v := .ref 68) (by decide +kernel) (by decide +kernel) (hp36 _) (by decide) rfl rfl ?_
        refine Ru.op (q := (.iload_n 3, 1)) (S' := (91, _, _, _, _)) (by decide +kernel) rfl ?_
        refine Ru.kI (q := (.iconst 1, 1)) (c := 1) (pc' := 92) (by decide +kernel) rfl (by decide) rfl ?_
        refine Ru.ar2 (i := .isub) (z := (v3 - 1)) (pc' := 93) (by decide +kernel) rfl (ar_sub _ _) rfl ?_
        refine Ru.op (q := (.aload_n 0, 1)) (S' := (94, _, _, _, _)) (by decide +kernel) rfl ?_
        refine Ru.getR (pc' := 97) (i := 111) (ci := 10) (k := 55) (nn := 0) (z := 0) (v := .ref 68) (by decide +kernel) (by decide +kernel) (hp36 _) (by decide) rfl rfl ?_
        refine Ru.op (q := (.iload_n 3, 1)) (S' := (98, _, _, _, _)) (by decide +kernel) rfl ?_
        refine Ru.kI (q := (.iconst 1, 1)) (c := 1) (pc' := 99) (by decide +kernel) rfl (by decide) rfl ?_
        refine Ru.ar2 (i := .isub) (z := (v3 - 1)) (pc' := 100) (by decide +kernel) rfl (ar_sub _ _) rfl ?_
        obtain ⟨g21, h⟩ := gd_some h
        refine Ru.ildI (pc' := 101) (i := (v3 - 1)) (z := (S.A 68 (v3 - 1))) (by decide +kernel) (hp68 _) g21 (eI_of _) rfl ?_
        refine Ru.kI (q := (.iconst 1, 1)) (c := 1) (pc' := 102) (by decide +kernel) rfl (by decide) rfl ?_
        refine Ru.ar2 (i := .isub) (z := ((S.A 68 (v3 - 1)) - 1)) (pc' := 103) (by decide +kernel) rfl (ar_sub _ _) rfl ?_
        refine Ru.istI (pc' := 104) (i := (v3 - 1)) (x := ((S.A 68 (v3 - 1)) - 1)) (by decide +kernel) (hp68 _) g21 (ps_68 _ _ _) rfl ?_
        refine Ru.op (q := (.aload_n 0, 1)) (S' := (105, _, _, _, _)) (by decide +kernel) rfl ?_
        refine Ru.getR (pc' := 108) (i := 111) (ci := 10) (k := 55) (nn := 0) (z := 0) (v := .ref 68) (by decide +kernel) (by decide +kernel) (hp36 _) (by decide) rfl rfl ?_
        refine Ru.op (q := (.iload_n 3, 1)) (S' := (109, _, _, _, _)) (by decide +kernel) rfl ?_
        refine Ru.kI (q := (.iconst 1, 1)) (c := 1) (pc' := 110) (by decide +kernel) rfl (by decide) rfl ?_
        refine Ru.ar2 (i := .isub) (z := (v3 - 1)) (pc' := 111) (by decide +kernel) rfl (ar_sub _ _) rfl ?_
        refine Ru.ildI (pc' := 112) (i := (v3 - 1)) (z := ((S.a 68 (v3 - 1) ((S.A 68 (v3 - 1)) - 1)).A 68 (v3 - 1))) (by decide +kernel) (hp68 _) g21 (eI_of _) rfl ?_
        by_cases b22 : ((S.a 68 (v3 - 1) ((S.A 68 (v3 - 1)) - 1)).A 68 (v3 - 1)) = 0
        · replace h := if_t b22 h
          refine Ru.br (k := .ne) (off := 7) (bb := false) (tg := 115) (by decide +kernel) (by decide +kernel) (cz (ci_ne0 (inR_to _) (by decide) b22)) rfl ?_
          refine Ru.kI (q := (.iconst 1, 1)) (c := 1) (pc' := 116) (by decide +kernel) rfl (by decide) rfl ?_
          refine Ru.op (q := (.goto 4, 3)) (S' := (120, _, _, _, _)) (by decide +kernel) rfl ?_
          refine Ru.op (q := (.istore 6, 2)) (S' := (122, [some (.ref 36), d1, some (vI v2), some (vI v3), some (vI v4), d5, some (vI 1)], [], _, _)) (by decide +kernel) (st_i (mn_st1_D (Nat.le_of_ble_eq_true rfl) hdd.2.1 rfl)) ?_
          refine Ru.op (q := (.aload_n 0, 1)) (S' := (123, _, _, _, _)) (by decide +kernel) rfl ?_
          refine Ru.op (q := (.iload 6, 2)) (S' := (125, _, _, _, _)) (by decide +kernel) rfl ?_
          refine Ru.br (k := .eq) (off := 8) (bb := false) (tg := 128) (by decide +kernel) (by decide +kernel) (by decide) rfl ?_
          refine Ru.kI (q := (.bipush 41, 2)) (c := 41) (pc' := 130) (by decide +kernel) rfl (by decide) rfl ?_
          refine Ru.op (q := (.goto 5, 3)) (S' := (135, _, _, _, _)) (by decide +kernel) rfl ?_
          obtain ⟨o23, e24, h⟩ := ob_some h
          refine Ru.vcallI (pc' := 138) (st' := []) (i := 347) (j2 := 149) (ci := 10) (k := 0) (z := 0) (as := [vI 41]) (by decide +kernel) (by decide +kernel) rfl rfl (hp36 _) (by decide) ⟨(Nat.le_of_ble_eq_true rfl), (by show 19 + 2 ≤ 264; exact Nat.le_of_ble_eq_true rfl), Nat.le_of_ble_eq_true rfl, Nat.le_of_ble_eq_true rfl⟩ ((g149_ok e24).up (Nat.le_of_ble_eq_true rfl) (Nat.le_of_ble_eq_true rfl)) rfl rfl ?_
          refine Ru.op (q := (.iload 6, 2)) (S' := (140, _, _, _, _)) (by decide +kernel) rfl ?_
          refine Ru.br (k := .eq) (off := 9) (bb := false) (tg := 143) (by decide +kernel) (by decide +kernel) (by decide) rfl ?_
          refine Ru.op (q := (.iload_n 3, 1)) (S' := (144, _, _, _, _)) (by decide +kernel) rfl ?_
          refine Ru.kI (q := (.iconst 1, 1)) (c := 1) (pc' := 145) (by decide +kernel) rfl (by decide) rfl ?_
          refine Ru.ar2 (i := .isub) (z := (v3 - 1)) (pc' := 146) (by decide +kernel) rfl (ar_sub _ _) rfl ?_
          refine Ru.op (q := (.goto 4, 3)) (S' := (150, _, _, _, _)) (by decide +kernel) rfl ?_
          refine Ru.op (q := (.istore_n 3, 1)) (S' := (151, [some (.ref 36), d1, some (vI v2), some (vI (v3 - 1)), some (vI v4), d5, some (vI 1)], [], _, _)) (by decide +kernel) rfl ?_
          refine Ru.op (q := (.goto (-74), 3)) (S' := (77, _, _, _, _)) (by decide +kernel) rfl ?_
          exact ih _ _ _ _ _ ⟨hdd.1, hdd.2.1, trivial⟩ _ h r hk
        · replace h := if_f b22 h
          refine Ru.br (k := .ne) (off := 7) (bb := true) (tg := 119) (by decide +kernel) (by decide +kernel) (cz (ci_ne1 (inR_to _) (by decide) b22)) rfl ?_
          refine Ru.kI (q := (.iconst 0, 1)) (c := 0) (pc' := 120) (by decide +kernel) rfl (by decide) rfl ?_
          refine Ru.op (q := (.istore 6, 2)) (S' := (122, [some (.ref 36), d1, some (vI v2), some (vI v3), some (vI v4), d5, some (vI 0)], [], _, _)) (by decide +kernel) (st_i (mn_st1_D (Nat.le_of_ble_eq_true rfl) hdd.2.1 rfl)) ?_
          refine Ru.op (q := (.aload_n 0, 1)) (S' := (123, _, _, _, _)) (by decide +kernel) rfl ?_
          refine Ru.op (q := (.iload 6, 2)) (S' := (125, _, _, _, _)) (by decide +kernel) rfl ?_
          refine Ru.br (k := .eq) (off := 8) (bb := true) (tg := 133) (by decide +kernel) (by decide +kernel) (by decide) rfl ?_
          refine Ru.kI (q := (.bipush 44, 2)) (c := 44) (pc' := 135) (by decide +kernel) rfl (by decide) rfl ?_
          obtain ⟨o25, e26, h⟩ := ob_some h
          refine Ru.vcallI (pc' := 138) (st' := []) (i := 347) (j2 := 149) (ci := 10) (k := 0) (z := 0) (as := [vI 44]) (by decide +kernel) (by decide +kernel) rfl rfl (hp36 _) (by decide) ⟨(Nat.le_of_ble_eq_true rfl), (by show 19 + 2 ≤ 264; exact Nat.le_of_ble_eq_true rfl), Nat.le_of_ble_eq_true rfl, Nat.le_of_ble_eq_true rfl⟩ ((g149_ok e26).up (Nat.le_of_ble_eq_true rfl) (Nat.le_of_ble_eq_true rfl)) rfl rfl ?_
          refine Ru.op (q := (.iload 6, 2)) (S' := (140, _, _, _, _)) (by decide +kernel) rfl ?_
          refine Ru.br (k := .eq) (off := 9) (bb := true) (tg := 149) (by decide +kernel) (by decide +kernel) (by decide) rfl ?_
          refine Ru.op (q := (.iload_n 3, 1)) (S' := (150, _, _, _, _)) (by decide +kernel) rfl ?_
          refine Ru.op (q := (.istore_n 3, 1)) (S' := (151, [some (.ref 36), d1, some (vI v2), some (vI v3), some (vI v4), d5, some (vI 0)], [], _, _)) (by decide +kernel) rfl ?_
          refine Ru.op (q := (.goto (-74), 3)) (S' := (77, _, _, _, _)) (by decide +kernel) rfl ?_
          exact ih _ _ _ _ _ ⟨hdd.1, hdd.2.1, trivial⟩ _ h r hk
      · replace h := if_f b20 h
        refine Ru.br (k := .le) (off := 71) (bb := true) (tg := 154) (by decide +kernel) (by decide +kernel) (cz (ci_le1 g19 (by decide) b20)) rfl ?_
        cases h
        exact hk _ _ _ ⟨hdd.1, hdd.2.1, rfl, trivial⟩
set_option maxRecDepth 100000 in
set_option maxHeartbeats 4000000 in
theorem g150L14_ok {v2 : Int} : ∀ (n : Nat) (v3 : Int) (v4 : Int) (S : St) (d1 d5 d6 : Option Value) (_ : DD [d1, d5, d6]) (out : St), g150L14 v2 n v3 v4 S = some out → ∀ r, (∀ (e0 e1 e2 e3 e4 e5 e6 : Option Value), DD [e0, e1, e2, e3, e4, e5, e6] → Ru none 13 264 150 (160, [e0, e1, e2, e3, e4, e5, e6], [], out.ns, Hp out) r) → Ru none 13 264 150 (14, [some (.ref 36), d1, some (vI v2), some (vI v3), some (vI v4), d5, d6], [], S.ns, Hp S) r := by
  intro n
  induction n with
  | zero => intro v3 v4 S d1 d5 d6 hdd out h; cases h
  | succ n ih =>
    intro v3 v4 S d1 d5 d6 hdd out h r hk
    unfold g150L14 at h
    refine Ru.op (q := (.iload 4, 2)) (S' := (16, _, _, _, _)) (by decide +kernel) rfl ?_
    refine Ru.op (q := (.iload_n 2, 1)) (S' := (17, _, _, _, _)) (by decide +kernel) rfl ?_
    obtain ⟨g3, h⟩ := gd_some h
    obtain ⟨g4, h⟩ := gd_some h
    by_cases b5 : v4 < v2
    · replace h := if_t b5 h
      refine Ru.br2 (k := .ge) (off := 143) (bb := false) (tg := 20) (by decide +kernel) (by decide +kernel) (ci_ge0 g3 g4 b5) rfl ?_
      refine Ru.op (q := (.aload_n 0, 1)) (S' := (21, _, _, _, _)) (by decide +kernel) rfl ?_
      refine Ru.op (q := (.aload_n 0, 1)) (S' := (22, _, _, _, _)) (by decide +kernel) rfl ?_
      refine Ru.getR (pc' := 25) (i := 17) (ci := 10) (k := 4) (nn := 0) (z := 0) (v := .ref 38) (by decide +kernel) (by decide +kernel) (hp36 _) (by decide) rfl rfl ?_
      refine Ru.op (q := (.iload 4, 2)) (S' := (27, _, _, _, _)) (by decide +kernel) rfl ?_
      obtain ⟨g6, h⟩ := gd_some h
      refine Ru.ildI (pc' := 28) (i := v4) (z := (S.A 38 v4)) (by decide +kernel) (hp38 _) g6 (eI_of _) rfl ?_
      obtain ⟨o7, e8, h⟩ := ob_some h
      refine Ru.vcallI (pc' := 31) (st' := []) (i := 353) (j2 := 151) (ci := 10) (k := 0) (z := 0) (as := [vI (S.A 38 v4)]) (by decide +kernel) (by decide +kernel) rfl rfl (hp36 _) (by decide) ⟨(Nat.le_of_ble_eq_true rfl), (by show 19 + 3 ≤ 264; exact Nat.le_of_ble_eq_true rfl), Nat.le_of_ble_eq_true rfl, Nat.le_of_ble_eq_true rfl⟩ ((g151_ok e8).up (Nat.le_of_ble_eq_true rfl) (Nat.le_of_ble_eq_true rfl)) rfl rfl ?_
      refine Ru.op (q := (.aload_n 0, 1)) (S' := (32, _, _, _, _)) (by decide +kernel) rfl ?_
      refine Ru.getR (pc' := 35) (i := 17) (ci := 10) (k := 4) (nn := 0) (z := 0) (v := .ref 38) (by decide +kernel) (by decide +kernel) (hp36 _) (by decide) rfl rfl ?_
      refine Ru.op (q := (.iload 4, 2)) (S' := (37, _, _, _, _)) (by decide +kernel) rfl ?_
      refine Ru.ildI (pc' := 38) (i := v4) (z := (o7.A 38 v4)) (by decide +kernel) (hp38 _) g6 (eI_of _) rfl ?_
      obtain ⟨o9, e10, h⟩ := ob_some h
      refine Ru.callI (pc' := 41) (q := (.invokestatic 136, 3)) (j2 := 123) (as := [vI (o7.A 38 v4)]) (st' := [vI o9]) (by decide +kernel) rfl rfl rfl rfl ⟨(Nat.le_of_ble_eq_true rfl), (by show 19 + 1 ≤ 264; exact Nat.le_of_ble_eq_true rfl), Nat.le_of_ble_eq_true rfl, Nat.le_of_ble_eq_true rfl⟩ ((g123_ok e10).up (Nat.le_of_ble_eq_true rfl) (Nat.le_of_ble_eq_true rfl)) rfl rfl ?_
      refine Ru.op (q := (.istore 5, 2)) (S' := (43, [some (.ref 36), d1, some (vI v2), some (vI v3), some (vI v4), some (vI o9), d6], [], _, _)) (by decide +kernel) rfl ?_
      refine Ru.op (q := (.iload 5, 2)) (S' := (45, _, _, _, _)) (by decide +kernel) rfl ?_
      obtain ⟨g11, h⟩ := gd_some h
      by_cases b12 : 0 < o9
      · replace h := if_t b12 h
        refine Ru.br (k := .le) (off := 20) (bb := false) (tg := 48) (by decide +kernel) (by decide +kernel) (cz (ci_le0 g11 (by decide) b12)) rfl ?_
        refine Ru.op (q := (.aload_n 0, 1)) (S' := (49, _, _, _, _)) (by decide +kernel) rfl ?_
        refine Ru.kI (q := (.bipush 40, 2)) (c := 40) (pc' := 51) (by decide +kernel) rfl (by decide) rfl ?_
        obtain ⟨o13, e14, h⟩ := ob_some h
        refine Ru.vcallI (pc' := 54) (st' := []) (i := 347) (j2 := 149) (ci := 10) (k := 0) (z := 0) (as := [vI 40]) (by decide +kernel) (by decide +kernel) rfl rfl (hp36 _) (by decide) ⟨(Nat.le_of_ble_eq_true rfl), (by show 19 + 2 ≤ 264; exact Nat.le_of_ble_eq_true rfl), Nat.le_of_ble_eq_true rfl, Nat.le_of_ble_eq_true rfl⟩ ((g149_ok e14).up (Nat.le_of_ble_eq_true rfl) (Nat.le_of_ble_eq_true rfl)) rfl rfl ?_
        refine Ru.op (q := (.aload_n 0, 1)) (S' := (55, _, _, _, _)) (by decide +kernel) rfl ?_
        refine Ru.getR (pc' := 58) (i := 111) (ci := 10) (k := 55) (nn := 0) (z := 0) (v := .ref 68) (by decide +kernel) (by decide +kernel) (hp36 _) (by decide) rfl rfl ?_
        refine Ru.op (q := (.iload_n 3, 1)) (S' := (59, _, _, _, _)) (by decide +kernel) rfl ?_
        refine Ru.op (q := (.iload 5, 2)) (S' := (61, _, _, _, _)) (by decide +kernel) rfl ?_
        obtain ⟨g15, h⟩ := gd_some h
        refine Ru.istI (pc' := 62) (i := v3) (x := o9) (by decide +kernel) (hp68 _) g15 (ps_68 _ _ _) rfl ?_
        refine Ru.inc (k := 3) (n := 1) (x := v3) (z := (v3 + 1)) (xs' := [some (.ref 36), d1, some (vI v2), some (vI (v3 + 1)), some (vI v4), some (vI o9), d6]) (pc' := 65) (by decide +kernel) rfl rfl rfl rfl ?_
        refine Ru.op (q := (.iload 5, 2)) (S' := (67, _, _, _, _)) (by decide +kernel) rfl ?_
        by_cases b16 : o9 = 0
        · replace h := if_t b16 h
          refine Ru.br (k := .ne) (off := 7) (bb := false) (tg := 70) (by decide +kernel) (by decide +kernel) (cz (ci_ne0 g11 (by decide) b16)) rfl ?_
          refine Ru.kI (q := (.iconst 1, 1)) (c := 1) (pc' := 71) (by decide +kernel) rfl (by decide) rfl ?_
          refine Ru.op (q := (.goto 4, 3)) (S' := (75, _, _, _, _)) (by decide +kernel) rfl ?_
          refine Ru.op (q := (.istore 6, 2)) (S' := (77, [some (.ref 36), d1, some (vI v2), some (vI (v3 + 1)), some (vI v4), some (vI o9), some (vI 1)], [], _, _)) (by decide +kernel) rfl ?_
          obtain ⟨o27, e31, h⟩ := ob_some h
          refine g150L77_ok FU _ _ _ _ _ ⟨hdd.1, rfl, trivial⟩ _ e31 _ ?_
          intro d28 d29 d30 hd32
          refine Ru.inc (k := 4) (n := 1) (x := v4) (z := (v4 + 1)) (xs' := [some (.ref 36), d28, some (vI v2), some (vI o27.1), some (vI (v4 + 1)), d29, d30]) (pc' := 157) (by decide +kernel) rfl rfl rfl rfl ?_
          refine Ru.op (q := (.goto (-143), 3)) (S' := (14, _, _, _, _)) (by decide +kernel) rfl ?_
          exact ih _ _ _ _ _ _ ⟨hd32.1, hd32.2.1, hd32.2.2.1, trivial⟩ _ h r hk
        · replace h := if_f b16 h
          refine Ru.br (k := .ne) (off := 7) (bb := true) (tg := 74) (by decide +kernel) (by decide +kernel) (cz (ci_ne1 g11 (by decide) b16)) rfl ?_
          refine Ru.kI (q := (.iconst 0, 1)) (c := 0) (pc' := 75) (by decide +kernel) rfl (by decide) rfl ?_
          refine Ru.op (q := (.istore 6, 2)) (S' := (77, [some (.ref 36), d1, some (vI v2), some (vI (v3 + 1)), some (vI v4), some (vI o9), some (vI 0)], [], _, _)) (by decide +kernel) rfl ?_
          obtain ⟨o33, e37, h⟩ := ob_some h
          refine g150L77_ok FU _ _ _ _ _ ⟨hdd.1, rfl, trivial⟩ _ e37 _ ?_
          intro d34 d35 d36 hd38
          refine Ru.inc (k := 4) (n := 1) (x := v4) (z := (v4 + 1)) (xs' := [some (.ref 36), d34, some (vI v2), some (vI o33.1), some (vI (v4 + 1)), d35, d36]) (pc' := 157) (by decide +kernel) rfl rfl rfl rfl ?_
          refine Ru.op (q := (.goto (-143), 3)) (S' := (14, _, _, _, _)) (by decide +kernel) rfl ?_
          exact ih _ _ _ _ _ _ ⟨hd38.1, hd38.2.1, hd38.2.2.1, trivial⟩ _ h r hk
      · replace h := if_f b12 h
        refine Ru.br (k := .le) (off := 20) (bb := true) (tg := 65) (by decide +kernel) (by decide +kernel) (cz (ci_le1 g11 (by decide) b12)) rfl ?_
        refine Ru.op (q := (.iload 5, 2)) (S' := (67, _, _, _, _)) (by decide +kernel) rfl ?_
        by_cases b39 : o9 = 0
        · replace h := if_t b39 h
          refine Ru.br (k := .ne) (off := 7) (bb := false) (tg := 70) (by decide +kernel) (by decide +kernel) (cz (ci_ne0 g11 (by decide) b39)) rfl ?_
          refine Ru.kI (q := (.iconst 1, 1)) (c := 1) (pc' := 71) (by decide +kernel) rfl (by decide) rfl ?_
          refine Ru.op (q := (.goto 4, 3)) (S' := (75, _, _, _, _)) (by decide +kernel) rfl ?_
          refine Ru.op (q := (.istore 6, 2)) (S' := (77, [some (.ref 36), d1, some (vI v2), some (vI v3), some (vI v4), some (vI o9), some (vI 1)], [], _, _)) (by decide +kernel) rfl ?_
          obtain ⟨o40, e44, h⟩ := ob_some h
          refine g150L77_ok FU _ _ _ _ _ ⟨hdd.1, rfl, trivial⟩ _ e44 _ ?_
          intro d41 d42 d43 hd45
          refine Ru.inc (k := 4) (n := 1) (x := v4) (z := (v4 + 1)) (xs' := [some (.ref 36), d41, some (vI v2), some (vI o40.1), some (vI (v4 + 1)), d42, d43]) (pc' := 157) (by decide +kernel) rfl rfl rfl rfl ?_
          refine Ru.op (q := (.goto (-143), 3)) (S' := (14, _, _, _, _)) (by decide +kernel) rfl ?_
          exact ih _ _ _ _ _ _ ⟨hd45.1, hd45.2.1, hd45.2.2.1, trivial⟩ _ h r hk
        · replace h := if_f b39 h
          refine Ru.br (k := .ne) (off := 7) (bb := true) (tg := 74) (by decide +kernel) (by decide +kernel) (cz (ci_ne1 g11 (by decide) b39)) rfl ?_
          refine Ru.kI (q := (.iconst 0, 1)) (c := 0) (pc' := 75) (by decide +kernel) rfl (by decide) rfl ?_
          refine Ru.op (q := (.istore 6, 2)) (S' := (77, [some (.ref 36), d1, some (vI v2), some (vI v3), some (vI v4), some (vI o9), some (vI 0)], [], _, _)) (by decide +kernel) rfl ?_
          obtain ⟨o46, e50, h⟩ := ob_some h
          refine g150L77_ok FU _ _ _ _ _ ⟨hdd.1, rfl, trivial⟩ _ e50 _ ?_
          intro d47 d48 d49 hd51
          refine Ru.inc (k := 4) (n := 1) (x := v4) (z := (v4 + 1)) (xs' := [some (.ref 36), d47, some (vI v2), some (vI o46.1), some (vI (v4 + 1)), d48, d49]) (pc' := 157) (by decide +kernel) rfl rfl rfl rfl ?_
          refine Ru.op (q := (.goto (-143), 3)) (S' := (14, _, _, _, _)) (by decide +kernel) rfl ?_
          exact ih _ _ _ _ _ _ ⟨hd51.1, hd51.2.1, hd51.2.2.1, trivial⟩ _ h r hk
    · replace h := if_f b5 h
      refine Ru.br2 (k := .ge) (off := 143) (bb := true) (tg := 160) (by decide +kernel) (by decide +kernel) (ci_ge1 g3 g4 b5) rfl ?_
      cases h
      exact hk _ _ _ _ _ _ _ ⟨rfl, hdd.1, rfl, rfl, rfl, hdd.2.1, hdd.2.2.1, trivial⟩
set_option maxRecDepth 100000 in
set_option maxHeartbeats 4000000 in
theorem g150_ok {S : St} {v1 : Int} {o : St} (h : g150 S v1 = some o) : Ru none 13 264 150 (0, mn_pad (mn_ent [.ref 36, vI v1]) 7, [], S.ns, Hp S) ((0, none), o.ns, Hp o) := by
  unfold g150 at h
  show Ru none 13 264 150 (0, [some (.ref 36), some (vI v1), none, none, none, none, none], [], S.ns, Hp S) _
  refine Ru.op (q := (.aload_n 0, 1)) (S' := (1, _, _, _, _)) (by decide +kernel) rfl ?_
  refine Ru.getR (pc' := 4) (i := 17) (ci := 10) (k := 4) (nn := 0) (z := 0) (v := .ref 38) (by decide +kernel) (by decide +kernel) (hp36 _) (by decide) rfl rfl ?_
  refine Ru.op (q := (.iload_n 1, 1)) (S' := (5, _, _, _, _)) (by decide +kernel) rfl ?_
  obtain ⟨o1, e2, h⟩ := ob_some h
  refine Ru.callI (pc' := 8) (q := (.invokestatic 233, 3)) (j2 := 125) (as := [.ref 38, vI v1]) (st' := [vI o1]) (by decide +kernel) rfl rfl rfl rfl ⟨(Nat.le_of_ble_eq_true rfl), (by show 19 + 4 ≤ 264; exact Nat.le_of_ble_eq_true rfl), Nat.le_of_ble_eq_true rfl, Nat.le_of_ble_eq_true rfl⟩ ((g125_ok e2).up (Nat.le_of_ble_eq_true rfl) (Nat.le_of_ble_eq_true rfl)) rfl rfl ?_
  refine Ru.op (q := (.istore_n 2, 1)) (S' := (9, [some (.ref 36), some (vI v1), some (vI o1), none, none, none, none], [], _, _)) (by decide +kernel) rfl ?_
  refine Ru.kI (q := (.iconst 0, 1)) (c := 0) (pc' := 10) (by decide +kernel) rfl (by decide) rfl ?_
  refine Ru.op (q := (.istore_n 3, 1)) (S' := (11, [some (.ref 36), some (vI v1), some (vI o1), some (vI 0), none, none, none], [], _, _)) (by decide +kernel) rfl ?_
  refine Ru.op (q := (.iload_n 1, 1)) (S' := (12, _, _, _, _)) (by decide +kernel) rfl ?_
  refine Ru.op (q := (.istore 4, 2)) (S' := (14, [some (.ref 36), some (vI v1), some (vI o1), some (vI 0), some (vI v1), none, none], [], _, _)) (by decide +kernel) rfl ?_
  obtain ⟨o52, e60, h⟩ := ob_some h
  refine g150L14_ok FU _ _ _ _ _ _ ⟨rfl, rfl, rfl, trivial⟩ _ e60 _ ?_
  intro d53 d54 d55 d56 d57 d58 d59 hd61
  cases h
  exact Ru.end (q := (.return_, 1)) (by decide +kernel) rfl rfl
set_option maxRecDepth 100000 in
set_option maxHeartbeats 4000000 in
theorem g148L79_ok {v3 : Int} : ∀ (n : Nat) (v4 : Int) (S : St) (d1 d2 : Option Value) (_ : DD [d1, d2]) (out : St), g148L79 v3 n v4 S = some out → ∀ r, (∀ (e1 e2 e3 e4 : Option Value), DD [e1, e2, e3, e4] → Ru none 14 290 148 (141, [some (.ref 36), e1, e2, e3, e4], [], out.ns, Hp out) r) → Ru none 14 290 148 (79, [some (.ref 36), d1, d2, some (vI v3), some (vI v4)], [], S.ns, Hp S) r := by
  intro n
  induction n with
  | zero => intro v4 S d1 d2 hdd out h; cases h
  | succ n ih =>
    intro v4 S d1 d2 hdd out h r hk
    unfold g148L79 at h
    refine Ru.op (q := (.iload 4, 2)) (S' := (81, _, _, _, _)) (by decide +kernel) rfl ?_
    refine Ru.kI (q := (.iconst 4, 1)) (c := 4) (pc' := 82) (by decide +kernel) rfl (by decide) rfl ?_
    refine Ru.op (q := (.iload_n 3, 1)) (S' := (83, _, _, _, _)) (by decide +kernel) rfl ?_
    refine Ru.ar2 (i := .imul) (z := (4 * v3)) (pc' := 84) (by decide +kernel) rfl (ar_mul _ _) rfl ?_
    refine Ru.op (q := (.aload_n 0, 1)) (S' := (85, _, _, _, _)) (by decide +kernel) rfl ?_
    refine Ru.getR (pc' := 88) (i := 27) (ci := 10) (k := 7) (nn := 0) (z := 0) (v := .ref 41) (by decide +kernel) (by decide +kernel) (hp36 _) (by decide) rfl rfl ?_
    refine Ru.op (q := (.iload_n 3, 1)) (S' := (89, _, _, _, _)) (by decide +kernel) rfl ?_
    obtain ⟨g10, h⟩ := gd_some h
    refine Ru.ildI (pc' := 90) (i := v3) (z := (S.A 41 v3)) (by decide +kernel) (hp41 _) g10 (eI_of _) rfl ?_
    refine Ru.ar2 (i := .iadd) (z := ((4 * v3) + (S.A 41 v3))) (pc' := 91) (by decide +kernel) rfl (ar_add _ _) rfl ?_
    obtain ⟨g11, h⟩ := gd_some h
    obtain ⟨g12, h⟩ := gd_some h
    by_cases b13 : v4 < ((4 * v3) + (S.A 41 v3))
    · replace h := if_t b13 h
      refine Ru.br2 (k := .ge) (off := 50) (bb := false) (tg := 94) (by decide +kernel) (by decide +kernel) (ci_ge0 g11 g12 b13) rfl ?_
      refine Ru.op (q := (.iload 4, 2)) (S' := (96, _, _, _, _)) (by decide +kernel) rfl ?_
      refine Ru.kI (q := (.iconst 4, 1)) (c := 4) (pc' := 97) (by decide +kernel) rfl (by decide) rfl ?_
      refine Ru.op (q := (.iload_n 3, 1)) (S' := (98, _, _, _, _)) (by decide +kernel) rfl ?_
      refine Ru.ar2 (i := .imul) (z := (4 * v3)) (pc' := 99) (by decide +kernel) rfl (ar_mul _ _) rfl ?_
      obtain ⟨g14, h⟩ := gd_some h
      by_cases b15 : (4 * v3) < v4
      · replace h := if_t b15 h
        refine Ru.br2 (k := .le) (off := 9) (bb := false) (tg := 102) (by decide +kernel) (by decide +kernel) (ci_le0 g11 g14 b15) rfl ?_
        refine Ru.op (q := (.aload_n 0, 1)) (S' := (103, _, _, _, _)) (by decide +kernel) rfl ?_
        refine Ru.kI (q := (.bipush 124, 2)) (c := 124) (pc' := 105) (by decide +kernel) rfl (by decide) rfl ?_
        obtain ⟨o16, e17, h⟩ := ob_some h
        refine Ru.vcallI (pc' := 108) (st' := []) (i := 347) (j2 := 149) (ci := 10) (k := 0) (z := 0) (as := [vI 124]) (by decide +kernel) (by decide +kernel) rfl rfl (hp36 _) (by decide) ⟨(Nat.le_of_ble_eq_true rfl), (by show 19 + 2 ≤ 290; exact Nat.le_of_ble_eq_true rfl), Nat.le_of_ble_eq_true rfl, Nat.le_of_ble_eq_true rfl⟩ ((g149_ok e17).up (Nat.le_of_ble_eq_true rfl) (Nat.le_of_ble_eq_true rfl)) rfl rfl ?_
        refine Ru.op (q := (.aload_n 0, 1)) (S' := (109, _, _, _, _)) (by decide +kernel) rfl ?_
        refine Ru.getR (pc' := 112) (i := 23) (ci := 10) (k := 6) (nn := 0) (z := 0) (v := .ref 40) (by decide +kernel) (by decide +kernel) (hp36 _) (by decide) rfl rfl ?_
        refine Ru.op (q := (.iload 4, 2)) (S' := (114, _, _, _, _)) (by decide +kernel) rfl ?_
        obtain ⟨g18, h⟩ := gd_some h
        refine Ru.bldI (pc' := 115) (i := v4) (z := (o16.A 40 v4)) (by decide +kernel) (hp40 _) g18 (eI_of _) rfl ?_
        by_cases b19 : (o16.A 40 v4) = 0
        · replace h := if_t b19 h
          refine Ru.br (k := .eq) (off := 9) (bb := true) (tg := 124) (by decide +kernel) (by decide +kernel) (cz (ci_eq1 (inR_to _) (by decide) b19)) rfl ?_
          refine Ru.op (q := (.aload_n 0, 1)) (S' := (125, _, _, _, _)) (by decide +kernel) rfl ?_
          refine Ru.op (q := (.aload_n 0, 1)) (S' := (126, _, _, _, _)) (by decide +kernel) rfl ?_
          refine Ru.getR (pc' := 129) (i := 20) (ci := 10) (k := 5) (nn := 0) (z := 0) (v := .ref 39) (by decide +kernel) (by decide +kernel) (hp36 _) (by decide) rfl rfl ?_
          refine Ru.op (q := (.iload 4, 2)) (S' := (131, _, _, _, _)) (by decide +kernel) rfl ?_
          refine Ru.ildI (pc' := 132) (i := v4) (z := (o16.A 39 v4)) (by decide +kernel) (hp39 _) g18 (eI_of _) rfl ?_
          obtain ⟨o20, e21, h⟩ := ob_some h
          refine Ru.vcallI (pc' := 135) (st' := []) (i := 359) (j2 := 150) (ci := 10) (k := 0) (z := 0) (as := [vI (o16.A 39 v4)]) (by decide +kernel) (by decide +kernel) rfl rfl (hp36 _) (by decide) ⟨(Nat.le_of_ble_eq_true rfl), (by show 19 + 7 ≤ 290; exact Nat.le_of_ble_eq_true rfl), Nat.le_of_ble_eq_true rfl, Nat.le_of_ble_eq_true rfl⟩ ((g150_ok e21).up (Nat.le_of_ble_eq_true rfl) (Nat.le_of_ble_eq_true rfl)) rfl rfl ?_
          refine Ru.inc (k := 4) (n := 1) (x := v4) (z := (v4 + 1)) (xs' := [some (.ref 36), d1, d2, some (vI v3), some (vI (v4 + 1))]) (pc' := 138) (by decide +kernel) rfl rfl rfl rfl ?_
          refine Ru.op (q := (.goto (-59), 3)) (S' := (79, _, _, _, _)) (by decide +kernel) rfl ?_
          exact ih _ _ _ _ ⟨hdd.1, hdd.2.1, trivial⟩ _ h r hk
        · replace h := if_f b19 h
          refine Ru.br (k := .eq) (off := 9) (bb := false) (tg := 118) (by decide +kernel) (by decide +kernel) (cz (ci_eq0 (inR_to _) (by decide) b19)) rfl ?_
          refine Ru.op (q := (.aload_n 0, 1)) (S' := (119, _, _, _, _)) (by decide +kernel) rfl ?_
          refine Ru.kI (q := (.bipush 126, 2)) (c := 126) (pc' := 121) (by decide +kernel) rfl (by decide) rfl ?_
          obtain ⟨o22, e23, h⟩ := ob_some h
          refine Ru.vcallI (pc' := 124) (st' := []) (i := 347) (j2 := 149) (ci := 10) (k := 0) (z := 0) (as := [vI 126]) (by decide +kernel) (by decide +kernel) rfl rfl (hp36 _) (by decide) ⟨(Nat.le_of_ble_eq_true rfl), (by show 19 + 2 ≤ 290; exact Nat.le_of_ble_eq_true rfl), Nat.le_of_ble_eq_true rfl, Nat.le_of_ble_eq_true rfl⟩ ((g149_ok e23).up (Nat.le_of_ble_eq_true rfl) (Nat.le_of_ble_eq_true rfl)) rfl rfl ?_
          refine Ru.op (q := (.aload_n 0, 1)) (S' := (125, _, _, _, _)) (by decide +kernel) rfl ?_
          refine Ru.op (q := (.aload_n 0, 1)) (S' := (126, _, _, _, _)) (by decide +kernel) rfl ?_
          refine Ru.getR (pc' := 129) (i := 20) (ci := 10) (k := 5) (nn := 0) (z := 0) (v := .ref 39) (by decide +kernel) (by decide +kernel) (hp36 _) (by decide) rfl rfl ?_
          refine Ru.op (q := (.iload 4, 2)) (S' := (131, _, _, _, _)) (by decide +kernel) rfl ?_
          refine Ru.ildI (pc' := 132) (i := v4) (z := (o22.A 39 v4)) (by decide +kernel) (hp39 _) g18 (eI_of _) rfl ?_
          obtain ⟨o24, e25, h⟩ := ob_some h
          refine Ru.vcallI (pc' := 135) (st' := []) (i := 359) (j2 := 150) (ci := 10) (k := 0) (z := 0) (as := [vI (o22.A 39 v4)]) (by decide +kernel) (by decide +kernel) rfl rfl (hp36 _) (by decide) ⟨(Nat.le_of_ble_eq_true rfl), (by show 19 + 7 ≤ 290; exact Nat.le_of_ble_eq_true rfl), Nat.le_of_ble_eq_true rfl, Nat.le_of_ble_eq_true rfl⟩ ((g150_ok e25).up (Nat.le_of_ble_eq_true rfl) (Nat.le_of_ble_eq_true rfl)) rfl rfl ?_
          refine Ru.inc (k := 4) (n := 1) (x := v4) (z := (v4 + 1)) (xs' := [some (.ref 36), d1, d2, some (vI v3), some (vI (v4 + 1))]) (pc' := 138) (by decide +kernel) rfl rfl rfl rfl ?_
          refine Ru.op (q := (.goto (-59), 3)) (S' := (79, _, _, _, _)) (by decide +kernel) rfl ?_
          exact ih _ _ _ _ ⟨hdd.1, hdd.2.1, trivial⟩ _ h r hk
      · replace h := if_f b15 h
        refine Ru.br2 (k := .le) (off := 9) (bb := true) (tg := 108) (by decide +kernel) (by decide +kernel) (ci_le1 g11 g14 b15) rfl ?_
        refine Ru.op (q := (.aload_n 0, 1)) (S' := (109, _, _, _, _)) (by decide +kernel) rfl ?_
        refine Ru.getR (pc' := 112) (i := 23) (ci := 10) (k := 6) (nn := 0) (z := 0) (v := .ref 40) (by decide +kernel) (by decide +kernel) (hp36 _) (by decide) rfl rfl ?_
        refine Ru.op (q := (.iload 4, 2)) (S' := (114, _, _, _, _)) (by decide +kernel) rfl ?_
        obtain ⟨g26, h⟩ := gd_some h
        refine Ru.bldI (pc' := 115) (i := v4) (z := (S.A 40 v4)) (by decide +kernel) (hp40 _) g26 (eI_of _) rfl ?_
        by_cases b27 : (S.A 40 v4) = 0
        · replace h := if_t b27 h
          refine Ru.br (k := .eq) (off := 9) (bb := true) (tg := 124) (by decide +kernel) (by decide +kernel) (cz (ci_eq1 (inR_to _) (by decide) b27)) rfl ?_
          refine Ru.op (q := (.aload_n 0, 1)) (S' := (125, _, _, _, _)) (by decide +kernel) rfl ?_
          refine Ru.op (q := (.aload_n 0, 1)) (S' := (126, _, _, _, _)) (by decide +kernel) rfl ?_
          refine Ru.getR (pc' := 129) (i := 20) (ci := 10) (k := 5) (nn := 0) (z := 0) (v := .ref 39) (by decide +kernel) (by decide +kernel) (hp36 _) (by decide) rfl rfl ?_
          refine Ru.op (q := (.iload 4, 2)) (S' := (131, _, _, _, _)) (by decide +kernel) rfl ?_
          refine Ru.ildI (pc' := 132) (i := v4) (z := (S.A 39 v4)) (by decide +kernel) (hp39 _) g26 (eI_of _) rfl ?_
          obtain ⟨o28, e29, h⟩ := ob_some h
          refine Ru.vcallI (pc' := 135) (st' := []) (i := 359) (j2 := 150) (ci := 10) (k := 0) (z := 0) (as := [vI (S.A 39 v4)]) (by decide +kernel) (by decide +kernel) rfl rfl (hp36 _) (by decide) ⟨(Nat.le_of_ble_eq_true rfl), (by show 19 + 7 ≤ 290; exact Nat.le_of_ble_eq_true rfl), Nat.le_of_ble_eq_true rfl, Nat.le_of_ble_eq_true rfl⟩ ((g150_ok e29).up (Nat.le_of_ble_eq_true rfl) (Nat.le_of_ble_eq_true rfl)) rfl rfl ?_
          refine Ru.inc (k := 4) (n := 1) (x := v4) (z := (v4 + 1)) (xs' := [some (.ref 36), d1, d2, some (vI v3), some (vI (v4 + 1))]) (pc' := 138) (by decide +kernel) rfl rfl rfl rfl ?_
          refine Ru.op (q := (.goto (-59), 3)) (S' := (79, _, _, _, _)) (by decide +kernel) rfl ?_
          exact ih _ _ _ _ ⟨hdd.1, hdd.2.1, trivial⟩ _ h r hk
        · replace h := if_f b27 h
          refine Ru.br (k := .eq) (off := 9) (bb := false) (tg := 118) (by decide +kernel) (by decide +kernel) (cz (ci_eq0 (inR_to _) (by decide) b27)) rfl ?_
          refine Ru.op (q := (.aload_n 0, 1)) (S' := (119, _, _, _, _)) (by decide +kernel) rfl ?_
          refine Ru.kI (q := (.bipush 126, 2)) (c := 126) (pc' := 121) (by decide +kernel) rfl (by decide) rfl ?_
          obtain ⟨o30, e31, h⟩ := ob_some h
          refine Ru.vcallI (pc' := 124) (st' := []) (i := 347) (j2 := 149) (ci := 10) (k := 0) (z := 0) (as := [vI 126]) (by decide +kernel) (by decide +kernel) rfl rfl (hp36 _) (by decide) ⟨(Nat.le_of_ble_eq_true rfl), (by show 19 + 2 ≤ 290; exact Nat.le_of_ble_eq_true rfl), Nat.le_of_ble_eq_true rfl, Nat.le_of_ble_eq_true rfl⟩ ((g149_ok e31).up (Nat.le_of_ble_eq_true rfl) (Nat.le_of_ble_eq_true rfl)) rfl rfl ?_
          refine Ru.op (q := (.aload_n 0, 1)) (S' := (125, _, _, _, _)) (by decide +kernel) rfl ?_
          refine Ru.op (q := (.aload_n 0, 1)) (S' := (126, _, _, _, _)) (by decide +kernel) rfl ?_
          refine Ru.getR (pc' := 129) (i := 20) (ci := 10) (k := 5) (nn := 0) (z := 0) (v := .ref 39) (by decide +kernel) (by decide +kernel) (hp36 _) (by decide) rfl rfl ?_
          refine Ru.op (q := (.iload 4, 2)) (S' := (131, _, _, _, _)) (by decide +kernel) rfl ?_
          refine Ru.ildI (pc' := 132) (i := v4) (z := (o30.A 39 v4)) (by decide +kernel) (hp39 _) g26 (eI_of _) rfl ?_
          obtain ⟨o32, e33, h⟩ := ob_some h
          refine Ru.vcallI (pc' := 135) (st' := []) (i := 359) (j2 := 150) (ci := 10) (k := 0) (z := 0) (as := [vI (o30.A 39 v4)]) (by decide +kernel) (by decide +kernel) rfl rfl (hp36 _) (by decide) ⟨(Nat.le_of_ble_eq_true rfl), (by show 19 + 7 ≤ 290; exact Nat.le_of_ble_eq_true rfl), Nat.le_of_ble_eq_true rfl, Nat.le_of_ble_eq_true rfl⟩ ((g150_ok e33).up (Nat.le_of_ble_eq_true rfl) (Nat.le_of_ble_eq_true rfl)) rfl rfl ?_
          refine Ru.inc (k := 4) (n := 1) (x := v4) (z := (v4 + 1)) (xs' := [some (.ref 36), d1, d2, some (vI v3), some (vI (v4 + 1))]) (pc' := 138) (by decide +kernel) rfl rfl rfl rfl ?_
          refine Ru.op (q := (.goto (-59), 3)) (S' := (79, _, _, _, _)) (by decide +kernel) rfl ?_
          exact ih _ _ _ _ ⟨hdd.1, hdd.2.1, trivial⟩ _ h r hk
    · replace h := if_f b13 h
      refine Ru.br2 (k := .ge) (off := 50) (bb := true) (tg := 141) (by decide +kernel) (by decide +kernel) (ci_ge1 g11 g12 b13) rfl ?_
      cases h
      exact hk _ _ _ _ ⟨hdd.1, hdd.2.1, rfl, rfl, trivial⟩
set_option maxRecDepth 100000 in
set_option maxHeartbeats 4000000 in
theorem g148_ok {S : St} {v1 : Int} {v2 : Int} {o : Int × St} (h : g148 S v1 v2 = some o) : Ru none 14 290 148 (0, mn_pad (mn_ent [.ref 36, vI v1, vI v2]) 5, [], S.ns, Hp S) ((0, some (vI o.1)), o.2.ns, Hp o.2) := by
  unfold g148 at h
  show Ru none 14 290 148 (0, [some (.ref 36), some (vI v1), some (vI v2), none, none], [], S.ns, Hp S) _
  refine Ru.op (q := (.aload_n 0, 1)) (S' := (1, _, _, _, _)) (by decide +kernel) rfl ?_
  refine Ru.op (q := (.iload_n 2, 1)) (S' := (2, _, _, _, _)) (by decide +kernel) rfl ?_
  obtain ⟨g1, h⟩ := gd_some h
  by_cases b2 : v2 < 0
  · replace h := if_t b2 h
    refine Ru.br (k := .lt) (off := 22) (bb := true) (tg := 24) (by decide +kernel) (by decide +kernel) (cz (ci_lt1 g1 (by decide) b2)) rfl ?_
    refine Ru.kI (q := (.iconst 1, 1)) (c := 1) (pc' := 25) (by decide +kernel) rfl (by decide) rfl ?_
    refine Ru.op (q := (.goto 4, 3)) (S' := (29, _, _, _, _)) (by decide +kernel) rfl ?_
    refine Ru.putH (pc' := 32) (i := 120) (ci := 10) (k := 0) (nn := 0) (z := 0) (by decide +kernel) (by decide +kernel) (hp36 _) (by decide) (Nat.le_of_ble_eq_true rfl) rfl (by decide +kernel) (pf_36_0 _ _) rfl ?_
    refine Ru.op (q := (.aload_n 0, 1)) (S' := (33, _, _, _, _)) (by decide +kernel) rfl ?_
    refine Ru.getI (pc' := 36) (i := 120) (ci := 10) (k := 0) (nn := 0) (z := 0) (x := 1) (by decide +kernel) (by decide +kernel) (hp36 _) (by decide) rfl rfl rfl ?_
    refine Ru.br (k := .le) (off := 5) (bb := false) (tg := 39) (by decide +kernel) (by decide +kernel) (by decide) rfl ?_
    refine Ru.kI (q := (.iconst 0, 1)) (c := 0) (pc' := 40) (by decide +kernel) rfl (by decide) rfl ?_
    cases h
    exact Ru.iret (by decide +kernel) rfl rfl
  · replace h := if_f b2 h
    refine Ru.br (k := .lt) (off := 22) (bb := false) (tg := 5) (by decide +kernel) (by decide +kernel) (cz (ci_lt0 g1 (by decide) b2)) rfl ?_
    refine Ru.op (q := (.iload_n 2, 1)) (S' := (6, _, _, _, _)) (by decide +kernel) rfl ?_
    refine Ru.op (q := (.iload_n 1, 1)) (S' := (7, _, _, _, _)) (by decide +kernel) rfl ?_
    obtain ⟨g3, h⟩ := gd_some h
    by_cases b4 : v1 = 0
    · replace h := if_t b4 h
      refine Ru.br (k := .eq) (off := 10) (bb := true) (tg := 17) (by decide +kernel) (by decide +kernel) (cz (ci_eq1 g3 (by decide) b4)) rfl ?_
      refine Ru.op (q := (.aload_n 0, 1)) (S' := (18, _, _, _, _)) (by decide +kernel) rfl ?_
      refine Ru.getI (pc' := 21) (i := 263) (ci := 10) (k := 9) (nn := 0) (z := 0) (x := (S.F 36 9)) (by decide +kernel) (by decide +kernel) (hp36 _) (by decide) rfl (eI_of _) rfl ?_
      by_cases b5 : v2 < (S.F 36 9)
      · replace h := if_t b5 h
        refine Ru.br2 (k := .lt) (off := 7) (bb := true) (tg := 28) (by decide +kernel) (by decide +kernel) (ci_lt1 g1 (inR_to _) b5) rfl ?_
        refine Ru.kI (q := (.iconst 0, 1)) (c := 0) (pc' := 29) (by decide +kernel) rfl (by decide) rfl ?_
        refine Ru.putH (pc' := 32) (i := 120) (ci := 10) (k := 0) (nn := 0) (z := 0) (by decide +kernel) (by decide +kernel) (hp36 _) (by decide) (Nat.le_of_ble_eq_true rfl) rfl (by decide +kernel) (pf_36_0 _ _) rfl ?_
        refine Ru.op (q := (.aload_n 0, 1)) (S' := (33, _, _, _, _)) (by decide +kernel) rfl ?_
        refine Ru.getI (pc' := 36) (i := 120) (ci := 10) (k := 0) (nn := 0) (z := 0) (x := 0) (by decide +kernel) (by decide +kernel) (hp36 _) (by decide) rfl rfl rfl ?_
        refine Ru.br (k := .le) (off := 5) (bb := true) (tg := 41) (by decide +kernel) (by decide +kernel) (by decide) rfl ?_
        refine Ru.op (q := (.iload_n 1, 1)) (S' := (42, _, _, _, _)) (by decide +kernel) rfl ?_
        refine Ru.br (k := .eq) (off := 10) (bb := true) (tg := 52) (by decide +kernel) (by decide +kernel) (cz (ci_eq1 g3 (by decide) b4)) rfl ?_
        refine Ru.op (q := (.iload_n 2, 1)) (S' := (53, _, _, _, _)) (by decide +kernel) rfl ?_
        refine Ru.op (q := (.istore_n 3, 1)) (S' := (54, [some (.ref 36), some (vI v1), some (vI v2), some (vI v2), none], [], _, _)) (by decide +kernel) rfl ?_
        refine Ru.op (q := (.aload_n 0, 1)) (S' := (55, _, _, _, _)) (by decide +kernel) rfl ?_
        refine Ru.kI (q := (.iconst 0, 1)) (c := 0) (pc' := 56) (by decide +kernel) rfl (by decide) rfl ?_
        refine Ru.putH (pc' := 59) (i := 344) (ci := 10) (k := 56) (nn := 0) (z := 0) (by decide +kernel) (by decide +kernel) (hp36 _) (by decide) (Nat.le_of_ble_eq_true rfl) rfl (by decide +kernel) (pf_36_56 _ _) rfl ?_
        refine Ru.op (q := (.aload_n 0, 1)) (S' := (60, _, _, _, _)) (by decide +kernel) rfl ?_
        refine Ru.getR (pc' := 63) (i := 27) (ci := 10) (k := 7) (nn := 0) (z := 0) (v := .ref 41) (by decide +kernel) (by decide +kernel) (hp36 _) (by decide) rfl rfl ?_
        refine Ru.op (q := (.iload_n 3, 1)) (S' := (64, _, _, _, _)) (by decide +kernel) rfl ?_
        obtain ⟨g6, h⟩ := gd_some h
        refine Ru.ildI (pc' := 65) (i := v2) (z := (S.A 41 v2)) (by decide +kernel) (hp41 _) g6 (eI_of _) rfl ?_
        by_cases b7 : (S.A 41 v2) = 0
        · replace h := if_t b7 h
          refine Ru.br (k := .ne) (off := 9) (bb := false) (tg := 68) (by decide +kernel) (by decide +kernel) (cz (ci_ne0 (inR_to _) (by decide) b7)) rfl ?_
          refine Ru.op (q := (.aload_n 0, 1)) (S' := (69, _, _, _, _)) (by decide +kernel) rfl ?_
          refine Ru.kI (q := (.bipush 48, 2)) (c := 48) (pc' := 71) (by decide +kernel) rfl (by decide) rfl ?_
          obtain ⟨o8, e9, h⟩ := ob_some h
          refine Ru.vcallI (pc' := 74) (st' := []) (i := 347) (j2 := 149) (ci := 10) (k := 0) (z := 0) (as := [vI 48]) (by decide +kernel) (by decide +kernel) rfl rfl (hp36 _) (by decide) ⟨(Nat.le_of_ble_eq_true rfl), (by show 19 + 2 ≤ 290; exact Nat.le_of_ble_eq_true rfl), Nat.le_of_ble_eq_true rfl, Nat.le_of_ble_eq_true rfl⟩ ((g149_ok e9).up (Nat.le_of_ble_eq_true rfl) (Nat.le_of_ble_eq_true rfl)) rfl rfl ?_
          refine Ru.kI (q := (.iconst 4, 1)) (c := 4) (pc' := 75) (by decide +kernel) rfl (by decide) rfl ?_
          refine Ru.op (q := (.iload_n 3, 1)) (S' := (76, _, _, _, _)) (by decide +kernel) rfl ?_
          refine Ru.ar2 (i := .imul) (z := (4 * v2)) (pc' := 77) (by decide +kernel) rfl (ar_mul _ _) rfl ?_
          refine Ru.op (q := (.istore 4, 2)) (S' := (79, [some (.ref 36), some (vI v1), some (vI v2), some (vI v2), some (vI (4 * v2))], [], _, _)) (by decide +kernel) rfl ?_
          obtain ⟨o34, e39, h⟩ := ob_some h
          refine g148L79_ok FU _ _ _ _ ⟨rfl, rfl, trivial⟩ _ e39 _ ?_
          intro d35 d36 d37 d38 hd40
          refine Ru.op (q := (.aload_n 0, 1)) (S' := (142, _, _, _, _)) (by decide +kernel) rfl ?_
          refine Ru.getI (pc' := 145) (i := 344) (ci := 10) (k := 56) (nn := 0) (z := 0) (x := (o34.F 36 56)) (by decide +kernel) (by decide +kernel) (hp36 _) (by decide) rfl (eI_of _) rfl ?_
          cases h
          exact Ru.iret (by decide +kernel) rfl rfl
        · replace h := if_f b7 h
          refine Ru.br (k := .ne) (off := 9) (bb := true) (tg := 74) (by decide +kernel) (by decide +kernel) (cz (ci_ne1 (inR_to _) (by decide) b7)) rfl ?_
          refine Ru.kI (q := (.iconst 4, 1)) (c := 4) (pc' := 75) (by decide +kernel) rfl (by decide) rfl ?_
          refine Ru.op (q := (.iload_n 3, 1)) (S' := (76, _, _, _, _)) (by decide +kernel) rfl ?_
          refine Ru.ar2 (i := .imul) (z := (4 * v2)) (pc' := 77) (by decide +kernel) rfl (ar_mul _ _) rfl ?_
          refine Ru.op (q := (.istore 4, 2)) (S' := (79, [some (.ref 36), some (vI v1), some (vI v2), some (vI v2), some (vI (4 * v2))], [], _, _)) (by decide +kernel) rfl ?_
          obtain ⟨o41, e46, h⟩ := ob_some h
          refine g148L79_ok FU _ _ _ _ ⟨rfl, rfl, trivial⟩ _ e46 _ ?_
          intro d42 d43 d44 d45 hd47
          refine Ru.op (q := (.aload_n 0, 1)) (S' := (142, _, _, _, _)) (by decide +kernel) rfl ?_
          refine Ru.getI (pc' := 145) (i := 344) (ci := 10) (k := 56) (nn := 0) (z := 0) (x := (o41.F 36 56)) (by decide +kernel) (by decide +kernel) (hp36 _) (by decide) rfl (eI_of _) rfl ?_
          cases h
          exact Ru.iret (by decide +kernel) rfl rfl
      · replace h := if_f b5 h
        refine Ru.br2 (k := .lt) (off := 7) (bb := false) (tg := 24) (by decide +kernel) (by decide +kernel) (ci_lt0 g1 (inR_to _) b5) rfl ?_
        refine Ru.kI (q := (.iconst 1, 1)) (c := 1) (pc' := 25) (by decide +kernel) rfl (by decide) rfl ?_
        refine Ru.op (q := (.goto 4, 3)) (S' := (29, _, _, _, _)) (by decide +kernel) rfl ?_
        refine Ru.putH (pc' := 32) (i := 120) (ci := 10) (k := 0) (nn := 0) (z := 0) (by decide +kernel) (by decide +kernel) (hp36 _) (by decide) (Nat.le_of_ble_eq_true rfl) rfl (by decide +kernel) (pf_36_0 _ _) rfl ?_
        refine Ru.op (q := (.aload_n 0, 1)) (S' := (33, _, _, _, _)) (by decide +kernel) rfl ?_
        refine Ru.getI (pc' := 36) (i := 120) (ci := 10) (k := 0) (nn := 0) (z := 0) (x := 1) (by decide +kernel) (by decide +kernel) (hp36 _) (by decide) rfl rfl rfl ?_
        refine Ru.br (k := .le) (off := 5) (bb := false) (tg := 39) (by decide +kernel) (by decide +kernel) (by decide) rfl ?_
        refine Ru.kI (q := (.iconst 0, 1)) (c := 0) (pc' := 40) (by decide +kernel) rfl (by decide) rfl ?_
        cases h
        exact Ru.iret (by decide +kernel) rfl rfl
    · replace h := if_f b4 h
      refine Ru.br (k := .eq) (off := 10) (bb := false) (tg := 10) (by decide +kernel) (by decide +kernel) (cz (ci_eq0 g3 (by decide) b4)) rfl ?_
      refine Ru.op (q := (.aload_n 0, 1)) (S' := (11, _, _, _, _)) (by decide +kernel) rfl ?_
      refine Ru.getI (pc' := 14) (i := 356) (ci := 10) (k := 10) (nn := 0) (z := 0) (x := (S.F 36 10)) (by decide +kernel) (by decide +kernel) (hp36 _) (by decide) rfl (eI_of _) rfl ?_
      refine Ru.op (q := (.goto 7, 3)) (S' := (21, _, _, _, _)) (by decide +kernel) rfl ?_
      by_cases b48 : v2 < (S.F 36 10)
      · replace h := if_t b48 h
        refine Ru.br2 (k := .lt) (off := 7) (bb := true) (tg := 28) (by decide +kernel) (by decide +kernel) (ci_lt1 g1 (inR_to _) b48) rfl ?_
        refine Ru.kI (q := (.iconst 0, 1)) (c := 0) (pc' := 29) (by decide +kernel) rfl (by decide) rfl ?_
        refine Ru.putH (pc' := 32) (i := 120) (ci := 10) (k := 0) (nn := 0) (z := 0) (by decide +kernel) (by decide +kernel) (hp36 _) (by decide) (Nat.le_of_ble_eq_true rfl) rfl (by decide +kernel) (pf_36_0 _ _) rfl ?_
        refine Ru.op (q := (.aload_n 0, 1)) (S' := (33, _, _, _, _)) (by decide +kernel) rfl ?_
        refine Ru.getI (pc' := 36) (i := 120) (ci := 10) (k := 0) (nn := 0) (z := 0) (x := 0) (by decide +kernel) (by decide +kernel) (hp36 _) (by decide) rfl rfl rfl ?_
        refine Ru.br (k := .le) (off := 5) (bb := true) (tg := 41) (by decide +kernel) (by decide +kernel) (by decide) rfl ?_
        refine Ru.op (q := (.iload_n 1, 1)) (S' := (42, _, _, _, _)) (by decide +kernel) rfl ?_
        refine Ru.br (k := .eq) (off := 10) (bb := false) (tg := 45) (by decide +kernel) (by decide +kernel) (cz (ci_eq0 g3 (by decide) b4)) rfl ?_
        refine Ru.kI (q := (.bipush 100, 2)) (c := 100) (pc' := 47) (by decide +kernel) rfl (by decide) rfl ?_
        refine Ru.op (q := (.iload_n 2, 1)) (S' := (48, _, _, _, _)) (by decide +kernel) rfl ?_
        refine Ru.ar2 (i := .iadd) (z := (100 + v2)) (pc' := 49) (by decide +kernel) rfl (ar_add _ _) rfl ?_
        refine Ru.op (q := (.goto 4, 3)) (S' := (53, _, _, _, _)) (by decide +kernel) rfl ?_
        refine Ru.op (q := (.istore_n 3, 1)) (S' := (54, [some (.ref 36), some (vI v1), some (vI v2), some (vI (100 + v2)), none], [], _, _)) (by decide +kernel) rfl ?_
        refine Ru.op (q := (.aload_n 0, 1)) (S' := (55, _, _, _, _)) (by decide +kernel) rfl ?_
        refine Ru.kI (q := (.iconst 0, 1)) (c := 0) (pc' := 56) (by decide +kernel) rfl (by decide) rfl ?_
        refine Ru.putH (pc' := 59) (i := 344) (ci := 10) (k := 56) (nn := 0) (z := 0) (by decide +kernel) (by decide +kernel) (hp36 _) (by decide) (Nat.le_of_ble_eq_true rfl) rfl (by decide +kernel) (pf_36_56 _ _) rfl ?_
        refine Ru.op (q := (.aload_n 0, 1)) (S' := (60, _, _, _, _)) (by decide +kernel) rfl ?_
        refine Ru.getR (pc' := 63) (i := 27) (ci := 10) (k := 7) (nn := 0) (z := 0) (v := .ref 41) (by decide +kernel) (by decide +kernel) (hp36 _) (by decide) rfl rfl ?_
        refine Ru.op (q := (.iload_n 3, 1)) (S' := (64, _, _, _, _)) (by decide +kernel) rfl ?_
        obtain ⟨g49, h⟩ := gd_some h
        refine Ru.ildI (pc' := 65) (i := (100 + v2)) (z := (S.A 41 (100 + v2))) (by decide +kernel) (hp41 _) g49 (eI_of _) rfl ?_
        by_cases b50 : (S.A 41 (100 + v2)) = 0
        · replace h := if_t b50 h
          refine Ru.br (k := .ne) (off := 9) (bb := false) (tg := 68) (by decide +kernel) (by decide +kernel) (cz (ci_ne0 (inR_to _) (by decide) b50)) rfl ?_
          refine Ru.op (q := (.aload_n 0, 1)) (S' := (69, _, _, _, _)) (by decide +kernel) rfl ?_
          refine Ru.kI (q := (.bipush 48, 2)) (c := 48) (pc' := 71) (by decide +kernel) rfl (by decide) rfl ?_
          obtain ⟨o51, e52, h⟩ := ob_some h
          refine Ru.vcallI (pc' := 74) (st' := []) (i := 347) (j2 := 149) (ci := 10) (k := 0) (z := 0) (as := [vI 48]) (by decide +kernel) (by decide +kernel) rfl rfl (hp36 _) (by decide) ⟨(Nat.le_of_ble_eq_true rfl), (by show 19 + 2 ≤ 290; exact Nat.le_of_ble_eq_true rfl), Nat.le_of_ble_eq_true rfl, Nat.le_of_ble_eq_true rfl⟩ ((g149_ok e52).up (Nat.le_of_ble_eq_true rfl) (Nat.le_of_ble_eq_true rfl)) rfl rfl ?_
          refine Ru.kI (q := (.iconst 4, 1)) (c := 4) (pc' := 75) (by decide +kernel) rfl (by decide) rfl ?_
          refine Ru.op (q := (.iload_n 3, 1)) (S' := (76, _, _, _, _)) (by decide +kernel) rfl ?_
          refine Ru.ar2 (i := .imul) (z := (4 * (100 + v2))) (pc' := 77) (by decide +kernel) rfl (ar_mul _ _) rfl ?_
          refine Ru.op (q := (.istore 4, 2)) (S' := (79, [some (.ref 36), some (vI v1), some (vI v2), some (vI (100 + v2)), some (vI (4 * (100 + v2)))], [], _, _)) (by decide +kernel) rfl ?_
          obtain ⟨o53, e58, h⟩ := ob_some h
          refine g148L79_ok FU _ _ _ _ ⟨rfl, rfl, trivial⟩ _ e58 _ ?_
          intro d54 d55 d56 d57 hd59
          refine Ru.op (q := (.aload_n 0, 1)) (S' := (142, _, _, _, _)) (by decide +kernel) rfl ?_
          refine Ru.getI (pc' := 145) (i := 344) (ci := 10) (k := 56) (nn := 0) (z := 0) (x := (o53.F 36 56)) (by decide +kernel) (by decide +kernel) (hp36 _) (by decide) rfl (eI_of _) rfl ?_
          cases h
          exact Ru.iret (by decide +kernel) rfl rfl
        · replace h := if_f b50 h
          refine Ru.br (k := .ne) (off := 9) (bb := true) (tg := 74) (by decide +kernel) (by decide +kernel) (cz (ci_ne1 (inR_to _) (by decide) b50)) rfl ?_
          refine Ru.kI (q := (.iconst 4, 1)) (c := 4) (pc' := 75) (by decide +kernel) rfl (by decide) rfl ?_
          refine Ru.op (q := (.iload_n 3, 1)) (S' := (76, _, _, _, _)) (by decide +kernel) rfl ?_
          refine Ru.ar2 (i := .imul) (z := (4 * (100 + v2))) (pc' := 77) (by decide +kernel) rfl (ar_mul _ _) rfl ?_
          refine Ru.op (q := (.istore 4, 2)) (S' := (79, [some (.ref 36), some (vI v1), some (vI v2), some (vI (100 + v2)), some (vI (4 * (100 + v2)))], [], _, _)) (by decide +kernel) rfl ?_
          obtain ⟨o60, e65, h⟩ := ob_some h
          refine g148L79_ok FU _ _ _ _ ⟨rfl, rfl, trivial⟩ _ e65 _ ?_
          intro d61 d62 d63 d64 hd66
          refine Ru.op (q := (.aload_n 0, 1)) (S' := (142, _, _, _, _)) (by decide +kernel) rfl ?_
          refine Ru.getI (pc' := 145) (i := 344) (ci := 10) (k := 56) (nn := 0) (z := 0) (x := (o60.F 36 56)) (by decide +kernel) (by decide +kernel) (hp36 _) (by decide) rfl (eI_of _) rfl ?_
          cases h
          exact Ru.iret (by decide +kernel) rfl rfl
      · replace h := if_f b48 h
        refine Ru.br2 (k := .lt) (off := 7) (bb := false) (tg := 24) (by decide +kernel) (by decide +kernel) (ci_lt0 g1 (inR_to _) b48) rfl ?_
        refine Ru.kI (q := (.iconst 1, 1)) (c := 1) (pc' := 25) (by decide +kernel) rfl (by decide) rfl ?_
        refine Ru.op (q := (.goto 4, 3)) (S' := (29, _, _, _, _)) (by decide +kernel) rfl ?_
        refine Ru.putH (pc' := 32) (i := 120) (ci := 10) (k := 0) (nn := 0) (z := 0) (by decide +kernel) (by decide +kernel) (hp36 _) (by decide) (Nat.le_of_ble_eq_true rfl) rfl (by decide +kernel) (pf_36_0 _ _) rfl ?_
        refine Ru.op (q := (.aload_n 0, 1)) (S' := (33, _, _, _, _)) (by decide +kernel) rfl ?_
        refine Ru.getI (pc' := 36) (i := 120) (ci := 10) (k := 0) (nn := 0) (z := 0) (x := 1) (by decide +kernel) (by decide +kernel) (hp36 _) (by decide) rfl rfl rfl ?_
        refine Ru.br (k := .le) (off := 5) (bb := false) (tg := 39) (by decide +kernel) (by decide +kernel) (by decide) rfl ?_
        refine Ru.kI (q := (.iconst 0, 1)) (c := 0) (pc' := 40) (by decide +kernel) rfl (by decide) rfl ?_
        cases h
        exact Ru.iret (by decide +kernel) rfl rfl
set_option maxRecDepth 100000 in
set_option maxHeartbeats 4000000 in
theorem g153_ok {S : St} {v1 : Int} {o : Int × St} (h : g153 S v1 = some o) : Ru none 10 200 153 (0, mn_pad (mn_ent [.ref 36, vI v1]) 2, [], S.ns, Hp S) ((0, some (vI o.1)), o.2.ns, Hp o.2) := by
  unfold g153 at h
  show Ru none 10 200 153 (0, [some (.ref 36), some (vI v1)], [], S.ns, Hp S) _
  refine Ru.op (q := (.aload_n 0, 1)) (S' := (1, _, _, _, _)) (by decide +kernel) rfl ?_
  refine Ru.op (q := (.iload_n 1, 1)) (S' := (2, _, _, _, _)) (by decide +kernel) rfl ?_
  obtain ⟨g1, h⟩ := gd_some h
  by_cases b2 : v1 < 0
  · replace h := if_t b2 h
    refine Ru.br (k := .lt) (off := 11) (bb := true) (tg := 13) (by decide +kernel) (by decide +kernel) (cz (ci_lt1 g1 (by decide) b2)) rfl ?_
    refine Ru.kI (q := (.iconst 1, 1)) (c := 1) (pc' := 14) (by decide +kernel) rfl (by decide) rfl ?_
    refine Ru.op (q := (.goto 4, 3)) (S' := (18, _, _, _, _)) (by decide +kernel) rfl ?_
    refine Ru.putH (pc' := 21) (i := 120) (ci := 10) (k := 0) (nn := 0) (z := 0) (by decide +kernel) (by decide +kernel) (hp36 _) (by decide) (Nat.le_of_ble_eq_true rfl) rfl (by decide +kernel) (pf_36_0 _ _) rfl ?_
    refine Ru.op (q := (.aload_n 0, 1)) (S' := (22, _, _, _, _)) (by decide +kernel) rfl ?_
    refine Ru.getI (pc' := 25) (i := 120) (ci := 10) (k := 0) (nn := 0) (z := 0) (x := 1) (by decide +kernel) (by decide +kernel) (hp36 _) (by decide) rfl rfl rfl ?_
    refine Ru.br (k := .le) (off := 7) (bb := false) (tg := 28) (by decide +kernel) (by decide +kernel) (by decide) rfl ?_
    refine Ru.kI (q := (.iconst 0, 1)) (c := 0) (pc' := 29) (by decide +kernel) rfl (by decide) rfl ?_
    refine Ru.op (q := (.goto 10, 3)) (S' := (39, _, _, _, _)) (by decide +kernel) rfl ?_
    cases h
    exact Ru.iret (by decide +kernel) rfl (nar_ch (by decide))
  · replace h := if_f b2 h
    refine Ru.br (k := .lt) (off := 11) (bb := false) (tg := 5) (by decide +kernel) (by decide +kernel) (cz (ci_lt0 g1 (by decide) b2)) rfl ?_
    refine Ru.op (q := (.iload_n 1, 1)) (S' := (6, _, _, _, _)) (by decide +kernel) rfl ?_
    refine Ru.op (q := (.aload_n 0, 1)) (S' := (7, _, _, _, _)) (by decide +kernel) rfl ?_
    refine Ru.getI (pc' := 10) (i := 344) (ci := 10) (k := 56) (nn := 0) (z := 0) (x := (S.F 36 56)) (by decide +kernel) (by decide +kernel) (hp36 _) (by decide) rfl (eI_of _) rfl ?_
    by_cases b3 : v1 < (S.F 36 56)
    · replace h := if_t b3 h
      refine Ru.br2 (k := .lt) (off := 7) (bb := true) (tg := 17) (by decide +kernel) (by decide +kernel) (ci_lt1 g1 (inR_to _) b3) rfl ?_
      refine Ru.kI (q := (.iconst 0, 1)) (c := 0) (pc' := 18) (by decide +kernel) rfl (by decide) rfl ?_
      refine Ru.putH (pc' := 21) (i := 120) (ci := 10) (k := 0) (nn := 0) (z := 0) (by decide +kernel) (by decide +kernel) (hp36 _) (by decide) (Nat.le_of_ble_eq_true rfl) rfl (by decide +kernel) (pf_36_0 _ _) rfl ?_
      refine Ru.op (q := (.aload_n 0, 1)) (S' := (22, _, _, _, _)) (by decide +kernel) rfl ?_
      refine Ru.getI (pc' := 25) (i := 120) (ci := 10) (k := 0) (nn := 0) (z := 0) (x := 0) (by decide +kernel) (by decide +kernel) (hp36 _) (by decide) rfl rfl rfl ?_
      refine Ru.br (k := .le) (off := 7) (bb := true) (tg := 32) (by decide +kernel) (by decide +kernel) (by decide) rfl ?_
      refine Ru.op (q := (.aload_n 0, 1)) (S' := (33, _, _, _, _)) (by decide +kernel) rfl ?_
      refine Ru.getR (pc' := 36) (i := 114) (ci := 10) (k := 57) (nn := 0) (z := 0) (v := .ref 69) (by decide +kernel) (by decide +kernel) (hp36 _) (by decide) rfl rfl ?_
      refine Ru.op (q := (.iload_n 1, 1)) (S' := (37, _, _, _, _)) (by decide +kernel) rfl ?_
      obtain ⟨g4, h⟩ := gd_some h
      refine Ru.ildI (pc' := 38) (i := v1) (z := (S.A 69 v1)) (by decide +kernel) (hp69 _) g4 (eI_of _) rfl ?_
      obtain ⟨g5, h⟩ := gd_some h
      refine Ru.i2c (pc' := 39) (by decide +kernel) g5 rfl ?_
      cases h
      exact Ru.iret (by decide +kernel) rfl (nar_ch g5)
    · replace h := if_f b3 h
      refine Ru.br2 (k := .lt) (off := 7) (bb := false) (tg := 13) (by decide +kernel) (by decide +kernel) (ci_lt0 g1 (inR_to _) b3) rfl ?_
      refine Ru.kI (q := (.iconst 1, 1)) (c := 1) (pc' := 14) (by decide +kernel) rfl (by decide) rfl ?_
      refine Ru.op (q := (.goto 4, 3)) (S' := (18, _, _, _, _)) (by decide +kernel) rfl ?_
      refine Ru.putH (pc' := 21) (i := 120) (ci := 10) (k := 0) (nn := 0) (z := 0) (by decide +kernel) (by decide +kernel) (hp36 _) (by decide) (Nat.le_of_ble_eq_true rfl) rfl (by decide +kernel) (pf_36_0 _ _) rfl ?_
      refine Ru.op (q := (.aload_n 0, 1)) (S' := (22, _, _, _, _)) (by decide +kernel) rfl ?_
      refine Ru.getI (pc' := 25) (i := 120) (ci := 10) (k := 0) (nn := 0) (z := 0) (x := 1) (by decide +kernel) (by decide +kernel) (hp36 _) (by decide) rfl rfl rfl ?_
      refine Ru.br (k := .le) (off := 7) (bb := false) (tg := 28) (by decide +kernel) (by decide +kernel) (by decide) rfl ?_
      refine Ru.kI (q := (.iconst 0, 1)) (c := 0) (pc' := 29) (by decide +kernel) rfl (by decide) rfl ?_
      refine Ru.op (q := (.goto 10, 3)) (S' := (39, _, _, _, _)) (by decide +kernel) rfl ?_
      cases h
      exact Ru.iret (by decide +kernel) rfl (nar_ch (by decide))
set_option maxRecDepth 100000 in
set_option maxHeartbeats 4000000 in
theorem g154_ok {S : St} {v1 : Int} {v2 : Int} {o : Int × St} (h : g154 S v1 v2 = some o) : Ru none 10 200 154 (0, mn_pad (mn_ent [.ref 36, vI v1, vI v2]) 3, [], S.ns, Hp S) ((0, some (vI o.1)), o.2.ns, Hp o.2) := by
  unfold g154 at h
  show Ru none 10 200 154 (0, [some (.ref 36), some (vI v1), some (vI v2)], [], S.ns, Hp S) _
  refine Ru.op (q := (.aload_n 0, 1)) (S' := (1, _, _, _, _)) (by decide +kernel) rfl ?_
  refine Ru.op (q := (.iload_n 1, 1)) (S' := (2, _, _, _, _)) (by decide +kernel) rfl ?_
  obtain ⟨g1, h⟩ := gd_some h
  by_cases b2 : v1 < 0
  · replace h := if_t b2 h
    refine Ru.br (k := .lt) (off := 11) (bb := true) (tg := 13) (by decide +kernel) (by decide +kernel) (cz (ci_lt1 g1 (by decide) b2)) rfl ?_
    refine Ru.kI (q := (.iconst 1, 1)) (c := 1) (pc' := 14) (by decide +kernel) rfl (by decide) rfl ?_
    refine Ru.op (q := (.goto 18, 3)) (S' := (32, _, _, _, _)) (by decide +kernel) rfl ?_
    refine Ru.putH (pc' := 35) (i := 120) (ci := 10) (k := 0) (nn := 0) (z := 0) (by decide +kernel) (by decide +kernel) (hp36 _) (by decide) (Nat.le_of_ble_eq_true rfl) rfl (by decide +kernel) (pf_36_0 _ _) rfl ?_
    refine Ru.op (q := (.aload_n 0, 1)) (S' := (36, _, _, _, _)) (by decide +kernel) rfl ?_
    refine Ru.getI (pc' := 39) (i := 120) (ci := 10) (k := 0) (nn := 0) (z := 0) (x := 1) (by decide +kernel) (by decide +kernel) (hp36 _) (by decide) rfl rfl rfl ?_
    refine Ru.br (k := .le) (off := 5) (bb := false) (tg := 42) (by decide +kernel) (by decide +kernel) (by decide) rfl ?_
    refine Ru.kI (q := (.iconst 0, 1)) (c := 0) (pc' := 43) (by decide +kernel) rfl (by decide) rfl ?_
    cases h
    exact Ru.iret (by decide +kernel) rfl rfl
  · replace h := if_f b2 h
    refine Ru.br (k := .lt) (off := 11) (bb := false) (tg := 5) (by decide +kernel) (by decide +kernel) (cz (ci_lt0 g1 (by decide) b2)) rfl ?_
    refine Ru.op (q := (.iload_n 1, 1)) (S' := (6, _, _, _, _)) (by decide +kernel) rfl ?_
    refine Ru.op (q := (.aload_n 0, 1)) (S' := (7, _, _, _, _)) (by decide +kernel) rfl ?_
    refine Ru.getI (pc' := 10) (i := 263) (ci := 10) (k := 9) (nn := 0) (z := 0) (x := (S.F 36 9)) (by decide +kernel) (by decide +kernel) (hp36 _) (by decide) rfl (eI_of _) rfl ?_
    by_cases b3 : v1 < (S.F 36 9)
    · replace h := if_t b3 h
      refine Ru.br2 (k := .lt) (off := 7) (bb := true) (tg := 17) (by decide +kernel) (by decide +kernel) (ci_lt1 g1 (inR_to _) b3) rfl ?_
      refine Ru.op (q := (.iload_n 2, 1)) (S' := (18, _, _, _, _)) (by decide +kernel) rfl ?_
      obtain ⟨g4, h⟩ := gd_some h
      by_cases b5 : v2 < 0
      · replace h := if_t b5 h
        refine Ru.br (k := .lt) (off := 9) (bb := true) (tg := 27) (by decide +kernel) (by decide +kernel) (cz (ci_lt1 g4 (by decide) b5)) rfl ?_
        refine Ru.kI (q := (.iconst 2, 1)) (c := 2) (pc' := 28) (by decide +kernel) rfl (by decide) rfl ?_
        refine Ru.op (q := (.goto 4, 3)) (S' := (32, _, _, _, _)) (by decide +kernel) rfl ?_
        refine Ru.putH (pc' := 35) (i := 120) (ci := 10) (k := 0) (nn := 0) (z := 0) (by decide +kernel) (by decide +kernel) (hp36 _) (by decide) (Nat.le_of_ble_eq_true rfl) rfl (by decide +kernel) (pf_36_0 _ _) rfl ?_
        refine Ru.op (q := (.aload_n 0, 1)) (S' := (36, _, _, _, _)) (by decide +kernel) rfl ?_
        refine Ru.getI (pc' := 39) (i := 120) (ci := 10) (k := 0) (nn := 0) (z := 0) (x := 2) (by decide +kernel) (by decide +kernel) (hp36 _) (by decide) rfl rfl rfl ?_
        refine Ru.br (k := .le) (off := 5) (bb := false) (tg := 42) (by decide +kernel) (by decide +kernel) (by decide) rfl ?_
        refine Ru.kI (q := (.iconst 0, 1)) (c := 0) (pc' := 43) (by decide +kernel) rfl (by decide) rfl ?_
        cases h
        exact Ru.iret (by decide +kernel) rfl rfl
      · replace h := if_f b5 h
        refine Ru.br (k := .lt) (off := 9) (bb := false) (tg := 21) (by decide +kernel) (by decide +kernel) (cz (ci_lt0 g4 (by decide) b5)) rfl ?_
        refine Ru.op (q := (.iload_n 2, 1)) (S' := (22, _, _, _, _)) (by decide +kernel) rfl ?_
        refine Ru.kI (q := (.bipush 7, 2)) (c := 7) (pc' := 24) (by decide +kernel) rfl (by decide) rfl ?_
        by_cases b6 : 7 < v2
        · replace h := if_t b6 h
          refine Ru.br2 (k := .le) (off := 7) (bb := false) (tg := 27) (by decide +kernel) (by decide +kernel) (ci_le0 g4 (by decide) b6) rfl ?_
          refine Ru.kI (q := (.iconst 2, 1)) (c := 2) (pc' := 28) (by decide +kernel) rfl (by decide) rfl ?_
          refine Ru.op (q := (.goto 4, 3)) (S' := (32, _, _, _, _)) (by decide +kernel) rfl ?_
          refine Ru.putH (pc' := 35) (i := 120) (ci := 10) (k := 0) (nn := 0) (z := 0) (by decide +kernel) (by decide +kernel) (hp36 _) (by decide) (Nat.le_of_ble_eq_true rfl) rfl (by decide +kernel) (pf_36_0 _ _) rfl ?_
          refine Ru.op (q := (.aload_n 0, 1)) (S' := (36, _, _, _, _)) (by decide +kernel) rfl ?_
          refine Ru.getI (pc' := 39) (i := 120) (ci := 10) (k := 0) (nn := 0) (z := 0) (x := 2) (by decide +kernel) (by decide +kernel) (hp36 _) (by decide) rfl rfl rfl ?_
          refine Ru.br (k := .le) (off := 5) (bb := false) (tg := 42) (by decide +kernel) (by decide +kernel) (by decide) rfl ?_
          refine Ru.kI (q := (.iconst 0, 1)) (c := 0) (pc' := 43) (by decide +kernel) rfl (by decide) rfl ?_
          cases h
          exact Ru.iret (by decide +kernel) rfl rfl
        · replace h := if_f b6 h
          refine Ru.br2 (k := .le) (off := 7) (bb := true) (tg := 31) (by decide +kernel) (by decide +kernel) (ci_le1 g4 (by decide) b6) rfl ?_
          refine Ru.kI (q := (.iconst 0, 1)) (c := 0) (pc' := 32) (by decide +kernel) rfl (by decide) rfl ?_
          refine Ru.putH (pc' := 35) (i := 120) (ci := 10) (k := 0) (nn := 0) (z := 0) (by decide +kernel) (by decide +kernel) (hp36 _) (by decide) (Nat.le_of_ble_eq_true rfl) rfl (by decide +kernel) (pf_36_0 _ _) rfl ?_
          refine Ru.op (q := (.aload_n 0, 1)) (S' := (36, _, _, _, _)) (by decide +kernel) rfl ?_
          refine Ru.getI (pc' := 39) (i := 120) (ci := 10) (k := 0) (nn := 0) (z := 0) (x := 0) (by decide +kernel) (by decide +kernel) (hp36 _) (by decide) rfl rfl rfl ?_
          refine Ru.br (k := .le) (off := 5) (bb := true) (tg := 44) (by decide +kernel) (by decide +kernel) (by decide) rfl ?_
          refine Ru.op (q := (.iload_n 2, 1)) (S' := (45, _, _, _, _)) (by decide +kernel) rfl ?_
          refine Ru.kI (q := (.iconst 3, 1)) (c := 3) (pc' := 46) (by decide +kernel) rfl (by decide) rfl ?_
          by_cases b7 : 3 < v2
          · replace h := if_t b7 h
            refine Ru.br2 (k := .le) (off := 16) (bb := false) (tg := 49) (by decide +kernel) (by decide +kernel) (ci_le0 g4 (by decide) b7) rfl ?_
            refine Ru.op (q := (.aload_n 0, 1)) (S' := (50, _, _, _, _)) (by decide +kernel) rfl ?_
            refine Ru.getR (pc' := 53) (i := 39) (ci := 10) (k := 13) (nn := 0) (z := 0) (v := .ref 45) (by decide +kernel) (by decide +kernel) (hp36 _) (by decide) rfl rfl ?_
            refine Ru.kI (q := (.iconst 4, 1)) (c := 4) (pc' := 54) (by decide +kernel) rfl (by decide) rfl ?_
            refine Ru.op (q := (.iload_n 1, 1)) (S' := (55, _, _, _, _)) (by decide +kernel) rfl ?_
            refine Ru.ar2 (i := .imul) (z := (4 * v1)) (pc' := 56) (by decide +kernel) rfl (ar_mul _ _) rfl ?_
            refine Ru.op (q := (.iload_n 2, 1)) (S' := (57, _, _, _, _)) (by decide +kernel) rfl ?_
            refine Ru.ar2 (i := .iadd) (z := ((4 * v1) + v2)) (pc' := 58) (by decide +kernel) rfl (ar_add _ _) rfl ?_
            refine Ru.kI (q := (.iconst 4, 1)) (c := 4) (pc' := 59) (by decide +kernel) rfl (by decide) rfl ?_
            refine Ru.ar2 (i := .isub) (z := (((4 * v1) + v2) - 4)) (pc' := 60) (by decide +kernel) rfl (ar_sub _ _) rfl ?_
            obtain ⟨g8, h⟩ := gd_some h
            refine Ru.ildI (pc' := 61) (i := (((4 * v1) + v2) - 4)) (z := (S.A 45 (((4 * v1) + v2) - 4))) (by decide +kernel) (hp45 _) g8 (eI_of _) rfl ?_
            cases h
            exact Ru.iret (by decide +kernel) rfl rfl
          · replace h := if_f b7 h
            refine Ru.br2 (k := .le) (off := 16) (bb := true) (tg := 62) (by decide +kernel) (by decide +kernel) (ci_le1 g4 (by decide) b7) rfl ?_
            refine Ru.op (q := (.iload_n 2, 1)) (S' := (63, _, _, _, _)) (by decide +kernel) rfl ?_
            by_cases b9 : v2 = 0
            · replace h := if_t b9 h
              refine Ru.br (k := .ne) (off := 12) (bb := false) (tg := 66) (by decide +kernel) (by decide +kernel) (cz (ci_ne0 g4 (by decide) b9)) rfl ?_
              refine Ru.op (q := (.aload_n 0, 1)) (S' := (67, _, _, _, _)) (by decide +kernel) rfl ?_
              refine Ru.getR (pc' := 70) (i := 33) (ci := 10) (k := 11) (nn := 0) (z := 0) (v := .ref 43) (by decide +kernel) (by decide +kernel) (hp36 _) (by decide) rfl rfl ?_
              refine Ru.op (q := (.iload_n 1, 1)) (S' := (71, _, _, _, _)) (by decide +kernel) rfl ?_
              obtain ⟨g10, h⟩ := gd_some h
              refine Ru.ildI (pc' := 72) (i := v1) (z := (S.A 43 v1)) (by decide +kernel) (hp43 _) g10 (eI_of _) rfl ?_
              refine Ru.op (q := (.goto 37, 3)) (S' := (109, _, _, _, _)) (by decide +kernel) rfl ?_
              cases h
              exact Ru.iret (by decide +kernel) rfl rfl
            · replace h := if_f b9 h
              refine Ru.br (k := .ne) (off := 12) (bb := true) (tg := 75) (by decide +kernel) (by decide +kernel) (cz (ci_ne1 g4 (by decide) b9)) rfl ?_
              refine Ru.op (q := (.iload_n 2, 1)) (S' := (76, _, _, _, _)) (by decide +kernel) rfl ?_
              refine Ru.kI (q := (.iconst 1, 1)) (c := 1) (pc' := 77) (by decide +kernel) rfl (by decide) rfl ?_
              by_cases b11 : v2 = 1
              · replace h := if_t b11 h
                refine Ru.br2 (k := .ne) (off := 12) (bb := false) (tg := 80) (by decide +kernel) (by decide +kernel) (ci_ne0 g4 (by decide) b11) rfl ?_
                refine Ru.op (q := (.aload_n 0, 1)) (S' := (81, _, _, _, _)) (by decide +kernel) rfl ?_
                refine Ru.getR (pc' := 84) (i := 27) (ci := 10) (k := 7) (nn := 0) (z := 0) (v := .ref 41) (by decide +kernel) (by decide +kernel) (hp36 _) (by decide) rfl rfl ?_
                refine Ru.op (q := (.iload_n 1, 1)) (S' := (85, _, _, _, _)) (by decide +kernel) rfl ?_
                obtain ⟨g12, h⟩ := gd_some h
                refine Ru.ildI (pc' := 86) (i := v1) (z := (S.A 41 v1)) (by decide +kernel) (hp41 _) g12 (eI_of _) rfl ?_
                refine Ru.op (q := (.goto 23, 3)) (S' := (109, _, _, _, _)) (by decide +kernel) rfl ?_
                cases h
                exact Ru.iret (by decide +kernel) rfl rfl
              · replace h := if_f b11 h
                refine Ru.br2 (k := .ne) (off := 12) (bb := true) (tg := 89) (by decide +kernel) (by decide +kernel) (ci_ne1 g4 (by decide) b11) rfl ?_
                refine Ru.op (q := (.iload_n 2, 1)) (S' := (90, _, _, _, _)) (by decide +kernel) rfl ?_
                refine Ru.kI (q := (.iconst 2, 1)) (c := 2) (pc' := 91) (by decide +kernel) rfl (by decide) rfl ?_
                by_cases b13 : v2 = 2
                · replace h := if_t b13 h
                  refine Ru.br2 (k := .ne) (off := 12) (bb := false) (tg := 94) (by decide +kernel) (by decide +kernel) (ci_ne0 g4 (by decide) b13) rfl ?_
                  refine Ru.op (q := (.aload_n 0, 1)) (S' := (95, _, _, _, _)) (by decide +kernel) rfl ?_
                  refine Ru.getR (pc' := 98) (i := 30) (ci := 10) (k := 8) (nn := 0) (z := 0) (v := .ref 42) (by decide +kernel) (by decide +kernel) (hp36 _) (by decide) rfl rfl ?_
                  refine Ru.op (q := (.iload_n 1, 1)) (S' := (99, _, _, _, _)) (by decide +kernel) rfl ?_
                  obtain ⟨g14, h⟩ := gd_some h
                  refine Ru.ildI (pc' := 100) (i := v1) (z := (S.A 42 v1)) (by decide +kernel) (hp42 _) g14 (eI_of _) rfl ?_
                  refine Ru.op (q := (.goto 9, 3)) (S' := (109, _, _, _, _)) (by decide +kernel) rfl ?_
                  cases h
                  exact Ru.iret (by decide +kernel) rfl rfl
                · replace h := if_f b13 h
                  refine Ru.br2 (k := .ne) (off := 12) (bb := true) (tg := 103) (by decide +kernel) (by decide +kernel) (ci_ne1 g4 (by decide) b13) rfl ?_
                  refine Ru.op (q := (.aload_n 0, 1)) (S' := (104, _, _, _, _)) (by decide +kernel) rfl ?_
                  refine Ru.getR (pc' := 107) (i := 36) (ci := 10) (k := 12) (nn := 0) (z := 0) (v := .ref 44) (by decide +kernel) (by decide +kernel) (hp36 _) (by decide) rfl rfl ?_
                  refine Ru.op (q := (.iload_n 1, 1)) (S' := (108, _, _, _, _)) (by decide +kernel) rfl ?_
                  obtain ⟨g15, h⟩ := gd_some h
                  refine Ru.ildI (pc' := 109) (i := v1) (z := (S.A 44 v1)) (by decide +kernel) (hp44 _) g15 (eI_of _) rfl ?_
                  cases h
                  exact Ru.iret (by decide +kernel) rfl rfl
    · replace h := if_f b3 h
      refine Ru.br2 (k := .lt) (off := 7) (bb := false) (tg := 13) (by decide +kernel) (by decide +kernel) (ci_lt0 g1 (inR_to _) b3) rfl ?_
      refine Ru.kI (q := (.iconst 1, 1)) (c := 1) (pc' := 14) (by decide +kernel) rfl (by decide) rfl ?_
      refine Ru.op (q := (.goto 18, 3)) (S' := (32, _, _, _, _)) (by decide +kernel) rfl ?_
      refine Ru.putH (pc' := 35) (i := 120) (ci := 10) (k := 0) (nn := 0) (z := 0) (by decide +kernel) (by decide +kernel) (hp36 _) (by decide) (Nat.le_of_ble_eq_true rfl) rfl (by decide +kernel) (pf_36_0 _ _) rfl ?_
      refine Ru.op (q := (.aload_n 0, 1)) (S' := (36, _, _, _, _)) (by decide +kernel) rfl ?_
      refine Ru.getI (pc' := 39) (i := 120) (ci := 10) (k := 0) (nn := 0) (z := 0) (x := 1) (by decide +kernel) (by decide +kernel) (hp36 _) (by decide) rfl rfl rfl ?_
      refine Ru.br (k := .le) (off := 5) (bb := false) (tg := 42) (by decide +kernel) (by decide +kernel) (by decide) rfl ?_
      refine Ru.kI (q := (.iconst 0, 1)) (c := 0) (pc' := 43) (by decide +kernel) rfl (by decide) rfl ?_
      cases h
      exact Ru.iret (by decide +kernel) rfl rfl
set_option maxRecDepth 100000 in
set_option maxHeartbeats 4000000 in
theorem g155_ok {S : St} {v1 : Int} {v2 : Int} {o : Int × St} (h : g155 S v1 v2 = some o) : Ru none 15 319 155 (0, mn_pad (mn_ent [.ref 36, vI v1, vI v2]) 3, [], S.ns, Hp S) ((0, some (vI o.1)), o.2.ns, Hp o.2) := by
  unfold g155 at h
  show Ru none 15 319 155 (0, [some (.ref 36), some (vI v1), some (vI v2)], [], S.ns, Hp S) _
  refine Ru.op (q := (.aload_n 0, 1)) (S' := (1, _, _, _, _)) (by decide +kernel) rfl ?_
  refine Ru.op (q := (.iload_n 1, 1)) (S' := (2, _, _, _, _)) (by decide +kernel) rfl ?_
  obtain ⟨g1, h⟩ := gd_some h
  by_cases b2 : v1 < 0
  · replace h := if_t b2 h
    refine Ru.br (k := .lt) (off := 23) (bb := true) (tg := 25) (by decide +kernel) (by decide +kernel) (cz (ci_lt1 g1 (by decide) b2)) rfl ?_
    refine Ru.kI (q := (.iconst 1, 1)) (c := 1) (pc' := 26) (by decide +kernel) rfl (by decide) rfl ?_
    refine Ru.op (q := (.goto 4, 3)) (S' := (30, _, _, _, _)) (by decide +kernel) rfl ?_
    refine Ru.putH (pc' := 33) (i := 120) (ci := 10) (k := 0) (nn := 0) (z := 0) (by decide +kernel) (by decide +kernel) (hp36 _) (by decide) (Nat.le_of_ble_eq_true rfl) rfl (by decide +kernel) (pf_36_0 _ _) rfl ?_
    refine Ru.op (q := (.aload_n 0, 1)) (S' := (34, _, _, _, _)) (by decide +kernel) rfl ?_
    refine Ru.getI (pc' := 37) (i := 120) (ci := 10) (k := 0) (nn := 0) (z := 0) (x := 1) (by decide +kernel) (by decide +kernel) (hp36 _) (by decide) rfl rfl rfl ?_
    refine Ru.br (k := .ne) (off := 16) (bb := true) (tg := 53) (by decide +kernel) (by decide +kernel) (by decide) rfl ?_
    refine Ru.kI (q := (.iconst 0, 1)) (c := 0) (pc' := 54) (by decide +kernel) rfl (by decide) rfl ?_
    cases h
    exact Ru.iret (by decide +kernel) rfl (nar_b1 (by decide))
  · replace h := if_f b2 h
    refine Ru.br (k := .lt) (off := 23) (bb := false) (tg := 5) (by decide +kernel) (by decide +kernel) (cz (ci_lt0 g1 (by decide) b2)) rfl ?_
    refine Ru.op (q := (.iload_n 1, 1)) (S' := (6, _, _, _, _)) (by decide +kernel) rfl ?_
    refine Ru.op (q := (.aload_n 0, 1)) (S' := (7, _, _, _, _)) (by decide +kernel) rfl ?_
    refine Ru.getI (pc' := 10) (i := 263) (ci := 10) (k := 9) (nn := 0) (z := 0) (x := (S.F 36 9)) (by decide +kernel) (by decide +kernel) (hp36 _) (by decide) rfl (eI_of _) rfl ?_
    by_cases b3 : v1 < (S.F 36 9)
    · replace h := if_t b3 h
      refine Ru.br2 (k := .ge) (off := 15) (bb := false) (tg := 13) (by decide +kernel) (by decide +kernel) (ci_ge0 g1 (inR_to _) b3) rfl ?_
      refine Ru.op (q := (.iload_n 2, 1)) (S' := (14, _, _, _, _)) (by decide +kernel) rfl ?_
      obtain ⟨g4, h⟩ := gd_some h
      by_cases b5 : v2 < 0
      · replace h := if_t b5 h
        refine Ru.br (k := .lt) (off := 11) (bb := true) (tg := 25) (by decide +kernel) (by decide +kernel) (cz (ci_lt1 g4 (by decide) b5)) rfl ?_
        refine Ru.kI (q := (.iconst 1, 1)) (c := 1) (pc' := 26) (by decide +kernel) rfl (by decide) rfl ?_
        refine Ru.op (q := (.goto 4, 3)) (S' := (30, _, _, _, _)) (by decide +kernel) rfl ?_
        refine Ru.putH (pc' := 33) (i := 120) (ci := 10) (k := 0) (nn := 0) (z := 0) (by decide +kernel) (by decide +kernel) (hp36 _) (by decide) (Nat.le_of_ble_eq_true rfl) rfl (by decide +kernel) (pf_36_0 _ _) rfl ?_
        refine Ru.op (q := (.aload_n 0, 1)) (S' := (34, _, _, _, _)) (by decide +kernel) rfl ?_
        refine Ru.getI (pc' := 37) (i := 120) (ci := 10) (k := 0) (nn := 0) (z := 0) (x := 1) (by decide +kernel) (by decide +kernel) (hp36 _) (by decide) rfl rfl rfl ?_
        refine Ru.br (k := .ne) (off := 16) (bb := true) (tg := 53) (by decide +kernel) (by decide +kernel) (by decide) rfl ?_
        refine Ru.kI (q := (.iconst 0, 1)) (c := 0) (pc' := 54) (by decide +kernel) rfl (by decide) rfl ?_
        cases h
        exact Ru.iret (by decide +kernel) rfl (nar_b1 (by decide))
      · replace h := if_f b5 h
        refine Ru.br (k := .lt) (off := 11) (bb := false) (tg := 17) (by decide +kernel) (by decide +kernel) (cz (ci_lt0 g4 (by decide) b5)) rfl ?_
        refine Ru.op (q := (.iload_n 2, 1)) (S' := (18, _, _, _, _)) (by decide +kernel) rfl ?_
        refine Ru.op (q := (.aload_n 0, 1)) (S' := (19, _, _, _, _)) (by decide +kernel) rfl ?_
        refine Ru.getI (pc' := 22) (i := 263) (ci := 10) (k := 9) (nn := 0) (z := 0) (x := (S.F 36 9)) (by decide +kernel) (by decide +kernel) (hp36 _) (by decide) rfl (eI_of _) rfl ?_
        by_cases b6 : v2 < (S.F 36 9)
        · replace h := if_t b6 h
          refine Ru.br2 (k := .lt) (off := 7) (bb := true) (tg := 29) (by decide +kernel) (by decide +kernel) (ci_lt1 g4 (inR_to _) b6) rfl ?_
          refine Ru.kI (q := (.iconst 0, 1)) (c := 0) (pc' := 30) (by decide +kernel) rfl (by decide) rfl ?_
          refine Ru.putH (pc' := 33) (i := 120) (ci := 10) (k := 0) (nn := 0) (z := 0) (by decide +kernel) (by decide +kernel) (hp36 _) (by decide) (Nat.le_of_ble_eq_true rfl) rfl (by decide +kernel) (pf_36_0 _ _) rfl ?_
          refine Ru.op (q := (.aload_n 0, 1)) (S' := (34, _, _, _, _)) (by decide +kernel) rfl ?_
          refine Ru.getI (pc' := 37) (i := 120) (ci := 10) (k := 0) (nn := 0) (z := 0) (x := 0) (by decide +kernel) (by decide +kernel) (hp36 _) (by decide) rfl rfl rfl ?_
          refine Ru.br (k := .ne) (off := 16) (bb := false) (tg := 40) (by decide +kernel) (by decide +kernel) (by decide) rfl ?_
          refine Ru.op (q := (.aload_n 0, 1)) (S' := (41, _, _, _, _)) (by decide +kernel) rfl ?_
          refine Ru.op (q := (.iload_n 1, 1)) (S' := (42, _, _, _, _)) (by decide +kernel) rfl ?_
          refine Ru.op (q := (.iload_n 2, 1)) (S' := (43, _, _, _, _)) (by decide +kernel) rfl ?_
          obtain ⟨o7, e8, h⟩ := ob_some h
          refine Ru.vcallI (pc' := 46) (st' := [vI o7.1]) (i := 266) (j2 := 130) (ci := 10) (k := 0) (z := 0) (as := [vI v1, vI v2]) (by decide +kernel) (by decide +kernel) rfl rfl (hp36 _) (by decide) ⟨(Nat.le_of_ble_eq_true rfl), (by show 19 + 8 ≤ 319; exact Nat.le_of_ble_eq_true rfl), Nat.le_of_ble_eq_true rfl, Nat.le_of_ble_eq_true rfl⟩ ((g130_ok e8).up (Nat.le_of_ble_eq_true rfl) (Nat.le_of_ble_eq_true rfl)) rfl rfl ?_
          obtain ⟨g9, h⟩ := gd_some h
          by_cases b10 : o7.1 = 0
          · replace h := if_t b10 h
            refine Ru.br (k := .eq) (off := 7) (bb := true) (tg := 53) (by decide +kernel) (by decide +kernel) (cz (ci_eq1 g9 (by decide) b10)) rfl ?_
            refine Ru.kI (q := (.iconst 0, 1)) (c := 0) (pc' := 54) (by decide +kernel) rfl (by decide) rfl ?_
            cases h
            exact Ru.iret (by decide +kernel) rfl (nar_b1 (by decide))
          · replace h := if_f b10 h
            refine Ru.br (k := .eq) (off := 7) (bb := false) (tg := 49) (by decide +kernel) (by decide +kernel) (cz (ci_eq0 g9 (by decide) b10)) rfl ?_
            refine Ru.kI (q := (.iconst 1, 1)) (c := 1) (pc' := 50) (by decide +kernel) rfl (by decide) rfl ?_
            refine Ru.op (q := (.goto 4, 3)) (S' := (54, _, _, _, _)) (by decide +kernel) rfl ?_
            cases h
            exact Ru.iret (by decide +kernel) rfl (nar_b1 (by decide))
        · replace h := if_f b6 h
          refine Ru.br2 (k := .lt) (off := 7) (bb := false) (tg := 25) (by decide +kernel) (by decide +kernel) (ci_lt0 g4 (inR_to _) b6) rfl ?_
          refine Ru.kI (q := (.iconst 1, 1)) (c := 1) (pc' := 26) (by decide +kernel) rfl (by decide) rfl ?_
          refine Ru.op (q := (.goto 4, 3)) (S' := (30, _, _, _, _)) (by decide +kernel) rfl ?_
          refine Ru.putH (pc' := 33) (i := 120) (ci := 10) (k := 0) (nn := 0) (z := 0) (by decide +kernel) (by decide +kernel) (hp36 _) (by decide) (Nat.le_of_ble_eq_true rfl) rfl (by decide +kernel) (pf_36_0 _ _) rfl ?_
          refine Ru.op (q := (.aload_n 0, 1)) (S' := (34, _, _, _, _)) (by decide +kernel) rfl ?_
          refine Ru.getI (pc' := 37) (i := 120) (ci := 10) (k := 0) (nn := 0) (z := 0) (x := 1) (by decide +kernel) (by decide +kernel) (hp36 _) (by decide) rfl rfl rfl ?_
          refine Ru.br (k := .ne) (off := 16) (bb := true) (tg := 53) (by decide +kernel) (by decide +kernel) (by decide) rfl ?_
          refine Ru.kI (q := (.iconst 0, 1)) (c := 0) (pc' := 54) (by decide +kernel) rfl (by decide) rfl ?_
          cases h
          exact Ru.iret (by decide +kernel) rfl (nar_b1 (by decide))
    · replace h := if_f b3 h
      refine Ru.br2 (k := .ge) (off := 15) (bb := true) (tg := 25) (by decide +kernel) (by decide +kernel) (ci_ge1 g1 (inR_to _) b3) rfl ?_
      refine Ru.kI (q := (.iconst 1, 1)) (c := 1) (pc' := 26) (by decide +kernel) rfl (by decide) rfl ?_
      refine Ru.op (q := (.goto 4, 3)) (S' := (30, _, _, _, _)) (by decide +kernel) rfl ?_
      refine Ru.putH (pc' := 33) (i := 120) (ci := 10) (k := 0) (nn := 0) (z := 0) (by decide +kernel) (by decide +kernel) (hp36 _) (by decide) (Nat.le_of_ble_eq_true rfl) rfl (by decide +kernel) (pf_36_0 _ _) rfl ?_
      refine Ru.op (q := (.aload_n 0, 1)) (S' := (34, _, _, _, _)) (by decide +kernel) rfl ?_
      refine Ru.getI (pc' := 37) (i := 120) (ci := 10) (k := 0) (nn := 0) (z := 0) (x := 1) (by decide +kernel) (by decide +kernel) (hp36 _) (by decide) rfl rfl rfl ?_
      refine Ru.br (k := .ne) (off := 16) (bb := true) (tg := 53) (by decide +kernel) (by decide +kernel) (by decide) rfl ?_
      refine Ru.kI (q := (.iconst 0, 1)) (c := 0) (pc' := 54) (by decide +kernel) rfl (by decide) rfl ?_
      cases h
      exact Ru.iret (by decide +kernel) rfl (nar_b1 (by decide))
