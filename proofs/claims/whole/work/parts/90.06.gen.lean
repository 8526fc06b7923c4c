set_option maxRecDepth 100000 in
set_option maxHeartbeats 4000000 in
theorem g54L31_ok {v1 : Nat} {v2 : Nat} : ∀ (n : Nat) (v3 : Int) (v4 : Int) (S : St) (_ : DD []) (out : Sum (St) (Int × St)), g54L31 v1 v2 n v3 v4 S = some out → ∀ r, (∀ o, out = .inl o → ∀ (e0 e1 e2 e3 e4 : Option Value), DD [e0, e1, e2, e3, e4] → Ru none 12 254 54 (134, [e0, e1, e2, e3, e4], [], o.ns, Hp o) r) → (∀ o, out = .inr o → r = ((0, some (vI o.1)), o.2.ns, Hp o.2)) → Ru none 12 254 54 (31, [some (.ref 23), some (.ref v1), some (.ref v2), some (vI v3), some (vI v4)], [], S.ns, Hp S) r := by
  intro n
  induction n with
  | zero => intro v3 v4 S hdd out h; cases h
  | succ n ih =>
    intro v3 v4 S hdd out h r hk hr
    unfold g54L31 at h
    refine Ru.op (q := (.iload 4, 2)) (S' := (33, _, _, _, _)) (by decide +kernel) rfl ?_
    refine Ru.kI (q := (.sipush 1000, 3)) (c := 1000) (pc' := 36) (by decide +kernel) rfl (by decide) rfl ?_
    obtain ⟨g46, h⟩ := gd_some h
    by_cases b47 : v4 < 1000
    · replace h := if_t b47 h
      refine Ru.br2 (k := .ge) (off := 98) (bb := false) (tg := 39) (by decide +kernel) (by decide +kernel) (ci_ge0 g46 (by decide) b47) rfl ?_
      refine Ru.op (q := (.iload_n 3, 1)) (S' := (40, _, _, _, _)) (by decide +kernel) rfl ?_
      obtain ⟨g48, h⟩ := gd_some h
      by_cases b49 : v3 < 0
      · replace h := if_t b49 h
        refine Ru.br (k := .lt) (off := 94) (bb := true) (tg := 134) (by decide +kernel) (by decide +kernel) (cz (ci_lt1 g48 (by decide) b49)) rfl ?_
        cases h
        exact hk _ rfl _ _ _ _ _ ⟨rfl, rfl, rfl, rfl, rfl, trivial⟩
      · replace h := if_f b49 h
        refine Ru.br (k := .lt) (off := 94) (bb := false) (tg := 43) (by decide +kernel) (by decide +kernel) (cz (ci_lt0 g48 (by decide) b49)) rfl ?_
        refine Ru.op (q := (.iload_n 3, 1)) (S' := (44, _, _, _, _)) (by decide +kernel) rfl ?_
        refine Ru.op (q := (.aload_n 1, 1)) (S' := (45, _, _, _, _)) (by decide +kernel) rfl ?_
        obtain ⟨c50, c51, n52, n53, e54, q55, h⟩ := gC_some h
        refine Ru.getR (pc' := 48) (i := 21) (ci := 5) (k := 2) (nn := 0) (z := 0) (v := vI n52) (by decide +kernel) (by decide +kernel) q55 (by decide) rfl rfl ?_
        by_cases b56 : v3 < n52
        · replace h := if_t b56 h
          refine Ru.br2 (k := .lt) (off := 5) (bb := true) (tg := 53) (by decide +kernel) (by decide +kernel) (ci_lt1 g48 e54.1 b56) rfl ?_
          refine Ru.op (q := (.aload_n 0, 1)) (S' := (54, _, _, _, _)) (by decide +kernel) rfl ?_
          refine Ru.getR (pc' := 57) (i := 18) (ci := 7) (k := 2) (nn := 0) (z := 0) (v := .ref 26) (by decide +kernel) (by decide +kernel) (hp23 _) (by decide) rfl rfl ?_
          refine Ru.op (q := (.iload_n 3, 1)) (S' := (58, _, _, _, _)) (by decide +kernel) rfl ?_
          refine Ru.op (q := (.dup2, 1)) (S' := (59, _, _, _, _)) (by decide +kernel) rfl ?_
          obtain ⟨g57, h⟩ := gd_some h
          refine Ru.ildI (pc' := 60) (i := v3) (z := (S.A 26 v3)) (by decide +kernel) (hp26 _) g57 (eI_of _) rfl ?_
          refine Ru.kI (q := (.iconst 1, 1)) (c := 1) (pc' := 61) (by decide +kernel) rfl (by decide) rfl ?_
          refine Ru.ar2 (i := .iadd) (z := ((S.A 26 v3) + 1)) (pc' := 62) (by decide +kernel) rfl (ar_add _ _) rfl ?_
          refine Ru.istI (pc' := 63) (i := v3) (x := ((S.A 26 v3) + 1)) (by decide +kernel) (hp26 _) g57 (ps_26 _ _ _) rfl ?_
          refine Ru.op (q := (.aload_n 0, 1)) (S' := (64, _, _, _, _)) (by decide +kernel) rfl ?_
          refine Ru.getR (pc' := 67) (i := 18) (ci := 7) (k := 2) (nn := 0) (z := 0) (v := .ref 26) (by decide +kernel) (by decide +kernel) (hp23 _) (by decide) rfl rfl ?_
          refine Ru.op (q := (.iload_n 3, 1)) (S' := (68, _, _, _, _)) (by decide +kernel) rfl ?_
          refine Ru.ildI (pc' := 69) (i := v3) (z := ((S.a 26 v3 ((S.A 26 v3) + 1)).A 26 v3)) (by decide +kernel) (hp26 _) g57 (eI_of _) rfl ?_
          refine Ru.op (q := (.aload_n 2, 1)) (S' := (70, _, _, _, _)) (by decide +kernel) rfl ?_
          obtain ⟨c58, c59, n60, n61, e62, q63, h⟩ := gC_some h
          refine Ru.getR (pc' := 73) (i := 21) (ci := 5) (k := 2) (nn := 0) (z := 0) (v := vI n60) (by decide +kernel) (by decide +kernel) q63 (by decide) rfl rfl ?_
          by_cases b64 : ((S.a 26 v3 ((S.A 26 v3) + 1)).A 26 v3) < n60
          · replace h := if_t b64 h
            refine Ru.br2 (k := .lt) (off := 15) (bb := true) (tg := 88) (by decide +kernel) (by decide +kernel) (ci_lt1 (inR_to _) e62.1 b64) rfl ?_
            refine Ru.op (q := (.aload_n 0, 1)) (S' := (89, _, _, _, _)) (by decide +kernel) rfl ?_
            refine Ru.op (q := (.aload_n 1, 1)) (S' := (90, _, _, _, _)) (by decide +kernel) rfl ?_
            refine Ru.op (q := (.iload_n 3, 1)) (S' := (91, _, _, _, _)) (by decide +kernel) rfl ?_
            refine Ru.op (q := (.aload_n 2, 1)) (S' := (92, _, _, _, _)) (by decide +kernel) rfl ?_
            refine Ru.op (q := (.aload_n 0, 1)) (S' := (93, _, _, _, _)) (by decide +kernel) rfl ?_
            refine Ru.getR (pc' := 96) (i := 18) (ci := 7) (k := 2) (nn := 0) (z := 0) (v := .ref 26) (by decide +kernel) (by decide +kernel) (hp23 _) (by decide) rfl rfl ?_
            refine Ru.op (q := (.iload_n 3, 1)) (S' := (97, _, _, _, _)) (by decide +kernel) rfl ?_
            refine Ru.ildI (pc' := 98) (i := v3) (z := ((S.a 26 v3 ((S.A 26 v3) + 1)).A 26 v3)) (by decide +kernel) (hp26 _) g57 (eI_of _) rfl ?_
            obtain ⟨o65, e66, h⟩ := ob_some h
            refine Ru.vcallI (pc' := 101) (st' := [vI o65.1]) (i := 31) (j2 := 56) (ci := 7) (k := 0) (z := 0) (as := [.ref v1, vI v3, .ref v2, vI ((S.a 26 v3 ((S.A 26 v3) + 1)).A 26 v3)]) (by decide +kernel) (by decide +kernel) rfl rfl (hp23 _) (by decide) ⟨(Nat.le_of_ble_eq_true rfl), (by show 19 + 11 ≤ 254; exact Nat.le_of_ble_eq_true rfl), Nat.le_of_ble_eq_true rfl, Nat.le_of_ble_eq_true rfl⟩ ((g56_ok e66).up (Nat.le_of_ble_eq_true rfl) (Nat.le_of_ble_eq_true rfl)) rfl rfl ?_
            obtain ⟨g67, h⟩ := gd_some h
            by_cases b68 : o65.1 = 0
            · replace h := if_t b68 h
              refine Ru.br (k := .eq) (off := 21) (bb := true) (tg := 122) (by decide +kernel) (by decide +kernel) (cz (ci_eq1 g67 (by decide) b68)) rfl ?_
              refine Ru.op (q := (.aload_n 0, 1)) (S' := (123, _, _, _, _)) (by decide +kernel) rfl ?_
              refine Ru.op (q := (.iload_n 3, 1)) (S' := (124, _, _, _, _)) (by decide +kernel) rfl ?_
              refine Ru.op (q := (.aload_n 1, 1)) (S' := (125, _, _, _, _)) (by decide +kernel) rfl ?_
              obtain ⟨o69, e70, h⟩ := ob_some h
              refine Ru.vcallI (pc' := 128) (st' := []) (i := 27) (j2 := 55) (ci := 7) (k := 0) (z := 0) (as := [vI v3, .ref v1]) (by decide +kernel) (by decide +kernel) rfl rfl (hp23 _) (by decide) ⟨(Nat.le_of_ble_eq_true rfl), (by show 19 + 4 ≤ 254; exact Nat.le_of_ble_eq_true rfl), Nat.le_of_ble_eq_true rfl, Nat.le_of_ble_eq_true rfl⟩ ((g55_ok e70).up (Nat.le_of_ble_eq_true rfl) (Nat.le_of_ble_eq_true rfl)) rfl rfl ?_
              refine Ru.inc (k := 4) (n := 1) (x := v4) (z := (v4 + 1)) (xs' := [some (.ref 23), some (.ref v1), some (.ref v2), some (vI v3), some (vI (v4 + 1))]) (pc' := 131) (by decide +kernel) rfl rfl rfl rfl ?_
              refine Ru.op (q := (.goto (-100), 3)) (S' := (31, _, _, _, _)) (by decide +kernel) rfl ?_
              exact ih _ _ _ trivial _ h r hk hr
            · replace h := if_f b68 h
              refine Ru.br (k := .eq) (off := 21) (bb := false) (tg := 104) (by decide +kernel) (by decide +kernel) (cz (ci_eq0 g67 (by decide) b68)) rfl ?_
              refine Ru.inc (k := 3) (n := 1) (x := v3) (z := (v3 + 1)) (xs' := [some (.ref 23), some (.ref v1), some (.ref v2), some (vI (v3 + 1)), some (vI v4)]) (pc' := 107) (by decide +kernel) rfl rfl rfl rfl ?_
              refine Ru.op (q := (.iload_n 3, 1)) (S' := (108, _, _, _, _)) (by decide +kernel) rfl ?_
              refine Ru.kI (q := (.iconst 4, 1)) (c := 4) (pc' := 109) (by decide +kernel) rfl (by decide) rfl ?_
              obtain ⟨g71, h⟩ := gd_some h
              by_cases b72 : (v3 + 1) < 4
              · replace h := if_t b72 h
                refine Ru.br2 (k := .ge) (off := 19) (bb := false) (tg := 112) (by decide +kernel) (by decide +kernel) (ci_ge0 g71 (by decide) b72) rfl ?_
                refine Ru.op (q := (.aload_n 0, 1)) (S' := (113, _, _, _, _)) (by decide +kernel) rfl ?_
                refine Ru.getR (pc' := 116) (i := 18) (ci := 7) (k := 2) (nn := 0) (z := 0) (v := .ref 26) (by decide +kernel) (by decide +kernel) (hp23 _) (by decide) rfl rfl ?_
                refine Ru.op (q := (.iload_n 3, 1)) (S' := (117, _, _, _, _)) (by decide +kernel) rfl ?_
                refine Ru.kI (q := (.iconst (-1), 1)) (c := (-1)) (pc' := 118) (by decide +kernel) rfl (by decide) rfl ?_
                obtain ⟨g73, h⟩ := gd_some h
                refine Ru.istI (pc' := 119) (i := (v3 + 1)) (x := (-1)) (by decide +kernel) (hp26 _) g73 (ps_26 _ _ _) rfl ?_
                refine Ru.op (q := (.goto 9, 3)) (S' := (128, _, _, _, _)) (by decide +kernel) rfl ?_
                refine Ru.inc (k := 4) (n := 1) (x := v4) (z := (v4 + 1)) (xs' := [some (.ref 23), some (.ref v1), some (.ref v2), some (vI (v3 + 1)), some (vI (v4 + 1))]) (pc' := 131) (by decide +kernel) rfl rfl rfl rfl ?_
                refine Ru.op (q := (.goto (-100), 3)) (S' := (31, _, _, _, _)) (by decide +kernel) rfl ?_
                exact ih _ _ _ trivial _ h r hk hr
              · replace h := if_f b72 h
                refine Ru.br2 (k := .ge) (off := 19) (bb := true) (tg := 128) (by decide +kernel) (by decide +kernel) (ci_ge1 g71 (by decide) b72) rfl ?_
                refine Ru.inc (k := 4) (n := 1) (x := v4) (z := (v4 + 1)) (xs' := [some (.ref 23), some (.ref v1), some (.ref v2), some (vI (v3 + 1)), some (vI (v4 + 1))]) (pc' := 131) (by decide +kernel) rfl rfl rfl rfl ?_
                refine Ru.op (q := (.goto (-100), 3)) (S' := (31, _, _, _, _)) (by decide +kernel) rfl ?_
                exact ih _ _ _ trivial _ h r hk hr
          · replace h := if_f b64 h
            refine Ru.br2 (k := .lt) (off := 15) (bb := false) (tg := 76) (by decide +kernel) (by decide +kernel) (ci_lt0 (inR_to _) e62.1 b64) rfl ?_
            refine Ru.inc (k := 3) (n := (-1)) (x := v3) (z := (v3 + (-1))) (xs' := [some (.ref 23), some (.ref v1), some (.ref v2), some (vI (v3 + (-1))), some (vI v4)]) (pc' := 79) (by decide +kernel) rfl rfl rfl rfl ?_
            refine Ru.op (q := (.aload_n 0, 1)) (S' := (80, _, _, _, _)) (by decide +kernel) rfl ?_
            refine Ru.op (q := (.iload_n 3, 1)) (S' := (81, _, _, _, _)) (by decide +kernel) rfl ?_
            refine Ru.op (q := (.aload_n 1, 1)) (S' := (82, _, _, _, _)) (by decide +kernel) rfl ?_
            obtain ⟨o74, e75, h⟩ := ob_some h
            refine Ru.vcallI (pc' := 85) (st' := []) (i := 27) (j2 := 55) (ci := 7) (k := 0) (z := 0) (as := [vI (v3 + (-1)), .ref v1]) (by decide +kernel) (by decide +kernel) rfl rfl (hp23 _) (by decide) ⟨(Nat.le_of_ble_eq_true rfl), (by show 19 + 4 ≤ 254; exact Nat.le_of_ble_eq_true rfl), Nat.le_of_ble_eq_true rfl, Nat.le_of_ble_eq_true rfl⟩ ((g55_ok e75).up (Nat.le_of_ble_eq_true rfl) (Nat.le_of_ble_eq_true rfl)) rfl rfl ?_
            refine Ru.op (q := (.goto 43, 3)) (S' := (128, _, _, _, _)) (by decide +kernel) rfl ?_
            refine Ru.inc (k := 4) (n := 1) (x := v4) (z := (v4 + 1)) (xs' := [some (.ref 23), some (.ref v1), some (.ref v2), some (vI (v3 + (-1))), some (vI (v4 + 1))]) (pc' := 131) (by decide +kernel) rfl rfl rfl rfl ?_
            refine Ru.op (q := (.goto (-100), 3)) (S' := (31, _, _, _, _)) (by decide +kernel) rfl ?_
            exact ih _ _ _ trivial _ h r hk hr
        · replace h := if_f b56 h
          refine Ru.br2 (k := .lt) (off := 5) (bb := false) (tg := 51) (by decide +kernel) (by decide +kernel) (ci_lt0 g48 e54.1 b56) rfl ?_
          refine Ru.kI (q := (.iconst 1, 1)) (c := 1) (pc' := 52) (by decide +kernel) rfl (by decide) rfl ?_
          cases h
          have h9 := hr _ rfl
          subst h9
          exact Ru.iret (by decide +kernel) rfl (nar_b1 (by decide))
    · replace h := if_f b47 h
      refine Ru.br2 (k := .ge) (off := 98) (bb := true) (tg := 134) (by decide +kernel) (by decide +kernel) (ci_ge1 g46 (by decide) b47) rfl ?_
      cases h
      exact hk _ rfl _ _ _ _ _ ⟨rfl, rfl, rfl, rfl, rfl, trivial⟩
set_option maxRecDepth 100000 in
set_option maxHeartbeats 4000000 in
theorem g54_ok {S : St} {v1 : Nat} {v2 : Nat} {o : Int × St} (h : g54 S v1 v2 = some o) : Ru none 12 254 54 (0, mn_pad (mn_ent [.ref 23, .ref v1, .ref v2]) 5, [], S.ns, Hp S) ((0, some (vI o.1)), o.2.ns, Hp o.2) := by
  unfold g54 at h
  show Ru none 12 254 54 (0, [some (.ref 23), some (.ref v1), some (.ref v2), none, none], [], S.ns, Hp S) _
  refine Ru.op (q := (.aload_n 1, 1)) (S' := (1, _, _, _, _)) (by decide +kernel) rfl ?_
  obtain ⟨c1, c2, n3, n4, e5, q6, h⟩ := gC_some h
  refine Ru.getR (pc' := 4) (i := 21) (ci := 5) (k := 2) (nn := 0) (z := 0) (v := vI n3) (by decide +kernel) (by decide +kernel) q6 (by decide) rfl rfl ?_
  refine Ru.op (q := (.aload_n 2, 1)) (S' := (5, _, _, _, _)) (by decide +kernel) rfl ?_
  obtain ⟨c7, c8, n9, n10, e11, q12, h⟩ := gC_some h
  refine Ru.getR (pc' := 8) (i := 21) (ci := 5) (k := 2) (nn := 0) (z := 0) (v := vI n9) (by decide +kernel) (by decide +kernel) q12 (by decide) rfl rfl ?_
  by_cases b13 : n9 < n3
  · replace h := if_t b13 h
    refine Ru.br2 (k := .le) (off := 5) (bb := false) (tg := 11) (by decide +kernel) (by decide +kernel) (ci_le0 e5.1 e11.1 b13) rfl ?_
    refine Ru.kI (q := (.iconst 0, 1)) (c := 0) (pc' := 12) (by decide +kernel) rfl (by decide) rfl ?_
    cases h
    exact Ru.iret (by decide +kernel) rfl (nar_b1 (by decide))
  · replace h := if_f b13 h
    refine Ru.br2 (k := .le) (off := 5) (bb := true) (tg := 13) (by decide +kernel) (by decide +kernel) (ci_le1 e5.1 e11.1 b13) rfl ?_
    refine Ru.kI (q := (.iconst 0, 1)) (c := 0) (pc' := 14) (by decide +kernel) rfl (by decide) rfl ?_
    refine Ru.op (q := (.istore_n 3, 1)) (S' := (15, [some (.ref 23), some (.ref v1), some (.ref v2), some (vI 0), none], [], _, _)) (by decide +kernel) rfl ?_
    refine Ru.op (q := (.aload_n 0, 1)) (S' := (16, _, _, _, _)) (by decide +kernel) rfl ?_
    refine Ru.getR (pc' := 19) (i := 18) (ci := 7) (k := 2) (nn := 0) (z := 0) (v := .ref 26) (by decide +kernel) (by decide +kernel) (hp23 _) (by decide) rfl rfl ?_
    refine Ru.kI (q := (.iconst 0, 1)) (c := 0) (pc' := 20) (by decide +kernel) rfl (by decide) rfl ?_
    refine Ru.kI (q := (.iconst (-1), 1)) (c := (-1)) (pc' := 21) (by decide +kernel) rfl (by decide) rfl ?_
    refine Ru.istI (pc' := 22) (i := 0) (x := (-1)) (by decide +kernel) (hp26 _) (by decide) (ps_26 _ _ _) rfl ?_
    refine Ru.op (q := (.aload_n 0, 1)) (S' := (23, _, _, _, _)) (by decide +kernel) rfl ?_
    refine Ru.kI (q := (.iconst 0, 1)) (c := 0) (pc' := 24) (by decide +kernel) rfl (by decide) rfl ?_
    refine Ru.op (q := (.aload_n 1, 1)) (S' := (25, _, _, _, _)) (by decide +kernel) rfl ?_
    obtain ⟨o14, e15, h⟩ := ob_some h
    refine Ru.vcallI (pc' := 28) (st' := []) (i := 27) (j2 := 55) (ci := 7) (k := 0) (z := 0) (as := [vI 0, .ref v1]) (by decide +kernel) (by decide +kernel) rfl rfl (hp23 _) (by decide) ⟨(Nat.le_of_ble_eq_true rfl), (by show 19 + 4 ≤ 254; exact Nat.le_of_ble_eq_true rfl), Nat.le_of_ble_eq_true rfl, Nat.le_of_ble_eq_true rfl⟩ ((g55_ok e15).up (Nat.le_of_ble_eq_true rfl) (Nat.le_of_ble_eq_true rfl)) rfl rfl ?_
    refine Ru.kI (q := (.iconst 0, 1)) (c := 0) (pc' := 29) (by decide +kernel) rfl (by decide) rfl ?_
    refine Ru.op (q := (.istore 4, 2)) (S' := (31, [some (.ref 23), some (.ref v1), some (.ref v2), some (vI 0), some (vI 0)], [], _, _)) (by decide +kernel) rfl ?_
    rcases obr_some h with ⟨o76, e82, h⟩ | e82
    · refine g54L31_ok FU _ _ _ trivial _ e82 _ (fun o' e' => ?_) (fun o' e' => by cases e')
      cases e'
      intro d77 d78 d79 d80 d81 hd83
      refine Ru.kI (q := (.iconst 0, 1)) (c := 0) (pc' := 135) (by decide +kernel) rfl (by decide) rfl ?_
      cases h
      exact Ru.iret (by decide +kernel) rfl (nar_b1 (by decide))
    · exact g54L31_ok FU _ _ _ trivial _ e82 _ (fun o' e' => by cases e') (fun o' e' => by cases e'; rfl)
set_option maxRecDepth 100000 in
set_option maxHeartbeats 4000000 in
theorem g53L2_ok : ∀ (n : Nat) (v1 : Int) (S : St) (_ : DD []) (out : Sum (St) (Int × St)), g53L2 n v1 S = some out → ∀ r, (∀ o, out = .inl o → ∀ (e0 e1 : Option Value), DD [e0, e1] → Ru none 13 278 53 (57, [e0, e1], [], o.ns, Hp o) r) → (∀ o, out = .inr o → r = ((0, some (vI o.1)), o.2.ns, Hp o.2)) → Ru none 13 278 53 (2, [some (.ref 13), some (vI v1)], [], S.ns, Hp S) r := by
  intro n
  induction n with
  | zero => intro v1 S hdd out h; cases h
  | succ n ih =>
    intro v1 S hdd out h r hk hr
    unfold g53L2 at h
    refine Ru.op (q := (.iload_n 1, 1)) (S' := (3, _, _, _, _)) (by decide +kernel) rfl ?_
    refine Ru.op (q := (.aload_n 0, 1)) (S' := (4, _, _, _, _)) (by decide +kernel) rfl ?_
    refine Ru.getI (pc' := 7) (i := 57) (ci := 3) (k := 1) (nn := 0) (z := 0) (x := (S.F 13 1)) (by decide +kernel) (by decide +kernel) (hp13 _) (by decide) rfl (eI_of _) rfl ?_
    obtain ⟨g20, h⟩ := gd_some h
    by_cases b21 : v1 < (S.F 13 1)
    · replace h := if_t b21 h
      refine Ru.br2 (k := .ge) (off := 50) (bb := false) (tg := 10) (by decide +kernel) (by decide +kernel) (ci_ge0 g20 (inR_to _) b21) rfl ?_
      refine Ru.op (q := (.aload_n 0, 1)) (S' := (11, _, _, _, _)) (by decide +kernel) rfl ?_
      refine Ru.getR (pc' := 14) (i := 11) (ci := 3) (k := 0) (nn := 0) (z := 0) (v := .ref 14) (by decide +kernel) (by decide +kernel) (hp13 _) (by decide) rfl rfl ?_
      refine Ru.op (q := (.iload_n 1, 1)) (S' := (15, _, _, _, _)) (by decide +kernel) rfl ?_
      obtain ⟨g22, h⟩ := gd_some h
      obtain ⟨c23, e24, h⟩ := ob_some h
      refine Ru.aldI (pc' := 16) (i := v1) (b := c23) (by decide +kernel) (hp14 _) (by decide) g22 e24 rfl ?_
      obtain ⟨c25, n26, n27, n28, n29, n30, n31, e32, q33, h⟩ := gK_some h
      refine Ru.getR (pc' := 19) (i := 60) (ci := 9) (k := 1) (nn := 0) (z := 0) (v := vI n26) (by decide +kernel) (by decide +kernel) q33 (by decide) rfl rfl ?_
      refine Ru.kI (q := (.iconst 2, 1)) (c := 2) (pc' := 20) (by decide +kernel) rfl (by decide) rfl ?_
      by_cases b34 : n26 = 2
      · replace h := if_t b34 h
        refine Ru.br2 (k := .eq) (off := 31) (bb := true) (tg := 51) (by decide +kernel) (by decide +kernel) (ci_eq1 e32.1 (by decide) b34) rfl ?_
        refine Ru.inc (k := 1) (n := 1) (x := v1) (z := (v1 + 1)) (xs' := [some (.ref 13), some (vI (v1 + 1))]) (pc' := 54) (by decide +kernel) rfl rfl rfl rfl ?_
        refine Ru.op (q := (.goto (-52), 3)) (S' := (2, _, _, _, _)) (by decide +kernel) rfl ?_
        exact ih _ _ trivial _ h r hk hr
      · replace h := if_f b34 h
        refine Ru.br2 (k := .eq) (off := 31) (bb := false) (tg := 23) (by decide +kernel) (by decide +kernel) (ci_eq0 e32.1 (by decide) b34) rfl ?_
        refine Ru.op (q := (.aload_n 0, 1)) (S' := (24, _, _, _, _)) (by decide +kernel) rfl ?_
        refine Ru.getR (pc' := 27) (i := 38) (ci := 3) (k := 11) (nn := 0) (z := 0) (v := .ref 23) (by decide +kernel) (by decide +kernel) (hp13 _) (by decide) rfl rfl ?_
        refine Ru.op (q := (.aload_n 0, 1)) (S' := (28, _, _, _, _)) (by decide +kernel) rfl ?_
        refine Ru.getR (pc' := 31) (i := 11) (ci := 3) (k := 0) (nn := 0) (z := 0) (v := .ref 14) (by decide +kernel) (by decide +kernel) (hp13 _) (by decide) rfl rfl ?_
        refine Ru.op (q := (.iload_n 1, 1)) (S' := (32, _, _, _, _)) (by decide +kernel) rfl ?_
        refine Ru.aldI (pc' := 33) (i := v1) (b := c23) (by decide +kernel) (hp14 _) (by decide) g22 e24 rfl ?_
        refine Ru.getR (pc' := 36) (i := 109) (ci := 9) (k := 0) (nn := 0) (z := 0) (v := .ref c25) (by decide +kernel) (by decide +kernel) q33 (by decide) rfl rfl ?_
        refine Ru.op (q := (.aload_n 0, 1)) (S' := (37, _, _, _, _)) (by decide +kernel) rfl ?_
        refine Ru.getR (pc' := 40) (i := 24) (ci := 3) (k := 9) (nn := 0) (z := 0) (v := .ref 15) (by decide +kernel) (by decide +kernel) (hp13 _) (by decide) rfl rfl ?_
        refine Ru.getR (pc' := 43) (i := 100) (ci := 4) (k := 0) (nn := 0) (z := 0) (v := .ref 16) (by decide +kernel) (by decide +kernel) (hp15 _) (by decide) rfl rfl ?_
        obtain ⟨o35, e36, h⟩ := ob_some h
        refine Ru.vcallI (pc' := 46) (st' := [vI o35.1]) (i := 112) (j2 := 54) (ci := 7) (k := 0) (z := 0) (as := [.ref c25, .ref 16]) (by decide +kernel) (by decide +kernel) rfl rfl (hp23 _) (by decide) ⟨(Nat.le_of_ble_eq_true rfl), (by show 19 + 5 ≤ 278; exact Nat.le_of_ble_eq_true rfl), Nat.le_of_ble_eq_true rfl, Nat.le_of_ble_eq_true rfl⟩ ((g54_ok e36).up (Nat.le_of_ble_eq_true rfl) (Nat.le_of_ble_eq_true rfl)) rfl rfl ?_
        obtain ⟨g37, h⟩ := gd_some h
        by_cases b38 : o35.1 = 0
        · replace h := if_t b38 h
          refine Ru.br (k := .eq) (off := 5) (bb := true) (tg := 51) (by decide +kernel) (by decide +kernel) (cz (ci_eq1 g37 (by decide) b38)) rfl ?_
          refine Ru.inc (k := 1) (n := 1) (x := v1) (z := (v1 + 1)) (xs' := [some (.ref 13), some (vI (v1 + 1))]) (pc' := 54) (by decide +kernel) rfl rfl rfl rfl ?_
          refine Ru.op (q := (.goto (-52), 3)) (S' := (2, _, _, _, _)) (by decide +kernel) rfl ?_
          exact ih _ _ trivial _ h r hk hr
        · replace h := if_f b38 h
          refine Ru.br (k := .eq) (off := 5) (bb := false) (tg := 49) (by decide +kernel) (by decide +kernel) (cz (ci_eq0 g37 (by decide) b38)) rfl ?_
          refine Ru.kI (q := (.iconst 1, 1)) (c := 1) (pc' := 50) (by decide +kernel) rfl (by decide) rfl ?_
          cases h
          have h9 := hr _ rfl
          subst h9
          exact Ru.iret (by decide +kernel) rfl (nar_b1 (by decide))
    · replace h := if_f b21 h
      refine Ru.br2 (k := .ge) (off := 50) (bb := true) (tg := 57) (by decide +kernel) (by decide +kernel) (ci_ge1 g20 (inR_to _) b21) rfl ?_
      cases h
      exact hk _ rfl _ _ ⟨rfl, rfl, trivial⟩
set_option maxRecDepth 100000 in
set_option maxHeartbeats 4000000 in
theorem g53_ok {S : St} {o : Int × St} (h : g53 S  = some o) : Ru none 13 278 53 (0, mn_pad (mn_ent [.ref 13]) 2, [], S.ns, Hp S) ((0, some (vI o.1)), o.2.ns, Hp o.2) := by
  unfold g53 at h
  show Ru none 13 278 53 (0, [some (.ref 13), none], [], S.ns, Hp S) _
  refine Ru.kI (q := (.iconst 0, 1)) (c := 0) (pc' := 1) (by decide +kernel) rfl (by decide) rfl ?_
  refine Ru.op (q := (.istore_n 1, 1)) (S' := (2, [some (.ref 13), some (vI 0)], [], _, _)) (by decide +kernel) rfl ?_
  rcases obr_some h with ⟨o39, e42, h⟩ | e42
  · refine g53L2_ok FU _ _ trivial _ e42 _ (fun o' e' => ?_) (fun o' e' => by cases e')
    cases e'
    intro d40 d41 hd43
    refine Ru.kI (q := (.iconst 0, 1)) (c := 0) (pc' := 58) (by decide +kernel) rfl (by decide) rfl ?_
    cases h
    exact Ru.iret (by decide +kernel) rfl (nar_b1 (by decide))
  · exact g53L2_ok FU _ _ trivial _ e42 _ (fun o' e' => by cases e') (fun o' e' => by cases e'; rfl)
set_option maxRecDepth 100000 in
set_option maxHeartbeats 4000000 in
theorem g58_15_ok {S : St} {o : Nat × St} (h : g58_15 S  = some o) : Ru none 11 222 58 (0, mn_pad (mn_ent [.ref 15]) 2, [], S.ns, Hp S) ((0, some (Value.ref o.1)), o.2.ns, Hp o.2) := by
  unfold g58_15 at h
  show Ru none 11 222 58 (0, [some (.ref 15), none], [], S.ns, Hp S) _
  refine Ru.nwI (pc' := 3) (S := S) (i := 9) (n := 4) (by decide +kernel) (by rfl) (by decide) rfl rfl ?_
  refine Ru.op (q := (.dup, 1)) (S' := (4, _, _, _, _)) (by decide +kernel) rfl ?_
  refine Ru.op (q := (.aload_n 0, 1)) (S' := (5, _, _, _, _)) (by decide +kernel) rfl ?_
  refine Ru.getR (pc' := 8) (i := 14) (ci := 4) (k := 0) (nn := 0) (z := 0) (v := .ref 16) (by decide +kernel) (by decide +kernel) (hp15 _) (by decide) rfl rfl ?_
  refine Ru.getI (pc' := 11) (i := 28) (ci := 5) (k := 3) (nn := 0) (z := 0) (x := (S.F 16 3)) (by decide +kernel) (by decide +kernel) (hp16 _) (by decide) rfl (eI_of _) rfl ?_
  refine Ru.op (q := (.aload_n 0, 1)) (S' := (12, _, _, _, _)) (by decide +kernel) rfl ?_
  refine Ru.getR (pc' := 15) (i := 14) (ci := 4) (k := 0) (nn := 0) (z := 0) (v := .ref 16) (by decide +kernel) (by decide +kernel) (hp15 _) (by decide) rfl rfl ?_
  refine Ru.getI (pc' := 18) (i := 24) (ci := 5) (k := 2) (nn := 0) (z := 0) (x := (S.F 16 2)) (by decide +kernel) (by decide +kernel) (hp16 _) (by decide) rfl (eI_of _) rfl ?_
  obtain ⟨q2, e1, h⟩ := gN_e h
  obtain ⟨g3, h⟩ := gd_some h
  refine Ru.callI (pc' := 21) (st' := [.ref S.top]) (q := (.invokespecial 11, 3)) (j2 := 5) (as := [.ref S.top, vI (S.F 16 3), vI (S.F 16 2)]) (by decide +kernel) rfl rfl rfl rfl ⟨(Nat.le_of_ble_eq_true rfl), (by show 19 + 3 ≤ 222; exact Nat.le_of_ble_eq_true rfl), Nat.le_of_ble_eq_true rfl, Nat.le_of_ble_eq_true rfl⟩ ((ctor5_ok q2 e1 g3).up (Nat.le_of_ble_eq_true rfl) (Nat.le_of_ble_eq_true rfl)) rfl rfl ?_
  refine Ru.op (q := (.astore_n 1, 1)) (S' := (22, [some (.ref 15), some (.ref S.top)], [], _, _)) (by decide +kernel) rfl ?_
  refine Ru.op (q := (.aload_n 0, 1)) (S' := (23, _, _, _, _)) (by decide +kernel) rfl ?_
  refine Ru.getR (pc' := 26) (i := 14) (ci := 4) (k := 0) (nn := 0) (z := 0) (v := .ref 16) (by decide +kernel) (by decide +kernel) (hp15 _) (by decide) rfl rfl ?_
  refine Ru.getR (pc' := 29) (i := 41) (ci := 5) (k := 0) (nn := 0) (z := 0) (v := .ref 17) (by decide +kernel) (by decide +kernel) (hp16 _) (by decide) rfl rfl ?_
  refine Ru.kI (q := (.iconst 0, 1)) (c := 0) (pc' := 30) (by decide +kernel) rfl (by decide) rfl ?_
  refine Ru.op (q := (.aload_n 1, 1)) (S' := (31, _, _, _, _)) (by decide +kernel) rfl ?_
  obtain ⟨c4, c5, n6, n7, e8, q9, h⟩ := gC_some h
  refine Ru.getR (pc' := 34) (i := 41) (ci := 5) (k := 0) (nn := 0) (z := 0) (v := .ref c4) (by decide +kernel) (by decide +kernel) q9 (by decide) rfl rfl ?_
  refine Ru.kI (q := (.iconst 0, 1)) (c := 0) (pc' := 35) (by decide +kernel) rfl (by decide) rfl ?_
  refine Ru.op (q := (.aload_n 0, 1)) (S' := (36, _, _, _, _)) (by decide +kernel) rfl ?_
  refine Ru.getR (pc' := 39) (i := 14) (ci := 4) (k := 0) (nn := 0) (z := 0) (v := .ref 16) (by decide +kernel) (by decide +kernel) (hp15 _) (by decide) rfl rfl ?_
  refine Ru.getI (pc' := 42) (i := 28) (ci := 5) (k := 3) (nn := 0) (z := 0) (x := (S.F 16 3)) (by decide +kernel) (by decide +kernel) (hp16 _) (by decide) rfl (eI_of _) rfl ?_
  obtain ⟨N10, f11, e12, q13, h⟩ := gA_some h
  obtain ⟨N14, f15, e16, q17, h⟩ := gA_some h
  obtain ⟨g18, h⟩ := gd_some h
  obtain ⟨g19, h⟩ := gd_some h
  refine Ru.acI (pc' := 45) (i := 64) (k := (0, 0, 0, 0, 0)) (by decide +kernel) (by rfl) q13 q17 g19 (Nat.le_of_ble_eq_true rfl) (by decide +kernel) (pt_ok g18 (x := .ar _ _)) rfl ?_
  refine Ru.op (q := (.aload_n 0, 1)) (S' := (46, _, _, _, _)) (by decide +kernel) rfl ?_
  refine Ru.getR (pc' := 49) (i := 14) (ci := 4) (k := 0) (nn := 0) (z := 0) (v := .ref 16) (by decide +kernel) (by decide +kernel) (hp15 _) (by decide) rfl rfl ?_
  refine Ru.getR (pc' := 52) (i := 31) (ci := 5) (k := 1) (nn := 0) (z := 0) (v := .ref 18) (by decide +kernel) (by decide +kernel) (hp16 _) (by decide) rfl rfl ?_
  refine Ru.kI (q := (.iconst 0, 1)) (c := 0) (pc' := 53) (by decide +kernel) rfl (by decide) rfl ?_
  refine Ru.op (q := (.aload_n 1, 1)) (S' := (54, _, _, _, _)) (by decide +kernel) rfl ?_
  obtain ⟨c20, c21, n22, n23, e24, q25, h⟩ := gC_some h
  refine Ru.getR (pc' := 57) (i := 31) (ci := 5) (k := 1) (nn := 0) (z := 0) (v := .ref c21) (by decide +kernel) (by decide +kernel) q25 (by decide) rfl rfl ?_
  refine Ru.kI (q := (.iconst 0, 1)) (c := 0) (pc' := 58) (by decide +kernel) rfl (by decide) rfl ?_
  refine Ru.op (q := (.aload_n 0, 1)) (S' := (59, _, _, _, _)) (by decide +kernel) rfl ?_
  refine Ru.getR (pc' := 62) (i := 14) (ci := 4) (k := 0) (nn := 0) (z := 0) (v := .ref 16) (by decide +kernel) (by decide +kernel) (hp15 _) (by decide) rfl rfl ?_
  refine Ru.getI (pc' := 65) (i := 24) (ci := 5) (k := 2) (nn := 0) (z := 0) (x := (S.F 16 2)) (by decide +kernel) (by decide +kernel) (hp16 _) (by decide) rfl (eI_of _) rfl ?_
  refine Ru.kI (q := (.iconst 1, 1)) (c := 1) (pc' := 66) (by decide +kernel) rfl (by decide) rfl ?_
  refine Ru.ar2 (i := .iadd) (z := ((S.F 16 2) + 1)) (pc' := 67) (by decide +kernel) rfl (ar_add _ _) rfl ?_
  obtain ⟨N26, f27, e28, q29, h⟩ := gA_some h
  obtain ⟨N30, f31, e32, q33, h⟩ := gA_some h
  obtain ⟨g34, h⟩ := gd_some h
  obtain ⟨g35, h⟩ := gd_some h
  refine Ru.acI (pc' := 70) (i := 64) (k := (0, 0, 0, 0, 0)) (by decide +kernel) (by rfl) q29 q33 g35 (Nat.le_of_ble_eq_true rfl) (by decide +kernel) (pt_ok g34 (x := .ar _ _)) rfl ?_
  refine Ru.op (q := (.aload_n 1, 1)) (S' := (71, _, _, _, _)) (by decide +kernel) rfl ?_
  refine Ru.op (q := (.aload_n 0, 1)) (S' := (72, _, _, _, _)) (by decide +kernel) rfl ?_
  refine Ru.getR (pc' := 75) (i := 14) (ci := 4) (k := 0) (nn := 0) (z := 0) (v := .ref 16) (by decide +kernel) (by decide +kernel) (hp15 _) (by decide) rfl rfl ?_
  refine Ru.getI (pc' := 78) (i := 24) (ci := 5) (k := 2) (nn := 0) (z := 0) (x := (S.F 16 2)) (by decide +kernel) (by decide +kernel) (hp16 _) (by decide) rfl (eI_of _) rfl ?_
  obtain ⟨c36, c37, n38, n39, e40, q41, h⟩ := gC_some h
  obtain ⟨g42, h⟩ := gd_some h
  refine Ru.putH (pc' := 81) (i := 24) (ci := 5) (k := 2) (nn := 0) (z := 0) (by decide +kernel) (by decide +kernel) q41 (by decide) (Nat.le_of_ble_eq_true rfl) rfl (by decide +kernel) (pt_ok g42 (x := .ob 5 [c36, c37] [eI (S.F 16 2), eI n39])) rfl ?_
  refine Ru.op (q := (.aload_n 1, 1)) (S' := (82, _, _, _, _)) (by decide +kernel) rfl ?_
  refine Ru.op (q := (.aload_n 0, 1)) (S' := (83, _, _, _, _)) (by decide +kernel) rfl ?_
  refine Ru.getR (pc' := 86) (i := 14) (ci := 4) (k := 0) (nn := 0) (z := 0) (v := .ref 16) (by decide +kernel) (by decide +kernel) (hp15 _) (by decide) rfl rfl ?_
  refine Ru.getI (pc' := 89) (i := 28) (ci := 5) (k := 3) (nn := 0) (z := 0) (x := (S.F 16 3)) (by decide +kernel) (by decide +kernel) (hp16 _) (by decide) rfl (eI_of _) rfl ?_
  obtain ⟨c43, c44, n45, n46, e47, q48, h⟩ := gC_some h
  refine Ru.putH (pc' := 92) (i := 28) (ci := 5) (k := 3) (nn := 0) (z := 0) (by decide +kernel) (by decide +kernel) q48 (by decide) (Nat.le_of_ble_eq_true rfl) rfl (by decide +kernel) (pt_ok g42 (x := .ob 5 [c43, c44] [eI n45, eI (S.F 16 3)])) rfl ?_
  refine Ru.op (q := (.aload_n 1, 1)) (S' := (93, _, _, _, _)) (by decide +kernel) rfl ?_
  cases h
  exact Ru.end (q := (.areturn, 1)) (by decide +kernel) rfl rfl
set_option maxRecDepth 100000 in
set_option maxHeartbeats 4000000 in
theorem g49_ok {S : St} {v1 : Int} {v2 : Int} {v3 : Int} {v4 : Int} {v5 : Int} {o : St} (h : g49 S v1 v2 v3 v4 v5 = some o) : Ru none 14 299 49 (0, mn_pad (mn_ent [.ref 13, vI v1, vI v2, vI v3, vI v4, vI v5]) 6, [], S.ns, Hp S) ((0, none), o.ns, Hp o) := by
  unfold g49 at h
  show Ru none 14 299 49 (0, [some (.ref 13), some (vI v1), some (vI v2), some (vI v3), some (vI v4), some (vI v5)], [], S.ns, Hp S) _
  refine Ru.op (q := (.aload_n 0, 1)) (S' := (1, _, _, _, _)) (by decide +kernel) rfl ?_
  refine Ru.getR (pc' := 4) (i := 24) (ci := 3) (k := 9) (nn := 0) (z := 0) (v := .ref 15) (by decide +kernel) (by decide +kernel) (hp13 _) (by decide) rfl rfl ?_
  obtain ⟨o1, e2, h⟩ := ob_some h
  refine Ru.vcallI (pc' := 7) (st' := [vI o1]) (i := 77) (j2 := 50) (ci := 4) (k := 0) (z := 0) (as := []) (by decide +kernel) (by decide +kernel) rfl rfl (hp15 _) (by decide) ⟨(Nat.le_of_ble_eq_true rfl), (by show 19 + 1 ≤ 299; exact Nat.le_of_ble_eq_true rfl), Nat.le_of_ble_eq_true rfl, Nat.le_of_ble_eq_true rfl⟩ ((g50_15_ok e2).up (Nat.le_of_ble_eq_true rfl) (Nat.le_of_ble_eq_true rfl)) rfl rfl ?_
  obtain ⟨g3, h⟩ := gd_some h
  by_cases b4 : o1 = 0
  · replace h := if_t b4 h
    refine Ru.br (k := .ne) (off := 16) (bb := false) (tg := 10) (by decide +kernel) (by decide +kernel) (cz (ci_ne0 g3 (by decide) b4)) rfl ?_
    refine Ru.op (q := (.aload_n 0, 1)) (S' := (11, _, _, _, _)) (by decide +kernel) rfl ?_
    refine Ru.op (q := (.dup, 1)) (S' := (12, _, _, _, _)) (by decide +kernel) rfl ?_
    refine Ru.getI (pc' := 15) (i := 54) (ci := 3) (k := 4) (nn := 0) (z := 0) (x := (S.F 13 4)) (by decide +kernel) (by decide +kernel) (hp13 _) (by decide) rfl (eI_of _) rfl ?_
    refine Ru.kI (q := (.iconst 1, 1)) (c := 1) (pc' := 16) (by decide +kernel) rfl (by decide) rfl ?_
    refine Ru.ar2 (i := .iadd) (z := ((S.F 13 4) + 1)) (pc' := 17) (by decide +kernel) rfl (ar_add _ _) rfl ?_
    refine Ru.putH (pc' := 20) (i := 54) (ci := 3) (k := 4) (nn := 0) (z := 0) (by decide +kernel) (by decide +kernel) (hp13 _) (by decide) (Nat.le_of_ble_eq_true rfl) rfl (by decide +kernel) (pf_13_4 _ _) rfl ?_
    refine Ru.op (q := (.goto 124, 3)) (S' := (144, _, _, _, _)) (by decide +kernel) rfl ?_
    cases h
    exact Ru.end (q := (.return_, 1)) (by decide +kernel) rfl rfl
  · replace h := if_f b4 h
    refine Ru.br (k := .ne) (off := 16) (bb := true) (tg := 23) (by decide +kernel) (by decide +kernel) (cz (ci_ne1 g3 (by decide) b4)) rfl ?_
    refine Ru.op (q := (.aload_n 0, 1)) (S' := (24, _, _, _, _)) (by decide +kernel) rfl ?_
    refine Ru.getR (pc' := 27) (i := 24) (ci := 3) (k := 9) (nn := 0) (z := 0) (v := .ref 15) (by decide +kernel) (by decide +kernel) (hp13 _) (by decide) rfl rfl ?_
    obtain ⟨o5, e6, h⟩ := ob_some h
    refine Ru.vcallI (pc' := 30) (st' := [vI o5]) (i := 81) (j2 := 51) (ci := 4) (k := 0) (z := 0) (as := []) (by decide +kernel) (by decide +kernel) rfl rfl (hp15 _) (by decide) ⟨(Nat.le_of_ble_eq_true rfl), (by show 19 + 3 ≤ 299; exact Nat.le_of_ble_eq_true rfl), Nat.le_of_ble_eq_true rfl, Nat.le_of_ble_eq_true rfl⟩ ((g51_15_ok e6).up (Nat.le_of_ble_eq_true rfl) (Nat.le_of_ble_eq_true rfl)) rfl rfl ?_
    obtain ⟨g7, h⟩ := gd_some h
    by_cases b8 : o5 = 0
    · replace h := if_t b8 h
      refine Ru.br (k := .eq) (off := 16) (bb := true) (tg := 46) (by decide +kernel) (by decide +kernel) (cz (ci_eq1 g7 (by decide) b8)) rfl ?_
      refine Ru.op (q := (.aload_n 0, 1)) (S' := (47, _, _, _, _)) (by decide +kernel) rfl ?_
      obtain ⟨o9, e10, h⟩ := ob_some h
      refine Ru.vcallI (pc' := 50) (st' := [vI o9.1]) (i := 87) (j2 := 53) (ci := 3) (k := 0) (z := 0) (as := []) (by decide +kernel) (by decide +kernel) rfl rfl (hp13 _) (by decide) ⟨(Nat.le_of_ble_eq_true rfl), (by show 19 + 2 ≤ 299; exact Nat.le_of_ble_eq_true rfl), Nat.le_of_ble_eq_true rfl, Nat.le_of_ble_eq_true rfl⟩ ((g53_ok e10).up (Nat.le_of_ble_eq_true rfl) (Nat.le_of_ble_eq_true rfl)) rfl rfl ?_
      obtain ⟨g11, h⟩ := gd_some h
      by_cases b12 : o9.1 = 0
      · replace h := if_t b12 h
        refine Ru.br (k := .eq) (off := 16) (bb := true) (tg := 66) (by decide +kernel) (by decide +kernel) (cz (ci_eq1 g11 (by decide) b12)) rfl ?_
        refine Ru.op (q := (.aload_n 0, 1)) (S' := (67, _, _, _, _)) (by decide +kernel) rfl ?_
        refine Ru.getI (pc' := 70) (i := 57) (ci := 3) (k := 1) (nn := 0) (z := 0) (x := (o9.2.F 13 1)) (by decide +kernel) (by decide +kernel) (hp13 _) (by decide) rfl (eI_of _) rfl ?_
        refine Ru.kI (q := (.bipush 100, 2)) (c := 100) (pc' := 72) (by decide +kernel) rfl (by decide) rfl ?_
        by_cases b13 : (o9.2.F 13 1) < 100
        · replace h := if_t b13 h
          refine Ru.br2 (k := .lt) (off := 11) (bb := true) (tg := 83) (by decide +kernel) (by decide +kernel) (ci_lt1 (inR_to _) (by decide) b13) rfl ?_
          refine Ru.op (q := (.aload_n 0, 1)) (S' := (84, _, _, _, _)) (by decide +kernel) rfl ?_
          refine Ru.getR (pc' := 87) (i := 11) (ci := 3) (k := 0) (nn := 0) (z := 0) (v := .ref 14) (by decide +kernel) (by decide +kernel) (hp13 _) (by decide) rfl rfl ?_
          refine Ru.op (q := (.aload_n 0, 1)) (S' := (88, _, _, _, _)) (by decide +kernel) rfl ?_
          refine Ru.getI (pc' := 91) (i := 57) (ci := 3) (k := 1) (nn := 0) (z := 0) (x := (o9.2.F 13 1)) (by decide +kernel) (by decide +kernel) (hp13 _) (by decide) rfl (eI_of _) rfl ?_
          refine Ru.nwI (pc' := 94) (S := o9.2) (i := 9) (n := 7) (by decide +kernel) (by rfl) (by decide) rfl rfl ?_
          refine Ru.op (q := (.dup, 1)) (S' := (95, _, _, _, _)) (by decide +kernel) rfl ?_
          refine Ru.op (q := (.aload_n 0, 1)) (S' := (96, _, _, _, _)) (by decide +kernel) rfl ?_
          refine Ru.getR (pc' := 99) (i := 24) (ci := 3) (k := 9) (nn := 0) (z := 0) (v := .ref 15) (by decide +kernel) (by decide +kernel) (hp13 _) (by decide) rfl rfl ?_
          obtain ⟨o14, e15, h⟩ := ob_some h
          refine Ru.vcallI (pc' := 102) (st' := [.ref o14.1, .ref o9.2.top, .ref o9.2.top, vI (o9.2.F 13 1), .ref 14]) (i := 93) (j2 := 58) (ci := 4) (k := 0) (z := 0) (as := []) (by decide +kernel) (by decide +kernel) rfl rfl (hp15 _) (by decide) ⟨(Nat.le_of_ble_eq_true rfl), (by show 19 + 2 ≤ 299; exact Nat.le_of_ble_eq_true rfl), Nat.le_of_ble_eq_true rfl, Nat.le_of_ble_eq_true rfl⟩ ((g58_15_ok e15).up (Nat.le_of_ble_eq_true rfl) (Nat.le_of_ble_eq_true rfl)) rfl rfl ?_
          refine Ru.op (q := (.iload_n 1, 1)) (S' := (103, _, _, _, _)) (by decide +kernel) rfl ?_
          refine Ru.op (q := (.iload_n 2, 1)) (S' := (104, _, _, _, _)) (by decide +kernel) rfl ?_
          refine Ru.op (q := (.iload_n 3, 1)) (S' := (105, _, _, _, _)) (by decide +kernel) rfl ?_
          refine Ru.op (q := (.iload 4, 2)) (S' := (107, _, _, _, _)) (by decide +kernel) rfl ?_
          refine Ru.op (q := (.iload 5, 2)) (S' := (109, _, _, _, _)) (by decide +kernel) rfl ?_
          obtain ⟨q17, e16, h⟩ := gN_e h
          refine Ru.callI (pc' := 112) (st' := [.ref o9.2.top, vI (o9.2.F 13 1), .ref 14]) (q := (.invokespecial 97, 3)) (j2 := 59) (as := [.ref o9.2.top, .ref o14.1, vI v1, vI v2, vI v3, vI v4, vI v5]) (by decide +kernel) rfl rfl rfl rfl ⟨(Nat.le_of_ble_eq_true rfl), (by show 19 + 7 ≤ 299; exact Nat.le_of_ble_eq_true rfl), Nat.le_of_ble_eq_true rfl, Nat.le_of_ble_eq_true rfl⟩ ((ctor9_ok q17 e16).up (Nat.le_of_ble_eq_true rfl) (Nat.le_of_ble_eq_true rfl)) rfl rfl ?_
          obtain ⟨g18, h⟩ := gd_some h
          obtain ⟨c19, n20, n21, n22, n23, n24, n25, e26, q27, h⟩ := gK_some h
          refine Ru.astI (pc' := 113) (i := (o9.2.F 13 1)) (by decide +kernel) (hp14 _) q27 (by decide) (by decide) (by decide) g18 (pq_14 _ _ _) rfl ?_
          refine Ru.op (q := (.aload_n 0, 1)) (S' := (114, _, _, _, _)) (by decide +kernel) rfl ?_
          refine Ru.getR (pc' := 117) (i := 24) (ci := 3) (k := 9) (nn := 0) (z := 0) (v := .ref 15) (by decide +kernel) (by decide +kernel) (hp13 _) (by decide) rfl rfl ?_
          refine Ru.getR (pc' := 120) (i := 100) (ci := 4) (k := 0) (nn := 0) (z := 0) (v := .ref 16) (by decide +kernel) (by decide +kernel) (hp15 _) (by decide) rfl rfl ?_
          refine Ru.getI (pc' := 123) (i := 104) (ci := 5) (k := 2) (nn := 0) (z := 0) (x := (o14.2.F 16 2)) (by decide +kernel) (by decide +kernel) (hp16 _) (by decide) rfl (eI_of _) rfl ?_
          by_cases b28 : (o14.2.F 16 2) = 0
          · replace h := if_t b28 h
            refine Ru.br (k := .ne) (off := 11) (bb := false) (tg := 126) (by decide +kernel) (by decide +kernel) (cz (ci_ne0 (inR_to _) (by decide) b28)) rfl ?_
            refine Ru.op (q := (.aload_n 0, 1)) (S' := (127, _, _, _, _)) (by decide +kernel) rfl ?_
            refine Ru.op (q := (.aload_n 0, 1)) (S' := (128, _, _, _, _)) (by decide +kernel) rfl ?_
            refine Ru.getI (pc' := 131) (i := 57) (ci := 3) (k := 1) (nn := 0) (z := 0) (x := (o14.2.F 13 1)) (by decide +kernel) (by decide +kernel) (hp13 _) (by decide) rfl (eI_of _) rfl ?_
            refine Ru.putH (pc' := 134) (i := 17) (ci := 3) (k := 7) (nn := 0) (z := 0) (by decide +kernel) (by decide +kernel) (hp13 _) (by decide) (Nat.le_of_ble_eq_true rfl) rfl (by decide +kernel) (pf_13_7 _ _) rfl ?_
            refine Ru.op (q := (.aload_n 0, 1)) (S' := (135, _, _, _, _)) (by decide +kernel) rfl ?_
            refine Ru.op (q := (.dup, 1)) (S' := (136, _, _, _, _)) (by decide +kernel) rfl ?_
            refine Ru.getI (pc' := 139) (i := 57) (ci := 3) (k := 1) (nn := 0) (z := 0) (x := (o14.2.F 13 1)) (by decide +kernel) (by decide +kernel) (hp13 _) (by decide) rfl (eI_of _) rfl ?_
            refine Ru.kI (q := (.iconst 1, 1)) (c := 1) (pc' := 140) (by decide +kernel) rfl (by decide) rfl ?_
            refine Ru.ar2 (i := .iadd) (z := ((o14.2.F 13 1) + 1)) (pc' := 141) (by decide +kernel) rfl (ar_add _ _) rfl ?_
            refine Ru.putH (pc' := 144) (i := 57) (ci := 3) (k := 1) (nn := 0) (z := 0) (by decide +kernel) (by decide +kernel) (hp13 _) (by decide) (Nat.le_of_ble_eq_true rfl) rfl (by decide +kernel) (pf_13_1 _ _) rfl ?_
            cases h
            exact Ru.end (q := (.return_, 1)) (by decide +kernel) rfl rfl
          · replace h := if_f b28 h
            refine Ru.br (k := .ne) (off := 11) (bb := true) (tg := 134) (by decide +kernel) (by decide +kernel) (cz (ci_ne1 (inR_to _) (by decide) b28)) rfl ?_
            refine Ru.op (q := (.aload_n 0, 1)) (S' := (135, _, _, _, _)) (by decide +kernel) rfl ?_
            refine Ru.op (q := (.dup, 1)) (S' := (136, _, _, _, _)) (by decide +kernel) rfl ?_
            refine Ru.getI (pc' := 139) (i := 57) (ci := 3) (k := 1) (nn := 0) (z := 0) (x := (o14.2.F 13 1)) (by decide +kernel) (by decide +kernel) (hp13 _) (by decide) rfl (eI_of _) rfl ?_
            refine Ru.kI (q := (.iconst 1, 1)) (c := 1) (pc' := 140) (by decide +kernel) rfl (by decide) rfl ?_
            refine Ru.ar2 (i := .iadd) (z := ((o14.2.F 13 1) + 1)) (pc' := 141) (by decide +kernel) rfl (ar_add _ _) rfl ?_
            refine Ru.putH (pc' := 144) (i := 57) (ci := 3) (k := 1) (nn := 0) (z := 0) (by decide +kernel) (by decide +kernel) (hp13 _) (by decide) (Nat.le_of_ble_eq_true rfl) rfl (by decide +kernel) (pf_13_1 _ _) rfl ?_
            cases h
            exact Ru.end (q := (.return_, 1)) (by decide +kernel) rfl rfl
        · replace h := if_f b13 h
          refine Ru.br2 (k := .lt) (off := 11) (bb := false) (tg := 75) (by decide +kernel) (by decide +kernel) (ci_lt0 (inR_to _) (by decide) b13) rfl ?_
          refine Ru.op (q := (.aload_n 0, 1)) (S' := (76, _, _, _, _)) (by decide +kernel) rfl ?_
          refine Ru.kI (q := (.iconst 1, 1)) (c := 1) (pc' := 77) (by decide +kernel) rfl (by decide) rfl ?_
          refine Ru.putH (pc' := 80) (i := 46) (ci := 3) (k := 8) (nn := 0) (z := 0) (by decide +kernel) (by decide +kernel) (hp13 _) (by decide) (Nat.le_of_ble_eq_true rfl) (fk_b (by decide)) (by decide +kernel) (pf_13_8 _ _) rfl ?_
          refine Ru.op (q := (.goto 64, 3)) (S' := (144, _, _, _, _)) (by decide +kernel) rfl ?_
          cases h
          exact Ru.end (q := (.return_, 1)) (by decide +kernel) rfl rfl
      · replace h := if_f b12 h
        refine Ru.br (k := .eq) (off := 16) (bb := false) (tg := 53) (by decide +kernel) (by decide +kernel) (cz (ci_eq0 g11 (by decide) b12)) rfl ?_
        refine Ru.op (q := (.aload_n 0, 1)) (S' := (54, _, _, _, _)) (by decide +kernel) rfl ?_
        refine Ru.op (q := (.dup, 1)) (S' := (55, _, _, _, _)) (by decide +kernel) rfl ?_
        refine Ru.getI (pc' := 58) (i := 90) (ci := 3) (k := 6) (nn := 0) (z := 0) (x := (o9.2.F 13 6)) (by decide +kernel) (by decide +kernel) (hp13 _) (by decide) rfl (eI_of _) rfl ?_
        refine Ru.kI (q := (.iconst 1, 1)) (c := 1) (pc' := 59) (by decide +kernel) rfl (by decide) rfl ?_
        refine Ru.ar2 (i := .iadd) (z := ((o9.2.F 13 6) + 1)) (pc' := 60) (by decide +kernel) rfl (ar_add _ _) rfl ?_
        refine Ru.putH (pc' := 63) (i := 90) (ci := 3) (k := 6) (nn := 0) (z := 0) (by decide +kernel) (by decide +kernel) (hp13 _) (by decide) (Nat.le_of_ble_eq_true rfl) rfl (by decide +kernel) (pf_13_6 _ _) rfl ?_
        refine Ru.op (q := (.goto 81, 3)) (S' := (144, _, _, _, _)) (by decide +kernel) rfl ?_
        cases h
        exact Ru.end (q := (.return_, 1)) (by decide +kernel) rfl rfl
    · replace h := if_f b8 h
      refine Ru.br (k := .eq) (off := 16) (bb := false) (tg := 33) (by decide +kernel) (by decide +kernel) (cz (ci_eq0 g7 (by decide) b8)) rfl ?_
      refine Ru.op (q := (.aload_n 0, 1)) (S' := (34, _, _, _, _)) (by decide +kernel) rfl ?_
      refine Ru.op (q := (.dup, 1)) (S' := (35, _, _, _, _)) (by decide +kernel) rfl ?_
      refine Ru.getI (pc' := 38) (i := 84) (ci := 3) (k := 5) (nn := 0) (z := 0) (x := (S.F 13 5)) (by decide +kernel) (by decide +kernel) (hp13 _) (by decide) rfl (eI_of _) rfl ?_
      refine Ru.kI (q := (.iconst 1, 1)) (c := 1) (pc' := 39) (by decide +kernel) rfl (by decide) rfl ?_
      refine Ru.ar2 (i := .iadd) (z := ((S.F 13 5) + 1)) (pc' := 40) (by decide +kernel) rfl (ar_add _ _) rfl ?_
      refine Ru.putH (pc' := 43) (i := 84) (ci := 3) (k := 5) (nn := 0) (z := 0) (by decide +kernel) (by decide +kernel) (hp13 _) (by decide) (Nat.le_of_ble_eq_true rfl) rfl (by decide +kernel) (pf_13_5 _ _) rfl ?_
      refine Ru.op (q := (.goto 101, 3)) (S' := (144, _, _, _, _)) (by decide +kernel) rfl ?_
      cases h
      exact Ru.end (q := (.return_, 1)) (by decide +kernel) rfl rfl
set_option maxRecDepth 100000 in
set_option maxHeartbeats 4000000 in
theorem g39L8_ok {v2 : Int} {v3 : Int} : ∀ (n : Nat) (v4 : Int) (S : St) (_ : DD []) (out : St), g39L8 v2 v3 n v4 S = some out → ∀ r, (∀ (e1 e2 e4 : Option Value), DD [e1, e2, e4] → Ru none 80 2069 39 (52, [some (.ref 13), e1, e2, some (vI v3), e4], [], out.ns, Hp out) r) → Ru none 80 2069 39 (8, [some (.ref 13), some (.ref 3), some (vI v2), some (vI v3), some (vI v4)], [], S.ns, Hp S) r := by
  intro n
  induction n with
  | zero => intro v4 S hdd out h; cases h
  | succ n ih =>
    intro v4 S hdd out h r hk
    unfold g39L8 at h
    refine Ru.op (q := (.iload 4, 2)) (S' := (10, _, _, _, _)) (by decide +kernel) rfl ?_
    refine Ru.op (q := (.aload_n 1, 1)) (S' := (11, _, _, _, _)) (by decide +kernel) rfl ?_
    refine Ru.getR (pc' := 14) (i := 63) (ci := 2) (k := 3) (nn := 0) (z := 0) (v := .ref 7) (by decide +kernel) (by decide +kernel) (hp3 _) (by decide) rfl rfl ?_
    refine Ru.op (q := (.iload_n 2, 1)) (S' := (15, _, _, _, _)) (by decide +kernel) rfl ?_
    obtain ⟨g1, h⟩ := gd_some h
    refine Ru.ildI (pc' := 16) (i := v2) (z := (S.A 7 v2)) (by decide +kernel) (hp7 _) g1 (eI_of _) rfl ?_
    obtain ⟨g2, h⟩ := gd_some h
    by_cases b3 : v4 < (S.A 7 v2)
    · replace h := if_t b3 h
      refine Ru.br2 (k := .ge) (off := 36) (bb := false) (tg := 19) (by decide +kernel) (by decide +kernel) (ci_ge0 g2 (inR_to _) b3) rfl ?_
      refine Ru.op (q := (.aload_n 0, 1)) (S' := (20, _, _, _, _)) (by decide +kernel) rfl ?_
      refine Ru.getI (pc' := 23) (i := 46) (ci := 3) (k := 8) (nn := 0) (z := 0) (x := (S.F 13 8)) (by decide +kernel) (by decide +kernel) (hp13 _) (by decide) rfl (eI_of _) rfl ?_
      by_cases b4 : (S.F 13 8) = 0
      · replace h := if_t b4 h
        refine Ru.br (k := .ne) (off := 29) (bb := false) (tg := 26) (by decide +kernel) (by decide +kernel) (cz (ci_ne0 (inR_to _) (by decide) b4)) rfl ?_
        refine Ru.op (q := (.aload_n 1, 1)) (S' := (27, _, _, _, _)) (by decide +kernel) rfl ?_
        refine Ru.op (q := (.iload_n 2, 1)) (S' := (28, _, _, _, _)) (by decide +kernel) rfl ?_
        refine Ru.op (q := (.iload 4, 2)) (S' := (30, _, _, _, _)) (by decide +kernel) rfl ?_
        refine Ru.op (q := (.aload_n 0, 1)) (S' := (31, _, _, _, _)) (by decide +kernel) rfl ?_
        refine Ru.getR (pc' := 34) (i := 24) (ci := 3) (k := 9) (nn := 0) (z := 0) (v := .ref 15) (by decide +kernel) (by decide +kernel) (hp13 _) (by decide) rfl rfl ?_
        obtain ⟨o5, e6, h⟩ := ob_some h
        refine Ru.vcallI (pc' := 37) (st' := []) (i := 69) (j2 := 40) (ci := 2) (k := 0) (z := 0) (as := [vI v2, vI v4, .ref 15]) (by decide +kernel) (by decide +kernel) rfl rfl (hp3 _) (by decide) ⟨(Nat.le_of_ble_eq_true rfl), (by show 19 + 4 ≤ 2069; exact Nat.le_of_ble_eq_true rfl), Nat.le_of_ble_eq_true rfl, Nat.le_of_ble_eq_true rfl⟩ ((g40_15_ok e6).up (Nat.le_of_ble_eq_true rfl) (Nat.le_of_ble_eq_true rfl)) rfl rfl ?_
        refine Ru.op (q := (.aload_n 0, 1)) (S' := (38, _, _, _, _)) (by decide +kernel) rfl ?_
        refine Ru.kI (q := (.iconst 0, 1)) (c := 0) (pc' := 39) (by decide +kernel) rfl (by decide) rfl ?_
        refine Ru.kI (q := (.iconst (-1), 1)) (c := (-1)) (pc' := 40) (by decide +kernel) rfl (by decide) rfl ?_
        refine Ru.kI (q := (.iconst (-1), 1)) (c := (-1)) (pc' := 41) (by decide +kernel) rfl (by decide) rfl ?_
        refine Ru.kI (q := (.iconst (-1), 1)) (c := (-1)) (pc' := 42) (by decide +kernel) rfl (by decide) rfl ?_
        refine Ru.kI (q := (.iconst (-1), 1)) (c := (-1)) (pc' := 43) (by decide +kernel) rfl (by decide) rfl ?_
        obtain ⟨o7, e8, h⟩ := ob_some h
        refine Ru.vcallI (pc' := 46) (st' := []) (i := 73) (j2 := 49) (ci := 3) (k := 0) (z := 0) (as := [vI 0, vI (-1), vI (-1), vI (-1), vI (-1)]) (by decide +kernel) (by decide +kernel) rfl rfl (hp13 _) (by decide) ⟨(Nat.le_of_ble_eq_true rfl), (by show 19 + 6 ≤ 2069; exact Nat.le_of_ble_eq_true rfl), Nat.le_of_ble_eq_true rfl, Nat.le_of_ble_eq_true rfl⟩ ((g49_ok e8).up (Nat.le_of_ble_eq_true rfl) (Nat.le_of_ble_eq_true rfl)) rfl rfl ?_
        refine Ru.inc (k := 4) (n := 1) (x := v4) (z := (v4 + 1)) (xs' := [some (.ref 13), some (.ref 3), some (vI v2), some (vI v3), some (vI (v4 + 1))]) (pc' := 49) (by decide +kernel) rfl rfl rfl rfl ?_
        refine Ru.op (q := (.goto (-41), 3)) (S' := (8, _, _, _, _)) (by decide +kernel) rfl ?_
        exact ih _ _ trivial _ h r hk
      · replace h := if_f b4 h
        refine Ru.br (k := .ne) (off := 29) (bb := true) (tg := 52) (by decide +kernel) (by decide +kernel) (cz (ci_ne1 (inR_to _) (by decide) b4)) rfl ?_
        cases h
        exact hk _ _ _ ⟨rfl, rfl, rfl, trivial⟩
    · replace h := if_f b3 h
      refine Ru.br2 (k := .ge) (off := 36) (bb := true) (tg := 52) (by decide +kernel) (by decide +kernel) (ci_ge1 g2 (inR_to _) b3) rfl ?_
      cases h
      exact hk _ _ _ ⟨rfl, rfl, rfl, trivial⟩
set_option maxRecDepth 100000 in
set_option maxHeartbeats 4000000 in
theorem g39_ok {S : St} {v2 : Int} {o : Int × St} (h : g39 S v2 = some o) : Ru none 80 2069 39 (0, mn_pad (mn_ent [.ref 13, .ref 3, vI v2]) 5, [], S.ns, Hp S) ((0, some (vI o.1)), o.2.ns, Hp o.2) := by
  unfold g39 at h
  show Ru none 80 2069 39 (0, [some (.ref 13), some (.ref 3), some (vI v2), none, none], [], S.ns, Hp S) _
  refine Ru.op (q := (.aload_n 0, 1)) (S' := (1, _, _, _, _)) (by decide +kernel) rfl ?_
  refine Ru.getI (pc' := 4) (i := 57) (ci := 3) (k := 1) (nn := 0) (z := 0) (x := (S.F 13 1)) (by decide +kernel) (by decide +kernel) (hp13 _) (by decide) rfl (eI_of _) rfl ?_
  refine Ru.op (q := (.istore_n 3, 1)) (S' := (5, [some (.ref 13), some (.ref 3), some (vI v2), some (vI (S.F 13 1)), none], [], _, _)) (by decide +kernel) rfl ?_
  refine Ru.kI (q := (.iconst 0, 1)) (c := 0) (pc' := 6) (by decide +kernel) rfl (by decide) rfl ?_
  refine Ru.op (q := (.istore 4, 2)) (S' := (8, [some (.ref 13), some (.ref 3), some (vI v2), some (vI (S.F 13 1)), some (vI 0)], [], _, _)) (by decide +kernel) rfl ?_
  obtain ⟨o9, e13, h⟩ := ob_some h
  refine g39L8_ok FU _ _ trivial _ e13 _ ?_
  intro d10 d11 d12 hd14
  refine Ru.op (q := (.aload_n 0, 1)) (S' := (53, _, _, _, _)) (by decide +kernel) rfl ?_
  refine Ru.getI (pc' := 56) (i := 57) (ci := 3) (k := 1) (nn := 0) (z := 0) (x := (o9.F 13 1)) (by decide +kernel) (by decide +kernel) (hp13 _) (by decide) rfl (eI_of _) rfl ?_
  refine Ru.op (q := (.iload_n 3, 1)) (S' := (57, _, _, _, _)) (by decide +kernel) rfl ?_
  refine Ru.ar2 (i := .isub) (z := ((o9.F 13 1) - (S.F 13 1))) (pc' := 58) (by decide +kernel) rfl (ar_sub _ _) rfl ?_
  cases h
  exact Ru.iret (by decide +kernel) rfl rfl
set_option maxRecDepth 100000 in
set_option maxHeartbeats 4000000 in
theorem g19_ok {S : St} {v1 : Int} {o : Nat × Int × St} (h : g19 S v1 = some o) : Ru none 272 6545 19 (0, mn_pad (mn_ent [.ref 0, vI v1]) 3, [], S.ns, Hp S) ((o.1, tv o.1 o.2.1), o.2.2.ns, Hp o.2.2) := by
  unfold g19 at h
  show Ru none 272 6545 19 (0, [some (.ref 0), some (vI v1), none], [], S.ns, Hp S) _
  refine Ru.op (q := (.aload_n 0, 1)) (S' := (1, _, _, _, _)) (by decide +kernel) rfl ?_
  refine Ru.getR (pc' := 4) (i := 12) (ci := 0) (k := 0) (nn := 0) (z := 0) (v := .ref 1) (by decide +kernel) (by decide +kernel) (hp0 _) (by decide) rfl rfl ?_
  refine Ru.op (q := (.iload_n 1, 1)) (S' := (5, _, _, _, _)) (by decide +kernel) rfl ?_
  refine Ru.op (q := (.aload_n 0, 1)) (S' := (6, _, _, _, _)) (by decide +kernel) rfl ?_
  refine Ru.getR (pc' := 9) (i := 19) (ci := 0) (k := 1) (nn := 0) (z := 0) (v := .ref 13) (by decide +kernel) (by decide +kernel) (hp0 _) (by decide) rfl rfl ?_
  refine Ru.getI (pc' := 12) (i := 64) (ci := 3) (k := 2) (nn := 0) (z := 0) (x := (S.F 13 2)) (by decide +kernel) (by decide +kernel) (hp13 _) (by decide) rfl (eI_of _) rfl ?_
  obtain ⟨o1, e2, h⟩ := ob_some h
  refine Ru.vcallI (pc' := 15) (st' := [vI o1.1]) (i := 67) (j2 := 20) (ci := 1) (k := 0) (z := 0) (as := [vI v1, vI (S.F 13 2)]) (by decide +kernel) (by decide +kernel) rfl rfl (hp1 _) (by decide) ⟨(Nat.le_of_ble_eq_true rfl), (by show 19 + 4 ≤ 6545; exact Nat.le_of_ble_eq_true rfl), Nat.le_of_ble_eq_true rfl, Nat.le_of_ble_eq_true rfl⟩ ((g20_ok e2).up (Nat.le_of_ble_eq_true rfl) (Nat.le_of_ble_eq_true rfl)) rfl rfl ?_
  refine Ru.op (q := (.istore_n 2, 1)) (S' := (16, [some (.ref 0), some (vI v1), some (vI o1.1)], [], _, _)) (by decide +kernel) rfl ?_
  refine Ru.op (q := (.iload_n 2, 1)) (S' := (17, _, _, _, _)) (by decide +kernel) rfl ?_
  refine Ru.kI (q := (.iconst (-1), 1)) (c := (-1)) (pc' := 18) (by decide +kernel) rfl (by decide) rfl ?_
  obtain ⟨g3, h⟩ := gd_some h
  by_cases b4 : o1.1 = (-1)
  · replace h := if_t b4 h
    refine Ru.br2 (k := .ne) (off := 22) (bb := false) (tg := 21) (by decide +kernel) (by decide +kernel) (ci_ne0 g3 (by decide) b4) rfl ?_
    refine Ru.op (q := (.aload_n 0, 1)) (S' := (22, _, _, _, _)) (by decide +kernel) rfl ?_
    refine Ru.op (q := (.aload_n 0, 1)) (S' := (23, _, _, _, _)) (by decide +kernel) rfl ?_
    refine Ru.getR (pc' := 26) (i := 12) (ci := 0) (k := 0) (nn := 0) (z := 0) (v := .ref 1) (by decide +kernel) (by decide +kernel) (hp0 _) (by decide) rfl rfl ?_
    refine Ru.getI (pc' := 29) (i := 71) (ci := 1) (k := 3) (nn := 0) (z := 0) (x := (o1.2.F 1 3)) (by decide +kernel) (by decide +kernel) (hp1 _) (by decide) rfl (eI_of _) rfl ?_
    refine Ru.putH (pc' := 32) (i := 43) (ci := 0) (k := 6) (nn := 0) (z := 0) (by decide +kernel) (by decide +kernel) (hp0 _) (by decide) (Nat.le_of_ble_eq_true rfl) rfl (by decide +kernel) (pf_0_6 _ _) rfl ?_
    cases h
    exact tho (S := (o1.2.f 0 6 (o1.2.F 1 3))) (Ru.thr (q := (.new 51, 3)) (by decide +kernel) rfl rfl (by decide +kernel))
  · replace h := if_f b4 h
    refine Ru.br2 (k := .ne) (off := 22) (bb := true) (tg := 40) (by decide +kernel) (by decide +kernel) (ci_ne1 g3 (by decide) b4) rfl ?_
    refine Ru.op (q := (.aload_n 0, 1)) (S' := (41, _, _, _, _)) (by decide +kernel) rfl ?_
    refine Ru.getR (pc' := 44) (i := 12) (ci := 0) (k := 0) (nn := 0) (z := 0) (v := .ref 1) (by decide +kernel) (by decide +kernel) (hp0 _) (by decide) rfl rfl ?_
    refine Ru.getR (pc' := 47) (i := 74) (ci := 1) (k := 2) (nn := 0) (z := 0) (v := .ref 3) (by decide +kernel) (by decide +kernel) (hp1 _) (by decide) rfl rfl ?_
    refine Ru.getR (pc' := 50) (i := 78) (ci := 2) (k := 3) (nn := 0) (z := 0) (v := .ref 7) (by decide +kernel) (by decide +kernel) (hp3 _) (by decide) rfl rfl ?_
    refine Ru.op (q := (.iload_n 2, 1)) (S' := (51, _, _, _, _)) (by decide +kernel) rfl ?_
    obtain ⟨g5, h⟩ := gd_some h
    refine Ru.ildI (pc' := 52) (i := o1.1) (z := (o1.2.A 7 o1.1)) (by decide +kernel) (hp7 _) g5 (eI_of _) rfl ?_
    refine Ru.kI (q := (.bipush 16, 2)) (c := 16) (pc' := 54) (by decide +kernel) rfl (by decide) rfl ?_
    by_cases b6 : 16 < (o1.2.A 7 o1.1)
    · replace h := if_t b6 h
      refine Ru.br2 (k := .gt) (off := 32) (bb := true) (tg := 86) (by decide +kernel) (by decide +kernel) (ci_gt1 (inR_to _) (by decide) b6) rfl ?_
      cases h
      exact tho (S := o1.2) (Ru.thr (q := (.new 88, 3)) (by decide +kernel) rfl rfl (by decide +kernel))
    · replace h := if_f b6 h
      refine Ru.br2 (k := .gt) (off := 32) (bb := false) (tg := 57) (by decide +kernel) (by decide +kernel) (ci_gt0 (inR_to _) (by decide) b6) rfl ?_
      refine Ru.op (q := (.aload_n 0, 1)) (S' := (58, _, _, _, _)) (by decide +kernel) rfl ?_
      refine Ru.getR (pc' := 61) (i := 12) (ci := 0) (k := 0) (nn := 0) (z := 0) (v := .ref 1) (by decide +kernel) (by decide +kernel) (hp0 _) (by decide) rfl rfl ?_
      refine Ru.getR (pc' := 64) (i := 74) (ci := 1) (k := 2) (nn := 0) (z := 0) (v := .ref 3) (by decide +kernel) (by decide +kernel) (hp1 _) (by decide) rfl rfl ?_
      refine Ru.getR (pc' := 67) (i := 84) (ci := 2) (k := 4) (nn := 0) (z := 0) (v := .ref 8) (by decide +kernel) (by decide +kernel) (hp3 _) (by decide) rfl rfl ?_
      refine Ru.op (q := (.iload_n 2, 1)) (S' := (68, _, _, _, _)) (by decide +kernel) rfl ?_
      refine Ru.ildI (pc' := 69) (i := o1.1) (z := (o1.2.A 8 o1.1)) (by decide +kernel) (hp8 _) g5 (eI_of _) rfl ?_
      refine Ru.kI (q := (.bipush 8, 2)) (c := 8) (pc' := 71) (by decide +kernel) rfl (by decide) rfl ?_
      by_cases b7 : 8 < (o1.2.A 8 o1.1)
      · replace h := if_t b7 h
        refine Ru.br2 (k := .gt) (off := 15) (bb := true) (tg := 86) (by decide +kernel) (by decide +kernel) (ci_gt1 (inR_to _) (by decide) b7) rfl ?_
        cases h
        exact tho (S := o1.2) (Ru.thr (q := (.new 88, 3)) (by decide +kernel) rfl rfl (by decide +kernel))
      · replace h := if_f b7 h
        refine Ru.br2 (k := .gt) (off := 15) (bb := false) (tg := 74) (by decide +kernel) (by decide +kernel) (ci_gt0 (inR_to _) (by decide) b7) rfl ?_
        refine Ru.op (q := (.aload_n 0, 1)) (S' := (75, _, _, _, _)) (by decide +kernel) rfl ?_
        refine Ru.getR (pc' := 78) (i := 12) (ci := 0) (k := 0) (nn := 0) (z := 0) (v := .ref 1) (by decide +kernel) (by decide +kernel) (hp0 _) (by decide) rfl rfl ?_
        refine Ru.getI (pc' := 81) (i := 87) (ci := 1) (k := 10) (nn := 0) (z := 0) (x := (o1.2.F 1 10)) (by decide +kernel) (by decide +kernel) (hp1 _) (by decide) rfl (eI_of _) rfl ?_
        refine Ru.kI (q := (.bipush 99, 2)) (c := 99) (pc' := 83) (by decide +kernel) rfl (by decide) rfl ?_
        by_cases b8 : 99 < (o1.2.F 1 10)
        · replace h := if_t b8 h
          refine Ru.br2 (k := .le) (off := 11) (bb := false) (tg := 86) (by decide +kernel) (by decide +kernel) (ci_le0 (inR_to _) (by decide) b8) rfl ?_
          cases h
          exact tho (S := o1.2) (Ru.thr (q := (.new 88, 3)) (by decide +kernel) rfl rfl (by decide +kernel))
        · replace h := if_f b8 h
          refine Ru.br2 (k := .le) (off := 11) (bb := true) (tg := 94) (by decide +kernel) (by decide +kernel) (ci_le1 (inR_to _) (by decide) b8) rfl ?_
          refine Ru.op (q := (.aload_n 0, 1)) (S' := (95, _, _, _, _)) (by decide +kernel) rfl ?_
          refine Ru.getR (pc' := 98) (i := 19) (ci := 0) (k := 1) (nn := 0) (z := 0) (v := .ref 13) (by decide +kernel) (by decide +kernel) (hp0 _) (by decide) rfl rfl ?_
          refine Ru.op (q := (.aload_n 0, 1)) (S' := (99, _, _, _, _)) (by decide +kernel) rfl ?_
          refine Ru.getR (pc' := 102) (i := 12) (ci := 0) (k := 0) (nn := 0) (z := 0) (v := .ref 1) (by decide +kernel) (by decide +kernel) (hp0 _) (by decide) rfl rfl ?_
          refine Ru.getI (pc' := 105) (i := 87) (ci := 1) (k := 10) (nn := 0) (z := 0) (x := (o1.2.F 1 10)) (by decide +kernel) (by decide +kernel) (hp1 _) (by decide) rfl (eI_of _) rfl ?_
          refine Ru.putH (pc' := 108) (i := 64) (ci := 3) (k := 2) (nn := 0) (z := 0) (by decide +kernel) (by decide +kernel) (hp13 _) (by decide) (Nat.le_of_ble_eq_true rfl) rfl (by decide +kernel) (pf_13_2 _ _) rfl ?_
          refine Ru.op (q := (.aload_n 0, 1)) (S' := (109, _, _, _, _)) (by decide +kernel) rfl ?_
          refine Ru.getR (pc' := 112) (i := 12) (ci := 0) (k := 0) (nn := 0) (z := 0) (v := .ref 1) (by decide +kernel) (by decide +kernel) (hp0 _) (by decide) rfl rfl ?_
          refine Ru.kI (q := (.iconst 0, 1)) (c := 0) (pc' := 113) (by decide +kernel) rfl (by decide) rfl ?_
          refine Ru.putH (pc' := 116) (i := 54) (ci := 1) (k := 1) (nn := 0) (z := 0) (by decide +kernel) (by decide +kernel) (hp1 _) (by decide) (Nat.le_of_ble_eq_true rfl) rfl (by decide +kernel) (pf_1_1 _ _) rfl ?_
          refine Ru.op (q := (.aload_n 0, 1)) (S' := (117, _, _, _, _)) (by decide +kernel) rfl ?_
          refine Ru.kI (q := (.iconst (-1), 1)) (c := (-1)) (pc' := 118) (by decide +kernel) rfl (by decide) rfl ?_
          refine Ru.putH (pc' := 121) (i := 43) (ci := 0) (k := 6) (nn := 0) (z := 0) (by decide +kernel) (by decide +kernel) (hp0 _) (by decide) (Nat.le_of_ble_eq_true rfl) rfl (by decide +kernel) (pf_0_6 _ _) rfl ?_
          refine Ru.op (q := (.aload_n 0, 1)) (S' := (122, _, _, _, _)) (by decide +kernel) rfl ?_
          refine Ru.getR (pc' := 125) (i := 19) (ci := 0) (k := 1) (nn := 0) (z := 0) (v := .ref 13) (by decide +kernel) (by decide +kernel) (hp0 _) (by decide) rfl rfl ?_
          refine Ru.op (q := (.aload_n 0, 1)) (S' := (126, _, _, _, _)) (by decide +kernel) rfl ?_
          refine Ru.getR (pc' := 129) (i := 12) (ci := 0) (k := 0) (nn := 0) (z := 0) (v := .ref 1) (by decide +kernel) (by decide +kernel) (hp0 _) (by decide) rfl rfl ?_
          refine Ru.getR (pc' := 132) (i := 74) (ci := 1) (k := 2) (nn := 0) (z := 0) (v := .ref 3) (by decide +kernel) (by decide +kernel) (hp1 _) (by decide) rfl rfl ?_
          refine Ru.op (q := (.iload_n 2, 1)) (S' := (133, _, _, _, _)) (by decide +kernel) rfl ?_
          obtain ⟨o9, e10, h⟩ := ob_some h
          refine Ru.vcallI (pc' := 136) (st' := [vI o9.1]) (i := 91) (j2 := 39) (ci := 3) (k := 0) (z := 0) (as := [.ref 3, vI o1.1]) (by decide +kernel) (by decide +kernel) rfl rfl (hp13 _) (by decide) ⟨(Nat.le_of_ble_eq_true rfl), (by show 19 + 5 ≤ 6545; exact Nat.le_of_ble_eq_true rfl), Nat.le_of_ble_eq_true rfl, Nat.le_of_ble_eq_true rfl⟩ ((g39_ok e10).up (Nat.le_of_ble_eq_true rfl) (Nat.le_of_ble_eq_true rfl)) rfl rfl ?_
          cases h
          exact Ru.iret (by decide +kernel) rfl rfl
set_option maxRecDepth 100000 in
set_option maxHeartbeats 4000000 in
theorem g62L4_ok {S : St} {v1 : Int} : ∀ (n : Nat) (v2 : Int) (v3 : Int) (_ : DD []) (out : Int), g62L4 S v1 n v2 v3 = some out → ∀ r, (∀ (e0 e1 e3 : Option Value), DD [e0, e1, e3] → Ru none 10 200 62 (68, [e0, e1, some (vI out), e3], [], S.ns, Hp S) r) → Ru none 10 200 62 (4, [some (.ref 13), some (vI v1), some (vI v2), some (vI v3)], [], S.ns, Hp S) r := by
  intro n
  induction n with
  | zero => intro v2 v3 hdd out h; cases h
  | succ n ih =>
    intro v2 v3 hdd out h r hk
    unfold g62L4 at h
    refine Ru.op (q := (.iload_n 3, 1)) (S' := (5, _, _, _, _)) (by decide +kernel) rfl ?_
    refine Ru.op (q := (.aload_n 0, 1)) (S' := (6, _, _, _, _)) (by decide +kernel) rfl ?_
    refine Ru.getI (pc' := 9) (i := 57) (ci := 3) (k := 1) (nn := 0) (z := 0) (x := (S.F 13 1)) (by decide +kernel) (by decide +kernel) (hp13 _) (by decide) rfl (eI_of _) rfl ?_
    obtain ⟨g1, h⟩ := gd_some h
    by_cases b2 : v3 < (S.F 13 1)
    · replace h := if_t b2 h
      refine Ru.br2 (k := .ge) (off := 59) (bb := false) (tg := 12) (by decide +kernel) (by decide +kernel) (ci_ge0 g1 (inR_to _) b2) rfl ?_
      refine Ru.op (q := (.aload_n 0, 1)) (S' := (13, _, _, _, _)) (by decide +kernel) rfl ?_
      refine Ru.getR (pc' := 16) (i := 11) (ci := 3) (k := 0) (nn := 0) (z := 0) (v := .ref 14) (by decide +kernel) (by decide +kernel) (hp13 _) (by decide) rfl rfl ?_
      refine Ru.op (q := (.iload_n 3, 1)) (S' := (17, _, _, _, _)) (by decide +kernel) rfl ?_
      obtain ⟨g3, h⟩ := gd_some h
      obtain ⟨c4, e5, h⟩ := ob_some h
      refine Ru.aldI (pc' := 18) (i := v3) (b := c4) (by decide +kernel) (hp14 _) (by decide) g3 e5 rfl ?_
      obtain ⟨c6, n7, n8, n9, n10, n11, n12, e13, q14, h⟩ := gK_some h
      refine Ru.getR (pc' := 21) (i := 60) (ci := 9) (k := 1) (nn := 0) (z := 0) (v := vI n7) (by decide +kernel) (by decide +kernel) q14 (by decide) rfl rfl ?_
      by_cases b15 : n7 = 0
      · replace h := if_t b15 h
        refine Ru.br (k := .ne) (off := 41) (bb := false) (tg := 24) (by decide +kernel) (by decide +kernel) (cz (ci_ne0 e13.1 (by decide) b15)) rfl ?_
        refine Ru.op (q := (.iload_n 2, 1)) (S' := (25, _, _, _, _)) (by decide +kernel) rfl ?_
        refine Ru.kI (q := (.iconst (-1), 1)) (c := (-1)) (pc' := 26) (by decide +kernel) rfl (by decide) rfl ?_
        obtain ⟨g16, h⟩ := gd_some h
        by_cases b17 : v2 = (-1)
        · replace h := if_t b17 h
          refine Ru.br2 (k := .eq) (off := 34) (bb := true) (tg := 60) (by decide +kernel) (by decide +kernel) (ci_eq1 g16 (by decide) b17) rfl ?_
          refine Ru.op (q := (.iload_n 3, 1)) (S' := (61, _, _, _, _)) (by decide +kernel) rfl ?_
          refine Ru.op (q := (.istore_n 2, 1)) (S' := (62, [some (.ref 13), some (vI v1), some (vI v3), some (vI v3)], [], _, _)) (by decide +kernel) rfl ?_
          refine Ru.inc (k := 3) (n := 1) (x := v3) (z := (v3 + 1)) (xs' := [some (.ref 13), some (vI v1), some (vI v3), some (vI (v3 + 1))]) (pc' := 65) (by decide +kernel) rfl rfl rfl rfl ?_
          refine Ru.op (q := (.goto (-61), 3)) (S' := (4, _, _, _, _)) (by decide +kernel) rfl ?_
          exact ih _ _ trivial _ h r hk
        · replace h := if_f b17 h
          refine Ru.br2 (k := .eq) (off := 34) (bb := false) (tg := 29) (by decide +kernel) (by decide +kernel) (ci_eq0 g16 (by decide) b17) rfl ?_
          refine Ru.op (q := (.iload_n 1, 1)) (S' := (30, _, _, _, _)) (by decide +kernel) rfl ?_
          obtain ⟨g18, h⟩ := gd_some h
          by_cases b19 : v1 = 0
          · replace h := if_t b19 h
            refine Ru.br (k := .ne) (off := 32) (bb := false) (tg := 33) (by decide +kernel) (by decide +kernel) (cz (ci_ne0 g18 (by decide) b19)) rfl ?_
            refine Ru.op (q := (.aload_n 0, 1)) (S' := (34, _, _, _, _)) (by decide +kernel) rfl ?_
            refine Ru.getR (pc' := 37) (i := 11) (ci := 3) (k := 0) (nn := 0) (z := 0) (v := .ref 14) (by decide +kernel) (by decide +kernel) (hp13 _) (by decide) rfl rfl ?_
            refine Ru.op (q := (.iload_n 3, 1)) (S' := (38, _, _, _, _)) (by decide +kernel) rfl ?_
            refine Ru.aldI (pc' := 39) (i := v3) (b := c4) (by decide +kernel) (hp14 _) (by decide) g3 e5 rfl ?_
            refine Ru.getR (pc' := 42) (i := 109) (ci := 9) (k := 0) (nn := 0) (z := 0) (v := .ref c6) (by decide +kernel) (by decide +kernel) q14 (by decide) rfl rfl ?_
            obtain ⟨c20, c21, n22, n23, e24, q25, h⟩ := gC_some h
            refine Ru.getR (pc' := 45) (i := 141) (ci := 5) (k := 3) (nn := 0) (z := 0) (v := vI n23) (by decide +kernel) (by decide +kernel) q25 (by decide) rfl rfl ?_
            refine Ru.op (q := (.aload_n 0, 1)) (S' := (46, _, _, _, _)) (by decide +kernel) rfl ?_
            refine Ru.getR (pc' := 49) (i := 11) (ci := 3) (k := 0) (nn := 0) (z := 0) (v := .ref 14) (by decide +kernel) (by decide +kernel) (hp13 _) (by decide) rfl rfl ?_
            refine Ru.op (q := (.iload_n 2, 1)) (S' := (50, _, _, _, _)) (by decide +kernel) rfl ?_
            obtain ⟨g26, h⟩ := gd_some h
            obtain ⟨c27, e28, h⟩ := ob_some h
            refine Ru.aldI (pc' := 51) (i := v2) (b := c27) (by decide +kernel) (hp14 _) (by decide) g26 e28 rfl ?_
            obtain ⟨c29, n30, n31, n32, n33, n34, n35, e36, q37, h⟩ := gK_some h
            refine Ru.getR (pc' := 54) (i := 109) (ci := 9) (k := 0) (nn := 0) (z := 0) (v := .ref c29) (by decide +kernel) (by decide +kernel) q37 (by decide) rfl rfl ?_
            obtain ⟨c38, c39, n40, n41, e42, q43, h⟩ := gC_some h
            refine Ru.getR (pc' := 57) (i := 141) (ci := 5) (k := 3) (nn := 0) (z := 0) (v := vI n41) (by decide +kernel) (by decide +kernel) q43 (by decide) rfl rfl ?_
            by_cases b44 : n23 < n41
            · replace h := if_t b44 h
              refine Ru.br2 (k := .ge) (off := 5) (bb := false) (tg := 60) (by decide +kernel) (by decide +kernel) (ci_ge0 e24.2 e42.2 b44) rfl ?_
              refine Ru.op (q := (.iload_n 3, 1)) (S' := (61, _, _, _, _)) (by decide +kernel) rfl ?_
              refine Ru.op (q := (.istore_n 2, 1)) (S' := (62, [some (.ref 13), some (vI v1), some (vI v3), some (vI v3)], [], _, _)) (by decide +kernel) rfl ?_
              refine Ru.inc (k := 3) (n := 1) (x := v3) (z := (v3 + 1)) (xs' := [some (.ref 13), some (vI v1), some (vI v3), some (vI (v3 + 1))]) (pc' := 65) (by decide +kernel) rfl rfl rfl rfl ?_
              refine Ru.op (q := (.goto (-61), 3)) (S' := (4, _, _, _, _)) (by decide +kernel) rfl ?_
              exact ih _ _ trivial _ h r hk
            · replace h := if_f b44 h
              refine Ru.br2 (k := .ge) (off := 5) (bb := true) (tg := 62) (by decide +kernel) (by decide +kernel) (ci_ge1 e24.2 e42.2 b44) rfl ?_
              refine Ru.inc (k := 3) (n := 1) (x := v3) (z := (v3 + 1)) (xs' := [some (.ref 13), some (vI v1), some (vI v2), some (vI (v3 + 1))]) (pc' := 65) (by decide +kernel) rfl rfl rfl rfl ?_
              refine Ru.op (q := (.goto (-61), 3)) (S' := (4, _, _, _, _)) (by decide +kernel) rfl ?_
              exact ih _ _ trivial _ h r hk
          · replace h := if_f b19 h
            refine Ru.br (k := .ne) (off := 32) (bb := true) (tg := 62) (by decide +kernel) (by decide +kernel) (cz (ci_ne1 g18 (by decide) b19)) rfl ?_
            refine Ru.inc (k := 3) (n := 1) (x := v3) (z := (v3 + 1)) (xs' := [some (.ref 13), some (vI v1), some (vI v2), some (vI (v3 + 1))]) (pc' := 65) (by decide +kernel) rfl rfl rfl rfl ?_
            refine Ru.op (q := (.goto (-61), 3)) (S' := (4, _, _, _, _)) (by decide +kernel) rfl ?_
            exact ih _ _ trivial _ h r hk
      · replace h := if_f b15 h
        refine Ru.br (k := .ne) (off := 41) (bb := true) (tg := 62) (by decide +kernel) (by decide +kernel) (cz (ci_ne1 e13.1 (by decide) b15)) rfl ?_
        refine Ru.inc (k := 3) (n := 1) (x := v3) (z := (v3 + 1)) (xs' := [some (.ref 13), some (vI v1), some (vI v2), some (vI (v3 + 1))]) (pc' := 65) (by decide +kernel) rfl rfl rfl rfl ?_
        refine Ru.op (q := (.goto (-61), 3)) (S' := (4, _, _, _, _)) (by decide +kernel) rfl ?_
        exact ih _ _ trivial _ h r hk
    · replace h := if_f b2 h
      refine Ru.br2 (k := .ge) (off := 59) (bb := true) (tg := 68) (by decide +kernel) (by decide +kernel) (ci_ge1 g1 (inR_to _) b2) rfl ?_
      cases h
      exact hk _ _ _ ⟨rfl, rfl, rfl, trivial⟩
set_option maxRecDepth 100000 in
set_option maxHeartbeats 4000000 in
theorem g62_ok {S : St} {v1 : Int} {o : Int} (h : g62 S v1 = some o) : Ru none 10 200 62 (0, mn_pad (mn_ent [.ref 13, vI v1]) 4, [], S.ns, Hp S) ((0, some (vI o)), S.ns, Hp S) := by
  unfold g62 at h
  show Ru none 10 200 62 (0, [some (.ref 13), some (vI v1), none, none], [], S.ns, Hp S) _
  refine Ru.kI (q := (.iconst (-1), 1)) (c := (-1)) (pc' := 1) (by decide +kernel) rfl (by decide) rfl ?_
  refine Ru.op (q := (.istore_n 2, 1)) (S' := (2, [some (.ref 13), some (vI v1), some (vI (-1)), none], [], _, _)) (by decide +kernel) rfl ?_
  refine Ru.kI (q := (.iconst 0, 1)) (c := 0) (pc' := 3) (by decide +kernel) rfl (by decide) rfl ?_
  refine Ru.op (q := (.istore_n 3, 1)) (S' := (4, [some (.ref 13), some (vI v1), some (vI (-1)), some (vI 0)], [], _, _)) (by decide +kernel) rfl ?_
  obtain ⟨o45, e49, h⟩ := ob_some h
  refine g62L4_ok FU _ _ trivial _ e49 _ ?_
  intro d46 d47 d48 hd50
  refine Ru.op (q := (.iload_n 2, 1)) (S' := (69, _, _, _, _)) (by decide +kernel) rfl ?_
  cases h
  exact Ru.iret (by decide +kernel) rfl rfl
set_option maxRecDepth 100000 in
set_option maxHeartbeats 4000000 in
theorem g63L2_ok {v1 : Int} : ∀ (n : Nat) (v2 : Int) (S : St) (_ : DD []) (out : Sum (St) (Int × St)), g63L2 v1 n v2 S = some out → ∀ r, (∀ o, out = .inl o → ∀ (e0 e1 e2 : Option Value), DD [e0, e1, e2] → Ru none 13 278 63 (59, [e0, e1, e2], [], o.ns, Hp o) r) → (∀ o, out = .inr o → r = ((0, some (vI o.1)), o.2.ns, Hp o.2)) → Ru none 13 278 63 (2, [some (.ref 13), some (vI v1), some (vI v2)], [], S.ns, Hp S) r := by
  intro n
  induction n with
  | zero => intro v2 S hdd out h; cases h
  | succ n ih =>
    intro v2 S hdd out h r hk hr
    unfold g63L2 at h
    refine Ru.op (q := (.iload_n 2, 1)) (S' := (3, _, _, _, _)) (by decide +kernel) rfl ?_
    refine Ru.op (q := (.aload_n 0, 1)) (S' := (4, _, _, _, _)) (by decide +kernel) rfl ?_
    refine Ru.getI (pc' := 7) (i := 57) (ci := 3) (k := 1) (nn := 0) (z := 0) (x := (S.F 13 1)) (by decide +kernel) (by decide +kernel) (hp13 _) (by decide) rfl (eI_of _) rfl ?_
    obtain ⟨g32, h⟩ := gd_some h
    by_cases b33 : v2 < (S.F 13 1)
    · replace h := if_t b33 h
      refine Ru.br2 (k := .ge) (off := 52) (bb := false) (tg := 10) (by decide +kernel) (by decide +kernel) (ci_ge0 g32 (inR_to _) b33) rfl ?_
      refine Ru.op (q := (.aload_n 0, 1)) (S' := (11, _, _, _, _)) (by decide +kernel) rfl ?_
      refine Ru.getR (pc' := 14) (i := 11) (ci := 3) (k := 0) (nn := 0) (z := 0) (v := .ref 14) (by decide +kernel) (by decide +kernel) (hp13 _) (by decide) rfl rfl ?_
      refine Ru.op (q := (.iload_n 2, 1)) (S' := (15, _, _, _, _)) (by decide +kernel) rfl ?_
      obtain ⟨g34, h⟩ := gd_some h
      obtain ⟨c35, e36, h⟩ := ob_some h
      refine Ru.aldI (pc' := 16) (i := v2) (b := c35) (by decide +kernel) (hp14 _) (by decide) g34 e36 rfl ?_
      obtain ⟨c37, n38, n39, n40, n41, n42, n43, e44, q45, h⟩ := gK_some h
      refine Ru.getR (pc' := 19) (i := 60) (ci := 9) (k := 1) (nn := 0) (z := 0) (v := vI n38) (by decide +kernel) (by decide +kernel) q45 (by decide) rfl rfl ?_
      refine Ru.kI (q := (.iconst 1, 1)) (c := 1) (pc' := 20) (by decide +kernel) rfl (by decide) rfl ?_
      by_cases b46 : n38 = 1
      · replace h := if_t b46 h
        refine Ru.br2 (k := .ne) (off := 33) (bb := false) (tg := 23) (by decide +kernel) (by decide +kernel) (ci_ne0 e44.1 (by decide) b46) rfl ?_
        refine Ru.op (q := (.aload_n 0, 1)) (S' := (24, _, _, _, _)) (by decide +kernel) rfl ?_
        refine Ru.getR (pc' := 27) (i := 38) (ci := 3) (k := 11) (nn := 0) (z := 0) (v := .ref 23) (by decide +kernel) (by decide +kernel) (hp13 _) (by decide) rfl rfl ?_
        refine Ru.op (q := (.aload_n 0, 1)) (S' := (28, _, _, _, _)) (by decide +kernel) rfl ?_
        refine Ru.getR (pc' := 31) (i := 11) (ci := 3) (k := 0) (nn := 0) (z := 0) (v := .ref 14) (by decide +kernel) (by decide +kernel) (hp13 _) (by decide) rfl rfl ?_
        refine Ru.op (q := (.iload_n 2, 1)) (S' := (32, _, _, _, _)) (by decide +kernel) rfl ?_
        refine Ru.aldI (pc' := 33) (i := v2) (b := c35) (by decide +kernel) (hp14 _) (by decide) g34 e36 rfl ?_
        refine Ru.getR (pc' := 36) (i := 109) (ci := 9) (k := 0) (nn := 0) (z := 0) (v := .ref c37) (by decide +kernel) (by decide +kernel) q45 (by decide) rfl rfl ?_
        refine Ru.op (q := (.aload_n 0, 1)) (S' := (37, _, _, _, _)) (by decide +kernel) rfl ?_
        refine Ru.getR (pc' := 40) (i := 11) (ci := 3) (k := 0) (nn := 0) (z := 0) (v := .ref 14) (by decide +kernel) (by decide +kernel) (hp13 _) (by decide) rfl rfl ?_
        refine Ru.op (q := (.iload_n 1, 1)) (S' := (41, _, _, _, _)) (by decide +kernel) rfl ?_
        obtain ⟨g47, h⟩ := gd_some h
        obtain ⟨c48, e49, h⟩ := ob_some h
        refine Ru.aldI (pc' := 42) (i := v1) (b := c48) (by decide +kernel) (hp14 _) (by decide) g47 e49 rfl ?_
        obtain ⟨c50, n51, n52, n53, n54, n55, n56, e57, q58, h⟩ := gK_some h
        refine Ru.getR (pc' := 45) (i := 109) (ci := 9) (k := 0) (nn := 0) (z := 0) (v := .ref c50) (by decide +kernel) (by decide +kernel) q58 (by decide) rfl rfl ?_
        obtain ⟨o59, e60, h⟩ := ob_some h
        refine Ru.vcallI (pc' := 48) (st' := [vI o59.1]) (i := 112) (j2 := 54) (ci := 7) (k := 0) (z := 0) (as := [.ref c37, .ref c50]) (by decide +kernel) (by decide +kernel) rfl rfl (hp23 _) (by decide) ⟨(Nat.le_of_ble_eq_true rfl), (by show 19 + 5 ≤ 278; exact Nat.le_of_ble_eq_true rfl), Nat.le_of_ble_eq_true rfl, Nat.le_of_ble_eq_true rfl⟩ ((g54_ok e60).up (Nat.le_of_ble_eq_true rfl) (Nat.le_of_ble_eq_true rfl)) rfl rfl ?_
        obtain ⟨g61, h⟩ := gd_some h
        by_cases b62 : o59.1 = 0
        · replace h := if_t b62 h
          refine Ru.br (k := .eq) (off := 5) (bb := true) (tg := 53) (by decide +kernel) (by decide +kernel) (cz (ci_eq1 g61 (by decide) b62)) rfl ?_
          refine Ru.inc (k := 2) (n := 1) (x := v2) (z := (v2 + 1)) (xs' := [some (.ref 13), some (vI v1), some (vI (v2 + 1))]) (pc' := 56) (by decide +kernel) rfl rfl rfl rfl ?_
          refine Ru.op (q := (.goto (-54), 3)) (S' := (2, _, _, _, _)) (by decide +kernel) rfl ?_
          exact ih _ _ trivial _ h r hk hr
        · replace h := if_f b62 h
          refine Ru.br (k := .eq) (off := 5) (bb := false) (tg := 51) (by decide +kernel) (by decide +kernel) (cz (ci_eq0 g61 (by decide) b62)) rfl ?_
          refine Ru.kI (q := (.iconst 1, 1)) (c := 1) (pc' := 52) (by decide +kernel) rfl (by decide) rfl ?_
          cases h
          have h9 := hr _ rfl
          subst h9
          exact Ru.iret (by decide +kernel) rfl (nar_b1 (by decide))
      · replace h := if_f b46 h
        refine Ru.br2 (k := .ne) (off := 33) (bb := true) (tg := 53) (by decide +kernel) (by decide +kernel) (ci_ne1 e44.1 (by decide) b46) rfl ?_
        refine Ru.inc (k := 2) (n := 1) (x := v2) (z := (v2 + 1)) (xs' := [some (.ref 13), some (vI v1), some (vI (v2 + 1))]) (pc' := 56) (by decide +kernel) rfl rfl rfl rfl ?_
        refine Ru.op (q := (.goto (-54), 3)) (S' := (2, _, _, _, _)) (by decide +kernel) rfl ?_
        exact ih _ _ trivial _ h r hk hr
    · replace h := if_f b33 h
      refine Ru.br2 (k := .ge) (off := 52) (bb := true) (tg := 59) (by decide +kernel) (by decide +kernel) (ci_ge1 g32 (inR_to _) b33) rfl ?_
      cases h
      exact hk _ rfl _ _ _ ⟨rfl, rfl, rfl, trivial⟩
set_option maxRecDepth 100000 in
set_option maxHeartbeats 4000000 in
theorem g63_ok {S : St} {v1 : Int} {o : Int × St} (h : g63 S v1 = some o) : Ru none 13 278 63 (0, mn_pad (mn_ent [.ref 13, vI v1]) 3, [], S.ns, Hp S) ((0, some (vI o.1)), o.2.ns, Hp o.2) := by
  unfold g63 at h
  show Ru none 13 278 63 (0, [some (.ref 13), some (vI v1), none], [], S.ns, Hp S) _
  refine Ru.kI (q := (.iconst 0, 1)) (c := 0) (pc' := 1) (by decide +kernel) rfl (by decide) rfl ?_
  refine Ru.op (q := (.istore_n 2, 1)) (S' := (2, [some (.ref 13), some (vI v1), some (vI 0)], [], _, _)) (by decide +kernel) rfl ?_
  rcases obr_some h with ⟨o63, e67, h⟩ | e67
  · refine g63L2_ok FU _ _ trivial _ e67 _ (fun o' e' => ?_) (fun o' e' => by cases e')
    cases e'
    intro d64 d65 d66 hd68
    refine Ru.kI (q := (.iconst 0, 1)) (c := 0) (pc' := 60) (by decide +kernel) rfl (by decide) rfl ?_
    cases h
    exact Ru.iret (by decide +kernel) rfl (nar_b1 (by decide))
  · exact g63L2_ok FU _ _ trivial _ e67 _ (fun o' e' => by cases e') (fun o' e' => by cases e'; rfl)
set_option maxRecDepth 100000 in
set_option maxHeartbeats 4000000 in
theorem g64L2_ok {v1 : Int} : ∀ (n : Nat) (v2 : Int) (S : St) (_ : DD []) (out : St), g64L2 v1 n v2 S = some out → ∀ r, (∀ (e0 e1 e2 : Option Value), DD [e0, e1, e2] → Ru none 13 278 64 (67, [e0, e1, e2], [], out.ns, Hp out) r) → Ru none 13 278 64 (2, [some (.ref 13), some (vI v1), some (vI v2)], [], S.ns, Hp S) r := by
  intro n
  induction n with
  | zero => intro v2 S hdd out h; cases h
  | succ n ih =>
    intro v2 S hdd out h r hk
    unfold g64L2 at h
    refine Ru.op (q := (.iload_n 2, 1)) (S' := (3, _, _, _, _)) (by decide +kernel) rfl ?_
    refine Ru.op (q := (.aload_n 0, 1)) (S' := (4, _, _, _, _)) (by decide +kernel) rfl ?_
    refine Ru.getI (pc' := 7) (i := 57) (ci := 3) (k := 1) (nn := 0) (z := 0) (x := (S.F 13 1)) (by decide +kernel) (by decide +kernel) (hp13 _) (by decide) rfl (eI_of _) rfl ?_
    obtain ⟨g1, h⟩ := gd_some h
    by_cases b2 : v2 < (S.F 13 1)
    · replace h := if_t b2 h
      refine Ru.br2 (k := .ge) (off := 60) (bb := false) (tg := 10) (by decide +kernel) (by decide +kernel) (ci_ge0 g1 (inR_to _) b2) rfl ?_
      refine Ru.op (q := (.aload_n 0, 1)) (S' := (11, _, _, _, _)) (by decide +kernel) rfl ?_
      refine Ru.getR (pc' := 14) (i := 11) (ci := 3) (k := 0) (nn := 0) (z := 0) (v := .ref 14) (by decide +kernel) (by decide +kernel) (hp13 _) (by decide) rfl rfl ?_
      refine Ru.op (q := (.iload_n 2, 1)) (S' := (15, _, _, _, _)) (by decide +kernel) rfl ?_
      obtain ⟨g3, h⟩ := gd_some h
      obtain ⟨c4, e5, h⟩ := ob_some h
      refine Ru.aldI (pc' := 16) (i := v2) (b := c4) (by decide +kernel) (hp14 _) (by decide) g3 e5 rfl ?_
      obtain ⟨c6, n7, n8, n9, n10, n11, n12, e13, q14, h⟩ := gK_some h
      refine Ru.getR (pc' := 19) (i := 60) (ci := 9) (k := 1) (nn := 0) (z := 0) (v := vI n7) (by decide +kernel) (by decide +kernel) q14 (by decide) rfl rfl ?_
      refine Ru.kI (q := (.iconst 1, 1)) (c := 1) (pc' := 20) (by decide +kernel) rfl (by decide) rfl ?_
      by_cases b15 : n7 = 1
      · replace h := if_t b15 h
        refine Ru.br2 (k := .ne) (off := 41) (bb := false) (tg := 23) (by decide +kernel) (by decide +kernel) (ci_ne0 e13.1 (by decide) b15) rfl ?_
        refine Ru.op (q := (.aload_n 0, 1)) (S' := (24, _, _, _, _)) (by decide +kernel) rfl ?_
        refine Ru.getR (pc' := 27) (i := 38) (ci := 3) (k := 11) (nn := 0) (z := 0) (v := .ref 23) (by decide +kernel) (by decide +kernel) (hp13 _) (by decide) rfl rfl ?_
        refine Ru.op (q := (.aload_n 0, 1)) (S' := (28, _, _, _, _)) (by decide +kernel) rfl ?_
        refine Ru.getR (pc' := 31) (i := 11) (ci := 3) (k := 0) (nn := 0) (z := 0) (v := .ref 14) (by decide +kernel) (by decide +kernel) (hp13 _) (by decide) rfl rfl ?_
        refine Ru.op (q := (.iload_n 1, 1)) (S' := (32, _, _, _, _)) (by decide +kernel) rfl ?_
        obtain ⟨g16, h⟩ := gd_some h
        obtain ⟨c17, e18, h⟩ := ob_some h
        refine Ru.aldI (pc' := 33) (i := v1) (b := c17) (by decide +kernel) (hp14 _) (by decide) g16 e18 rfl ?_
        obtain ⟨c19, n20, n21, n22, n23, n24, n25, e26, q27, h⟩ := gK_some h
        refine Ru.getR (pc' := 36) (i := 109) (ci := 9) (k := 0) (nn := 0) (z := 0) (v := .ref c19) (by decide +kernel) (by decide +kernel) q27 (by decide) rfl rfl ?_
        refine Ru.op (q := (.aload_n 0, 1)) (S' := (37, _, _, _, _)) (by decide +kernel) rfl ?_
        refine Ru.getR (pc' := 40) (i := 11) (ci := 3) (k := 0) (nn := 0) (z := 0) (v := .ref 14) (by decide +kernel) (by decide +kernel) (hp13 _) (by decide) rfl rfl ?_
        refine Ru.op (q := (.iload_n 2, 1)) (S' := (41, _, _, _, _)) (by decide +kernel) rfl ?_
        refine Ru.aldI (pc' := 42) (i := v2) (b := c4) (by decide +kernel) (hp14 _) (by decide) g3 e5 rfl ?_
        refine Ru.getR (pc' := 45) (i := 109) (ci := 9) (k := 0) (nn := 0) (z := 0) (v := .ref c6) (by decide +kernel) (by decide +kernel) q14 (by decide) rfl rfl ?_
        obtain ⟨o28, e29, h⟩ := ob_some h
        refine Ru.vcallI (pc' := 48) (st' := [vI o28.1]) (i := 112) (j2 := 54) (ci := 7) (k := 0) (z := 0) (as := [.ref c19, .ref c6]) (by decide +kernel) (by decide +kernel) rfl rfl (hp23 _) (by decide) ⟨(Nat.le_of_ble_eq_true rfl), (by show 19 + 5 ≤ 278; exact Nat.le_of_ble_eq_true rfl), Nat.le_of_ble_eq_true rfl, Nat.le_of_ble_eq_true rfl⟩ ((g54_ok e29).up (Nat.le_of_ble_eq_true rfl) (Nat.le_of_ble_eq_true rfl)) rfl rfl ?_
        obtain ⟨g30, h⟩ := gd_some h
        by_cases b31 : o28.1 = 0
        · replace h := if_t b31 h
          refine Ru.br (k := .eq) (off := 13) (bb := true) (tg := 61) (by decide +kernel) (by decide +kernel) (cz (ci_eq1 g30 (by decide) b31)) rfl ?_
          refine Ru.inc (k := 2) (n := 1) (x := v2) (z := (v2 + 1)) (xs' := [some (.ref 13), some (vI v1), some (vI (v2 + 1))]) (pc' := 64) (by decide +kernel) rfl rfl rfl rfl ?_
          refine Ru.op (q := (.goto (-62), 3)) (S' := (2, _, _, _, _)) (by decide +kernel) rfl ?_
          exact ih _ _ trivial _ h r hk
        · replace h := if_f b31 h
          refine Ru.br (k := .eq) (off := 13) (bb := false) (tg := 51) (by decide +kernel) (by decide +kernel) (cz (ci_eq0 g30 (by decide) b31)) rfl ?_
          refine Ru.op (q := (.aload_n 0, 1)) (S' := (52, _, _, _, _)) (by decide +kernel) rfl ?_
          refine Ru.getR (pc' := 55) (i := 11) (ci := 3) (k := 0) (nn := 0) (z := 0) (v := .ref 14) (by decide +kernel) (by decide +kernel) (hp13 _) (by decide) rfl rfl ?_
          refine Ru.op (q := (.iload_n 2, 1)) (S' := (56, _, _, _, _)) (by decide +kernel) rfl ?_
          obtain ⟨c32, e33, h⟩ := ob_some h
          refine Ru.aldI (pc' := 57) (i := v2) (b := c32) (by decide +kernel) (hp14 _) (by decide) g3 e33 rfl ?_
          refine Ru.kI (q := (.iconst 2, 1)) (c := 2) (pc' := 58) (by decide +kernel) rfl (by decide) rfl ?_
          obtain ⟨c34, n35, n36, n37, n38, n39, n40, e41, q42, h⟩ := gK_some h
          obtain ⟨g43, h⟩ := gd_some h
          refine Ru.putH (pc' := 61) (i := 60) (ci := 9) (k := 1) (nn := 0) (z := 0) (by decide +kernel) (by decide +kernel) q42 (by decide) (Nat.le_of_ble_eq_true rfl) rfl (by decide +kernel) (pt_ok g43 (x := .ob 9 [c34] [eI 2, eI n36, eI n37, eI n38, eI n39, eI n40])) rfl ?_
          refine Ru.inc (k := 2) (n := 1) (x := v2) (z := (v2 + 1)) (xs' := [some (.ref 13), some (vI v1), some (vI (v2 + 1))]) (pc' := 64) (by decide +kernel) rfl rfl rfl rfl ?_
          refine Ru.op (q := (.goto (-62), 3)) (S' := (2, _, _, _, _)) (by decide +kernel) rfl ?_
          exact ih _ _ trivial _ h r hk
      · replace h := if_f b15 h
        refine Ru.br2 (k := .ne) (off := 41) (bb := true) (tg := 61) (by decide +kernel) (by decide +kernel) (ci_ne1 e13.1 (by decide) b15) rfl ?_
        refine Ru.inc (k := 2) (n := 1) (x := v2) (z := (v2 + 1)) (xs' := [some (.ref 13), some (vI v1), some (vI (v2 + 1))]) (pc' := 64) (by decide +kernel) rfl rfl rfl rfl ?_
        refine Ru.op (q := (.goto (-62), 3)) (S' := (2, _, _, _, _)) (by decide +kernel) rfl ?_
        exact ih _ _ trivial _ h r hk
    · replace h := if_f b2 h
      refine Ru.br2 (k := .ge) (off := 60) (bb := true) (tg := 67) (by decide +kernel) (by decide +kernel) (ci_ge1 g1 (inR_to _) b2) rfl ?_
      cases h
      exact hk _ _ _ ⟨rfl, rfl, rfl, trivial⟩
set_option maxRecDepth 100000 in
set_option maxHeartbeats 4000000 in
theorem g64_ok {S : St} {v1 : Int} {o : St} (h : g64 S v1 = some o) : Ru none 13 278 64 (0, mn_pad (mn_ent [.ref 13, vI v1]) 3, [], S.ns, Hp S) ((0, none), o.ns, Hp o) := by
  unfold g64 at h
  show Ru none 13 278 64 (0, [some (.ref 13), some (vI v1), none], [], S.ns, Hp S) _
  refine Ru.kI (q := (.iconst 0, 1)) (c := 0) (pc' := 1) (by decide +kernel) rfl (by decide) rfl ?_
  refine Ru.op (q := (.istore_n 2, 1)) (S' := (2, [some (.ref 13), some (vI v1), some (vI 0)], [], _, _)) (by decide +kernel) rfl ?_
  obtain ⟨o44, e48, h⟩ := ob_some h
  refine g64L2_ok FU _ _ trivial _ e48 _ ?_
  intro d45 d46 d47 hd49
  cases h
  exact Ru.end (q := (.return_, 1)) (by decide +kernel) rfl rfl
set_option maxRecDepth 100000 in
set_option maxHeartbeats 4000000 in
theorem g66_ok {S : St} {o : Int} (h : g66 S  = some o) : Ru none 10 200 66 (0, mn_pad (mn_ent [.ref 13]) 1, [], S.ns, Hp S) ((0, some (vI o)), S.ns, Hp S) := by
  unfold g66 at h
  show Ru none 10 200 66 (0, [some (.ref 13)], [], S.ns, Hp S) _
  refine Ru.op (q := (.aload_n 0, 1)) (S' := (1, _, _, _, _)) (by decide +kernel) rfl ?_
  refine Ru.getI (pc' := 4) (i := 46) (ci := 3) (k := 8) (nn := 0) (z := 0) (x := (S.F 13 8)) (by decide +kernel) (by decide +kernel) (hp13 _) (by decide) rfl (eI_of _) rfl ?_
  by_cases b1 : (S.F 13 8) = 0
  · replace h := if_t b1 h
    refine Ru.br (k := .ne) (off := 11) (bb := false) (tg := 7) (by decide +kernel) (by decide +kernel) (cz (ci_ne0 (inR_to _) (by decide) b1)) rfl ?_
    refine Ru.op (q := (.aload_n 0, 1)) (S' := (8, _, _, _, _)) (by decide +kernel) rfl ?_
    refine Ru.getI (pc' := 11) (i := 17) (ci := 3) (k := 7) (nn := 0) (z := 0) (x := (S.F 13 7)) (by decide +kernel) (by decide +kernel) (hp13 _) (by decide) rfl (eI_of _) rfl ?_
    refine Ru.kI (q := (.iconst (-1), 1)) (c := (-1)) (pc' := 12) (by decide +kernel) rfl (by decide) rfl ?_
    by_cases b2 : (S.F 13 7) = (-1)
    · replace h := if_t b2 h
      refine Ru.br2 (k := .eq) (off := 7) (bb := true) (tg := 19) (by decide +kernel) (by decide +kernel) (ci_eq1 (inR_to _) (by decide) b2) rfl ?_
      refine Ru.kI (q := (.iconst 0, 1)) (c := 0) (pc' := 20) (by decide +kernel) rfl (by decide) rfl ?_
      cases h
      exact Ru.iret (by decide +kernel) rfl (nar_b1 (by decide))
    · replace h := if_f b2 h
      refine Ru.br2 (k := .eq) (off := 7) (bb := false) (tg := 15) (by decide +kernel) (by decide +kernel) (ci_eq0 (inR_to _) (by decide) b2) rfl ?_
      refine Ru.kI (q := (.iconst 1, 1)) (c := 1) (pc' := 16) (by decide +kernel) rfl (by decide) rfl ?_
      refine Ru.op (q := (.goto 4, 3)) (S' := (20, _, _, _, _)) (by decide +kernel) rfl ?_
      cases h
      exact Ru.iret (by decide +kernel) rfl (nar_b1 (by decide))
  · replace h := if_f b1 h
    refine Ru.br (k := .ne) (off := 11) (bb := true) (tg := 15) (by decide +kernel) (by decide +kernel) (cz (ci_ne1 (inR_to _) (by decide) b1)) rfl ?_
    refine Ru.kI (q := (.iconst 1, 1)) (c := 1) (pc' := 16) (by decide +kernel) rfl (by decide) rfl ?_
    refine Ru.op (q := (.goto 4, 3)) (S' := (20, _, _, _, _)) (by decide +kernel) rfl ?_
    cases h
    exact Ru.iret (by decide +kernel) rfl (nar_b1 (by decide))
