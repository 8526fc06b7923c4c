set_option maxRecDepth 100000 in
set_option maxHeartbeats 4000000 in
theorem g156L18_ok {v1 : Int} : ∀ (n : Nat) (v2 : Int) (S : St) (_ : DD []) (out : St), g156L18 v1 n v2 S = some out → ∀ r, (∀ (e2 : Option Value), DD [e2] → Ru none 10 200 156 (51, [some (.ref 36), some (vI v1), e2], [], out.ns, Hp out) r) → Ru none 10 200 156 (18, [some (.ref 36), some (vI v1), some (vI v2)], [], S.ns, Hp S) r := by
  intro n
  induction n with
  | zero => intro v2 S hdd out h; cases h
  | succ n ih =>
    intro v2 S hdd out h r hk
    unfold g156L18 at h
    refine Ru.op (q := (.iload_n 2, 1)) (S' := (19, _, _, _, _)) (by decide +kernel) rfl ?_
    refine Ru.op (q := (.aload_n 0, 1)) (S' := (20, _, _, _, _)) (by decide +kernel) rfl ?_
    refine Ru.getI (pc' := 23) (i := 263) (ci := 10) (k := 9) (nn := 0) (z := 0) (x := (S.F 36 9)) (by decide +kernel) (by decide +kernel) (hp36 _) (by decide) rfl (eI_of _) rfl ?_
    obtain ⟨g2, h⟩ := gd_some h
    by_cases b3 : v2 < (S.F 36 9)
    · replace h := if_t b3 h
      refine Ru.br2 (k := .ge) (off := 28) (bb := false) (tg := 26) (by decide +kernel) (by decide +kernel) (ci_ge0 g2 (inR_to _) b3) rfl ?_
      refine Ru.op (q := (.aload_n 0, 1)) (S' := (27, _, _, _, _)) (by decide +kernel) rfl ?_
      refine Ru.getR (pc' := 30) (i := 117) (ci := 10) (k := 58) (nn := 0) (z := 0) (v := .ref 70) (by decide +kernel) (by decide +kernel) (hp36 _) (by decide) rfl rfl ?_
      refine Ru.op (q := (.iload_n 2, 1)) (S' := (31, _, _, _, _)) (by decide +kernel) rfl ?_
      refine Ru.op (q := (.iload_n 2, 1)) (S' := (32, _, _, _, _)) (by decide +kernel) rfl ?_
      refine Ru.op (q := (.aload_n 0, 1)) (S' := (33, _, _, _, _)) (by decide +kernel) rfl ?_
      refine Ru.getI (pc' := 36) (i := 42) (ci := 10) (k := 14) (nn := 0) (z := 0) (x := (S.F 36 14)) (by decide +kernel) (by decide +kernel) (hp36 _) (by decide) rfl (eI_of _) rfl ?_
      by_cases b4 : v2 = (S.F 36 14)
      · replace h := if_t b4 h
        refine Ru.br2 (k := .ne) (off := 7) (bb := false) (tg := 39) (by decide +kernel) (by decide +kernel) (ci_ne0 g2 (inR_to _) b4) rfl ?_
        refine Ru.kI (q := (.iconst 1, 1)) (c := 1) (pc' := 40) (by decide +kernel) rfl (by decide) rfl ?_
        refine Ru.op (q := (.goto 4, 3)) (S' := (44, _, _, _, _)) (by decide +kernel) rfl ?_
        obtain ⟨g5, h⟩ := gd_some h
        refine Ru.bstI (pc' := 45) (i := v2) (x := 1) (by decide +kernel) (hp70 _) g5 (by decide) (ps_70 _ _ _) rfl ?_
        refine Ru.inc (k := 2) (n := 1) (x := v2) (z := (v2 + 1)) (xs' := [some (.ref 36), some (vI v1), some (vI (v2 + 1))]) (pc' := 48) (by decide +kernel) rfl rfl rfl rfl ?_
        refine Ru.op (q := (.goto (-30), 3)) (S' := (18, _, _, _, _)) (by decide +kernel) rfl ?_
        exact ih _ _ trivial _ h r hk
      · replace h := if_f b4 h
        refine Ru.br2 (k := .ne) (off := 7) (bb := true) (tg := 43) (by decide +kernel) (by decide +kernel) (ci_ne1 g2 (inR_to _) b4) rfl ?_
        refine Ru.kI (q := (.iconst 0, 1)) (c := 0) (pc' := 44) (by decide +kernel) rfl (by decide) rfl ?_
        obtain ⟨g6, h⟩ := gd_some h
        refine Ru.bstI (pc' := 45) (i := v2) (x := 0) (by decide +kernel) (hp70 _) g6 (by decide) (ps_70 _ _ _) rfl ?_
        refine Ru.inc (k := 2) (n := 1) (x := v2) (z := (v2 + 1)) (xs' := [some (.ref 36), some (vI v1), some (vI (v2 + 1))]) (pc' := 48) (by decide +kernel) rfl rfl rfl rfl ?_
        refine Ru.op (q := (.goto (-30), 3)) (S' := (18, _, _, _, _)) (by decide +kernel) rfl ?_
        exact ih _ _ trivial _ h r hk
    · replace h := if_f b3 h
      refine Ru.br2 (k := .ge) (off := 28) (bb := true) (tg := 51) (by decide +kernel) (by decide +kernel) (ci_ge1 g2 (inR_to _) b3) rfl ?_
      cases h
      exact hk _ ⟨rfl, trivial⟩
set_option maxRecDepth 100000 in
set_option maxHeartbeats 4000000 in
theorem g156L58_ok : ∀ (n : Nat) (v1 : Int) (v2 : Int) (S : St) (_ : DD []) (out : Int × St), g156L58 n v1 v2 S = some out → ∀ r, (∀ (e0 e2 : Option Value), DD [e0, e2] → Ru none 10 200 156 (128, [e0, some (vI out.1), e2], [], out.2.ns, Hp out.2) r) → Ru none 10 200 156 (58, [some (.ref 36), some (vI v1), some (vI v2)], [], S.ns, Hp S) r := by
  intro n
  induction n with
  | zero => intro v1 v2 S hdd out h; cases h
  | succ n ih =>
    intro v1 v2 S hdd out h r hk
    unfold g156L58 at h
    refine Ru.op (q := (.iload_n 2, 1)) (S' := (59, _, _, _, _)) (by decide +kernel) rfl ?_
    obtain ⟨g11, h⟩ := gd_some h
    by_cases b12 : v2 < 0
    · replace h := if_t b12 h
      refine Ru.br (k := .lt) (off := 69) (bb := true) (tg := 128) (by decide +kernel) (by decide +kernel) (cz (ci_lt1 g11 (by decide) b12)) rfl ?_
      cases h
      exact hk _ _ ⟨rfl, rfl, trivial⟩
    · replace h := if_f b12 h
      refine Ru.br (k := .lt) (off := 69) (bb := false) (tg := 62) (by decide +kernel) (by decide +kernel) (cz (ci_lt0 g11 (by decide) b12)) rfl ?_
      refine Ru.op (q := (.aload_n 0, 1)) (S' := (63, _, _, _, _)) (by decide +kernel) rfl ?_
      refine Ru.getR (pc' := 66) (i := 117) (ci := 10) (k := 58) (nn := 0) (z := 0) (v := .ref 70) (by decide +kernel) (by decide +kernel) (hp36 _) (by decide) rfl rfl ?_
      refine Ru.op (q := (.iload_n 2, 1)) (S' := (67, _, _, _, _)) (by decide +kernel) rfl ?_
      obtain ⟨g13, h⟩ := gd_some h
      refine Ru.bldI (pc' := 68) (i := v2) (z := (S.A 70 v2)) (by decide +kernel) (hp70 _) g13 (eI_of _) rfl ?_
      by_cases b14 : (S.A 70 v2) = 0
      · replace h := if_t b14 h
        refine Ru.br (k := .eq) (off := 6) (bb := true) (tg := 74) (by decide +kernel) (by decide +kernel) (cz (ci_eq1 (inR_to _) (by decide) b14)) rfl ?_
        refine Ru.op (q := (.aload_n 0, 1)) (S' := (75, _, _, _, _)) (by decide +kernel) rfl ?_
        refine Ru.getR (pc' := 78) (i := 117) (ci := 10) (k := 58) (nn := 0) (z := 0) (v := .ref 70) (by decide +kernel) (by decide +kernel) (hp36 _) (by decide) rfl rfl ?_
        refine Ru.op (q := (.iload_n 2, 1)) (S' := (79, _, _, _, _)) (by decide +kernel) rfl ?_
        refine Ru.bldI (pc' := 80) (i := v2) (z := (S.A 70 v2)) (by decide +kernel) (hp70 _) g13 (eI_of _) rfl ?_
        refine Ru.br (k := .eq) (off := 42) (bb := true) (tg := 122) (by decide +kernel) (by decide +kernel) (cz (ci_eq1 (inR_to _) (by decide) b14)) rfl ?_
        refine Ru.inc (k := 2) (n := (-1)) (x := v2) (z := (v2 + (-1))) (xs' := [some (.ref 36), some (vI v1), some (vI (v2 + (-1)))]) (pc' := 125) (by decide +kernel) rfl rfl rfl rfl ?_
        refine Ru.op (q := (.goto (-67), 3)) (S' := (58, _, _, _, _)) (by decide +kernel) rfl ?_
        exact ih _ _ _ trivial _ h r hk
      · replace h := if_f b14 h
        refine Ru.br (k := .eq) (off := 6) (bb := false) (tg := 71) (by decide +kernel) (by decide +kernel) (cz (ci_eq0 (inR_to _) (by decide) b14)) rfl ?_
        refine Ru.inc (k := 1) (n := 1) (x := v1) (z := (v1 + 1)) (xs' := [some (.ref 36), some (vI (v1 + 1)), some (vI v2)]) (pc' := 74) (by decide +kernel) rfl rfl rfl rfl ?_
        refine Ru.op (q := (.aload_n 0, 1)) (S' := (75, _, _, _, _)) (by decide +kernel) rfl ?_
        refine Ru.getR (pc' := 78) (i := 117) (ci := 10) (k := 58) (nn := 0) (z := 0) (v := .ref 70) (by decide +kernel) (by decide +kernel) (hp36 _) (by decide) rfl rfl ?_
        refine Ru.op (q := (.iload_n 2, 1)) (S' := (79, _, _, _, _)) (by decide +kernel) rfl ?_
        refine Ru.bldI (pc' := 80) (i := v2) (z := (S.A 70 v2)) (by decide +kernel) (hp70 _) g13 (eI_of _) rfl ?_
        refine Ru.br (k := .eq) (off := 42) (bb := false) (tg := 83) (by decide +kernel) (by decide +kernel) (cz (ci_eq0 (inR_to _) (by decide) b14)) rfl ?_
        refine Ru.op (q := (.aload_n 0, 1)) (S' := (84, _, _, _, _)) (by decide +kernel) rfl ?_
        refine Ru.getR (pc' := 87) (i := 36) (ci := 10) (k := 12) (nn := 0) (z := 0) (v := .ref 44) (by decide +kernel) (by decide +kernel) (hp36 _) (by decide) rfl rfl ?_
        refine Ru.op (q := (.iload_n 2, 1)) (S' := (88, _, _, _, _)) (by decide +kernel) rfl ?_
        refine Ru.ildI (pc' := 89) (i := v2) (z := (S.A 44 v2)) (by decide +kernel) (hp44 _) g13 (eI_of _) rfl ?_
        by_cases b15 : 0 < (S.A 44 v2)
        · replace h := if_t b15 h
          refine Ru.br (k := .le) (off := 33) (bb := false) (tg := 92) (by decide +kernel) (by decide +kernel) (cz (ci_le0 (inR_to _) (by decide) b15)) rfl ?_
          refine Ru.op (q := (.aload_n 0, 1)) (S' := (93, _, _, _, _)) (by decide +kernel) rfl ?_
          refine Ru.getR (pc' := 96) (i := 117) (ci := 10) (k := 58) (nn := 0) (z := 0) (v := .ref 70) (by decide +kernel) (by decide +kernel) (hp36 _) (by decide) rfl rfl ?_
          refine Ru.op (q := (.aload_n 0, 1)) (S' := (97, _, _, _, _)) (by decide +kernel) rfl ?_
          refine Ru.getR (pc' := 100) (i := 39) (ci := 10) (k := 13) (nn := 0) (z := 0) (v := .ref 45) (by decide +kernel) (by decide +kernel) (hp36 _) (by decide) rfl rfl ?_
          refine Ru.kI (q := (.iconst 4, 1)) (c := 4) (pc' := 101) (by decide +kernel) rfl (by decide) rfl ?_
          refine Ru.op (q := (.iload_n 2, 1)) (S' := (102, _, _, _, _)) (by decide +kernel) rfl ?_
          refine Ru.ar2 (i := .imul) (z := (4 * v2)) (pc' := 103) (by decide +kernel) rfl (ar_mul _ _) rfl ?_
          obtain ⟨g16, h⟩ := gd_some h
          refine Ru.ildI (pc' := 104) (i := (4 * v2)) (z := (S.A 45 (4 * v2))) (by decide +kernel) (hp45 _) g16 (eI_of _) rfl ?_
          refine Ru.kI (q := (.iconst 1, 1)) (c := 1) (pc' := 105) (by decide +kernel) rfl (by decide) rfl ?_
          obtain ⟨g17, h⟩ := gd_some h
          refine Ru.bstI (pc' := 106) (i := (S.A 45 (4 * v2))) (x := 1) (by decide +kernel) (hp70 _) g17 (by decide) (ps_70 _ _ _) rfl ?_
          refine Ru.op (q := (.aload_n 0, 1)) (S' := (107, _, _, _, _)) (by decide +kernel) rfl ?_
          refine Ru.getR (pc' := 110) (i := 117) (ci := 10) (k := 58) (nn := 0) (z := 0) (v := .ref 70) (by decide +kernel) (by decide +kernel) (hp36 _) (by decide) rfl rfl ?_
          refine Ru.op (q := (.aload_n 0, 1)) (S' := (111, _, _, _, _)) (by decide +kernel) rfl ?_
          refine Ru.getR (pc' := 114) (i := 39) (ci := 10) (k := 13) (nn := 0) (z := 0) (v := .ref 45) (by decide +kernel) (by decide +kernel) (hp36 _) (by decide) rfl rfl ?_
          refine Ru.kI (q := (.iconst 4, 1)) (c := 4) (pc' := 115) (by decide +kernel) rfl (by decide) rfl ?_
          refine Ru.op (q := (.iload_n 2, 1)) (S' := (116, _, _, _, _)) (by decide +kernel) rfl ?_
          refine Ru.ar2 (i := .imul) (z := (4 * v2)) (pc' := 117) (by decide +kernel) rfl (ar_mul _ _) rfl ?_
          refine Ru.kI (q := (.iconst 2, 1)) (c := 2) (pc' := 118) (by decide +kernel) rfl (by decide) rfl ?_
          refine Ru.ar2 (i := .iadd) (z := ((4 * v2) + 2)) (pc' := 119) (by decide +kernel) rfl (ar_add _ _) rfl ?_
          obtain ⟨g18, h⟩ := gd_some h
          refine Ru.ildI (pc' := 120) (i := ((4 * v2) + 2)) (z := (S.A 45 ((4 * v2) + 2))) (by decide +kernel) (hp45 _) g18 (eI_of _) rfl ?_
          refine Ru.kI (q := (.iconst 1, 1)) (c := 1) (pc' := 121) (by decide +kernel) rfl (by decide) rfl ?_
          obtain ⟨g19, h⟩ := gd_some h
          refine Ru.bstI (pc' := 122) (i := (S.A 45 ((4 * v2) + 2))) (x := 1) (by decide +kernel) (hp70 _) g19 (by decide) (ps_70 _ _ _) rfl ?_
          refine Ru.inc (k := 2) (n := (-1)) (x := v2) (z := (v2 + (-1))) (xs' := [some (.ref 36), some (vI (v1 + 1)), some (vI (v2 + (-1)))]) (pc' := 125) (by decide +kernel) rfl rfl rfl rfl ?_
          refine Ru.op (q := (.goto (-67), 3)) (S' := (58, _, _, _, _)) (by decide +kernel) rfl ?_
          exact ih _ _ _ trivial _ h r hk
        · replace h := if_f b15 h
          refine Ru.br (k := .le) (off := 33) (bb := true) (tg := 122) (by decide +kernel) (by decide +kernel) (cz (ci_le1 (inR_to _) (by decide) b15)) rfl ?_
          refine Ru.inc (k := 2) (n := (-1)) (x := v2) (z := (v2 + (-1))) (xs' := [some (.ref 36), some (vI (v1 + 1)), some (vI (v2 + (-1)))]) (pc' := 125) (by decide +kernel) rfl rfl rfl rfl ?_
          refine Ru.op (q := (.goto (-67), 3)) (S' := (58, _, _, _, _)) (by decide +kernel) rfl ?_
          exact ih _ _ _ trivial _ h r hk
set_option maxRecDepth 100000 in
set_option maxHeartbeats 4000000 in
theorem g156_ok {S : St} {o : Int × St} (h : g156 S  = some o) : Ru none 10 200 156 (0, mn_pad (mn_ent [.ref 36]) 3, [], S.ns, Hp S) ((0, some (vI o.1)), o.2.ns, Hp o.2) := by
  unfold g156 at h
  show Ru none 10 200 156 (0, [some (.ref 36), none, none], [], S.ns, Hp S) _
  refine Ru.op (q := (.aload_n 0, 1)) (S' := (1, _, _, _, _)) (by decide +kernel) rfl ?_
  refine Ru.kI (q := (.iconst 0, 1)) (c := 0) (pc' := 2) (by decide +kernel) rfl (by decide) rfl ?_
  refine Ru.putH (pc' := 5) (i := 120) (ci := 10) (k := 0) (nn := 0) (z := 0) (by decide +kernel) (by decide +kernel) (hp36 _) (by decide) (Nat.le_of_ble_eq_true rfl) rfl (by decide +kernel) (pf_36_0 _ _) rfl ?_
  refine Ru.op (q := (.aload_n 0, 1)) (S' := (6, _, _, _, _)) (by decide +kernel) rfl ?_
  refine Ru.getI (pc' := 9) (i := 42) (ci := 10) (k := 14) (nn := 0) (z := 0) (x := (S.F 36 14)) (by decide +kernel) (by decide +kernel) (hp36 _) (by decide) rfl (eI_of _) rfl ?_
  by_cases b1 : (S.F 36 14) < 0
  · replace h := if_t b1 h
    refine Ru.br (k := .ge) (off := 5) (bb := false) (tg := 12) (by decide +kernel) (by decide +kernel) (cz (ci_ge0 (inR_to _) (by decide) b1)) rfl ?_
    refine Ru.kI (q := (.iconst (-1), 1)) (c := (-1)) (pc' := 13) (by decide +kernel) rfl (by decide) rfl ?_
    cases h
    exact Ru.iret (by decide +kernel) rfl rfl
  · replace h := if_f b1 h
    refine Ru.br (k := .ge) (off := 5) (bb := true) (tg := 14) (by decide +kernel) (by decide +kernel) (cz (ci_ge1 (inR_to _) (by decide) b1)) rfl ?_
    refine Ru.kI (q := (.iconst 0, 1)) (c := 0) (pc' := 15) (by decide +kernel) rfl (by decide) rfl ?_
    refine Ru.op (q := (.istore_n 1, 1)) (S' := (16, [some (.ref 36), some (vI 0), none], [], _, _)) (by decide +kernel) rfl ?_
    refine Ru.kI (q := (.iconst 0, 1)) (c := 0) (pc' := 17) (by decide +kernel) rfl (by decide) rfl ?_
    refine Ru.op (q := (.istore_n 2, 1)) (S' := (18, [some (.ref 36), some (vI 0), some (vI 0)], [], _, _)) (by decide +kernel) rfl ?_
    obtain ⟨o7, e9, h⟩ := ob_some h
    refine g156L18_ok FU _ _ trivial _ e9 _ ?_
    intro d8 hd10
    refine Ru.op (q := (.aload_n 0, 1)) (S' := (52, _, _, _, _)) (by decide +kernel) rfl ?_
    refine Ru.getI (pc' := 55) (i := 263) (ci := 10) (k := 9) (nn := 0) (z := 0) (x := (o7.F 36 9)) (by decide +kernel) (by decide +kernel) (hp36 _) (by decide) rfl (eI_of _) rfl ?_
    refine Ru.kI (q := (.iconst 1, 1)) (c := 1) (pc' := 56) (by decide +kernel) rfl (by decide) rfl ?_
    refine Ru.ar2 (i := .isub) (z := ((o7.F 36 9) - 1)) (pc' := 57) (by decide +kernel) rfl (ar_sub _ _) rfl ?_
    refine Ru.op (q := (.istore_n 2, 1)) (S' := (58, [some (.ref 36), some (vI 0), some (vI ((o7.F 36 9) - 1))], [], _, _)) (by decide +kernel) rfl ?_
    obtain ⟨o20, e23, h⟩ := ob_some h
    refine g156L58_ok FU _ _ _ trivial _ e23 _ ?_
    intro d21 d22 hd24
    refine Ru.op (q := (.iload_n 1, 1)) (S' := (129, _, _, _, _)) (by decide +kernel) rfl ?_
    cases h
    exact Ru.iret (by decide +kernel) rfl rfl
set_option maxRecDepth 100000 in
set_option maxHeartbeats 4000000 in
theorem g157_ok {S : St} {v1 : Int} {o : Int × St} (h : g157 S v1 = some o) : Ru none 11 223 157 (0, mn_pad (mn_ent [.ref 36, vI v1]) 2, [], S.ns, Hp S) ((0, some (vI o.1)), o.2.ns, Hp o.2) := by
  unfold g157 at h
  show Ru none 11 223 157 (0, [some (.ref 36), some (vI v1)], [], S.ns, Hp S) _
  refine Ru.op (q := (.aload_n 0, 1)) (S' := (1, _, _, _, _)) (by decide +kernel) rfl ?_
  refine Ru.op (q := (.iload_n 1, 1)) (S' := (2, _, _, _, _)) (by decide +kernel) rfl ?_
  obtain ⟨g1, h⟩ := gd_some h
  by_cases b2 : v1 < 0
  · replace h := if_t b2 h
    refine Ru.br (k := .lt) (off := 9) (bb := true) (tg := 11) (by decide +kernel) (by decide +kernel) (cz (ci_lt1 g1 (by decide) b2)) rfl ?_
    refine Ru.kI (q := (.iconst 1, 1)) (c := 1) (pc' := 12) (by decide +kernel) rfl (by decide) rfl ?_
    refine Ru.op (q := (.goto 4, 3)) (S' := (16, _, _, _, _)) (by decide +kernel) rfl ?_
    refine Ru.putH (pc' := 19) (i := 120) (ci := 10) (k := 0) (nn := 0) (z := 0) (by decide +kernel) (by decide +kernel) (hp36 _) (by decide) (Nat.le_of_ble_eq_true rfl) rfl (by decide +kernel) (pf_36_0 _ _) rfl ?_
    refine Ru.op (q := (.iload_n 1, 1)) (S' := (20, _, _, _, _)) (by decide +kernel) rfl ?_
    by_cases b3 : v1 = 0
    · replace h := if_t b3 h
      refine Ru.sw (d := 99) (lo2 := 0) (hi := 8) (offs := #[52, 57, 63, 69, 74, 79, 84, 89, 94]) (len := 52) (tg := 72) (by decide +kernel) (by rw [b3]; rfl) ?_
      refine Ru.op (q := (.aload_n 0, 1)) (S' := (73, _, _, _, _)) (by decide +kernel) rfl ?_
      refine Ru.getI (pc' := 76) (i := 263) (ci := 10) (k := 9) (nn := 0) (z := 0) (x := (S.F 36 9)) (by decide +kernel) (by decide +kernel) (hp36 _) (by decide) rfl (eI_of _) rfl ?_
      cases h
      exact Ru.iret (by decide +kernel) rfl rfl
    · replace h := if_f b3 h
      by_cases b4 : v1 = 1
      · replace h := if_t b4 h
        refine Ru.sw (d := 99) (lo2 := 0) (hi := 8) (offs := #[52, 57, 63, 69, 74, 79, 84, 89, 94]) (len := 52) (tg := 77) (by decide +kernel) (by rw [b4]; rfl) ?_
        refine Ru.op (q := (.aload_n 0, 1)) (S' := (78, _, _, _, _)) (by decide +kernel) rfl ?_
        refine Ru.kI (q := (.iconst 0, 1)) (c := 0) (pc' := 79) (by decide +kernel) rfl (by decide) rfl ?_
        obtain ⟨o5, e6, h⟩ := ob_some h
        refine Ru.vcallI (pc' := 82) (st' := [vI o5]) (i := 305) (j2 := 135) (ci := 10) (k := 0) (z := 0) (as := [vI 0]) (by decide +kernel) (by decide +kernel) rfl rfl (hp36 _) (by decide) ⟨(Nat.le_of_ble_eq_true rfl), (by show 19 + 4 ≤ 223; exact Nat.le_of_ble_eq_true rfl), Nat.le_of_ble_eq_true rfl, Nat.le_of_ble_eq_true rfl⟩ ((g135_ok e6).up (Nat.le_of_ble_eq_true rfl) (Nat.le_of_ble_eq_true rfl)) rfl rfl ?_
        cases h
        exact Ru.iret (by decide +kernel) rfl rfl
      · replace h := if_f b4 h
        by_cases b7 : v1 = 2
        · replace h := if_t b7 h
          refine Ru.sw (d := 99) (lo2 := 0) (hi := 8) (offs := #[52, 57, 63, 69, 74, 79, 84, 89, 94]) (len := 52) (tg := 83) (by decide +kernel) (by rw [b7]; rfl) ?_
          refine Ru.op (q := (.aload_n 0, 1)) (S' := (84, _, _, _, _)) (by decide +kernel) rfl ?_
          refine Ru.kI (q := (.iconst 1, 1)) (c := 1) (pc' := 85) (by decide +kernel) rfl (by decide) rfl ?_
          obtain ⟨o8, e9, h⟩ := ob_some h
          refine Ru.vcallI (pc' := 88) (st' := [vI o8]) (i := 305) (j2 := 135) (ci := 10) (k := 0) (z := 0) (as := [vI 1]) (by decide +kernel) (by decide +kernel) rfl rfl (hp36 _) (by decide) ⟨(Nat.le_of_ble_eq_true rfl), (by show 19 + 4 ≤ 223; exact Nat.le_of_ble_eq_true rfl), Nat.le_of_ble_eq_true rfl, Nat.le_of_ble_eq_true rfl⟩ ((g135_ok e9).up (Nat.le_of_ble_eq_true rfl) (Nat.le_of_ble_eq_true rfl)) rfl rfl ?_
          cases h
          exact Ru.iret (by decide +kernel) rfl rfl
        · replace h := if_f b7 h
          by_cases b10 : v1 = 3
          · replace h := if_t b10 h
            refine Ru.sw (d := 99) (lo2 := 0) (hi := 8) (offs := #[52, 57, 63, 69, 74, 79, 84, 89, 94]) (len := 52) (tg := 89) (by decide +kernel) (by rw [b10]; rfl) ?_
            refine Ru.op (q := (.aload_n 0, 1)) (S' := (90, _, _, _, _)) (by decide +kernel) rfl ?_
            refine Ru.getI (pc' := 93) (i := 324) (ci := 10) (k := 16) (nn := 0) (z := 0) (x := (S.F 36 16)) (by decide +kernel) (by decide +kernel) (hp36 _) (by decide) rfl (eI_of _) rfl ?_
            cases h
            exact Ru.iret (by decide +kernel) rfl rfl
          · replace h := if_f b10 h
            by_cases b11 : v1 = 4
            · replace h := if_t b11 h
              refine Ru.sw (d := 99) (lo2 := 0) (hi := 8) (offs := #[52, 57, 63, 69, 74, 79, 84, 89, 94]) (len := 52) (tg := 94) (by decide +kernel) (by rw [b11]; rfl) ?_
              refine Ru.op (q := (.aload_n 0, 1)) (S' := (95, _, _, _, _)) (by decide +kernel) rfl ?_
              refine Ru.getI (pc' := 98) (i := 273) (ci := 10) (k := 17) (nn := 0) (z := 0) (x := (S.F 36 17)) (by decide +kernel) (by decide +kernel) (hp36 _) (by decide) rfl (eI_of _) rfl ?_
              cases h
              exact Ru.iret (by decide +kernel) rfl rfl
            · replace h := if_f b11 h
              by_cases b12 : v1 = 5
              · replace h := if_t b12 h
                refine Ru.sw (d := 99) (lo2 := 0) (hi := 8) (offs := #[52, 57, 63, 69, 74, 79, 84, 89, 94]) (len := 52) (tg := 99) (by decide +kernel) (by rw [b12]; rfl) ?_
                refine Ru.op (q := (.aload_n 0, 1)) (S' := (100, _, _, _, _)) (by decide +kernel) rfl ?_
                refine Ru.getI (pc' := 103) (i := 279) (ci := 10) (k := 18) (nn := 0) (z := 0) (x := (S.F 36 18)) (by decide +kernel) (by decide +kernel) (hp36 _) (by decide) rfl (eI_of _) rfl ?_
                cases h
                exact Ru.iret (by decide +kernel) rfl rfl
              · replace h := if_f b12 h
                by_cases b13 : v1 = 6
                · replace h := if_t b13 h
                  refine Ru.sw (d := 99) (lo2 := 0) (hi := 8) (offs := #[52, 57, 63, 69, 74, 79, 84, 89, 94]) (len := 52) (tg := 104) (by decide +kernel) (by rw [b13]; rfl) ?_
                  refine Ru.op (q := (.aload_n 0, 1)) (S' := (105, _, _, _, _)) (by decide +kernel) rfl ?_
                  refine Ru.getI (pc' := 108) (i := 285) (ci := 10) (k := 19) (nn := 0) (z := 0) (x := (S.F 36 19)) (by decide +kernel) (by decide +kernel) (hp36 _) (by decide) rfl (eI_of _) rfl ?_
                  cases h
                  exact Ru.iret (by decide +kernel) rfl rfl
                · replace h := if_f b13 h
                  by_cases b14 : v1 = 7
                  · replace h := if_t b14 h
                    refine Ru.sw (d := 99) (lo2 := 0) (hi := 8) (offs := #[52, 57, 63, 69, 74, 79, 84, 89, 94]) (len := 52) (tg := 109) (by decide +kernel) (by rw [b14]; rfl) ?_
                    refine Ru.op (q := (.aload_n 0, 1)) (S' := (110, _, _, _, _)) (by decide +kernel) rfl ?_
                    refine Ru.getI (pc' := 113) (i := 195) (ci := 10) (k := 20) (nn := 0) (z := 0) (x := (S.F 36 20)) (by decide +kernel) (by decide +kernel) (hp36 _) (by decide) rfl (eI_of _) rfl ?_
                    cases h
                    exact Ru.iret (by decide +kernel) rfl rfl
                  · replace h := if_f b14 h
                    by_cases b15 : v1 = 8
                    · replace h := if_t b15 h
                      refine Ru.sw (d := 99) (lo2 := 0) (hi := 8) (offs := #[52, 57, 63, 69, 74, 79, 84, 89, 94]) (len := 52) (tg := 114) (by decide +kernel) (by rw [b15]; rfl) ?_
                      refine Ru.op (q := (.aload_n 0, 1)) (S' := (115, _, _, _, _)) (by decide +kernel) rfl ?_
                      refine Ru.getI (pc' := 118) (i := 356) (ci := 10) (k := 10) (nn := 0) (z := 0) (x := (S.F 36 10)) (by decide +kernel) (by decide +kernel) (hp36 _) (by decide) rfl (eI_of _) rfl ?_
                      cases h
                      exact Ru.iret (by decide +kernel) rfl rfl
                    · replace h := if_f b15 h
                      refine Ru.sw (d := 99) (lo2 := 0) (hi := 8) (offs := #[52, 57, 63, 69, 74, 79, 84, 89, 94]) (len := 52) (tg := 119) (by decide +kernel) (by simp only [mn_opC]; rw [eI_to g1, if_pos (by omega)]; rfl) ?_
                      refine Ru.kI (q := (.iconst 0, 1)) (c := 0) (pc' := 120) (by decide +kernel) rfl (by decide) rfl ?_
                      cases h
                      exact Ru.iret (by decide +kernel) rfl rfl
  · replace h := if_f b2 h
    refine Ru.br (k := .lt) (off := 9) (bb := false) (tg := 5) (by decide +kernel) (by decide +kernel) (cz (ci_lt0 g1 (by decide) b2)) rfl ?_
    refine Ru.op (q := (.iload_n 1, 1)) (S' := (6, _, _, _, _)) (by decide +kernel) rfl ?_
    refine Ru.kI (q := (.bipush 8, 2)) (c := 8) (pc' := 8) (by decide +kernel) rfl (by decide) rfl ?_
    by_cases b16 : 8 < v1
    · replace h := if_t b16 h
      refine Ru.br2 (k := .le) (off := 7) (bb := false) (tg := 11) (by decide +kernel) (by decide +kernel) (ci_le0 g1 (by decide) b16) rfl ?_
      refine Ru.kI (q := (.iconst 1, 1)) (c := 1) (pc' := 12) (by decide +kernel) rfl (by decide) rfl ?_
      refine Ru.op (q := (.goto 4, 3)) (S' := (16, _, _, _, _)) (by decide +kernel) rfl ?_
      refine Ru.putH (pc' := 19) (i := 120) (ci := 10) (k := 0) (nn := 0) (z := 0) (by decide +kernel) (by decide +kernel) (hp36 _) (by decide) (Nat.le_of_ble_eq_true rfl) rfl (by decide +kernel) (pf_36_0 _ _) rfl ?_
      refine Ru.op (q := (.iload_n 1, 1)) (S' := (20, _, _, _, _)) (by decide +kernel) rfl ?_
      by_cases b17 : v1 = 0
      · replace h := if_t b17 h
        refine Ru.sw (d := 99) (lo2 := 0) (hi := 8) (offs := #[52, 57, 63, 69, 74, 79, 84, 89, 94]) (len := 52) (tg := 72) (by decide +kernel) (by rw [b17]; rfl) ?_
        refine Ru.op (q := (.aload_n 0, 1)) (S' := (73, _, _, _, _)) (by decide +kernel) rfl ?_
        refine Ru.getI (pc' := 76) (i := 263) (ci := 10) (k := 9) (nn := 0) (z := 0) (x := (S.F 36 9)) (by decide +kernel) (by decide +kernel) (hp36 _) (by decide) rfl (eI_of _) rfl ?_
        cases h
        exact Ru.iret (by decide +kernel) rfl rfl
      · replace h := if_f b17 h
        by_cases b18 : v1 = 1
        · replace h := if_t b18 h
          refine Ru.sw (d := 99) (lo2 := 0) (hi := 8) (offs := #[52, 57, 63, 69, 74, 79, 84, 89, 94]) (len := 52) (tg := 77) (by decide +kernel) (by rw [b18]; rfl) ?_
          refine Ru.op (q := (.aload_n 0, 1)) (S' := (78, _, _, _, _)) (by decide +kernel) rfl ?_
          refine Ru.kI (q := (.iconst 0, 1)) (c := 0) (pc' := 79) (by decide +kernel) rfl (by decide) rfl ?_
          obtain ⟨o19, e20, h⟩ := ob_some h
          refine Ru.vcallI (pc' := 82) (st' := [vI o19]) (i := 305) (j2 := 135) (ci := 10) (k := 0) (z := 0) (as := [vI 0]) (by decide +kernel) (by decide +kernel) rfl rfl (hp36 _) (by decide) ⟨(Nat.le_of_ble_eq_true rfl), (by show 19 + 4 ≤ 223; exact Nat.le_of_ble_eq_true rfl), Nat.le_of_ble_eq_true rfl, Nat.le_of_ble_eq_true rfl⟩ ((g135_ok e20).up (Nat.le_of_ble_eq_true rfl) (Nat.le_of_ble_eq_true rfl)) rfl rfl ?_
          cases h
          exact Ru.iret (by decide +kernel) rfl rfl
        · replace h := if_f b18 h
          by_cases b21 : v1 = 2
          · replace h := if_t b21 h
            refine Ru.sw (d := 99) (lo2 := 0) (hi := 8) (offs := #[52, 57, 63, 69, 74, 79, 84, 89, 94]) (len := 52) (tg := 83) (by decide +kernel) (by rw [b21]; rfl) ?_
            refine Ru.op (q := (.aload_n 0, 1)) (S' := (84, _, _, _, _)) (by decide +kernel) rfl ?_
            refine Ru.kI (q := (.iconst 1, 1)) (c := 1) (pc' := 85) (by decide +kernel) rfl (by decide) rfl ?_
            obtain ⟨o22, e23, h⟩ := ob_some h
            refine Ru.vcallI (pc' := 88) (st' := [vI o22]) (i := 305) (j2 := 135) (ci := 10) (k := 0) (z := 0) (as := [vI 1]) (by decide +kernel) (by decide +kernel) rfl rfl (hp36 _) (by decide) ⟨(Nat.le_of_ble_eq_true rfl), (by show 19 + 4 ≤ 223; exact Nat.le_of_ble_eq_true rfl), Nat.le_of_ble_eq_true rfl, Nat.le_of_ble_eq_true rfl⟩ ((g135_ok e23).up (Nat.le_of_ble_eq_true rfl) (Nat.le_of_ble_eq_true rfl)) rfl rfl ?_
            cases h
            exact Ru.iret (by decide +kernel) rfl rfl
          · replace h := if_f b21 h
            by_cases b24 : v1 = 3
            · replace h := if_t b24 h
              refine Ru.sw (d := 99) (lo2 := 0) (hi := 8) (offs := #[52, 57, 63, 69, 74, 79, 84, 89, 94]) (len := 52) (tg := 89) (by decide +kernel) (by rw [b24]; rfl) ?_
              refine Ru.op (q := (.aload_n 0, 1)) (S' := (90, _, _, _, _)) (by decide +kernel) rfl ?_
              refine Ru.getI (pc' := 93) (i := 324) (ci := 10) (k := 16) (nn := 0) (z := 0) (x := (S.F 36 16)) (by decide +kernel) (by decide +kernel) (hp36 _) (by decide) rfl (eI_of _) rfl ?_
              cases h
              exact Ru.iret (by decide +kernel) rfl rfl
            · replace h := if_f b24 h
              by_cases b25 : v1 = 4
              · replace h := if_t b25 h
                refine Ru.sw (d := 99) (lo2 := 0) (hi := 8) (offs := #[52, 57, 63, 69, 74, 79, 84, 89, 94]) (len := 52) (tg := 94) (by decide +kernel) (by rw [b25]; rfl) ?_
                refine Ru.op (q := (.aload_n 0, 1)) (S' := (95, _, _, _, _)) (by decide +kernel) rfl ?_
                refine Ru.getI (pc' := 98) (i := 273) (ci := 10) (k := 17) (nn := 0) (z := 0) (x := (S.F 36 17)) (by decide +kernel) (by decide +kernel) (hp36 _) (by decide) rfl (eI_of _) rfl ?_
                cases h
                exact Ru.iret (by decide +kernel) rfl rfl
              · replace h := if_f b25 h
                by_cases b26 : v1 = 5
                · replace h := if_t b26 h
                  refine Ru.sw (d := 99) (lo2 := 0) (hi := 8) (offs := #[52, 57, 63, 69, 74, 79, 84, 89, 94]) (len := 52) (tg := 99) (by decide +kernel) (by rw [b26]; rfl) ?_
                  refine Ru.op (q := (.aload_n 0, 1)) (S' := (100, _, _, _, _)) (by decide +kernel) rfl ?_
                  refine Ru.getI (pc' := 103) (i := 279) (ci := 10) (k := 18) (nn := 0) (z := 0) (x := (S.F 36 18)) (by decide +kernel) (by decide +kernel) (hp36 _) (by decide) rfl (eI_of _) rfl ?_
                  cases h
                  exact Ru.iret (by decide +kernel) rfl rfl
                · replace h := if_f b26 h
                  by_cases b27 : v1 = 6
                  · replace h := if_t b27 h
                    refine Ru.sw (d := 99) (lo2 := 0) (hi := 8) (offs := #[52, 57, 63, 69, 74, 79, 84, 89, 94]) (len := 52) (tg := 104) (by decide +kernel) (by rw [b27]; rfl) ?_
                    refine Ru.op (q := (.aload_n 0, 1)) (S' := (105, _, _, _, _)) (by decide +kernel) rfl ?_
                    refine Ru.getI (pc' := 108) (i := 285) (ci := 10) (k := 19) (nn := 0) (z := 0) (x := (S.F 36 19)) (by decide +kernel) (by decide +kernel) (hp36 _) (by decide) rfl (eI_of _) rfl ?_
                    cases h
                    exact Ru.iret (by decide +kernel) rfl rfl
                  · replace h := if_f b27 h
                    by_cases b28 : v1 = 7
                    · replace h := if_t b28 h
                      refine Ru.sw (d := 99) (lo2 := 0) (hi := 8) (offs := #[52, 57, 63, 69, 74, 79, 84, 89, 94]) (len := 52) (tg := 109) (by decide +kernel) (by rw [b28]; rfl) ?_
                      refine Ru.op (q := (.aload_n 0, 1)) (S' := (110, _, _, _, _)) (by decide +kernel) rfl ?_
                      refine Ru.getI (pc' := 113) (i := 195) (ci := 10) (k := 20) (nn := 0) (z := 0) (x := (S.F 36 20)) (by decide +kernel) (by decide +kernel) (hp36 _) (by decide) rfl (eI_of _) rfl ?_
                      cases h
                      exact Ru.iret (by decide +kernel) rfl rfl
                    · replace h := if_f b28 h
                      by_cases b29 : v1 = 8
                      · replace h := if_t b29 h
                        refine Ru.sw (d := 99) (lo2 := 0) (hi := 8) (offs := #[52, 57, 63, 69, 74, 79, 84, 89, 94]) (len := 52) (tg := 114) (by decide +kernel) (by rw [b29]; rfl) ?_
                        refine Ru.op (q := (.aload_n 0, 1)) (S' := (115, _, _, _, _)) (by decide +kernel) rfl ?_
                        refine Ru.getI (pc' := 118) (i := 356) (ci := 10) (k := 10) (nn := 0) (z := 0) (x := (S.F 36 10)) (by decide +kernel) (by decide +kernel) (hp36 _) (by decide) rfl (eI_of _) rfl ?_
                        cases h
                        exact Ru.iret (by decide +kernel) rfl rfl
                      · replace h := if_f b29 h
                        refine Ru.sw (d := 99) (lo2 := 0) (hi := 8) (offs := #[52, 57, 63, 69, 74, 79, 84, 89, 94]) (len := 52) (tg := 119) (by decide +kernel) (by simp only [mn_opC]; rw [eI_to g1, if_pos (by omega)]; rfl) ?_
                        refine Ru.kI (q := (.iconst 0, 1)) (c := 0) (pc' := 120) (by decide +kernel) rfl (by decide) rfl ?_
                        cases h
                        exact Ru.iret (by decide +kernel) rfl rfl
    · replace h := if_f b16 h
      refine Ru.br2 (k := .le) (off := 7) (bb := true) (tg := 15) (by decide +kernel) (by decide +kernel) (ci_le1 g1 (by decide) b16) rfl ?_
      refine Ru.kI (q := (.iconst 0, 1)) (c := 0) (pc' := 16) (by decide +kernel) rfl (by decide) rfl ?_
      refine Ru.putH (pc' := 19) (i := 120) (ci := 10) (k := 0) (nn := 0) (z := 0) (by decide +kernel) (by decide +kernel) (hp36 _) (by decide) (Nat.le_of_ble_eq_true rfl) rfl (by decide +kernel) (pf_36_0 _ _) rfl ?_
      refine Ru.op (q := (.iload_n 1, 1)) (S' := (20, _, _, _, _)) (by decide +kernel) rfl ?_
      by_cases b30 : v1 = 0
      · replace h := if_t b30 h
        refine Ru.sw (d := 99) (lo2 := 0) (hi := 8) (offs := #[52, 57, 63, 69, 74, 79, 84, 89, 94]) (len := 52) (tg := 72) (by decide +kernel) (by rw [b30]; rfl) ?_
        refine Ru.op (q := (.aload_n 0, 1)) (S' := (73, _, _, _, _)) (by decide +kernel) rfl ?_
        refine Ru.getI (pc' := 76) (i := 263) (ci := 10) (k := 9) (nn := 0) (z := 0) (x := (S.F 36 9)) (by decide +kernel) (by decide +kernel) (hp36 _) (by decide) rfl (eI_of _) rfl ?_
        cases h
        exact Ru.iret (by decide +kernel) rfl rfl
      · replace h := if_f b30 h
        by_cases b31 : v1 = 1
        · replace h := if_t b31 h
          refine Ru.sw (d := 99) (lo2 := 0) (hi := 8) (offs := #[52, 57, 63, 69, 74, 79, 84, 89, 94]) (len := 52) (tg := 77) (by decide +kernel) (by rw [b31]; rfl) ?_
          refine Ru.op (q := (.aload_n 0, 1)) (S' := (78, _, _, _, _)) (by decide +kernel) rfl ?_
          refine Ru.kI (q := (.iconst 0, 1)) (c := 0) (pc' := 79) (by decide +kernel) rfl (by decide) rfl ?_
          obtain ⟨o32, e33, h⟩ := ob_some h
          refine Ru.vcallI (pc' := 82) (st' := [vI o32]) (i := 305) (j2 := 135) (ci := 10) (k := 0) (z := 0) (as := [vI 0]) (by decide +kernel) (by decide +kernel) rfl rfl (hp36 _) (by decide) ⟨(Nat.le_of_ble_eq_true rfl), (by show 19 + 4 ≤ 223; exact Nat.le_of_ble_eq_true rfl), Nat.le_of_ble_eq_true rfl, Nat.le_of_ble_eq_true rfl⟩ ((g135_ok e33).up (Nat.le_of_ble_eq_true rfl) (Nat.le_of_ble_eq_true rfl)) rfl rfl ?_
          cases h
          exact Ru.iret (by decide +kernel) rfl rfl
        · replace h := if_f b31 h
          by_cases b34 : v1 = 2
          · replace h := if_t b34 h
            refine Ru.sw (d := 99) (lo2 := 0) (hi := 8) (offs := #[52, 57, 63, 69, 74, 79, 84, 89, 94]) (len := 52) (tg := 83) (by decide +kernel) (by rw [b34]; rfl) ?_
            refine Ru.op (q := (.aload_n 0, 1)) (S' := (84, _, _, _, _)) (by decide +kernel) rfl ?_
            refine Ru.kI (q := (.iconst 1, 1)) (c := 1) (pc' := 85) (by decide +kernel) rfl (by decide) rfl ?_
            obtain ⟨o35, e36, h⟩ := ob_some h
            refine Ru.vcallI (pc' := 88) (st' := [vI o35]) (i := 305) (j2 := 135) (ci := 10) (k := 0) (z := 0) (as := [vI 1]) (by decide +kernel) (by decide +kernel) rfl rfl (hp36 _) (by decide) ⟨(Nat.le_of_ble_eq_true rfl), (by show 19 + 4 ≤ 223; exact Nat.le_of_ble_eq_true rfl), Nat.le_of_ble_eq_true rfl, Nat.le_of_ble_eq_true rfl⟩ ((g135_ok e36).up (Nat.le_of_ble_eq_true rfl) (Nat.le_of_ble_eq_true rfl)) rfl rfl ?_
            cases h
            exact Ru.iret (by decide +kernel) rfl rfl
          · replace h := if_f b34 h
            by_cases b37 : v1 = 3
            · replace h := if_t b37 h
              refine Ru.sw (d := 99) (lo2 := 0) (hi := 8) (offs := #[52, 57, 63, 69, 74, 79, 84, 89, 94]) (len := 52) (tg := 89) (by decide +kernel) (by rw [b37]; rfl) ?_
              refine Ru.op (q := (.aload_n 0, 1)) (S' := (90, _, _, _, _)) (by decide +kernel) rfl ?_
              refine Ru.getI (pc' := 93) (i := 324) (ci := 10) (k := 16) (nn := 0) (z := 0) (x := (S.F 36 16)) (by decide +kernel) (by decide +kernel) (hp36 _) (by decide) rfl (eI_of _) rfl ?_
              cases h
              exact Ru.iret (by decide +kernel) rfl rfl
            · replace h := if_f b37 h
              by_cases b38 : v1 = 4
              · replace h := if_t b38 h
                refine Ru.sw (d := 99) (lo2 := 0) (hi := 8) (offs := #[52, 57, 63, 69, 74, 79, 84, 89, 94]) (len := 52) (tg := 94) (by decide +kernel) (by rw [b38]; rfl) ?_
                refine Ru.op (q := (.aload_n 0, 1)) (S' := (95, _, _, _, _)) (by decide +kernel) rfl ?_
                refine Ru.getI (pc' := 98) (i := 273) (ci := 10) (k := 17) (nn := 0) (z := 0) (x := (S.F 36 17)) (by decide +kernel) (by decide +kernel) (hp36 _) (by decide) rfl (eI_of _) rfl ?_
                cases h
                exact Ru.iret (by decide +kernel) rfl rfl
              · replace h := if_f b38 h
                by_cases b39 : v1 = 5
                · replace h := if_t b39 h
                  refine Ru.sw (d := 99) (lo2 := 0) (hi := 8) (offs := #[52, 57, 63, 69, 74, 79, 84, 89, 94]) (len := 52) (tg := 99) (by decide +kernel) (by rw [b39]; rfl) ?_
                  refine Ru.op (q := (.aload_n 0, 1)) (S' := (100, _, _, _, _)) (by decide +kernel) rfl ?_
                  refine Ru.getI (pc' := 103) (i := 279) (ci := 10) (k := 18) (nn := 0) (z := 0) (x := (S.F 36 18)) (by decide +kernel) (by decide +kernel) (hp36 _) (by decide) rfl (eI_of _) rfl ?_
                  cases h
                  exact Ru.iret (by decide +kernel) rfl rfl
                · replace h := if_f b39 h
                  by_cases b40 : v1 = 6
                  · replace h := if_t b40 h
                    refine Ru.sw (d := 99) (lo2 := 0) (hi := 8) (offs := #[52, 57, 63, 69, 74, 79, 84, 89, 94]) (len := 52) (tg := 104) (by decide +kernel) (by rw [b40]; rfl) ?_
                    refine Ru.op (q := (.aload_n 0, 1)) (S' := (105, _, _, _, _)) (by decide +kernel) rfl ?_
                    refine Ru.getI (pc' := 108) (i := 285) (ci := 10) (k := 19) (nn := 0) (z := 0) (x := (S.F 36 19)) (by decide +kernel) (by decide +kernel) (hp36 _) (by decide) rfl (eI_of _) rfl ?_
                    cases h
                    exact Ru.iret (by decide +kernel) rfl rfl
                  · replace h := if_f b40 h
                    by_cases b41 : v1 = 7
                    · replace h := if_t b41 h
                      refine Ru.sw (d := 99) (lo2 := 0) (hi := 8) (offs := #[52, 57, 63, 69, 74, 79, 84, 89, 94]) (len := 52) (tg := 109) (by decide +kernel) (by rw [b41]; rfl) ?_
                      refine Ru.op (q := (.aload_n 0, 1)) (S' := (110, _, _, _, _)) (by decide +kernel) rfl ?_
                      refine Ru.getI (pc' := 113) (i := 195) (ci := 10) (k := 20) (nn := 0) (z := 0) (x := (S.F 36 20)) (by decide +kernel) (by decide +kernel) (hp36 _) (by decide) rfl (eI_of _) rfl ?_
                      cases h
                      exact Ru.iret (by decide +kernel) rfl rfl
                    · replace h := if_f b41 h
                      by_cases b42 : v1 = 8
                      · replace h := if_t b42 h
                        refine Ru.sw (d := 99) (lo2 := 0) (hi := 8) (offs := #[52, 57, 63, 69, 74, 79, 84, 89, 94]) (len := 52) (tg := 114) (by decide +kernel) (by rw [b42]; rfl) ?_
                        refine Ru.op (q := (.aload_n 0, 1)) (S' := (115, _, _, _, _)) (by decide +kernel) rfl ?_
                        refine Ru.getI (pc' := 118) (i := 356) (ci := 10) (k := 10) (nn := 0) (z := 0) (x := (S.F 36 10)) (by decide +kernel) (by decide +kernel) (hp36 _) (by decide) rfl (eI_of _) rfl ?_
                        cases h
                        exact Ru.iret (by decide +kernel) rfl rfl
                      · replace h := if_f b42 h
                        refine Ru.sw (d := 99) (lo2 := 0) (hi := 8) (offs := #[52, 57, 63, 69, 74, 79, 84, 89, 94]) (len := 52) (tg := 119) (by decide +kernel) (by simp only [mn_opC]; rw [eI_to g1, if_pos (by omega)]; rfl) ?_
                        refine Ru.kI (q := (.iconst 0, 1)) (c := 0) (pc' := 120) (by decide +kernel) rfl (by decide) rfl ?_
                        cases h
                        exact Ru.iret (by decide +kernel) rfl rfl
set_option maxRecDepth 100000 in
set_option maxHeartbeats 4000000 in
theorem g160_ok {S : St} {v1 : Int} {o : Int} (h : g160 S v1 = some o) : Ru none 10 200 160 (0, mn_pad (mn_ent [.ref 36, vI v1]) 2, [], S.ns, Hp S) ((0, some (vI o)), S.ns, Hp S) := by
  unfold g160 at h
  show Ru none 10 200 160 (0, [some (.ref 36), some (vI v1)], [], S.ns, Hp S) _
  refine Ru.op (q := (.iload_n 1, 1)) (S' := (1, _, _, _, _)) (by decide +kernel) rfl ?_
  obtain ⟨g1, h⟩ := gd_some h
  by_cases b2 : v1 < 0
  · replace h := if_t b2 h
    refine Ru.br (k := .lt) (off := 15) (bb := true) (tg := 16) (by decide +kernel) (by decide +kernel) (cz (ci_lt1 g1 (by decide) b2)) rfl ?_
    refine Ru.kI (q := (.iconst 0, 1)) (c := 0) (pc' := 17) (by decide +kernel) rfl (by decide) rfl ?_
    cases h
    exact Ru.iret (by decide +kernel) rfl (nar_b1 (by decide))
  · replace h := if_f b2 h
    refine Ru.br (k := .lt) (off := 15) (bb := false) (tg := 4) (by decide +kernel) (by decide +kernel) (cz (ci_lt0 g1 (by decide) b2)) rfl ?_
    refine Ru.op (q := (.iload_n 1, 1)) (S' := (5, _, _, _, _)) (by decide +kernel) rfl ?_
    refine Ru.op (q := (.aload_n 0, 1)) (S' := (6, _, _, _, _)) (by decide +kernel) rfl ?_
    refine Ru.getI (pc' := 9) (i := 356) (ci := 10) (k := 10) (nn := 0) (z := 0) (x := (S.F 36 10)) (by decide +kernel) (by decide +kernel) (hp36 _) (by decide) rfl (eI_of _) rfl ?_
    by_cases b3 : v1 < (S.F 36 10)
    · replace h := if_t b3 h
      refine Ru.br2 (k := .ge) (off := 7) (bb := false) (tg := 12) (by decide +kernel) (by decide +kernel) (ci_ge0 g1 (inR_to _) b3) rfl ?_
      refine Ru.kI (q := (.iconst 1, 1)) (c := 1) (pc' := 13) (by decide +kernel) rfl (by decide) rfl ?_
      refine Ru.op (q := (.goto 4, 3)) (S' := (17, _, _, _, _)) (by decide +kernel) rfl ?_
      cases h
      exact Ru.iret (by decide +kernel) rfl (nar_b1 (by decide))
    · replace h := if_f b3 h
      refine Ru.br2 (k := .ge) (off := 7) (bb := true) (tg := 16) (by decide +kernel) (by decide +kernel) (ci_ge1 g1 (inR_to _) b3) rfl ?_
      refine Ru.kI (q := (.iconst 0, 1)) (c := 0) (pc' := 17) (by decide +kernel) rfl (by decide) rfl ?_
      cases h
      exact Ru.iret (by decide +kernel) rfl (nar_b1 (by decide))
set_option maxRecDepth 100000 in
set_option maxHeartbeats 4000000 in
theorem g159_ok {S : St} {v1 : Int} {v2 : Int} {v3 : Int} {v4 : Int} {o : Int} (h : g159 S v1 v2 v3 v4 = some o) : Ru none 11 221 159 (0, mn_pad (mn_ent [.ref 36, vI v1, vI v2, vI v3, vI v4]) 6, [], S.ns, Hp S) ((0, some (vI o)), S.ns, Hp S) := by
  unfold g159 at h
  show Ru none 11 221 159 (0, [some (.ref 36), some (vI v1), some (vI v2), some (vI v3), some (vI v4), none], [], S.ns, Hp S) _
  refine Ru.op (q := (.iload_n 1, 1)) (S' := (1, _, _, _, _)) (by decide +kernel) rfl ?_
  refine Ru.kI (q := (.iconst (-1), 1)) (c := (-1)) (pc' := 2) (by decide +kernel) rfl (by decide) rfl ?_
  obtain ⟨g1, h⟩ := gd_some h
  by_cases b2 : v1 = (-1)
  · replace h := if_t b2 h
    refine Ru.br2 (k := .ne) (off := 30) (bb := false) (tg := 5) (by decide +kernel) (by decide +kernel) (ci_ne0 g1 (by decide) b2) rfl ?_
    refine Ru.op (q := (.iload_n 2, 1)) (S' := (6, _, _, _, _)) (by decide +kernel) rfl ?_
    obtain ⟨g3, h⟩ := gd_some h
    by_cases b4 : v2 < 0
    · replace h := if_t b4 h
      refine Ru.br (k := .lt) (off := 24) (bb := true) (tg := 30) (by decide +kernel) (by decide +kernel) (cz (ci_lt1 g3 (by decide) b4)) rfl ?_
      refine Ru.kI (q := (.iconst 0, 1)) (c := 0) (pc' := 31) (by decide +kernel) rfl (by decide) rfl ?_
      cases h
      exact Ru.iret (by decide +kernel) rfl (nar_b1 (by decide))
    · replace h := if_f b4 h
      refine Ru.br (k := .lt) (off := 24) (bb := false) (tg := 9) (by decide +kernel) (by decide +kernel) (cz (ci_lt0 g3 (by decide) b4)) rfl ?_
      refine Ru.op (q := (.iload_n 2, 1)) (S' := (10, _, _, _, _)) (by decide +kernel) rfl ?_
      refine Ru.op (q := (.aload_n 0, 1)) (S' := (11, _, _, _, _)) (by decide +kernel) rfl ?_
      refine Ru.getI (pc' := 14) (i := 263) (ci := 10) (k := 9) (nn := 0) (z := 0) (x := (S.F 36 9)) (by decide +kernel) (by decide +kernel) (hp36 _) (by decide) rfl (eI_of _) rfl ?_
      by_cases b5 : v2 < (S.F 36 9)
      · replace h := if_t b5 h
        refine Ru.br2 (k := .ge) (off := 16) (bb := false) (tg := 17) (by decide +kernel) (by decide +kernel) (ci_ge0 g3 (inR_to _) b5) rfl ?_
        refine Ru.op (q := (.aload_n 0, 1)) (S' := (18, _, _, _, _)) (by decide +kernel) rfl ?_
        refine Ru.getR (pc' := 21) (i := 36) (ci := 10) (k := 12) (nn := 0) (z := 0) (v := .ref 44) (by decide +kernel) (by decide +kernel) (hp36 _) (by decide) rfl rfl ?_
        refine Ru.op (q := (.iload_n 2, 1)) (S' := (22, _, _, _, _)) (by decide +kernel) rfl ?_
        obtain ⟨g6, h⟩ := gd_some h
        refine Ru.ildI (pc' := 23) (i := v2) (z := (S.A 44 v2)) (by decide +kernel) (hp44 _) g6 (eI_of _) rfl ?_
        by_cases b7 : (S.A 44 v2) = 0
        · replace h := if_t b7 h
          refine Ru.br (k := .ne) (off := 7) (bb := false) (tg := 26) (by decide +kernel) (by decide +kernel) (cz (ci_ne0 (inR_to _) (by decide) b7)) rfl ?_
          refine Ru.kI (q := (.iconst 1, 1)) (c := 1) (pc' := 27) (by decide +kernel) rfl (by decide) rfl ?_
          refine Ru.op (q := (.goto 4, 3)) (S' := (31, _, _, _, _)) (by decide +kernel) rfl ?_
          cases h
          exact Ru.iret (by decide +kernel) rfl (nar_b1 (by decide))
        · replace h := if_f b7 h
          refine Ru.br (k := .ne) (off := 7) (bb := true) (tg := 30) (by decide +kernel) (by decide +kernel) (cz (ci_ne1 (inR_to _) (by decide) b7)) rfl ?_
          refine Ru.kI (q := (.iconst 0, 1)) (c := 0) (pc' := 31) (by decide +kernel) rfl (by decide) rfl ?_
          cases h
          exact Ru.iret (by decide +kernel) rfl (nar_b1 (by decide))
      · replace h := if_f b5 h
        refine Ru.br2 (k := .ge) (off := 16) (bb := true) (tg := 30) (by decide +kernel) (by decide +kernel) (ci_ge1 g3 (inR_to _) b5) rfl ?_
        refine Ru.kI (q := (.iconst 0, 1)) (c := 0) (pc' := 31) (by decide +kernel) rfl (by decide) rfl ?_
        cases h
        exact Ru.iret (by decide +kernel) rfl (nar_b1 (by decide))
  · replace h := if_f b2 h
    refine Ru.br2 (k := .ne) (off := 30) (bb := true) (tg := 32) (by decide +kernel) (by decide +kernel) (ci_ne1 g1 (by decide) b2) rfl ?_
    refine Ru.op (q := (.iload_n 3, 1)) (S' := (33, _, _, _, _)) (by decide +kernel) rfl ?_
    refine Ru.kI (q := (.iconst (-1), 1)) (c := (-1)) (pc' := 34) (by decide +kernel) rfl (by decide) rfl ?_
    obtain ⟨g8, h⟩ := gd_some h
    by_cases b9 : v3 = (-1)
    · replace h := if_t b9 h
      refine Ru.br2 (k := .ne) (off := 7) (bb := false) (tg := 37) (by decide +kernel) (by decide +kernel) (ci_ne0 g8 (by decide) b9) rfl ?_
      refine Ru.op (q := (.iload_n 1, 1)) (S' := (38, _, _, _, _)) (by decide +kernel) rfl ?_
      refine Ru.op (q := (.goto 4, 3)) (S' := (42, _, _, _, _)) (by decide +kernel) rfl ?_
      refine Ru.op (q := (.istore 5, 2)) (S' := (44, [some (.ref 36), some (vI v1), some (vI v2), some (vI v3), some (vI v4), some (vI v1)], [], _, _)) (by decide +kernel) rfl ?_
      refine Ru.op (q := (.aload_n 0, 1)) (S' := (45, _, _, _, _)) (by decide +kernel) rfl ?_
      refine Ru.op (q := (.iload_n 1, 1)) (S' := (46, _, _, _, _)) (by decide +kernel) rfl ?_
      obtain ⟨o10, e11, h⟩ := ob_some h
      refine Ru.vcallI (pc' := 49) (st' := [vI o10]) (i := 362) (j2 := 160) (ci := 10) (k := 0) (z := 0) (as := [vI v1]) (by decide +kernel) (by decide +kernel) rfl rfl (hp36 _) (by decide) ⟨(Nat.le_of_ble_eq_true rfl), (by show 19 + 2 ≤ 221; exact Nat.le_of_ble_eq_true rfl), Nat.le_of_ble_eq_true rfl, Nat.le_of_ble_eq_true rfl⟩ ((g160_ok e11).up (Nat.le_of_ble_eq_true rfl) (Nat.le_of_ble_eq_true rfl)) rfl rfl ?_
      obtain ⟨g12, h⟩ := gd_some h
      by_cases b13 : o10 = 0
      · replace h := if_t b13 h
        refine Ru.br (k := .eq) (off := 21) (bb := true) (tg := 70) (by decide +kernel) (by decide +kernel) (cz (ci_eq1 g12 (by decide) b13)) rfl ?_
        refine Ru.kI (q := (.iconst 0, 1)) (c := 0) (pc' := 71) (by decide +kernel) rfl (by decide) rfl ?_
        cases h
        exact Ru.iret (by decide +kernel) rfl (nar_b1 (by decide))
      · replace h := if_f b13 h
        refine Ru.br (k := .eq) (off := 21) (bb := false) (tg := 52) (by decide +kernel) (by decide +kernel) (cz (ci_eq0 g12 (by decide) b13)) rfl ?_
        refine Ru.op (q := (.aload_n 0, 1)) (S' := (53, _, _, _, _)) (by decide +kernel) rfl ?_
        refine Ru.op (q := (.iload 5, 2)) (S' := (55, _, _, _, _)) (by decide +kernel) rfl ?_
        obtain ⟨o14, e15, h⟩ := ob_some h
        refine Ru.vcallI (pc' := 58) (st' := [vI o14]) (i := 362) (j2 := 160) (ci := 10) (k := 0) (z := 0) (as := [vI v1]) (by decide +kernel) (by decide +kernel) rfl rfl (hp36 _) (by decide) ⟨(Nat.le_of_ble_eq_true rfl), (by show 19 + 2 ≤ 221; exact Nat.le_of_ble_eq_true rfl), Nat.le_of_ble_eq_true rfl, Nat.le_of_ble_eq_true rfl⟩ ((g160_ok e15).up (Nat.le_of_ble_eq_true rfl) (Nat.le_of_ble_eq_true rfl)) rfl rfl ?_
        obtain ⟨g16, h⟩ := gd_some h
        by_cases b17 : o14 = 0
        · replace h := if_t b17 h
          refine Ru.br (k := .eq) (off := 12) (bb := true) (tg := 70) (by decide +kernel) (by decide +kernel) (cz (ci_eq1 g16 (by decide) b17)) rfl ?_
          refine Ru.kI (q := (.iconst 0, 1)) (c := 0) (pc' := 71) (by decide +kernel) rfl (by decide) rfl ?_
          cases h
          exact Ru.iret (by decide +kernel) rfl (nar_b1 (by decide))
        · replace h := if_f b17 h
          refine Ru.br (k := .eq) (off := 12) (bb := false) (tg := 61) (by decide +kernel) (by decide +kernel) (cz (ci_eq0 g16 (by decide) b17)) rfl ?_
          refine Ru.op (q := (.iload_n 2, 1)) (S' := (62, _, _, _, _)) (by decide +kernel) rfl ?_
          obtain ⟨g18, h⟩ := gd_some h
          by_cases b19 : v2 < 0
          · replace h := if_t b19 h
            refine Ru.br (k := .lt) (off := 8) (bb := true) (tg := 70) (by decide +kernel) (by decide +kernel) (cz (ci_lt1 g18 (by decide) b19)) rfl ?_
            refine Ru.kI (q := (.iconst 0, 1)) (c := 0) (pc' := 71) (by decide +kernel) rfl (by decide) rfl ?_
            cases h
            exact Ru.iret (by decide +kernel) rfl (nar_b1 (by decide))
          · replace h := if_f b19 h
            refine Ru.br (k := .lt) (off := 8) (bb := false) (tg := 65) (by decide +kernel) (by decide +kernel) (cz (ci_lt0 g18 (by decide) b19)) rfl ?_
            refine Ru.op (q := (.iload 4, 2)) (S' := (67, _, _, _, _)) (by decide +kernel) rfl ?_
            obtain ⟨g20, h⟩ := gd_some h
            by_cases b21 : v4 < 0
            · replace h := if_t b21 h
              refine Ru.br (k := .ge) (off := 5) (bb := false) (tg := 70) (by decide +kernel) (by decide +kernel) (cz (ci_ge0 g20 (by decide) b21)) rfl ?_
              refine Ru.kI (q := (.iconst 0, 1)) (c := 0) (pc' := 71) (by decide +kernel) rfl (by decide) rfl ?_
              cases h
              exact Ru.iret (by decide +kernel) rfl (nar_b1 (by decide))
            · replace h := if_f b21 h
              refine Ru.br (k := .ge) (off := 5) (bb := true) (tg := 72) (by decide +kernel) (by decide +kernel) (cz (ci_ge1 g20 (by decide) b21)) rfl ?_
              refine Ru.op (q := (.iload_n 2, 1)) (S' := (73, _, _, _, _)) (by decide +kernel) rfl ?_
              refine Ru.op (q := (.aload_n 0, 1)) (S' := (74, _, _, _, _)) (by decide +kernel) rfl ?_
              refine Ru.getR (pc' := 77) (i := 27) (ci := 10) (k := 7) (nn := 0) (z := 0) (v := .ref 41) (by decide +kernel) (by decide +kernel) (hp36 _) (by decide) rfl rfl ?_
              refine Ru.kI (q := (.bipush 100, 2)) (c := 100) (pc' := 79) (by decide +kernel) rfl (by decide) rfl ?_
              refine Ru.op (q := (.iload_n 1, 1)) (S' := (80, _, _, _, _)) (by decide +kernel) rfl ?_
              refine Ru.ar2 (i := .iadd) (z := (100 + v1)) (pc' := 81) (by decide +kernel) rfl (ar_add _ _) rfl ?_
              obtain ⟨g22, h⟩ := gd_some h
              refine Ru.ildI (pc' := 82) (i := (100 + v1)) (z := (S.A 41 (100 + v1))) (by decide +kernel) (hp41 _) g22 (eI_of _) rfl ?_
              by_cases b23 : v2 < (S.A 41 (100 + v1))
              · replace h := if_t b23 h
                refine Ru.br2 (k := .ge) (off := 33) (bb := false) (tg := 85) (by decide +kernel) (by decide +kernel) (ci_ge0 g18 (inR_to _) b23) rfl ?_
                refine Ru.op (q := (.iload 4, 2)) (S' := (87, _, _, _, _)) (by decide +kernel) rfl ?_
                refine Ru.op (q := (.aload_n 0, 1)) (S' := (88, _, _, _, _)) (by decide +kernel) rfl ?_
                refine Ru.getR (pc' := 91) (i := 27) (ci := 10) (k := 7) (nn := 0) (z := 0) (v := .ref 41) (by decide +kernel) (by decide +kernel) (hp36 _) (by decide) rfl rfl ?_
                refine Ru.kI (q := (.bipush 100, 2)) (c := 100) (pc' := 93) (by decide +kernel) rfl (by decide) rfl ?_
                refine Ru.op (q := (.iload 5, 2)) (S' := (95, _, _, _, _)) (by decide +kernel) rfl ?_
                refine Ru.ar2 (i := .iadd) (z := (100 + v1)) (pc' := 96) (by decide +kernel) rfl (ar_add _ _) rfl ?_
                refine Ru.ildI (pc' := 97) (i := (100 + v1)) (z := (S.A 41 (100 + v1))) (by decide +kernel) (hp41 _) g22 (eI_of _) rfl ?_
                by_cases b24 : v4 < (S.A 41 (100 + v1))
                · replace h := if_t b24 h
                  refine Ru.br2 (k := .ge) (off := 18) (bb := false) (tg := 100) (by decide +kernel) (by decide +kernel) (ci_ge0 g20 (inR_to _) b24) rfl ?_
                  refine Ru.op (q := (.iload_n 3, 1)) (S' := (101, _, _, _, _)) (by decide +kernel) rfl ?_
                  refine Ru.kI (q := (.iconst (-1), 1)) (c := (-1)) (pc' := 102) (by decide +kernel) rfl (by decide) rfl ?_
                  refine Ru.br2 (k := .ne) (off := 9) (bb := false) (tg := 105) (by decide +kernel) (by decide +kernel) (ci_ne0 g8 (by decide) b9) rfl ?_
                  refine Ru.op (q := (.iload_n 2, 1)) (S' := (106, _, _, _, _)) (by decide +kernel) rfl ?_
                  refine Ru.op (q := (.iload 4, 2)) (S' := (108, _, _, _, _)) (by decide +kernel) rfl ?_
                  by_cases b25 : v2 = v4
                  · replace h := if_t b25 h
                    refine Ru.br2 (k := .eq) (off := 7) (bb := true) (tg := 115) (by decide +kernel) (by decide +kernel) (ci_eq1 g18 g20 b25) rfl ?_
                    refine Ru.kI (q := (.iconst 0, 1)) (c := 0) (pc' := 116) (by decide +kernel) rfl (by decide) rfl ?_
                    cases h
                    exact Ru.iret (by decide +kernel) rfl (nar_b1 (by decide))
                  · replace h := if_f b25 h
                    refine Ru.br2 (k := .eq) (off := 7) (bb := false) (tg := 111) (by decide +kernel) (by decide +kernel) (ci_eq0 g18 g20 b25) rfl ?_
                    refine Ru.kI (q := (.iconst 1, 1)) (c := 1) (pc' := 112) (by decide +kernel) rfl (by decide) rfl ?_
                    refine Ru.op (q := (.goto 4, 3)) (S' := (116, _, _, _, _)) (by decide +kernel) rfl ?_
                    cases h
                    exact Ru.iret (by decide +kernel) rfl (nar_b1 (by decide))
                · replace h := if_f b24 h
                  refine Ru.br2 (k := .ge) (off := 18) (bb := true) (tg := 115) (by decide +kernel) (by decide +kernel) (ci_ge1 g20 (inR_to _) b24) rfl ?_
                  refine Ru.kI (q := (.iconst 0, 1)) (c := 0) (pc' := 116) (by decide +kernel) rfl (by decide) rfl ?_
                  cases h
                  exact Ru.iret (by decide +kernel) rfl (nar_b1 (by decide))
              · replace h := if_f b23 h
                refine Ru.br2 (k := .ge) (off := 33) (bb := true) (tg := 115) (by decide +kernel) (by decide +kernel) (ci_ge1 g18 (inR_to _) b23) rfl ?_
                refine Ru.kI (q := (.iconst 0, 1)) (c := 0) (pc' := 116) (by decide +kernel) rfl (by decide) rfl ?_
                cases h
                exact Ru.iret (by decide +kernel) rfl (nar_b1 (by decide))
    · replace h := if_f b9 h
      refine Ru.br2 (k := .ne) (off := 7) (bb := true) (tg := 41) (by decide +kernel) (by decide +kernel) (ci_ne1 g8 (by decide) b9) rfl ?_
      refine Ru.op (q := (.iload_n 3, 1)) (S' := (42, _, _, _, _)) (by decide +kernel) rfl ?_
      refine Ru.op (q := (.istore 5, 2)) (S' := (44, [some (.ref 36), some (vI v1), some (vI v2), some (vI v3), some (vI v4), some (vI v3)], [], _, _)) (by decide +kernel) rfl ?_
      refine Ru.op (q := (.aload_n 0, 1)) (S' := (45, _, _, _, _)) (by decide +kernel) rfl ?_
      refine Ru.op (q := (.iload_n 1, 1)) (S' := (46, _, _, _, _)) (by decide +kernel) rfl ?_
      obtain ⟨o26, e27, h⟩ := ob_some h
      refine Ru.vcallI (pc' := 49) (st' := [vI o26]) (i := 362) (j2 := 160) (ci := 10) (k := 0) (z := 0) (as := [vI v1]) (by decide +kernel) (by decide +kernel) rfl rfl (hp36 _) (by decide) ⟨(Nat.le_of_ble_eq_true rfl), (by show 19 + 2 ≤ 221; exact Nat.le_of_ble_eq_true rfl), Nat.le_of_ble_eq_true rfl, Nat.le_of_ble_eq_true rfl⟩ ((g160_ok e27).up (Nat.le_of_ble_eq_true rfl) (Nat.le_of_ble_eq_true rfl)) rfl rfl ?_
      obtain ⟨g28, h⟩ := gd_some h
      by_cases b29 : o26 = 0
      · replace h := if_t b29 h
        refine Ru.br (k := .eq) (off := 21) (bb := true) (tg := 70) (by decide +kernel) (by decide +kernel) (cz (ci_eq1 g28 (by decide) b29)) rfl ?_
        refine Ru.kI (q := (.iconst 0, 1)) (c := 0) (pc' := 71) (by decide +kernel) rfl (by decide) rfl ?_
        cases h
        exact Ru.iret (by decide +kernel) rfl (nar_b1 (by decide))
      · replace h := if_f b29 h
        refine Ru.br (k := .eq) (off := 21) (bb := false) (tg := 52) (by decide +kernel) (by decide +kernel) (cz (ci_eq0 g28 (by decide) b29)) rfl ?_
        refine Ru.op (q := (.aload_n 0, 1)) (S' := (53, _, _, _, _)) (by decide +kernel) rfl ?_
        refine Ru.op (q := (.iload 5, 2)) (S' := (55, _, _, _, _)) (by decide +kernel) rfl ?_
        obtain ⟨o30, e31, h⟩ := ob_some h
        refine Ru.vcallI (pc' := 58) (st' := [vI o30]) (i := 362) (j2 := 160) (ci := 10) (k := 0) (z := 0) (as := [vI v3]) (by decide +kernel) (by decide +kernel) rfl rfl (hp36 _) (by decide) ⟨(Nat.le_of_ble_eq_true rfl), (by show 19 + 2 ≤ 221; exact Nat.le_of_ble_eq_true rfl), Nat.le_of_ble_eq_true rfl, Nat.le_of_ble_eq_true rfl⟩ ((g160_ok e31).up (Nat.le_of_ble_eq_true rfl) (Nat.le_of_ble_eq_true rfl)) rfl rfl ?_
        obtain ⟨g32, h⟩ := gd_some h
        by_cases b33 : o30 = 0
        · replace h := if_t b33 h
          refine Ru.br (k := .eq) (off := 12) (bb := true) (tg := 70) (by decide +kernel) (by decide +kernel) (cz (ci_eq1 g32 (by decide) b33)) rfl ?_
          refine Ru.kI (q := (.iconst 0, 1)) (c := 0) (pc' := 71) (by decide +kernel) rfl (by decide) rfl ?_
          cases h
          exact Ru.iret (by decide +kernel) rfl (nar_b1 (by decide))
        · replace h := if_f b33 h
          refine Ru.br (k := .eq) (off := 12) (bb := false) (tg := 61) (by decide +kernel) (by decide +kernel) (cz (ci_eq0 g32 (by decide) b33)) rfl ?_
          refine Ru.op (q := (.iload_n 2, 1)) (S' := (62, _, _, _, _)) (by decide +kernel) rfl ?_
          obtain ⟨g34, h⟩ := gd_some h
          by_cases b35 : v2 < 0
          · replace h := if_t b35 h
            refine Ru.br (k := .lt) (off := 8) (bb := true) (tg := 70) (by decide +kernel) (by decide +kernel) (cz (ci_lt1 g34 (by decide) b35)) rfl ?_
            refine Ru.kI (q := (.iconst 0, 1)) (c := 0) (pc' := 71) (by decide +kernel) rfl (by decide) rfl ?_
            cases h
            exact Ru.iret (by decide +kernel) rfl (nar_b1 (by decide))
          · replace h := if_f b35 h
            refine Ru.br (k := .lt) (off := 8) (bb := false) (tg := 65) (by decide +kernel) (by decide +kernel) (cz (ci_lt0 g34 (by decide) b35)) rfl ?_
            refine Ru.op (q := (.iload 4, 2)) (S' := (67, _, _, _, _)) (by decide +kernel) rfl ?_
            obtain ⟨g36, h⟩ := gd_some h
            by_cases b37 : v4 < 0
            · replace h := if_t b37 h
              refine Ru.br (k := .ge) (off := 5) (bb := false) (tg := 70) (by decide +kernel) (by decide +kernel) (cz (ci_ge0 g36 (by decide) b37)) rfl ?_
              refine Ru.kI (q := (.iconst 0, 1)) (c := 0) (pc' := 71) (by decide +kernel) rfl (by decide) rfl ?_
              cases h
              exact Ru.iret (by decide +kernel) rfl (nar_b1 (by decide))
            · replace h := if_f b37 h
              refine Ru.br (k := .ge) (off := 5) (bb := true) (tg := 72) (by decide +kernel) (by decide +kernel) (cz (ci_ge1 g36 (by decide) b37)) rfl ?_
              refine Ru.op (q := (.iload_n 2, 1)) (S' := (73, _, _, _, _)) (by decide +kernel) rfl ?_
              refine Ru.op (q := (.aload_n 0, 1)) (S' := (74, _, _, _, _)) (by decide +kernel) rfl ?_
              refine Ru.getR (pc' := 77) (i := 27) (ci := 10) (k := 7) (nn := 0) (z := 0) (v := .ref 41) (by decide +kernel) (by decide +kernel) (hp36 _) (by decide) rfl rfl ?_
              refine Ru.kI (q := (.bipush 100, 2)) (c := 100) (pc' := 79) (by decide +kernel) rfl (by decide) rfl ?_
              refine Ru.op (q := (.iload_n 1, 1)) (S' := (80, _, _, _, _)) (by decide +kernel) rfl ?_
              refine Ru.ar2 (i := .iadd) (z := (100 + v1)) (pc' := 81) (by decide +kernel) rfl (ar_add _ _) rfl ?_
              obtain ⟨g38, h⟩ := gd_some h
              refine Ru.ildI (pc' := 82) (i := (100 + v1)) (z := (S.A 41 (100 + v1))) (by decide +kernel) (hp41 _) g38 (eI_of _) rfl ?_
              by_cases b39 : v2 < (S.A 41 (100 + v1))
              · replace h := if_t b39 h
                refine Ru.br2 (k := .ge) (off := 33) (bb := false) (tg := 85) (by decide +kernel) (by decide +kernel) (ci_ge0 g34 (inR_to _) b39) rfl ?_
                refine Ru.op (q := (.iload 4, 2)) (S' := (87, _, _, _, _)) (by decide +kernel) rfl ?_
                refine Ru.op (q := (.aload_n 0, 1)) (S' := (88, _, _, _, _)) (by decide +kernel) rfl ?_
                refine Ru.getR (pc' := 91) (i := 27) (ci := 10) (k := 7) (nn := 0) (z := 0) (v := .ref 41) (by decide +kernel) (by decide +kernel) (hp36 _) (by decide) rfl rfl ?_
                refine Ru.kI (q := (.bipush 100, 2)) (c := 100) (pc' := 93) (by decide +kernel) rfl (by decide) rfl ?_
                refine Ru.op (q := (.iload 5, 2)) (S' := (95, _, _, _, _)) (by decide +kernel) rfl ?_
                refine Ru.ar2 (i := .iadd) (z := (100 + v3)) (pc' := 96) (by decide +kernel) rfl (ar_add _ _) rfl ?_
                obtain ⟨g40, h⟩ := gd_some h
                refine Ru.ildI (pc' := 97) (i := (100 + v3)) (z := (S.A 41 (100 + v3))) (by decide +kernel) (hp41 _) g40 (eI_of _) rfl ?_
                by_cases b41 : v4 < (S.A 41 (100 + v3))
                · replace h := if_t b41 h
                  refine Ru.br2 (k := .ge) (off := 18) (bb := false) (tg := 100) (by decide +kernel) (by decide +kernel) (ci_ge0 g36 (inR_to _) b41) rfl ?_
                  refine Ru.op (q := (.iload_n 3, 1)) (S' := (101, _, _, _, _)) (by decide +kernel) rfl ?_
                  refine Ru.kI (q := (.iconst (-1), 1)) (c := (-1)) (pc' := 102) (by decide +kernel) rfl (by decide) rfl ?_
                  refine Ru.br2 (k := .ne) (off := 9) (bb := true) (tg := 111) (by decide +kernel) (by decide +kernel) (ci_ne1 g8 (by decide) b9) rfl ?_
                  refine Ru.kI (q := (.iconst 1, 1)) (c := 1) (pc' := 112) (by decide +kernel) rfl (by decide) rfl ?_
                  refine Ru.op (q := (.goto 4, 3)) (S' := (116, _, _, _, _)) (by decide +kernel) rfl ?_
                  cases h
                  exact Ru.iret (by decide +kernel) rfl (nar_b1 (by decide))
                · replace h := if_f b41 h
                  refine Ru.br2 (k := .ge) (off := 18) (bb := true) (tg := 115) (by decide +kernel) (by decide +kernel) (ci_ge1 g36 (inR_to _) b41) rfl ?_
                  refine Ru.kI (q := (.iconst 0, 1)) (c := 0) (pc' := 116) (by decide +kernel) rfl (by decide) rfl ?_
                  cases h
                  exact Ru.iret (by decide +kernel) rfl (nar_b1 (by decide))
              · replace h := if_f b39 h
                refine Ru.br2 (k := .ge) (off := 33) (bb := true) (tg := 115) (by decide +kernel) (by decide +kernel) (ci_ge1 g34 (inR_to _) b39) rfl ?_
                refine Ru.kI (q := (.iconst 0, 1)) (c := 0) (pc' := 116) (by decide +kernel) rfl (by decide) rfl ?_
                cases h
                exact Ru.iret (by decide +kernel) rfl (nar_b1 (by decide))
set_option maxRecDepth 100000 in
set_option maxHeartbeats 4000000 in
theorem g161_ok {S : St} {v1 : Int} {v2 : Int} {v3 : Int} {v4 : Int} {o : Int × St} (h : g161 S v1 v2 v3 v4 = some o) : Ru none 17 365 161 (0, mn_pad (mn_ent [.ref 36, vI v1, vI v2, vI v3, vI v4]) 7, [], S.ns, Hp S) ((0, some (vI o.1)), o.2.ns, Hp o.2) := by
  unfold g161 at h
  show Ru none 17 365 161 (0, [some (.ref 36), some (vI v1), some (vI v2), some (vI v3), some (vI v4), none, none], [], S.ns, Hp S) _
  refine Ru.kI (q := (.bipush 100, 2)) (c := 100) (pc' := 2) (by decide +kernel) rfl (by decide) rfl ?_
  refine Ru.op (q := (.aload_n 0, 1)) (S' := (3, _, _, _, _)) (by decide +kernel) rfl ?_
  refine Ru.getI (pc' := 6) (i := 356) (ci := 10) (k := 10) (nn := 0) (z := 0) (x := (S.F 36 10)) (by decide +kernel) (by decide +kernel) (hp36 _) (by decide) rfl (eI_of _) rfl ?_
  refine Ru.ar2 (i := .iadd) (z := (100 + (S.F 36 10))) (pc' := 7) (by decide +kernel) rfl (ar_add _ _) rfl ?_
  refine Ru.op (q := (.istore 5, 2)) (S' := (9, [some (.ref 36), some (vI v1), some (vI v2), some (vI v3), some (vI v4), some (vI (100 + (S.F 36 10))), none], [], _, _)) (by decide +kernel) rfl ?_
  refine Ru.op (q := (.iload_n 1, 1)) (S' := (10, _, _, _, _)) (by decide +kernel) rfl ?_
  refine Ru.kI (q := (.iconst (-1), 1)) (c := (-1)) (pc' := 11) (by decide +kernel) rfl (by decide) rfl ?_
  obtain ⟨g1, h⟩ := gd_some h
  by_cases b2 : v1 = (-1)
  · replace h := if_t b2 h
    refine Ru.br2 (k := .ne) (off := 11) (bb := false) (tg := 14) (by decide +kernel) (by decide +kernel) (ci_ne0 g1 (by decide) b2) rfl ?_
    refine Ru.op (q := (.aload_n 0, 1)) (S' := (15, _, _, _, _)) (by decide +kernel) rfl ?_
    refine Ru.op (q := (.iload_n 2, 1)) (S' := (16, _, _, _, _)) (by decide +kernel) rfl ?_
    refine Ru.op (q := (.iload 5, 2)) (S' := (18, _, _, _, _)) (by decide +kernel) rfl ?_
    obtain ⟨o3, e4, h⟩ := ob_some h
    refine Ru.vcallI (pc' := 21) (st' := [vI o3.1]) (i := 266) (j2 := 130) (ci := 10) (k := 0) (z := 0) (as := [vI v2, vI (100 + (S.F 36 10))]) (by decide +kernel) (by decide +kernel) rfl rfl (hp36 _) (by decide) ⟨(Nat.le_of_ble_eq_true rfl), (by show 19 + 8 ≤ 365; exact Nat.le_of_ble_eq_true rfl), Nat.le_of_ble_eq_true rfl, Nat.le_of_ble_eq_true rfl⟩ ((g130_ok e4).up (Nat.le_of_ble_eq_true rfl) (Nat.le_of_ble_eq_true rfl)) rfl rfl ?_
    obtain ⟨g5, h⟩ := gd_some h
    cases h
    exact Ru.iret (by decide +kernel) rfl (nar_b1 g5)
  · replace h := if_f b2 h
    refine Ru.br2 (k := .ne) (off := 11) (bb := true) (tg := 22) (by decide +kernel) (by decide +kernel) (ci_ne1 g1 (by decide) b2) rfl ?_
    refine Ru.op (q := (.iload_n 3, 1)) (S' := (23, _, _, _, _)) (by decide +kernel) rfl ?_
    refine Ru.kI (q := (.iconst (-1), 1)) (c := (-1)) (pc' := 24) (by decide +kernel) rfl (by decide) rfl ?_
    obtain ⟨g6, h⟩ := gd_some h
    by_cases b7 : v3 = (-1)
    · replace h := if_t b7 h
      refine Ru.br2 (k := .ne) (off := 17) (bb := false) (tg := 27) (by decide +kernel) (by decide +kernel) (ci_ne0 g6 (by decide) b7) rfl ?_
      refine Ru.op (q := (.aload_n 0, 1)) (S' := (28, _, _, _, _)) (by decide +kernel) rfl ?_
      refine Ru.kI (q := (.bipush 100, 2)) (c := 100) (pc' := 30) (by decide +kernel) rfl (by decide) rfl ?_
      refine Ru.op (q := (.iload_n 1, 1)) (S' := (31, _, _, _, _)) (by decide +kernel) rfl ?_
      refine Ru.ar2 (i := .iadd) (z := (100 + v1)) (pc' := 32) (by decide +kernel) rfl (ar_add _ _) rfl ?_
      refine Ru.op (q := (.iload_n 2, 1)) (S' := (33, _, _, _, _)) (by decide +kernel) rfl ?_
      refine Ru.op (q := (.iload 4, 2)) (S' := (35, _, _, _, _)) (by decide +kernel) rfl ?_
      obtain ⟨o8, e9, h⟩ := ob_some h
      refine Ru.vcallI (pc' := 38) (st' := [vI o8.1]) (i := 333) (j2 := 140) (ci := 10) (k := 0) (z := 0) (as := [vI (100 + v1), vI v2, vI v4]) (by decide +kernel) (by decide +kernel) rfl rfl (hp36 _) (by decide) ⟨(Nat.le_of_ble_eq_true rfl), (by show 19 + 4 ≤ 365; exact Nat.le_of_ble_eq_true rfl), Nat.le_of_ble_eq_true rfl, Nat.le_of_ble_eq_true rfl⟩ ((g140_ok e9).up (Nat.le_of_ble_eq_true rfl) (Nat.le_of_ble_eq_true rfl)) rfl rfl ?_
      refine Ru.op (q := (.goto 18, 3)) (S' := (56, _, _, _, _)) (by decide +kernel) rfl ?_
      refine Ru.op (q := (.istore 6, 2)) (S' := (58, [some (.ref 36), some (vI v1), some (vI v2), some (vI v3), some (vI v4), some (vI (100 + (S.F 36 10))), some (vI o8.1)], [], _, _)) (by decide +kernel) rfl ?_
      refine Ru.op (q := (.iload 6, 2)) (S' := (60, _, _, _, _)) (by decide +kernel) rfl ?_
      obtain ⟨g10, h⟩ := gd_some h
      by_cases b11 : o8.1 = 0
      · replace h := if_t b11 h
        refine Ru.br (k := .eq) (off := 25) (bb := true) (tg := 85) (by decide +kernel) (by decide +kernel) (cz (ci_eq1 g10 (by decide) b11)) rfl ?_
        refine Ru.kI (q := (.iconst 0, 1)) (c := 0) (pc' := 86) (by decide +kernel) rfl (by decide) rfl ?_
        cases h
        exact Ru.iret (by decide +kernel) rfl (nar_b1 (by decide))
      · replace h := if_f b11 h
        refine Ru.br (k := .eq) (off := 25) (bb := false) (tg := 63) (by decide +kernel) (by decide +kernel) (cz (ci_eq0 g10 (by decide) b11)) rfl ?_
        refine Ru.op (q := (.aload_n 0, 1)) (S' := (64, _, _, _, _)) (by decide +kernel) rfl ?_
        obtain ⟨o12, e13, h⟩ := ob_some h
        refine Ru.vcallI (pc' := 67) (st' := [vI o12.1]) (i := 269) (j2 := 119) (ci := 10) (k := 0) (z := 0) (as := []) (by decide +kernel) (by decide +kernel) rfl rfl (hp36 _) (by decide) ⟨(Nat.le_of_ble_eq_true rfl), (by show 19 + 9 ≤ 365; exact Nat.le_of_ble_eq_true rfl), Nat.le_of_ble_eq_true rfl, Nat.le_of_ble_eq_true rfl⟩ ((g119_ok e13).up (Nat.le_of_ble_eq_true rfl) (Nat.le_of_ble_eq_true rfl)) rfl rfl ?_
        obtain ⟨g14, h⟩ := gd_some h
        by_cases b15 : o12.1 = 0
        · replace h := if_t b15 h
          refine Ru.br (k := .eq) (off := 18) (bb := true) (tg := 85) (by decide +kernel) (by decide +kernel) (cz (ci_eq1 g14 (by decide) b15)) rfl ?_
          refine Ru.kI (q := (.iconst 0, 1)) (c := 0) (pc' := 86) (by decide +kernel) rfl (by decide) rfl ?_
          cases h
          exact Ru.iret (by decide +kernel) rfl (nar_b1 (by decide))
        · replace h := if_f b15 h
          refine Ru.br (k := .eq) (off := 18) (bb := false) (tg := 70) (by decide +kernel) (by decide +kernel) (cz (ci_eq0 g14 (by decide) b15)) rfl ?_
          refine Ru.op (q := (.aload_n 0, 1)) (S' := (71, _, _, _, _)) (by decide +kernel) rfl ?_
          refine Ru.kI (q := (.bipush 124, 2)) (c := 124) (pc' := 73) (by decide +kernel) rfl (by decide) rfl ?_
          refine Ru.op (q := (.iload 5, 2)) (S' := (75, _, _, _, _)) (by decide +kernel) rfl ?_
          obtain ⟨o16, e17, h⟩ := ob_some h
          refine Ru.vcallI (pc' := 78) (st' := [vI o16.1]) (i := 266) (j2 := 130) (ci := 10) (k := 0) (z := 0) (as := [vI 124, vI (100 + (S.F 36 10))]) (by decide +kernel) (by decide +kernel) rfl rfl (hp36 _) (by decide) ⟨(Nat.le_of_ble_eq_true rfl), (by show 19 + 8 ≤ 365; exact Nat.le_of_ble_eq_true rfl), Nat.le_of_ble_eq_true rfl, Nat.le_of_ble_eq_true rfl⟩ ((g130_ok e17).up (Nat.le_of_ble_eq_true rfl) (Nat.le_of_ble_eq_true rfl)) rfl rfl ?_
          obtain ⟨g18, h⟩ := gd_some h
          by_cases b19 : o16.1 = 0
          · replace h := if_t b19 h
            refine Ru.br (k := .eq) (off := 7) (bb := true) (tg := 85) (by decide +kernel) (by decide +kernel) (cz (ci_eq1 g18 (by decide) b19)) rfl ?_
            refine Ru.kI (q := (.iconst 0, 1)) (c := 0) (pc' := 86) (by decide +kernel) rfl (by decide) rfl ?_
            cases h
            exact Ru.iret (by decide +kernel) rfl (nar_b1 (by decide))
          · replace h := if_f b19 h
            refine Ru.br (k := .eq) (off := 7) (bb := false) (tg := 81) (by decide +kernel) (by decide +kernel) (cz (ci_eq0 g18 (by decide) b19)) rfl ?_
            refine Ru.kI (q := (.iconst 1, 1)) (c := 1) (pc' := 82) (by decide +kernel) rfl (by decide) rfl ?_
            refine Ru.op (q := (.goto 4, 3)) (S' := (86, _, _, _, _)) (by decide +kernel) rfl ?_
            cases h
            exact Ru.iret (by decide +kernel) rfl (nar_b1 (by decide))
    · replace h := if_f b7 h
      refine Ru.br2 (k := .ne) (off := 17) (bb := true) (tg := 41) (by decide +kernel) (by decide +kernel) (ci_ne1 g6 (by decide) b7) rfl ?_
      refine Ru.op (q := (.aload_n 0, 1)) (S' := (42, _, _, _, _)) (by decide +kernel) rfl ?_
      refine Ru.kI (q := (.bipush 100, 2)) (c := 100) (pc' := 44) (by decide +kernel) rfl (by decide) rfl ?_
      refine Ru.op (q := (.iload_n 1, 1)) (S' := (45, _, _, _, _)) (by decide +kernel) rfl ?_
      refine Ru.ar2 (i := .iadd) (z := (100 + v1)) (pc' := 46) (by decide +kernel) rfl (ar_add _ _) rfl ?_
      refine Ru.op (q := (.iload_n 2, 1)) (S' := (47, _, _, _, _)) (by decide +kernel) rfl ?_
      refine Ru.kI (q := (.bipush 100, 2)) (c := 100) (pc' := 49) (by decide +kernel) rfl (by decide) rfl ?_
      refine Ru.op (q := (.iload_n 3, 1)) (S' := (50, _, _, _, _)) (by decide +kernel) rfl ?_
      refine Ru.ar2 (i := .iadd) (z := (100 + v3)) (pc' := 51) (by decide +kernel) rfl (ar_add _ _) rfl ?_
      refine Ru.op (q := (.iload 4, 2)) (S' := (53, _, _, _, _)) (by decide +kernel) rfl ?_
      obtain ⟨o20, e21, h⟩ := ob_some h
      refine Ru.vcallI (pc' := 56) (st' := [vI o20.1]) (i := 337) (j2 := 146) (ci := 10) (k := 0) (z := 0) (as := [vI (100 + v1), vI v2, vI (100 + v3), vI v4]) (by decide +kernel) (by decide +kernel) rfl rfl (hp36 _) (by decide) ⟨(Nat.le_of_ble_eq_true rfl), (by show 19 + 5 ≤ 365; exact Nat.le_of_ble_eq_true rfl), Nat.le_of_ble_eq_true rfl, Nat.le_of_ble_eq_true rfl⟩ ((g146_ok e21).up (Nat.le_of_ble_eq_true rfl) (Nat.le_of_ble_eq_true rfl)) rfl rfl ?_
      refine Ru.op (q := (.istore 6, 2)) (S' := (58, [some (.ref 36), some (vI v1), some (vI v2), some (vI v3), some (vI v4), some (vI (100 + (S.F 36 10))), some (vI o20.1)], [], _, _)) (by decide +kernel) rfl ?_
      refine Ru.op (q := (.iload 6, 2)) (S' := (60, _, _, _, _)) (by decide +kernel) rfl ?_
      obtain ⟨g22, h⟩ := gd_some h
      by_cases b23 : o20.1 = 0
      · replace h := if_t b23 h
        refine Ru.br (k := .eq) (off := 25) (bb := true) (tg := 85) (by decide +kernel) (by decide +kernel) (cz (ci_eq1 g22 (by decide) b23)) rfl ?_
        refine Ru.kI (q := (.iconst 0, 1)) (c := 0) (pc' := 86) (by decide +kernel) rfl (by decide) rfl ?_
        cases h
        exact Ru.iret (by decide +kernel) rfl (nar_b1 (by decide))
      · replace h := if_f b23 h
        refine Ru.br (k := .eq) (off := 25) (bb := false) (tg := 63) (by decide +kernel) (by decide +kernel) (cz (ci_eq0 g22 (by decide) b23)) rfl ?_
        refine Ru.op (q := (.aload_n 0, 1)) (S' := (64, _, _, _, _)) (by decide +kernel) rfl ?_
        obtain ⟨o24, e25, h⟩ := ob_some h
        refine Ru.vcallI (pc' := 67) (st' := [vI o24.1]) (i := 269) (j2 := 119) (ci := 10) (k := 0) (z := 0) (as := []) (by decide +kernel) (by decide +kernel) rfl rfl (hp36 _) (by decide) ⟨(Nat.le_of_ble_eq_true rfl), (by show 19 + 9 ≤ 365; exact Nat.le_of_ble_eq_true rfl), Nat.le_of_ble_eq_true rfl, Nat.le_of_ble_eq_true rfl⟩ ((g119_ok e25).up (Nat.le_of_ble_eq_true rfl) (Nat.le_of_ble_eq_true rfl)) rfl rfl ?_
        obtain ⟨g26, h⟩ := gd_some h
        by_cases b27 : o24.1 = 0
        · replace h := if_t b27 h
          refine Ru.br (k := .eq) (off := 18) (bb := true) (tg := 85) (by decide +kernel) (by decide +kernel) (cz (ci_eq1 g26 (by decide) b27)) rfl ?_
          refine Ru.kI (q := (.iconst 0, 1)) (c := 0) (pc' := 86) (by decide +kernel) rfl (by decide) rfl ?_
          cases h
          exact Ru.iret (by decide +kernel) rfl (nar_b1 (by decide))
        · replace h := if_f b27 h
          refine Ru.br (k := .eq) (off := 18) (bb := false) (tg := 70) (by decide +kernel) (by decide +kernel) (cz (ci_eq0 g26 (by decide) b27)) rfl ?_
          refine Ru.op (q := (.aload_n 0, 1)) (S' := (71, _, _, _, _)) (by decide +kernel) rfl ?_
          refine Ru.kI (q := (.bipush 124, 2)) (c := 124) (pc' := 73) (by decide +kernel) rfl (by decide) rfl ?_
          refine Ru.op (q := (.iload 5, 2)) (S' := (75, _, _, _, _)) (by decide +kernel) rfl ?_
          obtain ⟨o28, e29, h⟩ := ob_some h
          refine Ru.vcallI (pc' := 78) (st' := [vI o28.1]) (i := 266) (j2 := 130) (ci := 10) (k := 0) (z := 0) (as := [vI 124, vI (100 + (S.F 36 10))]) (by decide +kernel) (by decide +kernel) rfl rfl (hp36 _) (by decide) ⟨(Nat.le_of_ble_eq_true rfl), (by show 19 + 8 ≤ 365; exact Nat.le_of_ble_eq_true rfl), Nat.le_of_ble_eq_true rfl, Nat.le_of_ble_eq_true rfl⟩ ((g130_ok e29).up (Nat.le_of_ble_eq_true rfl) (Nat.le_of_ble_eq_true rfl)) rfl rfl ?_
          obtain ⟨g30, h⟩ := gd_some h
          by_cases b31 : o28.1 = 0
          · replace h := if_t b31 h
            refine Ru.br (k := .eq) (off := 7) (bb := true) (tg := 85) (by decide +kernel) (by decide +kernel) (cz (ci_eq1 g30 (by decide) b31)) rfl ?_
            refine Ru.kI (q := (.iconst 0, 1)) (c := 0) (pc' := 86) (by decide +kernel) rfl (by decide) rfl ?_
            cases h
            exact Ru.iret (by decide +kernel) rfl (nar_b1 (by decide))
          · replace h := if_f b31 h
            refine Ru.br (k := .eq) (off := 7) (bb := false) (tg := 81) (by decide +kernel) (by decide +kernel) (cz (ci_eq0 g30 (by decide) b31)) rfl ?_
            refine Ru.kI (q := (.iconst 1, 1)) (c := 1) (pc' := 82) (by decide +kernel) rfl (by decide) rfl ?_
            refine Ru.op (q := (.goto 4, 3)) (S' := (86, _, _, _, _)) (by decide +kernel) rfl ?_
            cases h
            exact Ru.iret (by decide +kernel) rfl (nar_b1 (by decide))
