set_option maxRecDepth 100000 in
set_option maxHeartbeats 4000000 in
theorem g45_15_ok {S : St} {o : St} (h : g45_15 S  = some o) : Ru none 12 247 45 (0, mn_pad (mn_ent [.ref 15]) 1, [], S.ns, Hp S) ((0, none), o.ns, Hp o) := by
  unfold g45_15 at h
  show Ru none 12 247 45 (0, [some (.ref 15)], [], S.ns, Hp S) _
  refine Ru.op (q := (.aload_n 0, 1)) (S' := (1, _, _, _, _)) (by decide +kernel) rfl ?_
  obtain ⟨o1, e2, h⟩ := ob_some h
  refine Ru.vcallI (pc' := 4) (st' := [vI o1]) (i := 44) (j2 := 46) (ci := 4) (k := 0) (z := 0) (as := []) (by decide +kernel) (by decide +kernel) rfl rfl (hp15 _) (by decide) ⟨(Nat.le_of_ble_eq_true rfl), (by show 19 + 4 ≤ 247; exact Nat.le_of_ble_eq_true rfl), Nat.le_of_ble_eq_true rfl, Nat.le_of_ble_eq_true rfl⟩ ((g46_15_ok e2).up (Nat.le_of_ble_eq_true rfl) (Nat.le_of_ble_eq_true rfl)) rfl rfl ?_
  obtain ⟨g3, h⟩ := gd_some h
  by_cases b4 : o1 = 0
  · replace h := if_t b4 h
    refine Ru.br (k := .eq) (off := 17) (bb := true) (tg := 21) (by decide +kernel) (by decide +kernel) (cz (ci_eq1 g3 (by decide) b4)) rfl ?_
    refine Ru.op (q := (.aload_n 0, 1)) (S' := (22, _, _, _, _)) (by decide +kernel) rfl ?_
    refine Ru.getR (pc' := 25) (i := 14) (ci := 4) (k := 0) (nn := 0) (z := 0) (v := .ref 16) (by decide +kernel) (by decide +kernel) (hp15 _) (by decide) rfl rfl ?_
    refine Ru.getI (pc' := 28) (i := 24) (ci := 5) (k := 2) (nn := 0) (z := 0) (x := (S.F 16 2)) (by decide +kernel) (by decide +kernel) (hp16 _) (by decide) rfl (eI_of _) rfl ?_
    refine Ru.kI (q := (.iconst 4, 1)) (c := 4) (pc' := 29) (by decide +kernel) rfl (by decide) rfl ?_
    by_cases b5 : (S.F 16 2) < 4
    · replace h := if_t b5 h
      refine Ru.br2 (k := .lt) (off := 22) (bb := true) (tg := 51) (by decide +kernel) (by decide +kernel) (ci_lt1 (inR_to _) (by decide) b5) rfl ?_
      refine Ru.op (q := (.aload_n 0, 1)) (S' := (52, _, _, _, _)) (by decide +kernel) rfl ?_
      refine Ru.getR (pc' := 55) (i := 14) (ci := 4) (k := 0) (nn := 0) (z := 0) (v := .ref 16) (by decide +kernel) (by decide +kernel) (hp15 _) (by decide) rfl rfl ?_
      refine Ru.op (q := (.dup, 1)) (S' := (56, _, _, _, _)) (by decide +kernel) rfl ?_
      refine Ru.getI (pc' := 59) (i := 24) (ci := 5) (k := 2) (nn := 0) (z := 0) (x := (S.F 16 2)) (by decide +kernel) (by decide +kernel) (hp16 _) (by decide) rfl (eI_of _) rfl ?_
      refine Ru.kI (q := (.iconst 1, 1)) (c := 1) (pc' := 60) (by decide +kernel) rfl (by decide) rfl ?_
      refine Ru.ar2 (i := .iadd) (z := ((S.F 16 2) + 1)) (pc' := 61) (by decide +kernel) rfl (ar_add _ _) rfl ?_
      refine Ru.putH (pc' := 64) (i := 24) (ci := 5) (k := 2) (nn := 0) (z := 0) (by decide +kernel) (by decide +kernel) (hp16 _) (by decide) (Nat.le_of_ble_eq_true rfl) rfl (by decide +kernel) (pf_16_2 _ _) rfl ?_
      refine Ru.op (q := (.aload_n 0, 1)) (S' := (65, _, _, _, _)) (by decide +kernel) rfl ?_
      refine Ru.getR (pc' := 68) (i := 14) (ci := 4) (k := 0) (nn := 0) (z := 0) (v := .ref 16) (by decide +kernel) (by decide +kernel) (hp15 _) (by decide) rfl rfl ?_
      refine Ru.getR (pc' := 71) (i := 31) (ci := 5) (k := 1) (nn := 0) (z := 0) (v := .ref 18) (by decide +kernel) (by decide +kernel) (hp16 _) (by decide) rfl rfl ?_
      refine Ru.op (q := (.aload_n 0, 1)) (S' := (72, _, _, _, _)) (by decide +kernel) rfl ?_
      refine Ru.getR (pc' := 75) (i := 14) (ci := 4) (k := 0) (nn := 0) (z := 0) (v := .ref 16) (by decide +kernel) (by decide +kernel) (hp15 _) (by decide) rfl rfl ?_
      refine Ru.getI (pc' := 78) (i := 24) (ci := 5) (k := 2) (nn := 0) (z := 0) (x := ((S.F 16 2) + 1)) (by decide +kernel) (by decide +kernel) (hp16 _) (by decide) rfl rfl rfl ?_
      refine Ru.op (q := (.aload_n 0, 1)) (S' := (79, _, _, _, _)) (by decide +kernel) rfl ?_
      refine Ru.getI (pc' := 82) (i := 34) (ci := 4) (k := 2) (nn := 0) (z := 0) (x := (S.F 15 2)) (by decide +kernel) (by decide +kernel) (hp15 _) (by decide) rfl (eI_of _) rfl ?_
      obtain ⟨g6, h⟩ := gd_some h
      refine Ru.istI (pc' := 83) (i := ((S.F 16 2) + 1)) (x := (S.F 15 2)) (by decide +kernel) (hp18 _) g6 (ps_18 _ _ _) rfl ?_
      refine Ru.op (q := (.aload_n 0, 1)) (S' := (84, _, _, _, _)) (by decide +kernel) rfl ?_
      refine Ru.getR (pc' := 87) (i := 14) (ci := 4) (k := 0) (nn := 0) (z := 0) (v := .ref 16) (by decide +kernel) (by decide +kernel) (hp15 _) (by decide) rfl rfl ?_
      refine Ru.op (q := (.aload_n 0, 1)) (S' := (88, _, _, _, _)) (by decide +kernel) rfl ?_
      refine Ru.getI (pc' := 91) (i := 34) (ci := 4) (k := 2) (nn := 0) (z := 0) (x := (S.F 15 2)) (by decide +kernel) (by decide +kernel) (hp15 _) (by decide) rfl (eI_of _) rfl ?_
      refine Ru.putH (pc' := 94) (i := 28) (ci := 5) (k := 3) (nn := 0) (z := 0) (by decide +kernel) (by decide +kernel) (hp16 _) (by decide) (Nat.le_of_ble_eq_true rfl) rfl (by decide +kernel) (pf_16_3 _ _) rfl ?_
      cases h
      exact Ru.end (q := (.return_, 1)) (by decide +kernel) rfl rfl
    · replace h := if_f b5 h
      refine Ru.br2 (k := .lt) (off := 22) (bb := false) (tg := 32) (by decide +kernel) (by decide +kernel) (ci_lt0 (inR_to _) (by decide) b5) rfl ?_
      refine Ru.op (q := (.aload_n 0, 1)) (S' := (33, _, _, _, _)) (by decide +kernel) rfl ?_
      refine Ru.kI (q := (.iconst 1, 1)) (c := 1) (pc' := 34) (by decide +kernel) rfl (by decide) rfl ?_
      refine Ru.putH (pc' := 37) (i := 37) (ci := 4) (k := 3) (nn := 0) (z := 0) (by decide +kernel) (by decide +kernel) (hp15 _) (by decide) (Nat.le_of_ble_eq_true rfl) (fk_b (by decide)) (by decide +kernel) (pf_15_3 _ _) rfl ?_
      refine Ru.op (q := (.aload_n 0, 1)) (S' := (38, _, _, _, _)) (by decide +kernel) rfl ?_
      refine Ru.op (q := (.aload_n 0, 1)) (S' := (39, _, _, _, _)) (by decide +kernel) rfl ?_
      refine Ru.getR (pc' := 42) (i := 14) (ci := 4) (k := 0) (nn := 0) (z := 0) (v := .ref 16) (by decide +kernel) (by decide +kernel) (hp15 _) (by decide) rfl rfl ?_
      refine Ru.getI (pc' := 45) (i := 28) (ci := 5) (k := 3) (nn := 0) (z := 0) (x := (S.F 16 3)) (by decide +kernel) (by decide +kernel) (hp16 _) (by decide) rfl (eI_of _) rfl ?_
      refine Ru.putH (pc' := 48) (i := 34) (ci := 4) (k := 2) (nn := 0) (z := 0) (by decide +kernel) (by decide +kernel) (hp15 _) (by decide) (Nat.le_of_ble_eq_true rfl) rfl (by decide +kernel) (pf_15_2 _ _) rfl ?_
      refine Ru.op (q := (.goto 46, 3)) (S' := (94, _, _, _, _)) (by decide +kernel) rfl ?_
      cases h
      exact Ru.end (q := (.return_, 1)) (by decide +kernel) rfl rfl
  · replace h := if_f b4 h
    refine Ru.br (k := .eq) (off := 17) (bb := false) (tg := 7) (by decide +kernel) (by decide +kernel) (cz (ci_eq0 g3 (by decide) b4)) rfl ?_
    refine Ru.op (q := (.aload_n 0, 1)) (S' := (8, _, _, _, _)) (by decide +kernel) rfl ?_
    refine Ru.op (q := (.aload_n 0, 1)) (S' := (9, _, _, _, _)) (by decide +kernel) rfl ?_
    refine Ru.getR (pc' := 12) (i := 14) (ci := 4) (k := 0) (nn := 0) (z := 0) (v := .ref 16) (by decide +kernel) (by decide +kernel) (hp15 _) (by decide) rfl rfl ?_
    refine Ru.getI (pc' := 15) (i := 28) (ci := 5) (k := 3) (nn := 0) (z := 0) (x := (S.F 16 3)) (by decide +kernel) (by decide +kernel) (hp16 _) (by decide) rfl (eI_of _) rfl ?_
    refine Ru.putH (pc' := 18) (i := 34) (ci := 4) (k := 2) (nn := 0) (z := 0) (by decide +kernel) (by decide +kernel) (hp15 _) (by decide) (Nat.le_of_ble_eq_true rfl) rfl (by decide +kernel) (pf_15_2 _ _) rfl ?_
    refine Ru.op (q := (.goto 76, 3)) (S' := (94, _, _, _, _)) (by decide +kernel) rfl ?_
    cases h
    exact Ru.end (q := (.return_, 1)) (by decide +kernel) rfl rfl
set_option maxRecDepth 100000 in
set_option maxHeartbeats 4000000 in
theorem g43_15L15_ok {v1 : Nat} {v2 : Int} {v3 : Int} : ∀ (n : Nat) (v4 : Int) (S : St) (_ : DD []) (out : St), g43_15L15 v1 v2 v3 n v4 S = some out → ∀ r, (∀ (e1 e2 e3 e4 : Option Value), DD [e1, e2, e3, e4] → Ru none 13 267 43 (37, [some (.ref 15), e1, e2, e3, e4], [], out.ns, Hp out) r) → Ru none 13 267 43 (15, [some (.ref 15), some (.ref v1), some (vI v2), some (vI v3), some (vI v4)], [], S.ns, Hp S) r := by
  intro n
  induction n with
  | zero => intro v4 S hdd out h; cases h
  | succ n ih =>
    intro v4 S hdd out h r hk
    unfold g43_15L15 at h
    refine Ru.op (q := (.iload 4, 2)) (S' := (17, _, _, _, _)) (by decide +kernel) rfl ?_
    refine Ru.op (q := (.iload_n 3, 1)) (S' := (18, _, _, _, _)) (by decide +kernel) rfl ?_
    obtain ⟨g3, h⟩ := gd_some h
    obtain ⟨g4, h⟩ := gd_some h
    by_cases b5 : v4 < v3
    · replace h := if_t b5 h
      refine Ru.br2 (k := .ge) (off := 19) (bb := false) (tg := 21) (by decide +kernel) (by decide +kernel) (ci_ge0 g3 g4 b5) rfl ?_
      refine Ru.op (q := (.aload_n 0, 1)) (S' := (22, _, _, _, _)) (by decide +kernel) rfl ?_
      refine Ru.op (q := (.aload_n 1, 1)) (S' := (23, _, _, _, _)) (by decide +kernel) rfl ?_
      refine Ru.op (q := (.iload_n 2, 1)) (S' := (24, _, _, _, _)) (by decide +kernel) rfl ?_
      refine Ru.op (q := (.iload 4, 2)) (S' := (26, _, _, _, _)) (by decide +kernel) rfl ?_
      refine Ru.ar2 (i := .iadd) (z := (v2 + v4)) (pc' := 27) (by decide +kernel) rfl (ar_add _ _) rfl ?_
      obtain ⟨N6, f7, e8, q9, h⟩ := gA_some h
      obtain ⟨g10, h⟩ := gd_some h
      refine Ru.ildI (pc' := 28) (i := (v2 + v4)) (z := (f7 (v2 + v4))) (by decide +kernel) q9 g10 rfl rfl ?_
      obtain ⟨o11, e12, h⟩ := ob_some h
      refine Ru.vcallI (pc' := 31) (st' := []) (i := 48) (j2 := 44) (ci := 4) (k := 0) (z := 0) (as := [vI (f7 (v2 + v4))]) (by decide +kernel) (by decide +kernel) rfl rfl (hp15 _) (by decide) ⟨(Nat.le_of_ble_eq_true rfl), (by show 19 + 2 ≤ 267; exact Nat.le_of_ble_eq_true rfl), Nat.le_of_ble_eq_true rfl, Nat.le_of_ble_eq_true rfl⟩ ((g44_15_ok e12).up (Nat.le_of_ble_eq_true rfl) (Nat.le_of_ble_eq_true rfl)) rfl rfl ?_
      refine Ru.inc (k := 4) (n := 1) (x := v4) (z := (v4 + 1)) (xs' := [some (.ref 15), some (.ref v1), some (vI v2), some (vI v3), some (vI (v4 + 1))]) (pc' := 34) (by decide +kernel) rfl rfl rfl rfl ?_
      refine Ru.op (q := (.goto (-19), 3)) (S' := (15, _, _, _, _)) (by decide +kernel) rfl ?_
      exact ih _ _ trivial _ h r hk
    · replace h := if_f b5 h
      refine Ru.br2 (k := .ge) (off := 19) (bb := true) (tg := 37) (by decide +kernel) (by decide +kernel) (ci_ge1 g3 g4 b5) rfl ?_
      cases h
      exact hk _ _ _ _ ⟨rfl, rfl, rfl, rfl, trivial⟩
set_option maxRecDepth 100000 in
set_option maxHeartbeats 4000000 in
theorem g43_15_ok {S : St} {v1 : Nat} {v2 : Int} {v3 : Int} {o : St} (h : g43_15 S v1 v2 v3 = some o) : Ru none 13 267 43 (0, mn_pad (mn_ent [.ref 15, .ref v1, vI v2, vI v3]) 5, [], S.ns, Hp S) ((0, none), o.ns, Hp o) := by
  unfold g43_15 at h
  show Ru none 13 267 43 (0, [some (.ref 15), some (.ref v1), some (vI v2), some (vI v3), none], [], S.ns, Hp S) _
  refine Ru.op (q := (.iload_n 3, 1)) (S' := (1, _, _, _, _)) (by decide +kernel) rfl ?_
  refine Ru.kI (q := (.bipush 16, 2)) (c := 16) (pc' := 3) (by decide +kernel) rfl (by decide) rfl ?_
  obtain ⟨g1, h⟩ := gd_some h
  by_cases b2 : 16 < v3
  · replace h := if_t b2 h
    refine Ru.br2 (k := .le) (off := 9) (bb := false) (tg := 6) (by decide +kernel) (by decide +kernel) (ci_le0 g1 (by decide) b2) rfl ?_
    refine Ru.op (q := (.aload_n 0, 1)) (S' := (7, _, _, _, _)) (by decide +kernel) rfl ?_
    refine Ru.kI (q := (.iconst 1, 1)) (c := 1) (pc' := 8) (by decide +kernel) rfl (by decide) rfl ?_
    refine Ru.putH (pc' := 11) (i := 37) (ci := 4) (k := 3) (nn := 0) (z := 0) (by decide +kernel) (by decide +kernel) (hp15 _) (by decide) (Nat.le_of_ble_eq_true rfl) (fk_b (by decide)) (by decide +kernel) (pf_15_3 _ _) rfl ?_
    cases h
    exact Ru.end (q := (.return_, 1)) (by decide +kernel) rfl rfl
  · replace h := if_f b2 h
    refine Ru.br2 (k := .le) (off := 9) (bb := true) (tg := 12) (by decide +kernel) (by decide +kernel) (ci_le1 g1 (by decide) b2) rfl ?_
    refine Ru.kI (q := (.iconst 0, 1)) (c := 0) (pc' := 13) (by decide +kernel) rfl (by decide) rfl ?_
    refine Ru.op (q := (.istore 4, 2)) (S' := (15, [some (.ref 15), some (.ref v1), some (vI v2), some (vI v3), some (vI 0)], [], _, _)) (by decide +kernel) rfl ?_
    obtain ⟨o13, e18, h⟩ := ob_some h
    refine g43_15L15_ok FU _ _ trivial _ e18 _ ?_
    intro d14 d15 d16 d17 hd19
    refine Ru.op (q := (.aload_n 0, 1)) (S' := (38, _, _, _, _)) (by decide +kernel) rfl ?_
    obtain ⟨o20, e21, h⟩ := ob_some h
    refine Ru.vcallI (pc' := 41) (st' := []) (i := 52) (j2 := 45) (ci := 4) (k := 0) (z := 0) (as := []) (by decide +kernel) (by decide +kernel) rfl rfl (hp15 _) (by decide) ⟨(Nat.le_of_ble_eq_true rfl), (by show 19 + 1 ≤ 267; exact Nat.le_of_ble_eq_true rfl), Nat.le_of_ble_eq_true rfl, Nat.le_of_ble_eq_true rfl⟩ ((g45_15_ok e21).up (Nat.le_of_ble_eq_true rfl) (Nat.le_of_ble_eq_true rfl)) rfl rfl ?_
    cases h
    exact Ru.end (q := (.return_, 1)) (by decide +kernel) rfl rfl
set_option maxRecDepth 100000 in
set_option maxHeartbeats 4000000 in
theorem g42_15b_ok {FR LO : Nat} {rc : St → Int → Int → Int → Option (St)} (hF : 14 ≤ FR) (hL : 291 ≤ LO) (hrc : ∀ {S : St} {v1 : Int} {v2 : Int} {v4 : Int} {o : St}, rc S v1 v2 v4 = some o → Ru none FR LO 42 (0, mn_pad (mn_ent [.ref 3, vI v1, vI v2, .ref 15, vI v4]) 8, [], S.ns, Hp S) ((0, none), o.ns, Hp o)) {S : St} {v1 : Int} {v2 : Int} {v4 : Int} {o : St} (h : g42_15b rc S v1 v2 v4 = some o) : Ru none (FR + 1) (LO + 27) 42 (0, mn_pad (mn_ent [.ref 3, vI v1, vI v2, .ref 15, vI v4]) 8, [], S.ns, Hp S) ((0, none), o.ns, Hp o) := by
  unfold g42_15b at h
  show Ru none (FR + 1) (LO + 27) 42 (0, [some (.ref 3), some (vI v1), some (vI v2), some (.ref 15), some (vI v4), none, none, none], [], S.ns, Hp S) _
  refine Ru.op (q := (.iload 4, 2)) (S' := (2, _, _, _, _)) (by decide +kernel) rfl ?_
  refine Ru.kI (q := (.bipush 10, 2)) (c := 10) (pc' := 4) (by decide +kernel) rfl (by decide) rfl ?_
  obtain ⟨g1, h⟩ := gd_some h
  by_cases b2 : 10 < v4
  · replace h := if_t b2 h
    refine Ru.br2 (k := .le) (off := 4) (bb := false) (tg := 7) (by decide +kernel) (by decide +kernel) (ci_le0 g1 (by decide) b2) rfl ?_
    cases h
    exact Ru.end (q := (.return_, 1)) (by decide +kernel) rfl rfl
  · replace h := if_f b2 h
    refine Ru.br2 (k := .le) (off := 4) (bb := true) (tg := 8) (by decide +kernel) (by decide +kernel) (ci_le1 g1 (by decide) b2) rfl ?_
    refine Ru.op (q := (.aload_n 0, 1)) (S' := (9, _, _, _, _)) (by decide +kernel) rfl ?_
    refine Ru.getR (pc' := 12) (i := 15) (ci := 2) (k := 1) (nn := 0) (z := 0) (v := .ref 5) (by decide +kernel) (by decide +kernel) (hp3 _) (by decide) rfl rfl ?_
    refine Ru.op (q := (.iload_n 1, 1)) (S' := (13, _, _, _, _)) (by decide +kernel) rfl ?_
    obtain ⟨g3, h⟩ := gd_some h
    refine Ru.ildI (pc' := 14) (i := v1) (z := (S.A 5 v1)) (by decide +kernel) (hp5 _) g3 (eI_of _) rfl ?_
    refine Ru.op (q := (.istore 5, 2)) (S' := (16, [some (.ref 3), some (vI v1), some (vI v2), some (.ref 15), some (vI v4), some (vI (S.A 5 v1)), none, none], [], _, _)) (by decide +kernel) rfl ?_
    refine Ru.op (q := (.aload_n 0, 1)) (S' := (17, _, _, _, _)) (by decide +kernel) rfl ?_
    refine Ru.getR (pc' := 20) (i := 18) (ci := 2) (k := 2) (nn := 0) (z := 0) (v := .ref 6) (by decide +kernel) (by decide +kernel) (hp3 _) (by decide) rfl rfl ?_
    refine Ru.op (q := (.iload_n 1, 1)) (S' := (21, _, _, _, _)) (by decide +kernel) rfl ?_
    refine Ru.ildI (pc' := 22) (i := v1) (z := (S.A 6 v1)) (by decide +kernel) (hp6 _) g3 (eI_of _) rfl ?_
    refine Ru.op (q := (.istore 6, 2)) (S' := (24, [some (.ref 3), some (vI v1), some (vI v2), some (.ref 15), some (vI v4), some (vI (S.A 5 v1)), some (vI (S.A 6 v1)), none], [], _, _)) (by decide +kernel) rfl ?_
    refine Ru.op (q := (.aload_n 0, 1)) (S' := (25, _, _, _, _)) (by decide +kernel) rfl ?_
    refine Ru.getR (pc' := 28) (i := 9) (ci := 2) (k := 0) (nn := 0) (z := 0) (v := .ref 4) (by decide +kernel) (by decide +kernel) (hp3 _) (by decide) rfl rfl ?_
    refine Ru.op (q := (.iload_n 1, 1)) (S' := (29, _, _, _, _)) (by decide +kernel) rfl ?_
    refine Ru.ildI (pc' := 30) (i := v1) (z := (S.A 4 v1)) (by decide +kernel) (hp4 _) g3 (eI_of _) rfl ?_
    by_cases b4 : (S.A 4 v1) = 0
    · replace h := if_t b4 h
      refine Ru.br (k := .ne) (off := 18) (bb := false) (tg := 33) (by decide +kernel) (by decide +kernel) (cz (ci_ne0 (inR_to _) (by decide) b4)) rfl ?_
      refine Ru.op (q := (.aload_n 3, 1)) (S' := (34, _, _, _, _)) (by decide +kernel) rfl ?_
      refine Ru.op (q := (.aload_n 0, 1)) (S' := (35, _, _, _, _)) (by decide +kernel) rfl ?_
      refine Ru.getR (pc' := 38) (i := 27) (ci := 2) (k := 6) (nn := 0) (z := 0) (v := .ref 9) (by decide +kernel) (by decide +kernel) (hp3 _) (by decide) rfl rfl ?_
      refine Ru.op (q := (.iload 5, 2)) (S' := (40, _, _, _, _)) (by decide +kernel) rfl ?_
      refine Ru.op (q := (.iload 6, 2)) (S' := (42, _, _, _, _)) (by decide +kernel) rfl ?_
      obtain ⟨o5, e6, h⟩ := ob_some h
      refine Ru.vcallI (pc' := 45) (st' := []) (i := 66) (j2 := 43) (ci := 4) (k := 0) (z := 0) (as := [.ref 9, vI (S.A 5 v1), vI (S.A 6 v1)]) (by decide +kernel) (by decide +kernel) rfl rfl (hp15 _) (by decide) ⟨(by omega), (by show 19 + 5 ≤ (LO + 27); omega), Nat.le_of_ble_eq_true rfl, Nat.le_of_ble_eq_true rfl⟩ ((g43_15_ok e6).up (by omega) (by show _ ≤ (LO + 27) - (19 + 5); omega)) rfl rfl ?_
      refine Ru.op (q := (.goto 105, 3)) (S' := (150, _, _, _, _)) (by decide +kernel) rfl ?_
      cases h
      exact Ru.end (q := (.return_, 1)) (by decide +kernel) rfl rfl
    · replace h := if_f b4 h
      refine Ru.br (k := .ne) (off := 18) (bb := true) (tg := 48) (by decide +kernel) (by decide +kernel) (cz (ci_ne1 (inR_to _) (by decide) b4)) rfl ?_
      refine Ru.op (q := (.aload_n 0, 1)) (S' := (49, _, _, _, _)) (by decide +kernel) rfl ?_
      refine Ru.getR (pc' := 52) (i := 9) (ci := 2) (k := 0) (nn := 0) (z := 0) (v := .ref 4) (by decide +kernel) (by decide +kernel) (hp3 _) (by decide) rfl rfl ?_
      refine Ru.op (q := (.iload_n 1, 1)) (S' := (53, _, _, _, _)) (by decide +kernel) rfl ?_
      refine Ru.ildI (pc' := 54) (i := v1) (z := (S.A 4 v1)) (by decide +kernel) (hp4 _) g3 (eI_of _) rfl ?_
      refine Ru.kI (q := (.iconst 2, 1)) (c := 2) (pc' := 55) (by decide +kernel) rfl (by decide) rfl ?_
      by_cases b7 : (S.A 4 v1) = 2
      · replace h := if_t b7 h
        refine Ru.br2 (k := .ne) (off := 49) (bb := false) (tg := 58) (by decide +kernel) (by decide +kernel) (ci_ne0 (inR_to _) (by decide) b7) rfl ?_
        refine Ru.kI (q := (.iconst 1, 1)) (c := 1) (pc' := 59) (by decide +kernel) rfl (by decide) rfl ?_
        refine Ru.op (q := (.aload_n 0, 1)) (S' := (60, _, _, _, _)) (by decide +kernel) rfl ?_
        refine Ru.getR (pc' := 63) (i := 21) (ci := 2) (k := 3) (nn := 0) (z := 0) (v := .ref 7) (by decide +kernel) (by decide +kernel) (hp3 _) (by decide) rfl rfl ?_
        refine Ru.op (q := (.iload 6, 2)) (S' := (65, _, _, _, _)) (by decide +kernel) rfl ?_
        obtain ⟨g8, h⟩ := gd_some h
        refine Ru.ildI (pc' := 66) (i := (S.A 6 v1)) (z := (S.A 7 (S.A 6 v1))) (by decide +kernel) (hp7 _) g8 (eI_of _) rfl ?_
        refine Ru.maxI (pc' := 69) (i := 45) (k := (0, 0, 0, 0, 0)) (by decide +kernel) (by rfl) (by decide) (inR_to _) (by omega) (by show 0 + 13 ≤ (LO + 27); omega) rfl ?_
        refine Ru.op (q := (.istore 7, 2)) (S' := (71, [some (.ref 3), some (vI v1), some (vI v2), some (.ref 15), some (vI v4), some (vI (S.A 5 v1)), some (vI (S.A 6 v1)), some (vI (max 1 (S.A 7 (S.A 6 v1))))], [], _, _)) (by decide +kernel) rfl ?_
        refine Ru.op (q := (.aload_n 0, 1)) (S' := (72, _, _, _, _)) (by decide +kernel) rfl ?_
        refine Ru.op (q := (.iload 5, 2)) (S' := (74, _, _, _, _)) (by decide +kernel) rfl ?_
        refine Ru.op (q := (.iload_n 2, 1)) (S' := (75, _, _, _, _)) (by decide +kernel) rfl ?_
        refine Ru.op (q := (.iload 7, 2)) (S' := (77, _, _, _, _)) (by decide +kernel) rfl ?_
        obtain ⟨g9, h⟩ := gd_some h
        refine Ru.ar2 (i := .idiv) (z := (v2 / (max 1 (S.A 7 (S.A 6 v1))))) (pc' := 78) (by decide +kernel) rfl (ar_div g9) rfl ?_
        refine Ru.op (q := (.aload_n 3, 1)) (S' := (79, _, _, _, _)) (by decide +kernel) rfl ?_
        refine Ru.op (q := (.iload 4, 2)) (S' := (81, _, _, _, _)) (by decide +kernel) rfl ?_
        refine Ru.kI (q := (.iconst 1, 1)) (c := 1) (pc' := 82) (by decide +kernel) rfl (by decide) rfl ?_
        refine Ru.ar2 (i := .iadd) (z := (v4 + 1)) (pc' := 83) (by decide +kernel) rfl (ar_add _ _) rfl ?_
        obtain ⟨o10, e11, h⟩ := ob_some h
        refine Ru.vcallI (pc' := 86) (st' := []) (i := 59) (j2 := 42) (ci := 2) (k := 0) (z := 0) (as := [vI (S.A 5 v1), vI (v2 / (max 1 (S.A 7 (S.A 6 v1)))), .ref 15, vI (v4 + 1)]) (by decide +kernel) (by decide +kernel) rfl rfl (hp3 _) (by decide) ⟨(by omega), (by show 19 + 8 ≤ (LO + 27); omega), Nat.le_of_ble_eq_true rfl, Nat.le_of_ble_eq_true rfl⟩ ((hrc e11).up (by omega) (by show _ ≤ (LO + 27) - (19 + 8); omega)) rfl rfl ?_
        refine Ru.op (q := (.aload_n 0, 1)) (S' := (87, _, _, _, _)) (by decide +kernel) rfl ?_
        refine Ru.op (q := (.iload 6, 2)) (S' := (89, _, _, _, _)) (by decide +kernel) rfl ?_
        refine Ru.op (q := (.iload_n 2, 1)) (S' := (90, _, _, _, _)) (by decide +kernel) rfl ?_
        refine Ru.op (q := (.iload 7, 2)) (S' := (92, _, _, _, _)) (by decide +kernel) rfl ?_
        refine Ru.ar2 (i := .irem) (z := (v2 % (max 1 (S.A 7 (S.A 6 v1))))) (pc' := 93) (by decide +kernel) rfl (ar_rem g9) rfl ?_
        refine Ru.op (q := (.aload_n 3, 1)) (S' := (94, _, _, _, _)) (by decide +kernel) rfl ?_
        refine Ru.op (q := (.iload 4, 2)) (S' := (96, _, _, _, _)) (by decide +kernel) rfl ?_
        refine Ru.kI (q := (.iconst 1, 1)) (c := 1) (pc' := 97) (by decide +kernel) rfl (by decide) rfl ?_
        refine Ru.ar2 (i := .iadd) (z := (v4 + 1)) (pc' := 98) (by decide +kernel) rfl (ar_add _ _) rfl ?_
        obtain ⟨o12, e13, h⟩ := ob_some h
        refine Ru.vcallI (pc' := 101) (st' := []) (i := 59) (j2 := 42) (ci := 2) (k := 0) (z := 0) (as := [vI (S.A 6 v1), vI (v2 % (max 1 (S.A 7 (S.A 6 v1)))), .ref 15, vI (v4 + 1)]) (by decide +kernel) (by decide +kernel) rfl rfl (hp3 _) (by decide) ⟨(by omega), (by show 19 + 8 ≤ (LO + 27); omega), Nat.le_of_ble_eq_true rfl, Nat.le_of_ble_eq_true rfl⟩ ((hrc e13).up (by omega) (by show _ ≤ (LO + 27) - (19 + 8); omega)) rfl rfl ?_
        refine Ru.op (q := (.goto 49, 3)) (S' := (150, _, _, _, _)) (by decide +kernel) rfl ?_
        cases h
        exact Ru.end (q := (.return_, 1)) (by decide +kernel) rfl rfl
      · replace h := if_f b7 h
        refine Ru.br2 (k := .ne) (off := 49) (bb := true) (tg := 104) (by decide +kernel) (by decide +kernel) (ci_ne1 (inR_to _) (by decide) b7) rfl ?_
        refine Ru.op (q := (.iload_n 2, 1)) (S' := (105, _, _, _, _)) (by decide +kernel) rfl ?_
        refine Ru.op (q := (.aload_n 0, 1)) (S' := (106, _, _, _, _)) (by decide +kernel) rfl ?_
        refine Ru.getR (pc' := 109) (i := 21) (ci := 2) (k := 3) (nn := 0) (z := 0) (v := .ref 7) (by decide +kernel) (by decide +kernel) (hp3 _) (by decide) rfl rfl ?_
        refine Ru.op (q := (.iload 5, 2)) (S' := (111, _, _, _, _)) (by decide +kernel) rfl ?_
        obtain ⟨g14, h⟩ := gd_some h
        refine Ru.ildI (pc' := 112) (i := (S.A 5 v1)) (z := (S.A 7 (S.A 5 v1))) (by decide +kernel) (hp7 _) g14 (eI_of _) rfl ?_
        obtain ⟨g15, h⟩ := gd_some h
        by_cases b16 : v2 < (S.A 7 (S.A 5 v1))
        · replace h := if_t b16 h
          refine Ru.br2 (k := .ge) (off := 18) (bb := false) (tg := 115) (by decide +kernel) (by decide +kernel) (ci_ge0 g15 (inR_to _) b16) rfl ?_
          refine Ru.op (q := (.aload_n 0, 1)) (S' := (116, _, _, _, _)) (by decide +kernel) rfl ?_
          refine Ru.op (q := (.iload 5, 2)) (S' := (118, _, _, _, _)) (by decide +kernel) rfl ?_
          refine Ru.op (q := (.iload_n 2, 1)) (S' := (119, _, _, _, _)) (by decide +kernel) rfl ?_
          refine Ru.op (q := (.aload_n 3, 1)) (S' := (120, _, _, _, _)) (by decide +kernel) rfl ?_
          refine Ru.op (q := (.iload 4, 2)) (S' := (122, _, _, _, _)) (by decide +kernel) rfl ?_
          refine Ru.kI (q := (.iconst 1, 1)) (c := 1) (pc' := 123) (by decide +kernel) rfl (by decide) rfl ?_
          refine Ru.ar2 (i := .iadd) (z := (v4 + 1)) (pc' := 124) (by decide +kernel) rfl (ar_add _ _) rfl ?_
          obtain ⟨o17, e18, h⟩ := ob_some h
          refine Ru.vcallI (pc' := 127) (st' := []) (i := 59) (j2 := 42) (ci := 2) (k := 0) (z := 0) (as := [vI (S.A 5 v1), vI v2, .ref 15, vI (v4 + 1)]) (by decide +kernel) (by decide +kernel) rfl rfl (hp3 _) (by decide) ⟨(by omega), (by show 19 + 8 ≤ (LO + 27); omega), Nat.le_of_ble_eq_true rfl, Nat.le_of_ble_eq_true rfl⟩ ((hrc e18).up (by omega) (by show _ ≤ (LO + 27) - (19 + 8); omega)) rfl rfl ?_
          refine Ru.op (q := (.goto 23, 3)) (S' := (150, _, _, _, _)) (by decide +kernel) rfl ?_
          cases h
          exact Ru.end (q := (.return_, 1)) (by decide +kernel) rfl rfl
        · replace h := if_f b16 h
          refine Ru.br2 (k := .ge) (off := 18) (bb := true) (tg := 130) (by decide +kernel) (by decide +kernel) (ci_ge1 g15 (inR_to _) b16) rfl ?_
          refine Ru.op (q := (.aload_n 0, 1)) (S' := (131, _, _, _, _)) (by decide +kernel) rfl ?_
          refine Ru.op (q := (.iload 6, 2)) (S' := (133, _, _, _, _)) (by decide +kernel) rfl ?_
          refine Ru.op (q := (.iload_n 2, 1)) (S' := (134, _, _, _, _)) (by decide +kernel) rfl ?_
          refine Ru.op (q := (.aload_n 0, 1)) (S' := (135, _, _, _, _)) (by decide +kernel) rfl ?_
          refine Ru.getR (pc' := 138) (i := 21) (ci := 2) (k := 3) (nn := 0) (z := 0) (v := .ref 7) (by decide +kernel) (by decide +kernel) (hp3 _) (by decide) rfl rfl ?_
          refine Ru.op (q := (.iload 5, 2)) (S' := (140, _, _, _, _)) (by decide +kernel) rfl ?_
          refine Ru.ildI (pc' := 141) (i := (S.A 5 v1)) (z := (S.A 7 (S.A 5 v1))) (by decide +kernel) (hp7 _) g14 (eI_of _) rfl ?_
          refine Ru.ar2 (i := .isub) (z := (v2 - (S.A 7 (S.A 5 v1)))) (pc' := 142) (by decide +kernel) rfl (ar_sub _ _) rfl ?_
          refine Ru.op (q := (.aload_n 3, 1)) (S' := (143, _, _, _, _)) (by decide +kernel) rfl ?_
          refine Ru.op (q := (.iload 4, 2)) (S' := (145, _, _, _, _)) (by decide +kernel) rfl ?_
          refine Ru.kI (q := (.iconst 1, 1)) (c := 1) (pc' := 146) (by decide +kernel) rfl (by decide) rfl ?_
          refine Ru.ar2 (i := .iadd) (z := (v4 + 1)) (pc' := 147) (by decide +kernel) rfl (ar_add _ _) rfl ?_
          obtain ⟨o19, e20, h⟩ := ob_some h
          refine Ru.vcallI (pc' := 150) (st' := []) (i := 59) (j2 := 42) (ci := 2) (k := 0) (z := 0) (as := [vI (S.A 6 v1), vI (v2 - (S.A 7 (S.A 5 v1))), .ref 15, vI (v4 + 1)]) (by decide +kernel) (by decide +kernel) rfl rfl (hp3 _) (by decide) ⟨(by omega), (by show 19 + 8 ≤ (LO + 27); omega), Nat.le_of_ble_eq_true rfl, Nat.le_of_ble_eq_true rfl⟩ ((hrc e20).up (by omega) (by show _ ≤ (LO + 27) - (19 + 8); omega)) rfl rfl ?_
          cases h
          exact Ru.end (q := (.return_, 1)) (by decide +kernel) rfl rfl
theorem g42_15_ok : ∀ (n : Nat) {S : St} {v1 : Int} {v2 : Int} {v4 : Int} {o : St}, g42_15 n S v1 v2 v4 = some o → Ru none (14 + 1 * n) (291 + 27 * n) 42 (0, mn_pad (mn_ent [.ref 3, vI v1, vI v2, .ref 15, vI v4]) 8, [], S.ns, Hp S) ((0, none), o.ns, Hp o) := by
  intro n
  induction n with
  | zero => intro S v1 v2 v4 o h; cases h
  | succ n ih => intro S v1 v2 v4 o h; exact (g42_15b_ok (FR := 14 + 1 * n) (LO := 291 + 27 * n) (by omega) (by omega) ih h).up (by omega) (by omega)
set_option maxRecDepth 100000 in
set_option maxHeartbeats 4000000 in
theorem g48_15L10_ok : ∀ (n : Nat) (v2 : Int) (S : St) (d3 d4 : Option Value) (_ : DD [d3, d4]) (out : St), g48_15L10 n v2 S = some out → ∀ r, (∀ (e2 e3 e4 : Option Value), DD [e2, e3, e4] → Ru none 10 200 48 (47, [some (.ref 15), some (.ref 17), e2, e3, e4], [], out.ns, Hp out) r) → Ru none 10 200 48 (10, [some (.ref 15), some (.ref 17), some (vI v2), d3, d4], [], S.ns, Hp S) r := by
  intro n
  induction n with
  | zero => intro v2 S d3 d4 hdd out h; cases h
  | succ n ih =>
    intro v2 S d3 d4 hdd out h r hk
    unfold g48_15L10 at h
    refine Ru.op (q := (.iload_n 2, 1)) (S' := (11, _, _, _, _)) (by decide +kernel) rfl ?_
    refine Ru.op (q := (.aload_n 0, 1)) (S' := (12, _, _, _, _)) (by decide +kernel) rfl ?_
    refine Ru.getR (pc' := 15) (i := 14) (ci := 4) (k := 0) (nn := 0) (z := 0) (v := .ref 16) (by decide +kernel) (by decide +kernel) (hp15 _) (by decide) rfl rfl ?_
    refine Ru.getI (pc' := 18) (i := 28) (ci := 5) (k := 3) (nn := 0) (z := 0) (x := (S.F 16 3)) (by decide +kernel) (by decide +kernel) (hp16 _) (by decide) rfl (eI_of _) rfl ?_
    obtain ⟨g1, h⟩ := gd_some h
    by_cases b2 : v2 < (S.F 16 3)
    · replace h := if_t b2 h
      refine Ru.br2 (k := .ge) (off := 29) (bb := false) (tg := 21) (by decide +kernel) (by decide +kernel) (ci_ge0 g1 (inR_to _) b2) rfl ?_
      refine Ru.op (q := (.aload_n 1, 1)) (S' := (22, _, _, _, _)) (by decide +kernel) rfl ?_
      refine Ru.op (q := (.iload_n 2, 1)) (S' := (23, _, _, _, _)) (by decide +kernel) rfl ?_
      obtain ⟨g3, h⟩ := gd_some h
      refine Ru.ildI (pc' := 24) (i := v2) (z := (S.A 17 v2)) (by decide +kernel) (hp17 _) g3 (eI_of _) rfl ?_
      refine Ru.kI (q := (.ldc 59, 2)) (c := 32768) (pc' := 26) (by decide +kernel) rfl (by decide) rfl ?_
      by_cases b4 : (S.A 17 v2) < 32768
      · replace h := if_t b4 h
        refine Ru.br2 (k := .ge) (off := 15) (bb := false) (tg := 29) (by decide +kernel) (by decide +kernel) (ci_ge0 (inR_to _) (by decide) b4) rfl ?_
        refine Ru.op (q := (.aload_n 0, 1)) (S' := (30, _, _, _, _)) (by decide +kernel) rfl ?_
        refine Ru.getR (pc' := 33) (i := 20) (ci := 4) (k := 1) (nn := 0) (z := 0) (v := .ref 19) (by decide +kernel) (by decide +kernel) (hp15 _) (by decide) rfl rfl ?_
        refine Ru.op (q := (.aload_n 1, 1)) (S' := (34, _, _, _, _)) (by decide +kernel) rfl ?_
        refine Ru.op (q := (.iload_n 2, 1)) (S' := (35, _, _, _, _)) (by decide +kernel) rfl ?_
        refine Ru.ildI (pc' := 36) (i := v2) (z := (S.A 17 v2)) (by decide +kernel) (hp17 _) g3 (eI_of _) rfl ?_
        refine Ru.kI (q := (.bipush 8, 2)) (c := 8) (pc' := 38) (by decide +kernel) rfl (by decide) rfl ?_
        refine Ru.ar2 (i := .ishr) (z := ((S.A 17 v2) / 256)) (pc' := 39) (by decide +kernel) rfl (ar_shr (inR_to _)) rfl ?_
        refine Ru.kI (q := (.iconst (-1), 1)) (c := (-1)) (pc' := 40) (by decide +kernel) rfl (by decide) rfl ?_
        obtain ⟨g5, h⟩ := gd_some h
        refine Ru.istI (pc' := 41) (i := ((S.A 17 v2) / 256)) (x := (-1)) (by decide +kernel) (hp19 _) g5 (ps_19 _ _ _) rfl ?_
        refine Ru.inc (k := 2) (n := 1) (x := v2) (z := (v2 + 1)) (xs' := [some (.ref 15), some (.ref 17), some (vI (v2 + 1)), d3, d4]) (pc' := 44) (by decide +kernel) rfl rfl rfl rfl ?_
        refine Ru.op (q := (.goto (-34), 3)) (S' := (10, _, _, _, _)) (by decide +kernel) rfl ?_
        exact ih _ _ _ _ ⟨hdd.1, hdd.2.1, trivial⟩ _ h r hk
      · replace h := if_f b4 h
        refine Ru.br2 (k := .ge) (off := 15) (bb := true) (tg := 41) (by decide +kernel) (by decide +kernel) (ci_ge1 (inR_to _) (by decide) b4) rfl ?_
        refine Ru.inc (k := 2) (n := 1) (x := v2) (z := (v2 + 1)) (xs' := [some (.ref 15), some (.ref 17), some (vI (v2 + 1)), d3, d4]) (pc' := 44) (by decide +kernel) rfl rfl rfl rfl ?_
        refine Ru.op (q := (.goto (-34), 3)) (S' := (10, _, _, _, _)) (by decide +kernel) rfl ?_
        exact ih _ _ _ _ ⟨hdd.1, hdd.2.1, trivial⟩ _ h r hk
    · replace h := if_f b2 h
      refine Ru.br2 (k := .ge) (off := 29) (bb := true) (tg := 47) (by decide +kernel) (by decide +kernel) (ci_ge1 g1 (inR_to _) b2) rfl ?_
      cases h
      exact hk _ _ _ ⟨rfl, hdd.1, hdd.2.1, trivial⟩
set_option maxRecDepth 100000 in
set_option maxHeartbeats 4000000 in
theorem g48_15L51_ok : ∀ (n : Nat) (v2 : Int) (v3 : Int) (S : St) (d4 : Option Value) (_ : DD [d4]) (out : St), g48_15L51 n v2 v3 S = some out → ∀ r, (∀ (e0 e1 e2 e3 e4 : Option Value), DD [e0, e1, e2, e3, e4] → Ru none 10 200 48 (119, [e0, e1, e2, e3, e4], [], out.ns, Hp out) r) → Ru none 10 200 48 (51, [some (.ref 15), some (.ref 17), some (vI v2), some (vI v3), d4], [], S.ns, Hp S) r := by
  intro n
  induction n with
  | zero => intro v2 v3 S d4 hdd out h; cases h
  | succ n ih =>
    intro v2 v3 S d4 hdd out h r hk
    unfold g48_15L51 at h
    refine Ru.op (q := (.iload_n 3, 1)) (S' := (52, _, _, _, _)) (by decide +kernel) rfl ?_
    refine Ru.op (q := (.aload_n 0, 1)) (S' := (53, _, _, _, _)) (by decide +kernel) rfl ?_
    refine Ru.getR (pc' := 56) (i := 14) (ci := 4) (k := 0) (nn := 0) (z := 0) (v := .ref 16) (by decide +kernel) (by decide +kernel) (hp15 _) (by decide) rfl rfl ?_
    refine Ru.getI (pc' := 59) (i := 28) (ci := 5) (k := 3) (nn := 0) (z := 0) (x := (S.F 16 3)) (by decide +kernel) (by decide +kernel) (hp16 _) (by decide) rfl (eI_of _) rfl ?_
    obtain ⟨g12, h⟩ := gd_some h
    by_cases b13 : v3 < (S.F 16 3)
    · replace h := if_t b13 h
      refine Ru.br2 (k := .ge) (off := 60) (bb := false) (tg := 62) (by decide +kernel) (by decide +kernel) (ci_ge0 g12 (inR_to _) b13) rfl ?_
      refine Ru.op (q := (.aload_n 1, 1)) (S' := (63, _, _, _, _)) (by decide +kernel) rfl ?_
      refine Ru.op (q := (.iload_n 3, 1)) (S' := (64, _, _, _, _)) (by decide +kernel) rfl ?_
      obtain ⟨g14, h⟩ := gd_some h
      refine Ru.ildI (pc' := 65) (i := v3) (z := (S.A 17 v3)) (by decide +kernel) (hp17 _) g14 (eI_of _) rfl ?_
      refine Ru.kI (q := (.ldc 59, 2)) (c := 32768) (pc' := 67) (by decide +kernel) rfl (by decide) rfl ?_
      by_cases b15 : (S.A 17 v3) < 32768
      · replace h := if_t b15 h
        refine Ru.br2 (k := .ge) (off := 46) (bb := false) (tg := 70) (by decide +kernel) (by decide +kernel) (ci_ge0 (inR_to _) (by decide) b15) rfl ?_
        refine Ru.op (q := (.aload_n 1, 1)) (S' := (71, _, _, _, _)) (by decide +kernel) rfl ?_
        refine Ru.op (q := (.iload_n 3, 1)) (S' := (72, _, _, _, _)) (by decide +kernel) rfl ?_
        refine Ru.ildI (pc' := 73) (i := v3) (z := (S.A 17 v3)) (by decide +kernel) (hp17 _) g14 (eI_of _) rfl ?_
        refine Ru.kI (q := (.bipush 8, 2)) (c := 8) (pc' := 75) (by decide +kernel) rfl (by decide) rfl ?_
        refine Ru.ar2 (i := .ishr) (z := ((S.A 17 v3) / 256)) (pc' := 76) (by decide +kernel) rfl (ar_shr (inR_to _)) rfl ?_
        refine Ru.op (q := (.istore 4, 2)) (S' := (78, [some (.ref 15), some (.ref 17), some (vI v2), some (vI v3), some (vI ((S.A 17 v3) / 256))], [], _, _)) (by decide +kernel) rfl ?_
        refine Ru.op (q := (.aload_n 0, 1)) (S' := (79, _, _, _, _)) (by decide +kernel) rfl ?_
        refine Ru.getR (pc' := 82) (i := 20) (ci := 4) (k := 1) (nn := 0) (z := 0) (v := .ref 19) (by decide +kernel) (by decide +kernel) (hp15 _) (by decide) rfl rfl ?_
        refine Ru.op (q := (.iload 4, 2)) (S' := (84, _, _, _, _)) (by decide +kernel) rfl ?_
        obtain ⟨g16, h⟩ := gd_some h
        refine Ru.ildI (pc' := 85) (i := ((S.A 17 v3) / 256)) (z := (S.A 19 ((S.A 17 v3) / 256))) (by decide +kernel) (hp19 _) g16 (eI_of _) rfl ?_
        refine Ru.kI (q := (.iconst (-1), 1)) (c := (-1)) (pc' := 86) (by decide +kernel) rfl (by decide) rfl ?_
        by_cases b17 : (S.A 19 ((S.A 17 v3) / 256)) = (-1)
        · replace h := if_t b17 h
          refine Ru.br2 (k := .ne) (off := 14) (bb := false) (tg := 89) (by decide +kernel) (by decide +kernel) (ci_ne0 (inR_to _) (by decide) b17) rfl ?_
          refine Ru.op (q := (.aload_n 0, 1)) (S' := (90, _, _, _, _)) (by decide +kernel) rfl ?_
          refine Ru.getR (pc' := 93) (i := 20) (ci := 4) (k := 1) (nn := 0) (z := 0) (v := .ref 19) (by decide +kernel) (by decide +kernel) (hp15 _) (by decide) rfl rfl ?_
          refine Ru.op (q := (.iload 4, 2)) (S' := (95, _, _, _, _)) (by decide +kernel) rfl ?_
          refine Ru.op (q := (.iload_n 2, 1)) (S' := (96, _, _, _, _)) (by decide +kernel) rfl ?_
          refine Ru.istI (pc' := 97) (i := ((S.A 17 v3) / 256)) (x := v2) (by decide +kernel) (hp19 _) g16 (ps_19 _ _ _) rfl ?_
          refine Ru.inc (k := 2) (n := 1) (x := v2) (z := (v2 + 1)) (xs' := [some (.ref 15), some (.ref 17), some (vI (v2 + 1)), some (vI v3), some (vI ((S.A 17 v3) / 256))]) (pc' := 100) (by decide +kernel) rfl rfl rfl rfl ?_
          refine Ru.op (q := (.aload_n 1, 1)) (S' := (101, _, _, _, _)) (by decide +kernel) rfl ?_
          refine Ru.op (q := (.iload_n 3, 1)) (S' := (102, _, _, _, _)) (by decide +kernel) rfl ?_
          refine Ru.op (q := (.aload_n 0, 1)) (S' := (103, _, _, _, _)) (by decide +kernel) rfl ?_
          refine Ru.getR (pc' := 106) (i := 20) (ci := 4) (k := 1) (nn := 0) (z := 0) (v := .ref 19) (by decide +kernel) (by decide +kernel) (hp15 _) (by decide) rfl rfl ?_
          refine Ru.op (q := (.iload 4, 2)) (S' := (108, _, _, _, _)) (by decide +kernel) rfl ?_
          refine Ru.ildI (pc' := 109) (i := ((S.A 17 v3) / 256)) (z := ((S.a 19 ((S.A 17 v3) / 256) v2).A 19 ((S.A 17 v3) / 256))) (by decide +kernel) (hp19 _) g16 (eI_of _) rfl ?_
          refine Ru.kI (q := (.bipush 8, 2)) (c := 8) (pc' := 111) (by decide +kernel) rfl (by decide) rfl ?_
          refine Ru.ar2 (i := .ishl) (z := (((S.a 19 ((S.A 17 v3) / 256) v2).A 19 ((S.A 17 v3) / 256)) * 256)) (pc' := 112) (by decide +kernel) rfl (ar_shl _) rfl ?_
          refine Ru.istI (pc' := 113) (i := v3) (x := (((S.a 19 ((S.A 17 v3) / 256) v2).A 19 ((S.A 17 v3) / 256)) * 256)) (by decide +kernel) (hp17 _) g14 (ps_17 _ _ _) rfl ?_
          refine Ru.inc (k := 3) (n := 1) (x := v3) (z := (v3 + 1)) (xs' := [some (.ref 15), some (.ref 17), some (vI (v2 + 1)), some (vI (v3 + 1)), some (vI ((S.A 17 v3) / 256))]) (pc' := 116) (by decide +kernel) rfl rfl rfl rfl ?_
          refine Ru.op (q := (.goto (-65), 3)) (S' := (51, _, _, _, _)) (by decide +kernel) rfl ?_
          exact ih _ _ _ _ ⟨rfl, trivial⟩ _ h r hk
        · replace h := if_f b17 h
          refine Ru.br2 (k := .ne) (off := 14) (bb := true) (tg := 100) (by decide +kernel) (by decide +kernel) (ci_ne1 (inR_to _) (by decide) b17) rfl ?_
          refine Ru.op (q := (.aload_n 1, 1)) (S' := (101, _, _, _, _)) (by decide +kernel) rfl ?_
          refine Ru.op (q := (.iload_n 3, 1)) (S' := (102, _, _, _, _)) (by decide +kernel) rfl ?_
          refine Ru.op (q := (.aload_n 0, 1)) (S' := (103, _, _, _, _)) (by decide +kernel) rfl ?_
          refine Ru.getR (pc' := 106) (i := 20) (ci := 4) (k := 1) (nn := 0) (z := 0) (v := .ref 19) (by decide +kernel) (by decide +kernel) (hp15 _) (by decide) rfl rfl ?_
          refine Ru.op (q := (.iload 4, 2)) (S' := (108, _, _, _, _)) (by decide +kernel) rfl ?_
          refine Ru.ildI (pc' := 109) (i := ((S.A 17 v3) / 256)) (z := (S.A 19 ((S.A 17 v3) / 256))) (by decide +kernel) (hp19 _) g16 (eI_of _) rfl ?_
          refine Ru.kI (q := (.bipush 8, 2)) (c := 8) (pc' := 111) (by decide +kernel) rfl (by decide) rfl ?_
          refine Ru.ar2 (i := .ishl) (z := ((S.A 19 ((S.A 17 v3) / 256)) * 256)) (pc' := 112) (by decide +kernel) rfl (ar_shl _) rfl ?_
          refine Ru.istI (pc' := 113) (i := v3) (x := ((S.A 19 ((S.A 17 v3) / 256)) * 256)) (by decide +kernel) (hp17 _) g14 (ps_17 _ _ _) rfl ?_
          refine Ru.inc (k := 3) (n := 1) (x := v3) (z := (v3 + 1)) (xs' := [some (.ref 15), some (.ref 17), some (vI v2), some (vI (v3 + 1)), some (vI ((S.A 17 v3) / 256))]) (pc' := 116) (by decide +kernel) rfl rfl rfl rfl ?_
          refine Ru.op (q := (.goto (-65), 3)) (S' := (51, _, _, _, _)) (by decide +kernel) rfl ?_
          exact ih _ _ _ _ ⟨rfl, trivial⟩ _ h r hk
      · replace h := if_f b15 h
        refine Ru.br2 (k := .ge) (off := 46) (bb := true) (tg := 113) (by decide +kernel) (by decide +kernel) (ci_ge1 (inR_to _) (by decide) b15) rfl ?_
        refine Ru.inc (k := 3) (n := 1) (x := v3) (z := (v3 + 1)) (xs' := [some (.ref 15), some (.ref 17), some (vI v2), some (vI (v3 + 1)), d4]) (pc' := 116) (by decide +kernel) rfl rfl rfl rfl ?_
        refine Ru.op (q := (.goto (-65), 3)) (S' := (51, _, _, _, _)) (by decide +kernel) rfl ?_
        exact ih _ _ _ _ ⟨hdd.1, trivial⟩ _ h r hk
    · replace h := if_f b13 h
      refine Ru.br2 (k := .ge) (off := 60) (bb := true) (tg := 119) (by decide +kernel) (by decide +kernel) (ci_ge1 g12 (inR_to _) b13) rfl ?_
      cases h
      exact hk _ _ _ _ _ ⟨rfl, rfl, rfl, rfl, hdd.1, trivial⟩
set_option maxRecDepth 100000 in
set_option maxHeartbeats 4000000 in
theorem g48_15_ok {S : St} {o : St} (h : g48_15 S  = some o) : Ru none 10 200 48 (0, mn_pad (mn_ent [.ref 15]) 5, [], S.ns, Hp S) ((0, none), o.ns, Hp o) := by
  unfold g48_15 at h
  show Ru none 10 200 48 (0, [some (.ref 15), none, none, none, none], [], S.ns, Hp S) _
  refine Ru.op (q := (.aload_n 0, 1)) (S' := (1, _, _, _, _)) (by decide +kernel) rfl ?_
  refine Ru.getR (pc' := 4) (i := 14) (ci := 4) (k := 0) (nn := 0) (z := 0) (v := .ref 16) (by decide +kernel) (by decide +kernel) (hp15 _) (by decide) rfl rfl ?_
  refine Ru.getR (pc' := 7) (i := 41) (ci := 5) (k := 0) (nn := 0) (z := 0) (v := .ref 17) (by decide +kernel) (by decide +kernel) (hp16 _) (by decide) rfl rfl ?_
  refine Ru.op (q := (.astore_n 1, 1)) (S' := (8, [some (.ref 15), some (.ref 17), none, none, none], [], _, _)) (by decide +kernel) rfl ?_
  refine Ru.kI (q := (.iconst 0, 1)) (c := 0) (pc' := 9) (by decide +kernel) rfl (by decide) rfl ?_
  refine Ru.op (q := (.istore_n 2, 1)) (S' := (10, [some (.ref 15), some (.ref 17), some (vI 0), none, none], [], _, _)) (by decide +kernel) rfl ?_
  obtain ⟨o6, e10, h⟩ := ob_some h
  refine g48_15L10_ok FU _ _ _ _ ⟨rfl, rfl, trivial⟩ _ e10 _ ?_
  intro d7 d8 d9 hd11
  refine Ru.kI (q := (.iconst 0, 1)) (c := 0) (pc' := 48) (by decide +kernel) rfl (by decide) rfl ?_
  refine Ru.op (q := (.istore_n 2, 1)) (S' := (49, [some (.ref 15), some (.ref 17), some (vI 0), d8, d9], [], _, _)) (by decide +kernel) rfl ?_
  refine Ru.kI (q := (.iconst 0, 1)) (c := 0) (pc' := 50) (by decide +kernel) rfl (by decide) rfl ?_
  refine Ru.op (q := (.istore_n 3, 1)) (S' := (51, [some (.ref 15), some (.ref 17), some (vI 0), some (vI 0), d9], [], _, _)) (by decide +kernel) rfl ?_
  obtain ⟨o18, e24, h⟩ := ob_some h
  refine g48_15L51_ok FU _ _ _ _ ⟨hd11.2.2.1, trivial⟩ _ e24 _ ?_
  intro d19 d20 d21 d22 d23 hd25
  cases h
  exact Ru.end (q := (.return_, 1)) (by decide +kernel) rfl rfl
set_option maxRecDepth 100000 in
set_option maxHeartbeats 4000000 in
theorem g40_15_ok {S : St} {v1 : Int} {v2 : Int} {o : St} (h : g40_15 S v1 v2 = some o) : Ru none 79 2046 40 (0, mn_pad (mn_ent [.ref 3, vI v1, vI v2, .ref 15]) 4, [], S.ns, Hp S) ((0, none), o.ns, Hp o) := by
  unfold g40_15 at h
  show Ru none 79 2046 40 (0, [some (.ref 3), some (vI v1), some (vI v2), some (.ref 15)], [], S.ns, Hp S) _
  refine Ru.op (q := (.aload_n 3, 1)) (S' := (1, _, _, _, _)) (by decide +kernel) rfl ?_
  obtain ⟨o1, e2, h⟩ := ob_some h
  refine Ru.vcallI (pc' := 4) (st' := []) (i := 54) (j2 := 41) (ci := 4) (k := 0) (z := 0) (as := []) (by decide +kernel) (by decide +kernel) rfl rfl (hp15 _) (by decide) ⟨(Nat.le_of_ble_eq_true rfl), (by show 19 + 1 ≤ 2046; exact Nat.le_of_ble_eq_true rfl), Nat.le_of_ble_eq_true rfl, Nat.le_of_ble_eq_true rfl⟩ ((g41_15_ok e2).up (Nat.le_of_ble_eq_true rfl) (Nat.le_of_ble_eq_true rfl)) rfl rfl ?_
  refine Ru.op (q := (.aload_n 0, 1)) (S' := (5, _, _, _, _)) (by decide +kernel) rfl ?_
  refine Ru.op (q := (.iload_n 1, 1)) (S' := (6, _, _, _, _)) (by decide +kernel) rfl ?_
  refine Ru.op (q := (.iload_n 2, 1)) (S' := (7, _, _, _, _)) (by decide +kernel) rfl ?_
  refine Ru.op (q := (.aload_n 3, 1)) (S' := (8, _, _, _, _)) (by decide +kernel) rfl ?_
  refine Ru.kI (q := (.iconst 0, 1)) (c := 0) (pc' := 9) (by decide +kernel) rfl (by decide) rfl ?_
  obtain ⟨o3, e4, h⟩ := ob_some h
  refine Ru.vcallI (pc' := 12) (st' := []) (i := 59) (j2 := 42) (ci := 2) (k := 0) (z := 0) (as := [vI v1, vI v2, .ref 15, vI 0]) (by decide +kernel) (by decide +kernel) rfl rfl (hp3 _) (by decide) ⟨(Nat.le_of_ble_eq_true rfl), (by show 19 + 8 ≤ 2046; exact Nat.le_of_ble_eq_true rfl), Nat.le_of_ble_eq_true rfl, Nat.le_of_ble_eq_true rfl⟩ ((g42_15_ok 64 e4).up (Nat.le_of_ble_eq_true rfl) (Nat.le_of_ble_eq_true rfl)) rfl rfl ?_
  refine Ru.op (q := (.aload_n 3, 1)) (S' := (13, _, _, _, _)) (by decide +kernel) rfl ?_
  obtain ⟨o5, e6, h⟩ := ob_some h
  refine Ru.vcallI (pc' := 16) (st' := []) (i := 63) (j2 := 48) (ci := 4) (k := 0) (z := 0) (as := []) (by decide +kernel) (by decide +kernel) rfl rfl (hp15 _) (by decide) ⟨(Nat.le_of_ble_eq_true rfl), (by show 19 + 5 ≤ 2046; exact Nat.le_of_ble_eq_true rfl), Nat.le_of_ble_eq_true rfl, Nat.le_of_ble_eq_true rfl⟩ ((g48_15_ok e6).up (Nat.le_of_ble_eq_true rfl) (Nat.le_of_ble_eq_true rfl)) rfl rfl ?_
  cases h
  exact Ru.end (q := (.return_, 1)) (by decide +kernel) rfl rfl
set_option maxRecDepth 100000 in
set_option maxHeartbeats 4000000 in
theorem g50_15_ok {S : St} {o : Int} (h : g50_15 S  = some o) : Ru none 10 200 50 (0, mn_pad (mn_ent [.ref 15]) 1, [], S.ns, Hp S) ((0, some (vI o)), S.ns, Hp S) := by
  unfold g50_15 at h
  show Ru none 10 200 50 (0, [some (.ref 15)], [], S.ns, Hp S) _
  refine Ru.op (q := (.aload_n 0, 1)) (S' := (1, _, _, _, _)) (by decide +kernel) rfl ?_
  refine Ru.getI (pc' := 4) (i := 37) (ci := 4) (k := 3) (nn := 0) (z := 0) (x := (S.F 15 3)) (by decide +kernel) (by decide +kernel) (hp15 _) (by decide) rfl (eI_of _) rfl ?_
  by_cases b1 : (S.F 15 3) = 0
  · replace h := if_t b1 h
    refine Ru.br (k := .ne) (off := 19) (bb := false) (tg := 7) (by decide +kernel) (by decide +kernel) (cz (ci_ne0 (inR_to _) (by decide) b1)) rfl ?_
    refine Ru.op (q := (.aload_n 0, 1)) (S' := (8, _, _, _, _)) (by decide +kernel) rfl ?_
    refine Ru.getR (pc' := 11) (i := 14) (ci := 4) (k := 0) (nn := 0) (z := 0) (v := .ref 16) (by decide +kernel) (by decide +kernel) (hp15 _) (by decide) rfl rfl ?_
    refine Ru.getI (pc' := 14) (i := 28) (ci := 5) (k := 3) (nn := 0) (z := 0) (x := (S.F 16 3)) (by decide +kernel) (by decide +kernel) (hp16 _) (by decide) rfl (eI_of _) rfl ?_
    refine Ru.kI (q := (.bipush 16, 2)) (c := 16) (pc' := 16) (by decide +kernel) rfl (by decide) rfl ?_
    by_cases b2 : 16 < (S.F 16 3)
    · replace h := if_t b2 h
      refine Ru.br2 (k := .gt) (off := 7) (bb := true) (tg := 23) (by decide +kernel) (by decide +kernel) (ci_gt1 (inR_to _) (by decide) b2) rfl ?_
      refine Ru.kI (q := (.iconst 0, 1)) (c := 0) (pc' := 24) (by decide +kernel) rfl (by decide) rfl ?_
      cases h
      exact Ru.iret (by decide +kernel) rfl (nar_b1 (by decide))
    · replace h := if_f b2 h
      refine Ru.br2 (k := .gt) (off := 7) (bb := false) (tg := 19) (by decide +kernel) (by decide +kernel) (ci_gt0 (inR_to _) (by decide) b2) rfl ?_
      refine Ru.kI (q := (.iconst 1, 1)) (c := 1) (pc' := 20) (by decide +kernel) rfl (by decide) rfl ?_
      refine Ru.op (q := (.goto 4, 3)) (S' := (24, _, _, _, _)) (by decide +kernel) rfl ?_
      cases h
      exact Ru.iret (by decide +kernel) rfl (nar_b1 (by decide))
  · replace h := if_f b1 h
    refine Ru.br (k := .ne) (off := 19) (bb := true) (tg := 23) (by decide +kernel) (by decide +kernel) (cz (ci_ne1 (inR_to _) (by decide) b1)) rfl ?_
    refine Ru.kI (q := (.iconst 0, 1)) (c := 0) (pc' := 24) (by decide +kernel) rfl (by decide) rfl ?_
    cases h
    exact Ru.iret (by decide +kernel) rfl (nar_b1 (by decide))
set_option maxRecDepth 100000 in
set_option maxHeartbeats 4000000 in
theorem g52_15_ok {S : St} {v1 : Int} {v2 : Int} {v3 : Int} {o : Int} (h : g52_15 S v1 v2 v3 = some o) : Ru none 11 224 52 (0, mn_pad (mn_ent [.ref 15, vI v1, vI v2, vI v3]) 4, [], S.ns, Hp S) ((0, some (vI o)), S.ns, Hp S) := by
  unfold g52_15 at h
  show Ru none 11 224 52 (0, [some (.ref 15), some (vI v1), some (vI v2), some (vI v3)], [], S.ns, Hp S) _
  refine Ru.op (q := (.aload_n 0, 1)) (S' := (1, _, _, _, _)) (by decide +kernel) rfl ?_
  refine Ru.getR (pc' := 4) (i := 14) (ci := 4) (k := 0) (nn := 0) (z := 0) (v := .ref 16) (by decide +kernel) (by decide +kernel) (hp15 _) (by decide) rfl rfl ?_
  refine Ru.getR (pc' := 7) (i := 41) (ci := 5) (k := 0) (nn := 0) (z := 0) (v := .ref 17) (by decide +kernel) (by decide +kernel) (hp16 _) (by decide) rfl rfl ?_
  refine Ru.op (q := (.iload_n 1, 1)) (S' := (8, _, _, _, _)) (by decide +kernel) rfl ?_
  obtain ⟨g1, h⟩ := gd_some h
  refine Ru.ildI (pc' := 9) (i := v1) (z := (S.A 17 v1)) (by decide +kernel) (hp17 _) g1 (eI_of _) rfl ?_
  refine Ru.op (q := (.aload_n 0, 1)) (S' := (10, _, _, _, _)) (by decide +kernel) rfl ?_
  refine Ru.getR (pc' := 13) (i := 14) (ci := 4) (k := 0) (nn := 0) (z := 0) (v := .ref 16) (by decide +kernel) (by decide +kernel) (hp15 _) (by decide) rfl rfl ?_
  refine Ru.getR (pc' := 16) (i := 41) (ci := 5) (k := 0) (nn := 0) (z := 0) (v := .ref 17) (by decide +kernel) (by decide +kernel) (hp16 _) (by decide) rfl rfl ?_
  refine Ru.op (q := (.iload_n 2, 1)) (S' := (17, _, _, _, _)) (by decide +kernel) rfl ?_
  obtain ⟨g2, h⟩ := gd_some h
  refine Ru.ildI (pc' := 18) (i := v2) (z := (S.A 17 v2)) (by decide +kernel) (hp17 _) g2 (eI_of _) rfl ?_
  obtain ⟨g3, h⟩ := gd_some h
  refine Ru.ar2 (i := .ixor) (z := (xr (S.A 17 v1) (S.A 17 v2))) (pc' := 19) (by decide +kernel) rfl (ar_xor g3) rfl ?_
  refine Ru.kI (q := (.sipush 256, 3)) (c := 256) (pc' := 22) (by decide +kernel) rfl (by decide) rfl ?_
  obtain ⟨g4, h⟩ := gd_some h
  by_cases b5 : (xr (S.A 17 v1) (S.A 17 v2)) = 256
  · replace h := if_t b5 h
    refine Ru.br2 (k := .ne) (off := 31) (bb := false) (tg := 25) (by decide +kernel) (by decide +kernel) (ci_ne0 g4 (by decide) b5) rfl ?_
    refine Ru.op (q := (.aload_n 0, 1)) (S' := (26, _, _, _, _)) (by decide +kernel) rfl ?_
    refine Ru.getR (pc' := 29) (i := 14) (ci := 4) (k := 0) (nn := 0) (z := 0) (v := .ref 16) (by decide +kernel) (by decide +kernel) (hp15 _) (by decide) rfl rfl ?_
    refine Ru.getR (pc' := 32) (i := 41) (ci := 5) (k := 0) (nn := 0) (z := 0) (v := .ref 17) (by decide +kernel) (by decide +kernel) (hp16 _) (by decide) rfl rfl ?_
    refine Ru.op (q := (.iload_n 1, 1)) (S' := (33, _, _, _, _)) (by decide +kernel) rfl ?_
    refine Ru.kI (q := (.iconst 1, 1)) (c := 1) (pc' := 34) (by decide +kernel) rfl (by decide) rfl ?_
    refine Ru.ar2 (i := .iadd) (z := (v1 + 1)) (pc' := 35) (by decide +kernel) rfl (ar_add _ _) rfl ?_
    refine Ru.op (q := (.iload_n 2, 1)) (S' := (36, _, _, _, _)) (by decide +kernel) rfl ?_
    refine Ru.kI (q := (.iconst 1, 1)) (c := 1) (pc' := 37) (by decide +kernel) rfl (by decide) rfl ?_
    refine Ru.ar2 (i := .iadd) (z := (v2 + 1)) (pc' := 38) (by decide +kernel) rfl (ar_add _ _) rfl ?_
    refine Ru.op (q := (.iload_n 3, 1)) (S' := (39, _, _, _, _)) (by decide +kernel) rfl ?_
    refine Ru.op (q := (.iload_n 1, 1)) (S' := (40, _, _, _, _)) (by decide +kernel) rfl ?_
    refine Ru.ar2 (i := .isub) (z := (v3 - v1)) (pc' := 41) (by decide +kernel) rfl (ar_sub _ _) rfl ?_
    refine Ru.kI (q := (.iconst 1, 1)) (c := 1) (pc' := 42) (by decide +kernel) rfl (by decide) rfl ?_
    refine Ru.ar2 (i := .isub) (z := ((v3 - v1) - 1)) (pc' := 43) (by decide +kernel) rfl (ar_sub _ _) rfl ?_
    obtain ⟨o6, e7, h⟩ := ob_some h
    refine Ru.callI (pc' := 46) (q := (.invokestatic 55, 3)) (j2 := 47) (as := [.ref 17, vI (v1 + 1), vI (v2 + 1), vI ((v3 - v1) - 1)]) (st' := [vI o6]) (by decide +kernel) rfl rfl rfl rfl ⟨(Nat.le_of_ble_eq_true rfl), (by show 19 + 5 ≤ 224; exact Nat.le_of_ble_eq_true rfl), Nat.le_of_ble_eq_true rfl, Nat.le_of_ble_eq_true rfl⟩ ((g47_ok e7).up (Nat.le_of_ble_eq_true rfl) (Nat.le_of_ble_eq_true rfl)) rfl rfl ?_
    obtain ⟨g8, h⟩ := gd_some h
    by_cases b9 : o6 = 0
    · replace h := if_t b9 h
      refine Ru.br (k := .eq) (off := 7) (bb := true) (tg := 53) (by decide +kernel) (by decide +kernel) (cz (ci_eq1 g8 (by decide) b9)) rfl ?_
      refine Ru.kI (q := (.iconst 0, 1)) (c := 0) (pc' := 54) (by decide +kernel) rfl (by decide) rfl ?_
      cases h
      exact Ru.iret (by decide +kernel) rfl (nar_b1 (by decide))
    · replace h := if_f b9 h
      refine Ru.br (k := .eq) (off := 7) (bb := false) (tg := 49) (by decide +kernel) (by decide +kernel) (cz (ci_eq0 g8 (by decide) b9)) rfl ?_
      refine Ru.kI (q := (.iconst 1, 1)) (c := 1) (pc' := 50) (by decide +kernel) rfl (by decide) rfl ?_
      refine Ru.op (q := (.goto 4, 3)) (S' := (54, _, _, _, _)) (by decide +kernel) rfl ?_
      cases h
      exact Ru.iret (by decide +kernel) rfl (nar_b1 (by decide))
  · replace h := if_f b5 h
    refine Ru.br2 (k := .ne) (off := 31) (bb := true) (tg := 53) (by decide +kernel) (by decide +kernel) (ci_ne1 g4 (by decide) b5) rfl ?_
    refine Ru.kI (q := (.iconst 0, 1)) (c := 0) (pc' := 54) (by decide +kernel) rfl (by decide) rfl ?_
    cases h
    exact Ru.iret (by decide +kernel) rfl (nar_b1 (by decide))
set_option maxRecDepth 100000 in
set_option maxHeartbeats 4000000 in
theorem g51_15L15_ok {S : St} {v1 : Int} : ∀ (n : Nat) (v2 : Int) (_ : DD []) (out : Sum (Unit) (Int)), g51_15L15 S v1 n v2 = some out → ∀ r, (∀ o, out = .inl o → ∀ (e2 : Option Value), DD [e2] → Ru none 12 247 51 (64, [some (.ref 15), some (vI v1), e2], [], S.ns, Hp S) r) → (∀ o, out = .inr o → r = ((0, some (vI o)), S.ns, Hp S)) → Ru none 12 247 51 (15, [some (.ref 15), some (vI v1), some (vI v2)], [], S.ns, Hp S) r := by
  intro n
  induction n with
  | zero => intro v2 hdd out h; cases h
  | succ n ih =>
    intro v2 hdd out h r hk hr
    unfold g51_15L15 at h
    refine Ru.op (q := (.iload_n 2, 1)) (S' := (16, _, _, _, _)) (by decide +kernel) rfl ?_
    refine Ru.op (q := (.iload_n 1, 1)) (S' := (17, _, _, _, _)) (by decide +kernel) rfl ?_
    obtain ⟨g13, h⟩ := gd_some h
    obtain ⟨g14, h⟩ := gd_some h
    by_cases b15 : v2 < v1
    · replace h := if_t b15 h
      refine Ru.br2 (k := .ge) (off := 47) (bb := false) (tg := 20) (by decide +kernel) (by decide +kernel) (ci_ge0 g13 g14 b15) rfl ?_
      refine Ru.op (q := (.aload_n 0, 1)) (S' := (21, _, _, _, _)) (by decide +kernel) rfl ?_
      refine Ru.op (q := (.aload_n 0, 1)) (S' := (22, _, _, _, _)) (by decide +kernel) rfl ?_
      refine Ru.getR (pc' := 25) (i := 14) (ci := 4) (k := 0) (nn := 0) (z := 0) (v := .ref 16) (by decide +kernel) (by decide +kernel) (hp15 _) (by decide) rfl rfl ?_
      refine Ru.getR (pc' := 28) (i := 31) (ci := 5) (k := 1) (nn := 0) (z := 0) (v := .ref 18) (by decide +kernel) (by decide +kernel) (hp16 _) (by decide) rfl rfl ?_
      refine Ru.op (q := (.iload_n 1, 1)) (S' := (29, _, _, _, _)) (by decide +kernel) rfl ?_
      obtain ⟨g16, h⟩ := gd_some h
      refine Ru.ildI (pc' := 30) (i := v1) (z := (S.A 18 v1)) (by decide +kernel) (hp18 _) g16 (eI_of _) rfl ?_
      refine Ru.op (q := (.aload_n 0, 1)) (S' := (31, _, _, _, _)) (by decide +kernel) rfl ?_
      refine Ru.getR (pc' := 34) (i := 14) (ci := 4) (k := 0) (nn := 0) (z := 0) (v := .ref 16) (by decide +kernel) (by decide +kernel) (hp15 _) (by decide) rfl rfl ?_
      refine Ru.getR (pc' := 37) (i := 31) (ci := 5) (k := 1) (nn := 0) (z := 0) (v := .ref 18) (by decide +kernel) (by decide +kernel) (hp16 _) (by decide) rfl rfl ?_
      refine Ru.op (q := (.iload_n 2, 1)) (S' := (38, _, _, _, _)) (by decide +kernel) rfl ?_
      obtain ⟨g17, h⟩ := gd_some h
      refine Ru.ildI (pc' := 39) (i := v2) (z := (S.A 18 v2)) (by decide +kernel) (hp18 _) g17 (eI_of _) rfl ?_
      refine Ru.op (q := (.aload_n 0, 1)) (S' := (40, _, _, _, _)) (by decide +kernel) rfl ?_
      refine Ru.getR (pc' := 43) (i := 14) (ci := 4) (k := 0) (nn := 0) (z := 0) (v := .ref 16) (by decide +kernel) (by decide +kernel) (hp15 _) (by decide) rfl rfl ?_
      refine Ru.getR (pc' := 46) (i := 31) (ci := 5) (k := 1) (nn := 0) (z := 0) (v := .ref 18) (by decide +kernel) (by decide +kernel) (hp16 _) (by decide) rfl rfl ?_
      refine Ru.op (q := (.iload_n 1, 1)) (S' := (47, _, _, _, _)) (by decide +kernel) rfl ?_
      refine Ru.kI (q := (.iconst 1, 1)) (c := 1) (pc' := 48) (by decide +kernel) rfl (by decide) rfl ?_
      refine Ru.ar2 (i := .iadd) (z := (v1 + 1)) (pc' := 49) (by decide +kernel) rfl (ar_add _ _) rfl ?_
      obtain ⟨g18, h⟩ := gd_some h
      refine Ru.ildI (pc' := 50) (i := (v1 + 1)) (z := (S.A 18 (v1 + 1))) (by decide +kernel) (hp18 _) g18 (eI_of _) rfl ?_
      obtain ⟨o19, e20, h⟩ := ob_some h
      refine Ru.vcallI (pc' := 53) (st' := [vI o19]) (i := 60) (j2 := 52) (ci := 4) (k := 0) (z := 0) (as := [vI (S.A 18 v1), vI (S.A 18 v2), vI (S.A 18 (v1 + 1))]) (by decide +kernel) (by decide +kernel) rfl rfl (hp15 _) (by decide) ⟨(Nat.le_of_ble_eq_true rfl), (by show 19 + 4 ≤ 247; exact Nat.le_of_ble_eq_true rfl), Nat.le_of_ble_eq_true rfl, Nat.le_of_ble_eq_true rfl⟩ ((g52_15_ok e20).up (Nat.le_of_ble_eq_true rfl) (Nat.le_of_ble_eq_true rfl)) rfl rfl ?_
      obtain ⟨g21, h⟩ := gd_some h
      by_cases b22 : o19 = 0
      · replace h := if_t b22 h
        refine Ru.br (k := .eq) (off := 5) (bb := true) (tg := 58) (by decide +kernel) (by decide +kernel) (cz (ci_eq1 g21 (by decide) b22)) rfl ?_
        refine Ru.inc (k := 2) (n := 1) (x := v2) (z := (v2 + 1)) (xs' := [some (.ref 15), some (vI v1), some (vI (v2 + 1))]) (pc' := 61) (by decide +kernel) rfl rfl rfl rfl ?_
        refine Ru.op (q := (.goto (-46), 3)) (S' := (15, _, _, _, _)) (by decide +kernel) rfl ?_
        exact ih _ trivial _ h r hk hr
      · replace h := if_f b22 h
        refine Ru.br (k := .eq) (off := 5) (bb := false) (tg := 56) (by decide +kernel) (by decide +kernel) (cz (ci_eq0 g21 (by decide) b22)) rfl ?_
        refine Ru.kI (q := (.iconst 1, 1)) (c := 1) (pc' := 57) (by decide +kernel) rfl (by decide) rfl ?_
        cases h
        have h9 := hr _ rfl
        subst h9
        exact Ru.iret (by decide +kernel) rfl (nar_b1 (by decide))
    · replace h := if_f b15 h
      refine Ru.br2 (k := .ge) (off := 47) (bb := true) (tg := 64) (by decide +kernel) (by decide +kernel) (ci_ge1 g13 g14 b15) rfl ?_
      cases h
      exact hk _ rfl _ ⟨rfl, trivial⟩
set_option maxRecDepth 100000 in
set_option maxHeartbeats 4000000 in
theorem g51_15L2_ok {S : St} : ∀ (n : Nat) (v1 : Int) (d2 : Option Value) (_ : DD [d2]) (out : Sum (Unit) (Int)), g51_15L2 S n v1 = some out → ∀ r, (∀ o, out = .inl o → ∀ (e0 e1 e2 : Option Value), DD [e0, e1, e2] → Ru none 12 247 51 (70, [e0, e1, e2], [], S.ns, Hp S) r) → (∀ o, out = .inr o → r = ((0, some (vI o)), S.ns, Hp S)) → Ru none 12 247 51 (2, [some (.ref 15), some (vI v1), d2], [], S.ns, Hp S) r := by
  intro n
  induction n with
  | zero => intro v1 d2 hdd out h; cases h
  | succ n ih =>
    intro v1 d2 hdd out h r hk hr
    unfold g51_15L2 at h
    refine Ru.op (q := (.iload_n 1, 1)) (S' := (3, _, _, _, _)) (by decide +kernel) rfl ?_
    refine Ru.op (q := (.aload_n 0, 1)) (S' := (4, _, _, _, _)) (by decide +kernel) rfl ?_
    refine Ru.getR (pc' := 7) (i := 14) (ci := 4) (k := 0) (nn := 0) (z := 0) (v := .ref 16) (by decide +kernel) (by decide +kernel) (hp15 _) (by decide) rfl rfl ?_
    refine Ru.getI (pc' := 10) (i := 24) (ci := 5) (k := 2) (nn := 0) (z := 0) (x := (S.F 16 2)) (by decide +kernel) (by decide +kernel) (hp16 _) (by decide) rfl (eI_of _) rfl ?_
    obtain ⟨g27, h⟩ := gd_some h
    by_cases b28 : v1 < (S.F 16 2)
    · replace h := if_t b28 h
      refine Ru.br2 (k := .ge) (off := 60) (bb := false) (tg := 13) (by decide +kernel) (by decide +kernel) (ci_ge0 g27 (inR_to _) b28) rfl ?_
      refine Ru.kI (q := (.iconst 0, 1)) (c := 0) (pc' := 14) (by decide +kernel) rfl (by decide) rfl ?_
      refine Ru.op (q := (.istore_n 2, 1)) (S' := (15, [some (.ref 15), some (vI v1), some (vI 0)], [], _, _)) (by decide +kernel) rfl ?_
      rcases obs_some h with ⟨o29, e31, h⟩ | ⟨o9, e31, h9⟩
      · refine g51_15L15_ok FU _ trivial _ e31 _ (fun o' e' => ?_) (fun o' e' => by cases e')
        cases e'
        intro d30 hd32
        refine Ru.inc (k := 1) (n := 1) (x := v1) (z := (v1 + 1)) (xs' := [some (.ref 15), some (vI (v1 + 1)), d30]) (pc' := 67) (by decide +kernel) rfl rfl rfl rfl ?_
        refine Ru.op (q := (.goto (-65), 3)) (S' := (2, _, _, _, _)) (by decide +kernel) rfl ?_
        exact ih _ _ ⟨hd32.1, trivial⟩ _ h r hk hr
      · exact g51_15L15_ok FU _ trivial _ e31 _ (fun o' e' => by cases e') (fun o' e' => by cases e'; exact hr _ h9)
    · replace h := if_f b28 h
      refine Ru.br2 (k := .ge) (off := 60) (bb := true) (tg := 70) (by decide +kernel) (by decide +kernel) (ci_ge1 g27 (inR_to _) b28) rfl ?_
      cases h
      exact hk _ rfl _ _ _ ⟨rfl, rfl, hdd.1, trivial⟩
set_option maxRecDepth 100000 in
set_option maxHeartbeats 4000000 in
theorem g51_15_ok {S : St} {o : Int} (h : g51_15 S  = some o) : Ru none 12 247 51 (0, mn_pad (mn_ent [.ref 15]) 3, [], S.ns, Hp S) ((0, some (vI o)), S.ns, Hp S) := by
  unfold g51_15 at h
  show Ru none 12 247 51 (0, [some (.ref 15), none, none], [], S.ns, Hp S) _
  refine Ru.kI (q := (.iconst 1, 1)) (c := 1) (pc' := 1) (by decide +kernel) rfl (by decide) rfl ?_
  refine Ru.op (q := (.istore_n 1, 1)) (S' := (2, [some (.ref 15), some (vI 1), none], [], _, _)) (by decide +kernel) rfl ?_
  rcases obr_some h with ⟨o33, e37, h⟩ | e37
  · refine g51_15L2_ok FU _ _ ⟨rfl, trivial⟩ _ e37 _ (fun o' e' => ?_) (fun o' e' => by cases e')
    cases e'
    intro d34 d35 d36 hd38
    refine Ru.kI (q := (.iconst 0, 1)) (c := 0) (pc' := 71) (by decide +kernel) rfl (by decide) rfl ?_
    cases h
    exact Ru.iret (by decide +kernel) rfl (nar_b1 (by decide))
  · exact g51_15L2_ok FU _ _ ⟨rfl, trivial⟩ _ e37 _ (fun o' e' => by cases e') (fun o' e' => by cases e'; rfl)
set_option maxRecDepth 100000 in
set_option maxHeartbeats 4000000 in
theorem g55L2_ok {v1 : Int} {v2 : Nat} : ∀ (n : Nat) (v3 : Int) (S : St) (_ : DD []) (out : St), g55L2 v1 v2 n v3 S = some out → ∀ r, (∀ (e0 e1 e2 e3 : Option Value), DD [e0, e1, e2, e3] → Ru none 10 200 55 (39, [e0, e1, e2, e3], [], out.ns, Hp out) r) → Ru none 10 200 55 (2, [some (.ref 23), some (vI v1), some (.ref v2), some (vI v3)], [], S.ns, Hp S) r := by
  intro n
  induction n with
  | zero => intro v3 S hdd out h; cases h
  | succ n ih =>
    intro v3 S hdd out h r hk
    unfold g55L2 at h
    refine Ru.op (q := (.iload_n 3, 1)) (S' := (3, _, _, _, _)) (by decide +kernel) rfl ?_
    refine Ru.op (q := (.aload_n 2, 1)) (S' := (4, _, _, _, _)) (by decide +kernel) rfl ?_
    obtain ⟨c1, c2, n3, n4, e5, q6, h⟩ := gC_some h
    refine Ru.getR (pc' := 7) (i := 50) (ci := 5) (k := 3) (nn := 0) (z := 0) (v := vI n4) (by decide +kernel) (by decide +kernel) q6 (by decide) rfl rfl ?_
    obtain ⟨g7, h⟩ := gd_some h
    by_cases b8 : v3 < n4
    · replace h := if_t b8 h
      refine Ru.br2 (k := .ge) (off := 32) (bb := false) (tg := 10) (by decide +kernel) (by decide +kernel) (ci_ge0 g7 e5.2 b8) rfl ?_
      refine Ru.op (q := (.iload_n 3, 1)) (S' := (11, _, _, _, _)) (by decide +kernel) rfl ?_
      refine Ru.kI (q := (.bipush 64, 2)) (c := 64) (pc' := 13) (by decide +kernel) rfl (by decide) rfl ?_
      by_cases b9 : v3 < 64
      · replace h := if_t b9 h
        refine Ru.br2 (k := .ge) (off := 26) (bb := false) (tg := 16) (by decide +kernel) (by decide +kernel) (ci_ge0 g7 (by decide) b9) rfl ?_
        refine Ru.op (q := (.aload_n 0, 1)) (S' := (17, _, _, _, _)) (by decide +kernel) rfl ?_
        refine Ru.getR (pc' := 20) (i := 15) (ci := 7) (k := 1) (nn := 0) (z := 0) (v := .ref 25) (by decide +kernel) (by decide +kernel) (hp23 _) (by decide) rfl rfl ?_
        refine Ru.op (q := (.iload_n 3, 1)) (S' := (21, _, _, _, _)) (by decide +kernel) rfl ?_
        obtain ⟨g10, h⟩ := gd_some h
        refine Ru.ildI (pc' := 22) (i := v3) (z := (S.A 25 v3)) (by decide +kernel) (hp25 _) g10 (eI_of _) rfl ?_
        refine Ru.op (q := (.iload_n 1, 1)) (S' := (23, _, _, _, _)) (by decide +kernel) rfl ?_
        obtain ⟨g11, h⟩ := gd_some h
        by_cases b12 : (S.A 25 v3) < v1
        · replace h := if_t b12 h
          refine Ru.br2 (k := .lt) (off := 10) (bb := true) (tg := 33) (by decide +kernel) (by decide +kernel) (ci_lt1 (inR_to _) g11 b12) rfl ?_
          refine Ru.inc (k := 3) (n := 1) (x := v3) (z := (v3 + 1)) (xs' := [some (.ref 23), some (vI v1), some (.ref v2), some (vI (v3 + 1))]) (pc' := 36) (by decide +kernel) rfl rfl rfl rfl ?_
          refine Ru.op (q := (.goto (-34), 3)) (S' := (2, _, _, _, _)) (by decide +kernel) rfl ?_
          exact ih _ _ trivial _ h r hk
        · replace h := if_f b12 h
          refine Ru.br2 (k := .lt) (off := 10) (bb := false) (tg := 26) (by decide +kernel) (by decide +kernel) (ci_lt0 (inR_to _) g11 b12) rfl ?_
          refine Ru.op (q := (.aload_n 0, 1)) (S' := (27, _, _, _, _)) (by decide +kernel) rfl ?_
          refine Ru.getR (pc' := 30) (i := 11) (ci := 7) (k := 0) (nn := 0) (z := 0) (v := .ref 24) (by decide +kernel) (by decide +kernel) (hp23 _) (by decide) rfl rfl ?_
          refine Ru.op (q := (.iload_n 3, 1)) (S' := (31, _, _, _, _)) (by decide +kernel) rfl ?_
          refine Ru.kI (q := (.iconst (-1), 1)) (c := (-1)) (pc' := 32) (by decide +kernel) rfl (by decide) rfl ?_
          refine Ru.istI (pc' := 33) (i := v3) (x := (-1)) (by decide +kernel) (hp24 _) g10 (ps_24 _ _ _) rfl ?_
          refine Ru.inc (k := 3) (n := 1) (x := v3) (z := (v3 + 1)) (xs' := [some (.ref 23), some (vI v1), some (.ref v2), some (vI (v3 + 1))]) (pc' := 36) (by decide +kernel) rfl rfl rfl rfl ?_
          refine Ru.op (q := (.goto (-34), 3)) (S' := (2, _, _, _, _)) (by decide +kernel) rfl ?_
          exact ih _ _ trivial _ h r hk
      · replace h := if_f b9 h
        refine Ru.br2 (k := .ge) (off := 26) (bb := true) (tg := 39) (by decide +kernel) (by decide +kernel) (ci_ge1 g7 (by decide) b9) rfl ?_
        cases h
        exact hk _ _ _ _ ⟨rfl, rfl, rfl, rfl, trivial⟩
    · replace h := if_f b8 h
      refine Ru.br2 (k := .ge) (off := 32) (bb := true) (tg := 39) (by decide +kernel) (by decide +kernel) (ci_ge1 g7 e5.2 b8) rfl ?_
      cases h
      exact hk _ _ _ _ ⟨rfl, rfl, rfl, rfl, trivial⟩
set_option maxRecDepth 100000 in
set_option maxHeartbeats 4000000 in
theorem g55_ok {S : St} {v1 : Int} {v2 : Nat} {o : St} (h : g55 S v1 v2 = some o) : Ru none 10 200 55 (0, mn_pad (mn_ent [.ref 23, vI v1, .ref v2]) 4, [], S.ns, Hp S) ((0, none), o.ns, Hp o) := by
  unfold g55 at h
  show Ru none 10 200 55 (0, [some (.ref 23), some (vI v1), some (.ref v2), none], [], S.ns, Hp S) _
  refine Ru.kI (q := (.iconst 0, 1)) (c := 0) (pc' := 1) (by decide +kernel) rfl (by decide) rfl ?_
  refine Ru.op (q := (.istore_n 3, 1)) (S' := (2, [some (.ref 23), some (vI v1), some (.ref v2), some (vI 0)], [], _, _)) (by decide +kernel) rfl ?_
  obtain ⟨o13, e18, h⟩ := ob_some h
  refine g55L2_ok FU _ _ trivial _ e18 _ ?_
  intro d14 d15 d16 d17 hd19
  cases h
  exact Ru.end (q := (.return_, 1)) (by decide +kernel) rfl rfl
set_option maxRecDepth 100000 in
set_option maxHeartbeats 4000000 in
theorem g57L5_ok {S : St} {v0 : Nat} {v2 : Int} : ∀ (n : Nat) (v3 : Int) (v4 : Int) (d1 : Option Value) (_ : DD [d1]) (out : Int), g57L5 S v0 v2 n v3 v4 = some out → ∀ r, (∀ (e0 e1 e2 e3 : Option Value), DD [e0, e1, e2, e3] → Ru none 10 200 57 (34, [e0, e1, e2, e3, some (vI out)], [], S.ns, Hp S) r) → Ru none 10 200 57 (5, [some (.ref v0), d1, some (vI v2), some (vI v3), some (vI v4)], [], S.ns, Hp S) r := by
  intro n
  induction n with
  | zero => intro v3 v4 d1 hdd out h; cases h
  | succ n ih =>
    intro v3 v4 d1 hdd out h r hk
    unfold g57L5 at h
    refine Ru.op (q := (.iload 4, 2)) (S' := (7, _, _, _, _)) (by decide +kernel) rfl ?_
    refine Ru.op (q := (.iload_n 2, 1)) (S' := (8, _, _, _, _)) (by decide +kernel) rfl ?_
    obtain ⟨g1, h⟩ := gd_some h
    obtain ⟨g2, h⟩ := gd_some h
    by_cases b3 : v4 < v2
    · replace h := if_t b3 h
      refine Ru.br2 (k := .ge) (off := 26) (bb := false) (tg := 11) (by decide +kernel) (by decide +kernel) (ci_ge0 g1 g2 b3) rfl ?_
      refine Ru.op (q := (.iload_n 3, 1)) (S' := (12, _, _, _, _)) (by decide +kernel) rfl ?_
      obtain ⟨g4, h⟩ := gd_some h
      by_cases b5 : 0 < v3
      · replace h := if_t b5 h
        refine Ru.br (k := .le) (off := 22) (bb := false) (tg := 15) (by decide +kernel) (by decide +kernel) (cz (ci_le0 g4 (by decide) b5)) rfl ?_
        refine Ru.op (q := (.iload_n 3, 1)) (S' := (16, _, _, _, _)) (by decide +kernel) rfl ?_
        refine Ru.op (q := (.aload_n 0, 1)) (S' := (17, _, _, _, _)) (by decide +kernel) rfl ?_
        refine Ru.op (q := (.iload 4, 2)) (S' := (19, _, _, _, _)) (by decide +kernel) rfl ?_
        obtain ⟨N6, f7, e8, q9, h⟩ := gA_some h
        obtain ⟨g10, h⟩ := gd_some h
        refine Ru.ildI (pc' := 20) (i := v4) (z := (f7 v4)) (by decide +kernel) q9 g10 rfl rfl ?_
        refine Ru.kI (q := (.sipush 255, 3)) (c := 255) (pc' := 23) (by decide +kernel) rfl (by decide) rfl ?_
        refine Ru.ar2 (i := .iand) (z := ((f7 v4) % 256)) (pc' := 24) (by decide +kernel) rfl (ar_and _) rfl ?_
        refine Ru.kI (q := (.iconst 1, 1)) (c := 1) (pc' := 25) (by decide +kernel) rfl (by decide) rfl ?_
        refine Ru.ar2 (i := .isub) (z := (((f7 v4) % 256) - 1)) (pc' := 26) (by decide +kernel) rfl (ar_sub _ _) rfl ?_
        refine Ru.ar2 (i := .iadd) (z := (v3 + (((f7 v4) % 256) - 1))) (pc' := 27) (by decide +kernel) rfl (ar_add _ _) rfl ?_
        refine Ru.op (q := (.istore_n 3, 1)) (S' := (28, [some (.ref v0), d1, some (vI v2), some (vI (v3 + (((f7 v4) % 256) - 1))), some (vI v4)], [], _, _)) (by decide +kernel) rfl ?_
        refine Ru.inc (k := 4) (n := 1) (x := v4) (z := (v4 + 1)) (xs' := [some (.ref v0), d1, some (vI v2), some (vI (v3 + (((f7 v4) % 256) - 1))), some (vI (v4 + 1))]) (pc' := 31) (by decide +kernel) rfl rfl rfl rfl ?_
        refine Ru.op (q := (.goto (-26), 3)) (S' := (5, _, _, _, _)) (by decide +kernel) rfl ?_
        exact ih _ _ _ ⟨hdd.1, trivial⟩ _ h r hk
      · replace h := if_f b5 h
        refine Ru.br (k := .le) (off := 22) (bb := true) (tg := 34) (by decide +kernel) (by decide +kernel) (cz (ci_le1 g4 (by decide) b5)) rfl ?_
        cases h
        exact hk _ _ _ _ ⟨rfl, hdd.1, rfl, rfl, trivial⟩
    · replace h := if_f b3 h
      refine Ru.br2 (k := .ge) (off := 26) (bb := true) (tg := 34) (by decide +kernel) (by decide +kernel) (ci_ge1 g1 g2 b3) rfl ?_
      cases h
      exact hk _ _ _ _ ⟨rfl, hdd.1, rfl, rfl, trivial⟩
set_option maxRecDepth 100000 in
set_option maxHeartbeats 4000000 in
theorem g57_ok {S : St} {v0 : Nat} {v1 : Int} {v2 : Int} {o : Int} (h : g57 S v0 v1 v2 = some o) : Ru none 10 200 57 (0, mn_pad (mn_ent [.ref v0, vI v1, vI v2]) 5, [], S.ns, Hp S) ((0, some (vI o)), S.ns, Hp S) := by
  unfold g57 at h
  show Ru none 10 200 57 (0, [some (.ref v0), some (vI v1), some (vI v2), none, none], [], S.ns, Hp S) _
  refine Ru.kI (q := (.iconst 1, 1)) (c := 1) (pc' := 1) (by decide +kernel) rfl (by decide) rfl ?_
  refine Ru.op (q := (.istore_n 3, 1)) (S' := (2, [some (.ref v0), some (vI v1), some (vI v2), some (vI 1), none], [], _, _)) (by decide +kernel) rfl ?_
  refine Ru.op (q := (.iload_n 1, 1)) (S' := (3, _, _, _, _)) (by decide +kernel) rfl ?_
  refine Ru.op (q := (.istore 4, 2)) (S' := (5, [some (.ref v0), some (vI v1), some (vI v2), some (vI 1), some (vI v1)], [], _, _)) (by decide +kernel) rfl ?_
  obtain ⟨o11, e16, h⟩ := ob_some h
  refine g57L5_ok FU _ _ _ ⟨rfl, trivial⟩ _ e16 _ ?_
  intro d12 d13 d14 d15 hd17
  refine Ru.op (q := (.iload 4, 2)) (S' := (36, _, _, _, _)) (by decide +kernel) rfl ?_
  cases h
  exact Ru.iret (by decide +kernel) rfl rfl
set_option maxRecDepth 100000 in
set_option maxHeartbeats 4000000 in
theorem g56L28_ok {v1 : Nat} {v2 : Int} {v3 : Nat} {v6 : Int} : ∀ (n : Nat) (v5 : Int) (v7 : Int) (S : St) (d4 d8 d9 d10 : Option Value) (_ : DD [d4, d8, d9, d10]) (out : Sum (St) (Int × St)), g56L28 v1 v2 v3 v6 n v5 v7 S = some out → ∀ r, (∀ o, out = .inl o → ∀ (e0 e1 e2 e3 e4 e5 e6 e7 e8 e9 e10 : Option Value), DD [e0, e1, e2, e3, e4, e5, e6, e7, e8, e9, e10] → Ru none 11 224 56 (173, [e0, e1, e2, e3, e4, e5, e6, e7, e8, e9, e10], [], o.ns, Hp o) r) → (∀ o, out = .inr o → r = ((0, some (vI o.1)), o.2.ns, Hp o.2)) → Ru none 11 224 56 (28, [some (.ref 23), some (.ref v1), some (vI v2), some (.ref v3), d4, some (vI v5), some (vI v6), some (vI v7), d8, d9, d10], [], S.ns, Hp S) r := by
  intro n
  induction n with
  | zero => intro v5 v7 S d4 d8 d9 d10 hdd out h; cases h
  | succ n ih =>
    intro v5 v7 S d4 d8 d9 d10 hdd out h r hk hr
    unfold g56L28 at h
    refine Ru.op (q := (.iload 7, 2)) (S' := (30, _, _, _, _)) (by decide +kernel) rfl ?_
    refine Ru.op (q := (.aload_n 1, 1)) (S' := (31, _, _, _, _)) (by decide +kernel) rfl ?_
    obtain ⟨c72, c73, n74, n75, e76, q77, h⟩ := gC_some h
    refine Ru.getR (pc' := 34) (i := 35) (ci := 5) (k := 1) (nn := 0) (z := 0) (v := .ref c73) (by decide +kernel) (by decide +kernel) q77 (by decide) rfl rfl ?_
    refine Ru.op (q := (.iload_n 2, 1)) (S' := (35, _, _, _, _)) (by decide +kernel) rfl ?_
    refine Ru.kI (q := (.iconst 1, 1)) (c := 1) (pc' := 36) (by decide +kernel) rfl (by decide) rfl ?_
    refine Ru.ar2 (i := .iadd) (z := (v2 + 1)) (pc' := 37) (by decide +kernel) rfl (ar_add _ _) rfl ?_
    obtain ⟨N78, f79, e80, q81, h⟩ := gA_some h
    obtain ⟨g82, h⟩ := gd_some h
    refine Ru.ildI (pc' := 38) (i := (v2 + 1)) (z := (f79 (v2 + 1))) (by decide +kernel) q81 g82 rfl rfl ?_
    obtain ⟨g83, h⟩ := gd_some h
    by_cases b84 : v7 < (f79 (v2 + 1))
    · replace h := if_t b84 h
      refine Ru.br2 (k := .ge) (off := 135) (bb := false) (tg := 41) (by decide +kernel) (by decide +kernel) (ci_ge0 g83 (e80 _) b84) rfl ?_
      refine Ru.op (q := (.aload_n 1, 1)) (S' := (42, _, _, _, _)) (by decide +kernel) rfl ?_
      refine Ru.getR (pc' := 45) (i := 38) (ci := 5) (k := 0) (nn := 0) (z := 0) (v := .ref c72) (by decide +kernel) (by decide +kernel) q77 (by decide) rfl rfl ?_
      refine Ru.op (q := (.iload 7, 2)) (S' := (47, _, _, _, _)) (by decide +kernel) rfl ?_
      obtain ⟨N85, f86, e87, q88, h⟩ := gA_some h
      obtain ⟨g89, h⟩ := gd_some h
      refine Ru.ildI (pc' := 48) (i := v7) (z := (f86 v7)) (by decide +kernel) q88 g89 rfl rfl ?_
      refine Ru.op (q := (.istore 8, 2)) (S' := (50, [some (.ref 23), some (.ref v1), some (vI v2), some (.ref v3), d4, some (vI v5), some (vI v6), some (vI v7), some (vI (f86 v7)), d9, d10], [], _, _)) (by decide +kernel) rfl ?_
      refine Ru.op (q := (.iload 5, 2)) (S' := (52, _, _, _, _)) (by decide +kernel) rfl ?_
      refine Ru.op (q := (.iload 6, 2)) (S' := (54, _, _, _, _)) (by decide +kernel) rfl ?_
      obtain ⟨g90, h⟩ := gd_some h
      obtain ⟨g91, h⟩ := gd_some h
      by_cases b92 : v5 < v6
      · replace h := if_t b92 h
        refine Ru.br2 (k := .lt) (off := 5) (bb := true) (tg := 59) (by decide +kernel) (by decide +kernel) (ci_lt1 g90 g91 b92) rfl ?_
        refine Ru.op (q := (.iload 8, 2)) (S' := (61, _, _, _, _)) (by decide +kernel) rfl ?_
        refine Ru.kI (q := (.ldc 41, 2)) (c := 32768) (pc' := 63) (by decide +kernel) rfl (by decide) rfl ?_
        by_cases b93 : (f86 v7) < 32768
        · replace h := if_t b93 h
          refine Ru.br2 (k := .lt) (off := 23) (bb := true) (tg := 86) (by decide +kernel) (by decide +kernel) (ci_lt1 (e87 _) (by decide) b93) rfl ?_
          refine Ru.op (q := (.aload_n 3, 1)) (S' := (87, _, _, _, _)) (by decide +kernel) rfl ?_
          obtain ⟨c94, c95, n96, n97, e98, q99, h⟩ := gC_some h
          refine Ru.getR (pc' := 90) (i := 38) (ci := 5) (k := 0) (nn := 0) (z := 0) (v := .ref c94) (by decide +kernel) (by decide +kernel) q99 (by decide) rfl rfl ?_
          refine Ru.op (q := (.iload 5, 2)) (S' := (92, _, _, _, _)) (by decide +kernel) rfl ?_
          refine Ru.op (q := (.iload 6, 2)) (S' := (94, _, _, _, _)) (by decide +kernel) rfl ?_
          obtain ⟨o100, e101, h⟩ := ob_some h
          refine Ru.callI (pc' := 97) (q := (.invokestatic 42, 3)) (j2 := 57) (as := [.ref c94, vI v5, vI v6]) (st' := [vI o100]) (by decide +kernel) rfl rfl rfl rfl ⟨(Nat.le_of_ble_eq_true rfl), (by show 19 + 5 ≤ 224; exact Nat.le_of_ble_eq_true rfl), Nat.le_of_ble_eq_true rfl, Nat.le_of_ble_eq_true rfl⟩ ((g57_ok e101).up (Nat.le_of_ble_eq_true rfl) (Nat.le_of_ble_eq_true rfl)) rfl rfl ?_
          refine Ru.op (q := (.istore 9, 2)) (S' := (99, [some (.ref 23), some (.ref v1), some (vI v2), some (.ref v3), d4, some (vI v5), some (vI v6), some (vI v7), some (vI (f86 v7)), some (vI o100), d10], [], _, _)) (by decide +kernel) rfl ?_
          refine Ru.op (q := (.iload 8, 2)) (S' := (101, _, _, _, _)) (by decide +kernel) rfl ?_
          refine Ru.kI (q := (.bipush 8, 2)) (c := 8) (pc' := 103) (by decide +kernel) rfl (by decide) rfl ?_
          refine Ru.ar2 (i := .ishr) (z := ((f86 v7) / 256)) (pc' := 104) (by decide +kernel) rfl (ar_shr (e87 _)) rfl ?_
          refine Ru.op (q := (.istore 10, 2)) (S' := (106, [some (.ref 23), some (.ref v1), some (vI v2), some (.ref v3), d4, some (vI v5), some (vI v6), some (vI v7), some (vI (f86 v7)), some (vI o100), some (vI ((f86 v7) / 256))], [], _, _)) (by decide +kernel) rfl ?_
          refine Ru.op (q := (.aload_n 0, 1)) (S' := (107, _, _, _, _)) (by decide +kernel) rfl ?_
          refine Ru.getR (pc' := 110) (i := 11) (ci := 7) (k := 0) (nn := 0) (z := 0) (v := .ref 24) (by decide +kernel) (by decide +kernel) (hp23 _) (by decide) rfl rfl ?_
          refine Ru.op (q := (.iload 10, 2)) (S' := (112, _, _, _, _)) (by decide +kernel) rfl ?_
          obtain ⟨g102, h⟩ := gd_some h
          refine Ru.ildI (pc' := 113) (i := ((f86 v7) / 256)) (z := (S.A 24 ((f86 v7) / 256))) (by decide +kernel) (hp24 _) g102 (eI_of _) rfl ?_
          refine Ru.kI (q := (.iconst (-1), 1)) (c := (-1)) (pc' := 114) (by decide +kernel) rfl (by decide) rfl ?_
          by_cases b103 : (S.A 24 ((f86 v7) / 256)) = (-1)
          · replace h := if_t b103 h
            refine Ru.br2 (k := .ne) (off := 23) (bb := false) (tg := 117) (by decide +kernel) (by decide +kernel) (ci_ne0 (inR_to _) (by decide) b103) rfl ?_
            refine Ru.op (q := (.aload_n 0, 1)) (S' := (118, _, _, _, _)) (by decide +kernel) rfl ?_
            refine Ru.getR (pc' := 121) (i := 11) (ci := 7) (k := 0) (nn := 0) (z := 0) (v := .ref 24) (by decide +kernel) (by decide +kernel) (hp23 _) (by decide) rfl rfl ?_
            refine Ru.op (q := (.iload 10, 2)) (S' := (123, _, _, _, _)) (by decide +kernel) rfl ?_
            refine Ru.op (q := (.iload 5, 2)) (S' := (125, _, _, _, _)) (by decide +kernel) rfl ?_
            refine Ru.istI (pc' := 126) (i := ((f86 v7) / 256)) (x := v5) (by decide +kernel) (hp24 _) g102 (ps_24 _ _ _) rfl ?_
            refine Ru.op (q := (.aload_n 0, 1)) (S' := (127, _, _, _, _)) (by decide +kernel) rfl ?_
            refine Ru.getR (pc' := 130) (i := 15) (ci := 7) (k := 1) (nn := 0) (z := 0) (v := .ref 25) (by decide +kernel) (by decide +kernel) (hp23 _) (by decide) rfl rfl ?_
            refine Ru.op (q := (.iload 10, 2)) (S' := (132, _, _, _, _)) (by decide +kernel) rfl ?_
            refine Ru.op (q := (.iload_n 2, 1)) (S' := (133, _, _, _, _)) (by decide +kernel) rfl ?_
            refine Ru.istI (pc' := 134) (i := ((f86 v7) / 256)) (x := v2) (by decide +kernel) (hp25 _) g102 (ps_25 _ _ _) rfl ?_
            refine Ru.op (q := (.goto 29, 3)) (S' := (163, _, _, _, _)) (by decide +kernel) rfl ?_
            refine Ru.op (q := (.iload 9, 2)) (S' := (165, _, _, _, _)) (by decide +kernel) rfl ?_
            refine Ru.op (q := (.istore 5, 2)) (S' := (167, [some (.ref 23), some (.ref v1), some (vI v2), some (.ref v3), d4, some (vI o100), some (vI v6), some (vI v7), some (vI (f86 v7)), some (vI o100), some (vI ((f86 v7) / 256))], [], _, _)) (by decide +kernel) (st_i (mn_st1_D (Nat.le_of_ble_eq_true rfl) hdd.1 rfl)) ?_
            refine Ru.inc (k := 7) (n := 1) (x := v7) (z := (v7 + 1)) (xs' := [some (.ref 23), some (.ref v1), some (vI v2), some (.ref v3), d4, some (vI o100), some (vI v6), some (vI (v7 + 1)), some (vI (f86 v7)), some (vI o100), some (vI ((f86 v7) / 256))]) (pc' := 170) (by decide +kernel) rfl rfl rfl rfl ?_
            refine Ru.op (q := (.goto (-142), 3)) (S' := (28, _, _, _, _)) (by decide +kernel) rfl ?_
            exact ih _ _ _ _ _ _ _ ⟨hdd.1, rfl, rfl, rfl, trivial⟩ _ h r hk hr
          · replace h := if_f b103 h
            refine Ru.br2 (k := .ne) (off := 23) (bb := true) (tg := 137) (by decide +kernel) (by decide +kernel) (ci_ne1 (inR_to _) (by decide) b103) rfl ?_
            refine Ru.op (q := (.aload_n 3, 1)) (S' := (138, _, _, _, _)) (by decide +kernel) rfl ?_
            refine Ru.getR (pc' := 141) (i := 38) (ci := 5) (k := 0) (nn := 0) (z := 0) (v := .ref c94) (by decide +kernel) (by decide +kernel) q99 (by decide) rfl rfl ?_
            refine Ru.op (q := (.aload_n 0, 1)) (S' := (142, _, _, _, _)) (by decide +kernel) rfl ?_
            refine Ru.getR (pc' := 145) (i := 11) (ci := 7) (k := 0) (nn := 0) (z := 0) (v := .ref 24) (by decide +kernel) (by decide +kernel) (hp23 _) (by decide) rfl rfl ?_
            refine Ru.op (q := (.iload 10, 2)) (S' := (147, _, _, _, _)) (by decide +kernel) rfl ?_
            refine Ru.ildI (pc' := 148) (i := ((f86 v7) / 256)) (z := (S.A 24 ((f86 v7) / 256))) (by decide +kernel) (hp24 _) g102 (eI_of _) rfl ?_
            refine Ru.op (q := (.iload 5, 2)) (S' := (150, _, _, _, _)) (by decide +kernel) rfl ?_
            refine Ru.op (q := (.iload 9, 2)) (S' := (152, _, _, _, _)) (by decide +kernel) rfl ?_
            refine Ru.op (q := (.iload 5, 2)) (S' := (154, _, _, _, _)) (by decide +kernel) rfl ?_
            refine Ru.ar2 (i := .isub) (z := (o100 - v5)) (pc' := 155) (by decide +kernel) rfl (ar_sub _ _) rfl ?_
            obtain ⟨o104, e105, h⟩ := ob_some h
            refine Ru.callI (pc' := 158) (q := (.invokestatic 46, 3)) (j2 := 47) (as := [.ref c94, vI (S.A 24 ((f86 v7) / 256)), vI v5, vI (o100 - v5)]) (st' := [vI o104]) (by decide +kernel) rfl rfl rfl rfl ⟨(Nat.le_of_ble_eq_true rfl), (by show 19 + 5 ≤ 224; exact Nat.le_of_ble_eq_true rfl), Nat.le_of_ble_eq_true rfl, Nat.le_of_ble_eq_true rfl⟩ ((g47_ok e105).up (Nat.le_of_ble_eq_true rfl) (Nat.le_of_ble_eq_true rfl)) rfl rfl ?_
            obtain ⟨g106, h⟩ := gd_some h
            by_cases b107 : o104 = 0
            · replace h := if_t b107 h
              refine Ru.br (k := .ne) (off := 5) (bb := false) (tg := 161) (by decide +kernel) (by decide +kernel) (cz (ci_ne0 g106 (by decide) b107)) rfl ?_
              refine Ru.kI (q := (.iconst 0, 1)) (c := 0) (pc' := 162) (by decide +kernel) rfl (by decide) rfl ?_
              cases h
              have h9 := hr _ rfl
              subst h9
              exact Ru.iret (by decide +kernel) rfl (nar_b1 (by decide))
            · replace h := if_f b107 h
              refine Ru.br (k := .ne) (off := 5) (bb := true) (tg := 163) (by decide +kernel) (by decide +kernel) (cz (ci_ne1 g106 (by decide) b107)) rfl ?_
              refine Ru.op (q := (.iload 9, 2)) (S' := (165, _, _, _, _)) (by decide +kernel) rfl ?_
              refine Ru.op (q := (.istore 5, 2)) (S' := (167, [some (.ref 23), some (.ref v1), some (vI v2), some (.ref v3), d4, some (vI o100), some (vI v6), some (vI v7), some (vI (f86 v7)), some (vI o100), some (vI ((f86 v7) / 256))], [], _, _)) (by decide +kernel) (st_i (mn_st1_D (Nat.le_of_ble_eq_true rfl) hdd.1 rfl)) ?_
              refine Ru.inc (k := 7) (n := 1) (x := v7) (z := (v7 + 1)) (xs' := [some (.ref 23), some (.ref v1), some (vI v2), some (.ref v3), d4, some (vI o100), some (vI v6), some (vI (v7 + 1)), some (vI (f86 v7)), some (vI o100), some (vI ((f86 v7) / 256))]) (pc' := 170) (by decide +kernel) rfl rfl rfl rfl ?_
              refine Ru.op (q := (.goto (-142), 3)) (S' := (28, _, _, _, _)) (by decide +kernel) rfl ?_
              exact ih _ _ _ _ _ _ _ ⟨hdd.1, rfl, rfl, rfl, trivial⟩ _ h r hk hr
        · replace h := if_f b93 h
          refine Ru.br2 (k := .lt) (off := 23) (bb := false) (tg := 66) (by decide +kernel) (by decide +kernel) (ci_lt0 (e87 _) (by decide) b93) rfl ?_
          refine Ru.op (q := (.iload 8, 2)) (S' := (68, _, _, _, _)) (by decide +kernel) rfl ?_
          refine Ru.op (q := (.aload_n 3, 1)) (S' := (69, _, _, _, _)) (by decide +kernel) rfl ?_
          obtain ⟨c108, c109, n110, n111, e112, q113, h⟩ := gC_some h
          refine Ru.getR (pc' := 72) (i := 38) (ci := 5) (k := 0) (nn := 0) (z := 0) (v := .ref c108) (by decide +kernel) (by decide +kernel) q113 (by decide) rfl rfl ?_
          refine Ru.op (q := (.iload 5, 2)) (S' := (74, _, _, _, _)) (by decide +kernel) rfl ?_
          obtain ⟨N114, f115, e116, q117, h⟩ := gA_some h
          obtain ⟨g118, h⟩ := gd_some h
          refine Ru.ildI (pc' := 75) (i := v5) (z := (f115 v5)) (by decide +kernel) q117 g118 rfl rfl ?_
          by_cases b119 : (f86 v7) = (f115 v5)
          · replace h := if_t b119 h
            refine Ru.br2 (k := .eq) (off := 5) (bb := true) (tg := 80) (by decide +kernel) (by decide +kernel) (ci_eq1 (e87 _) (e116 _) b119) rfl ?_
            refine Ru.inc (k := 5) (n := 1) (x := v5) (z := (v5 + 1)) (xs' := [some (.ref 23), some (.ref v1), some (vI v2), some (.ref v3), d4, some (vI (v5 + 1)), some (vI v6), some (vI v7), some (vI (f86 v7)), d9, d10]) (pc' := 83) (by decide +kernel) rfl rfl (mn_st1_D (Nat.le_of_ble_eq_true rfl) hdd.1 rfl) rfl ?_
            refine Ru.op (q := (.goto 84, 3)) (S' := (167, _, _, _, _)) (by decide +kernel) rfl ?_
            refine Ru.inc (k := 7) (n := 1) (x := v7) (z := (v7 + 1)) (xs' := [some (.ref 23), some (.ref v1), some (vI v2), some (.ref v3), d4, some (vI (v5 + 1)), some (vI v6), some (vI (v7 + 1)), some (vI (f86 v7)), d9, d10]) (pc' := 170) (by decide +kernel) rfl rfl rfl rfl ?_
            refine Ru.op (q := (.goto (-142), 3)) (S' := (28, _, _, _, _)) (by decide +kernel) rfl ?_
            exact ih _ _ _ _ _ _ _ ⟨hdd.1, rfl, hdd.2.2.1, hdd.2.2.2.1, trivial⟩ _ h r hk hr
          · replace h := if_f b119 h
            refine Ru.br2 (k := .eq) (off := 5) (bb := false) (tg := 78) (by decide +kernel) (by decide +kernel) (ci_eq0 (e87 _) (e116 _) b119) rfl ?_
            refine Ru.kI (q := (.iconst 0, 1)) (c := 0) (pc' := 79) (by decide +kernel) rfl (by decide) rfl ?_
            cases h
            have h9 := hr _ rfl
            subst h9
            exact Ru.iret (by decide +kernel) rfl (nar_b1 (by decide))
      · replace h := if_f b92 h
        refine Ru.br2 (k := .lt) (off := 5) (bb := false) (tg := 57) (by decide +kernel) (by decide +kernel) (ci_lt0 g90 g91 b92) rfl ?_
        refine Ru.kI (q := (.iconst 0, 1)) (c := 0) (pc' := 58) (by decide +kernel) rfl (by decide) rfl ?_
        cases h
        have h9 := hr _ rfl
        subst h9
        exact Ru.iret (by decide +kernel) rfl (nar_b1 (by decide))
    · replace h := if_f b84 h
      refine Ru.br2 (k := .ge) (off := 135) (bb := true) (tg := 173) (by decide +kernel) (by decide +kernel) (ci_ge1 g83 (e80 _) b84) rfl ?_
      cases h
      exact hk _ rfl _ _ _ _ _ _ _ _ _ _ _ ⟨rfl, rfl, rfl, rfl, hdd.1, rfl, rfl, rfl, hdd.2.1, hdd.2.2.1, hdd.2.2.2.1, trivial⟩
set_option maxRecDepth 100000 in
set_option maxHeartbeats 4000000 in
theorem g56_ok {S : St} {v1 : Nat} {v2 : Int} {v3 : Nat} {v4 : Int} {o : Int × St} (h : g56 S v1 v2 v3 v4 = some o) : Ru none 11 224 56 (0, mn_pad (mn_ent [.ref 23, .ref v1, vI v2, .ref v3, vI v4]) 11, [], S.ns, Hp S) ((0, some (vI o.1)), o.2.ns, Hp o.2) := by
  unfold g56 at h
  show Ru none 11 224 56 (0, [some (.ref 23), some (.ref v1), some (vI v2), some (.ref v3), some (vI v4), none, none, none, none, none, none], [], S.ns, Hp S) _
  refine Ru.op (q := (.aload_n 3, 1)) (S' := (1, _, _, _, _)) (by decide +kernel) rfl ?_
  obtain ⟨c1, c2, n3, n4, e5, q6, h⟩ := gC_some h
  refine Ru.getR (pc' := 4) (i := 35) (ci := 5) (k := 1) (nn := 0) (z := 0) (v := .ref c2) (by decide +kernel) (by decide +kernel) q6 (by decide) rfl rfl ?_
  refine Ru.op (q := (.iload 4, 2)) (S' := (6, _, _, _, _)) (by decide +kernel) rfl ?_
  obtain ⟨N7, f8, e9, q10, h⟩ := gA_some h
  obtain ⟨g11, h⟩ := gd_some h
  refine Ru.ildI (pc' := 7) (i := v4) (z := (f8 v4)) (by decide +kernel) q10 g11 rfl rfl ?_
  refine Ru.op (q := (.istore 5, 2)) (S' := (9, [some (.ref 23), some (.ref v1), some (vI v2), some (.ref v3), some (vI v4), some (vI (f8 v4)), none, none, none, none, none], [], _, _)) (by decide +kernel) rfl ?_
  refine Ru.op (q := (.aload_n 3, 1)) (S' := (10, _, _, _, _)) (by decide +kernel) rfl ?_
  refine Ru.getR (pc' := 13) (i := 35) (ci := 5) (k := 1) (nn := 0) (z := 0) (v := .ref c2) (by decide +kernel) (by decide +kernel) q6 (by decide) rfl rfl ?_
  refine Ru.op (q := (.iload 4, 2)) (S' := (15, _, _, _, _)) (by decide +kernel) rfl ?_
  refine Ru.kI (q := (.iconst 1, 1)) (c := 1) (pc' := 16) (by decide +kernel) rfl (by decide) rfl ?_
  refine Ru.ar2 (i := .iadd) (z := (v4 + 1)) (pc' := 17) (by decide +kernel) rfl (ar_add _ _) rfl ?_
  obtain ⟨g12, h⟩ := gd_some h
  refine Ru.ildI (pc' := 18) (i := (v4 + 1)) (z := (f8 (v4 + 1))) (by decide +kernel) q10 g12 rfl rfl ?_
  refine Ru.op (q := (.istore 6, 2)) (S' := (20, [some (.ref 23), some (.ref v1), some (vI v2), some (.ref v3), some (vI v4), some (vI (f8 v4)), some (vI (f8 (v4 + 1))), none, none, none, none], [], _, _)) (by decide +kernel) rfl ?_
  refine Ru.op (q := (.aload_n 1, 1)) (S' := (21, _, _, _, _)) (by decide +kernel) rfl ?_
  obtain ⟨c13, c14, n15, n16, e17, q18, h⟩ := gC_some h
  refine Ru.getR (pc' := 24) (i := 35) (ci := 5) (k := 1) (nn := 0) (z := 0) (v := .ref c14) (by decide +kernel) (by decide +kernel) q18 (by decide) rfl rfl ?_
  refine Ru.op (q := (.iload_n 2, 1)) (S' := (25, _, _, _, _)) (by decide +kernel) rfl ?_
  obtain ⟨N19, f20, e21, q22, h⟩ := gA_some h
  obtain ⟨g23, h⟩ := gd_some h
  refine Ru.ildI (pc' := 26) (i := v2) (z := (f20 v2)) (by decide +kernel) q22 g23 rfl rfl ?_
  refine Ru.op (q := (.istore 7, 2)) (S' := (28, [some (.ref 23), some (.ref v1), some (vI v2), some (.ref v3), some (vI v4), some (vI (f8 v4)), some (vI (f8 (v4 + 1))), some (vI (f20 v2)), none, none, none], [], _, _)) (by decide +kernel) rfl ?_
  rcases obr_some h with ⟨o120, e132, h⟩ | e132
  · refine g56L28_ok FU _ _ _ _ _ _ _ ⟨rfl, rfl, rfl, rfl, trivial⟩ _ e132 _ (fun o' e' => ?_) (fun o' e' => by cases e')
    cases e'
    intro d121 d122 d123 d124 d125 d126 d127 d128 d129 d130 d131 hd133
    refine Ru.kI (q := (.iconst 1, 1)) (c := 1) (pc' := 174) (by decide +kernel) rfl (by decide) rfl ?_
    cases h
    exact Ru.iret (by decide +kernel) rfl (nar_b1 (by decide))
  · exact g56L28_ok FU _ _ _ _ _ _ _ ⟨rfl, rfl, rfl, rfl, trivial⟩ _ e132 _ (fun o' e' => by cases e') (fun o' e' => by cases e'; rfl)
