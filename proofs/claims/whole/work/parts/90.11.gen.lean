set_option maxRecDepth 100000 in
set_option maxHeartbeats 4000000 in
theorem g44_30_ok {S : St} {v1 : Int} {o : St} (h : g44_30 S v1 = some o) : Ru none 10 200 44 (0, mn_pad (mn_ent [.ref 30, vI v1]) 2, [], S.ns, Hp S) ((0, none), o.ns, Hp o) := by
  unfold g44_30 at h
  show Ru none 10 200 44 (0, [some (.ref 30), some (vI v1)], [], S.ns, Hp S) _
  refine Ru.op (q := (.aload_n 0, 1)) (S' := (1, _, _, _, _)) (by decide +kernel) rfl ?_
  refine Ru.getI (pc' := 4) (i := 34) (ci := 4) (k := 2) (nn := 0) (z := 0) (x := (S.F 30 2)) (by decide +kernel) (by decide +kernel) (hp30 _) (by decide) rfl (eI_of _) rfl ?_
  refine Ru.op (q := (.aload_n 0, 1)) (S' := (5, _, _, _, _)) (by decide +kernel) rfl ?_
  refine Ru.getR (pc' := 8) (i := 14) (ci := 4) (k := 0) (nn := 0) (z := 0) (v := .ref 31) (by decide +kernel) (by decide +kernel) (hp30 _) (by decide) rfl rfl ?_
  refine Ru.getI (pc' := 11) (i := 28) (ci := 5) (k := 3) (nn := 0) (z := 0) (x := (S.F 31 3)) (by decide +kernel) (by decide +kernel) (hp31 _) (by decide) rfl (eI_of _) rfl ?_
  refine Ru.ar2 (i := .isub) (z := ((S.F 30 2) - (S.F 31 3))) (pc' := 12) (by decide +kernel) rfl (ar_sub _ _) rfl ?_
  refine Ru.kI (q := (.bipush 16, 2)) (c := 16) (pc' := 14) (by decide +kernel) rfl (by decide) rfl ?_
  obtain ⟨g1, h⟩ := gd_some h
  by_cases b2 : ((S.F 30 2) - (S.F 31 3)) < 16
  · replace h := if_t b2 h
    refine Ru.br2 (k := .lt) (off := 11) (bb := true) (tg := 25) (by decide +kernel) (by decide +kernel) (ci_lt1 g1 (by decide) b2) rfl ?_
    refine Ru.op (q := (.aload_n 0, 1)) (S' := (26, _, _, _, _)) (by decide +kernel) rfl ?_
    refine Ru.getR (pc' := 29) (i := 14) (ci := 4) (k := 0) (nn := 0) (z := 0) (v := .ref 31) (by decide +kernel) (by decide +kernel) (hp30 _) (by decide) rfl rfl ?_
    refine Ru.getR (pc' := 32) (i := 41) (ci := 5) (k := 0) (nn := 0) (z := 0) (v := .ref 32) (by decide +kernel) (by decide +kernel) (hp31 _) (by decide) rfl rfl ?_
    refine Ru.op (q := (.aload_n 0, 1)) (S' := (33, _, _, _, _)) (by decide +kernel) rfl ?_
    refine Ru.getI (pc' := 36) (i := 34) (ci := 4) (k := 2) (nn := 0) (z := 0) (x := (S.F 30 2)) (by decide +kernel) (by decide +kernel) (hp30 _) (by decide) rfl (eI_of _) rfl ?_
    refine Ru.op (q := (.iload_n 1, 1)) (S' := (37, _, _, _, _)) (by decide +kernel) rfl ?_
    obtain ⟨g3, h⟩ := gd_some h
    refine Ru.istI (pc' := 38) (i := (S.F 30 2)) (x := v1) (by decide +kernel) (hp32 _) g3 (ps_32 _ _ _) rfl ?_
    refine Ru.op (q := (.aload_n 0, 1)) (S' := (39, _, _, _, _)) (by decide +kernel) rfl ?_
    refine Ru.op (q := (.dup, 1)) (S' := (40, _, _, _, _)) (by decide +kernel) rfl ?_
    refine Ru.getI (pc' := 43) (i := 34) (ci := 4) (k := 2) (nn := 0) (z := 0) (x := (S.F 30 2)) (by decide +kernel) (by decide +kernel) (hp30 _) (by decide) rfl (eI_of _) rfl ?_
    refine Ru.kI (q := (.iconst 1, 1)) (c := 1) (pc' := 44) (by decide +kernel) rfl (by decide) rfl ?_
    refine Ru.ar2 (i := .iadd) (z := ((S.F 30 2) + 1)) (pc' := 45) (by decide +kernel) rfl (ar_add _ _) rfl ?_
    refine Ru.putH (pc' := 48) (i := 34) (ci := 4) (k := 2) (nn := 0) (z := 0) (by decide +kernel) (by decide +kernel) (hp30 _) (by decide) (Nat.le_of_ble_eq_true rfl) rfl (by decide +kernel) (pf_30_2 _ _) rfl ?_
    cases h
    exact Ru.end (q := (.return_, 1)) (by decide +kernel) rfl rfl
  · replace h := if_f b2 h
    refine Ru.br2 (k := .lt) (off := 11) (bb := false) (tg := 17) (by decide +kernel) (by decide +kernel) (ci_lt0 g1 (by decide) b2) rfl ?_
    refine Ru.op (q := (.aload_n 0, 1)) (S' := (18, _, _, _, _)) (by decide +kernel) rfl ?_
    refine Ru.kI (q := (.iconst 1, 1)) (c := 1) (pc' := 19) (by decide +kernel) rfl (by decide) rfl ?_
    refine Ru.putH (pc' := 22) (i := 37) (ci := 4) (k := 3) (nn := 0) (z := 0) (by decide +kernel) (by decide +kernel) (hp30 _) (by decide) (Nat.le_of_ble_eq_true rfl) (fk_b (by decide)) (by decide +kernel) (pf_30_3 _ _) rfl ?_
    refine Ru.op (q := (.goto 26, 3)) (S' := (48, _, _, _, _)) (by decide +kernel) rfl ?_
    cases h
    exact Ru.end (q := (.return_, 1)) (by decide +kernel) rfl rfl
set_option maxRecDepth 100000 in
set_option maxHeartbeats 4000000 in
theorem g46_30L15_ok {S : St} {v1 : Int} : ∀ (n : Nat) (v2 : Int) (d3 : Option Value) (_ : DD [d3]) (out : Sum (Unit) (Int)), g46_30L15 S v1 n v2 = some out → ∀ r, (∀ o, out = .inl o → ∀ (e0 e1 e2 e3 : Option Value), DD [e0, e1, e2, e3] → Ru none 11 224 46 (83, [e0, e1, e2, e3], [], S.ns, Hp S) r) → (∀ o, out = .inr o → r = ((0, some (vI o)), S.ns, Hp S)) → Ru none 11 224 46 (15, [some (.ref 30), some (vI v1), some (vI v2), d3], [], S.ns, Hp S) r := by
  intro n
  induction n with
  | zero => intro v2 d3 hdd out h; cases h
  | succ n ih =>
    intro v2 d3 hdd out h r hk hr
    unfold g46_30L15 at h
    refine Ru.op (q := (.iload_n 2, 1)) (S' := (16, _, _, _, _)) (by decide +kernel) rfl ?_
    refine Ru.op (q := (.aload_n 0, 1)) (S' := (17, _, _, _, _)) (by decide +kernel) rfl ?_
    refine Ru.getR (pc' := 20) (i := 14) (ci := 4) (k := 0) (nn := 0) (z := 0) (v := .ref 31) (by decide +kernel) (by decide +kernel) (hp30 _) (by decide) rfl rfl ?_
    refine Ru.getI (pc' := 23) (i := 24) (ci := 5) (k := 2) (nn := 0) (z := 0) (x := (S.F 31 2)) (by decide +kernel) (by decide +kernel) (hp31 _) (by decide) rfl (eI_of _) rfl ?_
    obtain ⟨g12, h⟩ := gd_some h
    by_cases b13 : v2 < (S.F 31 2)
    · replace h := if_t b13 h
      refine Ru.br2 (k := .ge) (off := 60) (bb := false) (tg := 26) (by decide +kernel) (by decide +kernel) (ci_ge0 g12 (inR_to _) b13) rfl ?_
      refine Ru.op (q := (.aload_n 0, 1)) (S' := (27, _, _, _, _)) (by decide +kernel) rfl ?_
      refine Ru.getR (pc' := 30) (i := 14) (ci := 4) (k := 0) (nn := 0) (z := 0) (v := .ref 31) (by decide +kernel) (by decide +kernel) (hp30 _) (by decide) rfl rfl ?_
      refine Ru.getR (pc' := 33) (i := 31) (ci := 5) (k := 1) (nn := 0) (z := 0) (v := .ref 33) (by decide +kernel) (by decide +kernel) (hp31 _) (by decide) rfl rfl ?_
      refine Ru.op (q := (.iload_n 2, 1)) (S' := (34, _, _, _, _)) (by decide +kernel) rfl ?_
      obtain ⟨g14, h⟩ := gd_some h
      refine Ru.ildI (pc' := 35) (i := v2) (z := (S.A 33 v2)) (by decide +kernel) (hp33 _) g14 (eI_of _) rfl ?_
      refine Ru.op (q := (.istore_n 3, 1)) (S' := (36, [some (.ref 30), some (vI v1), some (vI v2), some (vI (S.A 33 v2))], [], _, _)) (by decide +kernel) rfl ?_
      refine Ru.op (q := (.aload_n 0, 1)) (S' := (37, _, _, _, _)) (by decide +kernel) rfl ?_
      refine Ru.getR (pc' := 40) (i := 14) (ci := 4) (k := 0) (nn := 0) (z := 0) (v := .ref 31) (by decide +kernel) (by decide +kernel) (hp30 _) (by decide) rfl rfl ?_
      refine Ru.getR (pc' := 43) (i := 31) (ci := 5) (k := 1) (nn := 0) (z := 0) (v := .ref 33) (by decide +kernel) (by decide +kernel) (hp31 _) (by decide) rfl rfl ?_
      refine Ru.op (q := (.iload_n 2, 1)) (S' := (44, _, _, _, _)) (by decide +kernel) rfl ?_
      refine Ru.kI (q := (.iconst 1, 1)) (c := 1) (pc' := 45) (by decide +kernel) rfl (by decide) rfl ?_
      refine Ru.ar2 (i := .iadd) (z := (v2 + 1)) (pc' := 46) (by decide +kernel) rfl (ar_add _ _) rfl ?_
      obtain ⟨g15, h⟩ := gd_some h
      refine Ru.ildI (pc' := 47) (i := (v2 + 1)) (z := (S.A 33 (v2 + 1))) (by decide +kernel) (hp33 _) g15 (eI_of _) rfl ?_
      refine Ru.op (q := (.iload_n 3, 1)) (S' := (48, _, _, _, _)) (by decide +kernel) rfl ?_
      refine Ru.ar2 (i := .isub) (z := ((S.A 33 (v2 + 1)) - (S.A 33 v2))) (pc' := 49) (by decide +kernel) rfl (ar_sub _ _) rfl ?_
      refine Ru.op (q := (.iload_n 1, 1)) (S' := (50, _, _, _, _)) (by decide +kernel) rfl ?_
      obtain ⟨g16, h⟩ := gd_some h
      obtain ⟨g17, h⟩ := gd_some h
      by_cases b18 : ((S.A 33 (v2 + 1)) - (S.A 33 v2)) = v1
      · replace h := if_t b18 h
        refine Ru.br2 (k := .ne) (off := 27) (bb := false) (tg := 53) (by decide +kernel) (by decide +kernel) (ci_ne0 g16 g17 b18) rfl ?_
        refine Ru.op (q := (.aload_n 0, 1)) (S' := (54, _, _, _, _)) (by decide +kernel) rfl ?_
        refine Ru.getR (pc' := 57) (i := 14) (ci := 4) (k := 0) (nn := 0) (z := 0) (v := .ref 31) (by decide +kernel) (by decide +kernel) (hp30 _) (by decide) rfl rfl ?_
        refine Ru.getR (pc' := 60) (i := 41) (ci := 5) (k := 0) (nn := 0) (z := 0) (v := .ref 32) (by decide +kernel) (by decide +kernel) (hp31 _) (by decide) rfl rfl ?_
        refine Ru.op (q := (.iload_n 3, 1)) (S' := (61, _, _, _, _)) (by decide +kernel) rfl ?_
        refine Ru.op (q := (.aload_n 0, 1)) (S' := (62, _, _, _, _)) (by decide +kernel) rfl ?_
        refine Ru.getR (pc' := 65) (i := 14) (ci := 4) (k := 0) (nn := 0) (z := 0) (v := .ref 31) (by decide +kernel) (by decide +kernel) (hp30 _) (by decide) rfl rfl ?_
        refine Ru.getI (pc' := 68) (i := 28) (ci := 5) (k := 3) (nn := 0) (z := 0) (x := (S.F 31 3)) (by decide +kernel) (by decide +kernel) (hp31 _) (by decide) rfl (eI_of _) rfl ?_
        refine Ru.op (q := (.iload_n 1, 1)) (S' := (69, _, _, _, _)) (by decide +kernel) rfl ?_
        obtain ⟨o19, e20, h⟩ := ob_some h
        refine Ru.callI (pc' := 72) (q := (.invokestatic 55, 3)) (j2 := 47) (as := [.ref 32, vI (S.A 33 v2), vI (S.F 31 3), vI v1]) (st' := [vI o19]) (by decide +kernel) rfl rfl rfl rfl ⟨(Nat.le_of_ble_eq_true rfl), (by show 19 + 5 ≤ 224; exact Nat.le_of_ble_eq_true rfl), Nat.le_of_ble_eq_true rfl, Nat.le_of_ble_eq_true rfl⟩ ((g47_ok e20).up (Nat.le_of_ble_eq_true rfl) (Nat.le_of_ble_eq_true rfl)) rfl rfl ?_
        obtain ⟨g21, h⟩ := gd_some h
        by_cases b22 : o19 = 0
        · replace h := if_t b22 h
          refine Ru.br (k := .eq) (off := 5) (bb := true) (tg := 77) (by decide +kernel) (by decide +kernel) (cz (ci_eq1 g21 (by decide) b22)) rfl ?_
          refine Ru.inc (k := 2) (n := 1) (x := v2) (z := (v2 + 1)) (xs' := [some (.ref 30), some (vI v1), some (vI (v2 + 1)), some (vI (S.A 33 v2))]) (pc' := 80) (by decide +kernel) rfl rfl rfl rfl ?_
          refine Ru.op (q := (.goto (-65), 3)) (S' := (15, _, _, _, _)) (by decide +kernel) rfl ?_
          exact ih _ _ ⟨rfl, trivial⟩ _ h r hk hr
        · replace h := if_f b22 h
          refine Ru.br (k := .eq) (off := 5) (bb := false) (tg := 75) (by decide +kernel) (by decide +kernel) (cz (ci_eq0 g21 (by decide) b22)) rfl ?_
          refine Ru.kI (q := (.iconst 1, 1)) (c := 1) (pc' := 76) (by decide +kernel) rfl (by decide) rfl ?_
          cases h
          have h9 := hr _ rfl
          subst h9
          exact Ru.iret (by decide +kernel) rfl (nar_b1 (by decide))
      · replace h := if_f b18 h
        refine Ru.br2 (k := .ne) (off := 27) (bb := true) (tg := 77) (by decide +kernel) (by decide +kernel) (ci_ne1 g16 g17 b18) rfl ?_
        refine Ru.inc (k := 2) (n := 1) (x := v2) (z := (v2 + 1)) (xs' := [some (.ref 30), some (vI v1), some (vI (v2 + 1)), some (vI (S.A 33 v2))]) (pc' := 80) (by decide +kernel) rfl rfl rfl rfl ?_
        refine Ru.op (q := (.goto (-65), 3)) (S' := (15, _, _, _, _)) (by decide +kernel) rfl ?_
        exact ih _ _ ⟨rfl, trivial⟩ _ h r hk hr
    · replace h := if_f b13 h
      refine Ru.br2 (k := .ge) (off := 60) (bb := true) (tg := 83) (by decide +kernel) (by decide +kernel) (ci_ge1 g12 (inR_to _) b13) rfl ?_
      cases h
      exact hk _ rfl _ _ _ _ ⟨rfl, rfl, rfl, hdd.1, trivial⟩
set_option maxRecDepth 100000 in
set_option maxHeartbeats 4000000 in
theorem g46_30_ok {S : St} {o : Int} (h : g46_30 S  = some o) : Ru none 11 224 46 (0, mn_pad (mn_ent [.ref 30]) 4, [], S.ns, Hp S) ((0, some (vI o)), S.ns, Hp S) := by
  unfold g46_30 at h
  show Ru none 11 224 46 (0, [some (.ref 30), none, none, none], [], S.ns, Hp S) _
  refine Ru.op (q := (.aload_n 0, 1)) (S' := (1, _, _, _, _)) (by decide +kernel) rfl ?_
  refine Ru.getI (pc' := 4) (i := 34) (ci := 4) (k := 2) (nn := 0) (z := 0) (x := (S.F 30 2)) (by decide +kernel) (by decide +kernel) (hp30 _) (by decide) rfl (eI_of _) rfl ?_
  refine Ru.op (q := (.aload_n 0, 1)) (S' := (5, _, _, _, _)) (by decide +kernel) rfl ?_
  refine Ru.getR (pc' := 8) (i := 14) (ci := 4) (k := 0) (nn := 0) (z := 0) (v := .ref 31) (by decide +kernel) (by decide +kernel) (hp30 _) (by decide) rfl rfl ?_
  refine Ru.getI (pc' := 11) (i := 28) (ci := 5) (k := 3) (nn := 0) (z := 0) (x := (S.F 31 3)) (by decide +kernel) (by decide +kernel) (hp31 _) (by decide) rfl (eI_of _) rfl ?_
  refine Ru.ar2 (i := .isub) (z := ((S.F 30 2) - (S.F 31 3))) (pc' := 12) (by decide +kernel) rfl (ar_sub _ _) rfl ?_
  refine Ru.op (q := (.istore_n 1, 1)) (S' := (13, [some (.ref 30), some (vI ((S.F 30 2) - (S.F 31 3))), none, none], [], _, _)) (by decide +kernel) rfl ?_
  refine Ru.kI (q := (.iconst 0, 1)) (c := 0) (pc' := 14) (by decide +kernel) rfl (by decide) rfl ?_
  refine Ru.op (q := (.istore_n 2, 1)) (S' := (15, [some (.ref 30), some (vI ((S.F 30 2) - (S.F 31 3))), some (vI 0), none], [], _, _)) (by decide +kernel) rfl ?_
  rcases obr_some h with ⟨o23, e28, h⟩ | e28
  · refine g46_30L15_ok FU _ _ ⟨rfl, trivial⟩ _ e28 _ (fun o' e' => ?_) (fun o' e' => by cases e')
    cases e'
    intro d24 d25 d26 d27 hd29
    refine Ru.kI (q := (.iconst 0, 1)) (c := 0) (pc' := 84) (by decide +kernel) rfl (by decide) rfl ?_
    cases h
    exact Ru.iret (by decide +kernel) rfl (nar_b1 (by decide))
  · exact g46_30L15_ok FU _ _ ⟨rfl, trivial⟩ _ e28 _ (fun o' e' => by cases e') (fun o' e' => by cases e'; rfl)
set_option maxRecDepth 100000 in
set_option maxHeartbeats 4000000 in
theorem g45_30_ok {S : St} {o : St} (h : g45_30 S  = some o) : Ru none 12 247 45 (0, mn_pad (mn_ent [.ref 30]) 1, [], S.ns, Hp S) ((0, none), o.ns, Hp o) := by
  unfold g45_30 at h
  show Ru none 12 247 45 (0, [some (.ref 30)], [], S.ns, Hp S) _
  refine Ru.op (q := (.aload_n 0, 1)) (S' := (1, _, _, _, _)) (by decide +kernel) rfl ?_
  obtain ⟨o1, e2, h⟩ := ob_some h
  refine Ru.vcallI (pc' := 4) (st' := [vI o1]) (i := 44) (j2 := 46) (ci := 4) (k := 0) (z := 0) (as := []) (by decide +kernel) (by decide +kernel) rfl rfl (hp30 _) (by decide) ⟨(Nat.le_of_ble_eq_true rfl), (by show 19 + 4 ≤ 247; exact Nat.le_of_ble_eq_true rfl), Nat.le_of_ble_eq_true rfl, Nat.le_of_ble_eq_true rfl⟩ ((g46_30_ok e2).up (Nat.le_of_ble_eq_true rfl) (Nat.le_of_ble_eq_true rfl)) rfl rfl ?_
  obtain ⟨g3, h⟩ := gd_some h
  by_cases b4 : o1 = 0
  · replace h := if_t b4 h
    refine Ru.br (k := .eq) (off := 17) (bb := true) (tg := 21) (by decide +kernel) (by decide +kernel) (cz (ci_eq1 g3 (by decide) b4)) rfl ?_
    refine Ru.op (q := (.aload_n 0, 1)) (S' := (22, _, _, _, _)) (by decide +kernel) rfl ?_
    refine Ru.getR (pc' := 25) (i := 14) (ci := 4) (k := 0) (nn := 0) (z := 0) (v := .ref 31) (by decide +kernel) (by decide +kernel) (hp30 _) (by decide) rfl rfl ?_
    refine Ru.getI (pc' := 28) (i := 24) (ci := 5) (k := 2) (nn := 0) (z := 0) (x := (S.F 31 2)) (by decide +kernel) (by decide +kernel) (hp31 _) (by decide) rfl (eI_of _) rfl ?_
    refine Ru.kI (q := (.iconst 4, 1)) (c := 4) (pc' := 29) (by decide +kernel) rfl (by decide) rfl ?_
    by_cases b5 : (S.F 31 2) < 4
    · replace h := if_t b5 h
      refine Ru.br2 (k := .lt) (off := 22) (bb := true) (tg := 51) (by decide +kernel) (by decide +kernel) (ci_lt1 (inR_to _) (by decide) b5) rfl ?_
      refine Ru.op (q := (.aload_n 0, 1)) (S' := (52, _, _, _, _)) (by decide +kernel) rfl ?_
      refine Ru.getR (pc' := 55) (i := 14) (ci := 4) (k := 0) (nn := 0) (z := 0) (v := .ref 31) (by decide +kernel) (by decide +kernel) (hp30 _) (by decide) rfl rfl ?_
      refine Ru.op (q := (.dup, 1)) (S' := (56, _, _, _, _)) (by decide +kernel) rfl ?_
      refine Ru.getI (pc' := 59) (i := 24) (ci := 5) (k := 2) (nn := 0) (z := 0) (x := (S.F 31 2)) (by decide +kernel) (by decide +kernel) (hp31 _) (by decide) rfl (eI_of _) rfl ?_
      refine Ru.kI (q := (.iconst 1, 1)) (c := 1) (pc' := 60) (by decide +kernel) rfl (by decide) rfl ?_
      refine Ru.ar2 (i := .iadd) (z := ((S.F 31 2) + 1)) (pc' := 61) (by decide +kernel) rfl (ar_add _ _) rfl ?_
      refine Ru.putH (pc' := 64) (i := 24) (ci := 5) (k := 2) (nn := 0) (z := 0) (by decide +kernel) (by decide +kernel) (hp31 _) (by decide) (Nat.le_of_ble_eq_true rfl) rfl (by decide +kernel) (pf_31_2 _ _) rfl ?_
      refine Ru.op (q := (.aload_n 0, 1)) (S' := (65, _, _, _, _)) (by decide +kernel) rfl ?_
      refine Ru.getR (pc' := 68) (i := 14) (ci := 4) (k := 0) (nn := 0) (z := 0) (v := .ref 31) (by decide +kernel) (by decide +kernel) (hp30 _) (by decide) rfl rfl ?_
      refine Ru.getR (pc' := 71) (i := 31) (ci := 5) (k := 1) (nn := 0) (z := 0) (v := .ref 33) (by decide +kernel) (by decide +kernel) (hp31 _) (by decide) rfl rfl ?_
      refine Ru.op (q := (.aload_n 0, 1)) (S' := (72, _, _, _, _)) (by decide +kernel) rfl ?_
      refine Ru.getR (pc' := 75) (i := 14) (ci := 4) (k := 0) (nn := 0) (z := 0) (v := .ref 31) (by decide +kernel) (by decide +kernel) (hp30 _) (by decide) rfl rfl ?_
      refine Ru.getI (pc' := 78) (i := 24) (ci := 5) (k := 2) (nn := 0) (z := 0) (x := ((S.F 31 2) + 1)) (by decide +kernel) (by decide +kernel) (hp31 _) (by decide) rfl rfl rfl ?_
      refine Ru.op (q := (.aload_n 0, 1)) (S' := (79, _, _, _, _)) (by decide +kernel) rfl ?_
      refine Ru.getI (pc' := 82) (i := 34) (ci := 4) (k := 2) (nn := 0) (z := 0) (x := (S.F 30 2)) (by decide +kernel) (by decide +kernel) (hp30 _) (by decide) rfl (eI_of _) rfl ?_
      obtain ⟨g6, h⟩ := gd_some h
      refine Ru.istI (pc' := 83) (i := ((S.F 31 2) + 1)) (x := (S.F 30 2)) (by decide +kernel) (hp33 _) g6 (ps_33 _ _ _) rfl ?_
      refine Ru.op (q := (.aload_n 0, 1)) (S' := (84, _, _, _, _)) (by decide +kernel) rfl ?_
      refine Ru.getR (pc' := 87) (i := 14) (ci := 4) (k := 0) (nn := 0) (z := 0) (v := .ref 31) (by decide +kernel) (by decide +kernel) (hp30 _) (by decide) rfl rfl ?_
      refine Ru.op (q := (.aload_n 0, 1)) (S' := (88, _, _, _, _)) (by decide +kernel) rfl ?_
      refine Ru.getI (pc' := 91) (i := 34) (ci := 4) (k := 2) (nn := 0) (z := 0) (x := (S.F 30 2)) (by decide +kernel) (by decide +kernel) (hp30 _) (by decide) rfl (eI_of _) rfl ?_
      refine Ru.putH (pc' := 94) (i := 28) (ci := 5) (k := 3) (nn := 0) (z := 0) (by decide +kernel) (by decide +kernel) (hp31 _) (by decide) (Nat.le_of_ble_eq_true rfl) rfl (by decide +kernel) (pf_31_3 _ _) rfl ?_
      cases h
      exact Ru.end (q := (.return_, 1)) (by decide +kernel) rfl rfl
    · replace h := if_f b5 h
      refine Ru.br2 (k := .lt) (off := 22) (bb := false) (tg := 32) (by decide +kernel) (by decide +kernel) (ci_lt0 (inR_to _) (by decide) b5) rfl ?_
      refine Ru.op (q := (.aload_n 0, 1)) (S' := (33, _, _, _, _)) (by decide +kernel) rfl ?_
      refine Ru.kI (q := (.iconst 1, 1)) (c := 1) (pc' := 34) (by decide +kernel) rfl (by decide) rfl ?_
      refine Ru.putH (pc' := 37) (i := 37) (ci := 4) (k := 3) (nn := 0) (z := 0) (by decide +kernel) (by decide +kernel) (hp30 _) (by decide) (Nat.le_of_ble_eq_true rfl) (fk_b (by decide)) (by decide +kernel) (pf_30_3 _ _) rfl ?_
      refine Ru.op (q := (.aload_n 0, 1)) (S' := (38, _, _, _, _)) (by decide +kernel) rfl ?_
      refine Ru.op (q := (.aload_n 0, 1)) (S' := (39, _, _, _, _)) (by decide +kernel) rfl ?_
      refine Ru.getR (pc' := 42) (i := 14) (ci := 4) (k := 0) (nn := 0) (z := 0) (v := .ref 31) (by decide +kernel) (by decide +kernel) (hp30 _) (by decide) rfl rfl ?_
      refine Ru.getI (pc' := 45) (i := 28) (ci := 5) (k := 3) (nn := 0) (z := 0) (x := (S.F 31 3)) (by decide +kernel) (by decide +kernel) (hp31 _) (by decide) rfl (eI_of _) rfl ?_
      refine Ru.putH (pc' := 48) (i := 34) (ci := 4) (k := 2) (nn := 0) (z := 0) (by decide +kernel) (by decide +kernel) (hp30 _) (by decide) (Nat.le_of_ble_eq_true rfl) rfl (by decide +kernel) (pf_30_2 _ _) rfl ?_
      refine Ru.op (q := (.goto 46, 3)) (S' := (94, _, _, _, _)) (by decide +kernel) rfl ?_
      cases h
      exact Ru.end (q := (.return_, 1)) (by decide +kernel) rfl rfl
  · replace h := if_f b4 h
    refine Ru.br (k := .eq) (off := 17) (bb := false) (tg := 7) (by decide +kernel) (by decide +kernel) (cz (ci_eq0 g3 (by decide) b4)) rfl ?_
    refine Ru.op (q := (.aload_n 0, 1)) (S' := (8, _, _, _, _)) (by decide +kernel) rfl ?_
    refine Ru.op (q := (.aload_n 0, 1)) (S' := (9, _, _, _, _)) (by decide +kernel) rfl ?_
    refine Ru.getR (pc' := 12) (i := 14) (ci := 4) (k := 0) (nn := 0) (z := 0) (v := .ref 31) (by decide +kernel) (by decide +kernel) (hp30 _) (by decide) rfl rfl ?_
    refine Ru.getI (pc' := 15) (i := 28) (ci := 5) (k := 3) (nn := 0) (z := 0) (x := (S.F 31 3)) (by decide +kernel) (by decide +kernel) (hp31 _) (by decide) rfl (eI_of _) rfl ?_
    refine Ru.putH (pc' := 18) (i := 34) (ci := 4) (k := 2) (nn := 0) (z := 0) (by decide +kernel) (by decide +kernel) (hp30 _) (by decide) (Nat.le_of_ble_eq_true rfl) rfl (by decide +kernel) (pf_30_2 _ _) rfl ?_
    refine Ru.op (q := (.goto 76, 3)) (S' := (94, _, _, _, _)) (by decide +kernel) rfl ?_
    cases h
    exact Ru.end (q := (.return_, 1)) (by decide +kernel) rfl rfl
set_option maxRecDepth 100000 in
set_option maxHeartbeats 4000000 in
theorem g43_30L15_ok {v1 : Nat} {v2 : Int} {v3 : Int} : ∀ (n : Nat) (v4 : Int) (S : St) (_ : DD []) (out : St), g43_30L15 v1 v2 v3 n v4 S = some out → ∀ r, (∀ (e1 e2 e3 e4 : Option Value), DD [e1, e2, e3, e4] → Ru none 13 267 43 (37, [some (.ref 30), e1, e2, e3, e4], [], out.ns, Hp out) r) → Ru none 13 267 43 (15, [some (.ref 30), some (.ref v1), some (vI v2), some (vI v3), some (vI v4)], [], S.ns, Hp S) r := by
  intro n
  induction n with
  | zero => intro v4 S hdd out h; cases h
  | succ n ih =>
    intro v4 S hdd out h r hk
    unfold g43_30L15 at h
    refine Ru.op (q := (.iload 4, 2)) (S' := (17, _, _, _, _)) (by decide +kernel) rfl ?_
    refine Ru.op (q := (.iload_n 3, 1)) (S' := (18, _, _, _, _)) (by decide +kernel) rfl ?_
    obtain ⟨g3, h⟩ := gd_some h
    obtain ⟨g4, h⟩ := gd_some h
    by_cases b5 : v4 < v3
    · replace h := if_t b5 h
      refine Ru.br2 (k := .ge) (off := 19) (bb := false) (tg := 21) (by decide +kernel) (by decide +kernel) (ci_ge0 g3 g4 b5) rfl ?_
      refine Ru.op (q := (.aload_n 0, 1)) (S' := (22, _, _, _, _)) (by decide +kernel) rfl ?_
      refine Ru.op (q := (.aload_n 1, 1)) (S' := (23, _, _, _, _)) (by decide +kernel) rfl ?_
      refine Ru.op (q := (.iload_n 2, 1)) (S' := (24, _, _, _, _)) (by decide +kernel) rfl ?_
      refine Ru.op (q := (.iload 4, 2)) (S' := (26, _, _, _, _)) (by decide +kernel) rfl ?_
      refine Ru.ar2 (i := .iadd) (z := (v2 + v4)) (pc' := 27) (by decide +kernel) rfl (ar_add _ _) rfl ?_
      obtain ⟨N6, f7, e8, q9, h⟩ := gA_some h
      obtain ⟨g10, h⟩ := gd_some h
      refine Ru.ildI (pc' := 28) (i := (v2 + v4)) (z := (f7 (v2 + v4))) (by decide +kernel) q9 g10 rfl rfl ?_
      obtain ⟨o11, e12, h⟩ := ob_some h
      refine Ru.vcallI (pc' := 31) (st' := []) (i := 48) (j2 := 44) (ci := 4) (k := 0) (z := 0) (as := [vI (f7 (v2 + v4))]) (by decide +kernel) (by decide +kernel) rfl rfl (hp30 _) (by decide) ⟨(Nat.le_of_ble_eq_true rfl), (by show 19 + 2 ≤ 267; exact Nat.le_of_ble_eq_true rfl), Nat.le_of_ble_eq_true rfl, Nat.le_of_ble_eq_true rfl⟩ ((g44_30_ok e12).up (Nat.le_of_ble_eq_true rfl) (Nat.le_of_ble_eq_true rfl)) rfl rfl ?_
      refine Ru.inc (k := 4) (n := 1) (x := v4) (z := (v4 + 1)) (xs' := [some (.ref 30), some (.ref v1), some (vI v2), some (vI v3), some (vI (v4 + 1))]) (pc' := 34) (by decide +kernel) rfl rfl rfl rfl ?_
      refine Ru.op (q := (.goto (-19), 3)) (S' := (15, _, _, _, _)) (by decide +kernel) rfl ?_
      exact ih _ _ trivial _ h r hk
    · replace h := if_f b5 h
      refine Ru.br2 (k := .ge) (off := 19) (bb := true) (tg := 37) (by decide +kernel) (by decide +kernel) (ci_ge1 g3 g4 b5) rfl ?_
      cases h
      exact hk _ _ _ _ ⟨rfl, rfl, rfl, rfl, trivial⟩
set_option maxRecDepth 100000 in
set_option maxHeartbeats 4000000 in
theorem g43_30_ok {S : St} {v1 : Nat} {v2 : Int} {v3 : Int} {o : St} (h : g43_30 S v1 v2 v3 = some o) : Ru none 13 267 43 (0, mn_pad (mn_ent [.ref 30, .ref v1, vI v2, vI v3]) 5, [], S.ns, Hp S) ((0, none), o.ns, Hp o) := by
  unfold g43_30 at h
  show Ru none 13 267 43 (0, [some (.ref 30), some (.ref v1), some (vI v2), some (vI v3), none], [], S.ns, Hp S) _
  refine Ru.op (q := (.iload_n 3, 1)) (S' := (1, _, _, _, _)) (by decide +kernel) rfl ?_
  refine Ru.kI (q := (.bipush 16, 2)) (c := 16) (pc' := 3) (by decide +kernel) rfl (by decide) rfl ?_
  obtain ⟨g1, h⟩ := gd_some h
  by_cases b2 : 16 < v3
  · replace h := if_t b2 h
    refine Ru.br2 (k := .le) (off := 9) (bb := false) (tg := 6) (by decide +kernel) (by decide +kernel) (ci_le0 g1 (by decide) b2) rfl ?_
    refine Ru.op (q := (.aload_n 0, 1)) (S' := (7, _, _, _, _)) (by decide +kernel) rfl ?_
    refine Ru.kI (q := (.iconst 1, 1)) (c := 1) (pc' := 8) (by decide +kernel) rfl (by decide) rfl ?_
    refine Ru.putH (pc' := 11) (i := 37) (ci := 4) (k := 3) (nn := 0) (z := 0) (by decide +kernel) (by decide +kernel) (hp30 _) (by decide) (Nat.le_of_ble_eq_true rfl) (fk_b (by decide)) (by decide +kernel) (pf_30_3 _ _) rfl ?_
    cases h
    exact Ru.end (q := (.return_, 1)) (by decide +kernel) rfl rfl
  · replace h := if_f b2 h
    refine Ru.br2 (k := .le) (off := 9) (bb := true) (tg := 12) (by decide +kernel) (by decide +kernel) (ci_le1 g1 (by decide) b2) rfl ?_
    refine Ru.kI (q := (.iconst 0, 1)) (c := 0) (pc' := 13) (by decide +kernel) rfl (by decide) rfl ?_
    refine Ru.op (q := (.istore 4, 2)) (S' := (15, [some (.ref 30), some (.ref v1), some (vI v2), some (vI v3), some (vI 0)], [], _, _)) (by decide +kernel) rfl ?_
    obtain ⟨o13, e18, h⟩ := ob_some h
    refine g43_30L15_ok FU _ _ trivial _ e18 _ ?_
    intro d14 d15 d16 d17 hd19
    refine Ru.op (q := (.aload_n 0, 1)) (S' := (38, _, _, _, _)) (by decide +kernel) rfl ?_
    obtain ⟨o20, e21, h⟩ := ob_some h
    refine Ru.vcallI (pc' := 41) (st' := []) (i := 52) (j2 := 45) (ci := 4) (k := 0) (z := 0) (as := []) (by decide +kernel) (by decide +kernel) rfl rfl (hp30 _) (by decide) ⟨(Nat.le_of_ble_eq_true rfl), (by show 19 + 1 ≤ 267; exact Nat.le_of_ble_eq_true rfl), Nat.le_of_ble_eq_true rfl, Nat.le_of_ble_eq_true rfl⟩ ((g45_30_ok e21).up (Nat.le_of_ble_eq_true rfl) (Nat.le_of_ble_eq_true rfl)) rfl rfl ?_
    cases h
    exact Ru.end (q := (.return_, 1)) (by decide +kernel) rfl rfl
set_option maxRecDepth 100000 in
set_option maxHeartbeats 4000000 in
theorem g88_30L2_ok : ∀ (n : Nat) (v2 : Int) (S : St) (d3 : Option Value) (_ : DD [d3]) (out : Sum (St) (St)), g88_30L2 n v2 S = some out → ∀ r, (∀ o, out = .inl o → ∀ (e0 e1 e2 e3 : Option Value), DD [e0, e1, e2, e3] → Ru none 142 3427 88 (91, [e0, e1, e2, e3], [], o.ns, Hp o) r) → (∀ o, out = .inr o → r = ((0, none), o.ns, Hp o)) → Ru none 142 3427 88 (2, [some (.ref 1), some (.ref 30), some (vI v2), d3], [], S.ns, Hp S) r := by
  intro n
  induction n with
  | zero => intro v2 S d3 hdd out h; cases h
  | succ n ih =>
    intro v2 S d3 hdd out h r hk hr
    unfold g88_30L2 at h
    refine Ru.op (q := (.iload_n 2, 1)) (S' := (3, _, _, _, _)) (by decide +kernel) rfl ?_
    refine Ru.kI (q := (.sipush 160, 3)) (c := 160) (pc' := 6) (by decide +kernel) rfl (by decide) rfl ?_
    obtain ⟨g25, h⟩ := gd_some h
    by_cases b26 : v2 < 160
    · replace h := if_t b26 h
      refine Ru.br2 (k := .ge) (off := 85) (bb := false) (tg := 9) (by decide +kernel) (by decide +kernel) (ci_ge0 g25 (by decide) b26) rfl ?_
      refine Ru.op (q := (.aload_n 0, 1)) (S' := (10, _, _, _, _)) (by decide +kernel) rfl ?_
      obtain ⟨o27, e28, h⟩ := ob_some h
      refine Ru.vcallI (pc' := 13) (st' := [vI o27]) (i := 69) (j2 := 23) (ci := 1) (k := 0) (z := 0) (as := []) (by decide +kernel) (by decide +kernel) rfl rfl (hp1 _) (by decide) ⟨(Nat.le_of_ble_eq_true rfl), (by show 19 + 1 ≤ 3427; exact Nat.le_of_ble_eq_true rfl), Nat.le_of_ble_eq_true rfl, Nat.le_of_ble_eq_true rfl⟩ ((g23_ok e28).up (Nat.le_of_ble_eq_true rfl) (Nat.le_of_ble_eq_true rfl)) rfl rfl ?_
      refine Ru.kI (q := (.bipush 126, 2)) (c := 126) (pc' := 15) (by decide +kernel) rfl (by decide) rfl ?_
      obtain ⟨g29, h⟩ := gd_some h
      by_cases b30 : o27 = 126
      · replace h := if_t b30 h
        refine Ru.br2 (k := .ne) (off := 7) (bb := false) (tg := 18) (by decide +kernel) (by decide +kernel) (ci_ne0 g29 (by decide) b30) rfl ?_
        refine Ru.kI (q := (.iconst 1, 1)) (c := 1) (pc' := 19) (by decide +kernel) rfl (by decide) rfl ?_
        refine Ru.op (q := (.goto 4, 3)) (S' := (23, _, _, _, _)) (by decide +kernel) rfl ?_
        refine Ru.op (q := (.istore_n 3, 1)) (S' := (24, [some (.ref 1), some (.ref 30), some (vI v2), some (vI 1)], [], _, _)) (by decide +kernel) rfl ?_
        refine Ru.op (q := (.iload_n 3, 1)) (S' := (25, _, _, _, _)) (by decide +kernel) rfl ?_
        refine Ru.br (k := .eq) (off := 13) (bb := false) (tg := 28) (by decide +kernel) (by decide +kernel) (by decide) rfl ?_
        refine Ru.op (q := (.aload_n 0, 1)) (S' := (29, _, _, _, _)) (by decide +kernel) rfl ?_
        refine Ru.op (q := (.dup, 1)) (S' := (30, _, _, _, _)) (by decide +kernel) rfl ?_
        refine Ru.getI (pc' := 33) (i := 36) (ci := 1) (k := 4) (nn := 0) (z := 0) (x := (S.F 1 4)) (by decide +kernel) (by decide +kernel) (hp1 _) (by decide) rfl (eI_of _) rfl ?_
        refine Ru.kI (q := (.iconst 1, 1)) (c := 1) (pc' := 34) (by decide +kernel) rfl (by decide) rfl ?_
        refine Ru.ar2 (i := .iadd) (z := ((S.F 1 4) + 1)) (pc' := 35) (by decide +kernel) rfl (ar_add _ _) rfl ?_
        refine Ru.putH (pc' := 38) (i := 36) (ci := 1) (k := 4) (nn := 0) (z := 0) (by decide +kernel) (by decide +kernel) (hp1 _) (by decide) (Nat.le_of_ble_eq_true rfl) rfl (by decide +kernel) (pf_1_4 _ _) rfl ?_
        refine Ru.op (q := (.aload_n 0, 1)) (S' := (39, _, _, _, _)) (by decide +kernel) rfl ?_
        refine Ru.op (q := (.iload_n 3, 1)) (S' := (40, _, _, _, _)) (by decide +kernel) rfl ?_
        obtain ⟨o31, e32, h⟩ := ob_some h
        refine Ru.vcallI (pc' := 43) (st' := []) (i := 80) (j2 := 24) (ci := 1) (k := 0) (z := 0) (as := [vI 1]) (by decide +kernel) (by decide +kernel) rfl rfl (hp1 _) (by decide) ⟨(Nat.le_of_ble_eq_true rfl), (by show 19 + 3 ≤ 3427; exact Nat.le_of_ble_eq_true rfl), Nat.le_of_ble_eq_true rfl, Nat.le_of_ble_eq_true rfl⟩ ((g24_ok e32).up (Nat.le_of_ble_eq_true rfl) (Nat.le_of_ble_eq_true rfl)) rfl rfl ?_
        refine Ru.op (q := (.aload_n 0, 1)) (S' := (44, _, _, _, _)) (by decide +kernel) rfl ?_
        refine Ru.getI (pc' := 47) (i := 40) (ci := 1) (k := 3) (nn := 0) (z := 0) (x := (o31.F 1 3)) (by decide +kernel) (by decide +kernel) (hp1 _) (by decide) rfl (eI_of _) rfl ?_
        refine Ru.kI (q := (.iconst (-1), 1)) (c := (-1)) (pc' := 48) (by decide +kernel) rfl (by decide) rfl ?_
        by_cases b33 : (o31.F 1 3) = (-1)
        · replace h := if_t b33 h
          refine Ru.br2 (k := .eq) (off := 4) (bb := true) (tg := 52) (by decide +kernel) (by decide +kernel) (ci_eq1 (inR_to _) (by decide) b33) rfl ?_
          refine Ru.op (q := (.aload_n 1, 1)) (S' := (53, _, _, _, _)) (by decide +kernel) rfl ?_
          refine Ru.op (q := (.aload_n 0, 1)) (S' := (54, _, _, _, _)) (by decide +kernel) rfl ?_
          refine Ru.getR (pc' := 57) (i := 29) (ci := 1) (k := 11) (nn := 0) (z := 0) (v := .ref 12) (by decide +kernel) (by decide +kernel) (hp1 _) (by decide) rfl rfl ?_
          refine Ru.kI (q := (.iconst 0, 1)) (c := 0) (pc' := 58) (by decide +kernel) rfl (by decide) rfl ?_
          refine Ru.op (q := (.aload_n 0, 1)) (S' := (59, _, _, _, _)) (by decide +kernel) rfl ?_
          refine Ru.getI (pc' := 62) (i := 84) (ci := 1) (k := 12) (nn := 0) (z := 0) (x := (o31.F 1 12)) (by decide +kernel) (by decide +kernel) (hp1 _) (by decide) rfl (eI_of _) rfl ?_
          obtain ⟨o34, e35, h⟩ := ob_some h
          refine Ru.vcallI (pc' := 65) (st' := []) (i := 113) (j2 := 43) (ci := 4) (k := 0) (z := 0) (as := [.ref 12, vI 0, vI (o31.F 1 12)]) (by decide +kernel) (by decide +kernel) rfl rfl (hp30 _) (by decide) ⟨(Nat.le_of_ble_eq_true rfl), (by show 19 + 5 ≤ 3427; exact Nat.le_of_ble_eq_true rfl), Nat.le_of_ble_eq_true rfl, Nat.le_of_ble_eq_true rfl⟩ ((g43_30_ok e35).up (Nat.le_of_ble_eq_true rfl) (Nat.le_of_ble_eq_true rfl)) rfl rfl ?_
          refine Ru.op (q := (.aload_n 0, 1)) (S' := (66, _, _, _, _)) (by decide +kernel) rfl ?_
          obtain ⟨o36, e37, h⟩ := ob_some h
          refine Ru.vcallI (pc' := 69) (st' := [vI o36]) (i := 69) (j2 := 23) (ci := 1) (k := 0) (z := 0) (as := []) (by decide +kernel) (by decide +kernel) rfl rfl (hp1 _) (by decide) ⟨(Nat.le_of_ble_eq_true rfl), (by show 19 + 1 ≤ 3427; exact Nat.le_of_ble_eq_true rfl), Nat.le_of_ble_eq_true rfl, Nat.le_of_ble_eq_true rfl⟩ ((g23_ok e37).up (Nat.le_of_ble_eq_true rfl) (Nat.le_of_ble_eq_true rfl)) rfl rfl ?_
          refine Ru.kI (q := (.bipush 124, 2)) (c := 124) (pc' := 71) (by decide +kernel) rfl (by decide) rfl ?_
          obtain ⟨g38, h⟩ := gd_some h
          by_cases b39 : o36 = 124
          · replace h := if_t b39 h
            refine Ru.br2 (k := .eq) (off := 4) (bb := true) (tg := 75) (by decide +kernel) (by decide +kernel) (ci_eq1 g38 (by decide) b39) rfl ?_
            refine Ru.op (q := (.aload_n 0, 1)) (S' := (76, _, _, _, _)) (by decide +kernel) rfl ?_
            refine Ru.op (q := (.dup, 1)) (S' := (77, _, _, _, _)) (by decide +kernel) rfl ?_
            refine Ru.getI (pc' := 80) (i := 36) (ci := 1) (k := 4) (nn := 0) (z := 0) (x := (o34.F 1 4)) (by decide +kernel) (by decide +kernel) (hp1 _) (by decide) rfl (eI_of _) rfl ?_
            refine Ru.kI (q := (.iconst 1, 1)) (c := 1) (pc' := 81) (by decide +kernel) rfl (by decide) rfl ?_
            refine Ru.ar2 (i := .iadd) (z := ((o34.F 1 4) + 1)) (pc' := 82) (by decide +kernel) rfl (ar_add _ _) rfl ?_
            refine Ru.putH (pc' := 85) (i := 36) (ci := 1) (k := 4) (nn := 0) (z := 0) (by decide +kernel) (by decide +kernel) (hp1 _) (by decide) (Nat.le_of_ble_eq_true rfl) rfl (by decide +kernel) (pf_1_4 _ _) rfl ?_
            refine Ru.inc (k := 2) (n := 1) (x := v2) (z := (v2 + 1)) (xs' := [some (.ref 1), some (.ref 30), some (vI (v2 + 1)), some (vI 1)]) (pc' := 88) (by decide +kernel) rfl rfl rfl rfl ?_
            refine Ru.op (q := (.goto (-86), 3)) (S' := (2, _, _, _, _)) (by decide +kernel) rfl ?_
            exact ih _ _ _ ⟨rfl, trivial⟩ _ h r hk hr
          · replace h := if_f b39 h
            refine Ru.br2 (k := .eq) (off := 4) (bb := false) (tg := 74) (by decide +kernel) (by decide +kernel) (ci_eq0 g38 (by decide) b39) rfl ?_
            cases h
            have h9 := hr _ rfl
            subst h9
            exact Ru.end (q := (.return_, 1)) (by decide +kernel) rfl rfl
        · replace h := if_f b33 h
          refine Ru.br2 (k := .eq) (off := 4) (bb := false) (tg := 51) (by decide +kernel) (by decide +kernel) (ci_eq0 (inR_to _) (by decide) b33) rfl ?_
          cases h
          have h9 := hr _ rfl
          subst h9
          exact Ru.end (q := (.return_, 1)) (by decide +kernel) rfl rfl
      · replace h := if_f b30 h
        refine Ru.br2 (k := .ne) (off := 7) (bb := true) (tg := 22) (by decide +kernel) (by decide +kernel) (ci_ne1 g29 (by decide) b30) rfl ?_
        refine Ru.kI (q := (.iconst 0, 1)) (c := 0) (pc' := 23) (by decide +kernel) rfl (by decide) rfl ?_
        refine Ru.op (q := (.istore_n 3, 1)) (S' := (24, [some (.ref 1), some (.ref 30), some (vI v2), some (vI 0)], [], _, _)) (by decide +kernel) rfl ?_
        refine Ru.op (q := (.iload_n 3, 1)) (S' := (25, _, _, _, _)) (by decide +kernel) rfl ?_
        refine Ru.br (k := .eq) (off := 13) (bb := true) (tg := 38) (by decide +kernel) (by decide +kernel) (by decide) rfl ?_
        refine Ru.op (q := (.aload_n 0, 1)) (S' := (39, _, _, _, _)) (by decide +kernel) rfl ?_
        refine Ru.op (q := (.iload_n 3, 1)) (S' := (40, _, _, _, _)) (by decide +kernel) rfl ?_
        obtain ⟨o40, e41, h⟩ := ob_some h
        refine Ru.vcallI (pc' := 43) (st' := []) (i := 80) (j2 := 24) (ci := 1) (k := 0) (z := 0) (as := [vI 0]) (by decide +kernel) (by decide +kernel) rfl rfl (hp1 _) (by decide) ⟨(Nat.le_of_ble_eq_true rfl), (by show 19 + 3 ≤ 3427; exact Nat.le_of_ble_eq_true rfl), Nat.le_of_ble_eq_true rfl, Nat.le_of_ble_eq_true rfl⟩ ((g24_ok e41).up (Nat.le_of_ble_eq_true rfl) (Nat.le_of_ble_eq_true rfl)) rfl rfl ?_
        refine Ru.op (q := (.aload_n 0, 1)) (S' := (44, _, _, _, _)) (by decide +kernel) rfl ?_
        refine Ru.getI (pc' := 47) (i := 40) (ci := 1) (k := 3) (nn := 0) (z := 0) (x := (o40.F 1 3)) (by decide +kernel) (by decide +kernel) (hp1 _) (by decide) rfl (eI_of _) rfl ?_
        refine Ru.kI (q := (.iconst (-1), 1)) (c := (-1)) (pc' := 48) (by decide +kernel) rfl (by decide) rfl ?_
        by_cases b42 : (o40.F 1 3) = (-1)
        · replace h := if_t b42 h
          refine Ru.br2 (k := .eq) (off := 4) (bb := true) (tg := 52) (by decide +kernel) (by decide +kernel) (ci_eq1 (inR_to _) (by decide) b42) rfl ?_
          refine Ru.op (q := (.aload_n 1, 1)) (S' := (53, _, _, _, _)) (by decide +kernel) rfl ?_
          refine Ru.op (q := (.aload_n 0, 1)) (S' := (54, _, _, _, _)) (by decide +kernel) rfl ?_
          refine Ru.getR (pc' := 57) (i := 29) (ci := 1) (k := 11) (nn := 0) (z := 0) (v := .ref 12) (by decide +kernel) (by decide +kernel) (hp1 _) (by decide) rfl rfl ?_
          refine Ru.kI (q := (.iconst 0, 1)) (c := 0) (pc' := 58) (by decide +kernel) rfl (by decide) rfl ?_
          refine Ru.op (q := (.aload_n 0, 1)) (S' := (59, _, _, _, _)) (by decide +kernel) rfl ?_
          refine Ru.getI (pc' := 62) (i := 84) (ci := 1) (k := 12) (nn := 0) (z := 0) (x := (o40.F 1 12)) (by decide +kernel) (by decide +kernel) (hp1 _) (by decide) rfl (eI_of _) rfl ?_
          obtain ⟨o43, e44, h⟩ := ob_some h
          refine Ru.vcallI (pc' := 65) (st' := []) (i := 113) (j2 := 43) (ci := 4) (k := 0) (z := 0) (as := [.ref 12, vI 0, vI (o40.F 1 12)]) (by decide +kernel) (by decide +kernel) rfl rfl (hp30 _) (by decide) ⟨(Nat.le_of_ble_eq_true rfl), (by show 19 + 5 ≤ 3427; exact Nat.le_of_ble_eq_true rfl), Nat.le_of_ble_eq_true rfl, Nat.le_of_ble_eq_true rfl⟩ ((g43_30_ok e44).up (Nat.le_of_ble_eq_true rfl) (Nat.le_of_ble_eq_true rfl)) rfl rfl ?_
          refine Ru.op (q := (.aload_n 0, 1)) (S' := (66, _, _, _, _)) (by decide +kernel) rfl ?_
          obtain ⟨o45, e46, h⟩ := ob_some h
          refine Ru.vcallI (pc' := 69) (st' := [vI o45]) (i := 69) (j2 := 23) (ci := 1) (k := 0) (z := 0) (as := []) (by decide +kernel) (by decide +kernel) rfl rfl (hp1 _) (by decide) ⟨(Nat.le_of_ble_eq_true rfl), (by show 19 + 1 ≤ 3427; exact Nat.le_of_ble_eq_true rfl), Nat.le_of_ble_eq_true rfl, Nat.le_of_ble_eq_true rfl⟩ ((g23_ok e46).up (Nat.le_of_ble_eq_true rfl) (Nat.le_of_ble_eq_true rfl)) rfl rfl ?_
          refine Ru.kI (q := (.bipush 124, 2)) (c := 124) (pc' := 71) (by decide +kernel) rfl (by decide) rfl ?_
          obtain ⟨g47, h⟩ := gd_some h
          by_cases b48 : o45 = 124
          · replace h := if_t b48 h
            refine Ru.br2 (k := .eq) (off := 4) (bb := true) (tg := 75) (by decide +kernel) (by decide +kernel) (ci_eq1 g47 (by decide) b48) rfl ?_
            refine Ru.op (q := (.aload_n 0, 1)) (S' := (76, _, _, _, _)) (by decide +kernel) rfl ?_
            refine Ru.op (q := (.dup, 1)) (S' := (77, _, _, _, _)) (by decide +kernel) rfl ?_
            refine Ru.getI (pc' := 80) (i := 36) (ci := 1) (k := 4) (nn := 0) (z := 0) (x := (o43.F 1 4)) (by decide +kernel) (by decide +kernel) (hp1 _) (by decide) rfl (eI_of _) rfl ?_
            refine Ru.kI (q := (.iconst 1, 1)) (c := 1) (pc' := 81) (by decide +kernel) rfl (by decide) rfl ?_
            refine Ru.ar2 (i := .iadd) (z := ((o43.F 1 4) + 1)) (pc' := 82) (by decide +kernel) rfl (ar_add _ _) rfl ?_
            refine Ru.putH (pc' := 85) (i := 36) (ci := 1) (k := 4) (nn := 0) (z := 0) (by decide +kernel) (by decide +kernel) (hp1 _) (by decide) (Nat.le_of_ble_eq_true rfl) rfl (by decide +kernel) (pf_1_4 _ _) rfl ?_
            refine Ru.inc (k := 2) (n := 1) (x := v2) (z := (v2 + 1)) (xs' := [some (.ref 1), some (.ref 30), some (vI (v2 + 1)), some (vI 0)]) (pc' := 88) (by decide +kernel) rfl rfl rfl rfl ?_
            refine Ru.op (q := (.goto (-86), 3)) (S' := (2, _, _, _, _)) (by decide +kernel) rfl ?_
            exact ih _ _ _ ⟨rfl, trivial⟩ _ h r hk hr
          · replace h := if_f b48 h
            refine Ru.br2 (k := .eq) (off := 4) (bb := false) (tg := 74) (by decide +kernel) (by decide +kernel) (ci_eq0 g47 (by decide) b48) rfl ?_
            cases h
            have h9 := hr _ rfl
            subst h9
            exact Ru.end (q := (.return_, 1)) (by decide +kernel) rfl rfl
        · replace h := if_f b42 h
          refine Ru.br2 (k := .eq) (off := 4) (bb := false) (tg := 51) (by decide +kernel) (by decide +kernel) (ci_eq0 (inR_to _) (by decide) b42) rfl ?_
          cases h
          have h9 := hr _ rfl
          subst h9
          exact Ru.end (q := (.return_, 1)) (by decide +kernel) rfl rfl
    · replace h := if_f b26 h
      refine Ru.br2 (k := .ge) (off := 85) (bb := true) (tg := 91) (by decide +kernel) (by decide +kernel) (ci_ge1 g25 (by decide) b26) rfl ?_
      cases h
      exact hk _ rfl _ _ _ _ ⟨rfl, rfl, rfl, hdd.1, trivial⟩
set_option maxRecDepth 100000 in
set_option maxHeartbeats 4000000 in
theorem g88_30_ok {S : St} {o : St} (h : g88_30 S  = some o) : Ru none 142 3427 88 (0, mn_pad (mn_ent [.ref 1, .ref 30]) 4, [], S.ns, Hp S) ((0, none), o.ns, Hp o) := by
  unfold g88_30 at h
  show Ru none 142 3427 88 (0, [some (.ref 1), some (.ref 30), none, none], [], S.ns, Hp S) _
  refine Ru.kI (q := (.iconst 0, 1)) (c := 0) (pc' := 1) (by decide +kernel) rfl (by decide) rfl ?_
  refine Ru.op (q := (.istore_n 2, 1)) (S' := (2, [some (.ref 1), some (.ref 30), some (vI 0), none], [], _, _)) (by decide +kernel) rfl ?_
  rcases obr_some h with ⟨o49, e54, h⟩ | e54
  · refine g88_30L2_ok FU _ _ _ ⟨rfl, trivial⟩ _ e54 _ (fun o' e' => ?_) (fun o' e' => by cases e')
    cases e'
    intro d50 d51 d52 d53 hd55
    cases h
    exact Ru.end (q := (.return_, 1)) (by decide +kernel) rfl rfl
  · exact g88_30L2_ok FU _ _ _ ⟨rfl, trivial⟩ _ e54 _ (fun o' e' => by cases e') (fun o' e' => by cases e'; rfl)
set_option maxRecDepth 100000 in
set_option maxHeartbeats 4000000 in
theorem g87_30_ok {S : St} {o : Int × St} (h : g87_30 S  = some o) : Ru none 143 3450 87 (0, mn_pad (mn_ent [.ref 1, .ref 30]) 2, [], S.ns, Hp S) ((0, some (vI o.1)), o.2.ns, Hp o.2) := by
  unfold g87_30 at h
  show Ru none 143 3450 87 (0, [some (.ref 1), some (.ref 30)], [], S.ns, Hp S) _
  refine Ru.op (q := (.aload_n 0, 1)) (S' := (1, _, _, _, _)) (by decide +kernel) rfl ?_
  refine Ru.kI (q := (.iconst 1, 1)) (c := 1) (pc' := 2) (by decide +kernel) rfl (by decide) rfl ?_
  refine Ru.putH (pc' := 5) (i := 32) (ci := 1) (k := 5) (nn := 0) (z := 0) (by decide +kernel) (by decide +kernel) (hp1 _) (by decide) (Nat.le_of_ble_eq_true rfl) (fk_b (by decide)) (by decide +kernel) (pf_1_5 _ _) rfl ?_
  refine Ru.op (q := (.aload_n 0, 1)) (S' := (6, _, _, _, _)) (by decide +kernel) rfl ?_
  refine Ru.kI (q := (.iconst 0, 1)) (c := 0) (pc' := 7) (by decide +kernel) rfl (by decide) rfl ?_
  refine Ru.putH (pc' := 10) (i := 36) (ci := 1) (k := 4) (nn := 0) (z := 0) (by decide +kernel) (by decide +kernel) (hp1 _) (by decide) (Nat.le_of_ble_eq_true rfl) rfl (by decide +kernel) (pf_1_4 _ _) rfl ?_
  refine Ru.op (q := (.aload_n 0, 1)) (S' := (11, _, _, _, _)) (by decide +kernel) rfl ?_
  refine Ru.kI (q := (.iconst (-1), 1)) (c := (-1)) (pc' := 12) (by decide +kernel) rfl (by decide) rfl ?_
  refine Ru.putH (pc' := 15) (i := 40) (ci := 1) (k := 3) (nn := 0) (z := 0) (by decide +kernel) (by decide +kernel) (hp1 _) (by decide) (Nat.le_of_ble_eq_true rfl) rfl (by decide +kernel) (pf_1_3 _ _) rfl ?_
  refine Ru.op (q := (.aload_n 1, 1)) (S' := (16, _, _, _, _)) (by decide +kernel) rfl ?_
  obtain ⟨o1, e2, h⟩ := ob_some h
  refine Ru.vcallI (pc' := 19) (st' := []) (i := 66) (j2 := 41) (ci := 4) (k := 0) (z := 0) (as := []) (by decide +kernel) (by decide +kernel) rfl rfl (hp30 _) (by decide) ⟨(Nat.le_of_ble_eq_true rfl), (by show 19 + 1 ≤ 3450; exact Nat.le_of_ble_eq_true rfl), Nat.le_of_ble_eq_true rfl, Nat.le_of_ble_eq_true rfl⟩ ((g41_30_ok e2).up (Nat.le_of_ble_eq_true rfl) (Nat.le_of_ble_eq_true rfl)) rfl rfl ?_
  refine Ru.op (q := (.aload_n 0, 1)) (S' := (20, _, _, _, _)) (by decide +kernel) rfl ?_
  obtain ⟨o3, e4, h⟩ := ob_some h
  refine Ru.vcallI (pc' := 23) (st' := [vI o3]) (i := 69) (j2 := 23) (ci := 1) (k := 0) (z := 0) (as := []) (by decide +kernel) (by decide +kernel) rfl rfl (hp1 _) (by decide) ⟨(Nat.le_of_ble_eq_true rfl), (by show 19 + 1 ≤ 3450; exact Nat.le_of_ble_eq_true rfl), Nat.le_of_ble_eq_true rfl, Nat.le_of_ble_eq_true rfl⟩ ((g23_ok e4).up (Nat.le_of_ble_eq_true rfl) (Nat.le_of_ble_eq_true rfl)) rfl rfl ?_
  refine Ru.kI (q := (.bipush 48, 2)) (c := 48) (pc' := 25) (by decide +kernel) rfl (by decide) rfl ?_
  obtain ⟨g5, h⟩ := gd_some h
  by_cases b6 : o3 = 48
  · replace h := if_t b6 h
    refine Ru.br2 (k := .ne) (off := 16) (bb := false) (tg := 28) (by decide +kernel) (by decide +kernel) (ci_ne0 g5 (by decide) b6) rfl ?_
    refine Ru.op (q := (.aload_n 0, 1)) (S' := (29, _, _, _, _)) (by decide +kernel) rfl ?_
    refine Ru.op (q := (.dup, 1)) (S' := (30, _, _, _, _)) (by decide +kernel) rfl ?_
    refine Ru.getI (pc' := 33) (i := 36) (ci := 1) (k := 4) (nn := 0) (z := 0) (x := (o1.F 1 4)) (by decide +kernel) (by decide +kernel) (hp1 _) (by decide) rfl (eI_of _) rfl ?_
    refine Ru.kI (q := (.iconst 1, 1)) (c := 1) (pc' := 34) (by decide +kernel) rfl (by decide) rfl ?_
    refine Ru.ar2 (i := .iadd) (z := ((o1.F 1 4) + 1)) (pc' := 35) (by decide +kernel) rfl (ar_add _ _) rfl ?_
    refine Ru.putH (pc' := 38) (i := 36) (ci := 1) (k := 4) (nn := 0) (z := 0) (by decide +kernel) (by decide +kernel) (hp1 _) (by decide) (Nat.le_of_ble_eq_true rfl) rfl (by decide +kernel) (pf_1_4 _ _) rfl ?_
    refine Ru.op (q := (.goto 8, 3)) (S' := (46, _, _, _, _)) (by decide +kernel) rfl ?_
    refine Ru.op (q := (.aload_n 0, 1)) (S' := (47, _, _, _, _)) (by decide +kernel) rfl ?_
    refine Ru.getI (pc' := 50) (i := 40) (ci := 1) (k := 3) (nn := 0) (z := 0) (x := (o1.F 1 3)) (by decide +kernel) (by decide +kernel) (hp1 _) (by decide) rfl (eI_of _) rfl ?_
    refine Ru.kI (q := (.iconst (-1), 1)) (c := (-1)) (pc' := 51) (by decide +kernel) rfl (by decide) rfl ?_
    by_cases b7 : (o1.F 1 3) = (-1)
    · replace h := if_t b7 h
      refine Ru.br2 (k := .ne) (off := 23) (bb := false) (tg := 54) (by decide +kernel) (by decide +kernel) (ci_ne0 (inR_to _) (by decide) b7) rfl ?_
      refine Ru.op (q := (.aload_n 0, 1)) (S' := (55, _, _, _, _)) (by decide +kernel) rfl ?_
      refine Ru.getI (pc' := 58) (i := 36) (ci := 1) (k := 4) (nn := 0) (z := 0) (x := ((o1.F 1 4) + 1)) (by decide +kernel) (by decide +kernel) (hp1 _) (by decide) rfl rfl rfl ?_
      refine Ru.op (q := (.aload_n 0, 1)) (S' := (59, _, _, _, _)) (by decide +kernel) rfl ?_
      refine Ru.getI (pc' := 62) (i := 59) (ci := 1) (k := 1) (nn := 0) (z := 0) (x := (o1.F 1 1)) (by decide +kernel) (by decide +kernel) (hp1 _) (by decide) rfl (eI_of _) rfl ?_
      obtain ⟨g8, h⟩ := gd_some h
      by_cases b9 : ((o1.F 1 4) + 1) < (o1.F 1 1)
      · replace h := if_t b9 h
        refine Ru.br2 (k := .ge) (off := 12) (bb := false) (tg := 65) (by decide +kernel) (by decide +kernel) (ci_ge0 g8 (inR_to _) b9) rfl ?_
        refine Ru.op (q := (.aload_n 0, 1)) (S' := (66, _, _, _, _)) (by decide +kernel) rfl ?_
        refine Ru.op (q := (.aload_n 0, 1)) (S' := (67, _, _, _, _)) (by decide +kernel) rfl ?_
        refine Ru.getI (pc' := 70) (i := 36) (ci := 1) (k := 4) (nn := 0) (z := 0) (x := ((o1.F 1 4) + 1)) (by decide +kernel) (by decide +kernel) (hp1 _) (by decide) rfl rfl rfl ?_
        obtain ⟨o10, e11, h⟩ := ob_some h
        refine Ru.vcallI (pc' := 73) (st' := [vI o10.1]) (i := 62) (j2 := 25) (ci := 1) (k := 0) (z := 0) (as := [vI ((o1.F 1 4) + 1)]) (by decide +kernel) (by decide +kernel) rfl rfl (hp1 _) (by decide) ⟨(Nat.le_of_ble_eq_true rfl), (by show 19 + 2 ≤ 3450; exact Nat.le_of_ble_eq_true rfl), Nat.le_of_ble_eq_true rfl, Nat.le_of_ble_eq_true rfl⟩ ((g25_ok e11).up (Nat.le_of_ble_eq_true rfl) (Nat.le_of_ble_eq_true rfl)) rfl rfl ?_
        refine Ru.op (q := (.pop, 1)) (S' := (74, _, _, _, _)) (by decide +kernel) rfl ?_
        refine Ru.op (q := (.aload_n 1, 1)) (S' := (75, _, _, _, _)) (by decide +kernel) rfl ?_
        obtain ⟨o12, e13, h⟩ := ob_some h
        refine Ru.vcallI (pc' := 78) (st' := []) (i := 77) (j2 := 48) (ci := 4) (k := 0) (z := 0) (as := []) (by decide +kernel) (by decide +kernel) rfl rfl (hp30 _) (by decide) ⟨(Nat.le_of_ble_eq_true rfl), (by show 19 + 5 ≤ 3450; exact Nat.le_of_ble_eq_true rfl), Nat.le_of_ble_eq_true rfl, Nat.le_of_ble_eq_true rfl⟩ ((g48_30_ok e13).up (Nat.le_of_ble_eq_true rfl) (Nat.le_of_ble_eq_true rfl)) rfl rfl ?_
        refine Ru.op (q := (.aload_n 0, 1)) (S' := (79, _, _, _, _)) (by decide +kernel) rfl ?_
        refine Ru.getI (pc' := 82) (i := 40) (ci := 1) (k := 3) (nn := 0) (z := 0) (x := (o12.F 1 3)) (by decide +kernel) (by decide +kernel) (hp1 _) (by decide) rfl (eI_of _) rfl ?_
        refine Ru.kI (q := (.iconst (-1), 1)) (c := (-1)) (pc' := 83) (by decide +kernel) rfl (by decide) rfl ?_
        by_cases b14 : (o12.F 1 3) = (-1)
        · replace h := if_t b14 h
          refine Ru.br2 (k := .ne) (off := 7) (bb := false) (tg := 86) (by decide +kernel) (by decide +kernel) (ci_ne0 (inR_to _) (by decide) b14) rfl ?_
          refine Ru.kI (q := (.iconst 1, 1)) (c := 1) (pc' := 87) (by decide +kernel) rfl (by decide) rfl ?_
          refine Ru.op (q := (.goto 4, 3)) (S' := (91, _, _, _, _)) (by decide +kernel) rfl ?_
          cases h
          exact Ru.iret (by decide +kernel) rfl (nar_b1 (by decide))
        · replace h := if_f b14 h
          refine Ru.br2 (k := .ne) (off := 7) (bb := true) (tg := 90) (by decide +kernel) (by decide +kernel) (ci_ne1 (inR_to _) (by decide) b14) rfl ?_
          refine Ru.kI (q := (.iconst 0, 1)) (c := 0) (pc' := 91) (by decide +kernel) rfl (by decide) rfl ?_
          cases h
          exact Ru.iret (by decide +kernel) rfl (nar_b1 (by decide))
      · replace h := if_f b9 h
        refine Ru.br2 (k := .ge) (off := 12) (bb := true) (tg := 74) (by decide +kernel) (by decide +kernel) (ci_ge1 g8 (inR_to _) b9) rfl ?_
        refine Ru.op (q := (.aload_n 1, 1)) (S' := (75, _, _, _, _)) (by decide +kernel) rfl ?_
        obtain ⟨o15, e16, h⟩ := ob_some h
        refine Ru.vcallI (pc' := 78) (st' := []) (i := 77) (j2 := 48) (ci := 4) (k := 0) (z := 0) (as := []) (by decide +kernel) (by decide +kernel) rfl rfl (hp30 _) (by decide) ⟨(Nat.le_of_ble_eq_true rfl), (by show 19 + 5 ≤ 3450; exact Nat.le_of_ble_eq_true rfl), Nat.le_of_ble_eq_true rfl, Nat.le_of_ble_eq_true rfl⟩ ((g48_30_ok e16).up (Nat.le_of_ble_eq_true rfl) (Nat.le_of_ble_eq_true rfl)) rfl rfl ?_
        refine Ru.op (q := (.aload_n 0, 1)) (S' := (79, _, _, _, _)) (by decide +kernel) rfl ?_
        refine Ru.getI (pc' := 82) (i := 40) (ci := 1) (k := 3) (nn := 0) (z := 0) (x := (o15.F 1 3)) (by decide +kernel) (by decide +kernel) (hp1 _) (by decide) rfl (eI_of _) rfl ?_
        refine Ru.kI (q := (.iconst (-1), 1)) (c := (-1)) (pc' := 83) (by decide +kernel) rfl (by decide) rfl ?_
        by_cases b17 : (o15.F 1 3) = (-1)
        · replace h := if_t b17 h
          refine Ru.br2 (k := .ne) (off := 7) (bb := false) (tg := 86) (by decide +kernel) (by decide +kernel) (ci_ne0 (inR_to _) (by decide) b17) rfl ?_
          refine Ru.kI (q := (.iconst 1, 1)) (c := 1) (pc' := 87) (by decide +kernel) rfl (by decide) rfl ?_
          refine Ru.op (q := (.goto 4, 3)) (S' := (91, _, _, _, _)) (by decide +kernel) rfl ?_
          cases h
          exact Ru.iret (by decide +kernel) rfl (nar_b1 (by decide))
        · replace h := if_f b17 h
          refine Ru.br2 (k := .ne) (off := 7) (bb := true) (tg := 90) (by decide +kernel) (by decide +kernel) (ci_ne1 (inR_to _) (by decide) b17) rfl ?_
          refine Ru.kI (q := (.iconst 0, 1)) (c := 0) (pc' := 91) (by decide +kernel) rfl (by decide) rfl ?_
          cases h
          exact Ru.iret (by decide +kernel) rfl (nar_b1 (by decide))
    · replace h := if_f b7 h
      refine Ru.br2 (k := .ne) (off := 23) (bb := true) (tg := 74) (by decide +kernel) (by decide +kernel) (ci_ne1 (inR_to _) (by decide) b7) rfl ?_
      refine Ru.op (q := (.aload_n 1, 1)) (S' := (75, _, _, _, _)) (by decide +kernel) rfl ?_
      obtain ⟨o18, e19, h⟩ := ob_some h
      refine Ru.vcallI (pc' := 78) (st' := []) (i := 77) (j2 := 48) (ci := 4) (k := 0) (z := 0) (as := []) (by decide +kernel) (by decide +kernel) rfl rfl (hp30 _) (by decide) ⟨(Nat.le_of_ble_eq_true rfl), (by show 19 + 5 ≤ 3450; exact Nat.le_of_ble_eq_true rfl), Nat.le_of_ble_eq_true rfl, Nat.le_of_ble_eq_true rfl⟩ ((g48_30_ok e19).up (Nat.le_of_ble_eq_true rfl) (Nat.le_of_ble_eq_true rfl)) rfl rfl ?_
      refine Ru.op (q := (.aload_n 0, 1)) (S' := (79, _, _, _, _)) (by decide +kernel) rfl ?_
      refine Ru.getI (pc' := 82) (i := 40) (ci := 1) (k := 3) (nn := 0) (z := 0) (x := (o18.F 1 3)) (by decide +kernel) (by decide +kernel) (hp1 _) (by decide) rfl (eI_of _) rfl ?_
      refine Ru.kI (q := (.iconst (-1), 1)) (c := (-1)) (pc' := 83) (by decide +kernel) rfl (by decide) rfl ?_
      by_cases b20 : (o18.F 1 3) = (-1)
      · replace h := if_t b20 h
        refine Ru.br2 (k := .ne) (off := 7) (bb := false) (tg := 86) (by decide +kernel) (by decide +kernel) (ci_ne0 (inR_to _) (by decide) b20) rfl ?_
        refine Ru.kI (q := (.iconst 1, 1)) (c := 1) (pc' := 87) (by decide +kernel) rfl (by decide) rfl ?_
        refine Ru.op (q := (.goto 4, 3)) (S' := (91, _, _, _, _)) (by decide +kernel) rfl ?_
        cases h
        exact Ru.iret (by decide +kernel) rfl (nar_b1 (by decide))
      · replace h := if_f b20 h
        refine Ru.br2 (k := .ne) (off := 7) (bb := true) (tg := 90) (by decide +kernel) (by decide +kernel) (ci_ne1 (inR_to _) (by decide) b20) rfl ?_
        refine Ru.kI (q := (.iconst 0, 1)) (c := 0) (pc' := 91) (by decide +kernel) rfl (by decide) rfl ?_
        cases h
        exact Ru.iret (by decide +kernel) rfl (nar_b1 (by decide))
  · replace h := if_f b6 h
    refine Ru.br2 (k := .ne) (off := 16) (bb := true) (tg := 41) (by decide +kernel) (by decide +kernel) (ci_ne1 g5 (by decide) b6) rfl ?_
    refine Ru.op (q := (.aload_n 0, 1)) (S' := (42, _, _, _, _)) (by decide +kernel) rfl ?_
    refine Ru.op (q := (.aload_n 1, 1)) (S' := (43, _, _, _, _)) (by decide +kernel) rfl ?_
    obtain ⟨o21, e22, h⟩ := ob_some h
    refine Ru.vcallI (pc' := 46) (st' := []) (i := 73) (j2 := 88) (ci := 1) (k := 0) (z := 0) (as := [.ref 30]) (by decide +kernel) (by decide +kernel) rfl rfl (hp1 _) (by decide) ⟨(Nat.le_of_ble_eq_true rfl), (by show 19 + 4 ≤ 3450; exact Nat.le_of_ble_eq_true rfl), Nat.le_of_ble_eq_true rfl, Nat.le_of_ble_eq_true rfl⟩ ((g88_30_ok e22).up (Nat.le_of_ble_eq_true rfl) (Nat.le_of_ble_eq_true rfl)) rfl rfl ?_
    refine Ru.op (q := (.aload_n 0, 1)) (S' := (47, _, _, _, _)) (by decide +kernel) rfl ?_
    refine Ru.getI (pc' := 50) (i := 40) (ci := 1) (k := 3) (nn := 0) (z := 0) (x := (o21.F 1 3)) (by decide +kernel) (by decide +kernel) (hp1 _) (by decide) rfl (eI_of _) rfl ?_
    refine Ru.kI (q := (.iconst (-1), 1)) (c := (-1)) (pc' := 51) (by decide +kernel) rfl (by decide) rfl ?_
    by_cases b23 : (o21.F 1 3) = (-1)
    · replace h := if_t b23 h
      refine Ru.br2 (k := .ne) (off := 23) (bb := false) (tg := 54) (by decide +kernel) (by decide +kernel) (ci_ne0 (inR_to _) (by decide) b23) rfl ?_
      refine Ru.op (q := (.aload_n 0, 1)) (S' := (55, _, _, _, _)) (by decide +kernel) rfl ?_
      refine Ru.getI (pc' := 58) (i := 36) (ci := 1) (k := 4) (nn := 0) (z := 0) (x := (o21.F 1 4)) (by decide +kernel) (by decide +kernel) (hp1 _) (by decide) rfl (eI_of _) rfl ?_
      refine Ru.op (q := (.aload_n 0, 1)) (S' := (59, _, _, _, _)) (by decide +kernel) rfl ?_
      refine Ru.getI (pc' := 62) (i := 59) (ci := 1) (k := 1) (nn := 0) (z := 0) (x := (o21.F 1 1)) (by decide +kernel) (by decide +kernel) (hp1 _) (by decide) rfl (eI_of _) rfl ?_
      by_cases b24 : (o21.F 1 4) < (o21.F 1 1)
      · replace h := if_t b24 h
        refine Ru.br2 (k := .ge) (off := 12) (bb := false) (tg := 65) (by decide +kernel) (by decide +kernel) (ci_ge0 (inR_to _) (inR_to _) b24) rfl ?_
        refine Ru.op (q := (.aload_n 0, 1)) (S' := (66, _, _, _, _)) (by decide +kernel) rfl ?_
        refine Ru.op (q := (.aload_n 0, 1)) (S' := (67, _, _, _, _)) (by decide +kernel) rfl ?_
        refine Ru.getI (pc' := 70) (i := 36) (ci := 1) (k := 4) (nn := 0) (z := 0) (x := (o21.F 1 4)) (by decide +kernel) (by decide +kernel) (hp1 _) (by decide) rfl (eI_of _) rfl ?_
        obtain ⟨o25, e26, h⟩ := ob_some h
        refine Ru.vcallI (pc' := 73) (st' := [vI o25.1]) (i := 62) (j2 := 25) (ci := 1) (k := 0) (z := 0) (as := [vI (o21.F 1 4)]) (by decide +kernel) (by decide +kernel) rfl rfl (hp1 _) (by decide) ⟨(Nat.le_of_ble_eq_true rfl), (by show 19 + 2 ≤ 3450; exact Nat.le_of_ble_eq_true rfl), Nat.le_of_ble_eq_true rfl, Nat.le_of_ble_eq_true rfl⟩ ((g25_ok e26).up (Nat.le_of_ble_eq_true rfl) (Nat.le_of_ble_eq_true rfl)) rfl rfl ?_
        refine Ru.op (q := (.pop, 1)) (S' := (74, _, _, _, _)) (by decide +kernel) rfl ?_
        refine Ru.op (q := (.aload_n 1, 1)) (S' := (75, _, _, _, _)) (by decide +kernel) rfl ?_
        obtain ⟨o27, e28, h⟩ := ob_some h
        refine Ru.vcallI (pc' := 78) (st' := []) (i := 77) (j2 := 48) (ci := 4) (k := 0) (z := 0) (as := []) (by decide +kernel) (by decide +kernel) rfl rfl (hp30 _) (by decide) ⟨(Nat.le_of_ble_eq_true rfl), (by show 19 + 5 ≤ 3450; exact Nat.le_of_ble_eq_true rfl), Nat.le_of_ble_eq_true rfl, Nat.le_of_ble_eq_true rfl⟩ ((g48_30_ok e28).up (Nat.le_of_ble_eq_true rfl) (Nat.le_of_ble_eq_true rfl)) rfl rfl ?_
        refine Ru.op (q := (.aload_n 0, 1)) (S' := (79, _, _, _, _)) (by decide +kernel) rfl ?_
        refine Ru.getI (pc' := 82) (i := 40) (ci := 1) (k := 3) (nn := 0) (z := 0) (x := (o27.F 1 3)) (by decide +kernel) (by decide +kernel) (hp1 _) (by decide) rfl (eI_of _) rfl ?_
        refine Ru.kI (q := (.iconst (-1), 1)) (c := (-1)) (pc' := 83) (by decide +kernel) rfl (by decide) rfl ?_
        by_cases b29 : (o27.F 1 3) = (-1)
        · replace h := if_t b29 h
          refine Ru.br2 (k := .ne) (off := 7) (bb := false) (tg := 86) (by decide +kernel) (by decide +kernel) (ci_ne0 (inR_to _) (by decide) b29) rfl ?_
          refine Ru.kI (q := (.iconst 1, 1)) (c := 1) (pc' := 87) (by decide +kernel) rfl (by decide) rfl ?_
          refine Ru.op (q := (.goto 4, 3)) (S' := (91, _, _, _, _)) (by decide +kernel) rfl ?_
          cases h
          exact Ru.iret (by decide +kernel) rfl (nar_b1 (by decide))
        · replace h := if_f b29 h
          refine Ru.br2 (k := .ne) (off := 7) (bb := true) (tg := 90) (by decide +kernel) (by decide +kernel) (ci_ne1 (inR_to _) (by decide) b29) rfl ?_
          refine Ru.kI (q := (.iconst 0, 1)) (c := 0) (pc' := 91) (by decide +kernel) rfl (by decide) rfl ?_
          cases h
          exact Ru.iret (by decide +kernel) rfl (nar_b1 (by decide))
      · replace h := if_f b24 h
        refine Ru.br2 (k := .ge) (off := 12) (bb := true) (tg := 74) (by decide +kernel) (by decide +kernel) (ci_ge1 (inR_to _) (inR_to _) b24) rfl ?_
        refine Ru.op (q := (.aload_n 1, 1)) (S' := (75, _, _, _, _)) (by decide +kernel) rfl ?_
        obtain ⟨o30, e31, h⟩ := ob_some h
        refine Ru.vcallI (pc' := 78) (st' := []) (i := 77) (j2 := 48) (ci := 4) (k := 0) (z := 0) (as := []) (by decide +kernel) (by decide +kernel) rfl rfl (hp30 _) (by decide) ⟨(Nat.le_of_ble_eq_true rfl), (by show 19 + 5 ≤ 3450; exact Nat.le_of_ble_eq_true rfl), Nat.le_of_ble_eq_true rfl, Nat.le_of_ble_eq_true rfl⟩ ((g48_30_ok e31).up (Nat.le_of_ble_eq_true rfl) (Nat.le_of_ble_eq_true rfl)) rfl rfl ?_
        refine Ru.op (q := (.aload_n 0, 1)) (S' := (79, _, _, _, _)) (by decide +kernel) rfl ?_
        refine Ru.getI (pc' := 82) (i := 40) (ci := 1) (k := 3) (nn := 0) (z := 0) (x := (o30.F 1 3)) (by decide +kernel) (by decide +kernel) (hp1 _) (by decide) rfl (eI_of _) rfl ?_
        refine Ru.kI (q := (.iconst (-1), 1)) (c := (-1)) (pc' := 83) (by decide +kernel) rfl (by decide) rfl ?_
        by_cases b32 : (o30.F 1 3) = (-1)
        · replace h := if_t b32 h
          refine Ru.br2 (k := .ne) (off := 7) (bb := false) (tg := 86) (by decide +kernel) (by decide +kernel) (ci_ne0 (inR_to _) (by decide) b32) rfl ?_
          refine Ru.kI (q := (.iconst 1, 1)) (c := 1) (pc' := 87) (by decide +kernel) rfl (by decide) rfl ?_
          refine Ru.op (q := (.goto 4, 3)) (S' := (91, _, _, _, _)) (by decide +kernel) rfl ?_
          cases h
          exact Ru.iret (by decide +kernel) rfl (nar_b1 (by decide))
        · replace h := if_f b32 h
          refine Ru.br2 (k := .ne) (off := 7) (bb := true) (tg := 90) (by decide +kernel) (by decide +kernel) (ci_ne1 (inR_to _) (by decide) b32) rfl ?_
          refine Ru.kI (q := (.iconst 0, 1)) (c := 0) (pc' := 91) (by decide +kernel) rfl (by decide) rfl ?_
          cases h
          exact Ru.iret (by decide +kernel) rfl (nar_b1 (by decide))
    · replace h := if_f b23 h
      refine Ru.br2 (k := .ne) (off := 23) (bb := true) (tg := 74) (by decide +kernel) (by decide +kernel) (ci_ne1 (inR_to _) (by decide) b23) rfl ?_
      refine Ru.op (q := (.aload_n 1, 1)) (S' := (75, _, _, _, _)) (by decide +kernel) rfl ?_
      obtain ⟨o33, e34, h⟩ := ob_some h
      refine Ru.vcallI (pc' := 78) (st' := []) (i := 77) (j2 := 48) (ci := 4) (k := 0) (z := 0) (as := []) (by decide +kernel) (by decide +kernel) rfl rfl (hp30 _) (by decide) ⟨(Nat.le_of_ble_eq_true rfl), (by show 19 + 5 ≤ 3450; exact Nat.le_of_ble_eq_true rfl), Nat.le_of_ble_eq_true rfl, Nat.le_of_ble_eq_true rfl⟩ ((g48_30_ok e34).up (Nat.le_of_ble_eq_true rfl) (Nat.le_of_ble_eq_true rfl)) rfl rfl ?_
      refine Ru.op (q := (.aload_n 0, 1)) (S' := (79, _, _, _, _)) (by decide +kernel) rfl ?_
      refine Ru.getI (pc' := 82) (i := 40) (ci := 1) (k := 3) (nn := 0) (z := 0) (x := (o33.F 1 3)) (by decide +kernel) (by decide +kernel) (hp1 _) (by decide) rfl (eI_of _) rfl ?_
      refine Ru.kI (q := (.iconst (-1), 1)) (c := (-1)) (pc' := 83) (by decide +kernel) rfl (by decide) rfl ?_
      by_cases b35 : (o33.F 1 3) = (-1)
      · replace h := if_t b35 h
        refine Ru.br2 (k := .ne) (off := 7) (bb := false) (tg := 86) (by decide +kernel) (by decide +kernel) (ci_ne0 (inR_to _) (by decide) b35) rfl ?_
        refine Ru.kI (q := (.iconst 1, 1)) (c := 1) (pc' := 87) (by decide +kernel) rfl (by decide) rfl ?_
        refine Ru.op (q := (.goto 4, 3)) (S' := (91, _, _, _, _)) (by decide +kernel) rfl ?_
        cases h
        exact Ru.iret (by decide +kernel) rfl (nar_b1 (by decide))
      · replace h := if_f b35 h
        refine Ru.br2 (k := .ne) (off := 7) (bb := true) (tg := 90) (by decide +kernel) (by decide +kernel) (ci_ne1 (inR_to _) (by decide) b35) rfl ?_
        refine Ru.kI (q := (.iconst 0, 1)) (c := 0) (pc' := 91) (by decide +kernel) rfl (by decide) rfl ?_
        cases h
        exact Ru.iret (by decide +kernel) rfl (nar_b1 (by decide))
set_option maxRecDepth 100000 in
set_option maxHeartbeats 4000000 in
theorem g90_ok {S : St} {v1 : Int} {v2 : Int} {o : Int} (h : g90 S v1 v2 = some o) : Ru none 10 200 90 (0, mn_pad (mn_ent [.ref 0, vI v1, vI v2]) 3, [], S.ns, Hp S) ((0, some (vI o)), S.ns, Hp S) := by
  unfold g90 at h
  show Ru none 10 200 90 (0, [some (.ref 0), some (vI v1), some (vI v2)], [], S.ns, Hp S) _
  refine Ru.op (q := (.iload_n 1, 1)) (S' := (1, _, _, _, _)) (by decide +kernel) rfl ?_
  obtain ⟨g1, h⟩ := gd_some h
  by_cases b2 : v1 < 0
  · replace h := if_t b2 h
    refine Ru.br (k := .lt) (off := 32) (bb := true) (tg := 33) (by decide +kernel) (by decide +kernel) (cz (ci_lt1 g1 (by decide) b2)) rfl ?_
    refine Ru.kI (q := (.iconst 0, 1)) (c := 0) (pc' := 34) (by decide +kernel) rfl (by decide) rfl ?_
    cases h
    exact Ru.iret (by decide +kernel) rfl (nar_b1 (by decide))
  · replace h := if_f b2 h
    refine Ru.br (k := .lt) (off := 32) (bb := false) (tg := 4) (by decide +kernel) (by decide +kernel) (cz (ci_lt0 g1 (by decide) b2)) rfl ?_
    refine Ru.op (q := (.iload_n 1, 1)) (S' := (5, _, _, _, _)) (by decide +kernel) rfl ?_
    refine Ru.op (q := (.aload_n 0, 1)) (S' := (6, _, _, _, _)) (by decide +kernel) rfl ?_
    refine Ru.getI (pc' := 9) (i := 102) (ci := 0) (k := 5) (nn := 0) (z := 0) (x := (S.F 0 5)) (by decide +kernel) (by decide +kernel) (hp0 _) (by decide) rfl (eI_of _) rfl ?_
    by_cases b3 : v1 < (S.F 0 5)
    · replace h := if_t b3 h
      refine Ru.br2 (k := .ge) (off := 24) (bb := false) (tg := 12) (by decide +kernel) (by decide +kernel) (ci_ge0 g1 (inR_to _) b3) rfl ?_
      refine Ru.op (q := (.iload_n 2, 1)) (S' := (13, _, _, _, _)) (by decide +kernel) rfl ?_
      obtain ⟨g4, h⟩ := gd_some h
      by_cases b5 : v2 < 0
      · replace h := if_t b5 h
        refine Ru.br (k := .lt) (off := 20) (bb := true) (tg := 33) (by decide +kernel) (by decide +kernel) (cz (ci_lt1 g4 (by decide) b5)) rfl ?_
        refine Ru.kI (q := (.iconst 0, 1)) (c := 0) (pc' := 34) (by decide +kernel) rfl (by decide) rfl ?_
        cases h
        exact Ru.iret (by decide +kernel) rfl (nar_b1 (by decide))
      · replace h := if_f b5 h
        refine Ru.br (k := .lt) (off := 20) (bb := false) (tg := 16) (by decide +kernel) (by decide +kernel) (cz (ci_lt0 g4 (by decide) b5)) rfl ?_
        refine Ru.op (q := (.iload_n 2, 1)) (S' := (17, _, _, _, _)) (by decide +kernel) rfl ?_
        refine Ru.op (q := (.aload_n 0, 1)) (S' := (18, _, _, _, _)) (by decide +kernel) rfl ?_
        refine Ru.getR (pc' := 21) (i := 39) (ci := 0) (k := 4) (nn := 0) (z := 0) (v := .ref 35) (by decide +kernel) (by decide +kernel) (hp0 _) (by decide) rfl rfl ?_
        refine Ru.op (q := (.iload_n 1, 1)) (S' := (22, _, _, _, _)) (by decide +kernel) rfl ?_
        obtain ⟨g6, h⟩ := gd_some h
        obtain ⟨c7, e8, h⟩ := ob_some h
        refine Ru.aldI (pc' := 23) (i := v1) (b := c7) (by decide +kernel) (hp35 _) (by decide) g6 e8 rfl ?_
        obtain ⟨c9, c10, n11, n12, e13, q14, h⟩ := gC_some h
        refine Ru.getR (pc' := 26) (i := 132) (ci := 5) (k := 2) (nn := 0) (z := 0) (v := vI n11) (by decide +kernel) (by decide +kernel) q14 (by decide) rfl rfl ?_
        by_cases b15 : v2 < n11
        · replace h := if_t b15 h
          refine Ru.br2 (k := .ge) (off := 7) (bb := false) (tg := 29) (by decide +kernel) (by decide +kernel) (ci_ge0 g4 e13.1 b15) rfl ?_
          refine Ru.kI (q := (.iconst 1, 1)) (c := 1) (pc' := 30) (by decide +kernel) rfl (by decide) rfl ?_
          refine Ru.op (q := (.goto 4, 3)) (S' := (34, _, _, _, _)) (by decide +kernel) rfl ?_
          cases h
          exact Ru.iret (by decide +kernel) rfl (nar_b1 (by decide))
        · replace h := if_f b15 h
          refine Ru.br2 (k := .ge) (off := 7) (bb := true) (tg := 33) (by decide +kernel) (by decide +kernel) (ci_ge1 g4 e13.1 b15) rfl ?_
          refine Ru.kI (q := (.iconst 0, 1)) (c := 0) (pc' := 34) (by decide +kernel) rfl (by decide) rfl ?_
          cases h
          exact Ru.iret (by decide +kernel) rfl (nar_b1 (by decide))
    · replace h := if_f b3 h
      refine Ru.br2 (k := .ge) (off := 24) (bb := true) (tg := 33) (by decide +kernel) (by decide +kernel) (ci_ge1 g1 (inR_to _) b3) rfl ?_
      refine Ru.kI (q := (.iconst 0, 1)) (c := 0) (pc' := 34) (by decide +kernel) rfl (by decide) rfl ?_
      cases h
      exact Ru.iret (by decide +kernel) rfl (nar_b1 (by decide))
set_option maxRecDepth 100000 in
set_option maxHeartbeats 4000000 in
theorem g89_ok {S : St} {v1 : Int} {v2 : Int} {v3 : Int} {v4 : Int} {o : Int} (h : g89 S v1 v2 v3 v4 = some o) : Ru none 11 222 89 (0, mn_pad (mn_ent [.ref 0, vI v1, vI v2, vI v3, vI v4]) 5, [], S.ns, Hp S) ((0, some (vI o)), S.ns, Hp S) := by
  unfold g89 at h
  show Ru none 11 222 89 (0, [some (.ref 0), some (vI v1), some (vI v2), some (vI v3), some (vI v4)], [], S.ns, Hp S) _
  refine Ru.op (q := (.iload_n 1, 1)) (S' := (1, _, _, _, _)) (by decide +kernel) rfl ?_
  refine Ru.kI (q := (.iconst (-1), 1)) (c := (-1)) (pc' := 2) (by decide +kernel) rfl (by decide) rfl ?_
  obtain ⟨g1, h⟩ := gd_some h
  by_cases b2 : v1 = (-1)
  · replace h := if_t b2 h
    refine Ru.br2 (k := .ne) (off := 39) (bb := false) (tg := 5) (by decide +kernel) (by decide +kernel) (ci_ne0 g1 (by decide) b2) rfl ?_
    refine Ru.op (q := (.iload_n 2, 1)) (S' := (6, _, _, _, _)) (by decide +kernel) rfl ?_
    obtain ⟨g3, h⟩ := gd_some h
    by_cases b4 : v2 < 0
    · replace h := if_t b4 h
      refine Ru.br (k := .lt) (off := 33) (bb := true) (tg := 39) (by decide +kernel) (by decide +kernel) (cz (ci_lt1 g3 (by decide) b4)) rfl ?_
      refine Ru.kI (q := (.iconst 0, 1)) (c := 0) (pc' := 40) (by decide +kernel) rfl (by decide) rfl ?_
      cases h
      exact Ru.iret (by decide +kernel) rfl (nar_b1 (by decide))
    · replace h := if_f b4 h
      refine Ru.br (k := .lt) (off := 33) (bb := false) (tg := 9) (by decide +kernel) (by decide +kernel) (cz (ci_lt0 g3 (by decide) b4)) rfl ?_
      refine Ru.op (q := (.iload_n 2, 1)) (S' := (10, _, _, _, _)) (by decide +kernel) rfl ?_
      refine Ru.op (q := (.aload_n 0, 1)) (S' := (11, _, _, _, _)) (by decide +kernel) rfl ?_
      refine Ru.getR (pc' := 14) (i := 19) (ci := 0) (k := 1) (nn := 0) (z := 0) (v := .ref 13) (by decide +kernel) (by decide +kernel) (hp0 _) (by decide) rfl rfl ?_
      refine Ru.getI (pc' := 17) (i := 105) (ci := 3) (k := 1) (nn := 0) (z := 0) (x := (S.F 13 1)) (by decide +kernel) (by decide +kernel) (hp13 _) (by decide) rfl (eI_of _) rfl ?_
      by_cases b5 : v2 < (S.F 13 1)
      · replace h := if_t b5 h
        refine Ru.br2 (k := .ge) (off := 22) (bb := false) (tg := 20) (by decide +kernel) (by decide +kernel) (ci_ge0 g3 (inR_to _) b5) rfl ?_
        refine Ru.op (q := (.aload_n 0, 1)) (S' := (21, _, _, _, _)) (by decide +kernel) rfl ?_
        refine Ru.getR (pc' := 24) (i := 19) (ci := 0) (k := 1) (nn := 0) (z := 0) (v := .ref 13) (by decide +kernel) (by decide +kernel) (hp0 _) (by decide) rfl rfl ?_
        refine Ru.getR (pc' := 27) (i := 111) (ci := 3) (k := 0) (nn := 0) (z := 0) (v := .ref 14) (by decide +kernel) (by decide +kernel) (hp13 _) (by decide) rfl rfl ?_
        refine Ru.op (q := (.iload_n 2, 1)) (S' := (28, _, _, _, _)) (by decide +kernel) rfl ?_
        obtain ⟨g6, h⟩ := gd_some h
        obtain ⟨c7, e8, h⟩ := ob_some h
        refine Ru.aldI (pc' := 29) (i := v2) (b := c7) (by decide +kernel) (hp14 _) (by decide) g6 e8 rfl ?_
        obtain ⟨c9, n10, n11, n12, n13, n14, n15, e16, q17, h⟩ := gK_some h
        refine Ru.getR (pc' := 32) (i := 138) (ci := 9) (k := 2) (nn := 0) (z := 0) (v := vI n11) (by decide +kernel) (by decide +kernel) q17 (by decide) rfl rfl ?_
        by_cases b18 : n11 = 0
        · replace h := if_t b18 h
          refine Ru.br (k := .ne) (off := 7) (bb := false) (tg := 35) (by decide +kernel) (by decide +kernel) (cz (ci_ne0 e16.2.1 (by decide) b18)) rfl ?_
          refine Ru.kI (q := (.iconst 1, 1)) (c := 1) (pc' := 36) (by decide +kernel) rfl (by decide) rfl ?_
          refine Ru.op (q := (.goto 4, 3)) (S' := (40, _, _, _, _)) (by decide +kernel) rfl ?_
          cases h
          exact Ru.iret (by decide +kernel) rfl (nar_b1 (by decide))
        · replace h := if_f b18 h
          refine Ru.br (k := .ne) (off := 7) (bb := true) (tg := 39) (by decide +kernel) (by decide +kernel) (cz (ci_ne1 e16.2.1 (by decide) b18)) rfl ?_
          refine Ru.kI (q := (.iconst 0, 1)) (c := 0) (pc' := 40) (by decide +kernel) rfl (by decide) rfl ?_
          cases h
          exact Ru.iret (by decide +kernel) rfl (nar_b1 (by decide))
      · replace h := if_f b5 h
        refine Ru.br2 (k := .ge) (off := 22) (bb := true) (tg := 39) (by decide +kernel) (by decide +kernel) (ci_ge1 g3 (inR_to _) b5) rfl ?_
        refine Ru.kI (q := (.iconst 0, 1)) (c := 0) (pc' := 40) (by decide +kernel) rfl (by decide) rfl ?_
        cases h
        exact Ru.iret (by decide +kernel) rfl (nar_b1 (by decide))
  · replace h := if_f b2 h
    refine Ru.br2 (k := .ne) (off := 39) (bb := true) (tg := 41) (by decide +kernel) (by decide +kernel) (ci_ne1 g1 (by decide) b2) rfl ?_
    refine Ru.op (q := (.iload_n 3, 1)) (S' := (42, _, _, _, _)) (by decide +kernel) rfl ?_
    refine Ru.kI (q := (.iconst (-1), 1)) (c := (-1)) (pc' := 43) (by decide +kernel) rfl (by decide) rfl ?_
    obtain ⟨g19, h⟩ := gd_some h
    by_cases b20 : v3 = (-1)
    · replace h := if_t b20 h
      refine Ru.br2 (k := .ne) (off := 34) (bb := false) (tg := 46) (by decide +kernel) (by decide +kernel) (ci_ne0 g19 (by decide) b20) rfl ?_
      refine Ru.op (q := (.aload_n 0, 1)) (S' := (47, _, _, _, _)) (by decide +kernel) rfl ?_
      refine Ru.op (q := (.iload_n 1, 1)) (S' := (48, _, _, _, _)) (by decide +kernel) rfl ?_
      refine Ru.op (q := (.iload_n 2, 1)) (S' := (49, _, _, _, _)) (by decide +kernel) rfl ?_
      obtain ⟨o21, e22, h⟩ := ob_some h
      refine Ru.vcallI (pc' := 52) (st' := [vI o21]) (i := 205) (j2 := 90) (ci := 0) (k := 0) (z := 0) (as := [vI v1, vI v2]) (by decide +kernel) (by decide +kernel) rfl rfl (hp0 _) (by decide) ⟨(Nat.le_of_ble_eq_true rfl), (by show 19 + 3 ≤ 222; exact Nat.le_of_ble_eq_true rfl), Nat.le_of_ble_eq_true rfl, Nat.le_of_ble_eq_true rfl⟩ ((g90_ok e22).up (Nat.le_of_ble_eq_true rfl) (Nat.le_of_ble_eq_true rfl)) rfl rfl ?_
      obtain ⟨g23, h⟩ := gd_some h
      by_cases b24 : o21 = 0
      · replace h := if_t b24 h
        refine Ru.br (k := .eq) (off := 23) (bb := true) (tg := 75) (by decide +kernel) (by decide +kernel) (cz (ci_eq1 g23 (by decide) b24)) rfl ?_
        refine Ru.kI (q := (.iconst 0, 1)) (c := 0) (pc' := 76) (by decide +kernel) rfl (by decide) rfl ?_
        cases h
        exact Ru.iret (by decide +kernel) rfl (nar_b1 (by decide))
      · replace h := if_f b24 h
        refine Ru.br (k := .eq) (off := 23) (bb := false) (tg := 55) (by decide +kernel) (by decide +kernel) (cz (ci_eq0 g23 (by decide) b24)) rfl ?_
        refine Ru.op (q := (.aload_n 0, 1)) (S' := (56, _, _, _, _)) (by decide +kernel) rfl ?_
        refine Ru.op (q := (.iload_n 1, 1)) (S' := (57, _, _, _, _)) (by decide +kernel) rfl ?_
        refine Ru.op (q := (.iload 4, 2)) (S' := (59, _, _, _, _)) (by decide +kernel) rfl ?_
        obtain ⟨o25, e26, h⟩ := ob_some h
        refine Ru.vcallI (pc' := 62) (st' := [vI o25]) (i := 205) (j2 := 90) (ci := 0) (k := 0) (z := 0) (as := [vI v1, vI v4]) (by decide +kernel) (by decide +kernel) rfl rfl (hp0 _) (by decide) ⟨(Nat.le_of_ble_eq_true rfl), (by show 19 + 3 ≤ 222; exact Nat.le_of_ble_eq_true rfl), Nat.le_of_ble_eq_true rfl, Nat.le_of_ble_eq_true rfl⟩ ((g90_ok e26).up (Nat.le_of_ble_eq_true rfl) (Nat.le_of_ble_eq_true rfl)) rfl rfl ?_
        obtain ⟨g27, h⟩ := gd_some h
        by_cases b28 : o25 = 0
        · replace h := if_t b28 h
          refine Ru.br (k := .eq) (off := 13) (bb := true) (tg := 75) (by decide +kernel) (by decide +kernel) (cz (ci_eq1 g27 (by decide) b28)) rfl ?_
          refine Ru.kI (q := (.iconst 0, 1)) (c := 0) (pc' := 76) (by decide +kernel) rfl (by decide) rfl ?_
          cases h
          exact Ru.iret (by decide +kernel) rfl (nar_b1 (by decide))
        · replace h := if_f b28 h
          refine Ru.br (k := .eq) (off := 13) (bb := false) (tg := 65) (by decide +kernel) (by decide +kernel) (cz (ci_eq0 g27 (by decide) b28)) rfl ?_
          refine Ru.op (q := (.iload_n 2, 1)) (S' := (66, _, _, _, _)) (by decide +kernel) rfl ?_
          refine Ru.op (q := (.iload 4, 2)) (S' := (68, _, _, _, _)) (by decide +kernel) rfl ?_
          obtain ⟨g29, h⟩ := gd_some h
          obtain ⟨g30, h⟩ := gd_some h
          by_cases b31 : v2 = v4
          · replace h := if_t b31 h
            refine Ru.br2 (k := .eq) (off := 7) (bb := true) (tg := 75) (by decide +kernel) (by decide +kernel) (ci_eq1 g29 g30 b31) rfl ?_
            refine Ru.kI (q := (.iconst 0, 1)) (c := 0) (pc' := 76) (by decide +kernel) rfl (by decide) rfl ?_
            cases h
            exact Ru.iret (by decide +kernel) rfl (nar_b1 (by decide))
          · replace h := if_f b31 h
            refine Ru.br2 (k := .eq) (off := 7) (bb := false) (tg := 71) (by decide +kernel) (by decide +kernel) (ci_eq0 g29 g30 b31) rfl ?_
            refine Ru.kI (q := (.iconst 1, 1)) (c := 1) (pc' := 72) (by decide +kernel) rfl (by decide) rfl ?_
            refine Ru.op (q := (.goto 4, 3)) (S' := (76, _, _, _, _)) (by decide +kernel) rfl ?_
            cases h
            exact Ru.iret (by decide +kernel) rfl (nar_b1 (by decide))
    · replace h := if_f b20 h
      refine Ru.br2 (k := .ne) (off := 34) (bb := true) (tg := 77) (by decide +kernel) (by decide +kernel) (ci_ne1 g19 (by decide) b20) rfl ?_
      refine Ru.op (q := (.aload_n 0, 1)) (S' := (78, _, _, _, _)) (by decide +kernel) rfl ?_
      refine Ru.op (q := (.iload_n 1, 1)) (S' := (79, _, _, _, _)) (by decide +kernel) rfl ?_
      refine Ru.op (q := (.iload_n 2, 1)) (S' := (80, _, _, _, _)) (by decide +kernel) rfl ?_
      obtain ⟨o32, e33, h⟩ := ob_some h
      refine Ru.vcallI (pc' := 83) (st' := [vI o32]) (i := 205) (j2 := 90) (ci := 0) (k := 0) (z := 0) (as := [vI v1, vI v2]) (by decide +kernel) (by decide +kernel) rfl rfl (hp0 _) (by decide) ⟨(Nat.le_of_ble_eq_true rfl), (by show 19 + 3 ≤ 222; exact Nat.le_of_ble_eq_true rfl), Nat.le_of_ble_eq_true rfl, Nat.le_of_ble_eq_true rfl⟩ ((g90_ok e33).up (Nat.le_of_ble_eq_true rfl) (Nat.le_of_ble_eq_true rfl)) rfl rfl ?_
      obtain ⟨g34, h⟩ := gd_some h
      by_cases b35 : o32 = 0
      · replace h := if_t b35 h
        refine Ru.br (k := .eq) (off := 17) (bb := true) (tg := 100) (by decide +kernel) (by decide +kernel) (cz (ci_eq1 g34 (by decide) b35)) rfl ?_
        refine Ru.kI (q := (.iconst 0, 1)) (c := 0) (pc' := 101) (by decide +kernel) rfl (by decide) rfl ?_
        cases h
        exact Ru.iret (by decide +kernel) rfl (nar_b1 (by decide))
      · replace h := if_f b35 h
        refine Ru.br (k := .eq) (off := 17) (bb := false) (tg := 86) (by decide +kernel) (by decide +kernel) (cz (ci_eq0 g34 (by decide) b35)) rfl ?_
        refine Ru.op (q := (.aload_n 0, 1)) (S' := (87, _, _, _, _)) (by decide +kernel) rfl ?_
        refine Ru.op (q := (.iload_n 3, 1)) (S' := (88, _, _, _, _)) (by decide +kernel) rfl ?_
        refine Ru.op (q := (.iload 4, 2)) (S' := (90, _, _, _, _)) (by decide +kernel) rfl ?_
        obtain ⟨o36, e37, h⟩ := ob_some h
        refine Ru.vcallI (pc' := 93) (st' := [vI o36]) (i := 205) (j2 := 90) (ci := 0) (k := 0) (z := 0) (as := [vI v3, vI v4]) (by decide +kernel) (by decide +kernel) rfl rfl (hp0 _) (by decide) ⟨(Nat.le_of_ble_eq_true rfl), (by show 19 + 3 ≤ 222; exact Nat.le_of_ble_eq_true rfl), Nat.le_of_ble_eq_true rfl, Nat.le_of_ble_eq_true rfl⟩ ((g90_ok e37).up (Nat.le_of_ble_eq_true rfl) (Nat.le_of_ble_eq_true rfl)) rfl rfl ?_
        obtain ⟨g38, h⟩ := gd_some h
        by_cases b39 : o36 = 0
        · replace h := if_t b39 h
          refine Ru.br (k := .eq) (off := 7) (bb := true) (tg := 100) (by decide +kernel) (by decide +kernel) (cz (ci_eq1 g38 (by decide) b39)) rfl ?_
          refine Ru.kI (q := (.iconst 0, 1)) (c := 0) (pc' := 101) (by decide +kernel) rfl (by decide) rfl ?_
          cases h
          exact Ru.iret (by decide +kernel) rfl (nar_b1 (by decide))
        · replace h := if_f b39 h
          refine Ru.br (k := .eq) (off := 7) (bb := false) (tg := 96) (by decide +kernel) (by decide +kernel) (cz (ci_eq0 g38 (by decide) b39)) rfl ?_
          refine Ru.kI (q := (.iconst 1, 1)) (c := 1) (pc' := 97) (by decide +kernel) rfl (by decide) rfl ?_
          refine Ru.op (q := (.goto 4, 3)) (S' := (101, _, _, _, _)) (by decide +kernel) rfl ?_
          cases h
          exact Ru.iret (by decide +kernel) rfl (nar_b1 (by decide))
set_option maxRecDepth 100000 in
set_option maxHeartbeats 4000000 in
theorem g50_30_ok {S : St} {o : Int} (h : g50_30 S  = some o) : Ru none 10 200 50 (0, mn_pad (mn_ent [.ref 30]) 1, [], S.ns, Hp S) ((0, some (vI o)), S.ns, Hp S) := by
  unfold g50_30 at h
  show Ru none 10 200 50 (0, [some (.ref 30)], [], S.ns, Hp S) _
  refine Ru.op (q := (.aload_n 0, 1)) (S' := (1, _, _, _, _)) (by decide +kernel) rfl ?_
  refine Ru.getI (pc' := 4) (i := 37) (ci := 4) (k := 3) (nn := 0) (z := 0) (x := (S.F 30 3)) (by decide +kernel) (by decide +kernel) (hp30 _) (by decide) rfl (eI_of _) rfl ?_
  by_cases b1 : (S.F 30 3) = 0
  · replace h := if_t b1 h
    refine Ru.br (k := .ne) (off := 19) (bb := false) (tg := 7) (by decide +kernel) (by decide +kernel) (cz (ci_ne0 (inR_to _) (by decide) b1)) rfl ?_
    refine Ru.op (q := (.aload_n 0, 1)) (S' := (8, _, _, _, _)) (by decide +kernel) rfl ?_
    refine Ru.getR (pc' := 11) (i := 14) (ci := 4) (k := 0) (nn := 0) (z := 0) (v := .ref 31) (by decide +kernel) (by decide +kernel) (hp30 _) (by decide) rfl rfl ?_
    refine Ru.getI (pc' := 14) (i := 28) (ci := 5) (k := 3) (nn := 0) (z := 0) (x := (S.F 31 3)) (by decide +kernel) (by decide +kernel) (hp31 _) (by decide) rfl (eI_of _) rfl ?_
    refine Ru.kI (q := (.bipush 16, 2)) (c := 16) (pc' := 16) (by decide +kernel) rfl (by decide) rfl ?_
    by_cases b2 : 16 < (S.F 31 3)
    · replace h := if_t b2 h
      refine Ru.br2 (k := .gt) (off := 7) (bb := true) (tg := 23) (by decide +kernel) (by decide +kernel) (ci_gt1 (inR_to _) (by decide) b2) rfl ?_
      refine Ru.kI (q := (.iconst 0, 1)) (c := 0) (pc' := 24) (by decide +kernel) rfl (by decide) rfl ?_
      cases h
      exact Ru.iret (by decide +kernel) rfl (nar_b1 (by decide))
    · replace h := if_f b2 h
      refine Ru.br2 (k := .gt) (off := 7) (bb := false) (tg := 19) (by decide +kernel) (by decide +kernel) (ci_gt0 (inR_to _) (by decide) b2) rfl ?_
      refine Ru.kI (q := (.iconst 1, 1)) (c := 1) (pc' := 20) (by decide +kernel) rfl (by decide) rfl ?_
      refine Ru.op (q := (.goto 4, 3)) (S' := (24, _, _, _, _)) (by decide +kernel) rfl ?_
      cases h
      exact Ru.iret (by decide +kernel) rfl (nar_b1 (by decide))
  · replace h := if_f b1 h
    refine Ru.br (k := .ne) (off := 19) (bb := true) (tg := 23) (by decide +kernel) (by decide +kernel) (cz (ci_ne1 (inR_to _) (by decide) b1)) rfl ?_
    refine Ru.kI (q := (.iconst 0, 1)) (c := 0) (pc' := 24) (by decide +kernel) rfl (by decide) rfl ?_
    cases h
    exact Ru.iret (by decide +kernel) rfl (nar_b1 (by decide))
