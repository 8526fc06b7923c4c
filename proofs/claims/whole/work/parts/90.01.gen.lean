set_option maxRecDepth 100000 in
set_option maxHeartbeats 4000000 in
theorem g9_ok {S : St} {o : Int × St} (h : g9 S  = some o) : Ru none 10 200 9 (0, mn_pad (mn_ent [.ref 0]) 2, [], S.ns, Hp S) ((0, some (vI o.1)), o.2.ns, Hp o.2) := by
  unfold g9 at h
  show Ru none 10 200 9 (0, [some (.ref 0), none], [], S.ns, Hp S) _
  refine Ru.op (q := (.aload_n 0, 1)) (S' := (1, _, _, _, _)) (by decide +kernel) rfl ?_
  refine Ru.getR (pc' := 4) (i := 12) (ci := 0) (k := 0) (nn := 0) (z := 0) (v := .ref 1) (by decide +kernel) (by decide +kernel) (hp0 _) (by decide) rfl rfl ?_
  refine Ru.getI (pc' := 7) (i := 54) (ci := 1) (k := 1) (nn := 0) (z := 0) (x := (S.F 1 1)) (by decide +kernel) (by decide +kernel) (hp1 _) (by decide) rfl (eI_of _) rfl ?_
  refine Ru.op (q := (.istore_n 1, 1)) (S' := (8, [some (.ref 0), some (vI (S.F 1 1))], [], _, _)) (by decide +kernel) rfl ?_
  refine Ru.op (q := (.aload_n 0, 1)) (S' := (9, _, _, _, _)) (by decide +kernel) rfl ?_
  refine Ru.getR (pc' := 12) (i := 12) (ci := 0) (k := 0) (nn := 0) (z := 0) (v := .ref 1) (by decide +kernel) (by decide +kernel) (hp0 _) (by decide) rfl rfl ?_
  refine Ru.kI (q := (.iconst 0, 1)) (c := 0) (pc' := 13) (by decide +kernel) rfl (by decide) rfl ?_
  refine Ru.putH (pc' := 16) (i := 54) (ci := 1) (k := 1) (nn := 0) (z := 0) (by decide +kernel) (by decide +kernel) (hp1 _) (by decide) (Nat.le_of_ble_eq_true rfl) rfl (by decide +kernel) (pf_1_1 _ _) rfl ?_
  refine Ru.op (q := (.iload_n 1, 1)) (S' := (17, _, _, _, _)) (by decide +kernel) rfl ?_
  cases h
  exact Ru.iret (by decide +kernel) rfl rfl
set_option maxRecDepth 100000 in
set_option maxHeartbeats 4000000 in
theorem g10_ok {S : St} {o : Int} (h : g10 S  = some o) : Ru none 10 200 10 (0, mn_pad (mn_ent [.ref 0]) 1, [], S.ns, Hp S) ((0, some (vI o)), S.ns, Hp S) := by
  unfold g10 at h
  show Ru none 10 200 10 (0, [some (.ref 0)], [], S.ns, Hp S) _
  refine Ru.op (q := (.aload_n 0, 1)) (S' := (1, _, _, _, _)) (by decide +kernel) rfl ?_
  refine Ru.getI (pc' := 4) (i := 43) (ci := 0) (k := 6) (nn := 0) (z := 0) (x := (S.F 0 6)) (by decide +kernel) (by decide +kernel) (hp0 _) (by decide) rfl (eI_of _) rfl ?_
  cases h
  exact Ru.iret (by decide +kernel) rfl rfl
set_option maxRecDepth 100000 in
set_option maxHeartbeats 4000000 in
theorem g13L4_ok {S : St} {v1 : Int} : ∀ (n : Nat) (v2 : Int) (v3 : Int) (_ : DD []) (out : Int), g13L4 S v1 n v2 v3 = some out → ∀ r, (∀ (e0 e1 e3 : Option Value), DD [e0, e1, e3] → Ru none 10 200 13 (34, [e0, e1, some (vI out), e3], [], S.ns, Hp S) r) → Ru none 10 200 13 (4, [some (.ref 13), some (vI v1), some (vI v2), some (vI v3)], [], S.ns, Hp S) r := by
  intro n
  induction n with
  | zero => intro v2 v3 hdd out h; cases h
  | succ n ih =>
    intro v2 v3 hdd out h r hk
    unfold g13L4 at h
    refine Ru.op (q := (.iload_n 3, 1)) (S' := (5, _, _, _, _)) (by decide +kernel) rfl ?_
    refine Ru.op (q := (.aload_n 0, 1)) (S' := (6, _, _, _, _)) (by decide +kernel) rfl ?_
    refine Ru.getI (pc' := 9) (i := 57) (ci := 3) (k := 1) (nn := 0) (z := 0) (x := (S.F 13 1)) (by decide +kernel) (by decide +kernel) (hp13 _) (by decide) rfl (eI_of _) rfl ?_
    obtain ⟨g1, h⟩ := gd_some h
    by_cases b2 : v3 < (S.F 13 1)
    · replace h := if_t b2 h
      refine Ru.br2 (k := .ge) (off := 25) (bb := false) (tg := 12) (by decide +kernel) (by decide +kernel) (ci_ge0 g1 (inR_to _) b2) rfl ?_
      refine Ru.op (q := (.aload_n 0, 1)) (S' := (13, _, _, _, _)) (by decide +kernel) rfl ?_
      refine Ru.getR (pc' := 16) (i := 11) (ci := 3) (k := 0) (nn := 0) (z := 0) (v := .ref 14) (by decide +kernel) (by decide +kernel) (hp13 _) (by decide) rfl rfl ?_
      refine Ru.op (q := (.iload_n 3, 1)) (S' := (17, _, _, _, _)) (by decide +kernel) rfl ?_
      obtain ⟨g3, h⟩ := gd_some h
      obtain ⟨c4, e5, h⟩ := ob_some h
      refine Ru.aldI (pc' := 18) (i := v3) (b := c4) (by decide +kernel) (hp14 _) (by decide) g3 e5 rfl ?_
      obtain ⟨c6, n7, n8, n9, n10, n11, n12, e13, q14, h⟩ := gK_some h
      refine Ru.getR (pc' := 21) (i := 60) (ci := 9) (k := 1) (nn := 0) (z := 0) (v := vI n7) (by decide +kernel) (by decide +kernel) q14 (by decide) rfl rfl ?_
      refine Ru.op (q := (.iload_n 1, 1)) (S' := (22, _, _, _, _)) (by decide +kernel) rfl ?_
      obtain ⟨g15, h⟩ := gd_some h
      by_cases b16 : n7 = v1
      · replace h := if_t b16 h
        refine Ru.br2 (k := .ne) (off := 6) (bb := false) (tg := 25) (by decide +kernel) (by decide +kernel) (ci_ne0 e13.1 g15 b16) rfl ?_
        refine Ru.inc (k := 2) (n := 1) (x := v2) (z := (v2 + 1)) (xs' := [some (.ref 13), some (vI v1), some (vI (v2 + 1)), some (vI v3)]) (pc' := 28) (by decide +kernel) rfl rfl rfl rfl ?_
        refine Ru.inc (k := 3) (n := 1) (x := v3) (z := (v3 + 1)) (xs' := [some (.ref 13), some (vI v1), some (vI (v2 + 1)), some (vI (v3 + 1))]) (pc' := 31) (by decide +kernel) rfl rfl rfl rfl ?_
        refine Ru.op (q := (.goto (-27), 3)) (S' := (4, _, _, _, _)) (by decide +kernel) rfl ?_
        exact ih _ _ trivial _ h r hk
      · replace h := if_f b16 h
        refine Ru.br2 (k := .ne) (off := 6) (bb := true) (tg := 28) (by decide +kernel) (by decide +kernel) (ci_ne1 e13.1 g15 b16) rfl ?_
        refine Ru.inc (k := 3) (n := 1) (x := v3) (z := (v3 + 1)) (xs' := [some (.ref 13), some (vI v1), some (vI v2), some (vI (v3 + 1))]) (pc' := 31) (by decide +kernel) rfl rfl rfl rfl ?_
        refine Ru.op (q := (.goto (-27), 3)) (S' := (4, _, _, _, _)) (by decide +kernel) rfl ?_
        exact ih _ _ trivial _ h r hk
    · replace h := if_f b2 h
      refine Ru.br2 (k := .ge) (off := 25) (bb := true) (tg := 34) (by decide +kernel) (by decide +kernel) (ci_ge1 g1 (inR_to _) b2) rfl ?_
      cases h
      exact hk _ _ _ ⟨rfl, rfl, rfl, trivial⟩
set_option maxRecDepth 100000 in
set_option maxHeartbeats 4000000 in
theorem g13_ok {S : St} {v1 : Int} {o : Int} (h : g13 S v1 = some o) : Ru none 10 200 13 (0, mn_pad (mn_ent [.ref 13, vI v1]) 4, [], S.ns, Hp S) ((0, some (vI o)), S.ns, Hp S) := by
  unfold g13 at h
  show Ru none 10 200 13 (0, [some (.ref 13), some (vI v1), none, none], [], S.ns, Hp S) _
  refine Ru.kI (q := (.iconst 0, 1)) (c := 0) (pc' := 1) (by decide +kernel) rfl (by decide) rfl ?_
  refine Ru.op (q := (.istore_n 2, 1)) (S' := (2, [some (.ref 13), some (vI v1), some (vI 0), none], [], _, _)) (by decide +kernel) rfl ?_
  refine Ru.kI (q := (.iconst 0, 1)) (c := 0) (pc' := 3) (by decide +kernel) rfl (by decide) rfl ?_
  refine Ru.op (q := (.istore_n 3, 1)) (S' := (4, [some (.ref 13), some (vI v1), some (vI 0), some (vI 0)], [], _, _)) (by decide +kernel) rfl ?_
  obtain ⟨o17, e21, h⟩ := ob_some h
  refine g13L4_ok FU _ _ trivial _ e21 _ ?_
  intro d18 d19 d20 hd22
  refine Ru.op (q := (.iload_n 2, 1)) (S' := (35, _, _, _, _)) (by decide +kernel) rfl ?_
  cases h
  exact Ru.iret (by decide +kernel) rfl rfl
set_option maxRecDepth 100000 in
set_option maxHeartbeats 4000000 in
theorem g12_ok {S : St} {o : Int} (h : g12 S  = some o) : Ru none 11 223 12 (0, mn_pad (mn_ent [.ref 13]) 1, [], S.ns, Hp S) ((0, some (vI o)), S.ns, Hp S) := by
  unfold g12 at h
  show Ru none 11 223 12 (0, [some (.ref 13)], [], S.ns, Hp S) _
  refine Ru.op (q := (.aload_n 0, 1)) (S' := (1, _, _, _, _)) (by decide +kernel) rfl ?_
  refine Ru.getI (pc' := 4) (i := 17) (ci := 3) (k := 7) (nn := 0) (z := 0) (x := (S.F 13 7)) (by decide +kernel) (by decide +kernel) (hp13 _) (by decide) rfl (eI_of _) rfl ?_
  refine Ru.kI (q := (.iconst (-1), 1)) (c := (-1)) (pc' := 5) (by decide +kernel) rfl (by decide) rfl ?_
  by_cases b1 : (S.F 13 7) = (-1)
  · replace h := if_t b1 h
    refine Ru.br2 (k := .eq) (off := 5) (bb := true) (tg := 10) (by decide +kernel) (by decide +kernel) (ci_eq1 (inR_to _) (by decide) b1) rfl ?_
    refine Ru.op (q := (.aload_n 0, 1)) (S' := (11, _, _, _, _)) (by decide +kernel) rfl ?_
    refine Ru.getI (pc' := 14) (i := 46) (ci := 3) (k := 8) (nn := 0) (z := 0) (x := (S.F 13 8)) (by decide +kernel) (by decide +kernel) (hp13 _) (by decide) rfl (eI_of _) rfl ?_
    by_cases b2 : (S.F 13 8) = 0
    · replace h := if_t b2 h
      refine Ru.br (k := .eq) (off := 5) (bb := true) (tg := 19) (by decide +kernel) (by decide +kernel) (cz (ci_eq1 (inR_to _) (by decide) b2)) rfl ?_
      refine Ru.op (q := (.aload_n 0, 1)) (S' := (20, _, _, _, _)) (by decide +kernel) rfl ?_
      refine Ru.kI (q := (.iconst 0, 1)) (c := 0) (pc' := 21) (by decide +kernel) rfl (by decide) rfl ?_
      obtain ⟨o3, e4, h⟩ := ob_some h
      refine Ru.vcallI (pc' := 24) (st' := [vI o3]) (i := 50) (j2 := 13) (ci := 3) (k := 0) (z := 0) (as := [vI 0]) (by decide +kernel) (by decide +kernel) rfl rfl (hp13 _) (by decide) ⟨(Nat.le_of_ble_eq_true rfl), (by show 19 + 4 ≤ 223; exact Nat.le_of_ble_eq_true rfl), Nat.le_of_ble_eq_true rfl, Nat.le_of_ble_eq_true rfl⟩ ((g13_ok e4).up (Nat.le_of_ble_eq_true rfl) (Nat.le_of_ble_eq_true rfl)) rfl rfl ?_
      obtain ⟨g5, h⟩ := gd_some h
      by_cases b6 : 0 < o3
      · replace h := if_t b6 h
        refine Ru.br (k := .le) (off := 5) (bb := false) (tg := 27) (by decide +kernel) (by decide +kernel) (cz (ci_le0 g5 (by decide) b6)) rfl ?_
        refine Ru.kI (q := (.iconst 0, 1)) (c := 0) (pc' := 28) (by decide +kernel) rfl (by decide) rfl ?_
        cases h
        exact Ru.iret (by decide +kernel) rfl rfl
      · replace h := if_f b6 h
        refine Ru.br (k := .le) (off := 5) (bb := true) (tg := 29) (by decide +kernel) (by decide +kernel) (cz (ci_le1 g5 (by decide) b6)) rfl ?_
        refine Ru.op (q := (.aload_n 0, 1)) (S' := (30, _, _, _, _)) (by decide +kernel) rfl ?_
        refine Ru.getI (pc' := 33) (i := 54) (ci := 3) (k := 4) (nn := 0) (z := 0) (x := (S.F 13 4)) (by decide +kernel) (by decide +kernel) (hp13 _) (by decide) rfl (eI_of _) rfl ?_
        by_cases b7 : (S.F 13 4) = 0
        · replace h := if_t b7 h
          refine Ru.br (k := .ne) (off := 7) (bb := false) (tg := 36) (by decide +kernel) (by decide +kernel) (cz (ci_ne0 (inR_to _) (by decide) b7)) rfl ?_
          refine Ru.kI (q := (.iconst 3, 1)) (c := 3) (pc' := 37) (by decide +kernel) rfl (by decide) rfl ?_
          refine Ru.op (q := (.goto 4, 3)) (S' := (41, _, _, _, _)) (by decide +kernel) rfl ?_
          cases h
          exact Ru.iret (by decide +kernel) rfl rfl
        · replace h := if_f b7 h
          refine Ru.br (k := .ne) (off := 7) (bb := true) (tg := 40) (by decide +kernel) (by decide +kernel) (cz (ci_ne1 (inR_to _) (by decide) b7)) rfl ?_
          refine Ru.kI (q := (.iconst 4, 1)) (c := 4) (pc' := 41) (by decide +kernel) rfl (by decide) rfl ?_
          cases h
          exact Ru.iret (by decide +kernel) rfl rfl
    · replace h := if_f b2 h
      refine Ru.br (k := .eq) (off := 5) (bb := false) (tg := 17) (by decide +kernel) (by decide +kernel) (cz (ci_eq0 (inR_to _) (by decide) b2)) rfl ?_
      refine Ru.kI (q := (.iconst 2, 1)) (c := 2) (pc' := 18) (by decide +kernel) rfl (by decide) rfl ?_
      cases h
      exact Ru.iret (by decide +kernel) rfl rfl
  · replace h := if_f b1 h
    refine Ru.br2 (k := .eq) (off := 5) (bb := false) (tg := 8) (by decide +kernel) (by decide +kernel) (ci_eq0 (inR_to _) (by decide) b1) rfl ?_
    refine Ru.kI (q := (.iconst 1, 1)) (c := 1) (pc' := 9) (by decide +kernel) rfl (by decide) rfl ?_
    cases h
    exact Ru.iret (by decide +kernel) rfl rfl
set_option maxRecDepth 100000 in
set_option maxHeartbeats 4000000 in
theorem g11_ok {S : St} {o : Int} (h : g11 S  = some o) : Ru none 12 243 11 (0, mn_pad (mn_ent [.ref 0]) 1, [], S.ns, Hp S) ((0, some (vI o)), S.ns, Hp S) := by
  unfold g11 at h
  show Ru none 12 243 11 (0, [some (.ref 0)], [], S.ns, Hp S) _
  refine Ru.op (q := (.aload_n 0, 1)) (S' := (1, _, _, _, _)) (by decide +kernel) rfl ?_
  refine Ru.getR (pc' := 4) (i := 19) (ci := 0) (k := 1) (nn := 0) (z := 0) (v := .ref 13) (by decide +kernel) (by decide +kernel) (hp0 _) (by decide) rfl rfl ?_
  obtain ⟨o1, e2, h⟩ := ob_some h
  refine Ru.vcallI (pc' := 7) (st' := [vI o1]) (i := 95) (j2 := 12) (ci := 3) (k := 0) (z := 0) (as := []) (by decide +kernel) (by decide +kernel) rfl rfl (hp13 _) (by decide) ⟨(Nat.le_of_ble_eq_true rfl), (by show 19 + 1 ≤ 243; exact Nat.le_of_ble_eq_true rfl), Nat.le_of_ble_eq_true rfl, Nat.le_of_ble_eq_true rfl⟩ ((g12_ok e2).up (Nat.le_of_ble_eq_true rfl) (Nat.le_of_ble_eq_true rfl)) rfl rfl ?_
  cases h
  exact Ru.iret (by decide +kernel) rfl rfl
set_option maxRecDepth 100000 in
set_option maxHeartbeats 4000000 in
theorem g16_ok {S : St} {v1 : Int} {o : St} (h : g16 S v1 = some o) : Ru none 10 200 16 (0, mn_pad (mn_ent [.ref 13, vI v1]) 2, [], S.ns, Hp S) ((0, none), o.ns, Hp o) := by
  unfold g16 at h
  show Ru none 10 200 16 (0, [some (.ref 13), some (vI v1)], [], S.ns, Hp S) _
  refine Ru.op (q := (.iload_n 1, 1)) (S' := (1, _, _, _, _)) (by decide +kernel) rfl ?_
  obtain ⟨g1, h⟩ := gd_some h
  by_cases b2 : v1 < 0
  · replace h := if_t b2 h
    refine Ru.br (k := .lt) (off := 18) (bb := true) (tg := 19) (by decide +kernel) (by decide +kernel) (cz (ci_lt1 g1 (by decide) b2)) rfl ?_
    cases h
    exact Ru.end (q := (.return_, 1)) (by decide +kernel) rfl rfl
  · replace h := if_f b2 h
    refine Ru.br (k := .lt) (off := 18) (bb := false) (tg := 4) (by decide +kernel) (by decide +kernel) (cz (ci_lt0 g1 (by decide) b2)) rfl ?_
    refine Ru.op (q := (.iload_n 1, 1)) (S' := (5, _, _, _, _)) (by decide +kernel) rfl ?_
    refine Ru.op (q := (.aload_n 0, 1)) (S' := (6, _, _, _, _)) (by decide +kernel) rfl ?_
    refine Ru.getI (pc' := 9) (i := 57) (ci := 3) (k := 1) (nn := 0) (z := 0) (x := (S.F 13 1)) (by decide +kernel) (by decide +kernel) (hp13 _) (by decide) rfl (eI_of _) rfl ?_
    by_cases b3 : v1 < (S.F 13 1)
    · replace h := if_t b3 h
      refine Ru.br2 (k := .ge) (off := 10) (bb := false) (tg := 12) (by decide +kernel) (by decide +kernel) (ci_ge0 g1 (inR_to _) b3) rfl ?_
      refine Ru.op (q := (.aload_n 0, 1)) (S' := (13, _, _, _, _)) (by decide +kernel) rfl ?_
      refine Ru.getR (pc' := 16) (i := 42) (ci := 3) (k := 12) (nn := 0) (z := 0) (v := .ref 27) (by decide +kernel) (by decide +kernel) (hp13 _) (by decide) rfl rfl ?_
      refine Ru.op (q := (.iload_n 1, 1)) (S' := (17, _, _, _, _)) (by decide +kernel) rfl ?_
      refine Ru.kI (q := (.iconst 1, 1)) (c := 1) (pc' := 18) (by decide +kernel) rfl (by decide) rfl ?_
      obtain ⟨g4, h⟩ := gd_some h
      refine Ru.bstI (pc' := 19) (i := v1) (x := 1) (by decide +kernel) (hp27 _) g4 (by decide) (ps_27 _ _ _) rfl ?_
      cases h
      exact Ru.end (q := (.return_, 1)) (by decide +kernel) rfl rfl
    · replace h := if_f b3 h
      refine Ru.br2 (k := .ge) (off := 10) (bb := true) (tg := 19) (by decide +kernel) (by decide +kernel) (ci_ge1 g1 (inR_to _) b3) rfl ?_
      cases h
      exact Ru.end (q := (.return_, 1)) (by decide +kernel) rfl rfl
set_option maxRecDepth 100000 in
set_option maxHeartbeats 4000000 in
theorem g15L27_ok : ∀ (n : Nat) (v1 : Int) (v2 : Int) (S : St) (_ : DD []) (out : Int × St), g15L27 n v1 v2 S = some out → ∀ r, (∀ (e0 e2 : Option Value), DD [e0, e2] → Ru none 11 221 15 (82, [e0, some (vI out.1), e2], [], out.2.ns, Hp out.2) r) → Ru none 11 221 15 (27, [some (.ref 13), some (vI v1), some (vI v2)], [], S.ns, Hp S) r := by
  intro n
  induction n with
  | zero => intro v1 v2 S hdd out h; cases h
  | succ n ih =>
    intro v1 v2 S hdd out h r hk
    unfold g15L27 at h
    refine Ru.op (q := (.iload_n 2, 1)) (S' := (28, _, _, _, _)) (by decide +kernel) rfl ?_
    obtain ⟨g3, h⟩ := gd_some h
    by_cases b4 : v2 < 0
    · replace h := if_t b4 h
      refine Ru.br (k := .lt) (off := 54) (bb := true) (tg := 82) (by decide +kernel) (by decide +kernel) (cz (ci_lt1 g3 (by decide) b4)) rfl ?_
      cases h
      exact hk _ _ ⟨rfl, rfl, trivial⟩
    · replace h := if_f b4 h
      refine Ru.br (k := .lt) (off := 54) (bb := false) (tg := 31) (by decide +kernel) (by decide +kernel) (cz (ci_lt0 g3 (by decide) b4)) rfl ?_
      refine Ru.op (q := (.aload_n 0, 1)) (S' := (32, _, _, _, _)) (by decide +kernel) rfl ?_
      refine Ru.getR (pc' := 35) (i := 42) (ci := 3) (k := 12) (nn := 0) (z := 0) (v := .ref 27) (by decide +kernel) (by decide +kernel) (hp13 _) (by decide) rfl rfl ?_
      refine Ru.op (q := (.iload_n 2, 1)) (S' := (36, _, _, _, _)) (by decide +kernel) rfl ?_
      obtain ⟨g5, h⟩ := gd_some h
      refine Ru.bldI (pc' := 37) (i := v2) (z := (S.A 27 v2)) (by decide +kernel) (hp27 _) g5 (eI_of _) rfl ?_
      by_cases b6 : (S.A 27 v2) = 0
      · replace h := if_t b6 h
        refine Ru.br (k := .eq) (off := 39) (bb := true) (tg := 76) (by decide +kernel) (by decide +kernel) (cz (ci_eq1 (inR_to _) (by decide) b6)) rfl ?_
        refine Ru.inc (k := 2) (n := (-1)) (x := v2) (z := (v2 + (-1))) (xs' := [some (.ref 13), some (vI v1), some (vI (v2 + (-1)))]) (pc' := 79) (by decide +kernel) rfl rfl rfl rfl ?_
        refine Ru.op (q := (.goto (-52), 3)) (S' := (27, _, _, _, _)) (by decide +kernel) rfl ?_
        exact ih _ _ _ trivial _ h r hk
      · replace h := if_f b6 h
        refine Ru.br (k := .eq) (off := 39) (bb := false) (tg := 40) (by decide +kernel) (by decide +kernel) (cz (ci_eq0 (inR_to _) (by decide) b6)) rfl ?_
        refine Ru.inc (k := 1) (n := 1) (x := v1) (z := (v1 + 1)) (xs' := [some (.ref 13), some (vI (v1 + 1)), some (vI v2)]) (pc' := 43) (by decide +kernel) rfl rfl rfl rfl ?_
        refine Ru.op (q := (.aload_n 0, 1)) (S' := (44, _, _, _, _)) (by decide +kernel) rfl ?_
        refine Ru.getR (pc' := 47) (i := 42) (ci := 3) (k := 12) (nn := 0) (z := 0) (v := .ref 27) (by decide +kernel) (by decide +kernel) (hp13 _) (by decide) rfl rfl ?_
        refine Ru.op (q := (.iload_n 2, 1)) (S' := (48, _, _, _, _)) (by decide +kernel) rfl ?_
        refine Ru.kI (q := (.iconst 0, 1)) (c := 0) (pc' := 49) (by decide +kernel) rfl (by decide) rfl ?_
        refine Ru.bstI (pc' := 50) (i := v2) (x := 0) (by decide +kernel) (hp27 _) g5 (by decide) (ps_27 _ _ _) rfl ?_
        refine Ru.op (q := (.aload_n 0, 1)) (S' := (51, _, _, _, _)) (by decide +kernel) rfl ?_
        refine Ru.op (q := (.aload_n 0, 1)) (S' := (52, _, _, _, _)) (by decide +kernel) rfl ?_
        refine Ru.getR (pc' := 55) (i := 11) (ci := 3) (k := 0) (nn := 0) (z := 0) (v := .ref 14) (by decide +kernel) (by decide +kernel) (hp13 _) (by decide) rfl rfl ?_
        refine Ru.op (q := (.iload_n 2, 1)) (S' := (56, _, _, _, _)) (by decide +kernel) rfl ?_
        obtain ⟨c7, e8, h⟩ := ob_some h
        refine Ru.aldI (pc' := 57) (i := v2) (b := c7) (by decide +kernel) (hp14 _) (by decide) g5 e8 rfl ?_
        obtain ⟨c9, n10, n11, n12, n13, n14, n15, e16, q17, h⟩ := gK_some h
        refine Ru.getR (pc' := 60) (i := 152) (ci := 9) (k := 3) (nn := 0) (z := 0) (v := vI n12) (by decide +kernel) (by decide +kernel) q17 (by decide) rfl rfl ?_
        obtain ⟨o18, e19, h⟩ := ob_some h
        refine Ru.vcallI (pc' := 63) (st' := []) (i := 155) (j2 := 16) (ci := 3) (k := 0) (z := 0) (as := [vI n12]) (by decide +kernel) (by decide +kernel) rfl rfl (hp13 _) (by decide) ⟨(Nat.le_of_ble_eq_true rfl), (by show 19 + 2 ≤ 221; exact Nat.le_of_ble_eq_true rfl), Nat.le_of_ble_eq_true rfl, Nat.le_of_ble_eq_true rfl⟩ ((g16_ok e19).up (Nat.le_of_ble_eq_true rfl) (Nat.le_of_ble_eq_true rfl)) rfl rfl ?_
        refine Ru.op (q := (.aload_n 0, 1)) (S' := (64, _, _, _, _)) (by decide +kernel) rfl ?_
        refine Ru.op (q := (.aload_n 0, 1)) (S' := (65, _, _, _, _)) (by decide +kernel) rfl ?_
        refine Ru.getR (pc' := 68) (i := 11) (ci := 3) (k := 0) (nn := 0) (z := 0) (v := .ref 14) (by decide +kernel) (by decide +kernel) (hp13 _) (by decide) rfl rfl ?_
        refine Ru.op (q := (.iload_n 2, 1)) (S' := (69, _, _, _, _)) (by decide +kernel) rfl ?_
        obtain ⟨c20, e21, h⟩ := ob_some h
        refine Ru.aldI (pc' := 70) (i := v2) (b := c20) (by decide +kernel) (hp14 _) (by decide) g5 e21 rfl ?_
        obtain ⟨c22, n23, n24, n25, n26, n27, n28, e29, q30, h⟩ := gK_some h
        refine Ru.getR (pc' := 73) (i := 158) (ci := 9) (k := 5) (nn := 0) (z := 0) (v := vI n27) (by decide +kernel) (by decide +kernel) q30 (by decide) rfl rfl ?_
        obtain ⟨o31, e32, h⟩ := ob_some h
        refine Ru.vcallI (pc' := 76) (st' := []) (i := 155) (j2 := 16) (ci := 3) (k := 0) (z := 0) (as := [vI n27]) (by decide +kernel) (by decide +kernel) rfl rfl (hp13 _) (by decide) ⟨(Nat.le_of_ble_eq_true rfl), (by show 19 + 2 ≤ 221; exact Nat.le_of_ble_eq_true rfl), Nat.le_of_ble_eq_true rfl, Nat.le_of_ble_eq_true rfl⟩ ((g16_ok e32).up (Nat.le_of_ble_eq_true rfl) (Nat.le_of_ble_eq_true rfl)) rfl rfl ?_
        refine Ru.inc (k := 2) (n := (-1)) (x := v2) (z := (v2 + (-1))) (xs' := [some (.ref 13), some (vI (v1 + 1)), some (vI (v2 + (-1)))]) (pc' := 79) (by decide +kernel) rfl rfl rfl rfl ?_
        refine Ru.op (q := (.goto (-52), 3)) (S' := (27, _, _, _, _)) (by decide +kernel) rfl ?_
        exact ih _ _ _ trivial _ h r hk
set_option maxRecDepth 100000 in
set_option maxHeartbeats 4000000 in
theorem g15_ok {S : St} {o : Int × St} (h : g15 S  = some o) : Ru none 11 221 15 (0, mn_pad (mn_ent [.ref 13]) 3, [], S.ns, Hp S) ((0, some (vI o.1)), o.2.ns, Hp o.2) := by
  unfold g15 at h
  show Ru none 11 221 15 (0, [some (.ref 13), none, none], [], S.ns, Hp S) _
  refine Ru.op (q := (.aload_n 0, 1)) (S' := (1, _, _, _, _)) (by decide +kernel) rfl ?_
  refine Ru.getI (pc' := 4) (i := 17) (ci := 3) (k := 7) (nn := 0) (z := 0) (x := (S.F 13 7)) (by decide +kernel) (by decide +kernel) (hp13 _) (by decide) rfl (eI_of _) rfl ?_
  refine Ru.kI (q := (.iconst (-1), 1)) (c := (-1)) (pc' := 5) (by decide +kernel) rfl (by decide) rfl ?_
  by_cases b1 : (S.F 13 7) = (-1)
  · replace h := if_t b1 h
    refine Ru.br2 (k := .ne) (off := 5) (bb := false) (tg := 8) (by decide +kernel) (by decide +kernel) (ci_ne0 (inR_to _) (by decide) b1) rfl ?_
    refine Ru.kI (q := (.iconst (-1), 1)) (c := (-1)) (pc' := 9) (by decide +kernel) rfl (by decide) rfl ?_
    cases h
    exact Ru.iret (by decide +kernel) rfl rfl
  · replace h := if_f b1 h
    refine Ru.br2 (k := .ne) (off := 5) (bb := true) (tg := 10) (by decide +kernel) (by decide +kernel) (ci_ne1 (inR_to _) (by decide) b1) rfl ?_
    refine Ru.op (q := (.aload_n 0, 1)) (S' := (11, _, _, _, _)) (by decide +kernel) rfl ?_
    refine Ru.getR (pc' := 14) (i := 42) (ci := 3) (k := 12) (nn := 0) (z := 0) (v := .ref 27) (by decide +kernel) (by decide +kernel) (hp13 _) (by decide) rfl rfl ?_
    refine Ru.op (q := (.aload_n 0, 1)) (S' := (15, _, _, _, _)) (by decide +kernel) rfl ?_
    refine Ru.getI (pc' := 18) (i := 17) (ci := 3) (k := 7) (nn := 0) (z := 0) (x := (S.F 13 7)) (by decide +kernel) (by decide +kernel) (hp13 _) (by decide) rfl (eI_of _) rfl ?_
    refine Ru.kI (q := (.iconst 1, 1)) (c := 1) (pc' := 19) (by decide +kernel) rfl (by decide) rfl ?_
    obtain ⟨g2, h⟩ := gd_some h
    refine Ru.bstI (pc' := 20) (i := (S.F 13 7)) (x := 1) (by decide +kernel) (hp27 _) g2 (by decide) (ps_27 _ _ _) rfl ?_
    refine Ru.kI (q := (.iconst 0, 1)) (c := 0) (pc' := 21) (by decide +kernel) rfl (by decide) rfl ?_
    refine Ru.op (q := (.istore_n 1, 1)) (S' := (22, [some (.ref 13), some (vI 0), none], [], _, _)) (by decide +kernel) rfl ?_
    refine Ru.op (q := (.aload_n 0, 1)) (S' := (23, _, _, _, _)) (by decide +kernel) rfl ?_
    refine Ru.getI (pc' := 26) (i := 17) (ci := 3) (k := 7) (nn := 0) (z := 0) (x := (S.F 13 7)) (by decide +kernel) (by decide +kernel) (hp13 _) (by decide) rfl (eI_of _) rfl ?_
    refine Ru.op (q := (.istore_n 2, 1)) (S' := (27, [some (.ref 13), some (vI 0), some (vI (S.F 13 7))], [], _, _)) (by decide +kernel) rfl ?_
    obtain ⟨o33, e36, h⟩ := ob_some h
    refine g15L27_ok FU _ _ _ trivial _ e36 _ ?_
    intro d34 d35 hd37
    refine Ru.op (q := (.iload_n 1, 1)) (S' := (83, _, _, _, _)) (by decide +kernel) rfl ?_
    cases h
    exact Ru.iret (by decide +kernel) rfl rfl
set_option maxRecDepth 100000 in
set_option maxHeartbeats 4000000 in
theorem g14_ok {S : St} {o : Int × St} (h : g14 S  = some o) : Ru none 12 243 14 (0, mn_pad (mn_ent [.ref 0]) 1, [], S.ns, Hp S) ((0, some (vI o.1)), o.2.ns, Hp o.2) := by
  unfold g14 at h
  show Ru none 12 243 14 (0, [some (.ref 0)], [], S.ns, Hp S) _
  refine Ru.op (q := (.aload_n 0, 1)) (S' := (1, _, _, _, _)) (by decide +kernel) rfl ?_
  refine Ru.getR (pc' := 4) (i := 19) (ci := 0) (k := 1) (nn := 0) (z := 0) (v := .ref 13) (by decide +kernel) (by decide +kernel) (hp0 _) (by decide) rfl rfl ?_
  obtain ⟨o1, e2, h⟩ := ob_some h
  refine Ru.vcallI (pc' := 7) (st' := [vI o1.1]) (i := 163) (j2 := 15) (ci := 3) (k := 0) (z := 0) (as := []) (by decide +kernel) (by decide +kernel) rfl rfl (hp13 _) (by decide) ⟨(Nat.le_of_ble_eq_true rfl), (by show 19 + 3 ≤ 243; exact Nat.le_of_ble_eq_true rfl), Nat.le_of_ble_eq_true rfl, Nat.le_of_ble_eq_true rfl⟩ ((g15_ok e2).up (Nat.le_of_ble_eq_true rfl) (Nat.le_of_ble_eq_true rfl)) rfl rfl ?_
  cases h
  exact Ru.iret (by decide +kernel) rfl rfl
set_option maxRecDepth 100000 in
set_option maxHeartbeats 4000000 in
theorem g21_ok {S : St} {o : St} (h : g21 S  = some o) : Ru none 10 200 21 (0, mn_pad (mn_ent [.ref 3]) 1, [], S.ns, Hp S) ((0, none), o.ns, Hp o) := by
  unfold g21 at h
  show Ru none 10 200 21 (0, [some (.ref 3)], [], S.ns, Hp S) _
  refine Ru.op (q := (.aload_n 0, 1)) (S' := (1, _, _, _, _)) (by decide +kernel) rfl ?_
  refine Ru.kI (q := (.iconst 0, 1)) (c := 0) (pc' := 2) (by decide +kernel) rfl (by decide) rfl ?_
  refine Ru.putH (pc' := 5) (i := 30) (ci := 2) (k := 5) (nn := 0) (z := 0) (by decide +kernel) (by decide +kernel) (hp3 _) (by decide) (Nat.le_of_ble_eq_true rfl) rfl (by decide +kernel) (pf_3_5 _ _) rfl ?_
  refine Ru.op (q := (.aload_n 0, 1)) (S' := (6, _, _, _, _)) (by decide +kernel) rfl ?_
  refine Ru.kI (q := (.iconst 0, 1)) (c := 0) (pc' := 7) (by decide +kernel) rfl (by decide) rfl ?_
  refine Ru.putH (pc' := 10) (i := 34) (ci := 2) (k := 7) (nn := 0) (z := 0) (by decide +kernel) (by decide +kernel) (hp3 _) (by decide) (Nat.le_of_ble_eq_true rfl) rfl (by decide +kernel) (pf_3_7 _ _) rfl ?_
  cases h
  exact Ru.end (q := (.return_, 1)) (by decide +kernel) rfl rfl
set_option maxRecDepth 100000 in
set_option maxHeartbeats 4000000 in
theorem g23_ok {S : St} {o : Int} (h : g23 S  = some o) : Ru none 10 200 23 (0, mn_pad (mn_ent [.ref 1]) 1, [], S.ns, Hp S) ((0, some (vI o)), S.ns, Hp S) := by
  unfold g23 at h
  show Ru none 10 200 23 (0, [some (.ref 1)], [], S.ns, Hp S) _
  refine Ru.op (q := (.aload_n 0, 1)) (S' := (1, _, _, _, _)) (by decide +kernel) rfl ?_
  refine Ru.getI (pc' := 4) (i := 36) (ci := 1) (k := 4) (nn := 0) (z := 0) (x := (S.F 1 4)) (by decide +kernel) (by decide +kernel) (hp1 _) (by decide) rfl (eI_of _) rfl ?_
  refine Ru.op (q := (.aload_n 0, 1)) (S' := (5, _, _, _, _)) (by decide +kernel) rfl ?_
  refine Ru.getI (pc' := 8) (i := 59) (ci := 1) (k := 1) (nn := 0) (z := 0) (x := (S.F 1 1)) (by decide +kernel) (by decide +kernel) (hp1 _) (by decide) rfl (eI_of _) rfl ?_
  by_cases b1 : (S.F 1 4) < (S.F 1 1)
  · replace h := if_t b1 h
    refine Ru.br2 (k := .ge) (off := 15) (bb := false) (tg := 11) (by decide +kernel) (by decide +kernel) (ci_ge0 (inR_to _) (inR_to _) b1) rfl ?_
    refine Ru.op (q := (.aload_n 0, 1)) (S' := (12, _, _, _, _)) (by decide +kernel) rfl ?_
    refine Ru.getR (pc' := 15) (i := 9) (ci := 1) (k := 0) (nn := 0) (z := 0) (v := .ref 2) (by decide +kernel) (by decide +kernel) (hp1 _) (by decide) rfl rfl ?_
    refine Ru.op (q := (.aload_n 0, 1)) (S' := (16, _, _, _, _)) (by decide +kernel) rfl ?_
    refine Ru.getI (pc' := 19) (i := 36) (ci := 1) (k := 4) (nn := 0) (z := 0) (x := (S.F 1 4)) (by decide +kernel) (by decide +kernel) (hp1 _) (by decide) rfl (eI_of _) rfl ?_
    obtain ⟨g2, h⟩ := gd_some h
    refine Ru.cldI (pc' := 20) (i := (S.F 1 4)) (z := (S.A 2 (S.F 1 4))) (by decide +kernel) (hp2 _) g2 (eI_of _) rfl ?_
    refine Ru.op (q := (.goto 4, 3)) (S' := (24, _, _, _, _)) (by decide +kernel) rfl ?_
    obtain ⟨g3, h⟩ := gd_some h
    cases h
    exact Ru.iret (by decide +kernel) rfl (nar_ch g3)
  · replace h := if_f b1 h
    refine Ru.br2 (k := .ge) (off := 15) (bb := true) (tg := 23) (by decide +kernel) (by decide +kernel) (ci_ge1 (inR_to _) (inR_to _) b1) rfl ?_
    refine Ru.kI (q := (.iconst 0, 1)) (c := 0) (pc' := 24) (by decide +kernel) rfl (by decide) rfl ?_
    cases h
    exact Ru.iret (by decide +kernel) rfl (nar_ch (by decide))
set_option maxRecDepth 100000 in
set_option maxHeartbeats 4000000 in
theorem g29_ok {S : St} {v1 : Int} {v2 : Int} {o : Int × St} (h : g29 S v1 v2 = some o) : Ru none 11 220 29 (0, mn_pad (mn_ent [.ref 1, vI v1, vI v2]) 5, [], S.ns, Hp S) ((0, some (vI o.1)), o.2.ns, Hp o.2) := by
  unfold g29 at h
  show Ru none 11 220 29 (0, [some (.ref 1), some (vI v1), some (vI v2), none, none], [], S.ns, Hp S) _
  refine Ru.op (q := (.aload_n 0, 1)) (S' := (1, _, _, _, _)) (by decide +kernel) rfl ?_
  obtain ⟨o1, e2, h⟩ := ob_some h
  refine Ru.vcallI (pc' := 4) (st' := [vI o1]) (i := 69) (j2 := 23) (ci := 1) (k := 0) (z := 0) (as := []) (by decide +kernel) (by decide +kernel) rfl rfl (hp1 _) (by decide) ⟨(Nat.le_of_ble_eq_true rfl), (by show 19 + 1 ≤ 220; exact Nat.le_of_ble_eq_true rfl), Nat.le_of_ble_eq_true rfl, Nat.le_of_ble_eq_true rfl⟩ ((g23_ok e2).up (Nat.le_of_ble_eq_true rfl) (Nat.le_of_ble_eq_true rfl)) rfl rfl ?_
  refine Ru.op (q := (.istore_n 3, 1)) (S' := (5, [some (.ref 1), some (vI v1), some (vI v2), some (vI o1), none], [], _, _)) (by decide +kernel) rfl ?_
  refine Ru.op (q := (.iload_n 3, 1)) (S' := (6, _, _, _, _)) (by decide +kernel) rfl ?_
  refine Ru.op (q := (.iload_n 1, 1)) (S' := (7, _, _, _, _)) (by decide +kernel) rfl ?_
  obtain ⟨g3, h⟩ := gd_some h
  obtain ⟨g4, h⟩ := gd_some h
  by_cases b5 : o1 < v1
  · replace h := if_t b5 h
    refine Ru.br2 (k := .lt) (off := 8) (bb := true) (tg := 15) (by decide +kernel) (by decide +kernel) (ci_lt1 g3 g4 b5) rfl ?_
    refine Ru.kI (q := (.iconst (-1), 1)) (c := (-1)) (pc' := 16) (by decide +kernel) rfl (by decide) rfl ?_
    cases h
    exact Ru.iret (by decide +kernel) rfl rfl
  · replace h := if_f b5 h
    refine Ru.br2 (k := .lt) (off := 8) (bb := false) (tg := 10) (by decide +kernel) (by decide +kernel) (ci_lt0 g3 g4 b5) rfl ?_
    refine Ru.op (q := (.iload_n 3, 1)) (S' := (11, _, _, _, _)) (by decide +kernel) rfl ?_
    refine Ru.op (q := (.iload_n 2, 1)) (S' := (12, _, _, _, _)) (by decide +kernel) rfl ?_
    obtain ⟨g6, h⟩ := gd_some h
    by_cases b7 : v2 < o1
    · replace h := if_t b7 h
      refine Ru.br2 (k := .le) (off := 5) (bb := false) (tg := 15) (by decide +kernel) (by decide +kernel) (ci_le0 g3 g6 b7) rfl ?_
      refine Ru.kI (q := (.iconst (-1), 1)) (c := (-1)) (pc' := 16) (by decide +kernel) rfl (by decide) rfl ?_
      cases h
      exact Ru.iret (by decide +kernel) rfl rfl
    · replace h := if_f b7 h
      refine Ru.br2 (k := .le) (off := 5) (bb := true) (tg := 17) (by decide +kernel) (by decide +kernel) (ci_le1 g3 g6 b7) rfl ?_
      refine Ru.op (q := (.aload_n 0, 1)) (S' := (18, _, _, _, _)) (by decide +kernel) rfl ?_
      refine Ru.op (q := (.dup, 1)) (S' := (19, _, _, _, _)) (by decide +kernel) rfl ?_
      refine Ru.getI (pc' := 22) (i := 36) (ci := 1) (k := 4) (nn := 0) (z := 0) (x := (S.F 1 4)) (by decide +kernel) (by decide +kernel) (hp1 _) (by decide) rfl (eI_of _) rfl ?_
      refine Ru.kI (q := (.iconst 1, 1)) (c := 1) (pc' := 23) (by decide +kernel) rfl (by decide) rfl ?_
      refine Ru.ar2 (i := .iadd) (z := ((S.F 1 4) + 1)) (pc' := 24) (by decide +kernel) rfl (ar_add _ _) rfl ?_
      refine Ru.putH (pc' := 27) (i := 36) (ci := 1) (k := 4) (nn := 0) (z := 0) (by decide +kernel) (by decide +kernel) (hp1 _) (by decide) (Nat.le_of_ble_eq_true rfl) rfl (by decide +kernel) (pf_1_4 _ _) rfl ?_
      refine Ru.op (q := (.aload_n 0, 1)) (S' := (28, _, _, _, _)) (by decide +kernel) rfl ?_
      obtain ⟨o8, e9, h⟩ := ob_some h
      refine Ru.vcallI (pc' := 31) (st' := [vI o8]) (i := 69) (j2 := 23) (ci := 1) (k := 0) (z := 0) (as := []) (by decide +kernel) (by decide +kernel) rfl rfl (hp1 _) (by decide) ⟨(Nat.le_of_ble_eq_true rfl), (by show 19 + 1 ≤ 220; exact Nat.le_of_ble_eq_true rfl), Nat.le_of_ble_eq_true rfl, Nat.le_of_ble_eq_true rfl⟩ ((g23_ok e9).up (Nat.le_of_ble_eq_true rfl) (Nat.le_of_ble_eq_true rfl)) rfl rfl ?_
      refine Ru.op (q := (.istore 4, 2)) (S' := (33, [some (.ref 1), some (vI v1), some (vI v2), some (vI o1), some (vI o8)], [], _, _)) (by decide +kernel) rfl ?_
      refine Ru.op (q := (.iload 4, 2)) (S' := (35, _, _, _, _)) (by decide +kernel) rfl ?_
      refine Ru.kI (q := (.bipush 48, 2)) (c := 48) (pc' := 37) (by decide +kernel) rfl (by decide) rfl ?_
      obtain ⟨g10, h⟩ := gd_some h
      by_cases b11 : o8 < 48
      · replace h := if_t b11 h
        refine Ru.br2 (k := .lt) (off := 10) (bb := true) (tg := 47) (by decide +kernel) (by decide +kernel) (ci_lt1 g10 (by decide) b11) rfl ?_
        refine Ru.op (q := (.iload_n 3, 1)) (S' := (48, _, _, _, _)) (by decide +kernel) rfl ?_
        refine Ru.op (q := (.iload_n 1, 1)) (S' := (49, _, _, _, _)) (by decide +kernel) rfl ?_
        refine Ru.ar2 (i := .isub) (z := (o1 - v1)) (pc' := 50) (by decide +kernel) rfl (ar_sub _ _) rfl ?_
        refine Ru.kI (q := (.bipush 11, 2)) (c := 11) (pc' := 52) (by decide +kernel) rfl (by decide) rfl ?_
        refine Ru.ar2 (i := .imul) (z := ((o1 - v1) * 11)) (pc' := 53) (by decide +kernel) rfl (ar_mul _ _) rfl ?_
        cases h
        exact Ru.iret (by decide +kernel) rfl rfl
      · replace h := if_f b11 h
        refine Ru.br2 (k := .lt) (off := 10) (bb := false) (tg := 40) (by decide +kernel) (by decide +kernel) (ci_lt0 g10 (by decide) b11) rfl ?_
        refine Ru.op (q := (.iload 4, 2)) (S' := (42, _, _, _, _)) (by decide +kernel) rfl ?_
        refine Ru.kI (q := (.bipush 57, 2)) (c := 57) (pc' := 44) (by decide +kernel) rfl (by decide) rfl ?_
        by_cases b12 : 57 < o8
        · replace h := if_t b12 h
          refine Ru.br2 (k := .le) (off := 10) (bb := false) (tg := 47) (by decide +kernel) (by decide +kernel) (ci_le0 g10 (by decide) b12) rfl ?_
          refine Ru.op (q := (.iload_n 3, 1)) (S' := (48, _, _, _, _)) (by decide +kernel) rfl ?_
          refine Ru.op (q := (.iload_n 1, 1)) (S' := (49, _, _, _, _)) (by decide +kernel) rfl ?_
          refine Ru.ar2 (i := .isub) (z := (o1 - v1)) (pc' := 50) (by decide +kernel) rfl (ar_sub _ _) rfl ?_
          refine Ru.kI (q := (.bipush 11, 2)) (c := 11) (pc' := 52) (by decide +kernel) rfl (by decide) rfl ?_
          refine Ru.ar2 (i := .imul) (z := ((o1 - v1) * 11)) (pc' := 53) (by decide +kernel) rfl (ar_mul _ _) rfl ?_
          cases h
          exact Ru.iret (by decide +kernel) rfl rfl
        · replace h := if_f b12 h
          refine Ru.br2 (k := .le) (off := 10) (bb := true) (tg := 54) (by decide +kernel) (by decide +kernel) (ci_le1 g10 (by decide) b12) rfl ?_
          refine Ru.op (q := (.aload_n 0, 1)) (S' := (55, _, _, _, _)) (by decide +kernel) rfl ?_
          refine Ru.op (q := (.dup, 1)) (S' := (56, _, _, _, _)) (by decide +kernel) rfl ?_
          refine Ru.getI (pc' := 59) (i := 36) (ci := 1) (k := 4) (nn := 0) (z := 0) (x := ((S.F 1 4) + 1)) (by decide +kernel) (by decide +kernel) (hp1 _) (by decide) rfl rfl rfl ?_
          refine Ru.kI (q := (.iconst 1, 1)) (c := 1) (pc' := 60) (by decide +kernel) rfl (by decide) rfl ?_
          refine Ru.ar2 (i := .iadd) (z := (((S.F 1 4) + 1) + 1)) (pc' := 61) (by decide +kernel) rfl (ar_add _ _) rfl ?_
          refine Ru.putH (pc' := 64) (i := 36) (ci := 1) (k := 4) (nn := 0) (z := 0) (by decide +kernel) (by decide +kernel) (hp1 _) (by decide) (Nat.le_of_ble_eq_true rfl) rfl (by decide +kernel) (pf_1_4 _ _) rfl ?_
          refine Ru.op (q := (.iload_n 3, 1)) (S' := (65, _, _, _, _)) (by decide +kernel) rfl ?_
          refine Ru.op (q := (.iload_n 1, 1)) (S' := (66, _, _, _, _)) (by decide +kernel) rfl ?_
          refine Ru.ar2 (i := .isub) (z := (o1 - v1)) (pc' := 67) (by decide +kernel) rfl (ar_sub _ _) rfl ?_
          refine Ru.kI (q := (.bipush 11, 2)) (c := 11) (pc' := 69) (by decide +kernel) rfl (by decide) rfl ?_
          refine Ru.ar2 (i := .imul) (z := ((o1 - v1) * 11)) (pc' := 70) (by decide +kernel) rfl (ar_mul _ _) rfl ?_
          refine Ru.kI (q := (.iconst 1, 1)) (c := 1) (pc' := 71) (by decide +kernel) rfl (by decide) rfl ?_
          refine Ru.ar2 (i := .iadd) (z := (((o1 - v1) * 11) + 1)) (pc' := 72) (by decide +kernel) rfl (ar_add _ _) rfl ?_
          refine Ru.op (q := (.iload 4, 2)) (S' := (74, _, _, _, _)) (by decide +kernel) rfl ?_
          refine Ru.ar2 (i := .iadd) (z := ((((o1 - v1) * 11) + 1) + o8)) (pc' := 75) (by decide +kernel) rfl (ar_add _ _) rfl ?_
          refine Ru.kI (q := (.bipush 48, 2)) (c := 48) (pc' := 77) (by decide +kernel) rfl (by decide) rfl ?_
          refine Ru.ar2 (i := .isub) (z := (((((o1 - v1) * 11) + 1) + o8) - 48)) (pc' := 78) (by decide +kernel) rfl (ar_sub _ _) rfl ?_
          cases h
          exact Ru.iret (by decide +kernel) rfl rfl
set_option maxRecDepth 100000 in
set_option maxHeartbeats 4000000 in
theorem g25_ok {S : St} {v1 : Int} {o : Int × St} (h : g25 S v1 = some o) : Ru none 10 200 25 (0, mn_pad (mn_ent [.ref 1, vI v1]) 2, [], S.ns, Hp S) ((0, some (vI o.1)), o.2.ns, Hp o.2) := by
  unfold g25 at h
  show Ru none 10 200 25 (0, [some (.ref 1), some (vI v1)], [], S.ns, Hp S) _
  refine Ru.op (q := (.aload_n 0, 1)) (S' := (1, _, _, _, _)) (by decide +kernel) rfl ?_
  refine Ru.op (q := (.iload_n 1, 1)) (S' := (2, _, _, _, _)) (by decide +kernel) rfl ?_
  refine Ru.putH (pc' := 5) (i := 40) (ci := 1) (k := 3) (nn := 0) (z := 0) (by decide +kernel) (by decide +kernel) (hp1 _) (by decide) (Nat.le_of_ble_eq_true rfl) rfl (by decide +kernel) (pf_1_3 _ _) rfl ?_
  refine Ru.kI (q := (.iconst (-1), 1)) (c := (-1)) (pc' := 6) (by decide +kernel) rfl (by decide) rfl ?_
  cases h
  exact Ru.iret (by decide +kernel) rfl rfl
set_option maxRecDepth 100000 in
set_option maxHeartbeats 4000000 in
theorem g38L4_ok {S : St} : ∀ (n : Nat) (v1 : Int) (v2 : Int) (_ : DD []) (out : Int), g38L4 S n v1 v2 = some out → ∀ r, (∀ (e0 e2 : Option Value), DD [e0, e2] → Ru none 10 200 38 (32, [e0, some (vI out), e2], [], S.ns, Hp S) r) → Ru none 10 200 38 (4, [some (.ref 1), some (vI v1), some (vI v2)], [], S.ns, Hp S) r := by
  intro n
  induction n with
  | zero => intro v1 v2 hdd out h; cases h
  | succ n ih =>
    intro v1 v2 hdd out h r hk
    unfold g38L4 at h
    refine Ru.op (q := (.iload_n 2, 1)) (S' := (5, _, _, _, _)) (by decide +kernel) rfl ?_
    refine Ru.op (q := (.aload_n 0, 1)) (S' := (6, _, _, _, _)) (by decide +kernel) rfl ?_
    refine Ru.getI (pc' := 9) (i := 46) (ci := 1) (k := 8) (nn := 0) (z := 0) (x := (S.F 1 8)) (by decide +kernel) (by decide +kernel) (hp1 _) (by decide) rfl (eI_of _) rfl ?_
    obtain ⟨g1, h⟩ := gd_some h
    by_cases b2 : v2 < (S.F 1 8)
    · replace h := if_t b2 h
      refine Ru.br2 (k := .ge) (off := 23) (bb := false) (tg := 12) (by decide +kernel) (by decide +kernel) (ci_ge0 g1 (inR_to _) b2) rfl ?_
      refine Ru.op (q := (.aload_n 0, 1)) (S' := (13, _, _, _, _)) (by decide +kernel) rfl ?_
      refine Ru.getR (pc' := 16) (i := 26) (ci := 1) (k := 7) (nn := 0) (z := 0) (v := .ref 11) (by decide +kernel) (by decide +kernel) (hp1 _) (by decide) rfl rfl ?_
      refine Ru.op (q := (.iload_n 2, 1)) (S' := (17, _, _, _, _)) (by decide +kernel) rfl ?_
      obtain ⟨g3, h⟩ := gd_some h
      refine Ru.ildI (pc' := 18) (i := v2) (z := (S.A 11 v2)) (by decide +kernel) (hp11 _) g3 (eI_of _) rfl ?_
      refine Ru.kI (q := (.ldc 112, 2)) (c := 32768) (pc' := 20) (by decide +kernel) rfl (by decide) rfl ?_
      by_cases b4 : (S.A 11 v2) < 32768
      · replace h := if_t b4 h
        refine Ru.br2 (k := .ge) (off := 6) (bb := false) (tg := 23) (by decide +kernel) (by decide +kernel) (ci_ge0 (inR_to _) (by decide) b4) rfl ?_
        refine Ru.inc (k := 1) (n := 1) (x := v1) (z := (v1 + 1)) (xs' := [some (.ref 1), some (vI (v1 + 1)), some (vI v2)]) (pc' := 26) (by decide +kernel) rfl rfl rfl rfl ?_
        refine Ru.inc (k := 2) (n := 1) (x := v2) (z := (v2 + 1)) (xs' := [some (.ref 1), some (vI (v1 + 1)), some (vI (v2 + 1))]) (pc' := 29) (by decide +kernel) rfl rfl rfl rfl ?_
        refine Ru.op (q := (.goto (-25), 3)) (S' := (4, _, _, _, _)) (by decide +kernel) rfl ?_
        exact ih _ _ trivial _ h r hk
      · replace h := if_f b4 h
        refine Ru.br2 (k := .ge) (off := 6) (bb := true) (tg := 26) (by decide +kernel) (by decide +kernel) (ci_ge1 (inR_to _) (by decide) b4) rfl ?_
        refine Ru.inc (k := 2) (n := 1) (x := v2) (z := (v2 + 1)) (xs' := [some (.ref 1), some (vI v1), some (vI (v2 + 1))]) (pc' := 29) (by decide +kernel) rfl rfl rfl rfl ?_
        refine Ru.op (q := (.goto (-25), 3)) (S' := (4, _, _, _, _)) (by decide +kernel) rfl ?_
        exact ih _ _ trivial _ h r hk
    · replace h := if_f b2 h
      refine Ru.br2 (k := .ge) (off := 23) (bb := true) (tg := 32) (by decide +kernel) (by decide +kernel) (ci_ge1 g1 (inR_to _) b2) rfl ?_
      cases h
      exact hk _ _ ⟨rfl, rfl, trivial⟩
set_option maxRecDepth 100000 in
set_option maxHeartbeats 4000000 in
theorem g38_ok {S : St} {o : Int} (h : g38 S  = some o) : Ru none 10 200 38 (0, mn_pad (mn_ent [.ref 1]) 3, [], S.ns, Hp S) ((0, some (vI o)), S.ns, Hp S) := by
  unfold g38 at h
  show Ru none 10 200 38 (0, [some (.ref 1), none, none], [], S.ns, Hp S) _
  refine Ru.kI (q := (.iconst 0, 1)) (c := 0) (pc' := 1) (by decide +kernel) rfl (by decide) rfl ?_
  refine Ru.op (q := (.istore_n 1, 1)) (S' := (2, [some (.ref 1), some (vI 0), none], [], _, _)) (by decide +kernel) rfl ?_
  refine Ru.kI (q := (.iconst 0, 1)) (c := 0) (pc' := 3) (by decide +kernel) rfl (by decide) rfl ?_
  refine Ru.op (q := (.istore_n 2, 1)) (S' := (4, [some (.ref 1), some (vI 0), some (vI 0)], [], _, _)) (by decide +kernel) rfl ?_
  obtain ⟨o5, e8, h⟩ := ob_some h
  refine g38L4_ok FU _ _ trivial _ e8 _ ?_
  intro d6 d7 hd9
  refine Ru.op (q := (.iload_n 1, 1)) (S' := (33, _, _, _, _)) (by decide +kernel) rfl ?_
  cases h
  exact Ru.iret (by decide +kernel) rfl rfl
set_option maxRecDepth 100000 in
set_option maxHeartbeats 4000000 in
theorem g37C112_ok {FR LO : Nat} {rc : St → Int → Int → Option (Int × St)} (hF : 12 ≤ FR) (hL : 244 ≤ LO) (hrc : ∀ {S : St} {v1 : Int} {v2 : Int} {o : Int × St}, rc S v1 v2 = some o → Ru none FR LO 22 (0, mn_pad (mn_ent [.ref 1, vI v1, vI v2]) 4, [], S.ns, Hp S) ((0, some (vI o.1)), o.2.ns, Hp o.2)) {S : St} {v2 : Int} {v3 : Int} {d1 d4 d5 : Option Value} (hdd : DD [d1, d4, d5]) {o : Int × St} (h : g37C112 rc S v2 v3 = some o) : Ru none (FR + 1) (LO + 23) 37 (112, [some (.ref 1), d1, some (vI v2), some (vI v3), d4, d5], [], S.ns, Hp S) ((0, some (vI o.1)), o.2.ns, Hp o.2) := by
  unfold g37C112 at h
  refine Ru.op (q := (.aload_n 0, 1)) (S' := (113, _, _, _, _)) (by decide +kernel) rfl ?_
  refine Ru.op (q := (.dup, 1)) (S' := (114, _, _, _, _)) (by decide +kernel) rfl ?_
  refine Ru.getI (pc' := 117) (i := 46) (ci := 1) (k := 8) (nn := 0) (z := 0) (x := (S.F 1 8)) (by decide +kernel) (by decide +kernel) (hp1 _) (by decide) rfl (eI_of _) rfl ?_
  refine Ru.kI (q := (.iconst 1, 1)) (c := 1) (pc' := 118) (by decide +kernel) rfl (by decide) rfl ?_
  refine Ru.ar2 (i := .iadd) (z := ((S.F 1 8) + 1)) (pc' := 119) (by decide +kernel) rfl (ar_add _ _) rfl ?_
  refine Ru.putH (pc' := 122) (i := 46) (ci := 1) (k := 8) (nn := 0) (z := 0) (by decide +kernel) (by decide +kernel) (hp1 _) (by decide) (Nat.le_of_ble_eq_true rfl) rfl (by decide +kernel) (pf_1_8 _ _) rfl ?_
  refine Ru.op (q := (.aload_n 0, 1)) (S' := (123, _, _, _, _)) (by decide +kernel) rfl ?_
  refine Ru.op (q := (.iload_n 2, 1)) (S' := (124, _, _, _, _)) (by decide +kernel) rfl ?_
  refine Ru.op (q := (.iload_n 3, 1)) (S' := (125, _, _, _, _)) (by decide +kernel) rfl ?_
  refine Ru.kI (q := (.iconst 1, 1)) (c := 1) (pc' := 126) (by decide +kernel) rfl (by decide) rfl ?_
  refine Ru.ar2 (i := .iadd) (z := (v3 + 1)) (pc' := 127) (by decide +kernel) rfl (ar_add _ _) rfl ?_
  obtain ⟨o11, e12, h⟩ := ob_some h
  refine Ru.vcallI (pc' := 130) (st' := [vI o11.1]) (i := 55) (j2 := 22) (ci := 1) (k := 0) (z := 0) (as := [vI v2, vI (v3 + 1)]) (by decide +kernel) (by decide +kernel) rfl rfl (hp1 _) (by decide) ⟨(by omega), (by show 19 + 4 ≤ (LO + 23); omega), Nat.le_of_ble_eq_true rfl, Nat.le_of_ble_eq_true rfl⟩ ((hrc e12).up (by omega) (by show _ ≤ (LO + 23) - (19 + 4); omega)) rfl rfl ?_
  refine Ru.op (q := (.istore 5, 2)) (S' := (132, [some (.ref 1), d1, some (vI v2), some (vI v3), d4, some (vI o11.1)], [], _, _)) (by decide +kernel) (st_i (mn_st1_D (Nat.le_of_ble_eq_true rfl) hdd.2.1 rfl)) ?_
  refine Ru.op (q := (.aload_n 0, 1)) (S' := (133, _, _, _, _)) (by decide +kernel) rfl ?_
  refine Ru.op (q := (.dup, 1)) (S' := (134, _, _, _, _)) (by decide +kernel) rfl ?_
  refine Ru.getI (pc' := 137) (i := 46) (ci := 1) (k := 8) (nn := 0) (z := 0) (x := (o11.2.F 1 8)) (by decide +kernel) (by decide +kernel) (hp1 _) (by decide) rfl (eI_of _) rfl ?_
  refine Ru.kI (q := (.iconst 1, 1)) (c := 1) (pc' := 138) (by decide +kernel) rfl (by decide) rfl ?_
  refine Ru.ar2 (i := .isub) (z := ((o11.2.F 1 8) - 1)) (pc' := 139) (by decide +kernel) rfl (ar_sub _ _) rfl ?_
  refine Ru.putH (pc' := 142) (i := 46) (ci := 1) (k := 8) (nn := 0) (z := 0) (by decide +kernel) (by decide +kernel) (hp1 _) (by decide) (Nat.le_of_ble_eq_true rfl) rfl (by decide +kernel) (pf_1_8 _ _) rfl ?_
  refine Ru.op (q := (.iload 5, 2)) (S' := (144, _, _, _, _)) (by decide +kernel) rfl ?_
  cases h
  exact Ru.iret (by decide +kernel) rfl rfl
set_option maxRecDepth 100000 in
set_option maxHeartbeats 4000000 in
theorem g37b_ok {FR LO : Nat} {rc : St → Int → Int → Option (Int × St)} (hF : 12 ≤ FR) (hL : 244 ≤ LO) (hrc : ∀ {S : St} {v1 : Int} {v2 : Int} {o : Int × St}, rc S v1 v2 = some o → Ru none FR LO 22 (0, mn_pad (mn_ent [.ref 1, vI v1, vI v2]) 4, [], S.ns, Hp S) ((0, some (vI o.1)), o.2.ns, Hp o.2)) {S : St} {v1 : Int} {v2 : Int} {v3 : Int} {o : Int × St} (h : g37b rc S v1 v2 v3 = some o) : Ru none (FR + 1) (LO + 23) 37 (0, mn_pad (mn_ent [.ref 1, vI v1, vI v2, vI v3]) 6, [], S.ns, Hp S) ((0, some (vI o.1)), o.2.ns, Hp o.2) := by
  unfold g37b at h
  show Ru none (FR + 1) (LO + 23) 37 (0, [some (.ref 1), some (vI v1), some (vI v2), some (vI v3), none, none], [], S.ns, Hp S) _
  refine Ru.op (q := (.aload_n 0, 1)) (S' := (1, _, _, _, _)) (by decide +kernel) rfl ?_
  refine Ru.kI (q := (.bipush 120, 2)) (c := 120) (pc' := 3) (by decide +kernel) rfl (by decide) rfl ?_
  refine Ru.kI (q := (.bipush 122, 2)) (c := 122) (pc' := 5) (by decide +kernel) rfl (by decide) rfl ?_
  obtain ⟨o1, e2, h⟩ := ob_some h
  refine Ru.vcallI (pc' := 8) (st' := [vI o1.1]) (i := 103) (j2 := 29) (ci := 1) (k := 0) (z := 0) (as := [vI 120, vI 122]) (by decide +kernel) (by decide +kernel) rfl rfl (hp1 _) (by decide) ⟨(by omega), (by show 19 + 5 ≤ (LO + 23); omega), Nat.le_of_ble_eq_true rfl, Nat.le_of_ble_eq_true rfl⟩ ((g29_ok e2).up (by omega) (by show _ ≤ (LO + 23) - (19 + 5); omega)) rfl rfl ?_
  refine Ru.op (q := (.istore 4, 2)) (S' := (10, [some (.ref 1), some (vI v1), some (vI v2), some (vI v3), some (vI o1.1), none], [], _, _)) (by decide +kernel) rfl ?_
  refine Ru.op (q := (.iload 4, 2)) (S' := (12, _, _, _, _)) (by decide +kernel) rfl ?_
  refine Ru.kI (q := (.iconst (-1), 1)) (c := (-1)) (pc' := 13) (by decide +kernel) rfl (by decide) rfl ?_
  obtain ⟨g3, h⟩ := gd_some h
  by_cases b4 : o1.1 = (-1)
  · replace h := if_t b4 h
    refine Ru.br2 (k := .eq) (off := 12) (bb := true) (tg := 25) (by decide +kernel) (by decide +kernel) (ci_eq1 g3 (by decide) b4) rfl ?_
    refine Ru.op (q := (.aload_n 0, 1)) (S' := (26, _, _, _, _)) (by decide +kernel) rfl ?_
    refine Ru.op (q := (.aload_n 0, 1)) (S' := (27, _, _, _, _)) (by decide +kernel) rfl ?_
    refine Ru.getI (pc' := 30) (i := 36) (ci := 1) (k := 4) (nn := 0) (z := 0) (x := (o1.2.F 1 4)) (by decide +kernel) (by decide +kernel) (hp1 _) (by decide) rfl (eI_of _) rfl ?_
    obtain ⟨o5, e6, h⟩ := ob_some h
    refine Ru.vcallI (pc' := 33) (st' := [vI o5.1]) (i := 62) (j2 := 25) (ci := 1) (k := 0) (z := 0) (as := [vI (o1.2.F 1 4)]) (by decide +kernel) (by decide +kernel) rfl rfl (hp1 _) (by decide) ⟨(by omega), (by show 19 + 2 ≤ (LO + 23); omega), Nat.le_of_ble_eq_true rfl, Nat.le_of_ble_eq_true rfl⟩ ((g25_ok e6).up (by omega) (by show _ ≤ (LO + 23) - (19 + 2); omega)) rfl rfl ?_
    cases h
    exact Ru.iret (by decide +kernel) rfl rfl
  · replace h := if_f b4 h
    refine Ru.br2 (k := .eq) (off := 12) (bb := false) (tg := 16) (by decide +kernel) (by decide +kernel) (ci_eq0 g3 (by decide) b4) rfl ?_
    refine Ru.op (q := (.aload_n 0, 1)) (S' := (17, _, _, _, _)) (by decide +kernel) rfl ?_
    refine Ru.getI (pc' := 20) (i := 46) (ci := 1) (k := 8) (nn := 0) (z := 0) (x := (o1.2.F 1 8)) (by decide +kernel) (by decide +kernel) (hp1 _) (by decide) rfl (eI_of _) rfl ?_
    refine Ru.kI (q := (.bipush 10, 2)) (c := 10) (pc' := 22) (by decide +kernel) rfl (by decide) rfl ?_
    by_cases b7 : (o1.2.F 1 8) < 10
    · replace h := if_t b7 h
      refine Ru.br2 (k := .lt) (off := 12) (bb := true) (tg := 34) (by decide +kernel) (by decide +kernel) (ci_lt1 (inR_to _) (by decide) b7) rfl ?_
      refine Ru.op (q := (.aload_n 0, 1)) (S' := (35, _, _, _, _)) (by decide +kernel) rfl ?_
      refine Ru.getR (pc' := 38) (i := 22) (ci := 1) (k := 6) (nn := 0) (z := 0) (v := .ref 10) (by decide +kernel) (by decide +kernel) (hp1 _) (by decide) rfl rfl ?_
      refine Ru.op (q := (.aload_n 0, 1)) (S' := (39, _, _, _, _)) (by decide +kernel) rfl ?_
      refine Ru.getI (pc' := 42) (i := 46) (ci := 1) (k := 8) (nn := 0) (z := 0) (x := (o1.2.F 1 8)) (by decide +kernel) (by decide +kernel) (hp1 _) (by decide) rfl (eI_of _) rfl ?_
      refine Ru.op (q := (.iload 4, 2)) (S' := (44, _, _, _, _)) (by decide +kernel) rfl ?_
      obtain ⟨g8, h⟩ := gd_some h
      refine Ru.istI (pc' := 45) (i := (o1.2.F 1 8)) (x := o1.1) (by decide +kernel) (hp10 _) g8 (ps_10 _ _ _) rfl ?_
      refine Ru.op (q := (.iload_n 1, 1)) (S' := (46, _, _, _, _)) (by decide +kernel) rfl ?_
      obtain ⟨g9, h⟩ := gd_some h
      by_cases b10 : v1 = 0
      · replace h := if_t b10 h
        refine Ru.br (k := .eq) (off := 40) (bb := true) (tg := 86) (by decide +kernel) (by decide +kernel) (cz (ci_eq1 g9 (by decide) b10)) rfl ?_
        refine Ru.op (q := (.aload_n 0, 1)) (S' := (87, _, _, _, _)) (by decide +kernel) rfl ?_
        refine Ru.getR (pc' := 90) (i := 26) (ci := 1) (k := 7) (nn := 0) (z := 0) (v := .ref 11) (by decide +kernel) (by decide +kernel) (hp1 _) (by decide) rfl rfl ?_
        refine Ru.op (q := (.aload_n 0, 1)) (S' := (91, _, _, _, _)) (by decide +kernel) rfl ?_
        refine Ru.getI (pc' := 94) (i := 46) (ci := 1) (k := 8) (nn := 0) (z := 0) (x := (o1.2.F 1 8)) (by decide +kernel) (by decide +kernel) (hp1 _) (by decide) rfl (eI_of _) rfl ?_
        refine Ru.op (q := (.aload_n 0, 1)) (S' := (95, _, _, _, _)) (by decide +kernel) rfl ?_
        refine Ru.getI (pc' := 98) (i := 49) (ci := 1) (k := 9) (nn := 0) (z := 0) (x := (o1.2.F 1 9)) (by decide +kernel) (by decide +kernel) (hp1 _) (by decide) rfl (eI_of _) rfl ?_
        refine Ru.kI (q := (.bipush 8, 2)) (c := 8) (pc' := 100) (by decide +kernel) rfl (by decide) rfl ?_
        refine Ru.ar2 (i := .ishl) (z := ((o1.2.F 1 9) * 256)) (pc' := 101) (by decide +kernel) rfl (ar_shl _) rfl ?_
        refine Ru.istI (pc' := 102) (i := (o1.2.F 1 8)) (x := ((o1.2.F 1 9) * 256)) (by decide +kernel) (hp11 _) g8 (ps_11 _ _ _) rfl ?_
        refine Ru.op (q := (.aload_n 0, 1)) (S' := (103, _, _, _, _)) (by decide +kernel) rfl ?_
        refine Ru.op (q := (.dup, 1)) (S' := (104, _, _, _, _)) (by decide +kernel) rfl ?_
        refine Ru.getI (pc' := 107) (i := 49) (ci := 1) (k := 9) (nn := 0) (z := 0) (x := (o1.2.F 1 9)) (by decide +kernel) (by decide +kernel) (hp1 _) (by decide) rfl (eI_of _) rfl ?_
        refine Ru.kI (q := (.iconst 1, 1)) (c := 1) (pc' := 108) (by decide +kernel) rfl (by decide) rfl ?_
        refine Ru.ar2 (i := .iadd) (z := ((o1.2.F 1 9) + 1)) (pc' := 109) (by decide +kernel) rfl (ar_add _ _) rfl ?_
        refine Ru.putH (pc' := 112) (i := 49) (ci := 1) (k := 9) (nn := 0) (z := 0) (by decide +kernel) (by decide +kernel) (hp1 _) (by decide) (Nat.le_of_ble_eq_true rfl) rfl (by decide +kernel) (pf_1_9 _ _) rfl ?_
        exact g37C112_ok hF hL hrc ⟨rfl, rfl, rfl, trivial⟩ h
      · replace h := if_f b10 h
        refine Ru.br (k := .eq) (off := 40) (bb := false) (tg := 49) (by decide +kernel) (by decide +kernel) (cz (ci_eq0 g9 (by decide) b10)) rfl ?_
        refine Ru.op (q := (.aload_n 0, 1)) (S' := (50, _, _, _, _)) (by decide +kernel) rfl ?_
        refine Ru.op (q := (.dup, 1)) (S' := (51, _, _, _, _)) (by decide +kernel) rfl ?_
        refine Ru.getI (pc' := 54) (i := 52) (ci := 1) (k := 10) (nn := 0) (z := 0) (x := (o1.2.F 1 10)) (by decide +kernel) (by decide +kernel) (hp1 _) (by decide) rfl (eI_of _) rfl ?_
        refine Ru.kI (q := (.iconst 1, 1)) (c := 1) (pc' := 55) (by decide +kernel) rfl (by decide) rfl ?_
        refine Ru.ar2 (i := .iadd) (z := ((o1.2.F 1 10) + 1)) (pc' := 56) (by decide +kernel) rfl (ar_add _ _) rfl ?_
        refine Ru.putH (pc' := 59) (i := 52) (ci := 1) (k := 10) (nn := 0) (z := 0) (by decide +kernel) (by decide +kernel) (hp1 _) (by decide) (Nat.le_of_ble_eq_true rfl) rfl (by decide +kernel) (pf_1_10 _ _) rfl ?_
        refine Ru.op (q := (.aload_n 0, 1)) (S' := (60, _, _, _, _)) (by decide +kernel) rfl ?_
        refine Ru.getR (pc' := 63) (i := 26) (ci := 1) (k := 7) (nn := 0) (z := 0) (v := .ref 11) (by decide +kernel) (by decide +kernel) (hp1 _) (by decide) rfl rfl ?_
        refine Ru.op (q := (.aload_n 0, 1)) (S' := (64, _, _, _, _)) (by decide +kernel) rfl ?_
        refine Ru.getI (pc' := 67) (i := 46) (ci := 1) (k := 8) (nn := 0) (z := 0) (x := (o1.2.F 1 8)) (by decide +kernel) (by decide +kernel) (hp1 _) (by decide) rfl (eI_of _) rfl ?_
        refine Ru.kI (q := (.ldc 107, 2)) (c := 65536) (pc' := 69) (by decide +kernel) rfl (by decide) rfl ?_
        refine Ru.op (q := (.aload_n 0, 1)) (S' := (70, _, _, _, _)) (by decide +kernel) rfl ?_
        refine Ru.getI (pc' := 73) (i := 52) (ci := 1) (k := 10) (nn := 0) (z := 0) (x := ((o1.2.F 1 10) + 1)) (by decide +kernel) (by decide +kernel) (hp1 _) (by decide) rfl rfl rfl ?_
        refine Ru.kI (q := (.bipush 8, 2)) (c := 8) (pc' := 75) (by decide +kernel) rfl (by decide) rfl ?_
        refine Ru.ar2 (i := .ishl) (z := (((o1.2.F 1 10) + 1) * 256)) (pc' := 76) (by decide +kernel) rfl (ar_shl _) rfl ?_
        refine Ru.ar2 (i := .iadd) (z := (65536 + (((o1.2.F 1 10) + 1) * 256))) (pc' := 77) (by decide +kernel) rfl (ar_add _ _) rfl ?_
        refine Ru.op (q := (.aload_n 0, 1)) (S' := (78, _, _, _, _)) (by decide +kernel) rfl ?_
        obtain ⟨o13, e14, h⟩ := ob_some h
        refine Ru.vcallI (pc' := 81) (st' := [vI o13, vI (65536 + (((o1.2.F 1 10) + 1) * 256)), vI (o1.2.F 1 8), .ref 11]) (i := 108) (j2 := 38) (ci := 1) (k := 0) (z := 0) (as := []) (by decide +kernel) (by decide +kernel) rfl rfl (hp1 _) (by decide) ⟨(by omega), (by show 19 + 3 ≤ (LO + 23); omega), Nat.le_of_ble_eq_true rfl, Nat.le_of_ble_eq_true rfl⟩ ((g38_ok e14).up (by omega) (by show _ ≤ (LO + 23) - (19 + 3); omega)) rfl rfl ?_
        refine Ru.ar2 (i := .iadd) (z := ((65536 + (((o1.2.F 1 10) + 1) * 256)) + o13)) (pc' := 82) (by decide +kernel) rfl (ar_add _ _) rfl ?_
        refine Ru.istI (pc' := 83) (i := (o1.2.F 1 8)) (x := ((65536 + (((o1.2.F 1 10) + 1) * 256)) + o13)) (by decide +kernel) (hp11 _) g8 (ps_11 _ _ _) rfl ?_
        refine Ru.op (q := (.goto 29, 3)) (S' := (112, _, _, _, _)) (by decide +kernel) rfl ?_
        exact g37C112_ok hF hL hrc ⟨rfl, rfl, rfl, trivial⟩ h
    · replace h := if_f b7 h
      refine Ru.br2 (k := .lt) (off := 12) (bb := false) (tg := 25) (by decide +kernel) (by decide +kernel) (ci_lt0 (inR_to _) (by decide) b7) rfl ?_
      refine Ru.op (q := (.aload_n 0, 1)) (S' := (26, _, _, _, _)) (by decide +kernel) rfl ?_
      refine Ru.op (q := (.aload_n 0, 1)) (S' := (27, _, _, _, _)) (by decide +kernel) rfl ?_
      refine Ru.getI (pc' := 30) (i := 36) (ci := 1) (k := 4) (nn := 0) (z := 0) (x := (o1.2.F 1 4)) (by decide +kernel) (by decide +kernel) (hp1 _) (by decide) rfl (eI_of _) rfl ?_
      obtain ⟨o15, e16, h⟩ := ob_some h
      refine Ru.vcallI (pc' := 33) (st' := [vI o15.1]) (i := 62) (j2 := 25) (ci := 1) (k := 0) (z := 0) (as := [vI (o1.2.F 1 4)]) (by decide +kernel) (by decide +kernel) rfl rfl (hp1 _) (by decide) ⟨(by omega), (by show 19 + 2 ≤ (LO + 23); omega), Nat.le_of_ble_eq_true rfl, Nat.le_of_ble_eq_true rfl⟩ ((g25_ok e16).up (by omega) (by show _ ≤ (LO + 23) - (19 + 2); omega)) rfl rfl ?_
      cases h
      exact Ru.iret (by decide +kernel) rfl rfl
set_option maxRecDepth 100000 in
set_option maxHeartbeats 4000000 in
theorem g33_ok {S : St} {v1 : Int} {v2 : Int} {v3 : Int} {o : Int × St} (h : g33 S v1 v2 v3 = some o) : Ru none 10 200 33 (0, mn_pad (mn_ent [.ref 3, vI v1, vI v2, vI v3]) 4, [], S.ns, Hp S) ((0, some (vI o.1)), o.2.ns, Hp o.2) := by
  unfold g33 at h
  show Ru none 10 200 33 (0, [some (.ref 3), some (vI v1), some (vI v2), some (vI v3)], [], S.ns, Hp S) _
  refine Ru.op (q := (.aload_n 0, 1)) (S' := (1, _, _, _, _)) (by decide +kernel) rfl ?_
  refine Ru.getI (pc' := 4) (i := 30) (ci := 2) (k := 5) (nn := 0) (z := 0) (x := (S.F 3 5)) (by decide +kernel) (by decide +kernel) (hp3 _) (by decide) rfl (eI_of _) rfl ?_
  refine Ru.kI (q := (.sipush 160, 3)) (c := 160) (pc' := 7) (by decide +kernel) rfl (by decide) rfl ?_
  by_cases b1 : (S.F 3 5) < 160
  · replace h := if_t b1 h
    refine Ru.br2 (k := .lt) (off := 5) (bb := true) (tg := 12) (by decide +kernel) (by decide +kernel) (ci_lt1 (inR_to _) (by decide) b1) rfl ?_
    refine Ru.op (q := (.aload_n 0, 1)) (S' := (13, _, _, _, _)) (by decide +kernel) rfl ?_
    refine Ru.getR (pc' := 16) (i := 9) (ci := 2) (k := 0) (nn := 0) (z := 0) (v := .ref 4) (by decide +kernel) (by decide +kernel) (hp3 _) (by decide) rfl rfl ?_
    refine Ru.op (q := (.aload_n 0, 1)) (S' := (17, _, _, _, _)) (by decide +kernel) rfl ?_
    refine Ru.getI (pc' := 20) (i := 30) (ci := 2) (k := 5) (nn := 0) (z := 0) (x := (S.F 3 5)) (by decide +kernel) (by decide +kernel) (hp3 _) (by decide) rfl (eI_of _) rfl ?_
    refine Ru.op (q := (.iload_n 1, 1)) (S' := (21, _, _, _, _)) (by decide +kernel) rfl ?_
    obtain ⟨g2, h⟩ := gd_some h
    refine Ru.istI (pc' := 22) (i := (S.F 3 5)) (x := v1) (by decide +kernel) (hp4 _) g2 (ps_4 _ _ _) rfl ?_
    refine Ru.op (q := (.aload_n 0, 1)) (S' := (23, _, _, _, _)) (by decide +kernel) rfl ?_
    refine Ru.getR (pc' := 26) (i := 15) (ci := 2) (k := 1) (nn := 0) (z := 0) (v := .ref 5) (by decide +kernel) (by decide +kernel) (hp3 _) (by decide) rfl rfl ?_
    refine Ru.op (q := (.aload_n 0, 1)) (S' := (27, _, _, _, _)) (by decide +kernel) rfl ?_
    refine Ru.getI (pc' := 30) (i := 30) (ci := 2) (k := 5) (nn := 0) (z := 0) (x := (S.F 3 5)) (by decide +kernel) (by decide +kernel) (hp3 _) (by decide) rfl (eI_of _) rfl ?_
    refine Ru.op (q := (.iload_n 2, 1)) (S' := (31, _, _, _, _)) (by decide +kernel) rfl ?_
    refine Ru.istI (pc' := 32) (i := (S.F 3 5)) (x := v2) (by decide +kernel) (hp5 _) g2 (ps_5 _ _ _) rfl ?_
    refine Ru.op (q := (.aload_n 0, 1)) (S' := (33, _, _, _, _)) (by decide +kernel) rfl ?_
    refine Ru.getR (pc' := 36) (i := 18) (ci := 2) (k := 2) (nn := 0) (z := 0) (v := .ref 6) (by decide +kernel) (by decide +kernel) (hp3 _) (by decide) rfl rfl ?_
    refine Ru.op (q := (.aload_n 0, 1)) (S' := (37, _, _, _, _)) (by decide +kernel) rfl ?_
    refine Ru.getI (pc' := 40) (i := 30) (ci := 2) (k := 5) (nn := 0) (z := 0) (x := (S.F 3 5)) (by decide +kernel) (by decide +kernel) (hp3 _) (by decide) rfl (eI_of _) rfl ?_
    refine Ru.op (q := (.iload_n 3, 1)) (S' := (41, _, _, _, _)) (by decide +kernel) rfl ?_
    refine Ru.istI (pc' := 42) (i := (S.F 3 5)) (x := v3) (by decide +kernel) (hp6 _) g2 (ps_6 _ _ _) rfl ?_
    refine Ru.op (q := (.aload_n 0, 1)) (S' := (43, _, _, _, _)) (by decide +kernel) rfl ?_
    refine Ru.op (q := (.dup, 1)) (S' := (44, _, _, _, _)) (by decide +kernel) rfl ?_
    refine Ru.getI (pc' := 47) (i := 30) (ci := 2) (k := 5) (nn := 0) (z := 0) (x := (S.F 3 5)) (by decide +kernel) (by decide +kernel) (hp3 _) (by decide) rfl (eI_of _) rfl ?_
    refine Ru.kI (q := (.iconst 1, 1)) (c := 1) (pc' := 48) (by decide +kernel) rfl (by decide) rfl ?_
    refine Ru.ar2 (i := .iadd) (z := ((S.F 3 5) + 1)) (pc' := 49) (by decide +kernel) rfl (ar_add _ _) rfl ?_
    refine Ru.putH (pc' := 52) (i := 30) (ci := 2) (k := 5) (nn := 0) (z := 0) (by decide +kernel) (by decide +kernel) (hp3 _) (by decide) (Nat.le_of_ble_eq_true rfl) rfl (by decide +kernel) (pf_3_5 _ _) rfl ?_
    refine Ru.op (q := (.aload_n 0, 1)) (S' := (53, _, _, _, _)) (by decide +kernel) rfl ?_
    refine Ru.getI (pc' := 56) (i := 30) (ci := 2) (k := 5) (nn := 0) (z := 0) (x := ((S.F 3 5) + 1)) (by decide +kernel) (by decide +kernel) (hp3 _) (by decide) rfl rfl rfl ?_
    refine Ru.kI (q := (.iconst 1, 1)) (c := 1) (pc' := 57) (by decide +kernel) rfl (by decide) rfl ?_
    refine Ru.ar2 (i := .isub) (z := (((S.F 3 5) + 1) - 1)) (pc' := 58) (by decide +kernel) rfl (ar_sub _ _) rfl ?_
    cases h
    exact Ru.iret (by decide +kernel) rfl rfl
  · replace h := if_f b1 h
    refine Ru.br2 (k := .lt) (off := 5) (bb := false) (tg := 10) (by decide +kernel) (by decide +kernel) (ci_lt0 (inR_to _) (by decide) b1) rfl ?_
    refine Ru.kI (q := (.iconst (-1), 1)) (c := (-1)) (pc' := 11) (by decide +kernel) rfl (by decide) rfl ?_
    cases h
    exact Ru.iret (by decide +kernel) rfl rfl
set_option maxRecDepth 100000 in
set_option maxHeartbeats 4000000 in
theorem g36_ok {S : St} {v0 : Int} {o : Int} (h : g36 S v0 = some o) : Ru none 10 200 36 (0, mn_pad (mn_ent [vI v0]) 1, [], S.ns, Hp S) ((0, some (vI o)), S.ns, Hp S) := by
  unfold g36 at h
  show Ru none 10 200 36 (0, [some (vI v0)], [], S.ns, Hp S) _
  refine Ru.op (q := (.iload_n 0, 1)) (S' := (1, _, _, _, _)) (by decide +kernel) rfl ?_
  refine Ru.kI (q := (.bipush 17, 2)) (c := 17) (pc' := 3) (by decide +kernel) rfl (by decide) rfl ?_
  obtain ⟨g1, h⟩ := gd_some h
  refine Ru.minI (pc' := 6) (i := 51) (k := (0, 0, 0, 0, 0)) (by decide +kernel) (by rfl) g1 (by decide) (Nat.le_of_ble_eq_true rfl) (by show 0 + 13 ≤ 200; exact Nat.le_of_ble_eq_true rfl) rfl ?_
  cases h
  exact Ru.iret (by decide +kernel) rfl rfl
set_option maxRecDepth 100000 in
set_option maxHeartbeats 4000000 in
theorem g35_ok {S : St} {v1 : Int} {v2 : Int} {v3 : Int} {o : Int × St} (h : g35 S v1 v2 v3 = some o) : Ru none 11 223 35 (0, mn_pad (mn_ent [.ref 3, vI v1, vI v2, vI v3]) 5, [], S.ns, Hp S) ((0, some (vI o.1)), o.2.ns, Hp o.2) := by
  unfold g35 at h
  show Ru none 11 223 35 (0, [some (.ref 3), some (vI v1), some (vI v2), some (vI v3), none], [], S.ns, Hp S) _
  refine Ru.op (q := (.aload_n 0, 1)) (S' := (1, _, _, _, _)) (by decide +kernel) rfl ?_
  refine Ru.op (q := (.iload_n 1, 1)) (S' := (2, _, _, _, _)) (by decide +kernel) rfl ?_
  obtain ⟨g1, h⟩ := gd_some h
  by_cases b2 : v1 = 0
  · replace h := if_t b2 h
    refine Ru.br (k := .eq) (off := 7) (bb := true) (tg := 9) (by decide +kernel) (by decide +kernel) (cz (ci_eq1 g1 (by decide) b2)) rfl ?_
    refine Ru.kI (q := (.iconst 2, 1)) (c := 2) (pc' := 10) (by decide +kernel) rfl (by decide) rfl ?_
    refine Ru.op (q := (.iload_n 2, 1)) (S' := (11, _, _, _, _)) (by decide +kernel) rfl ?_
    refine Ru.op (q := (.iload_n 3, 1)) (S' := (12, _, _, _, _)) (by decide +kernel) rfl ?_
    obtain ⟨o3, e4, h⟩ := ob_some h
    refine Ru.vcallI (pc' := 15) (st' := [vI o3.1]) (i := 37) (j2 := 33) (ci := 2) (k := 0) (z := 0) (as := [vI 2, vI v2, vI v3]) (by decide +kernel) (by decide +kernel) rfl rfl (hp3 _) (by decide) ⟨(Nat.le_of_ble_eq_true rfl), (by show 19 + 4 ≤ 223; exact Nat.le_of_ble_eq_true rfl), Nat.le_of_ble_eq_true rfl, Nat.le_of_ble_eq_true rfl⟩ ((g33_ok e4).up (Nat.le_of_ble_eq_true rfl) (Nat.le_of_ble_eq_true rfl)) rfl rfl ?_
    refine Ru.op (q := (.istore 4, 2)) (S' := (17, [some (.ref 3), some (vI v1), some (vI v2), some (vI v3), some (vI o3.1)], [], _, _)) (by decide +kernel) rfl ?_
    refine Ru.op (q := (.iload 4, 2)) (S' := (19, _, _, _, _)) (by decide +kernel) rfl ?_
    refine Ru.kI (q := (.iconst (-1), 1)) (c := (-1)) (pc' := 20) (by decide +kernel) rfl (by decide) rfl ?_
    obtain ⟨g5, h⟩ := gd_some h
    by_cases b6 : o3.1 = (-1)
    · replace h := if_t b6 h
      refine Ru.br2 (k := .eq) (off := 55) (bb := true) (tg := 75) (by decide +kernel) (by decide +kernel) (ci_eq1 g5 (by decide) b6) rfl ?_
      refine Ru.op (q := (.iload 4, 2)) (S' := (77, _, _, _, _)) (by decide +kernel) rfl ?_
      refine Ru.kI (q := (.iconst (-1), 1)) (c := (-1)) (pc' := 78) (by decide +kernel) rfl (by decide) rfl ?_
      refine Ru.br2 (k := .eq) (off := 46) (bb := true) (tg := 124) (by decide +kernel) (by decide +kernel) (ci_eq1 g5 (by decide) b6) rfl ?_
      refine Ru.op (q := (.iload 4, 2)) (S' := (126, _, _, _, _)) (by decide +kernel) rfl ?_
      cases h
      exact Ru.iret (by decide +kernel) rfl rfl
    · replace h := if_f b6 h
      refine Ru.br2 (k := .eq) (off := 55) (bb := false) (tg := 23) (by decide +kernel) (by decide +kernel) (ci_eq0 g5 (by decide) b6) rfl ?_
      refine Ru.op (q := (.iload_n 1, 1)) (S' := (24, _, _, _, _)) (by decide +kernel) rfl ?_
      refine Ru.br (k := .eq) (off := 51) (bb := true) (tg := 75) (by decide +kernel) (by decide +kernel) (cz (ci_eq1 g1 (by decide) b2)) rfl ?_
      refine Ru.op (q := (.iload 4, 2)) (S' := (77, _, _, _, _)) (by decide +kernel) rfl ?_
      refine Ru.kI (q := (.iconst (-1), 1)) (c := (-1)) (pc' := 78) (by decide +kernel) rfl (by decide) rfl ?_
      refine Ru.br2 (k := .eq) (off := 46) (bb := false) (tg := 81) (by decide +kernel) (by decide +kernel) (ci_eq0 g5 (by decide) b6) rfl ?_
      refine Ru.op (q := (.aload_n 0, 1)) (S' := (82, _, _, _, _)) (by decide +kernel) rfl ?_
      refine Ru.getR (pc' := 85) (i := 21) (ci := 2) (k := 3) (nn := 0) (z := 0) (v := .ref 7) (by decide +kernel) (by decide +kernel) (hp3 _) (by decide) rfl rfl ?_
      refine Ru.op (q := (.iload 4, 2)) (S' := (87, _, _, _, _)) (by decide +kernel) rfl ?_
      refine Ru.op (q := (.aload_n 0, 1)) (S' := (88, _, _, _, _)) (by decide +kernel) rfl ?_
      refine Ru.getR (pc' := 91) (i := 21) (ci := 2) (k := 3) (nn := 0) (z := 0) (v := .ref 7) (by decide +kernel) (by decide +kernel) (hp3 _) (by decide) rfl rfl ?_
      refine Ru.op (q := (.iload_n 2, 1)) (S' := (92, _, _, _, _)) (by decide +kernel) rfl ?_
      obtain ⟨g7, h⟩ := gd_some h
      refine Ru.ildI (pc' := 93) (i := v2) (z := (o3.2.A 7 v2)) (by decide +kernel) (hp7 _) g7 (eI_of _) rfl ?_
      refine Ru.op (q := (.aload_n 0, 1)) (S' := (94, _, _, _, _)) (by decide +kernel) rfl ?_
      refine Ru.getR (pc' := 97) (i := 21) (ci := 2) (k := 3) (nn := 0) (z := 0) (v := .ref 7) (by decide +kernel) (by decide +kernel) (hp3 _) (by decide) rfl rfl ?_
      refine Ru.op (q := (.iload_n 3, 1)) (S' := (98, _, _, _, _)) (by decide +kernel) rfl ?_
      obtain ⟨g8, h⟩ := gd_some h
      refine Ru.ildI (pc' := 99) (i := v3) (z := (o3.2.A 7 v3)) (by decide +kernel) (hp7 _) g8 (eI_of _) rfl ?_
      refine Ru.ar2 (i := .imul) (z := ((o3.2.A 7 v2) * (o3.2.A 7 v3))) (pc' := 100) (by decide +kernel) rfl (ar_mul _ _) rfl ?_
      obtain ⟨o9, e10, h⟩ := ob_some h
      refine Ru.callI (pc' := 103) (q := (.invokestatic 41, 3)) (j2 := 36) (as := [vI ((o3.2.A 7 v2) * (o3.2.A 7 v3))]) (st' := [vI o9, vI o3.1, .ref 7]) (by decide +kernel) rfl rfl rfl rfl ⟨(Nat.le_of_ble_eq_true rfl), (by show 19 + 1 ≤ 223; exact Nat.le_of_ble_eq_true rfl), Nat.le_of_ble_eq_true rfl, Nat.le_of_ble_eq_true rfl⟩ ((g36_ok e10).up (Nat.le_of_ble_eq_true rfl) (Nat.le_of_ble_eq_true rfl)) rfl rfl ?_
      obtain ⟨g11, h⟩ := gd_some h
      refine Ru.istI (pc' := 104) (i := o3.1) (x := o9) (by decide +kernel) (hp7 _) g11 (ps_7 _ _ _) rfl ?_
      refine Ru.op (q := (.aload_n 0, 1)) (S' := (105, _, _, _, _)) (by decide +kernel) rfl ?_
      refine Ru.getR (pc' := 108) (i := 24) (ci := 2) (k := 4) (nn := 0) (z := 0) (v := .ref 8) (by decide +kernel) (by decide +kernel) (hp3 _) (by decide) rfl rfl ?_
      refine Ru.op (q := (.iload 4, 2)) (S' := (110, _, _, _, _)) (by decide +kernel) rfl ?_
      refine Ru.op (q := (.aload_n 0, 1)) (S' := (111, _, _, _, _)) (by decide +kernel) rfl ?_
      refine Ru.getR (pc' := 114) (i := 24) (ci := 2) (k := 4) (nn := 0) (z := 0) (v := .ref 8) (by decide +kernel) (by decide +kernel) (hp3 _) (by decide) rfl rfl ?_
      refine Ru.op (q := (.iload_n 2, 1)) (S' := (115, _, _, _, _)) (by decide +kernel) rfl ?_
      refine Ru.ildI (pc' := 116) (i := v2) (z := (o3.2.A 8 v2)) (by decide +kernel) (hp8 _) g7 (eI_of _) rfl ?_
      refine Ru.op (q := (.aload_n 0, 1)) (S' := (117, _, _, _, _)) (by decide +kernel) rfl ?_
      refine Ru.getR (pc' := 120) (i := 24) (ci := 2) (k := 4) (nn := 0) (z := 0) (v := .ref 8) (by decide +kernel) (by decide +kernel) (hp3 _) (by decide) rfl rfl ?_
      refine Ru.op (q := (.iload_n 3, 1)) (S' := (121, _, _, _, _)) (by decide +kernel) rfl ?_
      refine Ru.ildI (pc' := 122) (i := v3) (z := (o3.2.A 8 v3)) (by decide +kernel) (hp8 _) g8 (eI_of _) rfl ?_
      refine Ru.ar2 (i := .iadd) (z := ((o3.2.A 8 v2) + (o3.2.A 8 v3))) (pc' := 123) (by decide +kernel) rfl (ar_add _ _) rfl ?_
      refine Ru.istI (pc' := 124) (i := o3.1) (x := ((o3.2.A 8 v2) + (o3.2.A 8 v3))) (by decide +kernel) (hp8 _) g11 (ps_8 _ _ _) rfl ?_
      refine Ru.op (q := (.iload 4, 2)) (S' := (126, _, _, _, _)) (by decide +kernel) rfl ?_
      cases h
      exact Ru.iret (by decide +kernel) rfl rfl
  · replace h := if_f b2 h
    refine Ru.br (k := .eq) (off := 7) (bb := false) (tg := 5) (by decide +kernel) (by decide +kernel) (cz (ci_eq0 g1 (by decide) b2)) rfl ?_
    refine Ru.kI (q := (.iconst 1, 1)) (c := 1) (pc' := 6) (by decide +kernel) rfl (by decide) rfl ?_
    refine Ru.op (q := (.goto 4, 3)) (S' := (10, _, _, _, _)) (by decide +kernel) rfl ?_
    refine Ru.op (q := (.iload_n 2, 1)) (S' := (11, _, _, _, _)) (by decide +kernel) rfl ?_
    refine Ru.op (q := (.iload_n 3, 1)) (S' := (12, _, _, _, _)) (by decide +kernel) rfl ?_
    obtain ⟨o12, e13, h⟩ := ob_some h
    refine Ru.vcallI (pc' := 15) (st' := [vI o12.1]) (i := 37) (j2 := 33) (ci := 2) (k := 0) (z := 0) (as := [vI 1, vI v2, vI v3]) (by decide +kernel) (by decide +kernel) rfl rfl (hp3 _) (by decide) ⟨(Nat.le_of_ble_eq_true rfl), (by show 19 + 4 ≤ 223; exact Nat.le_of_ble_eq_true rfl), Nat.le_of_ble_eq_true rfl, Nat.le_of_ble_eq_true rfl⟩ ((g33_ok e13).up (Nat.le_of_ble_eq_true rfl) (Nat.le_of_ble_eq_true rfl)) rfl rfl ?_
    refine Ru.op (q := (.istore 4, 2)) (S' := (17, [some (.ref 3), some (vI v1), some (vI v2), some (vI v3), some (vI o12.1)], [], _, _)) (by decide +kernel) rfl ?_
    refine Ru.op (q := (.iload 4, 2)) (S' := (19, _, _, _, _)) (by decide +kernel) rfl ?_
    refine Ru.kI (q := (.iconst (-1), 1)) (c := (-1)) (pc' := 20) (by decide +kernel) rfl (by decide) rfl ?_
    obtain ⟨g14, h⟩ := gd_some h
    by_cases b15 : o12.1 = (-1)
    · replace h := if_t b15 h
      refine Ru.br2 (k := .eq) (off := 55) (bb := true) (tg := 75) (by decide +kernel) (by decide +kernel) (ci_eq1 g14 (by decide) b15) rfl ?_
      refine Ru.op (q := (.iload 4, 2)) (S' := (77, _, _, _, _)) (by decide +kernel) rfl ?_
      refine Ru.kI (q := (.iconst (-1), 1)) (c := (-1)) (pc' := 78) (by decide +kernel) rfl (by decide) rfl ?_
      refine Ru.br2 (k := .eq) (off := 46) (bb := true) (tg := 124) (by decide +kernel) (by decide +kernel) (ci_eq1 g14 (by decide) b15) rfl ?_
      refine Ru.op (q := (.iload 4, 2)) (S' := (126, _, _, _, _)) (by decide +kernel) rfl ?_
      cases h
      exact Ru.iret (by decide +kernel) rfl rfl
    · replace h := if_f b15 h
      refine Ru.br2 (k := .eq) (off := 55) (bb := false) (tg := 23) (by decide +kernel) (by decide +kernel) (ci_eq0 g14 (by decide) b15) rfl ?_
      refine Ru.op (q := (.iload_n 1, 1)) (S' := (24, _, _, _, _)) (by decide +kernel) rfl ?_
      refine Ru.br (k := .eq) (off := 51) (bb := false) (tg := 27) (by decide +kernel) (by decide +kernel) (cz (ci_eq0 g1 (by decide) b2)) rfl ?_
      refine Ru.op (q := (.aload_n 0, 1)) (S' := (28, _, _, _, _)) (by decide +kernel) rfl ?_
      refine Ru.getR (pc' := 31) (i := 21) (ci := 2) (k := 3) (nn := 0) (z := 0) (v := .ref 7) (by decide +kernel) (by decide +kernel) (hp3 _) (by decide) rfl rfl ?_
      refine Ru.op (q := (.iload 4, 2)) (S' := (33, _, _, _, _)) (by decide +kernel) rfl ?_
      refine Ru.op (q := (.aload_n 0, 1)) (S' := (34, _, _, _, _)) (by decide +kernel) rfl ?_
      refine Ru.getR (pc' := 37) (i := 21) (ci := 2) (k := 3) (nn := 0) (z := 0) (v := .ref 7) (by decide +kernel) (by decide +kernel) (hp3 _) (by decide) rfl rfl ?_
      refine Ru.op (q := (.iload_n 2, 1)) (S' := (38, _, _, _, _)) (by decide +kernel) rfl ?_
      obtain ⟨g16, h⟩ := gd_some h
      refine Ru.ildI (pc' := 39) (i := v2) (z := (o12.2.A 7 v2)) (by decide +kernel) (hp7 _) g16 (eI_of _) rfl ?_
      refine Ru.op (q := (.aload_n 0, 1)) (S' := (40, _, _, _, _)) (by decide +kernel) rfl ?_
      refine Ru.getR (pc' := 43) (i := 21) (ci := 2) (k := 3) (nn := 0) (z := 0) (v := .ref 7) (by decide +kernel) (by decide +kernel) (hp3 _) (by decide) rfl rfl ?_
      refine Ru.op (q := (.iload_n 3, 1)) (S' := (44, _, _, _, _)) (by decide +kernel) rfl ?_
      obtain ⟨g17, h⟩ := gd_some h
      refine Ru.ildI (pc' := 45) (i := v3) (z := (o12.2.A 7 v3)) (by decide +kernel) (hp7 _) g17 (eI_of _) rfl ?_
      refine Ru.ar2 (i := .iadd) (z := ((o12.2.A 7 v2) + (o12.2.A 7 v3))) (pc' := 46) (by decide +kernel) rfl (ar_add _ _) rfl ?_
      obtain ⟨o18, e19, h⟩ := ob_some h
      refine Ru.callI (pc' := 49) (q := (.invokestatic 41, 3)) (j2 := 36) (as := [vI ((o12.2.A 7 v2) + (o12.2.A 7 v3))]) (st' := [vI o18, vI o12.1, .ref 7]) (by decide +kernel) rfl rfl rfl rfl ⟨(Nat.le_of_ble_eq_true rfl), (by show 19 + 1 ≤ 223; exact Nat.le_of_ble_eq_true rfl), Nat.le_of_ble_eq_true rfl, Nat.le_of_ble_eq_true rfl⟩ ((g36_ok e19).up (Nat.le_of_ble_eq_true rfl) (Nat.le_of_ble_eq_true rfl)) rfl rfl ?_
      obtain ⟨g20, h⟩ := gd_some h
      refine Ru.istI (pc' := 50) (i := o12.1) (x := o18) (by decide +kernel) (hp7 _) g20 (ps_7 _ _ _) rfl ?_
      refine Ru.op (q := (.aload_n 0, 1)) (S' := (51, _, _, _, _)) (by decide +kernel) rfl ?_
      refine Ru.getR (pc' := 54) (i := 24) (ci := 2) (k := 4) (nn := 0) (z := 0) (v := .ref 8) (by decide +kernel) (by decide +kernel) (hp3 _) (by decide) rfl rfl ?_
      refine Ru.op (q := (.iload 4, 2)) (S' := (56, _, _, _, _)) (by decide +kernel) rfl ?_
      refine Ru.op (q := (.aload_n 0, 1)) (S' := (57, _, _, _, _)) (by decide +kernel) rfl ?_
      refine Ru.getR (pc' := 60) (i := 24) (ci := 2) (k := 4) (nn := 0) (z := 0) (v := .ref 8) (by decide +kernel) (by decide +kernel) (hp3 _) (by decide) rfl rfl ?_
      refine Ru.op (q := (.iload_n 2, 1)) (S' := (61, _, _, _, _)) (by decide +kernel) rfl ?_
      refine Ru.ildI (pc' := 62) (i := v2) (z := (o12.2.A 8 v2)) (by decide +kernel) (hp8 _) g16 (eI_of _) rfl ?_
      refine Ru.op (q := (.aload_n 0, 1)) (S' := (63, _, _, _, _)) (by decide +kernel) rfl ?_
      refine Ru.getR (pc' := 66) (i := 24) (ci := 2) (k := 4) (nn := 0) (z := 0) (v := .ref 8) (by decide +kernel) (by decide +kernel) (hp3 _) (by decide) rfl rfl ?_
      refine Ru.op (q := (.iload_n 3, 1)) (S' := (67, _, _, _, _)) (by decide +kernel) rfl ?_
      refine Ru.ildI (pc' := 68) (i := v3) (z := (o12.2.A 8 v3)) (by decide +kernel) (hp8 _) g17 (eI_of _) rfl ?_
      refine Ru.maxI (pc' := 71) (i := 45) (k := (0, 0, 0, 0, 0)) (by decide +kernel) (by rfl) (inR_to _) (inR_to _) (Nat.le_of_ble_eq_true rfl) (by show 2 + 13 ≤ 223; exact Nat.le_of_ble_eq_true rfl) rfl ?_
      refine Ru.istI (pc' := 72) (i := o12.1) (x := (max (o12.2.A 8 v2) (o12.2.A 8 v3))) (by decide +kernel) (hp8 _) g20 (ps_8 _ _ _) rfl ?_
      refine Ru.op (q := (.goto 52, 3)) (S' := (124, _, _, _, _)) (by decide +kernel) rfl ?_
      refine Ru.op (q := (.iload 4, 2)) (S' := (126, _, _, _, _)) (by decide +kernel) rfl ?_
      cases h
      exact Ru.iret (by decide +kernel) rfl rfl
