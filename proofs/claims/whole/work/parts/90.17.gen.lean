set_option maxRecDepth 100000 in
set_option maxHeartbeats 4000000 in
theorem g122_ok {S : St} {v0 : Int} {o : Int} (h : g122 S v0 = some o) : Ru none 10 200 122 (0, mn_pad (mn_ent [vI v0]) 1, [], S.ns, Hp S) ((0, some (vI o)), S.ns, Hp S) := by
  unfold g122 at h
  show Ru none 10 200 122 (0, [some (vI v0)], [], S.ns, Hp S) _
  refine Ru.op (q := (.iload_n 0, 1)) (S' := (1, _, _, _, _)) (by decide +kernel) rfl ?_
  refine Ru.kI (q := (.sipush 4096, 3)) (c := 4096) (pc' := 4) (by decide +kernel) rfl (by decide) rfl ?_
  obtain ⟨g1, h⟩ := gd_some h
  by_cases b2 : v0 < 4096
  · replace h := if_t b2 h
    refine Ru.br2 (k := .ge) (off := 7) (bb := false) (tg := 7) (by decide +kernel) (by decide +kernel) (ci_ge0 g1 (by decide) b2) rfl ?_
    refine Ru.kI (q := (.iconst 1, 1)) (c := 1) (pc' := 8) (by decide +kernel) rfl (by decide) rfl ?_
    refine Ru.op (q := (.goto 4, 3)) (S' := (12, _, _, _, _)) (by decide +kernel) rfl ?_
    cases h
    exact Ru.iret (by decide +kernel) rfl (nar_b1 (by decide))
  · replace h := if_f b2 h
    refine Ru.br2 (k := .ge) (off := 7) (bb := true) (tg := 11) (by decide +kernel) (by decide +kernel) (ci_ge1 g1 (by decide) b2) rfl ?_
    refine Ru.kI (q := (.iconst 0, 1)) (c := 0) (pc' := 12) (by decide +kernel) rfl (by decide) rfl ?_
    cases h
    exact Ru.iret (by decide +kernel) rfl (nar_b1 (by decide))
set_option maxRecDepth 100000 in
set_option maxHeartbeats 4000000 in
theorem g121L2_ok {S : St} : ∀ (n : Nat) (v2 : Int) (d1 : Option Value) (_ : DD [d1]) (out : Int), g121L2 S n v2 = some out → ∀ r, (∀ (e0 e1 : Option Value), DD [e0, e1] → Ru none 11 220 121 (43, [e0, e1, some (vI out)], [], S.ns, Hp S) r) → Ru none 11 220 121 (2, [some (.ref 36), d1, some (vI v2)], [], S.ns, Hp S) r := by
  intro n
  induction n with
  | zero => intro v2 d1 hdd out h; cases h
  | succ n ih =>
    intro v2 d1 hdd out h r hk
    unfold g121L2 at h
    refine Ru.op (q := (.aload_n 0, 1)) (S' := (3, _, _, _, _)) (by decide +kernel) rfl ?_
    refine Ru.getR (pc' := 6) (i := 45) (ci := 10) (k := 21) (nn := 0) (z := 0) (v := .ref 46) (by decide +kernel) (by decide +kernel) (hp36 _) (by decide) rfl rfl ?_
    refine Ru.op (q := (.iload_n 2, 1)) (S' := (7, _, _, _, _)) (by decide +kernel) rfl ?_
    obtain ⟨g1, h⟩ := gd_some h
    refine Ru.ildI (pc' := 8) (i := v2) (z := (S.A 46 v2)) (by decide +kernel) (hp46 _) g1 (eI_of _) rfl ?_
    obtain ⟨o2, e3, h⟩ := ob_some h
    refine Ru.callI (pc' := 11) (q := (.invokestatic 132, 3)) (j2 := 122) (as := [vI (S.A 46 v2)]) (st' := [vI o2]) (by decide +kernel) rfl rfl rfl rfl ⟨(Nat.le_of_ble_eq_true rfl), (by show 19 + 1 ≤ 220; exact Nat.le_of_ble_eq_true rfl), Nat.le_of_ble_eq_true rfl, Nat.le_of_ble_eq_true rfl⟩ ((g122_ok e3).up (Nat.le_of_ble_eq_true rfl) (Nat.le_of_ble_eq_true rfl)) rfl rfl ?_
    obtain ⟨g4, h⟩ := gd_some h
    by_cases b5 : o2 = 0
    · replace h := if_t b5 h
      refine Ru.br (k := .eq) (off := 32) (bb := true) (tg := 43) (by decide +kernel) (by decide +kernel) (cz (ci_eq1 g4 (by decide) b5)) rfl ?_
      cases h
      exact hk _ _ ⟨rfl, hdd.1, trivial⟩
    · replace h := if_f b5 h
      refine Ru.br (k := .eq) (off := 32) (bb := false) (tg := 14) (by decide +kernel) (by decide +kernel) (cz (ci_eq0 g4 (by decide) b5)) rfl ?_
      refine Ru.op (q := (.aload_n 0, 1)) (S' := (15, _, _, _, _)) (by decide +kernel) rfl ?_
      refine Ru.getR (pc' := 18) (i := 48) (ci := 10) (k := 23) (nn := 0) (z := 0) (v := .ref 47) (by decide +kernel) (by decide +kernel) (hp36 _) (by decide) rfl rfl ?_
      refine Ru.op (q := (.aload_n 0, 1)) (S' := (19, _, _, _, _)) (by decide +kernel) rfl ?_
      refine Ru.getR (pc' := 22) (i := 45) (ci := 10) (k := 21) (nn := 0) (z := 0) (v := .ref 46) (by decide +kernel) (by decide +kernel) (hp36 _) (by decide) rfl rfl ?_
      refine Ru.op (q := (.iload_n 2, 1)) (S' := (23, _, _, _, _)) (by decide +kernel) rfl ?_
      refine Ru.ildI (pc' := 24) (i := v2) (z := (S.A 46 v2)) (by decide +kernel) (hp46 _) g1 (eI_of _) rfl ?_
      obtain ⟨g6, h⟩ := gd_some h
      refine Ru.ildI (pc' := 25) (i := (S.A 46 v2)) (z := (S.A 47 (S.A 46 v2))) (by decide +kernel) (hp47 _) g6 (eI_of _) rfl ?_
      by_cases b7 : (S.A 47 (S.A 46 v2)) < 0
      · replace h := if_t b7 h
        refine Ru.br (k := .lt) (off := 18) (bb := true) (tg := 43) (by decide +kernel) (by decide +kernel) (cz (ci_lt1 (inR_to _) (by decide) b7)) rfl ?_
        cases h
        exact hk _ _ ⟨rfl, hdd.1, trivial⟩
      · replace h := if_f b7 h
        refine Ru.br (k := .lt) (off := 18) (bb := false) (tg := 28) (by decide +kernel) (by decide +kernel) (cz (ci_lt0 (inR_to _) (by decide) b7)) rfl ?_
        refine Ru.op (q := (.aload_n 0, 1)) (S' := (29, _, _, _, _)) (by decide +kernel) rfl ?_
        refine Ru.getR (pc' := 32) (i := 48) (ci := 10) (k := 23) (nn := 0) (z := 0) (v := .ref 47) (by decide +kernel) (by decide +kernel) (hp36 _) (by decide) rfl rfl ?_
        refine Ru.op (q := (.aload_n 0, 1)) (S' := (33, _, _, _, _)) (by decide +kernel) rfl ?_
        refine Ru.getR (pc' := 36) (i := 45) (ci := 10) (k := 21) (nn := 0) (z := 0) (v := .ref 46) (by decide +kernel) (by decide +kernel) (hp36 _) (by decide) rfl rfl ?_
        refine Ru.op (q := (.iload_n 2, 1)) (S' := (37, _, _, _, _)) (by decide +kernel) rfl ?_
        refine Ru.ildI (pc' := 38) (i := v2) (z := (S.A 46 v2)) (by decide +kernel) (hp46 _) g1 (eI_of _) rfl ?_
        refine Ru.ildI (pc' := 39) (i := (S.A 46 v2)) (z := (S.A 47 (S.A 46 v2))) (by decide +kernel) (hp47 _) g6 (eI_of _) rfl ?_
        refine Ru.op (q := (.istore_n 2, 1)) (S' := (40, [some (.ref 36), d1, some (vI (S.A 47 (S.A 46 v2)))], [], _, _)) (by decide +kernel) (st_in (mn_st1_D (Nat.le_of_ble_eq_true rfl) hdd.1 rfl)) ?_
        refine Ru.op (q := (.goto (-38), 3)) (S' := (2, _, _, _, _)) (by decide +kernel) rfl ?_
        exact ih _ _ ⟨hdd.1, trivial⟩ _ h r hk
set_option maxRecDepth 100000 in
set_option maxHeartbeats 4000000 in
theorem g121_ok {S : St} {v1 : Int} {o : Int} (h : g121 S v1 = some o) : Ru none 11 220 121 (0, mn_pad (mn_ent [.ref 36, vI v1]) 3, [], S.ns, Hp S) ((0, some (vI o)), S.ns, Hp S) := by
  unfold g121 at h
  show Ru none 11 220 121 (0, [some (.ref 36), some (vI v1), none], [], S.ns, Hp S) _
  refine Ru.op (q := (.iload_n 1, 1)) (S' := (1, _, _, _, _)) (by decide +kernel) rfl ?_
  refine Ru.op (q := (.istore_n 2, 1)) (S' := (2, [some (.ref 36), some (vI v1), some (vI v1)], [], _, _)) (by decide +kernel) rfl ?_
  obtain ⟨o8, e11, h⟩ := ob_some h
  refine g121L2_ok FU _ _ ⟨rfl, trivial⟩ _ e11 _ ?_
  intro d9 d10 hd12
  refine Ru.op (q := (.iload_n 2, 1)) (S' := (44, _, _, _, _)) (by decide +kernel) rfl ?_
  cases h
  exact Ru.iret (by decide +kernel) rfl rfl
set_option maxRecDepth 100000 in
set_option maxHeartbeats 4000000 in
theorem g123_ok {S : St} {v0 : Int} {o : Int} (h : g123 S v0 = some o) : Ru none 11 220 123 (0, mn_pad (mn_ent [vI v0]) 1, [], S.ns, Hp S) ((0, some (vI o)), S.ns, Hp S) := by
  unfold g123 at h
  show Ru none 11 220 123 (0, [some (vI v0)], [], S.ns, Hp S) _
  refine Ru.op (q := (.iload_n 0, 1)) (S' := (1, _, _, _, _)) (by decide +kernel) rfl ?_
  obtain ⟨o1, e2, h⟩ := ob_some h
  refine Ru.callI (pc' := 4) (q := (.invokestatic 132, 3)) (j2 := 122) (as := [vI v0]) (st' := [vI o1]) (by decide +kernel) rfl rfl rfl rfl ⟨(Nat.le_of_ble_eq_true rfl), (by show 19 + 1 ≤ 220; exact Nat.le_of_ble_eq_true rfl), Nat.le_of_ble_eq_true rfl, Nat.le_of_ble_eq_true rfl⟩ ((g122_ok e2).up (Nat.le_of_ble_eq_true rfl) (Nat.le_of_ble_eq_true rfl)) rfl rfl ?_
  obtain ⟨g3, h⟩ := gd_some h
  by_cases b4 : o1 = 0
  · replace h := if_t b4 h
    refine Ru.br (k := .eq) (off := 7) (bb := true) (tg := 11) (by decide +kernel) (by decide +kernel) (cz (ci_eq1 g3 (by decide) b4)) rfl ?_
    refine Ru.op (q := (.iload_n 0, 1)) (S' := (12, _, _, _, _)) (by decide +kernel) rfl ?_
    refine Ru.kI (q := (.sipush 128, 3)) (c := 128) (pc' := 15) (by decide +kernel) rfl (by decide) rfl ?_
    obtain ⟨g5, h⟩ := gd_some h
    refine Ru.ar2 (i := .irem) (z := (v0 % 128)) (pc' := 16) (by decide +kernel) rfl (ar_rem g5) rfl ?_
    cases h
    exact Ru.iret (by decide +kernel) rfl rfl
  · replace h := if_f b4 h
    refine Ru.br (k := .eq) (off := 7) (bb := false) (tg := 7) (by decide +kernel) (by decide +kernel) (cz (ci_eq0 g3 (by decide) b4)) rfl ?_
    refine Ru.kI (q := (.iconst 0, 1)) (c := 0) (pc' := 8) (by decide +kernel) rfl (by decide) rfl ?_
    refine Ru.op (q := (.goto 8, 3)) (S' := (16, _, _, _, _)) (by decide +kernel) rfl ?_
    cases h
    exact Ru.iret (by decide +kernel) rfl rfl
set_option maxRecDepth 100000 in
set_option maxHeartbeats 4000000 in
theorem g125L4_ok {S : St} {v0 : Nat} : ∀ (n : Nat) (v2 : Int) (v3 : Int) (d1 : Option Value) (_ : DD [d1]) (out : Int), g125L4 S v0 n v2 v3 = some out → ∀ r, (∀ (e0 e1 e2 : Option Value), DD [e0, e1, e2] → Ru none 12 240 125 (25, [e0, e1, e2, some (vI out)], [], S.ns, Hp S) r) → Ru none 12 240 125 (4, [some (.ref v0), d1, some (vI v2), some (vI v3)], [], S.ns, Hp S) r := by
  intro n
  induction n with
  | zero => intro v2 v3 d1 hdd out h; cases h
  | succ n ih =>
    intro v2 v3 d1 hdd out h r hk
    unfold g125L4 at h
    refine Ru.op (q := (.iload_n 2, 1)) (S' := (5, _, _, _, _)) (by decide +kernel) rfl ?_
    obtain ⟨g1, h⟩ := gd_some h
    by_cases b2 : 0 < v2
    · replace h := if_t b2 h
      refine Ru.br (k := .le) (off := 20) (bb := false) (tg := 8) (by decide +kernel) (by decide +kernel) (cz (ci_le0 g1 (by decide) b2)) rfl ?_
      refine Ru.op (q := (.iload_n 2, 1)) (S' := (9, _, _, _, _)) (by decide +kernel) rfl ?_
      refine Ru.kI (q := (.iconst 1, 1)) (c := 1) (pc' := 10) (by decide +kernel) rfl (by decide) rfl ?_
      refine Ru.ar2 (i := .isub) (z := (v2 - 1)) (pc' := 11) (by decide +kernel) rfl (ar_sub _ _) rfl ?_
      refine Ru.op (q := (.aload_n 0, 1)) (S' := (12, _, _, _, _)) (by decide +kernel) rfl ?_
      refine Ru.op (q := (.iload_n 3, 1)) (S' := (13, _, _, _, _)) (by decide +kernel) rfl ?_
      obtain ⟨N3, f4, e5, q6, h⟩ := gA_some h
      obtain ⟨g7, h⟩ := gd_some h
      refine Ru.ildI (pc' := 14) (i := v3) (z := (f4 v3)) (by decide +kernel) q6 g7 rfl rfl ?_
      obtain ⟨o8, e9, h⟩ := ob_some h
      refine Ru.callI (pc' := 17) (q := (.invokestatic 136, 3)) (j2 := 123) (as := [vI (f4 v3)]) (st' := [vI o8, vI (v2 - 1)]) (by decide +kernel) rfl rfl rfl rfl ⟨(Nat.le_of_ble_eq_true rfl), (by show 19 + 1 ≤ 240; exact Nat.le_of_ble_eq_true rfl), Nat.le_of_ble_eq_true rfl, Nat.le_of_ble_eq_true rfl⟩ ((g123_ok e9).up (Nat.le_of_ble_eq_true rfl) (Nat.le_of_ble_eq_true rfl)) rfl rfl ?_
      refine Ru.ar2 (i := .iadd) (z := ((v2 - 1) + o8)) (pc' := 18) (by decide +kernel) rfl (ar_add _ _) rfl ?_
      refine Ru.op (q := (.istore_n 2, 1)) (S' := (19, [some (.ref v0), d1, some (vI ((v2 - 1) + o8)), some (vI v3)], [], _, _)) (by decide +kernel) (st_in (mn_st1_D (Nat.le_of_ble_eq_true rfl) hdd.1 rfl)) ?_
      refine Ru.inc (k := 3) (n := 1) (x := v3) (z := (v3 + 1)) (xs' := [some (.ref v0), d1, some (vI ((v2 - 1) + o8)), some (vI (v3 + 1))]) (pc' := 22) (by decide +kernel) rfl rfl rfl rfl ?_
      refine Ru.op (q := (.goto (-18), 3)) (S' := (4, _, _, _, _)) (by decide +kernel) rfl ?_
      exact ih _ _ _ ⟨hdd.1, trivial⟩ _ h r hk
    · replace h := if_f b2 h
      refine Ru.br (k := .le) (off := 20) (bb := true) (tg := 25) (by decide +kernel) (by decide +kernel) (cz (ci_le1 g1 (by decide) b2)) rfl ?_
      cases h
      exact hk _ _ _ ⟨rfl, hdd.1, rfl, trivial⟩
set_option maxRecDepth 100000 in
set_option maxHeartbeats 4000000 in
theorem g125_ok {S : St} {v0 : Nat} {v1 : Int} {o : Int} (h : g125 S v0 v1 = some o) : Ru none 12 240 125 (0, mn_pad (mn_ent [.ref v0, vI v1]) 4, [], S.ns, Hp S) ((0, some (vI o)), S.ns, Hp S) := by
  unfold g125 at h
  show Ru none 12 240 125 (0, [some (.ref v0), some (vI v1), none, none], [], S.ns, Hp S) _
  refine Ru.kI (q := (.iconst 1, 1)) (c := 1) (pc' := 1) (by decide +kernel) rfl (by decide) rfl ?_
  refine Ru.op (q := (.istore_n 2, 1)) (S' := (2, [some (.ref v0), some (vI v1), some (vI 1), none], [], _, _)) (by decide +kernel) rfl ?_
  refine Ru.op (q := (.iload_n 1, 1)) (S' := (3, _, _, _, _)) (by decide +kernel) rfl ?_
  refine Ru.op (q := (.istore_n 3, 1)) (S' := (4, [some (.ref v0), some (vI v1), some (vI 1), some (vI v1)], [], _, _)) (by decide +kernel) rfl ?_
  obtain ⟨o10, e14, h⟩ := ob_some h
  refine g125L4_ok FU _ _ _ ⟨rfl, trivial⟩ _ e14 _ ?_
  intro d11 d12 d13 hd15
  refine Ru.op (q := (.iload_n 3, 1)) (S' := (26, _, _, _, _)) (by decide +kernel) rfl ?_
  cases h
  exact Ru.iret (by decide +kernel) rfl rfl
set_option maxRecDepth 100000 in
set_option maxHeartbeats 4000000 in
theorem g124L7_ok {S : St} {v2 : Int} : ∀ (n : Nat) (v3 : Int) (v4 : Int) (d1 : Option Value) (_ : DD [d1]) (out : Int), g124L7 S v2 n v3 v4 = some out → ∀ r, (∀ (e0 e1 e2 e4 : Option Value), DD [e0, e1, e2, e4] → Ru none 13 263 124 (28, [e0, e1, e2, some (vI out), e4], [], S.ns, Hp S) r) → Ru none 13 263 124 (7, [some (.ref 36), d1, some (vI v2), some (vI v3), some (vI v4)], [], S.ns, Hp S) r := by
  intro n
  induction n with
  | zero => intro v3 v4 d1 hdd out h; cases h
  | succ n ih =>
    intro v3 v4 d1 hdd out h r hk
    unfold g124L7 at h
    refine Ru.op (q := (.iload 4, 2)) (S' := (9, _, _, _, _)) (by decide +kernel) rfl ?_
    refine Ru.op (q := (.iload_n 2, 1)) (S' := (10, _, _, _, _)) (by decide +kernel) rfl ?_
    obtain ⟨g1, h⟩ := gd_some h
    obtain ⟨g2, h⟩ := gd_some h
    by_cases b3 : v4 < v2
    · replace h := if_t b3 h
      refine Ru.br2 (k := .ge) (off := 18) (bb := false) (tg := 13) (by decide +kernel) (by decide +kernel) (ci_ge0 g1 g2 b3) rfl ?_
      refine Ru.op (q := (.aload_n 0, 1)) (S' := (14, _, _, _, _)) (by decide +kernel) rfl ?_
      refine Ru.getR (pc' := 17) (i := 45) (ci := 10) (k := 21) (nn := 0) (z := 0) (v := .ref 46) (by decide +kernel) (by decide +kernel) (hp36 _) (by decide) rfl rfl ?_
      refine Ru.op (q := (.iload_n 3, 1)) (S' := (18, _, _, _, _)) (by decide +kernel) rfl ?_
      obtain ⟨o4, e5, h⟩ := ob_some h
      refine Ru.callI (pc' := 21) (q := (.invokestatic 233, 3)) (j2 := 125) (as := [.ref 46, vI v3]) (st' := [vI o4]) (by decide +kernel) rfl rfl rfl rfl ⟨(Nat.le_of_ble_eq_true rfl), (by show 19 + 4 ≤ 263; exact Nat.le_of_ble_eq_true rfl), Nat.le_of_ble_eq_true rfl, Nat.le_of_ble_eq_true rfl⟩ ((g125_ok e5).up (Nat.le_of_ble_eq_true rfl) (Nat.le_of_ble_eq_true rfl)) rfl rfl ?_
      refine Ru.op (q := (.istore_n 3, 1)) (S' := (22, [some (.ref 36), d1, some (vI v2), some (vI o4), some (vI v4)], [], _, _)) (by decide +kernel) rfl ?_
      refine Ru.inc (k := 4) (n := 1) (x := v4) (z := (v4 + 1)) (xs' := [some (.ref 36), d1, some (vI v2), some (vI o4), some (vI (v4 + 1))]) (pc' := 25) (by decide +kernel) rfl rfl rfl rfl ?_
      refine Ru.op (q := (.goto (-18), 3)) (S' := (7, _, _, _, _)) (by decide +kernel) rfl ?_
      exact ih _ _ _ ⟨hdd.1, trivial⟩ _ h r hk
    · replace h := if_f b3 h
      refine Ru.br2 (k := .ge) (off := 18) (bb := true) (tg := 28) (by decide +kernel) (by decide +kernel) (ci_ge1 g1 g2 b3) rfl ?_
      cases h
      exact hk _ _ _ _ ⟨rfl, hdd.1, rfl, rfl, trivial⟩
set_option maxRecDepth 100000 in
set_option maxHeartbeats 4000000 in
theorem g124_ok {S : St} {v1 : Int} {v2 : Int} {o : Int} (h : g124 S v1 v2 = some o) : Ru none 13 263 124 (0, mn_pad (mn_ent [.ref 36, vI v1, vI v2]) 5, [], S.ns, Hp S) ((0, some (vI o)), S.ns, Hp S) := by
  unfold g124 at h
  show Ru none 13 263 124 (0, [some (.ref 36), some (vI v1), some (vI v2), none, none], [], S.ns, Hp S) _
  refine Ru.op (q := (.iload_n 1, 1)) (S' := (1, _, _, _, _)) (by decide +kernel) rfl ?_
  refine Ru.kI (q := (.iconst 1, 1)) (c := 1) (pc' := 2) (by decide +kernel) rfl (by decide) rfl ?_
  refine Ru.ar2 (i := .iadd) (z := (v1 + 1)) (pc' := 3) (by decide +kernel) rfl (ar_add _ _) rfl ?_
  refine Ru.op (q := (.istore_n 3, 1)) (S' := (4, [some (.ref 36), some (vI v1), some (vI v2), some (vI (v1 + 1)), none], [], _, _)) (by decide +kernel) rfl ?_
  refine Ru.kI (q := (.iconst 0, 1)) (c := 0) (pc' := 5) (by decide +kernel) rfl (by decide) rfl ?_
  refine Ru.op (q := (.istore 4, 2)) (S' := (7, [some (.ref 36), some (vI v1), some (vI v2), some (vI (v1 + 1)), some (vI 0)], [], _, _)) (by decide +kernel) rfl ?_
  obtain ⟨o6, e11, h⟩ := ob_some h
  refine g124L7_ok FU _ _ _ ⟨rfl, trivial⟩ _ e11 _ ?_
  intro d7 d8 d9 d10 hd12
  refine Ru.op (q := (.iload_n 3, 1)) (S' := (29, _, _, _, _)) (by decide +kernel) rfl ?_
  cases h
  exact Ru.iret (by decide +kernel) rfl rfl
set_option maxRecDepth 100000 in
set_option maxHeartbeats 4000000 in
theorem g120L85_ok {v3 : Int} {v4 : Int} {v6 : Int} : ∀ (n : Nat) (v5 : Int) (v8 : Int) (S : St) (d1 d2 d7 : Option Value) (_ : DD [d1, d2, d7]) (out : Int × St), g120L85 v3 v4 v6 n v5 v8 S = some out → ∀ r, (∀ (e1 e2 e6 e7 e8 : Option Value), DD [e1, e2, e6, e7, e8] → Ru none 14 287 120 (114, [some (.ref 36), e1, e2, some (vI v3), some (vI v4), some (vI out.1), e6, e7, e8], [], out.2.ns, Hp out.2) r) → Ru none 14 287 120 (85, [some (.ref 36), d1, d2, some (vI v3), some (vI v4), some (vI v5), some (vI v6), d7, some (vI v8)], [], S.ns, Hp S) r := by
  intro n
  induction n with
  | zero => intro v5 v8 S d1 d2 d7 hdd out h; cases h
  | succ n ih =>
    intro v5 v8 S d1 d2 d7 hdd out h r hk
    unfold g120L85 at h
    refine Ru.op (q := (.iload 8, 2)) (S' := (87, _, _, _, _)) (by decide +kernel) rfl ?_
    obtain ⟨g13, h⟩ := gd_some h
    by_cases b14 : v8 < 0
    · replace h := if_t b14 h
      refine Ru.br (k := .lt) (off := 27) (bb := true) (tg := 114) (by decide +kernel) (by decide +kernel) (cz (ci_lt1 g13 (by decide) b14)) rfl ?_
      cases h
      exact hk _ _ _ _ _ ⟨hdd.1, hdd.2.1, rfl, hdd.2.2.1, rfl, trivial⟩
    · replace h := if_f b14 h
      refine Ru.br (k := .lt) (off := 27) (bb := false) (tg := 90) (by decide +kernel) (by decide +kernel) (cz (ci_lt0 g13 (by decide) b14)) rfl ?_
      refine Ru.inc (k := 5) (n := 1) (x := v5) (z := (v5 + 1)) (xs' := [some (.ref 36), d1, d2, some (vI v3), some (vI v4), some (vI (v5 + 1)), some (vI v6), d7, some (vI v8)]) (pc' := 93) (by decide +kernel) rfl rfl rfl rfl ?_
      refine Ru.op (q := (.aload_n 0, 1)) (S' := (94, _, _, _, _)) (by decide +kernel) rfl ?_
      refine Ru.getR (pc' := 97) (i := 102) (ci := 10) (k := 52) (nn := 0) (z := 0) (v := .ref 65) (by decide +kernel) (by decide +kernel) (hp36 _) (by decide) rfl rfl ?_
      refine Ru.op (q := (.iload 5, 2)) (S' := (99, _, _, _, _)) (by decide +kernel) rfl ?_
      refine Ru.op (q := (.aload_n 0, 1)) (S' := (100, _, _, _, _)) (by decide +kernel) rfl ?_
      refine Ru.op (q := (.iload 6, 2)) (S' := (102, _, _, _, _)) (by decide +kernel) rfl ?_
      refine Ru.op (q := (.iload 8, 2)) (S' := (104, _, _, _, _)) (by decide +kernel) rfl ?_
      obtain ⟨o15, e16, h⟩ := ob_some h
      refine Ru.vcallI (pc' := 107) (st' := [vI o15, vI (v5 + 1), .ref 65]) (i := 240) (j2 := 124) (ci := 10) (k := 0) (z := 0) (as := [vI v6, vI v8]) (by decide +kernel) (by decide +kernel) rfl rfl (hp36 _) (by decide) ⟨(Nat.le_of_ble_eq_true rfl), (by show 19 + 5 ≤ 287; exact Nat.le_of_ble_eq_true rfl), Nat.le_of_ble_eq_true rfl, Nat.le_of_ble_eq_true rfl⟩ ((g124_ok e16).up (Nat.le_of_ble_eq_true rfl) (Nat.le_of_ble_eq_true rfl)) rfl rfl ?_
      obtain ⟨g17, h⟩ := gd_some h
      refine Ru.istI (pc' := 108) (i := (v5 + 1)) (x := o15) (by decide +kernel) (hp65 _) g17 (ps_65 _ _ _) rfl ?_
      refine Ru.inc (k := 8) (n := (-1)) (x := v8) (z := (v8 + (-1))) (xs' := [some (.ref 36), d1, d2, some (vI v3), some (vI v4), some (vI (v5 + 1)), some (vI v6), d7, some (vI (v8 + (-1)))]) (pc' := 111) (by decide +kernel) rfl rfl (mn_st1_D (Nat.le_of_ble_eq_true rfl) hdd.2.2.1 rfl) rfl ?_
      refine Ru.op (q := (.goto (-26), 3)) (S' := (85, _, _, _, _)) (by decide +kernel) rfl ?_
      exact ih _ _ _ _ _ _ ⟨hdd.1, hdd.2.1, hdd.2.2.1, trivial⟩ _ h r hk
set_option maxRecDepth 100000 in
set_option maxHeartbeats 4000000 in
theorem g120L13_ok {v3 : Int} : ∀ (n : Nat) (v4 : Int) (v5 : Int) (S : St) (d1 d2 d6 d7 d8 : Option Value) (_ : DD [d1, d2, d6, d7, d8]) (out : Sum (Int × St) (Int × St)), g120L13 v3 n v4 v5 S = some out → ∀ r, (∀ o, out = .inl o → ∀ (e0 e1 e2 e3 e5 e6 e7 e8 : Option Value), DD [e0, e1, e2, e3, e5, e6, e7, e8] → Ru none 14 287 120 (117, [e0, e1, e2, e3, some (vI o.1), e5, e6, e7, e8], [], o.2.ns, Hp o.2) r) → (∀ o, out = .inr o → r = ((0, some (vI o.1)), o.2.ns, Hp o.2)) → Ru none 14 287 120 (13, [some (.ref 36), d1, d2, some (vI v3), some (vI v4), some (vI v5), d6, d7, d8], [], S.ns, Hp S) r := by
  intro n
  induction n with
  | zero => intro v4 v5 S d1 d2 d6 d7 d8 hdd out h; cases h
  | succ n ih =>
    intro v4 v5 S d1 d2 d6 d7 d8 hdd out h r hk hr
    unfold g120L13 at h
    refine Ru.op (q := (.iload 5, 2)) (S' := (15, _, _, _, _)) (by decide +kernel) rfl ?_
    obtain ⟨g26, h⟩ := gd_some h
    by_cases b27 : v5 < 0
    · replace h := if_t b27 h
      refine Ru.br (k := .lt) (off := 102) (bb := true) (tg := 117) (by decide +kernel) (by decide +kernel) (cz (ci_lt1 g26 (by decide) b27)) rfl ?_
      cases h
      exact hk _ rfl _ _ _ _ _ _ _ _ ⟨rfl, hdd.1, hdd.2.1, rfl, rfl, hdd.2.2.1, hdd.2.2.2.1, hdd.2.2.2.2.1, trivial⟩
    · replace h := if_f b27 h
      refine Ru.br (k := .lt) (off := 102) (bb := false) (tg := 18) (by decide +kernel) (by decide +kernel) (cz (ci_lt0 g26 (by decide) b27)) rfl ?_
      refine Ru.op (q := (.aload_n 0, 1)) (S' := (19, _, _, _, _)) (by decide +kernel) rfl ?_
      refine Ru.op (q := (.aload_n 0, 1)) (S' := (20, _, _, _, _)) (by decide +kernel) rfl ?_
      refine Ru.getR (pc' := 23) (i := 102) (ci := 10) (k := 52) (nn := 0) (z := 0) (v := .ref 65) (by decide +kernel) (by decide +kernel) (hp36 _) (by decide) rfl rfl ?_
      refine Ru.op (q := (.iload 5, 2)) (S' := (25, _, _, _, _)) (by decide +kernel) rfl ?_
      obtain ⟨g28, h⟩ := gd_some h
      refine Ru.ildI (pc' := 26) (i := v5) (z := (S.A 65 v5)) (by decide +kernel) (hp65 _) g28 (eI_of _) rfl ?_
      obtain ⟨o29, e30, h⟩ := ob_some h
      refine Ru.vcallI (pc' := 29) (st' := [vI o29]) (i := 237) (j2 := 121) (ci := 10) (k := 0) (z := 0) (as := [vI (S.A 65 v5)]) (by decide +kernel) (by decide +kernel) rfl rfl (hp36 _) (by decide) ⟨(Nat.le_of_ble_eq_true rfl), (by show 19 + 3 ≤ 287; exact Nat.le_of_ble_eq_true rfl), Nat.le_of_ble_eq_true rfl, Nat.le_of_ble_eq_true rfl⟩ ((g121_ok e30).up (Nat.le_of_ble_eq_true rfl) (Nat.le_of_ble_eq_true rfl)) rfl rfl ?_
      refine Ru.op (q := (.istore 6, 2)) (S' := (31, [some (.ref 36), d1, d2, some (vI v3), some (vI v4), some (vI v5), some (vI o29), d7, d8], [], _, _)) (by decide +kernel) rfl ?_
      refine Ru.op (q := (.aload_n 0, 1)) (S' := (32, _, _, _, _)) (by decide +kernel) rfl ?_
      refine Ru.getR (pc' := 35) (i := 45) (ci := 10) (k := 21) (nn := 0) (z := 0) (v := .ref 46) (by decide +kernel) (by decide +kernel) (hp36 _) (by decide) rfl rfl ?_
      refine Ru.op (q := (.iload 6, 2)) (S' := (37, _, _, _, _)) (by decide +kernel) rfl ?_
      obtain ⟨g31, h⟩ := gd_some h
      refine Ru.ildI (pc' := 38) (i := o29) (z := (S.A 46 o29)) (by decide +kernel) (hp46 _) g31 (eI_of _) rfl ?_
      obtain ⟨o32, e33, h⟩ := ob_some h
      refine Ru.callI (pc' := 41) (q := (.invokestatic 136, 3)) (j2 := 123) (as := [vI (S.A 46 o29)]) (st' := [vI o32]) (by decide +kernel) rfl rfl rfl rfl ⟨(Nat.le_of_ble_eq_true rfl), (by show 19 + 1 ≤ 287; exact Nat.le_of_ble_eq_true rfl), Nat.le_of_ble_eq_true rfl, Nat.le_of_ble_eq_true rfl⟩ ((g123_ok e33).up (Nat.le_of_ble_eq_true rfl) (Nat.le_of_ble_eq_true rfl)) rfl rfl ?_
      refine Ru.op (q := (.istore 7, 2)) (S' := (43, [some (.ref 36), d1, d2, some (vI v3), some (vI v4), some (vI v5), some (vI o29), some (vI o32), d8], [], _, _)) (by decide +kernel) rfl ?_
      refine Ru.op (q := (.iload 4, 2)) (S' := (45, _, _, _, _)) (by decide +kernel) rfl ?_
      refine Ru.op (q := (.iload 5, 2)) (S' := (47, _, _, _, _)) (by decide +kernel) rfl ?_
      refine Ru.ar2 (i := .iadd) (z := (v4 + v5)) (pc' := 48) (by decide +kernel) rfl (ar_add _ _) rfl ?_
      refine Ru.kI (q := (.iconst 1, 1)) (c := 1) (pc' := 49) (by decide +kernel) rfl (by decide) rfl ?_
      refine Ru.ar2 (i := .iadd) (z := ((v4 + v5) + 1)) (pc' := 50) (by decide +kernel) rfl (ar_add _ _) rfl ?_
      refine Ru.op (q := (.iload 7, 2)) (S' := (52, _, _, _, _)) (by decide +kernel) rfl ?_
      refine Ru.ar2 (i := .iadd) (z := (((v4 + v5) + 1) + o32)) (pc' := 53) (by decide +kernel) rfl (ar_add _ _) rfl ?_
      refine Ru.op (q := (.iload_n 3, 1)) (S' := (54, _, _, _, _)) (by decide +kernel) rfl ?_
      obtain ⟨g34, h⟩ := gd_some h
      obtain ⟨g35, h⟩ := gd_some h
      by_cases b36 : v3 < (((v4 + v5) + 1) + o32)
      · replace h := if_t b36 h
        refine Ru.br2 (k := .le) (off := 5) (bb := false) (tg := 57) (by decide +kernel) (by decide +kernel) (ci_le0 g34 g35 b36) rfl ?_
        refine Ru.kI (q := (.iconst (-1), 1)) (c := (-1)) (pc' := 58) (by decide +kernel) rfl (by decide) rfl ?_
        cases h
        have h9 := hr _ rfl
        subst h9
        exact Ru.iret (by decide +kernel) rfl rfl
      · replace h := if_f b36 h
        refine Ru.br2 (k := .le) (off := 5) (bb := true) (tg := 59) (by decide +kernel) (by decide +kernel) (ci_le1 g34 g35 b36) rfl ?_
        refine Ru.inc (k := 5) (n := (-1)) (x := v5) (z := (v5 + (-1))) (xs' := [some (.ref 36), d1, d2, some (vI v3), some (vI v4), some (vI (v5 + (-1))), some (vI o29), some (vI o32), d8]) (pc' := 62) (by decide +kernel) rfl rfl rfl rfl ?_
        refine Ru.op (q := (.aload_n 0, 1)) (S' := (63, _, _, _, _)) (by decide +kernel) rfl ?_
        refine Ru.getR (pc' := 66) (i := 17) (ci := 10) (k := 4) (nn := 0) (z := 0) (v := .ref 38) (by decide +kernel) (by decide +kernel) (hp36 _) (by decide) rfl rfl ?_
        refine Ru.op (q := (.iload 4, 2)) (S' := (68, _, _, _, _)) (by decide +kernel) rfl ?_
        refine Ru.op (q := (.aload_n 0, 1)) (S' := (69, _, _, _, _)) (by decide +kernel) rfl ?_
        refine Ru.getR (pc' := 72) (i := 45) (ci := 10) (k := 21) (nn := 0) (z := 0) (v := .ref 46) (by decide +kernel) (by decide +kernel) (hp36 _) (by decide) rfl rfl ?_
        refine Ru.op (q := (.iload 6, 2)) (S' := (74, _, _, _, _)) (by decide +kernel) rfl ?_
        refine Ru.ildI (pc' := 75) (i := o29) (z := (S.A 46 o29)) (by decide +kernel) (hp46 _) g31 (eI_of _) rfl ?_
        obtain ⟨g37, h⟩ := gd_some h
        refine Ru.istI (pc' := 76) (i := v4) (x := (S.A 46 o29)) (by decide +kernel) (hp38 _) g37 (ps_38 _ _ _) rfl ?_
        refine Ru.inc (k := 4) (n := 1) (x := v4) (z := (v4 + 1)) (xs' := [some (.ref 36), d1, d2, some (vI v3), some (vI (v4 + 1)), some (vI (v5 + (-1))), some (vI o29), some (vI o32), d8]) (pc' := 79) (by decide +kernel) rfl rfl rfl rfl ?_
        refine Ru.op (q := (.iload 7, 2)) (S' := (81, _, _, _, _)) (by decide +kernel) rfl ?_
        refine Ru.kI (q := (.iconst 1, 1)) (c := 1) (pc' := 82) (by decide +kernel) rfl (by decide) rfl ?_
        refine Ru.ar2 (i := .isub) (z := (o32 - 1)) (pc' := 83) (by decide +kernel) rfl (ar_sub _ _) rfl ?_
        refine Ru.op (q := (.istore 8, 2)) (S' := (85, [some (.ref 36), d1, d2, some (vI v3), some (vI (v4 + 1)), some (vI (v5 + (-1))), some (vI o29), some (vI o32), some (vI (o32 - 1))], [], _, _)) (by decide +kernel) rfl ?_
        obtain ⟨o38, e44, h⟩ := ob_some h
        refine g120L85_ok FU _ _ _ _ _ _ ⟨hdd.1, hdd.2.1, rfl, trivial⟩ _ e44 _ ?_
        intro d39 d40 d41 d42 d43 hd45
        refine Ru.op (q := (.goto (-101), 3)) (S' := (13, _, _, _, _)) (by decide +kernel) rfl ?_
        exact ih _ _ _ _ _ _ _ _ ⟨hd45.1, hd45.2.1, hd45.2.2.1, hd45.2.2.2.1, hd45.2.2.2.2.1, trivial⟩ _ h r hk hr
set_option maxRecDepth 100000 in
set_option maxHeartbeats 4000000 in
theorem g120_ok {S : St} {v1 : Int} {v2 : Int} {v3 : Int} {o : Int × St} (h : g120 S v1 v2 v3 = some o) : Ru none 14 287 120 (0, mn_pad (mn_ent [.ref 36, vI v1, vI v2, vI v3]) 9, [], S.ns, Hp S) ((0, some (vI o.1)), o.2.ns, Hp o.2) := by
  unfold g120 at h
  show Ru none 14 287 120 (0, [some (.ref 36), some (vI v1), some (vI v2), some (vI v3), none, none, none, none, none], [], S.ns, Hp S) _
  refine Ru.op (q := (.iload_n 2, 1)) (S' := (1, _, _, _, _)) (by decide +kernel) rfl ?_
  refine Ru.op (q := (.istore 4, 2)) (S' := (3, [some (.ref 36), some (vI v1), some (vI v2), some (vI v3), some (vI v2), none, none, none, none], [], _, _)) (by decide +kernel) rfl ?_
  refine Ru.kI (q := (.iconst 0, 1)) (c := 0) (pc' := 4) (by decide +kernel) rfl (by decide) rfl ?_
  refine Ru.op (q := (.istore 5, 2)) (S' := (6, [some (.ref 36), some (vI v1), some (vI v2), some (vI v3), some (vI v2), some (vI 0), none, none, none], [], _, _)) (by decide +kernel) rfl ?_
  refine Ru.op (q := (.aload_n 0, 1)) (S' := (7, _, _, _, _)) (by decide +kernel) rfl ?_
  refine Ru.getR (pc' := 10) (i := 102) (ci := 10) (k := 52) (nn := 0) (z := 0) (v := .ref 65) (by decide +kernel) (by decide +kernel) (hp36 _) (by decide) rfl rfl ?_
  refine Ru.kI (q := (.iconst 0, 1)) (c := 0) (pc' := 11) (by decide +kernel) rfl (by decide) rfl ?_
  refine Ru.op (q := (.iload_n 1, 1)) (S' := (12, _, _, _, _)) (by decide +kernel) rfl ?_
  refine Ru.istI (pc' := 13) (i := 0) (x := v1) (by decide +kernel) (hp65 _) (by decide) (ps_65 _ _ _) rfl ?_
  rcases obr_some h with ⟨o46, e55, h⟩ | e55
  · refine g120L13_ok FU _ _ _ _ _ _ _ _ ⟨rfl, rfl, rfl, rfl, rfl, trivial⟩ _ e55 _ (fun o' e' => ?_) (fun o' e' => by cases e')
    cases e'
    intro d47 d48 d49 d50 d51 d52 d53 d54 hd56
    refine Ru.op (q := (.iload 4, 2)) (S' := (119, _, _, _, _)) (by decide +kernel) rfl ?_
    cases h
    exact Ru.iret (by decide +kernel) rfl rfl
  · exact g120L13_ok FU _ _ _ _ _ _ _ _ ⟨rfl, rfl, rfl, rfl, rfl, trivial⟩ _ e55 _ (fun o' e' => by cases e') (fun o' e' => by cases e'; rfl)
set_option maxRecDepth 100000 in
set_option maxHeartbeats 4000000 in
theorem g126L33_ok {S : St} {v3 : Int} {v4 : Int} {v5 : Int} : ∀ (n : Nat) (v6 : Int) (v7 : Int) (d1 d2 : Option Value) (_ : DD [d1, d2]) (out : Int), g126L33 S v3 v4 v5 n v6 v7 = some out → ∀ r, (∀ (e0 e1 e2 e3 e4 e5 e7 : Option Value), DD [e0, e1, e2, e3, e4, e5, e7] → Ru none 13 263 126 (80, [e0, e1, e2, e3, e4, e5, some (vI out), e7], [], S.ns, Hp S) r) → Ru none 13 263 126 (33, [some (.ref 36), d1, d2, some (vI v3), some (vI v4), some (vI v5), some (vI v6), some (vI v7)], [], S.ns, Hp S) r := by
  intro n
  induction n with
  | zero => intro v6 v7 d1 d2 hdd out h; cases h
  | succ n ih =>
    intro v6 v7 d1 d2 hdd out h r hk
    unfold g126L33 at h
    refine Ru.op (q := (.iload 7, 2)) (S' := (35, _, _, _, _)) (by decide +kernel) rfl ?_
    refine Ru.op (q := (.iload 5, 2)) (S' := (37, _, _, _, _)) (by decide +kernel) rfl ?_
    obtain ⟨g5, h⟩ := gd_some h
    obtain ⟨g6, h⟩ := gd_some h
    by_cases b7 : v7 < v5
    · replace h := if_t b7 h
      refine Ru.br2 (k := .ge) (off := 43) (bb := false) (tg := 40) (by decide +kernel) (by decide +kernel) (ci_ge0 g5 g6 b7) rfl ?_
      refine Ru.op (q := (.iload 6, 2)) (S' := (42, _, _, _, _)) (by decide +kernel) rfl ?_
      obtain ⟨g8, h⟩ := gd_some h
      by_cases b9 : v6 = 0
      · replace h := if_t b9 h
        refine Ru.br (k := .eq) (off := 38) (bb := true) (tg := 80) (by decide +kernel) (by decide +kernel) (cz (ci_eq1 g8 (by decide) b9)) rfl ?_
        cases h
        exact hk _ _ _ _ _ _ _ ⟨rfl, hdd.1, hdd.2.1, rfl, rfl, rfl, rfl, trivial⟩
      · replace h := if_f b9 h
        refine Ru.br (k := .eq) (off := 38) (bb := false) (tg := 45) (by decide +kernel) (by decide +kernel) (cz (ci_eq0 g8 (by decide) b9)) rfl ?_
        refine Ru.op (q := (.aload_n 0, 1)) (S' := (46, _, _, _, _)) (by decide +kernel) rfl ?_
        refine Ru.getR (pc' := 49) (i := 17) (ci := 10) (k := 4) (nn := 0) (z := 0) (v := .ref 38) (by decide +kernel) (by decide +kernel) (hp36 _) (by decide) rfl rfl ?_
        refine Ru.op (q := (.iload_n 3, 1)) (S' := (50, _, _, _, _)) (by decide +kernel) rfl ?_
        refine Ru.op (q := (.iload 7, 2)) (S' := (52, _, _, _, _)) (by decide +kernel) rfl ?_
        refine Ru.ar2 (i := .iadd) (z := (v3 + v7)) (pc' := 53) (by decide +kernel) rfl (ar_add _ _) rfl ?_
        obtain ⟨g10, h⟩ := gd_some h
        refine Ru.ildI (pc' := 54) (i := (v3 + v7)) (z := (S.A 38 (v3 + v7))) (by decide +kernel) (hp38 _) g10 (eI_of _) rfl ?_
        refine Ru.op (q := (.aload_n 0, 1)) (S' := (55, _, _, _, _)) (by decide +kernel) rfl ?_
        refine Ru.getR (pc' := 58) (i := 17) (ci := 10) (k := 4) (nn := 0) (z := 0) (v := .ref 38) (by decide +kernel) (by decide +kernel) (hp36 _) (by decide) rfl rfl ?_
        refine Ru.op (q := (.iload 4, 2)) (S' := (60, _, _, _, _)) (by decide +kernel) rfl ?_
        refine Ru.op (q := (.iload 7, 2)) (S' := (62, _, _, _, _)) (by decide +kernel) rfl ?_
        refine Ru.ar2 (i := .iadd) (z := (v4 + v7)) (pc' := 63) (by decide +kernel) rfl (ar_add _ _) rfl ?_
        obtain ⟨g11, h⟩ := gd_some h
        refine Ru.ildI (pc' := 64) (i := (v4 + v7)) (z := (S.A 38 (v4 + v7))) (by decide +kernel) (hp38 _) g11 (eI_of _) rfl ?_
        by_cases b12 : (S.A 38 (v3 + v7)) = (S.A 38 (v4 + v7))
        · replace h := if_t b12 h
          refine Ru.br2 (k := .ne) (off := 7) (bb := false) (tg := 67) (by decide +kernel) (by decide +kernel) (ci_ne0 (inR_to _) (inR_to _) b12) rfl ?_
          refine Ru.kI (q := (.iconst 1, 1)) (c := 1) (pc' := 68) (by decide +kernel) rfl (by decide) rfl ?_
          refine Ru.op (q := (.goto 4, 3)) (S' := (72, _, _, _, _)) (by decide +kernel) rfl ?_
          refine Ru.op (q := (.istore 6, 2)) (S' := (74, [some (.ref 36), d1, d2, some (vI v3), some (vI v4), some (vI v5), some (vI 1), some (vI v7)], [], _, _)) (by decide +kernel) rfl ?_
          refine Ru.inc (k := 7) (n := 1) (x := v7) (z := (v7 + 1)) (xs' := [some (.ref 36), d1, d2, some (vI v3), some (vI v4), some (vI v5), some (vI 1), some (vI (v7 + 1))]) (pc' := 77) (by decide +kernel) rfl rfl rfl rfl ?_
          refine Ru.op (q := (.goto (-44), 3)) (S' := (33, _, _, _, _)) (by decide +kernel) rfl ?_
          exact ih _ _ _ _ ⟨hdd.1, hdd.2.1, trivial⟩ _ h r hk
        · replace h := if_f b12 h
          refine Ru.br2 (k := .ne) (off := 7) (bb := true) (tg := 71) (by decide +kernel) (by decide +kernel) (ci_ne1 (inR_to _) (inR_to _) b12) rfl ?_
          refine Ru.kI (q := (.iconst 0, 1)) (c := 0) (pc' := 72) (by decide +kernel) rfl (by decide) rfl ?_
          refine Ru.op (q := (.istore 6, 2)) (S' := (74, [some (.ref 36), d1, d2, some (vI v3), some (vI v4), some (vI v5), some (vI 0), some (vI v7)], [], _, _)) (by decide +kernel) rfl ?_
          refine Ru.inc (k := 7) (n := 1) (x := v7) (z := (v7 + 1)) (xs' := [some (.ref 36), d1, d2, some (vI v3), some (vI v4), some (vI v5), some (vI 0), some (vI (v7 + 1))]) (pc' := 77) (by decide +kernel) rfl rfl rfl rfl ?_
          refine Ru.op (q := (.goto (-44), 3)) (S' := (33, _, _, _, _)) (by decide +kernel) rfl ?_
          exact ih _ _ _ _ ⟨hdd.1, hdd.2.1, trivial⟩ _ h r hk
    · replace h := if_f b7 h
      refine Ru.br2 (k := .ge) (off := 43) (bb := true) (tg := 80) (by decide +kernel) (by decide +kernel) (ci_ge1 g5 g6 b7) rfl ?_
      cases h
      exact hk _ _ _ _ _ _ _ ⟨rfl, hdd.1, hdd.2.1, rfl, rfl, rfl, rfl, trivial⟩
set_option maxRecDepth 100000 in
set_option maxHeartbeats 4000000 in
theorem g126_ok {S : St} {v1 : Int} {v2 : Int} {o : Int} (h : g126 S v1 v2 = some o) : Ru none 13 263 126 (0, mn_pad (mn_ent [.ref 36, vI v1, vI v2]) 8, [], S.ns, Hp S) ((0, some (vI o)), S.ns, Hp S) := by
  unfold g126 at h
  show Ru none 13 263 126 (0, [some (.ref 36), some (vI v1), some (vI v2), none, none, none, none, none], [], S.ns, Hp S) _
  refine Ru.op (q := (.aload_n 0, 1)) (S' := (1, _, _, _, _)) (by decide +kernel) rfl ?_
  refine Ru.getR (pc' := 4) (i := 20) (ci := 10) (k := 5) (nn := 0) (z := 0) (v := .ref 39) (by decide +kernel) (by decide +kernel) (hp36 _) (by decide) rfl rfl ?_
  refine Ru.op (q := (.iload_n 1, 1)) (S' := (5, _, _, _, _)) (by decide +kernel) rfl ?_
  obtain ⟨g1, h⟩ := gd_some h
  refine Ru.ildI (pc' := 6) (i := v1) (z := (S.A 39 v1)) (by decide +kernel) (hp39 _) g1 (eI_of _) rfl ?_
  refine Ru.op (q := (.istore_n 3, 1)) (S' := (7, [some (.ref 36), some (vI v1), some (vI v2), some (vI (S.A 39 v1)), none, none, none, none], [], _, _)) (by decide +kernel) rfl ?_
  refine Ru.op (q := (.aload_n 0, 1)) (S' := (8, _, _, _, _)) (by decide +kernel) rfl ?_
  refine Ru.getR (pc' := 11) (i := 20) (ci := 10) (k := 5) (nn := 0) (z := 0) (v := .ref 39) (by decide +kernel) (by decide +kernel) (hp36 _) (by decide) rfl rfl ?_
  refine Ru.op (q := (.iload_n 2, 1)) (S' := (12, _, _, _, _)) (by decide +kernel) rfl ?_
  obtain ⟨g2, h⟩ := gd_some h
  refine Ru.ildI (pc' := 13) (i := v2) (z := (S.A 39 v2)) (by decide +kernel) (hp39 _) g2 (eI_of _) rfl ?_
  refine Ru.op (q := (.istore 4, 2)) (S' := (15, [some (.ref 36), some (vI v1), some (vI v2), some (vI (S.A 39 v1)), some (vI (S.A 39 v2)), none, none, none], [], _, _)) (by decide +kernel) rfl ?_
  refine Ru.op (q := (.aload_n 0, 1)) (S' := (16, _, _, _, _)) (by decide +kernel) rfl ?_
  refine Ru.getR (pc' := 19) (i := 17) (ci := 10) (k := 4) (nn := 0) (z := 0) (v := .ref 38) (by decide +kernel) (by decide +kernel) (hp36 _) (by decide) rfl rfl ?_
  refine Ru.op (q := (.iload_n 3, 1)) (S' := (20, _, _, _, _)) (by decide +kernel) rfl ?_
  obtain ⟨o3, e4, h⟩ := ob_some h
  refine Ru.callI (pc' := 23) (q := (.invokestatic 233, 3)) (j2 := 125) (as := [.ref 38, vI (S.A 39 v1)]) (st' := [vI o3]) (by decide +kernel) rfl rfl rfl rfl ⟨(Nat.le_of_ble_eq_true rfl), (by show 19 + 4 ≤ 263; exact Nat.le_of_ble_eq_true rfl), Nat.le_of_ble_eq_true rfl, Nat.le_of_ble_eq_true rfl⟩ ((g125_ok e4).up (Nat.le_of_ble_eq_true rfl) (Nat.le_of_ble_eq_true rfl)) rfl rfl ?_
  refine Ru.op (q := (.iload_n 3, 1)) (S' := (24, _, _, _, _)) (by decide +kernel) rfl ?_
  refine Ru.ar2 (i := .isub) (z := (o3 - (S.A 39 v1))) (pc' := 25) (by decide +kernel) rfl (ar_sub _ _) rfl ?_
  refine Ru.op (q := (.istore 5, 2)) (S' := (27, [some (.ref 36), some (vI v1), some (vI v2), some (vI (S.A 39 v1)), some (vI (S.A 39 v2)), some (vI (o3 - (S.A 39 v1))), none, none], [], _, _)) (by decide +kernel) rfl ?_
  refine Ru.kI (q := (.iconst 1, 1)) (c := 1) (pc' := 28) (by decide +kernel) rfl (by decide) rfl ?_
  refine Ru.op (q := (.istore 6, 2)) (S' := (30, [some (.ref 36), some (vI v1), some (vI v2), some (vI (S.A 39 v1)), some (vI (S.A 39 v2)), some (vI (o3 - (S.A 39 v1))), some (vI 1), none], [], _, _)) (by decide +kernel) rfl ?_
  refine Ru.kI (q := (.iconst 0, 1)) (c := 0) (pc' := 31) (by decide +kernel) rfl (by decide) rfl ?_
  refine Ru.op (q := (.istore 7, 2)) (S' := (33, [some (.ref 36), some (vI v1), some (vI v2), some (vI (S.A 39 v1)), some (vI (S.A 39 v2)), some (vI (o3 - (S.A 39 v1))), some (vI 1), some (vI 0)], [], _, _)) (by decide +kernel) rfl ?_
  obtain ⟨o13, e21, h⟩ := ob_some h
  refine g126L33_ok FU _ _ _ _ ⟨rfl, rfl, trivial⟩ _ e21 _ ?_
  intro d14 d15 d16 d17 d18 d19 d20 hd22
  refine Ru.op (q := (.iload 6, 2)) (S' := (82, _, _, _, _)) (by decide +kernel) rfl ?_
  obtain ⟨g23, h⟩ := gd_some h
  cases h
  exact Ru.iret (by decide +kernel) rfl (nar_b1 g23)
set_option maxRecDepth 100000 in
set_option maxHeartbeats 4000000 in
theorem g127L2_ok {v1 : Int} {v2 : Int} : ∀ (n : Nat) (v3 : Int) (S : St) (d4 : Option Value) (_ : DD [d4]) (out : St), g127L2 v1 v2 n v3 S = some out → ∀ r, (∀ (e3 e4 : Option Value), DD [e3, e4] → Ru none 11 220 127 (22, [some (.ref 36), some (vI v1), some (vI v2), e3, e4], [], out.ns, Hp out) r) → Ru none 11 220 127 (2, [some (.ref 36), some (vI v1), some (vI v2), some (vI v3), d4], [], S.ns, Hp S) r := by
  intro n
  induction n with
  | zero => intro v3 S d4 hdd out h; cases h
  | succ n ih =>
    intro v3 S d4 hdd out h r hk
    unfold g127L2 at h
    refine Ru.op (q := (.iload_n 3, 1)) (S' := (3, _, _, _, _)) (by decide +kernel) rfl ?_
    refine Ru.kI (q := (.sipush 128, 3)) (c := 128) (pc' := 6) (by decide +kernel) rfl (by decide) rfl ?_
    obtain ⟨g1, h⟩ := gd_some h
    by_cases b2 : v3 < 128
    · replace h := if_t b2 h
      refine Ru.br2 (k := .ge) (off := 16) (bb := false) (tg := 9) (by decide +kernel) (by decide +kernel) (ci_ge0 g1 (by decide) b2) rfl ?_
      refine Ru.op (q := (.aload_n 0, 1)) (S' := (10, _, _, _, _)) (by decide +kernel) rfl ?_
      refine Ru.getR (pc' := 13) (i := 99) (ci := 10) (k := 51) (nn := 0) (z := 0) (v := .ref 64) (by decide +kernel) (by decide +kernel) (hp36 _) (by decide) rfl rfl ?_
      refine Ru.op (q := (.iload_n 3, 1)) (S' := (14, _, _, _, _)) (by decide +kernel) rfl ?_
      refine Ru.kI (q := (.iconst (-1), 1)) (c := (-1)) (pc' := 15) (by decide +kernel) rfl (by decide) rfl ?_
      obtain ⟨g3, h⟩ := gd_some h
      refine Ru.istI (pc' := 16) (i := v3) (x := (-1)) (by decide +kernel) (hp64 _) g3 (ps_64 _ _ _) rfl ?_
      refine Ru.inc (k := 3) (n := 1) (x := v3) (z := (v3 + 1)) (xs' := [some (.ref 36), some (vI v1), some (vI v2), some (vI (v3 + 1)), d4]) (pc' := 19) (by decide +kernel) rfl rfl rfl rfl ?_
      refine Ru.op (q := (.goto (-17), 3)) (S' := (2, _, _, _, _)) (by decide +kernel) rfl ?_
      exact ih _ _ _ ⟨hdd.1, trivial⟩ _ h r hk
    · replace h := if_f b2 h
      refine Ru.br2 (k := .ge) (off := 16) (bb := true) (tg := 22) (by decide +kernel) (by decide +kernel) (ci_ge1 g1 (by decide) b2) rfl ?_
      cases h
      exact hk _ _ ⟨rfl, hdd.1, trivial⟩
set_option maxRecDepth 100000 in
set_option maxHeartbeats 4000000 in
theorem g127L27_ok {v2 : Int} : ∀ (n : Nat) (v3 : Int) (v4 : Int) (S : St) (d1 : Option Value) (_ : DD [d1]) (out : St), g127L27 v2 n v3 v4 S = some out → ∀ r, (∀ (e0 e1 e2 e3 e4 : Option Value), DD [e0, e1, e2, e3, e4] → Ru none 11 220 127 (102, [e0, e1, e2, e3, e4], [], out.ns, Hp out) r) → Ru none 11 220 127 (27, [some (.ref 36), d1, some (vI v2), some (vI v3), some (vI v4)], [], S.ns, Hp S) r := by
  intro n
  induction n with
  | zero => intro v3 v4 S d1 hdd out h; cases h
  | succ n ih =>
    intro v3 v4 S d1 hdd out h r hk
    unfold g127L27 at h
    refine Ru.op (q := (.iload 4, 2)) (S' := (29, _, _, _, _)) (by decide +kernel) rfl ?_
    refine Ru.op (q := (.iload_n 2, 1)) (S' := (30, _, _, _, _)) (by decide +kernel) rfl ?_
    obtain ⟨g9, h⟩ := gd_some h
    obtain ⟨g10, h⟩ := gd_some h
    by_cases b11 : v4 < v2
    · replace h := if_t b11 h
      refine Ru.br2 (k := .ge) (off := 72) (bb := false) (tg := 33) (by decide +kernel) (by decide +kernel) (ci_ge0 g9 g10 b11) rfl ?_
      refine Ru.op (q := (.aload_n 0, 1)) (S' := (34, _, _, _, _)) (by decide +kernel) rfl ?_
      refine Ru.getR (pc' := 37) (i := 17) (ci := 10) (k := 4) (nn := 0) (z := 0) (v := .ref 38) (by decide +kernel) (by decide +kernel) (hp36 _) (by decide) rfl rfl ?_
      refine Ru.op (q := (.iload 4, 2)) (S' := (39, _, _, _, _)) (by decide +kernel) rfl ?_
      obtain ⟨g12, h⟩ := gd_some h
      refine Ru.ildI (pc' := 40) (i := v4) (z := (S.A 38 v4)) (by decide +kernel) (hp38 _) g12 (eI_of _) rfl ?_
      obtain ⟨o13, e14, h⟩ := ob_some h
      refine Ru.callI (pc' := 43) (q := (.invokestatic 132, 3)) (j2 := 122) (as := [vI (S.A 38 v4)]) (st' := [vI o13]) (by decide +kernel) rfl rfl rfl rfl ⟨(Nat.le_of_ble_eq_true rfl), (by show 19 + 1 ≤ 220; exact Nat.le_of_ble_eq_true rfl), Nat.le_of_ble_eq_true rfl, Nat.le_of_ble_eq_true rfl⟩ ((g122_ok e14).up (Nat.le_of_ble_eq_true rfl) (Nat.le_of_ble_eq_true rfl)) rfl rfl ?_
      obtain ⟨g15, h⟩ := gd_some h
      by_cases b16 : o13 = 0
      · replace h := if_t b16 h
        refine Ru.br (k := .eq) (off := 53) (bb := true) (tg := 96) (by decide +kernel) (by decide +kernel) (cz (ci_eq1 g15 (by decide) b16)) rfl ?_
        refine Ru.inc (k := 4) (n := 1) (x := v4) (z := (v4 + 1)) (xs' := [some (.ref 36), d1, some (vI v2), some (vI v3), some (vI (v4 + 1))]) (pc' := 99) (by decide +kernel) rfl rfl rfl rfl ?_
        refine Ru.op (q := (.goto (-72), 3)) (S' := (27, _, _, _, _)) (by decide +kernel) rfl ?_
        exact ih _ _ _ _ ⟨hdd.1, trivial⟩ _ h r hk
      · replace h := if_f b16 h
        refine Ru.br (k := .eq) (off := 53) (bb := false) (tg := 46) (by decide +kernel) (by decide +kernel) (cz (ci_eq0 g15 (by decide) b16)) rfl ?_
        refine Ru.op (q := (.aload_n 0, 1)) (S' := (47, _, _, _, _)) (by decide +kernel) rfl ?_
        refine Ru.getR (pc' := 50) (i := 99) (ci := 10) (k := 51) (nn := 0) (z := 0) (v := .ref 64) (by decide +kernel) (by decide +kernel) (hp36 _) (by decide) rfl rfl ?_
        refine Ru.op (q := (.aload_n 0, 1)) (S' := (51, _, _, _, _)) (by decide +kernel) rfl ?_
        refine Ru.getR (pc' := 54) (i := 17) (ci := 10) (k := 4) (nn := 0) (z := 0) (v := .ref 38) (by decide +kernel) (by decide +kernel) (hp36 _) (by decide) rfl rfl ?_
        refine Ru.op (q := (.iload 4, 2)) (S' := (56, _, _, _, _)) (by decide +kernel) rfl ?_
        refine Ru.ildI (pc' := 57) (i := v4) (z := (S.A 38 v4)) (by decide +kernel) (hp38 _) g12 (eI_of _) rfl ?_
        obtain ⟨g17, h⟩ := gd_some h
        refine Ru.ildI (pc' := 58) (i := (S.A 38 v4)) (z := (S.A 64 (S.A 38 v4))) (by decide +kernel) (hp64 _) g17 (eI_of _) rfl ?_
        by_cases b18 : (S.A 64 (S.A 38 v4)) < 0
        · replace h := if_t b18 h
          refine Ru.br (k := .ge) (off := 19) (bb := false) (tg := 61) (by decide +kernel) (by decide +kernel) (cz (ci_ge0 (inR_to _) (by decide) b18)) rfl ?_
          refine Ru.op (q := (.aload_n 0, 1)) (S' := (62, _, _, _, _)) (by decide +kernel) rfl ?_
          refine Ru.getR (pc' := 65) (i := 99) (ci := 10) (k := 51) (nn := 0) (z := 0) (v := .ref 64) (by decide +kernel) (by decide +kernel) (hp36 _) (by decide) rfl rfl ?_
          refine Ru.op (q := (.aload_n 0, 1)) (S' := (66, _, _, _, _)) (by decide +kernel) rfl ?_
          refine Ru.getR (pc' := 69) (i := 17) (ci := 10) (k := 4) (nn := 0) (z := 0) (v := .ref 38) (by decide +kernel) (by decide +kernel) (hp36 _) (by decide) rfl rfl ?_
          refine Ru.op (q := (.iload 4, 2)) (S' := (71, _, _, _, _)) (by decide +kernel) rfl ?_
          refine Ru.ildI (pc' := 72) (i := v4) (z := (S.A 38 v4)) (by decide +kernel) (hp38 _) g12 (eI_of _) rfl ?_
          refine Ru.op (q := (.iload_n 3, 1)) (S' := (73, _, _, _, _)) (by decide +kernel) rfl ?_
          refine Ru.istI (pc' := 74) (i := (S.A 38 v4)) (x := v3) (by decide +kernel) (hp64 _) g17 (ps_64 _ _ _) rfl ?_
          refine Ru.inc (k := 3) (n := 1) (x := v3) (z := (v3 + 1)) (xs' := [some (.ref 36), d1, some (vI v2), some (vI (v3 + 1)), some (vI v4)]) (pc' := 77) (by decide +kernel) rfl rfl rfl rfl ?_
          refine Ru.op (q := (.aload_n 0, 1)) (S' := (78, _, _, _, _)) (by decide +kernel) rfl ?_
          refine Ru.getR (pc' := 81) (i := 17) (ci := 10) (k := 4) (nn := 0) (z := 0) (v := .ref 38) (by decide +kernel) (by decide +kernel) (hp36 _) (by decide) rfl rfl ?_
          refine Ru.op (q := (.iload 4, 2)) (S' := (83, _, _, _, _)) (by decide +kernel) rfl ?_
          refine Ru.op (q := (.aload_n 0, 1)) (S' := (84, _, _, _, _)) (by decide +kernel) rfl ?_
          refine Ru.getR (pc' := 87) (i := 99) (ci := 10) (k := 51) (nn := 0) (z := 0) (v := .ref 64) (by decide +kernel) (by decide +kernel) (hp36 _) (by decide) rfl rfl ?_
          refine Ru.op (q := (.aload_n 0, 1)) (S' := (88, _, _, _, _)) (by decide +kernel) rfl ?_
          refine Ru.getR (pc' := 91) (i := 17) (ci := 10) (k := 4) (nn := 0) (z := 0) (v := .ref 38) (by decide +kernel) (by decide +kernel) (hp36 _) (by decide) rfl rfl ?_
          refine Ru.op (q := (.iload 4, 2)) (S' := (93, _, _, _, _)) (by decide +kernel) rfl ?_
          refine Ru.ildI (pc' := 94) (i := v4) (z := (S.A 38 v4)) (by decide +kernel) (hp38 _) g12 (eI_of _) rfl ?_
          refine Ru.ildI (pc' := 95) (i := (S.A 38 v4)) (z := ((S.a 64 (S.A 38 v4) v3).A 64 (S.A 38 v4))) (by decide +kernel) (hp64 _) g17 (eI_of _) rfl ?_
          refine Ru.istI (pc' := 96) (i := v4) (x := ((S.a 64 (S.A 38 v4) v3).A 64 (S.A 38 v4))) (by decide +kernel) (hp38 _) g12 (ps_38 _ _ _) rfl ?_
          refine Ru.inc (k := 4) (n := 1) (x := v4) (z := (v4 + 1)) (xs' := [some (.ref 36), d1, some (vI v2), some (vI (v3 + 1)), some (vI (v4 + 1))]) (pc' := 99) (by decide +kernel) rfl rfl rfl rfl ?_
          refine Ru.op (q := (.goto (-72), 3)) (S' := (27, _, _, _, _)) (by decide +kernel) rfl ?_
          exact ih _ _ _ _ ⟨hdd.1, trivial⟩ _ h r hk
        · replace h := if_f b18 h
          refine Ru.br (k := .ge) (off := 19) (bb := true) (tg := 77) (by decide +kernel) (by decide +kernel) (cz (ci_ge1 (inR_to _) (by decide) b18)) rfl ?_
          refine Ru.op (q := (.aload_n 0, 1)) (S' := (78, _, _, _, _)) (by decide +kernel) rfl ?_
          refine Ru.getR (pc' := 81) (i := 17) (ci := 10) (k := 4) (nn := 0) (z := 0) (v := .ref 38) (by decide +kernel) (by decide +kernel) (hp36 _) (by decide) rfl rfl ?_
          refine Ru.op (q := (.iload 4, 2)) (S' := (83, _, _, _, _)) (by decide +kernel) rfl ?_
          refine Ru.op (q := (.aload_n 0, 1)) (S' := (84, _, _, _, _)) (by decide +kernel) rfl ?_
          refine Ru.getR (pc' := 87) (i := 99) (ci := 10) (k := 51) (nn := 0) (z := 0) (v := .ref 64) (by decide +kernel) (by decide +kernel) (hp36 _) (by decide) rfl rfl ?_
          refine Ru.op (q := (.aload_n 0, 1)) (S' := (88, _, _, _, _)) (by decide +kernel) rfl ?_
          refine Ru.getR (pc' := 91) (i := 17) (ci := 10) (k := 4) (nn := 0) (z := 0) (v := .ref 38) (by decide +kernel) (by decide +kernel) (hp36 _) (by decide) rfl rfl ?_
          refine Ru.op (q := (.iload 4, 2)) (S' := (93, _, _, _, _)) (by decide +kernel) rfl ?_
          refine Ru.ildI (pc' := 94) (i := v4) (z := (S.A 38 v4)) (by decide +kernel) (hp38 _) g12 (eI_of _) rfl ?_
          refine Ru.ildI (pc' := 95) (i := (S.A 38 v4)) (z := (S.A 64 (S.A 38 v4))) (by decide +kernel) (hp64 _) g17 (eI_of _) rfl ?_
          refine Ru.istI (pc' := 96) (i := v4) (x := (S.A 64 (S.A 38 v4))) (by decide +kernel) (hp38 _) g12 (ps_38 _ _ _) rfl ?_
          refine Ru.inc (k := 4) (n := 1) (x := v4) (z := (v4 + 1)) (xs' := [some (.ref 36), d1, some (vI v2), some (vI v3), some (vI (v4 + 1))]) (pc' := 99) (by decide +kernel) rfl rfl rfl rfl ?_
          refine Ru.op (q := (.goto (-72), 3)) (S' := (27, _, _, _, _)) (by decide +kernel) rfl ?_
          exact ih _ _ _ _ ⟨hdd.1, trivial⟩ _ h r hk
    · replace h := if_f b11 h
      refine Ru.br2 (k := .ge) (off := 72) (bb := true) (tg := 102) (by decide +kernel) (by decide +kernel) (ci_ge1 g9 g10 b11) rfl ?_
      cases h
      exact hk _ _ _ _ _ ⟨rfl, hdd.1, rfl, rfl, rfl, trivial⟩
set_option maxRecDepth 100000 in
set_option maxHeartbeats 4000000 in
theorem g127_ok {S : St} {v1 : Int} {v2 : Int} {o : St} (h : g127 S v1 v2 = some o) : Ru none 11 220 127 (0, mn_pad (mn_ent [.ref 36, vI v1, vI v2]) 5, [], S.ns, Hp S) ((0, none), o.ns, Hp o) := by
  unfold g127 at h
  show Ru none 11 220 127 (0, [some (.ref 36), some (vI v1), some (vI v2), none, none], [], S.ns, Hp S) _
  refine Ru.kI (q := (.iconst 0, 1)) (c := 0) (pc' := 1) (by decide +kernel) rfl (by decide) rfl ?_
  refine Ru.op (q := (.istore_n 3, 1)) (S' := (2, [some (.ref 36), some (vI v1), some (vI v2), some (vI 0), none], [], _, _)) (by decide +kernel) rfl ?_
  obtain ⟨o4, e7, h⟩ := ob_some h
  refine g127L2_ok FU _ _ _ ⟨rfl, trivial⟩ _ e7 _ ?_
  intro d5 d6 hd8
  refine Ru.kI (q := (.iconst 0, 1)) (c := 0) (pc' := 23) (by decide +kernel) rfl (by decide) rfl ?_
  refine Ru.op (q := (.istore_n 3, 1)) (S' := (24, [some (.ref 36), some (vI v1), some (vI v2), some (vI 0), d6], [], _, _)) (by decide +kernel) rfl ?_
  refine Ru.op (q := (.iload_n 1, 1)) (S' := (25, _, _, _, _)) (by decide +kernel) rfl ?_
  refine Ru.op (q := (.istore 4, 2)) (S' := (27, [some (.ref 36), some (vI v1), some (vI v2), some (vI 0), some (vI v1)], [], _, _)) (by decide +kernel) rfl ?_
  obtain ⟨o19, e25, h⟩ := ob_some h
  refine g127L27_ok FU _ _ _ _ ⟨rfl, trivial⟩ _ e25 _ ?_
  intro d20 d21 d22 d23 d24 hd26
  cases h
  exact Ru.end (q := (.return_, 1)) (by decide +kernel) rfl rfl
set_option maxRecDepth 100000 in
set_option maxHeartbeats 4000000 in
theorem g119L82_ok {S : St} {v1 : Int} {v2 : Int} {v3 : Int} {v4 : Int} {v5 : Int} {v6 : Int} : ∀ (n : Nat) (v7 : Int) (v8 : Int) (_ : DD []) (out : Int), g119L82 S v1 v2 v3 v4 v5 v6 n v7 v8 = some out → ∀ r, (∀ (e6 e8 : Option Value), DD [e6, e8] → Ru none 15 315 119 (135, [some (.ref 36), some (vI v1), some (vI v2), some (vI v3), some (vI v4), some (vI v5), e6, some (vI out), e8], [], S.ns, Hp S) r) → Ru none 15 315 119 (82, [some (.ref 36), some (vI v1), some (vI v2), some (vI v3), some (vI v4), some (vI v5), some (vI v6), some (vI v7), some (vI v8)], [], S.ns, Hp S) r := by
  intro n
  induction n with
  | zero => intro v7 v8 hdd out h; cases h
  | succ n ih =>
    intro v7 v8 hdd out h r hk
    unfold g119L82 at h
    refine Ru.op (q := (.iload 8, 2)) (S' := (84, _, _, _, _)) (by decide +kernel) rfl ?_
    refine Ru.op (q := (.iload 6, 2)) (S' := (86, _, _, _, _)) (by decide +kernel) rfl ?_
    obtain ⟨g10, h⟩ := gd_some h
    obtain ⟨g11, h⟩ := gd_some h
    by_cases b12 : v8 < v6
    · replace h := if_t b12 h
      refine Ru.br2 (k := .ge) (off := 49) (bb := false) (tg := 89) (by decide +kernel) (by decide +kernel) (ci_ge0 g10 g11 b12) rfl ?_
      refine Ru.op (q := (.iload 7, 2)) (S' := (91, _, _, _, _)) (by decide +kernel) rfl ?_
      obtain ⟨g13, h⟩ := gd_some h
      by_cases b14 : v7 = 0
      · replace h := if_t b14 h
        refine Ru.br (k := .ne) (off := 31) (bb := false) (tg := 94) (by decide +kernel) (by decide +kernel) (cz (ci_ne0 g13 (by decide) b14)) rfl ?_
        refine Ru.op (q := (.aload_n 0, 1)) (S' := (95, _, _, _, _)) (by decide +kernel) rfl ?_
        refine Ru.getR (pc' := 98) (i := 23) (ci := 10) (k := 6) (nn := 0) (z := 0) (v := .ref 40) (by decide +kernel) (by decide +kernel) (hp36 _) (by decide) rfl rfl ?_
        refine Ru.op (q := (.iload 8, 2)) (S' := (100, _, _, _, _)) (by decide +kernel) rfl ?_
        obtain ⟨g15, h⟩ := gd_some h
        refine Ru.bldI (pc' := 101) (i := v8) (z := (S.A 40 v8)) (by decide +kernel) (hp40 _) g15 (eI_of _) rfl ?_
        refine Ru.op (q := (.aload_n 0, 1)) (S' := (102, _, _, _, _)) (by decide +kernel) rfl ?_
        refine Ru.getR (pc' := 105) (i := 54) (ci := 10) (k := 26) (nn := 0) (z := 0) (v := .ref 49) (by decide +kernel) (by decide +kernel) (hp36 _) (by decide) rfl rfl ?_
        refine Ru.op (q := (.iload 4, 2)) (S' := (107, _, _, _, _)) (by decide +kernel) rfl ?_
        obtain ⟨g16, h⟩ := gd_some h
        refine Ru.bldI (pc' := 108) (i := v4) (z := (S.A 49 v4)) (by decide +kernel) (hp49 _) g16 (eI_of _) rfl ?_
        by_cases b17 : (S.A 40 v8) = (S.A 49 v4)
        · replace h := if_t b17 h
          refine Ru.br2 (k := .ne) (off := 18) (bb := false) (tg := 111) (by decide +kernel) (by decide +kernel) (ci_ne0 (inR_to _) (inR_to _) b17) rfl ?_
          refine Ru.op (q := (.aload_n 0, 1)) (S' := (112, _, _, _, _)) (by decide +kernel) rfl ?_
          refine Ru.op (q := (.iload 6, 2)) (S' := (114, _, _, _, _)) (by decide +kernel) rfl ?_
          refine Ru.op (q := (.iload 8, 2)) (S' := (116, _, _, _, _)) (by decide +kernel) rfl ?_
          obtain ⟨o18, e19, h⟩ := ob_some h
          refine Ru.vcallI (pc' := 119) (st' := [vI o18]) (i := 253) (j2 := 126) (ci := 10) (k := 0) (z := 0) (as := [vI v6, vI v8]) (by decide +kernel) (by decide +kernel) rfl rfl (hp36 _) (by decide) ⟨(Nat.le_of_ble_eq_true rfl), (by show 19 + 8 ≤ 315; exact Nat.le_of_ble_eq_true rfl), Nat.le_of_ble_eq_true rfl, Nat.le_of_ble_eq_true rfl⟩ ((g126_ok e19).up (Nat.le_of_ble_eq_true rfl) (Nat.le_of_ble_eq_true rfl)) rfl rfl ?_
          obtain ⟨g20, h⟩ := gd_some h
          by_cases b21 : o18 = 0
          · replace h := if_t b21 h
            refine Ru.br (k := .eq) (off := 7) (bb := true) (tg := 126) (by decide +kernel) (by decide +kernel) (cz (ci_eq1 g20 (by decide) b21)) rfl ?_
            refine Ru.kI (q := (.iconst 0, 1)) (c := 0) (pc' := 127) (by decide +kernel) rfl (by decide) rfl ?_
            refine Ru.op (q := (.istore 7, 2)) (S' := (129, [some (.ref 36), some (vI v1), some (vI v2), some (vI v3), some (vI v4), some (vI v5), some (vI v6), some (vI 0), some (vI v8)], [], _, _)) (by decide +kernel) rfl ?_
            refine Ru.inc (k := 8) (n := 1) (x := v8) (z := (v8 + 1)) (xs' := [some (.ref 36), some (vI v1), some (vI v2), some (vI v3), some (vI v4), some (vI v5), some (vI v6), some (vI 0), some (vI (v8 + 1))]) (pc' := 132) (by decide +kernel) rfl rfl rfl rfl ?_
            refine Ru.op (q := (.goto (-50), 3)) (S' := (82, _, _, _, _)) (by decide +kernel) rfl ?_
            exact ih _ _ trivial _ h r hk
          · replace h := if_f b21 h
            refine Ru.br (k := .eq) (off := 7) (bb := false) (tg := 122) (by decide +kernel) (by decide +kernel) (cz (ci_eq0 g20 (by decide) b21)) rfl ?_
            refine Ru.kI (q := (.iconst 1, 1)) (c := 1) (pc' := 123) (by decide +kernel) rfl (by decide) rfl ?_
            refine Ru.op (q := (.goto 4, 3)) (S' := (127, _, _, _, _)) (by decide +kernel) rfl ?_
            refine Ru.op (q := (.istore 7, 2)) (S' := (129, [some (.ref 36), some (vI v1), some (vI v2), some (vI v3), some (vI v4), some (vI v5), some (vI v6), some (vI 1), some (vI v8)], [], _, _)) (by decide +kernel) rfl ?_
            refine Ru.inc (k := 8) (n := 1) (x := v8) (z := (v8 + 1)) (xs' := [some (.ref 36), some (vI v1), some (vI v2), some (vI v3), some (vI v4), some (vI v5), some (vI v6), some (vI 1), some (vI (v8 + 1))]) (pc' := 132) (by decide +kernel) rfl rfl rfl rfl ?_
            refine Ru.op (q := (.goto (-50), 3)) (S' := (82, _, _, _, _)) (by decide +kernel) rfl ?_
            exact ih _ _ trivial _ h r hk
        · replace h := if_f b17 h
          refine Ru.br2 (k := .ne) (off := 18) (bb := true) (tg := 126) (by decide +kernel) (by decide +kernel) (ci_ne1 (inR_to _) (inR_to _) b17) rfl ?_
          refine Ru.kI (q := (.iconst 0, 1)) (c := 0) (pc' := 127) (by decide +kernel) rfl (by decide) rfl ?_
          refine Ru.op (q := (.istore 7, 2)) (S' := (129, [some (.ref 36), some (vI v1), some (vI v2), some (vI v3), some (vI v4), some (vI v5), some (vI v6), some (vI 0), some (vI v8)], [], _, _)) (by decide +kernel) rfl ?_
          refine Ru.inc (k := 8) (n := 1) (x := v8) (z := (v8 + 1)) (xs' := [some (.ref 36), some (vI v1), some (vI v2), some (vI v3), some (vI v4), some (vI v5), some (vI v6), some (vI 0), some (vI (v8 + 1))]) (pc' := 132) (by decide +kernel) rfl rfl rfl rfl ?_
          refine Ru.op (q := (.goto (-50), 3)) (S' := (82, _, _, _, _)) (by decide +kernel) rfl ?_
          exact ih _ _ trivial _ h r hk
      · replace h := if_f b14 h
        refine Ru.br (k := .ne) (off := 31) (bb := true) (tg := 122) (by decide +kernel) (by decide +kernel) (cz (ci_ne1 g13 (by decide) b14)) rfl ?_
        refine Ru.kI (q := (.iconst 1, 1)) (c := 1) (pc' := 123) (by decide +kernel) rfl (by decide) rfl ?_
        refine Ru.op (q := (.goto 4, 3)) (S' := (127, _, _, _, _)) (by decide +kernel) rfl ?_
        refine Ru.op (q := (.istore 7, 2)) (S' := (129, [some (.ref 36), some (vI v1), some (vI v2), some (vI v3), some (vI v4), some (vI v5), some (vI v6), some (vI 1), some (vI v8)], [], _, _)) (by decide +kernel) rfl ?_
        refine Ru.inc (k := 8) (n := 1) (x := v8) (z := (v8 + 1)) (xs' := [some (.ref 36), some (vI v1), some (vI v2), some (vI v3), some (vI v4), some (vI v5), some (vI v6), some (vI 1), some (vI (v8 + 1))]) (pc' := 132) (by decide +kernel) rfl rfl rfl rfl ?_
        refine Ru.op (q := (.goto (-50), 3)) (S' := (82, _, _, _, _)) (by decide +kernel) rfl ?_
        exact ih _ _ trivial _ h r hk
    · replace h := if_f b12 h
      refine Ru.br2 (k := .ge) (off := 49) (bb := true) (tg := 135) (by decide +kernel) (by decide +kernel) (ci_ge1 g10 g11 b12) rfl ?_
      cases h
      exact hk _ _ ⟨rfl, rfl, trivial⟩
set_option maxRecDepth 100000 in
set_option maxHeartbeats 4000000 in
theorem g119L11_ok {v1 : Int} : ∀ (n : Nat) (v2 : Int) (v3 : Int) (v4 : Int) (S : St) (d5 d6 d7 d8 : Option Value) (_ : DD [d5, d6, d7, d8]) (out : Sum (Int × Int × St) (Int × St)), g119L11 v1 n v2 v3 v4 S = some out → ∀ r, (∀ o, out = .inl o → ∀ (e4 e5 e6 e7 e8 : Option Value), DD [e4, e5, e6, e7, e8] → Ru none 15 315 119 (173, [some (.ref 36), some (vI v1), some (vI o.1), some (vI o.2.1), e4, e5, e6, e7, e8], [], o.2.2.ns, Hp o.2.2) r) → (∀ o, out = .inr o → r = ((0, some (vI o.1)), o.2.ns, Hp o.2)) → Ru none 15 315 119 (11, [some (.ref 36), some (vI v1), some (vI v2), some (vI v3), some (vI v4), d5, d6, d7, d8], [], S.ns, Hp S) r := by
  intro n
  induction n with
  | zero => intro v2 v3 v4 S d5 d6 d7 d8 hdd out h; cases h
  | succ n ih =>
    intro v2 v3 v4 S d5 d6 d7 d8 hdd out h r hk hr
    unfold g119L11 at h
    refine Ru.op (q := (.iload 4, 2)) (S' := (13, _, _, _, _)) (by decide +kernel) rfl ?_
    refine Ru.op (q := (.aload_n 0, 1)) (S' := (14, _, _, _, _)) (by decide +kernel) rfl ?_
    refine Ru.getI (pc' := 17) (i := 246) (ci := 10) (k := 24) (nn := 0) (z := 0) (x := (S.F 36 24)) (by decide +kernel) (by decide +kernel) (hp36 _) (by decide) rfl (eI_of _) rfl ?_
    obtain ⟨g33, h⟩ := gd_some h
    by_cases b34 : v4 < (S.F 36 24)
    · replace h := if_t b34 h
      refine Ru.br2 (k := .ge) (off := 156) (bb := false) (tg := 20) (by decide +kernel) (by decide +kernel) (ci_ge0 g33 (inR_to _) b34) rfl ?_
      refine Ru.op (q := (.aload_n 0, 1)) (S' := (21, _, _, _, _)) (by decide +kernel) rfl ?_
      refine Ru.op (q := (.aload_n 0, 1)) (S' := (22, _, _, _, _)) (by decide +kernel) rfl ?_
      refine Ru.getR (pc' := 25) (i := 51) (ci := 10) (k := 25) (nn := 0) (z := 0) (v := .ref 48) (by decide +kernel) (by decide +kernel) (hp36 _) (by decide) rfl rfl ?_
      refine Ru.op (q := (.iload 4, 2)) (S' := (27, _, _, _, _)) (by decide +kernel) rfl ?_
      obtain ⟨g35, h⟩ := gd_some h
      refine Ru.ildI (pc' := 28) (i := v4) (z := (S.A 48 v4)) (by decide +kernel) (hp48 _) g35 (eI_of _) rfl ?_
      refine Ru.op (q := (.iload_n 2, 1)) (S' := (29, _, _, _, _)) (by decide +kernel) rfl ?_
      refine Ru.op (q := (.iload_n 2, 1)) (S' := (30, _, _, _, _)) (by decide +kernel) rfl ?_
      refine Ru.kI (q := (.bipush 16, 2)) (c := 16) (pc' := 32) (by decide +kernel) rfl (by decide) rfl ?_
      refine Ru.ar2 (i := .iadd) (z := (v2 + 16)) (pc' := 33) (by decide +kernel) rfl (ar_add _ _) rfl ?_
      obtain ⟨o36, e37, h⟩ := ob_some h
      refine Ru.vcallI (pc' := 36) (st' := [vI o36.1]) (i := 249) (j2 := 120) (ci := 10) (k := 0) (z := 0) (as := [vI (S.A 48 v4), vI v2, vI (v2 + 16)]) (by decide +kernel) (by decide +kernel) rfl rfl (hp36 _) (by decide) ⟨(Nat.le_of_ble_eq_true rfl), (by show 19 + 9 ≤ 315; exact Nat.le_of_ble_eq_true rfl), Nat.le_of_ble_eq_true rfl, Nat.le_of_ble_eq_true rfl⟩ ((g120_ok e37).up (Nat.le_of_ble_eq_true rfl) (Nat.le_of_ble_eq_true rfl)) rfl rfl ?_
      refine Ru.op (q := (.istore 5, 2)) (S' := (38, [some (.ref 36), some (vI v1), some (vI v2), some (vI v3), some (vI v4), some (vI o36.1), d6, d7, d8], [], _, _)) (by decide +kernel) rfl ?_
      refine Ru.op (q := (.iload 5, 2)) (S' := (40, _, _, _, _)) (by decide +kernel) rfl ?_
      obtain ⟨g38, h⟩ := gd_some h
      by_cases b39 : o36.1 < 0
      · replace h := if_t b39 h
        refine Ru.br (k := .ge) (off := 5) (bb := false) (tg := 43) (by decide +kernel) (by decide +kernel) (cz (ci_ge0 g38 (by decide) b39)) rfl ?_
        refine Ru.kI (q := (.iconst 0, 1)) (c := 0) (pc' := 44) (by decide +kernel) rfl (by decide) rfl ?_
        cases h
        have h9 := hr _ rfl
        subst h9
        exact Ru.iret (by decide +kernel) rfl (nar_b1 (by decide))
      · replace h := if_f b39 h
        refine Ru.br (k := .ge) (off := 5) (bb := true) (tg := 45) (by decide +kernel) (by decide +kernel) (cz (ci_ge1 g38 (by decide) b39)) rfl ?_
        refine Ru.kI (q := (.sipush 496, 3)) (c := 496) (pc' := 48) (by decide +kernel) rfl (by decide) rfl ?_
        refine Ru.op (q := (.iload_n 3, 1)) (S' := (49, _, _, _, _)) (by decide +kernel) rfl ?_
        refine Ru.ar2 (i := .iadd) (z := (496 + v3)) (pc' := 50) (by decide +kernel) rfl (ar_add _ _) rfl ?_
        refine Ru.op (q := (.istore 6, 2)) (S' := (52, [some (.ref 36), some (vI v1), some (vI v2), some (vI v3), some (vI v4), some (vI o36.1), some (vI (496 + v3)), d7, d8], [], _, _)) (by decide +kernel) rfl ?_
        refine Ru.op (q := (.aload_n 0, 1)) (S' := (53, _, _, _, _)) (by decide +kernel) rfl ?_
        refine Ru.getR (pc' := 56) (i := 20) (ci := 10) (k := 5) (nn := 0) (z := 0) (v := .ref 39) (by decide +kernel) (by decide +kernel) (hp36 _) (by decide) rfl rfl ?_
        refine Ru.op (q := (.iload 6, 2)) (S' := (58, _, _, _, _)) (by decide +kernel) rfl ?_
        refine Ru.op (q := (.iload_n 2, 1)) (S' := (59, _, _, _, _)) (by decide +kernel) rfl ?_
        obtain ⟨g40, h⟩ := gd_some h
        refine Ru.istI (pc' := 60) (i := (496 + v3)) (x := v2) (by decide +kernel) (hp39 _) g40 (ps_39 _ _ _) rfl ?_
        refine Ru.op (q := (.aload_n 0, 1)) (S' := (61, _, _, _, _)) (by decide +kernel) rfl ?_
        refine Ru.getR (pc' := 64) (i := 23) (ci := 10) (k := 6) (nn := 0) (z := 0) (v := .ref 40) (by decide +kernel) (by decide +kernel) (hp36 _) (by decide) rfl rfl ?_
        refine Ru.op (q := (.iload 6, 2)) (S' := (66, _, _, _, _)) (by decide +kernel) rfl ?_
        refine Ru.op (q := (.aload_n 0, 1)) (S' := (67, _, _, _, _)) (by decide +kernel) rfl ?_
        refine Ru.getR (pc' := 70) (i := 54) (ci := 10) (k := 26) (nn := 0) (z := 0) (v := .ref 49) (by decide +kernel) (by decide +kernel) (hp36 _) (by decide) rfl rfl ?_
        refine Ru.op (q := (.iload 4, 2)) (S' := (72, _, _, _, _)) (by decide +kernel) rfl ?_
        refine Ru.bldI (pc' := 73) (i := v4) (z := (o36.2.A 49 v4)) (by decide +kernel) (hp49 _) g35 (eI_of _) rfl ?_
        obtain ⟨g41, h⟩ := gd_some h
        refine Ru.bstI (pc' := 74) (i := (496 + v3)) (x := (o36.2.A 49 v4)) (by decide +kernel) (hp40 _) g40 g41 (ps_40 _ _ _) rfl ?_
        refine Ru.kI (q := (.iconst 0, 1)) (c := 0) (pc' := 75) (by decide +kernel) rfl (by decide) rfl ?_
        refine Ru.op (q := (.istore 7, 2)) (S' := (77, [some (.ref 36), some (vI v1), some (vI v2), some (vI v3), some (vI v4), some (vI o36.1), some (vI (496 + v3)), some (vI 0), d8], [], _, _)) (by decide +kernel) rfl ?_
        refine Ru.kI (q := (.sipush 496, 3)) (c := 496) (pc' := 80) (by decide +kernel) rfl (by decide) rfl ?_
        refine Ru.op (q := (.istore 8, 2)) (S' := (82, [some (.ref 36), some (vI v1), some (vI v2), some (vI v3), some (vI v4), some (vI o36.1), some (vI (496 + v3)), some (vI 0), some (vI 496)], [], _, _)) (by decide +kernel) rfl ?_
        obtain ⟨o42, e45, h⟩ := ob_some h
        refine g119L82_ok FU _ _ trivial _ e45 _ ?_
        intro d43 d44 hd46
        refine Ru.op (q := (.iload 7, 2)) (S' := (137, _, _, _, _)) (by decide +kernel) rfl ?_
        obtain ⟨g47, h⟩ := gd_some h
        by_cases b48 : o42 = 0
        · replace h := if_t b48 h
          refine Ru.br (k := .eq) (off := 7) (bb := true) (tg := 144) (by decide +kernel) (by decide +kernel) (cz (ci_eq1 g47 (by decide) b48)) rfl ?_
          refine Ru.op (q := (.iload 5, 2)) (S' := (146, _, _, _, _)) (by decide +kernel) rfl ?_
          refine Ru.op (q := (.istore_n 2, 1)) (S' := (147, [some (.ref 36), some (vI v1), some (vI o36.1), some (vI v3), some (vI v4), some (vI o36.1), d43, some (vI o42), d44], [], _, _)) (by decide +kernel) rfl ?_
          refine Ru.op (q := (.iload 7, 2)) (S' := (149, _, _, _, _)) (by decide +kernel) rfl ?_
          refine Ru.br (k := .eq) (off := 7) (bb := true) (tg := 156) (by decide +kernel) (by decide +kernel) (cz (ci_eq1 g47 (by decide) b48)) rfl ?_
          refine Ru.op (q := (.iload_n 3, 1)) (S' := (157, _, _, _, _)) (by decide +kernel) rfl ?_
          refine Ru.kI (q := (.iconst 1, 1)) (c := 1) (pc' := 158) (by decide +kernel) rfl (by decide) rfl ?_
          refine Ru.ar2 (i := .iadd) (z := (v3 + 1)) (pc' := 159) (by decide +kernel) rfl (ar_add _ _) rfl ?_
          refine Ru.op (q := (.istore_n 3, 1)) (S' := (160, [some (.ref 36), some (vI v1), some (vI o36.1), some (vI (v3 + 1)), some (vI v4), some (vI o36.1), d43, some (vI o42), d44], [], _, _)) (by decide +kernel) rfl ?_
          refine Ru.op (q := (.iload_n 3, 1)) (S' := (161, _, _, _, _)) (by decide +kernel) rfl ?_
          refine Ru.kI (q := (.iconst 4, 1)) (c := 4) (pc' := 162) (by decide +kernel) rfl (by decide) rfl ?_
          obtain ⟨g49, h⟩ := gd_some h
          by_cases b50 : 4 < (v3 + 1)
          · replace h := if_t b50 h
            refine Ru.br2 (k := .le) (off := 5) (bb := false) (tg := 165) (by decide +kernel) (by decide +kernel) (ci_le0 g49 (by decide) b50) rfl ?_
            refine Ru.kI (q := (.iconst 0, 1)) (c := 0) (pc' := 166) (by decide +kernel) rfl (by decide) rfl ?_
            cases h
            have h9 := hr _ rfl
            subst h9
            exact Ru.iret (by decide +kernel) rfl (nar_b1 (by decide))
          · replace h := if_f b50 h
            refine Ru.br2 (k := .le) (off := 5) (bb := true) (tg := 167) (by decide +kernel) (by decide +kernel) (ci_le1 g49 (by decide) b50) rfl ?_
            refine Ru.inc (k := 4) (n := 1) (x := v4) (z := (v4 + 1)) (xs' := [some (.ref 36), some (vI v1), some (vI o36.1), some (vI (v3 + 1)), some (vI (v4 + 1)), some (vI o36.1), d43, some (vI o42), d44]) (pc' := 170) (by decide +kernel) rfl rfl rfl rfl ?_
            refine Ru.op (q := (.goto (-159), 3)) (S' := (11, _, _, _, _)) (by decide +kernel) rfl ?_
            exact ih _ _ _ _ _ _ _ _ ⟨rfl, hd46.1, rfl, hd46.2.1, trivial⟩ _ h r hk hr
        · replace h := if_f b48 h
          refine Ru.br (k := .eq) (off := 7) (bb := false) (tg := 140) (by decide +kernel) (by decide +kernel) (cz (ci_eq0 g47 (by decide) b48)) rfl ?_
          refine Ru.op (q := (.iload_n 2, 1)) (S' := (141, _, _, _, _)) (by decide +kernel) rfl ?_
          refine Ru.op (q := (.goto 5, 3)) (S' := (146, _, _, _, _)) (by decide +kernel) rfl ?_
          refine Ru.op (q := (.istore_n 2, 1)) (S' := (147, [some (.ref 36), some (vI v1), some (vI v2), some (vI v3), some (vI v4), some (vI o36.1), d43, some (vI o42), d44], [], _, _)) (by decide +kernel) rfl ?_
          refine Ru.op (q := (.iload 7, 2)) (S' := (149, _, _, _, _)) (by decide +kernel) rfl ?_
          refine Ru.br (k := .eq) (off := 7) (bb := false) (tg := 152) (by decide +kernel) (by decide +kernel) (cz (ci_eq0 g47 (by decide) b48)) rfl ?_
          refine Ru.op (q := (.iload_n 3, 1)) (S' := (153, _, _, _, _)) (by decide +kernel) rfl ?_
          refine Ru.op (q := (.goto 6, 3)) (S' := (159, _, _, _, _)) (by decide +kernel) rfl ?_
          refine Ru.op (q := (.istore_n 3, 1)) (S' := (160, [some (.ref 36), some (vI v1), some (vI v2), some (vI v3), some (vI v4), some (vI o36.1), d43, some (vI o42), d44], [], _, _)) (by decide +kernel) rfl ?_
          refine Ru.op (q := (.iload_n 3, 1)) (S' := (161, _, _, _, _)) (by decide +kernel) rfl ?_
          refine Ru.kI (q := (.iconst 4, 1)) (c := 4) (pc' := 162) (by decide +kernel) rfl (by decide) rfl ?_
          obtain ⟨g51, h⟩ := gd_some h
          by_cases b52 : 4 < v3
          · replace h := if_t b52 h
            refine Ru.br2 (k := .le) (off := 5) (bb := false) (tg := 165) (by decide +kernel) (by decide +kernel) (ci_le0 g51 (by decide) b52) rfl ?_
            refine Ru.kI (q := (.iconst 0, 1)) (c := 0) (pc' := 166) (by decide +kernel) rfl (by decide) rfl ?_
            cases h
            have h9 := hr _ rfl
            subst h9
            exact Ru.iret (by decide +kernel) rfl (nar_b1 (by decide))
          · replace h := if_f b52 h
            refine Ru.br2 (k := .le) (off := 5) (bb := true) (tg := 167) (by decide +kernel) (by decide +kernel) (ci_le1 g51 (by decide) b52) rfl ?_
            refine Ru.inc (k := 4) (n := 1) (x := v4) (z := (v4 + 1)) (xs' := [some (.ref 36), some (vI v1), some (vI v2), some (vI v3), some (vI (v4 + 1)), some (vI o36.1), d43, some (vI o42), d44]) (pc' := 170) (by decide +kernel) rfl rfl rfl rfl ?_
            refine Ru.op (q := (.goto (-159), 3)) (S' := (11, _, _, _, _)) (by decide +kernel) rfl ?_
            exact ih _ _ _ _ _ _ _ _ ⟨rfl, hd46.1, rfl, hd46.2.1, trivial⟩ _ h r hk hr
    · replace h := if_f b34 h
      refine Ru.br2 (k := .ge) (off := 156) (bb := true) (tg := 173) (by decide +kernel) (by decide +kernel) (ci_ge1 g33 (inR_to _) b34) rfl ?_
      cases h
      exact hk _ rfl _ _ _ _ _ ⟨rfl, hdd.1, hdd.2.1, hdd.2.2.1, hdd.2.2.2.1, trivial⟩
set_option maxRecDepth 100000 in
set_option maxHeartbeats 4000000 in
theorem g119_ok {S : St} {o : Int × St} (h : g119 S  = some o) : Ru none 15 315 119 (0, mn_pad (mn_ent [.ref 36]) 9, [], S.ns, Hp S) ((0, some (vI o.1)), o.2.ns, Hp o.2) := by
  unfold g119 at h
  show Ru none 15 315 119 (0, [some (.ref 36), none, none, none, none, none, none, none, none], [], S.ns, Hp S) _
  refine Ru.kI (q := (.sipush 7936, 3)) (c := 7936) (pc' := 3) (by decide +kernel) rfl (by decide) rfl ?_
  refine Ru.op (q := (.istore_n 1, 1)) (S' := (4, [some (.ref 36), some (vI 7936), none, none, none, none, none, none, none], [], _, _)) (by decide +kernel) rfl ?_
  refine Ru.op (q := (.iload_n 1, 1)) (S' := (5, _, _, _, _)) (by decide +kernel) rfl ?_
  refine Ru.op (q := (.istore_n 2, 1)) (S' := (6, [some (.ref 36), some (vI 7936), some (vI 7936), none, none, none, none, none, none], [], _, _)) (by decide +kernel) rfl ?_
  refine Ru.kI (q := (.iconst 0, 1)) (c := 0) (pc' := 7) (by decide +kernel) rfl (by decide) rfl ?_
  refine Ru.op (q := (.istore_n 3, 1)) (S' := (8, [some (.ref 36), some (vI 7936), some (vI 7936), some (vI 0), none, none, none, none, none], [], _, _)) (by decide +kernel) rfl ?_
  refine Ru.kI (q := (.iconst 0, 1)) (c := 0) (pc' := 9) (by decide +kernel) rfl (by decide) rfl ?_
  refine Ru.op (q := (.istore 4, 2)) (S' := (11, [some (.ref 36), some (vI 7936), some (vI 7936), some (vI 0), some (vI 0), none, none, none, none], [], _, _)) (by decide +kernel) rfl ?_
  rcases obr_some h with ⟨o53, e59, h⟩ | e59
  · refine g119L11_ok FU _ _ _ _ _ _ _ _ ⟨rfl, rfl, rfl, rfl, trivial⟩ _ e59 _ (fun o' e' => ?_) (fun o' e' => by cases e')
    cases e'
    intro d54 d55 d56 d57 d58 hd60
    refine Ru.op (q := (.aload_n 0, 1)) (S' := (174, _, _, _, _)) (by decide +kernel) rfl ?_
    refine Ru.getR (pc' := 177) (i := 27) (ci := 10) (k := 7) (nn := 0) (z := 0) (v := .ref 41) (by decide +kernel) (by decide +kernel) (hp36 _) (by decide) rfl rfl ?_
    refine Ru.kI (q := (.bipush 124, 2)) (c := 124) (pc' := 179) (by decide +kernel) rfl (by decide) rfl ?_
    refine Ru.op (q := (.iload_n 3, 1)) (S' := (180, _, _, _, _)) (by decide +kernel) rfl ?_
    refine Ru.istI (pc' := 181) (i := 124) (x := o53.2.1) (by decide +kernel) (hp41 _) (by decide) (ps_41 _ _ _) rfl ?_
    refine Ru.op (q := (.aload_n 0, 1)) (S' := (182, _, _, _, _)) (by decide +kernel) rfl ?_
    refine Ru.getR (pc' := 185) (i := 30) (ci := 10) (k := 8) (nn := 0) (z := 0) (v := .ref 42) (by decide +kernel) (by decide +kernel) (hp36 _) (by decide) rfl rfl ?_
    refine Ru.kI (q := (.bipush 124, 2)) (c := 124) (pc' := 187) (by decide +kernel) rfl (by decide) rfl ?_
    refine Ru.op (q := (.iload_n 2, 1)) (S' := (188, _, _, _, _)) (by decide +kernel) rfl ?_
    refine Ru.op (q := (.iload_n 1, 1)) (S' := (189, _, _, _, _)) (by decide +kernel) rfl ?_
    refine Ru.ar2 (i := .isub) (z := (o53.1 - 7936)) (pc' := 190) (by decide +kernel) rfl (ar_sub _ _) rfl ?_
    refine Ru.istI (pc' := 191) (i := 124) (x := (o53.1 - 7936)) (by decide +kernel) (hp42 _) (by decide) (ps_42 _ _ _) rfl ?_
    refine Ru.op (q := (.aload_n 0, 1)) (S' := (192, _, _, _, _)) (by decide +kernel) rfl ?_
    refine Ru.op (q := (.iload_n 1, 1)) (S' := (193, _, _, _, _)) (by decide +kernel) rfl ?_
    refine Ru.op (q := (.iload_n 2, 1)) (S' := (194, _, _, _, _)) (by decide +kernel) rfl ?_
    obtain ⟨o61, e62, h⟩ := ob_some h
    refine Ru.vcallI (pc' := 197) (st' := []) (i := 256) (j2 := 127) (ci := 10) (k := 0) (z := 0) (as := [vI 7936, vI o53.1]) (by decide +kernel) (by decide +kernel) rfl rfl (hp36 _) (by decide) ⟨(Nat.le_of_ble_eq_true rfl), (by show 19 + 5 ≤ 315; exact Nat.le_of_ble_eq_true rfl), Nat.le_of_ble_eq_true rfl, Nat.le_of_ble_eq_true rfl⟩ ((g127_ok e62).up (Nat.le_of_ble_eq_true rfl) (Nat.le_of_ble_eq_true rfl)) rfl rfl ?_
    refine Ru.kI (q := (.iconst 1, 1)) (c := 1) (pc' := 198) (by decide +kernel) rfl (by decide) rfl ?_
    cases h
    exact Ru.iret (by decide +kernel) rfl (nar_b1 (by decide))
  · exact g119L11_ok FU _ _ _ _ _ _ _ _ ⟨rfl, rfl, rfl, rfl, trivial⟩ _ e59 _ (fun o' e' => by cases e') (fun o' e' => by cases e'; rfl)
set_option maxRecDepth 100000 in
set_option maxHeartbeats 4000000 in
theorem g128L25_ok {S : St} {v2 : Int} : ∀ (n : Nat) (v1 : Int) (v3 : Int) (_ : DD []) (out : Int), g128L25 S v2 n v1 v3 = some out → ∀ r, (∀ (e3 : Option Value), DD [e3] → Ru none 14 290 128 (70, [some (.ref 36), some (vI out), some (vI v2), e3], [], S.ns, Hp S) r) → Ru none 14 290 128 (25, [some (.ref 36), some (vI v1), some (vI v2), some (vI v3)], [], S.ns, Hp S) r := by
  intro n
  induction n with
  | zero => intro v1 v3 hdd out h; cases h
  | succ n ih =>
    intro v1 v3 hdd out h r hk
    unfold g128L25 at h
    refine Ru.op (q := (.iload_n 3, 1)) (S' := (26, _, _, _, _)) (by decide +kernel) rfl ?_
    refine Ru.op (q := (.iload_n 2, 1)) (S' := (27, _, _, _, _)) (by decide +kernel) rfl ?_
    obtain ⟨g4, h⟩ := gd_some h
    obtain ⟨g5, h⟩ := gd_some h
    by_cases b6 : v3 < v2
    · replace h := if_t b6 h
      refine Ru.br2 (k := .ge) (off := 43) (bb := false) (tg := 30) (by decide +kernel) (by decide +kernel) (ci_ge0 g4 g5 b6) rfl ?_
      refine Ru.op (q := (.iload_n 1, 1)) (S' := (31, _, _, _, _)) (by decide +kernel) rfl ?_
      obtain ⟨g7, h⟩ := gd_some h
      by_cases b8 : v1 = 0
      · replace h := if_t b8 h
        refine Ru.br (k := .ne) (off := 27) (bb := false) (tg := 34) (by decide +kernel) (by decide +kernel) (cz (ci_ne0 g7 (by decide) b8)) rfl ?_
        refine Ru.op (q := (.aload_n 0, 1)) (S' := (35, _, _, _, _)) (by decide +kernel) rfl ?_
        refine Ru.getR (pc' := 38) (i := 23) (ci := 10) (k := 6) (nn := 0) (z := 0) (v := .ref 40) (by decide +kernel) (by decide +kernel) (hp36 _) (by decide) rfl rfl ?_
        refine Ru.op (q := (.iload_n 2, 1)) (S' := (39, _, _, _, _)) (by decide +kernel) rfl ?_
        obtain ⟨g9, h⟩ := gd_some h
        refine Ru.bldI (pc' := 40) (i := v2) (z := (S.A 40 v2)) (by decide +kernel) (hp40 _) g9 (eI_of _) rfl ?_
        refine Ru.op (q := (.aload_n 0, 1)) (S' := (41, _, _, _, _)) (by decide +kernel) rfl ?_
        refine Ru.getR (pc' := 44) (i := 23) (ci := 10) (k := 6) (nn := 0) (z := 0) (v := .ref 40) (by decide +kernel) (by decide +kernel) (hp36 _) (by decide) rfl rfl ?_
        refine Ru.op (q := (.iload_n 3, 1)) (S' := (45, _, _, _, _)) (by decide +kernel) rfl ?_
        obtain ⟨g10, h⟩ := gd_some h
        refine Ru.bldI (pc' := 46) (i := v3) (z := (S.A 40 v3)) (by decide +kernel) (hp40 _) g10 (eI_of _) rfl ?_
        by_cases b11 : (S.A 40 v2) = (S.A 40 v3)
        · replace h := if_t b11 h
          refine Ru.br2 (k := .eq) (off := 16) (bb := true) (tg := 62) (by decide +kernel) (by decide +kernel) (ci_eq1 (inR_to _) (inR_to _) b11) rfl ?_
          refine Ru.kI (q := (.iconst 0, 1)) (c := 0) (pc' := 63) (by decide +kernel) rfl (by decide) rfl ?_
          refine Ru.op (q := (.istore_n 1, 1)) (S' := (64, [some (.ref 36), some (vI 0), some (vI v2), some (vI v3)], [], _, _)) (by decide +kernel) rfl ?_
          refine Ru.inc (k := 3) (n := 1) (x := v3) (z := (v3 + 1)) (xs' := [some (.ref 36), some (vI 0), some (vI v2), some (vI (v3 + 1))]) (pc' := 67) (by decide +kernel) rfl rfl rfl rfl ?_
          refine Ru.op (q := (.goto (-42), 3)) (S' := (25, _, _, _, _)) (by decide +kernel) rfl ?_
          exact ih _ _ trivial _ h r hk
        · replace h := if_f b11 h
          refine Ru.br2 (k := .eq) (off := 16) (bb := false) (tg := 49) (by decide +kernel) (by decide +kernel) (ci_eq0 (inR_to _) (inR_to _) b11) rfl ?_
          refine Ru.op (q := (.aload_n 0, 1)) (S' := (50, _, _, _, _)) (by decide +kernel) rfl ?_
          refine Ru.op (q := (.iload_n 2, 1)) (S' := (51, _, _, _, _)) (by decide +kernel) rfl ?_
          refine Ru.op (q := (.iload_n 3, 1)) (S' := (52, _, _, _, _)) (by decide +kernel) rfl ?_
          obtain ⟨o12, e13, h⟩ := ob_some h
          refine Ru.vcallI (pc' := 55) (st' := [vI o12]) (i := 253) (j2 := 126) (ci := 10) (k := 0) (z := 0) (as := [vI v2, vI v3]) (by decide +kernel) (by decide +kernel) rfl rfl (hp36 _) (by decide) ⟨(Nat.le_of_ble_eq_true rfl), (by show 19 + 8 ≤ 290; exact Nat.le_of_ble_eq_true rfl), Nat.le_of_ble_eq_true rfl, Nat.le_of_ble_eq_true rfl⟩ ((g126_ok e13).up (Nat.le_of_ble_eq_true rfl) (Nat.le_of_ble_eq_true rfl)) rfl rfl ?_
          obtain ⟨g14, h⟩ := gd_some h
          by_cases b15 : o12 = 0
          · replace h := if_t b15 h
            refine Ru.br (k := .eq) (off := 7) (bb := true) (tg := 62) (by decide +kernel) (by decide +kernel) (cz (ci_eq1 g14 (by decide) b15)) rfl ?_
            refine Ru.kI (q := (.iconst 0, 1)) (c := 0) (pc' := 63) (by decide +kernel) rfl (by decide) rfl ?_
            refine Ru.op (q := (.istore_n 1, 1)) (S' := (64, [some (.ref 36), some (vI 0), some (vI v2), some (vI v3)], [], _, _)) (by decide +kernel) rfl ?_
            refine Ru.inc (k := 3) (n := 1) (x := v3) (z := (v3 + 1)) (xs' := [some (.ref 36), some (vI 0), some (vI v2), some (vI (v3 + 1))]) (pc' := 67) (by decide +kernel) rfl rfl rfl rfl ?_
            refine Ru.op (q := (.goto (-42), 3)) (S' := (25, _, _, _, _)) (by decide +kernel) rfl ?_
            exact ih _ _ trivial _ h r hk
          · replace h := if_f b15 h
            refine Ru.br (k := .eq) (off := 7) (bb := false) (tg := 58) (by decide +kernel) (by decide +kernel) (cz (ci_eq0 g14 (by decide) b15)) rfl ?_
            refine Ru.kI (q := (.iconst 1, 1)) (c := 1) (pc' := 59) (by decide +kernel) rfl (by decide) rfl ?_
            refine Ru.op (q := (.goto 4, 3)) (S' := (63, _, _, _, _)) (by decide +kernel) rfl ?_
            refine Ru.op (q := (.istore_n 1, 1)) (S' := (64, [some (.ref 36), some (vI 1), some (vI v2), some (vI v3)], [], _, _)) (by decide +kernel) rfl ?_
            refine Ru.inc (k := 3) (n := 1) (x := v3) (z := (v3 + 1)) (xs' := [some (.ref 36), some (vI 1), some (vI v2), some (vI (v3 + 1))]) (pc' := 67) (by decide +kernel) rfl rfl rfl rfl ?_
            refine Ru.op (q := (.goto (-42), 3)) (S' := (25, _, _, _, _)) (by decide +kernel) rfl ?_
            exact ih _ _ trivial _ h r hk
      · replace h := if_f b8 h
        refine Ru.br (k := .ne) (off := 27) (bb := true) (tg := 58) (by decide +kernel) (by decide +kernel) (cz (ci_ne1 g7 (by decide) b8)) rfl ?_
        refine Ru.kI (q := (.iconst 1, 1)) (c := 1) (pc' := 59) (by decide +kernel) rfl (by decide) rfl ?_
        refine Ru.op (q := (.goto 4, 3)) (S' := (63, _, _, _, _)) (by decide +kernel) rfl ?_
        refine Ru.op (q := (.istore_n 1, 1)) (S' := (64, [some (.ref 36), some (vI 1), some (vI v2), some (vI v3)], [], _, _)) (by decide +kernel) rfl ?_
        refine Ru.inc (k := 3) (n := 1) (x := v3) (z := (v3 + 1)) (xs' := [some (.ref 36), some (vI 1), some (vI v2), some (vI (v3 + 1))]) (pc' := 67) (by decide +kernel) rfl rfl rfl rfl ?_
        refine Ru.op (q := (.goto (-42), 3)) (S' := (25, _, _, _, _)) (by decide +kernel) rfl ?_
        exact ih _ _ trivial _ h r hk
    · replace h := if_f b6 h
      refine Ru.br2 (k := .ge) (off := 43) (bb := true) (tg := 70) (by decide +kernel) (by decide +kernel) (ci_ge1 g4 g5 b6) rfl ?_
      cases h
      exact hk _ ⟨rfl, trivial⟩
set_option maxRecDepth 100000 in
set_option maxHeartbeats 4000000 in
theorem g128L6_ok {S : St} : ∀ (n : Nat) (v1 : Int) (v2 : Int) (d3 : Option Value) (_ : DD [d3]) (out : Int), g128L6 S n v1 v2 = some out → ∀ r, (∀ (e0 e2 e3 : Option Value), DD [e0, e2, e3] → Ru none 14 290 128 (76, [e0, some (vI out), e2, e3], [], S.ns, Hp S) r) → Ru none 14 290 128 (6, [some (.ref 36), some (vI v1), some (vI v2), d3], [], S.ns, Hp S) r := by
  intro n
  induction n with
  | zero => intro v1 v2 d3 hdd out h; cases h
  | succ n ih =>
    intro v1 v2 d3 hdd out h r hk
    unfold g128L6 at h
    refine Ru.op (q := (.iload_n 2, 1)) (S' := (7, _, _, _, _)) (by decide +kernel) rfl ?_
    refine Ru.kI (q := (.sipush 496, 3)) (c := 496) (pc' := 10) (by decide +kernel) rfl (by decide) rfl ?_
    refine Ru.op (q := (.aload_n 0, 1)) (S' := (11, _, _, _, _)) (by decide +kernel) rfl ?_
    refine Ru.getR (pc' := 14) (i := 27) (ci := 10) (k := 7) (nn := 0) (z := 0) (v := .ref 41) (by decide +kernel) (by decide +kernel) (hp36 _) (by decide) rfl rfl ?_
    refine Ru.kI (q := (.bipush 124, 2)) (c := 124) (pc' := 16) (by decide +kernel) rfl (by decide) rfl ?_
    refine Ru.ildI (pc' := 17) (i := 124) (z := (S.A 41 124)) (by decide +kernel) (hp41 _) (by decide) (eI_of _) rfl ?_
    refine Ru.ar2 (i := .iadd) (z := (496 + (S.A 41 124))) (pc' := 18) (by decide +kernel) rfl (ar_add _ _) rfl ?_
    obtain ⟨g1, h⟩ := gd_some h
    obtain ⟨g2, h⟩ := gd_some h
    by_cases b3 : v2 < (496 + (S.A 41 124))
    · replace h := if_t b3 h
      refine Ru.br2 (k := .ge) (off := 58) (bb := false) (tg := 21) (by decide +kernel) (by decide +kernel) (ci_ge0 g1 g2 b3) rfl ?_
      refine Ru.kI (q := (.sipush 496, 3)) (c := 496) (pc' := 24) (by decide +kernel) rfl (by decide) rfl ?_
      refine Ru.op (q := (.istore_n 3, 1)) (S' := (25, [some (.ref 36), some (vI v1), some (vI v2), some (vI 496)], [], _, _)) (by decide +kernel) rfl ?_
      obtain ⟨o16, e18, h⟩ := ob_some h
      refine g128L25_ok FU _ _ trivial _ e18 _ ?_
      intro d17 hd19
      refine Ru.inc (k := 2) (n := 1) (x := v2) (z := (v2 + 1)) (xs' := [some (.ref 36), some (vI o16), some (vI (v2 + 1)), d17]) (pc' := 73) (by decide +kernel) rfl rfl rfl rfl ?_
      refine Ru.op (q := (.goto (-67), 3)) (S' := (6, _, _, _, _)) (by decide +kernel) rfl ?_
      exact ih _ _ _ ⟨hd19.1, trivial⟩ _ h r hk
    · replace h := if_f b3 h
      refine Ru.br2 (k := .ge) (off := 58) (bb := true) (tg := 76) (by decide +kernel) (by decide +kernel) (ci_ge1 g1 g2 b3) rfl ?_
      cases h
      exact hk _ _ _ ⟨rfl, rfl, hdd.1, trivial⟩
set_option maxRecDepth 100000 in
set_option maxHeartbeats 4000000 in
theorem g128_ok {S : St} {o : Int} (h : g128 S  = some o) : Ru none 14 290 128 (0, mn_pad (mn_ent [.ref 36]) 4, [], S.ns, Hp S) ((0, some (vI o)), S.ns, Hp S) := by
  unfold g128 at h
  show Ru none 14 290 128 (0, [some (.ref 36), none, none, none], [], S.ns, Hp S) _
  refine Ru.kI (q := (.iconst 0, 1)) (c := 0) (pc' := 1) (by decide +kernel) rfl (by decide) rfl ?_
  refine Ru.op (q := (.istore_n 1, 1)) (S' := (2, [some (.ref 36), some (vI 0), none, none], [], _, _)) (by decide +kernel) rfl ?_
  refine Ru.kI (q := (.sipush 496, 3)) (c := 496) (pc' := 5) (by decide +kernel) rfl (by decide) rfl ?_
  refine Ru.op (q := (.istore_n 2, 1)) (S' := (6, [some (.ref 36), some (vI 0), some (vI 496), none], [], _, _)) (by decide +kernel) rfl ?_
  obtain ⟨o20, e24, h⟩ := ob_some h
  refine g128L6_ok FU _ _ _ ⟨rfl, trivial⟩ _ e24 _ ?_
  intro d21 d22 d23 hd25
  refine Ru.op (q := (.iload_n 1, 1)) (S' := (77, _, _, _, _)) (by decide +kernel) rfl ?_
  obtain ⟨g26, h⟩ := gd_some h
  cases h
  exact Ru.iret (by decide +kernel) rfl (nar_b1 g26)
