set_option maxRecDepth 100000 in
set_option maxHeartbeats 4000000 in
theorem g141L2_ok {v1 : Int} {v2 : Int} : ∀ (n : Nat) (v3 : Int) (S : St) (d4 : Option Value) (_ : DD [d4]) (out : St), g141L2 v1 v2 n v3 S = some out → ∀ r, (∀ (e0 e1 e2 e3 e4 : Option Value), DD [e0, e1, e2, e3, e4] → Ru none 11 220 141 (56, [e0, e1, e2, e3, e4], [], out.ns, Hp out) r) → Ru none 11 220 141 (2, [some (.ref 36), some (vI v1), some (vI v2), some (vI v3), d4], [], S.ns, Hp S) r := by
  intro n
  induction n with
  | zero => intro v3 S d4 hdd out h; cases h
  | succ n ih =>
    intro v3 S d4 hdd out h r hk
    unfold g141L2 at h
    refine Ru.op (q := (.iload_n 3, 1)) (S' := (3, _, _, _, _)) (by decide +kernel) rfl ?_
    refine Ru.op (q := (.aload_n 0, 1)) (S' := (4, _, _, _, _)) (by decide +kernel) rfl ?_
    refine Ru.getR (pc' := 7) (i := 30) (ci := 10) (k := 8) (nn := 0) (z := 0) (v := .ref 42) (by decide +kernel) (by decide +kernel) (hp36 _) (by decide) rfl rfl ?_
    refine Ru.op (q := (.iload_n 1, 1)) (S' := (8, _, _, _, _)) (by decide +kernel) rfl ?_
    obtain ⟨g1, h⟩ := gd_some h
    refine Ru.ildI (pc' := 9) (i := v1) (z := (S.A 42 v1)) (by decide +kernel) (hp42 _) g1 (eI_of _) rfl ?_
    obtain ⟨g2, h⟩ := gd_some h
    by_cases b3 : v3 < (S.A 42 v1)
    · replace h := if_t b3 h
      refine Ru.br2 (k := .ge) (off := 47) (bb := false) (tg := 12) (by decide +kernel) (by decide +kernel) (ci_ge0 g2 (inR_to _) b3) rfl ?_
      refine Ru.op (q := (.aload_n 0, 1)) (S' := (13, _, _, _, _)) (by decide +kernel) rfl ?_
      refine Ru.getR (pc' := 16) (i := 17) (ci := 10) (k := 4) (nn := 0) (z := 0) (v := .ref 38) (by decide +kernel) (by decide +kernel) (hp36 _) (by decide) rfl rfl ?_
      refine Ru.kI (q := (.bipush 64, 2)) (c := 64) (pc' := 18) (by decide +kernel) rfl (by decide) rfl ?_
      refine Ru.op (q := (.iload_n 1, 1)) (S' := (19, _, _, _, _)) (by decide +kernel) rfl ?_
      refine Ru.ar2 (i := .imul) (z := (64 * v1)) (pc' := 20) (by decide +kernel) rfl (ar_mul _ _) rfl ?_
      refine Ru.op (q := (.iload_n 3, 1)) (S' := (21, _, _, _, _)) (by decide +kernel) rfl ?_
      refine Ru.ar2 (i := .iadd) (z := ((64 * v1) + v3)) (pc' := 22) (by decide +kernel) rfl (ar_add _ _) rfl ?_
      obtain ⟨g4, h⟩ := gd_some h
      refine Ru.ildI (pc' := 23) (i := ((64 * v1) + v3)) (z := (S.A 38 ((64 * v1) + v3))) (by decide +kernel) (hp38 _) g4 (eI_of _) rfl ?_
      refine Ru.op (q := (.istore 4, 2)) (S' := (25, [some (.ref 36), some (vI v1), some (vI v2), some (vI v3), some (vI (S.A 38 ((64 * v1) + v3)))], [], _, _)) (by decide +kernel) rfl ?_
      refine Ru.op (q := (.aload_n 0, 1)) (S' := (26, _, _, _, _)) (by decide +kernel) rfl ?_
      refine Ru.getR (pc' := 29) (i := 45) (ci := 10) (k := 21) (nn := 0) (z := 0) (v := .ref 46) (by decide +kernel) (by decide +kernel) (hp36 _) (by decide) rfl rfl ?_
      refine Ru.op (q := (.iload_n 2, 1)) (S' := (30, _, _, _, _)) (by decide +kernel) rfl ?_
      refine Ru.op (q := (.iload_n 3, 1)) (S' := (31, _, _, _, _)) (by decide +kernel) rfl ?_
      refine Ru.ar2 (i := .iadd) (z := (v2 + v3)) (pc' := 32) (by decide +kernel) rfl (ar_add _ _) rfl ?_
      refine Ru.op (q := (.iload 4, 2)) (S' := (34, _, _, _, _)) (by decide +kernel) rfl ?_
      obtain ⟨o5, e6, h⟩ := ob_some h
      refine Ru.callI (pc' := 37) (q := (.invokestatic 132, 3)) (j2 := 122) (as := [vI (S.A 38 ((64 * v1) + v3))]) (st' := [vI o5, vI (v2 + v3), .ref 46]) (by decide +kernel) rfl rfl rfl rfl ⟨(Nat.le_of_ble_eq_true rfl), (by show 19 + 1 ≤ 220; exact Nat.le_of_ble_eq_true rfl), Nat.le_of_ble_eq_true rfl, Nat.le_of_ble_eq_true rfl⟩ ((g122_ok e6).up (Nat.le_of_ble_eq_true rfl) (Nat.le_of_ble_eq_true rfl)) rfl rfl ?_
      obtain ⟨g7, h⟩ := gd_some h
      by_cases b8 : o5 = 0
      · replace h := if_t b8 h
        refine Ru.br (k := .eq) (off := 10) (bb := true) (tg := 47) (by decide +kernel) (by decide +kernel) (cz (ci_eq1 g7 (by decide) b8)) rfl ?_
        refine Ru.op (q := (.iload 4, 2)) (S' := (49, _, _, _, _)) (by decide +kernel) rfl ?_
        obtain ⟨g9, h⟩ := gd_some h
        refine Ru.istI (pc' := 50) (i := (v2 + v3)) (x := (S.A 38 ((64 * v1) + v3))) (by decide +kernel) (hp46 _) g9 (ps_46 _ _ _) rfl ?_
        refine Ru.inc (k := 3) (n := 1) (x := v3) (z := (v3 + 1)) (xs' := [some (.ref 36), some (vI v1), some (vI v2), some (vI (v3 + 1)), some (vI (S.A 38 ((64 * v1) + v3)))]) (pc' := 53) (by decide +kernel) rfl rfl rfl rfl ?_
        refine Ru.op (q := (.goto (-51), 3)) (S' := (2, _, _, _, _)) (by decide +kernel) rfl ?_
        exact ih _ _ _ ⟨rfl, trivial⟩ _ h r hk
      · replace h := if_f b8 h
        refine Ru.br (k := .eq) (off := 10) (bb := false) (tg := 40) (by decide +kernel) (by decide +kernel) (cz (ci_eq0 g7 (by decide) b8)) rfl ?_
        refine Ru.op (q := (.iload 4, 2)) (S' := (42, _, _, _, _)) (by decide +kernel) rfl ?_
        refine Ru.op (q := (.iload_n 2, 1)) (S' := (43, _, _, _, _)) (by decide +kernel) rfl ?_
        refine Ru.ar2 (i := .iadd) (z := ((S.A 38 ((64 * v1) + v3)) + v2)) (pc' := 44) (by decide +kernel) rfl (ar_add _ _) rfl ?_
        refine Ru.op (q := (.goto 5, 3)) (S' := (49, _, _, _, _)) (by decide +kernel) rfl ?_
        obtain ⟨g10, h⟩ := gd_some h
        refine Ru.istI (pc' := 50) (i := (v2 + v3)) (x := ((S.A 38 ((64 * v1) + v3)) + v2)) (by decide +kernel) (hp46 _) g10 (ps_46 _ _ _) rfl ?_
        refine Ru.inc (k := 3) (n := 1) (x := v3) (z := (v3 + 1)) (xs' := [some (.ref 36), some (vI v1), some (vI v2), some (vI (v3 + 1)), some (vI (S.A 38 ((64 * v1) + v3)))]) (pc' := 53) (by decide +kernel) rfl rfl rfl rfl ?_
        refine Ru.op (q := (.goto (-51), 3)) (S' := (2, _, _, _, _)) (by decide +kernel) rfl ?_
        exact ih _ _ _ ⟨rfl, trivial⟩ _ h r hk
    · replace h := if_f b3 h
      refine Ru.br2 (k := .ge) (off := 47) (bb := true) (tg := 56) (by decide +kernel) (by decide +kernel) (ci_ge1 g2 (inR_to _) b3) rfl ?_
      cases h
      exact hk _ _ _ _ _ ⟨rfl, rfl, rfl, rfl, hdd.1, trivial⟩
set_option maxRecDepth 100000 in
set_option maxHeartbeats 4000000 in
theorem g141_ok {S : St} {v1 : Int} {v2 : Int} {o : St} (h : g141 S v1 v2 = some o) : Ru none 11 220 141 (0, mn_pad (mn_ent [.ref 36, vI v1, vI v2]) 5, [], S.ns, Hp S) ((0, none), o.ns, Hp o) := by
  unfold g141 at h
  show Ru none 11 220 141 (0, [some (.ref 36), some (vI v1), some (vI v2), none, none], [], S.ns, Hp S) _
  refine Ru.kI (q := (.iconst 0, 1)) (c := 0) (pc' := 1) (by decide +kernel) rfl (by decide) rfl ?_
  refine Ru.op (q := (.istore_n 3, 1)) (S' := (2, [some (.ref 36), some (vI v1), some (vI v2), some (vI 0), none], [], _, _)) (by decide +kernel) rfl ?_
  obtain ⟨o11, e17, h⟩ := ob_some h
  refine g141L2_ok FU _ _ _ ⟨rfl, trivial⟩ _ e17 _ ?_
  intro d12 d13 d14 d15 d16 hd18
  cases h
  exact Ru.end (q := (.return_, 1)) (by decide +kernel) rfl rfl
set_option maxRecDepth 100000 in
set_option maxHeartbeats 4000000 in
theorem g143_ok {S : St} {v1 : Int} {v2 : Int} {v3 : Int} {o : Int} (h : g143 S v1 v2 v3 = some o) : Ru none 10 200 143 (0, mn_pad (mn_ent [.ref 36, vI v1, vI v2, vI v3]) 4, [], S.ns, Hp S) ((0, some (vI o)), S.ns, Hp S) := by
  unfold g143 at h
  show Ru none 10 200 143 (0, [some (.ref 36), some (vI v1), some (vI v2), some (vI v3)], [], S.ns, Hp S) _
  refine Ru.op (q := (.aload_n 0, 1)) (S' := (1, _, _, _, _)) (by decide +kernel) rfl ?_
  refine Ru.getR (pc' := 4) (i := 20) (ci := 10) (k := 5) (nn := 0) (z := 0) (v := .ref 39) (by decide +kernel) (by decide +kernel) (hp36 _) (by decide) rfl rfl ?_
  refine Ru.kI (q := (.iconst 4, 1)) (c := 4) (pc' := 5) (by decide +kernel) rfl (by decide) rfl ?_
  refine Ru.op (q := (.iload_n 1, 1)) (S' := (6, _, _, _, _)) (by decide +kernel) rfl ?_
  refine Ru.ar2 (i := .imul) (z := (4 * v1)) (pc' := 7) (by decide +kernel) rfl (ar_mul _ _) rfl ?_
  refine Ru.op (q := (.iload_n 2, 1)) (S' := (8, _, _, _, _)) (by decide +kernel) rfl ?_
  refine Ru.ar2 (i := .iadd) (z := ((4 * v1) + v2)) (pc' := 9) (by decide +kernel) rfl (ar_add _ _) rfl ?_
  obtain ⟨g1, h⟩ := gd_some h
  refine Ru.ildI (pc' := 10) (i := ((4 * v1) + v2)) (z := (S.A 39 ((4 * v1) + v2))) (by decide +kernel) (hp39 _) g1 (eI_of _) rfl ?_
  refine Ru.kI (q := (.bipush 64, 2)) (c := 64) (pc' := 12) (by decide +kernel) rfl (by decide) rfl ?_
  refine Ru.op (q := (.iload_n 1, 1)) (S' := (13, _, _, _, _)) (by decide +kernel) rfl ?_
  refine Ru.ar2 (i := .imul) (z := (64 * v1)) (pc' := 14) (by decide +kernel) rfl (ar_mul _ _) rfl ?_
  refine Ru.ar2 (i := .isub) (z := ((S.A 39 ((4 * v1) + v2)) - (64 * v1))) (pc' := 15) (by decide +kernel) rfl (ar_sub _ _) rfl ?_
  refine Ru.op (q := (.iload_n 3, 1)) (S' := (16, _, _, _, _)) (by decide +kernel) rfl ?_
  refine Ru.ar2 (i := .iadd) (z := (((S.A 39 ((4 * v1) + v2)) - (64 * v1)) + v3)) (pc' := 17) (by decide +kernel) rfl (ar_add _ _) rfl ?_
  cases h
  exact Ru.iret (by decide +kernel) rfl rfl
set_option maxRecDepth 100000 in
set_option maxHeartbeats 4000000 in
theorem g142L3_ok {v1 : Int} {v2 : Int} {v3 : Int} : ∀ (n : Nat) (v4 : Int) (S : St) (_ : DD []) (out : St), g142L3 v1 v2 v3 n v4 S = some out → ∀ r, (∀ (e0 e1 e2 e3 e4 : Option Value), DD [e0, e1, e2, e3, e4] → Ru none 11 223 142 (73, [e0, e1, e2, e3, e4], [], out.ns, Hp out) r) → Ru none 11 223 142 (3, [some (.ref 36), some (vI v1), some (vI v2), some (vI v3), some (vI v4)], [], S.ns, Hp S) r := by
  intro n
  induction n with
  | zero => intro v4 S hdd out h; cases h
  | succ n ih =>
    intro v4 S hdd out h r hk
    unfold g142L3 at h
    refine Ru.op (q := (.iload 4, 2)) (S' := (5, _, _, _, _)) (by decide +kernel) rfl ?_
    refine Ru.op (q := (.aload_n 0, 1)) (S' := (6, _, _, _, _)) (by decide +kernel) rfl ?_
    refine Ru.getR (pc' := 9) (i := 27) (ci := 10) (k := 7) (nn := 0) (z := 0) (v := .ref 41) (by decide +kernel) (by decide +kernel) (hp36 _) (by decide) rfl rfl ?_
    refine Ru.op (q := (.iload_n 1, 1)) (S' := (10, _, _, _, _)) (by decide +kernel) rfl ?_
    obtain ⟨g1, h⟩ := gd_some h
    refine Ru.ildI (pc' := 11) (i := v1) (z := (S.A 41 v1)) (by decide +kernel) (hp41 _) g1 (eI_of _) rfl ?_
    obtain ⟨g2, h⟩ := gd_some h
    by_cases b3 : v4 < (S.A 41 v1)
    · replace h := if_t b3 h
      refine Ru.br2 (k := .ge) (off := 62) (bb := false) (tg := 14) (by decide +kernel) (by decide +kernel) (ci_ge0 g2 (inR_to _) b3) rfl ?_
      refine Ru.op (q := (.iload 4, 2)) (S' := (16, _, _, _, _)) (by decide +kernel) rfl ?_
      refine Ru.op (q := (.iload_n 2, 1)) (S' := (17, _, _, _, _)) (by decide +kernel) rfl ?_
      obtain ⟨g4, h⟩ := gd_some h
      by_cases b5 : v4 = v2
      · replace h := if_t b5 h
        refine Ru.br2 (k := .eq) (off := 50) (bb := true) (tg := 67) (by decide +kernel) (by decide +kernel) (ci_eq1 g2 g4 b5) rfl ?_
        refine Ru.inc (k := 4) (n := 1) (x := v4) (z := (v4 + 1)) (xs' := [some (.ref 36), some (vI v1), some (vI v2), some (vI v3), some (vI (v4 + 1))]) (pc' := 70) (by decide +kernel) rfl rfl rfl rfl ?_
        refine Ru.op (q := (.goto (-67), 3)) (S' := (3, _, _, _, _)) (by decide +kernel) rfl ?_
        exact ih _ _ trivial _ h r hk
      · replace h := if_f b5 h
        refine Ru.br2 (k := .eq) (off := 50) (bb := false) (tg := 20) (by decide +kernel) (by decide +kernel) (ci_eq0 g2 g4 b5) rfl ?_
        refine Ru.op (q := (.aload_n 0, 1)) (S' := (21, _, _, _, _)) (by decide +kernel) rfl ?_
        refine Ru.getR (pc' := 24) (i := 51) (ci := 10) (k := 25) (nn := 0) (z := 0) (v := .ref 48) (by decide +kernel) (by decide +kernel) (hp36 _) (by decide) rfl rfl ?_
        refine Ru.op (q := (.aload_n 0, 1)) (S' := (25, _, _, _, _)) (by decide +kernel) rfl ?_
        refine Ru.getI (pc' := 28) (i := 246) (ci := 10) (k := 24) (nn := 0) (z := 0) (x := (S.F 36 24)) (by decide +kernel) (by decide +kernel) (hp36 _) (by decide) rfl (eI_of _) rfl ?_
        refine Ru.op (q := (.aload_n 0, 1)) (S' := (29, _, _, _, _)) (by decide +kernel) rfl ?_
        refine Ru.op (q := (.iload_n 1, 1)) (S' := (30, _, _, _, _)) (by decide +kernel) rfl ?_
        refine Ru.op (q := (.iload 4, 2)) (S' := (32, _, _, _, _)) (by decide +kernel) rfl ?_
        refine Ru.op (q := (.iload_n 3, 1)) (S' := (33, _, _, _, _)) (by decide +kernel) rfl ?_
        obtain ⟨o6, e7, h⟩ := ob_some h
        refine Ru.vcallI (pc' := 36) (st' := [vI o6, vI (S.F 36 24), .ref 48]) (i := 311) (j2 := 143) (ci := 10) (k := 0) (z := 0) (as := [vI v1, vI v4, vI v3]) (by decide +kernel) (by decide +kernel) rfl rfl (hp36 _) (by decide) ⟨(Nat.le_of_ble_eq_true rfl), (by show 19 + 4 ≤ 223; exact Nat.le_of_ble_eq_true rfl), Nat.le_of_ble_eq_true rfl, Nat.le_of_ble_eq_true rfl⟩ ((g143_ok e7).up (Nat.le_of_ble_eq_true rfl) (Nat.le_of_ble_eq_true rfl)) rfl rfl ?_
        obtain ⟨g8, h⟩ := gd_some h
        refine Ru.istI (pc' := 37) (i := (S.F 36 24)) (x := o6) (by decide +kernel) (hp48 _) g8 (ps_48 _ _ _) rfl ?_
        refine Ru.op (q := (.aload_n 0, 1)) (S' := (38, _, _, _, _)) (by decide +kernel) rfl ?_
        refine Ru.getR (pc' := 41) (i := 54) (ci := 10) (k := 26) (nn := 0) (z := 0) (v := .ref 49) (by decide +kernel) (by decide +kernel) (hp36 _) (by decide) rfl rfl ?_
        refine Ru.op (q := (.aload_n 0, 1)) (S' := (42, _, _, _, _)) (by decide +kernel) rfl ?_
        refine Ru.getI (pc' := 45) (i := 246) (ci := 10) (k := 24) (nn := 0) (z := 0) (x := (S.F 36 24)) (by decide +kernel) (by decide +kernel) (hp36 _) (by decide) rfl (eI_of _) rfl ?_
        refine Ru.op (q := (.aload_n 0, 1)) (S' := (46, _, _, _, _)) (by decide +kernel) rfl ?_
        refine Ru.getR (pc' := 49) (i := 23) (ci := 10) (k := 6) (nn := 0) (z := 0) (v := .ref 40) (by decide +kernel) (by decide +kernel) (hp36 _) (by decide) rfl rfl ?_
        refine Ru.kI (q := (.iconst 4, 1)) (c := 4) (pc' := 50) (by decide +kernel) rfl (by decide) rfl ?_
        refine Ru.op (q := (.iload_n 1, 1)) (S' := (51, _, _, _, _)) (by decide +kernel) rfl ?_
        refine Ru.ar2 (i := .imul) (z := (4 * v1)) (pc' := 52) (by decide +kernel) rfl (ar_mul _ _) rfl ?_
        refine Ru.op (q := (.iload 4, 2)) (S' := (54, _, _, _, _)) (by decide +kernel) rfl ?_
        refine Ru.ar2 (i := .iadd) (z := ((4 * v1) + v4)) (pc' := 55) (by decide +kernel) rfl (ar_add _ _) rfl ?_
        obtain ⟨g9, h⟩ := gd_some h
        refine Ru.bldI (pc' := 56) (i := ((4 * v1) + v4)) (z := (S.A 40 ((4 * v1) + v4))) (by decide +kernel) (hp40 _) g9 (eI_of _) rfl ?_
        obtain ⟨g10, h⟩ := gd_some h
        refine Ru.bstI (pc' := 57) (i := (S.F 36 24)) (x := (S.A 40 ((4 * v1) + v4))) (by decide +kernel) (hp49 _) g8 g10 (ps_49 _ _ _) rfl ?_
        refine Ru.op (q := (.aload_n 0, 1)) (S' := (58, _, _, _, _)) (by decide +kernel) rfl ?_
        refine Ru.op (q := (.dup, 1)) (S' := (59, _, _, _, _)) (by decide +kernel) rfl ?_
        refine Ru.getI (pc' := 62) (i := 246) (ci := 10) (k := 24) (nn := 0) (z := 0) (x := (S.F 36 24)) (by decide +kernel) (by decide +kernel) (hp36 _) (by decide) rfl (eI_of _) rfl ?_
        refine Ru.kI (q := (.iconst 1, 1)) (c := 1) (pc' := 63) (by decide +kernel) rfl (by decide) rfl ?_
        refine Ru.ar2 (i := .iadd) (z := ((S.F 36 24) + 1)) (pc' := 64) (by decide +kernel) rfl (ar_add _ _) rfl ?_
        refine Ru.putH (pc' := 67) (i := 246) (ci := 10) (k := 24) (nn := 0) (z := 0) (by decide +kernel) (by decide +kernel) (hp36 _) (by decide) (Nat.le_of_ble_eq_true rfl) rfl (by decide +kernel) (pf_36_24 _ _) rfl ?_
        refine Ru.inc (k := 4) (n := 1) (x := v4) (z := (v4 + 1)) (xs' := [some (.ref 36), some (vI v1), some (vI v2), some (vI v3), some (vI (v4 + 1))]) (pc' := 70) (by decide +kernel) rfl rfl rfl rfl ?_
        refine Ru.op (q := (.goto (-67), 3)) (S' := (3, _, _, _, _)) (by decide +kernel) rfl ?_
        exact ih _ _ trivial _ h r hk
    · replace h := if_f b3 h
      refine Ru.br2 (k := .ge) (off := 62) (bb := true) (tg := 73) (by decide +kernel) (by decide +kernel) (ci_ge1 g2 (inR_to _) b3) rfl ?_
      cases h
      exact hk _ _ _ _ _ ⟨rfl, rfl, rfl, rfl, rfl, trivial⟩
set_option maxRecDepth 100000 in
set_option maxHeartbeats 4000000 in
theorem g142_ok {S : St} {v1 : Int} {v2 : Int} {v3 : Int} {o : St} (h : g142 S v1 v2 v3 = some o) : Ru none 11 223 142 (0, mn_pad (mn_ent [.ref 36, vI v1, vI v2, vI v3]) 5, [], S.ns, Hp S) ((0, none), o.ns, Hp o) := by
  unfold g142 at h
  show Ru none 11 223 142 (0, [some (.ref 36), some (vI v1), some (vI v2), some (vI v3), none], [], S.ns, Hp S) _
  refine Ru.kI (q := (.iconst 0, 1)) (c := 0) (pc' := 1) (by decide +kernel) rfl (by decide) rfl ?_
  refine Ru.op (q := (.istore 4, 2)) (S' := (3, [some (.ref 36), some (vI v1), some (vI v2), some (vI v3), some (vI 0)], [], _, _)) (by decide +kernel) rfl ?_
  obtain ⟨o11, e17, h⟩ := ob_some h
  refine g142L3_ok FU _ _ trivial _ e17 _ ?_
  intro d12 d13 d14 d15 d16 hd18
  cases h
  exact Ru.end (q := (.return_, 1)) (by decide +kernel) rfl rfl
set_option maxRecDepth 100000 in
set_option maxHeartbeats 4000000 in
theorem g145L44_ok {v1 : Int} {v4 : Int} : ∀ (n : Nat) (v3 : Int) (v5 : Int) (S : St) (d2 : Option Value) (_ : DD [d2]) (out : Int × St), g145L44 v1 v4 n v3 v5 S = some out → ∀ r, (∀ (e2 e4 e5 : Option Value), DD [e2, e4, e5] → Ru none 14 287 145 (82, [some (.ref 36), some (vI v1), e2, some (vI out.1), e4, e5], [], out.2.ns, Hp out.2) r) → Ru none 14 287 145 (44, [some (.ref 36), some (vI v1), d2, some (vI v3), some (vI v4), some (vI v5)], [], S.ns, Hp S) r := by
  intro n
  induction n with
  | zero => intro v3 v5 S d2 hdd out h; cases h
  | succ n ih =>
    intro v3 v5 S d2 hdd out h r hk
    unfold g145L44 at h
    refine Ru.op (q := (.iload 5, 2)) (S' := (46, _, _, _, _)) (by decide +kernel) rfl ?_
    refine Ru.op (q := (.aload_n 0, 1)) (S' := (47, _, _, _, _)) (by decide +kernel) rfl ?_
    refine Ru.getR (pc' := 50) (i := 45) (ci := 10) (k := 21) (nn := 0) (z := 0) (v := .ref 46) (by decide +kernel) (by decide +kernel) (hp36 _) (by decide) rfl rfl ?_
    refine Ru.op (q := (.iload 4, 2)) (S' := (52, _, _, _, _)) (by decide +kernel) rfl ?_
    obtain ⟨g9, h⟩ := gd_some h
    refine Ru.ildI (pc' := 53) (i := v4) (z := (S.A 46 v4)) (by decide +kernel) (hp46 _) g9 (eI_of _) rfl ?_
    obtain ⟨o10, e11, h⟩ := ob_some h
    refine Ru.callI (pc' := 56) (q := (.invokestatic 136, 3)) (j2 := 123) (as := [vI (S.A 46 v4)]) (st' := [vI o10, vI v5]) (by decide +kernel) rfl rfl rfl rfl ⟨(Nat.le_of_ble_eq_true rfl), (by show 19 + 1 ≤ 287; exact Nat.le_of_ble_eq_true rfl), Nat.le_of_ble_eq_true rfl, Nat.le_of_ble_eq_true rfl⟩ ((g123_ok e11).up (Nat.le_of_ble_eq_true rfl) (Nat.le_of_ble_eq_true rfl)) rfl rfl ?_
    obtain ⟨g12, h⟩ := gd_some h
    obtain ⟨g13, h⟩ := gd_some h
    by_cases b14 : v5 < o10
    · replace h := if_t b14 h
      refine Ru.br2 (k := .ge) (off := 26) (bb := false) (tg := 59) (by decide +kernel) (by decide +kernel) (ci_ge0 g12 g13 b14) rfl ?_
      refine Ru.inc (k := 3) (n := 1) (x := v3) (z := (v3 + 1)) (xs' := [some (.ref 36), some (vI v1), d2, some (vI (v3 + 1)), some (vI v4), some (vI v5)]) (pc' := 62) (by decide +kernel) rfl rfl (mn_st1_D (Nat.le_of_ble_eq_true rfl) hdd.1 rfl) rfl ?_
      refine Ru.op (q := (.aload_n 0, 1)) (S' := (63, _, _, _, _)) (by decide +kernel) rfl ?_
      refine Ru.getR (pc' := 66) (i := 102) (ci := 10) (k := 52) (nn := 0) (z := 0) (v := .ref 65) (by decide +kernel) (by decide +kernel) (hp36 _) (by decide) rfl rfl ?_
      refine Ru.op (q := (.iload_n 3, 1)) (S' := (67, _, _, _, _)) (by decide +kernel) rfl ?_
      refine Ru.op (q := (.aload_n 0, 1)) (S' := (68, _, _, _, _)) (by decide +kernel) rfl ?_
      refine Ru.op (q := (.iload 4, 2)) (S' := (70, _, _, _, _)) (by decide +kernel) rfl ?_
      refine Ru.op (q := (.iload 5, 2)) (S' := (72, _, _, _, _)) (by decide +kernel) rfl ?_
      obtain ⟨o15, e16, h⟩ := ob_some h
      refine Ru.vcallI (pc' := 75) (st' := [vI o15, vI (v3 + 1), .ref 65]) (i := 240) (j2 := 124) (ci := 10) (k := 0) (z := 0) (as := [vI v4, vI v5]) (by decide +kernel) (by decide +kernel) rfl rfl (hp36 _) (by decide) ⟨(Nat.le_of_ble_eq_true rfl), (by show 19 + 5 ≤ 287; exact Nat.le_of_ble_eq_true rfl), Nat.le_of_ble_eq_true rfl, Nat.le_of_ble_eq_true rfl⟩ ((g124_ok e16).up (Nat.le_of_ble_eq_true rfl) (Nat.le_of_ble_eq_true rfl)) rfl rfl ?_
      obtain ⟨g17, h⟩ := gd_some h
      refine Ru.istI (pc' := 76) (i := (v3 + 1)) (x := o15) (by decide +kernel) (hp65 _) g17 (ps_65 _ _ _) rfl ?_
      refine Ru.inc (k := 5) (n := 1) (x := v5) (z := (v5 + 1)) (xs' := [some (.ref 36), some (vI v1), d2, some (vI (v3 + 1)), some (vI v4), some (vI (v5 + 1))]) (pc' := 79) (by decide +kernel) rfl rfl rfl rfl ?_
      refine Ru.op (q := (.goto (-35), 3)) (S' := (44, _, _, _, _)) (by decide +kernel) rfl ?_
      exact ih _ _ _ _ ⟨hdd.1, trivial⟩ _ h r hk
    · replace h := if_f b14 h
      refine Ru.br2 (k := .ge) (off := 26) (bb := true) (tg := 82) (by decide +kernel) (by decide +kernel) (ci_ge1 g12 g13 b14) rfl ?_
      cases h
      exact hk _ _ _ ⟨hdd.1, rfl, rfl, trivial⟩
set_option maxRecDepth 100000 in
set_option maxHeartbeats 4000000 in
theorem g145L9_ok {v1 : Int} : ∀ (n : Nat) (v3 : Int) (S : St) (d2 d4 d5 : Option Value) (_ : DD [d2, d4, d5]) (out : Sum (St) (Int × St)), g145L9 v1 n v3 S = some out → ∀ r, (∀ o, out = .inl o → ∀ (e0 e1 e2 e3 e4 e5 : Option Value), DD [e0, e1, e2, e3, e4, e5] → Ru none 14 287 145 (85, [e0, e1, e2, e3, e4, e5], [], o.ns, Hp o) r) → (∀ o, out = .inr o → r = ((0, some (vI o.1)), o.2.ns, Hp o.2)) → Ru none 14 287 145 (9, [some (.ref 36), some (vI v1), d2, some (vI v3), d4, d5], [], S.ns, Hp S) r := by
  intro n
  induction n with
  | zero => intro v3 S d2 d4 d5 hdd out h; cases h
  | succ n ih =>
    intro v3 S d2 d4 d5 hdd out h r hk hr
    unfold g145L9 at h
    refine Ru.op (q := (.iload_n 3, 1)) (S' := (10, _, _, _, _)) (by decide +kernel) rfl ?_
    obtain ⟨g24, h⟩ := gd_some h
    by_cases b25 : v3 < 0
    · replace h := if_t b25 h
      refine Ru.br (k := .lt) (off := 75) (bb := true) (tg := 85) (by decide +kernel) (by decide +kernel) (cz (ci_lt1 g24 (by decide) b25)) rfl ?_
      cases h
      exact hk _ rfl _ _ _ _ _ _ ⟨rfl, rfl, hdd.1, rfl, hdd.2.1, hdd.2.2.1, trivial⟩
    · replace h := if_f b25 h
      refine Ru.br (k := .lt) (off := 75) (bb := false) (tg := 13) (by decide +kernel) (by decide +kernel) (cz (ci_lt0 g24 (by decide) b25)) rfl ?_
      refine Ru.op (q := (.aload_n 0, 1)) (S' := (14, _, _, _, _)) (by decide +kernel) rfl ?_
      refine Ru.op (q := (.aload_n 0, 1)) (S' := (15, _, _, _, _)) (by decide +kernel) rfl ?_
      refine Ru.getR (pc' := 18) (i := 102) (ci := 10) (k := 52) (nn := 0) (z := 0) (v := .ref 65) (by decide +kernel) (by decide +kernel) (hp36 _) (by decide) rfl rfl ?_
      refine Ru.op (q := (.iload_n 3, 1)) (S' := (19, _, _, _, _)) (by decide +kernel) rfl ?_
      obtain ⟨g26, h⟩ := gd_some h
      refine Ru.ildI (pc' := 20) (i := v3) (z := (S.A 65 v3)) (by decide +kernel) (hp65 _) g26 (eI_of _) rfl ?_
      obtain ⟨o27, e28, h⟩ := ob_some h
      refine Ru.vcallI (pc' := 23) (st' := [vI o27]) (i := 237) (j2 := 121) (ci := 10) (k := 0) (z := 0) (as := [vI (S.A 65 v3)]) (by decide +kernel) (by decide +kernel) rfl rfl (hp36 _) (by decide) ⟨(Nat.le_of_ble_eq_true rfl), (by show 19 + 3 ≤ 287; exact Nat.le_of_ble_eq_true rfl), Nat.le_of_ble_eq_true rfl, Nat.le_of_ble_eq_true rfl⟩ ((g121_ok e28).up (Nat.le_of_ble_eq_true rfl) (Nat.le_of_ble_eq_true rfl)) rfl rfl ?_
      refine Ru.op (q := (.istore 4, 2)) (S' := (25, [some (.ref 36), some (vI v1), d2, some (vI v3), some (vI o27), d5], [], _, _)) (by decide +kernel) rfl ?_
      refine Ru.inc (k := 3) (n := (-1)) (x := v3) (z := (v3 + (-1))) (xs' := [some (.ref 36), some (vI v1), d2, some (vI (v3 + (-1))), some (vI o27), d5]) (pc' := 28) (by decide +kernel) rfl rfl (mn_st1_D (Nat.le_of_ble_eq_true rfl) hdd.1 rfl) rfl ?_
      refine Ru.op (q := (.aload_n 0, 1)) (S' := (29, _, _, _, _)) (by decide +kernel) rfl ?_
      refine Ru.getR (pc' := 32) (i := 45) (ci := 10) (k := 21) (nn := 0) (z := 0) (v := .ref 46) (by decide +kernel) (by decide +kernel) (hp36 _) (by decide) rfl rfl ?_
      refine Ru.op (q := (.iload 4, 2)) (S' := (34, _, _, _, _)) (by decide +kernel) rfl ?_
      obtain ⟨g29, h⟩ := gd_some h
      refine Ru.ildI (pc' := 35) (i := o27) (z := (S.A 46 o27)) (by decide +kernel) (hp46 _) g29 (eI_of _) rfl ?_
      refine Ru.op (q := (.iload_n 1, 1)) (S' := (36, _, _, _, _)) (by decide +kernel) rfl ?_
      obtain ⟨g30, h⟩ := gd_some h
      by_cases b31 : (S.A 46 o27) = v1
      · replace h := if_t b31 h
        refine Ru.br2 (k := .ne) (off := 5) (bb := false) (tg := 39) (by decide +kernel) (by decide +kernel) (ci_ne0 (inR_to _) g30 b31) rfl ?_
        refine Ru.kI (q := (.iconst 1, 1)) (c := 1) (pc' := 40) (by decide +kernel) rfl (by decide) rfl ?_
        cases h
        have h9 := hr _ rfl
        subst h9
        exact Ru.iret (by decide +kernel) rfl (nar_b1 (by decide))
      · replace h := if_f b31 h
        refine Ru.br2 (k := .ne) (off := 5) (bb := true) (tg := 41) (by decide +kernel) (by decide +kernel) (ci_ne1 (inR_to _) g30 b31) rfl ?_
        refine Ru.kI (q := (.iconst 0, 1)) (c := 0) (pc' := 42) (by decide +kernel) rfl (by decide) rfl ?_
        refine Ru.op (q := (.istore 5, 2)) (S' := (44, [some (.ref 36), some (vI v1), d2, some (vI (v3 + (-1))), some (vI o27), some (vI 0)], [], _, _)) (by decide +kernel) rfl ?_
        obtain ⟨o32, e36, h⟩ := ob_some h
        refine g145L44_ok FU _ _ _ _ ⟨hdd.1, trivial⟩ _ e36 _ ?_
        intro d33 d34 d35 hd37
        refine Ru.op (q := (.goto (-73), 3)) (S' := (9, _, _, _, _)) (by decide +kernel) rfl ?_
        exact ih _ _ _ _ _ ⟨hd37.1, hd37.2.1, hd37.2.2.1, trivial⟩ _ h r hk hr
set_option maxRecDepth 100000 in
set_option maxHeartbeats 4000000 in
theorem g145_ok {S : St} {v1 : Int} {v2 : Int} {o : Int × St} (h : g145 S v1 v2 = some o) : Ru none 14 287 145 (0, mn_pad (mn_ent [.ref 36, vI v1, vI v2]) 6, [], S.ns, Hp S) ((0, some (vI o.1)), o.2.ns, Hp o.2) := by
  unfold g145 at h
  show Ru none 14 287 145 (0, [some (.ref 36), some (vI v1), some (vI v2), none, none, none], [], S.ns, Hp S) _
  refine Ru.kI (q := (.iconst 0, 1)) (c := 0) (pc' := 1) (by decide +kernel) rfl (by decide) rfl ?_
  refine Ru.op (q := (.istore_n 3, 1)) (S' := (2, [some (.ref 36), some (vI v1), some (vI v2), some (vI 0), none, none], [], _, _)) (by decide +kernel) rfl ?_
  refine Ru.op (q := (.aload_n 0, 1)) (S' := (3, _, _, _, _)) (by decide +kernel) rfl ?_
  refine Ru.getR (pc' := 6) (i := 102) (ci := 10) (k := 52) (nn := 0) (z := 0) (v := .ref 65) (by decide +kernel) (by decide +kernel) (hp36 _) (by decide) rfl rfl ?_
  refine Ru.kI (q := (.iconst 0, 1)) (c := 0) (pc' := 7) (by decide +kernel) rfl (by decide) rfl ?_
  refine Ru.op (q := (.iload_n 2, 1)) (S' := (8, _, _, _, _)) (by decide +kernel) rfl ?_
  refine Ru.istI (pc' := 9) (i := 0) (x := v2) (by decide +kernel) (hp65 _) (by decide) (ps_65 _ _ _) rfl ?_
  rcases obr_some h with ⟨o38, e45, h⟩ | e45
  · refine g145L9_ok FU _ _ _ _ _ ⟨rfl, rfl, rfl, trivial⟩ _ e45 _ (fun o' e' => ?_) (fun o' e' => by cases e')
    cases e'
    intro d39 d40 d41 d42 d43 d44 hd46
    refine Ru.kI (q := (.iconst 0, 1)) (c := 0) (pc' := 86) (by decide +kernel) rfl (by decide) rfl ?_
    cases h
    exact Ru.iret (by decide +kernel) rfl (nar_b1 (by decide))
  · exact g145L9_ok FU _ _ _ _ _ ⟨rfl, rfl, rfl, trivial⟩ _ e45 _ (fun o' e' => by cases e') (fun o' e' => by cases e'; rfl)
set_option maxRecDepth 100000 in
set_option maxHeartbeats 4000000 in
theorem g144L197_ok {v4 : Int} {v5 : Int} : ∀ (n : Nat) (v3 : Int) (v8 : Int) (S : St) (d1 d2 d6 d7 d9 : Option Value) (_ : DD [d1, d2, d6, d7, d9]) (out : Int × St), g144L197 v4 v5 n v3 v8 S = some out → ∀ r, (∀ (e1 e2 e4 e5 e6 e7 e8 e9 : Option Value), DD [e1, e2, e4, e5, e6, e7, e8, e9] → Ru none 15 312 144 (239, [some (.ref 36), e1, e2, some (vI out.1), e4, e5, e6, e7, e8, e9], [], out.2.ns, Hp out.2) r) → Ru none 15 312 144 (197, [some (.ref 36), d1, d2, some (vI v3), some (vI v4), some (vI v5), d6, d7, some (vI v8), d9], [], S.ns, Hp S) r := by
  intro n
  induction n with
  | zero => intro v3 v8 S d1 d2 d6 d7 d9 hdd out h; cases h
  | succ n ih =>
    intro v3 v8 S d1 d2 d6 d7 d9 hdd out h r hk
    unfold g144L197 at h
    refine Ru.op (q := (.iload 8, 2)) (S' := (199, _, _, _, _)) (by decide +kernel) rfl ?_
    obtain ⟨g21, h⟩ := gd_some h
    by_cases b22 : v8 < 0
    · replace h := if_t b22 h
      refine Ru.br (k := .lt) (off := 40) (bb := true) (tg := 239) (by decide +kernel) (by decide +kernel) (cz (ci_lt1 g21 (by decide) b22)) rfl ?_
      cases h
      exact hk _ _ _ _ _ _ _ _ ⟨hdd.1, hdd.2.1, rfl, rfl, hdd.2.2.1, hdd.2.2.2.1, rfl, hdd.2.2.2.2.1, trivial⟩
    · replace h := if_f b22 h
      refine Ru.br (k := .lt) (off := 40) (bb := false) (tg := 202) (by decide +kernel) (by decide +kernel) (cz (ci_lt0 g21 (by decide) b22)) rfl ?_
      refine Ru.inc (k := 3) (n := 1) (x := v3) (z := (v3 + 1)) (xs' := [some (.ref 36), d1, d2, some (vI (v3 + 1)), some (vI v4), some (vI v5), d6, d7, some (vI v8), d9]) (pc' := 205) (by decide +kernel) rfl rfl (mn_st1_D (Nat.le_of_ble_eq_true rfl) hdd.2.1 rfl) rfl ?_
      refine Ru.op (q := (.aload_n 0, 1)) (S' := (206, _, _, _, _)) (by decide +kernel) rfl ?_
      refine Ru.getR (pc' := 209) (i := 105) (ci := 10) (k := 53) (nn := 0) (z := 0) (v := .ref 66) (by decide +kernel) (by decide +kernel) (hp36 _) (by decide) rfl rfl ?_
      refine Ru.op (q := (.iload_n 3, 1)) (S' := (210, _, _, _, _)) (by decide +kernel) rfl ?_
      refine Ru.op (q := (.aload_n 0, 1)) (S' := (211, _, _, _, _)) (by decide +kernel) rfl ?_
      refine Ru.op (q := (.iload 4, 2)) (S' := (213, _, _, _, _)) (by decide +kernel) rfl ?_
      refine Ru.op (q := (.iload 8, 2)) (S' := (215, _, _, _, _)) (by decide +kernel) rfl ?_
      obtain ⟨o23, e24, h⟩ := ob_some h
      refine Ru.vcallI (pc' := 218) (st' := [vI o23, vI (v3 + 1), .ref 66]) (i := 240) (j2 := 124) (ci := 10) (k := 0) (z := 0) (as := [vI v4, vI v8]) (by decide +kernel) (by decide +kernel) rfl rfl (hp36 _) (by decide) ⟨(Nat.le_of_ble_eq_true rfl), (by show 19 + 5 ≤ 312; exact Nat.le_of_ble_eq_true rfl), Nat.le_of_ble_eq_true rfl, Nat.le_of_ble_eq_true rfl⟩ ((g124_ok e24).up (Nat.le_of_ble_eq_true rfl) (Nat.le_of_ble_eq_true rfl)) rfl rfl ?_
      obtain ⟨g25, h⟩ := gd_some h
      refine Ru.istI (pc' := 219) (i := (v3 + 1)) (x := o23) (by decide +kernel) (hp66 _) g25 (ps_66 _ _ _) rfl ?_
      refine Ru.op (q := (.aload_n 0, 1)) (S' := (220, _, _, _, _)) (by decide +kernel) rfl ?_
      refine Ru.getR (pc' := 223) (i := 108) (ci := 10) (k := 54) (nn := 0) (z := 0) (v := .ref 67) (by decide +kernel) (by decide +kernel) (hp36 _) (by decide) rfl rfl ?_
      refine Ru.op (q := (.iload_n 3, 1)) (S' := (224, _, _, _, _)) (by decide +kernel) rfl ?_
      refine Ru.op (q := (.aload_n 0, 1)) (S' := (225, _, _, _, _)) (by decide +kernel) rfl ?_
      refine Ru.op (q := (.iload 5, 2)) (S' := (227, _, _, _, _)) (by decide +kernel) rfl ?_
      refine Ru.op (q := (.iload 8, 2)) (S' := (229, _, _, _, _)) (by decide +kernel) rfl ?_
      obtain ⟨o26, e27, h⟩ := ob_some h
      refine Ru.vcallI (pc' := 232) (st' := [vI o26, vI (v3 + 1), .ref 67]) (i := 240) (j2 := 124) (ci := 10) (k := 0) (z := 0) (as := [vI v5, vI v8]) (by decide +kernel) (by decide +kernel) rfl rfl (hp36 _) (by decide) ⟨(Nat.le_of_ble_eq_true rfl), (by show 19 + 5 ≤ 312; exact Nat.le_of_ble_eq_true rfl), Nat.le_of_ble_eq_true rfl, Nat.le_of_ble_eq_true rfl⟩ ((g124_ok e27).up (Nat.le_of_ble_eq_true rfl) (Nat.le_of_ble_eq_true rfl)) rfl rfl ?_
      refine Ru.istI (pc' := 233) (i := (v3 + 1)) (x := o26) (by decide +kernel) (hp67 _) g25 (ps_67 _ _ _) rfl ?_
      refine Ru.inc (k := 8) (n := (-1)) (x := v8) (z := (v8 + (-1))) (xs' := [some (.ref 36), d1, d2, some (vI (v3 + 1)), some (vI v4), some (vI v5), d6, d7, some (vI (v8 + (-1))), d9]) (pc' := 236) (by decide +kernel) rfl rfl (mn_st1_D (Nat.le_of_ble_eq_true rfl) hdd.2.2.2.1 rfl) rfl ?_
      refine Ru.op (q := (.goto (-39), 3)) (S' := (197, _, _, _, _)) (by decide +kernel) rfl ?_
      exact ih _ _ _ _ _ _ _ _ ⟨hdd.1, hdd.2.1, hdd.2.2.1, hdd.2.2.2.1, hdd.2.2.2.2.1, trivial⟩ _ h r hk
set_option maxRecDepth 100000 in
set_option maxHeartbeats 4000000 in
theorem g144L16_ok : ∀ (n : Nat) (v3 : Int) (S : St) (d1 d2 d4 d5 d6 d7 d8 d9 : Option Value) (_ : DD [d1, d2, d4, d5, d6, d7, d8, d9]) (out : Sum (St) (Int × St)), g144L16 n v3 S = some out → ∀ r, (∀ o, out = .inl o → ∀ (e0 e1 e2 e3 e4 e5 e6 e7 e8 e9 : Option Value), DD [e0, e1, e2, e3, e4, e5, e6, e7, e8, e9] → Ru none 15 312 144 (242, [e0, e1, e2, e3, e4, e5, e6, e7, e8, e9], [], o.ns, Hp o) r) → (∀ o, out = .inr o → r = ((0, some (vI o.1)), o.2.ns, Hp o.2)) → Ru none 15 312 144 (16, [some (.ref 36), d1, d2, some (vI v3), d4, d5, d6, d7, d8, d9], [], S.ns, Hp S) r := by
  intro n
  induction n with
  | zero => intro v3 S d1 d2 d4 d5 d6 d7 d8 d9 hdd out h; cases h
  | succ n ih =>
    intro v3 S d1 d2 d4 d5 d6 d7 d8 d9 hdd out h r hk hr
    unfold g144L16 at h
    refine Ru.op (q := (.iload_n 3, 1)) (S' := (17, _, _, _, _)) (by decide +kernel) rfl ?_
    obtain ⟨g50, h⟩ := gd_some h
    by_cases b51 : v3 < 0
    · replace h := if_t b51 h
      refine Ru.br (k := .lt) (off := 225) (bb := true) (tg := 242) (by decide +kernel) (by decide +kernel) (cz (ci_lt1 g50 (by decide) b51)) rfl ?_
      cases h
      exact hk _ rfl _ _ _ _ _ _ _ _ _ _ ⟨rfl, hdd.1, hdd.2.1, rfl, hdd.2.2.1, hdd.2.2.2.1, hdd.2.2.2.2.1, hdd.2.2.2.2.2.1, hdd.2.2.2.2.2.2.1, hdd.2.2.2.2.2.2.2.1, trivial⟩
    · replace h := if_f b51 h
      refine Ru.br (k := .lt) (off := 225) (bb := false) (tg := 20) (by decide +kernel) (by decide +kernel) (cz (ci_lt0 g50 (by decide) b51)) rfl ?_
      refine Ru.op (q := (.aload_n 0, 1)) (S' := (21, _, _, _, _)) (by decide +kernel) rfl ?_
      refine Ru.op (q := (.aload_n 0, 1)) (S' := (22, _, _, _, _)) (by decide +kernel) rfl ?_
      refine Ru.getR (pc' := 25) (i := 105) (ci := 10) (k := 53) (nn := 0) (z := 0) (v := .ref 66) (by decide +kernel) (by decide +kernel) (hp36 _) (by decide) rfl rfl ?_
      refine Ru.op (q := (.iload_n 3, 1)) (S' := (26, _, _, _, _)) (by decide +kernel) rfl ?_
      obtain ⟨g52, h⟩ := gd_some h
      refine Ru.ildI (pc' := 27) (i := v3) (z := (S.A 66 v3)) (by decide +kernel) (hp66 _) g52 (eI_of _) rfl ?_
      obtain ⟨o53, e54, h⟩ := ob_some h
      refine Ru.vcallI (pc' := 30) (st' := [vI o53]) (i := 237) (j2 := 121) (ci := 10) (k := 0) (z := 0) (as := [vI (S.A 66 v3)]) (by decide +kernel) (by decide +kernel) rfl rfl (hp36 _) (by decide) ⟨(Nat.le_of_ble_eq_true rfl), (by show 19 + 3 ≤ 312; exact Nat.le_of_ble_eq_true rfl), Nat.le_of_ble_eq_true rfl, Nat.le_of_ble_eq_true rfl⟩ ((g121_ok e54).up (Nat.le_of_ble_eq_true rfl) (Nat.le_of_ble_eq_true rfl)) rfl rfl ?_
      refine Ru.op (q := (.istore 4, 2)) (S' := (32, [some (.ref 36), d1, d2, some (vI v3), some (vI o53), d5, d6, d7, d8, d9], [], _, _)) (by decide +kernel) rfl ?_
      refine Ru.op (q := (.aload_n 0, 1)) (S' := (33, _, _, _, _)) (by decide +kernel) rfl ?_
      refine Ru.op (q := (.aload_n 0, 1)) (S' := (34, _, _, _, _)) (by decide +kernel) rfl ?_
      refine Ru.getR (pc' := 37) (i := 108) (ci := 10) (k := 54) (nn := 0) (z := 0) (v := .ref 67) (by decide +kernel) (by decide +kernel) (hp36 _) (by decide) rfl rfl ?_
      refine Ru.op (q := (.iload_n 3, 1)) (S' := (38, _, _, _, _)) (by decide +kernel) rfl ?_
      refine Ru.ildI (pc' := 39) (i := v3) (z := (S.A 67 v3)) (by decide +kernel) (hp67 _) g52 (eI_of _) rfl ?_
      obtain ⟨o55, e56, h⟩ := ob_some h
      refine Ru.vcallI (pc' := 42) (st' := [vI o55]) (i := 237) (j2 := 121) (ci := 10) (k := 0) (z := 0) (as := [vI (S.A 67 v3)]) (by decide +kernel) (by decide +kernel) rfl rfl (hp36 _) (by decide) ⟨(Nat.le_of_ble_eq_true rfl), (by show 19 + 3 ≤ 312; exact Nat.le_of_ble_eq_true rfl), Nat.le_of_ble_eq_true rfl, Nat.le_of_ble_eq_true rfl⟩ ((g121_ok e56).up (Nat.le_of_ble_eq_true rfl) (Nat.le_of_ble_eq_true rfl)) rfl rfl ?_
      refine Ru.op (q := (.istore 5, 2)) (S' := (44, [some (.ref 36), d1, d2, some (vI v3), some (vI o53), some (vI o55), d6, d7, d8, d9], [], _, _)) (by decide +kernel) rfl ?_
      refine Ru.inc (k := 3) (n := (-1)) (x := v3) (z := (v3 + (-1))) (xs' := [some (.ref 36), d1, d2, some (vI (v3 + (-1))), some (vI o53), some (vI o55), d6, d7, d8, d9]) (pc' := 47) (by decide +kernel) rfl rfl (mn_st1_D (Nat.le_of_ble_eq_true rfl) hdd.2.1 rfl) rfl ?_
      refine Ru.op (q := (.aload_n 0, 1)) (S' := (48, _, _, _, _)) (by decide +kernel) rfl ?_
      refine Ru.getR (pc' := 51) (i := 45) (ci := 10) (k := 21) (nn := 0) (z := 0) (v := .ref 46) (by decide +kernel) (by decide +kernel) (hp36 _) (by decide) rfl rfl ?_
      refine Ru.op (q := (.iload 4, 2)) (S' := (53, _, _, _, _)) (by decide +kernel) rfl ?_
      obtain ⟨g57, h⟩ := gd_some h
      refine Ru.ildI (pc' := 54) (i := o53) (z := (S.A 46 o53)) (by decide +kernel) (hp46 _) g57 (eI_of _) rfl ?_
      obtain ⟨o58, e59, h⟩ := ob_some h
      refine Ru.callI (pc' := 57) (q := (.invokestatic 132, 3)) (j2 := 122) (as := [vI (S.A 46 o53)]) (st' := [vI o58]) (by decide +kernel) rfl rfl rfl rfl ⟨(Nat.le_of_ble_eq_true rfl), (by show 19 + 1 ≤ 312; exact Nat.le_of_ble_eq_true rfl), Nat.le_of_ble_eq_true rfl, Nat.le_of_ble_eq_true rfl⟩ ((g122_ok e59).up (Nat.le_of_ble_eq_true rfl) (Nat.le_of_ble_eq_true rfl)) rfl rfl ?_
      refine Ru.op (q := (.istore 6, 2)) (S' := (59, [some (.ref 36), d1, d2, some (vI (v3 + (-1))), some (vI o53), some (vI o55), some (vI o58), d7, d8, d9], [], _, _)) (by decide +kernel) rfl ?_
      refine Ru.op (q := (.aload_n 0, 1)) (S' := (60, _, _, _, _)) (by decide +kernel) rfl ?_
      refine Ru.getR (pc' := 63) (i := 45) (ci := 10) (k := 21) (nn := 0) (z := 0) (v := .ref 46) (by decide +kernel) (by decide +kernel) (hp36 _) (by decide) rfl rfl ?_
      refine Ru.op (q := (.iload 5, 2)) (S' := (65, _, _, _, _)) (by decide +kernel) rfl ?_
      obtain ⟨g60, h⟩ := gd_some h
      refine Ru.ildI (pc' := 66) (i := o55) (z := (S.A 46 o55)) (by decide +kernel) (hp46 _) g60 (eI_of _) rfl ?_
      obtain ⟨o61, e62, h⟩ := ob_some h
      refine Ru.callI (pc' := 69) (q := (.invokestatic 132, 3)) (j2 := 122) (as := [vI (S.A 46 o55)]) (st' := [vI o61]) (by decide +kernel) rfl rfl rfl rfl ⟨(Nat.le_of_ble_eq_true rfl), (by show 19 + 1 ≤ 312; exact Nat.le_of_ble_eq_true rfl), Nat.le_of_ble_eq_true rfl, Nat.le_of_ble_eq_true rfl⟩ ((g122_ok e62).up (Nat.le_of_ble_eq_true rfl) (Nat.le_of_ble_eq_true rfl)) rfl rfl ?_
      refine Ru.op (q := (.istore 7, 2)) (S' := (71, [some (.ref 36), d1, d2, some (vI (v3 + (-1))), some (vI o53), some (vI o55), some (vI o58), some (vI o61), d8, d9], [], _, _)) (by decide +kernel) rfl ?_
      refine Ru.op (q := (.iload 6, 2)) (S' := (73, _, _, _, _)) (by decide +kernel) rfl ?_
      obtain ⟨g63, h⟩ := gd_some h
      by_cases b64 : o58 = 0
      · replace h := if_t b64 h
        refine Ru.br (k := .eq) (off := 23) (bb := true) (tg := 96) (by decide +kernel) (by decide +kernel) (cz (ci_eq1 g63 (by decide) b64)) rfl ?_
        refine Ru.op (q := (.iload 6, 2)) (S' := (98, _, _, _, _)) (by decide +kernel) rfl ?_
        refine Ru.br (k := .ne) (off := 8) (bb := false) (tg := 101) (by decide +kernel) (by decide +kernel) (cz (ci_ne0 g63 (by decide) b64)) rfl ?_
        refine Ru.op (q := (.iload 7, 2)) (S' := (103, _, _, _, _)) (by decide +kernel) rfl ?_
        obtain ⟨g65, h⟩ := gd_some h
        by_cases b66 : o61 = 0
        · replace h := if_t b66 h
          refine Ru.br (k := .eq) (off := 61) (bb := true) (tg := 164) (by decide +kernel) (by decide +kernel) (cz (ci_eq1 g65 (by decide) b66)) rfl ?_
          refine Ru.op (q := (.aload_n 0, 1)) (S' := (165, _, _, _, _)) (by decide +kernel) rfl ?_
          refine Ru.getR (pc' := 168) (i := 45) (ci := 10) (k := 21) (nn := 0) (z := 0) (v := .ref 46) (by decide +kernel) (by decide +kernel) (hp36 _) (by decide) rfl rfl ?_
          refine Ru.op (q := (.iload 4, 2)) (S' := (170, _, _, _, _)) (by decide +kernel) rfl ?_
          refine Ru.ildI (pc' := 171) (i := o53) (z := (S.A 46 o53)) (by decide +kernel) (hp46 _) g57 (eI_of _) rfl ?_
          refine Ru.op (q := (.aload_n 0, 1)) (S' := (172, _, _, _, _)) (by decide +kernel) rfl ?_
          refine Ru.getR (pc' := 175) (i := 45) (ci := 10) (k := 21) (nn := 0) (z := 0) (v := .ref 46) (by decide +kernel) (by decide +kernel) (hp36 _) (by decide) rfl rfl ?_
          refine Ru.op (q := (.iload 5, 2)) (S' := (177, _, _, _, _)) (by decide +kernel) rfl ?_
          refine Ru.ildI (pc' := 178) (i := o55) (z := (S.A 46 o55)) (by decide +kernel) (hp46 _) g60 (eI_of _) rfl ?_
          by_cases b67 : (S.A 46 o53) = (S.A 46 o55)
          · replace h := if_t b67 h
            refine Ru.br2 (k := .eq) (off := 5) (bb := true) (tg := 183) (by decide +kernel) (by decide +kernel) (ci_eq1 (inR_to _) (inR_to _) b67) rfl ?_
            refine Ru.op (q := (.aload_n 0, 1)) (S' := (184, _, _, _, _)) (by decide +kernel) rfl ?_
            refine Ru.getR (pc' := 187) (i := 45) (ci := 10) (k := 21) (nn := 0) (z := 0) (v := .ref 46) (by decide +kernel) (by decide +kernel) (hp36 _) (by decide) rfl rfl ?_
            refine Ru.op (q := (.iload 4, 2)) (S' := (189, _, _, _, _)) (by decide +kernel) rfl ?_
            refine Ru.ildI (pc' := 190) (i := o53) (z := (S.A 46 o53)) (by decide +kernel) (hp46 _) g57 (eI_of _) rfl ?_
            obtain ⟨o68, e69, h⟩ := ob_some h
            refine Ru.callI (pc' := 193) (q := (.invokestatic 136, 3)) (j2 := 123) (as := [vI (S.A 46 o53)]) (st' := [vI o68]) (by decide +kernel) rfl rfl rfl rfl ⟨(Nat.le_of_ble_eq_true rfl), (by show 19 + 1 ≤ 312; exact Nat.le_of_ble_eq_true rfl), Nat.le_of_ble_eq_true rfl, Nat.le_of_ble_eq_true rfl⟩ ((g123_ok e69).up (Nat.le_of_ble_eq_true rfl) (Nat.le_of_ble_eq_true rfl)) rfl rfl ?_
            refine Ru.kI (q := (.iconst 1, 1)) (c := 1) (pc' := 194) (by decide +kernel) rfl (by decide) rfl ?_
            refine Ru.ar2 (i := .isub) (z := (o68 - 1)) (pc' := 195) (by decide +kernel) rfl (ar_sub _ _) rfl ?_
            refine Ru.op (q := (.istore 8, 2)) (S' := (197, [some (.ref 36), d1, d2, some (vI (v3 + (-1))), some (vI o53), some (vI o55), some (vI o58), some (vI o61), some (vI (o68 - 1)), d9], [], _, _)) (by decide +kernel) rfl ?_
            obtain ⟨o70, e79, h⟩ := ob_some h
            refine g144L197_ok FU _ _ _ _ _ _ _ _ ⟨hdd.1, hdd.2.1, rfl, rfl, hdd.2.2.2.2.2.2.2.1, trivial⟩ _ e79 _ ?_
            intro d71 d72 d73 d74 d75 d76 d77 d78 hd80
            refine Ru.op (q := (.goto (-223), 3)) (S' := (16, _, _, _, _)) (by decide +kernel) rfl ?_
            exact ih _ _ _ _ _ _ _ _ _ _ ⟨hd80.1, hd80.2.1, hd80.2.2.1, hd80.2.2.2.1, hd80.2.2.2.2.1, hd80.2.2.2.2.2.1, hd80.2.2.2.2.2.2.1, hd80.2.2.2.2.2.2.2.1, trivial⟩ _ h r hk hr
          · replace h := if_f b67 h
            refine Ru.br2 (k := .eq) (off := 5) (bb := false) (tg := 181) (by decide +kernel) (by decide +kernel) (ci_eq0 (inR_to _) (inR_to _) b67) rfl ?_
            refine Ru.kI (q := (.iconst 0, 1)) (c := 0) (pc' := 182) (by decide +kernel) rfl (by decide) rfl ?_
            cases h
            have h9 := hr _ rfl
            subst h9
            exact Ru.iret (by decide +kernel) rfl (nar_b1 (by decide))
        · replace h := if_f b66 h
          refine Ru.br (k := .eq) (off := 61) (bb := false) (tg := 106) (by decide +kernel) (by decide +kernel) (cz (ci_eq0 g65 (by decide) b66)) rfl ?_
          refine Ru.op (q := (.aload_n 0, 1)) (S' := (107, _, _, _, _)) (by decide +kernel) rfl ?_
          refine Ru.getR (pc' := 110) (i := 45) (ci := 10) (k := 21) (nn := 0) (z := 0) (v := .ref 46) (by decide +kernel) (by decide +kernel) (hp36 _) (by decide) rfl rfl ?_
          refine Ru.op (q := (.iload 6, 2)) (S' := (112, _, _, _, _)) (by decide +kernel) rfl ?_
          refine Ru.br (k := .eq) (off := 8) (bb := true) (tg := 120) (by decide +kernel) (by decide +kernel) (cz (ci_eq1 g63 (by decide) b64)) rfl ?_
          refine Ru.op (q := (.iload 5, 2)) (S' := (122, _, _, _, _)) (by decide +kernel) rfl ?_
          refine Ru.ildI (pc' := 123) (i := o55) (z := (S.A 46 o55)) (by decide +kernel) (hp46 _) g60 (eI_of _) rfl ?_
          refine Ru.op (q := (.istore 8, 2)) (S' := (125, [some (.ref 36), d1, d2, some (vI (v3 + (-1))), some (vI o53), some (vI o55), some (vI o58), some (vI o61), some (vI (S.A 46 o55)), d9], [], _, _)) (by decide +kernel) rfl ?_
          refine Ru.op (q := (.iload 6, 2)) (S' := (127, _, _, _, _)) (by decide +kernel) rfl ?_
          refine Ru.br (k := .eq) (off := 8) (bb := true) (tg := 135) (by decide +kernel) (by decide +kernel) (cz (ci_eq1 g63 (by decide) b64)) rfl ?_
          refine Ru.op (q := (.iload 4, 2)) (S' := (137, _, _, _, _)) (by decide +kernel) rfl ?_
          refine Ru.op (q := (.istore 9, 2)) (S' := (139, [some (.ref 36), d1, d2, some (vI (v3 + (-1))), some (vI o53), some (vI o55), some (vI o58), some (vI o61), some (vI (S.A 46 o55)), some (vI o53)], [], _, _)) (by decide +kernel) rfl ?_
          refine Ru.op (q := (.aload_n 0, 1)) (S' := (140, _, _, _, _)) (by decide +kernel) rfl ?_
          refine Ru.op (q := (.iload 8, 2)) (S' := (142, _, _, _, _)) (by decide +kernel) rfl ?_
          refine Ru.op (q := (.iload 9, 2)) (S' := (144, _, _, _, _)) (by decide +kernel) rfl ?_
          obtain ⟨o81, e82, h⟩ := ob_some h
          refine Ru.vcallI (pc' := 147) (st' := [vI o81.1]) (i := 243) (j2 := 145) (ci := 10) (k := 0) (z := 0) (as := [vI (S.A 46 o55), vI o53]) (by decide +kernel) (by decide +kernel) rfl rfl (hp36 _) (by decide) ⟨(Nat.le_of_ble_eq_true rfl), (by show 19 + 6 ≤ 312; exact Nat.le_of_ble_eq_true rfl), Nat.le_of_ble_eq_true rfl, Nat.le_of_ble_eq_true rfl⟩ ((g145_ok e82).up (Nat.le_of_ble_eq_true rfl) (Nat.le_of_ble_eq_true rfl)) rfl rfl ?_
          obtain ⟨g83, h⟩ := gd_some h
          by_cases b84 : o81.1 = 0
          · replace h := if_t b84 h
            refine Ru.br (k := .eq) (off := 5) (bb := true) (tg := 152) (by decide +kernel) (by decide +kernel) (cz (ci_eq1 g83 (by decide) b84)) rfl ?_
            refine Ru.op (q := (.aload_n 0, 1)) (S' := (153, _, _, _, _)) (by decide +kernel) rfl ?_
            refine Ru.getR (pc' := 156) (i := 48) (ci := 10) (k := 23) (nn := 0) (z := 0) (v := .ref 47) (by decide +kernel) (by decide +kernel) (hp36 _) (by decide) rfl rfl ?_
            refine Ru.op (q := (.iload 8, 2)) (S' := (158, _, _, _, _)) (by decide +kernel) rfl ?_
            refine Ru.op (q := (.iload 9, 2)) (S' := (160, _, _, _, _)) (by decide +kernel) rfl ?_
            obtain ⟨g85, h⟩ := gd_some h
            refine Ru.istI (pc' := 161) (i := (S.A 46 o55)) (x := o53) (by decide +kernel) (hp47 _) g85 (ps_47 _ _ _) rfl ?_
            refine Ru.op (q := (.goto (-145), 3)) (S' := (16, _, _, _, _)) (by decide +kernel) rfl ?_
            exact ih _ _ _ _ _ _ _ _ _ _ ⟨hdd.1, hdd.2.1, rfl, rfl, rfl, rfl, rfl, rfl, trivial⟩ _ h r hk hr
          · replace h := if_f b84 h
            refine Ru.br (k := .eq) (off := 5) (bb := false) (tg := 150) (by decide +kernel) (by decide +kernel) (cz (ci_eq0 g83 (by decide) b84)) rfl ?_
            refine Ru.kI (q := (.iconst 0, 1)) (c := 0) (pc' := 151) (by decide +kernel) rfl (by decide) rfl ?_
            cases h
            have h9 := hr _ rfl
            subst h9
            exact Ru.iret (by decide +kernel) rfl (nar_b1 (by decide))
      · replace h := if_f b64 h
        refine Ru.br (k := .eq) (off := 23) (bb := false) (tg := 76) (by decide +kernel) (by decide +kernel) (cz (ci_eq0 g63 (by decide) b64)) rfl ?_
        refine Ru.op (q := (.aload_n 0, 1)) (S' := (77, _, _, _, _)) (by decide +kernel) rfl ?_
        refine Ru.getR (pc' := 80) (i := 45) (ci := 10) (k := 21) (nn := 0) (z := 0) (v := .ref 46) (by decide +kernel) (by decide +kernel) (hp36 _) (by decide) rfl rfl ?_
        refine Ru.op (q := (.iload 4, 2)) (S' := (82, _, _, _, _)) (by decide +kernel) rfl ?_
        refine Ru.ildI (pc' := 83) (i := o53) (z := (S.A 46 o53)) (by decide +kernel) (hp46 _) g57 (eI_of _) rfl ?_
        refine Ru.op (q := (.aload_n 0, 1)) (S' := (84, _, _, _, _)) (by decide +kernel) rfl ?_
        refine Ru.getR (pc' := 87) (i := 45) (ci := 10) (k := 21) (nn := 0) (z := 0) (v := .ref 46) (by decide +kernel) (by decide +kernel) (hp36 _) (by decide) rfl rfl ?_
        refine Ru.op (q := (.iload 5, 2)) (S' := (89, _, _, _, _)) (by decide +kernel) rfl ?_
        refine Ru.ildI (pc' := 90) (i := o55) (z := (S.A 46 o55)) (by decide +kernel) (hp46 _) g60 (eI_of _) rfl ?_
        by_cases b86 : (S.A 46 o53) = (S.A 46 o55)
        · replace h := if_t b86 h
          refine Ru.br2 (k := .ne) (off := 6) (bb := false) (tg := 93) (by decide +kernel) (by decide +kernel) (ci_ne0 (inR_to _) (inR_to _) b86) rfl ?_
          refine Ru.op (q := (.goto (-77), 3)) (S' := (16, _, _, _, _)) (by decide +kernel) rfl ?_
          exact ih _ _ _ _ _ _ _ _ _ _ ⟨hdd.1, hdd.2.1, rfl, rfl, rfl, rfl, hdd.2.2.2.2.2.2.1, hdd.2.2.2.2.2.2.2.1, trivial⟩ _ h r hk hr
        · replace h := if_f b86 h
          refine Ru.br2 (k := .ne) (off := 6) (bb := true) (tg := 96) (by decide +kernel) (by decide +kernel) (ci_ne1 (inR_to _) (inR_to _) b86) rfl ?_
          refine Ru.op (q := (.iload 6, 2)) (S' := (98, _, _, _, _)) (by decide +kernel) rfl ?_
          refine Ru.br (k := .ne) (off := 8) (bb := true) (tg := 106) (by decide +kernel) (by decide +kernel) (cz (ci_ne1 g63 (by decide) b64)) rfl ?_
          refine Ru.op (q := (.aload_n 0, 1)) (S' := (107, _, _, _, _)) (by decide +kernel) rfl ?_
          refine Ru.getR (pc' := 110) (i := 45) (ci := 10) (k := 21) (nn := 0) (z := 0) (v := .ref 46) (by decide +kernel) (by decide +kernel) (hp36 _) (by decide) rfl rfl ?_
          refine Ru.op (q := (.iload 6, 2)) (S' := (112, _, _, _, _)) (by decide +kernel) rfl ?_
          refine Ru.br (k := .eq) (off := 8) (bb := false) (tg := 115) (by decide +kernel) (by decide +kernel) (cz (ci_eq0 g63 (by decide) b64)) rfl ?_
          refine Ru.op (q := (.iload 4, 2)) (S' := (117, _, _, _, _)) (by decide +kernel) rfl ?_
          refine Ru.op (q := (.goto 5, 3)) (S' := (122, _, _, _, _)) (by decide +kernel) rfl ?_
          refine Ru.ildI (pc' := 123) (i := o53) (z := (S.A 46 o53)) (by decide +kernel) (hp46 _) g57 (eI_of _) rfl ?_
          refine Ru.op (q := (.istore 8, 2)) (S' := (125, [some (.ref 36), d1, d2, some (vI (v3 + (-1))), some (vI o53), some (vI o55), some (vI o58), some (vI o61), some (vI (S.A 46 o53)), d9], [], _, _)) (by decide +kernel) rfl ?_
          refine Ru.op (q := (.iload 6, 2)) (S' := (127, _, _, _, _)) (by decide +kernel) rfl ?_
          refine Ru.br (k := .eq) (off := 8) (bb := false) (tg := 130) (by decide +kernel) (by decide +kernel) (cz (ci_eq0 g63 (by decide) b64)) rfl ?_
          refine Ru.op (q := (.iload 5, 2)) (S' := (132, _, _, _, _)) (by decide +kernel) rfl ?_
          refine Ru.op (q := (.goto 5, 3)) (S' := (137, _, _, _, _)) (by decide +kernel) rfl ?_
          refine Ru.op (q := (.istore 9, 2)) (S' := (139, [some (.ref 36), d1, d2, some (vI (v3 + (-1))), some (vI o53), some (vI o55), some (vI o58), some (vI o61), some (vI (S.A 46 o53)), some (vI o55)], [], _, _)) (by decide +kernel) rfl ?_
          refine Ru.op (q := (.aload_n 0, 1)) (S' := (140, _, _, _, _)) (by decide +kernel) rfl ?_
          refine Ru.op (q := (.iload 8, 2)) (S' := (142, _, _, _, _)) (by decide +kernel) rfl ?_
          refine Ru.op (q := (.iload 9, 2)) (S' := (144, _, _, _, _)) (by decide +kernel) rfl ?_
          obtain ⟨o87, e88, h⟩ := ob_some h
          refine Ru.vcallI (pc' := 147) (st' := [vI o87.1]) (i := 243) (j2 := 145) (ci := 10) (k := 0) (z := 0) (as := [vI (S.A 46 o53), vI o55]) (by decide +kernel) (by decide +kernel) rfl rfl (hp36 _) (by decide) ⟨(Nat.le_of_ble_eq_true rfl), (by show 19 + 6 ≤ 312; exact Nat.le_of_ble_eq_true rfl), Nat.le_of_ble_eq_true rfl, Nat.le_of_ble_eq_true rfl⟩ ((g145_ok e88).up (Nat.le_of_ble_eq_true rfl) (Nat.le_of_ble_eq_true rfl)) rfl rfl ?_
          obtain ⟨g89, h⟩ := gd_some h
          by_cases b90 : o87.1 = 0
          · replace h := if_t b90 h
            refine Ru.br (k := .eq) (off := 5) (bb := true) (tg := 152) (by decide +kernel) (by decide +kernel) (cz (ci_eq1 g89 (by decide) b90)) rfl ?_
            refine Ru.op (q := (.aload_n 0, 1)) (S' := (153, _, _, _, _)) (by decide +kernel) rfl ?_
            refine Ru.getR (pc' := 156) (i := 48) (ci := 10) (k := 23) (nn := 0) (z := 0) (v := .ref 47) (by decide +kernel) (by decide +kernel) (hp36 _) (by decide) rfl rfl ?_
            refine Ru.op (q := (.iload 8, 2)) (S' := (158, _, _, _, _)) (by decide +kernel) rfl ?_
            refine Ru.op (q := (.iload 9, 2)) (S' := (160, _, _, _, _)) (by decide +kernel) rfl ?_
            obtain ⟨g91, h⟩ := gd_some h
            refine Ru.istI (pc' := 161) (i := (S.A 46 o53)) (x := o55) (by decide +kernel) (hp47 _) g91 (ps_47 _ _ _) rfl ?_
            refine Ru.op (q := (.goto (-145), 3)) (S' := (16, _, _, _, _)) (by decide +kernel) rfl ?_
            exact ih _ _ _ _ _ _ _ _ _ _ ⟨hdd.1, hdd.2.1, rfl, rfl, rfl, rfl, rfl, rfl, trivial⟩ _ h r hk hr
          · replace h := if_f b90 h
            refine Ru.br (k := .eq) (off := 5) (bb := false) (tg := 150) (by decide +kernel) (by decide +kernel) (cz (ci_eq0 g89 (by decide) b90)) rfl ?_
            refine Ru.kI (q := (.iconst 0, 1)) (c := 0) (pc' := 151) (by decide +kernel) rfl (by decide) rfl ?_
            cases h
            have h9 := hr _ rfl
            subst h9
            exact Ru.iret (by decide +kernel) rfl (nar_b1 (by decide))
set_option maxRecDepth 100000 in
set_option maxHeartbeats 4000000 in
theorem g144_ok {S : St} {v1 : Int} {v2 : Int} {o : Int × St} (h : g144 S v1 v2 = some o) : Ru none 15 312 144 (0, mn_pad (mn_ent [.ref 36, vI v1, vI v2]) 10, [], S.ns, Hp S) ((0, some (vI o.1)), o.2.ns, Hp o.2) := by
  unfold g144 at h
  show Ru none 15 312 144 (0, [some (.ref 36), some (vI v1), some (vI v2), none, none, none, none, none, none, none], [], S.ns, Hp S) _
  refine Ru.kI (q := (.iconst 0, 1)) (c := 0) (pc' := 1) (by decide +kernel) rfl (by decide) rfl ?_
  refine Ru.op (q := (.istore_n 3, 1)) (S' := (2, [some (.ref 36), some (vI v1), some (vI v2), some (vI 0), none, none, none, none, none, none], [], _, _)) (by decide +kernel) rfl ?_
  refine Ru.op (q := (.aload_n 0, 1)) (S' := (3, _, _, _, _)) (by decide +kernel) rfl ?_
  refine Ru.getR (pc' := 6) (i := 105) (ci := 10) (k := 53) (nn := 0) (z := 0) (v := .ref 66) (by decide +kernel) (by decide +kernel) (hp36 _) (by decide) rfl rfl ?_
  refine Ru.kI (q := (.iconst 0, 1)) (c := 0) (pc' := 7) (by decide +kernel) rfl (by decide) rfl ?_
  refine Ru.op (q := (.iload_n 1, 1)) (S' := (8, _, _, _, _)) (by decide +kernel) rfl ?_
  refine Ru.istI (pc' := 9) (i := 0) (x := v1) (by decide +kernel) (hp66 _) (by decide) (ps_66 _ _ _) rfl ?_
  refine Ru.op (q := (.aload_n 0, 1)) (S' := (10, _, _, _, _)) (by decide +kernel) rfl ?_
  refine Ru.getR (pc' := 13) (i := 108) (ci := 10) (k := 54) (nn := 0) (z := 0) (v := .ref 67) (by decide +kernel) (by decide +kernel) (hp36 _) (by decide) rfl rfl ?_
  refine Ru.kI (q := (.iconst 0, 1)) (c := 0) (pc' := 14) (by decide +kernel) rfl (by decide) rfl ?_
  refine Ru.op (q := (.iload_n 2, 1)) (S' := (15, _, _, _, _)) (by decide +kernel) rfl ?_
  refine Ru.istI (pc' := 16) (i := 0) (x := v2) (by decide +kernel) (hp67 _) (by decide) (ps_67 _ _ _) rfl ?_
  rcases obr_some h with ⟨o92, e103, h⟩ | e103
  · refine g144L16_ok FU _ _ _ _ _ _ _ _ _ _ ⟨rfl, rfl, rfl, rfl, rfl, rfl, rfl, rfl, trivial⟩ _ e103 _ (fun o' e' => ?_) (fun o' e' => by cases e')
    cases e'
    intro d93 d94 d95 d96 d97 d98 d99 d100 d101 d102 hd104
    refine Ru.kI (q := (.iconst 1, 1)) (c := 1) (pc' := 243) (by decide +kernel) rfl (by decide) rfl ?_
    cases h
    exact Ru.iret (by decide +kernel) rfl (nar_b1 (by decide))
  · exact g144L16_ok FU _ _ _ _ _ _ _ _ _ _ ⟨rfl, rfl, rfl, rfl, rfl, rfl, rfl, rfl, trivial⟩ _ e103 _ (fun o' e' => by cases e') (fun o' e' => by cases e'; rfl)
set_option maxRecDepth 100000 in
set_option maxHeartbeats 4000000 in
theorem g140_ok {S : St} {v1 : Int} {v2 : Int} {v3 : Int} {o : Int × St} (h : g140 S v1 v2 v3 = some o) : Ru none 16 341 140 (0, mn_pad (mn_ent [.ref 36, vI v1, vI v2, vI v3]) 4, [], S.ns, Hp S) ((0, some (vI o.1)), o.2.ns, Hp o.2) := by
  unfold g140 at h
  show Ru none 16 341 140 (0, [some (.ref 36), some (vI v1), some (vI v2), some (vI v3)], [], S.ns, Hp S) _
  refine Ru.op (q := (.aload_n 0, 1)) (S' := (1, _, _, _, _)) (by decide +kernel) rfl ?_
  refine Ru.getR (pc' := 4) (i := 23) (ci := 10) (k := 6) (nn := 0) (z := 0) (v := .ref 40) (by decide +kernel) (by decide +kernel) (hp36 _) (by decide) rfl rfl ?_
  refine Ru.kI (q := (.iconst 4, 1)) (c := 4) (pc' := 5) (by decide +kernel) rfl (by decide) rfl ?_
  refine Ru.op (q := (.iload_n 1, 1)) (S' := (6, _, _, _, _)) (by decide +kernel) rfl ?_
  refine Ru.ar2 (i := .imul) (z := (4 * v1)) (pc' := 7) (by decide +kernel) rfl (ar_mul _ _) rfl ?_
  refine Ru.op (q := (.iload_n 2, 1)) (S' := (8, _, _, _, _)) (by decide +kernel) rfl ?_
  refine Ru.ar2 (i := .iadd) (z := ((4 * v1) + v2)) (pc' := 9) (by decide +kernel) rfl (ar_add _ _) rfl ?_
  obtain ⟨g1, h⟩ := gd_some h
  refine Ru.bldI (pc' := 10) (i := ((4 * v1) + v2)) (z := (S.A 40 ((4 * v1) + v2))) (by decide +kernel) (hp40 _) g1 (eI_of _) rfl ?_
  refine Ru.op (q := (.aload_n 0, 1)) (S' := (11, _, _, _, _)) (by decide +kernel) rfl ?_
  refine Ru.getR (pc' := 14) (i := 23) (ci := 10) (k := 6) (nn := 0) (z := 0) (v := .ref 40) (by decide +kernel) (by decide +kernel) (hp36 _) (by decide) rfl rfl ?_
  refine Ru.kI (q := (.iconst 4, 1)) (c := 4) (pc' := 15) (by decide +kernel) rfl (by decide) rfl ?_
  refine Ru.op (q := (.iload_n 1, 1)) (S' := (16, _, _, _, _)) (by decide +kernel) rfl ?_
  refine Ru.ar2 (i := .imul) (z := (4 * v1)) (pc' := 17) (by decide +kernel) rfl (ar_mul _ _) rfl ?_
  refine Ru.op (q := (.iload_n 3, 1)) (S' := (18, _, _, _, _)) (by decide +kernel) rfl ?_
  refine Ru.ar2 (i := .iadd) (z := ((4 * v1) + v3)) (pc' := 19) (by decide +kernel) rfl (ar_add _ _) rfl ?_
  obtain ⟨g2, h⟩ := gd_some h
  refine Ru.bldI (pc' := 20) (i := ((4 * v1) + v3)) (z := (S.A 40 ((4 * v1) + v3))) (by decide +kernel) (hp40 _) g2 (eI_of _) rfl ?_
  by_cases b3 : (S.A 40 ((4 * v1) + v2)) = (S.A 40 ((4 * v1) + v3))
  · replace h := if_t b3 h
    refine Ru.br2 (k := .eq) (off := 5) (bb := true) (tg := 25) (by decide +kernel) (by decide +kernel) (ci_eq1 (inR_to _) (inR_to _) b3) rfl ?_
    refine Ru.op (q := (.aload_n 0, 1)) (S' := (26, _, _, _, _)) (by decide +kernel) rfl ?_
    obtain ⟨o4, e5, h⟩ := ob_some h
    refine Ru.vcallI (pc' := 29) (st' := []) (i := 204) (j2 := 100) (ci := 10) (k := 0) (z := 0) (as := []) (by decide +kernel) (by decide +kernel) rfl rfl (hp36 _) (by decide) ⟨(Nat.le_of_ble_eq_true rfl), (by show 19 + 2 ≤ 341; exact Nat.le_of_ble_eq_true rfl), Nat.le_of_ble_eq_true rfl, Nat.le_of_ble_eq_true rfl⟩ ((g100_ok e5).up (Nat.le_of_ble_eq_true rfl) (Nat.le_of_ble_eq_true rfl)) rfl rfl ?_
    refine Ru.op (q := (.aload_n 0, 1)) (S' := (30, _, _, _, _)) (by decide +kernel) rfl ?_
    refine Ru.op (q := (.iload_n 1, 1)) (S' := (31, _, _, _, _)) (by decide +kernel) rfl ?_
    refine Ru.kI (q := (.iconst 0, 1)) (c := 0) (pc' := 32) (by decide +kernel) rfl (by decide) rfl ?_
    obtain ⟨o6, e7, h⟩ := ob_some h
    refine Ru.vcallI (pc' := 35) (st' := []) (i := 314) (j2 := 141) (ci := 10) (k := 0) (z := 0) (as := [vI v1, vI 0]) (by decide +kernel) (by decide +kernel) rfl rfl (hp36 _) (by decide) ⟨(Nat.le_of_ble_eq_true rfl), (by show 19 + 5 ≤ 341; exact Nat.le_of_ble_eq_true rfl), Nat.le_of_ble_eq_true rfl, Nat.le_of_ble_eq_true rfl⟩ ((g141_ok e7).up (Nat.le_of_ble_eq_true rfl) (Nat.le_of_ble_eq_true rfl)) rfl rfl ?_
    refine Ru.op (q := (.aload_n 0, 1)) (S' := (36, _, _, _, _)) (by decide +kernel) rfl ?_
    refine Ru.kI (q := (.iconst 0, 1)) (c := 0) (pc' := 37) (by decide +kernel) rfl (by decide) rfl ?_
    refine Ru.putH (pc' := 40) (i := 246) (ci := 10) (k := 24) (nn := 0) (z := 0) (by decide +kernel) (by decide +kernel) (hp36 _) (by decide) (Nat.le_of_ble_eq_true rfl) rfl (by decide +kernel) (pf_36_24 _ _) rfl ?_
    refine Ru.op (q := (.aload_n 0, 1)) (S' := (41, _, _, _, _)) (by decide +kernel) rfl ?_
    refine Ru.op (q := (.iload_n 1, 1)) (S' := (42, _, _, _, _)) (by decide +kernel) rfl ?_
    refine Ru.op (q := (.iload_n 3, 1)) (S' := (43, _, _, _, _)) (by decide +kernel) rfl ?_
    refine Ru.kI (q := (.iconst 0, 1)) (c := 0) (pc' := 44) (by decide +kernel) rfl (by decide) rfl ?_
    obtain ⟨o8, e9, h⟩ := ob_some h
    refine Ru.vcallI (pc' := 47) (st' := []) (i := 317) (j2 := 142) (ci := 10) (k := 0) (z := 0) (as := [vI v1, vI v3, vI 0]) (by decide +kernel) (by decide +kernel) rfl rfl (hp36 _) (by decide) ⟨(Nat.le_of_ble_eq_true rfl), (by show 19 + 5 ≤ 341; exact Nat.le_of_ble_eq_true rfl), Nat.le_of_ble_eq_true rfl, Nat.le_of_ble_eq_true rfl⟩ ((g142_ok e9).up (Nat.le_of_ble_eq_true rfl) (Nat.le_of_ble_eq_true rfl)) rfl rfl ?_
    refine Ru.op (q := (.aload_n 0, 1)) (S' := (48, _, _, _, _)) (by decide +kernel) rfl ?_
    refine Ru.op (q := (.aload_n 0, 1)) (S' := (49, _, _, _, _)) (by decide +kernel) rfl ?_
    refine Ru.op (q := (.iload_n 1, 1)) (S' := (50, _, _, _, _)) (by decide +kernel) rfl ?_
    refine Ru.op (q := (.iload_n 2, 1)) (S' := (51, _, _, _, _)) (by decide +kernel) rfl ?_
    refine Ru.kI (q := (.iconst 0, 1)) (c := 0) (pc' := 52) (by decide +kernel) rfl (by decide) rfl ?_
    obtain ⟨o10, e11, h⟩ := ob_some h
    refine Ru.vcallI (pc' := 55) (st' := [vI o10, .ref 36]) (i := 311) (j2 := 143) (ci := 10) (k := 0) (z := 0) (as := [vI v1, vI v2, vI 0]) (by decide +kernel) (by decide +kernel) rfl rfl (hp36 _) (by decide) ⟨(Nat.le_of_ble_eq_true rfl), (by show 19 + 4 ≤ 341; exact Nat.le_of_ble_eq_true rfl), Nat.le_of_ble_eq_true rfl, Nat.le_of_ble_eq_true rfl⟩ ((g143_ok e11).up (Nat.le_of_ble_eq_true rfl) (Nat.le_of_ble_eq_true rfl)) rfl rfl ?_
    refine Ru.op (q := (.aload_n 0, 1)) (S' := (56, _, _, _, _)) (by decide +kernel) rfl ?_
    refine Ru.op (q := (.iload_n 1, 1)) (S' := (57, _, _, _, _)) (by decide +kernel) rfl ?_
    refine Ru.op (q := (.iload_n 3, 1)) (S' := (58, _, _, _, _)) (by decide +kernel) rfl ?_
    refine Ru.kI (q := (.iconst 0, 1)) (c := 0) (pc' := 59) (by decide +kernel) rfl (by decide) rfl ?_
    obtain ⟨o12, e13, h⟩ := ob_some h
    refine Ru.vcallI (pc' := 62) (st' := [vI o12, vI o10, .ref 36]) (i := 311) (j2 := 143) (ci := 10) (k := 0) (z := 0) (as := [vI v1, vI v3, vI 0]) (by decide +kernel) (by decide +kernel) rfl rfl (hp36 _) (by decide) ⟨(Nat.le_of_ble_eq_true rfl), (by show 19 + 4 ≤ 341; exact Nat.le_of_ble_eq_true rfl), Nat.le_of_ble_eq_true rfl, Nat.le_of_ble_eq_true rfl⟩ ((g143_ok e13).up (Nat.le_of_ble_eq_true rfl) (Nat.le_of_ble_eq_true rfl)) rfl rfl ?_
    obtain ⟨o14, e15, h⟩ := ob_some h
    refine Ru.vcallI (pc' := 65) (st' := [vI o14.1]) (i := 321) (j2 := 144) (ci := 10) (k := 0) (z := 0) (as := [vI o10, vI o12]) (by decide +kernel) (by decide +kernel) rfl rfl (hp36 _) (by decide) ⟨(Nat.le_of_ble_eq_true rfl), (by show 19 + 10 ≤ 341; exact Nat.le_of_ble_eq_true rfl), Nat.le_of_ble_eq_true rfl, Nat.le_of_ble_eq_true rfl⟩ ((g144_ok e15).up (Nat.le_of_ble_eq_true rfl) (Nat.le_of_ble_eq_true rfl)) rfl rfl ?_
    obtain ⟨g16, h⟩ := gd_some h
    cases h
    exact Ru.iret (by decide +kernel) rfl (nar_b1 g16)
  · replace h := if_f b3 h
    refine Ru.br2 (k := .eq) (off := 5) (bb := false) (tg := 23) (by decide +kernel) (by decide +kernel) (ci_eq0 (inR_to _) (inR_to _) b3) rfl ?_
    refine Ru.kI (q := (.iconst 0, 1)) (c := 0) (pc' := 24) (by decide +kernel) rfl (by decide) rfl ?_
    cases h
    exact Ru.iret (by decide +kernel) rfl (nar_b1 (by decide))
set_option maxRecDepth 100000 in
set_option maxHeartbeats 4000000 in
theorem g146_ok {S : St} {v1 : Int} {v2 : Int} {v3 : Int} {v4 : Int} {o : Int × St} (h : g146 S v1 v2 v3 v4 = some o) : Ru none 16 341 146 (0, mn_pad (mn_ent [.ref 36, vI v1, vI v2, vI v3, vI v4]) 5, [], S.ns, Hp S) ((0, some (vI o.1)), o.2.ns, Hp o.2) := by
  unfold g146 at h
  show Ru none 16 341 146 (0, [some (.ref 36), some (vI v1), some (vI v2), some (vI v3), some (vI v4)], [], S.ns, Hp S) _
  refine Ru.op (q := (.aload_n 0, 1)) (S' := (1, _, _, _, _)) (by decide +kernel) rfl ?_
  refine Ru.getR (pc' := 4) (i := 23) (ci := 10) (k := 6) (nn := 0) (z := 0) (v := .ref 40) (by decide +kernel) (by decide +kernel) (hp36 _) (by decide) rfl rfl ?_
  refine Ru.kI (q := (.iconst 4, 1)) (c := 4) (pc' := 5) (by decide +kernel) rfl (by decide) rfl ?_
  refine Ru.op (q := (.iload_n 1, 1)) (S' := (6, _, _, _, _)) (by decide +kernel) rfl ?_
  refine Ru.ar2 (i := .imul) (z := (4 * v1)) (pc' := 7) (by decide +kernel) rfl (ar_mul _ _) rfl ?_
  refine Ru.op (q := (.iload_n 2, 1)) (S' := (8, _, _, _, _)) (by decide +kernel) rfl ?_
  refine Ru.ar2 (i := .iadd) (z := ((4 * v1) + v2)) (pc' := 9) (by decide +kernel) rfl (ar_add _ _) rfl ?_
  obtain ⟨g1, h⟩ := gd_some h
  refine Ru.bldI (pc' := 10) (i := ((4 * v1) + v2)) (z := (S.A 40 ((4 * v1) + v2))) (by decide +kernel) (hp40 _) g1 (eI_of _) rfl ?_
  refine Ru.op (q := (.aload_n 0, 1)) (S' := (11, _, _, _, _)) (by decide +kernel) rfl ?_
  refine Ru.getR (pc' := 14) (i := 23) (ci := 10) (k := 6) (nn := 0) (z := 0) (v := .ref 40) (by decide +kernel) (by decide +kernel) (hp36 _) (by decide) rfl rfl ?_
  refine Ru.kI (q := (.iconst 4, 1)) (c := 4) (pc' := 15) (by decide +kernel) rfl (by decide) rfl ?_
  refine Ru.op (q := (.iload_n 3, 1)) (S' := (16, _, _, _, _)) (by decide +kernel) rfl ?_
  refine Ru.ar2 (i := .imul) (z := (4 * v3)) (pc' := 17) (by decide +kernel) rfl (ar_mul _ _) rfl ?_
  refine Ru.op (q := (.iload 4, 2)) (S' := (19, _, _, _, _)) (by decide +kernel) rfl ?_
  refine Ru.ar2 (i := .iadd) (z := ((4 * v3) + v4)) (pc' := 20) (by decide +kernel) rfl (ar_add _ _) rfl ?_
  obtain ⟨g2, h⟩ := gd_some h
  refine Ru.bldI (pc' := 21) (i := ((4 * v3) + v4)) (z := (S.A 40 ((4 * v3) + v4))) (by decide +kernel) (hp40 _) g2 (eI_of _) rfl ?_
  by_cases b3 : (S.A 40 ((4 * v1) + v2)) = (S.A 40 ((4 * v3) + v4))
  · replace h := if_t b3 h
    refine Ru.br2 (k := .ne) (off := 5) (bb := false) (tg := 24) (by decide +kernel) (by decide +kernel) (ci_ne0 (inR_to _) (inR_to _) b3) rfl ?_
    refine Ru.kI (q := (.iconst 0, 1)) (c := 0) (pc' := 25) (by decide +kernel) rfl (by decide) rfl ?_
    cases h
    exact Ru.iret (by decide +kernel) rfl (nar_b1 (by decide))
  · replace h := if_f b3 h
    refine Ru.br2 (k := .ne) (off := 5) (bb := true) (tg := 26) (by decide +kernel) (by decide +kernel) (ci_ne1 (inR_to _) (inR_to _) b3) rfl ?_
    refine Ru.op (q := (.aload_n 0, 1)) (S' := (27, _, _, _, _)) (by decide +kernel) rfl ?_
    obtain ⟨o4, e5, h⟩ := ob_some h
    refine Ru.vcallI (pc' := 30) (st' := []) (i := 204) (j2 := 100) (ci := 10) (k := 0) (z := 0) (as := []) (by decide +kernel) (by decide +kernel) rfl rfl (hp36 _) (by decide) ⟨(Nat.le_of_ble_eq_true rfl), (by show 19 + 2 ≤ 341; exact Nat.le_of_ble_eq_true rfl), Nat.le_of_ble_eq_true rfl, Nat.le_of_ble_eq_true rfl⟩ ((g100_ok e5).up (Nat.le_of_ble_eq_true rfl) (Nat.le_of_ble_eq_true rfl)) rfl rfl ?_
    refine Ru.op (q := (.aload_n 0, 1)) (S' := (31, _, _, _, _)) (by decide +kernel) rfl ?_
    refine Ru.op (q := (.iload_n 1, 1)) (S' := (32, _, _, _, _)) (by decide +kernel) rfl ?_
    refine Ru.kI (q := (.iconst 0, 1)) (c := 0) (pc' := 33) (by decide +kernel) rfl (by decide) rfl ?_
    obtain ⟨o6, e7, h⟩ := ob_some h
    refine Ru.vcallI (pc' := 36) (st' := []) (i := 314) (j2 := 141) (ci := 10) (k := 0) (z := 0) (as := [vI v1, vI 0]) (by decide +kernel) (by decide +kernel) rfl rfl (hp36 _) (by decide) ⟨(Nat.le_of_ble_eq_true rfl), (by show 19 + 5 ≤ 341; exact Nat.le_of_ble_eq_true rfl), Nat.le_of_ble_eq_true rfl, Nat.le_of_ble_eq_true rfl⟩ ((g141_ok e7).up (Nat.le_of_ble_eq_true rfl) (Nat.le_of_ble_eq_true rfl)) rfl rfl ?_
    refine Ru.op (q := (.aload_n 0, 1)) (S' := (37, _, _, _, _)) (by decide +kernel) rfl ?_
    refine Ru.op (q := (.iload_n 3, 1)) (S' := (38, _, _, _, _)) (by decide +kernel) rfl ?_
    refine Ru.kI (q := (.bipush 16, 2)) (c := 16) (pc' := 40) (by decide +kernel) rfl (by decide) rfl ?_
    obtain ⟨o8, e9, h⟩ := ob_some h
    refine Ru.vcallI (pc' := 43) (st' := []) (i := 314) (j2 := 141) (ci := 10) (k := 0) (z := 0) (as := [vI v3, vI 16]) (by decide +kernel) (by decide +kernel) rfl rfl (hp36 _) (by decide) ⟨(Nat.le_of_ble_eq_true rfl), (by show 19 + 5 ≤ 341; exact Nat.le_of_ble_eq_true rfl), Nat.le_of_ble_eq_true rfl, Nat.le_of_ble_eq_true rfl⟩ ((g141_ok e9).up (Nat.le_of_ble_eq_true rfl) (Nat.le_of_ble_eq_true rfl)) rfl rfl ?_
    refine Ru.op (q := (.aload_n 0, 1)) (S' := (44, _, _, _, _)) (by decide +kernel) rfl ?_
    refine Ru.kI (q := (.iconst 0, 1)) (c := 0) (pc' := 45) (by decide +kernel) rfl (by decide) rfl ?_
    refine Ru.putH (pc' := 48) (i := 246) (ci := 10) (k := 24) (nn := 0) (z := 0) (by decide +kernel) (by decide +kernel) (hp36 _) (by decide) (Nat.le_of_ble_eq_true rfl) rfl (by decide +kernel) (pf_36_24 _ _) rfl ?_
    refine Ru.op (q := (.aload_n 0, 1)) (S' := (49, _, _, _, _)) (by decide +kernel) rfl ?_
    refine Ru.op (q := (.iload_n 1, 1)) (S' := (50, _, _, _, _)) (by decide +kernel) rfl ?_
    refine Ru.op (q := (.iload_n 2, 1)) (S' := (51, _, _, _, _)) (by decide +kernel) rfl ?_
    refine Ru.kI (q := (.iconst 0, 1)) (c := 0) (pc' := 52) (by decide +kernel) rfl (by decide) rfl ?_
    obtain ⟨o10, e11, h⟩ := ob_some h
    refine Ru.vcallI (pc' := 55) (st' := []) (i := 317) (j2 := 142) (ci := 10) (k := 0) (z := 0) (as := [vI v1, vI v2, vI 0]) (by decide +kernel) (by decide +kernel) rfl rfl (hp36 _) (by decide) ⟨(Nat.le_of_ble_eq_true rfl), (by show 19 + 5 ≤ 341; exact Nat.le_of_ble_eq_true rfl), Nat.le_of_ble_eq_true rfl, Nat.le_of_ble_eq_true rfl⟩ ((g142_ok e11).up (Nat.le_of_ble_eq_true rfl) (Nat.le_of_ble_eq_true rfl)) rfl rfl ?_
    refine Ru.op (q := (.aload_n 0, 1)) (S' := (56, _, _, _, _)) (by decide +kernel) rfl ?_
    refine Ru.op (q := (.iload_n 3, 1)) (S' := (57, _, _, _, _)) (by decide +kernel) rfl ?_
    refine Ru.op (q := (.iload 4, 2)) (S' := (59, _, _, _, _)) (by decide +kernel) rfl ?_
    refine Ru.kI (q := (.bipush 16, 2)) (c := 16) (pc' := 61) (by decide +kernel) rfl (by decide) rfl ?_
    obtain ⟨o12, e13, h⟩ := ob_some h
    refine Ru.vcallI (pc' := 64) (st' := []) (i := 317) (j2 := 142) (ci := 10) (k := 0) (z := 0) (as := [vI v3, vI v4, vI 16]) (by decide +kernel) (by decide +kernel) rfl rfl (hp36 _) (by decide) ⟨(Nat.le_of_ble_eq_true rfl), (by show 19 + 5 ≤ 341; exact Nat.le_of_ble_eq_true rfl), Nat.le_of_ble_eq_true rfl, Nat.le_of_ble_eq_true rfl⟩ ((g142_ok e13).up (Nat.le_of_ble_eq_true rfl) (Nat.le_of_ble_eq_true rfl)) rfl rfl ?_
    refine Ru.op (q := (.aload_n 0, 1)) (S' := (65, _, _, _, _)) (by decide +kernel) rfl ?_
    refine Ru.op (q := (.aload_n 0, 1)) (S' := (66, _, _, _, _)) (by decide +kernel) rfl ?_
    refine Ru.op (q := (.iload_n 1, 1)) (S' := (67, _, _, _, _)) (by decide +kernel) rfl ?_
    refine Ru.op (q := (.iload_n 2, 1)) (S' := (68, _, _, _, _)) (by decide +kernel) rfl ?_
    refine Ru.kI (q := (.iconst 0, 1)) (c := 0) (pc' := 69) (by decide +kernel) rfl (by decide) rfl ?_
    obtain ⟨o14, e15, h⟩ := ob_some h
    refine Ru.vcallI (pc' := 72) (st' := [vI o14, .ref 36]) (i := 311) (j2 := 143) (ci := 10) (k := 0) (z := 0) (as := [vI v1, vI v2, vI 0]) (by decide +kernel) (by decide +kernel) rfl rfl (hp36 _) (by decide) ⟨(Nat.le_of_ble_eq_true rfl), (by show 19 + 4 ≤ 341; exact Nat.le_of_ble_eq_true rfl), Nat.le_of_ble_eq_true rfl, Nat.le_of_ble_eq_true rfl⟩ ((g143_ok e15).up (Nat.le_of_ble_eq_true rfl) (Nat.le_of_ble_eq_true rfl)) rfl rfl ?_
    refine Ru.op (q := (.aload_n 0, 1)) (S' := (73, _, _, _, _)) (by decide +kernel) rfl ?_
    refine Ru.op (q := (.iload_n 3, 1)) (S' := (74, _, _, _, _)) (by decide +kernel) rfl ?_
    refine Ru.op (q := (.iload 4, 2)) (S' := (76, _, _, _, _)) (by decide +kernel) rfl ?_
    refine Ru.kI (q := (.bipush 16, 2)) (c := 16) (pc' := 78) (by decide +kernel) rfl (by decide) rfl ?_
    obtain ⟨o16, e17, h⟩ := ob_some h
    refine Ru.vcallI (pc' := 81) (st' := [vI o16, vI o14, .ref 36]) (i := 311) (j2 := 143) (ci := 10) (k := 0) (z := 0) (as := [vI v3, vI v4, vI 16]) (by decide +kernel) (by decide +kernel) rfl rfl (hp36 _) (by decide) ⟨(Nat.le_of_ble_eq_true rfl), (by show 19 + 4 ≤ 341; exact Nat.le_of_ble_eq_true rfl), Nat.le_of_ble_eq_true rfl, Nat.le_of_ble_eq_true rfl⟩ ((g143_ok e17).up (Nat.le_of_ble_eq_true rfl) (Nat.le_of_ble_eq_true rfl)) rfl rfl ?_
    obtain ⟨o18, e19, h⟩ := ob_some h
    refine Ru.vcallI (pc' := 84) (st' := [vI o18.1]) (i := 321) (j2 := 144) (ci := 10) (k := 0) (z := 0) (as := [vI o14, vI o16]) (by decide +kernel) (by decide +kernel) rfl rfl (hp36 _) (by decide) ⟨(Nat.le_of_ble_eq_true rfl), (by show 19 + 10 ≤ 341; exact Nat.le_of_ble_eq_true rfl), Nat.le_of_ble_eq_true rfl, Nat.le_of_ble_eq_true rfl⟩ ((g144_ok e19).up (Nat.le_of_ble_eq_true rfl) (Nat.le_of_ble_eq_true rfl)) rfl rfl ?_
    obtain ⟨g20, h⟩ := gd_some h
    cases h
    exact Ru.iret (by decide +kernel) rfl (nar_b1 g20)
