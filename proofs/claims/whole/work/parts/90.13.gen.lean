set_option maxRecDepth 100000 in
set_option maxHeartbeats 4000000 in
theorem g117L75_ok {v2 : Int} : ∀ (n : Nat) (v3 : Int) (S : St) (d1 : Option Value) (_ : DD [d1]) (out : St), g117L75 v2 n v3 S = some out → ∀ r, (∀ (e0 e1 e2 e3 : Option Value), DD [e0, e1, e2, e3] → Ru none 11 221 117 (122, [e0, e1, e2, e3], [], out.ns, Hp out) r) → Ru none 11 221 117 (75, [some (.ref 36), d1, some (vI v2), some (vI v3)], [], S.ns, Hp S) r := by
  intro n
  induction n with
  | zero => intro v3 S d1 hdd out h; cases h
  | succ n ih =>
    intro v3 S d1 hdd out h r hk
    unfold g117L75 at h
    refine Ru.op (q := (.iload_n 3, 1)) (S' := (76, _, _, _, _)) (by decide +kernel) rfl ?_
    refine Ru.op (q := (.aload_n 0, 1)) (S' := (77, _, _, _, _)) (by decide +kernel) rfl ?_
    refine Ru.getI (pc' := 80) (i := 158) (ci := 10) (k := 30) (nn := 0) (z := 0) (x := (S.F 36 30)) (by decide +kernel) (by decide +kernel) (hp36 _) (by decide) rfl (eI_of _) rfl ?_
    obtain ⟨g7, h⟩ := gd_some h
    by_cases b8 : v3 < (S.F 36 30)
    · replace h := if_t b8 h
      refine Ru.br2 (k := .ge) (off := 42) (bb := false) (tg := 83) (by decide +kernel) (by decide +kernel) (ci_ge0 g7 (inR_to _) b8) rfl ?_
      refine Ru.op (q := (.aload_n 0, 1)) (S' := (84, _, _, _, _)) (by decide +kernel) rfl ?_
      refine Ru.getR (pc' := 87) (i := 63) (ci := 10) (k := 33) (nn := 0) (z := 0) (v := .ref 52) (by decide +kernel) (by decide +kernel) (hp36 _) (by decide) rfl rfl ?_
      refine Ru.op (q := (.iload_n 3, 1)) (S' := (88, _, _, _, _)) (by decide +kernel) rfl ?_
      obtain ⟨g9, h⟩ := gd_some h
      refine Ru.bldI (pc' := 89) (i := v3) (z := (S.A 52 v3)) (by decide +kernel) (hp52 _) g9 (eI_of _) rfl ?_
      by_cases b10 : (S.A 52 v3) = 0
      · replace h := if_t b10 h
        refine Ru.br (k := .eq) (off := 27) (bb := true) (tg := 116) (by decide +kernel) (by decide +kernel) (cz (ci_eq1 (inR_to _) (by decide) b10)) rfl ?_
        refine Ru.inc (k := 3) (n := 1) (x := v3) (z := (v3 + 1)) (xs' := [some (.ref 36), d1, some (vI v2), some (vI (v3 + 1))]) (pc' := 119) (by decide +kernel) rfl rfl rfl rfl ?_
        refine Ru.op (q := (.goto (-44), 3)) (S' := (75, _, _, _, _)) (by decide +kernel) rfl ?_
        exact ih _ _ _ ⟨hdd.1, trivial⟩ _ h r hk
      · replace h := if_f b10 h
        refine Ru.br (k := .eq) (off := 27) (bb := false) (tg := 92) (by decide +kernel) (by decide +kernel) (cz (ci_eq0 (inR_to _) (by decide) b10)) rfl ?_
        refine Ru.op (q := (.aload_n 0, 1)) (S' := (93, _, _, _, _)) (by decide +kernel) rfl ?_
        refine Ru.op (q := (.aload_n 0, 1)) (S' := (94, _, _, _, _)) (by decide +kernel) rfl ?_
        refine Ru.getR (pc' := 97) (i := 60) (ci := 10) (k := 32) (nn := 0) (z := 0) (v := .ref 51) (by decide +kernel) (by decide +kernel) (hp36 _) (by decide) rfl rfl ?_
        refine Ru.op (q := (.iload_n 3, 1)) (S' := (98, _, _, _, _)) (by decide +kernel) rfl ?_
        refine Ru.ildI (pc' := 99) (i := v3) (z := (S.A 51 v3)) (by decide +kernel) (hp51 _) g9 (eI_of _) rfl ?_
        obtain ⟨o11, e12, h⟩ := ob_some h
        refine Ru.vcallI (pc' := 102) (st' := []) (i := 173) (j2 := 105) (ci := 10) (k := 0) (z := 0) (as := [vI (S.A 51 v3)]) (by decide +kernel) (by decide +kernel) rfl rfl (hp36 _) (by decide) ⟨(Nat.le_of_ble_eq_true rfl), (by show 19 + 2 ≤ 221; exact Nat.le_of_ble_eq_true rfl), Nat.le_of_ble_eq_true rfl, Nat.le_of_ble_eq_true rfl⟩ ((g105_ok e12).up (Nat.le_of_ble_eq_true rfl) (Nat.le_of_ble_eq_true rfl)) rfl rfl ?_
        refine Ru.op (q := (.aload_n 0, 1)) (S' := (103, _, _, _, _)) (by decide +kernel) rfl ?_
        refine Ru.getR (pc' := 106) (i := 45) (ci := 10) (k := 21) (nn := 0) (z := 0) (v := .ref 46) (by decide +kernel) (by decide +kernel) (hp36 _) (by decide) rfl rfl ?_
        refine Ru.op (q := (.iload_n 2, 1)) (S' := (107, _, _, _, _)) (by decide +kernel) rfl ?_
        refine Ru.op (q := (.aload_n 0, 1)) (S' := (108, _, _, _, _)) (by decide +kernel) rfl ?_
        refine Ru.getR (pc' := 111) (i := 45) (ci := 10) (k := 21) (nn := 0) (z := 0) (v := .ref 46) (by decide +kernel) (by decide +kernel) (hp36 _) (by decide) rfl rfl ?_
        refine Ru.op (q := (.iload_n 2, 1)) (S' := (112, _, _, _, _)) (by decide +kernel) rfl ?_
        obtain ⟨g13, h⟩ := gd_some h
        refine Ru.ildI (pc' := 113) (i := v2) (z := (o11.A 46 v2)) (by decide +kernel) (hp46 _) g13 (eI_of _) rfl ?_
        refine Ru.kI (q := (.iconst 1, 1)) (c := 1) (pc' := 114) (by decide +kernel) rfl (by decide) rfl ?_
        refine Ru.ar2 (i := .iadd) (z := ((o11.A 46 v2) + 1)) (pc' := 115) (by decide +kernel) rfl (ar_add _ _) rfl ?_
        refine Ru.istI (pc' := 116) (i := v2) (x := ((o11.A 46 v2) + 1)) (by decide +kernel) (hp46 _) g13 (ps_46 _ _ _) rfl ?_
        refine Ru.inc (k := 3) (n := 1) (x := v3) (z := (v3 + 1)) (xs' := [some (.ref 36), d1, some (vI v2), some (vI (v3 + 1))]) (pc' := 119) (by decide +kernel) rfl rfl rfl rfl ?_
        refine Ru.op (q := (.goto (-44), 3)) (S' := (75, _, _, _, _)) (by decide +kernel) rfl ?_
        exact ih _ _ _ ⟨hdd.1, trivial⟩ _ h r hk
    · replace h := if_f b8 h
      refine Ru.br2 (k := .ge) (off := 42) (bb := true) (tg := 122) (by decide +kernel) (by decide +kernel) (ci_ge1 g7 (inR_to _) b8) rfl ?_
      cases h
      exact hk _ _ _ _ ⟨rfl, hdd.1, rfl, rfl, trivial⟩
set_option maxRecDepth 100000 in
set_option maxHeartbeats 4000000 in
theorem g117_ok {S : St} {v1 : Int} {o : St} (h : g117 S v1 = some o) : Ru none 11 221 117 (0, mn_pad (mn_ent [.ref 36, vI v1]) 4, [], S.ns, Hp S) ((0, none), o.ns, Hp o) := by
  unfold g117 at h
  show Ru none 11 221 117 (0, [some (.ref 36), some (vI v1), none, none], [], S.ns, Hp S) _
  refine Ru.op (q := (.aload_n 0, 1)) (S' := (1, _, _, _, _)) (by decide +kernel) rfl ?_
  refine Ru.op (q := (.dup, 1)) (S' := (2, _, _, _, _)) (by decide +kernel) rfl ?_
  refine Ru.getI (pc' := 5) (i := 198) (ci := 10) (k := 35) (nn := 0) (z := 0) (x := (S.F 36 35)) (by decide +kernel) (by decide +kernel) (hp36 _) (by decide) rfl (eI_of _) rfl ?_
  refine Ru.kI (q := (.iconst 1, 1)) (c := 1) (pc' := 6) (by decide +kernel) rfl (by decide) rfl ?_
  refine Ru.ar2 (i := .iadd) (z := ((S.F 36 35) + 1)) (pc' := 7) (by decide +kernel) rfl (ar_add _ _) rfl ?_
  refine Ru.putH (pc' := 10) (i := 198) (ci := 10) (k := 35) (nn := 0) (z := 0) (by decide +kernel) (by decide +kernel) (hp36 _) (by decide) (Nat.le_of_ble_eq_true rfl) rfl (by decide +kernel) (pf_36_35 _ _) rfl ?_
  refine Ru.op (q := (.aload_n 0, 1)) (S' := (11, _, _, _, _)) (by decide +kernel) rfl ?_
  refine Ru.op (q := (.aload_n 0, 1)) (S' := (12, _, _, _, _)) (by decide +kernel) rfl ?_
  refine Ru.getI (pc' := 15) (i := 192) (ci := 10) (k := 36) (nn := 0) (z := 0) (x := (S.F 36 36)) (by decide +kernel) (by decide +kernel) (hp36 _) (by decide) rfl (eI_of _) rfl ?_
  by_cases b1 : (S.F 36 36) = 0
  · replace h := if_t b1 h
    refine Ru.br (k := .ne) (off := 12) (bb := false) (tg := 18) (by decide +kernel) (by decide +kernel) (cz (ci_ne0 (inR_to _) (by decide) b1)) rfl ?_
    refine Ru.op (q := (.aload_n 0, 1)) (S' := (19, _, _, _, _)) (by decide +kernel) rfl ?_
    refine Ru.getI (pc' := 22) (i := 198) (ci := 10) (k := 35) (nn := 0) (z := 0) (x := ((S.F 36 35) + 1)) (by decide +kernel) (by decide +kernel) (hp36 _) (by decide) rfl rfl rfl ?_
    refine Ru.kI (q := (.bipush 99, 2)) (c := 99) (pc' := 24) (by decide +kernel) rfl (by decide) rfl ?_
    obtain ⟨g2, h⟩ := gd_some h
    by_cases b3 : 99 < ((S.F 36 35) + 1)
    · replace h := if_t b3 h
      refine Ru.br2 (k := .le) (off := 7) (bb := false) (tg := 27) (by decide +kernel) (by decide +kernel) (ci_le0 g2 (by decide) b3) rfl ?_
      refine Ru.kI (q := (.iconst 1, 1)) (c := 1) (pc' := 28) (by decide +kernel) rfl (by decide) rfl ?_
      refine Ru.op (q := (.goto 4, 3)) (S' := (32, _, _, _, _)) (by decide +kernel) rfl ?_
      refine Ru.putH (pc' := 35) (i := 192) (ci := 10) (k := 36) (nn := 0) (z := 0) (by decide +kernel) (by decide +kernel) (hp36 _) (by decide) (Nat.le_of_ble_eq_true rfl) (fk_b (by decide)) (by decide +kernel) (pf_36_36 _ _) rfl ?_
      refine Ru.op (q := (.aload_n 0, 1)) (S' := (36, _, _, _, _)) (by decide +kernel) rfl ?_
      refine Ru.getR (pc' := 39) (i := 48) (ci := 10) (k := 23) (nn := 0) (z := 0) (v := .ref 47) (by decide +kernel) (by decide +kernel) (hp36 _) (by decide) rfl rfl ?_
      refine Ru.op (q := (.iload_n 1, 1)) (S' := (40, _, _, _, _)) (by decide +kernel) rfl ?_
      refine Ru.op (q := (.aload_n 0, 1)) (S' := (41, _, _, _, _)) (by decide +kernel) rfl ?_
      refine Ru.getI (pc' := 44) (i := 155) (ci := 10) (k := 22) (nn := 0) (z := 0) (x := (S.F 36 22)) (by decide +kernel) (by decide +kernel) (hp36 _) (by decide) rfl (eI_of _) rfl ?_
      obtain ⟨g4, h⟩ := gd_some h
      refine Ru.istI (pc' := 45) (i := v1) (x := (S.F 36 22)) (by decide +kernel) (hp47 _) g4 (ps_47 _ _ _) rfl ?_
      refine Ru.op (q := (.aload_n 0, 1)) (S' := (46, _, _, _, _)) (by decide +kernel) rfl ?_
      refine Ru.getI (pc' := 49) (i := 155) (ci := 10) (k := 22) (nn := 0) (z := 0) (x := (S.F 36 22)) (by decide +kernel) (by decide +kernel) (hp36 _) (by decide) rfl (eI_of _) rfl ?_
      refine Ru.op (q := (.istore_n 2, 1)) (S' := (50, [some (.ref 36), some (vI v1), some (vI (S.F 36 22)), none], [], _, _)) (by decide +kernel) rfl ?_
      refine Ru.op (q := (.aload_n 0, 1)) (S' := (51, _, _, _, _)) (by decide +kernel) rfl ?_
      refine Ru.kI (q := (.sipush 4096, 3)) (c := 4096) (pc' := 54) (by decide +kernel) rfl (by decide) rfl ?_
      refine Ru.kI (q := (.sipush 128, 3)) (c := 128) (pc' := 57) (by decide +kernel) rfl (by decide) rfl ?_
      refine Ru.kI (q := (.bipush 36, 2)) (c := 36) (pc' := 59) (by decide +kernel) rfl (by decide) rfl ?_
      refine Ru.kI (q := (.sipush 128, 3)) (c := 128) (pc' := 62) (by decide +kernel) rfl (by decide) rfl ?_
      refine Ru.op (q := (.aload_n 0, 1)) (S' := (63, _, _, _, _)) (by decide +kernel) rfl ?_
      refine Ru.getI (pc' := 66) (i := 198) (ci := 10) (k := 35) (nn := 0) (z := 0) (x := ((S.F 36 35) + 1)) (by decide +kernel) (by decide +kernel) (hp36 _) (by decide) rfl rfl rfl ?_
      refine Ru.ar2 (i := .imul) (z := (128 * ((S.F 36 35) + 1))) (pc' := 67) (by decide +kernel) rfl (ar_mul _ _) rfl ?_
      refine Ru.ar2 (i := .iadd) (z := (36 + (128 * ((S.F 36 35) + 1)))) (pc' := 68) (by decide +kernel) rfl (ar_add _ _) rfl ?_
      refine Ru.ar2 (i := .imul) (z := (128 * (36 + (128 * ((S.F 36 35) + 1))))) (pc' := 69) (by decide +kernel) rfl (ar_mul _ _) rfl ?_
      refine Ru.ar2 (i := .iadd) (z := (4096 + (128 * (36 + (128 * ((S.F 36 35) + 1)))))) (pc' := 70) (by decide +kernel) rfl (ar_add _ _) rfl ?_
      obtain ⟨o5, e6, h⟩ := ob_some h
      refine Ru.vcallI (pc' := 73) (st' := []) (i := 173) (j2 := 105) (ci := 10) (k := 0) (z := 0) (as := [vI (4096 + (128 * (36 + (128 * ((S.F 36 35) + 1)))))]) (by decide +kernel) (by decide +kernel) rfl rfl (hp36 _) (by decide) ⟨(Nat.le_of_ble_eq_true rfl), (by show 19 + 2 ≤ 221; exact Nat.le_of_ble_eq_true rfl), Nat.le_of_ble_eq_true rfl, Nat.le_of_ble_eq_true rfl⟩ ((g105_ok e6).up (Nat.le_of_ble_eq_true rfl) (Nat.le_of_ble_eq_true rfl)) rfl rfl ?_
      refine Ru.kI (q := (.iconst 0, 1)) (c := 0) (pc' := 74) (by decide +kernel) rfl (by decide) rfl ?_
      refine Ru.op (q := (.istore_n 3, 1)) (S' := (75, [some (.ref 36), some (vI v1), some (vI (S.F 36 22)), some (vI 0)], [], _, _)) (by decide +kernel) rfl ?_
      obtain ⟨o14, e19, h⟩ := ob_some h
      refine g117L75_ok FU _ _ _ ⟨rfl, trivial⟩ _ e19 _ ?_
      intro d15 d16 d17 d18 hd20
      cases h
      exact Ru.end (q := (.return_, 1)) (by decide +kernel) rfl rfl
    · replace h := if_f b3 h
      refine Ru.br2 (k := .le) (off := 7) (bb := true) (tg := 31) (by decide +kernel) (by decide +kernel) (ci_le1 g2 (by decide) b3) rfl ?_
      refine Ru.kI (q := (.iconst 0, 1)) (c := 0) (pc' := 32) (by decide +kernel) rfl (by decide) rfl ?_
      refine Ru.putH (pc' := 35) (i := 192) (ci := 10) (k := 36) (nn := 0) (z := 0) (by decide +kernel) (by decide +kernel) (hp36 _) (by decide) (Nat.le_of_ble_eq_true rfl) (fk_b (by decide)) (by decide +kernel) (pf_36_36 _ _) rfl ?_
      refine Ru.op (q := (.aload_n 0, 1)) (S' := (36, _, _, _, _)) (by decide +kernel) rfl ?_
      refine Ru.getR (pc' := 39) (i := 48) (ci := 10) (k := 23) (nn := 0) (z := 0) (v := .ref 47) (by decide +kernel) (by decide +kernel) (hp36 _) (by decide) rfl rfl ?_
      refine Ru.op (q := (.iload_n 1, 1)) (S' := (40, _, _, _, _)) (by decide +kernel) rfl ?_
      refine Ru.op (q := (.aload_n 0, 1)) (S' := (41, _, _, _, _)) (by decide +kernel) rfl ?_
      refine Ru.getI (pc' := 44) (i := 155) (ci := 10) (k := 22) (nn := 0) (z := 0) (x := (S.F 36 22)) (by decide +kernel) (by decide +kernel) (hp36 _) (by decide) rfl (eI_of _) rfl ?_
      obtain ⟨g21, h⟩ := gd_some h
      refine Ru.istI (pc' := 45) (i := v1) (x := (S.F 36 22)) (by decide +kernel) (hp47 _) g21 (ps_47 _ _ _) rfl ?_
      refine Ru.op (q := (.aload_n 0, 1)) (S' := (46, _, _, _, _)) (by decide +kernel) rfl ?_
      refine Ru.getI (pc' := 49) (i := 155) (ci := 10) (k := 22) (nn := 0) (z := 0) (x := (S.F 36 22)) (by decide +kernel) (by decide +kernel) (hp36 _) (by decide) rfl (eI_of _) rfl ?_
      refine Ru.op (q := (.istore_n 2, 1)) (S' := (50, [some (.ref 36), some (vI v1), some (vI (S.F 36 22)), none], [], _, _)) (by decide +kernel) rfl ?_
      refine Ru.op (q := (.aload_n 0, 1)) (S' := (51, _, _, _, _)) (by decide +kernel) rfl ?_
      refine Ru.kI (q := (.sipush 4096, 3)) (c := 4096) (pc' := 54) (by decide +kernel) rfl (by decide) rfl ?_
      refine Ru.kI (q := (.sipush 128, 3)) (c := 128) (pc' := 57) (by decide +kernel) rfl (by decide) rfl ?_
      refine Ru.kI (q := (.bipush 36, 2)) (c := 36) (pc' := 59) (by decide +kernel) rfl (by decide) rfl ?_
      refine Ru.kI (q := (.sipush 128, 3)) (c := 128) (pc' := 62) (by decide +kernel) rfl (by decide) rfl ?_
      refine Ru.op (q := (.aload_n 0, 1)) (S' := (63, _, _, _, _)) (by decide +kernel) rfl ?_
      refine Ru.getI (pc' := 66) (i := 198) (ci := 10) (k := 35) (nn := 0) (z := 0) (x := ((S.F 36 35) + 1)) (by decide +kernel) (by decide +kernel) (hp36 _) (by decide) rfl rfl rfl ?_
      refine Ru.ar2 (i := .imul) (z := (128 * ((S.F 36 35) + 1))) (pc' := 67) (by decide +kernel) rfl (ar_mul _ _) rfl ?_
      refine Ru.ar2 (i := .iadd) (z := (36 + (128 * ((S.F 36 35) + 1)))) (pc' := 68) (by decide +kernel) rfl (ar_add _ _) rfl ?_
      refine Ru.ar2 (i := .imul) (z := (128 * (36 + (128 * ((S.F 36 35) + 1))))) (pc' := 69) (by decide +kernel) rfl (ar_mul _ _) rfl ?_
      refine Ru.ar2 (i := .iadd) (z := (4096 + (128 * (36 + (128 * ((S.F 36 35) + 1)))))) (pc' := 70) (by decide +kernel) rfl (ar_add _ _) rfl ?_
      obtain ⟨o22, e23, h⟩ := ob_some h
      refine Ru.vcallI (pc' := 73) (st' := []) (i := 173) (j2 := 105) (ci := 10) (k := 0) (z := 0) (as := [vI (4096 + (128 * (36 + (128 * ((S.F 36 35) + 1)))))]) (by decide +kernel) (by decide +kernel) rfl rfl (hp36 _) (by decide) ⟨(Nat.le_of_ble_eq_true rfl), (by show 19 + 2 ≤ 221; exact Nat.le_of_ble_eq_true rfl), Nat.le_of_ble_eq_true rfl, Nat.le_of_ble_eq_true rfl⟩ ((g105_ok e23).up (Nat.le_of_ble_eq_true rfl) (Nat.le_of_ble_eq_true rfl)) rfl rfl ?_
      refine Ru.kI (q := (.iconst 0, 1)) (c := 0) (pc' := 74) (by decide +kernel) rfl (by decide) rfl ?_
      refine Ru.op (q := (.istore_n 3, 1)) (S' := (75, [some (.ref 36), some (vI v1), some (vI (S.F 36 22)), some (vI 0)], [], _, _)) (by decide +kernel) rfl ?_
      obtain ⟨o24, e29, h⟩ := ob_some h
      refine g117L75_ok FU _ _ _ ⟨rfl, trivial⟩ _ e29 _ ?_
      intro d25 d26 d27 d28 hd30
      cases h
      exact Ru.end (q := (.return_, 1)) (by decide +kernel) rfl rfl
  · replace h := if_f b1 h
    refine Ru.br (k := .ne) (off := 12) (bb := true) (tg := 27) (by decide +kernel) (by decide +kernel) (cz (ci_ne1 (inR_to _) (by decide) b1)) rfl ?_
    refine Ru.kI (q := (.iconst 1, 1)) (c := 1) (pc' := 28) (by decide +kernel) rfl (by decide) rfl ?_
    refine Ru.op (q := (.goto 4, 3)) (S' := (32, _, _, _, _)) (by decide +kernel) rfl ?_
    refine Ru.putH (pc' := 35) (i := 192) (ci := 10) (k := 36) (nn := 0) (z := 0) (by decide +kernel) (by decide +kernel) (hp36 _) (by decide) (Nat.le_of_ble_eq_true rfl) (fk_b (by decide)) (by decide +kernel) (pf_36_36 _ _) rfl ?_
    refine Ru.op (q := (.aload_n 0, 1)) (S' := (36, _, _, _, _)) (by decide +kernel) rfl ?_
    refine Ru.getR (pc' := 39) (i := 48) (ci := 10) (k := 23) (nn := 0) (z := 0) (v := .ref 47) (by decide +kernel) (by decide +kernel) (hp36 _) (by decide) rfl rfl ?_
    refine Ru.op (q := (.iload_n 1, 1)) (S' := (40, _, _, _, _)) (by decide +kernel) rfl ?_
    refine Ru.op (q := (.aload_n 0, 1)) (S' := (41, _, _, _, _)) (by decide +kernel) rfl ?_
    refine Ru.getI (pc' := 44) (i := 155) (ci := 10) (k := 22) (nn := 0) (z := 0) (x := (S.F 36 22)) (by decide +kernel) (by decide +kernel) (hp36 _) (by decide) rfl (eI_of _) rfl ?_
    obtain ⟨g31, h⟩ := gd_some h
    refine Ru.istI (pc' := 45) (i := v1) (x := (S.F 36 22)) (by decide +kernel) (hp47 _) g31 (ps_47 _ _ _) rfl ?_
    refine Ru.op (q := (.aload_n 0, 1)) (S' := (46, _, _, _, _)) (by decide +kernel) rfl ?_
    refine Ru.getI (pc' := 49) (i := 155) (ci := 10) (k := 22) (nn := 0) (z := 0) (x := (S.F 36 22)) (by decide +kernel) (by decide +kernel) (hp36 _) (by decide) rfl (eI_of _) rfl ?_
    refine Ru.op (q := (.istore_n 2, 1)) (S' := (50, [some (.ref 36), some (vI v1), some (vI (S.F 36 22)), none], [], _, _)) (by decide +kernel) rfl ?_
    refine Ru.op (q := (.aload_n 0, 1)) (S' := (51, _, _, _, _)) (by decide +kernel) rfl ?_
    refine Ru.kI (q := (.sipush 4096, 3)) (c := 4096) (pc' := 54) (by decide +kernel) rfl (by decide) rfl ?_
    refine Ru.kI (q := (.sipush 128, 3)) (c := 128) (pc' := 57) (by decide +kernel) rfl (by decide) rfl ?_
    refine Ru.kI (q := (.bipush 36, 2)) (c := 36) (pc' := 59) (by decide +kernel) rfl (by decide) rfl ?_
    refine Ru.kI (q := (.sipush 128, 3)) (c := 128) (pc' := 62) (by decide +kernel) rfl (by decide) rfl ?_
    refine Ru.op (q := (.aload_n 0, 1)) (S' := (63, _, _, _, _)) (by decide +kernel) rfl ?_
    refine Ru.getI (pc' := 66) (i := 198) (ci := 10) (k := 35) (nn := 0) (z := 0) (x := ((S.F 36 35) + 1)) (by decide +kernel) (by decide +kernel) (hp36 _) (by decide) rfl rfl rfl ?_
    refine Ru.ar2 (i := .imul) (z := (128 * ((S.F 36 35) + 1))) (pc' := 67) (by decide +kernel) rfl (ar_mul _ _) rfl ?_
    refine Ru.ar2 (i := .iadd) (z := (36 + (128 * ((S.F 36 35) + 1)))) (pc' := 68) (by decide +kernel) rfl (ar_add _ _) rfl ?_
    refine Ru.ar2 (i := .imul) (z := (128 * (36 + (128 * ((S.F 36 35) + 1))))) (pc' := 69) (by decide +kernel) rfl (ar_mul _ _) rfl ?_
    refine Ru.ar2 (i := .iadd) (z := (4096 + (128 * (36 + (128 * ((S.F 36 35) + 1)))))) (pc' := 70) (by decide +kernel) rfl (ar_add _ _) rfl ?_
    obtain ⟨o32, e33, h⟩ := ob_some h
    refine Ru.vcallI (pc' := 73) (st' := []) (i := 173) (j2 := 105) (ci := 10) (k := 0) (z := 0) (as := [vI (4096 + (128 * (36 + (128 * ((S.F 36 35) + 1)))))]) (by decide +kernel) (by decide +kernel) rfl rfl (hp36 _) (by decide) ⟨(Nat.le_of_ble_eq_true rfl), (by show 19 + 2 ≤ 221; exact Nat.le_of_ble_eq_true rfl), Nat.le_of_ble_eq_true rfl, Nat.le_of_ble_eq_true rfl⟩ ((g105_ok e33).up (Nat.le_of_ble_eq_true rfl) (Nat.le_of_ble_eq_true rfl)) rfl rfl ?_
    refine Ru.kI (q := (.iconst 0, 1)) (c := 0) (pc' := 74) (by decide +kernel) rfl (by decide) rfl ?_
    refine Ru.op (q := (.istore_n 3, 1)) (S' := (75, [some (.ref 36), some (vI v1), some (vI (S.F 36 22)), some (vI 0)], [], _, _)) (by decide +kernel) rfl ?_
    obtain ⟨o34, e39, h⟩ := ob_some h
    refine g117L75_ok FU _ _ _ ⟨rfl, trivial⟩ _ e39 _ ?_
    intro d35 d36 d37 d38 hd40
    cases h
    exact Ru.end (q := (.return_, 1)) (by decide +kernel) rfl rfl
set_option maxRecDepth 100000 in
set_option maxHeartbeats 4000000 in
theorem g116_ok {S : St} {v1 : Int} {o : St} (h : g116 S v1 = some o) : Ru none 13 263 116 (0, mn_pad (mn_ent [.ref 36, vI v1]) 3, [], S.ns, Hp S) ((0, none), o.ns, Hp o) := by
  unfold g116 at h
  show Ru none 13 263 116 (0, [some (.ref 36), some (vI v1), none], [], S.ns, Hp S) _
  refine Ru.op (q := (.aload_n 0, 1)) (S' := (1, _, _, _, _)) (by decide +kernel) rfl ?_
  refine Ru.kI (q := (.bipush 120, 2)) (c := 120) (pc' := 3) (by decide +kernel) rfl (by decide) rfl ?_
  refine Ru.kI (q := (.bipush 122, 2)) (c := 122) (pc' := 5) (by decide +kernel) rfl (by decide) rfl ?_
  obtain ⟨o1, e2, h⟩ := ob_some h
  refine Ru.vcallI (pc' := 8) (st' := [vI o1]) (i := 147) (j2 := 104) (ci := 10) (k := 0) (z := 0) (as := [vI 120, vI 122]) (by decide +kernel) (by decide +kernel) rfl rfl (hp36 _) (by decide) ⟨(Nat.le_of_ble_eq_true rfl), (by show 19 + 3 ≤ 263; exact Nat.le_of_ble_eq_true rfl), Nat.le_of_ble_eq_true rfl, Nat.le_of_ble_eq_true rfl⟩ ((g104_ok e2).up (Nat.le_of_ble_eq_true rfl) (Nat.le_of_ble_eq_true rfl)) rfl rfl ?_
  obtain ⟨g3, h⟩ := gd_some h
  by_cases b4 : o1 = 0
  · replace h := if_t b4 h
    refine Ru.br (k := .ne) (off := 9) (bb := false) (tg := 11) (by decide +kernel) (by decide +kernel) (cz (ci_ne0 g3 (by decide) b4)) rfl ?_
    refine Ru.op (q := (.aload_n 0, 1)) (S' := (12, _, _, _, _)) (by decide +kernel) rfl ?_
    refine Ru.kI (q := (.iconst 1, 1)) (c := 1) (pc' := 13) (by decide +kernel) rfl (by decide) rfl ?_
    refine Ru.putH (pc' := 16) (i := 151) (ci := 10) (k := 28) (nn := 0) (z := 0) (by decide +kernel) (by decide +kernel) (hp36 _) (by decide) (Nat.le_of_ble_eq_true rfl) (fk_b (by decide)) (by decide +kernel) (pf_36_28 _ _) rfl ?_
    cases h
    exact Ru.end (q := (.return_, 1)) (by decide +kernel) rfl rfl
  · replace h := if_f b4 h
    refine Ru.br (k := .ne) (off := 9) (bb := true) (tg := 17) (by decide +kernel) (by decide +kernel) (cz (ci_ne1 g3 (by decide) b4)) rfl ?_
    refine Ru.op (q := (.aload_n 0, 1)) (S' := (18, _, _, _, _)) (by decide +kernel) rfl ?_
    refine Ru.op (q := (.aload_n 0, 1)) (S' := (19, _, _, _, _)) (by decide +kernel) rfl ?_
    obtain ⟨o5, e6, h⟩ := ob_some h
    refine Ru.vcallI (pc' := 22) (st' := [vI o5.1, .ref 36]) (i := 164) (j2 := 109) (ci := 10) (k := 0) (z := 0) (as := []) (by decide +kernel) (by decide +kernel) rfl rfl (hp36 _) (by decide) ⟨(Nat.le_of_ble_eq_true rfl), (by show 19 + 2 ≤ 263; exact Nat.le_of_ble_eq_true rfl), Nat.le_of_ble_eq_true rfl, Nat.le_of_ble_eq_true rfl⟩ ((g109_ok e6).up (Nat.le_of_ble_eq_true rfl) (Nat.le_of_ble_eq_true rfl)) rfl rfl ?_
    obtain ⟨o7, e8, h⟩ := ob_some h
    refine Ru.vcallI (pc' := 25) (st' := [vI o7.1]) (i := 170) (j2 := 110) (ci := 10) (k := 0) (z := 0) (as := [vI o5.1]) (by decide +kernel) (by decide +kernel) rfl rfl (hp36 _) (by decide) ⟨(Nat.le_of_ble_eq_true rfl), (by show 19 + 2 ≤ 263; exact Nat.le_of_ble_eq_true rfl), Nat.le_of_ble_eq_true rfl, Nat.le_of_ble_eq_true rfl⟩ ((g110_ok e8).up (Nat.le_of_ble_eq_true rfl) (Nat.le_of_ble_eq_true rfl)) rfl rfl ?_
    refine Ru.op (q := (.istore_n 2, 1)) (S' := (26, [some (.ref 36), some (vI v1), some (vI o7.1)], [], _, _)) (by decide +kernel) rfl ?_
    refine Ru.op (q := (.iload_n 1, 1)) (S' := (27, _, _, _, _)) (by decide +kernel) rfl ?_
    obtain ⟨g9, h⟩ := gd_some h
    by_cases b10 : v1 = 0
    · replace h := if_t b10 h
      refine Ru.br (k := .eq) (off := 18) (bb := true) (tg := 45) (by decide +kernel) (by decide +kernel) (cz (ci_eq1 g9 (by decide) b10)) rfl ?_
      refine Ru.op (q := (.aload_n 0, 1)) (S' := (46, _, _, _, _)) (by decide +kernel) rfl ?_
      refine Ru.op (q := (.iload_n 2, 1)) (S' := (47, _, _, _, _)) (by decide +kernel) rfl ?_
      obtain ⟨o11, e12, h⟩ := ob_some h
      refine Ru.vcallI (pc' := 50) (st' := []) (i := 230) (j2 := 117) (ci := 10) (k := 0) (z := 0) (as := [vI o7.1]) (by decide +kernel) (by decide +kernel) rfl rfl (hp36 _) (by decide) ⟨(Nat.le_of_ble_eq_true rfl), (by show 19 + 4 ≤ 263; exact Nat.le_of_ble_eq_true rfl), Nat.le_of_ble_eq_true rfl, Nat.le_of_ble_eq_true rfl⟩ ((g117_ok e12).up (Nat.le_of_ble_eq_true rfl) (Nat.le_of_ble_eq_true rfl)) rfl rfl ?_
      cases h
      exact Ru.end (q := (.return_, 1)) (by decide +kernel) rfl rfl
    · replace h := if_f b10 h
      refine Ru.br (k := .eq) (off := 18) (bb := false) (tg := 30) (by decide +kernel) (by decide +kernel) (cz (ci_eq0 g9 (by decide) b10)) rfl ?_
      refine Ru.op (q := (.aload_n 0, 1)) (S' := (31, _, _, _, _)) (by decide +kernel) rfl ?_
      refine Ru.getR (pc' := 34) (i := 63) (ci := 10) (k := 33) (nn := 0) (z := 0) (v := .ref 52) (by decide +kernel) (by decide +kernel) (hp36 _) (by decide) rfl rfl ?_
      refine Ru.op (q := (.aload_n 0, 1)) (S' := (35, _, _, _, _)) (by decide +kernel) rfl ?_
      refine Ru.getI (pc' := 38) (i := 158) (ci := 10) (k := 30) (nn := 0) (z := 0) (x := (o7.2.F 36 30)) (by decide +kernel) (by decide +kernel) (hp36 _) (by decide) rfl (eI_of _) rfl ?_
      refine Ru.kI (q := (.iconst 1, 1)) (c := 1) (pc' := 39) (by decide +kernel) rfl (by decide) rfl ?_
      refine Ru.ar2 (i := .isub) (z := ((o7.2.F 36 30) - 1)) (pc' := 40) (by decide +kernel) rfl (ar_sub _ _) rfl ?_
      refine Ru.kI (q := (.iconst 1, 1)) (c := 1) (pc' := 41) (by decide +kernel) rfl (by decide) rfl ?_
      obtain ⟨g13, h⟩ := gd_some h
      refine Ru.bstI (pc' := 42) (i := ((o7.2.F 36 30) - 1)) (x := 1) (by decide +kernel) (hp52 _) g13 (by decide) (ps_52 _ _ _) rfl ?_
      refine Ru.op (q := (.goto 8, 3)) (S' := (50, _, _, _, _)) (by decide +kernel) rfl ?_
      cases h
      exact Ru.end (q := (.return_, 1)) (by decide +kernel) rfl rfl
set_option maxRecDepth 100000 in
set_option maxHeartbeats 4000000 in
theorem g111_ok {S : St} {o : Int × St} (h : g111 S  = some o) : Ru none 12 242 111 (0, mn_pad (mn_ent [.ref 36]) 2, [], S.ns, Hp S) ((0, some (vI o.1)), o.2.ns, Hp o.2) := by
  unfold g111 at h
  show Ru none 12 242 111 (0, [some (.ref 36), none], [], S.ns, Hp S) _
  refine Ru.op (q := (.aload_n 0, 1)) (S' := (1, _, _, _, _)) (by decide +kernel) rfl ?_
  refine Ru.op (q := (.dup, 1)) (S' := (2, _, _, _, _)) (by decide +kernel) rfl ?_
  refine Ru.getI (pc' := 5) (i := 140) (ci := 10) (k := 27) (nn := 0) (z := 0) (x := (S.F 36 27)) (by decide +kernel) (by decide +kernel) (hp36 _) (by decide) rfl (eI_of _) rfl ?_
  refine Ru.kI (q := (.iconst 1, 1)) (c := 1) (pc' := 6) (by decide +kernel) rfl (by decide) rfl ?_
  refine Ru.ar2 (i := .iadd) (z := ((S.F 36 27) + 1)) (pc' := 7) (by decide +kernel) rfl (ar_add _ _) rfl ?_
  refine Ru.putH (pc' := 10) (i := 140) (ci := 10) (k := 27) (nn := 0) (z := 0) (by decide +kernel) (by decide +kernel) (hp36 _) (by decide) (Nat.le_of_ble_eq_true rfl) rfl (by decide +kernel) (pf_36_27 _ _) rfl ?_
  refine Ru.op (q := (.aload_n 0, 1)) (S' := (11, _, _, _, _)) (by decide +kernel) rfl ?_
  refine Ru.kI (q := (.bipush 49, 2)) (c := 49) (pc' := 13) (by decide +kernel) rfl (by decide) rfl ?_
  refine Ru.kI (q := (.bipush 57, 2)) (c := 57) (pc' := 15) (by decide +kernel) rfl (by decide) rfl ?_
  obtain ⟨o1, e2, h⟩ := ob_some h
  refine Ru.vcallI (pc' := 18) (st' := [vI o1]) (i := 147) (j2 := 104) (ci := 10) (k := 0) (z := 0) (as := [vI 49, vI 57]) (by decide +kernel) (by decide +kernel) rfl rfl (hp36 _) (by decide) ⟨(Nat.le_of_ble_eq_true rfl), (by show 19 + 3 ≤ 242; exact Nat.le_of_ble_eq_true rfl), Nat.le_of_ble_eq_true rfl, Nat.le_of_ble_eq_true rfl⟩ ((g104_ok e2).up (Nat.le_of_ble_eq_true rfl) (Nat.le_of_ble_eq_true rfl)) rfl rfl ?_
  obtain ⟨g3, h⟩ := gd_some h
  by_cases b4 : o1 = 0
  · replace h := if_t b4 h
    refine Ru.br (k := .ne) (off := 10) (bb := false) (tg := 21) (by decide +kernel) (by decide +kernel) (cz (ci_ne0 g3 (by decide) b4)) rfl ?_
    refine Ru.op (q := (.aload_n 0, 1)) (S' := (22, _, _, _, _)) (by decide +kernel) rfl ?_
    refine Ru.kI (q := (.iconst 1, 1)) (c := 1) (pc' := 23) (by decide +kernel) rfl (by decide) rfl ?_
    refine Ru.putH (pc' := 26) (i := 151) (ci := 10) (k := 28) (nn := 0) (z := 0) (by decide +kernel) (by decide +kernel) (hp36 _) (by decide) (Nat.le_of_ble_eq_true rfl) (fk_b (by decide)) (by decide +kernel) (pf_36_28 _ _) rfl ?_
    refine Ru.kI (q := (.iconst 0, 1)) (c := 0) (pc' := 27) (by decide +kernel) rfl (by decide) rfl ?_
    cases h
    exact Ru.iret (by decide +kernel) rfl rfl
  · replace h := if_f b4 h
    refine Ru.br (k := .ne) (off := 10) (bb := true) (tg := 28) (by decide +kernel) (by decide +kernel) (cz (ci_ne1 g3 (by decide) b4)) rfl ?_
    refine Ru.op (q := (.aload_n 0, 1)) (S' := (29, _, _, _, _)) (by decide +kernel) rfl ?_
    obtain ⟨o5, e6, h⟩ := ob_some h
    refine Ru.vcallI (pc' := 32) (st' := [vI o5]) (i := 143) (j2 := 102) (ci := 10) (k := 0) (z := 0) (as := []) (by decide +kernel) (by decide +kernel) rfl rfl (hp36 _) (by decide) ⟨(Nat.le_of_ble_eq_true rfl), (by show 19 + 1 ≤ 242; exact Nat.le_of_ble_eq_true rfl), Nat.le_of_ble_eq_true rfl, Nat.le_of_ble_eq_true rfl⟩ ((g102_ok e6).up (Nat.le_of_ble_eq_true rfl) (Nat.le_of_ble_eq_true rfl)) rfl rfl ?_
    refine Ru.kI (q := (.bipush 48, 2)) (c := 48) (pc' := 34) (by decide +kernel) rfl (by decide) rfl ?_
    refine Ru.ar2 (i := .isub) (z := (o5 - 48)) (pc' := 35) (by decide +kernel) rfl (ar_sub _ _) rfl ?_
    refine Ru.op (q := (.istore_n 1, 1)) (S' := (36, [some (.ref 36), some (vI (o5 - 48))], [], _, _)) (by decide +kernel) rfl ?_
    refine Ru.op (q := (.aload_n 0, 1)) (S' := (37, _, _, _, _)) (by decide +kernel) rfl ?_
    refine Ru.op (q := (.dup, 1)) (S' := (38, _, _, _, _)) (by decide +kernel) rfl ?_
    refine Ru.getI (pc' := 41) (i := 140) (ci := 10) (k := 27) (nn := 0) (z := 0) (x := ((S.F 36 27) + 1)) (by decide +kernel) (by decide +kernel) (hp36 _) (by decide) rfl rfl rfl ?_
    refine Ru.kI (q := (.iconst 1, 1)) (c := 1) (pc' := 42) (by decide +kernel) rfl (by decide) rfl ?_
    refine Ru.ar2 (i := .iadd) (z := (((S.F 36 27) + 1) + 1)) (pc' := 43) (by decide +kernel) rfl (ar_add _ _) rfl ?_
    refine Ru.putH (pc' := 46) (i := 140) (ci := 10) (k := 27) (nn := 0) (z := 0) (by decide +kernel) (by decide +kernel) (hp36 _) (by decide) (Nat.le_of_ble_eq_true rfl) rfl (by decide +kernel) (pf_36_27 _ _) rfl ?_
    refine Ru.op (q := (.aload_n 0, 1)) (S' := (47, _, _, _, _)) (by decide +kernel) rfl ?_
    refine Ru.kI (q := (.bipush 48, 2)) (c := 48) (pc' := 49) (by decide +kernel) rfl (by decide) rfl ?_
    refine Ru.kI (q := (.bipush 57, 2)) (c := 57) (pc' := 51) (by decide +kernel) rfl (by decide) rfl ?_
    obtain ⟨o7, e8, h⟩ := ob_some h
    refine Ru.vcallI (pc' := 54) (st' := [vI o7]) (i := 147) (j2 := 104) (ci := 10) (k := 0) (z := 0) (as := [vI 48, vI 57]) (by decide +kernel) (by decide +kernel) rfl rfl (hp36 _) (by decide) ⟨(Nat.le_of_ble_eq_true rfl), (by show 19 + 3 ≤ 242; exact Nat.le_of_ble_eq_true rfl), Nat.le_of_ble_eq_true rfl, Nat.le_of_ble_eq_true rfl⟩ ((g104_ok e8).up (Nat.le_of_ble_eq_true rfl) (Nat.le_of_ble_eq_true rfl)) rfl rfl ?_
    obtain ⟨g9, h⟩ := gd_some h
    by_cases b10 : o7 = 0
    · replace h := if_t b10 h
      refine Ru.br (k := .eq) (off := 26) (bb := true) (tg := 80) (by decide +kernel) (by decide +kernel) (cz (ci_eq1 g9 (by decide) b10)) rfl ?_
      refine Ru.kI (q := (.bipush 36, 2)) (c := 36) (pc' := 82) (by decide +kernel) rfl (by decide) rfl ?_
      refine Ru.kI (q := (.sipush 128, 3)) (c := 128) (pc' := 85) (by decide +kernel) rfl (by decide) rfl ?_
      refine Ru.op (q := (.iload_n 1, 1)) (S' := (86, _, _, _, _)) (by decide +kernel) rfl ?_
      refine Ru.ar2 (i := .imul) (z := (128 * (o5 - 48))) (pc' := 87) (by decide +kernel) rfl (ar_mul _ _) rfl ?_
      refine Ru.ar2 (i := .iadd) (z := (36 + (128 * (o5 - 48)))) (pc' := 88) (by decide +kernel) rfl (ar_add _ _) rfl ?_
      cases h
      exact Ru.iret (by decide +kernel) rfl rfl
    · replace h := if_f b10 h
      refine Ru.br (k := .eq) (off := 26) (bb := false) (tg := 57) (by decide +kernel) (by decide +kernel) (cz (ci_eq0 g9 (by decide) b10)) rfl ?_
      refine Ru.kI (q := (.bipush 10, 2)) (c := 10) (pc' := 59) (by decide +kernel) rfl (by decide) rfl ?_
      refine Ru.op (q := (.iload_n 1, 1)) (S' := (60, _, _, _, _)) (by decide +kernel) rfl ?_
      refine Ru.ar2 (i := .imul) (z := (10 * (o5 - 48))) (pc' := 61) (by decide +kernel) rfl (ar_mul _ _) rfl ?_
      refine Ru.op (q := (.aload_n 0, 1)) (S' := (62, _, _, _, _)) (by decide +kernel) rfl ?_
      obtain ⟨o11, e12, h⟩ := ob_some h
      refine Ru.vcallI (pc' := 65) (st' := [vI o11, vI (10 * (o5 - 48))]) (i := 143) (j2 := 102) (ci := 10) (k := 0) (z := 0) (as := []) (by decide +kernel) (by decide +kernel) rfl rfl (hp36 _) (by decide) ⟨(Nat.le_of_ble_eq_true rfl), (by show 19 + 1 ≤ 242; exact Nat.le_of_ble_eq_true rfl), Nat.le_of_ble_eq_true rfl, Nat.le_of_ble_eq_true rfl⟩ ((g102_ok e12).up (Nat.le_of_ble_eq_true rfl) (Nat.le_of_ble_eq_true rfl)) rfl rfl ?_
      refine Ru.ar2 (i := .iadd) (z := ((10 * (o5 - 48)) + o11)) (pc' := 66) (by decide +kernel) rfl (ar_add _ _) rfl ?_
      refine Ru.kI (q := (.bipush 48, 2)) (c := 48) (pc' := 68) (by decide +kernel) rfl (by decide) rfl ?_
      refine Ru.ar2 (i := .isub) (z := (((10 * (o5 - 48)) + o11) - 48)) (pc' := 69) (by decide +kernel) rfl (ar_sub _ _) rfl ?_
      refine Ru.op (q := (.istore_n 1, 1)) (S' := (70, [some (.ref 36), some (vI (((10 * (o5 - 48)) + o11) - 48))], [], _, _)) (by decide +kernel) rfl ?_
      refine Ru.op (q := (.aload_n 0, 1)) (S' := (71, _, _, _, _)) (by decide +kernel) rfl ?_
      refine Ru.op (q := (.dup, 1)) (S' := (72, _, _, _, _)) (by decide +kernel) rfl ?_
      refine Ru.getI (pc' := 75) (i := 140) (ci := 10) (k := 27) (nn := 0) (z := 0) (x := (((S.F 36 27) + 1) + 1)) (by decide +kernel) (by decide +kernel) (hp36 _) (by decide) rfl rfl rfl ?_
      refine Ru.kI (q := (.iconst 1, 1)) (c := 1) (pc' := 76) (by decide +kernel) rfl (by decide) rfl ?_
      refine Ru.ar2 (i := .iadd) (z := ((((S.F 36 27) + 1) + 1) + 1)) (pc' := 77) (by decide +kernel) rfl (ar_add _ _) rfl ?_
      refine Ru.putH (pc' := 80) (i := 140) (ci := 10) (k := 27) (nn := 0) (z := 0) (by decide +kernel) (by decide +kernel) (hp36 _) (by decide) (Nat.le_of_ble_eq_true rfl) rfl (by decide +kernel) (pf_36_27 _ _) rfl ?_
      refine Ru.kI (q := (.bipush 36, 2)) (c := 36) (pc' := 82) (by decide +kernel) rfl (by decide) rfl ?_
      refine Ru.kI (q := (.sipush 128, 3)) (c := 128) (pc' := 85) (by decide +kernel) rfl (by decide) rfl ?_
      refine Ru.op (q := (.iload_n 1, 1)) (S' := (86, _, _, _, _)) (by decide +kernel) rfl ?_
      refine Ru.ar2 (i := .imul) (z := (128 * (((10 * (o5 - 48)) + o11) - 48))) (pc' := 87) (by decide +kernel) rfl (ar_mul _ _) rfl ?_
      refine Ru.ar2 (i := .iadd) (z := (36 + (128 * (((10 * (o5 - 48)) + o11) - 48)))) (pc' := 88) (by decide +kernel) rfl (ar_add _ _) rfl ?_
      cases h
      exact Ru.iret (by decide +kernel) rfl rfl
set_option maxRecDepth 100000 in
set_option maxHeartbeats 4000000 in
theorem g108L15_ok {S : St} {v1 : Int} {v2 : Int} : ∀ (n : Nat) (v3 : Int) (v4 : Int) (_ : DD []) (out : Int), g108L15 S v1 v2 n v3 v4 = some out → ∀ r, (∀ (e4 : Option Value), DD [e4] → Ru none 13 263 108 (53, [some (.ref 36), some (vI v1), some (vI v2), some (vI out), e4], [], S.ns, Hp S) r) → Ru none 13 263 108 (15, [some (.ref 36), some (vI v1), some (vI v2), some (vI v3), some (vI v4)], [], S.ns, Hp S) r := by
  intro n
  induction n with
  | zero => intro v3 v4 hdd out h; cases h
  | succ n ih =>
    intro v3 v4 hdd out h r hk
    unfold g108L15 at h
    refine Ru.op (q := (.iload 4, 2)) (S' := (17, _, _, _, _)) (by decide +kernel) rfl ?_
    refine Ru.op (q := (.aload_n 0, 1)) (S' := (18, _, _, _, _)) (by decide +kernel) rfl ?_
    refine Ru.getI (pc' := 21) (i := 158) (ci := 10) (k := 30) (nn := 0) (z := 0) (x := (S.F 36 30)) (by decide +kernel) (by decide +kernel) (hp36 _) (by decide) rfl (eI_of _) rfl ?_
    obtain ⟨g3, h⟩ := gd_some h
    by_cases b4 : v4 < (S.F 36 30)
    · replace h := if_t b4 h
      refine Ru.br2 (k := .ge) (off := 32) (bb := false) (tg := 24) (by decide +kernel) (by decide +kernel) (ci_ge0 g3 (inR_to _) b4) rfl ?_
      refine Ru.op (q := (.aload_n 0, 1)) (S' := (25, _, _, _, _)) (by decide +kernel) rfl ?_
      refine Ru.getR (pc' := 28) (i := 57) (ci := 10) (k := 31) (nn := 0) (z := 0) (v := .ref 50) (by decide +kernel) (by decide +kernel) (hp36 _) (by decide) rfl rfl ?_
      refine Ru.op (q := (.iload 4, 2)) (S' := (30, _, _, _, _)) (by decide +kernel) rfl ?_
      obtain ⟨g5, h⟩ := gd_some h
      refine Ru.ildI (pc' := 31) (i := v4) (z := (S.A 50 v4)) (by decide +kernel) (hp50 _) g5 (eI_of _) rfl ?_
      refine Ru.op (q := (.iload_n 2, 1)) (S' := (32, _, _, _, _)) (by decide +kernel) rfl ?_
      obtain ⟨g6, h⟩ := gd_some h
      by_cases b7 : (S.A 50 v4) = v2
      · replace h := if_t b7 h
        refine Ru.br2 (k := .ne) (off := 13) (bb := false) (tg := 35) (by decide +kernel) (by decide +kernel) (ci_ne0 (inR_to _) g6 b7) rfl ?_
        refine Ru.op (q := (.aload_n 0, 1)) (S' := (36, _, _, _, _)) (by decide +kernel) rfl ?_
        refine Ru.getR (pc' := 39) (i := 60) (ci := 10) (k := 32) (nn := 0) (z := 0) (v := .ref 51) (by decide +kernel) (by decide +kernel) (hp36 _) (by decide) rfl rfl ?_
        refine Ru.op (q := (.iload 4, 2)) (S' := (41, _, _, _, _)) (by decide +kernel) rfl ?_
        refine Ru.ildI (pc' := 42) (i := v4) (z := (S.A 51 v4)) (by decide +kernel) (hp51 _) g5 (eI_of _) rfl ?_
        refine Ru.op (q := (.goto 4, 3)) (S' := (46, _, _, _, _)) (by decide +kernel) rfl ?_
        refine Ru.op (q := (.istore_n 3, 1)) (S' := (47, [some (.ref 36), some (vI v1), some (vI v2), some (vI (S.A 51 v4)), some (vI v4)], [], _, _)) (by decide +kernel) rfl ?_
        refine Ru.inc (k := 4) (n := 1) (x := v4) (z := (v4 + 1)) (xs' := [some (.ref 36), some (vI v1), some (vI v2), some (vI (S.A 51 v4)), some (vI (v4 + 1))]) (pc' := 50) (by decide +kernel) rfl rfl rfl rfl ?_
        refine Ru.op (q := (.goto (-35), 3)) (S' := (15, _, _, _, _)) (by decide +kernel) rfl ?_
        exact ih _ _ trivial _ h r hk
      · replace h := if_f b7 h
        refine Ru.br2 (k := .ne) (off := 13) (bb := true) (tg := 45) (by decide +kernel) (by decide +kernel) (ci_ne1 (inR_to _) g6 b7) rfl ?_
        refine Ru.op (q := (.iload_n 3, 1)) (S' := (46, _, _, _, _)) (by decide +kernel) rfl ?_
        refine Ru.op (q := (.istore_n 3, 1)) (S' := (47, [some (.ref 36), some (vI v1), some (vI v2), some (vI v3), some (vI v4)], [], _, _)) (by decide +kernel) rfl ?_
        refine Ru.inc (k := 4) (n := 1) (x := v4) (z := (v4 + 1)) (xs' := [some (.ref 36), some (vI v1), some (vI v2), some (vI v3), some (vI (v4 + 1))]) (pc' := 50) (by decide +kernel) rfl rfl rfl rfl ?_
        refine Ru.op (q := (.goto (-35), 3)) (S' := (15, _, _, _, _)) (by decide +kernel) rfl ?_
        exact ih _ _ trivial _ h r hk
    · replace h := if_f b4 h
      refine Ru.br2 (k := .ge) (off := 32) (bb := true) (tg := 53) (by decide +kernel) (by decide +kernel) (ci_ge1 g3 (inR_to _) b4) rfl ?_
      cases h
      exact hk _ ⟨rfl, trivial⟩
set_option maxRecDepth 100000 in
set_option maxHeartbeats 4000000 in
theorem g108_ok {S : St} {o : St} (h : g108 S  = some o) : Ru none 13 263 108 (0, mn_pad (mn_ent [.ref 36]) 5, [], S.ns, Hp S) ((0, none), o.ns, Hp o) := by
  unfold g108 at h
  show Ru none 13 263 108 (0, [some (.ref 36), none, none, none, none], [], S.ns, Hp S) _
  refine Ru.op (q := (.aload_n 0, 1)) (S' := (1, _, _, _, _)) (by decide +kernel) rfl ?_
  refine Ru.getI (pc' := 4) (i := 140) (ci := 10) (k := 27) (nn := 0) (z := 0) (x := (S.F 36 27)) (by decide +kernel) (by decide +kernel) (hp36 _) (by decide) rfl (eI_of _) rfl ?_
  refine Ru.op (q := (.istore_n 1, 1)) (S' := (5, [some (.ref 36), some (vI (S.F 36 27)), none, none, none], [], _, _)) (by decide +kernel) rfl ?_
  refine Ru.op (q := (.aload_n 0, 1)) (S' := (6, _, _, _, _)) (by decide +kernel) rfl ?_
  obtain ⟨o1, e2, h⟩ := ob_some h
  refine Ru.vcallI (pc' := 9) (st' := [vI o1.1]) (i := 164) (j2 := 109) (ci := 10) (k := 0) (z := 0) (as := []) (by decide +kernel) (by decide +kernel) rfl rfl (hp36 _) (by decide) ⟨(Nat.le_of_ble_eq_true rfl), (by show 19 + 2 ≤ 263; exact Nat.le_of_ble_eq_true rfl), Nat.le_of_ble_eq_true rfl, Nat.le_of_ble_eq_true rfl⟩ ((g109_ok e2).up (Nat.le_of_ble_eq_true rfl) (Nat.le_of_ble_eq_true rfl)) rfl rfl ?_
  refine Ru.op (q := (.istore_n 2, 1)) (S' := (10, [some (.ref 36), some (vI (S.F 36 27)), some (vI o1.1), none, none], [], _, _)) (by decide +kernel) rfl ?_
  refine Ru.kI (q := (.iconst (-1), 1)) (c := (-1)) (pc' := 11) (by decide +kernel) rfl (by decide) rfl ?_
  refine Ru.op (q := (.istore_n 3, 1)) (S' := (12, [some (.ref 36), some (vI (S.F 36 27)), some (vI o1.1), some (vI (-1)), none], [], _, _)) (by decide +kernel) rfl ?_
  refine Ru.kI (q := (.iconst 0, 1)) (c := 0) (pc' := 13) (by decide +kernel) rfl (by decide) rfl ?_
  refine Ru.op (q := (.istore 4, 2)) (S' := (15, [some (.ref 36), some (vI (S.F 36 27)), some (vI o1.1), some (vI (-1)), some (vI 0)], [], _, _)) (by decide +kernel) rfl ?_
  obtain ⟨o8, e10, h⟩ := ob_some h
  refine g108L15_ok FU _ _ trivial _ e10 _ ?_
  intro d9 hd11
  refine Ru.op (q := (.iload_n 3, 1)) (S' := (54, _, _, _, _)) (by decide +kernel) rfl ?_
  obtain ⟨g12, h⟩ := gd_some h
  by_cases b13 : o8 < 0
  · replace h := if_t b13 h
    refine Ru.br (k := .ge) (off := 21) (bb := false) (tg := 57) (by decide +kernel) (by decide +kernel) (cz (ci_ge0 g12 (by decide) b13)) rfl ?_
    refine Ru.op (q := (.aload_n 0, 1)) (S' := (58, _, _, _, _)) (by decide +kernel) rfl ?_
    refine Ru.getI (pc' := 61) (i := 167) (ci := 10) (k := 29) (nn := 0) (z := 0) (x := (o1.2.F 36 29)) (by decide +kernel) (by decide +kernel) (hp36 _) (by decide) rfl (eI_of _) rfl ?_
    by_cases b14 : (o1.2.F 36 29) = 0
    · replace h := if_t b14 h
      refine Ru.br (k := .ne) (off := 14) (bb := false) (tg := 64) (by decide +kernel) (by decide +kernel) (cz (ci_ne0 (inR_to _) (by decide) b14)) rfl ?_
      refine Ru.op (q := (.aload_n 0, 1)) (S' := (65, _, _, _, _)) (by decide +kernel) rfl ?_
      refine Ru.kI (q := (.iconst 1, 1)) (c := 1) (pc' := 66) (by decide +kernel) rfl (by decide) rfl ?_
      refine Ru.putH (pc' := 69) (i := 151) (ci := 10) (k := 28) (nn := 0) (z := 0) (by decide +kernel) (by decide +kernel) (hp36 _) (by decide) (Nat.le_of_ble_eq_true rfl) (fk_b (by decide)) (by decide +kernel) (pf_36_28 _ _) rfl ?_
      refine Ru.op (q := (.aload_n 0, 1)) (S' := (70, _, _, _, _)) (by decide +kernel) rfl ?_
      refine Ru.op (q := (.iload_n 1, 1)) (S' := (71, _, _, _, _)) (by decide +kernel) rfl ?_
      refine Ru.putH (pc' := 74) (i := 140) (ci := 10) (k := 27) (nn := 0) (z := 0) (by decide +kernel) (by decide +kernel) (hp36 _) (by decide) (Nat.le_of_ble_eq_true rfl) rfl (by decide +kernel) (pf_36_27 _ _) rfl ?_
      cases h
      exact Ru.end (q := (.return_, 1)) (by decide +kernel) rfl rfl
    · replace h := if_f b14 h
      refine Ru.br (k := .ne) (off := 14) (bb := true) (tg := 75) (by decide +kernel) (by decide +kernel) (cz (ci_ne1 (inR_to _) (by decide) b14)) rfl ?_
      refine Ru.op (q := (.aload_n 0, 1)) (S' := (76, _, _, _, _)) (by decide +kernel) rfl ?_
      refine Ru.op (q := (.iload_n 3, 1)) (S' := (77, _, _, _, _)) (by decide +kernel) rfl ?_
      refine Ru.br (k := .ge) (off := 11) (bb := false) (tg := 80) (by decide +kernel) (by decide +kernel) (cz (ci_ge0 g12 (by decide) b13)) rfl ?_
      refine Ru.op (q := (.aload_n 0, 1)) (S' := (81, _, _, _, _)) (by decide +kernel) rfl ?_
      refine Ru.op (q := (.iload_n 2, 1)) (S' := (82, _, _, _, _)) (by decide +kernel) rfl ?_
      obtain ⟨o15, e16, h⟩ := ob_some h
      refine Ru.vcallI (pc' := 85) (st' := [vI o15.1, .ref 36]) (i := 170) (j2 := 110) (ci := 10) (k := 0) (z := 0) (as := [vI o1.1]) (by decide +kernel) (by decide +kernel) rfl rfl (hp36 _) (by decide) ⟨(Nat.le_of_ble_eq_true rfl), (by show 19 + 2 ≤ 263; exact Nat.le_of_ble_eq_true rfl), Nat.le_of_ble_eq_true rfl, Nat.le_of_ble_eq_true rfl⟩ ((g110_ok e16).up (Nat.le_of_ble_eq_true rfl) (Nat.le_of_ble_eq_true rfl)) rfl rfl ?_
      refine Ru.op (q := (.goto 4, 3)) (S' := (89, _, _, _, _)) (by decide +kernel) rfl ?_
      obtain ⟨o17, e18, h⟩ := ob_some h
      refine Ru.vcallI (pc' := 92) (st' := []) (i := 173) (j2 := 105) (ci := 10) (k := 0) (z := 0) (as := [vI o15.1]) (by decide +kernel) (by decide +kernel) rfl rfl (hp36 _) (by decide) ⟨(Nat.le_of_ble_eq_true rfl), (by show 19 + 2 ≤ 263; exact Nat.le_of_ble_eq_true rfl), Nat.le_of_ble_eq_true rfl, Nat.le_of_ble_eq_true rfl⟩ ((g105_ok e18).up (Nat.le_of_ble_eq_true rfl) (Nat.le_of_ble_eq_true rfl)) rfl rfl ?_
      cases h
      exact Ru.end (q := (.return_, 1)) (by decide +kernel) rfl rfl
  · replace h := if_f b13 h
    refine Ru.br (k := .ge) (off := 21) (bb := true) (tg := 75) (by decide +kernel) (by decide +kernel) (cz (ci_ge1 g12 (by decide) b13)) rfl ?_
    refine Ru.op (q := (.aload_n 0, 1)) (S' := (76, _, _, _, _)) (by decide +kernel) rfl ?_
    refine Ru.op (q := (.iload_n 3, 1)) (S' := (77, _, _, _, _)) (by decide +kernel) rfl ?_
    refine Ru.br (k := .ge) (off := 11) (bb := true) (tg := 88) (by decide +kernel) (by decide +kernel) (cz (ci_ge1 g12 (by decide) b13)) rfl ?_
    refine Ru.op (q := (.iload_n 3, 1)) (S' := (89, _, _, _, _)) (by decide +kernel) rfl ?_
    obtain ⟨o19, e20, h⟩ := ob_some h
    refine Ru.vcallI (pc' := 92) (st' := []) (i := 173) (j2 := 105) (ci := 10) (k := 0) (z := 0) (as := [vI o8]) (by decide +kernel) (by decide +kernel) rfl rfl (hp36 _) (by decide) ⟨(Nat.le_of_ble_eq_true rfl), (by show 19 + 2 ≤ 263; exact Nat.le_of_ble_eq_true rfl), Nat.le_of_ble_eq_true rfl, Nat.le_of_ble_eq_true rfl⟩ ((g105_ok e20).up (Nat.le_of_ble_eq_true rfl) (Nat.le_of_ble_eq_true rfl)) rfl rfl ?_
    cases h
    exact Ru.end (q := (.return_, 1)) (by decide +kernel) rfl rfl
set_option maxRecDepth 100000 in
set_option maxHeartbeats 4000000 in
theorem g107_ok {S : St} {v1 : Int} {o : Int × St} (h : g107 S v1 = some o) : Ru none 14 287 107 (0, mn_pad (mn_ent [.ref 36, vI v1]) 3, [], S.ns, Hp S) ((0, some (vI o.1)), o.2.ns, Hp o.2) := by
  unfold g107 at h
  show Ru none 14 287 107 (0, [some (.ref 36), some (vI v1), none], [], S.ns, Hp S) _
  refine Ru.op (q := (.aload_n 0, 1)) (S' := (1, _, _, _, _)) (by decide +kernel) rfl ?_
  refine Ru.getR (pc' := 4) (i := 45) (ci := 10) (k := 21) (nn := 0) (z := 0) (v := .ref 46) (by decide +kernel) (by decide +kernel) (hp36 _) (by decide) rfl rfl ?_
  refine Ru.op (q := (.iload_n 1, 1)) (S' := (5, _, _, _, _)) (by decide +kernel) rfl ?_
  refine Ru.op (q := (.aload_n 0, 1)) (S' := (6, _, _, _, _)) (by decide +kernel) rfl ?_
  refine Ru.getR (pc' := 9) (i := 45) (ci := 10) (k := 21) (nn := 0) (z := 0) (v := .ref 46) (by decide +kernel) (by decide +kernel) (hp36 _) (by decide) rfl rfl ?_
  refine Ru.op (q := (.iload_n 1, 1)) (S' := (10, _, _, _, _)) (by decide +kernel) rfl ?_
  obtain ⟨g1, h⟩ := gd_some h
  refine Ru.ildI (pc' := 11) (i := v1) (z := (S.A 46 v1)) (by decide +kernel) (hp46 _) g1 (eI_of _) rfl ?_
  refine Ru.kI (q := (.iconst 1, 1)) (c := 1) (pc' := 12) (by decide +kernel) rfl (by decide) rfl ?_
  refine Ru.ar2 (i := .iadd) (z := ((S.A 46 v1) + 1)) (pc' := 13) (by decide +kernel) rfl (ar_add _ _) rfl ?_
  refine Ru.istI (pc' := 14) (i := v1) (x := ((S.A 46 v1) + 1)) (by decide +kernel) (hp46 _) g1 (ps_46 _ _ _) rfl ?_
  refine Ru.op (q := (.aload_n 0, 1)) (S' := (15, _, _, _, _)) (by decide +kernel) rfl ?_
  refine Ru.kI (q := (.bipush 120, 2)) (c := 120) (pc' := 17) (by decide +kernel) rfl (by decide) rfl ?_
  refine Ru.kI (q := (.bipush 122, 2)) (c := 122) (pc' := 19) (by decide +kernel) rfl (by decide) rfl ?_
  obtain ⟨o2, e3, h⟩ := ob_some h
  refine Ru.vcallI (pc' := 22) (st' := [vI o2]) (i := 147) (j2 := 104) (ci := 10) (k := 0) (z := 0) (as := [vI 120, vI 122]) (by decide +kernel) (by decide +kernel) rfl rfl (hp36 _) (by decide) ⟨(Nat.le_of_ble_eq_true rfl), (by show 19 + 3 ≤ 287; exact Nat.le_of_ble_eq_true rfl), Nat.le_of_ble_eq_true rfl, Nat.le_of_ble_eq_true rfl⟩ ((g104_ok e3).up (Nat.le_of_ble_eq_true rfl) (Nat.le_of_ble_eq_true rfl)) rfl rfl ?_
  obtain ⟨g4, h⟩ := gd_some h
  by_cases b5 : o2 = 0
  · replace h := if_t b5 h
    refine Ru.br (k := .eq) (off := 9) (bb := true) (tg := 31) (by decide +kernel) (by decide +kernel) (cz (ci_eq1 g4 (by decide) b5)) rfl ?_
    refine Ru.op (q := (.aload_n 0, 1)) (S' := (32, _, _, _, _)) (by decide +kernel) rfl ?_
    refine Ru.kI (q := (.bipush 97, 2)) (c := 97) (pc' := 34) (by decide +kernel) rfl (by decide) rfl ?_
    refine Ru.kI (q := (.bipush 107, 2)) (c := 107) (pc' := 36) (by decide +kernel) rfl (by decide) rfl ?_
    obtain ⟨o6, e7, h⟩ := ob_some h
    refine Ru.vcallI (pc' := 39) (st' := [vI o6]) (i := 147) (j2 := 104) (ci := 10) (k := 0) (z := 0) (as := [vI 97, vI 107]) (by decide +kernel) (by decide +kernel) rfl rfl (hp36 _) (by decide) ⟨(Nat.le_of_ble_eq_true rfl), (by show 19 + 3 ≤ 287; exact Nat.le_of_ble_eq_true rfl), Nat.le_of_ble_eq_true rfl, Nat.le_of_ble_eq_true rfl⟩ ((g104_ok e7).up (Nat.le_of_ble_eq_true rfl) (Nat.le_of_ble_eq_true rfl)) rfl rfl ?_
    obtain ⟨g8, h⟩ := gd_some h
    by_cases b9 : o6 = 0
    · replace h := if_t b9 h
      refine Ru.br (k := .ne) (off := 26) (bb := false) (tg := 42) (by decide +kernel) (by decide +kernel) (cz (ci_ne0 g8 (by decide) b9)) rfl ?_
      refine Ru.op (q := (.aload_n 0, 1)) (S' := (43, _, _, _, _)) (by decide +kernel) rfl ?_
      obtain ⟨o10, e11, h⟩ := ob_some h
      refine Ru.vcallI (pc' := 46) (st' := [vI o10]) (i := 143) (j2 := 102) (ci := 10) (k := 0) (z := 0) (as := []) (by decide +kernel) (by decide +kernel) rfl rfl (hp36 _) (by decide) ⟨(Nat.le_of_ble_eq_true rfl), (by show 19 + 1 ≤ 287; exact Nat.le_of_ble_eq_true rfl), Nat.le_of_ble_eq_true rfl, Nat.le_of_ble_eq_true rfl⟩ ((g102_ok e11).up (Nat.le_of_ble_eq_true rfl) (Nat.le_of_ble_eq_true rfl)) rfl rfl ?_
      refine Ru.kI (q := (.bipush 36, 2)) (c := 36) (pc' := 48) (by decide +kernel) rfl (by decide) rfl ?_
      obtain ⟨g12, h⟩ := gd_some h
      by_cases b13 : o10 = 36
      · replace h := if_t b13 h
        refine Ru.br2 (k := .ne) (off := 10) (bb := false) (tg := 51) (by decide +kernel) (by decide +kernel) (ci_ne0 g12 (by decide) b13) rfl ?_
        refine Ru.op (q := (.aload_n 0, 1)) (S' := (52, _, _, _, _)) (by decide +kernel) rfl ?_
        refine Ru.getI (pc' := 55) (i := 167) (ci := 10) (k := 29) (nn := 0) (z := 0) (x := (S.F 36 29)) (by decide +kernel) (by decide +kernel) (hp36 _) (by decide) rfl (eI_of _) rfl ?_
        by_cases b14 : (S.F 36 29) = 0
        · replace h := if_t b14 h
          refine Ru.br (k := .ne) (off := 10) (bb := false) (tg := 58) (by decide +kernel) (by decide +kernel) (cz (ci_ne0 (inR_to _) (by decide) b14)) rfl ?_
          refine Ru.op (q := (.aload_n 0, 1)) (S' := (59, _, _, _, _)) (by decide +kernel) rfl ?_
          refine Ru.kI (q := (.iconst 1, 1)) (c := 1) (pc' := 60) (by decide +kernel) rfl (by decide) rfl ?_
          refine Ru.putH (pc' := 63) (i := 151) (ci := 10) (k := 28) (nn := 0) (z := 0) (by decide +kernel) (by decide +kernel) (hp36 _) (by decide) (Nat.le_of_ble_eq_true rfl) (fk_b (by decide)) (by decide +kernel) (pf_36_28 _ _) rfl ?_
          refine Ru.kI (q := (.iconst 0, 1)) (c := 0) (pc' := 64) (by decide +kernel) rfl (by decide) rfl ?_
          cases h
          exact Ru.iret (by decide +kernel) rfl (nar_b1 (by decide))
        · replace h := if_f b14 h
          refine Ru.br (k := .ne) (off := 10) (bb := true) (tg := 65) (by decide +kernel) (by decide +kernel) (cz (ci_ne1 (inR_to _) (by decide) b14)) rfl ?_
          refine Ru.op (q := (.aload_n 0, 1)) (S' := (66, _, _, _, _)) (by decide +kernel) rfl ?_
          obtain ⟨o15, e16, h⟩ := ob_some h
          refine Ru.vcallI (pc' := 69) (st' := [vI o15]) (i := 143) (j2 := 102) (ci := 10) (k := 0) (z := 0) (as := []) (by decide +kernel) (by decide +kernel) rfl rfl (hp36 _) (by decide) ⟨(Nat.le_of_ble_eq_true rfl), (by show 19 + 1 ≤ 287; exact Nat.le_of_ble_eq_true rfl), Nat.le_of_ble_eq_true rfl, Nat.le_of_ble_eq_true rfl⟩ ((g102_ok e16).up (Nat.le_of_ble_eq_true rfl) (Nat.le_of_ble_eq_true rfl)) rfl rfl ?_
          refine Ru.kI (q := (.bipush 36, 2)) (c := 36) (pc' := 71) (by decide +kernel) rfl (by decide) rfl ?_
          obtain ⟨g17, h⟩ := gd_some h
          by_cases b18 : o15 = 36
          · replace h := if_t b18 h
            refine Ru.br2 (k := .ne) (off := 10) (bb := false) (tg := 74) (by decide +kernel) (by decide +kernel) (ci_ne0 g17 (by decide) b18) rfl ?_
            refine Ru.op (q := (.aload_n 0, 1)) (S' := (75, _, _, _, _)) (by decide +kernel) rfl ?_
            obtain ⟨o19, e20, h⟩ := ob_some h
            refine Ru.vcallI (pc' := 78) (st' := [vI o19.1]) (i := 180) (j2 := 111) (ci := 10) (k := 0) (z := 0) (as := []) (by decide +kernel) (by decide +kernel) rfl rfl (hp36 _) (by decide) ⟨(Nat.le_of_ble_eq_true rfl), (by show 19 + 2 ≤ 287; exact Nat.le_of_ble_eq_true rfl), Nat.le_of_ble_eq_true rfl, Nat.le_of_ble_eq_true rfl⟩ ((g111_ok e20).up (Nat.le_of_ble_eq_true rfl) (Nat.le_of_ble_eq_true rfl)) rfl rfl ?_
            refine Ru.op (q := (.goto 7, 3)) (S' := (85, _, _, _, _)) (by decide +kernel) rfl ?_
            refine Ru.op (q := (.istore_n 2, 1)) (S' := (86, [some (.ref 36), some (vI v1), some (vI o19.1)], [], _, _)) (by decide +kernel) rfl ?_
            refine Ru.op (q := (.aload_n 0, 1)) (S' := (87, _, _, _, _)) (by decide +kernel) rfl ?_
            refine Ru.kI (q := (.sipush 4096, 3)) (c := 4096) (pc' := 90) (by decide +kernel) rfl (by decide) rfl ?_
            refine Ru.kI (q := (.sipush 128, 3)) (c := 128) (pc' := 93) (by decide +kernel) rfl (by decide) rfl ?_
            refine Ru.op (q := (.iload_n 2, 1)) (S' := (94, _, _, _, _)) (by decide +kernel) rfl ?_
            refine Ru.ar2 (i := .imul) (z := (128 * o19.1)) (pc' := 95) (by decide +kernel) rfl (ar_mul _ _) rfl ?_
            refine Ru.ar2 (i := .iadd) (z := (4096 + (128 * o19.1))) (pc' := 96) (by decide +kernel) rfl (ar_add _ _) rfl ?_
            obtain ⟨o21, e22, h⟩ := ob_some h
            refine Ru.vcallI (pc' := 99) (st' := []) (i := 173) (j2 := 105) (ci := 10) (k := 0) (z := 0) (as := [vI (4096 + (128 * o19.1))]) (by decide +kernel) (by decide +kernel) rfl rfl (hp36 _) (by decide) ⟨(Nat.le_of_ble_eq_true rfl), (by show 19 + 2 ≤ 287; exact Nat.le_of_ble_eq_true rfl), Nat.le_of_ble_eq_true rfl, Nat.le_of_ble_eq_true rfl⟩ ((g105_ok e22).up (Nat.le_of_ble_eq_true rfl) (Nat.le_of_ble_eq_true rfl)) rfl rfl ?_
            refine Ru.kI (q := (.iconst 1, 1)) (c := 1) (pc' := 100) (by decide +kernel) rfl (by decide) rfl ?_
            cases h
            exact Ru.iret (by decide +kernel) rfl (nar_b1 (by decide))
          · replace h := if_f b18 h
            refine Ru.br2 (k := .ne) (off := 10) (bb := true) (tg := 81) (by decide +kernel) (by decide +kernel) (ci_ne1 g17 (by decide) b18) rfl ?_
            refine Ru.op (q := (.aload_n 0, 1)) (S' := (82, _, _, _, _)) (by decide +kernel) rfl ?_
            obtain ⟨o23, e24, h⟩ := ob_some h
            refine Ru.vcallI (pc' := 85) (st' := [vI o23.1]) (i := 164) (j2 := 109) (ci := 10) (k := 0) (z := 0) (as := []) (by decide +kernel) (by decide +kernel) rfl rfl (hp36 _) (by decide) ⟨(Nat.le_of_ble_eq_true rfl), (by show 19 + 2 ≤ 287; exact Nat.le_of_ble_eq_true rfl), Nat.le_of_ble_eq_true rfl, Nat.le_of_ble_eq_true rfl⟩ ((g109_ok e24).up (Nat.le_of_ble_eq_true rfl) (Nat.le_of_ble_eq_true rfl)) rfl rfl ?_
            refine Ru.op (q := (.istore_n 2, 1)) (S' := (86, [some (.ref 36), some (vI v1), some (vI o23.1)], [], _, _)) (by decide +kernel) rfl ?_
            refine Ru.op (q := (.aload_n 0, 1)) (S' := (87, _, _, _, _)) (by decide +kernel) rfl ?_
            refine Ru.kI (q := (.sipush 4096, 3)) (c := 4096) (pc' := 90) (by decide +kernel) rfl (by decide) rfl ?_
            refine Ru.kI (q := (.sipush 128, 3)) (c := 128) (pc' := 93) (by decide +kernel) rfl (by decide) rfl ?_
            refine Ru.op (q := (.iload_n 2, 1)) (S' := (94, _, _, _, _)) (by decide +kernel) rfl ?_
            refine Ru.ar2 (i := .imul) (z := (128 * o23.1)) (pc' := 95) (by decide +kernel) rfl (ar_mul _ _) rfl ?_
            refine Ru.ar2 (i := .iadd) (z := (4096 + (128 * o23.1))) (pc' := 96) (by decide +kernel) rfl (ar_add _ _) rfl ?_
            obtain ⟨o25, e26, h⟩ := ob_some h
            refine Ru.vcallI (pc' := 99) (st' := []) (i := 173) (j2 := 105) (ci := 10) (k := 0) (z := 0) (as := [vI (4096 + (128 * o23.1))]) (by decide +kernel) (by decide +kernel) rfl rfl (hp36 _) (by decide) ⟨(Nat.le_of_ble_eq_true rfl), (by show 19 + 2 ≤ 287; exact Nat.le_of_ble_eq_true rfl), Nat.le_of_ble_eq_true rfl, Nat.le_of_ble_eq_true rfl⟩ ((g105_ok e26).up (Nat.le_of_ble_eq_true rfl) (Nat.le_of_ble_eq_true rfl)) rfl rfl ?_
            refine Ru.kI (q := (.iconst 1, 1)) (c := 1) (pc' := 100) (by decide +kernel) rfl (by decide) rfl ?_
            cases h
            exact Ru.iret (by decide +kernel) rfl (nar_b1 (by decide))
      · replace h := if_f b13 h
        refine Ru.br2 (k := .ne) (off := 10) (bb := true) (tg := 58) (by decide +kernel) (by decide +kernel) (ci_ne1 g12 (by decide) b13) rfl ?_
        refine Ru.op (q := (.aload_n 0, 1)) (S' := (59, _, _, _, _)) (by decide +kernel) rfl ?_
        refine Ru.kI (q := (.iconst 1, 1)) (c := 1) (pc' := 60) (by decide +kernel) rfl (by decide) rfl ?_
        refine Ru.putH (pc' := 63) (i := 151) (ci := 10) (k := 28) (nn := 0) (z := 0) (by decide +kernel) (by decide +kernel) (hp36 _) (by decide) (Nat.le_of_ble_eq_true rfl) (fk_b (by decide)) (by decide +kernel) (pf_36_28 _ _) rfl ?_
        refine Ru.kI (q := (.iconst 0, 1)) (c := 0) (pc' := 64) (by decide +kernel) rfl (by decide) rfl ?_
        cases h
        exact Ru.iret (by decide +kernel) rfl (nar_b1 (by decide))
    · replace h := if_f b9 h
      refine Ru.br (k := .ne) (off := 26) (bb := true) (tg := 65) (by decide +kernel) (by decide +kernel) (cz (ci_ne1 g8 (by decide) b9)) rfl ?_
      refine Ru.op (q := (.aload_n 0, 1)) (S' := (66, _, _, _, _)) (by decide +kernel) rfl ?_
      obtain ⟨o27, e28, h⟩ := ob_some h
      refine Ru.vcallI (pc' := 69) (st' := [vI o27]) (i := 143) (j2 := 102) (ci := 10) (k := 0) (z := 0) (as := []) (by decide +kernel) (by decide +kernel) rfl rfl (hp36 _) (by decide) ⟨(Nat.le_of_ble_eq_true rfl), (by show 19 + 1 ≤ 287; exact Nat.le_of_ble_eq_true rfl), Nat.le_of_ble_eq_true rfl, Nat.le_of_ble_eq_true rfl⟩ ((g102_ok e28).up (Nat.le_of_ble_eq_true rfl) (Nat.le_of_ble_eq_true rfl)) rfl rfl ?_
      refine Ru.kI (q := (.bipush 36, 2)) (c := 36) (pc' := 71) (by decide +kernel) rfl (by decide) rfl ?_
      obtain ⟨g29, h⟩ := gd_some h
      by_cases b30 : o27 = 36
      · replace h := if_t b30 h
        refine Ru.br2 (k := .ne) (off := 10) (bb := false) (tg := 74) (by decide +kernel) (by decide +kernel) (ci_ne0 g29 (by decide) b30) rfl ?_
        refine Ru.op (q := (.aload_n 0, 1)) (S' := (75, _, _, _, _)) (by decide +kernel) rfl ?_
        obtain ⟨o31, e32, h⟩ := ob_some h
        refine Ru.vcallI (pc' := 78) (st' := [vI o31.1]) (i := 180) (j2 := 111) (ci := 10) (k := 0) (z := 0) (as := []) (by decide +kernel) (by decide +kernel) rfl rfl (hp36 _) (by decide) ⟨(Nat.le_of_ble_eq_true rfl), (by show 19 + 2 ≤ 287; exact Nat.le_of_ble_eq_true rfl), Nat.le_of_ble_eq_true rfl, Nat.le_of_ble_eq_true rfl⟩ ((g111_ok e32).up (Nat.le_of_ble_eq_true rfl) (Nat.le_of_ble_eq_true rfl)) rfl rfl ?_
        refine Ru.op (q := (.goto 7, 3)) (S' := (85, _, _, _, _)) (by decide +kernel) rfl ?_
        refine Ru.op (q := (.istore_n 2, 1)) (S' := (86, [some (.ref 36), some (vI v1), some (vI o31.1)], [], _, _)) (by decide +kernel) rfl ?_
        refine Ru.op (q := (.aload_n 0, 1)) (S' := (87, _, _, _, _)) (by decide +kernel) rfl ?_
        refine Ru.kI (q := (.sipush 4096, 3)) (c := 4096) (pc' := 90) (by decide +kernel) rfl (by decide) rfl ?_
        refine Ru.kI (q := (.sipush 128, 3)) (c := 128) (pc' := 93) (by decide +kernel) rfl (by decide) rfl ?_
        refine Ru.op (q := (.iload_n 2, 1)) (S' := (94, _, _, _, _)) (by decide +kernel) rfl ?_
        refine Ru.ar2 (i := .imul) (z := (128 * o31.1)) (pc' := 95) (by decide +kernel) rfl (ar_mul _ _) rfl ?_
        refine Ru.ar2 (i := .iadd) (z := (4096 + (128 * o31.1))) (pc' := 96) (by decide +kernel) rfl (ar_add _ _) rfl ?_
        obtain ⟨o33, e34, h⟩ := ob_some h
        refine Ru.vcallI (pc' := 99) (st' := []) (i := 173) (j2 := 105) (ci := 10) (k := 0) (z := 0) (as := [vI (4096 + (128 * o31.1))]) (by decide +kernel) (by decide +kernel) rfl rfl (hp36 _) (by decide) ⟨(Nat.le_of_ble_eq_true rfl), (by show 19 + 2 ≤ 287; exact Nat.le_of_ble_eq_true rfl), Nat.le_of_ble_eq_true rfl, Nat.le_of_ble_eq_true rfl⟩ ((g105_ok e34).up (Nat.le_of_ble_eq_true rfl) (Nat.le_of_ble_eq_true rfl)) rfl rfl ?_
        refine Ru.kI (q := (.iconst 1, 1)) (c := 1) (pc' := 100) (by decide +kernel) rfl (by decide) rfl ?_
        cases h
        exact Ru.iret (by decide +kernel) rfl (nar_b1 (by decide))
      · replace h := if_f b30 h
        refine Ru.br2 (k := .ne) (off := 10) (bb := true) (tg := 81) (by decide +kernel) (by decide +kernel) (ci_ne1 g29 (by decide) b30) rfl ?_
        refine Ru.op (q := (.aload_n 0, 1)) (S' := (82, _, _, _, _)) (by decide +kernel) rfl ?_
        obtain ⟨o35, e36, h⟩ := ob_some h
        refine Ru.vcallI (pc' := 85) (st' := [vI o35.1]) (i := 164) (j2 := 109) (ci := 10) (k := 0) (z := 0) (as := []) (by decide +kernel) (by decide +kernel) rfl rfl (hp36 _) (by decide) ⟨(Nat.le_of_ble_eq_true rfl), (by show 19 + 2 ≤ 287; exact Nat.le_of_ble_eq_true rfl), Nat.le_of_ble_eq_true rfl, Nat.le_of_ble_eq_true rfl⟩ ((g109_ok e36).up (Nat.le_of_ble_eq_true rfl) (Nat.le_of_ble_eq_true rfl)) rfl rfl ?_
        refine Ru.op (q := (.istore_n 2, 1)) (S' := (86, [some (.ref 36), some (vI v1), some (vI o35.1)], [], _, _)) (by decide +kernel) rfl ?_
        refine Ru.op (q := (.aload_n 0, 1)) (S' := (87, _, _, _, _)) (by decide +kernel) rfl ?_
        refine Ru.kI (q := (.sipush 4096, 3)) (c := 4096) (pc' := 90) (by decide +kernel) rfl (by decide) rfl ?_
        refine Ru.kI (q := (.sipush 128, 3)) (c := 128) (pc' := 93) (by decide +kernel) rfl (by decide) rfl ?_
        refine Ru.op (q := (.iload_n 2, 1)) (S' := (94, _, _, _, _)) (by decide +kernel) rfl ?_
        refine Ru.ar2 (i := .imul) (z := (128 * o35.1)) (pc' := 95) (by decide +kernel) rfl (ar_mul _ _) rfl ?_
        refine Ru.ar2 (i := .iadd) (z := (4096 + (128 * o35.1))) (pc' := 96) (by decide +kernel) rfl (ar_add _ _) rfl ?_
        obtain ⟨o37, e38, h⟩ := ob_some h
        refine Ru.vcallI (pc' := 99) (st' := []) (i := 173) (j2 := 105) (ci := 10) (k := 0) (z := 0) (as := [vI (4096 + (128 * o35.1))]) (by decide +kernel) (by decide +kernel) rfl rfl (hp36 _) (by decide) ⟨(Nat.le_of_ble_eq_true rfl), (by show 19 + 2 ≤ 287; exact Nat.le_of_ble_eq_true rfl), Nat.le_of_ble_eq_true rfl, Nat.le_of_ble_eq_true rfl⟩ ((g105_ok e38).up (Nat.le_of_ble_eq_true rfl) (Nat.le_of_ble_eq_true rfl)) rfl rfl ?_
        refine Ru.kI (q := (.iconst 1, 1)) (c := 1) (pc' := 100) (by decide +kernel) rfl (by decide) rfl ?_
        cases h
        exact Ru.iret (by decide +kernel) rfl (nar_b1 (by decide))
  · replace h := if_f b5 h
    refine Ru.br (k := .eq) (off := 9) (bb := false) (tg := 25) (by decide +kernel) (by decide +kernel) (cz (ci_eq0 g4 (by decide) b5)) rfl ?_
    refine Ru.op (q := (.aload_n 0, 1)) (S' := (26, _, _, _, _)) (by decide +kernel) rfl ?_
    obtain ⟨o39, e40, h⟩ := ob_some h
    refine Ru.vcallI (pc' := 29) (st' := []) (i := 177) (j2 := 108) (ci := 10) (k := 0) (z := 0) (as := []) (by decide +kernel) (by decide +kernel) rfl rfl (hp36 _) (by decide) ⟨(Nat.le_of_ble_eq_true rfl), (by show 19 + 5 ≤ 287; exact Nat.le_of_ble_eq_true rfl), Nat.le_of_ble_eq_true rfl, Nat.le_of_ble_eq_true rfl⟩ ((g108_ok e40).up (Nat.le_of_ble_eq_true rfl) (Nat.le_of_ble_eq_true rfl)) rfl rfl ?_
    refine Ru.kI (q := (.iconst 0, 1)) (c := 0) (pc' := 30) (by decide +kernel) rfl (by decide) rfl ?_
    cases h
    exact Ru.iret (by decide +kernel) rfl (nar_b1 (by decide))
