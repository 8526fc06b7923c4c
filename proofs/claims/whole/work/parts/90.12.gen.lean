set_option maxRecDepth 100000 in
set_option maxHeartbeats 4000000 in
theorem g91_ok {S : St} {v1 : Int} {v2 : Int} {v3 : Int} {v4 : Int} {o : Option Nat × St} (h : g91 S v1 v2 v3 v4 = some o) : Ru none 142 3956 91 (0, mn_pad (mn_ent [.ref 0, vI v1, vI v2, vI v3, vI v4]) 6, [], S.ns, Hp S) ((0, some (rV o.1)), o.2.ns, Hp o.2) := by
  unfold g91 at h
  show Ru none 142 3956 91 (0, [some (.ref 0), some (vI v1), some (vI v2), some (vI v3), some (vI v4), none], [], S.ns, Hp S) _
  refine Ru.op (q := (.iload_n 1, 1)) (S' := (1, _, _, _, _)) (by decide +kernel) rfl ?_
  refine Ru.kI (q := (.iconst (-1), 1)) (c := (-1)) (pc' := 2) (by decide +kernel) rfl (by decide) rfl ?_
  obtain ⟨g1, h⟩ := gd_some h
  by_cases b2 : v1 = (-1)
  · replace h := if_t b2 h
    refine Ru.br2 (k := .ne) (off := 16) (bb := false) (tg := 5) (by decide +kernel) (by decide +kernel) (ci_ne0 g1 (by decide) b2) rfl ?_
    refine Ru.op (q := (.aload_n 0, 1)) (S' := (6, _, _, _, _)) (by decide +kernel) rfl ?_
    refine Ru.getR (pc' := 9) (i := 19) (ci := 0) (k := 1) (nn := 0) (z := 0) (v := .ref 13) (by decide +kernel) (by decide +kernel) (hp0 _) (by decide) rfl rfl ?_
    refine Ru.getR (pc' := 12) (i := 111) (ci := 3) (k := 0) (nn := 0) (z := 0) (v := .ref 14) (by decide +kernel) (by decide +kernel) (hp13 _) (by decide) rfl rfl ?_
    refine Ru.op (q := (.iload_n 2, 1)) (S' := (13, _, _, _, _)) (by decide +kernel) rfl ?_
    obtain ⟨g3, h⟩ := gd_some h
    obtain ⟨c4, e5, h⟩ := ob_some h
    refine Ru.aldI (pc' := 14) (i := v2) (b := c4) (by decide +kernel) (hp14 _) (by decide) g3 e5 rfl ?_
    obtain ⟨c6, n7, n8, n9, n10, n11, n12, e13, q14, h⟩ := gK_some h
    refine Ru.getR (pc' := 17) (i := 115) (ci := 9) (k := 0) (nn := 0) (z := 0) (v := .ref c6) (by decide +kernel) (by decide +kernel) q14 (by decide) rfl rfl ?_
    cases h
    exact Ru.end (q := (.areturn, 1)) (by decide +kernel) rfl rfl
  · replace h := if_f b2 h
    refine Ru.br2 (k := .ne) (off := 16) (bb := true) (tg := 18) (by decide +kernel) (by decide +kernel) (ci_ne1 g1 (by decide) b2) rfl ?_
    refine Ru.op (q := (.iload_n 3, 1)) (S' := (19, _, _, _, _)) (by decide +kernel) rfl ?_
    refine Ru.kI (q := (.iconst (-1), 1)) (c := (-1)) (pc' := 20) (by decide +kernel) rfl (by decide) rfl ?_
    obtain ⟨g15, h⟩ := gd_some h
    by_cases b16 : v3 = (-1)
    · replace h := if_t b16 h
      refine Ru.br2 (k := .ne) (off := 32) (bb := false) (tg := 23) (by decide +kernel) (by decide +kernel) (ci_ne0 g15 (by decide) b16) rfl ?_
      refine Ru.op (q := (.aload_n 0, 1)) (S' := (24, _, _, _, _)) (by decide +kernel) rfl ?_
      refine Ru.getR (pc' := 27) (i := 19) (ci := 0) (k := 1) (nn := 0) (z := 0) (v := .ref 13) (by decide +kernel) (by decide +kernel) (hp0 _) (by decide) rfl rfl ?_
      refine Ru.getR (pc' := 30) (i := 209) (ci := 3) (k := 10) (nn := 0) (z := 0) (v := .ref 20) (by decide +kernel) (by decide +kernel) (hp13 _) (by decide) rfl rfl ?_
      refine Ru.op (q := (.aload_n 0, 1)) (S' := (31, _, _, _, _)) (by decide +kernel) rfl ?_
      refine Ru.getR (pc' := 34) (i := 39) (ci := 0) (k := 4) (nn := 0) (z := 0) (v := .ref 35) (by decide +kernel) (by decide +kernel) (hp0 _) (by decide) rfl rfl ?_
      refine Ru.op (q := (.iload_n 1, 1)) (S' := (35, _, _, _, _)) (by decide +kernel) rfl ?_
      obtain ⟨g17, h⟩ := gd_some h
      obtain ⟨c18, e19, h⟩ := ob_some h
      refine Ru.aldI (pc' := 36) (i := v1) (b := c18) (by decide +kernel) (hp35 _) (by decide) g17 e19 rfl ?_
      refine Ru.op (q := (.iload_n 2, 1)) (S' := (37, _, _, _, _)) (by decide +kernel) rfl ?_
      refine Ru.op (q := (.iload 4, 2)) (S' := (39, _, _, _, _)) (by decide +kernel) rfl ?_
      refine Ru.op (q := (.aload_n 0, 1)) (S' := (40, _, _, _, _)) (by decide +kernel) rfl ?_
      refine Ru.getR (pc' := 43) (i := 19) (ci := 0) (k := 1) (nn := 0) (z := 0) (v := .ref 13) (by decide +kernel) (by decide +kernel) (hp0 _) (by decide) rfl rfl ?_
      refine Ru.getR (pc' := 46) (i := 213) (ci := 3) (k := 9) (nn := 0) (z := 0) (v := .ref 15) (by decide +kernel) (by decide +kernel) (hp13 _) (by decide) rfl rfl ?_
      obtain ⟨o20, e21, h⟩ := ob_some h
      refine Ru.vcallI (pc' := 49) (st' := [vI o20.1]) (i := 216) (j2 := 67) (ci := 6) (k := 0) (z := 0) (as := [.ref c18, vI v2, vI v4, .ref 15]) (by decide +kernel) (by decide +kernel) rfl rfl (hp20 _) (by decide) ⟨(Nat.le_of_ble_eq_true rfl), (by show 19 + 7 ≤ 3956; exact Nat.le_of_ble_eq_true rfl), Nat.le_of_ble_eq_true rfl, Nat.le_of_ble_eq_true rfl⟩ ((g67_15_ok e21).up (Nat.le_of_ble_eq_true rfl) (Nat.le_of_ble_eq_true rfl)) rfl rfl ?_
      refine Ru.op (q := (.goto 35, 3)) (S' := (84, _, _, _, _)) (by decide +kernel) rfl ?_
      refine Ru.op (q := (.istore 5, 2)) (S' := (86, [some (.ref 0), some (vI v1), some (vI v2), some (vI v3), some (vI v4), some (vI o20.1)], [], _, _)) (by decide +kernel) rfl ?_
      refine Ru.op (q := (.iload 5, 2)) (S' := (88, _, _, _, _)) (by decide +kernel) rfl ?_
      obtain ⟨g22, h⟩ := gd_some h
      by_cases b23 : o20.1 = 0
      · replace h := if_t b23 h
        refine Ru.br (k := .eq) (off := 29) (bb := true) (tg := 117) (by decide +kernel) (by decide +kernel) (cz (ci_eq1 g22 (by decide) b23)) rfl ?_
        refine Ru.op (q := (.aconst_null, 1)) (S' := (118, _, _, _, _)) (by decide +kernel) rfl ?_
        cases h
        exact Ru.end (q := (.areturn, 1)) (by decide +kernel) rfl rfl
      · replace h := if_f b23 h
        refine Ru.br (k := .eq) (off := 29) (bb := false) (tg := 91) (by decide +kernel) (by decide +kernel) (cz (ci_eq0 g22 (by decide) b23)) rfl ?_
        refine Ru.op (q := (.aload_n 0, 1)) (S' := (92, _, _, _, _)) (by decide +kernel) rfl ?_
        refine Ru.getR (pc' := 95) (i := 19) (ci := 0) (k := 1) (nn := 0) (z := 0) (v := .ref 13) (by decide +kernel) (by decide +kernel) (hp0 _) (by decide) rfl rfl ?_
        refine Ru.getR (pc' := 98) (i := 213) (ci := 3) (k := 9) (nn := 0) (z := 0) (v := .ref 15) (by decide +kernel) (by decide +kernel) (hp13 _) (by decide) rfl rfl ?_
        refine Ru.getI (pc' := 101) (i := 226) (ci := 4) (k := 3) (nn := 0) (z := 0) (x := (o20.2.F 15 3)) (by decide +kernel) (by decide +kernel) (hp15 _) (by decide) rfl (eI_of _) rfl ?_
        by_cases b24 : (o20.2.F 15 3) = 0
        · replace h := if_t b24 h
          refine Ru.br (k := .ne) (off := 16) (bb := false) (tg := 104) (by decide +kernel) (by decide +kernel) (cz (ci_ne0 (inR_to _) (by decide) b24)) rfl ?_
          refine Ru.op (q := (.aload_n 0, 1)) (S' := (105, _, _, _, _)) (by decide +kernel) rfl ?_
          refine Ru.getR (pc' := 108) (i := 19) (ci := 0) (k := 1) (nn := 0) (z := 0) (v := .ref 13) (by decide +kernel) (by decide +kernel) (hp0 _) (by decide) rfl rfl ?_
          refine Ru.getR (pc' := 111) (i := 213) (ci := 3) (k := 9) (nn := 0) (z := 0) (v := .ref 15) (by decide +kernel) (by decide +kernel) (hp13 _) (by decide) rfl rfl ?_
          refine Ru.getR (pc' := 114) (i := 182) (ci := 4) (k := 0) (nn := 0) (z := 0) (v := .ref 16) (by decide +kernel) (by decide +kernel) (hp15 _) (by decide) rfl rfl ?_
          refine Ru.op (q := (.goto 4, 3)) (S' := (118, _, _, _, _)) (by decide +kernel) rfl ?_
          cases h
          exact Ru.end (q := (.areturn, 1)) (by decide +kernel) rfl rfl
        · replace h := if_f b24 h
          refine Ru.br (k := .ne) (off := 16) (bb := true) (tg := 117) (by decide +kernel) (by decide +kernel) (cz (ci_ne1 (inR_to _) (by decide) b24)) rfl ?_
          refine Ru.op (q := (.aconst_null, 1)) (S' := (118, _, _, _, _)) (by decide +kernel) rfl ?_
          cases h
          exact Ru.end (q := (.areturn, 1)) (by decide +kernel) rfl rfl
    · replace h := if_f b16 h
      refine Ru.br2 (k := .ne) (off := 32) (bb := true) (tg := 52) (by decide +kernel) (by decide +kernel) (ci_ne1 g15 (by decide) b16) rfl ?_
      refine Ru.op (q := (.aload_n 0, 1)) (S' := (53, _, _, _, _)) (by decide +kernel) rfl ?_
      refine Ru.getR (pc' := 56) (i := 19) (ci := 0) (k := 1) (nn := 0) (z := 0) (v := .ref 13) (by decide +kernel) (by decide +kernel) (hp0 _) (by decide) rfl rfl ?_
      refine Ru.getR (pc' := 59) (i := 209) (ci := 3) (k := 10) (nn := 0) (z := 0) (v := .ref 20) (by decide +kernel) (by decide +kernel) (hp13 _) (by decide) rfl rfl ?_
      refine Ru.op (q := (.aload_n 0, 1)) (S' := (60, _, _, _, _)) (by decide +kernel) rfl ?_
      refine Ru.getR (pc' := 63) (i := 39) (ci := 0) (k := 4) (nn := 0) (z := 0) (v := .ref 35) (by decide +kernel) (by decide +kernel) (hp0 _) (by decide) rfl rfl ?_
      refine Ru.op (q := (.iload_n 1, 1)) (S' := (64, _, _, _, _)) (by decide +kernel) rfl ?_
      obtain ⟨g25, h⟩ := gd_some h
      obtain ⟨c26, e27, h⟩ := ob_some h
      refine Ru.aldI (pc' := 65) (i := v1) (b := c26) (by decide +kernel) (hp35 _) (by decide) g25 e27 rfl ?_
      refine Ru.op (q := (.iload_n 2, 1)) (S' := (66, _, _, _, _)) (by decide +kernel) rfl ?_
      refine Ru.op (q := (.aload_n 0, 1)) (S' := (67, _, _, _, _)) (by decide +kernel) rfl ?_
      refine Ru.getR (pc' := 70) (i := 39) (ci := 0) (k := 4) (nn := 0) (z := 0) (v := .ref 35) (by decide +kernel) (by decide +kernel) (hp0 _) (by decide) rfl rfl ?_
      refine Ru.op (q := (.iload_n 3, 1)) (S' := (71, _, _, _, _)) (by decide +kernel) rfl ?_
      obtain ⟨g28, h⟩ := gd_some h
      obtain ⟨c29, e30, h⟩ := ob_some h
      refine Ru.aldI (pc' := 72) (i := v3) (b := c29) (by decide +kernel) (hp35 _) (by decide) g28 e30 rfl ?_
      refine Ru.op (q := (.iload 4, 2)) (S' := (74, _, _, _, _)) (by decide +kernel) rfl ?_
      refine Ru.op (q := (.aload_n 0, 1)) (S' := (75, _, _, _, _)) (by decide +kernel) rfl ?_
      refine Ru.getR (pc' := 78) (i := 19) (ci := 0) (k := 1) (nn := 0) (z := 0) (v := .ref 13) (by decide +kernel) (by decide +kernel) (hp0 _) (by decide) rfl rfl ?_
      refine Ru.getR (pc' := 81) (i := 213) (ci := 3) (k := 9) (nn := 0) (z := 0) (v := .ref 15) (by decide +kernel) (by decide +kernel) (hp13 _) (by decide) rfl rfl ?_
      obtain ⟨o31, e32, h⟩ := ob_some h
      refine Ru.vcallI (pc' := 84) (st' := [vI o31.1]) (i := 222) (j2 := 75) (ci := 6) (k := 0) (z := 0) (as := [.ref c26, vI v2, .ref c29, vI v4, .ref 15]) (by decide +kernel) (by decide +kernel) rfl rfl (hp20 _) (by decide) ⟨(Nat.le_of_ble_eq_true rfl), (by show 19 + 8 ≤ 3956; exact Nat.le_of_ble_eq_true rfl), Nat.le_of_ble_eq_true rfl, Nat.le_of_ble_eq_true rfl⟩ ((g75_15_ok e32).up (Nat.le_of_ble_eq_true rfl) (Nat.le_of_ble_eq_true rfl)) rfl rfl ?_
      refine Ru.op (q := (.istore 5, 2)) (S' := (86, [some (.ref 0), some (vI v1), some (vI v2), some (vI v3), some (vI v4), some (vI o31.1)], [], _, _)) (by decide +kernel) rfl ?_
      refine Ru.op (q := (.iload 5, 2)) (S' := (88, _, _, _, _)) (by decide +kernel) rfl ?_
      obtain ⟨g33, h⟩ := gd_some h
      by_cases b34 : o31.1 = 0
      · replace h := if_t b34 h
        refine Ru.br (k := .eq) (off := 29) (bb := true) (tg := 117) (by decide +kernel) (by decide +kernel) (cz (ci_eq1 g33 (by decide) b34)) rfl ?_
        refine Ru.op (q := (.aconst_null, 1)) (S' := (118, _, _, _, _)) (by decide +kernel) rfl ?_
        cases h
        exact Ru.end (q := (.areturn, 1)) (by decide +kernel) rfl rfl
      · replace h := if_f b34 h
        refine Ru.br (k := .eq) (off := 29) (bb := false) (tg := 91) (by decide +kernel) (by decide +kernel) (cz (ci_eq0 g33 (by decide) b34)) rfl ?_
        refine Ru.op (q := (.aload_n 0, 1)) (S' := (92, _, _, _, _)) (by decide +kernel) rfl ?_
        refine Ru.getR (pc' := 95) (i := 19) (ci := 0) (k := 1) (nn := 0) (z := 0) (v := .ref 13) (by decide +kernel) (by decide +kernel) (hp0 _) (by decide) rfl rfl ?_
        refine Ru.getR (pc' := 98) (i := 213) (ci := 3) (k := 9) (nn := 0) (z := 0) (v := .ref 15) (by decide +kernel) (by decide +kernel) (hp13 _) (by decide) rfl rfl ?_
        refine Ru.getI (pc' := 101) (i := 226) (ci := 4) (k := 3) (nn := 0) (z := 0) (x := (o31.2.F 15 3)) (by decide +kernel) (by decide +kernel) (hp15 _) (by decide) rfl (eI_of _) rfl ?_
        by_cases b35 : (o31.2.F 15 3) = 0
        · replace h := if_t b35 h
          refine Ru.br (k := .ne) (off := 16) (bb := false) (tg := 104) (by decide +kernel) (by decide +kernel) (cz (ci_ne0 (inR_to _) (by decide) b35)) rfl ?_
          refine Ru.op (q := (.aload_n 0, 1)) (S' := (105, _, _, _, _)) (by decide +kernel) rfl ?_
          refine Ru.getR (pc' := 108) (i := 19) (ci := 0) (k := 1) (nn := 0) (z := 0) (v := .ref 13) (by decide +kernel) (by decide +kernel) (hp0 _) (by decide) rfl rfl ?_
          refine Ru.getR (pc' := 111) (i := 213) (ci := 3) (k := 9) (nn := 0) (z := 0) (v := .ref 15) (by decide +kernel) (by decide +kernel) (hp13 _) (by decide) rfl rfl ?_
          refine Ru.getR (pc' := 114) (i := 182) (ci := 4) (k := 0) (nn := 0) (z := 0) (v := .ref 16) (by decide +kernel) (by decide +kernel) (hp15 _) (by decide) rfl rfl ?_
          refine Ru.op (q := (.goto 4, 3)) (S' := (118, _, _, _, _)) (by decide +kernel) rfl ?_
          cases h
          exact Ru.end (q := (.areturn, 1)) (by decide +kernel) rfl rfl
        · replace h := if_f b35 h
          refine Ru.br (k := .ne) (off := 16) (bb := true) (tg := 117) (by decide +kernel) (by decide +kernel) (cz (ci_ne1 (inR_to _) (by decide) b35)) rfl ?_
          refine Ru.op (q := (.aconst_null, 1)) (S' := (118, _, _, _, _)) (by decide +kernel) rfl ?_
          cases h
          exact Ru.end (q := (.areturn, 1)) (by decide +kernel) rfl rfl
set_option maxRecDepth 100000 in
set_option maxHeartbeats 4000000 in
theorem g58_30_ok {S : St} {o : Nat × St} (h : g58_30 S  = some o) : Ru none 11 222 58 (0, mn_pad (mn_ent [.ref 30]) 2, [], S.ns, Hp S) ((0, some (Value.ref o.1)), o.2.ns, Hp o.2) := by
  unfold g58_30 at h
  show Ru none 11 222 58 (0, [some (.ref 30), none], [], S.ns, Hp S) _
  refine Ru.nwI (pc' := 3) (S := S) (i := 9) (n := 4) (by decide +kernel) (by rfl) (by decide) rfl rfl ?_
  refine Ru.op (q := (.dup, 1)) (S' := (4, _, _, _, _)) (by decide +kernel) rfl ?_
  refine Ru.op (q := (.aload_n 0, 1)) (S' := (5, _, _, _, _)) (by decide +kernel) rfl ?_
  refine Ru.getR (pc' := 8) (i := 14) (ci := 4) (k := 0) (nn := 0) (z := 0) (v := .ref 31) (by decide +kernel) (by decide +kernel) (hp30 _) (by decide) rfl rfl ?_
  refine Ru.getI (pc' := 11) (i := 28) (ci := 5) (k := 3) (nn := 0) (z := 0) (x := (S.F 31 3)) (by decide +kernel) (by decide +kernel) (hp31 _) (by decide) rfl (eI_of _) rfl ?_
  refine Ru.op (q := (.aload_n 0, 1)) (S' := (12, _, _, _, _)) (by decide +kernel) rfl ?_
  refine Ru.getR (pc' := 15) (i := 14) (ci := 4) (k := 0) (nn := 0) (z := 0) (v := .ref 31) (by decide +kernel) (by decide +kernel) (hp30 _) (by decide) rfl rfl ?_
  refine Ru.getI (pc' := 18) (i := 24) (ci := 5) (k := 2) (nn := 0) (z := 0) (x := (S.F 31 2)) (by decide +kernel) (by decide +kernel) (hp31 _) (by decide) rfl (eI_of _) rfl ?_
  obtain ⟨q2, e1, h⟩ := gN_e h
  obtain ⟨g3, h⟩ := gd_some h
  refine Ru.callI (pc' := 21) (st' := [.ref S.top]) (q := (.invokespecial 11, 3)) (j2 := 5) (as := [.ref S.top, vI (S.F 31 3), vI (S.F 31 2)]) (by decide +kernel) rfl rfl rfl rfl ⟨(Nat.le_of_ble_eq_true rfl), (by show 19 + 3 ≤ 222; exact Nat.le_of_ble_eq_true rfl), Nat.le_of_ble_eq_true rfl, Nat.le_of_ble_eq_true rfl⟩ ((ctor5_ok q2 e1 g3).up (Nat.le_of_ble_eq_true rfl) (Nat.le_of_ble_eq_true rfl)) rfl rfl ?_
  refine Ru.op (q := (.astore_n 1, 1)) (S' := (22, [some (.ref 30), some (.ref S.top)], [], _, _)) (by decide +kernel) rfl ?_
  refine Ru.op (q := (.aload_n 0, 1)) (S' := (23, _, _, _, _)) (by decide +kernel) rfl ?_
  refine Ru.getR (pc' := 26) (i := 14) (ci := 4) (k := 0) (nn := 0) (z := 0) (v := .ref 31) (by decide +kernel) (by decide +kernel) (hp30 _) (by decide) rfl rfl ?_
  refine Ru.getR (pc' := 29) (i := 41) (ci := 5) (k := 0) (nn := 0) (z := 0) (v := .ref 32) (by decide +kernel) (by decide +kernel) (hp31 _) (by decide) rfl rfl ?_
  refine Ru.kI (q := (.iconst 0, 1)) (c := 0) (pc' := 30) (by decide +kernel) rfl (by decide) rfl ?_
  refine Ru.op (q := (.aload_n 1, 1)) (S' := (31, _, _, _, _)) (by decide +kernel) rfl ?_
  obtain ⟨c4, c5, n6, n7, e8, q9, h⟩ := gC_some h
  refine Ru.getR (pc' := 34) (i := 41) (ci := 5) (k := 0) (nn := 0) (z := 0) (v := .ref c4) (by decide +kernel) (by decide +kernel) q9 (by decide) rfl rfl ?_
  refine Ru.kI (q := (.iconst 0, 1)) (c := 0) (pc' := 35) (by decide +kernel) rfl (by decide) rfl ?_
  refine Ru.op (q := (.aload_n 0, 1)) (S' := (36, _, _, _, _)) (by decide +kernel) rfl ?_
  refine Ru.getR (pc' := 39) (i := 14) (ci := 4) (k := 0) (nn := 0) (z := 0) (v := .ref 31) (by decide +kernel) (by decide +kernel) (hp30 _) (by decide) rfl rfl ?_
  refine Ru.getI (pc' := 42) (i := 28) (ci := 5) (k := 3) (nn := 0) (z := 0) (x := (S.F 31 3)) (by decide +kernel) (by decide +kernel) (hp31 _) (by decide) rfl (eI_of _) rfl ?_
  obtain ⟨N10, f11, e12, q13, h⟩ := gA_some h
  obtain ⟨N14, f15, e16, q17, h⟩ := gA_some h
  obtain ⟨g18, h⟩ := gd_some h
  obtain ⟨g19, h⟩ := gd_some h
  refine Ru.acI (pc' := 45) (i := 64) (k := (0, 0, 0, 0, 0)) (by decide +kernel) (by rfl) q13 q17 g19 (Nat.le_of_ble_eq_true rfl) (by decide +kernel) (pt_ok g18 (x := .ar _ _)) rfl ?_
  refine Ru.op (q := (.aload_n 0, 1)) (S' := (46, _, _, _, _)) (by decide +kernel) rfl ?_
  refine Ru.getR (pc' := 49) (i := 14) (ci := 4) (k := 0) (nn := 0) (z := 0) (v := .ref 31) (by decide +kernel) (by decide +kernel) (hp30 _) (by decide) rfl rfl ?_
  refine Ru.getR (pc' := 52) (i := 31) (ci := 5) (k := 1) (nn := 0) (z := 0) (v := .ref 33) (by decide +kernel) (by decide +kernel) (hp31 _) (by decide) rfl rfl ?_
  refine Ru.kI (q := (.iconst 0, 1)) (c := 0) (pc' := 53) (by decide +kernel) rfl (by decide) rfl ?_
  refine Ru.op (q := (.aload_n 1, 1)) (S' := (54, _, _, _, _)) (by decide +kernel) rfl ?_
  obtain ⟨c20, c21, n22, n23, e24, q25, h⟩ := gC_some h
  refine Ru.getR (pc' := 57) (i := 31) (ci := 5) (k := 1) (nn := 0) (z := 0) (v := .ref c21) (by decide +kernel) (by decide +kernel) q25 (by decide) rfl rfl ?_
  refine Ru.kI (q := (.iconst 0, 1)) (c := 0) (pc' := 58) (by decide +kernel) rfl (by decide) rfl ?_
  refine Ru.op (q := (.aload_n 0, 1)) (S' := (59, _, _, _, _)) (by decide +kernel) rfl ?_
  refine Ru.getR (pc' := 62) (i := 14) (ci := 4) (k := 0) (nn := 0) (z := 0) (v := .ref 31) (by decide +kernel) (by decide +kernel) (hp30 _) (by decide) rfl rfl ?_
  refine Ru.getI (pc' := 65) (i := 24) (ci := 5) (k := 2) (nn := 0) (z := 0) (x := (S.F 31 2)) (by decide +kernel) (by decide +kernel) (hp31 _) (by decide) rfl (eI_of _) rfl ?_
  refine Ru.kI (q := (.iconst 1, 1)) (c := 1) (pc' := 66) (by decide +kernel) rfl (by decide) rfl ?_
  refine Ru.ar2 (i := .iadd) (z := ((S.F 31 2) + 1)) (pc' := 67) (by decide +kernel) rfl (ar_add _ _) rfl ?_
  obtain ⟨N26, f27, e28, q29, h⟩ := gA_some h
  obtain ⟨N30, f31, e32, q33, h⟩ := gA_some h
  obtain ⟨g34, h⟩ := gd_some h
  obtain ⟨g35, h⟩ := gd_some h
  refine Ru.acI (pc' := 70) (i := 64) (k := (0, 0, 0, 0, 0)) (by decide +kernel) (by rfl) q29 q33 g35 (Nat.le_of_ble_eq_true rfl) (by decide +kernel) (pt_ok g34 (x := .ar _ _)) rfl ?_
  refine Ru.op (q := (.aload_n 1, 1)) (S' := (71, _, _, _, _)) (by decide +kernel) rfl ?_
  refine Ru.op (q := (.aload_n 0, 1)) (S' := (72, _, _, _, _)) (by decide +kernel) rfl ?_
  refine Ru.getR (pc' := 75) (i := 14) (ci := 4) (k := 0) (nn := 0) (z := 0) (v := .ref 31) (by decide +kernel) (by decide +kernel) (hp30 _) (by decide) rfl rfl ?_
  refine Ru.getI (pc' := 78) (i := 24) (ci := 5) (k := 2) (nn := 0) (z := 0) (x := (S.F 31 2)) (by decide +kernel) (by decide +kernel) (hp31 _) (by decide) rfl (eI_of _) rfl ?_
  obtain ⟨c36, c37, n38, n39, e40, q41, h⟩ := gC_some h
  obtain ⟨g42, h⟩ := gd_some h
  refine Ru.putH (pc' := 81) (i := 24) (ci := 5) (k := 2) (nn := 0) (z := 0) (by decide +kernel) (by decide +kernel) q41 (by decide) (Nat.le_of_ble_eq_true rfl) rfl (by decide +kernel) (pt_ok g42 (x := .ob 5 [c36, c37] [eI (S.F 31 2), eI n39])) rfl ?_
  refine Ru.op (q := (.aload_n 1, 1)) (S' := (82, _, _, _, _)) (by decide +kernel) rfl ?_
  refine Ru.op (q := (.aload_n 0, 1)) (S' := (83, _, _, _, _)) (by decide +kernel) rfl ?_
  refine Ru.getR (pc' := 86) (i := 14) (ci := 4) (k := 0) (nn := 0) (z := 0) (v := .ref 31) (by decide +kernel) (by decide +kernel) (hp30 _) (by decide) rfl rfl ?_
  refine Ru.getI (pc' := 89) (i := 28) (ci := 5) (k := 3) (nn := 0) (z := 0) (x := (S.F 31 3)) (by decide +kernel) (by decide +kernel) (hp31 _) (by decide) rfl (eI_of _) rfl ?_
  obtain ⟨c43, c44, n45, n46, e47, q48, h⟩ := gC_some h
  refine Ru.putH (pc' := 92) (i := 28) (ci := 5) (k := 3) (nn := 0) (z := 0) (by decide +kernel) (by decide +kernel) q48 (by decide) (Nat.le_of_ble_eq_true rfl) rfl (by decide +kernel) (pt_ok g42 (x := .ob 5 [c43, c44] [eI n45, eI (S.F 31 3)])) rfl ?_
  refine Ru.op (q := (.aload_n 1, 1)) (S' := (93, _, _, _, _)) (by decide +kernel) rfl ?_
  cases h
  exact Ru.end (q := (.areturn, 1)) (by decide +kernel) rfl rfl
set_option maxRecDepth 100000 in
set_option maxHeartbeats 4000000 in
theorem g86_ok {S : St} {v1 : Int} {v2 : Int} {v3 : Int} {v4 : Int} {o : Nat × Int × St} (h : g86 S v1 v2 v3 v4 = some o) : Ru none 144 3981 86 (0, mn_pad (mn_ent [.ref 0, vI v1, vI v2, vI v3, vI v4]) 6, [], S.ns, Hp S) ((o.1, tv o.1 o.2.1), o.2.2.ns, Hp o.2.2) := by
  unfold g86 at h
  show Ru none 144 3981 86 (0, [some (.ref 0), some (vI v1), some (vI v2), some (vI v3), some (vI v4), none], [], S.ns, Hp S) _
  refine Ru.op (q := (.aload_n 0, 1)) (S' := (1, _, _, _, _)) (by decide +kernel) rfl ?_
  refine Ru.getR (pc' := 4) (i := 12) (ci := 0) (k := 0) (nn := 0) (z := 0) (v := .ref 1) (by decide +kernel) (by decide +kernel) (hp0 _) (by decide) rfl rfl ?_
  refine Ru.op (q := (.aload_n 0, 1)) (S' := (5, _, _, _, _)) (by decide +kernel) rfl ?_
  refine Ru.getR (pc' := 8) (i := 33) (ci := 0) (k := 3) (nn := 0) (z := 0) (v := .ref 30) (by decide +kernel) (by decide +kernel) (hp0 _) (by decide) rfl rfl ?_
  obtain ⟨o1, e2, h⟩ := ob_some h
  refine Ru.vcallI (pc' := 11) (st' := [vI o1.1]) (i := 166) (j2 := 87) (ci := 1) (k := 0) (z := 0) (as := [.ref 30]) (by decide +kernel) (by decide +kernel) rfl rfl (hp1 _) (by decide) ⟨(Nat.le_of_ble_eq_true rfl), (by show 19 + 2 ≤ 3981; exact Nat.le_of_ble_eq_true rfl), Nat.le_of_ble_eq_true rfl, Nat.le_of_ble_eq_true rfl⟩ ((g87_30_ok e2).up (Nat.le_of_ble_eq_true rfl) (Nat.le_of_ble_eq_true rfl)) rfl rfl ?_
  obtain ⟨g3, h⟩ := gd_some h
  by_cases b4 : o1.1 = 0
  · replace h := if_t b4 h
    refine Ru.br (k := .ne) (off := 22) (bb := false) (tg := 14) (by decide +kernel) (by decide +kernel) (cz (ci_ne0 g3 (by decide) b4)) rfl ?_
    refine Ru.op (q := (.aload_n 0, 1)) (S' := (15, _, _, _, _)) (by decide +kernel) rfl ?_
    refine Ru.op (q := (.aload_n 0, 1)) (S' := (16, _, _, _, _)) (by decide +kernel) rfl ?_
    refine Ru.getR (pc' := 19) (i := 12) (ci := 0) (k := 0) (nn := 0) (z := 0) (v := .ref 1) (by decide +kernel) (by decide +kernel) (hp0 _) (by decide) rfl rfl ?_
    refine Ru.getI (pc' := 22) (i := 71) (ci := 1) (k := 3) (nn := 0) (z := 0) (x := (o1.2.F 1 3)) (by decide +kernel) (by decide +kernel) (hp1 _) (by decide) rfl (eI_of _) rfl ?_
    refine Ru.putH (pc' := 25) (i := 43) (ci := 0) (k := 6) (nn := 0) (z := 0) (by decide +kernel) (by decide +kernel) (hp0 _) (by decide) (Nat.le_of_ble_eq_true rfl) rfl (by decide +kernel) (pf_0_6 _ _) rfl ?_
    cases h
    exact tho (S := (o1.2.f 0 6 (o1.2.F 1 3))) (Ru.thr (q := (.new 51, 3)) (by decide +kernel) rfl rfl (by decide +kernel))
  · replace h := if_f b4 h
    refine Ru.br (k := .ne) (off := 22) (bb := true) (tg := 33) (by decide +kernel) (by decide +kernel) (cz (ci_ne1 g3 (by decide) b4)) rfl ?_
    refine Ru.op (q := (.aload_n 0, 1)) (S' := (34, _, _, _, _)) (by decide +kernel) rfl ?_
    refine Ru.op (q := (.iload_n 1, 1)) (S' := (35, _, _, _, _)) (by decide +kernel) rfl ?_
    refine Ru.op (q := (.iload_n 2, 1)) (S' := (36, _, _, _, _)) (by decide +kernel) rfl ?_
    refine Ru.op (q := (.iload_n 3, 1)) (S' := (37, _, _, _, _)) (by decide +kernel) rfl ?_
    refine Ru.op (q := (.iload 4, 2)) (S' := (39, _, _, _, _)) (by decide +kernel) rfl ?_
    obtain ⟨o5, e6, h⟩ := ob_some h
    refine Ru.vcallI (pc' := 42) (st' := [vI o5]) (i := 170) (j2 := 89) (ci := 0) (k := 0) (z := 0) (as := [vI v1, vI v2, vI v3, vI v4]) (by decide +kernel) (by decide +kernel) rfl rfl (hp0 _) (by decide) ⟨(Nat.le_of_ble_eq_true rfl), (by show 19 + 5 ≤ 3981; exact Nat.le_of_ble_eq_true rfl), Nat.le_of_ble_eq_true rfl, Nat.le_of_ble_eq_true rfl⟩ ((g89_ok e6).up (Nat.le_of_ble_eq_true rfl) (Nat.le_of_ble_eq_true rfl)) rfl rfl ?_
    obtain ⟨g7, h⟩ := gd_some h
    by_cases b8 : o5 = 0
    · replace h := if_t b8 h
      refine Ru.br (k := .ne) (off := 11) (bb := false) (tg := 45) (by decide +kernel) (by decide +kernel) (cz (ci_ne0 g7 (by decide) b8)) rfl ?_
      cases h
      exact tho (S := o1.2) (Ru.thr (q := (.new 108, 3)) (by decide +kernel) rfl rfl (by decide +kernel))
    · replace h := if_f b8 h
      refine Ru.br (k := .ne) (off := 11) (bb := true) (tg := 53) (by decide +kernel) (by decide +kernel) (cz (ci_ne1 g7 (by decide) b8)) rfl ?_
      refine Ru.op (q := (.aload_n 0, 1)) (S' := (54, _, _, _, _)) (by decide +kernel) rfl ?_
      refine Ru.getR (pc' := 57) (i := 33) (ci := 0) (k := 3) (nn := 0) (z := 0) (v := .ref 30) (by decide +kernel) (by decide +kernel) (hp0 _) (by decide) rfl rfl ?_
      obtain ⟨o9, e10, h⟩ := ob_some h
      refine Ru.vcallI (pc' := 60) (st' := [vI o9]) (i := 174) (j2 := 50) (ci := 4) (k := 0) (z := 0) (as := []) (by decide +kernel) (by decide +kernel) rfl rfl (hp30 _) (by decide) ⟨(Nat.le_of_ble_eq_true rfl), (by show 19 + 1 ≤ 3981; exact Nat.le_of_ble_eq_true rfl), Nat.le_of_ble_eq_true rfl, Nat.le_of_ble_eq_true rfl⟩ ((g50_30_ok e10).up (Nat.le_of_ble_eq_true rfl) (Nat.le_of_ble_eq_true rfl)) rfl rfl ?_
      obtain ⟨g11, h⟩ := gd_some h
      by_cases b12 : o9 = 0
      · replace h := if_t b12 h
        refine Ru.br (k := .eq) (off := 12) (bb := true) (tg := 72) (by decide +kernel) (by decide +kernel) (cz (ci_eq1 g11 (by decide) b12)) rfl ?_
        cases h
        exact tho (S := o1.2) (Ru.thr (q := (.new 88, 3)) (by decide +kernel) rfl rfl (by decide +kernel))
      · replace h := if_f b12 h
        refine Ru.br (k := .eq) (off := 12) (bb := false) (tg := 63) (by decide +kernel) (by decide +kernel) (cz (ci_eq0 g11 (by decide) b12)) rfl ?_
        refine Ru.op (q := (.aload_n 0, 1)) (S' := (64, _, _, _, _)) (by decide +kernel) rfl ?_
        refine Ru.getI (pc' := 67) (i := 102) (ci := 0) (k := 5) (nn := 0) (z := 0) (x := (o1.2.F 0 5)) (by decide +kernel) (by decide +kernel) (hp0 _) (by decide) rfl (eI_of _) rfl ?_
        refine Ru.kI (q := (.bipush 24, 2)) (c := 24) (pc' := 69) (by decide +kernel) rfl (by decide) rfl ?_
        by_cases b13 : (o1.2.F 0 5) < 24
        · replace h := if_t b13 h
          refine Ru.br2 (k := .lt) (off := 11) (bb := true) (tg := 80) (by decide +kernel) (by decide +kernel) (ci_lt1 (inR_to _) (by decide) b13) rfl ?_
          refine Ru.op (q := (.aload_n 0, 1)) (S' := (81, _, _, _, _)) (by decide +kernel) rfl ?_
          refine Ru.op (q := (.iload_n 1, 1)) (S' := (82, _, _, _, _)) (by decide +kernel) rfl ?_
          refine Ru.op (q := (.iload_n 2, 1)) (S' := (83, _, _, _, _)) (by decide +kernel) rfl ?_
          refine Ru.op (q := (.iload_n 3, 1)) (S' := (84, _, _, _, _)) (by decide +kernel) rfl ?_
          refine Ru.op (q := (.iload 4, 2)) (S' := (86, _, _, _, _)) (by decide +kernel) rfl ?_
          obtain ⟨o14, e15, h⟩ := ob_some h
          refine Ru.vcallI (pc' := 89) (st' := [rV o14.1]) (i := 178) (j2 := 91) (ci := 0) (k := 0) (z := 0) (as := [vI v1, vI v2, vI v3, vI v4]) (by decide +kernel) (by decide +kernel) rfl rfl (hp0 _) (by decide) ⟨(Nat.le_of_ble_eq_true rfl), (by show 19 + 6 ≤ 3981; exact Nat.le_of_ble_eq_true rfl), Nat.le_of_ble_eq_true rfl, Nat.le_of_ble_eq_true rfl⟩ ((g91_ok e15).up (Nat.le_of_ble_eq_true rfl) (Nat.le_of_ble_eq_true rfl)) rfl rfl ?_
          rcases on_e h with ⟨e17, h⟩ | ⟨c16, e17, h⟩
          · rw [e17]
            refine Ru.op (q := (.astore 5, 2)) (S' := (91, [some (.ref 0), some (vI v1), some (vI v2), some (vI v3), some (vI v4), some (.null)], [], _, _)) (by decide +kernel) rfl ?_
            refine Ru.op (q := (.aload_n 0, 1)) (S' := (92, _, _, _, _)) (by decide +kernel) rfl ?_
            refine Ru.getR (pc' := 95) (i := 12) (ci := 0) (k := 0) (nn := 0) (z := 0) (v := .ref 1) (by decide +kernel) (by decide +kernel) (hp0 _) (by decide) rfl rfl ?_
            refine Ru.kI (q := (.iconst 0, 1)) (c := 0) (pc' := 96) (by decide +kernel) rfl (by decide) rfl ?_
            refine Ru.putH (pc' := 99) (i := 54) (ci := 1) (k := 1) (nn := 0) (z := 0) (by decide +kernel) (by decide +kernel) (hp1 _) (by decide) (Nat.le_of_ble_eq_true rfl) rfl (by decide +kernel) (pf_1_1 _ _) rfl ?_
            refine Ru.op (q := (.aload_n 0, 1)) (S' := (100, _, _, _, _)) (by decide +kernel) rfl ?_
            refine Ru.kI (q := (.iconst (-1), 1)) (c := (-1)) (pc' := 101) (by decide +kernel) rfl (by decide) rfl ?_
            refine Ru.putH (pc' := 104) (i := 43) (ci := 0) (k := 6) (nn := 0) (z := 0) (by decide +kernel) (by decide +kernel) (hp0 _) (by decide) (Nat.le_of_ble_eq_true rfl) rfl (by decide +kernel) (pf_0_6 _ _) rfl ?_
            refine Ru.op (q := (.aload 5, 2)) (S' := (106, _, _, _, _)) (by decide +kernel) rfl ?_
            refine Ru.op (q := (.ifnull 25, 3)) (S' := (131, _, _, _, _)) (by decide +kernel) rfl ?_
            refine Ru.kI (q := (.iconst (-1), 1)) (c := (-1)) (pc' := 132) (by decide +kernel) rfl (by decide) rfl ?_
            cases h
            exact Ru.iret (by decide +kernel) rfl rfl
          · rw [e17]
            refine Ru.op (q := (.astore 5, 2)) (S' := (91, [some (.ref 0), some (vI v1), some (vI v2), some (vI v3), some (vI v4), some (.ref c16)], [], _, _)) (by decide +kernel) rfl ?_
            refine Ru.op (q := (.aload_n 0, 1)) (S' := (92, _, _, _, _)) (by decide +kernel) rfl ?_
            refine Ru.getR (pc' := 95) (i := 12) (ci := 0) (k := 0) (nn := 0) (z := 0) (v := .ref 1) (by decide +kernel) (by decide +kernel) (hp0 _) (by decide) rfl rfl ?_
            refine Ru.kI (q := (.iconst 0, 1)) (c := 0) (pc' := 96) (by decide +kernel) rfl (by decide) rfl ?_
            refine Ru.putH (pc' := 99) (i := 54) (ci := 1) (k := 1) (nn := 0) (z := 0) (by decide +kernel) (by decide +kernel) (hp1 _) (by decide) (Nat.le_of_ble_eq_true rfl) rfl (by decide +kernel) (pf_1_1 _ _) rfl ?_
            refine Ru.op (q := (.aload_n 0, 1)) (S' := (100, _, _, _, _)) (by decide +kernel) rfl ?_
            refine Ru.kI (q := (.iconst (-1), 1)) (c := (-1)) (pc' := 101) (by decide +kernel) rfl (by decide) rfl ?_
            refine Ru.putH (pc' := 104) (i := 43) (ci := 0) (k := 6) (nn := 0) (z := 0) (by decide +kernel) (by decide +kernel) (hp0 _) (by decide) (Nat.le_of_ble_eq_true rfl) rfl (by decide +kernel) (pf_0_6 _ _) rfl ?_
            refine Ru.op (q := (.aload 5, 2)) (S' := (106, _, _, _, _)) (by decide +kernel) rfl ?_
            refine Ru.op (q := (.ifnull 25, 3)) (S' := (109, _, _, _, _)) (by decide +kernel) rfl ?_
            refine Ru.op (q := (.aload_n 0, 1)) (S' := (110, _, _, _, _)) (by decide +kernel) rfl ?_
            refine Ru.getR (pc' := 113) (i := 19) (ci := 0) (k := 1) (nn := 0) (z := 0) (v := .ref 13) (by decide +kernel) (by decide +kernel) (hp0 _) (by decide) rfl rfl ?_
            refine Ru.getR (pc' := 116) (i := 153) (ci := 3) (k := 11) (nn := 0) (z := 0) (v := .ref 23) (by decide +kernel) (by decide +kernel) (hp13 _) (by decide) rfl rfl ?_
            refine Ru.op (q := (.aload 5, 2)) (S' := (118, _, _, _, _)) (by decide +kernel) rfl ?_
            refine Ru.op (q := (.aload_n 0, 1)) (S' := (119, _, _, _, _)) (by decide +kernel) rfl ?_
            refine Ru.getR (pc' := 122) (i := 33) (ci := 0) (k := 3) (nn := 0) (z := 0) (v := .ref 30) (by decide +kernel) (by decide +kernel) (hp0 _) (by decide) rfl rfl ?_
            refine Ru.getR (pc' := 125) (i := 182) (ci := 4) (k := 0) (nn := 0) (z := 0) (v := .ref 31) (by decide +kernel) (by decide +kernel) (hp30 _) (by decide) rfl rfl ?_
            obtain ⟨o18, e19, h⟩ := ob_some h
            refine Ru.vcallI (pc' := 128) (st' := [vI o18.1]) (i := 157) (j2 := 54) (ci := 7) (k := 0) (z := 0) (as := [.ref c16, .ref 31]) (by decide +kernel) (by decide +kernel) rfl rfl (hp23 _) (by decide) ⟨(Nat.le_of_ble_eq_true rfl), (by show 19 + 5 ≤ 3981; exact Nat.le_of_ble_eq_true rfl), Nat.le_of_ble_eq_true rfl, Nat.le_of_ble_eq_true rfl⟩ ((g54_ok e19).up (Nat.le_of_ble_eq_true rfl) (Nat.le_of_ble_eq_true rfl)) rfl rfl ?_
            obtain ⟨g20, h⟩ := gd_some h
            by_cases b21 : o18.1 = 0
            · replace h := if_t b21 h
              refine Ru.br (k := .ne) (off := 5) (bb := false) (tg := 131) (by decide +kernel) (by decide +kernel) (cz (ci_ne0 g20 (by decide) b21)) rfl ?_
              refine Ru.kI (q := (.iconst (-1), 1)) (c := (-1)) (pc' := 132) (by decide +kernel) rfl (by decide) rfl ?_
              cases h
              exact Ru.iret (by decide +kernel) rfl rfl
            · replace h := if_f b21 h
              refine Ru.br (k := .ne) (off := 5) (bb := true) (tg := 133) (by decide +kernel) (by decide +kernel) (cz (ci_ne1 g20 (by decide) b21)) rfl ?_
              refine Ru.op (q := (.aload_n 0, 1)) (S' := (134, _, _, _, _)) (by decide +kernel) rfl ?_
              refine Ru.getR (pc' := 137) (i := 39) (ci := 0) (k := 4) (nn := 0) (z := 0) (v := .ref 35) (by decide +kernel) (by decide +kernel) (hp0 _) (by decide) rfl rfl ?_
              refine Ru.op (q := (.aload_n 0, 1)) (S' := (138, _, _, _, _)) (by decide +kernel) rfl ?_
              refine Ru.getI (pc' := 141) (i := 102) (ci := 0) (k := 5) (nn := 0) (z := 0) (x := (o18.2.F 0 5)) (by decide +kernel) (by decide +kernel) (hp0 _) (by decide) rfl (eI_of _) rfl ?_
              refine Ru.op (q := (.aload_n 0, 1)) (S' := (142, _, _, _, _)) (by decide +kernel) rfl ?_
              refine Ru.getR (pc' := 145) (i := 33) (ci := 0) (k := 3) (nn := 0) (z := 0) (v := .ref 30) (by decide +kernel) (by decide +kernel) (hp0 _) (by decide) rfl rfl ?_
              obtain ⟨o22, e23, h⟩ := ob_some h
              refine Ru.vcallI (pc' := 148) (st' := [.ref o22.1, vI (o18.2.F 0 5), .ref 35]) (i := 185) (j2 := 58) (ci := 4) (k := 0) (z := 0) (as := []) (by decide +kernel) (by decide +kernel) rfl rfl (hp30 _) (by decide) ⟨(Nat.le_of_ble_eq_true rfl), (by show 19 + 2 ≤ 3981; exact Nat.le_of_ble_eq_true rfl), Nat.le_of_ble_eq_true rfl, Nat.le_of_ble_eq_true rfl⟩ ((g58_30_ok e23).up (Nat.le_of_ble_eq_true rfl) (Nat.le_of_ble_eq_true rfl)) rfl rfl ?_
              obtain ⟨g24, h⟩ := gd_some h
              obtain ⟨c25, c26, n27, n28, e29, q30, h⟩ := gC_some h
              refine Ru.astI (pc' := 149) (i := (o18.2.F 0 5)) (by decide +kernel) (hp35 _) q30 (by decide) (by decide) (by decide) g24 (pq_35 _ _ _) rfl ?_
              refine Ru.op (q := (.aload_n 0, 1)) (S' := (150, _, _, _, _)) (by decide +kernel) rfl ?_
              refine Ru.op (q := (.dup, 1)) (S' := (151, _, _, _, _)) (by decide +kernel) rfl ?_
              refine Ru.getI (pc' := 154) (i := 102) (ci := 0) (k := 5) (nn := 0) (z := 0) (x := (o22.2.F 0 5)) (by decide +kernel) (by decide +kernel) (hp0 _) (by decide) rfl (eI_of _) rfl ?_
              refine Ru.kI (q := (.iconst 1, 1)) (c := 1) (pc' := 155) (by decide +kernel) rfl (by decide) rfl ?_
              refine Ru.ar2 (i := .iadd) (z := ((o22.2.F 0 5) + 1)) (pc' := 156) (by decide +kernel) rfl (ar_add _ _) rfl ?_
              refine Ru.putH (pc' := 159) (i := 102) (ci := 0) (k := 5) (nn := 0) (z := 0) (by decide +kernel) (by decide +kernel) (hp0 _) (by decide) (Nat.le_of_ble_eq_true rfl) rfl (by decide +kernel) (pf_0_5 _ _) rfl ?_
              refine Ru.op (q := (.aload_n 0, 1)) (S' := (160, _, _, _, _)) (by decide +kernel) rfl ?_
              refine Ru.getI (pc' := 163) (i := 102) (ci := 0) (k := 5) (nn := 0) (z := 0) (x := ((o22.2.F 0 5) + 1)) (by decide +kernel) (by decide +kernel) (hp0 _) (by decide) rfl rfl rfl ?_
              refine Ru.kI (q := (.iconst 1, 1)) (c := 1) (pc' := 164) (by decide +kernel) rfl (by decide) rfl ?_
              refine Ru.ar2 (i := .isub) (z := (((o22.2.F 0 5) + 1) - 1)) (pc' := 165) (by decide +kernel) rfl (ar_sub _ _) rfl ?_
              cases h
              exact Ru.iret (by decide +kernel) rfl rfl
        · replace h := if_f b13 h
          refine Ru.br2 (k := .lt) (off := 11) (bb := false) (tg := 72) (by decide +kernel) (by decide +kernel) (ci_lt0 (inR_to _) (by decide) b13) rfl ?_
          cases h
          exact tho (S := o1.2) (Ru.thr (q := (.new 88, 3)) (by decide +kernel) rfl rfl (by decide +kernel))
set_option maxRecDepth 100000 in
set_option maxHeartbeats 4000000 in
theorem g92_ok {S : St} {v1 : Int} {o : Nat × Int × St} (h : g92 S v1 = some o) : Ru none 11 223 92 (0, mn_pad (mn_ent [.ref 0, vI v1]) 2, [], S.ns, Hp S) ((o.1, tv o.1 o.2.1), o.2.2.ns, Hp o.2.2) := by
  unfold g92 at h
  show Ru none 11 223 92 (0, [some (.ref 0), some (vI v1)], [], S.ns, Hp S) _
  refine Ru.op (q := (.iload_n 1, 1)) (S' := (1, _, _, _, _)) (by decide +kernel) rfl ?_
  obtain ⟨g1, h⟩ := gd_some h
  by_cases b2 : v1 = 0
  · replace h := if_t b2 h
    refine Ru.sw (d := 122) (lo2 := 0) (hi := 8) (offs := #[51, 59, 68, 77, 85, 93, 101, 109, 117]) (len := 51) (tg := 52) (by decide +kernel) (by rw [b2]; rfl) ?_
    refine Ru.op (q := (.aload_n 0, 1)) (S' := (53, _, _, _, _)) (by decide +kernel) rfl ?_
    refine Ru.getR (pc' := 56) (i := 19) (ci := 0) (k := 1) (nn := 0) (z := 0) (v := .ref 13) (by decide +kernel) (by decide +kernel) (hp0 _) (by decide) rfl rfl ?_
    refine Ru.getI (pc' := 59) (i := 105) (ci := 3) (k := 1) (nn := 0) (z := 0) (x := (S.F 13 1)) (by decide +kernel) (by decide +kernel) (hp13 _) (by decide) rfl (eI_of _) rfl ?_
    cases h
    exact Ru.iret (by decide +kernel) rfl rfl
  · replace h := if_f b2 h
    by_cases b3 : v1 = 1
    · replace h := if_t b3 h
      refine Ru.sw (d := 122) (lo2 := 0) (hi := 8) (offs := #[51, 59, 68, 77, 85, 93, 101, 109, 117]) (len := 51) (tg := 60) (by decide +kernel) (by rw [b3]; rfl) ?_
      refine Ru.op (q := (.aload_n 0, 1)) (S' := (61, _, _, _, _)) (by decide +kernel) rfl ?_
      refine Ru.getR (pc' := 64) (i := 19) (ci := 0) (k := 1) (nn := 0) (z := 0) (v := .ref 13) (by decide +kernel) (by decide +kernel) (hp0 _) (by decide) rfl rfl ?_
      refine Ru.kI (q := (.iconst 0, 1)) (c := 0) (pc' := 65) (by decide +kernel) rfl (by decide) rfl ?_
      obtain ⟨o4, e5, h⟩ := ob_some h
      refine Ru.vcallI (pc' := 68) (st' := [vI o4]) (i := 189) (j2 := 13) (ci := 3) (k := 0) (z := 0) (as := [vI 0]) (by decide +kernel) (by decide +kernel) rfl rfl (hp13 _) (by decide) ⟨(Nat.le_of_ble_eq_true rfl), (by show 19 + 4 ≤ 223; exact Nat.le_of_ble_eq_true rfl), Nat.le_of_ble_eq_true rfl, Nat.le_of_ble_eq_true rfl⟩ ((g13_ok e5).up (Nat.le_of_ble_eq_true rfl) (Nat.le_of_ble_eq_true rfl)) rfl rfl ?_
      cases h
      exact Ru.iret (by decide +kernel) rfl rfl
    · replace h := if_f b3 h
      by_cases b6 : v1 = 2
      · replace h := if_t b6 h
        refine Ru.sw (d := 122) (lo2 := 0) (hi := 8) (offs := #[51, 59, 68, 77, 85, 93, 101, 109, 117]) (len := 51) (tg := 69) (by decide +kernel) (by rw [b6]; rfl) ?_
        refine Ru.op (q := (.aload_n 0, 1)) (S' := (70, _, _, _, _)) (by decide +kernel) rfl ?_
        refine Ru.getR (pc' := 73) (i := 19) (ci := 0) (k := 1) (nn := 0) (z := 0) (v := .ref 13) (by decide +kernel) (by decide +kernel) (hp0 _) (by decide) rfl rfl ?_
        refine Ru.kI (q := (.iconst 1, 1)) (c := 1) (pc' := 74) (by decide +kernel) rfl (by decide) rfl ?_
        obtain ⟨o7, e8, h⟩ := ob_some h
        refine Ru.vcallI (pc' := 77) (st' := [vI o7]) (i := 189) (j2 := 13) (ci := 3) (k := 0) (z := 0) (as := [vI 1]) (by decide +kernel) (by decide +kernel) rfl rfl (hp13 _) (by decide) ⟨(Nat.le_of_ble_eq_true rfl), (by show 19 + 4 ≤ 223; exact Nat.le_of_ble_eq_true rfl), Nat.le_of_ble_eq_true rfl, Nat.le_of_ble_eq_true rfl⟩ ((g13_ok e8).up (Nat.le_of_ble_eq_true rfl) (Nat.le_of_ble_eq_true rfl)) rfl rfl ?_
        cases h
        exact Ru.iret (by decide +kernel) rfl rfl
      · replace h := if_f b6 h
        by_cases b9 : v1 = 3
        · replace h := if_t b9 h
          refine Ru.sw (d := 122) (lo2 := 0) (hi := 8) (offs := #[51, 59, 68, 77, 85, 93, 101, 109, 117]) (len := 51) (tg := 78) (by decide +kernel) (by rw [b9]; rfl) ?_
          refine Ru.op (q := (.aload_n 0, 1)) (S' := (79, _, _, _, _)) (by decide +kernel) rfl ?_
          refine Ru.getR (pc' := 82) (i := 19) (ci := 0) (k := 1) (nn := 0) (z := 0) (v := .ref 13) (by decide +kernel) (by decide +kernel) (hp0 _) (by decide) rfl rfl ?_
          refine Ru.getI (pc' := 85) (i := 193) (ci := 3) (k := 3) (nn := 0) (z := 0) (x := (S.F 13 3)) (by decide +kernel) (by decide +kernel) (hp13 _) (by decide) rfl (eI_of _) rfl ?_
          cases h
          exact Ru.iret (by decide +kernel) rfl rfl
        · replace h := if_f b9 h
          by_cases b10 : v1 = 4
          · replace h := if_t b10 h
            refine Ru.sw (d := 122) (lo2 := 0) (hi := 8) (offs := #[51, 59, 68, 77, 85, 93, 101, 109, 117]) (len := 51) (tg := 86) (by decide +kernel) (by rw [b10]; rfl) ?_
            refine Ru.op (q := (.aload_n 0, 1)) (S' := (87, _, _, _, _)) (by decide +kernel) rfl ?_
            refine Ru.getR (pc' := 90) (i := 19) (ci := 0) (k := 1) (nn := 0) (z := 0) (v := .ref 13) (by decide +kernel) (by decide +kernel) (hp0 _) (by decide) rfl rfl ?_
            refine Ru.getI (pc' := 93) (i := 196) (ci := 3) (k := 4) (nn := 0) (z := 0) (x := (S.F 13 4)) (by decide +kernel) (by decide +kernel) (hp13 _) (by decide) rfl (eI_of _) rfl ?_
            cases h
            exact Ru.iret (by decide +kernel) rfl rfl
          · replace h := if_f b10 h
            by_cases b11 : v1 = 5
            · replace h := if_t b11 h
              refine Ru.sw (d := 122) (lo2 := 0) (hi := 8) (offs := #[51, 59, 68, 77, 85, 93, 101, 109, 117]) (len := 51) (tg := 94) (by decide +kernel) (by rw [b11]; rfl) ?_
              refine Ru.op (q := (.aload_n 0, 1)) (S' := (95, _, _, _, _)) (by decide +kernel) rfl ?_
              refine Ru.getR (pc' := 98) (i := 19) (ci := 0) (k := 1) (nn := 0) (z := 0) (v := .ref 13) (by decide +kernel) (by decide +kernel) (hp0 _) (by decide) rfl rfl ?_
              refine Ru.getI (pc' := 101) (i := 199) (ci := 3) (k := 5) (nn := 0) (z := 0) (x := (S.F 13 5)) (by decide +kernel) (by decide +kernel) (hp13 _) (by decide) rfl (eI_of _) rfl ?_
              cases h
              exact Ru.iret (by decide +kernel) rfl rfl
            · replace h := if_f b11 h
              by_cases b12 : v1 = 6
              · replace h := if_t b12 h
                refine Ru.sw (d := 122) (lo2 := 0) (hi := 8) (offs := #[51, 59, 68, 77, 85, 93, 101, 109, 117]) (len := 51) (tg := 102) (by decide +kernel) (by rw [b12]; rfl) ?_
                refine Ru.op (q := (.aload_n 0, 1)) (S' := (103, _, _, _, _)) (by decide +kernel) rfl ?_
                refine Ru.getR (pc' := 106) (i := 19) (ci := 0) (k := 1) (nn := 0) (z := 0) (v := .ref 13) (by decide +kernel) (by decide +kernel) (hp0 _) (by decide) rfl rfl ?_
                refine Ru.getI (pc' := 109) (i := 202) (ci := 3) (k := 6) (nn := 0) (z := 0) (x := (S.F 13 6)) (by decide +kernel) (by decide +kernel) (hp13 _) (by decide) rfl (eI_of _) rfl ?_
                cases h
                exact Ru.iret (by decide +kernel) rfl rfl
              · replace h := if_f b12 h
                by_cases b13 : v1 = 7
                · replace h := if_t b13 h
                  refine Ru.sw (d := 122) (lo2 := 0) (hi := 8) (offs := #[51, 59, 68, 77, 85, 93, 101, 109, 117]) (len := 51) (tg := 110) (by decide +kernel) (by rw [b13]; rfl) ?_
                  refine Ru.op (q := (.aload_n 0, 1)) (S' := (111, _, _, _, _)) (by decide +kernel) rfl ?_
                  refine Ru.getR (pc' := 114) (i := 19) (ci := 0) (k := 1) (nn := 0) (z := 0) (v := .ref 13) (by decide +kernel) (by decide +kernel) (hp0 _) (by decide) rfl rfl ?_
                  refine Ru.getI (pc' := 117) (i := 64) (ci := 3) (k := 2) (nn := 0) (z := 0) (x := (S.F 13 2)) (by decide +kernel) (by decide +kernel) (hp13 _) (by decide) rfl (eI_of _) rfl ?_
                  cases h
                  exact Ru.iret (by decide +kernel) rfl rfl
                · replace h := if_f b13 h
                  by_cases b14 : v1 = 8
                  · replace h := if_t b14 h
                    refine Ru.sw (d := 122) (lo2 := 0) (hi := 8) (offs := #[51, 59, 68, 77, 85, 93, 101, 109, 117]) (len := 51) (tg := 118) (by decide +kernel) (by rw [b14]; rfl) ?_
                    refine Ru.op (q := (.aload_n 0, 1)) (S' := (119, _, _, _, _)) (by decide +kernel) rfl ?_
                    refine Ru.getI (pc' := 122) (i := 102) (ci := 0) (k := 5) (nn := 0) (z := 0) (x := (S.F 0 5)) (by decide +kernel) (by decide +kernel) (hp0 _) (by decide) rfl (eI_of _) rfl ?_
                    cases h
                    exact Ru.iret (by decide +kernel) rfl rfl
                  · replace h := if_f b14 h
                    refine Ru.sw (d := 122) (lo2 := 0) (hi := 8) (offs := #[51, 59, 68, 77, 85, 93, 101, 109, 117]) (len := 51) (tg := 123) (by decide +kernel) (by simp only [mn_opC]; rw [eI_to g1, if_pos (by omega)]; rfl) ?_
                    cases h
                    exact tho (S := S) (Ru.thr (q := (.new 51, 3)) (by decide +kernel) rfl rfl (by decide +kernel))
set_option maxRecDepth 100000 in
set_option maxHeartbeats 4000000 in
theorem g94_ok {S : St} {o : Int} (h : g94 S  = some o) : Ru none 10 200 94 (0, mn_pad (mn_ent [.ref 36]) 1, [], S.ns, Hp S) ((0, some (vI o)), S.ns, Hp S) := by
  unfold g94 at h
  show Ru none 10 200 94 (0, [some (.ref 36)], [], S.ns, Hp S) _
  refine Ru.op (q := (.aload_n 0, 1)) (S' := (1, _, _, _, _)) (by decide +kernel) rfl ?_
  refine Ru.getI (pc' := 4) (i := 120) (ci := 10) (k := 0) (nn := 0) (z := 0) (x := (S.F 36 0)) (by decide +kernel) (by decide +kernel) (hp36 _) (by decide) rfl (eI_of _) rfl ?_
  cases h
  exact Ru.iret (by decide +kernel) rfl rfl
set_option maxRecDepth 100000 in
set_option maxHeartbeats 4000000 in
theorem g96_ok {S : St} {o : Int × St} (h : g96 S  = some o) : Ru none 10 200 96 (0, mn_pad (mn_ent [.ref 36]) 2, [], S.ns, Hp S) ((0, some (vI o.1)), o.2.ns, Hp o.2) := by
  unfold g96 at h
  show Ru none 10 200 96 (0, [some (.ref 36), none], [], S.ns, Hp S) _
  refine Ru.op (q := (.aload_n 0, 1)) (S' := (1, _, _, _, _)) (by decide +kernel) rfl ?_
  refine Ru.kI (q := (.iconst 0, 1)) (c := 0) (pc' := 2) (by decide +kernel) rfl (by decide) rfl ?_
  refine Ru.putH (pc' := 5) (i := 120) (ci := 10) (k := 0) (nn := 0) (z := 0) (by decide +kernel) (by decide +kernel) (hp36 _) (by decide) (Nat.le_of_ble_eq_true rfl) rfl (by decide +kernel) (pf_36_0 _ _) rfl ?_
  refine Ru.op (q := (.aload_n 0, 1)) (S' := (6, _, _, _, _)) (by decide +kernel) rfl ?_
  refine Ru.getI (pc' := 9) (i := 129) (ci := 10) (k := 2) (nn := 0) (z := 0) (x := (S.F 36 2)) (by decide +kernel) (by decide +kernel) (hp36 _) (by decide) rfl (eI_of _) rfl ?_
  refine Ru.op (q := (.istore_n 1, 1)) (S' := (10, [some (.ref 36), some (vI (S.F 36 2))], [], _, _)) (by decide +kernel) rfl ?_
  refine Ru.op (q := (.aload_n 0, 1)) (S' := (11, _, _, _, _)) (by decide +kernel) rfl ?_
  refine Ru.kI (q := (.iconst 0, 1)) (c := 0) (pc' := 12) (by decide +kernel) rfl (by decide) rfl ?_
  refine Ru.putH (pc' := 15) (i := 129) (ci := 10) (k := 2) (nn := 0) (z := 0) (by decide +kernel) (by decide +kernel) (hp36 _) (by decide) (Nat.le_of_ble_eq_true rfl) rfl (by decide +kernel) (pf_36_2 _ _) rfl ?_
  refine Ru.op (q := (.iload_n 1, 1)) (S' := (16, _, _, _, _)) (by decide +kernel) rfl ?_
  cases h
  exact Ru.iret (by decide +kernel) rfl rfl
set_option maxRecDepth 100000 in
set_option maxHeartbeats 4000000 in
theorem g97_ok {S : St} {o : Int × St} (h : g97 S  = some o) : Ru none 10 200 97 (0, mn_pad (mn_ent [.ref 36]) 1, [], S.ns, Hp S) ((0, some (vI o.1)), o.2.ns, Hp o.2) := by
  unfold g97 at h
  show Ru none 10 200 97 (0, [some (.ref 36)], [], S.ns, Hp S) _
  refine Ru.op (q := (.aload_n 0, 1)) (S' := (1, _, _, _, _)) (by decide +kernel) rfl ?_
  refine Ru.kI (q := (.iconst 0, 1)) (c := 0) (pc' := 2) (by decide +kernel) rfl (by decide) rfl ?_
  refine Ru.putH (pc' := 5) (i := 120) (ci := 10) (k := 0) (nn := 0) (z := 0) (by decide +kernel) (by decide +kernel) (hp36 _) (by decide) (Nat.le_of_ble_eq_true rfl) rfl (by decide +kernel) (pf_36_0 _ _) rfl ?_
  refine Ru.op (q := (.aload_n 0, 1)) (S' := (6, _, _, _, _)) (by decide +kernel) rfl ?_
  refine Ru.getI (pc' := 9) (i := 9) (ci := 10) (k := 1) (nn := 0) (z := 0) (x := (S.F 36 1)) (by decide +kernel) (by decide +kernel) (hp36 _) (by decide) rfl (eI_of _) rfl ?_
  cases h
  exact Ru.iret (by decide +kernel) rfl rfl
set_option maxRecDepth 100000 in
set_option maxHeartbeats 4000000 in
theorem g100L2_ok : ∀ (n : Nat) (v1 : Int) (S : St) (_ : DD []) (out : St), g100L2 n v1 S = some out → ∀ r, (∀ (e0 e1 : Option Value), DD [e0, e1] → Ru none 10 200 100 (22, [e0, e1], [], out.ns, Hp out) r) → Ru none 10 200 100 (2, [some (.ref 36), some (vI v1)], [], S.ns, Hp S) r := by
  intro n
  induction n with
  | zero => intro v1 S hdd out h; cases h
  | succ n ih =>
    intro v1 S hdd out h r hk
    unfold g100L2 at h
    refine Ru.op (q := (.iload_n 1, 1)) (S' := (3, _, _, _, _)) (by decide +kernel) rfl ?_
    refine Ru.kI (q := (.sipush 128, 3)) (c := 128) (pc' := 6) (by decide +kernel) rfl (by decide) rfl ?_
    obtain ⟨g1, h⟩ := gd_some h
    by_cases b2 : v1 < 128
    · replace h := if_t b2 h
      refine Ru.br2 (k := .ge) (off := 16) (bb := false) (tg := 9) (by decide +kernel) (by decide +kernel) (ci_ge0 g1 (by decide) b2) rfl ?_
      refine Ru.op (q := (.aload_n 0, 1)) (S' := (10, _, _, _, _)) (by decide +kernel) rfl ?_
      refine Ru.getR (pc' := 13) (i := 48) (ci := 10) (k := 23) (nn := 0) (z := 0) (v := .ref 47) (by decide +kernel) (by decide +kernel) (hp36 _) (by decide) rfl rfl ?_
      refine Ru.op (q := (.iload_n 1, 1)) (S' := (14, _, _, _, _)) (by decide +kernel) rfl ?_
      refine Ru.kI (q := (.iconst (-1), 1)) (c := (-1)) (pc' := 15) (by decide +kernel) rfl (by decide) rfl ?_
      obtain ⟨g3, h⟩ := gd_some h
      refine Ru.istI (pc' := 16) (i := v1) (x := (-1)) (by decide +kernel) (hp47 _) g3 (ps_47 _ _ _) rfl ?_
      refine Ru.inc (k := 1) (n := 1) (x := v1) (z := (v1 + 1)) (xs' := [some (.ref 36), some (vI (v1 + 1))]) (pc' := 19) (by decide +kernel) rfl rfl rfl rfl ?_
      refine Ru.op (q := (.goto (-17), 3)) (S' := (2, _, _, _, _)) (by decide +kernel) rfl ?_
      exact ih _ _ trivial _ h r hk
    · replace h := if_f b2 h
      refine Ru.br2 (k := .ge) (off := 16) (bb := true) (tg := 22) (by decide +kernel) (by decide +kernel) (ci_ge1 g1 (by decide) b2) rfl ?_
      cases h
      exact hk _ _ ⟨rfl, rfl, trivial⟩
set_option maxRecDepth 100000 in
set_option maxHeartbeats 4000000 in
theorem g100_ok {S : St} {o : St} (h : g100 S  = some o) : Ru none 10 200 100 (0, mn_pad (mn_ent [.ref 36]) 2, [], S.ns, Hp S) ((0, none), o.ns, Hp o) := by
  unfold g100 at h
  show Ru none 10 200 100 (0, [some (.ref 36), none], [], S.ns, Hp S) _
  refine Ru.kI (q := (.iconst 0, 1)) (c := 0) (pc' := 1) (by decide +kernel) rfl (by decide) rfl ?_
  refine Ru.op (q := (.istore_n 1, 1)) (S' := (2, [some (.ref 36), some (vI 0)], [], _, _)) (by decide +kernel) rfl ?_
  obtain ⟨o4, e7, h⟩ := ob_some h
  refine g100L2_ok FU _ _ trivial _ e7 _ ?_
  intro d5 d6 hd8
  cases h
  exact Ru.end (q := (.return_, 1)) (by decide +kernel) rfl rfl
set_option maxRecDepth 100000 in
set_option maxHeartbeats 4000000 in
theorem g99_ok {S : St} {o : St} (h : g99 S  = some o) : Ru none 11 221 99 (0, mn_pad (mn_ent [.ref 36]) 1, [], S.ns, Hp S) ((0, none), o.ns, Hp o) := by
  unfold g99 at h
  show Ru none 11 221 99 (0, [some (.ref 36)], [], S.ns, Hp S) _
  refine Ru.op (q := (.aload_n 0, 1)) (S' := (1, _, _, _, _)) (by decide +kernel) rfl ?_
  refine Ru.kI (q := (.iconst 0, 1)) (c := 0) (pc' := 2) (by decide +kernel) rfl (by decide) rfl ?_
  refine Ru.putH (pc' := 5) (i := 140) (ci := 10) (k := 27) (nn := 0) (z := 0) (by decide +kernel) (by decide +kernel) (hp36 _) (by decide) (Nat.le_of_ble_eq_true rfl) rfl (by decide +kernel) (pf_36_27 _ _) rfl ?_
  refine Ru.op (q := (.aload_n 0, 1)) (S' := (6, _, _, _, _)) (by decide +kernel) rfl ?_
  refine Ru.kI (q := (.iconst 0, 1)) (c := 0) (pc' := 7) (by decide +kernel) rfl (by decide) rfl ?_
  refine Ru.putH (pc' := 10) (i := 151) (ci := 10) (k := 28) (nn := 0) (z := 0) (by decide +kernel) (by decide +kernel) (hp36 _) (by decide) (Nat.le_of_ble_eq_true rfl) (fk_b (by decide)) (by decide +kernel) (pf_36_28 _ _) rfl ?_
  refine Ru.op (q := (.aload_n 0, 1)) (S' := (11, _, _, _, _)) (by decide +kernel) rfl ?_
  refine Ru.kI (q := (.iconst 0, 1)) (c := 0) (pc' := 12) (by decide +kernel) rfl (by decide) rfl ?_
  refine Ru.putH (pc' := 15) (i := 167) (ci := 10) (k := 29) (nn := 0) (z := 0) (by decide +kernel) (by decide +kernel) (hp36 _) (by decide) (Nat.le_of_ble_eq_true rfl) (fk_b (by decide)) (by decide +kernel) (pf_36_29 _ _) rfl ?_
  refine Ru.op (q := (.aload_n 0, 1)) (S' := (16, _, _, _, _)) (by decide +kernel) rfl ?_
  refine Ru.kI (q := (.iconst 0, 1)) (c := 0) (pc' := 17) (by decide +kernel) rfl (by decide) rfl ?_
  refine Ru.putH (pc' := 20) (i := 192) (ci := 10) (k := 36) (nn := 0) (z := 0) (by decide +kernel) (by decide +kernel) (hp36 _) (by decide) (Nat.le_of_ble_eq_true rfl) (fk_b (by decide)) (by decide +kernel) (pf_36_36 _ _) rfl ?_
  refine Ru.op (q := (.aload_n 0, 1)) (S' := (21, _, _, _, _)) (by decide +kernel) rfl ?_
  refine Ru.kI (q := (.iconst 0, 1)) (c := 0) (pc' := 22) (by decide +kernel) rfl (by decide) rfl ?_
  refine Ru.putH (pc' := 25) (i := 158) (ci := 10) (k := 30) (nn := 0) (z := 0) (by decide +kernel) (by decide +kernel) (hp36 _) (by decide) (Nat.le_of_ble_eq_true rfl) rfl (by decide +kernel) (pf_36_30 _ _) rfl ?_
  refine Ru.op (q := (.aload_n 0, 1)) (S' := (26, _, _, _, _)) (by decide +kernel) rfl ?_
  refine Ru.kI (q := (.iconst 0, 1)) (c := 0) (pc' := 27) (by decide +kernel) rfl (by decide) rfl ?_
  refine Ru.putH (pc' := 30) (i := 161) (ci := 10) (k := 34) (nn := 0) (z := 0) (by decide +kernel) (by decide +kernel) (hp36 _) (by decide) (Nat.le_of_ble_eq_true rfl) rfl (by decide +kernel) (pf_36_34 _ _) rfl ?_
  refine Ru.op (q := (.aload_n 0, 1)) (S' := (31, _, _, _, _)) (by decide +kernel) rfl ?_
  refine Ru.op (q := (.aload_n 0, 1)) (S' := (32, _, _, _, _)) (by decide +kernel) rfl ?_
  refine Ru.getI (pc' := 35) (i := 195) (ci := 10) (k := 20) (nn := 0) (z := 0) (x := (S.F 36 20)) (by decide +kernel) (by decide +kernel) (hp36 _) (by decide) rfl (eI_of _) rfl ?_
  refine Ru.putH (pc' := 38) (i := 198) (ci := 10) (k := 35) (nn := 0) (z := 0) (by decide +kernel) (by decide +kernel) (hp36 _) (by decide) (Nat.le_of_ble_eq_true rfl) rfl (by decide +kernel) (pf_36_35 _ _) rfl ?_
  refine Ru.op (q := (.aload_n 0, 1)) (S' := (39, _, _, _, _)) (by decide +kernel) rfl ?_
  refine Ru.kI (q := (.iconst 0, 1)) (c := 0) (pc' := 40) (by decide +kernel) rfl (by decide) rfl ?_
  refine Ru.putH (pc' := 43) (i := 155) (ci := 10) (k := 22) (nn := 0) (z := 0) (by decide +kernel) (by decide +kernel) (hp36 _) (by decide) (Nat.le_of_ble_eq_true rfl) rfl (by decide +kernel) (pf_36_22 _ _) rfl ?_
  refine Ru.op (q := (.aload_n 0, 1)) (S' := (44, _, _, _, _)) (by decide +kernel) rfl ?_
  refine Ru.kI (q := (.iconst 0, 1)) (c := 0) (pc' := 45) (by decide +kernel) rfl (by decide) rfl ?_
  refine Ru.putH (pc' := 48) (i := 201) (ci := 10) (k := 43) (nn := 0) (z := 0) (by decide +kernel) (by decide +kernel) (hp36 _) (by decide) (Nat.le_of_ble_eq_true rfl) rfl (by decide +kernel) (pf_36_43 _ _) rfl ?_
  refine Ru.op (q := (.aload_n 0, 1)) (S' := (49, _, _, _, _)) (by decide +kernel) rfl ?_
  refine Ru.kI (q := (.iconst 0, 1)) (c := 0) (pc' := 50) (by decide +kernel) rfl (by decide) rfl ?_
  refine Ru.putH (pc' := 53) (i := 186) (ci := 10) (k := 46) (nn := 0) (z := 0) (by decide +kernel) (by decide +kernel) (hp36 _) (by decide) (Nat.le_of_ble_eq_true rfl) rfl (by decide +kernel) (pf_36_46 _ _) rfl ?_
  refine Ru.op (q := (.aload_n 0, 1)) (S' := (54, _, _, _, _)) (by decide +kernel) rfl ?_
  obtain ⟨o1, e2, h⟩ := ob_some h
  refine Ru.vcallI (pc' := 57) (st' := []) (i := 204) (j2 := 100) (ci := 10) (k := 0) (z := 0) (as := []) (by decide +kernel) (by decide +kernel) rfl rfl (hp36 _) (by decide) ⟨(Nat.le_of_ble_eq_true rfl), (by show 19 + 2 ≤ 221; exact Nat.le_of_ble_eq_true rfl), Nat.le_of_ble_eq_true rfl, Nat.le_of_ble_eq_true rfl⟩ ((g100_ok e2).up (Nat.le_of_ble_eq_true rfl) (Nat.le_of_ble_eq_true rfl)) rfl rfl ?_
  cases h
  exact Ru.end (q := (.return_, 1)) (by decide +kernel) rfl rfl
set_option maxRecDepth 100000 in
set_option maxHeartbeats 4000000 in
theorem g102_ok {S : St} {o : Int} (h : g102 S  = some o) : Ru none 10 200 102 (0, mn_pad (mn_ent [.ref 36]) 1, [], S.ns, Hp S) ((0, some (vI o)), S.ns, Hp S) := by
  unfold g102 at h
  show Ru none 10 200 102 (0, [some (.ref 36)], [], S.ns, Hp S) _
  refine Ru.op (q := (.aload_n 0, 1)) (S' := (1, _, _, _, _)) (by decide +kernel) rfl ?_
  refine Ru.getI (pc' := 4) (i := 140) (ci := 10) (k := 27) (nn := 0) (z := 0) (x := (S.F 36 27)) (by decide +kernel) (by decide +kernel) (hp36 _) (by decide) rfl (eI_of _) rfl ?_
  refine Ru.op (q := (.aload_n 0, 1)) (S' := (5, _, _, _, _)) (by decide +kernel) rfl ?_
  refine Ru.getI (pc' := 8) (i := 129) (ci := 10) (k := 2) (nn := 0) (z := 0) (x := (S.F 36 2)) (by decide +kernel) (by decide +kernel) (hp36 _) (by decide) rfl (eI_of _) rfl ?_
  by_cases b1 : (S.F 36 27) < (S.F 36 2)
  · replace h := if_t b1 h
    refine Ru.br2 (k := .ge) (off := 15) (bb := false) (tg := 11) (by decide +kernel) (by decide +kernel) (ci_ge0 (inR_to _) (inR_to _) b1) rfl ?_
    refine Ru.op (q := (.aload_n 0, 1)) (S' := (12, _, _, _, _)) (by decide +kernel) rfl ?_
    refine Ru.getR (pc' := 15) (i := 13) (ci := 10) (k := 3) (nn := 0) (z := 0) (v := .ref 37) (by decide +kernel) (by decide +kernel) (hp36 _) (by decide) rfl rfl ?_
    refine Ru.op (q := (.aload_n 0, 1)) (S' := (16, _, _, _, _)) (by decide +kernel) rfl ?_
    refine Ru.getI (pc' := 19) (i := 140) (ci := 10) (k := 27) (nn := 0) (z := 0) (x := (S.F 36 27)) (by decide +kernel) (by decide +kernel) (hp36 _) (by decide) rfl (eI_of _) rfl ?_
    obtain ⟨g2, h⟩ := gd_some h
    refine Ru.ildI (pc' := 20) (i := (S.F 36 27)) (z := (S.A 37 (S.F 36 27))) (by decide +kernel) (hp37 _) g2 (eI_of _) rfl ?_
    refine Ru.op (q := (.goto 4, 3)) (S' := (24, _, _, _, _)) (by decide +kernel) rfl ?_
    cases h
    exact Ru.iret (by decide +kernel) rfl rfl
  · replace h := if_f b1 h
    refine Ru.br2 (k := .ge) (off := 15) (bb := true) (tg := 23) (by decide +kernel) (by decide +kernel) (ci_ge1 (inR_to _) (inR_to _) b1) rfl ?_
    refine Ru.kI (q := (.iconst 0, 1)) (c := 0) (pc' := 24) (by decide +kernel) rfl (by decide) rfl ?_
    cases h
    exact Ru.iret (by decide +kernel) rfl rfl
set_option maxRecDepth 100000 in
set_option maxHeartbeats 4000000 in
theorem g115_ok {S : St} {v1 : Int} {o : Int} (h : g115 S v1 = some o) : Ru none 10 200 115 (0, mn_pad (mn_ent [.ref 36, vI v1]) 2, [], S.ns, Hp S) ((0, some (vI o)), S.ns, Hp S) := by
  unfold g115 at h
  show Ru none 10 200 115 (0, [some (.ref 36), some (vI v1)], [], S.ns, Hp S) _
  refine Ru.op (q := (.iload_n 1, 1)) (S' := (1, _, _, _, _)) (by decide +kernel) rfl ?_
  refine Ru.kI (q := (.bipush 126, 2)) (c := 126) (pc' := 3) (by decide +kernel) rfl (by decide) rfl ?_
  obtain ⟨g1, h⟩ := gd_some h
  by_cases b2 : v1 = 126
  · replace h := if_t b2 h
    refine Ru.br2 (k := .eq) (off := 33) (bb := true) (tg := 36) (by decide +kernel) (by decide +kernel) (ci_eq1 g1 (by decide) b2) rfl ?_
    refine Ru.kI (q := (.iconst 1, 1)) (c := 1) (pc' := 37) (by decide +kernel) rfl (by decide) rfl ?_
    refine Ru.op (q := (.goto 4, 3)) (S' := (41, _, _, _, _)) (by decide +kernel) rfl ?_
    cases h
    exact Ru.iret (by decide +kernel) rfl (nar_b1 (by decide))
  · replace h := if_f b2 h
    refine Ru.br2 (k := .eq) (off := 33) (bb := false) (tg := 6) (by decide +kernel) (by decide +kernel) (ci_eq0 g1 (by decide) b2) rfl ?_
    refine Ru.op (q := (.iload_n 1, 1)) (S' := (7, _, _, _, _)) (by decide +kernel) rfl ?_
    refine Ru.kI (q := (.bipush 38, 2)) (c := 38) (pc' := 9) (by decide +kernel) rfl (by decide) rfl ?_
    by_cases b3 : v1 = 38
    · replace h := if_t b3 h
      refine Ru.br2 (k := .eq) (off := 27) (bb := true) (tg := 36) (by decide +kernel) (by decide +kernel) (ci_eq1 g1 (by decide) b3) rfl ?_
      refine Ru.kI (q := (.iconst 1, 1)) (c := 1) (pc' := 37) (by decide +kernel) rfl (by decide) rfl ?_
      refine Ru.op (q := (.goto 4, 3)) (S' := (41, _, _, _, _)) (by decide +kernel) rfl ?_
      cases h
      exact Ru.iret (by decide +kernel) rfl (nar_b1 (by decide))
    · replace h := if_f b3 h
      refine Ru.br2 (k := .eq) (off := 27) (bb := false) (tg := 12) (by decide +kernel) (by decide +kernel) (ci_eq0 g1 (by decide) b3) rfl ?_
      refine Ru.op (q := (.iload_n 1, 1)) (S' := (13, _, _, _, _)) (by decide +kernel) rfl ?_
      refine Ru.kI (q := (.bipush 124, 2)) (c := 124) (pc' := 15) (by decide +kernel) rfl (by decide) rfl ?_
      by_cases b4 : v1 = 124
      · replace h := if_t b4 h
        refine Ru.br2 (k := .eq) (off := 21) (bb := true) (tg := 36) (by decide +kernel) (by decide +kernel) (ci_eq1 g1 (by decide) b4) rfl ?_
        refine Ru.kI (q := (.iconst 1, 1)) (c := 1) (pc' := 37) (by decide +kernel) rfl (by decide) rfl ?_
        refine Ru.op (q := (.goto 4, 3)) (S' := (41, _, _, _, _)) (by decide +kernel) rfl ?_
        cases h
        exact Ru.iret (by decide +kernel) rfl (nar_b1 (by decide))
      · replace h := if_f b4 h
        refine Ru.br2 (k := .eq) (off := 21) (bb := false) (tg := 18) (by decide +kernel) (by decide +kernel) (ci_eq0 g1 (by decide) b4) rfl ?_
        refine Ru.op (q := (.iload_n 1, 1)) (S' := (19, _, _, _, _)) (by decide +kernel) rfl ?_
        refine Ru.kI (q := (.bipush 62, 2)) (c := 62) (pc' := 21) (by decide +kernel) rfl (by decide) rfl ?_
        by_cases b5 : v1 = 62
        · replace h := if_t b5 h
          refine Ru.br2 (k := .eq) (off := 15) (bb := true) (tg := 36) (by decide +kernel) (by decide +kernel) (ci_eq1 g1 (by decide) b5) rfl ?_
          refine Ru.kI (q := (.iconst 1, 1)) (c := 1) (pc' := 37) (by decide +kernel) rfl (by decide) rfl ?_
          refine Ru.op (q := (.goto 4, 3)) (S' := (41, _, _, _, _)) (by decide +kernel) rfl ?_
          cases h
          exact Ru.iret (by decide +kernel) rfl (nar_b1 (by decide))
        · replace h := if_f b5 h
          refine Ru.br2 (k := .eq) (off := 15) (bb := false) (tg := 24) (by decide +kernel) (by decide +kernel) (ci_eq0 g1 (by decide) b5) rfl ?_
          refine Ru.op (q := (.iload_n 1, 1)) (S' := (25, _, _, _, _)) (by decide +kernel) rfl ?_
          refine Ru.kI (q := (.bipush 33, 2)) (c := 33) (pc' := 27) (by decide +kernel) rfl (by decide) rfl ?_
          by_cases b6 : v1 = 33
          · replace h := if_t b6 h
            refine Ru.br2 (k := .eq) (off := 9) (bb := true) (tg := 36) (by decide +kernel) (by decide +kernel) (ci_eq1 g1 (by decide) b6) rfl ?_
            refine Ru.kI (q := (.iconst 1, 1)) (c := 1) (pc' := 37) (by decide +kernel) rfl (by decide) rfl ?_
            refine Ru.op (q := (.goto 4, 3)) (S' := (41, _, _, _, _)) (by decide +kernel) rfl ?_
            cases h
            exact Ru.iret (by decide +kernel) rfl (nar_b1 (by decide))
          · replace h := if_f b6 h
            refine Ru.br2 (k := .eq) (off := 9) (bb := false) (tg := 30) (by decide +kernel) (by decide +kernel) (ci_eq0 g1 (by decide) b6) rfl ?_
            refine Ru.op (q := (.iload_n 1, 1)) (S' := (31, _, _, _, _)) (by decide +kernel) rfl ?_
            refine Ru.kI (q := (.bipush 63, 2)) (c := 63) (pc' := 33) (by decide +kernel) rfl (by decide) rfl ?_
            by_cases b7 : v1 = 63
            · replace h := if_t b7 h
              refine Ru.br2 (k := .ne) (off := 7) (bb := false) (tg := 36) (by decide +kernel) (by decide +kernel) (ci_ne0 g1 (by decide) b7) rfl ?_
              refine Ru.kI (q := (.iconst 1, 1)) (c := 1) (pc' := 37) (by decide +kernel) rfl (by decide) rfl ?_
              refine Ru.op (q := (.goto 4, 3)) (S' := (41, _, _, _, _)) (by decide +kernel) rfl ?_
              cases h
              exact Ru.iret (by decide +kernel) rfl (nar_b1 (by decide))
            · replace h := if_f b7 h
              refine Ru.br2 (k := .ne) (off := 7) (bb := true) (tg := 40) (by decide +kernel) (by decide +kernel) (ci_ne1 g1 (by decide) b7) rfl ?_
              refine Ru.kI (q := (.iconst 0, 1)) (c := 0) (pc' := 41) (by decide +kernel) rfl (by decide) rfl ?_
              cases h
              exact Ru.iret (by decide +kernel) rfl (nar_b1 (by decide))
set_option maxRecDepth 100000 in
set_option maxHeartbeats 4000000 in
theorem g104_ok {S : St} {v1 : Int} {v2 : Int} {o : Int} (h : g104 S v1 v2 = some o) : Ru none 11 220 104 (0, mn_pad (mn_ent [.ref 36, vI v1, vI v2]) 3, [], S.ns, Hp S) ((0, some (vI o)), S.ns, Hp S) := by
  unfold g104 at h
  show Ru none 11 220 104 (0, [some (.ref 36), some (vI v1), some (vI v2)], [], S.ns, Hp S) _
  refine Ru.op (q := (.aload_n 0, 1)) (S' := (1, _, _, _, _)) (by decide +kernel) rfl ?_
  obtain ⟨o1, e2, h⟩ := ob_some h
  refine Ru.vcallI (pc' := 4) (st' := [vI o1]) (i := 143) (j2 := 102) (ci := 10) (k := 0) (z := 0) (as := []) (by decide +kernel) (by decide +kernel) rfl rfl (hp36 _) (by decide) ⟨(Nat.le_of_ble_eq_true rfl), (by show 19 + 1 ≤ 220; exact Nat.le_of_ble_eq_true rfl), Nat.le_of_ble_eq_true rfl, Nat.le_of_ble_eq_true rfl⟩ ((g102_ok e2).up (Nat.le_of_ble_eq_true rfl) (Nat.le_of_ble_eq_true rfl)) rfl rfl ?_
  refine Ru.op (q := (.iload_n 1, 1)) (S' := (5, _, _, _, _)) (by decide +kernel) rfl ?_
  obtain ⟨g3, h⟩ := gd_some h
  obtain ⟨g4, h⟩ := gd_some h
  by_cases b5 : o1 < v1
  · replace h := if_t b5 h
    refine Ru.br2 (k := .lt) (off := 15) (bb := true) (tg := 20) (by decide +kernel) (by decide +kernel) (ci_lt1 g3 g4 b5) rfl ?_
    refine Ru.kI (q := (.iconst 0, 1)) (c := 0) (pc' := 21) (by decide +kernel) rfl (by decide) rfl ?_
    cases h
    exact Ru.iret (by decide +kernel) rfl (nar_b1 (by decide))
  · replace h := if_f b5 h
    refine Ru.br2 (k := .lt) (off := 15) (bb := false) (tg := 8) (by decide +kernel) (by decide +kernel) (ci_lt0 g3 g4 b5) rfl ?_
    refine Ru.op (q := (.aload_n 0, 1)) (S' := (9, _, _, _, _)) (by decide +kernel) rfl ?_
    obtain ⟨o6, e7, h⟩ := ob_some h
    refine Ru.vcallI (pc' := 12) (st' := [vI o6]) (i := 143) (j2 := 102) (ci := 10) (k := 0) (z := 0) (as := []) (by decide +kernel) (by decide +kernel) rfl rfl (hp36 _) (by decide) ⟨(Nat.le_of_ble_eq_true rfl), (by show 19 + 1 ≤ 220; exact Nat.le_of_ble_eq_true rfl), Nat.le_of_ble_eq_true rfl, Nat.le_of_ble_eq_true rfl⟩ ((g102_ok e7).up (Nat.le_of_ble_eq_true rfl) (Nat.le_of_ble_eq_true rfl)) rfl rfl ?_
    refine Ru.op (q := (.iload_n 2, 1)) (S' := (13, _, _, _, _)) (by decide +kernel) rfl ?_
    obtain ⟨g8, h⟩ := gd_some h
    obtain ⟨g9, h⟩ := gd_some h
    by_cases b10 : v2 < o6
    · replace h := if_t b10 h
      refine Ru.br2 (k := .gt) (off := 7) (bb := true) (tg := 20) (by decide +kernel) (by decide +kernel) (ci_gt1 g8 g9 b10) rfl ?_
      refine Ru.kI (q := (.iconst 0, 1)) (c := 0) (pc' := 21) (by decide +kernel) rfl (by decide) rfl ?_
      cases h
      exact Ru.iret (by decide +kernel) rfl (nar_b1 (by decide))
    · replace h := if_f b10 h
      refine Ru.br2 (k := .gt) (off := 7) (bb := false) (tg := 16) (by decide +kernel) (by decide +kernel) (ci_gt0 g8 g9 b10) rfl ?_
      refine Ru.kI (q := (.iconst 1, 1)) (c := 1) (pc' := 17) (by decide +kernel) rfl (by decide) rfl ?_
      refine Ru.op (q := (.goto 4, 3)) (S' := (21, _, _, _, _)) (by decide +kernel) rfl ?_
      cases h
      exact Ru.iret (by decide +kernel) rfl (nar_b1 (by decide))
set_option maxRecDepth 100000 in
set_option maxHeartbeats 4000000 in
theorem g109_ok {S : St} {o : Int × St} (h : g109 S  = some o) : Ru none 12 242 109 (0, mn_pad (mn_ent [.ref 36]) 2, [], S.ns, Hp S) ((0, some (vI o.1)), o.2.ns, Hp o.2) := by
  unfold g109 at h
  show Ru none 12 242 109 (0, [some (.ref 36), none], [], S.ns, Hp S) _
  refine Ru.op (q := (.aload_n 0, 1)) (S' := (1, _, _, _, _)) (by decide +kernel) rfl ?_
  obtain ⟨o1, e2, h⟩ := ob_some h
  refine Ru.vcallI (pc' := 4) (st' := [vI o1]) (i := 143) (j2 := 102) (ci := 10) (k := 0) (z := 0) (as := []) (by decide +kernel) (by decide +kernel) rfl rfl (hp36 _) (by decide) ⟨(Nat.le_of_ble_eq_true rfl), (by show 19 + 1 ≤ 242; exact Nat.le_of_ble_eq_true rfl), Nat.le_of_ble_eq_true rfl, Nat.le_of_ble_eq_true rfl⟩ ((g102_ok e2).up (Nat.le_of_ble_eq_true rfl) (Nat.le_of_ble_eq_true rfl)) rfl rfl ?_
  refine Ru.op (q := (.istore_n 1, 1)) (S' := (5, [some (.ref 36), some (vI o1)], [], _, _)) (by decide +kernel) rfl ?_
  refine Ru.op (q := (.aload_n 0, 1)) (S' := (6, _, _, _, _)) (by decide +kernel) rfl ?_
  refine Ru.op (q := (.dup, 1)) (S' := (7, _, _, _, _)) (by decide +kernel) rfl ?_
  refine Ru.getI (pc' := 10) (i := 140) (ci := 10) (k := 27) (nn := 0) (z := 0) (x := (S.F 36 27)) (by decide +kernel) (by decide +kernel) (hp36 _) (by decide) rfl (eI_of _) rfl ?_
  refine Ru.kI (q := (.iconst 1, 1)) (c := 1) (pc' := 11) (by decide +kernel) rfl (by decide) rfl ?_
  refine Ru.ar2 (i := .iadd) (z := ((S.F 36 27) + 1)) (pc' := 12) (by decide +kernel) rfl (ar_add _ _) rfl ?_
  refine Ru.putH (pc' := 15) (i := 140) (ci := 10) (k := 27) (nn := 0) (z := 0) (by decide +kernel) (by decide +kernel) (hp36 _) (by decide) (Nat.le_of_ble_eq_true rfl) rfl (by decide +kernel) (pf_36_27 _ _) rfl ?_
  refine Ru.op (q := (.aload_n 0, 1)) (S' := (16, _, _, _, _)) (by decide +kernel) rfl ?_
  refine Ru.kI (q := (.bipush 48, 2)) (c := 48) (pc' := 18) (by decide +kernel) rfl (by decide) rfl ?_
  refine Ru.kI (q := (.bipush 57, 2)) (c := 57) (pc' := 20) (by decide +kernel) rfl (by decide) rfl ?_
  obtain ⟨o3, e4, h⟩ := ob_some h
  refine Ru.vcallI (pc' := 23) (st' := [vI o3]) (i := 147) (j2 := 104) (ci := 10) (k := 0) (z := 0) (as := [vI 48, vI 57]) (by decide +kernel) (by decide +kernel) rfl rfl (hp36 _) (by decide) ⟨(Nat.le_of_ble_eq_true rfl), (by show 19 + 3 ≤ 242; exact Nat.le_of_ble_eq_true rfl), Nat.le_of_ble_eq_true rfl, Nat.le_of_ble_eq_true rfl⟩ ((g104_ok e4).up (Nat.le_of_ble_eq_true rfl) (Nat.le_of_ble_eq_true rfl)) rfl rfl ?_
  obtain ⟨g5, h⟩ := gd_some h
  by_cases b6 : o3 = 0
  · replace h := if_t b6 h
    refine Ru.br (k := .eq) (off := 29) (bb := true) (tg := 52) (by decide +kernel) (by decide +kernel) (cz (ci_eq1 g5 (by decide) b6)) rfl ?_
    refine Ru.op (q := (.iload_n 1, 1)) (S' := (53, _, _, _, _)) (by decide +kernel) rfl ?_
    cases h
    exact Ru.iret (by decide +kernel) rfl rfl
  · replace h := if_f b6 h
    refine Ru.br (k := .eq) (off := 29) (bb := false) (tg := 26) (by decide +kernel) (by decide +kernel) (cz (ci_eq0 g5 (by decide) b6)) rfl ?_
    refine Ru.op (q := (.iload_n 1, 1)) (S' := (27, _, _, _, _)) (by decide +kernel) rfl ?_
    refine Ru.kI (q := (.sipush 128, 3)) (c := 128) (pc' := 30) (by decide +kernel) rfl (by decide) rfl ?_
    refine Ru.op (q := (.aload_n 0, 1)) (S' := (31, _, _, _, _)) (by decide +kernel) rfl ?_
    obtain ⟨o7, e8, h⟩ := ob_some h
    refine Ru.vcallI (pc' := 34) (st' := [vI o7, vI 128, vI o1]) (i := 143) (j2 := 102) (ci := 10) (k := 0) (z := 0) (as := []) (by decide +kernel) (by decide +kernel) rfl rfl (hp36 _) (by decide) ⟨(Nat.le_of_ble_eq_true rfl), (by show 19 + 1 ≤ 242; exact Nat.le_of_ble_eq_true rfl), Nat.le_of_ble_eq_true rfl, Nat.le_of_ble_eq_true rfl⟩ ((g102_ok e8).up (Nat.le_of_ble_eq_true rfl) (Nat.le_of_ble_eq_true rfl)) rfl rfl ?_
    refine Ru.kI (q := (.bipush 48, 2)) (c := 48) (pc' := 36) (by decide +kernel) rfl (by decide) rfl ?_
    refine Ru.ar2 (i := .isub) (z := (o7 - 48)) (pc' := 37) (by decide +kernel) rfl (ar_sub _ _) rfl ?_
    refine Ru.kI (q := (.iconst 1, 1)) (c := 1) (pc' := 38) (by decide +kernel) rfl (by decide) rfl ?_
    refine Ru.ar2 (i := .iadd) (z := ((o7 - 48) + 1)) (pc' := 39) (by decide +kernel) rfl (ar_add _ _) rfl ?_
    refine Ru.ar2 (i := .imul) (z := (128 * ((o7 - 48) + 1))) (pc' := 40) (by decide +kernel) rfl (ar_mul _ _) rfl ?_
    refine Ru.ar2 (i := .iadd) (z := (o1 + (128 * ((o7 - 48) + 1)))) (pc' := 41) (by decide +kernel) rfl (ar_add _ _) rfl ?_
    refine Ru.op (q := (.istore_n 1, 1)) (S' := (42, [some (.ref 36), some (vI (o1 + (128 * ((o7 - 48) + 1))))], [], _, _)) (by decide +kernel) rfl ?_
    refine Ru.op (q := (.aload_n 0, 1)) (S' := (43, _, _, _, _)) (by decide +kernel) rfl ?_
    refine Ru.op (q := (.dup, 1)) (S' := (44, _, _, _, _)) (by decide +kernel) rfl ?_
    refine Ru.getI (pc' := 47) (i := 140) (ci := 10) (k := 27) (nn := 0) (z := 0) (x := ((S.F 36 27) + 1)) (by decide +kernel) (by decide +kernel) (hp36 _) (by decide) rfl rfl rfl ?_
    refine Ru.kI (q := (.iconst 1, 1)) (c := 1) (pc' := 48) (by decide +kernel) rfl (by decide) rfl ?_
    refine Ru.ar2 (i := .iadd) (z := (((S.F 36 27) + 1) + 1)) (pc' := 49) (by decide +kernel) rfl (ar_add _ _) rfl ?_
    refine Ru.putH (pc' := 52) (i := 140) (ci := 10) (k := 27) (nn := 0) (z := 0) (by decide +kernel) (by decide +kernel) (hp36 _) (by decide) (Nat.le_of_ble_eq_true rfl) rfl (by decide +kernel) (pf_36_27 _ _) rfl ?_
    refine Ru.op (q := (.iload_n 1, 1)) (S' := (53, _, _, _, _)) (by decide +kernel) rfl ?_
    cases h
    exact Ru.iret (by decide +kernel) rfl rfl
set_option maxRecDepth 100000 in
set_option maxHeartbeats 4000000 in
theorem g110_ok {S : St} {v1 : Int} {o : Int × St} (h : g110 S v1 = some o) : Ru none 10 200 110 (0, mn_pad (mn_ent [.ref 36, vI v1]) 2, [], S.ns, Hp S) ((0, some (vI o.1)), o.2.ns, Hp o.2) := by
  unfold g110 at h
  show Ru none 10 200 110 (0, [some (.ref 36), some (vI v1)], [], S.ns, Hp S) _
  refine Ru.op (q := (.aload_n 0, 1)) (S' := (1, _, _, _, _)) (by decide +kernel) rfl ?_
  refine Ru.getR (pc' := 4) (i := 57) (ci := 10) (k := 31) (nn := 0) (z := 0) (v := .ref 50) (by decide +kernel) (by decide +kernel) (hp36 _) (by decide) rfl rfl ?_
  refine Ru.op (q := (.aload_n 0, 1)) (S' := (5, _, _, _, _)) (by decide +kernel) rfl ?_
  refine Ru.getI (pc' := 8) (i := 158) (ci := 10) (k := 30) (nn := 0) (z := 0) (x := (S.F 36 30)) (by decide +kernel) (by decide +kernel) (hp36 _) (by decide) rfl (eI_of _) rfl ?_
  refine Ru.op (q := (.iload_n 1, 1)) (S' := (9, _, _, _, _)) (by decide +kernel) rfl ?_
  obtain ⟨g1, h⟩ := gd_some h
  refine Ru.istI (pc' := 10) (i := (S.F 36 30)) (x := v1) (by decide +kernel) (hp50 _) g1 (ps_50 _ _ _) rfl ?_
  refine Ru.op (q := (.aload_n 0, 1)) (S' := (11, _, _, _, _)) (by decide +kernel) rfl ?_
  refine Ru.getR (pc' := 14) (i := 60) (ci := 10) (k := 32) (nn := 0) (z := 0) (v := .ref 51) (by decide +kernel) (by decide +kernel) (hp36 _) (by decide) rfl rfl ?_
  refine Ru.op (q := (.aload_n 0, 1)) (S' := (15, _, _, _, _)) (by decide +kernel) rfl ?_
  refine Ru.getI (pc' := 18) (i := 158) (ci := 10) (k := 30) (nn := 0) (z := 0) (x := (S.F 36 30)) (by decide +kernel) (by decide +kernel) (hp36 _) (by decide) rfl (eI_of _) rfl ?_
  refine Ru.op (q := (.aload_n 0, 1)) (S' := (19, _, _, _, _)) (by decide +kernel) rfl ?_
  refine Ru.getI (pc' := 22) (i := 161) (ci := 10) (k := 34) (nn := 0) (z := 0) (x := (S.F 36 34)) (by decide +kernel) (by decide +kernel) (hp36 _) (by decide) rfl (eI_of _) rfl ?_
  refine Ru.istI (pc' := 23) (i := (S.F 36 30)) (x := (S.F 36 34)) (by decide +kernel) (hp51 _) g1 (ps_51 _ _ _) rfl ?_
  refine Ru.op (q := (.aload_n 0, 1)) (S' := (24, _, _, _, _)) (by decide +kernel) rfl ?_
  refine Ru.getR (pc' := 27) (i := 63) (ci := 10) (k := 33) (nn := 0) (z := 0) (v := .ref 52) (by decide +kernel) (by decide +kernel) (hp36 _) (by decide) rfl rfl ?_
  refine Ru.op (q := (.aload_n 0, 1)) (S' := (28, _, _, _, _)) (by decide +kernel) rfl ?_
  refine Ru.getI (pc' := 31) (i := 158) (ci := 10) (k := 30) (nn := 0) (z := 0) (x := (S.F 36 30)) (by decide +kernel) (by decide +kernel) (hp36 _) (by decide) rfl (eI_of _) rfl ?_
  refine Ru.kI (q := (.iconst 0, 1)) (c := 0) (pc' := 32) (by decide +kernel) rfl (by decide) rfl ?_
  refine Ru.bstI (pc' := 33) (i := (S.F 36 30)) (x := 0) (by decide +kernel) (hp52 _) g1 (by decide) (ps_52 _ _ _) rfl ?_
  refine Ru.op (q := (.aload_n 0, 1)) (S' := (34, _, _, _, _)) (by decide +kernel) rfl ?_
  refine Ru.op (q := (.dup, 1)) (S' := (35, _, _, _, _)) (by decide +kernel) rfl ?_
  refine Ru.getI (pc' := 38) (i := 158) (ci := 10) (k := 30) (nn := 0) (z := 0) (x := (S.F 36 30)) (by decide +kernel) (by decide +kernel) (hp36 _) (by decide) rfl (eI_of _) rfl ?_
  refine Ru.kI (q := (.iconst 1, 1)) (c := 1) (pc' := 39) (by decide +kernel) rfl (by decide) rfl ?_
  refine Ru.ar2 (i := .iadd) (z := ((S.F 36 30) + 1)) (pc' := 40) (by decide +kernel) rfl (ar_add _ _) rfl ?_
  refine Ru.putH (pc' := 43) (i := 158) (ci := 10) (k := 30) (nn := 0) (z := 0) (by decide +kernel) (by decide +kernel) (hp36 _) (by decide) (Nat.le_of_ble_eq_true rfl) rfl (by decide +kernel) (pf_36_30 _ _) rfl ?_
  refine Ru.op (q := (.aload_n 0, 1)) (S' := (44, _, _, _, _)) (by decide +kernel) rfl ?_
  refine Ru.op (q := (.dup, 1)) (S' := (45, _, _, _, _)) (by decide +kernel) rfl ?_
  refine Ru.getI (pc' := 48) (i := 161) (ci := 10) (k := 34) (nn := 0) (z := 0) (x := (S.F 36 34)) (by decide +kernel) (by decide +kernel) (hp36 _) (by decide) rfl (eI_of _) rfl ?_
  refine Ru.kI (q := (.iconst 1, 1)) (c := 1) (pc' := 49) (by decide +kernel) rfl (by decide) rfl ?_
  refine Ru.ar2 (i := .iadd) (z := ((S.F 36 34) + 1)) (pc' := 50) (by decide +kernel) rfl (ar_add _ _) rfl ?_
  refine Ru.putH (pc' := 53) (i := 161) (ci := 10) (k := 34) (nn := 0) (z := 0) (by decide +kernel) (by decide +kernel) (hp36 _) (by decide) (Nat.le_of_ble_eq_true rfl) rfl (by decide +kernel) (pf_36_34 _ _) rfl ?_
  refine Ru.op (q := (.aload_n 0, 1)) (S' := (54, _, _, _, _)) (by decide +kernel) rfl ?_
  refine Ru.getI (pc' := 57) (i := 161) (ci := 10) (k := 34) (nn := 0) (z := 0) (x := ((S.F 36 34) + 1)) (by decide +kernel) (by decide +kernel) (hp36 _) (by decide) rfl rfl rfl ?_
  refine Ru.kI (q := (.iconst 1, 1)) (c := 1) (pc' := 58) (by decide +kernel) rfl (by decide) rfl ?_
  refine Ru.ar2 (i := .isub) (z := (((S.F 36 34) + 1) - 1)) (pc' := 59) (by decide +kernel) rfl (ar_sub _ _) rfl ?_
  cases h
  exact Ru.iret (by decide +kernel) rfl rfl
set_option maxRecDepth 100000 in
set_option maxHeartbeats 4000000 in
theorem g105_ok {S : St} {v1 : Int} {o : St} (h : g105 S v1 = some o) : Ru none 10 200 105 (0, mn_pad (mn_ent [.ref 36, vI v1]) 2, [], S.ns, Hp S) ((0, none), o.ns, Hp o) := by
  unfold g105 at h
  show Ru none 10 200 105 (0, [some (.ref 36), some (vI v1)], [], S.ns, Hp S) _
  refine Ru.op (q := (.aload_n 0, 1)) (S' := (1, _, _, _, _)) (by decide +kernel) rfl ?_
  refine Ru.getR (pc' := 4) (i := 45) (ci := 10) (k := 21) (nn := 0) (z := 0) (v := .ref 46) (by decide +kernel) (by decide +kernel) (hp36 _) (by decide) rfl rfl ?_
  refine Ru.op (q := (.aload_n 0, 1)) (S' := (5, _, _, _, _)) (by decide +kernel) rfl ?_
  refine Ru.getI (pc' := 8) (i := 155) (ci := 10) (k := 22) (nn := 0) (z := 0) (x := (S.F 36 22)) (by decide +kernel) (by decide +kernel) (hp36 _) (by decide) rfl (eI_of _) rfl ?_
  refine Ru.op (q := (.iload_n 1, 1)) (S' := (9, _, _, _, _)) (by decide +kernel) rfl ?_
  obtain ⟨g1, h⟩ := gd_some h
  refine Ru.istI (pc' := 10) (i := (S.F 36 22)) (x := v1) (by decide +kernel) (hp46 _) g1 (ps_46 _ _ _) rfl ?_
  refine Ru.op (q := (.aload_n 0, 1)) (S' := (11, _, _, _, _)) (by decide +kernel) rfl ?_
  refine Ru.op (q := (.dup, 1)) (S' := (12, _, _, _, _)) (by decide +kernel) rfl ?_
  refine Ru.getI (pc' := 15) (i := 155) (ci := 10) (k := 22) (nn := 0) (z := 0) (x := (S.F 36 22)) (by decide +kernel) (by decide +kernel) (hp36 _) (by decide) rfl (eI_of _) rfl ?_
  refine Ru.kI (q := (.iconst 1, 1)) (c := 1) (pc' := 16) (by decide +kernel) rfl (by decide) rfl ?_
  refine Ru.ar2 (i := .iadd) (z := ((S.F 36 22) + 1)) (pc' := 17) (by decide +kernel) rfl (ar_add _ _) rfl ?_
  refine Ru.putH (pc' := 20) (i := 155) (ci := 10) (k := 22) (nn := 0) (z := 0) (by decide +kernel) (by decide +kernel) (hp36 _) (by decide) (Nat.le_of_ble_eq_true rfl) rfl (by decide +kernel) (pf_36_22 _ _) rfl ?_
  cases h
  exact Ru.end (q := (.return_, 1)) (by decide +kernel) rfl rfl
