set_option maxRecDepth 100000 in
set_option maxHeartbeats 4000000 in
theorem g69L183_ok {FR LO : Nat} {rc : St → Int → Int → Int → Option (Int × St)} (hF : 76 ≤ FR) (hL : 1979 ≤ LO) (hrc : ∀ {S : St} {v1 : Int} {v2 : Int} {v3 : Int} {o : Int × St}, rc S v1 v2 v3 = some o → Ru none FR LO 69 (0, mn_pad (mn_ent [.ref 20, vI v1, vI v2, vI v3]) 11, [], S.ns, Hp S) ((0, some (vI o.1)), o.2.ns, Hp o.2)) {v3 : Int} {v9 : Int} : ∀ (n : Nat) (v6 : Int) (v7 : Int) (v10 : Int) (S : St) (d1 d2 d4 d5 d8 : Option Value) (_ : DD [d1, d2, d4, d5, d8]) (out : Sum (St) (Int × St)), g69L183 rc v3 v9 n v6 v7 v10 S = some out → ∀ r, (∀ o, out = .inl o → ∀ (e0 e1 e2 e3 e4 e5 e6 e7 e8 e9 e10 : Option Value), DD [e0, e1, e2, e3, e4, e5, e6, e7, e8, e9, e10] → Ru none (FR + 1) (LO + 30) 69 (244, [e0, e1, e2, e3, e4, e5, e6, e7, e8, e9, e10], [], o.ns, Hp o) r) → (∀ o, out = .inr o → r = ((0, some (vI o.1)), o.2.ns, Hp o.2)) → Ru none (FR + 1) (LO + 30) 69 (183, [some (.ref 20), d1, d2, some (vI v3), d4, d5, some (vI v6), some (vI v7), d8, some (vI v9), some (vI v10)], [], S.ns, Hp S) r := by
  intro n
  induction n with
  | zero => intro v6 v7 v10 S d1 d2 d4 d5 d8 hdd out h; cases h
  | succ n ih =>
    intro v6 v7 v10 S d1 d2 d4 d5 d8 hdd out h r hk hr
    unfold g69L183 at h
    refine Ru.op (q := (.iload 10, 2)) (S' := (185, _, _, _, _)) (by decide +kernel) rfl ?_
    refine Ru.op (q := (.iload 9, 2)) (S' := (187, _, _, _, _)) (by decide +kernel) rfl ?_
    obtain ⟨g48, h⟩ := gd_some h
    obtain ⟨g49, h⟩ := gd_some h
    by_cases b50 : v10 < v9
    · replace h := if_t b50 h
      refine Ru.br2 (k := .ge) (off := 57) (bb := false) (tg := 190) (by decide +kernel) (by decide +kernel) (ci_ge0 g48 g49 b50) rfl ?_
      refine Ru.op (q := (.aload_n 0, 1)) (S' := (191, _, _, _, _)) (by decide +kernel) rfl ?_
      refine Ru.op (q := (.iload 6, 2)) (S' := (193, _, _, _, _)) (by decide +kernel) rfl ?_
      refine Ru.op (q := (.iload 7, 2)) (S' := (195, _, _, _, _)) (by decide +kernel) rfl ?_
      refine Ru.op (q := (.iload_n 3, 1)) (S' := (196, _, _, _, _)) (by decide +kernel) rfl ?_
      refine Ru.kI (q := (.iconst 1, 1)) (c := 1) (pc' := 197) (by decide +kernel) rfl (by decide) rfl ?_
      refine Ru.ar2 (i := .iadd) (z := (v3 + 1)) (pc' := 198) (by decide +kernel) rfl (ar_add _ _) rfl ?_
      obtain ⟨o51, e52, h⟩ := ob_some h
      refine Ru.vcallI (pc' := 201) (st' := [vI o51.1]) (i := 30) (j2 := 69) (ci := 6) (k := 0) (z := 0) (as := [vI v6, vI v7, vI (v3 + 1)]) (by decide +kernel) (by decide +kernel) rfl rfl (hp20 _) (by decide) ⟨(by omega), (by show 19 + 11 ≤ (LO + 30); omega), Nat.le_of_ble_eq_true rfl, Nat.le_of_ble_eq_true rfl⟩ ((hrc e52).up (by omega) (by show _ ≤ (LO + 30) - (19 + 11); omega)) rfl rfl ?_
      obtain ⟨g53, h⟩ := gd_some h
      by_cases b54 : o51.1 = 0
      · replace h := if_t b54 h
        refine Ru.br (k := .ne) (off := 5) (bb := false) (tg := 204) (by decide +kernel) (by decide +kernel) (cz (ci_ne0 g53 (by decide) b54)) rfl ?_
        refine Ru.kI (q := (.iconst 0, 1)) (c := 0) (pc' := 205) (by decide +kernel) rfl (by decide) rfl ?_
        cases h
        have h9 := hr _ rfl
        subst h9
        exact Ru.iret (by decide +kernel) rfl (nar_b1 (by decide))
      · replace h := if_f b54 h
        refine Ru.br (k := .ne) (off := 5) (bb := true) (tg := 206) (by decide +kernel) (by decide +kernel) (cz (ci_ne1 g53 (by decide) b54)) rfl ?_
        refine Ru.op (q := (.aload_n 0, 1)) (S' := (207, _, _, _, _)) (by decide +kernel) rfl ?_
        refine Ru.getR (pc' := 210) (i := 9) (ci := 6) (k := 0) (nn := 0) (z := 0) (v := .ref 21) (by decide +kernel) (by decide +kernel) (hp20 _) (by decide) rfl rfl ?_
        refine Ru.op (q := (.iload 6, 2)) (S' := (212, _, _, _, _)) (by decide +kernel) rfl ?_
        refine Ru.op (q := (.aload_n 0, 1)) (S' := (213, _, _, _, _)) (by decide +kernel) rfl ?_
        refine Ru.getR (pc' := 216) (i := 9) (ci := 6) (k := 0) (nn := 0) (z := 0) (v := .ref 21) (by decide +kernel) (by decide +kernel) (hp20 _) (by decide) rfl rfl ?_
        refine Ru.lenI (pc' := 217) (N := 32) (z := 32) (by decide +kernel) (hp21 _) (by decide) (aI_len _ _) rfl rfl ?_
        obtain ⟨o55, e56, h⟩ := ob_some h
        refine Ru.callI (pc' := 220) (q := (.invokestatic 73, 3)) (j2 := 57) (as := [.ref 21, vI v6, vI 32]) (st' := [vI o55]) (by decide +kernel) rfl rfl rfl rfl ⟨(by omega), (by show 19 + 5 ≤ (LO + 30); omega), Nat.le_of_ble_eq_true rfl, Nat.le_of_ble_eq_true rfl⟩ ((g57_ok e56).up (by omega) (by show _ ≤ (LO + 30) - (19 + 5); omega)) rfl rfl ?_
        refine Ru.op (q := (.istore 6, 2)) (S' := (222, [some (.ref 20), d1, d2, some (vI v3), d4, d5, some (vI o55), some (vI v7), d8, some (vI v9), some (vI v10)], [], _, _)) (by decide +kernel) (st_i (mn_st1_D (Nat.le_of_ble_eq_true rfl) hdd.2.2.2.1 rfl)) ?_
        refine Ru.op (q := (.aload_n 0, 1)) (S' := (223, _, _, _, _)) (by decide +kernel) rfl ?_
        refine Ru.getR (pc' := 226) (i := 9) (ci := 6) (k := 0) (nn := 0) (z := 0) (v := .ref 21) (by decide +kernel) (by decide +kernel) (hp20 _) (by decide) rfl rfl ?_
        refine Ru.op (q := (.iload 7, 2)) (S' := (228, _, _, _, _)) (by decide +kernel) rfl ?_
        refine Ru.op (q := (.aload_n 0, 1)) (S' := (229, _, _, _, _)) (by decide +kernel) rfl ?_
        refine Ru.getR (pc' := 232) (i := 9) (ci := 6) (k := 0) (nn := 0) (z := 0) (v := .ref 21) (by decide +kernel) (by decide +kernel) (hp20 _) (by decide) rfl rfl ?_
        refine Ru.lenI (pc' := 233) (N := 32) (z := 32) (by decide +kernel) (hp21 _) (by decide) (aI_len _ _) rfl rfl ?_
        obtain ⟨o57, e58, h⟩ := ob_some h
        refine Ru.callI (pc' := 236) (q := (.invokestatic 73, 3)) (j2 := 57) (as := [.ref 21, vI v7, vI 32]) (st' := [vI o57]) (by decide +kernel) rfl rfl rfl rfl ⟨(by omega), (by show 19 + 5 ≤ (LO + 30); omega), Nat.le_of_ble_eq_true rfl, Nat.le_of_ble_eq_true rfl⟩ ((g57_ok e58).up (by omega) (by show _ ≤ (LO + 30) - (19 + 5); omega)) rfl rfl ?_
        refine Ru.op (q := (.istore 7, 2)) (S' := (238, [some (.ref 20), d1, d2, some (vI v3), d4, d5, some (vI o55), some (vI o57), d8, some (vI v9), some (vI v10)], [], _, _)) (by decide +kernel) rfl ?_
        refine Ru.inc (k := 10) (n := 1) (x := v10) (z := (v10 + 1)) (xs' := [some (.ref 20), d1, d2, some (vI v3), d4, d5, some (vI o55), some (vI o57), d8, some (vI v9), some (vI (v10 + 1))]) (pc' := 241) (by decide +kernel) rfl rfl rfl rfl ?_
        refine Ru.op (q := (.goto (-58), 3)) (S' := (183, _, _, _, _)) (by decide +kernel) rfl ?_
        exact ih _ _ _ _ _ _ _ _ _ ⟨hdd.1, hdd.2.1, hdd.2.2.1, hdd.2.2.2.1, hdd.2.2.2.2.1, trivial⟩ _ h r hk hr
    · replace h := if_f b50 h
      refine Ru.br2 (k := .ge) (off := 57) (bb := true) (tg := 244) (by decide +kernel) (by decide +kernel) (ci_ge1 g48 g49 b50) rfl ?_
      cases h
      exact hk _ rfl _ _ _ _ _ _ _ _ _ _ _ ⟨rfl, hdd.1, hdd.2.1, rfl, hdd.2.2.1, hdd.2.2.2.1, rfl, rfl, hdd.2.2.2.2.1, rfl, rfl, trivial⟩
set_option maxRecDepth 100000 in
set_option maxHeartbeats 4000000 in
theorem g69b_ok {FR LO : Nat} {rc : St → Int → Int → Int → Option (Int × St)} (hF : 76 ≤ FR) (hL : 1979 ≤ LO) (hrc : ∀ {S : St} {v1 : Int} {v2 : Int} {v3 : Int} {o : Int × St}, rc S v1 v2 v3 = some o → Ru none FR LO 69 (0, mn_pad (mn_ent [.ref 20, vI v1, vI v2, vI v3]) 11, [], S.ns, Hp S) ((0, some (vI o.1)), o.2.ns, Hp o.2)) {S : St} {v1 : Int} {v2 : Int} {v3 : Int} {o : Int × St} (h : g69b rc S v1 v2 v3 = some o) : Ru none (FR + 1) (LO + 30) 69 (0, mn_pad (mn_ent [.ref 20, vI v1, vI v2, vI v3]) 11, [], S.ns, Hp S) ((0, some (vI o.1)), o.2.ns, Hp o.2) := by
  unfold g69b at h
  show Ru none (FR + 1) (LO + 30) 69 (0, [some (.ref 20), some (vI v1), some (vI v2), some (vI v3), none, none, none, none, none, none, none], [], S.ns, Hp S) _
  refine Ru.op (q := (.aload_n 0, 1)) (S' := (1, _, _, _, _)) (by decide +kernel) rfl ?_
  refine Ru.op (q := (.iload_n 1, 1)) (S' := (2, _, _, _, _)) (by decide +kernel) rfl ?_
  obtain ⟨o1, e2, h⟩ := ob_some h
  refine Ru.vcallI (pc' := 5) (st' := [vI o1]) (i := 65) (j2 := 70) (ci := 6) (k := 0) (z := 0) (as := [vI v1]) (by decide +kernel) (by decide +kernel) rfl rfl (hp20 _) (by decide) ⟨(by omega), (by show 19 + 4 ≤ (LO + 30); omega), Nat.le_of_ble_eq_true rfl, Nat.le_of_ble_eq_true rfl⟩ ((g70_ok e2).up (by omega) (by show _ ≤ (LO + 30) - (19 + 4); omega)) rfl rfl ?_
  refine Ru.op (q := (.istore 4, 2)) (S' := (7, [some (.ref 20), some (vI v1), some (vI v2), some (vI v3), some (vI o1), none, none, none, none, none, none], [], _, _)) (by decide +kernel) rfl ?_
  refine Ru.op (q := (.aload_n 0, 1)) (S' := (8, _, _, _, _)) (by decide +kernel) rfl ?_
  refine Ru.op (q := (.iload_n 2, 1)) (S' := (9, _, _, _, _)) (by decide +kernel) rfl ?_
  obtain ⟨o3, e4, h⟩ := ob_some h
  refine Ru.vcallI (pc' := 12) (st' := [vI o3]) (i := 65) (j2 := 70) (ci := 6) (k := 0) (z := 0) (as := [vI v2]) (by decide +kernel) (by decide +kernel) rfl rfl (hp20 _) (by decide) ⟨(by omega), (by show 19 + 4 ≤ (LO + 30); omega), Nat.le_of_ble_eq_true rfl, Nat.le_of_ble_eq_true rfl⟩ ((g70_ok e4).up (by omega) (by show _ ≤ (LO + 30) - (19 + 4); omega)) rfl rfl ?_
  refine Ru.op (q := (.istore 5, 2)) (S' := (14, [some (.ref 20), some (vI v1), some (vI v2), some (vI v3), some (vI o1), some (vI o3), none, none, none, none, none], [], _, _)) (by decide +kernel) rfl ?_
  refine Ru.op (q := (.aload_n 0, 1)) (S' := (15, _, _, _, _)) (by decide +kernel) rfl ?_
  refine Ru.getR (pc' := 18) (i := 9) (ci := 6) (k := 0) (nn := 0) (z := 0) (v := .ref 21) (by decide +kernel) (by decide +kernel) (hp20 _) (by decide) rfl rfl ?_
  refine Ru.op (q := (.iload 4, 2)) (S' := (20, _, _, _, _)) (by decide +kernel) rfl ?_
  obtain ⟨g5, h⟩ := gd_some h
  refine Ru.ildI (pc' := 21) (i := o1) (z := (S.A 21 o1)) (by decide +kernel) (hp21 _) g5 (eI_of _) rfl ?_
  refine Ru.kI (q := (.ldc 50, 2)) (c := 32768) (pc' := 23) (by decide +kernel) rfl (by decide) rfl ?_
  by_cases b6 : (S.A 21 o1) < 32768
  · replace h := if_t b6 h
    refine Ru.br2 (k := .ge) (off := 8) (bb := false) (tg := 26) (by decide +kernel) (by decide +kernel) (ci_ge0 (inR_to _) (by decide) b6) rfl ?_
    refine Ru.op (q := (.iload 4, 2)) (S' := (28, _, _, _, _)) (by decide +kernel) rfl ?_
    refine Ru.op (q := (.goto 5, 3)) (S' := (33, _, _, _, _)) (by decide +kernel) rfl ?_
    refine Ru.op (q := (.istore 6, 2)) (S' := (35, [some (.ref 20), some (vI v1), some (vI v2), some (vI v3), some (vI o1), some (vI o3), some (vI o1), none, none, none, none], [], _, _)) (by decide +kernel) rfl ?_
    refine Ru.op (q := (.iload 6, 2)) (S' := (37, _, _, _, _)) (by decide +kernel) rfl ?_
    refine Ru.op (q := (.iload 4, 2)) (S' := (39, _, _, _, _)) (by decide +kernel) rfl ?_
    obtain ⟨g7, h⟩ := gd_some h
    by_cases b8 : o1 = o1
    · replace h := if_t b8 h
      refine Ru.br2 (k := .ne) (off := 8) (bb := false) (tg := 42) (by decide +kernel) (by decide +kernel) (ci_ne0 g7 g7 b8) rfl ?_
      refine Ru.op (q := (.iload 5, 2)) (S' := (44, _, _, _, _)) (by decide +kernel) rfl ?_
      refine Ru.op (q := (.goto 5, 3)) (S' := (49, _, _, _, _)) (by decide +kernel) rfl ?_
      refine Ru.op (q := (.istore 7, 2)) (S' := (51, [some (.ref 20), some (vI v1), some (vI v2), some (vI v3), some (vI o1), some (vI o3), some (vI o1), some (vI o3), none, none, none], [], _, _)) (by decide +kernel) rfl ?_
      refine Ru.op (q := (.aload_n 0, 1)) (S' := (52, _, _, _, _)) (by decide +kernel) rfl ?_
      refine Ru.getR (pc' := 55) (i := 9) (ci := 6) (k := 0) (nn := 0) (z := 0) (v := .ref 21) (by decide +kernel) (by decide +kernel) (hp20 _) (by decide) rfl rfl ?_
      refine Ru.op (q := (.iload 6, 2)) (S' := (57, _, _, _, _)) (by decide +kernel) rfl ?_
      refine Ru.ildI (pc' := 58) (i := o1) (z := (S.A 21 o1)) (by decide +kernel) (hp21 _) g5 (eI_of _) rfl ?_
      refine Ru.kI (q := (.ldc 50, 2)) (c := 32768) (pc' := 60) (by decide +kernel) rfl (by decide) rfl ?_
      refine Ru.br2 (k := .ge) (off := 60) (bb := false) (tg := 63) (by decide +kernel) (by decide +kernel) (ci_ge0 (inR_to _) (by decide) b6) rfl ?_
      refine Ru.op (q := (.aload_n 0, 1)) (S' := (64, _, _, _, _)) (by decide +kernel) rfl ?_
      refine Ru.getR (pc' := 67) (i := 9) (ci := 6) (k := 0) (nn := 0) (z := 0) (v := .ref 21) (by decide +kernel) (by decide +kernel) (hp20 _) (by decide) rfl rfl ?_
      refine Ru.op (q := (.iload 6, 2)) (S' := (69, _, _, _, _)) (by decide +kernel) rfl ?_
      refine Ru.ildI (pc' := 70) (i := o1) (z := (S.A 21 o1)) (by decide +kernel) (hp21 _) g5 (eI_of _) rfl ?_
      refine Ru.op (q := (.aload_n 0, 1)) (S' := (71, _, _, _, _)) (by decide +kernel) rfl ?_
      refine Ru.getR (pc' := 74) (i := 9) (ci := 6) (k := 0) (nn := 0) (z := 0) (v := .ref 21) (by decide +kernel) (by decide +kernel) (hp20 _) (by decide) rfl rfl ?_
      refine Ru.op (q := (.iload 7, 2)) (S' := (76, _, _, _, _)) (by decide +kernel) rfl ?_
      obtain ⟨g9, h⟩ := gd_some h
      refine Ru.ildI (pc' := 77) (i := o3) (z := (S.A 21 o3)) (by decide +kernel) (hp21 _) g9 (eI_of _) rfl ?_
      by_cases b10 : (S.A 21 o1) = (S.A 21 o3)
      · replace h := if_t b10 h
        refine Ru.br2 (k := .ne) (off := 5) (bb := false) (tg := 80) (by decide +kernel) (by decide +kernel) (ci_ne0 (inR_to _) (inR_to _) b10) rfl ?_
        refine Ru.kI (q := (.iconst 1, 1)) (c := 1) (pc' := 81) (by decide +kernel) rfl (by decide) rfl ?_
        cases h
        exact Ru.iret (by decide +kernel) rfl (nar_b1 (by decide))
      · replace h := if_f b10 h
        refine Ru.br2 (k := .ne) (off := 5) (bb := true) (tg := 82) (by decide +kernel) (by decide +kernel) (ci_ne1 (inR_to _) (inR_to _) b10) rfl ?_
        refine Ru.op (q := (.aload_n 0, 1)) (S' := (83, _, _, _, _)) (by decide +kernel) rfl ?_
        refine Ru.op (q := (.aload_n 0, 1)) (S' := (84, _, _, _, _)) (by decide +kernel) rfl ?_
        refine Ru.getR (pc' := 87) (i := 9) (ci := 6) (k := 0) (nn := 0) (z := 0) (v := .ref 21) (by decide +kernel) (by decide +kernel) (hp20 _) (by decide) rfl rfl ?_
        refine Ru.op (q := (.iload 6, 2)) (S' := (89, _, _, _, _)) (by decide +kernel) rfl ?_
        refine Ru.ildI (pc' := 90) (i := o1) (z := (S.A 21 o1)) (by decide +kernel) (hp21 _) g5 (eI_of _) rfl ?_
        refine Ru.op (q := (.iload 7, 2)) (S' := (92, _, _, _, _)) (by decide +kernel) rfl ?_
        refine Ru.kI (q := (.iconst 0, 1)) (c := 0) (pc' := 93) (by decide +kernel) rfl (by decide) rfl ?_
        obtain ⟨o11, e12, h⟩ := ob_some h
        refine Ru.vcallI (pc' := 96) (st' := [vI o11]) (i := 77) (j2 := 71) (ci := 6) (k := 0) (z := 0) (as := [vI (S.A 21 o1), vI o3, vI 0]) (by decide +kernel) (by decide +kernel) rfl rfl (hp20 _) (by decide) ⟨(by omega), (by show 19 + 8 ≤ (LO + 30); omega), Nat.le_of_ble_eq_true rfl, Nat.le_of_ble_eq_true rfl⟩ ((g71_ok 64 e12).up (by omega) (by show _ ≤ (LO + 30) - (19 + 8); omega)) rfl rfl ?_
        obtain ⟨g13, h⟩ := gd_some h
        by_cases b14 : o11 = 0
        · replace h := if_t b14 h
          refine Ru.br (k := .eq) (off := 5) (bb := true) (tg := 101) (by decide +kernel) (by decide +kernel) (cz (ci_eq1 g13 (by decide) b14)) rfl ?_
          refine Ru.op (q := (.aload_n 0, 1)) (S' := (102, _, _, _, _)) (by decide +kernel) rfl ?_
          refine Ru.getR (pc' := 105) (i := 15) (ci := 6) (k := 1) (nn := 0) (z := 0) (v := .ref 22) (by decide +kernel) (by decide +kernel) (hp20 _) (by decide) rfl rfl ?_
          refine Ru.op (q := (.aload_n 0, 1)) (S' := (106, _, _, _, _)) (by decide +kernel) rfl ?_
          refine Ru.getR (pc' := 109) (i := 9) (ci := 6) (k := 0) (nn := 0) (z := 0) (v := .ref 21) (by decide +kernel) (by decide +kernel) (hp20 _) (by decide) rfl rfl ?_
          refine Ru.op (q := (.iload 6, 2)) (S' := (111, _, _, _, _)) (by decide +kernel) rfl ?_
          refine Ru.ildI (pc' := 112) (i := o1) (z := (S.A 21 o1)) (by decide +kernel) (hp21 _) g5 (eI_of _) rfl ?_
          refine Ru.kI (q := (.bipush 8, 2)) (c := 8) (pc' := 114) (by decide +kernel) rfl (by decide) rfl ?_
          refine Ru.ar2 (i := .ishr) (z := ((S.A 21 o1) / 256)) (pc' := 115) (by decide +kernel) rfl (ar_shr (inR_to _)) rfl ?_
          refine Ru.op (q := (.iload 7, 2)) (S' := (117, _, _, _, _)) (by decide +kernel) rfl ?_
          obtain ⟨g15, h⟩ := gd_some h
          refine Ru.istI (pc' := 118) (i := ((S.A 21 o1) / 256)) (x := o3) (by decide +kernel) (hp22 _) g15 (ps_22 _ _ _) rfl ?_
          refine Ru.kI (q := (.iconst 1, 1)) (c := 1) (pc' := 119) (by decide +kernel) rfl (by decide) rfl ?_
          cases h
          exact Ru.iret (by decide +kernel) rfl (nar_b1 (by decide))
        · replace h := if_f b14 h
          refine Ru.br (k := .eq) (off := 5) (bb := false) (tg := 99) (by decide +kernel) (by decide +kernel) (cz (ci_eq0 g13 (by decide) b14)) rfl ?_
          refine Ru.kI (q := (.iconst 0, 1)) (c := 0) (pc' := 100) (by decide +kernel) rfl (by decide) rfl ?_
          cases h
          exact Ru.iret (by decide +kernel) rfl (nar_b1 (by decide))
    · replace h := if_f b8 h
      refine Ru.br2 (k := .ne) (off := 8) (bb := true) (tg := 47) (by decide +kernel) (by decide +kernel) (ci_ne1 g7 g7 b8) rfl ?_
      refine Ru.op (q := (.iload 4, 2)) (S' := (49, _, _, _, _)) (by decide +kernel) rfl ?_
      refine Ru.op (q := (.istore 7, 2)) (S' := (51, [some (.ref 20), some (vI v1), some (vI v2), some (vI v3), some (vI o1), some (vI o3), some (vI o1), some (vI o1), none, none, none], [], _, _)) (by decide +kernel) rfl ?_
      refine Ru.op (q := (.aload_n 0, 1)) (S' := (52, _, _, _, _)) (by decide +kernel) rfl ?_
      refine Ru.getR (pc' := 55) (i := 9) (ci := 6) (k := 0) (nn := 0) (z := 0) (v := .ref 21) (by decide +kernel) (by decide +kernel) (hp20 _) (by decide) rfl rfl ?_
      refine Ru.op (q := (.iload 6, 2)) (S' := (57, _, _, _, _)) (by decide +kernel) rfl ?_
      refine Ru.ildI (pc' := 58) (i := o1) (z := (S.A 21 o1)) (by decide +kernel) (hp21 _) g5 (eI_of _) rfl ?_
      refine Ru.kI (q := (.ldc 50, 2)) (c := 32768) (pc' := 60) (by decide +kernel) rfl (by decide) rfl ?_
      refine Ru.br2 (k := .ge) (off := 60) (bb := false) (tg := 63) (by decide +kernel) (by decide +kernel) (ci_ge0 (inR_to _) (by decide) b6) rfl ?_
      refine Ru.op (q := (.aload_n 0, 1)) (S' := (64, _, _, _, _)) (by decide +kernel) rfl ?_
      refine Ru.getR (pc' := 67) (i := 9) (ci := 6) (k := 0) (nn := 0) (z := 0) (v := .ref 21) (by decide +kernel) (by decide +kernel) (hp20 _) (by decide) rfl rfl ?_
      refine Ru.op (q := (.iload 6, 2)) (S' := (69, _, _, _, _)) (by decide +kernel) rfl ?_
      refine Ru.ildI (pc' := 70) (i := o1) (z := (S.A 21 o1)) (by decide +kernel) (hp21 _) g5 (eI_of _) rfl ?_
      refine Ru.op (q := (.aload_n 0, 1)) (S' := (71, _, _, _, _)) (by decide +kernel) rfl ?_
      refine Ru.getR (pc' := 74) (i := 9) (ci := 6) (k := 0) (nn := 0) (z := 0) (v := .ref 21) (by decide +kernel) (by decide +kernel) (hp20 _) (by decide) rfl rfl ?_
      refine Ru.op (q := (.iload 7, 2)) (S' := (76, _, _, _, _)) (by decide +kernel) rfl ?_
      refine Ru.ildI (pc' := 77) (i := o1) (z := (S.A 21 o1)) (by decide +kernel) (hp21 _) g5 (eI_of _) rfl ?_
      by_cases b16 : (S.A 21 o1) = (S.A 21 o1)
      · replace h := if_t b16 h
        refine Ru.br2 (k := .ne) (off := 5) (bb := false) (tg := 80) (by decide +kernel) (by decide +kernel) (ci_ne0 (inR_to _) (inR_to _) b16) rfl ?_
        refine Ru.kI (q := (.iconst 1, 1)) (c := 1) (pc' := 81) (by decide +kernel) rfl (by decide) rfl ?_
        cases h
        exact Ru.iret (by decide +kernel) rfl (nar_b1 (by decide))
      · replace h := if_f b16 h
        refine Ru.br2 (k := .ne) (off := 5) (bb := true) (tg := 82) (by decide +kernel) (by decide +kernel) (ci_ne1 (inR_to _) (inR_to _) b16) rfl ?_
        refine Ru.op (q := (.aload_n 0, 1)) (S' := (83, _, _, _, _)) (by decide +kernel) rfl ?_
        refine Ru.op (q := (.aload_n 0, 1)) (S' := (84, _, _, _, _)) (by decide +kernel) rfl ?_
        refine Ru.getR (pc' := 87) (i := 9) (ci := 6) (k := 0) (nn := 0) (z := 0) (v := .ref 21) (by decide +kernel) (by decide +kernel) (hp20 _) (by decide) rfl rfl ?_
        refine Ru.op (q := (.iload 6, 2)) (S' := (89, _, _, _, _)) (by decide +kernel) rfl ?_
        refine Ru.ildI (pc' := 90) (i := o1) (z := (S.A 21 o1)) (by decide +kernel) (hp21 _) g5 (eI_of _) rfl ?_
        refine Ru.op (q := (.iload 7, 2)) (S' := (92, _, _, _, _)) (by decide +kernel) rfl ?_
        refine Ru.kI (q := (.iconst 0, 1)) (c := 0) (pc' := 93) (by decide +kernel) rfl (by decide) rfl ?_
        obtain ⟨o17, e18, h⟩ := ob_some h
        refine Ru.vcallI (pc' := 96) (st' := [vI o17]) (i := 77) (j2 := 71) (ci := 6) (k := 0) (z := 0) (as := [vI (S.A 21 o1), vI o1, vI 0]) (by decide +kernel) (by decide +kernel) rfl rfl (hp20 _) (by decide) ⟨(by omega), (by show 19 + 8 ≤ (LO + 30); omega), Nat.le_of_ble_eq_true rfl, Nat.le_of_ble_eq_true rfl⟩ ((g71_ok 64 e18).up (by omega) (by show _ ≤ (LO + 30) - (19 + 8); omega)) rfl rfl ?_
        obtain ⟨g19, h⟩ := gd_some h
        by_cases b20 : o17 = 0
        · replace h := if_t b20 h
          refine Ru.br (k := .eq) (off := 5) (bb := true) (tg := 101) (by decide +kernel) (by decide +kernel) (cz (ci_eq1 g19 (by decide) b20)) rfl ?_
          refine Ru.op (q := (.aload_n 0, 1)) (S' := (102, _, _, _, _)) (by decide +kernel) rfl ?_
          refine Ru.getR (pc' := 105) (i := 15) (ci := 6) (k := 1) (nn := 0) (z := 0) (v := .ref 22) (by decide +kernel) (by decide +kernel) (hp20 _) (by decide) rfl rfl ?_
          refine Ru.op (q := (.aload_n 0, 1)) (S' := (106, _, _, _, _)) (by decide +kernel) rfl ?_
          refine Ru.getR (pc' := 109) (i := 9) (ci := 6) (k := 0) (nn := 0) (z := 0) (v := .ref 21) (by decide +kernel) (by decide +kernel) (hp20 _) (by decide) rfl rfl ?_
          refine Ru.op (q := (.iload 6, 2)) (S' := (111, _, _, _, _)) (by decide +kernel) rfl ?_
          refine Ru.ildI (pc' := 112) (i := o1) (z := (S.A 21 o1)) (by decide +kernel) (hp21 _) g5 (eI_of _) rfl ?_
          refine Ru.kI (q := (.bipush 8, 2)) (c := 8) (pc' := 114) (by decide +kernel) rfl (by decide) rfl ?_
          refine Ru.ar2 (i := .ishr) (z := ((S.A 21 o1) / 256)) (pc' := 115) (by decide +kernel) rfl (ar_shr (inR_to _)) rfl ?_
          refine Ru.op (q := (.iload 7, 2)) (S' := (117, _, _, _, _)) (by decide +kernel) rfl ?_
          obtain ⟨g21, h⟩ := gd_some h
          refine Ru.istI (pc' := 118) (i := ((S.A 21 o1) / 256)) (x := o1) (by decide +kernel) (hp22 _) g21 (ps_22 _ _ _) rfl ?_
          refine Ru.kI (q := (.iconst 1, 1)) (c := 1) (pc' := 119) (by decide +kernel) rfl (by decide) rfl ?_
          cases h
          exact Ru.iret (by decide +kernel) rfl (nar_b1 (by decide))
        · replace h := if_f b20 h
          refine Ru.br (k := .eq) (off := 5) (bb := false) (tg := 99) (by decide +kernel) (by decide +kernel) (cz (ci_eq0 g19 (by decide) b20)) rfl ?_
          refine Ru.kI (q := (.iconst 0, 1)) (c := 0) (pc' := 100) (by decide +kernel) rfl (by decide) rfl ?_
          cases h
          exact Ru.iret (by decide +kernel) rfl (nar_b1 (by decide))
  · replace h := if_f b6 h
    refine Ru.br2 (k := .ge) (off := 8) (bb := true) (tg := 31) (by decide +kernel) (by decide +kernel) (ci_ge1 (inR_to _) (by decide) b6) rfl ?_
    refine Ru.op (q := (.iload 5, 2)) (S' := (33, _, _, _, _)) (by decide +kernel) rfl ?_
    refine Ru.op (q := (.istore 6, 2)) (S' := (35, [some (.ref 20), some (vI v1), some (vI v2), some (vI v3), some (vI o1), some (vI o3), some (vI o3), none, none, none, none], [], _, _)) (by decide +kernel) rfl ?_
    refine Ru.op (q := (.iload 6, 2)) (S' := (37, _, _, _, _)) (by decide +kernel) rfl ?_
    refine Ru.op (q := (.iload 4, 2)) (S' := (39, _, _, _, _)) (by decide +kernel) rfl ?_
    obtain ⟨g22, h⟩ := gd_some h
    obtain ⟨g23, h⟩ := gd_some h
    by_cases b24 : o3 = o1
    · replace h := if_t b24 h
      refine Ru.br2 (k := .ne) (off := 8) (bb := false) (tg := 42) (by decide +kernel) (by decide +kernel) (ci_ne0 g22 g23 b24) rfl ?_
      refine Ru.op (q := (.iload 5, 2)) (S' := (44, _, _, _, _)) (by decide +kernel) rfl ?_
      refine Ru.op (q := (.goto 5, 3)) (S' := (49, _, _, _, _)) (by decide +kernel) rfl ?_
      refine Ru.op (q := (.istore 7, 2)) (S' := (51, [some (.ref 20), some (vI v1), some (vI v2), some (vI v3), some (vI o1), some (vI o3), some (vI o3), some (vI o3), none, none, none], [], _, _)) (by decide +kernel) rfl ?_
      refine Ru.op (q := (.aload_n 0, 1)) (S' := (52, _, _, _, _)) (by decide +kernel) rfl ?_
      refine Ru.getR (pc' := 55) (i := 9) (ci := 6) (k := 0) (nn := 0) (z := 0) (v := .ref 21) (by decide +kernel) (by decide +kernel) (hp20 _) (by decide) rfl rfl ?_
      refine Ru.op (q := (.iload 6, 2)) (S' := (57, _, _, _, _)) (by decide +kernel) rfl ?_
      obtain ⟨g25, h⟩ := gd_some h
      refine Ru.ildI (pc' := 58) (i := o3) (z := (S.A 21 o3)) (by decide +kernel) (hp21 _) g25 (eI_of _) rfl ?_
      refine Ru.kI (q := (.ldc 50, 2)) (c := 32768) (pc' := 60) (by decide +kernel) rfl (by decide) rfl ?_
      by_cases b26 : (S.A 21 o3) < 32768
      · replace h := if_t b26 h
        refine Ru.br2 (k := .ge) (off := 60) (bb := false) (tg := 63) (by decide +kernel) (by decide +kernel) (ci_ge0 (inR_to _) (by decide) b26) rfl ?_
        refine Ru.op (q := (.aload_n 0, 1)) (S' := (64, _, _, _, _)) (by decide +kernel) rfl ?_
        refine Ru.getR (pc' := 67) (i := 9) (ci := 6) (k := 0) (nn := 0) (z := 0) (v := .ref 21) (by decide +kernel) (by decide +kernel) (hp20 _) (by decide) rfl rfl ?_
        refine Ru.op (q := (.iload 6, 2)) (S' := (69, _, _, _, _)) (by decide +kernel) rfl ?_
        refine Ru.ildI (pc' := 70) (i := o3) (z := (S.A 21 o3)) (by decide +kernel) (hp21 _) g25 (eI_of _) rfl ?_
        refine Ru.op (q := (.aload_n 0, 1)) (S' := (71, _, _, _, _)) (by decide +kernel) rfl ?_
        refine Ru.getR (pc' := 74) (i := 9) (ci := 6) (k := 0) (nn := 0) (z := 0) (v := .ref 21) (by decide +kernel) (by decide +kernel) (hp20 _) (by decide) rfl rfl ?_
        refine Ru.op (q := (.iload 7, 2)) (S' := (76, _, _, _, _)) (by decide +kernel) rfl ?_
        refine Ru.ildI (pc' := 77) (i := o3) (z := (S.A 21 o3)) (by decide +kernel) (hp21 _) g25 (eI_of _) rfl ?_
        by_cases b27 : (S.A 21 o3) = (S.A 21 o3)
        · replace h := if_t b27 h
          refine Ru.br2 (k := .ne) (off := 5) (bb := false) (tg := 80) (by decide +kernel) (by decide +kernel) (ci_ne0 (inR_to _) (inR_to _) b27) rfl ?_
          refine Ru.kI (q := (.iconst 1, 1)) (c := 1) (pc' := 81) (by decide +kernel) rfl (by decide) rfl ?_
          cases h
          exact Ru.iret (by decide +kernel) rfl (nar_b1 (by decide))
        · replace h := if_f b27 h
          refine Ru.br2 (k := .ne) (off := 5) (bb := true) (tg := 82) (by decide +kernel) (by decide +kernel) (ci_ne1 (inR_to _) (inR_to _) b27) rfl ?_
          refine Ru.op (q := (.aload_n 0, 1)) (S' := (83, _, _, _, _)) (by decide +kernel) rfl ?_
          refine Ru.op (q := (.aload_n 0, 1)) (S' := (84, _, _, _, _)) (by decide +kernel) rfl ?_
          refine Ru.getR (pc' := 87) (i := 9) (ci := 6) (k := 0) (nn := 0) (z := 0) (v := .ref 21) (by decide +kernel) (by decide +kernel) (hp20 _) (by decide) rfl rfl ?_
          refine Ru.op (q := (.iload 6, 2)) (S' := (89, _, _, _, _)) (by decide +kernel) rfl ?_
          refine Ru.ildI (pc' := 90) (i := o3) (z := (S.A 21 o3)) (by decide +kernel) (hp21 _) g25 (eI_of _) rfl ?_
          refine Ru.op (q := (.iload 7, 2)) (S' := (92, _, _, _, _)) (by decide +kernel) rfl ?_
          refine Ru.kI (q := (.iconst 0, 1)) (c := 0) (pc' := 93) (by decide +kernel) rfl (by decide) rfl ?_
          obtain ⟨o28, e29, h⟩ := ob_some h
          refine Ru.vcallI (pc' := 96) (st' := [vI o28]) (i := 77) (j2 := 71) (ci := 6) (k := 0) (z := 0) (as := [vI (S.A 21 o3), vI o3, vI 0]) (by decide +kernel) (by decide +kernel) rfl rfl (hp20 _) (by decide) ⟨(by omega), (by show 19 + 8 ≤ (LO + 30); omega), Nat.le_of_ble_eq_true rfl, Nat.le_of_ble_eq_true rfl⟩ ((g71_ok 64 e29).up (by omega) (by show _ ≤ (LO + 30) - (19 + 8); omega)) rfl rfl ?_
          obtain ⟨g30, h⟩ := gd_some h
          by_cases b31 : o28 = 0
          · replace h := if_t b31 h
            refine Ru.br (k := .eq) (off := 5) (bb := true) (tg := 101) (by decide +kernel) (by decide +kernel) (cz (ci_eq1 g30 (by decide) b31)) rfl ?_
            refine Ru.op (q := (.aload_n 0, 1)) (S' := (102, _, _, _, _)) (by decide +kernel) rfl ?_
            refine Ru.getR (pc' := 105) (i := 15) (ci := 6) (k := 1) (nn := 0) (z := 0) (v := .ref 22) (by decide +kernel) (by decide +kernel) (hp20 _) (by decide) rfl rfl ?_
            refine Ru.op (q := (.aload_n 0, 1)) (S' := (106, _, _, _, _)) (by decide +kernel) rfl ?_
            refine Ru.getR (pc' := 109) (i := 9) (ci := 6) (k := 0) (nn := 0) (z := 0) (v := .ref 21) (by decide +kernel) (by decide +kernel) (hp20 _) (by decide) rfl rfl ?_
            refine Ru.op (q := (.iload 6, 2)) (S' := (111, _, _, _, _)) (by decide +kernel) rfl ?_
            refine Ru.ildI (pc' := 112) (i := o3) (z := (S.A 21 o3)) (by decide +kernel) (hp21 _) g25 (eI_of _) rfl ?_
            refine Ru.kI (q := (.bipush 8, 2)) (c := 8) (pc' := 114) (by decide +kernel) rfl (by decide) rfl ?_
            refine Ru.ar2 (i := .ishr) (z := ((S.A 21 o3) / 256)) (pc' := 115) (by decide +kernel) rfl (ar_shr (inR_to _)) rfl ?_
            refine Ru.op (q := (.iload 7, 2)) (S' := (117, _, _, _, _)) (by decide +kernel) rfl ?_
            obtain ⟨g32, h⟩ := gd_some h
            refine Ru.istI (pc' := 118) (i := ((S.A 21 o3) / 256)) (x := o3) (by decide +kernel) (hp22 _) g32 (ps_22 _ _ _) rfl ?_
            refine Ru.kI (q := (.iconst 1, 1)) (c := 1) (pc' := 119) (by decide +kernel) rfl (by decide) rfl ?_
            cases h
            exact Ru.iret (by decide +kernel) rfl (nar_b1 (by decide))
          · replace h := if_f b31 h
            refine Ru.br (k := .eq) (off := 5) (bb := false) (tg := 99) (by decide +kernel) (by decide +kernel) (cz (ci_eq0 g30 (by decide) b31)) rfl ?_
            refine Ru.kI (q := (.iconst 0, 1)) (c := 0) (pc' := 100) (by decide +kernel) rfl (by decide) rfl ?_
            cases h
            exact Ru.iret (by decide +kernel) rfl (nar_b1 (by decide))
      · replace h := if_f b26 h
        refine Ru.br2 (k := .ge) (off := 60) (bb := true) (tg := 120) (by decide +kernel) (by decide +kernel) (ci_ge1 (inR_to _) (by decide) b26) rfl ?_
        refine Ru.op (q := (.iload_n 3, 1)) (S' := (121, _, _, _, _)) (by decide +kernel) rfl ?_
        obtain ⟨g33, h⟩ := gd_some h
        by_cases b34 : v3 = 0
        · replace h := if_t b34 h
          refine Ru.br (k := .ne) (off := 7) (bb := false) (tg := 124) (by decide +kernel) (by decide +kernel) (cz (ci_ne0 g33 (by decide) b34)) rfl ?_
          refine Ru.kI (q := (.iconst 1, 1)) (c := 1) (pc' := 125) (by decide +kernel) rfl (by decide) rfl ?_
          refine Ru.op (q := (.goto 4, 3)) (S' := (129, _, _, _, _)) (by decide +kernel) rfl ?_
          refine Ru.op (q := (.istore 8, 2)) (S' := (131, [some (.ref 20), some (vI v1), some (vI v2), some (vI v3), some (vI o1), some (vI o3), some (vI o3), some (vI o3), some (vI 1), none, none], [], _, _)) (by decide +kernel) rfl ?_
          refine Ru.op (q := (.iload_n 3, 1)) (S' := (132, _, _, _, _)) (by decide +kernel) rfl ?_
          refine Ru.kI (q := (.bipush 40, 2)) (c := 40) (pc' := 134) (by decide +kernel) rfl (by decide) rfl ?_
          by_cases b35 : v3 < 40
          · replace h := if_t b35 h
            refine Ru.br2 (k := .ge) (off := 25) (bb := false) (tg := 137) (by decide +kernel) (by decide +kernel) (ci_ge0 g33 (by decide) b35) rfl ?_
            refine Ru.op (q := (.aload_n 0, 1)) (S' := (138, _, _, _, _)) (by decide +kernel) rfl ?_
            refine Ru.getR (pc' := 141) (i := 9) (ci := 6) (k := 0) (nn := 0) (z := 0) (v := .ref 21) (by decide +kernel) (by decide +kernel) (hp20 _) (by decide) rfl rfl ?_
            refine Ru.op (q := (.iload 6, 2)) (S' := (143, _, _, _, _)) (by decide +kernel) rfl ?_
            refine Ru.ildI (pc' := 144) (i := o3) (z := (S.A 21 o3)) (by decide +kernel) (hp21 _) g25 (eI_of _) rfl ?_
            refine Ru.op (q := (.aload_n 0, 1)) (S' := (145, _, _, _, _)) (by decide +kernel) rfl ?_
            refine Ru.getR (pc' := 148) (i := 9) (ci := 6) (k := 0) (nn := 0) (z := 0) (v := .ref 21) (by decide +kernel) (by decide +kernel) (hp20 _) (by decide) rfl rfl ?_
            refine Ru.op (q := (.iload 7, 2)) (S' := (150, _, _, _, _)) (by decide +kernel) rfl ?_
            refine Ru.ildI (pc' := 151) (i := o3) (z := (S.A 21 o3)) (by decide +kernel) (hp21 _) g25 (eI_of _) rfl ?_
            by_cases b36 : (S.A 21 o3) = (S.A 21 o3)
            · replace h := if_t b36 h
              refine Ru.br2 (k := .eq) (off := 10) (bb := true) (tg := 161) (by decide +kernel) (by decide +kernel) (ci_eq1 (inR_to _) (inR_to _) b36) rfl ?_
              refine Ru.op (q := (.aload_n 0, 1)) (S' := (162, _, _, _, _)) (by decide +kernel) rfl ?_
              refine Ru.getR (pc' := 165) (i := 9) (ci := 6) (k := 0) (nn := 0) (z := 0) (v := .ref 21) (by decide +kernel) (by decide +kernel) (hp20 _) (by decide) rfl rfl ?_
              refine Ru.op (q := (.iload 6, 2)) (S' := (167, _, _, _, _)) (by decide +kernel) rfl ?_
              refine Ru.ildI (pc' := 168) (i := o3) (z := (S.A 21 o3)) (by decide +kernel) (hp21 _) g25 (eI_of _) rfl ?_
              refine Ru.kI (q := (.sipush 255, 3)) (c := 255) (pc' := 171) (by decide +kernel) rfl (by decide) rfl ?_
              refine Ru.ar2 (i := .iand) (z := ((S.A 21 o3) % 256)) (pc' := 172) (by decide +kernel) rfl (ar_and _) rfl ?_
              refine Ru.op (q := (.istore 9, 2)) (S' := (174, [some (.ref 20), some (vI v1), some (vI v2), some (vI v3), some (vI o1), some (vI o3), some (vI o3), some (vI o3), some (vI 1), some (vI ((S.A 21 o3) % 256)), none], [], _, _)) (by decide +kernel) rfl ?_
              refine Ru.inc (k := 6) (n := 1) (x := o3) (z := (o3 + 1)) (xs' := [some (.ref 20), some (vI v1), some (vI v2), some (vI v3), some (vI o1), some (vI o3), some (vI (o3 + 1)), some (vI o3), some (vI 1), some (vI ((S.A 21 o3) % 256)), none]) (pc' := 177) (by decide +kernel) rfl rfl rfl rfl ?_
              refine Ru.inc (k := 7) (n := 1) (x := o3) (z := (o3 + 1)) (xs' := [some (.ref 20), some (vI v1), some (vI v2), some (vI v3), some (vI o1), some (vI o3), some (vI (o3 + 1)), some (vI (o3 + 1)), some (vI 1), some (vI ((S.A 21 o3) % 256)), none]) (pc' := 180) (by decide +kernel) rfl rfl rfl rfl ?_
              refine Ru.kI (q := (.iconst 0, 1)) (c := 0) (pc' := 181) (by decide +kernel) rfl (by decide) rfl ?_
              refine Ru.op (q := (.istore 10, 2)) (S' := (183, [some (.ref 20), some (vI v1), some (vI v2), some (vI v3), some (vI o1), some (vI o3), some (vI (o3 + 1)), some (vI (o3 + 1)), some (vI 1), some (vI ((S.A 21 o3) % 256)), some (vI 0)], [], _, _)) (by decide +kernel) rfl ?_
              rcases obr_some h with ⟨o59, e71, h⟩ | e71
              · refine g69L183_ok hF hL hrc FU _ _ _ _ _ _ _ _ _ ⟨rfl, rfl, rfl, rfl, rfl, trivial⟩ _ e71 _ (fun o' e' => ?_) (fun o' e' => by cases e')
                cases e'
                intro d60 d61 d62 d63 d64 d65 d66 d67 d68 d69 d70 hd72
                refine Ru.kI (q := (.iconst 1, 1)) (c := 1) (pc' := 245) (by decide +kernel) rfl (by decide) rfl ?_
                cases h
                exact Ru.iret (by decide +kernel) rfl (nar_b1 (by decide))
              · exact g69L183_ok hF hL hrc FU _ _ _ _ _ _ _ _ _ ⟨rfl, rfl, rfl, rfl, rfl, trivial⟩ _ e71 _ (fun o' e' => by cases e') (fun o' e' => by cases e'; rfl)
            · replace h := if_f b36 h
              refine Ru.br2 (k := .eq) (off := 10) (bb := false) (tg := 154) (by decide +kernel) (by decide +kernel) (ci_eq0 (inR_to _) (inR_to _) b36) rfl ?_
              refine Ru.op (q := (.iload 8, 2)) (S' := (156, _, _, _, _)) (by decide +kernel) rfl ?_
              refine Ru.br (k := .ne) (off := 5) (bb := true) (tg := 161) (by decide +kernel) (by decide +kernel) (by decide) rfl ?_
              refine Ru.op (q := (.aload_n 0, 1)) (S' := (162, _, _, _, _)) (by decide +kernel) rfl ?_
              refine Ru.getR (pc' := 165) (i := 9) (ci := 6) (k := 0) (nn := 0) (z := 0) (v := .ref 21) (by decide +kernel) (by decide +kernel) (hp20 _) (by decide) rfl rfl ?_
              refine Ru.op (q := (.iload 6, 2)) (S' := (167, _, _, _, _)) (by decide +kernel) rfl ?_
              refine Ru.ildI (pc' := 168) (i := o3) (z := (S.A 21 o3)) (by decide +kernel) (hp21 _) g25 (eI_of _) rfl ?_
              refine Ru.kI (q := (.sipush 255, 3)) (c := 255) (pc' := 171) (by decide +kernel) rfl (by decide) rfl ?_
              refine Ru.ar2 (i := .iand) (z := ((S.A 21 o3) % 256)) (pc' := 172) (by decide +kernel) rfl (ar_and _) rfl ?_
              refine Ru.op (q := (.istore 9, 2)) (S' := (174, [some (.ref 20), some (vI v1), some (vI v2), some (vI v3), some (vI o1), some (vI o3), some (vI o3), some (vI o3), some (vI 1), some (vI ((S.A 21 o3) % 256)), none], [], _, _)) (by decide +kernel) rfl ?_
              refine Ru.inc (k := 6) (n := 1) (x := o3) (z := (o3 + 1)) (xs' := [some (.ref 20), some (vI v1), some (vI v2), some (vI v3), some (vI o1), some (vI o3), some (vI (o3 + 1)), some (vI o3), some (vI 1), some (vI ((S.A 21 o3) % 256)), none]) (pc' := 177) (by decide +kernel) rfl rfl rfl rfl ?_
              refine Ru.inc (k := 7) (n := 1) (x := o3) (z := (o3 + 1)) (xs' := [some (.ref 20), some (vI v1), some (vI v2), some (vI v3), some (vI o1), some (vI o3), some (vI (o3 + 1)), some (vI (o3 + 1)), some (vI 1), some (vI ((S.A 21 o3) % 256)), none]) (pc' := 180) (by decide +kernel) rfl rfl rfl rfl ?_
              refine Ru.kI (q := (.iconst 0, 1)) (c := 0) (pc' := 181) (by decide +kernel) rfl (by decide) rfl ?_
              refine Ru.op (q := (.istore 10, 2)) (S' := (183, [some (.ref 20), some (vI v1), some (vI v2), some (vI v3), some (vI o1), some (vI o3), some (vI (o3 + 1)), some (vI (o3 + 1)), some (vI 1), some (vI ((S.A 21 o3) % 256)), some (vI 0)], [], _, _)) (by decide +kernel) rfl ?_
              rcases obr_some h with ⟨o73, e85, h⟩ | e85
              · refine g69L183_ok hF hL hrc FU _ _ _ _ _ _ _ _ _ ⟨rfl, rfl, rfl, rfl, rfl, trivial⟩ _ e85 _ (fun o' e' => ?_) (fun o' e' => by cases e')
                cases e'
                intro d74 d75 d76 d77 d78 d79 d80 d81 d82 d83 d84 hd86
                refine Ru.kI (q := (.iconst 1, 1)) (c := 1) (pc' := 245) (by decide +kernel) rfl (by decide) rfl ?_
                cases h
                exact Ru.iret (by decide +kernel) rfl (nar_b1 (by decide))
              · exact g69L183_ok hF hL hrc FU _ _ _ _ _ _ _ _ _ ⟨rfl, rfl, rfl, rfl, rfl, trivial⟩ _ e85 _ (fun o' e' => by cases e') (fun o' e' => by cases e'; rfl)
          · replace h := if_f b35 h
            refine Ru.br2 (k := .ge) (off := 25) (bb := true) (tg := 159) (by decide +kernel) (by decide +kernel) (ci_ge1 g33 (by decide) b35) rfl ?_
            refine Ru.kI (q := (.iconst 0, 1)) (c := 0) (pc' := 160) (by decide +kernel) rfl (by decide) rfl ?_
            cases h
            exact Ru.iret (by decide +kernel) rfl (nar_b1 (by decide))
        · replace h := if_f b34 h
          refine Ru.br (k := .ne) (off := 7) (bb := true) (tg := 128) (by decide +kernel) (by decide +kernel) (cz (ci_ne1 g33 (by decide) b34)) rfl ?_
          refine Ru.kI (q := (.iconst 0, 1)) (c := 0) (pc' := 129) (by decide +kernel) rfl (by decide) rfl ?_
          refine Ru.op (q := (.istore 8, 2)) (S' := (131, [some (.ref 20), some (vI v1), some (vI v2), some (vI v3), some (vI o1), some (vI o3), some (vI o3), some (vI o3), some (vI 0), none, none], [], _, _)) (by decide +kernel) rfl ?_
          refine Ru.op (q := (.iload_n 3, 1)) (S' := (132, _, _, _, _)) (by decide +kernel) rfl ?_
          refine Ru.kI (q := (.bipush 40, 2)) (c := 40) (pc' := 134) (by decide +kernel) rfl (by decide) rfl ?_
          by_cases b87 : v3 < 40
          · replace h := if_t b87 h
            refine Ru.br2 (k := .ge) (off := 25) (bb := false) (tg := 137) (by decide +kernel) (by decide +kernel) (ci_ge0 g33 (by decide) b87) rfl ?_
            refine Ru.op (q := (.aload_n 0, 1)) (S' := (138, _, _, _, _)) (by decide +kernel) rfl ?_
            refine Ru.getR (pc' := 141) (i := 9) (ci := 6) (k := 0) (nn := 0) (z := 0) (v := .ref 21) (by decide +kernel) (by decide +kernel) (hp20 _) (by decide) rfl rfl ?_
            refine Ru.op (q := (.iload 6, 2)) (S' := (143, _, _, _, _)) (by decide +kernel) rfl ?_
            refine Ru.ildI (pc' := 144) (i := o3) (z := (S.A 21 o3)) (by decide +kernel) (hp21 _) g25 (eI_of _) rfl ?_
            refine Ru.op (q := (.aload_n 0, 1)) (S' := (145, _, _, _, _)) (by decide +kernel) rfl ?_
            refine Ru.getR (pc' := 148) (i := 9) (ci := 6) (k := 0) (nn := 0) (z := 0) (v := .ref 21) (by decide +kernel) (by decide +kernel) (hp20 _) (by decide) rfl rfl ?_
            refine Ru.op (q := (.iload 7, 2)) (S' := (150, _, _, _, _)) (by decide +kernel) rfl ?_
            refine Ru.ildI (pc' := 151) (i := o3) (z := (S.A 21 o3)) (by decide +kernel) (hp21 _) g25 (eI_of _) rfl ?_
            by_cases b88 : (S.A 21 o3) = (S.A 21 o3)
            · replace h := if_t b88 h
              refine Ru.br2 (k := .eq) (off := 10) (bb := true) (tg := 161) (by decide +kernel) (by decide +kernel) (ci_eq1 (inR_to _) (inR_to _) b88) rfl ?_
              refine Ru.op (q := (.aload_n 0, 1)) (S' := (162, _, _, _, _)) (by decide +kernel) rfl ?_
              refine Ru.getR (pc' := 165) (i := 9) (ci := 6) (k := 0) (nn := 0) (z := 0) (v := .ref 21) (by decide +kernel) (by decide +kernel) (hp20 _) (by decide) rfl rfl ?_
              refine Ru.op (q := (.iload 6, 2)) (S' := (167, _, _, _, _)) (by decide +kernel) rfl ?_
              refine Ru.ildI (pc' := 168) (i := o3) (z := (S.A 21 o3)) (by decide +kernel) (hp21 _) g25 (eI_of _) rfl ?_
              refine Ru.kI (q := (.sipush 255, 3)) (c := 255) (pc' := 171) (by decide +kernel) rfl (by decide) rfl ?_
              refine Ru.ar2 (i := .iand) (z := ((S.A 21 o3) % 256)) (pc' := 172) (by decide +kernel) rfl (ar_and _) rfl ?_
              refine Ru.op (q := (.istore 9, 2)) (S' := (174, [some (.ref 20), some (vI v1), some (vI v2), some (vI v3), some (vI o1), some (vI o3), some (vI o3), some (vI o3), some (vI 0), some (vI ((S.A 21 o3) % 256)), none], [], _, _)) (by decide +kernel) rfl ?_
              refine Ru.inc (k := 6) (n := 1) (x := o3) (z := (o3 + 1)) (xs' := [some (.ref 20), some (vI v1), some (vI v2), some (vI v3), some (vI o1), some (vI o3), some (vI (o3 + 1)), some (vI o3), some (vI 0), some (vI ((S.A 21 o3) % 256)), none]) (pc' := 177) (by decide +kernel) rfl rfl rfl rfl ?_
              refine Ru.inc (k := 7) (n := 1) (x := o3) (z := (o3 + 1)) (xs' := [some (.ref 20), some (vI v1), some (vI v2), some (vI v3), some (vI o1), some (vI o3), some (vI (o3 + 1)), some (vI (o3 + 1)), some (vI 0), some (vI ((S.A 21 o3) % 256)), none]) (pc' := 180) (by decide +kernel) rfl rfl rfl rfl ?_
              refine Ru.kI (q := (.iconst 0, 1)) (c := 0) (pc' := 181) (by decide +kernel) rfl (by decide) rfl ?_
              refine Ru.op (q := (.istore 10, 2)) (S' := (183, [some (.ref 20), some (vI v1), some (vI v2), some (vI v3), some (vI o1), some (vI o3), some (vI (o3 + 1)), some (vI (o3 + 1)), some (vI 0), some (vI ((S.A 21 o3) % 256)), some (vI 0)], [], _, _)) (by decide +kernel) rfl ?_
              rcases obr_some h with ⟨o89, e101, h⟩ | e101
              · refine g69L183_ok hF hL hrc FU _ _ _ _ _ _ _ _ _ ⟨rfl, rfl, rfl, rfl, rfl, trivial⟩ _ e101 _ (fun o' e' => ?_) (fun o' e' => by cases e')
                cases e'
                intro d90 d91 d92 d93 d94 d95 d96 d97 d98 d99 d100 hd102
                refine Ru.kI (q := (.iconst 1, 1)) (c := 1) (pc' := 245) (by decide +kernel) rfl (by decide) rfl ?_
                cases h
                exact Ru.iret (by decide +kernel) rfl (nar_b1 (by decide))
              · exact g69L183_ok hF hL hrc FU _ _ _ _ _ _ _ _ _ ⟨rfl, rfl, rfl, rfl, rfl, trivial⟩ _ e101 _ (fun o' e' => by cases e') (fun o' e' => by cases e'; rfl)
            · replace h := if_f b88 h
              refine Ru.br2 (k := .eq) (off := 10) (bb := false) (tg := 154) (by decide +kernel) (by decide +kernel) (ci_eq0 (inR_to _) (inR_to _) b88) rfl ?_
              refine Ru.op (q := (.iload 8, 2)) (S' := (156, _, _, _, _)) (by decide +kernel) rfl ?_
              refine Ru.br (k := .ne) (off := 5) (bb := false) (tg := 159) (by decide +kernel) (by decide +kernel) (by decide) rfl ?_
              refine Ru.kI (q := (.iconst 0, 1)) (c := 0) (pc' := 160) (by decide +kernel) rfl (by decide) rfl ?_
              cases h
              exact Ru.iret (by decide +kernel) rfl (nar_b1 (by decide))
          · replace h := if_f b87 h
            refine Ru.br2 (k := .ge) (off := 25) (bb := true) (tg := 159) (by decide +kernel) (by decide +kernel) (ci_ge1 g33 (by decide) b87) rfl ?_
            refine Ru.kI (q := (.iconst 0, 1)) (c := 0) (pc' := 160) (by decide +kernel) rfl (by decide) rfl ?_
            cases h
            exact Ru.iret (by decide +kernel) rfl (nar_b1 (by decide))
    · replace h := if_f b24 h
      refine Ru.br2 (k := .ne) (off := 8) (bb := true) (tg := 47) (by decide +kernel) (by decide +kernel) (ci_ne1 g22 g23 b24) rfl ?_
      refine Ru.op (q := (.iload 4, 2)) (S' := (49, _, _, _, _)) (by decide +kernel) rfl ?_
      refine Ru.op (q := (.istore 7, 2)) (S' := (51, [some (.ref 20), some (vI v1), some (vI v2), some (vI v3), some (vI o1), some (vI o3), some (vI o3), some (vI o1), none, none, none], [], _, _)) (by decide +kernel) rfl ?_
      refine Ru.op (q := (.aload_n 0, 1)) (S' := (52, _, _, _, _)) (by decide +kernel) rfl ?_
      refine Ru.getR (pc' := 55) (i := 9) (ci := 6) (k := 0) (nn := 0) (z := 0) (v := .ref 21) (by decide +kernel) (by decide +kernel) (hp20 _) (by decide) rfl rfl ?_
      refine Ru.op (q := (.iload 6, 2)) (S' := (57, _, _, _, _)) (by decide +kernel) rfl ?_
      obtain ⟨g103, h⟩ := gd_some h
      refine Ru.ildI (pc' := 58) (i := o3) (z := (S.A 21 o3)) (by decide +kernel) (hp21 _) g103 (eI_of _) rfl ?_
      refine Ru.kI (q := (.ldc 50, 2)) (c := 32768) (pc' := 60) (by decide +kernel) rfl (by decide) rfl ?_
      by_cases b104 : (S.A 21 o3) < 32768
      · replace h := if_t b104 h
        refine Ru.br2 (k := .ge) (off := 60) (bb := false) (tg := 63) (by decide +kernel) (by decide +kernel) (ci_ge0 (inR_to _) (by decide) b104) rfl ?_
        refine Ru.op (q := (.aload_n 0, 1)) (S' := (64, _, _, _, _)) (by decide +kernel) rfl ?_
        refine Ru.getR (pc' := 67) (i := 9) (ci := 6) (k := 0) (nn := 0) (z := 0) (v := .ref 21) (by decide +kernel) (by decide +kernel) (hp20 _) (by decide) rfl rfl ?_
        refine Ru.op (q := (.iload 6, 2)) (S' := (69, _, _, _, _)) (by decide +kernel) rfl ?_
        refine Ru.ildI (pc' := 70) (i := o3) (z := (S.A 21 o3)) (by decide +kernel) (hp21 _) g103 (eI_of _) rfl ?_
        refine Ru.op (q := (.aload_n 0, 1)) (S' := (71, _, _, _, _)) (by decide +kernel) rfl ?_
        refine Ru.getR (pc' := 74) (i := 9) (ci := 6) (k := 0) (nn := 0) (z := 0) (v := .ref 21) (by decide +kernel) (by decide +kernel) (hp20 _) (by decide) rfl rfl ?_
        refine Ru.op (q := (.iload 7, 2)) (S' := (76, _, _, _, _)) (by decide +kernel) rfl ?_
        refine Ru.ildI (pc' := 77) (i := o1) (z := (S.A 21 o1)) (by decide +kernel) (hp21 _) g5 (eI_of _) rfl ?_
        by_cases b105 : (S.A 21 o3) = (S.A 21 o1)
        · replace h := if_t b105 h
          refine Ru.br2 (k := .ne) (off := 5) (bb := false) (tg := 80) (by decide +kernel) (by decide +kernel) (ci_ne0 (inR_to _) (inR_to _) b105) rfl ?_
          refine Ru.kI (q := (.iconst 1, 1)) (c := 1) (pc' := 81) (by decide +kernel) rfl (by decide) rfl ?_
          cases h
          exact Ru.iret (by decide +kernel) rfl (nar_b1 (by decide))
        · replace h := if_f b105 h
          refine Ru.br2 (k := .ne) (off := 5) (bb := true) (tg := 82) (by decide +kernel) (by decide +kernel) (ci_ne1 (inR_to _) (inR_to _) b105) rfl ?_
          refine Ru.op (q := (.aload_n 0, 1)) (S' := (83, _, _, _, _)) (by decide +kernel) rfl ?_
          refine Ru.op (q := (.aload_n 0, 1)) (S' := (84, _, _, _, _)) (by decide +kernel) rfl ?_
          refine Ru.getR (pc' := 87) (i := 9) (ci := 6) (k := 0) (nn := 0) (z := 0) (v := .ref 21) (by decide +kernel) (by decide +kernel) (hp20 _) (by decide) rfl rfl ?_
          refine Ru.op (q := (.iload 6, 2)) (S' := (89, _, _, _, _)) (by decide +kernel) rfl ?_
          refine Ru.ildI (pc' := 90) (i := o3) (z := (S.A 21 o3)) (by decide +kernel) (hp21 _) g103 (eI_of _) rfl ?_
          refine Ru.op (q := (.iload 7, 2)) (S' := (92, _, _, _, _)) (by decide +kernel) rfl ?_
          refine Ru.kI (q := (.iconst 0, 1)) (c := 0) (pc' := 93) (by decide +kernel) rfl (by decide) rfl ?_
          obtain ⟨o106, e107, h⟩ := ob_some h
          refine Ru.vcallI (pc' := 96) (st' := [vI o106]) (i := 77) (j2 := 71) (ci := 6) (k := 0) (z := 0) (as := [vI (S.A 21 o3), vI o1, vI 0]) (by decide +kernel) (by decide +kernel) rfl rfl (hp20 _) (by decide) ⟨(by omega), (by show 19 + 8 ≤ (LO + 30); omega), Nat.le_of_ble_eq_true rfl, Nat.le_of_ble_eq_true rfl⟩ ((g71_ok 64 e107).up (by omega) (by show _ ≤ (LO + 30) - (19 + 8); omega)) rfl rfl ?_
          obtain ⟨g108, h⟩ := gd_some h
          by_cases b109 : o106 = 0
          · replace h := if_t b109 h
            refine Ru.br (k := .eq) (off := 5) (bb := true) (tg := 101) (by decide +kernel) (by decide +kernel) (cz (ci_eq1 g108 (by decide) b109)) rfl ?_
            refine Ru.op (q := (.aload_n 0, 1)) (S' := (102, _, _, _, _)) (by decide +kernel) rfl ?_
            refine Ru.getR (pc' := 105) (i := 15) (ci := 6) (k := 1) (nn := 0) (z := 0) (v := .ref 22) (by decide +kernel) (by decide +kernel) (hp20 _) (by decide) rfl rfl ?_
            refine Ru.op (q := (.aload_n 0, 1)) (S' := (106, _, _, _, _)) (by decide +kernel) rfl ?_
            refine Ru.getR (pc' := 109) (i := 9) (ci := 6) (k := 0) (nn := 0) (z := 0) (v := .ref 21) (by decide +kernel) (by decide +kernel) (hp20 _) (by decide) rfl rfl ?_
            refine Ru.op (q := (.iload 6, 2)) (S' := (111, _, _, _, _)) (by decide +kernel) rfl ?_
            refine Ru.ildI (pc' := 112) (i := o3) (z := (S.A 21 o3)) (by decide +kernel) (hp21 _) g103 (eI_of _) rfl ?_
            refine Ru.kI (q := (.bipush 8, 2)) (c := 8) (pc' := 114) (by decide +kernel) rfl (by decide) rfl ?_
            refine Ru.ar2 (i := .ishr) (z := ((S.A 21 o3) / 256)) (pc' := 115) (by decide +kernel) rfl (ar_shr (inR_to _)) rfl ?_
            refine Ru.op (q := (.iload 7, 2)) (S' := (117, _, _, _, _)) (by decide +kernel) rfl ?_
            obtain ⟨g110, h⟩ := gd_some h
            refine Ru.istI (pc' := 118) (i := ((S.A 21 o3) / 256)) (x := o1) (by decide +kernel) (hp22 _) g110 (ps_22 _ _ _) rfl ?_
            refine Ru.kI (q := (.iconst 1, 1)) (c := 1) (pc' := 119) (by decide +kernel) rfl (by decide) rfl ?_
            cases h
            exact Ru.iret (by decide +kernel) rfl (nar_b1 (by decide))
          · replace h := if_f b109 h
            refine Ru.br (k := .eq) (off := 5) (bb := false) (tg := 99) (by decide +kernel) (by decide +kernel) (cz (ci_eq0 g108 (by decide) b109)) rfl ?_
            refine Ru.kI (q := (.iconst 0, 1)) (c := 0) (pc' := 100) (by decide +kernel) rfl (by decide) rfl ?_
            cases h
            exact Ru.iret (by decide +kernel) rfl (nar_b1 (by decide))
      · replace h := if_f b104 h
        refine Ru.br2 (k := .ge) (off := 60) (bb := true) (tg := 120) (by decide +kernel) (by decide +kernel) (ci_ge1 (inR_to _) (by decide) b104) rfl ?_
        refine Ru.op (q := (.iload_n 3, 1)) (S' := (121, _, _, _, _)) (by decide +kernel) rfl ?_
        obtain ⟨g111, h⟩ := gd_some h
        by_cases b112 : v3 = 0
        · replace h := if_t b112 h
          refine Ru.br (k := .ne) (off := 7) (bb := false) (tg := 124) (by decide +kernel) (by decide +kernel) (cz (ci_ne0 g111 (by decide) b112)) rfl ?_
          refine Ru.kI (q := (.iconst 1, 1)) (c := 1) (pc' := 125) (by decide +kernel) rfl (by decide) rfl ?_
          refine Ru.op (q := (.goto 4, 3)) (S' := (129, _, _, _, _)) (by decide +kernel) rfl ?_
          refine Ru.op (q := (.istore 8, 2)) (S' := (131, [some (.ref 20), some (vI v1), some (vI v2), some (vI v3), some (vI o1), some (vI o3), some (vI o3), some (vI o1), some (vI 1), none, none], [], _, _)) (by decide +kernel) rfl ?_
          refine Ru.op (q := (.iload_n 3, 1)) (S' := (132, _, _, _, _)) (by decide +kernel) rfl ?_
          refine Ru.kI (q := (.bipush 40, 2)) (c := 40) (pc' := 134) (by decide +kernel) rfl (by decide) rfl ?_
          by_cases b113 : v3 < 40
          · replace h := if_t b113 h
            refine Ru.br2 (k := .ge) (off := 25) (bb := false) (tg := 137) (by decide +kernel) (by decide +kernel) (ci_ge0 g111 (by decide) b113) rfl ?_
            refine Ru.op (q := (.aload_n 0, 1)) (S' := (138, _, _, _, _)) (by decide +kernel) rfl ?_
            refine Ru.getR (pc' := 141) (i := 9) (ci := 6) (k := 0) (nn := 0) (z := 0) (v := .ref 21) (by decide +kernel) (by decide +kernel) (hp20 _) (by decide) rfl rfl ?_
            refine Ru.op (q := (.iload 6, 2)) (S' := (143, _, _, _, _)) (by decide +kernel) rfl ?_
            refine Ru.ildI (pc' := 144) (i := o3) (z := (S.A 21 o3)) (by decide +kernel) (hp21 _) g103 (eI_of _) rfl ?_
            refine Ru.op (q := (.aload_n 0, 1)) (S' := (145, _, _, _, _)) (by decide +kernel) rfl ?_
            refine Ru.getR (pc' := 148) (i := 9) (ci := 6) (k := 0) (nn := 0) (z := 0) (v := .ref 21) (by decide +kernel) (by decide +kernel) (hp20 _) (by decide) rfl rfl ?_
            refine Ru.op (q := (.iload 7, 2)) (S' := (150, _, _, _, _)) (by decide +kernel) rfl ?_
            refine Ru.ildI (pc' := 151) (i := o1) (z := (S.A 21 o1)) (by decide +kernel) (hp21 _) g5 (eI_of _) rfl ?_
            by_cases b114 : (S.A 21 o3) = (S.A 21 o1)
            · replace h := if_t b114 h
              refine Ru.br2 (k := .eq) (off := 10) (bb := true) (tg := 161) (by decide +kernel) (by decide +kernel) (ci_eq1 (inR_to _) (inR_to _) b114) rfl ?_
              refine Ru.op (q := (.aload_n 0, 1)) (S' := (162, _, _, _, _)) (by decide +kernel) rfl ?_
              refine Ru.getR (pc' := 165) (i := 9) (ci := 6) (k := 0) (nn := 0) (z := 0) (v := .ref 21) (by decide +kernel) (by decide +kernel) (hp20 _) (by decide) rfl rfl ?_
              refine Ru.op (q := (.iload 6, 2)) (S' := (167, _, _, _, _)) (by decide +kernel) rfl ?_
              refine Ru.ildI (pc' := 168) (i := o3) (z := (S.A 21 o3)) (by decide +kernel) (hp21 _) g103 (eI_of _) rfl ?_
              refine Ru.kI (q := (.sipush 255, 3)) (c := 255) (pc' := 171) (by decide +kernel) rfl (by decide) rfl ?_
              refine Ru.ar2 (i := .iand) (z := ((S.A 21 o3) % 256)) (pc' := 172) (by decide +kernel) rfl (ar_and _) rfl ?_
              refine Ru.op (q := (.istore 9, 2)) (S' := (174, [some (.ref 20), some (vI v1), some (vI v2), some (vI v3), some (vI o1), some (vI o3), some (vI o3), some (vI o1), some (vI 1), some (vI ((S.A 21 o3) % 256)), none], [], _, _)) (by decide +kernel) rfl ?_
              refine Ru.inc (k := 6) (n := 1) (x := o3) (z := (o3 + 1)) (xs' := [some (.ref 20), some (vI v1), some (vI v2), some (vI v3), some (vI o1), some (vI o3), some (vI (o3 + 1)), some (vI o1), some (vI 1), some (vI ((S.A 21 o3) % 256)), none]) (pc' := 177) (by decide +kernel) rfl rfl rfl rfl ?_
              refine Ru.inc (k := 7) (n := 1) (x := o1) (z := (o1 + 1)) (xs' := [some (.ref 20), some (vI v1), some (vI v2), some (vI v3), some (vI o1), some (vI o3), some (vI (o3 + 1)), some (vI (o1 + 1)), some (vI 1), some (vI ((S.A 21 o3) % 256)), none]) (pc' := 180) (by decide +kernel) rfl rfl rfl rfl ?_
              refine Ru.kI (q := (.iconst 0, 1)) (c := 0) (pc' := 181) (by decide +kernel) rfl (by decide) rfl ?_
              refine Ru.op (q := (.istore 10, 2)) (S' := (183, [some (.ref 20), some (vI v1), some (vI v2), some (vI v3), some (vI o1), some (vI o3), some (vI (o3 + 1)), some (vI (o1 + 1)), some (vI 1), some (vI ((S.A 21 o3) % 256)), some (vI 0)], [], _, _)) (by decide +kernel) rfl ?_
              rcases obr_some h with ⟨o115, e127, h⟩ | e127
              · refine g69L183_ok hF hL hrc FU _ _ _ _ _ _ _ _ _ ⟨rfl, rfl, rfl, rfl, rfl, trivial⟩ _ e127 _ (fun o' e' => ?_) (fun o' e' => by cases e')
                cases e'
                intro d116 d117 d118 d119 d120 d121 d122 d123 d124 d125 d126 hd128
                refine Ru.kI (q := (.iconst 1, 1)) (c := 1) (pc' := 245) (by decide +kernel) rfl (by decide) rfl ?_
                cases h
                exact Ru.iret (by decide +kernel) rfl (nar_b1 (by decide))
              · exact g69L183_ok hF hL hrc FU _ _ _ _ _ _ _ _ _ ⟨rfl, rfl, rfl, rfl, rfl, trivial⟩ _ e127 _ (fun o' e' => by cases e') (fun o' e' => by cases e'; rfl)
            · replace h := if_f b114 h
              refine Ru.br2 (k := .eq) (off := 10) (bb := false) (tg := 154) (by decide +kernel) (by decide +kernel) (ci_eq0 (inR_to _) (inR_to _) b114) rfl ?_
              refine Ru.op (q := (.iload 8, 2)) (S' := (156, _, _, _, _)) (by decide +kernel) rfl ?_
              refine Ru.br (k := .ne) (off := 5) (bb := true) (tg := 161) (by decide +kernel) (by decide +kernel) (by decide) rfl ?_
              refine Ru.op (q := (.aload_n 0, 1)) (S' := (162, _, _, _, _)) (by decide +kernel) rfl ?_
              refine Ru.getR (pc' := 165) (i := 9) (ci := 6) (k := 0) (nn := 0) (z := 0) (v := .ref 21) (by decide +kernel) (by decide +kernel) (hp20 _) (by decide) rfl rfl ?_
              refine Ru.op (q := (.iload 6, 2)) (S' := (167, _, _, _, _)) (by decide +kernel) rfl ?_
              refine Ru.ildI (pc' := 168) (i := o3) (z := (S.A 21 o3)) (by decide +kernel) (hp21 _) g103 (eI_of _) rfl ?_
              refine Ru.kI (q := (.sipush 255, 3)) (c := 255) (pc' := 171) (by decide +kernel) rfl (by decide) rfl ?_
              refine Ru.ar2 (i := .iand) (z := ((S.A 21 o3) % 256)) (pc' := 172) (by decide +kernel) rfl (ar_and _) rfl ?_
              refine Ru.op (q := (.istore 9, 2)) (S' := (174, [some (.ref 20), some (vI v1), some (vI v2), some (vI v3), some (vI o1), some (vI o3), some (vI o3), some (vI o1), some (vI 1), some (vI ((S.A 21 o3) % 256)), none], [], _, _)) (by decide +kernel) rfl ?_
              refine Ru.inc (k := 6) (n := 1) (x := o3) (z := (o3 + 1)) (xs' := [some (.ref 20), some (vI v1), some (vI v2), some (vI v3), some (vI o1), some (vI o3), some (vI (o3 + 1)), some (vI o1), some (vI 1), some (vI ((S.A 21 o3) % 256)), none]) (pc' := 177) (by decide +kernel) rfl rfl rfl rfl ?_
              refine Ru.inc (k := 7) (n := 1) (x := o1) (z := (o1 + 1)) (xs' := [some (.ref 20), some (vI v1), some (vI v2), some (vI v3), some (vI o1), some (vI o3), some (vI (o3 + 1)), some (vI (o1 + 1)), some (vI 1), some (vI ((S.A 21 o3) % 256)), none]) (pc' := 180) (by decide +kernel) rfl rfl rfl rfl ?_
              refine Ru.kI (q := (.iconst 0, 1)) (c := 0) (pc' := 181) (by decide +kernel) rfl (by decide) rfl ?_
              refine Ru.op (q := (.istore 10, 2)) (S' := (183, [some (.ref 20), some (vI v1), some (vI v2), some (vI v3), some (vI o1), some (vI o3), some (vI (o3 + 1)), some (vI (o1 + 1)), some (vI 1), some (vI ((S.A 21 o3) % 256)), some (vI 0)], [], _, _)) (by decide +kernel) rfl ?_
              rcases obr_some h with ⟨o129, e141, h⟩ | e141
              · refine g69L183_ok hF hL hrc FU _ _ _ _ _ _ _ _ _ ⟨rfl, rfl, rfl, rfl, rfl, trivial⟩ _ e141 _ (fun o' e' => ?_) (fun o' e' => by cases e')
                cases e'
                intro d130 d131 d132 d133 d134 d135 d136 d137 d138 d139 d140 hd142
                refine Ru.kI (q := (.iconst 1, 1)) (c := 1) (pc' := 245) (by decide +kernel) rfl (by decide) rfl ?_
                cases h
                exact Ru.iret (by decide +kernel) rfl (nar_b1 (by decide))
              · exact g69L183_ok hF hL hrc FU _ _ _ _ _ _ _ _ _ ⟨rfl, rfl, rfl, rfl, rfl, trivial⟩ _ e141 _ (fun o' e' => by cases e') (fun o' e' => by cases e'; rfl)
          · replace h := if_f b113 h
            refine Ru.br2 (k := .ge) (off := 25) (bb := true) (tg := 159) (by decide +kernel) (by decide +kernel) (ci_ge1 g111 (by decide) b113) rfl ?_
            refine Ru.kI (q := (.iconst 0, 1)) (c := 0) (pc' := 160) (by decide +kernel) rfl (by decide) rfl ?_
            cases h
            exact Ru.iret (by decide +kernel) rfl (nar_b1 (by decide))
        · replace h := if_f b112 h
          refine Ru.br (k := .ne) (off := 7) (bb := true) (tg := 128) (by decide +kernel) (by decide +kernel) (cz (ci_ne1 g111 (by decide) b112)) rfl ?_
          refine Ru.kI (q := (.iconst 0, 1)) (c := 0) (pc' := 129) (by decide +kernel) rfl (by decide) rfl ?_
          refine Ru.op (q := (.istore 8, 2)) (S' := (131, [some (.ref 20), some (vI v1), some (vI v2), some (vI v3), some (vI o1), some (vI o3), some (vI o3), some (vI o1), some (vI 0), none, none], [], _, _)) (by decide +kernel) rfl ?_
          refine Ru.op (q := (.iload_n 3, 1)) (S' := (132, _, _, _, _)) (by decide +kernel) rfl ?_
          refine Ru.kI (q := (.bipush 40, 2)) (c := 40) (pc' := 134) (by decide +kernel) rfl (by decide) rfl ?_
          by_cases b143 : v3 < 40
          · replace h := if_t b143 h
            refine Ru.br2 (k := .ge) (off := 25) (bb := false) (tg := 137) (by decide +kernel) (by decide +kernel) (ci_ge0 g111 (by decide) b143) rfl ?_
            refine Ru.op (q := (.aload_n 0, 1)) (S' := (138, _, _, _, _)) (by decide +kernel) rfl ?_
            refine Ru.getR (pc' := 141) (i := 9) (ci := 6) (k := 0) (nn := 0) (z := 0) (v := .ref 21) (by decide +kernel) (by decide +kernel) (hp20 _) (by decide) rfl rfl ?_
            refine Ru.op (q := (.iload 6, 2)) (S' := (143, _, _, _, _)) (by decide +kernel) rfl ?_
            refine Ru.ildI (pc' := 144) (i := o3) (z := (S.A 21 o3)) (by decide +kernel) (hp21 _) g103 (eI_of _) rfl ?_
            refine Ru.op (q := (.aload_n 0, 1)) (S' := (145, _, _, _, _)) (by decide +kernel) rfl ?_
            refine Ru.getR (pc' := 148) (i := 9) (ci := 6) (k := 0) (nn := 0) (z := 0) (v := .ref 21) (by decide +kernel) (by decide +kernel) (hp20 _) (by decide) rfl rfl ?_
            refine Ru.op (q := (.iload 7, 2)) (S' := (150, _, _, _, _)) (by decide +kernel) rfl ?_
            refine Ru.ildI (pc' := 151) (i := o1) (z := (S.A 21 o1)) (by decide +kernel) (hp21 _) g5 (eI_of _) rfl ?_
            by_cases b144 : (S.A 21 o3) = (S.A 21 o1)
            · replace h := if_t b144 h
              refine Ru.br2 (k := .eq) (off := 10) (bb := true) (tg := 161) (by decide +kernel) (by decide +kernel) (ci_eq1 (inR_to _) (inR_to _) b144) rfl ?_
              refine Ru.op (q := (.aload_n 0, 1)) (S' := (162, _, _, _, _)) (by decide +kernel) rfl ?_
              refine Ru.getR (pc' := 165) (i := 9) (ci := 6) (k := 0) (nn := 0) (z := 0) (v := .ref 21) (by decide +kernel) (by decide +kernel) (hp20 _) (by decide) rfl rfl ?_
              refine Ru.op (q := (.iload 6, 2)) (S' := (167, _, _, _, _)) (by decide +kernel) rfl ?_
              refine Ru.ildI (pc' := 168) (i := o3) (z := (S.A 21 o3)) (by decide +kernel) (hp21 _) g103 (eI_of _) rfl ?_
              refine Ru.kI (q := (.sipush 255, 3)) (c := 255) (pc' := 171) (by decide +kernel) rfl (by decide) rfl ?_
              refine Ru.ar2 (i := .iand) (z := ((S.A 21 o3) % 256)) (pc' := 172) (by decide +kernel) rfl (ar_and _) rfl ?_
              refine Ru.op (q := (.istore 9, 2)) (S' := (174, [some (.ref 20), some (vI v1), some (vI v2), some (vI v3), some (vI o1), some (vI o3), some (vI o3), some (vI o1), some (vI 0), some (vI ((S.A 21 o3) % 256)), none], [], _, _)) (by decide +kernel) rfl ?_
              refine Ru.inc (k := 6) (n := 1) (x := o3) (z := (o3 + 1)) (xs' := [some (.ref 20), some (vI v1), some (vI v2), some (vI v3), some (vI o1), some (vI o3), some (vI (o3 + 1)), some (vI o1), some (vI 0), some (vI ((S.A 21 o3) % 256)), none]) (pc' := 177) (by decide +kernel) rfl rfl rfl rfl ?_
              refine Ru.inc (k := 7) (n := 1) (x := o1) (z := (o1 + 1)) (xs' := [some (.ref 20), some (vI v1), some (vI v2), some (vI v3), some (vI o1), some (vI o3), some (vI (o3 + 1)), some (vI (o1 + 1)), some (vI 0), some (vI ((S.A 21 o3) % 256)), none]) (pc' := 180) (by decide +kernel) rfl rfl rfl rfl ?_
              refine Ru.kI (q := (.iconst 0, 1)) (c := 0) (pc' := 181) (by decide +kernel) rfl (by decide) rfl ?_
              refine Ru.op (q := (.istore 10, 2)) (S' := (183, [some (.ref 20), some (vI v1), some (vI v2), some (vI v3), some (vI o1), some (vI o3), some (vI (o3 + 1)), some (vI (o1 + 1)), some (vI 0), some (vI ((S.A 21 o3) % 256)), some (vI 0)], [], _, _)) (by decide +kernel) rfl ?_
              rcases obr_some h with ⟨o145, e157, h⟩ | e157
              · refine g69L183_ok hF hL hrc FU _ _ _ _ _ _ _ _ _ ⟨rfl, rfl, rfl, rfl, rfl, trivial⟩ _ e157 _ (fun o' e' => ?_) (fun o' e' => by cases e')
                cases e'
                intro d146 d147 d148 d149 d150 d151 d152 d153 d154 d155 d156 hd158
                refine Ru.kI (q := (.iconst 1, 1)) (c := 1) (pc' := 245) (by decide +kernel) rfl (by decide) rfl ?_
                cases h
                exact Ru.iret (by decide +kernel) rfl (nar_b1 (by decide))
              · exact g69L183_ok hF hL hrc FU _ _ _ _ _ _ _ _ _ ⟨rfl, rfl, rfl, rfl, rfl, trivial⟩ _ e157 _ (fun o' e' => by cases e') (fun o' e' => by cases e'; rfl)
            · replace h := if_f b144 h
              refine Ru.br2 (k := .eq) (off := 10) (bb := false) (tg := 154) (by decide +kernel) (by decide +kernel) (ci_eq0 (inR_to _) (inR_to _) b144) rfl ?_
              refine Ru.op (q := (.iload 8, 2)) (S' := (156, _, _, _, _)) (by decide +kernel) rfl ?_
              refine Ru.br (k := .ne) (off := 5) (bb := false) (tg := 159) (by decide +kernel) (by decide +kernel) (by decide) rfl ?_
              refine Ru.kI (q := (.iconst 0, 1)) (c := 0) (pc' := 160) (by decide +kernel) rfl (by decide) rfl ?_
              cases h
              exact Ru.iret (by decide +kernel) rfl (nar_b1 (by decide))
          · replace h := if_f b143 h
            refine Ru.br2 (k := .ge) (off := 25) (bb := true) (tg := 159) (by decide +kernel) (by decide +kernel) (ci_ge1 g111 (by decide) b143) rfl ?_
            refine Ru.kI (q := (.iconst 0, 1)) (c := 0) (pc' := 160) (by decide +kernel) rfl (by decide) rfl ?_
            cases h
            exact Ru.iret (by decide +kernel) rfl (nar_b1 (by decide))
theorem g69_ok : ∀ (n : Nat) {S : St} {v1 : Int} {v2 : Int} {v3 : Int} {o : Int × St}, g69 n S v1 v2 v3 = some o → Ru none (76 + 1 * n) (1979 + 30 * n) 69 (0, mn_pad (mn_ent [.ref 20, vI v1, vI v2, vI v3]) 11, [], S.ns, Hp S) ((0, some (vI o.1)), o.2.ns, Hp o.2) := by
  intro n
  induction n with
  | zero => intro S v1 v2 v3 o h; cases h
  | succ n ih => intro S v1 v2 v3 o h; exact (g69b_ok (FR := 76 + 1 * n) (LO := 1979 + 30 * n) (by omega) (by omega) ih h).up (by omega) (by omega)
set_option maxRecDepth 100000 in
set_option maxHeartbeats 4000000 in
theorem g73_15L52_ok {FR LO : Nat} {rc : St → Int → Int → Option (St)} (hF : 11 ≤ FR) (hL : 224 ≤ LO) (hrc : ∀ {S : St} {v1 : Int} {v3 : Int} {o : St}, rc S v1 v3 = some o → Ru none FR LO 73 (0, mn_pad (mn_ent [.ref 20, vI v1, .ref 15, vI v3]) 8, [], S.ns, Hp S) ((0, none), o.ns, Hp o)) {v3 : Int} {v5 : Int} : ∀ (n : Nat) (v6 : Int) (v7 : Int) (S : St) (d1 d4 : Option Value) (_ : DD [d1, d4]) (out : St), g73_15L52 rc v3 v5 n v6 v7 S = some out → ∀ r, (∀ (e0 e1 e2 e3 e4 e5 e6 e7 : Option Value), DD [e0, e1, e2, e3, e4, e5, e6, e7] → Ru none (FR + 1) (LO + 27) 73 (98, [e0, e1, e2, e3, e4, e5, e6, e7], [], out.ns, Hp out) r) → Ru none (FR + 1) (LO + 27) 73 (52, [some (.ref 20), d1, some (.ref 15), some (vI v3), d4, some (vI v5), some (vI v6), some (vI v7)], [], S.ns, Hp S) r := by
  intro n
  induction n with
  | zero => intro v6 v7 S d1 d4 hdd out h; cases h
  | succ n ih =>
    intro v6 v7 S d1 d4 hdd out h r hk
    unfold g73_15L52 at h
    refine Ru.op (q := (.iload 7, 2)) (S' := (54, _, _, _, _)) (by decide +kernel) rfl ?_
    refine Ru.op (q := (.iload 5, 2)) (S' := (56, _, _, _, _)) (by decide +kernel) rfl ?_
    obtain ⟨g8, h⟩ := gd_some h
    obtain ⟨g9, h⟩ := gd_some h
    by_cases b10 : v7 < v5
    · replace h := if_t b10 h
      refine Ru.br2 (k := .ge) (off := 42) (bb := false) (tg := 59) (by decide +kernel) (by decide +kernel) (ci_ge0 g8 g9 b10) rfl ?_
      refine Ru.op (q := (.aload_n 2, 1)) (S' := (60, _, _, _, _)) (by decide +kernel) rfl ?_
      refine Ru.getI (pc' := 63) (i := 61) (ci := 4) (k := 3) (nn := 0) (z := 0) (x := (S.F 15 3)) (by decide +kernel) (by decide +kernel) (hp15 _) (by decide) rfl (eI_of _) rfl ?_
      by_cases b11 : (S.F 15 3) = 0
      · replace h := if_t b11 h
        refine Ru.br (k := .ne) (off := 35) (bb := false) (tg := 66) (by decide +kernel) (by decide +kernel) (cz (ci_ne0 (inR_to _) (by decide) b11)) rfl ?_
        refine Ru.op (q := (.aload_n 0, 1)) (S' := (67, _, _, _, _)) (by decide +kernel) rfl ?_
        refine Ru.op (q := (.iload 6, 2)) (S' := (69, _, _, _, _)) (by decide +kernel) rfl ?_
        refine Ru.op (q := (.aload_n 2, 1)) (S' := (70, _, _, _, _)) (by decide +kernel) rfl ?_
        refine Ru.op (q := (.iload_n 3, 1)) (S' := (71, _, _, _, _)) (by decide +kernel) rfl ?_
        refine Ru.kI (q := (.iconst 1, 1)) (c := 1) (pc' := 72) (by decide +kernel) rfl (by decide) rfl ?_
        refine Ru.ar2 (i := .iadd) (z := (v3 + 1)) (pc' := 73) (by decide +kernel) rfl (ar_add _ _) rfl ?_
        obtain ⟨o12, e13, h⟩ := ob_some h
        refine Ru.vcallI (pc' := 76) (st' := []) (i := 54) (j2 := 73) (ci := 6) (k := 0) (z := 0) (as := [vI v6, .ref 15, vI (v3 + 1)]) (by decide +kernel) (by decide +kernel) rfl rfl (hp20 _) (by decide) ⟨(by omega), (by show 19 + 8 ≤ (LO + 27); omega), Nat.le_of_ble_eq_true rfl, Nat.le_of_ble_eq_true rfl⟩ ((hrc e13).up (by omega) (by show _ ≤ (LO + 27) - (19 + 8); omega)) rfl rfl ?_
        refine Ru.op (q := (.aload_n 0, 1)) (S' := (77, _, _, _, _)) (by decide +kernel) rfl ?_
        refine Ru.getR (pc' := 80) (i := 9) (ci := 6) (k := 0) (nn := 0) (z := 0) (v := .ref 21) (by decide +kernel) (by decide +kernel) (hp20 _) (by decide) rfl rfl ?_
        refine Ru.op (q := (.iload 6, 2)) (S' := (82, _, _, _, _)) (by decide +kernel) rfl ?_
        refine Ru.op (q := (.aload_n 0, 1)) (S' := (83, _, _, _, _)) (by decide +kernel) rfl ?_
        refine Ru.getR (pc' := 86) (i := 9) (ci := 6) (k := 0) (nn := 0) (z := 0) (v := .ref 21) (by decide +kernel) (by decide +kernel) (hp20 _) (by decide) rfl rfl ?_
        refine Ru.lenI (pc' := 87) (N := 32) (z := 32) (by decide +kernel) (hp21 _) (by decide) (aI_len _ _) rfl rfl ?_
        obtain ⟨o14, e15, h⟩ := ob_some h
        refine Ru.callI (pc' := 90) (q := (.invokestatic 73, 3)) (j2 := 57) (as := [.ref 21, vI v6, vI 32]) (st' := [vI o14]) (by decide +kernel) rfl rfl rfl rfl ⟨(by omega), (by show 19 + 5 ≤ (LO + 27); omega), Nat.le_of_ble_eq_true rfl, Nat.le_of_ble_eq_true rfl⟩ ((g57_ok e15).up (by omega) (by show _ ≤ (LO + 27) - (19 + 5); omega)) rfl rfl ?_
        refine Ru.op (q := (.istore 6, 2)) (S' := (92, [some (.ref 20), d1, some (.ref 15), some (vI v3), d4, some (vI v5), some (vI o14), some (vI v7)], [], _, _)) (by decide +kernel) rfl ?_
        refine Ru.inc (k := 7) (n := 1) (x := v7) (z := (v7 + 1)) (xs' := [some (.ref 20), d1, some (.ref 15), some (vI v3), d4, some (vI v5), some (vI o14), some (vI (v7 + 1))]) (pc' := 95) (by decide +kernel) rfl rfl rfl rfl ?_
        refine Ru.op (q := (.goto (-43), 3)) (S' := (52, _, _, _, _)) (by decide +kernel) rfl ?_
        exact ih _ _ _ _ _ ⟨hdd.1, hdd.2.1, trivial⟩ _ h r hk
      · replace h := if_f b11 h
        refine Ru.br (k := .ne) (off := 35) (bb := true) (tg := 98) (by decide +kernel) (by decide +kernel) (cz (ci_ne1 (inR_to _) (by decide) b11)) rfl ?_
        cases h
        exact hk _ _ _ _ _ _ _ _ ⟨rfl, hdd.1, rfl, rfl, hdd.2.1, rfl, rfl, rfl, trivial⟩
    · replace h := if_f b10 h
      refine Ru.br2 (k := .ge) (off := 42) (bb := true) (tg := 98) (by decide +kernel) (by decide +kernel) (ci_ge1 g8 g9 b10) rfl ?_
      cases h
      exact hk _ _ _ _ _ _ _ _ ⟨rfl, hdd.1, rfl, rfl, hdd.2.1, rfl, rfl, rfl, trivial⟩
set_option maxRecDepth 100000 in
set_option maxHeartbeats 4000000 in
theorem g73_15b_ok {FR LO : Nat} {rc : St → Int → Int → Option (St)} (hF : 11 ≤ FR) (hL : 224 ≤ LO) (hrc : ∀ {S : St} {v1 : Int} {v3 : Int} {o : St}, rc S v1 v3 = some o → Ru none FR LO 73 (0, mn_pad (mn_ent [.ref 20, vI v1, .ref 15, vI v3]) 8, [], S.ns, Hp S) ((0, none), o.ns, Hp o)) {S : St} {v1 : Int} {v3 : Int} {o : St} (h : g73_15b rc S v1 v3 = some o) : Ru none (FR + 1) (LO + 27) 73 (0, mn_pad (mn_ent [.ref 20, vI v1, .ref 15, vI v3]) 8, [], S.ns, Hp S) ((0, none), o.ns, Hp o) := by
  unfold g73_15b at h
  show Ru none (FR + 1) (LO + 27) 73 (0, [some (.ref 20), some (vI v1), some (.ref 15), some (vI v3), none, none, none, none], [], S.ns, Hp S) _
  refine Ru.op (q := (.iload_n 3, 1)) (S' := (1, _, _, _, _)) (by decide +kernel) rfl ?_
  refine Ru.kI (q := (.bipush 40, 2)) (c := 40) (pc' := 3) (by decide +kernel) rfl (by decide) rfl ?_
  obtain ⟨g1, h⟩ := gd_some h
  by_cases b2 : v3 < 40
  · replace h := if_t b2 h
    refine Ru.br2 (k := .lt) (off := 9) (bb := true) (tg := 12) (by decide +kernel) (by decide +kernel) (ci_lt1 g1 (by decide) b2) rfl ?_
    refine Ru.op (q := (.aload_n 0, 1)) (S' := (13, _, _, _, _)) (by decide +kernel) rfl ?_
    refine Ru.op (q := (.iload_n 1, 1)) (S' := (14, _, _, _, _)) (by decide +kernel) rfl ?_
    obtain ⟨o3, e4, h⟩ := ob_some h
    refine Ru.vcallI (pc' := 17) (st' := [vI o3]) (i := 65) (j2 := 70) (ci := 6) (k := 0) (z := 0) (as := [vI v1]) (by decide +kernel) (by decide +kernel) rfl rfl (hp20 _) (by decide) ⟨(by omega), (by show 19 + 4 ≤ (LO + 27); omega), Nat.le_of_ble_eq_true rfl, Nat.le_of_ble_eq_true rfl⟩ ((g70_ok e4).up (by omega) (by show _ ≤ (LO + 27) - (19 + 4); omega)) rfl rfl ?_
    refine Ru.op (q := (.istore 4, 2)) (S' := (19, [some (.ref 20), some (vI v1), some (.ref 15), some (vI v3), some (vI o3), none, none, none], [], _, _)) (by decide +kernel) rfl ?_
    refine Ru.op (q := (.aload_n 2, 1)) (S' := (20, _, _, _, _)) (by decide +kernel) rfl ?_
    refine Ru.op (q := (.aload_n 0, 1)) (S' := (21, _, _, _, _)) (by decide +kernel) rfl ?_
    refine Ru.getR (pc' := 24) (i := 9) (ci := 6) (k := 0) (nn := 0) (z := 0) (v := .ref 21) (by decide +kernel) (by decide +kernel) (hp20 _) (by decide) rfl rfl ?_
    refine Ru.op (q := (.iload 4, 2)) (S' := (26, _, _, _, _)) (by decide +kernel) rfl ?_
    obtain ⟨g5, h⟩ := gd_some h
    refine Ru.ildI (pc' := 27) (i := o3) (z := (S.A 21 o3)) (by decide +kernel) (hp21 _) g5 (eI_of _) rfl ?_
    obtain ⟨o6, e7, h⟩ := ob_some h
    refine Ru.vcallI (pc' := 30) (st' := []) (i := 69) (j2 := 44) (ci := 4) (k := 0) (z := 0) (as := [vI (S.A 21 o3)]) (by decide +kernel) (by decide +kernel) rfl rfl (hp15 _) (by decide) ⟨(by omega), (by show 19 + 2 ≤ (LO + 27); omega), Nat.le_of_ble_eq_true rfl, Nat.le_of_ble_eq_true rfl⟩ ((g44_15_ok e7).up (by omega) (by show _ ≤ (LO + 27) - (19 + 2); omega)) rfl rfl ?_
    refine Ru.op (q := (.aload_n 0, 1)) (S' := (31, _, _, _, _)) (by decide +kernel) rfl ?_
    refine Ru.getR (pc' := 34) (i := 9) (ci := 6) (k := 0) (nn := 0) (z := 0) (v := .ref 21) (by decide +kernel) (by decide +kernel) (hp20 _) (by decide) rfl rfl ?_
    refine Ru.op (q := (.iload 4, 2)) (S' := (36, _, _, _, _)) (by decide +kernel) rfl ?_
    refine Ru.ildI (pc' := 37) (i := o3) (z := (o6.A 21 o3)) (by decide +kernel) (hp21 _) g5 (eI_of _) rfl ?_
    refine Ru.kI (q := (.sipush 255, 3)) (c := 255) (pc' := 40) (by decide +kernel) rfl (by decide) rfl ?_
    refine Ru.ar2 (i := .iand) (z := ((o6.A 21 o3) % 256)) (pc' := 41) (by decide +kernel) rfl (ar_and _) rfl ?_
    refine Ru.op (q := (.istore 5, 2)) (S' := (43, [some (.ref 20), some (vI v1), some (.ref 15), some (vI v3), some (vI o3), some (vI ((o6.A 21 o3) % 256)), none, none], [], _, _)) (by decide +kernel) rfl ?_
    refine Ru.op (q := (.iload 4, 2)) (S' := (45, _, _, _, _)) (by decide +kernel) rfl ?_
    refine Ru.kI (q := (.iconst 1, 1)) (c := 1) (pc' := 46) (by decide +kernel) rfl (by decide) rfl ?_
    refine Ru.ar2 (i := .iadd) (z := (o3 + 1)) (pc' := 47) (by decide +kernel) rfl (ar_add _ _) rfl ?_
    refine Ru.op (q := (.istore 6, 2)) (S' := (49, [some (.ref 20), some (vI v1), some (.ref 15), some (vI v3), some (vI o3), some (vI ((o6.A 21 o3) % 256)), some (vI (o3 + 1)), none], [], _, _)) (by decide +kernel) rfl ?_
    refine Ru.kI (q := (.iconst 0, 1)) (c := 0) (pc' := 50) (by decide +kernel) rfl (by decide) rfl ?_
    refine Ru.op (q := (.istore 7, 2)) (S' := (52, [some (.ref 20), some (vI v1), some (.ref 15), some (vI v3), some (vI o3), some (vI ((o6.A 21 o3) % 256)), some (vI (o3 + 1)), some (vI 0)], [], _, _)) (by decide +kernel) rfl ?_
    obtain ⟨o16, e25, h⟩ := ob_some h
    refine g73_15L52_ok hF hL hrc FU _ _ _ _ _ ⟨rfl, rfl, trivial⟩ _ e25 _ ?_
    intro d17 d18 d19 d20 d21 d22 d23 d24 hd26
    cases h
    exact Ru.end (q := (.return_, 1)) (by decide +kernel) rfl rfl
  · replace h := if_f b2 h
    refine Ru.br2 (k := .lt) (off := 9) (bb := false) (tg := 6) (by decide +kernel) (by decide +kernel) (ci_lt0 g1 (by decide) b2) rfl ?_
    refine Ru.op (q := (.aload_n 2, 1)) (S' := (7, _, _, _, _)) (by decide +kernel) rfl ?_
    refine Ru.kI (q := (.iconst 1, 1)) (c := 1) (pc' := 8) (by decide +kernel) rfl (by decide) rfl ?_
    refine Ru.putH (pc' := 11) (i := 61) (ci := 4) (k := 3) (nn := 0) (z := 0) (by decide +kernel) (by decide +kernel) (hp15 _) (by decide) (Nat.le_of_ble_eq_true rfl) (fk_b (by decide)) (by decide +kernel) (pf_15_3 _ _) rfl ?_
    cases h
    exact Ru.end (q := (.return_, 1)) (by decide +kernel) rfl rfl
theorem g73_15_ok : ∀ (n : Nat) {S : St} {v1 : Int} {v3 : Int} {o : St}, g73_15 n S v1 v3 = some o → Ru none (11 + 1 * n) (224 + 27 * n) 73 (0, mn_pad (mn_ent [.ref 20, vI v1, .ref 15, vI v3]) 8, [], S.ns, Hp S) ((0, none), o.ns, Hp o) := by
  intro n
  induction n with
  | zero => intro S v1 v3 o h; cases h
  | succ n ih => intro S v1 v3 o h; exact (g73_15b_ok (FR := 11 + 1 * n) (LO := 224 + 27 * n) (by omega) (by omega) ih h).up (by omega) (by omega)
set_option maxRecDepth 100000 in
set_option maxHeartbeats 4000000 in
theorem g72_15L3_ok {v1 : Nat} {v2 : Int} {v3 : Int} : ∀ (n : Nat) (v5 : Int) (S : St) (_ : DD []) (out : St), g72_15L3 v1 v2 v3 n v5 S = some out → ∀ r, (∀ (e0 e1 e2 e3 e4 e5 : Option Value), DD [e0, e1, e2, e3, e4, e5] → Ru none 76 1979 72 (45, [e0, e1, e2, e3, e4, e5], [], out.ns, Hp out) r) → Ru none 76 1979 72 (3, [some (.ref 20), some (.ref v1), some (vI v2), some (vI v3), some (.ref 15), some (vI v5)], [], S.ns, Hp S) r := by
  intro n
  induction n with
  | zero => intro v5 S hdd out h; cases h
  | succ n ih =>
    intro v5 S hdd out h r hk
    unfold g72_15L3 at h
    refine Ru.op (q := (.iload 5, 2)) (S' := (5, _, _, _, _)) (by decide +kernel) rfl ?_
    refine Ru.op (q := (.aload_n 1, 1)) (S' := (6, _, _, _, _)) (by decide +kernel) rfl ?_
    obtain ⟨c1, c2, n3, n4, e5, q6, h⟩ := gC_some h
    refine Ru.getR (pc' := 9) (i := 51) (ci := 5) (k := 2) (nn := 0) (z := 0) (v := vI n3) (by decide +kernel) (by decide +kernel) q6 (by decide) rfl rfl ?_
    obtain ⟨g7, h⟩ := gd_some h
    by_cases b8 : v5 < n3
    · replace h := if_t b8 h
      refine Ru.br2 (k := .ge) (off := 36) (bb := false) (tg := 12) (by decide +kernel) (by decide +kernel) (ci_ge0 g7 e5.1 b8) rfl ?_
      refine Ru.op (q := (.iload 5, 2)) (S' := (14, _, _, _, _)) (by decide +kernel) rfl ?_
      refine Ru.op (q := (.iload_n 2, 1)) (S' := (15, _, _, _, _)) (by decide +kernel) rfl ?_
      obtain ⟨g9, h⟩ := gd_some h
      by_cases b10 : v5 = v2
      · replace h := if_t b10 h
        refine Ru.br2 (k := .eq) (off := 24) (bb := true) (tg := 39) (by decide +kernel) (by decide +kernel) (ci_eq1 g7 g9 b10) rfl ?_
        refine Ru.inc (k := 5) (n := 1) (x := v5) (z := (v5 + 1)) (xs' := [some (.ref 20), some (.ref v1), some (vI v2), some (vI v3), some (.ref 15), some (vI (v5 + 1))]) (pc' := 42) (by decide +kernel) rfl rfl rfl rfl ?_
        refine Ru.op (q := (.goto (-39), 3)) (S' := (3, _, _, _, _)) (by decide +kernel) rfl ?_
        exact ih _ _ trivial _ h r hk
      · replace h := if_f b10 h
        refine Ru.br2 (k := .eq) (off := 24) (bb := false) (tg := 18) (by decide +kernel) (by decide +kernel) (ci_eq0 g7 g9 b10) rfl ?_
        refine Ru.op (q := (.aload_n 0, 1)) (S' := (19, _, _, _, _)) (by decide +kernel) rfl ?_
        refine Ru.op (q := (.iload_n 3, 1)) (S' := (20, _, _, _, _)) (by decide +kernel) rfl ?_
        refine Ru.op (q := (.aload_n 1, 1)) (S' := (21, _, _, _, _)) (by decide +kernel) rfl ?_
        refine Ru.getR (pc' := 24) (i := 18) (ci := 5) (k := 1) (nn := 0) (z := 0) (v := .ref c2) (by decide +kernel) (by decide +kernel) q6 (by decide) rfl rfl ?_
        refine Ru.op (q := (.iload 5, 2)) (S' := (26, _, _, _, _)) (by decide +kernel) rfl ?_
        obtain ⟨N11, f12, e13, q14, h⟩ := gA_some h
        obtain ⟨g15, h⟩ := gd_some h
        refine Ru.ildI (pc' := 27) (i := v5) (z := (f12 v5)) (by decide +kernel) q14 g15 rfl rfl ?_
        refine Ru.ar2 (i := .iadd) (z := (v3 + (f12 v5))) (pc' := 28) (by decide +kernel) rfl (ar_add _ _) rfl ?_
        refine Ru.op (q := (.aload 4, 2)) (S' := (30, _, _, _, _)) (by decide +kernel) rfl ?_
        refine Ru.kI (q := (.iconst 0, 1)) (c := 0) (pc' := 31) (by decide +kernel) rfl (by decide) rfl ?_
        obtain ⟨o16, e17, h⟩ := ob_some h
        refine Ru.vcallI (pc' := 34) (st' := []) (i := 54) (j2 := 73) (ci := 6) (k := 0) (z := 0) (as := [vI (v3 + (f12 v5)), .ref 15, vI 0]) (by decide +kernel) (by decide +kernel) rfl rfl (hp20 _) (by decide) ⟨(Nat.le_of_ble_eq_true rfl), (by show 19 + 8 ≤ 1979; exact Nat.le_of_ble_eq_true rfl), Nat.le_of_ble_eq_true rfl, Nat.le_of_ble_eq_true rfl⟩ ((g73_15_ok 64 e17).up (Nat.le_of_ble_eq_true rfl) (Nat.le_of_ble_eq_true rfl)) rfl rfl ?_
        refine Ru.op (q := (.aload 4, 2)) (S' := (36, _, _, _, _)) (by decide +kernel) rfl ?_
        obtain ⟨o18, e19, h⟩ := ob_some h
        refine Ru.vcallI (pc' := 39) (st' := []) (i := 58) (j2 := 45) (ci := 4) (k := 0) (z := 0) (as := []) (by decide +kernel) (by decide +kernel) rfl rfl (hp15 _) (by decide) ⟨(Nat.le_of_ble_eq_true rfl), (by show 19 + 1 ≤ 1979; exact Nat.le_of_ble_eq_true rfl), Nat.le_of_ble_eq_true rfl, Nat.le_of_ble_eq_true rfl⟩ ((g45_15_ok e19).up (Nat.le_of_ble_eq_true rfl) (Nat.le_of_ble_eq_true rfl)) rfl rfl ?_
        refine Ru.inc (k := 5) (n := 1) (x := v5) (z := (v5 + 1)) (xs' := [some (.ref 20), some (.ref v1), some (vI v2), some (vI v3), some (.ref 15), some (vI (v5 + 1))]) (pc' := 42) (by decide +kernel) rfl rfl rfl rfl ?_
        refine Ru.op (q := (.goto (-39), 3)) (S' := (3, _, _, _, _)) (by decide +kernel) rfl ?_
        exact ih _ _ trivial _ h r hk
    · replace h := if_f b8 h
      refine Ru.br2 (k := .ge) (off := 36) (bb := true) (tg := 45) (by decide +kernel) (by decide +kernel) (ci_ge1 g7 e5.1 b8) rfl ?_
      cases h
      exact hk _ _ _ _ _ _ ⟨rfl, rfl, rfl, rfl, rfl, rfl, trivial⟩
set_option maxRecDepth 100000 in
set_option maxHeartbeats 4000000 in
theorem g72_15_ok {S : St} {v1 : Nat} {v2 : Int} {v3 : Int} {o : St} (h : g72_15 S v1 v2 v3 = some o) : Ru none 76 1979 72 (0, mn_pad (mn_ent [.ref 20, .ref v1, vI v2, vI v3, .ref 15]) 6, [], S.ns, Hp S) ((0, none), o.ns, Hp o) := by
  unfold g72_15 at h
  show Ru none 76 1979 72 (0, [some (.ref 20), some (.ref v1), some (vI v2), some (vI v3), some (.ref 15), none], [], S.ns, Hp S) _
  refine Ru.kI (q := (.iconst 0, 1)) (c := 0) (pc' := 1) (by decide +kernel) rfl (by decide) rfl ?_
  refine Ru.op (q := (.istore 5, 2)) (S' := (3, [some (.ref 20), some (.ref v1), some (vI v2), some (vI v3), some (.ref 15), some (vI 0)], [], _, _)) (by decide +kernel) rfl ?_
  obtain ⟨o20, e27, h⟩ := ob_some h
  refine g72_15L3_ok FU _ _ trivial _ e27 _ ?_
  intro d21 d22 d23 d24 d25 d26 hd28
  cases h
  exact Ru.end (q := (.return_, 1)) (by decide +kernel) rfl rfl
