def g88_30L2  : Nat → Int → St → Option (Sum (St) (St))
  | 0, _, _ => none
  | n + 1, v2, S => gd (inR v2) (if v2 < 160 then ob (g23 S) (fun o27 => gd (inR o27) (if o27 = 126 then ob (g24 (S.f 1 4 ((S.F 1 4) + 1)) 1) (fun o31 => if (o31.F 1 3) = (-1) then ob (g43_30 o31 12 0 (o31.F 1 12)) (fun o34 => ob (g23 o34) (fun o36 => gd (inR o36) (if o36 = 124 then g88_30L2 n (v2 + 1) (o34.f 1 4 ((o34.F 1 4) + 1)) else some (.inr o34)))) else some (.inr o31)) else ob (g24 S 0) (fun o40 => if (o40.F 1 3) = (-1) then ob (g43_30 o40 12 0 (o40.F 1 12)) (fun o43 => ob (g23 o43) (fun o45 => gd (inR o45) (if o45 = 124 then g88_30L2 n (v2 + 1) (o43.f 1 4 ((o43.F 1 4) + 1)) else some (.inr o43)))) else some (.inr o40)))) else some (.inl S))
set_option maxRecDepth 100000 in
set_option maxHeartbeats 4000000 in
theorem g88_30L2_ok : ∀ (n : Nat) (v2 : Int) (S : St) (d3 : Option Value) (out : Sum (St) (St)), g88_30L2 n v2 S = some out → ∀ r, (∀ o, out = .inl o → ∀ (e0 e1 e2 e3 : Option Value), Ru none 142 3427 88 (91, [e0, e1, e2, e3], [], o.ns, Hp o) r) → (∀ o, out = .inr o → r = ((0, none), o.ns, Hp o)) → Ru none 142 3427 88 (2, [some (.ref 1), some (.ref 30), some (vI v2), d3], [], S.ns, Hp S) r := by
  intro n
  induction n with
  | zero => intro v2 S d3 out h; cases h
  | succ n ih =>
    intro v2 S d3 out h r hk hr
    unfold g88_30L2 at h
    refine Ru.op (q := (.iload_n 2, 1)) (by decide +kernel) rfl ?_
    refine Ru.kI (q := (.sipush 160, 3)) (c := 160) (by decide +kernel) rfl (by decide) ?_
    obtain ⟨g25, h⟩ := gd_some h
    by_cases b26 : v2 < 160
    · replace h := if_t b26 h
      refine Ru.br2 (k := .ge) (off := 85) (bb := false) (tg := 9) (by decide +kernel) (by decide +kernel) (ci_ge0 g25 (by decide) b26) rfl ?_
      refine Ru.op (q := (.aload_n 0, 1)) (by decide +kernel) rfl ?_
      obtain ⟨o27, e28, h⟩ := ob_some h
      refine Ru.vcall (i := 69) (j2 := 23) (as := []) (by decide +kernel) (by rfl) rfl rfl (hp1 _) (by decide) ⟨(Nat.le_of_ble_eq_true rfl), (by show 19 + 1 ≤ 3427; exact Nat.le_of_ble_eq_true rfl), Nat.le_of_ble_eq_true rfl, Nat.le_of_ble_eq_true rfl⟩ ((g23_ok e28).up (Nat.le_of_ble_eq_true rfl) (Nat.le_of_ble_eq_true rfl)) ?_
      refine Ru.kI (q := (.bipush 126, 2)) (c := 126) (by decide +kernel) rfl (by decide) ?_
      obtain ⟨g29, h⟩ := gd_some h
      by_cases b30 : o27 = 126
      · replace h := if_t b30 h
        refine Ru.br2 (k := .ne) (off := 7) (bb := false) (tg := 18) (by decide +kernel) (by decide +kernel) (ci_ne0 g29 (by decide) b30) rfl ?_
        refine Ru.kI (q := (.iconst 1, 1)) (c := 1) (by decide +kernel) rfl (by decide) ?_
        refine Ru.op (q := (.goto 4, 3)) (by decide +kernel) rfl ?_
        refine Ru.op (q := (.istore_n 3, 1)) (S' := (24, [some (.ref 1), some (.ref 30), some (vI v2), some (vI 1)], [], _, _)) (by decide +kernel) rfl ?_
        refine Ru.op (q := (.iload_n 3, 1)) (by decide +kernel) rfl ?_
        refine Ru.br (k := .eq) (off := 13) (bb := false) (tg := 28) (by decide +kernel) (by decide +kernel) (by decide) rfl ?_
        refine Ru.op (q := (.aload_n 0, 1)) (by decide +kernel) rfl ?_
        refine Ru.op (q := (.dup, 1)) (by decide +kernel) rfl ?_
        refine Ru.getI (i := 36) (x := (S.F 1 4)) (by decide +kernel) (by rfl) (hp1 _) (by decide) rfl (eI_of _) ?_
        refine Ru.kI (q := (.iconst 1, 1)) (c := 1) (by decide +kernel) rfl (by decide) ?_
        refine Ru.ar2 (i := .iadd) (z := ((S.F 1 4) + 1)) (by decide +kernel) rfl (ar_add _ _) ?_
        refine Ru.putH (i := 36) (by decide +kernel) (by rfl) (hp1 _) (by decide) (Nat.le_of_ble_eq_true rfl) rfl (by decide +kernel) (pf_1_4 _ _) ?_
        refine Ru.op (q := (.aload_n 0, 1)) (by decide +kernel) rfl ?_
        refine Ru.op (q := (.iload_n 3, 1)) (by decide +kernel) rfl ?_
        obtain ⟨o31, e32, h⟩ := ob_some h
        refine Ru.vcall (i := 80) (j2 := 24) (as := [vI 1]) (by decide +kernel) (by rfl) rfl rfl (hp1 _) (by decide) ⟨(Nat.le_of_ble_eq_true rfl), (by show 19 + 3 ≤ 3427; exact Nat.le_of_ble_eq_true rfl), Nat.le_of_ble_eq_true rfl, Nat.le_of_ble_eq_true rfl⟩ ((g24_ok e32).up (Nat.le_of_ble_eq_true rfl) (Nat.le_of_ble_eq_true rfl)) ?_
        refine Ru.op (q := (.aload_n 0, 1)) (by decide +kernel) rfl ?_
        refine Ru.getI (i := 40) (x := (o31.F 1 3)) (by decide +kernel) (by rfl) (hp1 _) (by decide) rfl (eI_of _) ?_
        refine Ru.kI (q := (.iconst (-1), 1)) (c := (-1)) (by decide +kernel) rfl (by decide) ?_
        by_cases b33 : (o31.F 1 3) = (-1)
        · replace h := if_t b33 h
          refine Ru.br2 (k := .eq) (off := 4) (bb := true) (tg := 52) (by decide +kernel) (by decide +kernel) (ci_eq1 (inR_to _) (by decide) b33) rfl ?_
          refine Ru.op (q := (.aload_n 1, 1)) (by decide +kernel) rfl ?_
          refine Ru.op (q := (.aload_n 0, 1)) (by decide +kernel) rfl ?_
          refine Ru.get (i := 29) (v := .ref 12) (by decide +kernel) (by rfl) (hp1 _) (by decide) rfl ?_
          refine Ru.kI (q := (.iconst 0, 1)) (c := 0) (by decide +kernel) rfl (by decide) ?_
          refine Ru.op (q := (.aload_n 0, 1)) (by decide +kernel) rfl ?_
          refine Ru.getI (i := 84) (x := (o31.F 1 12)) (by decide +kernel) (by rfl) (hp1 _) (by decide) rfl (eI_of _) ?_
          obtain ⟨o34, e35, h⟩ := ob_some h
          refine Ru.vcall (i := 113) (j2 := 43) (as := [.ref 12, vI 0, vI (o31.F 1 12)]) (by decide +kernel) (by rfl) rfl rfl (hp30 _) (by decide) ⟨(Nat.le_of_ble_eq_true rfl), (by show 19 + 5 ≤ 3427; exact Nat.le_of_ble_eq_true rfl), Nat.le_of_ble_eq_true rfl, Nat.le_of_ble_eq_true rfl⟩ ((g43_30_ok e35).up (Nat.le_of_ble_eq_true rfl) (Nat.le_of_ble_eq_true rfl)) ?_
          refine Ru.op (q := (.aload_n 0, 1)) (by decide +kernel) rfl ?_
          obtain ⟨o36, e37, h⟩ := ob_some h
          refine Ru.vcall (i := 69) (j2 := 23) (as := []) (by decide +kernel) (by rfl) rfl rfl (hp1 _) (by decide) ⟨(Nat.le_of_ble_eq_true rfl), (by show 19 + 1 ≤ 3427; exact Nat.le_of_ble_eq_true rfl), Nat.le_of_ble_eq_true rfl, Nat.le_of_ble_eq_true rfl⟩ ((g23_ok e37).up (Nat.le_of_ble_eq_true rfl) (Nat.le_of_ble_eq_true rfl)) ?_
          refine Ru.kI (q := (.bipush 124, 2)) (c := 124) (by decide +kernel) rfl (by decide) ?_
          obtain ⟨g38, h⟩ := gd_some h
          by_cases b39 : o36 = 124
          · replace h := if_t b39 h
            refine Ru.br2 (k := .eq) (off := 4) (bb := true) (tg := 75) (by decide +kernel) (by decide +kernel) (ci_eq1 g38 (by decide) b39) rfl ?_
            refine Ru.op (q := (.aload_n 0, 1)) (by decide +kernel) rfl ?_
            refine Ru.op (q := (.dup, 1)) (by decide +kernel) rfl ?_
            refine Ru.getI (i := 36) (x := (o34.F 1 4)) (by decide +kernel) (by rfl) (hp1 _) (by decide) rfl (eI_of _) ?_
            refine Ru.kI (q := (.iconst 1, 1)) (c := 1) (by decide +kernel) rfl (by decide) ?_
            refine Ru.ar2 (i := .iadd) (z := ((o34.F 1 4) + 1)) (by decide +kernel) rfl (ar_add _ _) ?_
            refine Ru.putH (i := 36) (by decide +kernel) (by rfl) (hp1 _) (by decide) (Nat.le_of_ble_eq_true rfl) rfl (by decide +kernel) (pf_1_4 _ _) ?_
            refine Ru.inc (x := v2) (z := (v2 + 1)) (xs' := [some (.ref 1), some (.ref 30), some (vI (v2 + 1)), some (vI 1)]) (by decide +kernel) rfl rfl rfl ?_
            refine Ru.op (q := (.goto (-86), 3)) (by decide +kernel) rfl ?_
            exact ih _ _ _ _ h r hk hr
          · replace h := if_f b39 h
            refine Ru.br2 (k := .eq) (off := 4) (bb := false) (tg := 74) (by decide +kernel) (by decide +kernel) (ci_eq0 g38 (by decide) b39) rfl ?_
            cases h
            have h9 := hr _ rfl
            subst h9
            exact Ru.end (q := (.return_, 1)) (by decide +kernel) rfl rfl
        · replace h := if_f b33 h
          refine Ru.br2 (k := .eq) (off := 4) (bb := false) (tg := 51) (by decide +kernel) (by decide +kernel) (ci_eq0 (inR_to _) (by decide) b33) rfl ?_
          cases h
          have h9 := hr _ rfl
          subst h9
          exact Ru.end (q := (.return_, 1)) (by decide +kernel) rfl rfl
      · replace h := if_f b30 h
        refine Ru.br2 (k := .ne) (off := 7) (bb := true) (tg := 22) (by decide +kernel) (by decide +kernel) (ci_ne1 g29 (by decide) b30) rfl ?_
        refine Ru.kI (q := (.iconst 0, 1)) (c := 0) (by decide +kernel) rfl (by decide) ?_
        refine Ru.op (q := (.istore_n 3, 1)) (S' := (24, [some (.ref 1), some (.ref 30), some (vI v2), some (vI 0)], [], _, _)) (by decide +kernel) rfl ?_
        refine Ru.op (q := (.iload_n 3, 1)) (by decide +kernel) rfl ?_
        refine Ru.br (k := .eq) (off := 13) (bb := true) (tg := 38) (by decide +kernel) (by decide +kernel) (by decide) rfl ?_
        refine Ru.op (q := (.aload_n 0, 1)) (by decide +kernel) rfl ?_
        refine Ru.op (q := (.iload_n 3, 1)) (by decide +kernel) rfl ?_
        obtain ⟨o40, e41, h⟩ := ob_some h
        refine Ru.vcall (i := 80) (j2 := 24) (as := [vI 0]) (by decide +kernel) (by rfl) rfl rfl (hp1 _) (by decide) ⟨(Nat.le_of_ble_eq_true rfl), (by show 19 + 3 ≤ 3427; exact Nat.le_of_ble_eq_true rfl), Nat.le_of_ble_eq_true rfl, Nat.le_of_ble_eq_true rfl⟩ ((g24_ok e41).up (Nat.le_of_ble_eq_true rfl) (Nat.le_of_ble_eq_true rfl)) ?_
        refine Ru.op (q := (.aload_n 0, 1)) (by decide +kernel) rfl ?_
        refine Ru.getI (i := 40) (x := (o40.F 1 3)) (by decide +kernel) (by rfl) (hp1 _) (by decide) rfl (eI_of _) ?_
        refine Ru.kI (q := (.iconst (-1), 1)) (c := (-1)) (by decide +kernel) rfl (by decide) ?_
        by_cases b42 : (o40.F 1 3) = (-1)
        · replace h := if_t b42 h
          refine Ru.br2 (k := .eq) (off := 4) (bb := true) (tg := 52) (by decide +kernel) (by decide +kernel) (ci_eq1 (inR_to _) (by decide) b42) rfl ?_
          refine Ru.op (q := (.aload_n 1, 1)) (by decide +kernel) rfl ?_
          refine Ru.op (q := (.aload_n 0, 1)) (by decide +kernel) rfl ?_
          refine Ru.get (i := 29) (v := .ref 12) (by decide +kernel) (by rfl) (hp1 _) (by decide) rfl ?_
          refine Ru.kI (q := (.iconst 0, 1)) (c := 0) (by decide +kernel) rfl (by decide) ?_
          refine Ru.op (q := (.aload_n 0, 1)) (by decide +kernel) rfl ?_
          refine Ru.getI (i := 84) (x := (o40.F 1 12)) (by decide +kernel) (by rfl) (hp1 _) (by decide) rfl (eI_of _) ?_
          obtain ⟨o43, e44, h⟩ := ob_some h
          refine Ru.vcall (i := 113) (j2 := 43) (as := [.ref 12, vI 0, vI (o40.F 1 12)]) (by decide +kernel) (by rfl) rfl rfl (hp30 _) (by decide) ⟨(Nat.le_of_ble_eq_true rfl), (by show 19 + 5 ≤ 3427; exact Nat.le_of_ble_eq_true rfl), Nat.le_of_ble_eq_true rfl, Nat.le_of_ble_eq_true rfl⟩ ((g43_30_ok e44).up (Nat.le_of_ble_eq_true rfl) (Nat.le_of_ble_eq_true rfl)) ?_
          refine Ru.op (q := (.aload_n 0, 1)) (by decide +kernel) rfl ?_
          obtain ⟨o45, e46, h⟩ := ob_some h
          refine Ru.vcall (i := 69) (j2 := 23) (as := []) (by decide +kernel) (by rfl) rfl rfl (hp1 _) (by decide) ⟨(Nat.le_of_ble_eq_true rfl), (by show 19 + 1 ≤ 3427; exact Nat.le_of_ble_eq_true rfl), Nat.le_of_ble_eq_true rfl, Nat.le_of_ble_eq_true rfl⟩ ((g23_ok e46).up (Nat.le_of_ble_eq_true rfl) (Nat.le_of_ble_eq_true rfl)) ?_
          refine Ru.kI (q := (.bipush 124, 2)) (c := 124) (by decide +kernel) rfl (by decide) ?_
          obtain ⟨g47, h⟩ := gd_some h
          by_cases b48 : o45 = 124
          · replace h := if_t b48 h
            refine Ru.br2 (k := .eq) (off := 4) (bb := true) (tg := 75) (by decide +kernel) (by decide +kernel) (ci_eq1 g47 (by decide) b48) rfl ?_
            refine Ru.op (q := (.aload_n 0, 1)) (by decide +kernel) rfl ?_
            refine Ru.op (q := (.dup, 1)) (by decide +kernel) rfl ?_
            refine Ru.getI (i := 36) (x := (o43.F 1 4)) (by decide +kernel) (by rfl) (hp1 _) (by decide) rfl (eI_of _) ?_
            refine Ru.kI (q := (.iconst 1, 1)) (c := 1) (by decide +kernel) rfl (by decide) ?_
            refine Ru.ar2 (i := .iadd) (z := ((o43.F 1 4) + 1)) (by decide +kernel) rfl (ar_add _ _) ?_
            refine Ru.putH (i := 36) (by decide +kernel) (by rfl) (hp1 _) (by decide) (Nat.le_of_ble_eq_true rfl) rfl (by decide +kernel) (pf_1_4 _ _) ?_
            refine Ru.inc (x := v2) (z := (v2 + 1)) (xs' := [some (.ref 1), some (.ref 30), some (vI (v2 + 1)), some (vI 0)]) (by decide +kernel) rfl rfl rfl ?_
            refine Ru.op (q := (.goto (-86), 3)) (by decide +kernel) rfl ?_
            exact ih _ _ _ _ h r hk hr
          · replace h := if_f b48 h
            refine Ru.br2 (k := .eq) (off := 4) (bb := false) (tg := 74) (by decide +kernel) (by decide +kernel) (ci_eq0 g47 (by decide) b48) rfl ?_
            cases h
            have h9 := hr _ rfl
            subst h9
            exact Ru.end (q := (.return_, 1)) (by decide +kernel) rfl rfl
        · replace h := if_f b42 h
          refine Ru.br2 (k := .eq) (off := 4) (bb := false) (tg := 51) (by decide +kernel) (by decide +kernel) (ci_eq0 (inR_to _) (by decide) b42) rfl ?_
          cases h
          have h9 := hr _ rfl
          subst h9
          exact Ru.end (q := (.return_, 1)) (by decide +kernel) rfl rfl
    · replace h := if_f b26 h
      refine Ru.br2 (k := .ge) (off := 85) (bb := true) (tg := 91) (by decide +kernel) (by decide +kernel) (ci_ge1 g25 (by decide) b26) rfl ?_
      cases h
      exact hk _ rfl _ _ _ _
def g88_30 (S : St) : Option (St) := obr (g88_30L2 FU 0 S) (fun o49 => some o49)
set_option maxRecDepth 100000 in
set_option maxHeartbeats 4000000 in
theorem g88_30_ok {S : St} {o : St} (h : g88_30 S  = some o) : Ru none 142 3427 88 (0, mn_pad (mn_ent [.ref 1, .ref 30]) 4, [], S.ns, Hp S) ((0, none), o.ns, Hp o) := by
  unfold g88_30 at h
  show Ru none 142 3427 88 (0, [some (.ref 1), some (.ref 30), none, none], [], S.ns, Hp S) _
  refine Ru.kI (q := (.iconst 0, 1)) (c := 0) (by decide +kernel) rfl (by decide) ?_
  refine Ru.op (q := (.istore_n 2, 1)) (S' := (2, [some (.ref 1), some (.ref 30), some (vI 0), none], [], _, _)) (by decide +kernel) rfl ?_
  rcases obr_some h with ⟨o49, e54, h⟩ | e54
  · refine g88_30L2_ok FU _ _ _ _ e54 _ (fun o' e' => ?_) (fun o' e' => by cases e')
    cases e'
    intro d50 d51 d52 d53
    cases h
    exact Ru.end (q := (.return_, 1)) (by decide +kernel) rfl rfl
  · exact g88_30L2_ok FU _ _ _ _ e54 _ (fun o' e' => by cases e') (fun o' e' => by cases e'; rfl)
def g87_30 (S : St) : Option (Int × St) := ob (g41_30 (((S.f 1 5 1).f 1 4 0).f 1 3 (-1))) (fun o1 => ob (g23 o1) (fun o3 => gd (inR o3) (if o3 = 48 then if (o1.F 1 3) = (-1) then gd (inR ((o1.F 1 4) + 1)) (if ((o1.F 1 4) + 1) < (o1.F 1 1) then ob (g25 (o1.f 1 4 ((o1.F 1 4) + 1)) ((o1.F 1 4) + 1)) (fun o10 => ob (g48_30 o10.2) (fun o12 => if (o12.F 1 3) = (-1) then some (1, o12) else some (0, o12))) else ob (g48_30 (o1.f 1 4 ((o1.F 1 4) + 1))) (fun o15 => if (o15.F 1 3) = (-1) then some (1, o15) else some (0, o15))) else ob (g48_30 (o1.f 1 4 ((o1.F 1 4) + 1))) (fun o18 => if (o18.F 1 3) = (-1) then some (1, o18) else some (0, o18)) else ob (g88_30 o1) (fun o21 => if (o21.F 1 3) = (-1) then if (o21.F 1 4) < (o21.F 1 1) then ob (g25 o21 (o21.F 1 4)) (fun o25 => ob (g48_30 o25.2) (fun o27 => if (o27.F 1 3) = (-1) then some (1, o27) else some (0, o27))) else ob (g48_30 o21) (fun o30 => if (o30.F 1 3) = (-1) then some (1, o30) else some (0, o30)) else ob (g48_30 o21) (fun o33 => if (o33.F 1 3) = (-1) then some (1, o33) else some (0, o33))))))
set_option maxRecDepth 100000 in
set_option maxHeartbeats 4000000 in
theorem g87_30_ok {S : St} {o : Int × St} (h : g87_30 S  = some o) : Ru none 143 3450 87 (0, mn_pad (mn_ent [.ref 1, .ref 30]) 2, [], S.ns, Hp S) ((0, some (vI o.1)), o.2.ns, Hp o.2) := by
  unfold g87_30 at h
  show Ru none 143 3450 87 (0, [some (.ref 1), some (.ref 30)], [], S.ns, Hp S) _
  refine Ru.op (q := (.aload_n 0, 1)) (by decide +kernel) rfl ?_
  refine Ru.kI (q := (.iconst 1, 1)) (c := 1) (by decide +kernel) rfl (by decide) ?_
  refine Ru.putH (i := 32) (by decide +kernel) (by rfl) (hp1 _) (by decide) (Nat.le_of_ble_eq_true rfl) (fk_b (by decide)) (by decide +kernel) (pf_1_5 _ _) ?_
  refine Ru.op (q := (.aload_n 0, 1)) (by decide +kernel) rfl ?_
  refine Ru.kI (q := (.iconst 0, 1)) (c := 0) (by decide +kernel) rfl (by decide) ?_
  refine Ru.putH (i := 36) (by decide +kernel) (by rfl) (hp1 _) (by decide) (Nat.le_of_ble_eq_true rfl) rfl (by decide +kernel) (pf_1_4 _ _) ?_
  refine Ru.op (q := (.aload_n 0, 1)) (by decide +kernel) rfl ?_
  refine Ru.kI (q := (.iconst (-1), 1)) (c := (-1)) (by decide +kernel) rfl (by decide) ?_
  refine Ru.putH (i := 40) (by decide +kernel) (by rfl) (hp1 _) (by decide) (Nat.le_of_ble_eq_true rfl) rfl (by decide +kernel) (pf_1_3 _ _) ?_
  refine Ru.op (q := (.aload_n 1, 1)) (by decide +kernel) rfl ?_
  obtain ⟨o1, e2, h⟩ := ob_some h
  refine Ru.vcall (i := 66) (j2 := 41) (as := []) (by decide +kernel) (by rfl) rfl rfl (hp30 _) (by decide) ⟨(Nat.le_of_ble_eq_true rfl), (by show 19 + 1 ≤ 3450; exact Nat.le_of_ble_eq_true rfl), Nat.le_of_ble_eq_true rfl, Nat.le_of_ble_eq_true rfl⟩ ((g41_30_ok e2).up (Nat.le_of_ble_eq_true rfl) (Nat.le_of_ble_eq_true rfl)) ?_
  refine Ru.op (q := (.aload_n 0, 1)) (by decide +kernel) rfl ?_
  obtain ⟨o3, e4, h⟩ := ob_some h
  refine Ru.vcall (i := 69) (j2 := 23) (as := []) (by decide +kernel) (by rfl) rfl rfl (hp1 _) (by decide) ⟨(Nat.le_of_ble_eq_true rfl), (by show 19 + 1 ≤ 3450; exact Nat.le_of_ble_eq_true rfl), Nat.le_of_ble_eq_true rfl, Nat.le_of_ble_eq_true rfl⟩ ((g23_ok e4).up (Nat.le_of_ble_eq_true rfl) (Nat.le_of_ble_eq_true rfl)) ?_
  refine Ru.kI (q := (.bipush 48, 2)) (c := 48) (by decide +kernel) rfl (by decide) ?_
  obtain ⟨g5, h⟩ := gd_some h
  by_cases b6 : o3 = 48
  · replace h := if_t b6 h
    refine Ru.br2 (k := .ne) (off := 16) (bb := false) (tg := 28) (by decide +kernel) (by decide +kernel) (ci_ne0 g5 (by decide) b6) rfl ?_
    refine Ru.op (q := (.aload_n 0, 1)) (by decide +kernel) rfl ?_
    refine Ru.op (q := (.dup, 1)) (by decide +kernel) rfl ?_
    refine Ru.getI (i := 36) (x := (o1.F 1 4)) (by decide +kernel) (by rfl) (hp1 _) (by decide) rfl (eI_of _) ?_
    refine Ru.kI (q := (.iconst 1, 1)) (c := 1) (by decide +kernel) rfl (by decide) ?_
    refine Ru.ar2 (i := .iadd) (z := ((o1.F 1 4) + 1)) (by decide +kernel) rfl (ar_add _ _) ?_
    refine Ru.putH (i := 36) (by decide +kernel) (by rfl) (hp1 _) (by decide) (Nat.le_of_ble_eq_true rfl) rfl (by decide +kernel) (pf_1_4 _ _) ?_
    refine Ru.op (q := (.goto 8, 3)) (by decide +kernel) rfl ?_
    refine Ru.op (q := (.aload_n 0, 1)) (by decide +kernel) rfl ?_
    refine Ru.getI (i := 40) (x := (o1.F 1 3)) (by decide +kernel) (by rfl) (hp1 _) (by decide) rfl (eI_of _) ?_
    refine Ru.kI (q := (.iconst (-1), 1)) (c := (-1)) (by decide +kernel) rfl (by decide) ?_
    by_cases b7 : (o1.F 1 3) = (-1)
    · replace h := if_t b7 h
      refine Ru.br2 (k := .ne) (off := 23) (bb := false) (tg := 54) (by decide +kernel) (by decide +kernel) (ci_ne0 (inR_to _) (by decide) b7) rfl ?_
      refine Ru.op (q := (.aload_n 0, 1)) (by decide +kernel) rfl ?_
      refine Ru.getI (i := 36) (x := ((o1.F 1 4) + 1)) (by decide +kernel) (by rfl) (hp1 _) (by decide) rfl rfl ?_
      refine Ru.op (q := (.aload_n 0, 1)) (by decide +kernel) rfl ?_
      refine Ru.getI (i := 59) (x := (o1.F 1 1)) (by decide +kernel) (by rfl) (hp1 _) (by decide) rfl (eI_of _) ?_
      obtain ⟨g8, h⟩ := gd_some h
      by_cases b9 : ((o1.F 1 4) + 1) < (o1.F 1 1)
      · replace h := if_t b9 h
        refine Ru.br2 (k := .ge) (off := 12) (bb := false) (tg := 65) (by decide +kernel) (by decide +kernel) (ci_ge0 g8 (inR_to _) b9) rfl ?_
        refine Ru.op (q := (.aload_n 0, 1)) (by decide +kernel) rfl ?_
        refine Ru.op (q := (.aload_n 0, 1)) (by decide +kernel) rfl ?_
        refine Ru.getI (i := 36) (x := ((o1.F 1 4) + 1)) (by decide +kernel) (by rfl) (hp1 _) (by decide) rfl rfl ?_
        obtain ⟨o10, e11, h⟩ := ob_some h
        refine Ru.vcall (i := 62) (j2 := 25) (as := [vI ((o1.F 1 4) + 1)]) (by decide +kernel) (by rfl) rfl rfl (hp1 _) (by decide) ⟨(Nat.le_of_ble_eq_true rfl), (by show 19 + 2 ≤ 3450; exact Nat.le_of_ble_eq_true rfl), Nat.le_of_ble_eq_true rfl, Nat.le_of_ble_eq_true rfl⟩ ((g25_ok e11).up (Nat.le_of_ble_eq_true rfl) (Nat.le_of_ble_eq_true rfl)) ?_
        refine Ru.op (q := (.pop, 1)) (by decide +kernel) rfl ?_
        refine Ru.op (q := (.aload_n 1, 1)) (by decide +kernel) rfl ?_
        obtain ⟨o12, e13, h⟩ := ob_some h
        refine Ru.vcall (i := 77) (j2 := 48) (as := []) (by decide +kernel) (by rfl) rfl rfl (hp30 _) (by decide) ⟨(Nat.le_of_ble_eq_true rfl), (by show 19 + 5 ≤ 3450; exact Nat.le_of_ble_eq_true rfl), Nat.le_of_ble_eq_true rfl, Nat.le_of_ble_eq_true rfl⟩ ((g48_30_ok e13).up (Nat.le_of_ble_eq_true rfl) (Nat.le_of_ble_eq_true rfl)) ?_
        refine Ru.op (q := (.aload_n 0, 1)) (by decide +kernel) rfl ?_
        refine Ru.getI (i := 40) (x := (o12.F 1 3)) (by decide +kernel) (by rfl) (hp1 _) (by decide) rfl (eI_of _) ?_
        refine Ru.kI (q := (.iconst (-1), 1)) (c := (-1)) (by decide +kernel) rfl (by decide) ?_
        by_cases b14 : (o12.F 1 3) = (-1)
        · replace h := if_t b14 h
          refine Ru.br2 (k := .ne) (off := 7) (bb := false) (tg := 86) (by decide +kernel) (by decide +kernel) (ci_ne0 (inR_to _) (by decide) b14) rfl ?_
          refine Ru.kI (q := (.iconst 1, 1)) (c := 1) (by decide +kernel) rfl (by decide) ?_
          refine Ru.op (q := (.goto 4, 3)) (by decide +kernel) rfl ?_
          cases h
          exact Ru.iret (by decide +kernel) rfl (nar_b1 (by decide))
        · replace h := if_f b14 h
          refine Ru.br2 (k := .ne) (off := 7) (bb := true) (tg := 90) (by decide +kernel) (by decide +kernel) (ci_ne1 (inR_to _) (by decide) b14) rfl ?_
          refine Ru.kI (q := (.iconst 0, 1)) (c := 0) (by decide +kernel) rfl (by decide) ?_
          cases h
          exact Ru.iret (by decide +kernel) rfl (nar_b1 (by decide))
      · replace h := if_f b9 h
        refine Ru.br2 (k := .ge) (off := 12) (bb := true) (tg := 74) (by decide +kernel) (by decide +kernel) (ci_ge1 g8 (inR_to _) b9) rfl ?_
        refine Ru.op (q := (.aload_n 1, 1)) (by decide +kernel) rfl ?_
        obtain ⟨o15, e16, h⟩ := ob_some h
        refine Ru.vcall (i := 77) (j2 := 48) (as := []) (by decide +kernel) (by rfl) rfl rfl (hp30 _) (by decide) ⟨(Nat.le_of_ble_eq_true rfl), (by show 19 + 5 ≤ 3450; exact Nat.le_of_ble_eq_true rfl), Nat.le_of_ble_eq_true rfl, Nat.le_of_ble_eq_true rfl⟩ ((g48_30_ok e16).up (Nat.le_of_ble_eq_true rfl) (Nat.le_of_ble_eq_true rfl)) ?_
        refine Ru.op (q := (.aload_n 0, 1)) (by decide +kernel) rfl ?_
        refine Ru.getI (i := 40) (x := (o15.F 1 3)) (by decide +kernel) (by rfl) (hp1 _) (by decide) rfl (eI_of _) ?_
        refine Ru.kI (q := (.iconst (-1), 1)) (c := (-1)) (by decide +kernel) rfl (by decide) ?_
        by_cases b17 : (o15.F 1 3) = (-1)
        · replace h := if_t b17 h
          refine Ru.br2 (k := .ne) (off := 7) (bb := false) (tg := 86) (by decide +kernel) (by decide +kernel) (ci_ne0 (inR_to _) (by decide) b17) rfl ?_
          refine Ru.kI (q := (.iconst 1, 1)) (c := 1) (by decide +kernel) rfl (by decide) ?_
          refine Ru.op (q := (.goto 4, 3)) (by decide +kernel) rfl ?_
          cases h
          exact Ru.iret (by decide +kernel) rfl (nar_b1 (by decide))
        · replace h := if_f b17 h
          refine Ru.br2 (k := .ne) (off := 7) (bb := true) (tg := 90) (by decide +kernel) (by decide +kernel) (ci_ne1 (inR_to _) (by decide) b17) rfl ?_
          refine Ru.kI (q := (.iconst 0, 1)) (c := 0) (by decide +kernel) rfl (by decide) ?_
          cases h
          exact Ru.iret (by decide +kernel) rfl (nar_b1 (by decide))
    · replace h := if_f b7 h
      refine Ru.br2 (k := .ne) (off := 23) (bb := true) (tg := 74) (by decide +kernel) (by decide +kernel) (ci_ne1 (inR_to _) (by decide) b7) rfl ?_
      refine Ru.op (q := (.aload_n 1, 1)) (by decide +kernel) rfl ?_
      obtain ⟨o18, e19, h⟩ := ob_some h
      refine Ru.vcall (i := 77) (j2 := 48) (as := []) (by decide +kernel) (by rfl) rfl rfl (hp30 _) (by decide) ⟨(Nat.le_of_ble_eq_true rfl), (by show 19 + 5 ≤ 3450; exact Nat.le_of_ble_eq_true rfl), Nat.le_of_ble_eq_true rfl, Nat.le_of_ble_eq_true rfl⟩ ((g48_30_ok e19).up (Nat.le_of_ble_eq_true rfl) (Nat.le_of_ble_eq_true rfl)) ?_
      refine Ru.op (q := (.aload_n 0, 1)) (by decide +kernel) rfl ?_
      refine Ru.getI (i := 40) (x := (o18.F 1 3)) (by decide +kernel) (by rfl) (hp1 _) (by decide) rfl (eI_of _) ?_
      refine Ru.kI (q := (.iconst (-1), 1)) (c := (-1)) (by decide +kernel) rfl (by decide) ?_
      by_cases b20 : (o18.F 1 3) = (-1)
      · replace h := if_t b20 h
        refine Ru.br2 (k := .ne) (off := 7) (bb := false) (tg := 86) (by decide +kernel) (by decide +kernel) (ci_ne0 (inR_to _) (by decide) b20) rfl ?_
        refine Ru.kI (q := (.iconst 1, 1)) (c := 1) (by decide +kernel) rfl (by decide) ?_
        refine Ru.op (q := (.goto 4, 3)) (by decide +kernel) rfl ?_
        cases h
        exact Ru.iret (by decide +kernel) rfl (nar_b1 (by decide))
      · replace h := if_f b20 h
        refine Ru.br2 (k := .ne) (off := 7) (bb := true) (tg := 90) (by decide +kernel) (by decide +kernel) (ci_ne1 (inR_to _) (by decide) b20) rfl ?_
        refine Ru.kI (q := (.iconst 0, 1)) (c := 0) (by decide +kernel) rfl (by decide) ?_
        cases h
        exact Ru.iret (by decide +kernel) rfl (nar_b1 (by decide))
  · replace h := if_f b6 h
    refine Ru.br2 (k := .ne) (off := 16) (bb := true) (tg := 41) (by decide +kernel) (by decide +kernel) (ci_ne1 g5 (by decide) b6) rfl ?_
    refine Ru.op (q := (.aload_n 0, 1)) (by decide +kernel) rfl ?_
    refine Ru.op (q := (.aload_n 1, 1)) (by decide +kernel) rfl ?_
    obtain ⟨o21, e22, h⟩ := ob_some h
    refine Ru.vcall (i := 73) (j2 := 88) (as := [.ref 30]) (by decide +kernel) (by rfl) rfl rfl (hp1 _) (by decide) ⟨(Nat.le_of_ble_eq_true rfl), (by show 19 + 4 ≤ 3450; exact Nat.le_of_ble_eq_true rfl), Nat.le_of_ble_eq_true rfl, Nat.le_of_ble_eq_true rfl⟩ ((g88_30_ok e22).up (Nat.le_of_ble_eq_true rfl) (Nat.le_of_ble_eq_true rfl)) ?_
    refine Ru.op (q := (.aload_n 0, 1)) (by decide +kernel) rfl ?_
    refine Ru.getI (i := 40) (x := (o21.F 1 3)) (by decide +kernel) (by rfl) (hp1 _) (by decide) rfl (eI_of _) ?_
    refine Ru.kI (q := (.iconst (-1), 1)) (c := (-1)) (by decide +kernel) rfl (by decide) ?_
    by_cases b23 : (o21.F 1 3) = (-1)
    · replace h := if_t b23 h
      refine Ru.br2 (k := .ne) (off := 23) (bb := false) (tg := 54) (by decide +kernel) (by decide +kernel) (ci_ne0 (inR_to _) (by decide) b23) rfl ?_
      refine Ru.op (q := (.aload_n 0, 1)) (by decide +kernel) rfl ?_
      refine Ru.getI (i := 36) (x := (o21.F 1 4)) (by decide +kernel) (by rfl) (hp1 _) (by decide) rfl (eI_of _) ?_
      refine Ru.op (q := (.aload_n 0, 1)) (by decide +kernel) rfl ?_
      refine Ru.getI (i := 59) (x := (o21.F 1 1)) (by decide +kernel) (by rfl) (hp1 _) (by decide) rfl (eI_of _) ?_
      by_cases b24 : (o21.F 1 4) < (o21.F 1 1)
      · replace h := if_t b24 h
        refine Ru.br2 (k := .ge) (off := 12) (bb := false) (tg := 65) (by decide +kernel) (by decide +kernel) (ci_ge0 (inR_to _) (inR_to _) b24) rfl ?_
        refine Ru.op (q := (.aload_n 0, 1)) (by decide +kernel) rfl ?_
        refine Ru.op (q := (.aload_n 0, 1)) (by decide +kernel) rfl ?_
        refine Ru.getI (i := 36) (x := (o21.F 1 4)) (by decide +kernel) (by rfl) (hp1 _) (by decide) rfl (eI_of _) ?_
        obtain ⟨o25, e26, h⟩ := ob_some h
        refine Ru.vcall (i := 62) (j2 := 25) (as := [vI (o21.F 1 4)]) (by decide +kernel) (by rfl) rfl rfl (hp1 _) (by decide) ⟨(Nat.le_of_ble_eq_true rfl), (by show 19 + 2 ≤ 3450; exact Nat.le_of_ble_eq_true rfl), Nat.le_of_ble_eq_true rfl, Nat.le_of_ble_eq_true rfl⟩ ((g25_ok e26).up (Nat.le_of_ble_eq_true rfl) (Nat.le_of_ble_eq_true rfl)) ?_
        refine Ru.op (q := (.pop, 1)) (by decide +kernel) rfl ?_
        refine Ru.op (q := (.aload_n 1, 1)) (by decide +kernel) rfl ?_
        obtain ⟨o27, e28, h⟩ := ob_some h
        refine Ru.vcall (i := 77) (j2 := 48) (as := []) (by decide +kernel) (by rfl) rfl rfl (hp30 _) (by decide) ⟨(Nat.le_of_ble_eq_true rfl), (by show 19 + 5 ≤ 3450; exact Nat.le_of_ble_eq_true rfl), Nat.le_of_ble_eq_true rfl, Nat.le_of_ble_eq_true rfl⟩ ((g48_30_ok e28).up (Nat.le_of_ble_eq_true rfl) (Nat.le_of_ble_eq_true rfl)) ?_
        refine Ru.op (q := (.aload_n 0, 1)) (by decide +kernel) rfl ?_
        refine Ru.getI (i := 40) (x := (o27.F 1 3)) (by decide +kernel) (by rfl) (hp1 _) (by decide) rfl (eI_of _) ?_
        refine Ru.kI (q := (.iconst (-1), 1)) (c := (-1)) (by decide +kernel) rfl (by decide) ?_
        by_cases b29 : (o27.F 1 3) = (-1)
        · replace h := if_t b29 h
          refine Ru.br2 (k := .ne) (off := 7) (bb := false) (tg := 86) (by decide +kernel) (by decide +kernel) (ci_ne0 (inR_to _) (by decide) b29) rfl ?_
          refine Ru.kI (q := (.iconst 1, 1)) (c := 1) (by decide +kernel) rfl (by decide) ?_
          refine Ru.op (q := (.goto 4, 3)) (by decide +kernel) rfl ?_
          cases h
          exact Ru.iret (by decide +kernel) rfl (nar_b1 (by decide))
        · replace h := if_f b29 h
          refine Ru.br2 (k := .ne) (off := 7) (bb := true) (tg := 90) (by decide +kernel) (by decide +kernel) (ci_ne1 (inR_to _) (by decide) b29) rfl ?_
          refine Ru.kI (q := (.iconst 0, 1)) (c := 0) (by decide +kernel) rfl (by decide) ?_
          cases h
          exact Ru.iret (by decide +kernel) rfl (nar_b1 (by decide))
      · replace h := if_f b24 h
        refine Ru.br2 (k := .ge) (off := 12) (bb := true) (tg := 74) (by decide +kernel) (by decide +kernel) (ci_ge1 (inR_to _) (inR_to _) b24) rfl ?_
        refine Ru.op (q := (.aload_n 1, 1)) (by decide +kernel) rfl ?_
        obtain ⟨o30, e31, h⟩ := ob_some h
        refine Ru.vcall (i := 77) (j2 := 48) (as := []) (by decide +kernel) (by rfl) rfl rfl (hp30 _) (by decide) ⟨(Nat.le_of_ble_eq_true rfl), (by show 19 + 5 ≤ 3450; exact Nat.le_of_ble_eq_true rfl), Nat.le_of_ble_eq_true rfl, Nat.le_of_ble_eq_true rfl⟩ ((g48_30_ok e31).up (Nat.le_of_ble_eq_true rfl) (Nat.le_of_ble_eq_true rfl)) ?_
        refine Ru.op (q := (.aload_n 0, 1)) (by decide +kernel) rfl ?_
        refine Ru.getI (i := 40) (x := (o30.F 1 3)) (by decide +kernel) (by rfl) (hp1 _) (by decide) rfl (eI_of _) ?_
        refine Ru.kI (q := (.iconst (-1), 1)) (c := (-1)) (by decide +kernel) rfl (by decide) ?_
        by_cases b32 : (o30.F 1 3) = (-1)
        · replace h := if_t b32 h
          refine Ru.br2 (k := .ne) (off := 7) (bb := false) (tg := 86) (by decide +kernel) (by decide +kernel) (ci_ne0 (inR_to _) (by decide) b32) rfl ?_
          refine Ru.kI (q := (.iconst 1, 1)) (c := 1) (by decide +kernel) rfl (by decide) ?_
          refine Ru.op (q := (.goto 4, 3)) (by decide +kernel) rfl ?_
          cases h
          exact Ru.iret (by decide +kernel) rfl (nar_b1 (by decide))
        · replace h := if_f b32 h
          refine Ru.br2 (k := .ne) (off := 7) (bb := true) (tg := 90) (by decide +kernel) (by decide +kernel) (ci_ne1 (inR_to _) (by decide) b32) rfl ?_
          refine Ru.kI (q := (.iconst 0, 1)) (c := 0) (by decide +kernel) rfl (by decide) ?_
          cases h
          exact Ru.iret (by decide +kernel) rfl (nar_b1 (by decide))
    · replace h := if_f b23 h
      refine Ru.br2 (k := .ne) (off := 23) (bb := true) (tg := 74) (by decide +kernel) (by decide +kernel) (ci_ne1 (inR_to _) (by decide) b23) rfl ?_
      refine Ru.op (q := (.aload_n 1, 1)) (by decide +kernel) rfl ?_
      obtain ⟨o33, e34, h⟩ := ob_some h
      refine Ru.vcall (i := 77) (j2 := 48) (as := []) (by decide +kernel) (by rfl) rfl rfl (hp30 _) (by decide) ⟨(Nat.le_of_ble_eq_true rfl), (by show 19 + 5 ≤ 3450; exact Nat.le_of_ble_eq_true rfl), Nat.le_of_ble_eq_true rfl, Nat.le_of_ble_eq_true rfl⟩ ((g48_30_ok e34).up (Nat.le_of_ble_eq_true rfl) (Nat.le_of_ble_eq_true rfl)) ?_
      refine Ru.op (q := (.aload_n 0, 1)) (by decide +kernel) rfl ?_
      refine Ru.getI (i := 40) (x := (o33.F 1 3)) (by decide +kernel) (by rfl) (hp1 _) (by decide) rfl (eI_of _) ?_
      refine Ru.kI (q := (.iconst (-1), 1)) (c := (-1)) (by decide +kernel) rfl (by decide) ?_
      by_cases b35 : (o33.F 1 3) = (-1)
      · replace h := if_t b35 h
        refine Ru.br2 (k := .ne) (off := 7) (bb := false) (tg := 86) (by decide +kernel) (by decide +kernel) (ci_ne0 (inR_to _) (by decide) b35) rfl ?_
        refine Ru.kI (q := (.iconst 1, 1)) (c := 1) (by decide +kernel) rfl (by decide) ?_
        refine Ru.op (q := (.goto 4, 3)) (by decide +kernel) rfl ?_
        cases h
        exact Ru.iret (by decide +kernel) rfl (nar_b1 (by decide))
      · replace h := if_f b35 h
        refine Ru.br2 (k := .ne) (off := 7) (bb := true) (tg := 90) (by decide +kernel) (by decide +kernel) (ci_ne1 (inR_to _) (by decide) b35) rfl ?_
        refine Ru.kI (q := (.iconst 0, 1)) (c := 0) (by decide +kernel) rfl (by decide) ?_
        cases h
        exact Ru.iret (by decide +kernel) rfl (nar_b1 (by decide))
def g90 (S : St) (v1 : Int) (v2 : Int) : Option (Int) := gd (inR v1) (if v1 < 0 then some 0 else if v1 < (S.F 0 5) then gd (inR v2) (if v2 < 0 then some 0 else gd (ixR v1 24) (ob (S.R 35 v1) (fun c7 => gC S c7 (fun c9 c10 n11 n12 => if v2 < n11 then some 1 else some 0)))) else some 0)
set_option maxRecDepth 100000 in
set_option maxHeartbeats 4000000 in
theorem g90_ok {S : St} {v1 : Int} {v2 : Int} {o : Int} (h : g90 S v1 v2 = some o) : Ru none 10 200 90 (0, mn_pad (mn_ent [.ref 0, vI v1, vI v2]) 3, [], S.ns, Hp S) ((0, some (vI o)), S.ns, Hp S) := by
  unfold g90 at h
  show Ru none 10 200 90 (0, [some (.ref 0), some (vI v1), some (vI v2)], [], S.ns, Hp S) _
  refine Ru.op (q := (.iload_n 1, 1)) (by decide +kernel) rfl ?_
  obtain ⟨g1, h⟩ := gd_some h
  by_cases b2 : v1 < 0
  · replace h := if_t b2 h
    refine Ru.br (k := .lt) (off := 32) (bb := true) (tg := 33) (by decide +kernel) (by decide +kernel) (cz (ci_lt1 g1 (by decide) b2)) rfl ?_
    refine Ru.kI (q := (.iconst 0, 1)) (c := 0) (by decide +kernel) rfl (by decide) ?_
    cases h
    exact Ru.iret (by decide +kernel) rfl (nar_b1 (by decide))
  · replace h := if_f b2 h
    refine Ru.br (k := .lt) (off := 32) (bb := false) (tg := 4) (by decide +kernel) (by decide +kernel) (cz (ci_lt0 g1 (by decide) b2)) rfl ?_
    refine Ru.op (q := (.iload_n 1, 1)) (by decide +kernel) rfl ?_
    refine Ru.op (q := (.aload_n 0, 1)) (by decide +kernel) rfl ?_
    refine Ru.getI (i := 102) (x := (S.F 0 5)) (by decide +kernel) (by rfl) (hp0 _) (by decide) rfl (eI_of _) ?_
    by_cases b3 : v1 < (S.F 0 5)
    · replace h := if_t b3 h
      refine Ru.br2 (k := .ge) (off := 24) (bb := false) (tg := 12) (by decide +kernel) (by decide +kernel) (ci_ge0 g1 (inR_to _) b3) rfl ?_
      refine Ru.op (q := (.iload_n 2, 1)) (by decide +kernel) rfl ?_
      obtain ⟨g4, h⟩ := gd_some h
      by_cases b5 : v2 < 0
      · replace h := if_t b5 h
        refine Ru.br (k := .lt) (off := 20) (bb := true) (tg := 33) (by decide +kernel) (by decide +kernel) (cz (ci_lt1 g4 (by decide) b5)) rfl ?_
        refine Ru.kI (q := (.iconst 0, 1)) (c := 0) (by decide +kernel) rfl (by decide) ?_
        cases h
        exact Ru.iret (by decide +kernel) rfl (nar_b1 (by decide))
      · replace h := if_f b5 h
        refine Ru.br (k := .lt) (off := 20) (bb := false) (tg := 16) (by decide +kernel) (by decide +kernel) (cz (ci_lt0 g4 (by decide) b5)) rfl ?_
        refine Ru.op (q := (.iload_n 2, 1)) (by decide +kernel) rfl ?_
        refine Ru.op (q := (.aload_n 0, 1)) (by decide +kernel) rfl ?_
        refine Ru.get (i := 39) (v := .ref 35) (by decide +kernel) (by rfl) (hp0 _) (by decide) rfl ?_
        refine Ru.op (q := (.iload_n 1, 1)) (by decide +kernel) rfl ?_
        obtain ⟨g6, h⟩ := gd_some h
        obtain ⟨c7, e8, h⟩ := ob_some h
        refine Ru.aldI (i := v1) (b := c7) (by decide +kernel) (hp35 _) (by decide) g6 e8 ?_
        obtain ⟨c9, c10, n11, n12, e13, q14, h⟩ := gC_some h
        refine Ru.get (i := 132) (v := vI n11) (by decide +kernel) (by rfl) q14 (by decide) rfl ?_
        by_cases b15 : v2 < n11
        · replace h := if_t b15 h
          refine Ru.br2 (k := .ge) (off := 7) (bb := false) (tg := 29) (by decide +kernel) (by decide +kernel) (ci_ge0 g4 e13.1 b15) rfl ?_
          refine Ru.kI (q := (.iconst 1, 1)) (c := 1) (by decide +kernel) rfl (by decide) ?_
          refine Ru.op (q := (.goto 4, 3)) (by decide +kernel) rfl ?_
          cases h
          exact Ru.iret (by decide +kernel) rfl (nar_b1 (by decide))
        · replace h := if_f b15 h
          refine Ru.br2 (k := .ge) (off := 7) (bb := true) (tg := 33) (by decide +kernel) (by decide +kernel) (ci_ge1 g4 e13.1 b15) rfl ?_
          refine Ru.kI (q := (.iconst 0, 1)) (c := 0) (by decide +kernel) rfl (by decide) ?_
          cases h
          exact Ru.iret (by decide +kernel) rfl (nar_b1 (by decide))
    · replace h := if_f b3 h
      refine Ru.br2 (k := .ge) (off := 24) (bb := true) (tg := 33) (by decide +kernel) (by decide +kernel) (ci_ge1 g1 (inR_to _) b3) rfl ?_
      refine Ru.kI (q := (.iconst 0, 1)) (c := 0) (by decide +kernel) rfl (by decide) ?_
      cases h
      exact Ru.iret (by decide +kernel) rfl (nar_b1 (by decide))
def g89 (S : St) (v1 : Int) (v2 : Int) (v3 : Int) (v4 : Int) : Option (Int) := gd (inR v1) (if v1 = (-1) then gd (inR v2) (if v2 < 0 then some 0 else if v2 < (S.F 13 1) then gd (ixR v2 100) (ob (S.R 14 v2) (fun c7 => gK S c7 (fun c9 n10 n11 n12 n13 n14 n15 => if n11 = 0 then some 1 else some 0))) else some 0) else gd (inR v3) (if v3 = (-1) then ob (g90 S v1 v2) (fun o21 => gd (inR o21) (if o21 = 0 then some 0 else ob (g90 S v1 v4) (fun o25 => gd (inR o25) (if o25 = 0 then some 0 else gd (inR v2) (gd (inR v4) (if v2 = v4 then some 0 else some 1)))))) else ob (g90 S v1 v2) (fun o32 => gd (inR o32) (if o32 = 0 then some 0 else ob (g90 S v3 v4) (fun o36 => gd (inR o36) (if o36 = 0 then some 0 else some 1))))))
set_option maxRecDepth 100000 in
set_option maxHeartbeats 4000000 in
theorem g89_ok {S : St} {v1 : Int} {v2 : Int} {v3 : Int} {v4 : Int} {o : Int} (h : g89 S v1 v2 v3 v4 = some o) : Ru none 11 222 89 (0, mn_pad (mn_ent [.ref 0, vI v1, vI v2, vI v3, vI v4]) 5, [], S.ns, Hp S) ((0, some (vI o)), S.ns, Hp S) := by
  unfold g89 at h
  show Ru none 11 222 89 (0, [some (.ref 0), some (vI v1), some (vI v2), some (vI v3), some (vI v4)], [], S.ns, Hp S) _
  refine Ru.op (q := (.iload_n 1, 1)) (by decide +kernel) rfl ?_
  refine Ru.kI (q := (.iconst (-1), 1)) (c := (-1)) (by decide +kernel) rfl (by decide) ?_
  obtain ⟨g1, h⟩ := gd_some h
  by_cases b2 : v1 = (-1)
  · replace h := if_t b2 h
    refine Ru.br2 (k := .ne) (off := 39) (bb := false) (tg := 5) (by decide +kernel) (by decide +kernel) (ci_ne0 g1 (by decide) b2) rfl ?_
    refine Ru.op (q := (.iload_n 2, 1)) (by decide +kernel) rfl ?_
    obtain ⟨g3, h⟩ := gd_some h
    by_cases b4 : v2 < 0
    · replace h := if_t b4 h
      refine Ru.br (k := .lt) (off := 33) (bb := true) (tg := 39) (by decide +kernel) (by decide +kernel) (cz (ci_lt1 g3 (by decide) b4)) rfl ?_
      refine Ru.kI (q := (.iconst 0, 1)) (c := 0) (by decide +kernel) rfl (by decide) ?_
      cases h
      exact Ru.iret (by decide +kernel) rfl (nar_b1 (by decide))
    · replace h := if_f b4 h
      refine Ru.br (k := .lt) (off := 33) (bb := false) (tg := 9) (by decide +kernel) (by decide +kernel) (cz (ci_lt0 g3 (by decide) b4)) rfl ?_
      refine Ru.op (q := (.iload_n 2, 1)) (by decide +kernel) rfl ?_
      refine Ru.op (q := (.aload_n 0, 1)) (by decide +kernel) rfl ?_
      refine Ru.get (i := 19) (v := .ref 13) (by decide +kernel) (by rfl) (hp0 _) (by decide) rfl ?_
      refine Ru.getI (i := 105) (x := (S.F 13 1)) (by decide +kernel) (by rfl) (hp13 _) (by decide) rfl (eI_of _) ?_
      by_cases b5 : v2 < (S.F 13 1)
      · replace h := if_t b5 h
        refine Ru.br2 (k := .ge) (off := 22) (bb := false) (tg := 20) (by decide +kernel) (by decide +kernel) (ci_ge0 g3 (inR_to _) b5) rfl ?_
        refine Ru.op (q := (.aload_n 0, 1)) (by decide +kernel) rfl ?_
        refine Ru.get (i := 19) (v := .ref 13) (by decide +kernel) (by rfl) (hp0 _) (by decide) rfl ?_
        refine Ru.get (i := 111) (v := .ref 14) (by decide +kernel) (by rfl) (hp13 _) (by decide) rfl ?_
        refine Ru.op (q := (.iload_n 2, 1)) (by decide +kernel) rfl ?_
        obtain ⟨g6, h⟩ := gd_some h
        obtain ⟨c7, e8, h⟩ := ob_some h
        refine Ru.aldI (i := v2) (b := c7) (by decide +kernel) (hp14 _) (by decide) g6 e8 ?_
        obtain ⟨c9, n10, n11, n12, n13, n14, n15, e16, q17, h⟩ := gK_some h
        refine Ru.get (i := 138) (v := vI n11) (by decide +kernel) (by rfl) q17 (by decide) rfl ?_
        by_cases b18 : n11 = 0
        · replace h := if_t b18 h
          refine Ru.br (k := .ne) (off := 7) (bb := false) (tg := 35) (by decide +kernel) (by decide +kernel) (cz (ci_ne0 e16.2.1 (by decide) b18)) rfl ?_
          refine Ru.kI (q := (.iconst 1, 1)) (c := 1) (by decide +kernel) rfl (by decide) ?_
          refine Ru.op (q := (.goto 4, 3)) (by decide +kernel) rfl ?_
          cases h
          exact Ru.iret (by decide +kernel) rfl (nar_b1 (by decide))
        · replace h := if_f b18 h
          refine Ru.br (k := .ne) (off := 7) (bb := true) (tg := 39) (by decide +kernel) (by decide +kernel) (cz (ci_ne1 e16.2.1 (by decide) b18)) rfl ?_
          refine Ru.kI (q := (.iconst 0, 1)) (c := 0) (by decide +kernel) rfl (by decide) ?_
          cases h
          exact Ru.iret (by decide +kernel) rfl (nar_b1 (by decide))
      · replace h := if_f b5 h
        refine Ru.br2 (k := .ge) (off := 22) (bb := true) (tg := 39) (by decide +kernel) (by decide +kernel) (ci_ge1 g3 (inR_to _) b5) rfl ?_
        refine Ru.kI (q := (.iconst 0, 1)) (c := 0) (by decide +kernel) rfl (by decide) ?_
        cases h
        exact Ru.iret (by decide +kernel) rfl (nar_b1 (by decide))
  · replace h := if_f b2 h
    refine Ru.br2 (k := .ne) (off := 39) (bb := true) (tg := 41) (by decide +kernel) (by decide +kernel) (ci_ne1 g1 (by decide) b2) rfl ?_
    refine Ru.op (q := (.iload_n 3, 1)) (by decide +kernel) rfl ?_
    refine Ru.kI (q := (.iconst (-1), 1)) (c := (-1)) (by decide +kernel) rfl (by decide) ?_
    obtain ⟨g19, h⟩ := gd_some h
    by_cases b20 : v3 = (-1)
    · replace h := if_t b20 h
      refine Ru.br2 (k := .ne) (off := 34) (bb := false) (tg := 46) (by decide +kernel) (by decide +kernel) (ci_ne0 g19 (by decide) b20) rfl ?_
      refine Ru.op (q := (.aload_n 0, 1)) (by decide +kernel) rfl ?_
      refine Ru.op (q := (.iload_n 1, 1)) (by decide +kernel) rfl ?_
      refine Ru.op (q := (.iload_n 2, 1)) (by decide +kernel) rfl ?_
      obtain ⟨o21, e22, h⟩ := ob_some h
      refine Ru.vcall (i := 205) (j2 := 90) (as := [vI v1, vI v2]) (by decide +kernel) (by rfl) rfl rfl (hp0 _) (by decide) ⟨(Nat.le_of_ble_eq_true rfl), (by show 19 + 3 ≤ 222; exact Nat.le_of_ble_eq_true rfl), Nat.le_of_ble_eq_true rfl, Nat.le_of_ble_eq_true rfl⟩ ((g90_ok e22).up (Nat.le_of_ble_eq_true rfl) (Nat.le_of_ble_eq_true rfl)) ?_
      obtain ⟨g23, h⟩ := gd_some h
      by_cases b24 : o21 = 0
      · replace h := if_t b24 h
        refine Ru.br (k := .eq) (off := 23) (bb := true) (tg := 75) (by decide +kernel) (by decide +kernel) (cz (ci_eq1 g23 (by decide) b24)) rfl ?_
        refine Ru.kI (q := (.iconst 0, 1)) (c := 0) (by decide +kernel) rfl (by decide) ?_
        cases h
        exact Ru.iret (by decide +kernel) rfl (nar_b1 (by decide))
      · replace h := if_f b24 h
        refine Ru.br (k := .eq) (off := 23) (bb := false) (tg := 55) (by decide +kernel) (by decide +kernel) (cz (ci_eq0 g23 (by decide) b24)) rfl ?_
        refine Ru.op (q := (.aload_n 0, 1)) (by decide +kernel) rfl ?_
        refine Ru.op (q := (.iload_n 1, 1)) (by decide +kernel) rfl ?_
        refine Ru.op (q := (.iload 4, 2)) (by decide +kernel) rfl ?_
        obtain ⟨o25, e26, h⟩ := ob_some h
        refine Ru.vcall (i := 205) (j2 := 90) (as := [vI v1, vI v4]) (by decide +kernel) (by rfl) rfl rfl (hp0 _) (by decide) ⟨(Nat.le_of_ble_eq_true rfl), (by show 19 + 3 ≤ 222; exact Nat.le_of_ble_eq_true rfl), Nat.le_of_ble_eq_true rfl, Nat.le_of_ble_eq_true rfl⟩ ((g90_ok e26).up (Nat.le_of_ble_eq_true rfl) (Nat.le_of_ble_eq_true rfl)) ?_
        obtain ⟨g27, h⟩ := gd_some h
        by_cases b28 : o25 = 0
        · replace h := if_t b28 h
          refine Ru.br (k := .eq) (off := 13) (bb := true) (tg := 75) (by decide +kernel) (by decide +kernel) (cz (ci_eq1 g27 (by decide) b28)) rfl ?_
          refine Ru.kI (q := (.iconst 0, 1)) (c := 0) (by decide +kernel) rfl (by decide) ?_
          cases h
          exact Ru.iret (by decide +kernel) rfl (nar_b1 (by decide))
        · replace h := if_f b28 h
          refine Ru.br (k := .eq) (off := 13) (bb := false) (tg := 65) (by decide +kernel) (by decide +kernel) (cz (ci_eq0 g27 (by decide) b28)) rfl ?_
          refine Ru.op (q := (.iload_n 2, 1)) (by decide +kernel) rfl ?_
          refine Ru.op (q := (.iload 4, 2)) (by decide +kernel) rfl ?_
          obtain ⟨g29, h⟩ := gd_some h
          obtain ⟨g30, h⟩ := gd_some h
          by_cases b31 : v2 = v4
          · replace h := if_t b31 h
            refine Ru.br2 (k := .eq) (off := 7) (bb := true) (tg := 75) (by decide +kernel) (by decide +kernel) (ci_eq1 g29 g30 b31) rfl ?_
            refine Ru.kI (q := (.iconst 0, 1)) (c := 0) (by decide +kernel) rfl (by decide) ?_
            cases h
            exact Ru.iret (by decide +kernel) rfl (nar_b1 (by decide))
          · replace h := if_f b31 h
            refine Ru.br2 (k := .eq) (off := 7) (bb := false) (tg := 71) (by decide +kernel) (by decide +kernel) (ci_eq0 g29 g30 b31) rfl ?_
            refine Ru.kI (q := (.iconst 1, 1)) (c := 1) (by decide +kernel) rfl (by decide) ?_
            refine Ru.op (q := (.goto 4, 3)) (by decide +kernel) rfl ?_
            cases h
            exact Ru.iret (by decide +kernel) rfl (nar_b1 (by decide))
    · replace h := if_f b20 h
      refine Ru.br2 (k := .ne) (off := 34) (bb := true) (tg := 77) (by decide +kernel) (by decide +kernel) (ci_ne1 g19 (by decide) b20) rfl ?_
      refine Ru.op (q := (.aload_n 0, 1)) (by decide +kernel) rfl ?_
      refine Ru.op (q := (.iload_n 1, 1)) (by decide +kernel) rfl ?_
      refine Ru.op (q := (.iload_n 2, 1)) (by decide +kernel) rfl ?_
      obtain ⟨o32, e33, h⟩ := ob_some h
      refine Ru.vcall (i := 205) (j2 := 90) (as := [vI v1, vI v2]) (by decide +kernel) (by rfl) rfl rfl (hp0 _) (by decide) ⟨(Nat.le_of_ble_eq_true rfl), (by show 19 + 3 ≤ 222; exact Nat.le_of_ble_eq_true rfl), Nat.le_of_ble_eq_true rfl, Nat.le_of_ble_eq_true rfl⟩ ((g90_ok e33).up (Nat.le_of_ble_eq_true rfl) (Nat.le_of_ble_eq_true rfl)) ?_
      obtain ⟨g34, h⟩ := gd_some h
      by_cases b35 : o32 = 0
      · replace h := if_t b35 h
        refine Ru.br (k := .eq) (off := 17) (bb := true) (tg := 100) (by decide +kernel) (by decide +kernel) (cz (ci_eq1 g34 (by decide) b35)) rfl ?_
        refine Ru.kI (q := (.iconst 0, 1)) (c := 0) (by decide +kernel) rfl (by decide) ?_
        cases h
        exact Ru.iret (by decide +kernel) rfl (nar_b1 (by decide))
      · replace h := if_f b35 h
        refine Ru.br (k := .eq) (off := 17) (bb := false) (tg := 86) (by decide +kernel) (by decide +kernel) (cz (ci_eq0 g34 (by decide) b35)) rfl ?_
        refine Ru.op (q := (.aload_n 0, 1)) (by decide +kernel) rfl ?_
        refine Ru.op (q := (.iload_n 3, 1)) (by decide +kernel) rfl ?_
        refine Ru.op (q := (.iload 4, 2)) (by decide +kernel) rfl ?_
        obtain ⟨o36, e37, h⟩ := ob_some h
        refine Ru.vcall (i := 205) (j2 := 90) (as := [vI v3, vI v4]) (by decide +kernel) (by rfl) rfl rfl (hp0 _) (by decide) ⟨(Nat.le_of_ble_eq_true rfl), (by show 19 + 3 ≤ 222; exact Nat.le_of_ble_eq_true rfl), Nat.le_of_ble_eq_true rfl, Nat.le_of_ble_eq_true rfl⟩ ((g90_ok e37).up (Nat.le_of_ble_eq_true rfl) (Nat.le_of_ble_eq_true rfl)) ?_
        obtain ⟨g38, h⟩ := gd_some h
        by_cases b39 : o36 = 0
        · replace h := if_t b39 h
          refine Ru.br (k := .eq) (off := 7) (bb := true) (tg := 100) (by decide +kernel) (by decide +kernel) (cz (ci_eq1 g38 (by decide) b39)) rfl ?_
          refine Ru.kI (q := (.iconst 0, 1)) (c := 0) (by decide +kernel) rfl (by decide) ?_
          cases h
          exact Ru.iret (by decide +kernel) rfl (nar_b1 (by decide))
        · replace h := if_f b39 h
          refine Ru.br (k := .eq) (off := 7) (bb := false) (tg := 96) (by decide +kernel) (by decide +kernel) (cz (ci_eq0 g38 (by decide) b39)) rfl ?_
          refine Ru.kI (q := (.iconst 1, 1)) (c := 1) (by decide +kernel) rfl (by decide) ?_
          refine Ru.op (q := (.goto 4, 3)) (by decide +kernel) rfl ?_
          cases h
          exact Ru.iret (by decide +kernel) rfl (nar_b1 (by decide))
def g50_30 (S : St) : Option (Int) := if (S.F 30 3) = 0 then if 16 < (S.F 31 3) then some 0 else some 1 else some 0
set_option maxRecDepth 100000 in
set_option maxHeartbeats 4000000 in
theorem g50_30_ok {S : St} {o : Int} (h : g50_30 S  = some o) : Ru none 10 200 50 (0, mn_pad (mn_ent [.ref 30]) 1, [], S.ns, Hp S) ((0, some (vI o)), S.ns, Hp S) := by
  unfold g50_30 at h
  show Ru none 10 200 50 (0, [some (.ref 30)], [], S.ns, Hp S) _
  refine Ru.op (q := (.aload_n 0, 1)) (by decide +kernel) rfl ?_
  refine Ru.getI (i := 37) (x := (S.F 30 3)) (by decide +kernel) (by rfl) (hp30 _) (by decide) rfl (eI_of _) ?_
  by_cases b1 : (S.F 30 3) = 0
  · replace h := if_t b1 h
    refine Ru.br (k := .ne) (off := 19) (bb := false) (tg := 7) (by decide +kernel) (by decide +kernel) (cz (ci_ne0 (inR_to _) (by decide) b1)) rfl ?_
    refine Ru.op (q := (.aload_n 0, 1)) (by decide +kernel) rfl ?_
    refine Ru.get (i := 14) (v := .ref 31) (by decide +kernel) (by rfl) (hp30 _) (by decide) rfl ?_
    refine Ru.getI (i := 28) (x := (S.F 31 3)) (by decide +kernel) (by rfl) (hp31 _) (by decide) rfl (eI_of _) ?_
    refine Ru.kI (q := (.bipush 16, 2)) (c := 16) (by decide +kernel) rfl (by decide) ?_
    by_cases b2 : 16 < (S.F 31 3)
    · replace h := if_t b2 h
      refine Ru.br2 (k := .gt) (off := 7) (bb := true) (tg := 23) (by decide +kernel) (by decide +kernel) (ci_gt1 (inR_to _) (by decide) b2) rfl ?_
      refine Ru.kI (q := (.iconst 0, 1)) (c := 0) (by decide +kernel) rfl (by decide) ?_
      cases h
      exact Ru.iret (by decide +kernel) rfl (nar_b1 (by decide))
    · replace h := if_f b2 h
      refine Ru.br2 (k := .gt) (off := 7) (bb := false) (tg := 19) (by decide +kernel) (by decide +kernel) (ci_gt0 (inR_to _) (by decide) b2) rfl ?_
      refine Ru.kI (q := (.iconst 1, 1)) (c := 1) (by decide +kernel) rfl (by decide) ?_
      refine Ru.op (q := (.goto 4, 3)) (by decide +kernel) rfl ?_
      cases h
      exact Ru.iret (by decide +kernel) rfl (nar_b1 (by decide))
  · replace h := if_f b1 h
    refine Ru.br (k := .ne) (off := 19) (bb := true) (tg := 23) (by decide +kernel) (by decide +kernel) (cz (ci_ne1 (inR_to _) (by decide) b1)) rfl ?_
    refine Ru.kI (q := (.iconst 0, 1)) (c := 0) (by decide +kernel) rfl (by decide) ?_
    cases h
    exact Ru.iret (by decide +kernel) rfl (nar_b1 (by decide))
def g91 (S : St) (v1 : Int) (v2 : Int) (v3 : Int) (v4 : Int) : Option (Option Nat × St) := gd (inR v1) (if v1 = (-1) then gd (ixR v2 100) (ob (S.R 14 v2) (fun c4 => gK S c4 (fun c6 n7 n8 n9 n10 n11 n12 => some ((some c6), S)))) else gd (inR v3) (if v3 = (-1) then gd (ixR v1 24) (ob (S.R 35 v1) (fun c18 => ob (g67_15 S c18 v2 v4) (fun o20 => gd (inR o20.1) (if o20.1 = 0 then some (none, o20.2) else if (o20.2.F 15 3) = 0 then some ((some 16), o20.2) else some (none, o20.2))))) else gd (ixR v1 24) (ob (S.R 35 v1) (fun c26 => gd (ixR v3 24) (ob (S.R 35 v3) (fun c29 => ob (g75_15 S c26 v2 c29 v4) (fun o31 => gd (inR o31.1) (if o31.1 = 0 then some (none, o31.2) else if (o31.2.F 15 3) = 0 then some ((some 16), o31.2) else some (none, o31.2)))))))))
set_option maxRecDepth 100000 in
set_option maxHeartbeats 4000000 in
theorem g91_ok {S : St} {v1 : Int} {v2 : Int} {v3 : Int} {v4 : Int} {o : Option Nat × St} (h : g91 S v1 v2 v3 v4 = some o) : Ru none 142 3956 91 (0, mn_pad (mn_ent [.ref 0, vI v1, vI v2, vI v3, vI v4]) 6, [], S.ns, Hp S) ((0, some (rV o.1)), o.2.ns, Hp o.2) := by
  unfold g91 at h
  show Ru none 142 3956 91 (0, [some (.ref 0), some (vI v1), some (vI v2), some (vI v3), some (vI v4), none], [], S.ns, Hp S) _
  refine Ru.op (q := (.iload_n 1, 1)) (by decide +kernel) rfl ?_
  refine Ru.kI (q := (.iconst (-1), 1)) (c := (-1)) (by decide +kernel) rfl (by decide) ?_
  obtain ⟨g1, h⟩ := gd_some h
  by_cases b2 : v1 = (-1)
  · replace h := if_t b2 h
    refine Ru.br2 (k := .ne) (off := 16) (bb := false) (tg := 5) (by decide +kernel) (by decide +kernel) (ci_ne0 g1 (by decide) b2) rfl ?_
    refine Ru.op (q := (.aload_n 0, 1)) (by decide +kernel) rfl ?_
    refine Ru.get (i := 19) (v := .ref 13) (by decide +kernel) (by rfl) (hp0 _) (by decide) rfl ?_
    refine Ru.get (i := 111) (v := .ref 14) (by decide +kernel) (by rfl) (hp13 _) (by decide) rfl ?_
    refine Ru.op (q := (.iload_n 2, 1)) (by decide +kernel) rfl ?_
    obtain ⟨g3, h⟩ := gd_some h
    obtain ⟨c4, e5, h⟩ := ob_some h
    refine Ru.aldI (i := v2) (b := c4) (by decide +kernel) (hp14 _) (by decide) g3 e5 ?_
    obtain ⟨c6, n7, n8, n9, n10, n11, n12, e13, q14, h⟩ := gK_some h
    refine Ru.get (i := 115) (v := .ref c6) (by decide +kernel) (by rfl) q14 (by decide) rfl ?_
    cases h
    exact Ru.end (q := (.areturn, 1)) (by decide +kernel) rfl rfl
  · replace h := if_f b2 h
    refine Ru.br2 (k := .ne) (off := 16) (bb := true) (tg := 18) (by decide +kernel) (by decide +kernel) (ci_ne1 g1 (by decide) b2) rfl ?_
    refine Ru.op (q := (.iload_n 3, 1)) (by decide +kernel) rfl ?_
    refine Ru.kI (q := (.iconst (-1), 1)) (c := (-1)) (by decide +kernel) rfl (by decide) ?_
    obtain ⟨g15, h⟩ := gd_some h
    by_cases b16 : v3 = (-1)
    · replace h := if_t b16 h
      refine Ru.br2 (k := .ne) (off := 32) (bb := false) (tg := 23) (by decide +kernel) (by decide +kernel) (ci_ne0 g15 (by decide) b16) rfl ?_
      refine Ru.op (q := (.aload_n 0, 1)) (by decide +kernel) rfl ?_
      refine Ru.get (i := 19) (v := .ref 13) (by decide +kernel) (by rfl) (hp0 _) (by decide) rfl ?_
      refine Ru.get (i := 209) (v := .ref 20) (by decide +kernel) (by rfl) (hp13 _) (by decide) rfl ?_
      refine Ru.op (q := (.aload_n 0, 1)) (by decide +kernel) rfl ?_
      refine Ru.get (i := 39) (v := .ref 35) (by decide +kernel) (by rfl) (hp0 _) (by decide) rfl ?_
      refine Ru.op (q := (.iload_n 1, 1)) (by decide +kernel) rfl ?_
      obtain ⟨g17, h⟩ := gd_some h
      obtain ⟨c18, e19, h⟩ := ob_some h
      refine Ru.aldI (i := v1) (b := c18) (by decide +kernel) (hp35 _) (by decide) g17 e19 ?_
      refine Ru.op (q := (.iload_n 2, 1)) (by decide +kernel) rfl ?_
      refine Ru.op (q := (.iload 4, 2)) (by decide +kernel) rfl ?_
      refine Ru.op (q := (.aload_n 0, 1)) (by decide +kernel) rfl ?_
      refine Ru.get (i := 19) (v := .ref 13) (by decide +kernel) (by rfl) (hp0 _) (by decide) rfl ?_
      refine Ru.get (i := 213) (v := .ref 15) (by decide +kernel) (by rfl) (hp13 _) (by decide) rfl ?_
      obtain ⟨o20, e21, h⟩ := ob_some h
      refine Ru.vcall (i := 216) (j2 := 67) (as := [.ref c18, vI v2, vI v4, .ref 15]) (by decide +kernel) (by rfl) rfl rfl (hp20 _) (by decide) ⟨(Nat.le_of_ble_eq_true rfl), (by show 19 + 7 ≤ 3956; exact Nat.le_of_ble_eq_true rfl), Nat.le_of_ble_eq_true rfl, Nat.le_of_ble_eq_true rfl⟩ ((g67_15_ok e21).up (Nat.le_of_ble_eq_true rfl) (Nat.le_of_ble_eq_true rfl)) ?_
      refine Ru.op (q := (.goto 35, 3)) (by decide +kernel) rfl ?_
      refine Ru.op (q := (.istore 5, 2)) (S' := (86, [some (.ref 0), some (vI v1), some (vI v2), some (vI v3), some (vI v4), some (vI o20.1)], [], _, _)) (by decide +kernel) rfl ?_
      refine Ru.op (q := (.iload 5, 2)) (by decide +kernel) rfl ?_
      obtain ⟨g22, h⟩ := gd_some h
      by_cases b23 : o20.1 = 0
      · replace h := if_t b23 h
        refine Ru.br (k := .eq) (off := 29) (bb := true) (tg := 117) (by decide +kernel) (by decide +kernel) (cz (ci_eq1 g22 (by decide) b23)) rfl ?_
        refine Ru.op (q := (.aconst_null, 1)) (by decide +kernel) rfl ?_
        cases h
        exact Ru.end (q := (.areturn, 1)) (by decide +kernel) rfl rfl
      · replace h := if_f b23 h
        refine Ru.br (k := .eq) (off := 29) (bb := false) (tg := 91) (by decide +kernel) (by decide +kernel) (cz (ci_eq0 g22 (by decide) b23)) rfl ?_
        refine Ru.op (q := (.aload_n 0, 1)) (by decide +kernel) rfl ?_
        refine Ru.get (i := 19) (v := .ref 13) (by decide +kernel) (by rfl) (hp0 _) (by decide) rfl ?_
        refine Ru.get (i := 213) (v := .ref 15) (by decide +kernel) (by rfl) (hp13 _) (by decide) rfl ?_
        refine Ru.getI (i := 226) (x := (o20.2.F 15 3)) (by decide +kernel) (by rfl) (hp15 _) (by decide) rfl (eI_of _) ?_
        by_cases b24 : (o20.2.F 15 3) = 0
        · replace h := if_t b24 h
          refine Ru.br (k := .ne) (off := 16) (bb := false) (tg := 104) (by decide +kernel) (by decide +kernel) (cz (ci_ne0 (inR_to _) (by decide) b24)) rfl ?_
          refine Ru.op (q := (.aload_n 0, 1)) (by decide +kernel) rfl ?_
          refine Ru.get (i := 19) (v := .ref 13) (by decide +kernel) (by rfl) (hp0 _) (by decide) rfl ?_
          refine Ru.get (i := 213) (v := .ref 15) (by decide +kernel) (by rfl) (hp13 _) (by decide) rfl ?_
          refine Ru.get (i := 182) (v := .ref 16) (by decide +kernel) (by rfl) (hp15 _) (by decide) rfl ?_
          refine Ru.op (q := (.goto 4, 3)) (by decide +kernel) rfl ?_
          cases h
          exact Ru.end (q := (.areturn, 1)) (by decide +kernel) rfl rfl
        · replace h := if_f b24 h
          refine Ru.br (k := .ne) (off := 16) (bb := true) (tg := 117) (by decide +kernel) (by decide +kernel) (cz (ci_ne1 (inR_to _) (by decide) b24)) rfl ?_
          refine Ru.op (q := (.aconst_null, 1)) (by decide +kernel) rfl ?_
          cases h
          exact Ru.end (q := (.areturn, 1)) (by decide +kernel) rfl rfl
    · replace h := if_f b16 h
      refine Ru.br2 (k := .ne) (off := 32) (bb := true) (tg := 52) (by decide +kernel) (by decide +kernel) (ci_ne1 g15 (by decide) b16) rfl ?_
      refine Ru.op (q := (.aload_n 0, 1)) (by decide +kernel) rfl ?_
      refine Ru.get (i := 19) (v := .ref 13) (by decide +kernel) (by rfl) (hp0 _) (by decide) rfl ?_
      refine Ru.get (i := 209) (v := .ref 20) (by decide +kernel) (by rfl) (hp13 _) (by decide) rfl ?_
      refine Ru.op (q := (.aload_n 0, 1)) (by decide +kernel) rfl ?_
      refine Ru.get (i := 39) (v := .ref 35) (by decide +kernel) (by rfl) (hp0 _) (by decide) rfl ?_
      refine Ru.op (q := (.iload_n 1, 1)) (by decide +kernel) rfl ?_
      obtain ⟨g25, h⟩ := gd_some h
      obtain ⟨c26, e27, h⟩ := ob_some h
      refine Ru.aldI (i := v1) (b := c26) (by decide +kernel) (hp35 _) (by decide) g25 e27 ?_
      refine Ru.op (q := (.iload_n 2, 1)) (by decide +kernel) rfl ?_
      refine Ru.op (q := (.aload_n 0, 1)) (by decide +kernel) rfl ?_
      refine Ru.get (i := 39) (v := .ref 35) (by decide +kernel) (by rfl) (hp0 _) (by decide) rfl ?_
      refine Ru.op (q := (.iload_n 3, 1)) (by decide +kernel) rfl ?_
      obtain ⟨g28, h⟩ := gd_some h
      obtain ⟨c29, e30, h⟩ := ob_some h
      refine Ru.aldI (i := v3) (b := c29) (by decide +kernel) (hp35 _) (by decide) g28 e30 ?_
      refine Ru.op (q := (.iload 4, 2)) (by decide +kernel) rfl ?_
      refine Ru.op (q := (.aload_n 0, 1)) (by decide +kernel) rfl ?_
      refine Ru.get (i := 19) (v := .ref 13) (by decide +kernel) (by rfl) (hp0 _) (by decide) rfl ?_
      refine Ru.get (i := 213) (v := .ref 15) (by decide +kernel) (by rfl) (hp13 _) (by decide) rfl ?_
      obtain ⟨o31, e32, h⟩ := ob_some h
      refine Ru.vcall (i := 222) (j2 := 75) (as := [.ref c26, vI v2, .ref c29, vI v4, .ref 15]) (by decide +kernel) (by rfl) rfl rfl (hp20 _) (by decide) ⟨(Nat.le_of_ble_eq_true rfl), (by show 19 + 8 ≤ 3956; exact Nat.le_of_ble_eq_true rfl), Nat.le_of_ble_eq_true rfl, Nat.le_of_ble_eq_true rfl⟩ ((g75_15_ok e32).up (Nat.le_of_ble_eq_true rfl) (Nat.le_of_ble_eq_true rfl)) ?_
      refine Ru.op (q := (.istore 5, 2)) (S' := (86, [some (.ref 0), some (vI v1), some (vI v2), some (vI v3), some (vI v4), some (vI o31.1)], [], _, _)) (by decide +kernel) rfl ?_
      refine Ru.op (q := (.iload 5, 2)) (by decide +kernel) rfl ?_
      obtain ⟨g33, h⟩ := gd_some h
      by_cases b34 : o31.1 = 0
      · replace h := if_t b34 h
        refine Ru.br (k := .eq) (off := 29) (bb := true) (tg := 117) (by decide +kernel) (by decide +kernel) (cz (ci_eq1 g33 (by decide) b34)) rfl ?_
        refine Ru.op (q := (.aconst_null, 1)) (by decide +kernel) rfl ?_
        cases h
        exact Ru.end (q := (.areturn, 1)) (by decide +kernel) rfl rfl
      · replace h := if_f b34 h
        refine Ru.br (k := .eq) (off := 29) (bb := false) (tg := 91) (by decide +kernel) (by decide +kernel) (cz (ci_eq0 g33 (by decide) b34)) rfl ?_
        refine Ru.op (q := (.aload_n 0, 1)) (by decide +kernel) rfl ?_
        refine Ru.get (i := 19) (v := .ref 13) (by decide +kernel) (by rfl) (hp0 _) (by decide) rfl ?_
        refine Ru.get (i := 213) (v := .ref 15) (by decide +kernel) (by rfl) (hp13 _) (by decide) rfl ?_
        refine Ru.getI (i := 226) (x := (o31.2.F 15 3)) (by decide +kernel) (by rfl) (hp15 _) (by decide) rfl (eI_of _) ?_
        by_cases b35 : (o31.2.F 15 3) = 0
        · replace h := if_t b35 h
          refine Ru.br (k := .ne) (off := 16) (bb := false) (tg := 104) (by decide +kernel) (by decide +kernel) (cz (ci_ne0 (inR_to _) (by decide) b35)) rfl ?_
          refine Ru.op (q := (.aload_n 0, 1)) (by decide +kernel) rfl ?_
          refine Ru.get (i := 19) (v := .ref 13) (by decide +kernel) (by rfl) (hp0 _) (by decide) rfl ?_
          refine Ru.get (i := 213) (v := .ref 15) (by decide +kernel) (by rfl) (hp13 _) (by decide) rfl ?_
          refine Ru.get (i := 182) (v := .ref 16) (by decide +kernel) (by rfl) (hp15 _) (by decide) rfl ?_
          refine Ru.op (q := (.goto 4, 3)) (by decide +kernel) rfl ?_
          cases h
          exact Ru.end (q := (.areturn, 1)) (by decide +kernel) rfl rfl
        · replace h := if_f b35 h
          refine Ru.br (k := .ne) (off := 16) (bb := true) (tg := 117) (by decide +kernel) (by decide +kernel) (cz (ci_ne1 (inR_to _) (by decide) b35)) rfl ?_
          refine Ru.op (q := (.aconst_null, 1)) (by decide +kernel) rfl ?_
          cases h
          exact Ru.end (q := (.areturn, 1)) (by decide +kernel) rfl rfl
def g58_30 (S : St) : Option (Nat × St) := gN (S.nw 5 4) S.top 5 (gd (c5R (S.F 31 3) (S.F 31 2)) (gC ((S.nw 5 4).c5 S.top (S.F 31 3) (S.F 31 2)) S.top (fun c4 c5 n6 n7 => gA ((S.nw 5 4).c5 S.top (S.F 31 3) (S.F 31 2)) 32 (fun N10 f11 => gA ((S.nw 5 4).c5 S.top (S.F 31 3) (S.F 31 2)) c4 (fun N14 f15 => gd (72 ≤ c4) (gd (cpR N10 N14 0 0 (S.F 31 3)) (gC (((S.nw 5 4).c5 S.top (S.F 31 3) (S.F 31 2)).t c4 (.ar N14 (cpI f11 f15 0 0 (S.F 31 3)))) S.top (fun c20 c21 n22 n23 => gA (((S.nw 5 4).c5 S.top (S.F 31 3) (S.F 31 2)).t c4 (.ar N14 (cpI f11 f15 0 0 (S.F 31 3)))) 33 (fun N26 f27 => gA (((S.nw 5 4).c5 S.top (S.F 31 3) (S.F 31 2)).t c4 (.ar N14 (cpI f11 f15 0 0 (S.F 31 3)))) c21 (fun N30 f31 => gd (72 ≤ c21) (gd (cpR N26 N30 0 0 ((S.F 31 2) + 1)) (gC ((((S.nw 5 4).c5 S.top (S.F 31 3) (S.F 31 2)).t c4 (.ar N14 (cpI f11 f15 0 0 (S.F 31 3)))).t c21 (.ar N30 (cpI f27 f31 0 0 ((S.F 31 2) + 1)))) S.top (fun c36 c37 n38 n39 => gd (72 ≤ S.top) (gC (((((S.nw 5 4).c5 S.top (S.F 31 3) (S.F 31 2)).t c4 (.ar N14 (cpI f11 f15 0 0 (S.F 31 3)))).t c21 (.ar N30 (cpI f27 f31 0 0 ((S.F 31 2) + 1)))).t S.top (.ob 5 [c36, c37] [eI (S.F 31 2), eI n39])) S.top (fun c43 c44 n45 n46 => some (S.top, ((((((S.nw 5 4).c5 S.top (S.F 31 3) (S.F 31 2)).t c4 (.ar N14 (cpI f11 f15 0 0 (S.F 31 3)))).t c21 (.ar N30 (cpI f27 f31 0 0 ((S.F 31 2) + 1)))).t S.top (.ob 5 [c36, c37] [eI (S.F 31 2), eI n39])).t S.top (.ob 5 [c43, c44] [eI n45, eI (S.F 31 3)]))))))))))))))))))
set_option maxRecDepth 100000 in
set_option maxHeartbeats 4000000 in
theorem g58_30_ok {S : St} {o : Nat × St} (h : g58_30 S  = some o) : Ru none 11 222 58 (0, mn_pad (mn_ent [.ref 30]) 2, [], S.ns, Hp S) ((0, some (Value.ref o.1)), o.2.ns, Hp o.2) := by
  unfold g58_30 at h
  show Ru none 11 222 58 (0, [some (.ref 30), none], [], S.ns, Hp S) _
  refine Ru.nwI (S := S) (i := 9) (n := 4) (by decide +kernel) (by rfl) (by decide) rfl ?_
  refine Ru.op (q := (.dup, 1)) (by decide +kernel) rfl ?_
  refine Ru.op (q := (.aload_n 0, 1)) (by decide +kernel) rfl ?_
  refine Ru.get (i := 14) (v := .ref 31) (by decide +kernel) (by rfl) (hp30 _) (by decide) rfl ?_
  refine Ru.getI (i := 28) (x := (S.F 31 3)) (by decide +kernel) (by rfl) (hp31 _) (by decide) rfl (eI_of _) ?_
  refine Ru.op (q := (.aload_n 0, 1)) (by decide +kernel) rfl ?_
  refine Ru.get (i := 14) (v := .ref 31) (by decide +kernel) (by rfl) (hp30 _) (by decide) rfl ?_
  refine Ru.getI (i := 24) (x := (S.F 31 2)) (by decide +kernel) (by rfl) (hp31 _) (by decide) rfl (eI_of _) ?_
  obtain ⟨q2, e1, h⟩ := gN_e h
  obtain ⟨g3, h⟩ := gd_some h
  refine Ru.call (q := (.invokespecial 11, 3)) (j2 := 5) (as := [.ref S.top, vI (S.F 31 3), vI (S.F 31 2)]) (by decide +kernel) rfl rfl rfl rfl ⟨(Nat.le_of_ble_eq_true rfl), (by show 19 + 3 ≤ 222; exact Nat.le_of_ble_eq_true rfl), Nat.le_of_ble_eq_true rfl, Nat.le_of_ble_eq_true rfl⟩ ((ctor5_ok q2 e1 g3).up (Nat.le_of_ble_eq_true rfl) (Nat.le_of_ble_eq_true rfl)) ?_
  refine Ru.op (q := (.astore_n 1, 1)) (S' := (22, [some (.ref 30), some (.ref S.top)], [], _, _)) (by decide +kernel) rfl ?_
  refine Ru.op (q := (.aload_n 0, 1)) (by decide +kernel) rfl ?_
  refine Ru.get (i := 14) (v := .ref 31) (by decide +kernel) (by rfl) (hp30 _) (by decide) rfl ?_
  refine Ru.get (i := 41) (v := .ref 32) (by decide +kernel) (by rfl) (hp31 _) (by decide) rfl ?_
  refine Ru.kI (q := (.iconst 0, 1)) (c := 0) (by decide +kernel) rfl (by decide) ?_
  refine Ru.op (q := (.aload_n 1, 1)) (by decide +kernel) rfl ?_
  obtain ⟨c4, c5, n6, n7, e8, q9, h⟩ := gC_some h
  refine Ru.get (i := 41) (v := .ref c4) (by decide +kernel) (by rfl) q9 (by decide) rfl ?_
  refine Ru.kI (q := (.iconst 0, 1)) (c := 0) (by decide +kernel) rfl (by decide) ?_
  refine Ru.op (q := (.aload_n 0, 1)) (by decide +kernel) rfl ?_
  refine Ru.get (i := 14) (v := .ref 31) (by decide +kernel) (by rfl) (hp30 _) (by decide) rfl ?_
  refine Ru.getI (i := 28) (x := (S.F 31 3)) (by decide +kernel) (by rfl) (hp31 _) (by decide) rfl (eI_of _) ?_
  obtain ⟨N10, f11, e12, q13, h⟩ := gA_some h
  obtain ⟨N14, f15, e16, q17, h⟩ := gA_some h
  obtain ⟨g18, h⟩ := gd_some h
  obtain ⟨g19, h⟩ := gd_some h
  refine Ru.acI (i := 64) (k := (0, 0, 0, 0, 0)) (by decide +kernel) (by rfl) q13 q17 g19 (Nat.le_of_ble_eq_true rfl) (by decide +kernel) (pt_ok g18 (x := .ar _ _)) ?_
  refine Ru.op (q := (.aload_n 0, 1)) (by decide +kernel) rfl ?_
  refine Ru.get (i := 14) (v := .ref 31) (by decide +kernel) (by rfl) (hp30 _) (by decide) rfl ?_
  refine Ru.get (i := 31) (v := .ref 33) (by decide +kernel) (by rfl) (hp31 _) (by decide) rfl ?_
  refine Ru.kI (q := (.iconst 0, 1)) (c := 0) (by decide +kernel) rfl (by decide) ?_
  refine Ru.op (q := (.aload_n 1, 1)) (by decide +kernel) rfl ?_
  obtain ⟨c20, c21, n22, n23, e24, q25, h⟩ := gC_some h
  refine Ru.get (i := 31) (v := .ref c21) (by decide +kernel) (by rfl) q25 (by decide) rfl ?_
  refine Ru.kI (q := (.iconst 0, 1)) (c := 0) (by decide +kernel) rfl (by decide) ?_
  refine Ru.op (q := (.aload_n 0, 1)) (by decide +kernel) rfl ?_
  refine Ru.get (i := 14) (v := .ref 31) (by decide +kernel) (by rfl) (hp30 _) (by decide) rfl ?_
  refine Ru.getI (i := 24) (x := (S.F 31 2)) (by decide +kernel) (by rfl) (hp31 _) (by decide) rfl (eI_of _) ?_
  refine Ru.kI (q := (.iconst 1, 1)) (c := 1) (by decide +kernel) rfl (by decide) ?_
  refine Ru.ar2 (i := .iadd) (z := ((S.F 31 2) + 1)) (by decide +kernel) rfl (ar_add _ _) ?_
  obtain ⟨N26, f27, e28, q29, h⟩ := gA_some h
  obtain ⟨N30, f31, e32, q33, h⟩ := gA_some h
  obtain ⟨g34, h⟩ := gd_some h
  obtain ⟨g35, h⟩ := gd_some h
  refine Ru.acI (i := 64) (k := (0, 0, 0, 0, 0)) (by decide +kernel) (by rfl) q29 q33 g35 (Nat.le_of_ble_eq_true rfl) (by decide +kernel) (pt_ok g34 (x := .ar _ _)) ?_
  refine Ru.op (q := (.aload_n 1, 1)) (by decide +kernel) rfl ?_
  refine Ru.op (q := (.aload_n 0, 1)) (by decide +kernel) rfl ?_
  refine Ru.get (i := 14) (v := .ref 31) (by decide +kernel) (by rfl) (hp30 _) (by decide) rfl ?_
  refine Ru.getI (i := 24) (x := (S.F 31 2)) (by decide +kernel) (by rfl) (hp31 _) (by decide) rfl (eI_of _) ?_
  obtain ⟨c36, c37, n38, n39, e40, q41, h⟩ := gC_some h
  obtain ⟨g42, h⟩ := gd_some h
  refine Ru.putH (i := 24) (by decide +kernel) (by rfl) q41 (by decide) (Nat.le_of_ble_eq_true rfl) rfl (by decide +kernel) (pt_ok g42 (x := .ob 5 [c36, c37] [eI (S.F 31 2), eI n39])) ?_
  refine Ru.op (q := (.aload_n 1, 1)) (by decide +kernel) rfl ?_
  refine Ru.op (q := (.aload_n 0, 1)) (by decide +kernel) rfl ?_
  refine Ru.get (i := 14) (v := .ref 31) (by decide +kernel) (by rfl) (hp30 _) (by decide) rfl ?_
  refine Ru.getI (i := 28) (x := (S.F 31 3)) (by decide +kernel) (by rfl) (hp31 _) (by decide) rfl (eI_of _) ?_
  obtain ⟨c43, c44, n45, n46, e47, q48, h⟩ := gC_some h
  refine Ru.putH (i := 28) (by decide +kernel) (by rfl) q48 (by decide) (Nat.le_of_ble_eq_true rfl) rfl (by decide +kernel) (pt_ok g42 (x := .ob 5 [c43, c44] [eI n45, eI (S.F 31 3)])) ?_
  refine Ru.op (q := (.aload_n 1, 1)) (by decide +kernel) rfl ?_
  cases h
  exact Ru.end (q := (.areturn, 1)) (by decide +kernel) rfl rfl
def g86 (S : St) (v1 : Int) (v2 : Int) (v3 : Int) (v4 : Int) : Option (Nat × Int × St) := ob (g87_30 S) (fun o1 => gd (inR o1.1) (if o1.1 = 0 then some (1, 0, (o1.2.f 0 6 (o1.2.F 1 3)).ho) else ob (g89 o1.2 v1 v2 v3 v4) (fun o5 => gd (inR o5) (if o5 = 0 then some (3, 0, o1.2.ho) else ob (g50_30 o1.2) (fun o9 => gd (inR o9) (if o9 = 0 then some (2, 0, o1.2.ho) else if (o1.2.F 0 5) < 24 then ob (g91 o1.2 v1 v2 v3 v4) (fun o14 => on o14.1 (some (0, (-1), ((o14.2.f 1 1 0).f 0 6 (-1)))) (fun c16 => ob (g54 ((o14.2.f 1 1 0).f 0 6 (-1)) c16 31) (fun o18 => gd (inR o18.1) (if o18.1 = 0 then some (0, (-1), o18.2) else ob (g58_30 o18.2) (fun o22 => gd (ixR (o18.2.F 0 5) 24) (gC o22.2 o22.1 (fun c25 c26 n27 n28 => some (0, (((o22.2.F 0 5) + 1) - 1), ((o22.2.r 35 (o18.2.F 0 5) (some o22.1)).f 0 5 ((o22.2.F 0 5) + 1)))))))))) else some (2, 0, o1.2.ho)))))))
set_option maxRecDepth 100000 in
set_option maxHeartbeats 4000000 in
theorem g86_ok {S : St} {v1 : Int} {v2 : Int} {v3 : Int} {v4 : Int} {o : Nat × Int × St} (h : g86 S v1 v2 v3 v4 = some o) : Ru none 144 3981 86 (0, mn_pad (mn_ent [.ref 0, vI v1, vI v2, vI v3, vI v4]) 6, [], S.ns, Hp S) ((o.1, tv o.1 o.2.1), o.2.2.ns, Hp o.2.2) := by
  unfold g86 at h
  show Ru none 144 3981 86 (0, [some (.ref 0), some (vI v1), some (vI v2), some (vI v3), some (vI v4), none], [], S.ns, Hp S) _
  refine Ru.op (q := (.aload_n 0, 1)) (by decide +kernel) rfl ?_
  refine Ru.get (i := 12) (v := .ref 1) (by decide +kernel) (by rfl) (hp0 _) (by decide) rfl ?_
  refine Ru.op (q := (.aload_n 0, 1)) (by decide +kernel) rfl ?_
  refine Ru.get (i := 33) (v := .ref 30) (by decide +kernel) (by rfl) (hp0 _) (by decide) rfl ?_
  obtain ⟨o1, e2, h⟩ := ob_some h
  refine Ru.vcall (i := 166) (j2 := 87) (as := [.ref 30]) (by decide +kernel) (by rfl) rfl rfl (hp1 _) (by decide) ⟨(Nat.le_of_ble_eq_true rfl), (by show 19 + 2 ≤ 3981; exact Nat.le_of_ble_eq_true rfl), Nat.le_of_ble_eq_true rfl, Nat.le_of_ble_eq_true rfl⟩ ((g87_30_ok e2).up (Nat.le_of_ble_eq_true rfl) (Nat.le_of_ble_eq_true rfl)) ?_
  obtain ⟨g3, h⟩ := gd_some h
  by_cases b4 : o1.1 = 0
  · replace h := if_t b4 h
    refine Ru.br (k := .ne) (off := 22) (bb := false) (tg := 14) (by decide +kernel) (by decide +kernel) (cz (ci_ne0 g3 (by decide) b4)) rfl ?_
    refine Ru.op (q := (.aload_n 0, 1)) (by decide +kernel) rfl ?_
    refine Ru.op (q := (.aload_n 0, 1)) (by decide +kernel) rfl ?_
    refine Ru.get (i := 12) (v := .ref 1) (by decide +kernel) (by rfl) (hp0 _) (by decide) rfl ?_
    refine Ru.getI (i := 71) (x := (o1.2.F 1 3)) (by decide +kernel) (by rfl) (hp1 _) (by decide) rfl (eI_of _) ?_
    refine Ru.putH (i := 43) (by decide +kernel) (by rfl) (hp0 _) (by decide) (Nat.le_of_ble_eq_true rfl) rfl (by decide +kernel) (pf_0_6 _ _) ?_
    cases h
    exact tho (S := (o1.2.f 0 6 (o1.2.F 1 3))) (Ru.thr (q := (.new 51, 3)) (by decide +kernel) rfl rfl (by decide +kernel))
  · replace h := if_f b4 h
    refine Ru.br (k := .ne) (off := 22) (bb := true) (tg := 33) (by decide +kernel) (by decide +kernel) (cz (ci_ne1 g3 (by decide) b4)) rfl ?_
    refine Ru.op (q := (.aload_n 0, 1)) (by decide +kernel) rfl ?_
    refine Ru.op (q := (.iload_n 1, 1)) (by decide +kernel) rfl ?_
    refine Ru.op (q := (.iload_n 2, 1)) (by decide +kernel) rfl ?_
    refine Ru.op (q := (.iload_n 3, 1)) (by decide +kernel) rfl ?_
    refine Ru.op (q := (.iload 4, 2)) (by decide +kernel) rfl ?_
    obtain ⟨o5, e6, h⟩ := ob_some h
    refine Ru.vcall (i := 170) (j2 := 89) (as := [vI v1, vI v2, vI v3, vI v4]) (by decide +kernel) (by rfl) rfl rfl (hp0 _) (by decide) ⟨(Nat.le_of_ble_eq_true rfl), (by show 19 + 5 ≤ 3981; exact Nat.le_of_ble_eq_true rfl), Nat.le_of_ble_eq_true rfl, Nat.le_of_ble_eq_true rfl⟩ ((g89_ok e6).up (Nat.le_of_ble_eq_true rfl) (Nat.le_of_ble_eq_true rfl)) ?_
    obtain ⟨g7, h⟩ := gd_some h
    by_cases b8 : o5 = 0
    · replace h := if_t b8 h
      refine Ru.br (k := .ne) (off := 11) (bb := false) (tg := 45) (by decide +kernel) (by decide +kernel) (cz (ci_ne0 g7 (by decide) b8)) rfl ?_
      cases h
      exact tho (S := o1.2) (Ru.thr (q := (.new 108, 3)) (by decide +kernel) rfl rfl (by decide +kernel))
    · replace h := if_f b8 h
      refine Ru.br (k := .ne) (off := 11) (bb := true) (tg := 53) (by decide +kernel) (by decide +kernel) (cz (ci_ne1 g7 (by decide) b8)) rfl ?_
      refine Ru.op (q := (.aload_n 0, 1)) (by decide +kernel) rfl ?_
      refine Ru.get (i := 33) (v := .ref 30) (by decide +kernel) (by rfl) (hp0 _) (by decide) rfl ?_
      obtain ⟨o9, e10, h⟩ := ob_some h
      refine Ru.vcall (i := 174) (j2 := 50) (as := []) (by decide +kernel) (by rfl) rfl rfl (hp30 _) (by decide) ⟨(Nat.le_of_ble_eq_true rfl), (by show 19 + 1 ≤ 3981; exact Nat.le_of_ble_eq_true rfl), Nat.le_of_ble_eq_true rfl, Nat.le_of_ble_eq_true rfl⟩ ((g50_30_ok e10).up (Nat.le_of_ble_eq_true rfl) (Nat.le_of_ble_eq_true rfl)) ?_
      obtain ⟨g11, h⟩ := gd_some h
      by_cases b12 : o9 = 0
      · replace h := if_t b12 h
        refine Ru.br (k := .eq) (off := 12) (bb := true) (tg := 72) (by decide +kernel) (by decide +kernel) (cz (ci_eq1 g11 (by decide) b12)) rfl ?_
        cases h
        exact tho (S := o1.2) (Ru.thr (q := (.new 88, 3)) (by decide +kernel) rfl rfl (by decide +kernel))
      · replace h := if_f b12 h
        refine Ru.br (k := .eq) (off := 12) (bb := false) (tg := 63) (by decide +kernel) (by decide +kernel) (cz (ci_eq0 g11 (by decide) b12)) rfl ?_
        refine Ru.op (q := (.aload_n 0, 1)) (by decide +kernel) rfl ?_
        refine Ru.getI (i := 102) (x := (o1.2.F 0 5)) (by decide +kernel) (by rfl) (hp0 _) (by decide) rfl (eI_of _) ?_
        refine Ru.kI (q := (.bipush 24, 2)) (c := 24) (by decide +kernel) rfl (by decide) ?_
        by_cases b13 : (o1.2.F 0 5) < 24
        · replace h := if_t b13 h
          refine Ru.br2 (k := .lt) (off := 11) (bb := true) (tg := 80) (by decide +kernel) (by decide +kernel) (ci_lt1 (inR_to _) (by decide) b13) rfl ?_
          refine Ru.op (q := (.aload_n 0, 1)) (by decide +kernel) rfl ?_
          refine Ru.op (q := (.iload_n 1, 1)) (by decide +kernel) rfl ?_
          refine Ru.op (q := (.iload_n 2, 1)) (by decide +kernel) rfl ?_
          refine Ru.op (q := (.iload_n 3, 1)) (by decide +kernel) rfl ?_
          refine Ru.op (q := (.iload 4, 2)) (by decide +kernel) rfl ?_
          obtain ⟨o14, e15, h⟩ := ob_some h
          refine Ru.vcall (i := 178) (j2 := 91) (as := [vI v1, vI v2, vI v3, vI v4]) (by decide +kernel) (by rfl) rfl rfl (hp0 _) (by decide) ⟨(Nat.le_of_ble_eq_true rfl), (by show 19 + 6 ≤ 3981; exact Nat.le_of_ble_eq_true rfl), Nat.le_of_ble_eq_true rfl, Nat.le_of_ble_eq_true rfl⟩ ((g91_ok e15).up (Nat.le_of_ble_eq_true rfl) (Nat.le_of_ble_eq_true rfl)) ?_
          rcases on_e h with ⟨e17, h⟩ | ⟨c16, e17, h⟩
          · rw [e17]
            refine Ru.op (q := (.astore 5, 2)) (S' := (91, [some (.ref 0), some (vI v1), some (vI v2), some (vI v3), some (vI v4), some (.null)], [], _, _)) (by decide +kernel) rfl ?_
            refine Ru.op (q := (.aload_n 0, 1)) (by decide +kernel) rfl ?_
            refine Ru.get (i := 12) (v := .ref 1) (by decide +kernel) (by rfl) (hp0 _) (by decide) rfl ?_
            refine Ru.kI (q := (.iconst 0, 1)) (c := 0) (by decide +kernel) rfl (by decide) ?_
            refine Ru.putH (i := 54) (by decide +kernel) (by rfl) (hp1 _) (by decide) (Nat.le_of_ble_eq_true rfl) rfl (by decide +kernel) (pf_1_1 _ _) ?_
            refine Ru.op (q := (.aload_n 0, 1)) (by decide +kernel) rfl ?_
            refine Ru.kI (q := (.iconst (-1), 1)) (c := (-1)) (by decide +kernel) rfl (by decide) ?_
            refine Ru.putH (i := 43) (by decide +kernel) (by rfl) (hp0 _) (by decide) (Nat.le_of_ble_eq_true rfl) rfl (by decide +kernel) (pf_0_6 _ _) ?_
            refine Ru.op (q := (.aload 5, 2)) (by decide +kernel) rfl ?_
            refine Ru.op (q := (.ifnull 25, 3)) (by decide +kernel) rfl ?_
            refine Ru.kI (q := (.iconst (-1), 1)) (c := (-1)) (by decide +kernel) rfl (by decide) ?_
            cases h
            exact Ru.iret (by decide +kernel) rfl rfl
          · rw [e17]
            refine Ru.op (q := (.astore 5, 2)) (S' := (91, [some (.ref 0), some (vI v1), some (vI v2), some (vI v3), some (vI v4), some (.ref c16)], [], _, _)) (by decide +kernel) rfl ?_
            refine Ru.op (q := (.aload_n 0, 1)) (by decide +kernel) rfl ?_
            refine Ru.get (i := 12) (v := .ref 1) (by decide +kernel) (by rfl) (hp0 _) (by decide) rfl ?_
            refine Ru.kI (q := (.iconst 0, 1)) (c := 0) (by decide +kernel) rfl (by decide) ?_
            refine Ru.putH (i := 54) (by decide +kernel) (by rfl) (hp1 _) (by decide) (Nat.le_of_ble_eq_true rfl) rfl (by decide +kernel) (pf_1_1 _ _) ?_
            refine Ru.op (q := (.aload_n 0, 1)) (by decide +kernel) rfl ?_
            refine Ru.kI (q := (.iconst (-1), 1)) (c := (-1)) (by decide +kernel) rfl (by decide) ?_
            refine Ru.putH (i := 43) (by decide +kernel) (by rfl) (hp0 _) (by decide) (Nat.le_of_ble_eq_true rfl) rfl (by decide +kernel) (pf_0_6 _ _) ?_
            refine Ru.op (q := (.aload 5, 2)) (by decide +kernel) rfl ?_
            refine Ru.op (q := (.ifnull 25, 3)) (by decide +kernel) rfl ?_
            refine Ru.op (q := (.aload_n 0, 1)) (by decide +kernel) rfl ?_
            refine Ru.get (i := 19) (v := .ref 13) (by decide +kernel) (by rfl) (hp0 _) (by decide) rfl ?_
            refine Ru.get (i := 153) (v := .ref 23) (by decide +kernel) (by rfl) (hp13 _) (by decide) rfl ?_
            refine Ru.op (q := (.aload 5, 2)) (by decide +kernel) rfl ?_
            refine Ru.op (q := (.aload_n 0, 1)) (by decide +kernel) rfl ?_
            refine Ru.get (i := 33) (v := .ref 30) (by decide +kernel) (by rfl) (hp0 _) (by decide) rfl ?_
            refine Ru.get (i := 182) (v := .ref 31) (by decide +kernel) (by rfl) (hp30 _) (by decide) rfl ?_
            obtain ⟨o18, e19, h⟩ := ob_some h
            refine Ru.vcall (i := 157) (j2 := 54) (as := [.ref c16, .ref 31]) (by decide +kernel) (by rfl) rfl rfl (hp23 _) (by decide) ⟨(Nat.le_of_ble_eq_true rfl), (by show 19 + 5 ≤ 3981; exact Nat.le_of_ble_eq_true rfl), Nat.le_of_ble_eq_true rfl, Nat.le_of_ble_eq_true rfl⟩ ((g54_ok e19).up (Nat.le_of_ble_eq_true rfl) (Nat.le_of_ble_eq_true rfl)) ?_
            obtain ⟨g20, h⟩ := gd_some h
            by_cases b21 : o18.1 = 0
            · replace h := if_t b21 h
              refine Ru.br (k := .ne) (off := 5) (bb := false) (tg := 131) (by decide +kernel) (by decide +kernel) (cz (ci_ne0 g20 (by decide) b21)) rfl ?_
              refine Ru.kI (q := (.iconst (-1), 1)) (c := (-1)) (by decide +kernel) rfl (by decide) ?_
              cases h
              exact Ru.iret (by decide +kernel) rfl rfl
            · replace h := if_f b21 h
              refine Ru.br (k := .ne) (off := 5) (bb := true) (tg := 133) (by decide +kernel) (by decide +kernel) (cz (ci_ne1 g20 (by decide) b21)) rfl ?_
              refine Ru.op (q := (.aload_n 0, 1)) (by decide +kernel) rfl ?_
              refine Ru.get (i := 39) (v := .ref 35) (by decide +kernel) (by rfl) (hp0 _) (by decide) rfl ?_
              refine Ru.op (q := (.aload_n 0, 1)) (by decide +kernel) rfl ?_
              refine Ru.getI (i := 102) (x := (o18.2.F 0 5)) (by decide +kernel) (by rfl) (hp0 _) (by decide) rfl (eI_of _) ?_
              refine Ru.op (q := (.aload_n 0, 1)) (by decide +kernel) rfl ?_
              refine Ru.get (i := 33) (v := .ref 30) (by decide +kernel) (by rfl) (hp0 _) (by decide) rfl ?_
              obtain ⟨o22, e23, h⟩ := ob_some h
              refine Ru.vcall (i := 185) (j2 := 58) (as := []) (by decide +kernel) (by rfl) rfl rfl (hp30 _) (by decide) ⟨(Nat.le_of_ble_eq_true rfl), (by show 19 + 2 ≤ 3981; exact Nat.le_of_ble_eq_true rfl), Nat.le_of_ble_eq_true rfl, Nat.le_of_ble_eq_true rfl⟩ ((g58_30_ok e23).up (Nat.le_of_ble_eq_true rfl) (Nat.le_of_ble_eq_true rfl)) ?_
              obtain ⟨g24, h⟩ := gd_some h
              obtain ⟨c25, c26, n27, n28, e29, q30, h⟩ := gC_some h
              refine Ru.astI (i := (o18.2.F 0 5)) (by decide +kernel) (hp35 _) q30 (by decide) (by decide) (by decide) g24 (pq_35 _ _ _) ?_
              refine Ru.op (q := (.aload_n 0, 1)) (by decide +kernel) rfl ?_
              refine Ru.op (q := (.dup, 1)) (by decide +kernel) rfl ?_
              refine Ru.getI (i := 102) (x := (o22.2.F 0 5)) (by decide +kernel) (by rfl) (hp0 _) (by decide) rfl (eI_of _) ?_
              refine Ru.kI (q := (.iconst 1, 1)) (c := 1) (by decide +kernel) rfl (by decide) ?_
              refine Ru.ar2 (i := .iadd) (z := ((o22.2.F 0 5) + 1)) (by decide +kernel) rfl (ar_add _ _) ?_
              refine Ru.putH (i := 102) (by decide +kernel) (by rfl) (hp0 _) (by decide) (Nat.le_of_ble_eq_true rfl) rfl (by decide +kernel) (pf_0_5 _ _) ?_
              refine Ru.op (q := (.aload_n 0, 1)) (by decide +kernel) rfl ?_
              refine Ru.getI (i := 102) (x := ((o22.2.F 0 5) + 1)) (by decide +kernel) (by rfl) (hp0 _) (by decide) rfl rfl ?_
              refine Ru.kI (q := (.iconst 1, 1)) (c := 1) (by decide +kernel) rfl (by decide) ?_
              refine Ru.ar2 (i := .isub) (z := (((o22.2.F 0 5) + 1) - 1)) (by decide +kernel) rfl (ar_sub _ _) ?_
              cases h
              exact Ru.iret (by decide +kernel) rfl rfl
        · replace h := if_f b13 h
          refine Ru.br2 (k := .lt) (off := 11) (bb := false) (tg := 72) (by decide +kernel) (by decide +kernel) (ci_lt0 (inR_to _) (by decide) b13) rfl ?_
          cases h
          exact tho (S := o1.2) (Ru.thr (q := (.new 88, 3)) (by decide +kernel) rfl rfl (by decide +kernel))
