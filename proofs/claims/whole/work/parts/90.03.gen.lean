def g44_15 (S : St) (v1 : Int) : Option (St) := gd (inR ((S.F 15 2) - (S.F 16 3))) (if ((S.F 15 2) - (S.F 16 3)) < 16 then gd (ixR (S.F 15 2) 80) (some ((S.a 17 (S.F 15 2) v1).f 15 2 ((S.F 15 2) + 1))) else some (S.f 15 3 1))
set_option maxRecDepth 100000 in
set_option maxHeartbeats 4000000 in
theorem g44_15_ok {S : St} {v1 : Int} {o : St} (h : g44_15 S v1 = some o) : Ru none 10 200 44 (0, mn_pad (mn_ent [.ref 15, vI v1]) 2, [], S.ns, Hp S) ((0, none), o.ns, Hp o) := by
  unfold g44_15 at h
  show Ru none 10 200 44 (0, [some (.ref 15), some (vI v1)], [], S.ns, Hp S) _
  refine Ru.op (q := (.aload_n 0, 1)) (by decide +kernel) rfl ?_
  refine Ru.getI (i := 34) (x := (S.F 15 2)) (by decide +kernel) (by rfl) (hp15 _) (by decide) rfl (eI_of _) ?_
  refine Ru.op (q := (.aload_n 0, 1)) (by decide +kernel) rfl ?_
  refine Ru.get (i := 14) (v := .ref 16) (by decide +kernel) (by rfl) (hp15 _) (by decide) rfl ?_
  refine Ru.getI (i := 28) (x := (S.F 16 3)) (by decide +kernel) (by rfl) (hp16 _) (by decide) rfl (eI_of _) ?_
  refine Ru.ar2 (i := .isub) (z := ((S.F 15 2) - (S.F 16 3))) (by decide +kernel) rfl (ar_sub _ _) ?_
  refine Ru.kI (q := (.bipush 16, 2)) (c := 16) (by decide +kernel) rfl (by decide) ?_
  obtain ⟨g1, h⟩ := gd_some h
  by_cases b2 : ((S.F 15 2) - (S.F 16 3)) < 16
  · replace h := if_t b2 h
    refine Ru.br2 (k := .lt) (off := 11) (bb := true) (tg := 25) (by decide +kernel) (by decide +kernel) (ci_lt1 g1 (by decide) b2) rfl ?_
    refine Ru.op (q := (.aload_n 0, 1)) (by decide +kernel) rfl ?_
    refine Ru.get (i := 14) (v := .ref 16) (by decide +kernel) (by rfl) (hp15 _) (by decide) rfl ?_
    refine Ru.get (i := 41) (v := .ref 17) (by decide +kernel) (by rfl) (hp16 _) (by decide) rfl ?_
    refine Ru.op (q := (.aload_n 0, 1)) (by decide +kernel) rfl ?_
    refine Ru.getI (i := 34) (x := (S.F 15 2)) (by decide +kernel) (by rfl) (hp15 _) (by decide) rfl (eI_of _) ?_
    refine Ru.op (q := (.iload_n 1, 1)) (by decide +kernel) rfl ?_
    obtain ⟨g3, h⟩ := gd_some h
    refine Ru.istI (i := (S.F 15 2)) (x := v1) (by decide +kernel) (hp17 _) g3 (ps_17 _ _ _) ?_
    refine Ru.op (q := (.aload_n 0, 1)) (by decide +kernel) rfl ?_
    refine Ru.op (q := (.dup, 1)) (by decide +kernel) rfl ?_
    refine Ru.getI (i := 34) (x := (S.F 15 2)) (by decide +kernel) (by rfl) (hp15 _) (by decide) rfl (eI_of _) ?_
    refine Ru.kI (q := (.iconst 1, 1)) (c := 1) (by decide +kernel) rfl (by decide) ?_
    refine Ru.ar2 (i := .iadd) (z := ((S.F 15 2) + 1)) (by decide +kernel) rfl (ar_add _ _) ?_
    refine Ru.putH (i := 34) (by decide +kernel) (by rfl) (hp15 _) (by decide) (Nat.le_of_ble_eq_true rfl) rfl (by decide +kernel) (pf_15_2 _ _) ?_
    cases h
    exact Ru.end (q := (.return_, 1)) (by decide +kernel) rfl rfl
  · replace h := if_f b2 h
    refine Ru.br2 (k := .lt) (off := 11) (bb := false) (tg := 17) (by decide +kernel) (by decide +kernel) (ci_lt0 g1 (by decide) b2) rfl ?_
    refine Ru.op (q := (.aload_n 0, 1)) (by decide +kernel) rfl ?_
    refine Ru.kI (q := (.iconst 1, 1)) (c := 1) (by decide +kernel) rfl (by decide) ?_
    refine Ru.putH (i := 37) (by decide +kernel) (by rfl) (hp15 _) (by decide) (Nat.le_of_ble_eq_true rfl) (fk_b (by decide)) (by decide +kernel) (pf_15_3 _ _) ?_
    refine Ru.op (q := (.goto 26, 3)) (by decide +kernel) rfl ?_
    cases h
    exact Ru.end (q := (.return_, 1)) (by decide +kernel) rfl rfl
def g47L21 (S : St) (v0 : Nat) (v1 : Int) (v2 : Int) (v3 : Int) : Nat → Int → Option (Sum (Unit) (Int))
  | 0, _ => none
  | n + 1, v4 => gd (inR v4) (gd (inR v3) (if v4 < v3 then gA S v0 (fun N23 f24 => gd (ixR (v1 + v4) N23) (gd (ixR (v2 + v4) N23) (if (f24 (v1 + v4)) = (f24 (v2 + v4)) then g47L21 S v0 v1 v2 v3 n (v4 + 1) else some (.inr 0)))) else some (.inl ())))
set_option maxRecDepth 100000 in
set_option maxHeartbeats 4000000 in
theorem g47L21_ok {S : St} {v0 : Nat} {v1 : Int} {v2 : Int} {v3 : Int} : ∀ (n : Nat) (v4 : Int) (out : Sum (Unit) (Int)), g47L21 S v0 v1 v2 v3 n v4 = some out → ∀ r, (∀ o, out = .inl o → ∀ (e0 e1 e2 e3 e4 : Option Value), Ru none 10 200 47 (50, [e0, e1, e2, e3, e4], [], S.ns, Hp S) r) → (∀ o, out = .inr o → r = ((0, some (vI o)), S.ns, Hp S)) → Ru none 10 200 47 (21, [some (.ref v0), some (vI v1), some (vI v2), some (vI v3), some (vI v4)], [], S.ns, Hp S) r := by
  intro n
  induction n with
  | zero => intro v4 out h; cases h
  | succ n ih =>
    intro v4 out h r hk hr
    unfold g47L21 at h
    refine Ru.op (q := (.iload 4, 2)) (by decide +kernel) rfl ?_
    refine Ru.op (q := (.iload_n 3, 1)) (by decide +kernel) rfl ?_
    obtain ⟨g20, h⟩ := gd_some h
    obtain ⟨g21, h⟩ := gd_some h
    by_cases b22 : v4 < v3
    · replace h := if_t b22 h
      refine Ru.br2 (k := .ge) (off := 26) (bb := false) (tg := 27) (by decide +kernel) (by decide +kernel) (ci_ge0 g20 g21 b22) rfl ?_
      refine Ru.op (q := (.aload_n 0, 1)) (by decide +kernel) rfl ?_
      refine Ru.op (q := (.iload_n 1, 1)) (by decide +kernel) rfl ?_
      refine Ru.op (q := (.iload 4, 2)) (by decide +kernel) rfl ?_
      refine Ru.ar2 (i := .iadd) (z := (v1 + v4)) (by decide +kernel) rfl (ar_add _ _) ?_
      obtain ⟨N23, f24, e25, q26, h⟩ := gA_some h
      obtain ⟨g27, h⟩ := gd_some h
      refine Ru.ildI (i := (v1 + v4)) (z := (f24 (v1 + v4))) (by decide +kernel) q26 g27 rfl ?_
      refine Ru.op (q := (.aload_n 0, 1)) (by decide +kernel) rfl ?_
      refine Ru.op (q := (.iload_n 2, 1)) (by decide +kernel) rfl ?_
      refine Ru.op (q := (.iload 4, 2)) (by decide +kernel) rfl ?_
      refine Ru.ar2 (i := .iadd) (z := (v2 + v4)) (by decide +kernel) rfl (ar_add _ _) ?_
      obtain ⟨g28, h⟩ := gd_some h
      refine Ru.ildI (i := (v2 + v4)) (z := (f24 (v2 + v4))) (by decide +kernel) q26 g28 rfl ?_
      by_cases b29 : (f24 (v1 + v4)) = (f24 (v2 + v4))
      · replace h := if_t b29 h
        refine Ru.br2 (k := .eq) (off := 5) (bb := true) (tg := 44) (by decide +kernel) (by decide +kernel) (ci_eq1 (e25 _) (e25 _) b29) rfl ?_
        refine Ru.inc (x := v4) (z := (v4 + 1)) (xs' := [some (.ref v0), some (vI v1), some (vI v2), some (vI v3), some (vI (v4 + 1))]) (by decide +kernel) rfl rfl rfl ?_
        refine Ru.op (q := (.goto (-26), 3)) (by decide +kernel) rfl ?_
        exact ih _ _ h r hk hr
      · replace h := if_f b29 h
        refine Ru.br2 (k := .eq) (off := 5) (bb := false) (tg := 42) (by decide +kernel) (by decide +kernel) (ci_eq0 (e25 _) (e25 _) b29) rfl ?_
        refine Ru.kI (q := (.iconst 0, 1)) (c := 0) (by decide +kernel) rfl (by decide) ?_
        cases h
        have h9 := hr _ rfl
        subst h9
        exact Ru.iret (by decide +kernel) rfl (nar_b1 (by decide))
    · replace h := if_f b22 h
      refine Ru.br2 (k := .ge) (off := 26) (bb := true) (tg := 50) (by decide +kernel) (by decide +kernel) (ci_ge1 g20 g21 b22) rfl ?_
      cases h
      exact hk _ rfl _ _ _ _ _
def g47 (S : St) (v0 : Nat) (v1 : Int) (v2 : Int) (v3 : Int) : Option (Int) := gA S v0 (fun N1 f2 => gd (inR (v1 + v3)) (gd (inR (N1 : Int)) (if (N1 : Int) < (v1 + v3) then some 0 else gd (inR (v2 + v3)) (if (N1 : Int) < (v2 + v3) then some 0 else obr (g47L21 S v0 v1 v2 v3 FU 0) (fun o30 => some 1)))))
set_option maxRecDepth 100000 in
set_option maxHeartbeats 4000000 in
theorem g47_ok {S : St} {v0 : Nat} {v1 : Int} {v2 : Int} {v3 : Int} {o : Int} (h : g47 S v0 v1 v2 v3 = some o) : Ru none 10 200 47 (0, mn_pad (mn_ent [.ref v0, vI v1, vI v2, vI v3]) 5, [], S.ns, Hp S) ((0, some (vI o)), S.ns, Hp S) := by
  unfold g47 at h
  show Ru none 10 200 47 (0, [some (.ref v0), some (vI v1), some (vI v2), some (vI v3), none], [], S.ns, Hp S) _
  refine Ru.op (q := (.iload_n 1, 1)) (by decide +kernel) rfl ?_
  refine Ru.op (q := (.iload_n 3, 1)) (by decide +kernel) rfl ?_
  refine Ru.ar2 (i := .iadd) (z := (v1 + v3)) (by decide +kernel) rfl (ar_add _ _) ?_
  refine Ru.op (q := (.aload_n 0, 1)) (by decide +kernel) rfl ?_
  obtain ⟨N1, f2, e3, q4, h⟩ := gA_some h
  refine Ru.lenI (N := N1) (z := (N1 : Int)) (by decide +kernel) q4 (by decide) (aI_len _ _) rfl ?_
  obtain ⟨g5, h⟩ := gd_some h
  obtain ⟨g6, h⟩ := gd_some h
  by_cases b7 : (N1 : Int) < (v1 + v3)
  · replace h := if_t b7 h
    refine Ru.br2 (k := .gt) (off := 11) (bb := true) (tg := 16) (by decide +kernel) (by decide +kernel) (ci_gt1 g5 g6 b7) rfl ?_
    refine Ru.kI (q := (.iconst 0, 1)) (c := 0) (by decide +kernel) rfl (by decide) ?_
    cases h
    exact Ru.iret (by decide +kernel) rfl (nar_b1 (by decide))
  · replace h := if_f b7 h
    refine Ru.br2 (k := .gt) (off := 11) (bb := false) (tg := 8) (by decide +kernel) (by decide +kernel) (ci_gt0 g5 g6 b7) rfl ?_
    refine Ru.op (q := (.iload_n 2, 1)) (by decide +kernel) rfl ?_
    refine Ru.op (q := (.iload_n 3, 1)) (by decide +kernel) rfl ?_
    refine Ru.ar2 (i := .iadd) (z := (v2 + v3)) (by decide +kernel) rfl (ar_add _ _) ?_
    refine Ru.op (q := (.aload_n 0, 1)) (by decide +kernel) rfl ?_
    refine Ru.lenI (N := N1) (z := (N1 : Int)) (by decide +kernel) q4 (by decide) (aI_len _ _) rfl ?_
    obtain ⟨g8, h⟩ := gd_some h
    by_cases b9 : (N1 : Int) < (v2 + v3)
    · replace h := if_t b9 h
      refine Ru.br2 (k := .le) (off := 5) (bb := false) (tg := 16) (by decide +kernel) (by decide +kernel) (ci_le0 g8 g6 b9) rfl ?_
      refine Ru.kI (q := (.iconst 0, 1)) (c := 0) (by decide +kernel) rfl (by decide) ?_
      cases h
      exact Ru.iret (by decide +kernel) rfl (nar_b1 (by decide))
    · replace h := if_f b9 h
      refine Ru.br2 (k := .le) (off := 5) (bb := true) (tg := 18) (by decide +kernel) (by decide +kernel) (ci_le1 g8 g6 b9) rfl ?_
      refine Ru.kI (q := (.iconst 0, 1)) (c := 0) (by decide +kernel) rfl (by decide) ?_
      refine Ru.op (q := (.istore 4, 2)) (S' := (21, [some (.ref v0), some (vI v1), some (vI v2), some (vI v3), some (vI 0)], [], _, _)) (by decide +kernel) rfl ?_
      rcases obr_some h with ⟨o30, e36, h⟩ | e36
      · refine g47L21_ok FU _ _ e36 _ (fun o' e' => ?_) (fun o' e' => by cases e')
        cases e'
        intro d31 d32 d33 d34 d35
        refine Ru.kI (q := (.iconst 1, 1)) (c := 1) (by decide +kernel) rfl (by decide) ?_
        cases h
        exact Ru.iret (by decide +kernel) rfl (nar_b1 (by decide))
      · exact g47L21_ok FU _ _ e36 _ (fun o' e' => by cases e') (fun o' e' => by cases e'; rfl)
def g46_15L15 (S : St) (v1 : Int) : Nat → Int → Option (Sum (Unit) (Int))
  | 0, _ => none
  | n + 1, v2 => gd (inR v2) (if v2 < (S.F 16 2) then gd (ixR v2 5) (gd (ixR (v2 + 1) 5) (gd (inR ((S.A 18 (v2 + 1)) - (S.A 18 v2))) (gd (inR v1) (if ((S.A 18 (v2 + 1)) - (S.A 18 v2)) = v1 then ob (g47 S 17 (S.A 18 v2) (S.F 16 3) v1) (fun o19 => gd (inR o19) (if o19 = 0 then g46_15L15 S v1 n (v2 + 1) else some (.inr 1))) else g46_15L15 S v1 n (v2 + 1))))) else some (.inl ()))
set_option maxRecDepth 100000 in
set_option maxHeartbeats 4000000 in
theorem g46_15L15_ok {S : St} {v1 : Int} : ∀ (n : Nat) (v2 : Int) (d3 : Option Value) (out : Sum (Unit) (Int)), g46_15L15 S v1 n v2 = some out → ∀ r, (∀ o, out = .inl o → ∀ (e0 e1 e2 e3 : Option Value), Ru none 11 224 46 (83, [e0, e1, e2, e3], [], S.ns, Hp S) r) → (∀ o, out = .inr o → r = ((0, some (vI o)), S.ns, Hp S)) → Ru none 11 224 46 (15, [some (.ref 15), some (vI v1), some (vI v2), d3], [], S.ns, Hp S) r := by
  intro n
  induction n with
  | zero => intro v2 d3 out h; cases h
  | succ n ih =>
    intro v2 d3 out h r hk hr
    unfold g46_15L15 at h
    refine Ru.op (q := (.iload_n 2, 1)) (by decide +kernel) rfl ?_
    refine Ru.op (q := (.aload_n 0, 1)) (by decide +kernel) rfl ?_
    refine Ru.get (i := 14) (v := .ref 16) (by decide +kernel) (by rfl) (hp15 _) (by decide) rfl ?_
    refine Ru.getI (i := 24) (x := (S.F 16 2)) (by decide +kernel) (by rfl) (hp16 _) (by decide) rfl (eI_of _) ?_
    obtain ⟨g12, h⟩ := gd_some h
    by_cases b13 : v2 < (S.F 16 2)
    · replace h := if_t b13 h
      refine Ru.br2 (k := .ge) (off := 60) (bb := false) (tg := 26) (by decide +kernel) (by decide +kernel) (ci_ge0 g12 (inR_to _) b13) rfl ?_
      refine Ru.op (q := (.aload_n 0, 1)) (by decide +kernel) rfl ?_
      refine Ru.get (i := 14) (v := .ref 16) (by decide +kernel) (by rfl) (hp15 _) (by decide) rfl ?_
      refine Ru.get (i := 31) (v := .ref 18) (by decide +kernel) (by rfl) (hp16 _) (by decide) rfl ?_
      refine Ru.op (q := (.iload_n 2, 1)) (by decide +kernel) rfl ?_
      obtain ⟨g14, h⟩ := gd_some h
      refine Ru.ildI (i := v2) (z := (S.A 18 v2)) (by decide +kernel) (hp18 _) g14 (eI_of _) ?_
      refine Ru.op (q := (.istore_n 3, 1)) (S' := (36, [some (.ref 15), some (vI v1), some (vI v2), some (vI (S.A 18 v2))], [], _, _)) (by decide +kernel) rfl ?_
      refine Ru.op (q := (.aload_n 0, 1)) (by decide +kernel) rfl ?_
      refine Ru.get (i := 14) (v := .ref 16) (by decide +kernel) (by rfl) (hp15 _) (by decide) rfl ?_
      refine Ru.get (i := 31) (v := .ref 18) (by decide +kernel) (by rfl) (hp16 _) (by decide) rfl ?_
      refine Ru.op (q := (.iload_n 2, 1)) (by decide +kernel) rfl ?_
      refine Ru.kI (q := (.iconst 1, 1)) (c := 1) (by decide +kernel) rfl (by decide) ?_
      refine Ru.ar2 (i := .iadd) (z := (v2 + 1)) (by decide +kernel) rfl (ar_add _ _) ?_
      obtain ⟨g15, h⟩ := gd_some h
      refine Ru.ildI (i := (v2 + 1)) (z := (S.A 18 (v2 + 1))) (by decide +kernel) (hp18 _) g15 (eI_of _) ?_
      refine Ru.op (q := (.iload_n 3, 1)) (by decide +kernel) rfl ?_
      refine Ru.ar2 (i := .isub) (z := ((S.A 18 (v2 + 1)) - (S.A 18 v2))) (by decide +kernel) rfl (ar_sub _ _) ?_
      refine Ru.op (q := (.iload_n 1, 1)) (by decide +kernel) rfl ?_
      obtain ⟨g16, h⟩ := gd_some h
      obtain ⟨g17, h⟩ := gd_some h
      by_cases b18 : ((S.A 18 (v2 + 1)) - (S.A 18 v2)) = v1
      · replace h := if_t b18 h
        refine Ru.br2 (k := .ne) (off := 27) (bb := false) (tg := 53) (by decide +kernel) (by decide +kernel) (ci_ne0 g16 g17 b18) rfl ?_
        refine Ru.op (q := (.aload_n 0, 1)) (by decide +kernel) rfl ?_
        refine Ru.get (i := 14) (v := .ref 16) (by decide +kernel) (by rfl) (hp15 _) (by decide) rfl ?_
        refine Ru.get (i := 41) (v := .ref 17) (by decide +kernel) (by rfl) (hp16 _) (by decide) rfl ?_
        refine Ru.op (q := (.iload_n 3, 1)) (by decide +kernel) rfl ?_
        refine Ru.op (q := (.aload_n 0, 1)) (by decide +kernel) rfl ?_
        refine Ru.get (i := 14) (v := .ref 16) (by decide +kernel) (by rfl) (hp15 _) (by decide) rfl ?_
        refine Ru.getI (i := 28) (x := (S.F 16 3)) (by decide +kernel) (by rfl) (hp16 _) (by decide) rfl (eI_of _) ?_
        refine Ru.op (q := (.iload_n 1, 1)) (by decide +kernel) rfl ?_
        obtain ⟨o19, e20, h⟩ := ob_some h
        refine Ru.call (q := (.invokestatic 55, 3)) (j2 := 47) (as := [.ref 17, vI (S.A 18 v2), vI (S.F 16 3), vI v1]) (by decide +kernel) rfl rfl rfl rfl ⟨(Nat.le_of_ble_eq_true rfl), (by show 19 + 5 ≤ 224; exact Nat.le_of_ble_eq_true rfl), Nat.le_of_ble_eq_true rfl, Nat.le_of_ble_eq_true rfl⟩ ((g47_ok e20).up (Nat.le_of_ble_eq_true rfl) (Nat.le_of_ble_eq_true rfl)) ?_
        obtain ⟨g21, h⟩ := gd_some h
        by_cases b22 : o19 = 0
        · replace h := if_t b22 h
          refine Ru.br (k := .eq) (off := 5) (bb := true) (tg := 77) (by decide +kernel) (by decide +kernel) (cz (ci_eq1 g21 (by decide) b22)) rfl ?_
          refine Ru.inc (x := v2) (z := (v2 + 1)) (xs' := [some (.ref 15), some (vI v1), some (vI (v2 + 1)), some (vI (S.A 18 v2))]) (by decide +kernel) rfl rfl rfl ?_
          refine Ru.op (q := (.goto (-65), 3)) (by decide +kernel) rfl ?_
          exact ih _ _ _ h r hk hr
        · replace h := if_f b22 h
          refine Ru.br (k := .eq) (off := 5) (bb := false) (tg := 75) (by decide +kernel) (by decide +kernel) (cz (ci_eq0 g21 (by decide) b22)) rfl ?_
          refine Ru.kI (q := (.iconst 1, 1)) (c := 1) (by decide +kernel) rfl (by decide) ?_
          cases h
          have h9 := hr _ rfl
          subst h9
          exact Ru.iret (by decide +kernel) rfl (nar_b1 (by decide))
      · replace h := if_f b18 h
        refine Ru.br2 (k := .ne) (off := 27) (bb := true) (tg := 77) (by decide +kernel) (by decide +kernel) (ci_ne1 g16 g17 b18) rfl ?_
        refine Ru.inc (x := v2) (z := (v2 + 1)) (xs' := [some (.ref 15), some (vI v1), some (vI (v2 + 1)), some (vI (S.A 18 v2))]) (by decide +kernel) rfl rfl rfl ?_
        refine Ru.op (q := (.goto (-65), 3)) (by decide +kernel) rfl ?_
        exact ih _ _ _ h r hk hr
    · replace h := if_f b13 h
      refine Ru.br2 (k := .ge) (off := 60) (bb := true) (tg := 83) (by decide +kernel) (by decide +kernel) (ci_ge1 g12 (inR_to _) b13) rfl ?_
      cases h
      exact hk _ rfl _ _ _ _
def g46_15 (S : St) : Option (Int) := obr (g46_15L15 S ((S.F 15 2) - (S.F 16 3)) FU 0) (fun o23 => some 0)
set_option maxRecDepth 100000 in
set_option maxHeartbeats 4000000 in
theorem g46_15_ok {S : St} {o : Int} (h : g46_15 S  = some o) : Ru none 11 224 46 (0, mn_pad (mn_ent [.ref 15]) 4, [], S.ns, Hp S) ((0, some (vI o)), S.ns, Hp S) := by
  unfold g46_15 at h
  show Ru none 11 224 46 (0, [some (.ref 15), none, none, none], [], S.ns, Hp S) _
  refine Ru.op (q := (.aload_n 0, 1)) (by decide +kernel) rfl ?_
  refine Ru.getI (i := 34) (x := (S.F 15 2)) (by decide +kernel) (by rfl) (hp15 _) (by decide) rfl (eI_of _) ?_
  refine Ru.op (q := (.aload_n 0, 1)) (by decide +kernel) rfl ?_
  refine Ru.get (i := 14) (v := .ref 16) (by decide +kernel) (by rfl) (hp15 _) (by decide) rfl ?_
  refine Ru.getI (i := 28) (x := (S.F 16 3)) (by decide +kernel) (by rfl) (hp16 _) (by decide) rfl (eI_of _) ?_
  refine Ru.ar2 (i := .isub) (z := ((S.F 15 2) - (S.F 16 3))) (by decide +kernel) rfl (ar_sub _ _) ?_
  refine Ru.op (q := (.istore_n 1, 1)) (S' := (13, [some (.ref 15), some (vI ((S.F 15 2) - (S.F 16 3))), none, none], [], _, _)) (by decide +kernel) rfl ?_
  refine Ru.kI (q := (.iconst 0, 1)) (c := 0) (by decide +kernel) rfl (by decide) ?_
  refine Ru.op (q := (.istore_n 2, 1)) (S' := (15, [some (.ref 15), some (vI ((S.F 15 2) - (S.F 16 3))), some (vI 0), none], [], _, _)) (by decide +kernel) rfl ?_
  rcases obr_some h with ⟨o23, e28, h⟩ | e28
  · refine g46_15L15_ok FU _ _ _ e28 _ (fun o' e' => ?_) (fun o' e' => by cases e')
    cases e'
    intro d24 d25 d26 d27
    refine Ru.kI (q := (.iconst 0, 1)) (c := 0) (by decide +kernel) rfl (by decide) ?_
    cases h
    exact Ru.iret (by decide +kernel) rfl (nar_b1 (by decide))
  · exact g46_15L15_ok FU _ _ _ e28 _ (fun o' e' => by cases e') (fun o' e' => by cases e'; rfl)
def g45_15 (S : St) : Option (St) := ob (g46_15 S) (fun o1 => gd (inR o1) (if o1 = 0 then if (S.F 16 2) < 4 then gd (ixR ((S.F 16 2) + 1) 5) (some (((S.f 16 2 ((S.F 16 2) + 1)).a 18 ((S.F 16 2) + 1) (S.F 15 2)).f 16 3 (S.F 15 2))) else some ((S.f 15 3 1).f 15 2 (S.F 16 3)) else some (S.f 15 2 (S.F 16 3))))
set_option maxRecDepth 100000 in
set_option maxHeartbeats 4000000 in
theorem g45_15_ok {S : St} {o : St} (h : g45_15 S  = some o) : Ru none 12 247 45 (0, mn_pad (mn_ent [.ref 15]) 1, [], S.ns, Hp S) ((0, none), o.ns, Hp o) := by
  unfold g45_15 at h
  show Ru none 12 247 45 (0, [some (.ref 15)], [], S.ns, Hp S) _
  refine Ru.op (q := (.aload_n 0, 1)) (by decide +kernel) rfl ?_
  obtain ⟨o1, e2, h⟩ := ob_some h
  refine Ru.vcall (i := 44) (j2 := 46) (as := []) (by decide +kernel) (by rfl) rfl rfl (hp15 _) (by decide) ⟨(Nat.le_of_ble_eq_true rfl), (by show 19 + 4 ≤ 247; exact Nat.le_of_ble_eq_true rfl), Nat.le_of_ble_eq_true rfl, Nat.le_of_ble_eq_true rfl⟩ ((g46_15_ok e2).up (Nat.le_of_ble_eq_true rfl) (Nat.le_of_ble_eq_true rfl)) ?_
  obtain ⟨g3, h⟩ := gd_some h
  by_cases b4 : o1 = 0
  · replace h := if_t b4 h
    refine Ru.br (k := .eq) (off := 17) (bb := true) (tg := 21) (by decide +kernel) (by decide +kernel) (cz (ci_eq1 g3 (by decide) b4)) rfl ?_
    refine Ru.op (q := (.aload_n 0, 1)) (by decide +kernel) rfl ?_
    refine Ru.get (i := 14) (v := .ref 16) (by decide +kernel) (by rfl) (hp15 _) (by decide) rfl ?_
    refine Ru.getI (i := 24) (x := (S.F 16 2)) (by decide +kernel) (by rfl) (hp16 _) (by decide) rfl (eI_of _) ?_
    refine Ru.kI (q := (.iconst 4, 1)) (c := 4) (by decide +kernel) rfl (by decide) ?_
    by_cases b5 : (S.F 16 2) < 4
    · replace h := if_t b5 h
      refine Ru.br2 (k := .lt) (off := 22) (bb := true) (tg := 51) (by decide +kernel) (by decide +kernel) (ci_lt1 (inR_to _) (by decide) b5) rfl ?_
      refine Ru.op (q := (.aload_n 0, 1)) (by decide +kernel) rfl ?_
      refine Ru.get (i := 14) (v := .ref 16) (by decide +kernel) (by rfl) (hp15 _) (by decide) rfl ?_
      refine Ru.op (q := (.dup, 1)) (by decide +kernel) rfl ?_
      refine Ru.getI (i := 24) (x := (S.F 16 2)) (by decide +kernel) (by rfl) (hp16 _) (by decide) rfl (eI_of _) ?_
      refine Ru.kI (q := (.iconst 1, 1)) (c := 1) (by decide +kernel) rfl (by decide) ?_
      refine Ru.ar2 (i := .iadd) (z := ((S.F 16 2) + 1)) (by decide +kernel) rfl (ar_add _ _) ?_
      refine Ru.putH (i := 24) (by decide +kernel) (by rfl) (hp16 _) (by decide) (Nat.le_of_ble_eq_true rfl) rfl (by decide +kernel) (pf_16_2 _ _) ?_
      refine Ru.op (q := (.aload_n 0, 1)) (by decide +kernel) rfl ?_
      refine Ru.get (i := 14) (v := .ref 16) (by decide +kernel) (by rfl) (hp15 _) (by decide) rfl ?_
      refine Ru.get (i := 31) (v := .ref 18) (by decide +kernel) (by rfl) (hp16 _) (by decide) rfl ?_
      refine Ru.op (q := (.aload_n 0, 1)) (by decide +kernel) rfl ?_
      refine Ru.get (i := 14) (v := .ref 16) (by decide +kernel) (by rfl) (hp15 _) (by decide) rfl ?_
      refine Ru.getI (i := 24) (x := ((S.F 16 2) + 1)) (by decide +kernel) (by rfl) (hp16 _) (by decide) rfl rfl ?_
      refine Ru.op (q := (.aload_n 0, 1)) (by decide +kernel) rfl ?_
      refine Ru.getI (i := 34) (x := (S.F 15 2)) (by decide +kernel) (by rfl) (hp15 _) (by decide) rfl (eI_of _) ?_
      obtain ⟨g6, h⟩ := gd_some h
      refine Ru.istI (i := ((S.F 16 2) + 1)) (x := (S.F 15 2)) (by decide +kernel) (hp18 _) g6 (ps_18 _ _ _) ?_
      refine Ru.op (q := (.aload_n 0, 1)) (by decide +kernel) rfl ?_
      refine Ru.get (i := 14) (v := .ref 16) (by decide +kernel) (by rfl) (hp15 _) (by decide) rfl ?_
      refine Ru.op (q := (.aload_n 0, 1)) (by decide +kernel) rfl ?_
      refine Ru.getI (i := 34) (x := (S.F 15 2)) (by decide +kernel) (by rfl) (hp15 _) (by decide) rfl (eI_of _) ?_
      refine Ru.putH (i := 28) (by decide +kernel) (by rfl) (hp16 _) (by decide) (Nat.le_of_ble_eq_true rfl) rfl (by decide +kernel) (pf_16_3 _ _) ?_
      cases h
      exact Ru.end (q := (.return_, 1)) (by decide +kernel) rfl rfl
    · replace h := if_f b5 h
      refine Ru.br2 (k := .lt) (off := 22) (bb := false) (tg := 32) (by decide +kernel) (by decide +kernel) (ci_lt0 (inR_to _) (by decide) b5) rfl ?_
      refine Ru.op (q := (.aload_n 0, 1)) (by decide +kernel) rfl ?_
      refine Ru.kI (q := (.iconst 1, 1)) (c := 1) (by decide +kernel) rfl (by decide) ?_
      refine Ru.putH (i := 37) (by decide +kernel) (by rfl) (hp15 _) (by decide) (Nat.le_of_ble_eq_true rfl) (fk_b (by decide)) (by decide +kernel) (pf_15_3 _ _) ?_
      refine Ru.op (q := (.aload_n 0, 1)) (by decide +kernel) rfl ?_
      refine Ru.op (q := (.aload_n 0, 1)) (by decide +kernel) rfl ?_
      refine Ru.get (i := 14) (v := .ref 16) (by decide +kernel) (by rfl) (hp15 _) (by decide) rfl ?_
      refine Ru.getI (i := 28) (x := (S.F 16 3)) (by decide +kernel) (by rfl) (hp16 _) (by decide) rfl (eI_of _) ?_
      refine Ru.putH (i := 34) (by decide +kernel) (by rfl) (hp15 _) (by decide) (Nat.le_of_ble_eq_true rfl) rfl (by decide +kernel) (pf_15_2 _ _) ?_
      refine Ru.op (q := (.goto 46, 3)) (by decide +kernel) rfl ?_
      cases h
      exact Ru.end (q := (.return_, 1)) (by decide +kernel) rfl rfl
  · replace h := if_f b4 h
    refine Ru.br (k := .eq) (off := 17) (bb := false) (tg := 7) (by decide +kernel) (by decide +kernel) (cz (ci_eq0 g3 (by decide) b4)) rfl ?_
    refine Ru.op (q := (.aload_n 0, 1)) (by decide +kernel) rfl ?_
    refine Ru.op (q := (.aload_n 0, 1)) (by decide +kernel) rfl ?_
    refine Ru.get (i := 14) (v := .ref 16) (by decide +kernel) (by rfl) (hp15 _) (by decide) rfl ?_
    refine Ru.getI (i := 28) (x := (S.F 16 3)) (by decide +kernel) (by rfl) (hp16 _) (by decide) rfl (eI_of _) ?_
    refine Ru.putH (i := 34) (by decide +kernel) (by rfl) (hp15 _) (by decide) (Nat.le_of_ble_eq_true rfl) rfl (by decide +kernel) (pf_15_2 _ _) ?_
    refine Ru.op (q := (.goto 76, 3)) (by decide +kernel) rfl ?_
    cases h
    exact Ru.end (q := (.return_, 1)) (by decide +kernel) rfl rfl
def g43_15L15 (v1 : Nat) (v2 : Int) (v3 : Int) : Nat → Int → St → Option (St)
  | 0, _, _ => none
  | n + 1, v4, S => gd (inR v4) (gd (inR v3) (if v4 < v3 then gA S v1 (fun N6 f7 => gd (ixR (v2 + v4) N6) (ob (g44_15 S (f7 (v2 + v4))) (fun o11 => g43_15L15 v1 v2 v3 n (v4 + 1) o11))) else some S))
set_option maxRecDepth 100000 in
set_option maxHeartbeats 4000000 in
theorem g43_15L15_ok {v1 : Nat} {v2 : Int} {v3 : Int} : ∀ (n : Nat) (v4 : Int) (S : St) (out : St), g43_15L15 v1 v2 v3 n v4 S = some out → ∀ r, (∀ (e1 e2 e3 e4 : Option Value), Ru none 13 267 43 (37, [some (.ref 15), e1, e2, e3, e4], [], out.ns, Hp out) r) → Ru none 13 267 43 (15, [some (.ref 15), some (.ref v1), some (vI v2), some (vI v3), some (vI v4)], [], S.ns, Hp S) r := by
  intro n
  induction n with
  | zero => intro v4 S out h; cases h
  | succ n ih =>
    intro v4 S out h r hk
    unfold g43_15L15 at h
    refine Ru.op (q := (.iload 4, 2)) (by decide +kernel) rfl ?_
    refine Ru.op (q := (.iload_n 3, 1)) (by decide +kernel) rfl ?_
    obtain ⟨g3, h⟩ := gd_some h
    obtain ⟨g4, h⟩ := gd_some h
    by_cases b5 : v4 < v3
    · replace h := if_t b5 h
      refine Ru.br2 (k := .ge) (off := 19) (bb := false) (tg := 21) (by decide +kernel) (by decide +kernel) (ci_ge0 g3 g4 b5) rfl ?_
      refine Ru.op (q := (.aload_n 0, 1)) (by decide +kernel) rfl ?_
      refine Ru.op (q := (.aload_n 1, 1)) (by decide +kernel) rfl ?_
      refine Ru.op (q := (.iload_n 2, 1)) (by decide +kernel) rfl ?_
      refine Ru.op (q := (.iload 4, 2)) (by decide +kernel) rfl ?_
      refine Ru.ar2 (i := .iadd) (z := (v2 + v4)) (by decide +kernel) rfl (ar_add _ _) ?_
      obtain ⟨N6, f7, e8, q9, h⟩ := gA_some h
      obtain ⟨g10, h⟩ := gd_some h
      refine Ru.ildI (i := (v2 + v4)) (z := (f7 (v2 + v4))) (by decide +kernel) q9 g10 rfl ?_
      obtain ⟨o11, e12, h⟩ := ob_some h
      refine Ru.vcall (i := 48) (j2 := 44) (as := [vI (f7 (v2 + v4))]) (by decide +kernel) (by rfl) rfl rfl (hp15 _) (by decide) ⟨(Nat.le_of_ble_eq_true rfl), (by show 19 + 2 ≤ 267; exact Nat.le_of_ble_eq_true rfl), Nat.le_of_ble_eq_true rfl, Nat.le_of_ble_eq_true rfl⟩ ((g44_15_ok e12).up (Nat.le_of_ble_eq_true rfl) (Nat.le_of_ble_eq_true rfl)) ?_
      refine Ru.inc (x := v4) (z := (v4 + 1)) (xs' := [some (.ref 15), some (.ref v1), some (vI v2), some (vI v3), some (vI (v4 + 1))]) (by decide +kernel) rfl rfl rfl ?_
      refine Ru.op (q := (.goto (-19), 3)) (by decide +kernel) rfl ?_
      exact ih _ _ _ h r hk
    · replace h := if_f b5 h
      refine Ru.br2 (k := .ge) (off := 19) (bb := true) (tg := 37) (by decide +kernel) (by decide +kernel) (ci_ge1 g3 g4 b5) rfl ?_
      cases h
      exact hk _ _ _ _
def g43_15 (S : St) (v1 : Nat) (v2 : Int) (v3 : Int) : Option (St) := gd (inR v3) (if 16 < v3 then some (S.f 15 3 1) else ob (g43_15L15 v1 v2 v3 FU 0 S) (fun o13 => ob (g45_15 o13) (fun o19 => some o19)))
set_option maxRecDepth 100000 in
set_option maxHeartbeats 4000000 in
theorem g43_15_ok {S : St} {v1 : Nat} {v2 : Int} {v3 : Int} {o : St} (h : g43_15 S v1 v2 v3 = some o) : Ru none 13 267 43 (0, mn_pad (mn_ent [.ref 15, .ref v1, vI v2, vI v3]) 5, [], S.ns, Hp S) ((0, none), o.ns, Hp o) := by
  unfold g43_15 at h
  show Ru none 13 267 43 (0, [some (.ref 15), some (.ref v1), some (vI v2), some (vI v3), none], [], S.ns, Hp S) _
  refine Ru.op (q := (.iload_n 3, 1)) (by decide +kernel) rfl ?_
  refine Ru.kI (q := (.bipush 16, 2)) (c := 16) (by decide +kernel) rfl (by decide) ?_
  obtain ⟨g1, h⟩ := gd_some h
  by_cases b2 : 16 < v3
  · replace h := if_t b2 h
    refine Ru.br2 (k := .le) (off := 9) (bb := false) (tg := 6) (by decide +kernel) (by decide +kernel) (ci_le0 g1 (by decide) b2) rfl ?_
    refine Ru.op (q := (.aload_n 0, 1)) (by decide +kernel) rfl ?_
    refine Ru.kI (q := (.iconst 1, 1)) (c := 1) (by decide +kernel) rfl (by decide) ?_
    refine Ru.putH (i := 37) (by decide +kernel) (by rfl) (hp15 _) (by decide) (Nat.le_of_ble_eq_true rfl) (fk_b (by decide)) (by decide +kernel) (pf_15_3 _ _) ?_
    cases h
    exact Ru.end (q := (.return_, 1)) (by decide +kernel) rfl rfl
  · replace h := if_f b2 h
    refine Ru.br2 (k := .le) (off := 9) (bb := true) (tg := 12) (by decide +kernel) (by decide +kernel) (ci_le1 g1 (by decide) b2) rfl ?_
    refine Ru.kI (q := (.iconst 0, 1)) (c := 0) (by decide +kernel) rfl (by decide) ?_
    refine Ru.op (q := (.istore 4, 2)) (S' := (15, [some (.ref 15), some (.ref v1), some (vI v2), some (vI v3), some (vI 0)], [], _, _)) (by decide +kernel) rfl ?_
    obtain ⟨o13, e18, h⟩ := ob_some h
    refine g43_15L15_ok FU _ _ _ e18 _ ?_
    intro d14 d15 d16 d17
    refine Ru.op (q := (.aload_n 0, 1)) (by decide +kernel) rfl ?_
    obtain ⟨o19, e20, h⟩ := ob_some h
    refine Ru.vcall (i := 52) (j2 := 45) (as := []) (by decide +kernel) (by rfl) rfl rfl (hp15 _) (by decide) ⟨(Nat.le_of_ble_eq_true rfl), (by show 19 + 1 ≤ 267; exact Nat.le_of_ble_eq_true rfl), Nat.le_of_ble_eq_true rfl, Nat.le_of_ble_eq_true rfl⟩ ((g45_15_ok e20).up (Nat.le_of_ble_eq_true rfl) (Nat.le_of_ble_eq_true rfl)) ?_
    cases h
    exact Ru.end (q := (.return_, 1)) (by decide +kernel) rfl rfl
def g42_15b (rc : St → Int → Int → Int → Option (St)) (S : St) (v1 : Int) (v2 : Int) (v4 : Int) : Option (St) := gd (inR v4) (if 10 < v4 then some S else gd (ixR v1 160) (if (S.A 4 v1) = 0 then ob (g43_15 S 9 (S.A 5 v1) (S.A 6 v1)) (fun o5 => some o5) else if (S.A 4 v1) = 2 then gd (ixR (S.A 6 v1) 160) (gd (dvR v2 (max 1 (S.A 7 (S.A 6 v1)))) (ob (rc S (S.A 5 v1) (v2 / (max 1 (S.A 7 (S.A 6 v1)))) (v4 + 1)) (fun o10 => ob (rc o10 (S.A 6 v1) (v2 % (max 1 (S.A 7 (S.A 6 v1)))) (v4 + 1)) (fun o12 => some o12)))) else gd (ixR (S.A 5 v1) 160) (gd (inR v2) (if v2 < (S.A 7 (S.A 5 v1)) then ob (rc S (S.A 5 v1) v2 (v4 + 1)) (fun o17 => some o17) else ob (rc S (S.A 6 v1) (v2 - (S.A 7 (S.A 5 v1))) (v4 + 1)) (fun o19 => some o19)))))
set_option maxRecDepth 100000 in
set_option maxHeartbeats 4000000 in
theorem g42_15b_ok {FR LO : Nat} {rc : St → Int → Int → Int → Option (St)} (hF : 14 ≤ FR) (hL : 291 ≤ LO) (hrc : ∀ {S : St} {v1 : Int} {v2 : Int} {v4 : Int} {o : St}, rc S v1 v2 v4 = some o → Ru none FR LO 42 (0, mn_pad (mn_ent [.ref 3, vI v1, vI v2, .ref 15, vI v4]) 8, [], S.ns, Hp S) ((0, none), o.ns, Hp o)) {S : St} {v1 : Int} {v2 : Int} {v4 : Int} {o : St} (h : g42_15b rc S v1 v2 v4 = some o) : Ru none (FR + 1) (LO + 27) 42 (0, mn_pad (mn_ent [.ref 3, vI v1, vI v2, .ref 15, vI v4]) 8, [], S.ns, Hp S) ((0, none), o.ns, Hp o) := by
  unfold g42_15b at h
  show Ru none (FR + 1) (LO + 27) 42 (0, [some (.ref 3), some (vI v1), some (vI v2), some (.ref 15), some (vI v4), none, none, none], [], S.ns, Hp S) _
  refine Ru.op (q := (.iload 4, 2)) (by decide +kernel) rfl ?_
  refine Ru.kI (q := (.bipush 10, 2)) (c := 10) (by decide +kernel) rfl (by decide) ?_
  obtain ⟨g1, h⟩ := gd_some h
  by_cases b2 : 10 < v4
  · replace h := if_t b2 h
    refine Ru.br2 (k := .le) (off := 4) (bb := false) (tg := 7) (by decide +kernel) (by decide +kernel) (ci_le0 g1 (by decide) b2) rfl ?_
    cases h
    exact Ru.end (q := (.return_, 1)) (by decide +kernel) rfl rfl
  · replace h := if_f b2 h
    refine Ru.br2 (k := .le) (off := 4) (bb := true) (tg := 8) (by decide +kernel) (by decide +kernel) (ci_le1 g1 (by decide) b2) rfl ?_
    refine Ru.op (q := (.aload_n 0, 1)) (by decide +kernel) rfl ?_
    refine Ru.get (i := 15) (v := .ref 5) (by decide +kernel) (by rfl) (hp3 _) (by decide) rfl ?_
    refine Ru.op (q := (.iload_n 1, 1)) (by decide +kernel) rfl ?_
    obtain ⟨g3, h⟩ := gd_some h
    refine Ru.ildI (i := v1) (z := (S.A 5 v1)) (by decide +kernel) (hp5 _) g3 (eI_of _) ?_
    refine Ru.op (q := (.istore 5, 2)) (S' := (16, [some (.ref 3), some (vI v1), some (vI v2), some (.ref 15), some (vI v4), some (vI (S.A 5 v1)), none, none], [], _, _)) (by decide +kernel) rfl ?_
    refine Ru.op (q := (.aload_n 0, 1)) (by decide +kernel) rfl ?_
    refine Ru.get (i := 18) (v := .ref 6) (by decide +kernel) (by rfl) (hp3 _) (by decide) rfl ?_
    refine Ru.op (q := (.iload_n 1, 1)) (by decide +kernel) rfl ?_
    refine Ru.ildI (i := v1) (z := (S.A 6 v1)) (by decide +kernel) (hp6 _) g3 (eI_of _) ?_
    refine Ru.op (q := (.istore 6, 2)) (S' := (24, [some (.ref 3), some (vI v1), some (vI v2), some (.ref 15), some (vI v4), some (vI (S.A 5 v1)), some (vI (S.A 6 v1)), none], [], _, _)) (by decide +kernel) rfl ?_
    refine Ru.op (q := (.aload_n 0, 1)) (by decide +kernel) rfl ?_
    refine Ru.get (i := 9) (v := .ref 4) (by decide +kernel) (by rfl) (hp3 _) (by decide) rfl ?_
    refine Ru.op (q := (.iload_n 1, 1)) (by decide +kernel) rfl ?_
    refine Ru.ildI (i := v1) (z := (S.A 4 v1)) (by decide +kernel) (hp4 _) g3 (eI_of _) ?_
    by_cases b4 : (S.A 4 v1) = 0
    · replace h := if_t b4 h
      refine Ru.br (k := .ne) (off := 18) (bb := false) (tg := 33) (by decide +kernel) (by decide +kernel) (cz (ci_ne0 (inR_to _) (by decide) b4)) rfl ?_
      refine Ru.op (q := (.aload_n 3, 1)) (by decide +kernel) rfl ?_
      refine Ru.op (q := (.aload_n 0, 1)) (by decide +kernel) rfl ?_
      refine Ru.get (i := 27) (v := .ref 9) (by decide +kernel) (by rfl) (hp3 _) (by decide) rfl ?_
      refine Ru.op (q := (.iload 5, 2)) (by decide +kernel) rfl ?_
      refine Ru.op (q := (.iload 6, 2)) (by decide +kernel) rfl ?_
      obtain ⟨o5, e6, h⟩ := ob_some h
      refine Ru.vcall (i := 66) (j2 := 43) (as := [.ref 9, vI (S.A 5 v1), vI (S.A 6 v1)]) (by decide +kernel) (by rfl) rfl rfl (hp15 _) (by decide) ⟨(by omega), (by show 19 + 5 ≤ (LO + 27); omega), Nat.le_of_ble_eq_true rfl, Nat.le_of_ble_eq_true rfl⟩ ((g43_15_ok e6).up (by omega) (by show _ ≤ (LO + 27) - (19 + 5); omega)) ?_
      refine Ru.op (q := (.goto 105, 3)) (by decide +kernel) rfl ?_
      cases h
      exact Ru.end (q := (.return_, 1)) (by decide +kernel) rfl rfl
    · replace h := if_f b4 h
      refine Ru.br (k := .ne) (off := 18) (bb := true) (tg := 48) (by decide +kernel) (by decide +kernel) (cz (ci_ne1 (inR_to _) (by decide) b4)) rfl ?_
      refine Ru.op (q := (.aload_n 0, 1)) (by decide +kernel) rfl ?_
      refine Ru.get (i := 9) (v := .ref 4) (by decide +kernel) (by rfl) (hp3 _) (by decide) rfl ?_
      refine Ru.op (q := (.iload_n 1, 1)) (by decide +kernel) rfl ?_
      refine Ru.ildI (i := v1) (z := (S.A 4 v1)) (by decide +kernel) (hp4 _) g3 (eI_of _) ?_
      refine Ru.kI (q := (.iconst 2, 1)) (c := 2) (by decide +kernel) rfl (by decide) ?_
      by_cases b7 : (S.A 4 v1) = 2
      · replace h := if_t b7 h
        refine Ru.br2 (k := .ne) (off := 49) (bb := false) (tg := 58) (by decide +kernel) (by decide +kernel) (ci_ne0 (inR_to _) (by decide) b7) rfl ?_
        refine Ru.kI (q := (.iconst 1, 1)) (c := 1) (by decide +kernel) rfl (by decide) ?_
        refine Ru.op (q := (.aload_n 0, 1)) (by decide +kernel) rfl ?_
        refine Ru.get (i := 21) (v := .ref 7) (by decide +kernel) (by rfl) (hp3 _) (by decide) rfl ?_
        refine Ru.op (q := (.iload 6, 2)) (by decide +kernel) rfl ?_
        obtain ⟨g8, h⟩ := gd_some h
        refine Ru.ildI (i := (S.A 6 v1)) (z := (S.A 7 (S.A 6 v1))) (by decide +kernel) (hp7 _) g8 (eI_of _) ?_
        refine Ru.maxI (i := 45) (k := (0, 0, 0, 0, 0)) (by decide +kernel) (by rfl) (by decide) (inR_to _) (by omega) (by show _ ≤ (LO + 27); omega) ?_
        refine Ru.op (q := (.istore 7, 2)) (S' := (71, [some (.ref 3), some (vI v1), some (vI v2), some (.ref 15), some (vI v4), some (vI (S.A 5 v1)), some (vI (S.A 6 v1)), some (vI (max 1 (S.A 7 (S.A 6 v1))))], [], _, _)) (by decide +kernel) rfl ?_
        refine Ru.op (q := (.aload_n 0, 1)) (by decide +kernel) rfl ?_
        refine Ru.op (q := (.iload 5, 2)) (by decide +kernel) rfl ?_
        refine Ru.op (q := (.iload_n 2, 1)) (by decide +kernel) rfl ?_
        refine Ru.op (q := (.iload 7, 2)) (by decide +kernel) rfl ?_
        obtain ⟨g9, h⟩ := gd_some h
        refine Ru.ar2 (i := .idiv) (z := (v2 / (max 1 (S.A 7 (S.A 6 v1))))) (by decide +kernel) rfl (ar_div g9) ?_
        refine Ru.op (q := (.aload_n 3, 1)) (by decide +kernel) rfl ?_
        refine Ru.op (q := (.iload 4, 2)) (by decide +kernel) rfl ?_
        refine Ru.kI (q := (.iconst 1, 1)) (c := 1) (by decide +kernel) rfl (by decide) ?_
        refine Ru.ar2 (i := .iadd) (z := (v4 + 1)) (by decide +kernel) rfl (ar_add _ _) ?_
        obtain ⟨o10, e11, h⟩ := ob_some h
        refine Ru.vcall (i := 59) (j2 := 42) (as := [vI (S.A 5 v1), vI (v2 / (max 1 (S.A 7 (S.A 6 v1)))), .ref 15, vI (v4 + 1)]) (by decide +kernel) (by rfl) rfl rfl (hp3 _) (by decide) ⟨(by omega), (by show 19 + 8 ≤ (LO + 27); omega), Nat.le_of_ble_eq_true rfl, Nat.le_of_ble_eq_true rfl⟩ ((hrc e11).up (by omega) (by show _ ≤ (LO + 27) - (19 + 8); omega)) ?_
        refine Ru.op (q := (.aload_n 0, 1)) (by decide +kernel) rfl ?_
        refine Ru.op (q := (.iload 6, 2)) (by decide +kernel) rfl ?_
        refine Ru.op (q := (.iload_n 2, 1)) (by decide +kernel) rfl ?_
        refine Ru.op (q := (.iload 7, 2)) (by decide +kernel) rfl ?_
        refine Ru.ar2 (i := .irem) (z := (v2 % (max 1 (S.A 7 (S.A 6 v1))))) (by decide +kernel) rfl (ar_rem g9) ?_
        refine Ru.op (q := (.aload_n 3, 1)) (by decide +kernel) rfl ?_
        refine Ru.op (q := (.iload 4, 2)) (by decide +kernel) rfl ?_
        refine Ru.kI (q := (.iconst 1, 1)) (c := 1) (by decide +kernel) rfl (by decide) ?_
        refine Ru.ar2 (i := .iadd) (z := (v4 + 1)) (by decide +kernel) rfl (ar_add _ _) ?_
        obtain ⟨o12, e13, h⟩ := ob_some h
        refine Ru.vcall (i := 59) (j2 := 42) (as := [vI (S.A 6 v1), vI (v2 % (max 1 (S.A 7 (S.A 6 v1)))), .ref 15, vI (v4 + 1)]) (by decide +kernel) (by rfl) rfl rfl (hp3 _) (by decide) ⟨(by omega), (by show 19 + 8 ≤ (LO + 27); omega), Nat.le_of_ble_eq_true rfl, Nat.le_of_ble_eq_true rfl⟩ ((hrc e13).up (by omega) (by show _ ≤ (LO + 27) - (19 + 8); omega)) ?_
        refine Ru.op (q := (.goto 49, 3)) (by decide +kernel) rfl ?_
        cases h
        exact Ru.end (q := (.return_, 1)) (by decide +kernel) rfl rfl
      · replace h := if_f b7 h
        refine Ru.br2 (k := .ne) (off := 49) (bb := true) (tg := 104) (by decide +kernel) (by decide +kernel) (ci_ne1 (inR_to _) (by decide) b7) rfl ?_
        refine Ru.op (q := (.iload_n 2, 1)) (by decide +kernel) rfl ?_
        refine Ru.op (q := (.aload_n 0, 1)) (by decide +kernel) rfl ?_
        refine Ru.get (i := 21) (v := .ref 7) (by decide +kernel) (by rfl) (hp3 _) (by decide) rfl ?_
        refine Ru.op (q := (.iload 5, 2)) (by decide +kernel) rfl ?_
        obtain ⟨g14, h⟩ := gd_some h
        refine Ru.ildI (i := (S.A 5 v1)) (z := (S.A 7 (S.A 5 v1))) (by decide +kernel) (hp7 _) g14 (eI_of _) ?_
        obtain ⟨g15, h⟩ := gd_some h
        by_cases b16 : v2 < (S.A 7 (S.A 5 v1))
        · replace h := if_t b16 h
          refine Ru.br2 (k := .ge) (off := 18) (bb := false) (tg := 115) (by decide +kernel) (by decide +kernel) (ci_ge0 g15 (inR_to _) b16) rfl ?_
          refine Ru.op (q := (.aload_n 0, 1)) (by decide +kernel) rfl ?_
          refine Ru.op (q := (.iload 5, 2)) (by decide +kernel) rfl ?_
          refine Ru.op (q := (.iload_n 2, 1)) (by decide +kernel) rfl ?_
          refine Ru.op (q := (.aload_n 3, 1)) (by decide +kernel) rfl ?_
          refine Ru.op (q := (.iload 4, 2)) (by decide +kernel) rfl ?_
          refine Ru.kI (q := (.iconst 1, 1)) (c := 1) (by decide +kernel) rfl (by decide) ?_
          refine Ru.ar2 (i := .iadd) (z := (v4 + 1)) (by decide +kernel) rfl (ar_add _ _) ?_
          obtain ⟨o17, e18, h⟩ := ob_some h
          refine Ru.vcall (i := 59) (j2 := 42) (as := [vI (S.A 5 v1), vI v2, .ref 15, vI (v4 + 1)]) (by decide +kernel) (by rfl) rfl rfl (hp3 _) (by decide) ⟨(by omega), (by show 19 + 8 ≤ (LO + 27); omega), Nat.le_of_ble_eq_true rfl, Nat.le_of_ble_eq_true rfl⟩ ((hrc e18).up (by omega) (by show _ ≤ (LO + 27) - (19 + 8); omega)) ?_
          refine Ru.op (q := (.goto 23, 3)) (by decide +kernel) rfl ?_
          cases h
          exact Ru.end (q := (.return_, 1)) (by decide +kernel) rfl rfl
        · replace h := if_f b16 h
          refine Ru.br2 (k := .ge) (off := 18) (bb := true) (tg := 130) (by decide +kernel) (by decide +kernel) (ci_ge1 g15 (inR_to _) b16) rfl ?_
          refine Ru.op (q := (.aload_n 0, 1)) (by decide +kernel) rfl ?_
          refine Ru.op (q := (.iload 6, 2)) (by decide +kernel) rfl ?_
          refine Ru.op (q := (.iload_n 2, 1)) (by decide +kernel) rfl ?_
          refine Ru.op (q := (.aload_n 0, 1)) (by decide +kernel) rfl ?_
          refine Ru.get (i := 21) (v := .ref 7) (by decide +kernel) (by rfl) (hp3 _) (by decide) rfl ?_
          refine Ru.op (q := (.iload 5, 2)) (by decide +kernel) rfl ?_
          refine Ru.ildI (i := (S.A 5 v1)) (z := (S.A 7 (S.A 5 v1))) (by decide +kernel) (hp7 _) g14 (eI_of _) ?_
          refine Ru.ar2 (i := .isub) (z := (v2 - (S.A 7 (S.A 5 v1)))) (by decide +kernel) rfl (ar_sub _ _) ?_
          refine Ru.op (q := (.aload_n 3, 1)) (by decide +kernel) rfl ?_
          refine Ru.op (q := (.iload 4, 2)) (by decide +kernel) rfl ?_
          refine Ru.kI (q := (.iconst 1, 1)) (c := 1) (by decide +kernel) rfl (by decide) ?_
          refine Ru.ar2 (i := .iadd) (z := (v4 + 1)) (by decide +kernel) rfl (ar_add _ _) ?_
          obtain ⟨o19, e20, h⟩ := ob_some h
          refine Ru.vcall (i := 59) (j2 := 42) (as := [vI (S.A 6 v1), vI (v2 - (S.A 7 (S.A 5 v1))), .ref 15, vI (v4 + 1)]) (by decide +kernel) (by rfl) rfl rfl (hp3 _) (by decide) ⟨(by omega), (by show 19 + 8 ≤ (LO + 27); omega), Nat.le_of_ble_eq_true rfl, Nat.le_of_ble_eq_true rfl⟩ ((hrc e20).up (by omega) (by show _ ≤ (LO + 27) - (19 + 8); omega)) ?_
          cases h
          exact Ru.end (q := (.return_, 1)) (by decide +kernel) rfl rfl
def g42_15 : Nat → St → Int → Int → Int → Option (St)
  | 0, _, _, _, _ => none
  | n + 1, S, v1, v2, v4 => g42_15b (g42_15 n) S v1 v2 v4
theorem g42_15_ok : ∀ (n : Nat) {S : St} {v1 : Int} {v2 : Int} {v4 : Int} {o : St}, g42_15 n S v1 v2 v4 = some o → Ru none (14 + 1 * n) (291 + 27 * n) 42 (0, mn_pad (mn_ent [.ref 3, vI v1, vI v2, .ref 15, vI v4]) 8, [], S.ns, Hp S) ((0, none), o.ns, Hp o) := by
  intro n
  induction n with
  | zero => intro S v1 v2 v4 o h; cases h
  | succ n ih => intro S v1 v2 v4 o h; exact (g42_15b_ok (FR := 14 + 1 * n) (LO := 291 + 27 * n) (by omega) (by omega) ih h).up (by omega) (by omega)
def g48_15L10  : Nat → Int → St → Option (St)
  | 0, _, _ => none
  | n + 1, v2, S => gd (inR v2) (if v2 < (S.F 16 3) then gd (ixR v2 80) (if (S.A 17 v2) < 32768 then gd (ixR ((S.A 17 v2) / 256) 128) (g48_15L10 n (v2 + 1) (S.a 19 ((S.A 17 v2) / 256) (-1))) else g48_15L10 n (v2 + 1) S) else some S)
set_option maxRecDepth 100000 in
set_option maxHeartbeats 4000000 in
theorem g48_15L10_ok : ∀ (n : Nat) (v2 : Int) (S : St) (d3 d4 : Option Value) (out : St), g48_15L10 n v2 S = some out → ∀ r, (∀ (e2 e3 e4 : Option Value), Ru none 10 200 48 (47, [some (.ref 15), some (.ref 17), e2, e3, e4], [], out.ns, Hp out) r) → Ru none 10 200 48 (10, [some (.ref 15), some (.ref 17), some (vI v2), d3, d4], [], S.ns, Hp S) r := by
  intro n
  induction n with
  | zero => intro v2 S d3 d4 out h; cases h
  | succ n ih =>
    intro v2 S d3 d4 out h r hk
    unfold g48_15L10 at h
    refine Ru.op (q := (.iload_n 2, 1)) (by decide +kernel) rfl ?_
    refine Ru.op (q := (.aload_n 0, 1)) (by decide +kernel) rfl ?_
    refine Ru.get (i := 14) (v := .ref 16) (by decide +kernel) (by rfl) (hp15 _) (by decide) rfl ?_
    refine Ru.getI (i := 28) (x := (S.F 16 3)) (by decide +kernel) (by rfl) (hp16 _) (by decide) rfl (eI_of _) ?_
    obtain ⟨g1, h⟩ := gd_some h
    by_cases b2 : v2 < (S.F 16 3)
    · replace h := if_t b2 h
      refine Ru.br2 (k := .ge) (off := 29) (bb := false) (tg := 21) (by decide +kernel) (by decide +kernel) (ci_ge0 g1 (inR_to _) b2) rfl ?_
      refine Ru.op (q := (.aload_n 1, 1)) (by decide +kernel) rfl ?_
      refine Ru.op (q := (.iload_n 2, 1)) (by decide +kernel) rfl ?_
      obtain ⟨g3, h⟩ := gd_some h
      refine Ru.ildI (i := v2) (z := (S.A 17 v2)) (by decide +kernel) (hp17 _) g3 (eI_of _) ?_
      refine Ru.kI (q := (.ldc 59, 2)) (c := 32768) (by decide +kernel) rfl (by decide) ?_
      by_cases b4 : (S.A 17 v2) < 32768
      · replace h := if_t b4 h
        refine Ru.br2 (k := .ge) (off := 15) (bb := false) (tg := 29) (by decide +kernel) (by decide +kernel) (ci_ge0 (inR_to _) (by decide) b4) rfl ?_
        refine Ru.op (q := (.aload_n 0, 1)) (by decide +kernel) rfl ?_
        refine Ru.get (i := 20) (v := .ref 19) (by decide +kernel) (by rfl) (hp15 _) (by decide) rfl ?_
        refine Ru.op (q := (.aload_n 1, 1)) (by decide +kernel) rfl ?_
        refine Ru.op (q := (.iload_n 2, 1)) (by decide +kernel) rfl ?_
        refine Ru.ildI (i := v2) (z := (S.A 17 v2)) (by decide +kernel) (hp17 _) g3 (eI_of _) ?_
        refine Ru.kI (q := (.bipush 8, 2)) (c := 8) (by decide +kernel) rfl (by decide) ?_
        refine Ru.ar2 (i := .ishr) (z := ((S.A 17 v2) / 256)) (by decide +kernel) rfl (ar_shr (inR_to _)) ?_
        refine Ru.kI (q := (.iconst (-1), 1)) (c := (-1)) (by decide +kernel) rfl (by decide) ?_
        obtain ⟨g5, h⟩ := gd_some h
        refine Ru.istI (i := ((S.A 17 v2) / 256)) (x := (-1)) (by decide +kernel) (hp19 _) g5 (ps_19 _ _ _) ?_
        refine Ru.inc (x := v2) (z := (v2 + 1)) (xs' := [some (.ref 15), some (.ref 17), some (vI (v2 + 1)), d3, d4]) (by decide +kernel) rfl rfl rfl ?_
        refine Ru.op (q := (.goto (-34), 3)) (by decide +kernel) rfl ?_
        exact ih _ _ _ _ _ h r hk
      · replace h := if_f b4 h
        refine Ru.br2 (k := .ge) (off := 15) (bb := true) (tg := 41) (by decide +kernel) (by decide +kernel) (ci_ge1 (inR_to _) (by decide) b4) rfl ?_
        refine Ru.inc (x := v2) (z := (v2 + 1)) (xs' := [some (.ref 15), some (.ref 17), some (vI (v2 + 1)), d3, d4]) (by decide +kernel) rfl rfl rfl ?_
        refine Ru.op (q := (.goto (-34), 3)) (by decide +kernel) rfl ?_
        exact ih _ _ _ _ _ h r hk
    · replace h := if_f b2 h
      refine Ru.br2 (k := .ge) (off := 29) (bb := true) (tg := 47) (by decide +kernel) (by decide +kernel) (ci_ge1 g1 (inR_to _) b2) rfl ?_
      cases h
      exact hk _ _ _
def g48_15L51  : Nat → Int → Int → St → Option (St)
  | 0, _, _, _ => none
  | n + 1, v2, v3, S => gd (inR v3) (if v3 < (S.F 16 3) then gd (ixR v3 80) (if (S.A 17 v3) < 32768 then gd (ixR ((S.A 17 v3) / 256) 128) (if (S.A 19 ((S.A 17 v3) / 256)) = (-1) then g48_15L51 n (v2 + 1) (v3 + 1) ((S.a 19 ((S.A 17 v3) / 256) v2).a 17 v3 (((S.a 19 ((S.A 17 v3) / 256) v2).A 19 ((S.A 17 v3) / 256)) * 256)) else g48_15L51 n v2 (v3 + 1) (S.a 17 v3 ((S.A 19 ((S.A 17 v3) / 256)) * 256))) else g48_15L51 n v2 (v3 + 1) S) else some S)
set_option maxRecDepth 100000 in
set_option maxHeartbeats 4000000 in
theorem g48_15L51_ok : ∀ (n : Nat) (v2 : Int) (v3 : Int) (S : St) (d4 : Option Value) (out : St), g48_15L51 n v2 v3 S = some out → ∀ r, (∀ (e0 e1 e2 e3 e4 : Option Value), Ru none 10 200 48 (119, [e0, e1, e2, e3, e4], [], out.ns, Hp out) r) → Ru none 10 200 48 (51, [some (.ref 15), some (.ref 17), some (vI v2), some (vI v3), d4], [], S.ns, Hp S) r := by
  intro n
  induction n with
  | zero => intro v2 v3 S d4 out h; cases h
  | succ n ih =>
    intro v2 v3 S d4 out h r hk
    unfold g48_15L51 at h
    refine Ru.op (q := (.iload_n 3, 1)) (by decide +kernel) rfl ?_
    refine Ru.op (q := (.aload_n 0, 1)) (by decide +kernel) rfl ?_
    refine Ru.get (i := 14) (v := .ref 16) (by decide +kernel) (by rfl) (hp15 _) (by decide) rfl ?_
    refine Ru.getI (i := 28) (x := (S.F 16 3)) (by decide +kernel) (by rfl) (hp16 _) (by decide) rfl (eI_of _) ?_
    obtain ⟨g11, h⟩ := gd_some h
    by_cases b12 : v3 < (S.F 16 3)
    · replace h := if_t b12 h
      refine Ru.br2 (k := .ge) (off := 60) (bb := false) (tg := 62) (by decide +kernel) (by decide +kernel) (ci_ge0 g11 (inR_to _) b12) rfl ?_
      refine Ru.op (q := (.aload_n 1, 1)) (by decide +kernel) rfl ?_
      refine Ru.op (q := (.iload_n 3, 1)) (by decide +kernel) rfl ?_
      obtain ⟨g13, h⟩ := gd_some h
      refine Ru.ildI (i := v3) (z := (S.A 17 v3)) (by decide +kernel) (hp17 _) g13 (eI_of _) ?_
      refine Ru.kI (q := (.ldc 59, 2)) (c := 32768) (by decide +kernel) rfl (by decide) ?_
      by_cases b14 : (S.A 17 v3) < 32768
      · replace h := if_t b14 h
        refine Ru.br2 (k := .ge) (off := 46) (bb := false) (tg := 70) (by decide +kernel) (by decide +kernel) (ci_ge0 (inR_to _) (by decide) b14) rfl ?_
        refine Ru.op (q := (.aload_n 1, 1)) (by decide +kernel) rfl ?_
        refine Ru.op (q := (.iload_n 3, 1)) (by decide +kernel) rfl ?_
        refine Ru.ildI (i := v3) (z := (S.A 17 v3)) (by decide +kernel) (hp17 _) g13 (eI_of _) ?_
        refine Ru.kI (q := (.bipush 8, 2)) (c := 8) (by decide +kernel) rfl (by decide) ?_
        refine Ru.ar2 (i := .ishr) (z := ((S.A 17 v3) / 256)) (by decide +kernel) rfl (ar_shr (inR_to _)) ?_
        refine Ru.op (q := (.istore 4, 2)) (S' := (78, [some (.ref 15), some (.ref 17), some (vI v2), some (vI v3), some (vI ((S.A 17 v3) / 256))], [], _, _)) (by decide +kernel) rfl ?_
        refine Ru.op (q := (.aload_n 0, 1)) (by decide +kernel) rfl ?_
        refine Ru.get (i := 20) (v := .ref 19) (by decide +kernel) (by rfl) (hp15 _) (by decide) rfl ?_
        refine Ru.op (q := (.iload 4, 2)) (by decide +kernel) rfl ?_
        obtain ⟨g15, h⟩ := gd_some h
        refine Ru.ildI (i := ((S.A 17 v3) / 256)) (z := (S.A 19 ((S.A 17 v3) / 256))) (by decide +kernel) (hp19 _) g15 (eI_of _) ?_
        refine Ru.kI (q := (.iconst (-1), 1)) (c := (-1)) (by decide +kernel) rfl (by decide) ?_
        by_cases b16 : (S.A 19 ((S.A 17 v3) / 256)) = (-1)
        · replace h := if_t b16 h
          refine Ru.br2 (k := .ne) (off := 14) (bb := false) (tg := 89) (by decide +kernel) (by decide +kernel) (ci_ne0 (inR_to _) (by decide) b16) rfl ?_
          refine Ru.op (q := (.aload_n 0, 1)) (by decide +kernel) rfl ?_
          refine Ru.get (i := 20) (v := .ref 19) (by decide +kernel) (by rfl) (hp15 _) (by decide) rfl ?_
          refine Ru.op (q := (.iload 4, 2)) (by decide +kernel) rfl ?_
          refine Ru.op (q := (.iload_n 2, 1)) (by decide +kernel) rfl ?_
          refine Ru.istI (i := ((S.A 17 v3) / 256)) (x := v2) (by decide +kernel) (hp19 _) g15 (ps_19 _ _ _) ?_
          refine Ru.inc (x := v2) (z := (v2 + 1)) (xs' := [some (.ref 15), some (.ref 17), some (vI (v2 + 1)), some (vI v3), some (vI ((S.A 17 v3) / 256))]) (by decide +kernel) rfl rfl rfl ?_
          refine Ru.op (q := (.aload_n 1, 1)) (by decide +kernel) rfl ?_
          refine Ru.op (q := (.iload_n 3, 1)) (by decide +kernel) rfl ?_
          refine Ru.op (q := (.aload_n 0, 1)) (by decide +kernel) rfl ?_
          refine Ru.get (i := 20) (v := .ref 19) (by decide +kernel) (by rfl) (hp15 _) (by decide) rfl ?_
          refine Ru.op (q := (.iload 4, 2)) (by decide +kernel) rfl ?_
          refine Ru.ildI (i := ((S.A 17 v3) / 256)) (z := ((S.a 19 ((S.A 17 v3) / 256) v2).A 19 ((S.A 17 v3) / 256))) (by decide +kernel) (hp19 _) g15 (eI_of _) ?_
          refine Ru.kI (q := (.bipush 8, 2)) (c := 8) (by decide +kernel) rfl (by decide) ?_
          refine Ru.ar2 (i := .ishl) (z := (((S.a 19 ((S.A 17 v3) / 256) v2).A 19 ((S.A 17 v3) / 256)) * 256)) (by decide +kernel) rfl (ar_shl _) ?_
          refine Ru.istI (i := v3) (x := (((S.a 19 ((S.A 17 v3) / 256) v2).A 19 ((S.A 17 v3) / 256)) * 256)) (by decide +kernel) (hp17 _) g13 (ps_17 _ _ _) ?_
          refine Ru.inc (x := v3) (z := (v3 + 1)) (xs' := [some (.ref 15), some (.ref 17), some (vI (v2 + 1)), some (vI (v3 + 1)), some (vI ((S.A 17 v3) / 256))]) (by decide +kernel) rfl rfl rfl ?_
          refine Ru.op (q := (.goto (-65), 3)) (by decide +kernel) rfl ?_
          exact ih _ _ _ _ _ h r hk
        · replace h := if_f b16 h
          refine Ru.br2 (k := .ne) (off := 14) (bb := true) (tg := 100) (by decide +kernel) (by decide +kernel) (ci_ne1 (inR_to _) (by decide) b16) rfl ?_
          refine Ru.op (q := (.aload_n 1, 1)) (by decide +kernel) rfl ?_
          refine Ru.op (q := (.iload_n 3, 1)) (by decide +kernel) rfl ?_
          refine Ru.op (q := (.aload_n 0, 1)) (by decide +kernel) rfl ?_
          refine Ru.get (i := 20) (v := .ref 19) (by decide +kernel) (by rfl) (hp15 _) (by decide) rfl ?_
          refine Ru.op (q := (.iload 4, 2)) (by decide +kernel) rfl ?_
          refine Ru.ildI (i := ((S.A 17 v3) / 256)) (z := (S.A 19 ((S.A 17 v3) / 256))) (by decide +kernel) (hp19 _) g15 (eI_of _) ?_
          refine Ru.kI (q := (.bipush 8, 2)) (c := 8) (by decide +kernel) rfl (by decide) ?_
          refine Ru.ar2 (i := .ishl) (z := ((S.A 19 ((S.A 17 v3) / 256)) * 256)) (by decide +kernel) rfl (ar_shl _) ?_
          refine Ru.istI (i := v3) (x := ((S.A 19 ((S.A 17 v3) / 256)) * 256)) (by decide +kernel) (hp17 _) g13 (ps_17 _ _ _) ?_
          refine Ru.inc (x := v3) (z := (v3 + 1)) (xs' := [some (.ref 15), some (.ref 17), some (vI v2), some (vI (v3 + 1)), some (vI ((S.A 17 v3) / 256))]) (by decide +kernel) rfl rfl rfl ?_
          refine Ru.op (q := (.goto (-65), 3)) (by decide +kernel) rfl ?_
          exact ih _ _ _ _ _ h r hk
      · replace h := if_f b14 h
        refine Ru.br2 (k := .ge) (off := 46) (bb := true) (tg := 113) (by decide +kernel) (by decide +kernel) (ci_ge1 (inR_to _) (by decide) b14) rfl ?_
        refine Ru.inc (x := v3) (z := (v3 + 1)) (xs' := [some (.ref 15), some (.ref 17), some (vI v2), some (vI (v3 + 1)), d4]) (by decide +kernel) rfl rfl rfl ?_
        refine Ru.op (q := (.goto (-65), 3)) (by decide +kernel) rfl ?_
        exact ih _ _ _ _ _ h r hk
    · replace h := if_f b12 h
      refine Ru.br2 (k := .ge) (off := 60) (bb := true) (tg := 119) (by decide +kernel) (by decide +kernel) (ci_ge1 g11 (inR_to _) b12) rfl ?_
      cases h
      exact hk _ _ _ _ _
def g48_15 (S : St) : Option (St) := ob (g48_15L10 FU 0 S) (fun o6 => ob (g48_15L51 FU 0 0 o6) (fun o17 => some o17))
set_option maxRecDepth 100000 in
set_option maxHeartbeats 4000000 in
theorem g48_15_ok {S : St} {o : St} (h : g48_15 S  = some o) : Ru none 10 200 48 (0, mn_pad (mn_ent [.ref 15]) 5, [], S.ns, Hp S) ((0, none), o.ns, Hp o) := by
  unfold g48_15 at h
  show Ru none 10 200 48 (0, [some (.ref 15), none, none, none, none], [], S.ns, Hp S) _
  refine Ru.op (q := (.aload_n 0, 1)) (by decide +kernel) rfl ?_
  refine Ru.get (i := 14) (v := .ref 16) (by decide +kernel) (by rfl) (hp15 _) (by decide) rfl ?_
  refine Ru.get (i := 41) (v := .ref 17) (by decide +kernel) (by rfl) (hp16 _) (by decide) rfl ?_
  refine Ru.op (q := (.astore_n 1, 1)) (S' := (8, [some (.ref 15), some (.ref 17), none, none, none], [], _, _)) (by decide +kernel) rfl ?_
  refine Ru.kI (q := (.iconst 0, 1)) (c := 0) (by decide +kernel) rfl (by decide) ?_
  refine Ru.op (q := (.istore_n 2, 1)) (S' := (10, [some (.ref 15), some (.ref 17), some (vI 0), none, none], [], _, _)) (by decide +kernel) rfl ?_
  obtain ⟨o6, e10, h⟩ := ob_some h
  refine g48_15L10_ok FU _ _ _ _ _ e10 _ ?_
  intro d7 d8 d9
  refine Ru.kI (q := (.iconst 0, 1)) (c := 0) (by decide +kernel) rfl (by decide) ?_
  refine Ru.op (q := (.istore_n 2, 1)) (S' := (49, [some (.ref 15), some (.ref 17), some (vI 0), d8, d9], [], _, _)) (by decide +kernel) rfl ?_
  refine Ru.kI (q := (.iconst 0, 1)) (c := 0) (by decide +kernel) rfl (by decide) ?_
  refine Ru.op (q := (.istore_n 3, 1)) (S' := (51, [some (.ref 15), some (.ref 17), some (vI 0), some (vI 0), d9], [], _, _)) (by decide +kernel) rfl ?_
  obtain ⟨o17, e23, h⟩ := ob_some h
  refine g48_15L51_ok FU _ _ _ _ _ e23 _ ?_
  intro d18 d19 d20 d21 d22
  cases h
  exact Ru.end (q := (.return_, 1)) (by decide +kernel) rfl rfl
def g40_15 (S : St) (v1 : Int) (v2 : Int) : Option (St) := ob (g41_15 S) (fun o1 => ob (g42_15 64 o1 v1 v2 0) (fun o3 => ob (g48_15 o3) (fun o5 => some o5)))
set_option maxRecDepth 100000 in
set_option maxHeartbeats 4000000 in
theorem g40_15_ok {S : St} {v1 : Int} {v2 : Int} {o : St} (h : g40_15 S v1 v2 = some o) : Ru none 79 2046 40 (0, mn_pad (mn_ent [.ref 3, vI v1, vI v2, .ref 15]) 4, [], S.ns, Hp S) ((0, none), o.ns, Hp o) := by
  unfold g40_15 at h
  show Ru none 79 2046 40 (0, [some (.ref 3), some (vI v1), some (vI v2), some (.ref 15)], [], S.ns, Hp S) _
  refine Ru.op (q := (.aload_n 3, 1)) (by decide +kernel) rfl ?_
  obtain ⟨o1, e2, h⟩ := ob_some h
  refine Ru.vcall (i := 54) (j2 := 41) (as := []) (by decide +kernel) (by rfl) rfl rfl (hp15 _) (by decide) ⟨(Nat.le_of_ble_eq_true rfl), (by show 19 + 1 ≤ 2046; exact Nat.le_of_ble_eq_true rfl), Nat.le_of_ble_eq_true rfl, Nat.le_of_ble_eq_true rfl⟩ ((g41_15_ok e2).up (Nat.le_of_ble_eq_true rfl) (Nat.le_of_ble_eq_true rfl)) ?_
  refine Ru.op (q := (.aload_n 0, 1)) (by decide +kernel) rfl ?_
  refine Ru.op (q := (.iload_n 1, 1)) (by decide +kernel) rfl ?_
  refine Ru.op (q := (.iload_n 2, 1)) (by decide +kernel) rfl ?_
  refine Ru.op (q := (.aload_n 3, 1)) (by decide +kernel) rfl ?_
  refine Ru.kI (q := (.iconst 0, 1)) (c := 0) (by decide +kernel) rfl (by decide) ?_
  obtain ⟨o3, e4, h⟩ := ob_some h
  refine Ru.vcall (i := 59) (j2 := 42) (as := [vI v1, vI v2, .ref 15, vI 0]) (by decide +kernel) (by rfl) rfl rfl (hp3 _) (by decide) ⟨(Nat.le_of_ble_eq_true rfl), (by show 19 + 8 ≤ 2046; exact Nat.le_of_ble_eq_true rfl), Nat.le_of_ble_eq_true rfl, Nat.le_of_ble_eq_true rfl⟩ ((g42_15_ok 64 e4).up (Nat.le_of_ble_eq_true rfl) (Nat.le_of_ble_eq_true rfl)) ?_
  refine Ru.op (q := (.aload_n 3, 1)) (by decide +kernel) rfl ?_
  obtain ⟨o5, e6, h⟩ := ob_some h
  refine Ru.vcall (i := 63) (j2 := 48) (as := []) (by decide +kernel) (by rfl) rfl rfl (hp15 _) (by decide) ⟨(Nat.le_of_ble_eq_true rfl), (by show 19 + 5 ≤ 2046; exact Nat.le_of_ble_eq_true rfl), Nat.le_of_ble_eq_true rfl, Nat.le_of_ble_eq_true rfl⟩ ((g48_15_ok e6).up (Nat.le_of_ble_eq_true rfl) (Nat.le_of_ble_eq_true rfl)) ?_
  cases h
  exact Ru.end (q := (.return_, 1)) (by decide +kernel) rfl rfl
def g50_15 (S : St) : Option (Int) := if (S.F 15 3) = 0 then if 16 < (S.F 16 3) then some 0 else some 1 else some 0
set_option maxRecDepth 100000 in
set_option maxHeartbeats 4000000 in
theorem g50_15_ok {S : St} {o : Int} (h : g50_15 S  = some o) : Ru none 10 200 50 (0, mn_pad (mn_ent [.ref 15]) 1, [], S.ns, Hp S) ((0, some (vI o)), S.ns, Hp S) := by
  unfold g50_15 at h
  show Ru none 10 200 50 (0, [some (.ref 15)], [], S.ns, Hp S) _
  refine Ru.op (q := (.aload_n 0, 1)) (by decide +kernel) rfl ?_
  refine Ru.getI (i := 37) (x := (S.F 15 3)) (by decide +kernel) (by rfl) (hp15 _) (by decide) rfl (eI_of _) ?_
  by_cases b1 : (S.F 15 3) = 0
  · replace h := if_t b1 h
    refine Ru.br (k := .ne) (off := 19) (bb := false) (tg := 7) (by decide +kernel) (by decide +kernel) (cz (ci_ne0 (inR_to _) (by decide) b1)) rfl ?_
    refine Ru.op (q := (.aload_n 0, 1)) (by decide +kernel) rfl ?_
    refine Ru.get (i := 14) (v := .ref 16) (by decide +kernel) (by rfl) (hp15 _) (by decide) rfl ?_
    refine Ru.getI (i := 28) (x := (S.F 16 3)) (by decide +kernel) (by rfl) (hp16 _) (by decide) rfl (eI_of _) ?_
    refine Ru.kI (q := (.bipush 16, 2)) (c := 16) (by decide +kernel) rfl (by decide) ?_
    by_cases b2 : 16 < (S.F 16 3)
    · replace h := if_t b2 h
      refine Ru.br2 (k := .gt) (off := 7) (bb := true) (tg := 23) (by decide +kernel) (by decide +kernel) (ci_gt1 (inR_to _) (by decide) b2) rfl ?_
      refine Ru.kI (q := (.iconst 0, 1)) (c := 0) (by decide +kernel) rfl (by decide) ?_
      cases h
      exact Ru.iret (by decide +kernel) rfl (nar_b1 (by decide))
    · replace h := if_f b2 h
      refine Ru.br2 (k := .gt) (off := 7) (bb := false) (tg := 19) (by decide +kernel) (by decide +kernel) (ci_gt0 (inR_to _) (by decide) b2) rfl ?_
      refine Ru.kI (q := (.iconst 1, 1)) (c := 1) (by decide +kernel) rfl (by decide) ?_
      refine Ru.op (q := (.goto 4, 3)) (by decide +kernel) rfl ?_
      cases h
      exact Ru.iret (by decide +kernel) rfl (nar_b1 (by decide))
  · replace h := if_f b1 h
    refine Ru.br (k := .ne) (off := 19) (bb := true) (tg := 23) (by decide +kernel) (by decide +kernel) (cz (ci_ne1 (inR_to _) (by decide) b1)) rfl ?_
    refine Ru.kI (q := (.iconst 0, 1)) (c := 0) (by decide +kernel) rfl (by decide) ?_
    cases h
    exact Ru.iret (by decide +kernel) rfl (nar_b1 (by decide))
def g52_15 (S : St) (v1 : Int) (v2 : Int) (v3 : Int) : Option (Int) := gd (ixR v1 80) (gd (ixR v2 80) (gd (noR (S.A 17 v1) ∧ noR (S.A 17 v2)) (gd (inR (xr (S.A 17 v1) (S.A 17 v2))) (if (xr (S.A 17 v1) (S.A 17 v2)) = 256 then ob (g47 S 17 (v1 + 1) (v2 + 1) ((v3 - v1) - 1)) (fun o6 => gd (inR o6) (if o6 = 0 then some 0 else some 1)) else some 0))))
set_option maxRecDepth 100000 in
set_option maxHeartbeats 4000000 in
theorem g52_15_ok {S : St} {v1 : Int} {v2 : Int} {v3 : Int} {o : Int} (h : g52_15 S v1 v2 v3 = some o) : Ru none 11 224 52 (0, mn_pad (mn_ent [.ref 15, vI v1, vI v2, vI v3]) 4, [], S.ns, Hp S) ((0, some (vI o)), S.ns, Hp S) := by
  unfold g52_15 at h
  show Ru none 11 224 52 (0, [some (.ref 15), some (vI v1), some (vI v2), some (vI v3)], [], S.ns, Hp S) _
  refine Ru.op (q := (.aload_n 0, 1)) (by decide +kernel) rfl ?_
  refine Ru.get (i := 14) (v := .ref 16) (by decide +kernel) (by rfl) (hp15 _) (by decide) rfl ?_
  refine Ru.get (i := 41) (v := .ref 17) (by decide +kernel) (by rfl) (hp16 _) (by decide) rfl ?_
  refine Ru.op (q := (.iload_n 1, 1)) (by decide +kernel) rfl ?_
  obtain ⟨g1, h⟩ := gd_some h
  refine Ru.ildI (i := v1) (z := (S.A 17 v1)) (by decide +kernel) (hp17 _) g1 (eI_of _) ?_
  refine Ru.op (q := (.aload_n 0, 1)) (by decide +kernel) rfl ?_
  refine Ru.get (i := 14) (v := .ref 16) (by decide +kernel) (by rfl) (hp15 _) (by decide) rfl ?_
  refine Ru.get (i := 41) (v := .ref 17) (by decide +kernel) (by rfl) (hp16 _) (by decide) rfl ?_
  refine Ru.op (q := (.iload_n 2, 1)) (by decide +kernel) rfl ?_
  obtain ⟨g2, h⟩ := gd_some h
  refine Ru.ildI (i := v2) (z := (S.A 17 v2)) (by decide +kernel) (hp17 _) g2 (eI_of _) ?_
  obtain ⟨g3, h⟩ := gd_some h
  refine Ru.ar2 (i := .ixor) (z := (xr (S.A 17 v1) (S.A 17 v2))) (by decide +kernel) rfl (ar_xor g3) ?_
  refine Ru.kI (q := (.sipush 256, 3)) (c := 256) (by decide +kernel) rfl (by decide) ?_
  obtain ⟨g4, h⟩ := gd_some h
  by_cases b5 : (xr (S.A 17 v1) (S.A 17 v2)) = 256
  · replace h := if_t b5 h
    refine Ru.br2 (k := .ne) (off := 31) (bb := false) (tg := 25) (by decide +kernel) (by decide +kernel) (ci_ne0 g4 (by decide) b5) rfl ?_
    refine Ru.op (q := (.aload_n 0, 1)) (by decide +kernel) rfl ?_
    refine Ru.get (i := 14) (v := .ref 16) (by decide +kernel) (by rfl) (hp15 _) (by decide) rfl ?_
    refine Ru.get (i := 41) (v := .ref 17) (by decide +kernel) (by rfl) (hp16 _) (by decide) rfl ?_
    refine Ru.op (q := (.iload_n 1, 1)) (by decide +kernel) rfl ?_
    refine Ru.kI (q := (.iconst 1, 1)) (c := 1) (by decide +kernel) rfl (by decide) ?_
    refine Ru.ar2 (i := .iadd) (z := (v1 + 1)) (by decide +kernel) rfl (ar_add _ _) ?_
    refine Ru.op (q := (.iload_n 2, 1)) (by decide +kernel) rfl ?_
    refine Ru.kI (q := (.iconst 1, 1)) (c := 1) (by decide +kernel) rfl (by decide) ?_
    refine Ru.ar2 (i := .iadd) (z := (v2 + 1)) (by decide +kernel) rfl (ar_add _ _) ?_
    refine Ru.op (q := (.iload_n 3, 1)) (by decide +kernel) rfl ?_
    refine Ru.op (q := (.iload_n 1, 1)) (by decide +kernel) rfl ?_
    refine Ru.ar2 (i := .isub) (z := (v3 - v1)) (by decide +kernel) rfl (ar_sub _ _) ?_
    refine Ru.kI (q := (.iconst 1, 1)) (c := 1) (by decide +kernel) rfl (by decide) ?_
    refine Ru.ar2 (i := .isub) (z := ((v3 - v1) - 1)) (by decide +kernel) rfl (ar_sub _ _) ?_
    obtain ⟨o6, e7, h⟩ := ob_some h
    refine Ru.call (q := (.invokestatic 55, 3)) (j2 := 47) (as := [.ref 17, vI (v1 + 1), vI (v2 + 1), vI ((v3 - v1) - 1)]) (by decide +kernel) rfl rfl rfl rfl ⟨(Nat.le_of_ble_eq_true rfl), (by show 19 + 5 ≤ 224; exact Nat.le_of_ble_eq_true rfl), Nat.le_of_ble_eq_true rfl, Nat.le_of_ble_eq_true rfl⟩ ((g47_ok e7).up (Nat.le_of_ble_eq_true rfl) (Nat.le_of_ble_eq_true rfl)) ?_
    obtain ⟨g8, h⟩ := gd_some h
    by_cases b9 : o6 = 0
    · replace h := if_t b9 h
      refine Ru.br (k := .eq) (off := 7) (bb := true) (tg := 53) (by decide +kernel) (by decide +kernel) (cz (ci_eq1 g8 (by decide) b9)) rfl ?_
      refine Ru.kI (q := (.iconst 0, 1)) (c := 0) (by decide +kernel) rfl (by decide) ?_
      cases h
      exact Ru.iret (by decide +kernel) rfl (nar_b1 (by decide))
    · replace h := if_f b9 h
      refine Ru.br (k := .eq) (off := 7) (bb := false) (tg := 49) (by decide +kernel) (by decide +kernel) (cz (ci_eq0 g8 (by decide) b9)) rfl ?_
      refine Ru.kI (q := (.iconst 1, 1)) (c := 1) (by decide +kernel) rfl (by decide) ?_
      refine Ru.op (q := (.goto 4, 3)) (by decide +kernel) rfl ?_
      cases h
      exact Ru.iret (by decide +kernel) rfl (nar_b1 (by decide))
  · replace h := if_f b5 h
    refine Ru.br2 (k := .ne) (off := 31) (bb := true) (tg := 53) (by decide +kernel) (by decide +kernel) (ci_ne1 g4 (by decide) b5) rfl ?_
    refine Ru.kI (q := (.iconst 0, 1)) (c := 0) (by decide +kernel) rfl (by decide) ?_
    cases h
    exact Ru.iret (by decide +kernel) rfl (nar_b1 (by decide))
def g51_15L15 (S : St) (v1 : Int) : Nat → Int → Option (Sum (Unit) (Int))
  | 0, _ => none
  | n + 1, v2 => gd (inR v2) (gd (inR v1) (if v2 < v1 then gd (ixR v1 5) (gd (ixR v2 5) (gd (ixR (v1 + 1) 5) (ob (g52_15 S (S.A 18 v1) (S.A 18 v2) (S.A 18 (v1 + 1))) (fun o19 => gd (inR o19) (if o19 = 0 then g51_15L15 S v1 n (v2 + 1) else some (.inr 1)))))) else some (.inl ())))
set_option maxRecDepth 100000 in
set_option maxHeartbeats 4000000 in
theorem g51_15L15_ok {S : St} {v1 : Int} : ∀ (n : Nat) (v2 : Int) (out : Sum (Unit) (Int)), g51_15L15 S v1 n v2 = some out → ∀ r, (∀ o, out = .inl o → ∀ (e2 : Option Value), Ru none 12 247 51 (64, [some (.ref 15), some (vI v1), e2], [], S.ns, Hp S) r) → (∀ o, out = .inr o → r = ((0, some (vI o)), S.ns, Hp S)) → Ru none 12 247 51 (15, [some (.ref 15), some (vI v1), some (vI v2)], [], S.ns, Hp S) r := by
  intro n
  induction n with
  | zero => intro v2 out h; cases h
  | succ n ih =>
    intro v2 out h r hk hr
    unfold g51_15L15 at h
    refine Ru.op (q := (.iload_n 2, 1)) (by decide +kernel) rfl ?_
    refine Ru.op (q := (.iload_n 1, 1)) (by decide +kernel) rfl ?_
    obtain ⟨g13, h⟩ := gd_some h
    obtain ⟨g14, h⟩ := gd_some h
    by_cases b15 : v2 < v1
    · replace h := if_t b15 h
      refine Ru.br2 (k := .ge) (off := 47) (bb := false) (tg := 20) (by decide +kernel) (by decide +kernel) (ci_ge0 g13 g14 b15) rfl ?_
      refine Ru.op (q := (.aload_n 0, 1)) (by decide +kernel) rfl ?_
      refine Ru.op (q := (.aload_n 0, 1)) (by decide +kernel) rfl ?_
      refine Ru.get (i := 14) (v := .ref 16) (by decide +kernel) (by rfl) (hp15 _) (by decide) rfl ?_
      refine Ru.get (i := 31) (v := .ref 18) (by decide +kernel) (by rfl) (hp16 _) (by decide) rfl ?_
      refine Ru.op (q := (.iload_n 1, 1)) (by decide +kernel) rfl ?_
      obtain ⟨g16, h⟩ := gd_some h
      refine Ru.ildI (i := v1) (z := (S.A 18 v1)) (by decide +kernel) (hp18 _) g16 (eI_of _) ?_
      refine Ru.op (q := (.aload_n 0, 1)) (by decide +kernel) rfl ?_
      refine Ru.get (i := 14) (v := .ref 16) (by decide +kernel) (by rfl) (hp15 _) (by decide) rfl ?_
      refine Ru.get (i := 31) (v := .ref 18) (by decide +kernel) (by rfl) (hp16 _) (by decide) rfl ?_
      refine Ru.op (q := (.iload_n 2, 1)) (by decide +kernel) rfl ?_
      obtain ⟨g17, h⟩ := gd_some h
      refine Ru.ildI (i := v2) (z := (S.A 18 v2)) (by decide +kernel) (hp18 _) g17 (eI_of _) ?_
      refine Ru.op (q := (.aload_n 0, 1)) (by decide +kernel) rfl ?_
      refine Ru.get (i := 14) (v := .ref 16) (by decide +kernel) (by rfl) (hp15 _) (by decide) rfl ?_
      refine Ru.get (i := 31) (v := .ref 18) (by decide +kernel) (by rfl) (hp16 _) (by decide) rfl ?_
      refine Ru.op (q := (.iload_n 1, 1)) (by decide +kernel) rfl ?_
      refine Ru.kI (q := (.iconst 1, 1)) (c := 1) (by decide +kernel) rfl (by decide) ?_
      refine Ru.ar2 (i := .iadd) (z := (v1 + 1)) (by decide +kernel) rfl (ar_add _ _) ?_
      obtain ⟨g18, h⟩ := gd_some h
      refine Ru.ildI (i := (v1 + 1)) (z := (S.A 18 (v1 + 1))) (by decide +kernel) (hp18 _) g18 (eI_of _) ?_
      obtain ⟨o19, e20, h⟩ := ob_some h
      refine Ru.vcall (i := 60) (j2 := 52) (as := [vI (S.A 18 v1), vI (S.A 18 v2), vI (S.A 18 (v1 + 1))]) (by decide +kernel) (by rfl) rfl rfl (hp15 _) (by decide) ⟨(Nat.le_of_ble_eq_true rfl), (by show 19 + 4 ≤ 247; exact Nat.le_of_ble_eq_true rfl), Nat.le_of_ble_eq_true rfl, Nat.le_of_ble_eq_true rfl⟩ ((g52_15_ok e20).up (Nat.le_of_ble_eq_true rfl) (Nat.le_of_ble_eq_true rfl)) ?_
      obtain ⟨g21, h⟩ := gd_some h
      by_cases b22 : o19 = 0
      · replace h := if_t b22 h
        refine Ru.br (k := .eq) (off := 5) (bb := true) (tg := 58) (by decide +kernel) (by decide +kernel) (cz (ci_eq1 g21 (by decide) b22)) rfl ?_
        refine Ru.inc (x := v2) (z := (v2 + 1)) (xs' := [some (.ref 15), some (vI v1), some (vI (v2 + 1))]) (by decide +kernel) rfl rfl rfl ?_
        refine Ru.op (q := (.goto (-46), 3)) (by decide +kernel) rfl ?_
        exact ih _ _ h r hk hr
      · replace h := if_f b22 h
        refine Ru.br (k := .eq) (off := 5) (bb := false) (tg := 56) (by decide +kernel) (by decide +kernel) (cz (ci_eq0 g21 (by decide) b22)) rfl ?_
        refine Ru.kI (q := (.iconst 1, 1)) (c := 1) (by decide +kernel) rfl (by decide) ?_
        cases h
        have h9 := hr _ rfl
        subst h9
        exact Ru.iret (by decide +kernel) rfl (nar_b1 (by decide))
    · replace h := if_f b15 h
      refine Ru.br2 (k := .ge) (off := 47) (bb := true) (tg := 64) (by decide +kernel) (by decide +kernel) (ci_ge1 g13 g14 b15) rfl ?_
      cases h
      exact hk _ rfl _
def g51_15L2 (S : St) : Nat → Int → Option (Sum (Unit) (Int))
  | 0, _ => none
  | n + 1, v1 => gd (inR v1) (if v1 < (S.F 16 2) then obs (g51_15L15 S v1 FU 0) (fun o28 => g51_15L2 S n (v1 + 1)) else some (.inl ()))
set_option maxRecDepth 100000 in
set_option maxHeartbeats 4000000 in
theorem g51_15L2_ok {S : St} : ∀ (n : Nat) (v1 : Int) (d2 : Option Value) (out : Sum (Unit) (Int)), g51_15L2 S n v1 = some out → ∀ r, (∀ o, out = .inl o → ∀ (e0 e1 e2 : Option Value), Ru none 12 247 51 (70, [e0, e1, e2], [], S.ns, Hp S) r) → (∀ o, out = .inr o → r = ((0, some (vI o)), S.ns, Hp S)) → Ru none 12 247 51 (2, [some (.ref 15), some (vI v1), d2], [], S.ns, Hp S) r := by
  intro n
  induction n with
  | zero => intro v1 d2 out h; cases h
  | succ n ih =>
    intro v1 d2 out h r hk hr
    unfold g51_15L2 at h
    refine Ru.op (q := (.iload_n 1, 1)) (by decide +kernel) rfl ?_
    refine Ru.op (q := (.aload_n 0, 1)) (by decide +kernel) rfl ?_
    refine Ru.get (i := 14) (v := .ref 16) (by decide +kernel) (by rfl) (hp15 _) (by decide) rfl ?_
    refine Ru.getI (i := 24) (x := (S.F 16 2)) (by decide +kernel) (by rfl) (hp16 _) (by decide) rfl (eI_of _) ?_
    obtain ⟨g26, h⟩ := gd_some h
    by_cases b27 : v1 < (S.F 16 2)
    · replace h := if_t b27 h
      refine Ru.br2 (k := .ge) (off := 60) (bb := false) (tg := 13) (by decide +kernel) (by decide +kernel) (ci_ge0 g26 (inR_to _) b27) rfl ?_
      refine Ru.kI (q := (.iconst 0, 1)) (c := 0) (by decide +kernel) rfl (by decide) ?_
      refine Ru.op (q := (.istore_n 2, 1)) (S' := (15, [some (.ref 15), some (vI v1), some (vI 0)], [], _, _)) (by decide +kernel) rfl ?_
      rcases obs_some h with ⟨o28, e30, h⟩ | ⟨o9, e30, h9⟩
      · refine g51_15L15_ok FU _ _ e30 _ (fun o' e' => ?_) (fun o' e' => by cases e')
        cases e'
        intro d29
        refine Ru.inc (x := v1) (z := (v1 + 1)) (xs' := [some (.ref 15), some (vI (v1 + 1)), d29]) (by decide +kernel) rfl rfl rfl ?_
        refine Ru.op (q := (.goto (-65), 3)) (by decide +kernel) rfl ?_
        exact ih _ _ _ h r hk hr
      · exact g51_15L15_ok FU _ _ e30 _ (fun o' e' => by cases e') (fun o' e' => by cases e'; exact hr _ h9)
    · replace h := if_f b27 h
      refine Ru.br2 (k := .ge) (off := 60) (bb := true) (tg := 70) (by decide +kernel) (by decide +kernel) (ci_ge1 g26 (inR_to _) b27) rfl ?_
      cases h
      exact hk _ rfl _ _ _
def g51_15 (S : St) : Option (Int) := obr (g51_15L2 S FU 1) (fun o31 => some 0)
set_option maxRecDepth 100000 in
set_option maxHeartbeats 4000000 in
theorem g51_15_ok {S : St} {o : Int} (h : g51_15 S  = some o) : Ru none 12 247 51 (0, mn_pad (mn_ent [.ref 15]) 3, [], S.ns, Hp S) ((0, some (vI o)), S.ns, Hp S) := by
  unfold g51_15 at h
  show Ru none 12 247 51 (0, [some (.ref 15), none, none], [], S.ns, Hp S) _
  refine Ru.kI (q := (.iconst 1, 1)) (c := 1) (by decide +kernel) rfl (by decide) ?_
  refine Ru.op (q := (.istore_n 1, 1)) (S' := (2, [some (.ref 15), some (vI 1), none], [], _, _)) (by decide +kernel) rfl ?_
  rcases obr_some h with ⟨o31, e35, h⟩ | e35
  · refine g51_15L2_ok FU _ _ _ e35 _ (fun o' e' => ?_) (fun o' e' => by cases e')
    cases e'
    intro d32 d33 d34
    refine Ru.kI (q := (.iconst 0, 1)) (c := 0) (by decide +kernel) rfl (by decide) ?_
    cases h
    exact Ru.iret (by decide +kernel) rfl (nar_b1 (by decide))
  · exact g51_15L2_ok FU _ _ _ e35 _ (fun o' e' => by cases e') (fun o' e' => by cases e'; rfl)
def g55L2 (v1 : Int) (v2 : Nat) : Nat → Int → St → Option (St)
  | 0, _, _ => none
  | n + 1, v3, S => gC S v2 (fun c1 c2 n3 n4 => gd (inR v3) (if v3 < n4 then if v3 < 64 then gd (ixR v3 64) (gd (inR v1) (if (S.A 25 v3) < v1 then g55L2 v1 v2 n (v3 + 1) S else g55L2 v1 v2 n (v3 + 1) (S.a 24 v3 (-1)))) else some S else some S))
set_option maxRecDepth 100000 in
set_option maxHeartbeats 4000000 in
theorem g55L2_ok {v1 : Int} {v2 : Nat} : ∀ (n : Nat) (v3 : Int) (S : St) (out : St), g55L2 v1 v2 n v3 S = some out → ∀ r, (∀ (e0 e1 e2 e3 : Option Value), Ru none 10 200 55 (39, [e0, e1, e2, e3], [], out.ns, Hp out) r) → Ru none 10 200 55 (2, [some (.ref 23), some (vI v1), some (.ref v2), some (vI v3)], [], S.ns, Hp S) r := by
  intro n
  induction n with
  | zero => intro v3 S out h; cases h
  | succ n ih =>
    intro v3 S out h r hk
    unfold g55L2 at h
    refine Ru.op (q := (.iload_n 3, 1)) (by decide +kernel) rfl ?_
    refine Ru.op (q := (.aload_n 2, 1)) (by decide +kernel) rfl ?_
    obtain ⟨c1, c2, n3, n4, e5, q6, h⟩ := gC_some h
    refine Ru.get (i := 50) (v := vI n4) (by decide +kernel) (by rfl) q6 (by decide) rfl ?_
    obtain ⟨g7, h⟩ := gd_some h
    by_cases b8 : v3 < n4
    · replace h := if_t b8 h
      refine Ru.br2 (k := .ge) (off := 32) (bb := false) (tg := 10) (by decide +kernel) (by decide +kernel) (ci_ge0 g7 e5.2 b8) rfl ?_
      refine Ru.op (q := (.iload_n 3, 1)) (by decide +kernel) rfl ?_
      refine Ru.kI (q := (.bipush 64, 2)) (c := 64) (by decide +kernel) rfl (by decide) ?_
      by_cases b9 : v3 < 64
      · replace h := if_t b9 h
        refine Ru.br2 (k := .ge) (off := 26) (bb := false) (tg := 16) (by decide +kernel) (by decide +kernel) (ci_ge0 g7 (by decide) b9) rfl ?_
        refine Ru.op (q := (.aload_n 0, 1)) (by decide +kernel) rfl ?_
        refine Ru.get (i := 15) (v := .ref 25) (by decide +kernel) (by rfl) (hp23 _) (by decide) rfl ?_
        refine Ru.op (q := (.iload_n 3, 1)) (by decide +kernel) rfl ?_
        obtain ⟨g10, h⟩ := gd_some h
        refine Ru.ildI (i := v3) (z := (S.A 25 v3)) (by decide +kernel) (hp25 _) g10 (eI_of _) ?_
        refine Ru.op (q := (.iload_n 1, 1)) (by decide +kernel) rfl ?_
        obtain ⟨g11, h⟩ := gd_some h
        by_cases b12 : (S.A 25 v3) < v1
        · replace h := if_t b12 h
          refine Ru.br2 (k := .lt) (off := 10) (bb := true) (tg := 33) (by decide +kernel) (by decide +kernel) (ci_lt1 (inR_to _) g11 b12) rfl ?_
          refine Ru.inc (x := v3) (z := (v3 + 1)) (xs' := [some (.ref 23), some (vI v1), some (.ref v2), some (vI (v3 + 1))]) (by decide +kernel) rfl rfl rfl ?_
          refine Ru.op (q := (.goto (-34), 3)) (by decide +kernel) rfl ?_
          exact ih _ _ _ h r hk
        · replace h := if_f b12 h
          refine Ru.br2 (k := .lt) (off := 10) (bb := false) (tg := 26) (by decide +kernel) (by decide +kernel) (ci_lt0 (inR_to _) g11 b12) rfl ?_
          refine Ru.op (q := (.aload_n 0, 1)) (by decide +kernel) rfl ?_
          refine Ru.get (i := 11) (v := .ref 24) (by decide +kernel) (by rfl) (hp23 _) (by decide) rfl ?_
          refine Ru.op (q := (.iload_n 3, 1)) (by decide +kernel) rfl ?_
          refine Ru.kI (q := (.iconst (-1), 1)) (c := (-1)) (by decide +kernel) rfl (by decide) ?_
          refine Ru.istI (i := v3) (x := (-1)) (by decide +kernel) (hp24 _) g10 (ps_24 _ _ _) ?_
          refine Ru.inc (x := v3) (z := (v3 + 1)) (xs' := [some (.ref 23), some (vI v1), some (.ref v2), some (vI (v3 + 1))]) (by decide +kernel) rfl rfl rfl ?_
          refine Ru.op (q := (.goto (-34), 3)) (by decide +kernel) rfl ?_
          exact ih _ _ _ h r hk
      · replace h := if_f b9 h
        refine Ru.br2 (k := .ge) (off := 26) (bb := true) (tg := 39) (by decide +kernel) (by decide +kernel) (ci_ge1 g7 (by decide) b9) rfl ?_
        cases h
        exact hk _ _ _ _
    · replace h := if_f b8 h
      refine Ru.br2 (k := .ge) (off := 32) (bb := true) (tg := 39) (by decide +kernel) (by decide +kernel) (ci_ge1 g7 e5.2 b8) rfl ?_
      cases h
      exact hk _ _ _ _
def g55 (S : St) (v1 : Int) (v2 : Nat) : Option (St) := ob (g55L2 v1 v2 FU 0 S) (fun o13 => some o13)
set_option maxRecDepth 100000 in
set_option maxHeartbeats 4000000 in
theorem g55_ok {S : St} {v1 : Int} {v2 : Nat} {o : St} (h : g55 S v1 v2 = some o) : Ru none 10 200 55 (0, mn_pad (mn_ent [.ref 23, vI v1, .ref v2]) 4, [], S.ns, Hp S) ((0, none), o.ns, Hp o) := by
  unfold g55 at h
  show Ru none 10 200 55 (0, [some (.ref 23), some (vI v1), some (.ref v2), none], [], S.ns, Hp S) _
  refine Ru.kI (q := (.iconst 0, 1)) (c := 0) (by decide +kernel) rfl (by decide) ?_
  refine Ru.op (q := (.istore_n 3, 1)) (S' := (2, [some (.ref 23), some (vI v1), some (.ref v2), some (vI 0)], [], _, _)) (by decide +kernel) rfl ?_
  obtain ⟨o13, e18, h⟩ := ob_some h
  refine g55L2_ok FU _ _ _ e18 _ ?_
  intro d14 d15 d16 d17
  cases h
  exact Ru.end (q := (.return_, 1)) (by decide +kernel) rfl rfl
def g57L5 (S : St) (v0 : Nat) (v2 : Int) : Nat → Int → Int → Option (Int)
  | 0, _, _ => none
  | n + 1, v3, v4 => gd (inR v4) (gd (inR v2) (if v4 < v2 then gd (inR v3) (if 0 < v3 then gA S v0 (fun N6 f7 => gd (ixR v4 N6) (g57L5 S v0 v2 n (v3 + (((f7 v4) % 256) - 1)) (v4 + 1))) else some v4) else some v4))
set_option maxRecDepth 100000 in
set_option maxHeartbeats 4000000 in
theorem g57L5_ok {S : St} {v0 : Nat} {v2 : Int} : ∀ (n : Nat) (v3 : Int) (v4 : Int) (d1 : Option Value) (out : Int), g57L5 S v0 v2 n v3 v4 = some out → ∀ r, (∀ (e0 e1 e2 e3 : Option Value), Ru none 10 200 57 (34, [e0, e1, e2, e3, some (vI out)], [], S.ns, Hp S) r) → Ru none 10 200 57 (5, [some (.ref v0), d1, some (vI v2), some (vI v3), some (vI v4)], [], S.ns, Hp S) r := by
  intro n
  induction n with
  | zero => intro v3 v4 d1 out h; cases h
  | succ n ih =>
    intro v3 v4 d1 out h r hk
    unfold g57L5 at h
    refine Ru.op (q := (.iload 4, 2)) (by decide +kernel) rfl ?_
    refine Ru.op (q := (.iload_n 2, 1)) (by decide +kernel) rfl ?_
    obtain ⟨g1, h⟩ := gd_some h
    obtain ⟨g2, h⟩ := gd_some h
    by_cases b3 : v4 < v2
    · replace h := if_t b3 h
      refine Ru.br2 (k := .ge) (off := 26) (bb := false) (tg := 11) (by decide +kernel) (by decide +kernel) (ci_ge0 g1 g2 b3) rfl ?_
      refine Ru.op (q := (.iload_n 3, 1)) (by decide +kernel) rfl ?_
      obtain ⟨g4, h⟩ := gd_some h
      by_cases b5 : 0 < v3
      · replace h := if_t b5 h
        refine Ru.br (k := .le) (off := 22) (bb := false) (tg := 15) (by decide +kernel) (by decide +kernel) (cz (ci_le0 g4 (by decide) b5)) rfl ?_
        refine Ru.op (q := (.iload_n 3, 1)) (by decide +kernel) rfl ?_
        refine Ru.op (q := (.aload_n 0, 1)) (by decide +kernel) rfl ?_
        refine Ru.op (q := (.iload 4, 2)) (by decide +kernel) rfl ?_
        obtain ⟨N6, f7, e8, q9, h⟩ := gA_some h
        obtain ⟨g10, h⟩ := gd_some h
        refine Ru.ildI (i := v4) (z := (f7 v4)) (by decide +kernel) q9 g10 rfl ?_
        refine Ru.kI (q := (.sipush 255, 3)) (c := 255) (by decide +kernel) rfl (by decide) ?_
        refine Ru.ar2 (i := .iand) (z := ((f7 v4) % 256)) (by decide +kernel) rfl (ar_and _) ?_
        refine Ru.kI (q := (.iconst 1, 1)) (c := 1) (by decide +kernel) rfl (by decide) ?_
        refine Ru.ar2 (i := .isub) (z := (((f7 v4) % 256) - 1)) (by decide +kernel) rfl (ar_sub _ _) ?_
        refine Ru.ar2 (i := .iadd) (z := (v3 + (((f7 v4) % 256) - 1))) (by decide +kernel) rfl (ar_add _ _) ?_
        refine Ru.op (q := (.istore_n 3, 1)) (S' := (28, [some (.ref v0), d1, some (vI v2), some (vI (v3 + (((f7 v4) % 256) - 1))), some (vI v4)], [], _, _)) (by decide +kernel) rfl ?_
        refine Ru.inc (x := v4) (z := (v4 + 1)) (xs' := [some (.ref v0), d1, some (vI v2), some (vI (v3 + (((f7 v4) % 256) - 1))), some (vI (v4 + 1))]) (by decide +kernel) rfl rfl rfl ?_
        refine Ru.op (q := (.goto (-26), 3)) (by decide +kernel) rfl ?_
        exact ih _ _ _ _ h r hk
      · replace h := if_f b5 h
        refine Ru.br (k := .le) (off := 22) (bb := true) (tg := 34) (by decide +kernel) (by decide +kernel) (cz (ci_le1 g4 (by decide) b5)) rfl ?_
        cases h
        exact hk _ _ _ _
    · replace h := if_f b3 h
      refine Ru.br2 (k := .ge) (off := 26) (bb := true) (tg := 34) (by decide +kernel) (by decide +kernel) (ci_ge1 g1 g2 b3) rfl ?_
      cases h
      exact hk _ _ _ _
def g57 (S : St) (v0 : Nat) (v1 : Int) (v2 : Int) : Option (Int) := ob (g57L5 S v0 v2 FU 1 v1) (fun o11 => some o11)
set_option maxRecDepth 100000 in
set_option maxHeartbeats 4000000 in
theorem g57_ok {S : St} {v0 : Nat} {v1 : Int} {v2 : Int} {o : Int} (h : g57 S v0 v1 v2 = some o) : Ru none 10 200 57 (0, mn_pad (mn_ent [.ref v0, vI v1, vI v2]) 5, [], S.ns, Hp S) ((0, some (vI o)), S.ns, Hp S) := by
  unfold g57 at h
  show Ru none 10 200 57 (0, [some (.ref v0), some (vI v1), some (vI v2), none, none], [], S.ns, Hp S) _
  refine Ru.kI (q := (.iconst 1, 1)) (c := 1) (by decide +kernel) rfl (by decide) ?_
  refine Ru.op (q := (.istore_n 3, 1)) (S' := (2, [some (.ref v0), some (vI v1), some (vI v2), some (vI 1), none], [], _, _)) (by decide +kernel) rfl ?_
  refine Ru.op (q := (.iload_n 1, 1)) (by decide +kernel) rfl ?_
  refine Ru.op (q := (.istore 4, 2)) (S' := (5, [some (.ref v0), some (vI v1), some (vI v2), some (vI 1), some (vI v1)], [], _, _)) (by decide +kernel) rfl ?_
  obtain ⟨o11, e16, h⟩ := ob_some h
  refine g57L5_ok FU _ _ _ _ e16 _ ?_
  intro d12 d13 d14 d15
  refine Ru.op (q := (.iload 4, 2)) (by decide +kernel) rfl ?_
  cases h
  exact Ru.iret (by decide +kernel) rfl rfl
