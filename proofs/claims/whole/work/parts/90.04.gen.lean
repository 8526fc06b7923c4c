def g56L28 (v1 : Nat) (v2 : Int) (v3 : Nat) (v6 : Int) : Nat → Int → Int → St → Option (Sum (St) (Int × St))
  | 0, _, _, _ => none
  | n + 1, v5, v7, S => gC S v1 (fun c72 c73 n74 n75 => gA S c73 (fun N78 f79 => gd (ixR (v2 + 1) N78) (gd (inR v7) (if v7 < (f79 (v2 + 1)) then gA S c72 (fun N85 f86 => gd (ixR v7 N85) (gd (inR v5) (gd (inR v6) (if v5 < v6 then if (f86 v7) < 32768 then gC S v3 (fun c94 c95 n96 n97 => ob (g57 S c94 v5 v6) (fun o100 => gd (ixR ((f86 v7) / 256) 64) (if (S.A 24 ((f86 v7) / 256)) = (-1) then g56L28 v1 v2 v3 v6 n o100 (v7 + 1) ((S.a 24 ((f86 v7) / 256) v5).a 25 ((f86 v7) / 256) v2) else ob (g47 S c94 (S.A 24 ((f86 v7) / 256)) v5 (o100 - v5)) (fun o104 => gd (inR o104) (if o104 = 0 then some (.inr (0, S)) else g56L28 v1 v2 v3 v6 n o100 (v7 + 1) S))))) else gC S v3 (fun c108 c109 n110 n111 => gA S c108 (fun N114 f115 => gd (ixR v5 N114) (if (f86 v7) = (f115 v5) then g56L28 v1 v2 v3 v6 n (v5 + 1) (v7 + 1) S else some (.inr (0, S))))) else some (.inr (0, S)))))) else some (.inl S)))))
set_option maxRecDepth 100000 in
set_option maxHeartbeats 4000000 in
theorem g56L28_ok {v1 : Nat} {v2 : Int} {v3 : Nat} {v6 : Int} : ∀ (n : Nat) (v5 : Int) (v7 : Int) (S : St) (d4 d8 d9 d10 : Option Value) (out : Sum (St) (Int × St)), g56L28 v1 v2 v3 v6 n v5 v7 S = some out → ∀ r, (∀ o, out = .inl o → ∀ (e0 e1 e2 e3 e4 e5 e6 e7 e8 e9 e10 : Option Value), Ru none 11 224 56 (173, [e0, e1, e2, e3, e4, e5, e6, e7, e8, e9, e10], [], o.ns, Hp o) r) → (∀ o, out = .inr o → r = ((0, some (vI o.1)), o.2.ns, Hp o.2)) → Ru none 11 224 56 (28, [some (.ref 23), some (.ref v1), some (vI v2), some (.ref v3), d4, some (vI v5), some (vI v6), some (vI v7), d8, d9, d10], [], S.ns, Hp S) r := by
  intro n
  induction n with
  | zero => intro v5 v7 S d4 d8 d9 d10 out h; cases h
  | succ n ih =>
    intro v5 v7 S d4 d8 d9 d10 out h r hk hr
    unfold g56L28 at h
    refine Ru.op (q := (.iload 7, 2)) (by decide +kernel) rfl ?_
    refine Ru.op (q := (.aload_n 1, 1)) (by decide +kernel) rfl ?_
    obtain ⟨c72, c73, n74, n75, e76, q77, h⟩ := gC_some h
    refine Ru.get (i := 35) (v := .ref c73) (by decide +kernel) (by rfl) q77 (by decide) rfl ?_
    refine Ru.op (q := (.iload_n 2, 1)) (by decide +kernel) rfl ?_
    refine Ru.kI (q := (.iconst 1, 1)) (c := 1) (by decide +kernel) rfl (by decide) ?_
    refine Ru.ar2 (i := .iadd) (z := (v2 + 1)) (by decide +kernel) rfl (ar_add _ _) ?_
    obtain ⟨N78, f79, e80, q81, h⟩ := gA_some h
    obtain ⟨g82, h⟩ := gd_some h
    refine Ru.ildI (i := (v2 + 1)) (z := (f79 (v2 + 1))) (by decide +kernel) q81 g82 rfl ?_
    obtain ⟨g83, h⟩ := gd_some h
    by_cases b84 : v7 < (f79 (v2 + 1))
    · replace h := if_t b84 h
      refine Ru.br2 (k := .ge) (off := 135) (bb := false) (tg := 41) (by decide +kernel) (by decide +kernel) (ci_ge0 g83 (e80 _) b84) rfl ?_
      refine Ru.op (q := (.aload_n 1, 1)) (by decide +kernel) rfl ?_
      refine Ru.get (i := 38) (v := .ref c72) (by decide +kernel) (by rfl) q77 (by decide) rfl ?_
      refine Ru.op (q := (.iload 7, 2)) (by decide +kernel) rfl ?_
      obtain ⟨N85, f86, e87, q88, h⟩ := gA_some h
      obtain ⟨g89, h⟩ := gd_some h
      refine Ru.ildI (i := v7) (z := (f86 v7)) (by decide +kernel) q88 g89 rfl ?_
      refine Ru.op (q := (.istore 8, 2)) (S' := (50, [some (.ref 23), some (.ref v1), some (vI v2), some (.ref v3), d4, some (vI v5), some (vI v6), some (vI v7), some (vI (f86 v7)), d9, d10], [], _, _)) (by decide +kernel) rfl ?_
      refine Ru.op (q := (.iload 5, 2)) (by decide +kernel) rfl ?_
      refine Ru.op (q := (.iload 6, 2)) (by decide +kernel) rfl ?_
      obtain ⟨g90, h⟩ := gd_some h
      obtain ⟨g91, h⟩ := gd_some h
      by_cases b92 : v5 < v6
      · replace h := if_t b92 h
        refine Ru.br2 (k := .lt) (off := 5) (bb := true) (tg := 59) (by decide +kernel) (by decide +kernel) (ci_lt1 g90 g91 b92) rfl ?_
        refine Ru.op (q := (.iload 8, 2)) (by decide +kernel) rfl ?_
        refine Ru.kI (q := (.ldc 41, 2)) (c := 32768) (by decide +kernel) rfl (by decide) ?_
        by_cases b93 : (f86 v7) < 32768
        · replace h := if_t b93 h
          refine Ru.br2 (k := .lt) (off := 23) (bb := true) (tg := 86) (by decide +kernel) (by decide +kernel) (ci_lt1 (e87 _) (by decide) b93) rfl ?_
          refine Ru.op (q := (.aload_n 3, 1)) (by decide +kernel) rfl ?_
          obtain ⟨c94, c95, n96, n97, e98, q99, h⟩ := gC_some h
          refine Ru.get (i := 38) (v := .ref c94) (by decide +kernel) (by rfl) q99 (by decide) rfl ?_
          refine Ru.op (q := (.iload 5, 2)) (by decide +kernel) rfl ?_
          refine Ru.op (q := (.iload 6, 2)) (by decide +kernel) rfl ?_
          obtain ⟨o100, e101, h⟩ := ob_some h
          refine Ru.call (q := (.invokestatic 42, 3)) (j2 := 57) (as := [.ref c94, vI v5, vI v6]) (by decide +kernel) rfl rfl rfl rfl ⟨(Nat.le_of_ble_eq_true rfl), (by show 19 + 5 ≤ 224; exact Nat.le_of_ble_eq_true rfl), Nat.le_of_ble_eq_true rfl, Nat.le_of_ble_eq_true rfl⟩ ((g57_ok e101).up (Nat.le_of_ble_eq_true rfl) (Nat.le_of_ble_eq_true rfl)) ?_
          refine Ru.op (q := (.istore 9, 2)) (S' := (99, [some (.ref 23), some (.ref v1), some (vI v2), some (.ref v3), d4, some (vI v5), some (vI v6), some (vI v7), some (vI (f86 v7)), some (vI o100), d10], [], _, _)) (by decide +kernel) rfl ?_
          refine Ru.op (q := (.iload 8, 2)) (by decide +kernel) rfl ?_
          refine Ru.kI (q := (.bipush 8, 2)) (c := 8) (by decide +kernel) rfl (by decide) ?_
          refine Ru.ar2 (i := .ishr) (z := ((f86 v7) / 256)) (by decide +kernel) rfl (ar_shr (e87 _)) ?_
          refine Ru.op (q := (.istore 10, 2)) (S' := (106, [some (.ref 23), some (.ref v1), some (vI v2), some (.ref v3), d4, some (vI v5), some (vI v6), some (vI v7), some (vI (f86 v7)), some (vI o100), some (vI ((f86 v7) / 256))], [], _, _)) (by decide +kernel) rfl ?_
          refine Ru.op (q := (.aload_n 0, 1)) (by decide +kernel) rfl ?_
          refine Ru.get (i := 11) (v := .ref 24) (by decide +kernel) (by rfl) (hp23 _) (by decide) rfl ?_
          refine Ru.op (q := (.iload 10, 2)) (by decide +kernel) rfl ?_
          obtain ⟨g102, h⟩ := gd_some h
          refine Ru.ildI (i := ((f86 v7) / 256)) (z := (S.A 24 ((f86 v7) / 256))) (by decide +kernel) (hp24 _) g102 (eI_of _) ?_
          refine Ru.kI (q := (.iconst (-1), 1)) (c := (-1)) (by decide +kernel) rfl (by decide) ?_
          by_cases b103 : (S.A 24 ((f86 v7) / 256)) = (-1)
          · replace h := if_t b103 h
            refine Ru.br2 (k := .ne) (off := 23) (bb := false) (tg := 117) (by decide +kernel) (by decide +kernel) (ci_ne0 (inR_to _) (by decide) b103) rfl ?_
            refine Ru.op (q := (.aload_n 0, 1)) (by decide +kernel) rfl ?_
            refine Ru.get (i := 11) (v := .ref 24) (by decide +kernel) (by rfl) (hp23 _) (by decide) rfl ?_
            refine Ru.op (q := (.iload 10, 2)) (by decide +kernel) rfl ?_
            refine Ru.op (q := (.iload 5, 2)) (by decide +kernel) rfl ?_
            refine Ru.istI (i := ((f86 v7) / 256)) (x := v5) (by decide +kernel) (hp24 _) g102 (ps_24 _ _ _) ?_
            refine Ru.op (q := (.aload_n 0, 1)) (by decide +kernel) rfl ?_
            refine Ru.get (i := 15) (v := .ref 25) (by decide +kernel) (by rfl) (hp23 _) (by decide) rfl ?_
            refine Ru.op (q := (.iload 10, 2)) (by decide +kernel) rfl ?_
            refine Ru.op (q := (.iload_n 2, 1)) (by decide +kernel) rfl ?_
            refine Ru.istI (i := ((f86 v7) / 256)) (x := v2) (by decide +kernel) (hp25 _) g102 (ps_25 _ _ _) ?_
            refine Ru.op (q := (.goto 29, 3)) (by decide +kernel) rfl ?_
            refine Ru.op (q := (.iload 9, 2)) (by decide +kernel) rfl ?_
            refine Ru.op (q := (.istore 5, 2)) (S' := (167, [some (.ref 23), some (.ref v1), some (vI v2), some (.ref v3), d4, some (vI o100), some (vI v6), some (vI v7), some (vI (f86 v7)), some (vI o100), some (vI ((f86 v7) / 256))], [], _, _)) (by decide +kernel) rfl ?_
            refine Ru.inc (x := v7) (z := (v7 + 1)) (xs' := [some (.ref 23), some (.ref v1), some (vI v2), some (.ref v3), d4, some (vI o100), some (vI v6), some (vI (v7 + 1)), some (vI (f86 v7)), some (vI o100), some (vI ((f86 v7) / 256))]) (by decide +kernel) rfl rfl rfl ?_
            refine Ru.op (q := (.goto (-142), 3)) (by decide +kernel) rfl ?_
            exact ih _ _ _ _ _ _ _ _ h r hk hr
          · replace h := if_f b103 h
            refine Ru.br2 (k := .ne) (off := 23) (bb := true) (tg := 137) (by decide +kernel) (by decide +kernel) (ci_ne1 (inR_to _) (by decide) b103) rfl ?_
            refine Ru.op (q := (.aload_n 3, 1)) (by decide +kernel) rfl ?_
            refine Ru.get (i := 38) (v := .ref c94) (by decide +kernel) (by rfl) q99 (by decide) rfl ?_
            refine Ru.op (q := (.aload_n 0, 1)) (by decide +kernel) rfl ?_
            refine Ru.get (i := 11) (v := .ref 24) (by decide +kernel) (by rfl) (hp23 _) (by decide) rfl ?_
            refine Ru.op (q := (.iload 10, 2)) (by decide +kernel) rfl ?_
            refine Ru.ildI (i := ((f86 v7) / 256)) (z := (S.A 24 ((f86 v7) / 256))) (by decide +kernel) (hp24 _) g102 (eI_of _) ?_
            refine Ru.op (q := (.iload 5, 2)) (by decide +kernel) rfl ?_
            refine Ru.op (q := (.iload 9, 2)) (by decide +kernel) rfl ?_
            refine Ru.op (q := (.iload 5, 2)) (by decide +kernel) rfl ?_
            refine Ru.ar2 (i := .isub) (z := (o100 - v5)) (by decide +kernel) rfl (ar_sub _ _) ?_
            obtain ⟨o104, e105, h⟩ := ob_some h
            refine Ru.call (q := (.invokestatic 46, 3)) (j2 := 47) (as := [.ref c94, vI (S.A 24 ((f86 v7) / 256)), vI v5, vI (o100 - v5)]) (by decide +kernel) rfl rfl rfl rfl ⟨(Nat.le_of_ble_eq_true rfl), (by show 19 + 5 ≤ 224; exact Nat.le_of_ble_eq_true rfl), Nat.le_of_ble_eq_true rfl, Nat.le_of_ble_eq_true rfl⟩ ((g47_ok e105).up (Nat.le_of_ble_eq_true rfl) (Nat.le_of_ble_eq_true rfl)) ?_
            obtain ⟨g106, h⟩ := gd_some h
            by_cases b107 : o104 = 0
            · replace h := if_t b107 h
              refine Ru.br (k := .ne) (off := 5) (bb := false) (tg := 161) (by decide +kernel) (by decide +kernel) (cz (ci_ne0 g106 (by decide) b107)) rfl ?_
              refine Ru.kI (q := (.iconst 0, 1)) (c := 0) (by decide +kernel) rfl (by decide) ?_
              cases h
              have h9 := hr _ rfl
              subst h9
              exact Ru.iret (by decide +kernel) rfl (nar_b1 (by decide))
            · replace h := if_f b107 h
              refine Ru.br (k := .ne) (off := 5) (bb := true) (tg := 163) (by decide +kernel) (by decide +kernel) (cz (ci_ne1 g106 (by decide) b107)) rfl ?_
              refine Ru.op (q := (.iload 9, 2)) (by decide +kernel) rfl ?_
              refine Ru.op (q := (.istore 5, 2)) (S' := (167, [some (.ref 23), some (.ref v1), some (vI v2), some (.ref v3), d4, some (vI o100), some (vI v6), some (vI v7), some (vI (f86 v7)), some (vI o100), some (vI ((f86 v7) / 256))], [], _, _)) (by decide +kernel) rfl ?_
              refine Ru.inc (x := v7) (z := (v7 + 1)) (xs' := [some (.ref 23), some (.ref v1), some (vI v2), some (.ref v3), d4, some (vI o100), some (vI v6), some (vI (v7 + 1)), some (vI (f86 v7)), some (vI o100), some (vI ((f86 v7) / 256))]) (by decide +kernel) rfl rfl rfl ?_
              refine Ru.op (q := (.goto (-142), 3)) (by decide +kernel) rfl ?_
              exact ih _ _ _ _ _ _ _ _ h r hk hr
        · replace h := if_f b93 h
          refine Ru.br2 (k := .lt) (off := 23) (bb := false) (tg := 66) (by decide +kernel) (by decide +kernel) (ci_lt0 (e87 _) (by decide) b93) rfl ?_
          refine Ru.op (q := (.iload 8, 2)) (by decide +kernel) rfl ?_
          refine Ru.op (q := (.aload_n 3, 1)) (by decide +kernel) rfl ?_
          obtain ⟨c108, c109, n110, n111, e112, q113, h⟩ := gC_some h
          refine Ru.get (i := 38) (v := .ref c108) (by decide +kernel) (by rfl) q113 (by decide) rfl ?_
          refine Ru.op (q := (.iload 5, 2)) (by decide +kernel) rfl ?_
          obtain ⟨N114, f115, e116, q117, h⟩ := gA_some h
          obtain ⟨g118, h⟩ := gd_some h
          refine Ru.ildI (i := v5) (z := (f115 v5)) (by decide +kernel) q117 g118 rfl ?_
          by_cases b119 : (f86 v7) = (f115 v5)
          · replace h := if_t b119 h
            refine Ru.br2 (k := .eq) (off := 5) (bb := true) (tg := 80) (by decide +kernel) (by decide +kernel) (ci_eq1 (e87 _) (e116 _) b119) rfl ?_
            refine Ru.inc (x := v5) (z := (v5 + 1)) (xs' := [some (.ref 23), some (.ref v1), some (vI v2), some (.ref v3), d4, some (vI (v5 + 1)), some (vI v6), some (vI v7), some (vI (f86 v7)), d9, d10]) (by decide +kernel) rfl rfl rfl ?_
            refine Ru.op (q := (.goto 84, 3)) (by decide +kernel) rfl ?_
            refine Ru.inc (x := v7) (z := (v7 + 1)) (xs' := [some (.ref 23), some (.ref v1), some (vI v2), some (.ref v3), d4, some (vI (v5 + 1)), some (vI v6), some (vI (v7 + 1)), some (vI (f86 v7)), d9, d10]) (by decide +kernel) rfl rfl rfl ?_
            refine Ru.op (q := (.goto (-142), 3)) (by decide +kernel) rfl ?_
            exact ih _ _ _ _ _ _ _ _ h r hk hr
          · replace h := if_f b119 h
            refine Ru.br2 (k := .eq) (off := 5) (bb := false) (tg := 78) (by decide +kernel) (by decide +kernel) (ci_eq0 (e87 _) (e116 _) b119) rfl ?_
            refine Ru.kI (q := (.iconst 0, 1)) (c := 0) (by decide +kernel) rfl (by decide) ?_
            cases h
            have h9 := hr _ rfl
            subst h9
            exact Ru.iret (by decide +kernel) rfl (nar_b1 (by decide))
      · replace h := if_f b92 h
        refine Ru.br2 (k := .lt) (off := 5) (bb := false) (tg := 57) (by decide +kernel) (by decide +kernel) (ci_lt0 g90 g91 b92) rfl ?_
        refine Ru.kI (q := (.iconst 0, 1)) (c := 0) (by decide +kernel) rfl (by decide) ?_
        cases h
        have h9 := hr _ rfl
        subst h9
        exact Ru.iret (by decide +kernel) rfl (nar_b1 (by decide))
    · replace h := if_f b84 h
      refine Ru.br2 (k := .ge) (off := 135) (bb := true) (tg := 173) (by decide +kernel) (by decide +kernel) (ci_ge1 g83 (e80 _) b84) rfl ?_
      cases h
      exact hk _ rfl _ _ _ _ _ _ _ _ _ _ _
def g56 (S : St) (v1 : Nat) (v2 : Int) (v3 : Nat) (v4 : Int) : Option (Int × St) := gC S v3 (fun c1 c2 n3 n4 => gA S c2 (fun N7 f8 => gd (ixR v4 N7) (gd (ixR (v4 + 1) N7) (gC S v1 (fun c13 c14 n15 n16 => gA S c14 (fun N19 f20 => gd (ixR v2 N19) (obr (g56L28 v1 v2 v3 (f8 (v4 + 1)) FU (f8 v4) (f20 v2) S) (fun o120 => some (1, o120)))))))))
set_option maxRecDepth 100000 in
set_option maxHeartbeats 4000000 in
theorem g56_ok {S : St} {v1 : Nat} {v2 : Int} {v3 : Nat} {v4 : Int} {o : Int × St} (h : g56 S v1 v2 v3 v4 = some o) : Ru none 11 224 56 (0, mn_pad (mn_ent [.ref 23, .ref v1, vI v2, .ref v3, vI v4]) 11, [], S.ns, Hp S) ((0, some (vI o.1)), o.2.ns, Hp o.2) := by
  unfold g56 at h
  show Ru none 11 224 56 (0, [some (.ref 23), some (.ref v1), some (vI v2), some (.ref v3), some (vI v4), none, none, none, none, none, none], [], S.ns, Hp S) _
  refine Ru.op (q := (.aload_n 3, 1)) (by decide +kernel) rfl ?_
  obtain ⟨c1, c2, n3, n4, e5, q6, h⟩ := gC_some h
  refine Ru.get (i := 35) (v := .ref c2) (by decide +kernel) (by rfl) q6 (by decide) rfl ?_
  refine Ru.op (q := (.iload 4, 2)) (by decide +kernel) rfl ?_
  obtain ⟨N7, f8, e9, q10, h⟩ := gA_some h
  obtain ⟨g11, h⟩ := gd_some h
  refine Ru.ildI (i := v4) (z := (f8 v4)) (by decide +kernel) q10 g11 rfl ?_
  refine Ru.op (q := (.istore 5, 2)) (S' := (9, [some (.ref 23), some (.ref v1), some (vI v2), some (.ref v3), some (vI v4), some (vI (f8 v4)), none, none, none, none, none], [], _, _)) (by decide +kernel) rfl ?_
  refine Ru.op (q := (.aload_n 3, 1)) (by decide +kernel) rfl ?_
  refine Ru.get (i := 35) (v := .ref c2) (by decide +kernel) (by rfl) q6 (by decide) rfl ?_
  refine Ru.op (q := (.iload 4, 2)) (by decide +kernel) rfl ?_
  refine Ru.kI (q := (.iconst 1, 1)) (c := 1) (by decide +kernel) rfl (by decide) ?_
  refine Ru.ar2 (i := .iadd) (z := (v4 + 1)) (by decide +kernel) rfl (ar_add _ _) ?_
  obtain ⟨g12, h⟩ := gd_some h
  refine Ru.ildI (i := (v4 + 1)) (z := (f8 (v4 + 1))) (by decide +kernel) q10 g12 rfl ?_
  refine Ru.op (q := (.istore 6, 2)) (S' := (20, [some (.ref 23), some (.ref v1), some (vI v2), some (.ref v3), some (vI v4), some (vI (f8 v4)), some (vI (f8 (v4 + 1))), none, none, none, none], [], _, _)) (by decide +kernel) rfl ?_
  refine Ru.op (q := (.aload_n 1, 1)) (by decide +kernel) rfl ?_
  obtain ⟨c13, c14, n15, n16, e17, q18, h⟩ := gC_some h
  refine Ru.get (i := 35) (v := .ref c14) (by decide +kernel) (by rfl) q18 (by decide) rfl ?_
  refine Ru.op (q := (.iload_n 2, 1)) (by decide +kernel) rfl ?_
  obtain ⟨N19, f20, e21, q22, h⟩ := gA_some h
  obtain ⟨g23, h⟩ := gd_some h
  refine Ru.ildI (i := v2) (z := (f20 v2)) (by decide +kernel) q22 g23 rfl ?_
  refine Ru.op (q := (.istore 7, 2)) (S' := (28, [some (.ref 23), some (.ref v1), some (vI v2), some (.ref v3), some (vI v4), some (vI (f8 v4)), some (vI (f8 (v4 + 1))), some (vI (f20 v2)), none, none, none], [], _, _)) (by decide +kernel) rfl ?_
  rcases obr_some h with ⟨o120, e132, h⟩ | e132
  · refine g56L28_ok FU _ _ _ _ _ _ _ _ e132 _ (fun o' e' => ?_) (fun o' e' => by cases e')
    cases e'
    intro d121 d122 d123 d124 d125 d126 d127 d128 d129 d130 d131
    refine Ru.kI (q := (.iconst 1, 1)) (c := 1) (by decide +kernel) rfl (by decide) ?_
    cases h
    exact Ru.iret (by decide +kernel) rfl (nar_b1 (by decide))
  · exact g56L28_ok FU _ _ _ _ _ _ _ _ e132 _ (fun o' e' => by cases e') (fun o' e' => by cases e'; rfl)
def g54L31 (v1 : Nat) (v2 : Nat) : Nat → Int → Int → St → Option (Sum (St) (Int × St))
  | 0, _, _, _ => none
  | n + 1, v3, v4, S => gd (inR v4) (if v4 < 1000 then gd (inR v3) (if v3 < 0 then some (.inl S) else gC S v1 (fun c50 c51 n52 n53 => if v3 < n52 then gd (ixR v3 4) (gC (S.a 26 v3 ((S.A 26 v3) + 1)) v2 (fun c58 c59 n60 n61 => if ((S.a 26 v3 ((S.A 26 v3) + 1)).A 26 v3) < n60 then ob (g56 (S.a 26 v3 ((S.A 26 v3) + 1)) v1 v3 v2 ((S.a 26 v3 ((S.A 26 v3) + 1)).A 26 v3)) (fun o65 => gd (inR o65.1) (if o65.1 = 0 then ob (g55 o65.2 v3 v1) (fun o69 => g54L31 v1 v2 n v3 (v4 + 1) o69) else gd (inR (v3 + 1)) (if (v3 + 1) < 4 then gd (ixR (v3 + 1) 4) (g54L31 v1 v2 n (v3 + 1) (v4 + 1) (o65.2.a 26 (v3 + 1) (-1))) else g54L31 v1 v2 n (v3 + 1) (v4 + 1) o65.2))) else ob (g55 (S.a 26 v3 ((S.A 26 v3) + 1)) (v3 + (-1)) v1) (fun o74 => g54L31 v1 v2 n (v3 + (-1)) (v4 + 1) o74))) else some (.inr (1, S)))) else some (.inl S))
set_option maxRecDepth 100000 in
set_option maxHeartbeats 4000000 in
theorem g54L31_ok {v1 : Nat} {v2 : Nat} : ∀ (n : Nat) (v3 : Int) (v4 : Int) (S : St) (out : Sum (St) (Int × St)), g54L31 v1 v2 n v3 v4 S = some out → ∀ r, (∀ o, out = .inl o → ∀ (e0 e1 e2 e3 e4 : Option Value), Ru none 12 254 54 (134, [e0, e1, e2, e3, e4], [], o.ns, Hp o) r) → (∀ o, out = .inr o → r = ((0, some (vI o.1)), o.2.ns, Hp o.2)) → Ru none 12 254 54 (31, [some (.ref 23), some (.ref v1), some (.ref v2), some (vI v3), some (vI v4)], [], S.ns, Hp S) r := by
  intro n
  induction n with
  | zero => intro v3 v4 S out h; cases h
  | succ n ih =>
    intro v3 v4 S out h r hk hr
    unfold g54L31 at h
    refine Ru.op (q := (.iload 4, 2)) (by decide +kernel) rfl ?_
    refine Ru.kI (q := (.sipush 1000, 3)) (c := 1000) (by decide +kernel) rfl (by decide) ?_
    obtain ⟨g46, h⟩ := gd_some h
    by_cases b47 : v4 < 1000
    · replace h := if_t b47 h
      refine Ru.br2 (k := .ge) (off := 98) (bb := false) (tg := 39) (by decide +kernel) (by decide +kernel) (ci_ge0 g46 (by decide) b47) rfl ?_
      refine Ru.op (q := (.iload_n 3, 1)) (by decide +kernel) rfl ?_
      obtain ⟨g48, h⟩ := gd_some h
      by_cases b49 : v3 < 0
      · replace h := if_t b49 h
        refine Ru.br (k := .lt) (off := 94) (bb := true) (tg := 134) (by decide +kernel) (by decide +kernel) (cz (ci_lt1 g48 (by decide) b49)) rfl ?_
        cases h
        exact hk _ rfl _ _ _ _ _
      · replace h := if_f b49 h
        refine Ru.br (k := .lt) (off := 94) (bb := false) (tg := 43) (by decide +kernel) (by decide +kernel) (cz (ci_lt0 g48 (by decide) b49)) rfl ?_
        refine Ru.op (q := (.iload_n 3, 1)) (by decide +kernel) rfl ?_
        refine Ru.op (q := (.aload_n 1, 1)) (by decide +kernel) rfl ?_
        obtain ⟨c50, c51, n52, n53, e54, q55, h⟩ := gC_some h
        refine Ru.get (i := 21) (v := vI n52) (by decide +kernel) (by rfl) q55 (by decide) rfl ?_
        by_cases b56 : v3 < n52
        · replace h := if_t b56 h
          refine Ru.br2 (k := .lt) (off := 5) (bb := true) (tg := 53) (by decide +kernel) (by decide +kernel) (ci_lt1 g48 e54.1 b56) rfl ?_
          refine Ru.op (q := (.aload_n 0, 1)) (by decide +kernel) rfl ?_
          refine Ru.get (i := 18) (v := .ref 26) (by decide +kernel) (by rfl) (hp23 _) (by decide) rfl ?_
          refine Ru.op (q := (.iload_n 3, 1)) (by decide +kernel) rfl ?_
          refine Ru.op (q := (.dup2, 1)) (by decide +kernel) rfl ?_
          obtain ⟨g57, h⟩ := gd_some h
          refine Ru.ildI (i := v3) (z := (S.A 26 v3)) (by decide +kernel) (hp26 _) g57 (eI_of _) ?_
          refine Ru.kI (q := (.iconst 1, 1)) (c := 1) (by decide +kernel) rfl (by decide) ?_
          refine Ru.ar2 (i := .iadd) (z := ((S.A 26 v3) + 1)) (by decide +kernel) rfl (ar_add _ _) ?_
          refine Ru.istI (i := v3) (x := ((S.A 26 v3) + 1)) (by decide +kernel) (hp26 _) g57 (ps_26 _ _ _) ?_
          refine Ru.op (q := (.aload_n 0, 1)) (by decide +kernel) rfl ?_
          refine Ru.get (i := 18) (v := .ref 26) (by decide +kernel) (by rfl) (hp23 _) (by decide) rfl ?_
          refine Ru.op (q := (.iload_n 3, 1)) (by decide +kernel) rfl ?_
          refine Ru.ildI (i := v3) (z := ((S.a 26 v3 ((S.A 26 v3) + 1)).A 26 v3)) (by decide +kernel) (hp26 _) g57 (eI_of _) ?_
          refine Ru.op (q := (.aload_n 2, 1)) (by decide +kernel) rfl ?_
          obtain ⟨c58, c59, n60, n61, e62, q63, h⟩ := gC_some h
          refine Ru.get (i := 21) (v := vI n60) (by decide +kernel) (by rfl) q63 (by decide) rfl ?_
          by_cases b64 : ((S.a 26 v3 ((S.A 26 v3) + 1)).A 26 v3) < n60
          · replace h := if_t b64 h
            refine Ru.br2 (k := .lt) (off := 15) (bb := true) (tg := 88) (by decide +kernel) (by decide +kernel) (ci_lt1 (inR_to _) e62.1 b64) rfl ?_
            refine Ru.op (q := (.aload_n 0, 1)) (by decide +kernel) rfl ?_
            refine Ru.op (q := (.aload_n 1, 1)) (by decide +kernel) rfl ?_
            refine Ru.op (q := (.iload_n 3, 1)) (by decide +kernel) rfl ?_
            refine Ru.op (q := (.aload_n 2, 1)) (by decide +kernel) rfl ?_
            refine Ru.op (q := (.aload_n 0, 1)) (by decide +kernel) rfl ?_
            refine Ru.get (i := 18) (v := .ref 26) (by decide +kernel) (by rfl) (hp23 _) (by decide) rfl ?_
            refine Ru.op (q := (.iload_n 3, 1)) (by decide +kernel) rfl ?_
            refine Ru.ildI (i := v3) (z := ((S.a 26 v3 ((S.A 26 v3) + 1)).A 26 v3)) (by decide +kernel) (hp26 _) g57 (eI_of _) ?_
            obtain ⟨o65, e66, h⟩ := ob_some h
            refine Ru.vcall (i := 31) (j2 := 56) (as := [.ref v1, vI v3, .ref v2, vI ((S.a 26 v3 ((S.A 26 v3) + 1)).A 26 v3)]) (by decide +kernel) (by rfl) rfl rfl (hp23 _) (by decide) ⟨(Nat.le_of_ble_eq_true rfl), (by show 19 + 11 ≤ 254; exact Nat.le_of_ble_eq_true rfl), Nat.le_of_ble_eq_true rfl, Nat.le_of_ble_eq_true rfl⟩ ((g56_ok e66).up (Nat.le_of_ble_eq_true rfl) (Nat.le_of_ble_eq_true rfl)) ?_
            obtain ⟨g67, h⟩ := gd_some h
            by_cases b68 : o65.1 = 0
            · replace h := if_t b68 h
              refine Ru.br (k := .eq) (off := 21) (bb := true) (tg := 122) (by decide +kernel) (by decide +kernel) (cz (ci_eq1 g67 (by decide) b68)) rfl ?_
              refine Ru.op (q := (.aload_n 0, 1)) (by decide +kernel) rfl ?_
              refine Ru.op (q := (.iload_n 3, 1)) (by decide +kernel) rfl ?_
              refine Ru.op (q := (.aload_n 1, 1)) (by decide +kernel) rfl ?_
              obtain ⟨o69, e70, h⟩ := ob_some h
              refine Ru.vcall (i := 27) (j2 := 55) (as := [vI v3, .ref v1]) (by decide +kernel) (by rfl) rfl rfl (hp23 _) (by decide) ⟨(Nat.le_of_ble_eq_true rfl), (by show 19 + 4 ≤ 254; exact Nat.le_of_ble_eq_true rfl), Nat.le_of_ble_eq_true rfl, Nat.le_of_ble_eq_true rfl⟩ ((g55_ok e70).up (Nat.le_of_ble_eq_true rfl) (Nat.le_of_ble_eq_true rfl)) ?_
              refine Ru.inc (x := v4) (z := (v4 + 1)) (xs' := [some (.ref 23), some (.ref v1), some (.ref v2), some (vI v3), some (vI (v4 + 1))]) (by decide +kernel) rfl rfl rfl ?_
              refine Ru.op (q := (.goto (-100), 3)) (by decide +kernel) rfl ?_
              exact ih _ _ _ _ h r hk hr
            · replace h := if_f b68 h
              refine Ru.br (k := .eq) (off := 21) (bb := false) (tg := 104) (by decide +kernel) (by decide +kernel) (cz (ci_eq0 g67 (by decide) b68)) rfl ?_
              refine Ru.inc (x := v3) (z := (v3 + 1)) (xs' := [some (.ref 23), some (.ref v1), some (.ref v2), some (vI (v3 + 1)), some (vI v4)]) (by decide +kernel) rfl rfl rfl ?_
              refine Ru.op (q := (.iload_n 3, 1)) (by decide +kernel) rfl ?_
              refine Ru.kI (q := (.iconst 4, 1)) (c := 4) (by decide +kernel) rfl (by decide) ?_
              obtain ⟨g71, h⟩ := gd_some h
              by_cases b72 : (v3 + 1) < 4
              · replace h := if_t b72 h
                refine Ru.br2 (k := .ge) (off := 19) (bb := false) (tg := 112) (by decide +kernel) (by decide +kernel) (ci_ge0 g71 (by decide) b72) rfl ?_
                refine Ru.op (q := (.aload_n 0, 1)) (by decide +kernel) rfl ?_
                refine Ru.get (i := 18) (v := .ref 26) (by decide +kernel) (by rfl) (hp23 _) (by decide) rfl ?_
                refine Ru.op (q := (.iload_n 3, 1)) (by decide +kernel) rfl ?_
                refine Ru.kI (q := (.iconst (-1), 1)) (c := (-1)) (by decide +kernel) rfl (by decide) ?_
                obtain ⟨g73, h⟩ := gd_some h
                refine Ru.istI (i := (v3 + 1)) (x := (-1)) (by decide +kernel) (hp26 _) g73 (ps_26 _ _ _) ?_
                refine Ru.op (q := (.goto 9, 3)) (by decide +kernel) rfl ?_
                refine Ru.inc (x := v4) (z := (v4 + 1)) (xs' := [some (.ref 23), some (.ref v1), some (.ref v2), some (vI (v3 + 1)), some (vI (v4 + 1))]) (by decide +kernel) rfl rfl rfl ?_
                refine Ru.op (q := (.goto (-100), 3)) (by decide +kernel) rfl ?_
                exact ih _ _ _ _ h r hk hr
              · replace h := if_f b72 h
                refine Ru.br2 (k := .ge) (off := 19) (bb := true) (tg := 128) (by decide +kernel) (by decide +kernel) (ci_ge1 g71 (by decide) b72) rfl ?_
                refine Ru.inc (x := v4) (z := (v4 + 1)) (xs' := [some (.ref 23), some (.ref v1), some (.ref v2), some (vI (v3 + 1)), some (vI (v4 + 1))]) (by decide +kernel) rfl rfl rfl ?_
                refine Ru.op (q := (.goto (-100), 3)) (by decide +kernel) rfl ?_
                exact ih _ _ _ _ h r hk hr
          · replace h := if_f b64 h
            refine Ru.br2 (k := .lt) (off := 15) (bb := false) (tg := 76) (by decide +kernel) (by decide +kernel) (ci_lt0 (inR_to _) e62.1 b64) rfl ?_
            refine Ru.inc (x := v3) (z := (v3 + (-1))) (xs' := [some (.ref 23), some (.ref v1), some (.ref v2), some (vI (v3 + (-1))), some (vI v4)]) (by decide +kernel) rfl rfl rfl ?_
            refine Ru.op (q := (.aload_n 0, 1)) (by decide +kernel) rfl ?_
            refine Ru.op (q := (.iload_n 3, 1)) (by decide +kernel) rfl ?_
            refine Ru.op (q := (.aload_n 1, 1)) (by decide +kernel) rfl ?_
            obtain ⟨o74, e75, h⟩ := ob_some h
            refine Ru.vcall (i := 27) (j2 := 55) (as := [vI (v3 + (-1)), .ref v1]) (by decide +kernel) (by rfl) rfl rfl (hp23 _) (by decide) ⟨(Nat.le_of_ble_eq_true rfl), (by show 19 + 4 ≤ 254; exact Nat.le_of_ble_eq_true rfl), Nat.le_of_ble_eq_true rfl, Nat.le_of_ble_eq_true rfl⟩ ((g55_ok e75).up (Nat.le_of_ble_eq_true rfl) (Nat.le_of_ble_eq_true rfl)) ?_
            refine Ru.op (q := (.goto 43, 3)) (by decide +kernel) rfl ?_
            refine Ru.inc (x := v4) (z := (v4 + 1)) (xs' := [some (.ref 23), some (.ref v1), some (.ref v2), some (vI (v3 + (-1))), some (vI (v4 + 1))]) (by decide +kernel) rfl rfl rfl ?_
            refine Ru.op (q := (.goto (-100), 3)) (by decide +kernel) rfl ?_
            exact ih _ _ _ _ h r hk hr
        · replace h := if_f b56 h
          refine Ru.br2 (k := .lt) (off := 5) (bb := false) (tg := 51) (by decide +kernel) (by decide +kernel) (ci_lt0 g48 e54.1 b56) rfl ?_
          refine Ru.kI (q := (.iconst 1, 1)) (c := 1) (by decide +kernel) rfl (by decide) ?_
          cases h
          have h9 := hr _ rfl
          subst h9
          exact Ru.iret (by decide +kernel) rfl (nar_b1 (by decide))
    · replace h := if_f b47 h
      refine Ru.br2 (k := .ge) (off := 98) (bb := true) (tg := 134) (by decide +kernel) (by decide +kernel) (ci_ge1 g46 (by decide) b47) rfl ?_
      cases h
      exact hk _ rfl _ _ _ _ _
def g54 (S : St) (v1 : Nat) (v2 : Nat) : Option (Int × St) := gC S v1 (fun c1 c2 n3 n4 => gC S v2 (fun c7 c8 n9 n10 => if n9 < n3 then some (0, S) else ob (g55 (S.a 26 0 (-1)) 0 v1) (fun o14 => obr (g54L31 v1 v2 FU 0 0 o14) (fun o76 => some (0, o76)))))
set_option maxRecDepth 100000 in
set_option maxHeartbeats 4000000 in
theorem g54_ok {S : St} {v1 : Nat} {v2 : Nat} {o : Int × St} (h : g54 S v1 v2 = some o) : Ru none 12 254 54 (0, mn_pad (mn_ent [.ref 23, .ref v1, .ref v2]) 5, [], S.ns, Hp S) ((0, some (vI o.1)), o.2.ns, Hp o.2) := by
  unfold g54 at h
  show Ru none 12 254 54 (0, [some (.ref 23), some (.ref v1), some (.ref v2), none, none], [], S.ns, Hp S) _
  refine Ru.op (q := (.aload_n 1, 1)) (by decide +kernel) rfl ?_
  obtain ⟨c1, c2, n3, n4, e5, q6, h⟩ := gC_some h
  refine Ru.get (i := 21) (v := vI n3) (by decide +kernel) (by rfl) q6 (by decide) rfl ?_
  refine Ru.op (q := (.aload_n 2, 1)) (by decide +kernel) rfl ?_
  obtain ⟨c7, c8, n9, n10, e11, q12, h⟩ := gC_some h
  refine Ru.get (i := 21) (v := vI n9) (by decide +kernel) (by rfl) q12 (by decide) rfl ?_
  by_cases b13 : n9 < n3
  · replace h := if_t b13 h
    refine Ru.br2 (k := .le) (off := 5) (bb := false) (tg := 11) (by decide +kernel) (by decide +kernel) (ci_le0 e5.1 e11.1 b13) rfl ?_
    refine Ru.kI (q := (.iconst 0, 1)) (c := 0) (by decide +kernel) rfl (by decide) ?_
    cases h
    exact Ru.iret (by decide +kernel) rfl (nar_b1 (by decide))
  · replace h := if_f b13 h
    refine Ru.br2 (k := .le) (off := 5) (bb := true) (tg := 13) (by decide +kernel) (by decide +kernel) (ci_le1 e5.1 e11.1 b13) rfl ?_
    refine Ru.kI (q := (.iconst 0, 1)) (c := 0) (by decide +kernel) rfl (by decide) ?_
    refine Ru.op (q := (.istore_n 3, 1)) (S' := (15, [some (.ref 23), some (.ref v1), some (.ref v2), some (vI 0), none], [], _, _)) (by decide +kernel) rfl ?_
    refine Ru.op (q := (.aload_n 0, 1)) (by decide +kernel) rfl ?_
    refine Ru.get (i := 18) (v := .ref 26) (by decide +kernel) (by rfl) (hp23 _) (by decide) rfl ?_
    refine Ru.kI (q := (.iconst 0, 1)) (c := 0) (by decide +kernel) rfl (by decide) ?_
    refine Ru.kI (q := (.iconst (-1), 1)) (c := (-1)) (by decide +kernel) rfl (by decide) ?_
    refine Ru.istI (i := 0) (x := (-1)) (by decide +kernel) (hp26 _) (by decide) (ps_26 _ _ _) ?_
    refine Ru.op (q := (.aload_n 0, 1)) (by decide +kernel) rfl ?_
    refine Ru.kI (q := (.iconst 0, 1)) (c := 0) (by decide +kernel) rfl (by decide) ?_
    refine Ru.op (q := (.aload_n 1, 1)) (by decide +kernel) rfl ?_
    obtain ⟨o14, e15, h⟩ := ob_some h
    refine Ru.vcall (i := 27) (j2 := 55) (as := [vI 0, .ref v1]) (by decide +kernel) (by rfl) rfl rfl (hp23 _) (by decide) ⟨(Nat.le_of_ble_eq_true rfl), (by show 19 + 4 ≤ 254; exact Nat.le_of_ble_eq_true rfl), Nat.le_of_ble_eq_true rfl, Nat.le_of_ble_eq_true rfl⟩ ((g55_ok e15).up (Nat.le_of_ble_eq_true rfl) (Nat.le_of_ble_eq_true rfl)) ?_
    refine Ru.kI (q := (.iconst 0, 1)) (c := 0) (by decide +kernel) rfl (by decide) ?_
    refine Ru.op (q := (.istore 4, 2)) (S' := (31, [some (.ref 23), some (.ref v1), some (.ref v2), some (vI 0), some (vI 0)], [], _, _)) (by decide +kernel) rfl ?_
    rcases obr_some h with ⟨o76, e82, h⟩ | e82
    · refine g54L31_ok FU _ _ _ _ e82 _ (fun o' e' => ?_) (fun o' e' => by cases e')
      cases e'
      intro d77 d78 d79 d80 d81
      refine Ru.kI (q := (.iconst 0, 1)) (c := 0) (by decide +kernel) rfl (by decide) ?_
      cases h
      exact Ru.iret (by decide +kernel) rfl (nar_b1 (by decide))
    · exact g54L31_ok FU _ _ _ _ e82 _ (fun o' e' => by cases e') (fun o' e' => by cases e'; rfl)
def g53L2  : Nat → Int → St → Option (Sum (St) (Int × St))
  | 0, _, _ => none
  | n + 1, v1, S => gd (inR v1) (if v1 < (S.F 13 1) then gd (ixR v1 100) (ob (S.R 14 v1) (fun c23 => gK S c23 (fun c25 n26 n27 n28 n29 n30 n31 => if n26 = 2 then g53L2 n (v1 + 1) S else ob (g54 S c25 16) (fun o35 => gd (inR o35.1) (if o35.1 = 0 then g53L2 n (v1 + 1) o35.2 else some (.inr (1, o35.2))))))) else some (.inl S))
set_option maxRecDepth 100000 in
set_option maxHeartbeats 4000000 in
theorem g53L2_ok : ∀ (n : Nat) (v1 : Int) (S : St) (out : Sum (St) (Int × St)), g53L2 n v1 S = some out → ∀ r, (∀ o, out = .inl o → ∀ (e0 e1 : Option Value), Ru none 13 278 53 (57, [e0, e1], [], o.ns, Hp o) r) → (∀ o, out = .inr o → r = ((0, some (vI o.1)), o.2.ns, Hp o.2)) → Ru none 13 278 53 (2, [some (.ref 13), some (vI v1)], [], S.ns, Hp S) r := by
  intro n
  induction n with
  | zero => intro v1 S out h; cases h
  | succ n ih =>
    intro v1 S out h r hk hr
    unfold g53L2 at h
    refine Ru.op (q := (.iload_n 1, 1)) (by decide +kernel) rfl ?_
    refine Ru.op (q := (.aload_n 0, 1)) (by decide +kernel) rfl ?_
    refine Ru.getI (i := 57) (x := (S.F 13 1)) (by decide +kernel) (by rfl) (hp13 _) (by decide) rfl (eI_of _) ?_
    obtain ⟨g20, h⟩ := gd_some h
    by_cases b21 : v1 < (S.F 13 1)
    · replace h := if_t b21 h
      refine Ru.br2 (k := .ge) (off := 50) (bb := false) (tg := 10) (by decide +kernel) (by decide +kernel) (ci_ge0 g20 (inR_to _) b21) rfl ?_
      refine Ru.op (q := (.aload_n 0, 1)) (by decide +kernel) rfl ?_
      refine Ru.get (i := 11) (v := .ref 14) (by decide +kernel) (by rfl) (hp13 _) (by decide) rfl ?_
      refine Ru.op (q := (.iload_n 1, 1)) (by decide +kernel) rfl ?_
      obtain ⟨g22, h⟩ := gd_some h
      obtain ⟨c23, e24, h⟩ := ob_some h
      refine Ru.aldI (i := v1) (b := c23) (by decide +kernel) (hp14 _) (by decide) g22 e24 ?_
      obtain ⟨c25, n26, n27, n28, n29, n30, n31, e32, q33, h⟩ := gK_some h
      refine Ru.get (i := 60) (v := vI n26) (by decide +kernel) (by rfl) q33 (by decide) rfl ?_
      refine Ru.kI (q := (.iconst 2, 1)) (c := 2) (by decide +kernel) rfl (by decide) ?_
      by_cases b34 : n26 = 2
      · replace h := if_t b34 h
        refine Ru.br2 (k := .eq) (off := 31) (bb := true) (tg := 51) (by decide +kernel) (by decide +kernel) (ci_eq1 e32.1 (by decide) b34) rfl ?_
        refine Ru.inc (x := v1) (z := (v1 + 1)) (xs' := [some (.ref 13), some (vI (v1 + 1))]) (by decide +kernel) rfl rfl rfl ?_
        refine Ru.op (q := (.goto (-52), 3)) (by decide +kernel) rfl ?_
        exact ih _ _ _ h r hk hr
      · replace h := if_f b34 h
        refine Ru.br2 (k := .eq) (off := 31) (bb := false) (tg := 23) (by decide +kernel) (by decide +kernel) (ci_eq0 e32.1 (by decide) b34) rfl ?_
        refine Ru.op (q := (.aload_n 0, 1)) (by decide +kernel) rfl ?_
        refine Ru.get (i := 38) (v := .ref 23) (by decide +kernel) (by rfl) (hp13 _) (by decide) rfl ?_
        refine Ru.op (q := (.aload_n 0, 1)) (by decide +kernel) rfl ?_
        refine Ru.get (i := 11) (v := .ref 14) (by decide +kernel) (by rfl) (hp13 _) (by decide) rfl ?_
        refine Ru.op (q := (.iload_n 1, 1)) (by decide +kernel) rfl ?_
        refine Ru.aldI (i := v1) (b := c23) (by decide +kernel) (hp14 _) (by decide) g22 e24 ?_
        refine Ru.get (i := 109) (v := .ref c25) (by decide +kernel) (by rfl) q33 (by decide) rfl ?_
        refine Ru.op (q := (.aload_n 0, 1)) (by decide +kernel) rfl ?_
        refine Ru.get (i := 24) (v := .ref 15) (by decide +kernel) (by rfl) (hp13 _) (by decide) rfl ?_
        refine Ru.get (i := 100) (v := .ref 16) (by decide +kernel) (by rfl) (hp15 _) (by decide) rfl ?_
        obtain ⟨o35, e36, h⟩ := ob_some h
        refine Ru.vcall (i := 112) (j2 := 54) (as := [.ref c25, .ref 16]) (by decide +kernel) (by rfl) rfl rfl (hp23 _) (by decide) ⟨(Nat.le_of_ble_eq_true rfl), (by show 19 + 5 ≤ 278; exact Nat.le_of_ble_eq_true rfl), Nat.le_of_ble_eq_true rfl, Nat.le_of_ble_eq_true rfl⟩ ((g54_ok e36).up (Nat.le_of_ble_eq_true rfl) (Nat.le_of_ble_eq_true rfl)) ?_
        obtain ⟨g37, h⟩ := gd_some h
        by_cases b38 : o35.1 = 0
        · replace h := if_t b38 h
          refine Ru.br (k := .eq) (off := 5) (bb := true) (tg := 51) (by decide +kernel) (by decide +kernel) (cz (ci_eq1 g37 (by decide) b38)) rfl ?_
          refine Ru.inc (x := v1) (z := (v1 + 1)) (xs' := [some (.ref 13), some (vI (v1 + 1))]) (by decide +kernel) rfl rfl rfl ?_
          refine Ru.op (q := (.goto (-52), 3)) (by decide +kernel) rfl ?_
          exact ih _ _ _ h r hk hr
        · replace h := if_f b38 h
          refine Ru.br (k := .eq) (off := 5) (bb := false) (tg := 49) (by decide +kernel) (by decide +kernel) (cz (ci_eq0 g37 (by decide) b38)) rfl ?_
          refine Ru.kI (q := (.iconst 1, 1)) (c := 1) (by decide +kernel) rfl (by decide) ?_
          cases h
          have h9 := hr _ rfl
          subst h9
          exact Ru.iret (by decide +kernel) rfl (nar_b1 (by decide))
    · replace h := if_f b21 h
      refine Ru.br2 (k := .ge) (off := 50) (bb := true) (tg := 57) (by decide +kernel) (by decide +kernel) (ci_ge1 g20 (inR_to _) b21) rfl ?_
      cases h
      exact hk _ rfl _ _
def g53 (S : St) : Option (Int × St) := obr (g53L2 FU 0 S) (fun o39 => some (0, o39))
set_option maxRecDepth 100000 in
set_option maxHeartbeats 4000000 in
theorem g53_ok {S : St} {o : Int × St} (h : g53 S  = some o) : Ru none 13 278 53 (0, mn_pad (mn_ent [.ref 13]) 2, [], S.ns, Hp S) ((0, some (vI o.1)), o.2.ns, Hp o.2) := by
  unfold g53 at h
  show Ru none 13 278 53 (0, [some (.ref 13), none], [], S.ns, Hp S) _
  refine Ru.kI (q := (.iconst 0, 1)) (c := 0) (by decide +kernel) rfl (by decide) ?_
  refine Ru.op (q := (.istore_n 1, 1)) (S' := (2, [some (.ref 13), some (vI 0)], [], _, _)) (by decide +kernel) rfl ?_
  rcases obr_some h with ⟨o39, e42, h⟩ | e42
  · refine g53L2_ok FU _ _ _ e42 _ (fun o' e' => ?_) (fun o' e' => by cases e')
    cases e'
    intro d40 d41
    refine Ru.kI (q := (.iconst 0, 1)) (c := 0) (by decide +kernel) rfl (by decide) ?_
    cases h
    exact Ru.iret (by decide +kernel) rfl (nar_b1 (by decide))
  · exact g53L2_ok FU _ _ _ e42 _ (fun o' e' => by cases e') (fun o' e' => by cases e'; rfl)
def g58_15 (S : St) : Option (Nat × St) := gN (S.nw 5 4) S.top 5 (gd (c5R (S.F 16 3) (S.F 16 2)) (gC ((S.nw 5 4).c5 S.top (S.F 16 3) (S.F 16 2)) S.top (fun c4 c5 n6 n7 => gA ((S.nw 5 4).c5 S.top (S.F 16 3) (S.F 16 2)) 17 (fun N10 f11 => gA ((S.nw 5 4).c5 S.top (S.F 16 3) (S.F 16 2)) c4 (fun N14 f15 => gd (72 ≤ c4) (gd (cpR N10 N14 0 0 (S.F 16 3)) (gC (((S.nw 5 4).c5 S.top (S.F 16 3) (S.F 16 2)).t c4 (.ar N14 (cpI f11 f15 0 0 (S.F 16 3)))) S.top (fun c20 c21 n22 n23 => gA (((S.nw 5 4).c5 S.top (S.F 16 3) (S.F 16 2)).t c4 (.ar N14 (cpI f11 f15 0 0 (S.F 16 3)))) 18 (fun N26 f27 => gA (((S.nw 5 4).c5 S.top (S.F 16 3) (S.F 16 2)).t c4 (.ar N14 (cpI f11 f15 0 0 (S.F 16 3)))) c21 (fun N30 f31 => gd (72 ≤ c21) (gd (cpR N26 N30 0 0 ((S.F 16 2) + 1)) (gC ((((S.nw 5 4).c5 S.top (S.F 16 3) (S.F 16 2)).t c4 (.ar N14 (cpI f11 f15 0 0 (S.F 16 3)))).t c21 (.ar N30 (cpI f27 f31 0 0 ((S.F 16 2) + 1)))) S.top (fun c36 c37 n38 n39 => gd (72 ≤ S.top) (gC (((((S.nw 5 4).c5 S.top (S.F 16 3) (S.F 16 2)).t c4 (.ar N14 (cpI f11 f15 0 0 (S.F 16 3)))).t c21 (.ar N30 (cpI f27 f31 0 0 ((S.F 16 2) + 1)))).t S.top (.ob 5 [c36, c37] [eI (S.F 16 2), eI n39])) S.top (fun c43 c44 n45 n46 => some (S.top, ((((((S.nw 5 4).c5 S.top (S.F 16 3) (S.F 16 2)).t c4 (.ar N14 (cpI f11 f15 0 0 (S.F 16 3)))).t c21 (.ar N30 (cpI f27 f31 0 0 ((S.F 16 2) + 1)))).t S.top (.ob 5 [c36, c37] [eI (S.F 16 2), eI n39])).t S.top (.ob 5 [c43, c44] [eI n45, eI (S.F 16 3)]))))))))))))))))))
set_option maxRecDepth 100000 in
set_option maxHeartbeats 4000000 in
theorem g58_15_ok {S : St} {o : Nat × St} (h : g58_15 S  = some o) : Ru none 11 222 58 (0, mn_pad (mn_ent [.ref 15]) 2, [], S.ns, Hp S) ((0, some (Value.ref o.1)), o.2.ns, Hp o.2) := by
  unfold g58_15 at h
  show Ru none 11 222 58 (0, [some (.ref 15), none], [], S.ns, Hp S) _
  refine Ru.nwI (S := S) (i := 9) (n := 4) (by decide +kernel) (by rfl) (by decide) rfl ?_
  refine Ru.op (q := (.dup, 1)) (by decide +kernel) rfl ?_
  refine Ru.op (q := (.aload_n 0, 1)) (by decide +kernel) rfl ?_
  refine Ru.get (i := 14) (v := .ref 16) (by decide +kernel) (by rfl) (hp15 _) (by decide) rfl ?_
  refine Ru.getI (i := 28) (x := (S.F 16 3)) (by decide +kernel) (by rfl) (hp16 _) (by decide) rfl (eI_of _) ?_
  refine Ru.op (q := (.aload_n 0, 1)) (by decide +kernel) rfl ?_
  refine Ru.get (i := 14) (v := .ref 16) (by decide +kernel) (by rfl) (hp15 _) (by decide) rfl ?_
  refine Ru.getI (i := 24) (x := (S.F 16 2)) (by decide +kernel) (by rfl) (hp16 _) (by decide) rfl (eI_of _) ?_
  obtain ⟨q2, e1, h⟩ := gN_e h
  obtain ⟨g3, h⟩ := gd_some h
  refine Ru.call (q := (.invokespecial 11, 3)) (j2 := 5) (as := [.ref S.top, vI (S.F 16 3), vI (S.F 16 2)]) (by decide +kernel) rfl rfl rfl rfl ⟨(Nat.le_of_ble_eq_true rfl), (by show 19 + 3 ≤ 222; exact Nat.le_of_ble_eq_true rfl), Nat.le_of_ble_eq_true rfl, Nat.le_of_ble_eq_true rfl⟩ ((ctor5_ok q2 e1 g3).up (Nat.le_of_ble_eq_true rfl) (Nat.le_of_ble_eq_true rfl)) ?_
  refine Ru.op (q := (.astore_n 1, 1)) (S' := (22, [some (.ref 15), some (.ref S.top)], [], _, _)) (by decide +kernel) rfl ?_
  refine Ru.op (q := (.aload_n 0, 1)) (by decide +kernel) rfl ?_
  refine Ru.get (i := 14) (v := .ref 16) (by decide +kernel) (by rfl) (hp15 _) (by decide) rfl ?_
  refine Ru.get (i := 41) (v := .ref 17) (by decide +kernel) (by rfl) (hp16 _) (by decide) rfl ?_
  refine Ru.kI (q := (.iconst 0, 1)) (c := 0) (by decide +kernel) rfl (by decide) ?_
  refine Ru.op (q := (.aload_n 1, 1)) (by decide +kernel) rfl ?_
  obtain ⟨c4, c5, n6, n7, e8, q9, h⟩ := gC_some h
  refine Ru.get (i := 41) (v := .ref c4) (by decide +kernel) (by rfl) q9 (by decide) rfl ?_
  refine Ru.kI (q := (.iconst 0, 1)) (c := 0) (by decide +kernel) rfl (by decide) ?_
  refine Ru.op (q := (.aload_n 0, 1)) (by decide +kernel) rfl ?_
  refine Ru.get (i := 14) (v := .ref 16) (by decide +kernel) (by rfl) (hp15 _) (by decide) rfl ?_
  refine Ru.getI (i := 28) (x := (S.F 16 3)) (by decide +kernel) (by rfl) (hp16 _) (by decide) rfl (eI_of _) ?_
  obtain ⟨N10, f11, e12, q13, h⟩ := gA_some h
  obtain ⟨N14, f15, e16, q17, h⟩ := gA_some h
  obtain ⟨g18, h⟩ := gd_some h
  obtain ⟨g19, h⟩ := gd_some h
  refine Ru.acI (i := 64) (k := (0, 0, 0, 0, 0)) (by decide +kernel) (by rfl) q13 q17 g19 (Nat.le_of_ble_eq_true rfl) (by decide +kernel) (pt_ok g18 (x := .ar _ _)) ?_
  refine Ru.op (q := (.aload_n 0, 1)) (by decide +kernel) rfl ?_
  refine Ru.get (i := 14) (v := .ref 16) (by decide +kernel) (by rfl) (hp15 _) (by decide) rfl ?_
  refine Ru.get (i := 31) (v := .ref 18) (by decide +kernel) (by rfl) (hp16 _) (by decide) rfl ?_
  refine Ru.kI (q := (.iconst 0, 1)) (c := 0) (by decide +kernel) rfl (by decide) ?_
  refine Ru.op (q := (.aload_n 1, 1)) (by decide +kernel) rfl ?_
  obtain ⟨c20, c21, n22, n23, e24, q25, h⟩ := gC_some h
  refine Ru.get (i := 31) (v := .ref c21) (by decide +kernel) (by rfl) q25 (by decide) rfl ?_
  refine Ru.kI (q := (.iconst 0, 1)) (c := 0) (by decide +kernel) rfl (by decide) ?_
  refine Ru.op (q := (.aload_n 0, 1)) (by decide +kernel) rfl ?_
  refine Ru.get (i := 14) (v := .ref 16) (by decide +kernel) (by rfl) (hp15 _) (by decide) rfl ?_
  refine Ru.getI (i := 24) (x := (S.F 16 2)) (by decide +kernel) (by rfl) (hp16 _) (by decide) rfl (eI_of _) ?_
  refine Ru.kI (q := (.iconst 1, 1)) (c := 1) (by decide +kernel) rfl (by decide) ?_
  refine Ru.ar2 (i := .iadd) (z := ((S.F 16 2) + 1)) (by decide +kernel) rfl (ar_add _ _) ?_
  obtain ⟨N26, f27, e28, q29, h⟩ := gA_some h
  obtain ⟨N30, f31, e32, q33, h⟩ := gA_some h
  obtain ⟨g34, h⟩ := gd_some h
  obtain ⟨g35, h⟩ := gd_some h
  refine Ru.acI (i := 64) (k := (0, 0, 0, 0, 0)) (by decide +kernel) (by rfl) q29 q33 g35 (Nat.le_of_ble_eq_true rfl) (by decide +kernel) (pt_ok g34 (x := .ar _ _)) ?_
  refine Ru.op (q := (.aload_n 1, 1)) (by decide +kernel) rfl ?_
  refine Ru.op (q := (.aload_n 0, 1)) (by decide +kernel) rfl ?_
  refine Ru.get (i := 14) (v := .ref 16) (by decide +kernel) (by rfl) (hp15 _) (by decide) rfl ?_
  refine Ru.getI (i := 24) (x := (S.F 16 2)) (by decide +kernel) (by rfl) (hp16 _) (by decide) rfl (eI_of _) ?_
  obtain ⟨c36, c37, n38, n39, e40, q41, h⟩ := gC_some h
  obtain ⟨g42, h⟩ := gd_some h
  refine Ru.putH (i := 24) (by decide +kernel) (by rfl) q41 (by decide) (Nat.le_of_ble_eq_true rfl) rfl (by decide +kernel) (pt_ok g42 (x := .ob 5 [c36, c37] [eI (S.F 16 2), eI n39])) ?_
  refine Ru.op (q := (.aload_n 1, 1)) (by decide +kernel) rfl ?_
  refine Ru.op (q := (.aload_n 0, 1)) (by decide +kernel) rfl ?_
  refine Ru.get (i := 14) (v := .ref 16) (by decide +kernel) (by rfl) (hp15 _) (by decide) rfl ?_
  refine Ru.getI (i := 28) (x := (S.F 16 3)) (by decide +kernel) (by rfl) (hp16 _) (by decide) rfl (eI_of _) ?_
  obtain ⟨c43, c44, n45, n46, e47, q48, h⟩ := gC_some h
  refine Ru.putH (i := 28) (by decide +kernel) (by rfl) q48 (by decide) (Nat.le_of_ble_eq_true rfl) rfl (by decide +kernel) (pt_ok g42 (x := .ob 5 [c43, c44] [eI n45, eI (S.F 16 3)])) ?_
  refine Ru.op (q := (.aload_n 1, 1)) (by decide +kernel) rfl ?_
  cases h
  exact Ru.end (q := (.areturn, 1)) (by decide +kernel) rfl rfl
def g49 (S : St) (v1 : Int) (v2 : Int) (v3 : Int) (v4 : Int) (v5 : Int) : Option (St) := ob (g50_15 S) (fun o1 => gd (inR o1) (if o1 = 0 then some (S.f 13 4 ((S.F 13 4) + 1)) else ob (g51_15 S) (fun o5 => gd (inR o5) (if o5 = 0 then ob (g53 S) (fun o9 => gd (inR o9.1) (if o9.1 = 0 then if (o9.2.F 13 1) < 100 then ob (g58_15 (o9.2.nw 9 7)) (fun o14 => gN o14.2 o9.2.top 9 (gd (ixR (o9.2.F 13 1) 100) (gK (o14.2.t o9.2.top (.ob 9 [o14.1] [0, eI v1, eI v2, eI v3, eI v4, eI v5])) o9.2.top (fun c19 n20 n21 n22 n23 n24 n25 => if (o14.2.F 16 2) = 0 then some ((((o14.2.t o9.2.top (.ob 9 [o14.1] [0, eI v1, eI v2, eI v3, eI v4, eI v5])).r 14 (o9.2.F 13 1) (some o9.2.top)).f 13 7 (o14.2.F 13 1)).f 13 1 ((o14.2.F 13 1) + 1)) else some (((o14.2.t o9.2.top (.ob 9 [o14.1] [0, eI v1, eI v2, eI v3, eI v4, eI v5])).r 14 (o9.2.F 13 1) (some o9.2.top)).f 13 1 ((o14.2.F 13 1) + 1)))))) else some (o9.2.f 13 8 1) else some (o9.2.f 13 6 ((o9.2.F 13 6) + 1)))) else some (S.f 13 5 ((S.F 13 5) + 1))))))
set_option maxRecDepth 100000 in
set_option maxHeartbeats 4000000 in
theorem g49_ok {S : St} {v1 : Int} {v2 : Int} {v3 : Int} {v4 : Int} {v5 : Int} {o : St} (h : g49 S v1 v2 v3 v4 v5 = some o) : Ru none 14 299 49 (0, mn_pad (mn_ent [.ref 13, vI v1, vI v2, vI v3, vI v4, vI v5]) 6, [], S.ns, Hp S) ((0, none), o.ns, Hp o) := by
  unfold g49 at h
  show Ru none 14 299 49 (0, [some (.ref 13), some (vI v1), some (vI v2), some (vI v3), some (vI v4), some (vI v5)], [], S.ns, Hp S) _
  refine Ru.op (q := (.aload_n 0, 1)) (by decide +kernel) rfl ?_
  refine Ru.get (i := 24) (v := .ref 15) (by decide +kernel) (by rfl) (hp13 _) (by decide) rfl ?_
  obtain ⟨o1, e2, h⟩ := ob_some h
  refine Ru.vcall (i := 77) (j2 := 50) (as := []) (by decide +kernel) (by rfl) rfl rfl (hp15 _) (by decide) ⟨(Nat.le_of_ble_eq_true rfl), (by show 19 + 1 ≤ 299; exact Nat.le_of_ble_eq_true rfl), Nat.le_of_ble_eq_true rfl, Nat.le_of_ble_eq_true rfl⟩ ((g50_15_ok e2).up (Nat.le_of_ble_eq_true rfl) (Nat.le_of_ble_eq_true rfl)) ?_
  obtain ⟨g3, h⟩ := gd_some h
  by_cases b4 : o1 = 0
  · replace h := if_t b4 h
    refine Ru.br (k := .ne) (off := 16) (bb := false) (tg := 10) (by decide +kernel) (by decide +kernel) (cz (ci_ne0 g3 (by decide) b4)) rfl ?_
    refine Ru.op (q := (.aload_n 0, 1)) (by decide +kernel) rfl ?_
    refine Ru.op (q := (.dup, 1)) (by decide +kernel) rfl ?_
    refine Ru.getI (i := 54) (x := (S.F 13 4)) (by decide +kernel) (by rfl) (hp13 _) (by decide) rfl (eI_of _) ?_
    refine Ru.kI (q := (.iconst 1, 1)) (c := 1) (by decide +kernel) rfl (by decide) ?_
    refine Ru.ar2 (i := .iadd) (z := ((S.F 13 4) + 1)) (by decide +kernel) rfl (ar_add _ _) ?_
    refine Ru.putH (i := 54) (by decide +kernel) (by rfl) (hp13 _) (by decide) (Nat.le_of_ble_eq_true rfl) rfl (by decide +kernel) (pf_13_4 _ _) ?_
    refine Ru.op (q := (.goto 124, 3)) (by decide +kernel) rfl ?_
    cases h
    exact Ru.end (q := (.return_, 1)) (by decide +kernel) rfl rfl
  · replace h := if_f b4 h
    refine Ru.br (k := .ne) (off := 16) (bb := true) (tg := 23) (by decide +kernel) (by decide +kernel) (cz (ci_ne1 g3 (by decide) b4)) rfl ?_
    refine Ru.op (q := (.aload_n 0, 1)) (by decide +kernel) rfl ?_
    refine Ru.get (i := 24) (v := .ref 15) (by decide +kernel) (by rfl) (hp13 _) (by decide) rfl ?_
    obtain ⟨o5, e6, h⟩ := ob_some h
    refine Ru.vcall (i := 81) (j2 := 51) (as := []) (by decide +kernel) (by rfl) rfl rfl (hp15 _) (by decide) ⟨(Nat.le_of_ble_eq_true rfl), (by show 19 + 3 ≤ 299; exact Nat.le_of_ble_eq_true rfl), Nat.le_of_ble_eq_true rfl, Nat.le_of_ble_eq_true rfl⟩ ((g51_15_ok e6).up (Nat.le_of_ble_eq_true rfl) (Nat.le_of_ble_eq_true rfl)) ?_
    obtain ⟨g7, h⟩ := gd_some h
    by_cases b8 : o5 = 0
    · replace h := if_t b8 h
      refine Ru.br (k := .eq) (off := 16) (bb := true) (tg := 46) (by decide +kernel) (by decide +kernel) (cz (ci_eq1 g7 (by decide) b8)) rfl ?_
      refine Ru.op (q := (.aload_n 0, 1)) (by decide +kernel) rfl ?_
      obtain ⟨o9, e10, h⟩ := ob_some h
      refine Ru.vcall (i := 87) (j2 := 53) (as := []) (by decide +kernel) (by rfl) rfl rfl (hp13 _) (by decide) ⟨(Nat.le_of_ble_eq_true rfl), (by show 19 + 2 ≤ 299; exact Nat.le_of_ble_eq_true rfl), Nat.le_of_ble_eq_true rfl, Nat.le_of_ble_eq_true rfl⟩ ((g53_ok e10).up (Nat.le_of_ble_eq_true rfl) (Nat.le_of_ble_eq_true rfl)) ?_
      obtain ⟨g11, h⟩ := gd_some h
      by_cases b12 : o9.1 = 0
      · replace h := if_t b12 h
        refine Ru.br (k := .eq) (off := 16) (bb := true) (tg := 66) (by decide +kernel) (by decide +kernel) (cz (ci_eq1 g11 (by decide) b12)) rfl ?_
        refine Ru.op (q := (.aload_n 0, 1)) (by decide +kernel) rfl ?_
        refine Ru.getI (i := 57) (x := (o9.2.F 13 1)) (by decide +kernel) (by rfl) (hp13 _) (by decide) rfl (eI_of _) ?_
        refine Ru.kI (q := (.bipush 100, 2)) (c := 100) (by decide +kernel) rfl (by decide) ?_
        by_cases b13 : (o9.2.F 13 1) < 100
        · replace h := if_t b13 h
          refine Ru.br2 (k := .lt) (off := 11) (bb := true) (tg := 83) (by decide +kernel) (by decide +kernel) (ci_lt1 (inR_to _) (by decide) b13) rfl ?_
          refine Ru.op (q := (.aload_n 0, 1)) (by decide +kernel) rfl ?_
          refine Ru.get (i := 11) (v := .ref 14) (by decide +kernel) (by rfl) (hp13 _) (by decide) rfl ?_
          refine Ru.op (q := (.aload_n 0, 1)) (by decide +kernel) rfl ?_
          refine Ru.getI (i := 57) (x := (o9.2.F 13 1)) (by decide +kernel) (by rfl) (hp13 _) (by decide) rfl (eI_of _) ?_
          refine Ru.nwI (S := o9.2) (i := 9) (n := 7) (by decide +kernel) (by rfl) (by decide) rfl ?_
          refine Ru.op (q := (.dup, 1)) (by decide +kernel) rfl ?_
          refine Ru.op (q := (.aload_n 0, 1)) (by decide +kernel) rfl ?_
          refine Ru.get (i := 24) (v := .ref 15) (by decide +kernel) (by rfl) (hp13 _) (by decide) rfl ?_
          obtain ⟨o14, e15, h⟩ := ob_some h
          refine Ru.vcall (i := 93) (j2 := 58) (as := []) (by decide +kernel) (by rfl) rfl rfl (hp15 _) (by decide) ⟨(Nat.le_of_ble_eq_true rfl), (by show 19 + 2 ≤ 299; exact Nat.le_of_ble_eq_true rfl), Nat.le_of_ble_eq_true rfl, Nat.le_of_ble_eq_true rfl⟩ ((g58_15_ok e15).up (Nat.le_of_ble_eq_true rfl) (Nat.le_of_ble_eq_true rfl)) ?_
          refine Ru.op (q := (.iload_n 1, 1)) (by decide +kernel) rfl ?_
          refine Ru.op (q := (.iload_n 2, 1)) (by decide +kernel) rfl ?_
          refine Ru.op (q := (.iload_n 3, 1)) (by decide +kernel) rfl ?_
          refine Ru.op (q := (.iload 4, 2)) (by decide +kernel) rfl ?_
          refine Ru.op (q := (.iload 5, 2)) (by decide +kernel) rfl ?_
          obtain ⟨q17, e16, h⟩ := gN_e h
          refine Ru.call (q := (.invokespecial 97, 3)) (j2 := 59) (as := [.ref o9.2.top, .ref o14.1, vI v1, vI v2, vI v3, vI v4, vI v5]) (by decide +kernel) rfl rfl rfl rfl ⟨(Nat.le_of_ble_eq_true rfl), (by show 19 + 7 ≤ 299; exact Nat.le_of_ble_eq_true rfl), Nat.le_of_ble_eq_true rfl, Nat.le_of_ble_eq_true rfl⟩ ((ctor9_ok q17 e16).up (Nat.le_of_ble_eq_true rfl) (Nat.le_of_ble_eq_true rfl)) ?_
          obtain ⟨g18, h⟩ := gd_some h
          obtain ⟨c19, n20, n21, n22, n23, n24, n25, e26, q27, h⟩ := gK_some h
          refine Ru.astI (i := (o9.2.F 13 1)) (by decide +kernel) (hp14 _) q27 (by decide) (by decide) (by decide) g18 (pq_14 _ _ _) ?_
          refine Ru.op (q := (.aload_n 0, 1)) (by decide +kernel) rfl ?_
          refine Ru.get (i := 24) (v := .ref 15) (by decide +kernel) (by rfl) (hp13 _) (by decide) rfl ?_
          refine Ru.get (i := 100) (v := .ref 16) (by decide +kernel) (by rfl) (hp15 _) (by decide) rfl ?_
          refine Ru.getI (i := 104) (x := (o14.2.F 16 2)) (by decide +kernel) (by rfl) (hp16 _) (by decide) rfl (eI_of _) ?_
          by_cases b28 : (o14.2.F 16 2) = 0
          · replace h := if_t b28 h
            refine Ru.br (k := .ne) (off := 11) (bb := false) (tg := 126) (by decide +kernel) (by decide +kernel) (cz (ci_ne0 (inR_to _) (by decide) b28)) rfl ?_
            refine Ru.op (q := (.aload_n 0, 1)) (by decide +kernel) rfl ?_
            refine Ru.op (q := (.aload_n 0, 1)) (by decide +kernel) rfl ?_
            refine Ru.getI (i := 57) (x := (o14.2.F 13 1)) (by decide +kernel) (by rfl) (hp13 _) (by decide) rfl (eI_of _) ?_
            refine Ru.putH (i := 17) (by decide +kernel) (by rfl) (hp13 _) (by decide) (Nat.le_of_ble_eq_true rfl) rfl (by decide +kernel) (pf_13_7 _ _) ?_
            refine Ru.op (q := (.aload_n 0, 1)) (by decide +kernel) rfl ?_
            refine Ru.op (q := (.dup, 1)) (by decide +kernel) rfl ?_
            refine Ru.getI (i := 57) (x := (o14.2.F 13 1)) (by decide +kernel) (by rfl) (hp13 _) (by decide) rfl (eI_of _) ?_
            refine Ru.kI (q := (.iconst 1, 1)) (c := 1) (by decide +kernel) rfl (by decide) ?_
            refine Ru.ar2 (i := .iadd) (z := ((o14.2.F 13 1) + 1)) (by decide +kernel) rfl (ar_add _ _) ?_
            refine Ru.putH (i := 57) (by decide +kernel) (by rfl) (hp13 _) (by decide) (Nat.le_of_ble_eq_true rfl) rfl (by decide +kernel) (pf_13_1 _ _) ?_
            cases h
            exact Ru.end (q := (.return_, 1)) (by decide +kernel) rfl rfl
          · replace h := if_f b28 h
            refine Ru.br (k := .ne) (off := 11) (bb := true) (tg := 134) (by decide +kernel) (by decide +kernel) (cz (ci_ne1 (inR_to _) (by decide) b28)) rfl ?_
            refine Ru.op (q := (.aload_n 0, 1)) (by decide +kernel) rfl ?_
            refine Ru.op (q := (.dup, 1)) (by decide +kernel) rfl ?_
            refine Ru.getI (i := 57) (x := (o14.2.F 13 1)) (by decide +kernel) (by rfl) (hp13 _) (by decide) rfl (eI_of _) ?_
            refine Ru.kI (q := (.iconst 1, 1)) (c := 1) (by decide +kernel) rfl (by decide) ?_
            refine Ru.ar2 (i := .iadd) (z := ((o14.2.F 13 1) + 1)) (by decide +kernel) rfl (ar_add _ _) ?_
            refine Ru.putH (i := 57) (by decide +kernel) (by rfl) (hp13 _) (by decide) (Nat.le_of_ble_eq_true rfl) rfl (by decide +kernel) (pf_13_1 _ _) ?_
            cases h
            exact Ru.end (q := (.return_, 1)) (by decide +kernel) rfl rfl
        · replace h := if_f b13 h
          refine Ru.br2 (k := .lt) (off := 11) (bb := false) (tg := 75) (by decide +kernel) (by decide +kernel) (ci_lt0 (inR_to _) (by decide) b13) rfl ?_
          refine Ru.op (q := (.aload_n 0, 1)) (by decide +kernel) rfl ?_
          refine Ru.kI (q := (.iconst 1, 1)) (c := 1) (by decide +kernel) rfl (by decide) ?_
          refine Ru.putH (i := 46) (by decide +kernel) (by rfl) (hp13 _) (by decide) (Nat.le_of_ble_eq_true rfl) (fk_b (by decide)) (by decide +kernel) (pf_13_8 _ _) ?_
          refine Ru.op (q := (.goto 64, 3)) (by decide +kernel) rfl ?_
          cases h
          exact Ru.end (q := (.return_, 1)) (by decide +kernel) rfl rfl
      · replace h := if_f b12 h
        refine Ru.br (k := .eq) (off := 16) (bb := false) (tg := 53) (by decide +kernel) (by decide +kernel) (cz (ci_eq0 g11 (by decide) b12)) rfl ?_
        refine Ru.op (q := (.aload_n 0, 1)) (by decide +kernel) rfl ?_
        refine Ru.op (q := (.dup, 1)) (by decide +kernel) rfl ?_
        refine Ru.getI (i := 90) (x := (o9.2.F 13 6)) (by decide +kernel) (by rfl) (hp13 _) (by decide) rfl (eI_of _) ?_
        refine Ru.kI (q := (.iconst 1, 1)) (c := 1) (by decide +kernel) rfl (by decide) ?_
        refine Ru.ar2 (i := .iadd) (z := ((o9.2.F 13 6) + 1)) (by decide +kernel) rfl (ar_add _ _) ?_
        refine Ru.putH (i := 90) (by decide +kernel) (by rfl) (hp13 _) (by decide) (Nat.le_of_ble_eq_true rfl) rfl (by decide +kernel) (pf_13_6 _ _) ?_
        refine Ru.op (q := (.goto 81, 3)) (by decide +kernel) rfl ?_
        cases h
        exact Ru.end (q := (.return_, 1)) (by decide +kernel) rfl rfl
    · replace h := if_f b8 h
      refine Ru.br (k := .eq) (off := 16) (bb := false) (tg := 33) (by decide +kernel) (by decide +kernel) (cz (ci_eq0 g7 (by decide) b8)) rfl ?_
      refine Ru.op (q := (.aload_n 0, 1)) (by decide +kernel) rfl ?_
      refine Ru.op (q := (.dup, 1)) (by decide +kernel) rfl ?_
      refine Ru.getI (i := 84) (x := (S.F 13 5)) (by decide +kernel) (by rfl) (hp13 _) (by decide) rfl (eI_of _) ?_
      refine Ru.kI (q := (.iconst 1, 1)) (c := 1) (by decide +kernel) rfl (by decide) ?_
      refine Ru.ar2 (i := .iadd) (z := ((S.F 13 5) + 1)) (by decide +kernel) rfl (ar_add _ _) ?_
      refine Ru.putH (i := 84) (by decide +kernel) (by rfl) (hp13 _) (by decide) (Nat.le_of_ble_eq_true rfl) rfl (by decide +kernel) (pf_13_5 _ _) ?_
      refine Ru.op (q := (.goto 101, 3)) (by decide +kernel) rfl ?_
      cases h
      exact Ru.end (q := (.return_, 1)) (by decide +kernel) rfl rfl
def g39L8 (v2 : Int) (v3 : Int) : Nat → Int → St → Option (St)
  | 0, _, _ => none
  | n + 1, v4, S => gd (ixR v2 160) (gd (inR v4) (if v4 < (S.A 7 v2) then if (S.F 13 8) = 0 then ob (g40_15 S v2 v4) (fun o5 => ob (g49 o5 0 (-1) (-1) (-1) (-1)) (fun o7 => g39L8 v2 v3 n (v4 + 1) o7)) else some S else some S))
set_option maxRecDepth 100000 in
set_option maxHeartbeats 4000000 in
theorem g39L8_ok {v2 : Int} {v3 : Int} : ∀ (n : Nat) (v4 : Int) (S : St) (out : St), g39L8 v2 v3 n v4 S = some out → ∀ r, (∀ (e1 e2 e4 : Option Value), Ru none 80 2069 39 (52, [some (.ref 13), e1, e2, some (vI v3), e4], [], out.ns, Hp out) r) → Ru none 80 2069 39 (8, [some (.ref 13), some (.ref 3), some (vI v2), some (vI v3), some (vI v4)], [], S.ns, Hp S) r := by
  intro n
  induction n with
  | zero => intro v4 S out h; cases h
  | succ n ih =>
    intro v4 S out h r hk
    unfold g39L8 at h
    refine Ru.op (q := (.iload 4, 2)) (by decide +kernel) rfl ?_
    refine Ru.op (q := (.aload_n 1, 1)) (by decide +kernel) rfl ?_
    refine Ru.get (i := 63) (v := .ref 7) (by decide +kernel) (by rfl) (hp3 _) (by decide) rfl ?_
    refine Ru.op (q := (.iload_n 2, 1)) (by decide +kernel) rfl ?_
    obtain ⟨g1, h⟩ := gd_some h
    refine Ru.ildI (i := v2) (z := (S.A 7 v2)) (by decide +kernel) (hp7 _) g1 (eI_of _) ?_
    obtain ⟨g2, h⟩ := gd_some h
    by_cases b3 : v4 < (S.A 7 v2)
    · replace h := if_t b3 h
      refine Ru.br2 (k := .ge) (off := 36) (bb := false) (tg := 19) (by decide +kernel) (by decide +kernel) (ci_ge0 g2 (inR_to _) b3) rfl ?_
      refine Ru.op (q := (.aload_n 0, 1)) (by decide +kernel) rfl ?_
      refine Ru.getI (i := 46) (x := (S.F 13 8)) (by decide +kernel) (by rfl) (hp13 _) (by decide) rfl (eI_of _) ?_
      by_cases b4 : (S.F 13 8) = 0
      · replace h := if_t b4 h
        refine Ru.br (k := .ne) (off := 29) (bb := false) (tg := 26) (by decide +kernel) (by decide +kernel) (cz (ci_ne0 (inR_to _) (by decide) b4)) rfl ?_
        refine Ru.op (q := (.aload_n 1, 1)) (by decide +kernel) rfl ?_
        refine Ru.op (q := (.iload_n 2, 1)) (by decide +kernel) rfl ?_
        refine Ru.op (q := (.iload 4, 2)) (by decide +kernel) rfl ?_
        refine Ru.op (q := (.aload_n 0, 1)) (by decide +kernel) rfl ?_
        refine Ru.get (i := 24) (v := .ref 15) (by decide +kernel) (by rfl) (hp13 _) (by decide) rfl ?_
        obtain ⟨o5, e6, h⟩ := ob_some h
        refine Ru.vcall (i := 69) (j2 := 40) (as := [vI v2, vI v4, .ref 15]) (by decide +kernel) (by rfl) rfl rfl (hp3 _) (by decide) ⟨(Nat.le_of_ble_eq_true rfl), (by show 19 + 4 ≤ 2069; exact Nat.le_of_ble_eq_true rfl), Nat.le_of_ble_eq_true rfl, Nat.le_of_ble_eq_true rfl⟩ ((g40_15_ok e6).up (Nat.le_of_ble_eq_true rfl) (Nat.le_of_ble_eq_true rfl)) ?_
        refine Ru.op (q := (.aload_n 0, 1)) (by decide +kernel) rfl ?_
        refine Ru.kI (q := (.iconst 0, 1)) (c := 0) (by decide +kernel) rfl (by decide) ?_
        refine Ru.kI (q := (.iconst (-1), 1)) (c := (-1)) (by decide +kernel) rfl (by decide) ?_
        refine Ru.kI (q := (.iconst (-1), 1)) (c := (-1)) (by decide +kernel) rfl (by decide) ?_
        refine Ru.kI (q := (.iconst (-1), 1)) (c := (-1)) (by decide +kernel) rfl (by decide) ?_
        refine Ru.kI (q := (.iconst (-1), 1)) (c := (-1)) (by decide +kernel) rfl (by decide) ?_
        obtain ⟨o7, e8, h⟩ := ob_some h
        refine Ru.vcall (i := 73) (j2 := 49) (as := [vI 0, vI (-1), vI (-1), vI (-1), vI (-1)]) (by decide +kernel) (by rfl) rfl rfl (hp13 _) (by decide) ⟨(Nat.le_of_ble_eq_true rfl), (by show 19 + 6 ≤ 2069; exact Nat.le_of_ble_eq_true rfl), Nat.le_of_ble_eq_true rfl, Nat.le_of_ble_eq_true rfl⟩ ((g49_ok e8).up (Nat.le_of_ble_eq_true rfl) (Nat.le_of_ble_eq_true rfl)) ?_
        refine Ru.inc (x := v4) (z := (v4 + 1)) (xs' := [some (.ref 13), some (.ref 3), some (vI v2), some (vI v3), some (vI (v4 + 1))]) (by decide +kernel) rfl rfl rfl ?_
        refine Ru.op (q := (.goto (-41), 3)) (by decide +kernel) rfl ?_
        exact ih _ _ _ h r hk
      · replace h := if_f b4 h
        refine Ru.br (k := .ne) (off := 29) (bb := true) (tg := 52) (by decide +kernel) (by decide +kernel) (cz (ci_ne1 (inR_to _) (by decide) b4)) rfl ?_
        cases h
        exact hk _ _ _
    · replace h := if_f b3 h
      refine Ru.br2 (k := .ge) (off := 36) (bb := true) (tg := 52) (by decide +kernel) (by decide +kernel) (ci_ge1 g2 (inR_to _) b3) rfl ?_
      cases h
      exact hk _ _ _
def g39 (S : St) (v2 : Int) : Option (Int × St) := ob (g39L8 v2 (S.F 13 1) FU 0 S) (fun o9 => some (((o9.F 13 1) - (S.F 13 1)), o9))
set_option maxRecDepth 100000 in
set_option maxHeartbeats 4000000 in
theorem g39_ok {S : St} {v2 : Int} {o : Int × St} (h : g39 S v2 = some o) : Ru none 80 2069 39 (0, mn_pad (mn_ent [.ref 13, .ref 3, vI v2]) 5, [], S.ns, Hp S) ((0, some (vI o.1)), o.2.ns, Hp o.2) := by
  unfold g39 at h
  show Ru none 80 2069 39 (0, [some (.ref 13), some (.ref 3), some (vI v2), none, none], [], S.ns, Hp S) _
  refine Ru.op (q := (.aload_n 0, 1)) (by decide +kernel) rfl ?_
  refine Ru.getI (i := 57) (x := (S.F 13 1)) (by decide +kernel) (by rfl) (hp13 _) (by decide) rfl (eI_of _) ?_
  refine Ru.op (q := (.istore_n 3, 1)) (S' := (5, [some (.ref 13), some (.ref 3), some (vI v2), some (vI (S.F 13 1)), none], [], _, _)) (by decide +kernel) rfl ?_
  refine Ru.kI (q := (.iconst 0, 1)) (c := 0) (by decide +kernel) rfl (by decide) ?_
  refine Ru.op (q := (.istore 4, 2)) (S' := (8, [some (.ref 13), some (.ref 3), some (vI v2), some (vI (S.F 13 1)), some (vI 0)], [], _, _)) (by decide +kernel) rfl ?_
  obtain ⟨o9, e13, h⟩ := ob_some h
  refine g39L8_ok FU _ _ _ e13 _ ?_
  intro d10 d11 d12
  refine Ru.op (q := (.aload_n 0, 1)) (by decide +kernel) rfl ?_
  refine Ru.getI (i := 57) (x := (o9.F 13 1)) (by decide +kernel) (by rfl) (hp13 _) (by decide) rfl (eI_of _) ?_
  refine Ru.op (q := (.iload_n 3, 1)) (by decide +kernel) rfl ?_
  refine Ru.ar2 (i := .isub) (z := ((o9.F 13 1) - (S.F 13 1))) (by decide +kernel) rfl (ar_sub _ _) ?_
  cases h
  exact Ru.iret (by decide +kernel) rfl rfl
def g19 (S : St) (v1 : Int) : Option (Nat × Int × St) := ob (g20 S v1 (S.F 13 2)) (fun o1 => gd (inR o1.1) (if o1.1 = (-1) then some (1, 0, (o1.2.f 0 6 (o1.2.F 1 3)).ho) else gd (ixR o1.1 160) (if 16 < (o1.2.A 7 o1.1) then some (2, 0, o1.2.ho) else if 8 < (o1.2.A 8 o1.1) then some (2, 0, o1.2.ho) else if 99 < (o1.2.F 1 10) then some (2, 0, o1.2.ho) else ob (g39 (((o1.2.f 13 2 (o1.2.F 1 10)).f 1 1 0).f 0 6 (-1)) o1.1) (fun o9 => some (0, o9.1, o9.2)))))
set_option maxRecDepth 100000 in
set_option maxHeartbeats 4000000 in
theorem g19_ok {S : St} {v1 : Int} {o : Nat × Int × St} (h : g19 S v1 = some o) : Ru none 272 6545 19 (0, mn_pad (mn_ent [.ref 0, vI v1]) 3, [], S.ns, Hp S) ((o.1, tv o.1 o.2.1), o.2.2.ns, Hp o.2.2) := by
  unfold g19 at h
  show Ru none 272 6545 19 (0, [some (.ref 0), some (vI v1), none], [], S.ns, Hp S) _
  refine Ru.op (q := (.aload_n 0, 1)) (by decide +kernel) rfl ?_
  refine Ru.get (i := 12) (v := .ref 1) (by decide +kernel) (by rfl) (hp0 _) (by decide) rfl ?_
  refine Ru.op (q := (.iload_n 1, 1)) (by decide +kernel) rfl ?_
  refine Ru.op (q := (.aload_n 0, 1)) (by decide +kernel) rfl ?_
  refine Ru.get (i := 19) (v := .ref 13) (by decide +kernel) (by rfl) (hp0 _) (by decide) rfl ?_
  refine Ru.getI (i := 64) (x := (S.F 13 2)) (by decide +kernel) (by rfl) (hp13 _) (by decide) rfl (eI_of _) ?_
  obtain ⟨o1, e2, h⟩ := ob_some h
  refine Ru.vcall (i := 67) (j2 := 20) (as := [vI v1, vI (S.F 13 2)]) (by decide +kernel) (by rfl) rfl rfl (hp1 _) (by decide) ⟨(Nat.le_of_ble_eq_true rfl), (by show 19 + 4 ≤ 6545; exact Nat.le_of_ble_eq_true rfl), Nat.le_of_ble_eq_true rfl, Nat.le_of_ble_eq_true rfl⟩ ((g20_ok e2).up (Nat.le_of_ble_eq_true rfl) (Nat.le_of_ble_eq_true rfl)) ?_
  refine Ru.op (q := (.istore_n 2, 1)) (S' := (16, [some (.ref 0), some (vI v1), some (vI o1.1)], [], _, _)) (by decide +kernel) rfl ?_
  refine Ru.op (q := (.iload_n 2, 1)) (by decide +kernel) rfl ?_
  refine Ru.kI (q := (.iconst (-1), 1)) (c := (-1)) (by decide +kernel) rfl (by decide) ?_
  obtain ⟨g3, h⟩ := gd_some h
  by_cases b4 : o1.1 = (-1)
  · replace h := if_t b4 h
    refine Ru.br2 (k := .ne) (off := 22) (bb := false) (tg := 21) (by decide +kernel) (by decide +kernel) (ci_ne0 g3 (by decide) b4) rfl ?_
    refine Ru.op (q := (.aload_n 0, 1)) (by decide +kernel) rfl ?_
    refine Ru.op (q := (.aload_n 0, 1)) (by decide +kernel) rfl ?_
    refine Ru.get (i := 12) (v := .ref 1) (by decide +kernel) (by rfl) (hp0 _) (by decide) rfl ?_
    refine Ru.getI (i := 71) (x := (o1.2.F 1 3)) (by decide +kernel) (by rfl) (hp1 _) (by decide) rfl (eI_of _) ?_
    refine Ru.putH (i := 43) (by decide +kernel) (by rfl) (hp0 _) (by decide) (Nat.le_of_ble_eq_true rfl) rfl (by decide +kernel) (pf_0_6 _ _) ?_
    cases h
    exact tho (S := (o1.2.f 0 6 (o1.2.F 1 3))) (Ru.thr (q := (.new 51, 3)) (by decide +kernel) rfl rfl (by decide +kernel))
  · replace h := if_f b4 h
    refine Ru.br2 (k := .ne) (off := 22) (bb := true) (tg := 40) (by decide +kernel) (by decide +kernel) (ci_ne1 g3 (by decide) b4) rfl ?_
    refine Ru.op (q := (.aload_n 0, 1)) (by decide +kernel) rfl ?_
    refine Ru.get (i := 12) (v := .ref 1) (by decide +kernel) (by rfl) (hp0 _) (by decide) rfl ?_
    refine Ru.get (i := 74) (v := .ref 3) (by decide +kernel) (by rfl) (hp1 _) (by decide) rfl ?_
    refine Ru.get (i := 78) (v := .ref 7) (by decide +kernel) (by rfl) (hp3 _) (by decide) rfl ?_
    refine Ru.op (q := (.iload_n 2, 1)) (by decide +kernel) rfl ?_
    obtain ⟨g5, h⟩ := gd_some h
    refine Ru.ildI (i := o1.1) (z := (o1.2.A 7 o1.1)) (by decide +kernel) (hp7 _) g5 (eI_of _) ?_
    refine Ru.kI (q := (.bipush 16, 2)) (c := 16) (by decide +kernel) rfl (by decide) ?_
    by_cases b6 : 16 < (o1.2.A 7 o1.1)
    · replace h := if_t b6 h
      refine Ru.br2 (k := .gt) (off := 32) (bb := true) (tg := 86) (by decide +kernel) (by decide +kernel) (ci_gt1 (inR_to _) (by decide) b6) rfl ?_
      cases h
      exact tho (S := o1.2) (Ru.thr (q := (.new 88, 3)) (by decide +kernel) rfl rfl (by decide +kernel))
    · replace h := if_f b6 h
      refine Ru.br2 (k := .gt) (off := 32) (bb := false) (tg := 57) (by decide +kernel) (by decide +kernel) (ci_gt0 (inR_to _) (by decide) b6) rfl ?_
      refine Ru.op (q := (.aload_n 0, 1)) (by decide +kernel) rfl ?_
      refine Ru.get (i := 12) (v := .ref 1) (by decide +kernel) (by rfl) (hp0 _) (by decide) rfl ?_
      refine Ru.get (i := 74) (v := .ref 3) (by decide +kernel) (by rfl) (hp1 _) (by decide) rfl ?_
      refine Ru.get (i := 84) (v := .ref 8) (by decide +kernel) (by rfl) (hp3 _) (by decide) rfl ?_
      refine Ru.op (q := (.iload_n 2, 1)) (by decide +kernel) rfl ?_
      refine Ru.ildI (i := o1.1) (z := (o1.2.A 8 o1.1)) (by decide +kernel) (hp8 _) g5 (eI_of _) ?_
      refine Ru.kI (q := (.bipush 8, 2)) (c := 8) (by decide +kernel) rfl (by decide) ?_
      by_cases b7 : 8 < (o1.2.A 8 o1.1)
      · replace h := if_t b7 h
        refine Ru.br2 (k := .gt) (off := 15) (bb := true) (tg := 86) (by decide +kernel) (by decide +kernel) (ci_gt1 (inR_to _) (by decide) b7) rfl ?_
        cases h
        exact tho (S := o1.2) (Ru.thr (q := (.new 88, 3)) (by decide +kernel) rfl rfl (by decide +kernel))
      · replace h := if_f b7 h
        refine Ru.br2 (k := .gt) (off := 15) (bb := false) (tg := 74) (by decide +kernel) (by decide +kernel) (ci_gt0 (inR_to _) (by decide) b7) rfl ?_
        refine Ru.op (q := (.aload_n 0, 1)) (by decide +kernel) rfl ?_
        refine Ru.get (i := 12) (v := .ref 1) (by decide +kernel) (by rfl) (hp0 _) (by decide) rfl ?_
        refine Ru.getI (i := 87) (x := (o1.2.F 1 10)) (by decide +kernel) (by rfl) (hp1 _) (by decide) rfl (eI_of _) ?_
        refine Ru.kI (q := (.bipush 99, 2)) (c := 99) (by decide +kernel) rfl (by decide) ?_
        by_cases b8 : 99 < (o1.2.F 1 10)
        · replace h := if_t b8 h
          refine Ru.br2 (k := .le) (off := 11) (bb := false) (tg := 86) (by decide +kernel) (by decide +kernel) (ci_le0 (inR_to _) (by decide) b8) rfl ?_
          cases h
          exact tho (S := o1.2) (Ru.thr (q := (.new 88, 3)) (by decide +kernel) rfl rfl (by decide +kernel))
        · replace h := if_f b8 h
          refine Ru.br2 (k := .le) (off := 11) (bb := true) (tg := 94) (by decide +kernel) (by decide +kernel) (ci_le1 (inR_to _) (by decide) b8) rfl ?_
          refine Ru.op (q := (.aload_n 0, 1)) (by decide +kernel) rfl ?_
          refine Ru.get (i := 19) (v := .ref 13) (by decide +kernel) (by rfl) (hp0 _) (by decide) rfl ?_
          refine Ru.op (q := (.aload_n 0, 1)) (by decide +kernel) rfl ?_
          refine Ru.get (i := 12) (v := .ref 1) (by decide +kernel) (by rfl) (hp0 _) (by decide) rfl ?_
          refine Ru.getI (i := 87) (x := (o1.2.F 1 10)) (by decide +kernel) (by rfl) (hp1 _) (by decide) rfl (eI_of _) ?_
          refine Ru.putH (i := 64) (by decide +kernel) (by rfl) (hp13 _) (by decide) (Nat.le_of_ble_eq_true rfl) rfl (by decide +kernel) (pf_13_2 _ _) ?_
          refine Ru.op (q := (.aload_n 0, 1)) (by decide +kernel) rfl ?_
          refine Ru.get (i := 12) (v := .ref 1) (by decide +kernel) (by rfl) (hp0 _) (by decide) rfl ?_
          refine Ru.kI (q := (.iconst 0, 1)) (c := 0) (by decide +kernel) rfl (by decide) ?_
          refine Ru.putH (i := 54) (by decide +kernel) (by rfl) (hp1 _) (by decide) (Nat.le_of_ble_eq_true rfl) rfl (by decide +kernel) (pf_1_1 _ _) ?_
          refine Ru.op (q := (.aload_n 0, 1)) (by decide +kernel) rfl ?_
          refine Ru.kI (q := (.iconst (-1), 1)) (c := (-1)) (by decide +kernel) rfl (by decide) ?_
          refine Ru.putH (i := 43) (by decide +kernel) (by rfl) (hp0 _) (by decide) (Nat.le_of_ble_eq_true rfl) rfl (by decide +kernel) (pf_0_6 _ _) ?_
          refine Ru.op (q := (.aload_n 0, 1)) (by decide +kernel) rfl ?_
          refine Ru.get (i := 19) (v := .ref 13) (by decide +kernel) (by rfl) (hp0 _) (by decide) rfl ?_
          refine Ru.op (q := (.aload_n 0, 1)) (by decide +kernel) rfl ?_
          refine Ru.get (i := 12) (v := .ref 1) (by decide +kernel) (by rfl) (hp0 _) (by decide) rfl ?_
          refine Ru.get (i := 74) (v := .ref 3) (by decide +kernel) (by rfl) (hp1 _) (by decide) rfl ?_
          refine Ru.op (q := (.iload_n 2, 1)) (by decide +kernel) rfl ?_
          obtain ⟨o9, e10, h⟩ := ob_some h
          refine Ru.vcall (i := 91) (j2 := 39) (as := [.ref 3, vI o1.1]) (by decide +kernel) (by rfl) rfl rfl (hp13 _) (by decide) ⟨(Nat.le_of_ble_eq_true rfl), (by show 19 + 5 ≤ 6545; exact Nat.le_of_ble_eq_true rfl), Nat.le_of_ble_eq_true rfl, Nat.le_of_ble_eq_true rfl⟩ ((g39_ok e10).up (Nat.le_of_ble_eq_true rfl) (Nat.le_of_ble_eq_true rfl)) ?_
          cases h
          exact Ru.iret (by decide +kernel) rfl rfl
def g62L4 (S : St) (v1 : Int) : Nat → Int → Int → Option (Int)
  | 0, _, _ => none
  | n + 1, v2, v3 => gd (inR v3) (if v3 < (S.F 13 1) then gd (ixR v3 100) (ob (S.R 14 v3) (fun c4 => gK S c4 (fun c6 n7 n8 n9 n10 n11 n12 => if n7 = 0 then gd (inR v2) (if v2 = (-1) then g62L4 S v1 n v3 (v3 + 1) else gd (inR v1) (if v1 = 0 then gC S c6 (fun c20 c21 n22 n23 => gd (ixR v2 100) (ob (S.R 14 v2) (fun c27 => gK S c27 (fun c29 n30 n31 n32 n33 n34 n35 => gC S c29 (fun c38 c39 n40 n41 => if n23 < n41 then g62L4 S v1 n v3 (v3 + 1) else g62L4 S v1 n v2 (v3 + 1)))))) else g62L4 S v1 n v2 (v3 + 1))) else g62L4 S v1 n v2 (v3 + 1)))) else some v2)
set_option maxRecDepth 100000 in
set_option maxHeartbeats 4000000 in
theorem g62L4_ok {S : St} {v1 : Int} : ∀ (n : Nat) (v2 : Int) (v3 : Int) (out : Int), g62L4 S v1 n v2 v3 = some out → ∀ r, (∀ (e0 e1 e3 : Option Value), Ru none 10 200 62 (68, [e0, e1, some (vI out), e3], [], S.ns, Hp S) r) → Ru none 10 200 62 (4, [some (.ref 13), some (vI v1), some (vI v2), some (vI v3)], [], S.ns, Hp S) r := by
  intro n
  induction n with
  | zero => intro v2 v3 out h; cases h
  | succ n ih =>
    intro v2 v3 out h r hk
    unfold g62L4 at h
    refine Ru.op (q := (.iload_n 3, 1)) (by decide +kernel) rfl ?_
    refine Ru.op (q := (.aload_n 0, 1)) (by decide +kernel) rfl ?_
    refine Ru.getI (i := 57) (x := (S.F 13 1)) (by decide +kernel) (by rfl) (hp13 _) (by decide) rfl (eI_of _) ?_
    obtain ⟨g1, h⟩ := gd_some h
    by_cases b2 : v3 < (S.F 13 1)
    · replace h := if_t b2 h
      refine Ru.br2 (k := .ge) (off := 59) (bb := false) (tg := 12) (by decide +kernel) (by decide +kernel) (ci_ge0 g1 (inR_to _) b2) rfl ?_
      refine Ru.op (q := (.aload_n 0, 1)) (by decide +kernel) rfl ?_
      refine Ru.get (i := 11) (v := .ref 14) (by decide +kernel) (by rfl) (hp13 _) (by decide) rfl ?_
      refine Ru.op (q := (.iload_n 3, 1)) (by decide +kernel) rfl ?_
      obtain ⟨g3, h⟩ := gd_some h
      obtain ⟨c4, e5, h⟩ := ob_some h
      refine Ru.aldI (i := v3) (b := c4) (by decide +kernel) (hp14 _) (by decide) g3 e5 ?_
      obtain ⟨c6, n7, n8, n9, n10, n11, n12, e13, q14, h⟩ := gK_some h
      refine Ru.get (i := 60) (v := vI n7) (by decide +kernel) (by rfl) q14 (by decide) rfl ?_
      by_cases b15 : n7 = 0
      · replace h := if_t b15 h
        refine Ru.br (k := .ne) (off := 41) (bb := false) (tg := 24) (by decide +kernel) (by decide +kernel) (cz (ci_ne0 e13.1 (by decide) b15)) rfl ?_
        refine Ru.op (q := (.iload_n 2, 1)) (by decide +kernel) rfl ?_
        refine Ru.kI (q := (.iconst (-1), 1)) (c := (-1)) (by decide +kernel) rfl (by decide) ?_
        obtain ⟨g16, h⟩ := gd_some h
        by_cases b17 : v2 = (-1)
        · replace h := if_t b17 h
          refine Ru.br2 (k := .eq) (off := 34) (bb := true) (tg := 60) (by decide +kernel) (by decide +kernel) (ci_eq1 g16 (by decide) b17) rfl ?_
          refine Ru.op (q := (.iload_n 3, 1)) (by decide +kernel) rfl ?_
          refine Ru.op (q := (.istore_n 2, 1)) (S' := (62, [some (.ref 13), some (vI v1), some (vI v3), some (vI v3)], [], _, _)) (by decide +kernel) rfl ?_
          refine Ru.inc (x := v3) (z := (v3 + 1)) (xs' := [some (.ref 13), some (vI v1), some (vI v3), some (vI (v3 + 1))]) (by decide +kernel) rfl rfl rfl ?_
          refine Ru.op (q := (.goto (-61), 3)) (by decide +kernel) rfl ?_
          exact ih _ _ _ h r hk
        · replace h := if_f b17 h
          refine Ru.br2 (k := .eq) (off := 34) (bb := false) (tg := 29) (by decide +kernel) (by decide +kernel) (ci_eq0 g16 (by decide) b17) rfl ?_
          refine Ru.op (q := (.iload_n 1, 1)) (by decide +kernel) rfl ?_
          obtain ⟨g18, h⟩ := gd_some h
          by_cases b19 : v1 = 0
          · replace h := if_t b19 h
            refine Ru.br (k := .ne) (off := 32) (bb := false) (tg := 33) (by decide +kernel) (by decide +kernel) (cz (ci_ne0 g18 (by decide) b19)) rfl ?_
            refine Ru.op (q := (.aload_n 0, 1)) (by decide +kernel) rfl ?_
            refine Ru.get (i := 11) (v := .ref 14) (by decide +kernel) (by rfl) (hp13 _) (by decide) rfl ?_
            refine Ru.op (q := (.iload_n 3, 1)) (by decide +kernel) rfl ?_
            refine Ru.aldI (i := v3) (b := c4) (by decide +kernel) (hp14 _) (by decide) g3 e5 ?_
            refine Ru.get (i := 109) (v := .ref c6) (by decide +kernel) (by rfl) q14 (by decide) rfl ?_
            obtain ⟨c20, c21, n22, n23, e24, q25, h⟩ := gC_some h
            refine Ru.get (i := 141) (v := vI n23) (by decide +kernel) (by rfl) q25 (by decide) rfl ?_
            refine Ru.op (q := (.aload_n 0, 1)) (by decide +kernel) rfl ?_
            refine Ru.get (i := 11) (v := .ref 14) (by decide +kernel) (by rfl) (hp13 _) (by decide) rfl ?_
            refine Ru.op (q := (.iload_n 2, 1)) (by decide +kernel) rfl ?_
            obtain ⟨g26, h⟩ := gd_some h
            obtain ⟨c27, e28, h⟩ := ob_some h
            refine Ru.aldI (i := v2) (b := c27) (by decide +kernel) (hp14 _) (by decide) g26 e28 ?_
            obtain ⟨c29, n30, n31, n32, n33, n34, n35, e36, q37, h⟩ := gK_some h
            refine Ru.get (i := 109) (v := .ref c29) (by decide +kernel) (by rfl) q37 (by decide) rfl ?_
            obtain ⟨c38, c39, n40, n41, e42, q43, h⟩ := gC_some h
            refine Ru.get (i := 141) (v := vI n41) (by decide +kernel) (by rfl) q43 (by decide) rfl ?_
            by_cases b44 : n23 < n41
            · replace h := if_t b44 h
              refine Ru.br2 (k := .ge) (off := 5) (bb := false) (tg := 60) (by decide +kernel) (by decide +kernel) (ci_ge0 e24.2 e42.2 b44) rfl ?_
              refine Ru.op (q := (.iload_n 3, 1)) (by decide +kernel) rfl ?_
              refine Ru.op (q := (.istore_n 2, 1)) (S' := (62, [some (.ref 13), some (vI v1), some (vI v3), some (vI v3)], [], _, _)) (by decide +kernel) rfl ?_
              refine Ru.inc (x := v3) (z := (v3 + 1)) (xs' := [some (.ref 13), some (vI v1), some (vI v3), some (vI (v3 + 1))]) (by decide +kernel) rfl rfl rfl ?_
              refine Ru.op (q := (.goto (-61), 3)) (by decide +kernel) rfl ?_
              exact ih _ _ _ h r hk
            · replace h := if_f b44 h
              refine Ru.br2 (k := .ge) (off := 5) (bb := true) (tg := 62) (by decide +kernel) (by decide +kernel) (ci_ge1 e24.2 e42.2 b44) rfl ?_
              refine Ru.inc (x := v3) (z := (v3 + 1)) (xs' := [some (.ref 13), some (vI v1), some (vI v2), some (vI (v3 + 1))]) (by decide +kernel) rfl rfl rfl ?_
              refine Ru.op (q := (.goto (-61), 3)) (by decide +kernel) rfl ?_
              exact ih _ _ _ h r hk
          · replace h := if_f b19 h
            refine Ru.br (k := .ne) (off := 32) (bb := true) (tg := 62) (by decide +kernel) (by decide +kernel) (cz (ci_ne1 g18 (by decide) b19)) rfl ?_
            refine Ru.inc (x := v3) (z := (v3 + 1)) (xs' := [some (.ref 13), some (vI v1), some (vI v2), some (vI (v3 + 1))]) (by decide +kernel) rfl rfl rfl ?_
            refine Ru.op (q := (.goto (-61), 3)) (by decide +kernel) rfl ?_
            exact ih _ _ _ h r hk
      · replace h := if_f b15 h
        refine Ru.br (k := .ne) (off := 41) (bb := true) (tg := 62) (by decide +kernel) (by decide +kernel) (cz (ci_ne1 e13.1 (by decide) b15)) rfl ?_
        refine Ru.inc (x := v3) (z := (v3 + 1)) (xs' := [some (.ref 13), some (vI v1), some (vI v2), some (vI (v3 + 1))]) (by decide +kernel) rfl rfl rfl ?_
        refine Ru.op (q := (.goto (-61), 3)) (by decide +kernel) rfl ?_
        exact ih _ _ _ h r hk
    · replace h := if_f b2 h
      refine Ru.br2 (k := .ge) (off := 59) (bb := true) (tg := 68) (by decide +kernel) (by decide +kernel) (ci_ge1 g1 (inR_to _) b2) rfl ?_
      cases h
      exact hk _ _ _
def g62 (S : St) (v1 : Int) : Option (Int) := ob (g62L4 S v1 FU (-1) 0) (fun o45 => some o45)
set_option maxRecDepth 100000 in
set_option maxHeartbeats 4000000 in
theorem g62_ok {S : St} {v1 : Int} {o : Int} (h : g62 S v1 = some o) : Ru none 10 200 62 (0, mn_pad (mn_ent [.ref 13, vI v1]) 4, [], S.ns, Hp S) ((0, some (vI o)), S.ns, Hp S) := by
  unfold g62 at h
  show Ru none 10 200 62 (0, [some (.ref 13), some (vI v1), none, none], [], S.ns, Hp S) _
  refine Ru.kI (q := (.iconst (-1), 1)) (c := (-1)) (by decide +kernel) rfl (by decide) ?_
  refine Ru.op (q := (.istore_n 2, 1)) (S' := (2, [some (.ref 13), some (vI v1), some (vI (-1)), none], [], _, _)) (by decide +kernel) rfl ?_
  refine Ru.kI (q := (.iconst 0, 1)) (c := 0) (by decide +kernel) rfl (by decide) ?_
  refine Ru.op (q := (.istore_n 3, 1)) (S' := (4, [some (.ref 13), some (vI v1), some (vI (-1)), some (vI 0)], [], _, _)) (by decide +kernel) rfl ?_
  obtain ⟨o45, e49, h⟩ := ob_some h
  refine g62L4_ok FU _ _ _ e49 _ ?_
  intro d46 d47 d48
  refine Ru.op (q := (.iload_n 2, 1)) (by decide +kernel) rfl ?_
  cases h
  exact Ru.iret (by decide +kernel) rfl rfl
def g63L2 (v1 : Int) : Nat → Int → St → Option (Sum (St) (Int × St))
  | 0, _, _ => none
  | n + 1, v2, S => gd (inR v2) (if v2 < (S.F 13 1) then gd (ixR v2 100) (ob (S.R 14 v2) (fun c35 => gK S c35 (fun c37 n38 n39 n40 n41 n42 n43 => if n38 = 1 then gd (ixR v1 100) (ob (S.R 14 v1) (fun c48 => gK S c48 (fun c50 n51 n52 n53 n54 n55 n56 => ob (g54 S c37 c50) (fun o59 => gd (inR o59.1) (if o59.1 = 0 then g63L2 v1 n (v2 + 1) o59.2 else some (.inr (1, o59.2))))))) else g63L2 v1 n (v2 + 1) S))) else some (.inl S))
set_option maxRecDepth 100000 in
set_option maxHeartbeats 4000000 in
theorem g63L2_ok {v1 : Int} : ∀ (n : Nat) (v2 : Int) (S : St) (out : Sum (St) (Int × St)), g63L2 v1 n v2 S = some out → ∀ r, (∀ o, out = .inl o → ∀ (e0 e1 e2 : Option Value), Ru none 13 278 63 (59, [e0, e1, e2], [], o.ns, Hp o) r) → (∀ o, out = .inr o → r = ((0, some (vI o.1)), o.2.ns, Hp o.2)) → Ru none 13 278 63 (2, [some (.ref 13), some (vI v1), some (vI v2)], [], S.ns, Hp S) r := by
  intro n
  induction n with
  | zero => intro v2 S out h; cases h
  | succ n ih =>
    intro v2 S out h r hk hr
    unfold g63L2 at h
    refine Ru.op (q := (.iload_n 2, 1)) (by decide +kernel) rfl ?_
    refine Ru.op (q := (.aload_n 0, 1)) (by decide +kernel) rfl ?_
    refine Ru.getI (i := 57) (x := (S.F 13 1)) (by decide +kernel) (by rfl) (hp13 _) (by decide) rfl (eI_of _) ?_
    obtain ⟨g32, h⟩ := gd_some h
    by_cases b33 : v2 < (S.F 13 1)
    · replace h := if_t b33 h
      refine Ru.br2 (k := .ge) (off := 52) (bb := false) (tg := 10) (by decide +kernel) (by decide +kernel) (ci_ge0 g32 (inR_to _) b33) rfl ?_
      refine Ru.op (q := (.aload_n 0, 1)) (by decide +kernel) rfl ?_
      refine Ru.get (i := 11) (v := .ref 14) (by decide +kernel) (by rfl) (hp13 _) (by decide) rfl ?_
      refine Ru.op (q := (.iload_n 2, 1)) (by decide +kernel) rfl ?_
      obtain ⟨g34, h⟩ := gd_some h
      obtain ⟨c35, e36, h⟩ := ob_some h
      refine Ru.aldI (i := v2) (b := c35) (by decide +kernel) (hp14 _) (by decide) g34 e36 ?_
      obtain ⟨c37, n38, n39, n40, n41, n42, n43, e44, q45, h⟩ := gK_some h
      refine Ru.get (i := 60) (v := vI n38) (by decide +kernel) (by rfl) q45 (by decide) rfl ?_
      refine Ru.kI (q := (.iconst 1, 1)) (c := 1) (by decide +kernel) rfl (by decide) ?_
      by_cases b46 : n38 = 1
      · replace h := if_t b46 h
        refine Ru.br2 (k := .ne) (off := 33) (bb := false) (tg := 23) (by decide +kernel) (by decide +kernel) (ci_ne0 e44.1 (by decide) b46) rfl ?_
        refine Ru.op (q := (.aload_n 0, 1)) (by decide +kernel) rfl ?_
        refine Ru.get (i := 38) (v := .ref 23) (by decide +kernel) (by rfl) (hp13 _) (by decide) rfl ?_
        refine Ru.op (q := (.aload_n 0, 1)) (by decide +kernel) rfl ?_
        refine Ru.get (i := 11) (v := .ref 14) (by decide +kernel) (by rfl) (hp13 _) (by decide) rfl ?_
        refine Ru.op (q := (.iload_n 2, 1)) (by decide +kernel) rfl ?_
        refine Ru.aldI (i := v2) (b := c35) (by decide +kernel) (hp14 _) (by decide) g34 e36 ?_
        refine Ru.get (i := 109) (v := .ref c37) (by decide +kernel) (by rfl) q45 (by decide) rfl ?_
        refine Ru.op (q := (.aload_n 0, 1)) (by decide +kernel) rfl ?_
        refine Ru.get (i := 11) (v := .ref 14) (by decide +kernel) (by rfl) (hp13 _) (by decide) rfl ?_
        refine Ru.op (q := (.iload_n 1, 1)) (by decide +kernel) rfl ?_
        obtain ⟨g47, h⟩ := gd_some h
        obtain ⟨c48, e49, h⟩ := ob_some h
        refine Ru.aldI (i := v1) (b := c48) (by decide +kernel) (hp14 _) (by decide) g47 e49 ?_
        obtain ⟨c50, n51, n52, n53, n54, n55, n56, e57, q58, h⟩ := gK_some h
        refine Ru.get (i := 109) (v := .ref c50) (by decide +kernel) (by rfl) q58 (by decide) rfl ?_
        obtain ⟨o59, e60, h⟩ := ob_some h
        refine Ru.vcall (i := 112) (j2 := 54) (as := [.ref c37, .ref c50]) (by decide +kernel) (by rfl) rfl rfl (hp23 _) (by decide) ⟨(Nat.le_of_ble_eq_true rfl), (by show 19 + 5 ≤ 278; exact Nat.le_of_ble_eq_true rfl), Nat.le_of_ble_eq_true rfl, Nat.le_of_ble_eq_true rfl⟩ ((g54_ok e60).up (Nat.le_of_ble_eq_true rfl) (Nat.le_of_ble_eq_true rfl)) ?_
        obtain ⟨g61, h⟩ := gd_some h
        by_cases b62 : o59.1 = 0
        · replace h := if_t b62 h
          refine Ru.br (k := .eq) (off := 5) (bb := true) (tg := 53) (by decide +kernel) (by decide +kernel) (cz (ci_eq1 g61 (by decide) b62)) rfl ?_
          refine Ru.inc (x := v2) (z := (v2 + 1)) (xs' := [some (.ref 13), some (vI v1), some (vI (v2 + 1))]) (by decide +kernel) rfl rfl rfl ?_
          refine Ru.op (q := (.goto (-54), 3)) (by decide +kernel) rfl ?_
          exact ih _ _ _ h r hk hr
        · replace h := if_f b62 h
          refine Ru.br (k := .eq) (off := 5) (bb := false) (tg := 51) (by decide +kernel) (by decide +kernel) (cz (ci_eq0 g61 (by decide) b62)) rfl ?_
          refine Ru.kI (q := (.iconst 1, 1)) (c := 1) (by decide +kernel) rfl (by decide) ?_
          cases h
          have h9 := hr _ rfl
          subst h9
          exact Ru.iret (by decide +kernel) rfl (nar_b1 (by decide))
      · replace h := if_f b46 h
        refine Ru.br2 (k := .ne) (off := 33) (bb := true) (tg := 53) (by decide +kernel) (by decide +kernel) (ci_ne1 e44.1 (by decide) b46) rfl ?_
        refine Ru.inc (x := v2) (z := (v2 + 1)) (xs' := [some (.ref 13), some (vI v1), some (vI (v2 + 1))]) (by decide +kernel) rfl rfl rfl ?_
        refine Ru.op (q := (.goto (-54), 3)) (by decide +kernel) rfl ?_
        exact ih _ _ _ h r hk hr
    · replace h := if_f b33 h
      refine Ru.br2 (k := .ge) (off := 52) (bb := true) (tg := 59) (by decide +kernel) (by decide +kernel) (ci_ge1 g32 (inR_to _) b33) rfl ?_
      cases h
      exact hk _ rfl _ _ _
def g63 (S : St) (v1 : Int) : Option (Int × St) := obr (g63L2 v1 FU 0 S) (fun o63 => some (0, o63))
set_option maxRecDepth 100000 in
set_option maxHeartbeats 4000000 in
theorem g63_ok {S : St} {v1 : Int} {o : Int × St} (h : g63 S v1 = some o) : Ru none 13 278 63 (0, mn_pad (mn_ent [.ref 13, vI v1]) 3, [], S.ns, Hp S) ((0, some (vI o.1)), o.2.ns, Hp o.2) := by
  unfold g63 at h
  show Ru none 13 278 63 (0, [some (.ref 13), some (vI v1), none], [], S.ns, Hp S) _
  refine Ru.kI (q := (.iconst 0, 1)) (c := 0) (by decide +kernel) rfl (by decide) ?_
  refine Ru.op (q := (.istore_n 2, 1)) (S' := (2, [some (.ref 13), some (vI v1), some (vI 0)], [], _, _)) (by decide +kernel) rfl ?_
  rcases obr_some h with ⟨o63, e67, h⟩ | e67
  · refine g63L2_ok FU _ _ _ e67 _ (fun o' e' => ?_) (fun o' e' => by cases e')
    cases e'
    intro d64 d65 d66
    refine Ru.kI (q := (.iconst 0, 1)) (c := 0) (by decide +kernel) rfl (by decide) ?_
    cases h
    exact Ru.iret (by decide +kernel) rfl (nar_b1 (by decide))
  · exact g63L2_ok FU _ _ _ e67 _ (fun o' e' => by cases e') (fun o' e' => by cases e'; rfl)
