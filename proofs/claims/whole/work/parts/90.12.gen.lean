def g113L7  : Nat → Int → St → Option (Sum (Int × St) (Int × St))
  | 0, _, _ => none
  | n + 1, v3, S => gd (inR v3) (if 0 < v3 then gd (ixR (v3 - 1) 10) (if (S.A 54 (v3 - 1)) = 33 then g113L7 n (v3 + (-1)) (S.f 36 30 ((S.F 36 30) - 1)) else if (S.A 54 (v3 - 1)) = 63 then g113L7 n (v3 + (-1)) (S.f 36 30 ((S.F 36 30) - 1)) else if (S.A 54 (v3 - 1)) = 126 then g113L7 n (v3 + (-1)) S else if (S.A 56 (v3 - 1)) = 0 then some (.inr (v3, ((S.a 56 (v3 - 1) 1).a 57 (v3 - 1) (S.F 36 42)))) else if (S.A 54 (v3 - 1)) = 38 then if 1 = (S.A 55 (v3 - 1)) then if (S.F 36 36) = 0 then ob (g114 S (S.A 57 (v3 - 1)) (S.F 36 42)) (fun o33 => g113L7 n (v3 + (-1)) (o33.2.f 36 42 o33.1)) else g113L7 n (v3 + (-1)) (S.f 36 42 0) else if (S.F 36 36) = 0 then gd (inR ((S.A 57 (v3 - 1)) + (S.F 36 42))) (if 16 < ((S.A 57 (v3 - 1)) + (S.F 36 42)) then g113L7 n (v3 + (-1)) ((S.f 36 42 ((S.A 57 (v3 - 1)) + (S.F 36 42))).f 36 36 1) else g113L7 n (v3 + (-1)) ((S.f 36 42 ((S.A 57 (v3 - 1)) + (S.F 36 42))).f 36 36 0)) else g113L7 n (v3 + (-1)) ((S.f 36 42 ((S.A 57 (v3 - 1)) + (S.F 36 42))).f 36 36 1) else if 0 = (S.A 55 (v3 - 1)) then if (S.F 36 36) = 0 then ob (g114 S (S.A 57 (v3 - 1)) (S.F 36 42)) (fun o40 => g113L7 n (v3 + (-1)) (o40.2.f 36 42 o40.1)) else g113L7 n (v3 + (-1)) (S.f 36 42 0) else if (S.F 36 36) = 0 then gd (inR ((S.A 57 (v3 - 1)) + (S.F 36 42))) (if 16 < ((S.A 57 (v3 - 1)) + (S.F 36 42)) then g113L7 n (v3 + (-1)) ((S.f 36 42 ((S.A 57 (v3 - 1)) + (S.F 36 42))).f 36 36 1) else g113L7 n (v3 + (-1)) ((S.f 36 42 ((S.A 57 (v3 - 1)) + (S.F 36 42))).f 36 36 0)) else g113L7 n (v3 + (-1)) ((S.f 36 42 ((S.A 57 (v3 - 1)) + (S.F 36 42))).f 36 36 1)) else some (.inl (v3, S)))
set_option maxRecDepth 100000 in
set_option maxHeartbeats 4000000 in
theorem g113L7_ok : ∀ (n : Nat) (v3 : Int) (S : St) (d1 d2 d4 : Option Value) (out : Sum (Int × St) (Int × St)), g113L7 n v3 S = some out → ∀ r, (∀ o, out = .inl o → ∀ (e0 e1 e2 e4 : Option Value), Ru none 11 228 113 (208, [e0, e1, e2, some (vI o.1), e4], [], o.2.ns, Hp o.2) r) → (∀ o, out = .inr o → r = ((0, some (vI o.1)), o.2.ns, Hp o.2)) → Ru none 11 228 113 (7, [some (.ref 36), d1, d2, some (vI v3), d4], [], S.ns, Hp S) r := by
  intro n
  induction n with
  | zero => intro v3 S d1 d2 d4 out h; cases h
  | succ n ih =>
    intro v3 S d1 d2 d4 out h r hk hr
    unfold g113L7 at h
    refine Ru.op (q := (.iload_n 3, 1)) (by decide +kernel) rfl ?_
    obtain ⟨g23, h⟩ := gd_some h
    by_cases b24 : 0 < v3
    · replace h := if_t b24 h
      refine Ru.br (k := .le) (off := 200) (bb := false) (tg := 11) (by decide +kernel) (by decide +kernel) (cz (ci_le0 g23 (by decide) b24)) rfl ?_
      refine Ru.op (q := (.aload_n 0, 1)) (by decide +kernel) rfl ?_
      refine Ru.get (i := 69) (v := .ref 54) (by decide +kernel) (by rfl) (hp36 _) (by decide) rfl ?_
      refine Ru.op (q := (.iload_n 3, 1)) (by decide +kernel) rfl ?_
      refine Ru.kI (q := (.iconst 1, 1)) (c := 1) (by decide +kernel) rfl (by decide) ?_
      refine Ru.ar2 (i := .isub) (z := (v3 - 1)) (by decide +kernel) rfl (ar_sub _ _) ?_
      obtain ⟨g25, h⟩ := gd_some h
      refine Ru.ildI (i := (v3 - 1)) (z := (S.A 54 (v3 - 1))) (by decide +kernel) (hp54 _) g25 (eI_of _) ?_
      refine Ru.op (q := (.istore 4, 2)) (S' := (21, [some (.ref 36), d1, d2, some (vI v3), some (vI (S.A 54 (v3 - 1)))], [], _, _)) (by decide +kernel) rfl ?_
      refine Ru.op (q := (.iload 4, 2)) (by decide +kernel) rfl ?_
      refine Ru.kI (q := (.bipush 33, 2)) (c := 33) (by decide +kernel) rfl (by decide) ?_
      by_cases b26 : (S.A 54 (v3 - 1)) = 33
      · replace h := if_t b26 h
        refine Ru.br2 (k := .eq) (off := 10) (bb := true) (tg := 35) (by decide +kernel) (by decide +kernel) (ci_eq1 (inR_to _) (by decide) b26) rfl ?_
        refine Ru.op (q := (.aload_n 0, 1)) (by decide +kernel) rfl ?_
        refine Ru.op (q := (.dup, 1)) (by decide +kernel) rfl ?_
        refine Ru.getI (i := 158) (x := (S.F 36 30)) (by decide +kernel) (by rfl) (hp36 _) (by decide) rfl (eI_of _) ?_
        refine Ru.kI (q := (.iconst 1, 1)) (c := 1) (by decide +kernel) rfl (by decide) ?_
        refine Ru.ar2 (i := .isub) (z := ((S.F 36 30) - 1)) (by decide +kernel) rfl (ar_sub _ _) ?_
        refine Ru.putH (i := 158) (by decide +kernel) (by rfl) (hp36 _) (by decide) (Nat.le_of_ble_eq_true rfl) rfl (by decide +kernel) (pf_36_30 _ _) ?_
        refine Ru.op (q := (.goto 157, 3)) (by decide +kernel) rfl ?_
        refine Ru.inc (x := v3) (z := (v3 + (-1))) (xs' := [some (.ref 36), d1, d2, some (vI (v3 + (-1))), some (vI (S.A 54 (v3 - 1)))]) (by decide +kernel) rfl rfl rfl ?_
        refine Ru.op (q := (.goto (-198), 3)) (by decide +kernel) rfl ?_
        exact ih _ _ _ _ _ _ h r hk hr
      · replace h := if_f b26 h
        refine Ru.br2 (k := .eq) (off := 10) (bb := false) (tg := 28) (by decide +kernel) (by decide +kernel) (ci_eq0 (inR_to _) (by decide) b26) rfl ?_
        refine Ru.op (q := (.iload 4, 2)) (by decide +kernel) rfl ?_
        refine Ru.kI (q := (.bipush 63, 2)) (c := 63) (by decide +kernel) rfl (by decide) ?_
        by_cases b27 : (S.A 54 (v3 - 1)) = 63
        · replace h := if_t b27 h
          refine Ru.br2 (k := .ne) (off := 16) (bb := false) (tg := 35) (by decide +kernel) (by decide +kernel) (ci_ne0 (inR_to _) (by decide) b27) rfl ?_
          refine Ru.op (q := (.aload_n 0, 1)) (by decide +kernel) rfl ?_
          refine Ru.op (q := (.dup, 1)) (by decide +kernel) rfl ?_
          refine Ru.getI (i := 158) (x := (S.F 36 30)) (by decide +kernel) (by rfl) (hp36 _) (by decide) rfl (eI_of _) ?_
          refine Ru.kI (q := (.iconst 1, 1)) (c := 1) (by decide +kernel) rfl (by decide) ?_
          refine Ru.ar2 (i := .isub) (z := ((S.F 36 30) - 1)) (by decide +kernel) rfl (ar_sub _ _) ?_
          refine Ru.putH (i := 158) (by decide +kernel) (by rfl) (hp36 _) (by decide) (Nat.le_of_ble_eq_true rfl) rfl (by decide +kernel) (pf_36_30 _ _) ?_
          refine Ru.op (q := (.goto 157, 3)) (by decide +kernel) rfl ?_
          refine Ru.inc (x := v3) (z := (v3 + (-1))) (xs' := [some (.ref 36), d1, d2, some (vI (v3 + (-1))), some (vI (S.A 54 (v3 - 1)))]) (by decide +kernel) rfl rfl rfl ?_
          refine Ru.op (q := (.goto (-198), 3)) (by decide +kernel) rfl ?_
          exact ih _ _ _ _ _ _ h r hk hr
        · replace h := if_f b27 h
          refine Ru.br2 (k := .ne) (off := 16) (bb := true) (tg := 48) (by decide +kernel) (by decide +kernel) (ci_ne1 (inR_to _) (by decide) b27) rfl ?_
          refine Ru.op (q := (.iload 4, 2)) (by decide +kernel) rfl ?_
          refine Ru.kI (q := (.bipush 126, 2)) (c := 126) (by decide +kernel) rfl (by decide) ?_
          by_cases b28 : (S.A 54 (v3 - 1)) = 126
          · replace h := if_t b28 h
            refine Ru.br2 (k := .eq) (off := 37) (bb := true) (tg := 89) (by decide +kernel) (by decide +kernel) (ci_eq1 (inR_to _) (by decide) b28) rfl ?_
            refine Ru.op (q := (.iload 4, 2)) (by decide +kernel) rfl ?_
            refine Ru.kI (q := (.bipush 126, 2)) (c := 126) (by decide +kernel) rfl (by decide) ?_
            refine Ru.br2 (k := .eq) (off := 71) (bb := true) (tg := 164) (by decide +kernel) (by decide +kernel) (ci_eq1 (inR_to _) (by decide) b28) rfl ?_
            refine Ru.op (q := (.iload 4, 2)) (by decide +kernel) rfl ?_
            refine Ru.kI (q := (.bipush 126, 2)) (c := 126) (by decide +kernel) rfl (by decide) ?_
            refine Ru.br2 (k := .eq) (off := 34) (bb := true) (tg := 202) (by decide +kernel) (by decide +kernel) (ci_eq1 (inR_to _) (by decide) b28) rfl ?_
            refine Ru.inc (x := v3) (z := (v3 + (-1))) (xs' := [some (.ref 36), d1, d2, some (vI (v3 + (-1))), some (vI (S.A 54 (v3 - 1)))]) (by decide +kernel) rfl rfl rfl ?_
            refine Ru.op (q := (.goto (-198), 3)) (by decide +kernel) rfl ?_
            exact ih _ _ _ _ _ _ h r hk hr
          · replace h := if_f b28 h
            refine Ru.br2 (k := .eq) (off := 37) (bb := false) (tg := 55) (by decide +kernel) (by decide +kernel) (ci_eq0 (inR_to _) (by decide) b28) rfl ?_
            refine Ru.op (q := (.aload_n 0, 1)) (by decide +kernel) rfl ?_
            refine Ru.get (i := 75) (v := .ref 56) (by decide +kernel) (by rfl) (hp36 _) (by decide) rfl ?_
            refine Ru.op (q := (.iload_n 3, 1)) (by decide +kernel) rfl ?_
            refine Ru.kI (q := (.iconst 1, 1)) (c := 1) (by decide +kernel) rfl (by decide) ?_
            refine Ru.ar2 (i := .isub) (z := (v3 - 1)) (by decide +kernel) rfl (ar_sub _ _) ?_
            refine Ru.bldI (i := (v3 - 1)) (z := (S.A 56 (v3 - 1))) (by decide +kernel) (hp56 _) g25 (eI_of _) ?_
            by_cases b29 : (S.A 56 (v3 - 1)) = 0
            · replace h := if_t b29 h
              refine Ru.br (k := .ne) (off := 26) (bb := false) (tg := 66) (by decide +kernel) (by decide +kernel) (cz (ci_ne0 (inR_to _) (by decide) b29)) rfl ?_
              refine Ru.op (q := (.aload_n 0, 1)) (by decide +kernel) rfl ?_
              refine Ru.get (i := 75) (v := .ref 56) (by decide +kernel) (by rfl) (hp36 _) (by decide) rfl ?_
              refine Ru.op (q := (.iload_n 3, 1)) (by decide +kernel) rfl ?_
              refine Ru.kI (q := (.iconst 1, 1)) (c := 1) (by decide +kernel) rfl (by decide) ?_
              refine Ru.ar2 (i := .isub) (z := (v3 - 1)) (by decide +kernel) rfl (ar_sub _ _) ?_
              refine Ru.kI (q := (.iconst 1, 1)) (c := 1) (by decide +kernel) rfl (by decide) ?_
              refine Ru.bstI (i := (v3 - 1)) (x := 1) (by decide +kernel) (hp56 _) g25 (by decide) (ps_56 _ _ _) ?_
              refine Ru.op (q := (.aload_n 0, 1)) (by decide +kernel) rfl ?_
              refine Ru.get (i := 78) (v := .ref 57) (by decide +kernel) (by rfl) (hp36 _) (by decide) rfl ?_
              refine Ru.op (q := (.iload_n 3, 1)) (by decide +kernel) rfl ?_
              refine Ru.kI (q := (.iconst 1, 1)) (c := 1) (by decide +kernel) rfl (by decide) ?_
              refine Ru.ar2 (i := .isub) (z := (v3 - 1)) (by decide +kernel) rfl (ar_sub _ _) ?_
              refine Ru.op (q := (.aload_n 0, 1)) (by decide +kernel) rfl ?_
              refine Ru.getI (i := 218) (x := (S.F 36 42)) (by decide +kernel) (by rfl) (hp36 _) (by decide) rfl (eI_of _) ?_
              refine Ru.istI (i := (v3 - 1)) (x := (S.F 36 42)) (by decide +kernel) (hp57 _) g25 (ps_57 _ _ _) ?_
              refine Ru.op (q := (.iload_n 3, 1)) (by decide +kernel) rfl ?_
              cases h
              have h9 := hr _ rfl
              subst h9
              exact Ru.iret (by decide +kernel) rfl rfl
            · replace h := if_f b29 h
              refine Ru.br (k := .ne) (off := 26) (bb := true) (tg := 89) (by decide +kernel) (by decide +kernel) (cz (ci_ne1 (inR_to _) (by decide) b29)) rfl ?_
              refine Ru.op (q := (.iload 4, 2)) (by decide +kernel) rfl ?_
              refine Ru.kI (q := (.bipush 126, 2)) (c := 126) (by decide +kernel) rfl (by decide) ?_
              refine Ru.br2 (k := .eq) (off := 71) (bb := false) (tg := 96) (by decide +kernel) (by decide +kernel) (ci_eq0 (inR_to _) (by decide) b28) rfl ?_
              refine Ru.op (q := (.iload 4, 2)) (by decide +kernel) rfl ?_
              refine Ru.kI (q := (.bipush 38, 2)) (c := 38) (by decide +kernel) rfl (by decide) ?_
              by_cases b30 : (S.A 54 (v3 - 1)) = 38
              · replace h := if_t b30 h
                refine Ru.br2 (k := .ne) (off := 7) (bb := false) (tg := 103) (by decide +kernel) (by decide +kernel) (ci_ne0 (inR_to _) (by decide) b30) rfl ?_
                refine Ru.kI (q := (.iconst 1, 1)) (c := 1) (by decide +kernel) rfl (by decide) ?_
                refine Ru.op (q := (.goto 4, 3)) (by decide +kernel) rfl ?_
                refine Ru.op (q := (.aload_n 0, 1)) (by decide +kernel) rfl ?_
                refine Ru.get (i := 72) (v := .ref 55) (by decide +kernel) (by rfl) (hp36 _) (by decide) rfl ?_
                refine Ru.op (q := (.iload_n 3, 1)) (by decide +kernel) rfl ?_
                refine Ru.kI (q := (.iconst 1, 1)) (c := 1) (by decide +kernel) rfl (by decide) ?_
                refine Ru.ar2 (i := .isub) (z := (v3 - 1)) (by decide +kernel) rfl (ar_sub _ _) ?_
                refine Ru.bldI (i := (v3 - 1)) (z := (S.A 55 (v3 - 1))) (by decide +kernel) (hp55 _) g25 (eI_of _) ?_
                by_cases b31 : 1 = (S.A 55 (v3 - 1))
                · replace h := if_t b31 h
                  refine Ru.br2 (k := .eq) (off := 48) (bb := true) (tg := 164) (by decide +kernel) (by decide +kernel) (ci_eq1 (by decide) (inR_to _) b31) rfl ?_
                  refine Ru.op (q := (.iload 4, 2)) (by decide +kernel) rfl ?_
                  refine Ru.kI (q := (.bipush 126, 2)) (c := 126) (by decide +kernel) rfl (by decide) ?_
                  refine Ru.br2 (k := .eq) (off := 34) (bb := false) (tg := 171) (by decide +kernel) (by decide +kernel) (ci_eq0 (inR_to _) (by decide) b28) rfl ?_
                  refine Ru.op (q := (.aload_n 0, 1)) (by decide +kernel) rfl ?_
                  refine Ru.op (q := (.aload_n 0, 1)) (by decide +kernel) rfl ?_
                  refine Ru.getI (i := 192) (x := (S.F 36 36)) (by decide +kernel) (by rfl) (hp36 _) (by decide) rfl (eI_of _) ?_
                  by_cases b32 : (S.F 36 36) = 0
                  · replace h := if_t b32 h
                    refine Ru.br (k := .eq) (off := 7) (bb := true) (tg := 183) (by decide +kernel) (by decide +kernel) (cz (ci_eq1 (inR_to _) (by decide) b32)) rfl ?_
                    refine Ru.op (q := (.aload_n 0, 1)) (by decide +kernel) rfl ?_
                    refine Ru.op (q := (.aload_n 0, 1)) (by decide +kernel) rfl ?_
                    refine Ru.get (i := 78) (v := .ref 57) (by decide +kernel) (by rfl) (hp36 _) (by decide) rfl ?_
                    refine Ru.op (q := (.iload_n 3, 1)) (by decide +kernel) rfl ?_
                    refine Ru.kI (q := (.iconst 1, 1)) (c := 1) (by decide +kernel) rfl (by decide) ?_
                    refine Ru.ar2 (i := .isub) (z := (v3 - 1)) (by decide +kernel) rfl (ar_sub _ _) ?_
                    refine Ru.ildI (i := (v3 - 1)) (z := (S.A 57 (v3 - 1))) (by decide +kernel) (hp57 _) g25 (eI_of _) ?_
                    refine Ru.op (q := (.aload_n 0, 1)) (by decide +kernel) rfl ?_
                    refine Ru.getI (i := 218) (x := (S.F 36 42)) (by decide +kernel) (by rfl) (hp36 _) (by decide) rfl (eI_of _) ?_
                    obtain ⟨o33, e34, h⟩ := ob_some h
                    refine Ru.vcall (i := 227) (j2 := 114) (as := [vI (S.A 57 (v3 - 1)), vI (S.F 36 42)]) (by decide +kernel) (by rfl) rfl rfl (hp36 _) (by decide) ⟨(Nat.le_of_ble_eq_true rfl), (by show 19 + 9 ≤ 228; exact Nat.le_of_ble_eq_true rfl), Nat.le_of_ble_eq_true rfl, Nat.le_of_ble_eq_true rfl⟩ ((g114_ok e34).up (Nat.le_of_ble_eq_true rfl) (Nat.le_of_ble_eq_true rfl)) ?_
                    refine Ru.putH (i := 218) (by decide +kernel) (by rfl) (hp36 _) (by decide) (Nat.le_of_ble_eq_true rfl) rfl (by decide +kernel) (pf_36_42 _ _) ?_
                    refine Ru.inc (x := v3) (z := (v3 + (-1))) (xs' := [some (.ref 36), d1, d2, some (vI (v3 + (-1))), some (vI (S.A 54 (v3 - 1)))]) (by decide +kernel) rfl rfl rfl ?_
                    refine Ru.op (q := (.goto (-198), 3)) (by decide +kernel) rfl ?_
                    exact ih _ _ _ _ _ _ h r hk hr
                  · replace h := if_f b32 h
                    refine Ru.br (k := .eq) (off := 7) (bb := false) (tg := 179) (by decide +kernel) (by decide +kernel) (cz (ci_eq0 (inR_to _) (by decide) b32)) rfl ?_
                    refine Ru.kI (q := (.iconst 0, 1)) (c := 0) (by decide +kernel) rfl (by decide) ?_
                    refine Ru.op (q := (.goto 19, 3)) (by decide +kernel) rfl ?_
                    refine Ru.putH (i := 218) (by decide +kernel) (by rfl) (hp36 _) (by decide) (Nat.le_of_ble_eq_true rfl) rfl (by decide +kernel) (pf_36_42 _ _) ?_
                    refine Ru.inc (x := v3) (z := (v3 + (-1))) (xs' := [some (.ref 36), d1, d2, some (vI (v3 + (-1))), some (vI (S.A 54 (v3 - 1)))]) (by decide +kernel) rfl rfl rfl ?_
                    refine Ru.op (q := (.goto (-198), 3)) (by decide +kernel) rfl ?_
                    exact ih _ _ _ _ _ _ h r hk hr
                · replace h := if_f b31 h
                  refine Ru.br2 (k := .eq) (off := 48) (bb := false) (tg := 119) (by decide +kernel) (by decide +kernel) (ci_eq0 (by decide) (inR_to _) b31) rfl ?_
                  refine Ru.op (q := (.aload_n 0, 1)) (by decide +kernel) rfl ?_
                  refine Ru.op (q := (.aload_n 0, 1)) (by decide +kernel) rfl ?_
                  refine Ru.get (i := 78) (v := .ref 57) (by decide +kernel) (by rfl) (hp36 _) (by decide) rfl ?_
                  refine Ru.op (q := (.iload_n 3, 1)) (by decide +kernel) rfl ?_
                  refine Ru.kI (q := (.iconst 1, 1)) (c := 1) (by decide +kernel) rfl (by decide) ?_
                  refine Ru.ar2 (i := .isub) (z := (v3 - 1)) (by decide +kernel) rfl (ar_sub _ _) ?_
                  refine Ru.ildI (i := (v3 - 1)) (z := (S.A 57 (v3 - 1))) (by decide +kernel) (hp57 _) g25 (eI_of _) ?_
                  refine Ru.op (q := (.aload_n 0, 1)) (by decide +kernel) rfl ?_
                  refine Ru.getI (i := 218) (x := (S.F 36 42)) (by decide +kernel) (by rfl) (hp36 _) (by decide) rfl (eI_of _) ?_
                  refine Ru.ar2 (i := .iadd) (z := ((S.A 57 (v3 - 1)) + (S.F 36 42))) (by decide +kernel) rfl (ar_add _ _) ?_
                  refine Ru.putH (i := 218) (by decide +kernel) (by rfl) (hp36 _) (by decide) (Nat.le_of_ble_eq_true rfl) rfl (by decide +kernel) (pf_36_42 _ _) ?_
                  refine Ru.op (q := (.aload_n 0, 1)) (by decide +kernel) rfl ?_
                  refine Ru.op (q := (.aload_n 0, 1)) (by decide +kernel) rfl ?_
                  refine Ru.getI (i := 192) (x := (S.F 36 36)) (by decide +kernel) (by rfl) (hp36 _) (by decide) rfl (eI_of _) ?_
                  by_cases b35 : (S.F 36 36) = 0
                  · replace h := if_t b35 h
                    refine Ru.br (k := .ne) (off := 12) (bb := false) (tg := 144) (by decide +kernel) (by decide +kernel) (cz (ci_ne0 (inR_to _) (by decide) b35)) rfl ?_
                    refine Ru.op (q := (.aload_n 0, 1)) (by decide +kernel) rfl ?_
                    refine Ru.getI (i := 218) (x := ((S.A 57 (v3 - 1)) + (S.F 36 42))) (by decide +kernel) (by rfl) (hp36 _) (by decide) rfl rfl ?_
                    refine Ru.kI (q := (.bipush 16, 2)) (c := 16) (by decide +kernel) rfl (by decide) ?_
                    obtain ⟨g36, h⟩ := gd_some h
                    by_cases b37 : 16 < ((S.A 57 (v3 - 1)) + (S.F 36 42))
                    · replace h := if_t b37 h
                      refine Ru.br2 (k := .le) (off := 7) (bb := false) (tg := 153) (by decide +kernel) (by decide +kernel) (ci_le0 g36 (by decide) b37) rfl ?_
                      refine Ru.kI (q := (.iconst 1, 1)) (c := 1) (by decide +kernel) rfl (by decide) ?_
                      refine Ru.op (q := (.goto 4, 3)) (by decide +kernel) rfl ?_
                      refine Ru.putH (i := 192) (by decide +kernel) (by rfl) (hp36 _) (by decide) (Nat.le_of_ble_eq_true rfl) (fk_b (by decide)) (by decide +kernel) (pf_36_36 _ _) ?_
                      refine Ru.op (q := (.goto 41, 3)) (by decide +kernel) rfl ?_
                      refine Ru.inc (x := v3) (z := (v3 + (-1))) (xs' := [some (.ref 36), d1, d2, some (vI (v3 + (-1))), some (vI (S.A 54 (v3 - 1)))]) (by decide +kernel) rfl rfl rfl ?_
                      refine Ru.op (q := (.goto (-198), 3)) (by decide +kernel) rfl ?_
                      exact ih _ _ _ _ _ _ h r hk hr
                    · replace h := if_f b37 h
                      refine Ru.br2 (k := .le) (off := 7) (bb := true) (tg := 157) (by decide +kernel) (by decide +kernel) (ci_le1 g36 (by decide) b37) rfl ?_
                      refine Ru.kI (q := (.iconst 0, 1)) (c := 0) (by decide +kernel) rfl (by decide) ?_
                      refine Ru.putH (i := 192) (by decide +kernel) (by rfl) (hp36 _) (by decide) (Nat.le_of_ble_eq_true rfl) (fk_b (by decide)) (by decide +kernel) (pf_36_36 _ _) ?_
                      refine Ru.op (q := (.goto 41, 3)) (by decide +kernel) rfl ?_
                      refine Ru.inc (x := v3) (z := (v3 + (-1))) (xs' := [some (.ref 36), d1, d2, some (vI (v3 + (-1))), some (vI (S.A 54 (v3 - 1)))]) (by decide +kernel) rfl rfl rfl ?_
                      refine Ru.op (q := (.goto (-198), 3)) (by decide +kernel) rfl ?_
                      exact ih _ _ _ _ _ _ h r hk hr
                  · replace h := if_f b35 h
                    refine Ru.br (k := .ne) (off := 12) (bb := true) (tg := 153) (by decide +kernel) (by decide +kernel) (cz (ci_ne1 (inR_to _) (by decide) b35)) rfl ?_
                    refine Ru.kI (q := (.iconst 1, 1)) (c := 1) (by decide +kernel) rfl (by decide) ?_
                    refine Ru.op (q := (.goto 4, 3)) (by decide +kernel) rfl ?_
                    refine Ru.putH (i := 192) (by decide +kernel) (by rfl) (hp36 _) (by decide) (Nat.le_of_ble_eq_true rfl) (fk_b (by decide)) (by decide +kernel) (pf_36_36 _ _) ?_
                    refine Ru.op (q := (.goto 41, 3)) (by decide +kernel) rfl ?_
                    refine Ru.inc (x := v3) (z := (v3 + (-1))) (xs' := [some (.ref 36), d1, d2, some (vI (v3 + (-1))), some (vI (S.A 54 (v3 - 1)))]) (by decide +kernel) rfl rfl rfl ?_
                    refine Ru.op (q := (.goto (-198), 3)) (by decide +kernel) rfl ?_
                    exact ih _ _ _ _ _ _ h r hk hr
              · replace h := if_f b30 h
                refine Ru.br2 (k := .ne) (off := 7) (bb := true) (tg := 107) (by decide +kernel) (by decide +kernel) (ci_ne1 (inR_to _) (by decide) b30) rfl ?_
                refine Ru.kI (q := (.iconst 0, 1)) (c := 0) (by decide +kernel) rfl (by decide) ?_
                refine Ru.op (q := (.aload_n 0, 1)) (by decide +kernel) rfl ?_
                refine Ru.get (i := 72) (v := .ref 55) (by decide +kernel) (by rfl) (hp36 _) (by decide) rfl ?_
                refine Ru.op (q := (.iload_n 3, 1)) (by decide +kernel) rfl ?_
                refine Ru.kI (q := (.iconst 1, 1)) (c := 1) (by decide +kernel) rfl (by decide) ?_
                refine Ru.ar2 (i := .isub) (z := (v3 - 1)) (by decide +kernel) rfl (ar_sub _ _) ?_
                refine Ru.bldI (i := (v3 - 1)) (z := (S.A 55 (v3 - 1))) (by decide +kernel) (hp55 _) g25 (eI_of _) ?_
                by_cases b38 : 0 = (S.A 55 (v3 - 1))
                · replace h := if_t b38 h
                  refine Ru.br2 (k := .eq) (off := 48) (bb := true) (tg := 164) (by decide +kernel) (by decide +kernel) (ci_eq1 (by decide) (inR_to _) b38) rfl ?_
                  refine Ru.op (q := (.iload 4, 2)) (by decide +kernel) rfl ?_
                  refine Ru.kI (q := (.bipush 126, 2)) (c := 126) (by decide +kernel) rfl (by decide) ?_
                  refine Ru.br2 (k := .eq) (off := 34) (bb := false) (tg := 171) (by decide +kernel) (by decide +kernel) (ci_eq0 (inR_to _) (by decide) b28) rfl ?_
                  refine Ru.op (q := (.aload_n 0, 1)) (by decide +kernel) rfl ?_
                  refine Ru.op (q := (.aload_n 0, 1)) (by decide +kernel) rfl ?_
                  refine Ru.getI (i := 192) (x := (S.F 36 36)) (by decide +kernel) (by rfl) (hp36 _) (by decide) rfl (eI_of _) ?_
                  by_cases b39 : (S.F 36 36) = 0
                  · replace h := if_t b39 h
                    refine Ru.br (k := .eq) (off := 7) (bb := true) (tg := 183) (by decide +kernel) (by decide +kernel) (cz (ci_eq1 (inR_to _) (by decide) b39)) rfl ?_
                    refine Ru.op (q := (.aload_n 0, 1)) (by decide +kernel) rfl ?_
                    refine Ru.op (q := (.aload_n 0, 1)) (by decide +kernel) rfl ?_
                    refine Ru.get (i := 78) (v := .ref 57) (by decide +kernel) (by rfl) (hp36 _) (by decide) rfl ?_
                    refine Ru.op (q := (.iload_n 3, 1)) (by decide +kernel) rfl ?_
                    refine Ru.kI (q := (.iconst 1, 1)) (c := 1) (by decide +kernel) rfl (by decide) ?_
                    refine Ru.ar2 (i := .isub) (z := (v3 - 1)) (by decide +kernel) rfl (ar_sub _ _) ?_
                    refine Ru.ildI (i := (v3 - 1)) (z := (S.A 57 (v3 - 1))) (by decide +kernel) (hp57 _) g25 (eI_of _) ?_
                    refine Ru.op (q := (.aload_n 0, 1)) (by decide +kernel) rfl ?_
                    refine Ru.getI (i := 218) (x := (S.F 36 42)) (by decide +kernel) (by rfl) (hp36 _) (by decide) rfl (eI_of _) ?_
                    obtain ⟨o40, e41, h⟩ := ob_some h
                    refine Ru.vcall (i := 227) (j2 := 114) (as := [vI (S.A 57 (v3 - 1)), vI (S.F 36 42)]) (by decide +kernel) (by rfl) rfl rfl (hp36 _) (by decide) ⟨(Nat.le_of_ble_eq_true rfl), (by show 19 + 9 ≤ 228; exact Nat.le_of_ble_eq_true rfl), Nat.le_of_ble_eq_true rfl, Nat.le_of_ble_eq_true rfl⟩ ((g114_ok e41).up (Nat.le_of_ble_eq_true rfl) (Nat.le_of_ble_eq_true rfl)) ?_
                    refine Ru.putH (i := 218) (by decide +kernel) (by rfl) (hp36 _) (by decide) (Nat.le_of_ble_eq_true rfl) rfl (by decide +kernel) (pf_36_42 _ _) ?_
                    refine Ru.inc (x := v3) (z := (v3 + (-1))) (xs' := [some (.ref 36), d1, d2, some (vI (v3 + (-1))), some (vI (S.A 54 (v3 - 1)))]) (by decide +kernel) rfl rfl rfl ?_
                    refine Ru.op (q := (.goto (-198), 3)) (by decide +kernel) rfl ?_
                    exact ih _ _ _ _ _ _ h r hk hr
                  · replace h := if_f b39 h
                    refine Ru.br (k := .eq) (off := 7) (bb := false) (tg := 179) (by decide +kernel) (by decide +kernel) (cz (ci_eq0 (inR_to _) (by decide) b39)) rfl ?_
                    refine Ru.kI (q := (.iconst 0, 1)) (c := 0) (by decide +kernel) rfl (by decide) ?_
                    refine Ru.op (q := (.goto 19, 3)) (by decide +kernel) rfl ?_
                    refine Ru.putH (i := 218) (by decide +kernel) (by rfl) (hp36 _) (by decide) (Nat.le_of_ble_eq_true rfl) rfl (by decide +kernel) (pf_36_42 _ _) ?_
                    refine Ru.inc (x := v3) (z := (v3 + (-1))) (xs' := [some (.ref 36), d1, d2, some (vI (v3 + (-1))), some (vI (S.A 54 (v3 - 1)))]) (by decide +kernel) rfl rfl rfl ?_
                    refine Ru.op (q := (.goto (-198), 3)) (by decide +kernel) rfl ?_
                    exact ih _ _ _ _ _ _ h r hk hr
                · replace h := if_f b38 h
                  refine Ru.br2 (k := .eq) (off := 48) (bb := false) (tg := 119) (by decide +kernel) (by decide +kernel) (ci_eq0 (by decide) (inR_to _) b38) rfl ?_
                  refine Ru.op (q := (.aload_n 0, 1)) (by decide +kernel) rfl ?_
                  refine Ru.op (q := (.aload_n 0, 1)) (by decide +kernel) rfl ?_
                  refine Ru.get (i := 78) (v := .ref 57) (by decide +kernel) (by rfl) (hp36 _) (by decide) rfl ?_
                  refine Ru.op (q := (.iload_n 3, 1)) (by decide +kernel) rfl ?_
                  refine Ru.kI (q := (.iconst 1, 1)) (c := 1) (by decide +kernel) rfl (by decide) ?_
                  refine Ru.ar2 (i := .isub) (z := (v3 - 1)) (by decide +kernel) rfl (ar_sub _ _) ?_
                  refine Ru.ildI (i := (v3 - 1)) (z := (S.A 57 (v3 - 1))) (by decide +kernel) (hp57 _) g25 (eI_of _) ?_
                  refine Ru.op (q := (.aload_n 0, 1)) (by decide +kernel) rfl ?_
                  refine Ru.getI (i := 218) (x := (S.F 36 42)) (by decide +kernel) (by rfl) (hp36 _) (by decide) rfl (eI_of _) ?_
                  refine Ru.ar2 (i := .iadd) (z := ((S.A 57 (v3 - 1)) + (S.F 36 42))) (by decide +kernel) rfl (ar_add _ _) ?_
                  refine Ru.putH (i := 218) (by decide +kernel) (by rfl) (hp36 _) (by decide) (Nat.le_of_ble_eq_true rfl) rfl (by decide +kernel) (pf_36_42 _ _) ?_
                  refine Ru.op (q := (.aload_n 0, 1)) (by decide +kernel) rfl ?_
                  refine Ru.op (q := (.aload_n 0, 1)) (by decide +kernel) rfl ?_
                  refine Ru.getI (i := 192) (x := (S.F 36 36)) (by decide +kernel) (by rfl) (hp36 _) (by decide) rfl (eI_of _) ?_
                  by_cases b42 : (S.F 36 36) = 0
                  · replace h := if_t b42 h
                    refine Ru.br (k := .ne) (off := 12) (bb := false) (tg := 144) (by decide +kernel) (by decide +kernel) (cz (ci_ne0 (inR_to _) (by decide) b42)) rfl ?_
                    refine Ru.op (q := (.aload_n 0, 1)) (by decide +kernel) rfl ?_
                    refine Ru.getI (i := 218) (x := ((S.A 57 (v3 - 1)) + (S.F 36 42))) (by decide +kernel) (by rfl) (hp36 _) (by decide) rfl rfl ?_
                    refine Ru.kI (q := (.bipush 16, 2)) (c := 16) (by decide +kernel) rfl (by decide) ?_
                    obtain ⟨g43, h⟩ := gd_some h
                    by_cases b44 : 16 < ((S.A 57 (v3 - 1)) + (S.F 36 42))
                    · replace h := if_t b44 h
                      refine Ru.br2 (k := .le) (off := 7) (bb := false) (tg := 153) (by decide +kernel) (by decide +kernel) (ci_le0 g43 (by decide) b44) rfl ?_
                      refine Ru.kI (q := (.iconst 1, 1)) (c := 1) (by decide +kernel) rfl (by decide) ?_
                      refine Ru.op (q := (.goto 4, 3)) (by decide +kernel) rfl ?_
                      refine Ru.putH (i := 192) (by decide +kernel) (by rfl) (hp36 _) (by decide) (Nat.le_of_ble_eq_true rfl) (fk_b (by decide)) (by decide +kernel) (pf_36_36 _ _) ?_
                      refine Ru.op (q := (.goto 41, 3)) (by decide +kernel) rfl ?_
                      refine Ru.inc (x := v3) (z := (v3 + (-1))) (xs' := [some (.ref 36), d1, d2, some (vI (v3 + (-1))), some (vI (S.A 54 (v3 - 1)))]) (by decide +kernel) rfl rfl rfl ?_
                      refine Ru.op (q := (.goto (-198), 3)) (by decide +kernel) rfl ?_
                      exact ih _ _ _ _ _ _ h r hk hr
                    · replace h := if_f b44 h
                      refine Ru.br2 (k := .le) (off := 7) (bb := true) (tg := 157) (by decide +kernel) (by decide +kernel) (ci_le1 g43 (by decide) b44) rfl ?_
                      refine Ru.kI (q := (.iconst 0, 1)) (c := 0) (by decide +kernel) rfl (by decide) ?_
                      refine Ru.putH (i := 192) (by decide +kernel) (by rfl) (hp36 _) (by decide) (Nat.le_of_ble_eq_true rfl) (fk_b (by decide)) (by decide +kernel) (pf_36_36 _ _) ?_
                      refine Ru.op (q := (.goto 41, 3)) (by decide +kernel) rfl ?_
                      refine Ru.inc (x := v3) (z := (v3 + (-1))) (xs' := [some (.ref 36), d1, d2, some (vI (v3 + (-1))), some (vI (S.A 54 (v3 - 1)))]) (by decide +kernel) rfl rfl rfl ?_
                      refine Ru.op (q := (.goto (-198), 3)) (by decide +kernel) rfl ?_
                      exact ih _ _ _ _ _ _ h r hk hr
                  · replace h := if_f b42 h
                    refine Ru.br (k := .ne) (off := 12) (bb := true) (tg := 153) (by decide +kernel) (by decide +kernel) (cz (ci_ne1 (inR_to _) (by decide) b42)) rfl ?_
                    refine Ru.kI (q := (.iconst 1, 1)) (c := 1) (by decide +kernel) rfl (by decide) ?_
                    refine Ru.op (q := (.goto 4, 3)) (by decide +kernel) rfl ?_
                    refine Ru.putH (i := 192) (by decide +kernel) (by rfl) (hp36 _) (by decide) (Nat.le_of_ble_eq_true rfl) (fk_b (by decide)) (by decide +kernel) (pf_36_36 _ _) ?_
                    refine Ru.op (q := (.goto 41, 3)) (by decide +kernel) rfl ?_
                    refine Ru.inc (x := v3) (z := (v3 + (-1))) (xs' := [some (.ref 36), d1, d2, some (vI (v3 + (-1))), some (vI (S.A 54 (v3 - 1)))]) (by decide +kernel) rfl rfl rfl ?_
                    refine Ru.op (q := (.goto (-198), 3)) (by decide +kernel) rfl ?_
                    exact ih _ _ _ _ _ _ h r hk hr
    · replace h := if_f b24 h
      refine Ru.br (k := .le) (off := 200) (bb := true) (tg := 208) (by decide +kernel) (by decide +kernel) (cz (ci_le1 g23 (by decide) b24)) rfl ?_
      cases h
      exact hk _ rfl _ _ _ _
def g113 (S : St) (v1 : Int) (v2 : Int) : Option (Int × St) := obr (g113L7 FU v1 (S.f 36 42 v2)) (fun o45 => some (o45.1, o45.2))
set_option maxRecDepth 100000 in
set_option maxHeartbeats 4000000 in
theorem g113_ok {S : St} {v1 : Int} {v2 : Int} {o : Int × St} (h : g113 S v1 v2 = some o) : Ru none 11 228 113 (0, mn_pad (mn_ent [.ref 36, vI v1, vI v2]) 5, [], S.ns, Hp S) ((0, some (vI o.1)), o.2.ns, Hp o.2) := by
  unfold g113 at h
  show Ru none 11 228 113 (0, [some (.ref 36), some (vI v1), some (vI v2), none, none], [], S.ns, Hp S) _
  refine Ru.op (q := (.iload_n 1, 1)) (by decide +kernel) rfl ?_
  refine Ru.op (q := (.istore_n 3, 1)) (S' := (2, [some (.ref 36), some (vI v1), some (vI v2), some (vI v1), none], [], _, _)) (by decide +kernel) rfl ?_
  refine Ru.op (q := (.aload_n 0, 1)) (by decide +kernel) rfl ?_
  refine Ru.op (q := (.iload_n 2, 1)) (by decide +kernel) rfl ?_
  refine Ru.putH (i := 218) (by decide +kernel) (by rfl) (hp36 _) (by decide) (Nat.le_of_ble_eq_true rfl) rfl (by decide +kernel) (pf_36_42 _ _) ?_
  rcases obr_some h with ⟨o45, e50, h⟩ | e50
  · refine g113L7_ok FU _ _ _ _ _ _ e50 _ (fun o' e' => ?_) (fun o' e' => by cases e')
    cases e'
    intro d46 d47 d48 d49
    refine Ru.op (q := (.iload_n 3, 1)) (by decide +kernel) rfl ?_
    cases h
    exact Ru.iret (by decide +kernel) rfl rfl
  · exact g113L7_ok FU _ _ _ _ _ _ e50 _ (fun o' e' => by cases e') (fun o' e' => by cases e'; rfl)
