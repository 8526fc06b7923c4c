def g158L223 (v1 : Int) (v2 : Int) (v3 : Int) (v4 : Int) : Nat → Int → St → Option (St)
  | 0, _, _ => none
  | n + 1, v5, S => gd (inR v5) (if v5 < (S.F 36 46) then gd (ixR v5 100) (gd (b1R (S.A 61 v5)) (g158L223 v1 v2 v3 v4 n (v5 + 1) ((S.a 48 v5 (S.A 60 v5)).a 49 v5 (S.A 61 v5)))) else some S)
set_option maxRecDepth 100000 in
set_option maxHeartbeats 4000000 in
theorem g158L223_ok {v1 : Int} {v2 : Int} {v3 : Int} {v4 : Int} : ∀ (n : Nat) (v5 : Int) (S : St) (d6 : Option Value) (out : St), g158L223 v1 v2 v3 v4 n v5 S = some out → ∀ r, (∀ (e5 e6 : Option Value), Ru none 18 391 158 (266, [some (.ref 36), some (vI v1), some (vI v2), some (vI v3), some (vI v4), e5, e6], [], out.ns, Hp out) r) → Ru none 18 391 158 (223, [some (.ref 36), some (vI v1), some (vI v2), some (vI v3), some (vI v4), some (vI v5), d6], [], S.ns, Hp S) r := by
  intro n
  induction n with
  | zero => intro v5 S d6 out h; cases h
  | succ n ih =>
    intro v5 S d6 out h r hk
    unfold g158L223 at h
    refine Ru.op (q := (.iload 5, 2)) (by decide +kernel) rfl ?_
    refine Ru.op (q := (.aload_n 0, 1)) (by decide +kernel) rfl ?_
    refine Ru.getI (i := 186) (x := (S.F 36 46)) (by decide +kernel) (by rfl) (hp36 _) (by decide) rfl (eI_of _) ?_
    obtain ⟨g13, h⟩ := gd_some h
    by_cases b14 : v5 < (S.F 36 46)
    · replace h := if_t b14 h
      refine Ru.br2 (k := .ge) (off := 37) (bb := false) (tg := 232) (by decide +kernel) (by decide +kernel) (ci_ge0 g13 (inR_to _) b14) rfl ?_
      refine Ru.op (q := (.aload_n 0, 1)) (by decide +kernel) rfl ?_
      refine Ru.get (i := 51) (v := .ref 48) (by decide +kernel) (by rfl) (hp36 _) (by decide) rfl ?_
      refine Ru.op (q := (.iload 5, 2)) (by decide +kernel) rfl ?_
      refine Ru.op (q := (.aload_n 0, 1)) (by decide +kernel) rfl ?_
      refine Ru.get (i := 87) (v := .ref 60) (by decide +kernel) (by rfl) (hp36 _) (by decide) rfl ?_
      refine Ru.op (q := (.iload 5, 2)) (by decide +kernel) rfl ?_
      obtain ⟨g15, h⟩ := gd_some h
      refine Ru.ildI (i := v5) (z := (S.A 60 v5)) (by decide +kernel) (hp60 _) g15 (eI_of _) ?_
      refine Ru.istI (i := v5) (x := (S.A 60 v5)) (by decide +kernel) (hp48 _) g15 (ps_48 _ _ _) ?_
      refine Ru.op (q := (.aload_n 0, 1)) (by decide +kernel) rfl ?_
      refine Ru.get (i := 54) (v := .ref 49) (by decide +kernel) (by rfl) (hp36 _) (by decide) rfl ?_
      refine Ru.op (q := (.iload 5, 2)) (by decide +kernel) rfl ?_
      refine Ru.op (q := (.aload_n 0, 1)) (by decide +kernel) rfl ?_
      refine Ru.get (i := 90) (v := .ref 61) (by decide +kernel) (by rfl) (hp36 _) (by decide) rfl ?_
      refine Ru.op (q := (.iload 5, 2)) (by decide +kernel) rfl ?_
      refine Ru.bldI (i := v5) (z := (S.A 61 v5)) (by decide +kernel) (hp61 _) g15 (eI_of _) ?_
      obtain ⟨g16, h⟩ := gd_some h
      refine Ru.bstI (i := v5) (x := (S.A 61 v5)) (by decide +kernel) (hp49 _) g15 g16 (ps_49 _ _ _) ?_
      refine Ru.inc (x := v5) (z := (v5 + 1)) (xs' := [some (.ref 36), some (vI v1), some (vI v2), some (vI v3), some (vI v4), some (vI (v5 + 1)), d6]) (by decide +kernel) rfl rfl rfl ?_
      refine Ru.op (q := (.goto (-40), 3)) (by decide +kernel) rfl ?_
      exact ih _ _ _ _ h r hk
    · replace h := if_f b14 h
      refine Ru.br2 (k := .ge) (off := 37) (bb := true) (tg := 266) (by decide +kernel) (by decide +kernel) (ci_ge1 g13 (inR_to _) b14) rfl ?_
      cases h
      exact hk _ _
def g158C212 (S : St) (v1 : Int) (v2 : Int) (v3 : Int) (v4 : Int) : Option (Int × St) := ob (g158L223 v1 v2 v3 v4 FU 0 (S.f 36 24 (S.F 36 46))) (fun o17 => if (o17.F 36 0) = 0 then if (o17.F 36 10) = 24 then some (0, (o17.f 36 0 3)) else ob (g119 o17) (fun o23 => gd (inR o23.1) (if o23.1 = 0 then some (0, (o23.2.f 36 0 3)) else if 16 < (o23.2.A 42 124) then some (0, (o23.2.f 36 0 3)) else if 0 < (o23.2.F 36 0) then some (0, o23.2) else ob (g132 ((o23.2.f 36 2 0).f 36 1 (-1)) (100 + (o23.2.F 36 10))) (fun o29 => ob (g161 o29 v1 v2 v3 v4) (fun o31 => gd (inR o31.1) (if o31.1 = 0 then some ((-1), o31.2) else some ((((o31.2.F 36 10) + 1) - 1), (o31.2.f 36 10 ((o31.2.F 36 10) + 1)))))))) else if 0 < (o17.F 36 0) then some (0, o17) else ob (g132 ((o17.f 36 2 0).f 36 1 (-1)) (100 + (o17.F 36 10))) (fun o36 => ob (g161 o36 v1 v2 v3 v4) (fun o38 => gd (inR o38.1) (if o38.1 = 0 then some ((-1), o38.2) else some ((((o38.2.F 36 10) + 1) - 1), (o38.2.f 36 10 ((o38.2.F 36 10) + 1)))))))
set_option maxRecDepth 100000 in
set_option maxHeartbeats 4000000 in
theorem g158C212_ok {S : St} {v1 : Int} {v2 : Int} {v3 : Int} {v4 : Int} {d5 d6 : Option Value} {o : Int × St} (h : g158C212 S v1 v2 v3 v4 = some o) : Ru none 18 391 158 (212, [some (.ref 36), some (vI v1), some (vI v2), some (vI v3), some (vI v4), d5, d6], [], S.ns, Hp S) ((0, some (vI o.1)), o.2.ns, Hp o.2) := by
  unfold g158C212 at h
  refine Ru.op (q := (.aload_n 0, 1)) (by decide +kernel) rfl ?_
  refine Ru.op (q := (.aload_n 0, 1)) (by decide +kernel) rfl ?_
  refine Ru.getI (i := 186) (x := (S.F 36 46)) (by decide +kernel) (by rfl) (hp36 _) (by decide) rfl (eI_of _) ?_
  refine Ru.putH (i := 246) (by decide +kernel) (by rfl) (hp36 _) (by decide) (Nat.le_of_ble_eq_true rfl) rfl (by decide +kernel) (pf_36_24 _ _) ?_
  refine Ru.kI (q := (.iconst 0, 1)) (c := 0) (by decide +kernel) rfl (by decide) ?_
  refine Ru.op (q := (.istore 5, 2)) (S' := (223, [some (.ref 36), some (vI v1), some (vI v2), some (vI v3), some (vI v4), some (vI 0), d6], [], _, _)) (by decide +kernel) rfl ?_
  obtain ⟨o17, e20, h⟩ := ob_some h
  refine g158L223_ok FU _ _ _ _ e20 _ ?_
  intro d18 d19
  refine Ru.op (q := (.aload_n 0, 1)) (by decide +kernel) rfl ?_
  refine Ru.getI (i := 120) (x := (o17.F 36 0)) (by decide +kernel) (by rfl) (hp36 _) (by decide) rfl (eI_of _) ?_
  by_cases b21 : (o17.F 36 0) = 0
  · replace h := if_t b21 h
    refine Ru.br (k := .ne) (off := 36) (bb := false) (tg := 273) (by decide +kernel) (by decide +kernel) (cz (ci_ne0 (inR_to _) (by decide) b21)) rfl ?_
    refine Ru.op (q := (.aload_n 0, 1)) (by decide +kernel) rfl ?_
    refine Ru.getI (i := 356) (x := (o17.F 36 10)) (by decide +kernel) (by rfl) (hp36 _) (by decide) rfl (eI_of _) ?_
    refine Ru.kI (q := (.bipush 24, 2)) (c := 24) (by decide +kernel) rfl (by decide) ?_
    by_cases b22 : (o17.F 36 10) = 24
    · replace h := if_t b22 h
      refine Ru.br2 (k := .eq) (off := 22) (bb := true) (tg := 301) (by decide +kernel) (by decide +kernel) (ci_eq1 (inR_to _) (by decide) b22) rfl ?_
      refine Ru.op (q := (.aload_n 0, 1)) (by decide +kernel) rfl ?_
      refine Ru.kI (q := (.iconst 3, 1)) (c := 3) (by decide +kernel) rfl (by decide) ?_
      refine Ru.putH (i := 120) (by decide +kernel) (by rfl) (hp36 _) (by decide) (Nat.le_of_ble_eq_true rfl) rfl (by decide +kernel) (pf_36_0 _ _) ?_
      refine Ru.op (q := (.aload_n 0, 1)) (by decide +kernel) rfl ?_
      refine Ru.getI (i := 120) (x := 3) (by decide +kernel) (by rfl) (hp36 _) (by decide) rfl rfl ?_
      refine Ru.br (k := .le) (off := 5) (bb := false) (tg := 313) (by decide +kernel) (by decide +kernel) (by decide) rfl ?_
      refine Ru.kI (q := (.iconst 0, 1)) (c := 0) (by decide +kernel) rfl (by decide) ?_
      cases h
      exact Ru.iret (by decide +kernel) rfl rfl
    · replace h := if_f b22 h
      refine Ru.br2 (k := .eq) (off := 22) (bb := false) (tg := 282) (by decide +kernel) (by decide +kernel) (ci_eq0 (inR_to _) (by decide) b22) rfl ?_
      refine Ru.op (q := (.aload_n 0, 1)) (by decide +kernel) rfl ?_
      obtain ⟨o23, e24, h⟩ := ob_some h
      refine Ru.vcall (i := 269) (j2 := 119) (as := []) (by decide +kernel) (by rfl) rfl rfl (hp36 _) (by decide) ⟨(Nat.le_of_ble_eq_true rfl), (by show 19 + 9 ≤ 391; exact Nat.le_of_ble_eq_true rfl), Nat.le_of_ble_eq_true rfl, Nat.le_of_ble_eq_true rfl⟩ ((g119_ok e24).up (Nat.le_of_ble_eq_true rfl) (Nat.le_of_ble_eq_true rfl)) ?_
      obtain ⟨g25, h⟩ := gd_some h
      by_cases b26 : o23.1 = 0
      · replace h := if_t b26 h
        refine Ru.br (k := .eq) (off := 15) (bb := true) (tg := 301) (by decide +kernel) (by decide +kernel) (cz (ci_eq1 g25 (by decide) b26)) rfl ?_
        refine Ru.op (q := (.aload_n 0, 1)) (by decide +kernel) rfl ?_
        refine Ru.kI (q := (.iconst 3, 1)) (c := 3) (by decide +kernel) rfl (by decide) ?_
        refine Ru.putH (i := 120) (by decide +kernel) (by rfl) (hp36 _) (by decide) (Nat.le_of_ble_eq_true rfl) rfl (by decide +kernel) (pf_36_0 _ _) ?_
        refine Ru.op (q := (.aload_n 0, 1)) (by decide +kernel) rfl ?_
        refine Ru.getI (i := 120) (x := 3) (by decide +kernel) (by rfl) (hp36 _) (by decide) rfl rfl ?_
        refine Ru.br (k := .le) (off := 5) (bb := false) (tg := 313) (by decide +kernel) (by decide +kernel) (by decide) rfl ?_
        refine Ru.kI (q := (.iconst 0, 1)) (c := 0) (by decide +kernel) rfl (by decide) ?_
        cases h
        exact Ru.iret (by decide +kernel) rfl rfl
      · replace h := if_f b26 h
        refine Ru.br (k := .eq) (off := 15) (bb := false) (tg := 289) (by decide +kernel) (by decide +kernel) (cz (ci_eq0 g25 (by decide) b26)) rfl ?_
        refine Ru.op (q := (.aload_n 0, 1)) (by decide +kernel) rfl ?_
        refine Ru.get (i := 30) (v := .ref 42) (by decide +kernel) (by rfl) (hp36 _) (by decide) rfl ?_
        refine Ru.kI (q := (.bipush 124, 2)) (c := 124) (by decide +kernel) rfl (by decide) ?_
        refine Ru.ildI (i := 124) (z := (o23.2.A 42 124)) (by decide +kernel) (hp42 _) (by decide) (eI_of _) ?_
        refine Ru.kI (q := (.bipush 16, 2)) (c := 16) (by decide +kernel) rfl (by decide) ?_
        by_cases b27 : 16 < (o23.2.A 42 124)
        · replace h := if_t b27 h
          refine Ru.br2 (k := .le) (off := 8) (bb := false) (tg := 301) (by decide +kernel) (by decide +kernel) (ci_le0 (inR_to _) (by decide) b27) rfl ?_
          refine Ru.op (q := (.aload_n 0, 1)) (by decide +kernel) rfl ?_
          refine Ru.kI (q := (.iconst 3, 1)) (c := 3) (by decide +kernel) rfl (by decide) ?_
          refine Ru.putH (i := 120) (by decide +kernel) (by rfl) (hp36 _) (by decide) (Nat.le_of_ble_eq_true rfl) rfl (by decide +kernel) (pf_36_0 _ _) ?_
          refine Ru.op (q := (.aload_n 0, 1)) (by decide +kernel) rfl ?_
          refine Ru.getI (i := 120) (x := 3) (by decide +kernel) (by rfl) (hp36 _) (by decide) rfl rfl ?_
          refine Ru.br (k := .le) (off := 5) (bb := false) (tg := 313) (by decide +kernel) (by decide +kernel) (by decide) rfl ?_
          refine Ru.kI (q := (.iconst 0, 1)) (c := 0) (by decide +kernel) rfl (by decide) ?_
          cases h
          exact Ru.iret (by decide +kernel) rfl rfl
        · replace h := if_f b27 h
          refine Ru.br2 (k := .le) (off := 8) (bb := true) (tg := 306) (by decide +kernel) (by decide +kernel) (ci_le1 (inR_to _) (by decide) b27) rfl ?_
          refine Ru.op (q := (.aload_n 0, 1)) (by decide +kernel) rfl ?_
          refine Ru.getI (i := 120) (x := (o23.2.F 36 0)) (by decide +kernel) (by rfl) (hp36 _) (by decide) rfl (eI_of _) ?_
          by_cases b28 : 0 < (o23.2.F 36 0)
          · replace h := if_t b28 h
            refine Ru.br (k := .le) (off := 5) (bb := false) (tg := 313) (by decide +kernel) (by decide +kernel) (cz (ci_le0 (inR_to _) (by decide) b28)) rfl ?_
            refine Ru.kI (q := (.iconst 0, 1)) (c := 0) (by decide +kernel) rfl (by decide) ?_
            cases h
            exact Ru.iret (by decide +kernel) rfl rfl
          · replace h := if_f b28 h
            refine Ru.br (k := .le) (off := 5) (bb := true) (tg := 315) (by decide +kernel) (by decide +kernel) (cz (ci_le1 (inR_to _) (by decide) b28)) rfl ?_
            refine Ru.op (q := (.aload_n 0, 1)) (by decide +kernel) rfl ?_
            refine Ru.kI (q := (.iconst 0, 1)) (c := 0) (by decide +kernel) rfl (by decide) ?_
            refine Ru.putH (i := 129) (by decide +kernel) (by rfl) (hp36 _) (by decide) (Nat.le_of_ble_eq_true rfl) rfl (by decide +kernel) (pf_36_2 _ _) ?_
            refine Ru.op (q := (.aload_n 0, 1)) (by decide +kernel) rfl ?_
            refine Ru.kI (q := (.iconst (-1), 1)) (c := (-1)) (by decide +kernel) rfl (by decide) ?_
            refine Ru.putH (i := 9) (by decide +kernel) (by rfl) (hp36 _) (by decide) (Nat.le_of_ble_eq_true rfl) rfl (by decide +kernel) (pf_36_1 _ _) ?_
            refine Ru.op (q := (.aload_n 0, 1)) (by decide +kernel) rfl ?_
            refine Ru.kI (q := (.bipush 100, 2)) (c := 100) (by decide +kernel) rfl (by decide) ?_
            refine Ru.op (q := (.aload_n 0, 1)) (by decide +kernel) rfl ?_
            refine Ru.getI (i := 356) (x := (o23.2.F 36 10)) (by decide +kernel) (by rfl) (hp36 _) (by decide) rfl (eI_of _) ?_
            refine Ru.ar2 (i := .iadd) (z := (100 + (o23.2.F 36 10))) (by decide +kernel) rfl (ar_add _ _) ?_
            obtain ⟨o29, e30, h⟩ := ob_some h
            refine Ru.vcall (i := 291) (j2 := 132) (as := [vI (100 + (o23.2.F 36 10))]) (by decide +kernel) (by rfl) rfl rfl (hp36 _) (by decide) ⟨(Nat.le_of_ble_eq_true rfl), (by show 19 + 3 ≤ 391; exact Nat.le_of_ble_eq_true rfl), Nat.le_of_ble_eq_true rfl, Nat.le_of_ble_eq_true rfl⟩ ((g132_ok e30).up (Nat.le_of_ble_eq_true rfl) (Nat.le_of_ble_eq_true rfl)) ?_
            refine Ru.op (q := (.aload_n 0, 1)) (by decide +kernel) rfl ?_
            refine Ru.op (q := (.iload_n 1, 1)) (by decide +kernel) rfl ?_
            refine Ru.op (q := (.iload_n 2, 1)) (by decide +kernel) rfl ?_
            refine Ru.op (q := (.iload_n 3, 1)) (by decide +kernel) rfl ?_
            refine Ru.op (q := (.iload 4, 2)) (by decide +kernel) rfl ?_
            obtain ⟨o31, e32, h⟩ := ob_some h
            refine Ru.vcall (i := 368) (j2 := 161) (as := [vI v1, vI v2, vI v3, vI v4]) (by decide +kernel) (by rfl) rfl rfl (hp36 _) (by decide) ⟨(Nat.le_of_ble_eq_true rfl), (by show 19 + 7 ≤ 391; exact Nat.le_of_ble_eq_true rfl), Nat.le_of_ble_eq_true rfl, Nat.le_of_ble_eq_true rfl⟩ ((g161_ok e32).up (Nat.le_of_ble_eq_true rfl) (Nat.le_of_ble_eq_true rfl)) ?_
            obtain ⟨g33, h⟩ := gd_some h
            by_cases b34 : o31.1 = 0
            · replace h := if_t b34 h
              refine Ru.br (k := .ne) (off := 5) (bb := false) (tg := 348) (by decide +kernel) (by decide +kernel) (cz (ci_ne0 g33 (by decide) b34)) rfl ?_
              refine Ru.kI (q := (.iconst (-1), 1)) (c := (-1)) (by decide +kernel) rfl (by decide) ?_
              cases h
              exact Ru.iret (by decide +kernel) rfl rfl
            · replace h := if_f b34 h
              refine Ru.br (k := .ne) (off := 5) (bb := true) (tg := 350) (by decide +kernel) (by decide +kernel) (cz (ci_ne1 g33 (by decide) b34)) rfl ?_
              refine Ru.op (q := (.aload_n 0, 1)) (by decide +kernel) rfl ?_
              refine Ru.op (q := (.dup, 1)) (by decide +kernel) rfl ?_
              refine Ru.getI (i := 356) (x := (o31.2.F 36 10)) (by decide +kernel) (by rfl) (hp36 _) (by decide) rfl (eI_of _) ?_
              refine Ru.kI (q := (.iconst 1, 1)) (c := 1) (by decide +kernel) rfl (by decide) ?_
              refine Ru.ar2 (i := .iadd) (z := ((o31.2.F 36 10) + 1)) (by decide +kernel) rfl (ar_add _ _) ?_
              refine Ru.putH (i := 356) (by decide +kernel) (by rfl) (hp36 _) (by decide) (Nat.le_of_ble_eq_true rfl) rfl (by decide +kernel) (pf_36_10 _ _) ?_
              refine Ru.op (q := (.aload_n 0, 1)) (by decide +kernel) rfl ?_
              refine Ru.getI (i := 356) (x := ((o31.2.F 36 10) + 1)) (by decide +kernel) (by rfl) (hp36 _) (by decide) rfl rfl ?_
              refine Ru.kI (q := (.iconst 1, 1)) (c := 1) (by decide +kernel) rfl (by decide) ?_
              refine Ru.ar2 (i := .isub) (z := (((o31.2.F 36 10) + 1) - 1)) (by decide +kernel) rfl (ar_sub _ _) ?_
              cases h
              exact Ru.iret (by decide +kernel) rfl rfl
  · replace h := if_f b21 h
    refine Ru.br (k := .ne) (off := 36) (bb := true) (tg := 306) (by decide +kernel) (by decide +kernel) (cz (ci_ne1 (inR_to _) (by decide) b21)) rfl ?_
    refine Ru.op (q := (.aload_n 0, 1)) (by decide +kernel) rfl ?_
    refine Ru.getI (i := 120) (x := (o17.F 36 0)) (by decide +kernel) (by rfl) (hp36 _) (by decide) rfl (eI_of _) ?_
    by_cases b35 : 0 < (o17.F 36 0)
    · replace h := if_t b35 h
      refine Ru.br (k := .le) (off := 5) (bb := false) (tg := 313) (by decide +kernel) (by decide +kernel) (cz (ci_le0 (inR_to _) (by decide) b35)) rfl ?_
      refine Ru.kI (q := (.iconst 0, 1)) (c := 0) (by decide +kernel) rfl (by decide) ?_
      cases h
      exact Ru.iret (by decide +kernel) rfl rfl
    · replace h := if_f b35 h
      refine Ru.br (k := .le) (off := 5) (bb := true) (tg := 315) (by decide +kernel) (by decide +kernel) (cz (ci_le1 (inR_to _) (by decide) b35)) rfl ?_
      refine Ru.op (q := (.aload_n 0, 1)) (by decide +kernel) rfl ?_
      refine Ru.kI (q := (.iconst 0, 1)) (c := 0) (by decide +kernel) rfl (by decide) ?_
      refine Ru.putH (i := 129) (by decide +kernel) (by rfl) (hp36 _) (by decide) (Nat.le_of_ble_eq_true rfl) rfl (by decide +kernel) (pf_36_2 _ _) ?_
      refine Ru.op (q := (.aload_n 0, 1)) (by decide +kernel) rfl ?_
      refine Ru.kI (q := (.iconst (-1), 1)) (c := (-1)) (by decide +kernel) rfl (by decide) ?_
      refine Ru.putH (i := 9) (by decide +kernel) (by rfl) (hp36 _) (by decide) (Nat.le_of_ble_eq_true rfl) rfl (by decide +kernel) (pf_36_1 _ _) ?_
      refine Ru.op (q := (.aload_n 0, 1)) (by decide +kernel) rfl ?_
      refine Ru.kI (q := (.bipush 100, 2)) (c := 100) (by decide +kernel) rfl (by decide) ?_
      refine Ru.op (q := (.aload_n 0, 1)) (by decide +kernel) rfl ?_
      refine Ru.getI (i := 356) (x := (o17.F 36 10)) (by decide +kernel) (by rfl) (hp36 _) (by decide) rfl (eI_of _) ?_
      refine Ru.ar2 (i := .iadd) (z := (100 + (o17.F 36 10))) (by decide +kernel) rfl (ar_add _ _) ?_
      obtain ⟨o36, e37, h⟩ := ob_some h
      refine Ru.vcall (i := 291) (j2 := 132) (as := [vI (100 + (o17.F 36 10))]) (by decide +kernel) (by rfl) rfl rfl (hp36 _) (by decide) ⟨(Nat.le_of_ble_eq_true rfl), (by show 19 + 3 ≤ 391; exact Nat.le_of_ble_eq_true rfl), Nat.le_of_ble_eq_true rfl, Nat.le_of_ble_eq_true rfl⟩ ((g132_ok e37).up (Nat.le_of_ble_eq_true rfl) (Nat.le_of_ble_eq_true rfl)) ?_
      refine Ru.op (q := (.aload_n 0, 1)) (by decide +kernel) rfl ?_
      refine Ru.op (q := (.iload_n 1, 1)) (by decide +kernel) rfl ?_
      refine Ru.op (q := (.iload_n 2, 1)) (by decide +kernel) rfl ?_
      refine Ru.op (q := (.iload_n 3, 1)) (by decide +kernel) rfl ?_
      refine Ru.op (q := (.iload 4, 2)) (by decide +kernel) rfl ?_
      obtain ⟨o38, e39, h⟩ := ob_some h
      refine Ru.vcall (i := 368) (j2 := 161) (as := [vI v1, vI v2, vI v3, vI v4]) (by decide +kernel) (by rfl) rfl rfl (hp36 _) (by decide) ⟨(Nat.le_of_ble_eq_true rfl), (by show 19 + 7 ≤ 391; exact Nat.le_of_ble_eq_true rfl), Nat.le_of_ble_eq_true rfl, Nat.le_of_ble_eq_true rfl⟩ ((g161_ok e39).up (Nat.le_of_ble_eq_true rfl) (Nat.le_of_ble_eq_true rfl)) ?_
      obtain ⟨g40, h⟩ := gd_some h
      by_cases b41 : o38.1 = 0
      · replace h := if_t b41 h
        refine Ru.br (k := .ne) (off := 5) (bb := false) (tg := 348) (by decide +kernel) (by decide +kernel) (cz (ci_ne0 g40 (by decide) b41)) rfl ?_
        refine Ru.kI (q := (.iconst (-1), 1)) (c := (-1)) (by decide +kernel) rfl (by decide) ?_
        cases h
        exact Ru.iret (by decide +kernel) rfl rfl
      · replace h := if_f b41 h
        refine Ru.br (k := .ne) (off := 5) (bb := true) (tg := 350) (by decide +kernel) (by decide +kernel) (cz (ci_ne1 g40 (by decide) b41)) rfl ?_
        refine Ru.op (q := (.aload_n 0, 1)) (by decide +kernel) rfl ?_
        refine Ru.op (q := (.dup, 1)) (by decide +kernel) rfl ?_
        refine Ru.getI (i := 356) (x := (o38.2.F 36 10)) (by decide +kernel) (by rfl) (hp36 _) (by decide) rfl (eI_of _) ?_
        refine Ru.kI (q := (.iconst 1, 1)) (c := 1) (by decide +kernel) rfl (by decide) ?_
        refine Ru.ar2 (i := .iadd) (z := ((o38.2.F 36 10) + 1)) (by decide +kernel) rfl (ar_add _ _) ?_
        refine Ru.putH (i := 356) (by decide +kernel) (by rfl) (hp36 _) (by decide) (Nat.le_of_ble_eq_true rfl) rfl (by decide +kernel) (pf_36_10 _ _) ?_
        refine Ru.op (q := (.aload_n 0, 1)) (by decide +kernel) rfl ?_
        refine Ru.getI (i := 356) (x := ((o38.2.F 36 10) + 1)) (by decide +kernel) (by rfl) (hp36 _) (by decide) rfl rfl ?_
        refine Ru.kI (q := (.iconst 1, 1)) (c := 1) (by decide +kernel) rfl (by decide) ?_
        refine Ru.ar2 (i := .isub) (z := (((o38.2.F 36 10) + 1) - 1)) (by decide +kernel) rfl (ar_sub _ _) ?_
        cases h
        exact Ru.iret (by decide +kernel) rfl rfl
def g158C131 (S : St) (v1 : Int) (v2 : Int) (v3 : Int) (v4 : Int) : Option (Int × St) := if (S.F 36 28) = 0 then if (S.F 36 27) = (S.F 36 2) then ob (g159 (S.f 36 28 0) v1 v2 v3 v4) (fun o9 => gd (inR o9) (if o9 = 0 then g158C212 (((S.f 36 28 0).f 36 0 2).f 36 1 (S.F 36 1)) v1 v2 v3 v4 else g158C212 (((S.f 36 28 0).f 36 0 0).f 36 1 (S.F 36 1)) v1 v2 v3 v4)) else g158C212 (((S.f 36 28 1).f 36 0 1).f 36 1 (S.F 36 27)) v1 v2 v3 v4 else g158C212 (((S.f 36 28 1).f 36 0 1).f 36 1 (S.F 36 27)) v1 v2 v3 v4
set_option maxRecDepth 100000 in
set_option maxHeartbeats 4000000 in
theorem g158C131_ok {S : St} {v1 : Int} {v2 : Int} {v3 : Int} {v4 : Int} {d5 d6 : Option Value} {o : Int × St} (h : g158C131 S v1 v2 v3 v4 = some o) : Ru none 18 391 158 (131, [some (.ref 36), some (vI v1), some (vI v2), some (vI v3), some (vI v4), d5, d6], [], S.ns, Hp S) ((0, some (vI o.1)), o.2.ns, Hp o.2) := by
  unfold g158C131 at h
  refine Ru.op (q := (.aload_n 0, 1)) (by decide +kernel) rfl ?_
  refine Ru.op (q := (.aload_n 0, 1)) (by decide +kernel) rfl ?_
  refine Ru.getI (i := 151) (x := (S.F 36 28)) (by decide +kernel) (by rfl) (hp36 _) (by decide) rfl (eI_of _) ?_
  by_cases b7 : (S.F 36 28) = 0
  · replace h := if_t b7 h
    refine Ru.br (k := .ne) (off := 14) (bb := false) (tg := 139) (by decide +kernel) (by decide +kernel) (cz (ci_ne0 (inR_to _) (by decide) b7)) rfl ?_
    refine Ru.op (q := (.aload_n 0, 1)) (by decide +kernel) rfl ?_
    refine Ru.getI (i := 140) (x := (S.F 36 27)) (by decide +kernel) (by rfl) (hp36 _) (by decide) rfl (eI_of _) ?_
    refine Ru.op (q := (.aload_n 0, 1)) (by decide +kernel) rfl ?_
    refine Ru.getI (i := 129) (x := (S.F 36 2)) (by decide +kernel) (by rfl) (hp36 _) (by decide) rfl (eI_of _) ?_
    by_cases b8 : (S.F 36 27) = (S.F 36 2)
    · replace h := if_t b8 h
      refine Ru.br2 (k := .eq) (off := 7) (bb := true) (tg := 154) (by decide +kernel) (by decide +kernel) (ci_eq1 (inR_to _) (inR_to _) b8) rfl ?_
      refine Ru.kI (q := (.iconst 0, 1)) (c := 0) (by decide +kernel) rfl (by decide) ?_
      refine Ru.putH (i := 151) (by decide +kernel) (by rfl) (hp36 _) (by decide) (Nat.le_of_ble_eq_true rfl) (fk_b (by decide)) (by decide +kernel) (pf_36_28 _ _) ?_
      refine Ru.op (q := (.aload_n 0, 1)) (by decide +kernel) rfl ?_
      refine Ru.op (q := (.aload_n 0, 1)) (by decide +kernel) rfl ?_
      refine Ru.getI (i := 151) (x := 0) (by decide +kernel) (by rfl) (hp36 _) (by decide) rfl rfl ?_
      refine Ru.br (k := .eq) (off := 7) (bb := true) (tg := 170) (by decide +kernel) (by decide +kernel) (by decide) rfl ?_
      refine Ru.op (q := (.aload_n 0, 1)) (by decide +kernel) rfl ?_
      refine Ru.op (q := (.iload_n 1, 1)) (by decide +kernel) rfl ?_
      refine Ru.op (q := (.iload_n 2, 1)) (by decide +kernel) rfl ?_
      refine Ru.op (q := (.iload_n 3, 1)) (by decide +kernel) rfl ?_
      refine Ru.op (q := (.iload 4, 2)) (by decide +kernel) rfl ?_
      obtain ⟨o9, e10, h⟩ := ob_some h
      refine Ru.vcall (i := 365) (j2 := 159) (as := [vI v1, vI v2, vI v3, vI v4]) (by decide +kernel) (by rfl) rfl rfl (hp36 _) (by decide) ⟨(Nat.le_of_ble_eq_true rfl), (by show 19 + 6 ≤ 391; exact Nat.le_of_ble_eq_true rfl), Nat.le_of_ble_eq_true rfl, Nat.le_of_ble_eq_true rfl⟩ ((g159_ok e10).up (Nat.le_of_ble_eq_true rfl) (Nat.le_of_ble_eq_true rfl)) ?_
      obtain ⟨g11, h⟩ := gd_some h
      by_cases b12 : o9 = 0
      · replace h := if_t b12 h
        refine Ru.br (k := .eq) (off := 7) (bb := true) (tg := 186) (by decide +kernel) (by decide +kernel) (cz (ci_eq1 g11 (by decide) b12)) rfl ?_
        refine Ru.kI (q := (.iconst 2, 1)) (c := 2) (by decide +kernel) rfl (by decide) ?_
        refine Ru.putH (i := 120) (by decide +kernel) (by rfl) (hp36 _) (by decide) (Nat.le_of_ble_eq_true rfl) rfl (by decide +kernel) (pf_36_0 _ _) ?_
        refine Ru.op (q := (.aload_n 0, 1)) (by decide +kernel) rfl ?_
        refine Ru.op (q := (.aload_n 0, 1)) (by decide +kernel) rfl ?_
        refine Ru.getI (i := 151) (x := 0) (by decide +kernel) (by rfl) (hp36 _) (by decide) rfl rfl ?_
        refine Ru.br (k := .eq) (off := 10) (bb := true) (tg := 205) (by decide +kernel) (by decide +kernel) (by decide) rfl ?_
        refine Ru.op (q := (.aload_n 0, 1)) (by decide +kernel) rfl ?_
        refine Ru.getI (i := 9) (x := (S.F 36 1)) (by decide +kernel) (by rfl) (hp36 _) (by decide) rfl (eI_of _) ?_
        refine Ru.putH (i := 9) (by decide +kernel) (by rfl) (hp36 _) (by decide) (Nat.le_of_ble_eq_true rfl) rfl (by decide +kernel) (pf_36_1 _ _) ?_
        exact g158C212_ok h
      · replace h := if_f b12 h
        refine Ru.br (k := .eq) (off := 7) (bb := false) (tg := 182) (by decide +kernel) (by decide +kernel) (cz (ci_eq0 g11 (by decide) b12)) rfl ?_
        refine Ru.kI (q := (.iconst 0, 1)) (c := 0) (by decide +kernel) rfl (by decide) ?_
        refine Ru.op (q := (.goto 4, 3)) (by decide +kernel) rfl ?_
        refine Ru.putH (i := 120) (by decide +kernel) (by rfl) (hp36 _) (by decide) (Nat.le_of_ble_eq_true rfl) rfl (by decide +kernel) (pf_36_0 _ _) ?_
        refine Ru.op (q := (.aload_n 0, 1)) (by decide +kernel) rfl ?_
        refine Ru.op (q := (.aload_n 0, 1)) (by decide +kernel) rfl ?_
        refine Ru.getI (i := 151) (x := 0) (by decide +kernel) (by rfl) (hp36 _) (by decide) rfl rfl ?_
        refine Ru.br (k := .eq) (off := 10) (bb := true) (tg := 205) (by decide +kernel) (by decide +kernel) (by decide) rfl ?_
        refine Ru.op (q := (.aload_n 0, 1)) (by decide +kernel) rfl ?_
        refine Ru.getI (i := 9) (x := (S.F 36 1)) (by decide +kernel) (by rfl) (hp36 _) (by decide) rfl (eI_of _) ?_
        refine Ru.putH (i := 9) (by decide +kernel) (by rfl) (hp36 _) (by decide) (Nat.le_of_ble_eq_true rfl) rfl (by decide +kernel) (pf_36_1 _ _) ?_
        exact g158C212_ok h
    · replace h := if_f b8 h
      refine Ru.br2 (k := .eq) (off := 7) (bb := false) (tg := 150) (by decide +kernel) (by decide +kernel) (ci_eq0 (inR_to _) (inR_to _) b8) rfl ?_
      refine Ru.kI (q := (.iconst 1, 1)) (c := 1) (by decide +kernel) rfl (by decide) ?_
      refine Ru.op (q := (.goto 4, 3)) (by decide +kernel) rfl ?_
      refine Ru.putH (i := 151) (by decide +kernel) (by rfl) (hp36 _) (by decide) (Nat.le_of_ble_eq_true rfl) (fk_b (by decide)) (by decide +kernel) (pf_36_28 _ _) ?_
      refine Ru.op (q := (.aload_n 0, 1)) (by decide +kernel) rfl ?_
      refine Ru.op (q := (.aload_n 0, 1)) (by decide +kernel) rfl ?_
      refine Ru.getI (i := 151) (x := 1) (by decide +kernel) (by rfl) (hp36 _) (by decide) rfl rfl ?_
      refine Ru.br (k := .eq) (off := 7) (bb := false) (tg := 166) (by decide +kernel) (by decide +kernel) (by decide) rfl ?_
      refine Ru.kI (q := (.iconst 1, 1)) (c := 1) (by decide +kernel) rfl (by decide) ?_
      refine Ru.op (q := (.goto 20, 3)) (by decide +kernel) rfl ?_
      refine Ru.putH (i := 120) (by decide +kernel) (by rfl) (hp36 _) (by decide) (Nat.le_of_ble_eq_true rfl) rfl (by decide +kernel) (pf_36_0 _ _) ?_
      refine Ru.op (q := (.aload_n 0, 1)) (by decide +kernel) rfl ?_
      refine Ru.op (q := (.aload_n 0, 1)) (by decide +kernel) rfl ?_
      refine Ru.getI (i := 151) (x := 1) (by decide +kernel) (by rfl) (hp36 _) (by decide) rfl rfl ?_
      refine Ru.br (k := .eq) (off := 10) (bb := false) (tg := 198) (by decide +kernel) (by decide +kernel) (by decide) rfl ?_
      refine Ru.op (q := (.aload_n 0, 1)) (by decide +kernel) rfl ?_
      refine Ru.getI (i := 140) (x := (S.F 36 27)) (by decide +kernel) (by rfl) (hp36 _) (by decide) rfl (eI_of _) ?_
      refine Ru.op (q := (.goto 7, 3)) (by decide +kernel) rfl ?_
      refine Ru.putH (i := 9) (by decide +kernel) (by rfl) (hp36 _) (by decide) (Nat.le_of_ble_eq_true rfl) rfl (by decide +kernel) (pf_36_1 _ _) ?_
      exact g158C212_ok h
  · replace h := if_f b7 h
    refine Ru.br (k := .ne) (off := 14) (bb := true) (tg := 150) (by decide +kernel) (by decide +kernel) (cz (ci_ne1 (inR_to _) (by decide) b7)) rfl ?_
    refine Ru.kI (q := (.iconst 1, 1)) (c := 1) (by decide +kernel) rfl (by decide) ?_
    refine Ru.op (q := (.goto 4, 3)) (by decide +kernel) rfl ?_
    refine Ru.putH (i := 151) (by decide +kernel) (by rfl) (hp36 _) (by decide) (Nat.le_of_ble_eq_true rfl) (fk_b (by decide)) (by decide +kernel) (pf_36_28 _ _) ?_
    refine Ru.op (q := (.aload_n 0, 1)) (by decide +kernel) rfl ?_
    refine Ru.op (q := (.aload_n 0, 1)) (by decide +kernel) rfl ?_
    refine Ru.getI (i := 151) (x := 1) (by decide +kernel) (by rfl) (hp36 _) (by decide) rfl rfl ?_
    refine Ru.br (k := .eq) (off := 7) (bb := false) (tg := 166) (by decide +kernel) (by decide +kernel) (by decide) rfl ?_
    refine Ru.kI (q := (.iconst 1, 1)) (c := 1) (by decide +kernel) rfl (by decide) ?_
    refine Ru.op (q := (.goto 20, 3)) (by decide +kernel) rfl ?_
    refine Ru.putH (i := 120) (by decide +kernel) (by rfl) (hp36 _) (by decide) (Nat.le_of_ble_eq_true rfl) rfl (by decide +kernel) (pf_36_0 _ _) ?_
    refine Ru.op (q := (.aload_n 0, 1)) (by decide +kernel) rfl ?_
    refine Ru.op (q := (.aload_n 0, 1)) (by decide +kernel) rfl ?_
    refine Ru.getI (i := 151) (x := 1) (by decide +kernel) (by rfl) (hp36 _) (by decide) rfl rfl ?_
    refine Ru.br (k := .eq) (off := 10) (bb := false) (tg := 198) (by decide +kernel) (by decide +kernel) (by decide) rfl ?_
    refine Ru.op (q := (.aload_n 0, 1)) (by decide +kernel) rfl ?_
    refine Ru.getI (i := 140) (x := (S.F 36 27)) (by decide +kernel) (by rfl) (hp36 _) (by decide) rfl (eI_of _) ?_
    refine Ru.op (q := (.goto 7, 3)) (by decide +kernel) rfl ?_
    refine Ru.putH (i := 9) (by decide +kernel) (by rfl) (hp36 _) (by decide) (Nat.le_of_ble_eq_true rfl) rfl (by decide +kernel) (pf_36_1 _ _) ?_
    exact g158C212_ok h
def g158L34 (v1 : Int) (v2 : Int) (v3 : Int) (v4 : Int) : Nat → Int → St → Option (St)
  | 0, _, _ => none
  | n + 1, v5, S => gd (inR v5) (if v5 = 0 then some S else ob (g102 S) (fun o44 => gd (inR o44) (if o44 = 126 then ob (g103 (S.f 36 27 ((S.F 36 27) + 1)) 1) (fun o48 => if (o48.F 36 28) = 0 then ob (g102 o48) (fun o51 => gd (inR o51) (if o51 = 124 then g158L34 v1 v2 v3 v4 n 1 (o48.f 36 27 ((o48.F 36 27) + 1)) else g158L34 v1 v2 v3 v4 n 0 (o48.f 36 27 (o48.F 36 27)))) else g158L34 v1 v2 v3 v4 n 0 (o48.f 36 27 (o48.F 36 27))) else ob (g103 (S.f 36 27 (S.F 36 27)) 0) (fun o55 => if (o55.F 36 28) = 0 then ob (g102 o55) (fun o58 => gd (inR o58) (if o58 = 124 then g158L34 v1 v2 v3 v4 n 1 (o55.f 36 27 ((o55.F 36 27) + 1)) else g158L34 v1 v2 v3 v4 n 0 (o55.f 36 27 (o55.F 36 27)))) else g158L34 v1 v2 v3 v4 n 0 (o55.f 36 27 (o55.F 36 27))))))
set_option maxRecDepth 100000 in
set_option maxHeartbeats 4000000 in
theorem g158L34_ok {v1 : Int} {v2 : Int} {v3 : Int} {v4 : Int} : ∀ (n : Nat) (v5 : Int) (S : St) (d6 : Option Value) (out : St), g158L34 v1 v2 v3 v4 n v5 S = some out → ∀ r, (∀ (e5 e6 : Option Value), Ru none 18 391 158 (131, [some (.ref 36), some (vI v1), some (vI v2), some (vI v3), some (vI v4), e5, e6], [], out.ns, Hp out) r) → Ru none 18 391 158 (34, [some (.ref 36), some (vI v1), some (vI v2), some (vI v3), some (vI v4), some (vI v5), d6], [], S.ns, Hp S) r := by
  intro n
  induction n with
  | zero => intro v5 S d6 out h; cases h
  | succ n ih =>
    intro v5 S d6 out h r hk
    unfold g158L34 at h
    refine Ru.op (q := (.iload 5, 2)) (by decide +kernel) rfl ?_
    obtain ⟨g42, h⟩ := gd_some h
    by_cases b43 : v5 = 0
    · replace h := if_t b43 h
      refine Ru.br (k := .eq) (off := 95) (bb := true) (tg := 131) (by decide +kernel) (by decide +kernel) (cz (ci_eq1 g42 (by decide) b43)) rfl ?_
      cases h
      exact hk _ _
    · replace h := if_f b43 h
      refine Ru.br (k := .eq) (off := 95) (bb := false) (tg := 39) (by decide +kernel) (by decide +kernel) (cz (ci_eq0 g42 (by decide) b43)) rfl ?_
      refine Ru.op (q := (.aload_n 0, 1)) (by decide +kernel) rfl ?_
      obtain ⟨o44, e45, h⟩ := ob_some h
      refine Ru.vcall (i := 143) (j2 := 102) (as := []) (by decide +kernel) (by rfl) rfl rfl (hp36 _) (by decide) ⟨(Nat.le_of_ble_eq_true rfl), (by show 19 + 1 ≤ 391; exact Nat.le_of_ble_eq_true rfl), Nat.le_of_ble_eq_true rfl, Nat.le_of_ble_eq_true rfl⟩ ((g102_ok e45).up (Nat.le_of_ble_eq_true rfl) (Nat.le_of_ble_eq_true rfl)) ?_
      refine Ru.kI (q := (.bipush 126, 2)) (c := 126) (by decide +kernel) rfl (by decide) ?_
      obtain ⟨g46, h⟩ := gd_some h
      by_cases b47 : o44 = 126
      · replace h := if_t b47 h
        refine Ru.br2 (k := .ne) (off := 7) (bb := false) (tg := 48) (by decide +kernel) (by decide +kernel) (ci_ne0 g46 (by decide) b47) rfl ?_
        refine Ru.kI (q := (.iconst 1, 1)) (c := 1) (by decide +kernel) rfl (by decide) ?_
        refine Ru.op (q := (.goto 4, 3)) (by decide +kernel) rfl ?_
        refine Ru.op (q := (.istore 6, 2)) (S' := (55, [some (.ref 36), some (vI v1), some (vI v2), some (vI v3), some (vI v4), some (vI v5), some (vI 1)], [], _, _)) (by decide +kernel) rfl ?_
        refine Ru.op (q := (.aload_n 0, 1)) (by decide +kernel) rfl ?_
        refine Ru.op (q := (.iload 6, 2)) (by decide +kernel) rfl ?_
        refine Ru.br (k := .eq) (off := 12) (bb := false) (tg := 61) (by decide +kernel) (by decide +kernel) (by decide) rfl ?_
        refine Ru.op (q := (.aload_n 0, 1)) (by decide +kernel) rfl ?_
        refine Ru.getI (i := 140) (x := (S.F 36 27)) (by decide +kernel) (by rfl) (hp36 _) (by decide) rfl (eI_of _) ?_
        refine Ru.kI (q := (.iconst 1, 1)) (c := 1) (by decide +kernel) rfl (by decide) ?_
        refine Ru.ar2 (i := .iadd) (z := ((S.F 36 27) + 1)) (by decide +kernel) rfl (ar_add _ _) ?_
        refine Ru.op (q := (.goto 7, 3)) (by decide +kernel) rfl ?_
        refine Ru.putH (i := 140) (by decide +kernel) (by rfl) (hp36 _) (by decide) (Nat.le_of_ble_eq_true rfl) rfl (by decide +kernel) (pf_36_27 _ _) ?_
        refine Ru.op (q := (.aload_n 0, 1)) (by decide +kernel) rfl ?_
        refine Ru.op (q := (.iload 6, 2)) (by decide +kernel) rfl ?_
        obtain ⟨o48, e49, h⟩ := ob_some h
        refine Ru.vcall (i := 207) (j2 := 103) (as := [vI 1]) (by decide +kernel) (by rfl) rfl rfl (hp36 _) (by decide) ⟨(Nat.le_of_ble_eq_true rfl), (by show 19 + 2 ≤ 391; exact Nat.le_of_ble_eq_true rfl), Nat.le_of_ble_eq_true rfl, Nat.le_of_ble_eq_true rfl⟩ ((g103_ok e49).up (Nat.le_of_ble_eq_true rfl) (Nat.le_of_ble_eq_true rfl)) ?_
        refine Ru.op (q := (.aload_n 0, 1)) (by decide +kernel) rfl ?_
        refine Ru.getI (i := 151) (x := (o48.F 36 28)) (by decide +kernel) (by rfl) (hp36 _) (by decide) rfl (eI_of _) ?_
        by_cases b50 : (o48.F 36 28) = 0
        · replace h := if_t b50 h
          refine Ru.br (k := .ne) (off := 16) (bb := false) (tg := 90) (by decide +kernel) (by decide +kernel) (cz (ci_ne0 (inR_to _) (by decide) b50)) rfl ?_
          refine Ru.op (q := (.aload_n 0, 1)) (by decide +kernel) rfl ?_
          obtain ⟨o51, e52, h⟩ := ob_some h
          refine Ru.vcall (i := 143) (j2 := 102) (as := []) (by decide +kernel) (by rfl) rfl rfl (hp36 _) (by decide) ⟨(Nat.le_of_ble_eq_true rfl), (by show 19 + 1 ≤ 391; exact Nat.le_of_ble_eq_true rfl), Nat.le_of_ble_eq_true rfl, Nat.le_of_ble_eq_true rfl⟩ ((g102_ok e52).up (Nat.le_of_ble_eq_true rfl) (Nat.le_of_ble_eq_true rfl)) ?_
          refine Ru.kI (q := (.bipush 124, 2)) (c := 124) (by decide +kernel) rfl (by decide) ?_
          obtain ⟨g53, h⟩ := gd_some h
          by_cases b54 : o51 = 124
          · replace h := if_t b54 h
            refine Ru.br2 (k := .ne) (off := 7) (bb := false) (tg := 99) (by decide +kernel) (by decide +kernel) (ci_ne0 g53 (by decide) b54) rfl ?_
            refine Ru.kI (q := (.iconst 1, 1)) (c := 1) (by decide +kernel) rfl (by decide) ?_
            refine Ru.op (q := (.goto 4, 3)) (by decide +kernel) rfl ?_
            refine Ru.op (q := (.istore 5, 2)) (S' := (106, [some (.ref 36), some (vI v1), some (vI v2), some (vI v3), some (vI v4), some (vI 1), some (vI 1)], [], _, _)) (by decide +kernel) rfl ?_
            refine Ru.op (q := (.aload_n 0, 1)) (by decide +kernel) rfl ?_
            refine Ru.op (q := (.iload 5, 2)) (by decide +kernel) rfl ?_
            refine Ru.br (k := .eq) (off := 12) (bb := false) (tg := 112) (by decide +kernel) (by decide +kernel) (by decide) rfl ?_
            refine Ru.op (q := (.aload_n 0, 1)) (by decide +kernel) rfl ?_
            refine Ru.getI (i := 140) (x := (o48.F 36 27)) (by decide +kernel) (by rfl) (hp36 _) (by decide) rfl (eI_of _) ?_
            refine Ru.kI (q := (.iconst 1, 1)) (c := 1) (by decide +kernel) rfl (by decide) ?_
            refine Ru.ar2 (i := .iadd) (z := ((o48.F 36 27) + 1)) (by decide +kernel) rfl (ar_add _ _) ?_
            refine Ru.op (q := (.goto 7, 3)) (by decide +kernel) rfl ?_
            refine Ru.putH (i := 140) (by decide +kernel) (by rfl) (hp36 _) (by decide) (Nat.le_of_ble_eq_true rfl) rfl (by decide +kernel) (pf_36_27 _ _) ?_
            refine Ru.op (q := (.goto (-94), 3)) (by decide +kernel) rfl ?_
            exact ih _ _ _ _ h r hk
          · replace h := if_f b54 h
            refine Ru.br2 (k := .ne) (off := 7) (bb := true) (tg := 103) (by decide +kernel) (by decide +kernel) (ci_ne1 g53 (by decide) b54) rfl ?_
            refine Ru.kI (q := (.iconst 0, 1)) (c := 0) (by decide +kernel) rfl (by decide) ?_
            refine Ru.op (q := (.istore 5, 2)) (S' := (106, [some (.ref 36), some (vI v1), some (vI v2), some (vI v3), some (vI v4), some (vI 0), some (vI 1)], [], _, _)) (by decide +kernel) rfl ?_
            refine Ru.op (q := (.aload_n 0, 1)) (by decide +kernel) rfl ?_
            refine Ru.op (q := (.iload 5, 2)) (by decide +kernel) rfl ?_
            refine Ru.br (k := .eq) (off := 12) (bb := true) (tg := 121) (by decide +kernel) (by decide +kernel) (by decide) rfl ?_
            refine Ru.op (q := (.aload_n 0, 1)) (by decide +kernel) rfl ?_
            refine Ru.getI (i := 140) (x := (o48.F 36 27)) (by decide +kernel) (by rfl) (hp36 _) (by decide) rfl (eI_of _) ?_
            refine Ru.putH (i := 140) (by decide +kernel) (by rfl) (hp36 _) (by decide) (Nat.le_of_ble_eq_true rfl) rfl (by decide +kernel) (pf_36_27 _ _) ?_
            refine Ru.op (q := (.goto (-94), 3)) (by decide +kernel) rfl ?_
            exact ih _ _ _ _ h r hk
        · replace h := if_f b50 h
          refine Ru.br (k := .ne) (off := 16) (bb := true) (tg := 103) (by decide +kernel) (by decide +kernel) (cz (ci_ne1 (inR_to _) (by decide) b50)) rfl ?_
          refine Ru.kI (q := (.iconst 0, 1)) (c := 0) (by decide +kernel) rfl (by decide) ?_
          refine Ru.op (q := (.istore 5, 2)) (S' := (106, [some (.ref 36), some (vI v1), some (vI v2), some (vI v3), some (vI v4), some (vI 0), some (vI 1)], [], _, _)) (by decide +kernel) rfl ?_
          refine Ru.op (q := (.aload_n 0, 1)) (by decide +kernel) rfl ?_
          refine Ru.op (q := (.iload 5, 2)) (by decide +kernel) rfl ?_
          refine Ru.br (k := .eq) (off := 12) (bb := true) (tg := 121) (by decide +kernel) (by decide +kernel) (by decide) rfl ?_
          refine Ru.op (q := (.aload_n 0, 1)) (by decide +kernel) rfl ?_
          refine Ru.getI (i := 140) (x := (o48.F 36 27)) (by decide +kernel) (by rfl) (hp36 _) (by decide) rfl (eI_of _) ?_
          refine Ru.putH (i := 140) (by decide +kernel) (by rfl) (hp36 _) (by decide) (Nat.le_of_ble_eq_true rfl) rfl (by decide +kernel) (pf_36_27 _ _) ?_
          refine Ru.op (q := (.goto (-94), 3)) (by decide +kernel) rfl ?_
          exact ih _ _ _ _ h r hk
      · replace h := if_f b47 h
        refine Ru.br2 (k := .ne) (off := 7) (bb := true) (tg := 52) (by decide +kernel) (by decide +kernel) (ci_ne1 g46 (by decide) b47) rfl ?_
        refine Ru.kI (q := (.iconst 0, 1)) (c := 0) (by decide +kernel) rfl (by decide) ?_
        refine Ru.op (q := (.istore 6, 2)) (S' := (55, [some (.ref 36), some (vI v1), some (vI v2), some (vI v3), some (vI v4), some (vI v5), some (vI 0)], [], _, _)) (by decide +kernel) rfl ?_
        refine Ru.op (q := (.aload_n 0, 1)) (by decide +kernel) rfl ?_
        refine Ru.op (q := (.iload 6, 2)) (by decide +kernel) rfl ?_
        refine Ru.br (k := .eq) (off := 12) (bb := true) (tg := 70) (by decide +kernel) (by decide +kernel) (by decide) rfl ?_
        refine Ru.op (q := (.aload_n 0, 1)) (by decide +kernel) rfl ?_
        refine Ru.getI (i := 140) (x := (S.F 36 27)) (by decide +kernel) (by rfl) (hp36 _) (by decide) rfl (eI_of _) ?_
        refine Ru.putH (i := 140) (by decide +kernel) (by rfl) (hp36 _) (by decide) (Nat.le_of_ble_eq_true rfl) rfl (by decide +kernel) (pf_36_27 _ _) ?_
        refine Ru.op (q := (.aload_n 0, 1)) (by decide +kernel) rfl ?_
        refine Ru.op (q := (.iload 6, 2)) (by decide +kernel) rfl ?_
        obtain ⟨o55, e56, h⟩ := ob_some h
        refine Ru.vcall (i := 207) (j2 := 103) (as := [vI 0]) (by decide +kernel) (by rfl) rfl rfl (hp36 _) (by decide) ⟨(Nat.le_of_ble_eq_true rfl), (by show 19 + 2 ≤ 391; exact Nat.le_of_ble_eq_true rfl), Nat.le_of_ble_eq_true rfl, Nat.le_of_ble_eq_true rfl⟩ ((g103_ok e56).up (Nat.le_of_ble_eq_true rfl) (Nat.le_of_ble_eq_true rfl)) ?_
        refine Ru.op (q := (.aload_n 0, 1)) (by decide +kernel) rfl ?_
        refine Ru.getI (i := 151) (x := (o55.F 36 28)) (by decide +kernel) (by rfl) (hp36 _) (by decide) rfl (eI_of _) ?_
        by_cases b57 : (o55.F 36 28) = 0
        · replace h := if_t b57 h
          refine Ru.br (k := .ne) (off := 16) (bb := false) (tg := 90) (by decide +kernel) (by decide +kernel) (cz (ci_ne0 (inR_to _) (by decide) b57)) rfl ?_
          refine Ru.op (q := (.aload_n 0, 1)) (by decide +kernel) rfl ?_
          obtain ⟨o58, e59, h⟩ := ob_some h
          refine Ru.vcall (i := 143) (j2 := 102) (as := []) (by decide +kernel) (by rfl) rfl rfl (hp36 _) (by decide) ⟨(Nat.le_of_ble_eq_true rfl), (by show 19 + 1 ≤ 391; exact Nat.le_of_ble_eq_true rfl), Nat.le_of_ble_eq_true rfl, Nat.le_of_ble_eq_true rfl⟩ ((g102_ok e59).up (Nat.le_of_ble_eq_true rfl) (Nat.le_of_ble_eq_true rfl)) ?_
          refine Ru.kI (q := (.bipush 124, 2)) (c := 124) (by decide +kernel) rfl (by decide) ?_
          obtain ⟨g60, h⟩ := gd_some h
          by_cases b61 : o58 = 124
          · replace h := if_t b61 h
            refine Ru.br2 (k := .ne) (off := 7) (bb := false) (tg := 99) (by decide +kernel) (by decide +kernel) (ci_ne0 g60 (by decide) b61) rfl ?_
            refine Ru.kI (q := (.iconst 1, 1)) (c := 1) (by decide +kernel) rfl (by decide) ?_
            refine Ru.op (q := (.goto 4, 3)) (by decide +kernel) rfl ?_
            refine Ru.op (q := (.istore 5, 2)) (S' := (106, [some (.ref 36), some (vI v1), some (vI v2), some (vI v3), some (vI v4), some (vI 1), some (vI 0)], [], _, _)) (by decide +kernel) rfl ?_
            refine Ru.op (q := (.aload_n 0, 1)) (by decide +kernel) rfl ?_
            refine Ru.op (q := (.iload 5, 2)) (by decide +kernel) rfl ?_
            refine Ru.br (k := .eq) (off := 12) (bb := false) (tg := 112) (by decide +kernel) (by decide +kernel) (by decide) rfl ?_
            refine Ru.op (q := (.aload_n 0, 1)) (by decide +kernel) rfl ?_
            refine Ru.getI (i := 140) (x := (o55.F 36 27)) (by decide +kernel) (by rfl) (hp36 _) (by decide) rfl (eI_of _) ?_
            refine Ru.kI (q := (.iconst 1, 1)) (c := 1) (by decide +kernel) rfl (by decide) ?_
            refine Ru.ar2 (i := .iadd) (z := ((o55.F 36 27) + 1)) (by decide +kernel) rfl (ar_add _ _) ?_
            refine Ru.op (q := (.goto 7, 3)) (by decide +kernel) rfl ?_
            refine Ru.putH (i := 140) (by decide +kernel) (by rfl) (hp36 _) (by decide) (Nat.le_of_ble_eq_true rfl) rfl (by decide +kernel) (pf_36_27 _ _) ?_
            refine Ru.op (q := (.goto (-94), 3)) (by decide +kernel) rfl ?_
            exact ih _ _ _ _ h r hk
          · replace h := if_f b61 h
            refine Ru.br2 (k := .ne) (off := 7) (bb := true) (tg := 103) (by decide +kernel) (by decide +kernel) (ci_ne1 g60 (by decide) b61) rfl ?_
            refine Ru.kI (q := (.iconst 0, 1)) (c := 0) (by decide +kernel) rfl (by decide) ?_
            refine Ru.op (q := (.istore 5, 2)) (S' := (106, [some (.ref 36), some (vI v1), some (vI v2), some (vI v3), some (vI v4), some (vI 0), some (vI 0)], [], _, _)) (by decide +kernel) rfl ?_
            refine Ru.op (q := (.aload_n 0, 1)) (by decide +kernel) rfl ?_
            refine Ru.op (q := (.iload 5, 2)) (by decide +kernel) rfl ?_
            refine Ru.br (k := .eq) (off := 12) (bb := true) (tg := 121) (by decide +kernel) (by decide +kernel) (by decide) rfl ?_
            refine Ru.op (q := (.aload_n 0, 1)) (by decide +kernel) rfl ?_
            refine Ru.getI (i := 140) (x := (o55.F 36 27)) (by decide +kernel) (by rfl) (hp36 _) (by decide) rfl (eI_of _) ?_
            refine Ru.putH (i := 140) (by decide +kernel) (by rfl) (hp36 _) (by decide) (Nat.le_of_ble_eq_true rfl) rfl (by decide +kernel) (pf_36_27 _ _) ?_
            refine Ru.op (q := (.goto (-94), 3)) (by decide +kernel) rfl ?_
            exact ih _ _ _ _ h r hk
        · replace h := if_f b57 h
          refine Ru.br (k := .ne) (off := 16) (bb := true) (tg := 103) (by decide +kernel) (by decide +kernel) (cz (ci_ne1 (inR_to _) (by decide) b57)) rfl ?_
          refine Ru.kI (q := (.iconst 0, 1)) (c := 0) (by decide +kernel) rfl (by decide) ?_
          refine Ru.op (q := (.istore 5, 2)) (S' := (106, [some (.ref 36), some (vI v1), some (vI v2), some (vI v3), some (vI v4), some (vI 0), some (vI 0)], [], _, _)) (by decide +kernel) rfl ?_
          refine Ru.op (q := (.aload_n 0, 1)) (by decide +kernel) rfl ?_
          refine Ru.op (q := (.iload 5, 2)) (by decide +kernel) rfl ?_
          refine Ru.br (k := .eq) (off := 12) (bb := true) (tg := 121) (by decide +kernel) (by decide +kernel) (by decide) rfl ?_
          refine Ru.op (q := (.aload_n 0, 1)) (by decide +kernel) rfl ?_
          refine Ru.getI (i := 140) (x := (o55.F 36 27)) (by decide +kernel) (by rfl) (hp36 _) (by decide) rfl (eI_of _) ?_
          refine Ru.putH (i := 140) (by decide +kernel) (by rfl) (hp36 _) (by decide) (Nat.le_of_ble_eq_true rfl) rfl (by decide +kernel) (pf_36_27 _ _) ?_
          refine Ru.op (q := (.goto (-94), 3)) (by decide +kernel) rfl ?_
          exact ih _ _ _ _ h r hk
def g158 (S : St) (v1 : Int) (v2 : Int) (v3 : Int) (v4 : Int) : Option (Int × St) := ob (g99 S) (fun o1 => ob (g102 (o1.f 36 29 1)) (fun o3 => gd (inR o3) (if o3 = 48 then g158C131 ((o1.f 36 29 1).f 36 27 ((o1.F 36 27) + 1)) v1 v2 v3 v4 else ob (g158L34 v1 v2 v3 v4 FU 1 (o1.f 36 29 1)) (fun o62 => g158C131 o62 v1 v2 v3 v4))))
set_option maxRecDepth 100000 in
set_option maxHeartbeats 4000000 in
theorem g158_ok {S : St} {v1 : Int} {v2 : Int} {v3 : Int} {v4 : Int} {o : Int × St} (h : g158 S v1 v2 v3 v4 = some o) : Ru none 18 391 158 (0, mn_pad (mn_ent [.ref 36, vI v1, vI v2, vI v3, vI v4]) 7, [], S.ns, Hp S) ((0, some (vI o.1)), o.2.ns, Hp o.2) := by
  unfold g158 at h
  show Ru none 18 391 158 (0, [some (.ref 36), some (vI v1), some (vI v2), some (vI v3), some (vI v4), none, none], [], S.ns, Hp S) _
  refine Ru.op (q := (.aload_n 0, 1)) (by decide +kernel) rfl ?_
  obtain ⟨o1, e2, h⟩ := ob_some h
  refine Ru.vcall (i := 294) (j2 := 99) (as := []) (by decide +kernel) (by rfl) rfl rfl (hp36 _) (by decide) ⟨(Nat.le_of_ble_eq_true rfl), (by show 19 + 1 ≤ 391; exact Nat.le_of_ble_eq_true rfl), Nat.le_of_ble_eq_true rfl, Nat.le_of_ble_eq_true rfl⟩ ((g99_ok e2).up (Nat.le_of_ble_eq_true rfl) (Nat.le_of_ble_eq_true rfl)) ?_
  refine Ru.op (q := (.aload_n 0, 1)) (by decide +kernel) rfl ?_
  refine Ru.kI (q := (.iconst 1, 1)) (c := 1) (by decide +kernel) rfl (by decide) ?_
  refine Ru.putH (i := 167) (by decide +kernel) (by rfl) (hp36 _) (by decide) (Nat.le_of_ble_eq_true rfl) (fk_b (by decide)) (by decide +kernel) (pf_36_29 _ _) ?_
  refine Ru.op (q := (.aload_n 0, 1)) (by decide +kernel) rfl ?_
  obtain ⟨o3, e4, h⟩ := ob_some h
  refine Ru.vcall (i := 143) (j2 := 102) (as := []) (by decide +kernel) (by rfl) rfl rfl (hp36 _) (by decide) ⟨(Nat.le_of_ble_eq_true rfl), (by show 19 + 1 ≤ 391; exact Nat.le_of_ble_eq_true rfl), Nat.le_of_ble_eq_true rfl, Nat.le_of_ble_eq_true rfl⟩ ((g102_ok e4).up (Nat.le_of_ble_eq_true rfl) (Nat.le_of_ble_eq_true rfl)) ?_
  refine Ru.kI (q := (.bipush 48, 2)) (c := 48) (by decide +kernel) rfl (by decide) ?_
  obtain ⟨g5, h⟩ := gd_some h
  by_cases b6 : o3 = 48
  · replace h := if_t b6 h
    refine Ru.br2 (k := .ne) (off := 16) (bb := false) (tg := 18) (by decide +kernel) (by decide +kernel) (ci_ne0 g5 (by decide) b6) rfl ?_
    refine Ru.op (q := (.aload_n 0, 1)) (by decide +kernel) rfl ?_
    refine Ru.op (q := (.dup, 1)) (by decide +kernel) rfl ?_
    refine Ru.getI (i := 140) (x := (o1.F 36 27)) (by decide +kernel) (by rfl) (hp36 _) (by decide) rfl (eI_of _) ?_
    refine Ru.kI (q := (.iconst 1, 1)) (c := 1) (by decide +kernel) rfl (by decide) ?_
    refine Ru.ar2 (i := .iadd) (z := ((o1.F 36 27) + 1)) (by decide +kernel) rfl (ar_add _ _) ?_
    refine Ru.putH (i := 140) (by decide +kernel) (by rfl) (hp36 _) (by decide) (Nat.le_of_ble_eq_true rfl) rfl (by decide +kernel) (pf_36_27 _ _) ?_
    refine Ru.op (q := (.goto 103, 3)) (by decide +kernel) rfl ?_
    exact g158C131_ok h
  · replace h := if_f b6 h
    refine Ru.br2 (k := .ne) (off := 16) (bb := true) (tg := 31) (by decide +kernel) (by decide +kernel) (ci_ne1 g5 (by decide) b6) rfl ?_
    refine Ru.kI (q := (.iconst 1, 1)) (c := 1) (by decide +kernel) rfl (by decide) ?_
    refine Ru.op (q := (.istore 5, 2)) (S' := (34, [some (.ref 36), some (vI v1), some (vI v2), some (vI v3), some (vI v4), some (vI 1), none], [], _, _)) (by decide +kernel) rfl ?_
    obtain ⟨o62, e65, h⟩ := ob_some h
    refine g158L34_ok FU _ _ _ _ e65 _ ?_
    intro d63 d64
    exact g158C131_ok h
