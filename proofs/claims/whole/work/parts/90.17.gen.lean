def g144L197 (v4 : Int) (v5 : Int) : Nat → Int → Int → St → Option (Int × St)
  | 0, _, _, _ => none
  | n + 1, v3, v8, S => gd (inR v8) (if v8 < 0 then some (v3, S) else ob (g124 S v4 v8) (fun o23 => gd (ixR (v3 + 1) 640) (ob (g124 (S.a 66 (v3 + 1) o23) v5 v8) (fun o26 => g144L197 v4 v5 n (v3 + 1) (v8 + (-1)) ((S.a 66 (v3 + 1) o23).a 67 (v3 + 1) o26)))))
set_option maxRecDepth 100000 in
set_option maxHeartbeats 4000000 in
theorem g144L197_ok {v4 : Int} {v5 : Int} : ∀ (n : Nat) (v3 : Int) (v8 : Int) (S : St) (d1 d2 d6 d7 d9 : Option Value) (out : Int × St), g144L197 v4 v5 n v3 v8 S = some out → ∀ r, (∀ (e1 e2 e4 e5 e6 e7 e8 e9 : Option Value), Ru none 15 312 144 (239, [some (.ref 36), e1, e2, some (vI out.1), e4, e5, e6, e7, e8, e9], [], out.2.ns, Hp out.2) r) → Ru none 15 312 144 (197, [some (.ref 36), d1, d2, some (vI v3), some (vI v4), some (vI v5), d6, d7, some (vI v8), d9], [], S.ns, Hp S) r := by
  intro n
  induction n with
  | zero => intro v3 v8 S d1 d2 d6 d7 d9 out h; cases h
  | succ n ih =>
    intro v3 v8 S d1 d2 d6 d7 d9 out h r hk
    unfold g144L197 at h
    refine Ru.op (q := (.iload 8, 2)) (by decide +kernel) rfl ?_
    obtain ⟨g21, h⟩ := gd_some h
    by_cases b22 : v8 < 0
    · replace h := if_t b22 h
      refine Ru.br (k := .lt) (off := 40) (bb := true) (tg := 239) (by decide +kernel) (by decide +kernel) (cz (ci_lt1 g21 (by decide) b22)) rfl ?_
      cases h
      exact hk _ _ _ _ _ _ _ _
    · replace h := if_f b22 h
      refine Ru.br (k := .lt) (off := 40) (bb := false) (tg := 202) (by decide +kernel) (by decide +kernel) (cz (ci_lt0 g21 (by decide) b22)) rfl ?_
      refine Ru.inc (x := v3) (z := (v3 + 1)) (xs' := [some (.ref 36), d1, d2, some (vI (v3 + 1)), some (vI v4), some (vI v5), d6, d7, some (vI v8), d9]) (by decide +kernel) rfl rfl rfl ?_
      refine Ru.op (q := (.aload_n 0, 1)) (by decide +kernel) rfl ?_
      refine Ru.get (i := 105) (v := .ref 66) (by decide +kernel) (by rfl) (hp36 _) (by decide) rfl ?_
      refine Ru.op (q := (.iload_n 3, 1)) (by decide +kernel) rfl ?_
      refine Ru.op (q := (.aload_n 0, 1)) (by decide +kernel) rfl ?_
      refine Ru.op (q := (.iload 4, 2)) (by decide +kernel) rfl ?_
      refine Ru.op (q := (.iload 8, 2)) (by decide +kernel) rfl ?_
      obtain ⟨o23, e24, h⟩ := ob_some h
      refine Ru.vcall (i := 240) (j2 := 124) (as := [vI v4, vI v8]) (by decide +kernel) (by rfl) rfl rfl (hp36 _) (by decide) ⟨(Nat.le_of_ble_eq_true rfl), (by show 19 + 5 ≤ 312; exact Nat.le_of_ble_eq_true rfl), Nat.le_of_ble_eq_true rfl, Nat.le_of_ble_eq_true rfl⟩ ((g124_ok e24).up (Nat.le_of_ble_eq_true rfl) (Nat.le_of_ble_eq_true rfl)) ?_
      obtain ⟨g25, h⟩ := gd_some h
      refine Ru.istI (i := (v3 + 1)) (x := o23) (by decide +kernel) (hp66 _) g25 (ps_66 _ _ _) ?_
      refine Ru.op (q := (.aload_n 0, 1)) (by decide +kernel) rfl ?_
      refine Ru.get (i := 108) (v := .ref 67) (by decide +kernel) (by rfl) (hp36 _) (by decide) rfl ?_
      refine Ru.op (q := (.iload_n 3, 1)) (by decide +kernel) rfl ?_
      refine Ru.op (q := (.aload_n 0, 1)) (by decide +kernel) rfl ?_
      refine Ru.op (q := (.iload 5, 2)) (by decide +kernel) rfl ?_
      refine Ru.op (q := (.iload 8, 2)) (by decide +kernel) rfl ?_
      obtain ⟨o26, e27, h⟩ := ob_some h
      refine Ru.vcall (i := 240) (j2 := 124) (as := [vI v5, vI v8]) (by decide +kernel) (by rfl) rfl rfl (hp36 _) (by decide) ⟨(Nat.le_of_ble_eq_true rfl), (by show 19 + 5 ≤ 312; exact Nat.le_of_ble_eq_true rfl), Nat.le_of_ble_eq_true rfl, Nat.le_of_ble_eq_true rfl⟩ ((g124_ok e27).up (Nat.le_of_ble_eq_true rfl) (Nat.le_of_ble_eq_true rfl)) ?_
      refine Ru.istI (i := (v3 + 1)) (x := o26) (by decide +kernel) (hp67 _) g25 (ps_67 _ _ _) ?_
      refine Ru.inc (x := v8) (z := (v8 + (-1))) (xs' := [some (.ref 36), d1, d2, some (vI (v3 + 1)), some (vI v4), some (vI v5), d6, d7, some (vI (v8 + (-1))), d9]) (by decide +kernel) rfl rfl rfl ?_
      refine Ru.op (q := (.goto (-39), 3)) (by decide +kernel) rfl ?_
      exact ih _ _ _ _ _ _ _ _ _ h r hk
def g144L16  : Nat → Int → St → Option (Sum (St) (Int × St))
  | 0, _, _ => none
  | n + 1, v3, S => gd (inR v3) (if v3 < 0 then some (.inl S) else gd (ixR v3 640) (ob (g121 S (S.A 66 v3)) (fun o52 => ob (g121 S (S.A 67 v3)) (fun o54 => gd (ixR o52 1024) (ob (g122 S (S.A 46 o52)) (fun o57 => gd (ixR o54 1024) (ob (g122 S (S.A 46 o54)) (fun o60 => gd (inR o57) (if o57 = 0 then gd (inR o60) (if o60 = 0 then if (S.A 46 o52) = (S.A 46 o54) then ob (g123 S (S.A 46 o52)) (fun o67 => ob (g144L197 o52 o54 FU (v3 + (-1)) (o67 - 1) S) (fun o69 => g144L16 n o69.1 o69.2)) else some (.inr (0, S)) else ob (g145 S (S.A 46 o54) o52) (fun o79 => gd (inR o79.1) (if o79.1 = 0 then gd (ixR (S.A 46 o54) 128) (g144L16 n (v3 + (-1)) (o79.2.a 47 (S.A 46 o54) o52)) else some (.inr (0, o79.2))))) else if (S.A 46 o52) = (S.A 46 o54) then g144L16 n (v3 + (-1)) S else ob (g145 S (S.A 46 o52) o54) (fun o85 => gd (inR o85.1) (if o85.1 = 0 then gd (ixR (S.A 46 o52) 128) (g144L16 n (v3 + (-1)) (o85.2.a 47 (S.A 46 o52) o54)) else some (.inr (0, o85.2)))))))))))))
set_option maxRecDepth 100000 in
set_option maxHeartbeats 4000000 in
theorem g144L16_ok : ∀ (n : Nat) (v3 : Int) (S : St) (d1 d2 d4 d5 d6 d7 d8 d9 : Option Value) (out : Sum (St) (Int × St)), g144L16 n v3 S = some out → ∀ r, (∀ o, out = .inl o → ∀ (e0 e1 e2 e3 e4 e5 e6 e7 e8 e9 : Option Value), Ru none 15 312 144 (242, [e0, e1, e2, e3, e4, e5, e6, e7, e8, e9], [], o.ns, Hp o) r) → (∀ o, out = .inr o → r = ((0, some (vI o.1)), o.2.ns, Hp o.2)) → Ru none 15 312 144 (16, [some (.ref 36), d1, d2, some (vI v3), d4, d5, d6, d7, d8, d9], [], S.ns, Hp S) r := by
  intro n
  induction n with
  | zero => intro v3 S d1 d2 d4 d5 d6 d7 d8 d9 out h; cases h
  | succ n ih =>
    intro v3 S d1 d2 d4 d5 d6 d7 d8 d9 out h r hk hr
    unfold g144L16 at h
    refine Ru.op (q := (.iload_n 3, 1)) (by decide +kernel) rfl ?_
    obtain ⟨g49, h⟩ := gd_some h
    by_cases b50 : v3 < 0
    · replace h := if_t b50 h
      refine Ru.br (k := .lt) (off := 225) (bb := true) (tg := 242) (by decide +kernel) (by decide +kernel) (cz (ci_lt1 g49 (by decide) b50)) rfl ?_
      cases h
      exact hk _ rfl _ _ _ _ _ _ _ _ _ _
    · replace h := if_f b50 h
      refine Ru.br (k := .lt) (off := 225) (bb := false) (tg := 20) (by decide +kernel) (by decide +kernel) (cz (ci_lt0 g49 (by decide) b50)) rfl ?_
      refine Ru.op (q := (.aload_n 0, 1)) (by decide +kernel) rfl ?_
      refine Ru.op (q := (.aload_n 0, 1)) (by decide +kernel) rfl ?_
      refine Ru.get (i := 105) (v := .ref 66) (by decide +kernel) (by rfl) (hp36 _) (by decide) rfl ?_
      refine Ru.op (q := (.iload_n 3, 1)) (by decide +kernel) rfl ?_
      obtain ⟨g51, h⟩ := gd_some h
      refine Ru.ildI (i := v3) (z := (S.A 66 v3)) (by decide +kernel) (hp66 _) g51 (eI_of _) ?_
      obtain ⟨o52, e53, h⟩ := ob_some h
      refine Ru.vcall (i := 237) (j2 := 121) (as := [vI (S.A 66 v3)]) (by decide +kernel) (by rfl) rfl rfl (hp36 _) (by decide) ⟨(Nat.le_of_ble_eq_true rfl), (by show 19 + 3 ≤ 312; exact Nat.le_of_ble_eq_true rfl), Nat.le_of_ble_eq_true rfl, Nat.le_of_ble_eq_true rfl⟩ ((g121_ok e53).up (Nat.le_of_ble_eq_true rfl) (Nat.le_of_ble_eq_true rfl)) ?_
      refine Ru.op (q := (.istore 4, 2)) (S' := (32, [some (.ref 36), d1, d2, some (vI v3), some (vI o52), d5, d6, d7, d8, d9], [], _, _)) (by decide +kernel) rfl ?_
      refine Ru.op (q := (.aload_n 0, 1)) (by decide +kernel) rfl ?_
      refine Ru.op (q := (.aload_n 0, 1)) (by decide +kernel) rfl ?_
      refine Ru.get (i := 108) (v := .ref 67) (by decide +kernel) (by rfl) (hp36 _) (by decide) rfl ?_
      refine Ru.op (q := (.iload_n 3, 1)) (by decide +kernel) rfl ?_
      refine Ru.ildI (i := v3) (z := (S.A 67 v3)) (by decide +kernel) (hp67 _) g51 (eI_of _) ?_
      obtain ⟨o54, e55, h⟩ := ob_some h
      refine Ru.vcall (i := 237) (j2 := 121) (as := [vI (S.A 67 v3)]) (by decide +kernel) (by rfl) rfl rfl (hp36 _) (by decide) ⟨(Nat.le_of_ble_eq_true rfl), (by show 19 + 3 ≤ 312; exact Nat.le_of_ble_eq_true rfl), Nat.le_of_ble_eq_true rfl, Nat.le_of_ble_eq_true rfl⟩ ((g121_ok e55).up (Nat.le_of_ble_eq_true rfl) (Nat.le_of_ble_eq_true rfl)) ?_
      refine Ru.op (q := (.istore 5, 2)) (S' := (44, [some (.ref 36), d1, d2, some (vI v3), some (vI o52), some (vI o54), d6, d7, d8, d9], [], _, _)) (by decide +kernel) rfl ?_
      refine Ru.inc (x := v3) (z := (v3 + (-1))) (xs' := [some (.ref 36), d1, d2, some (vI (v3 + (-1))), some (vI o52), some (vI o54), d6, d7, d8, d9]) (by decide +kernel) rfl rfl rfl ?_
      refine Ru.op (q := (.aload_n 0, 1)) (by decide +kernel) rfl ?_
      refine Ru.get (i := 45) (v := .ref 46) (by decide +kernel) (by rfl) (hp36 _) (by decide) rfl ?_
      refine Ru.op (q := (.iload 4, 2)) (by decide +kernel) rfl ?_
      obtain ⟨g56, h⟩ := gd_some h
      refine Ru.ildI (i := o52) (z := (S.A 46 o52)) (by decide +kernel) (hp46 _) g56 (eI_of _) ?_
      obtain ⟨o57, e58, h⟩ := ob_some h
      refine Ru.call (q := (.invokestatic 132, 3)) (j2 := 122) (as := [vI (S.A 46 o52)]) (by decide +kernel) rfl rfl rfl rfl ⟨(Nat.le_of_ble_eq_true rfl), (by show 19 + 1 ≤ 312; exact Nat.le_of_ble_eq_true rfl), Nat.le_of_ble_eq_true rfl, Nat.le_of_ble_eq_true rfl⟩ ((g122_ok e58).up (Nat.le_of_ble_eq_true rfl) (Nat.le_of_ble_eq_true rfl)) ?_
      refine Ru.op (q := (.istore 6, 2)) (S' := (59, [some (.ref 36), d1, d2, some (vI (v3 + (-1))), some (vI o52), some (vI o54), some (vI o57), d7, d8, d9], [], _, _)) (by decide +kernel) rfl ?_
      refine Ru.op (q := (.aload_n 0, 1)) (by decide +kernel) rfl ?_
      refine Ru.get (i := 45) (v := .ref 46) (by decide +kernel) (by rfl) (hp36 _) (by decide) rfl ?_
      refine Ru.op (q := (.iload 5, 2)) (by decide +kernel) rfl ?_
      obtain ⟨g59, h⟩ := gd_some h
      refine Ru.ildI (i := o54) (z := (S.A 46 o54)) (by decide +kernel) (hp46 _) g59 (eI_of _) ?_
      obtain ⟨o60, e61, h⟩ := ob_some h
      refine Ru.call (q := (.invokestatic 132, 3)) (j2 := 122) (as := [vI (S.A 46 o54)]) (by decide +kernel) rfl rfl rfl rfl ⟨(Nat.le_of_ble_eq_true rfl), (by show 19 + 1 ≤ 312; exact Nat.le_of_ble_eq_true rfl), Nat.le_of_ble_eq_true rfl, Nat.le_of_ble_eq_true rfl⟩ ((g122_ok e61).up (Nat.le_of_ble_eq_true rfl) (Nat.le_of_ble_eq_true rfl)) ?_
      refine Ru.op (q := (.istore 7, 2)) (S' := (71, [some (.ref 36), d1, d2, some (vI (v3 + (-1))), some (vI o52), some (vI o54), some (vI o57), some (vI o60), d8, d9], [], _, _)) (by decide +kernel) rfl ?_
      refine Ru.op (q := (.iload 6, 2)) (by decide +kernel) rfl ?_
      obtain ⟨g62, h⟩ := gd_some h
      by_cases b63 : o57 = 0
      · replace h := if_t b63 h
        refine Ru.br (k := .eq) (off := 23) (bb := true) (tg := 96) (by decide +kernel) (by decide +kernel) (cz (ci_eq1 g62 (by decide) b63)) rfl ?_
        refine Ru.op (q := (.iload 6, 2)) (by decide +kernel) rfl ?_
        refine Ru.br (k := .ne) (off := 8) (bb := false) (tg := 101) (by decide +kernel) (by decide +kernel) (cz (ci_ne0 g62 (by decide) b63)) rfl ?_
        refine Ru.op (q := (.iload 7, 2)) (by decide +kernel) rfl ?_
        obtain ⟨g64, h⟩ := gd_some h
        by_cases b65 : o60 = 0
        · replace h := if_t b65 h
          refine Ru.br (k := .eq) (off := 61) (bb := true) (tg := 164) (by decide +kernel) (by decide +kernel) (cz (ci_eq1 g64 (by decide) b65)) rfl ?_
          refine Ru.op (q := (.aload_n 0, 1)) (by decide +kernel) rfl ?_
          refine Ru.get (i := 45) (v := .ref 46) (by decide +kernel) (by rfl) (hp36 _) (by decide) rfl ?_
          refine Ru.op (q := (.iload 4, 2)) (by decide +kernel) rfl ?_
          refine Ru.ildI (i := o52) (z := (S.A 46 o52)) (by decide +kernel) (hp46 _) g56 (eI_of _) ?_
          refine Ru.op (q := (.aload_n 0, 1)) (by decide +kernel) rfl ?_
          refine Ru.get (i := 45) (v := .ref 46) (by decide +kernel) (by rfl) (hp36 _) (by decide) rfl ?_
          refine Ru.op (q := (.iload 5, 2)) (by decide +kernel) rfl ?_
          refine Ru.ildI (i := o54) (z := (S.A 46 o54)) (by decide +kernel) (hp46 _) g59 (eI_of _) ?_
          by_cases b66 : (S.A 46 o52) = (S.A 46 o54)
          · replace h := if_t b66 h
            refine Ru.br2 (k := .eq) (off := 5) (bb := true) (tg := 183) (by decide +kernel) (by decide +kernel) (ci_eq1 (inR_to _) (inR_to _) b66) rfl ?_
            refine Ru.op (q := (.aload_n 0, 1)) (by decide +kernel) rfl ?_
            refine Ru.get (i := 45) (v := .ref 46) (by decide +kernel) (by rfl) (hp36 _) (by decide) rfl ?_
            refine Ru.op (q := (.iload 4, 2)) (by decide +kernel) rfl ?_
            refine Ru.ildI (i := o52) (z := (S.A 46 o52)) (by decide +kernel) (hp46 _) g56 (eI_of _) ?_
            obtain ⟨o67, e68, h⟩ := ob_some h
            refine Ru.call (q := (.invokestatic 136, 3)) (j2 := 123) (as := [vI (S.A 46 o52)]) (by decide +kernel) rfl rfl rfl rfl ⟨(Nat.le_of_ble_eq_true rfl), (by show 19 + 1 ≤ 312; exact Nat.le_of_ble_eq_true rfl), Nat.le_of_ble_eq_true rfl, Nat.le_of_ble_eq_true rfl⟩ ((g123_ok e68).up (Nat.le_of_ble_eq_true rfl) (Nat.le_of_ble_eq_true rfl)) ?_
            refine Ru.kI (q := (.iconst 1, 1)) (c := 1) (by decide +kernel) rfl (by decide) ?_
            refine Ru.ar2 (i := .isub) (z := (o67 - 1)) (by decide +kernel) rfl (ar_sub _ _) ?_
            refine Ru.op (q := (.istore 8, 2)) (S' := (197, [some (.ref 36), d1, d2, some (vI (v3 + (-1))), some (vI o52), some (vI o54), some (vI o57), some (vI o60), some (vI (o67 - 1)), d9], [], _, _)) (by decide +kernel) rfl ?_
            obtain ⟨o69, e78, h⟩ := ob_some h
            refine g144L197_ok FU _ _ _ _ _ _ _ _ _ e78 _ ?_
            intro d70 d71 d72 d73 d74 d75 d76 d77
            refine Ru.op (q := (.goto (-223), 3)) (by decide +kernel) rfl ?_
            exact ih _ _ _ _ _ _ _ _ _ _ _ h r hk hr
          · replace h := if_f b66 h
            refine Ru.br2 (k := .eq) (off := 5) (bb := false) (tg := 181) (by decide +kernel) (by decide +kernel) (ci_eq0 (inR_to _) (inR_to _) b66) rfl ?_
            refine Ru.kI (q := (.iconst 0, 1)) (c := 0) (by decide +kernel) rfl (by decide) ?_
            cases h
            have h9 := hr _ rfl
            subst h9
            exact Ru.iret (by decide +kernel) rfl (nar_b1 (by decide))
        · replace h := if_f b65 h
          refine Ru.br (k := .eq) (off := 61) (bb := false) (tg := 106) (by decide +kernel) (by decide +kernel) (cz (ci_eq0 g64 (by decide) b65)) rfl ?_
          refine Ru.op (q := (.aload_n 0, 1)) (by decide +kernel) rfl ?_
          refine Ru.get (i := 45) (v := .ref 46) (by decide +kernel) (by rfl) (hp36 _) (by decide) rfl ?_
          refine Ru.op (q := (.iload 6, 2)) (by decide +kernel) rfl ?_
          refine Ru.br (k := .eq) (off := 8) (bb := true) (tg := 120) (by decide +kernel) (by decide +kernel) (cz (ci_eq1 g62 (by decide) b63)) rfl ?_
          refine Ru.op (q := (.iload 5, 2)) (by decide +kernel) rfl ?_
          refine Ru.ildI (i := o54) (z := (S.A 46 o54)) (by decide +kernel) (hp46 _) g59 (eI_of _) ?_
          refine Ru.op (q := (.istore 8, 2)) (S' := (125, [some (.ref 36), d1, d2, some (vI (v3 + (-1))), some (vI o52), some (vI o54), some (vI o57), some (vI o60), some (vI (S.A 46 o54)), d9], [], _, _)) (by decide +kernel) rfl ?_
          refine Ru.op (q := (.iload 6, 2)) (by decide +kernel) rfl ?_
          refine Ru.br (k := .eq) (off := 8) (bb := true) (tg := 135) (by decide +kernel) (by decide +kernel) (cz (ci_eq1 g62 (by decide) b63)) rfl ?_
          refine Ru.op (q := (.iload 4, 2)) (by decide +kernel) rfl ?_
          refine Ru.op (q := (.istore 9, 2)) (S' := (139, [some (.ref 36), d1, d2, some (vI (v3 + (-1))), some (vI o52), some (vI o54), some (vI o57), some (vI o60), some (vI (S.A 46 o54)), some (vI o52)], [], _, _)) (by decide +kernel) rfl ?_
          refine Ru.op (q := (.aload_n 0, 1)) (by decide +kernel) rfl ?_
          refine Ru.op (q := (.iload 8, 2)) (by decide +kernel) rfl ?_
          refine Ru.op (q := (.iload 9, 2)) (by decide +kernel) rfl ?_
          obtain ⟨o79, e80, h⟩ := ob_some h
          refine Ru.vcall (i := 243) (j2 := 145) (as := [vI (S.A 46 o54), vI o52]) (by decide +kernel) (by rfl) rfl rfl (hp36 _) (by decide) ⟨(Nat.le_of_ble_eq_true rfl), (by show 19 + 6 ≤ 312; exact Nat.le_of_ble_eq_true rfl), Nat.le_of_ble_eq_true rfl, Nat.le_of_ble_eq_true rfl⟩ ((g145_ok e80).up (Nat.le_of_ble_eq_true rfl) (Nat.le_of_ble_eq_true rfl)) ?_
          obtain ⟨g81, h⟩ := gd_some h
          by_cases b82 : o79.1 = 0
          · replace h := if_t b82 h
            refine Ru.br (k := .eq) (off := 5) (bb := true) (tg := 152) (by decide +kernel) (by decide +kernel) (cz (ci_eq1 g81 (by decide) b82)) rfl ?_
            refine Ru.op (q := (.aload_n 0, 1)) (by decide +kernel) rfl ?_
            refine Ru.get (i := 48) (v := .ref 47) (by decide +kernel) (by rfl) (hp36 _) (by decide) rfl ?_
            refine Ru.op (q := (.iload 8, 2)) (by decide +kernel) rfl ?_
            refine Ru.op (q := (.iload 9, 2)) (by decide +kernel) rfl ?_
            obtain ⟨g83, h⟩ := gd_some h
            refine Ru.istI (i := (S.A 46 o54)) (x := o52) (by decide +kernel) (hp47 _) g83 (ps_47 _ _ _) ?_
            refine Ru.op (q := (.goto (-145), 3)) (by decide +kernel) rfl ?_
            exact ih _ _ _ _ _ _ _ _ _ _ _ h r hk hr
          · replace h := if_f b82 h
            refine Ru.br (k := .eq) (off := 5) (bb := false) (tg := 150) (by decide +kernel) (by decide +kernel) (cz (ci_eq0 g81 (by decide) b82)) rfl ?_
            refine Ru.kI (q := (.iconst 0, 1)) (c := 0) (by decide +kernel) rfl (by decide) ?_
            cases h
            have h9 := hr _ rfl
            subst h9
            exact Ru.iret (by decide +kernel) rfl (nar_b1 (by decide))
      · replace h := if_f b63 h
        refine Ru.br (k := .eq) (off := 23) (bb := false) (tg := 76) (by decide +kernel) (by decide +kernel) (cz (ci_eq0 g62 (by decide) b63)) rfl ?_
        refine Ru.op (q := (.aload_n 0, 1)) (by decide +kernel) rfl ?_
        refine Ru.get (i := 45) (v := .ref 46) (by decide +kernel) (by rfl) (hp36 _) (by decide) rfl ?_
        refine Ru.op (q := (.iload 4, 2)) (by decide +kernel) rfl ?_
        refine Ru.ildI (i := o52) (z := (S.A 46 o52)) (by decide +kernel) (hp46 _) g56 (eI_of _) ?_
        refine Ru.op (q := (.aload_n 0, 1)) (by decide +kernel) rfl ?_
        refine Ru.get (i := 45) (v := .ref 46) (by decide +kernel) (by rfl) (hp36 _) (by decide) rfl ?_
        refine Ru.op (q := (.iload 5, 2)) (by decide +kernel) rfl ?_
        refine Ru.ildI (i := o54) (z := (S.A 46 o54)) (by decide +kernel) (hp46 _) g59 (eI_of _) ?_
        by_cases b84 : (S.A 46 o52) = (S.A 46 o54)
        · replace h := if_t b84 h
          refine Ru.br2 (k := .ne) (off := 6) (bb := false) (tg := 93) (by decide +kernel) (by decide +kernel) (ci_ne0 (inR_to _) (inR_to _) b84) rfl ?_
          refine Ru.op (q := (.goto (-77), 3)) (by decide +kernel) rfl ?_
          exact ih _ _ _ _ _ _ _ _ _ _ _ h r hk hr
        · replace h := if_f b84 h
          refine Ru.br2 (k := .ne) (off := 6) (bb := true) (tg := 96) (by decide +kernel) (by decide +kernel) (ci_ne1 (inR_to _) (inR_to _) b84) rfl ?_
          refine Ru.op (q := (.iload 6, 2)) (by decide +kernel) rfl ?_
          refine Ru.br (k := .ne) (off := 8) (bb := true) (tg := 106) (by decide +kernel) (by decide +kernel) (cz (ci_ne1 g62 (by decide) b63)) rfl ?_
          refine Ru.op (q := (.aload_n 0, 1)) (by decide +kernel) rfl ?_
          refine Ru.get (i := 45) (v := .ref 46) (by decide +kernel) (by rfl) (hp36 _) (by decide) rfl ?_
          refine Ru.op (q := (.iload 6, 2)) (by decide +kernel) rfl ?_
          refine Ru.br (k := .eq) (off := 8) (bb := false) (tg := 115) (by decide +kernel) (by decide +kernel) (cz (ci_eq0 g62 (by decide) b63)) rfl ?_
          refine Ru.op (q := (.iload 4, 2)) (by decide +kernel) rfl ?_
          refine Ru.op (q := (.goto 5, 3)) (by decide +kernel) rfl ?_
          refine Ru.ildI (i := o52) (z := (S.A 46 o52)) (by decide +kernel) (hp46 _) g56 (eI_of _) ?_
          refine Ru.op (q := (.istore 8, 2)) (S' := (125, [some (.ref 36), d1, d2, some (vI (v3 + (-1))), some (vI o52), some (vI o54), some (vI o57), some (vI o60), some (vI (S.A 46 o52)), d9], [], _, _)) (by decide +kernel) rfl ?_
          refine Ru.op (q := (.iload 6, 2)) (by decide +kernel) rfl ?_
          refine Ru.br (k := .eq) (off := 8) (bb := false) (tg := 130) (by decide +kernel) (by decide +kernel) (cz (ci_eq0 g62 (by decide) b63)) rfl ?_
          refine Ru.op (q := (.iload 5, 2)) (by decide +kernel) rfl ?_
          refine Ru.op (q := (.goto 5, 3)) (by decide +kernel) rfl ?_
          refine Ru.op (q := (.istore 9, 2)) (S' := (139, [some (.ref 36), d1, d2, some (vI (v3 + (-1))), some (vI o52), some (vI o54), some (vI o57), some (vI o60), some (vI (S.A 46 o52)), some (vI o54)], [], _, _)) (by decide +kernel) rfl ?_
          refine Ru.op (q := (.aload_n 0, 1)) (by decide +kernel) rfl ?_
          refine Ru.op (q := (.iload 8, 2)) (by decide +kernel) rfl ?_
          refine Ru.op (q := (.iload 9, 2)) (by decide +kernel) rfl ?_
          obtain ⟨o85, e86, h⟩ := ob_some h
          refine Ru.vcall (i := 243) (j2 := 145) (as := [vI (S.A 46 o52), vI o54]) (by decide +kernel) (by rfl) rfl rfl (hp36 _) (by decide) ⟨(Nat.le_of_ble_eq_true rfl), (by show 19 + 6 ≤ 312; exact Nat.le_of_ble_eq_true rfl), Nat.le_of_ble_eq_true rfl, Nat.le_of_ble_eq_true rfl⟩ ((g145_ok e86).up (Nat.le_of_ble_eq_true rfl) (Nat.le_of_ble_eq_true rfl)) ?_
          obtain ⟨g87, h⟩ := gd_some h
          by_cases b88 : o85.1 = 0
          · replace h := if_t b88 h
            refine Ru.br (k := .eq) (off := 5) (bb := true) (tg := 152) (by decide +kernel) (by decide +kernel) (cz (ci_eq1 g87 (by decide) b88)) rfl ?_
            refine Ru.op (q := (.aload_n 0, 1)) (by decide +kernel) rfl ?_
            refine Ru.get (i := 48) (v := .ref 47) (by decide +kernel) (by rfl) (hp36 _) (by decide) rfl ?_
            refine Ru.op (q := (.iload 8, 2)) (by decide +kernel) rfl ?_
            refine Ru.op (q := (.iload 9, 2)) (by decide +kernel) rfl ?_
            obtain ⟨g89, h⟩ := gd_some h
            refine Ru.istI (i := (S.A 46 o52)) (x := o54) (by decide +kernel) (hp47 _) g89 (ps_47 _ _ _) ?_
            refine Ru.op (q := (.goto (-145), 3)) (by decide +kernel) rfl ?_
            exact ih _ _ _ _ _ _ _ _ _ _ _ h r hk hr
          · replace h := if_f b88 h
            refine Ru.br (k := .eq) (off := 5) (bb := false) (tg := 150) (by decide +kernel) (by decide +kernel) (cz (ci_eq0 g87 (by decide) b88)) rfl ?_
            refine Ru.kI (q := (.iconst 0, 1)) (c := 0) (by decide +kernel) rfl (by decide) ?_
            cases h
            have h9 := hr _ rfl
            subst h9
            exact Ru.iret (by decide +kernel) rfl (nar_b1 (by decide))
def g144 (S : St) (v1 : Int) (v2 : Int) : Option (Int × St) := obr (g144L16 FU 0 ((S.a 66 0 v1).a 67 0 v2)) (fun o90 => some (1, o90))
set_option maxRecDepth 100000 in
set_option maxHeartbeats 4000000 in
theorem g144_ok {S : St} {v1 : Int} {v2 : Int} {o : Int × St} (h : g144 S v1 v2 = some o) : Ru none 15 312 144 (0, mn_pad (mn_ent [.ref 36, vI v1, vI v2]) 10, [], S.ns, Hp S) ((0, some (vI o.1)), o.2.ns, Hp o.2) := by
  unfold g144 at h
  show Ru none 15 312 144 (0, [some (.ref 36), some (vI v1), some (vI v2), none, none, none, none, none, none, none], [], S.ns, Hp S) _
  refine Ru.kI (q := (.iconst 0, 1)) (c := 0) (by decide +kernel) rfl (by decide) ?_
  refine Ru.op (q := (.istore_n 3, 1)) (S' := (2, [some (.ref 36), some (vI v1), some (vI v2), some (vI 0), none, none, none, none, none, none], [], _, _)) (by decide +kernel) rfl ?_
  refine Ru.op (q := (.aload_n 0, 1)) (by decide +kernel) rfl ?_
  refine Ru.get (i := 105) (v := .ref 66) (by decide +kernel) (by rfl) (hp36 _) (by decide) rfl ?_
  refine Ru.kI (q := (.iconst 0, 1)) (c := 0) (by decide +kernel) rfl (by decide) ?_
  refine Ru.op (q := (.iload_n 1, 1)) (by decide +kernel) rfl ?_
  refine Ru.istI (i := 0) (x := v1) (by decide +kernel) (hp66 _) (by decide) (ps_66 _ _ _) ?_
  refine Ru.op (q := (.aload_n 0, 1)) (by decide +kernel) rfl ?_
  refine Ru.get (i := 108) (v := .ref 67) (by decide +kernel) (by rfl) (hp36 _) (by decide) rfl ?_
  refine Ru.kI (q := (.iconst 0, 1)) (c := 0) (by decide +kernel) rfl (by decide) ?_
  refine Ru.op (q := (.iload_n 2, 1)) (by decide +kernel) rfl ?_
  refine Ru.istI (i := 0) (x := v2) (by decide +kernel) (hp67 _) (by decide) (ps_67 _ _ _) ?_
  rcases obr_some h with ⟨o90, e101, h⟩ | e101
  · refine g144L16_ok FU _ _ _ _ _ _ _ _ _ _ _ e101 _ (fun o' e' => ?_) (fun o' e' => by cases e')
    cases e'
    intro d91 d92 d93 d94 d95 d96 d97 d98 d99 d100
    refine Ru.kI (q := (.iconst 1, 1)) (c := 1) (by decide +kernel) rfl (by decide) ?_
    cases h
    exact Ru.iret (by decide +kernel) rfl (nar_b1 (by decide))
  · exact g144L16_ok FU _ _ _ _ _ _ _ _ _ _ _ e101 _ (fun o' e' => by cases e') (fun o' e' => by cases e'; rfl)
def g140 (S : St) (v1 : Int) (v2 : Int) (v3 : Int) : Option (Int × St) := gd (ixR ((4 * v1) + v2) 504) (gd (ixR ((4 * v1) + v3) 504) (if (S.A 40 ((4 * v1) + v2)) = (S.A 40 ((4 * v1) + v3)) then ob (g100 S) (fun o4 => ob (g141 o4 v1 0) (fun o6 => ob (g142 (o6.f 36 24 0) v1 v3 0) (fun o8 => ob (g143 o8 v1 v2 0) (fun o10 => ob (g143 o8 v1 v3 0) (fun o12 => ob (g144 o8 o10 o12) (fun o14 => gd (b1R o14.1) (some (o14.1, o14.2)))))))) else some (0, S)))
set_option maxRecDepth 100000 in
set_option maxHeartbeats 4000000 in
theorem g140_ok {S : St} {v1 : Int} {v2 : Int} {v3 : Int} {o : Int × St} (h : g140 S v1 v2 v3 = some o) : Ru none 16 341 140 (0, mn_pad (mn_ent [.ref 36, vI v1, vI v2, vI v3]) 4, [], S.ns, Hp S) ((0, some (vI o.1)), o.2.ns, Hp o.2) := by
  unfold g140 at h
  show Ru none 16 341 140 (0, [some (.ref 36), some (vI v1), some (vI v2), some (vI v3)], [], S.ns, Hp S) _
  refine Ru.op (q := (.aload_n 0, 1)) (by decide +kernel) rfl ?_
  refine Ru.get (i := 23) (v := .ref 40) (by decide +kernel) (by rfl) (hp36 _) (by decide) rfl ?_
  refine Ru.kI (q := (.iconst 4, 1)) (c := 4) (by decide +kernel) rfl (by decide) ?_
  refine Ru.op (q := (.iload_n 1, 1)) (by decide +kernel) rfl ?_
  refine Ru.ar2 (i := .imul) (z := (4 * v1)) (by decide +kernel) rfl (ar_mul _ _) ?_
  refine Ru.op (q := (.iload_n 2, 1)) (by decide +kernel) rfl ?_
  refine Ru.ar2 (i := .iadd) (z := ((4 * v1) + v2)) (by decide +kernel) rfl (ar_add _ _) ?_
  obtain ⟨g1, h⟩ := gd_some h
  refine Ru.bldI (i := ((4 * v1) + v2)) (z := (S.A 40 ((4 * v1) + v2))) (by decide +kernel) (hp40 _) g1 (eI_of _) ?_
  refine Ru.op (q := (.aload_n 0, 1)) (by decide +kernel) rfl ?_
  refine Ru.get (i := 23) (v := .ref 40) (by decide +kernel) (by rfl) (hp36 _) (by decide) rfl ?_
  refine Ru.kI (q := (.iconst 4, 1)) (c := 4) (by decide +kernel) rfl (by decide) ?_
  refine Ru.op (q := (.iload_n 1, 1)) (by decide +kernel) rfl ?_
  refine Ru.ar2 (i := .imul) (z := (4 * v1)) (by decide +kernel) rfl (ar_mul _ _) ?_
  refine Ru.op (q := (.iload_n 3, 1)) (by decide +kernel) rfl ?_
  refine Ru.ar2 (i := .iadd) (z := ((4 * v1) + v3)) (by decide +kernel) rfl (ar_add _ _) ?_
  obtain ⟨g2, h⟩ := gd_some h
  refine Ru.bldI (i := ((4 * v1) + v3)) (z := (S.A 40 ((4 * v1) + v3))) (by decide +kernel) (hp40 _) g2 (eI_of _) ?_
  by_cases b3 : (S.A 40 ((4 * v1) + v2)) = (S.A 40 ((4 * v1) + v3))
  · replace h := if_t b3 h
    refine Ru.br2 (k := .eq) (off := 5) (bb := true) (tg := 25) (by decide +kernel) (by decide +kernel) (ci_eq1 (inR_to _) (inR_to _) b3) rfl ?_
    refine Ru.op (q := (.aload_n 0, 1)) (by decide +kernel) rfl ?_
    obtain ⟨o4, e5, h⟩ := ob_some h
    refine Ru.vcall (i := 204) (j2 := 100) (as := []) (by decide +kernel) (by rfl) rfl rfl (hp36 _) (by decide) ⟨(Nat.le_of_ble_eq_true rfl), (by show 19 + 2 ≤ 341; exact Nat.le_of_ble_eq_true rfl), Nat.le_of_ble_eq_true rfl, Nat.le_of_ble_eq_true rfl⟩ ((g100_ok e5).up (Nat.le_of_ble_eq_true rfl) (Nat.le_of_ble_eq_true rfl)) ?_
    refine Ru.op (q := (.aload_n 0, 1)) (by decide +kernel) rfl ?_
    refine Ru.op (q := (.iload_n 1, 1)) (by decide +kernel) rfl ?_
    refine Ru.kI (q := (.iconst 0, 1)) (c := 0) (by decide +kernel) rfl (by decide) ?_
    obtain ⟨o6, e7, h⟩ := ob_some h
    refine Ru.vcall (i := 314) (j2 := 141) (as := [vI v1, vI 0]) (by decide +kernel) (by rfl) rfl rfl (hp36 _) (by decide) ⟨(Nat.le_of_ble_eq_true rfl), (by show 19 + 5 ≤ 341; exact Nat.le_of_ble_eq_true rfl), Nat.le_of_ble_eq_true rfl, Nat.le_of_ble_eq_true rfl⟩ ((g141_ok e7).up (Nat.le_of_ble_eq_true rfl) (Nat.le_of_ble_eq_true rfl)) ?_
    refine Ru.op (q := (.aload_n 0, 1)) (by decide +kernel) rfl ?_
    refine Ru.kI (q := (.iconst 0, 1)) (c := 0) (by decide +kernel) rfl (by decide) ?_
    refine Ru.putH (i := 246) (by decide +kernel) (by rfl) (hp36 _) (by decide) (Nat.le_of_ble_eq_true rfl) rfl (by decide +kernel) (pf_36_24 _ _) ?_
    refine Ru.op (q := (.aload_n 0, 1)) (by decide +kernel) rfl ?_
    refine Ru.op (q := (.iload_n 1, 1)) (by decide +kernel) rfl ?_
    refine Ru.op (q := (.iload_n 3, 1)) (by decide +kernel) rfl ?_
    refine Ru.kI (q := (.iconst 0, 1)) (c := 0) (by decide +kernel) rfl (by decide) ?_
    obtain ⟨o8, e9, h⟩ := ob_some h
    refine Ru.vcall (i := 317) (j2 := 142) (as := [vI v1, vI v3, vI 0]) (by decide +kernel) (by rfl) rfl rfl (hp36 _) (by decide) ⟨(Nat.le_of_ble_eq_true rfl), (by show 19 + 5 ≤ 341; exact Nat.le_of_ble_eq_true rfl), Nat.le_of_ble_eq_true rfl, Nat.le_of_ble_eq_true rfl⟩ ((g142_ok e9).up (Nat.le_of_ble_eq_true rfl) (Nat.le_of_ble_eq_true rfl)) ?_
    refine Ru.op (q := (.aload_n 0, 1)) (by decide +kernel) rfl ?_
    refine Ru.op (q := (.aload_n 0, 1)) (by decide +kernel) rfl ?_
    refine Ru.op (q := (.iload_n 1, 1)) (by decide +kernel) rfl ?_
    refine Ru.op (q := (.iload_n 2, 1)) (by decide +kernel) rfl ?_
    refine Ru.kI (q := (.iconst 0, 1)) (c := 0) (by decide +kernel) rfl (by decide) ?_
    obtain ⟨o10, e11, h⟩ := ob_some h
    refine Ru.vcall (i := 311) (j2 := 143) (as := [vI v1, vI v2, vI 0]) (by decide +kernel) (by rfl) rfl rfl (hp36 _) (by decide) ⟨(Nat.le_of_ble_eq_true rfl), (by show 19 + 4 ≤ 341; exact Nat.le_of_ble_eq_true rfl), Nat.le_of_ble_eq_true rfl, Nat.le_of_ble_eq_true rfl⟩ ((g143_ok e11).up (Nat.le_of_ble_eq_true rfl) (Nat.le_of_ble_eq_true rfl)) ?_
    refine Ru.op (q := (.aload_n 0, 1)) (by decide +kernel) rfl ?_
    refine Ru.op (q := (.iload_n 1, 1)) (by decide +kernel) rfl ?_
    refine Ru.op (q := (.iload_n 3, 1)) (by decide +kernel) rfl ?_
    refine Ru.kI (q := (.iconst 0, 1)) (c := 0) (by decide +kernel) rfl (by decide) ?_
    obtain ⟨o12, e13, h⟩ := ob_some h
    refine Ru.vcall (i := 311) (j2 := 143) (as := [vI v1, vI v3, vI 0]) (by decide +kernel) (by rfl) rfl rfl (hp36 _) (by decide) ⟨(Nat.le_of_ble_eq_true rfl), (by show 19 + 4 ≤ 341; exact Nat.le_of_ble_eq_true rfl), Nat.le_of_ble_eq_true rfl, Nat.le_of_ble_eq_true rfl⟩ ((g143_ok e13).up (Nat.le_of_ble_eq_true rfl) (Nat.le_of_ble_eq_true rfl)) ?_
    obtain ⟨o14, e15, h⟩ := ob_some h
    refine Ru.vcall (i := 321) (j2 := 144) (as := [vI o10, vI o12]) (by decide +kernel) (by rfl) rfl rfl (hp36 _) (by decide) ⟨(Nat.le_of_ble_eq_true rfl), (by show 19 + 10 ≤ 341; exact Nat.le_of_ble_eq_true rfl), Nat.le_of_ble_eq_true rfl, Nat.le_of_ble_eq_true rfl⟩ ((g144_ok e15).up (Nat.le_of_ble_eq_true rfl) (Nat.le_of_ble_eq_true rfl)) ?_
    obtain ⟨g16, h⟩ := gd_some h
    cases h
    exact Ru.iret (by decide +kernel) rfl (nar_b1 g16)
  · replace h := if_f b3 h
    refine Ru.br2 (k := .eq) (off := 5) (bb := false) (tg := 23) (by decide +kernel) (by decide +kernel) (ci_eq0 (inR_to _) (inR_to _) b3) rfl ?_
    refine Ru.kI (q := (.iconst 0, 1)) (c := 0) (by decide +kernel) rfl (by decide) ?_
    cases h
    exact Ru.iret (by decide +kernel) rfl (nar_b1 (by decide))
def g146 (S : St) (v1 : Int) (v2 : Int) (v3 : Int) (v4 : Int) : Option (Int × St) := gd (ixR ((4 * v1) + v2) 504) (gd (ixR ((4 * v3) + v4) 504) (if (S.A 40 ((4 * v1) + v2)) = (S.A 40 ((4 * v3) + v4)) then some (0, S) else ob (g100 S) (fun o4 => ob (g141 o4 v1 0) (fun o6 => ob (g141 o6 v3 16) (fun o8 => ob (g142 (o8.f 36 24 0) v1 v2 0) (fun o10 => ob (g142 o10 v3 v4 16) (fun o12 => ob (g143 o12 v1 v2 0) (fun o14 => ob (g143 o12 v3 v4 16) (fun o16 => ob (g144 o12 o14 o16) (fun o18 => gd (b1R o18.1) (some (o18.1, o18.2))))))))))))
set_option maxRecDepth 100000 in
set_option maxHeartbeats 4000000 in
theorem g146_ok {S : St} {v1 : Int} {v2 : Int} {v3 : Int} {v4 : Int} {o : Int × St} (h : g146 S v1 v2 v3 v4 = some o) : Ru none 16 341 146 (0, mn_pad (mn_ent [.ref 36, vI v1, vI v2, vI v3, vI v4]) 5, [], S.ns, Hp S) ((0, some (vI o.1)), o.2.ns, Hp o.2) := by
  unfold g146 at h
  show Ru none 16 341 146 (0, [some (.ref 36), some (vI v1), some (vI v2), some (vI v3), some (vI v4)], [], S.ns, Hp S) _
  refine Ru.op (q := (.aload_n 0, 1)) (by decide +kernel) rfl ?_
  refine Ru.get (i := 23) (v := .ref 40) (by decide +kernel) (by rfl) (hp36 _) (by decide) rfl ?_
  refine Ru.kI (q := (.iconst 4, 1)) (c := 4) (by decide +kernel) rfl (by decide) ?_
  refine Ru.op (q := (.iload_n 1, 1)) (by decide +kernel) rfl ?_
  refine Ru.ar2 (i := .imul) (z := (4 * v1)) (by decide +kernel) rfl (ar_mul _ _) ?_
  refine Ru.op (q := (.iload_n 2, 1)) (by decide +kernel) rfl ?_
  refine Ru.ar2 (i := .iadd) (z := ((4 * v1) + v2)) (by decide +kernel) rfl (ar_add _ _) ?_
  obtain ⟨g1, h⟩ := gd_some h
  refine Ru.bldI (i := ((4 * v1) + v2)) (z := (S.A 40 ((4 * v1) + v2))) (by decide +kernel) (hp40 _) g1 (eI_of _) ?_
  refine Ru.op (q := (.aload_n 0, 1)) (by decide +kernel) rfl ?_
  refine Ru.get (i := 23) (v := .ref 40) (by decide +kernel) (by rfl) (hp36 _) (by decide) rfl ?_
  refine Ru.kI (q := (.iconst 4, 1)) (c := 4) (by decide +kernel) rfl (by decide) ?_
  refine Ru.op (q := (.iload_n 3, 1)) (by decide +kernel) rfl ?_
  refine Ru.ar2 (i := .imul) (z := (4 * v3)) (by decide +kernel) rfl (ar_mul _ _) ?_
  refine Ru.op (q := (.iload 4, 2)) (by decide +kernel) rfl ?_
  refine Ru.ar2 (i := .iadd) (z := ((4 * v3) + v4)) (by decide +kernel) rfl (ar_add _ _) ?_
  obtain ⟨g2, h⟩ := gd_some h
  refine Ru.bldI (i := ((4 * v3) + v4)) (z := (S.A 40 ((4 * v3) + v4))) (by decide +kernel) (hp40 _) g2 (eI_of _) ?_
  by_cases b3 : (S.A 40 ((4 * v1) + v2)) = (S.A 40 ((4 * v3) + v4))
  · replace h := if_t b3 h
    refine Ru.br2 (k := .ne) (off := 5) (bb := false) (tg := 24) (by decide +kernel) (by decide +kernel) (ci_ne0 (inR_to _) (inR_to _) b3) rfl ?_
    refine Ru.kI (q := (.iconst 0, 1)) (c := 0) (by decide +kernel) rfl (by decide) ?_
    cases h
    exact Ru.iret (by decide +kernel) rfl (nar_b1 (by decide))
  · replace h := if_f b3 h
    refine Ru.br2 (k := .ne) (off := 5) (bb := true) (tg := 26) (by decide +kernel) (by decide +kernel) (ci_ne1 (inR_to _) (inR_to _) b3) rfl ?_
    refine Ru.op (q := (.aload_n 0, 1)) (by decide +kernel) rfl ?_
    obtain ⟨o4, e5, h⟩ := ob_some h
    refine Ru.vcall (i := 204) (j2 := 100) (as := []) (by decide +kernel) (by rfl) rfl rfl (hp36 _) (by decide) ⟨(Nat.le_of_ble_eq_true rfl), (by show 19 + 2 ≤ 341; exact Nat.le_of_ble_eq_true rfl), Nat.le_of_ble_eq_true rfl, Nat.le_of_ble_eq_true rfl⟩ ((g100_ok e5).up (Nat.le_of_ble_eq_true rfl) (Nat.le_of_ble_eq_true rfl)) ?_
    refine Ru.op (q := (.aload_n 0, 1)) (by decide +kernel) rfl ?_
    refine Ru.op (q := (.iload_n 1, 1)) (by decide +kernel) rfl ?_
    refine Ru.kI (q := (.iconst 0, 1)) (c := 0) (by decide +kernel) rfl (by decide) ?_
    obtain ⟨o6, e7, h⟩ := ob_some h
    refine Ru.vcall (i := 314) (j2 := 141) (as := [vI v1, vI 0]) (by decide +kernel) (by rfl) rfl rfl (hp36 _) (by decide) ⟨(Nat.le_of_ble_eq_true rfl), (by show 19 + 5 ≤ 341; exact Nat.le_of_ble_eq_true rfl), Nat.le_of_ble_eq_true rfl, Nat.le_of_ble_eq_true rfl⟩ ((g141_ok e7).up (Nat.le_of_ble_eq_true rfl) (Nat.le_of_ble_eq_true rfl)) ?_
    refine Ru.op (q := (.aload_n 0, 1)) (by decide +kernel) rfl ?_
    refine Ru.op (q := (.iload_n 3, 1)) (by decide +kernel) rfl ?_
    refine Ru.kI (q := (.bipush 16, 2)) (c := 16) (by decide +kernel) rfl (by decide) ?_
    obtain ⟨o8, e9, h⟩ := ob_some h
    refine Ru.vcall (i := 314) (j2 := 141) (as := [vI v3, vI 16]) (by decide +kernel) (by rfl) rfl rfl (hp36 _) (by decide) ⟨(Nat.le_of_ble_eq_true rfl), (by show 19 + 5 ≤ 341; exact Nat.le_of_ble_eq_true rfl), Nat.le_of_ble_eq_true rfl, Nat.le_of_ble_eq_true rfl⟩ ((g141_ok e9).up (Nat.le_of_ble_eq_true rfl) (Nat.le_of_ble_eq_true rfl)) ?_
    refine Ru.op (q := (.aload_n 0, 1)) (by decide +kernel) rfl ?_
    refine Ru.kI (q := (.iconst 0, 1)) (c := 0) (by decide +kernel) rfl (by decide) ?_
    refine Ru.putH (i := 246) (by decide +kernel) (by rfl) (hp36 _) (by decide) (Nat.le_of_ble_eq_true rfl) rfl (by decide +kernel) (pf_36_24 _ _) ?_
    refine Ru.op (q := (.aload_n 0, 1)) (by decide +kernel) rfl ?_
    refine Ru.op (q := (.iload_n 1, 1)) (by decide +kernel) rfl ?_
    refine Ru.op (q := (.iload_n 2, 1)) (by decide +kernel) rfl ?_
    refine Ru.kI (q := (.iconst 0, 1)) (c := 0) (by decide +kernel) rfl (by decide) ?_
    obtain ⟨o10, e11, h⟩ := ob_some h
    refine Ru.vcall (i := 317) (j2 := 142) (as := [vI v1, vI v2, vI 0]) (by decide +kernel) (by rfl) rfl rfl (hp36 _) (by decide) ⟨(Nat.le_of_ble_eq_true rfl), (by show 19 + 5 ≤ 341; exact Nat.le_of_ble_eq_true rfl), Nat.le_of_ble_eq_true rfl, Nat.le_of_ble_eq_true rfl⟩ ((g142_ok e11).up (Nat.le_of_ble_eq_true rfl) (Nat.le_of_ble_eq_true rfl)) ?_
    refine Ru.op (q := (.aload_n 0, 1)) (by decide +kernel) rfl ?_
    refine Ru.op (q := (.iload_n 3, 1)) (by decide +kernel) rfl ?_
    refine Ru.op (q := (.iload 4, 2)) (by decide +kernel) rfl ?_
    refine Ru.kI (q := (.bipush 16, 2)) (c := 16) (by decide +kernel) rfl (by decide) ?_
    obtain ⟨o12, e13, h⟩ := ob_some h
    refine Ru.vcall (i := 317) (j2 := 142) (as := [vI v3, vI v4, vI 16]) (by decide +kernel) (by rfl) rfl rfl (hp36 _) (by decide) ⟨(Nat.le_of_ble_eq_true rfl), (by show 19 + 5 ≤ 341; exact Nat.le_of_ble_eq_true rfl), Nat.le_of_ble_eq_true rfl, Nat.le_of_ble_eq_true rfl⟩ ((g142_ok e13).up (Nat.le_of_ble_eq_true rfl) (Nat.le_of_ble_eq_true rfl)) ?_
    refine Ru.op (q := (.aload_n 0, 1)) (by decide +kernel) rfl ?_
    refine Ru.op (q := (.aload_n 0, 1)) (by decide +kernel) rfl ?_
    refine Ru.op (q := (.iload_n 1, 1)) (by decide +kernel) rfl ?_
    refine Ru.op (q := (.iload_n 2, 1)) (by decide +kernel) rfl ?_
    refine Ru.kI (q := (.iconst 0, 1)) (c := 0) (by decide +kernel) rfl (by decide) ?_
    obtain ⟨o14, e15, h⟩ := ob_some h
    refine Ru.vcall (i := 311) (j2 := 143) (as := [vI v1, vI v2, vI 0]) (by decide +kernel) (by rfl) rfl rfl (hp36 _) (by decide) ⟨(Nat.le_of_ble_eq_true rfl), (by show 19 + 4 ≤ 341; exact Nat.le_of_ble_eq_true rfl), Nat.le_of_ble_eq_true rfl, Nat.le_of_ble_eq_true rfl⟩ ((g143_ok e15).up (Nat.le_of_ble_eq_true rfl) (Nat.le_of_ble_eq_true rfl)) ?_
    refine Ru.op (q := (.aload_n 0, 1)) (by decide +kernel) rfl ?_
    refine Ru.op (q := (.iload_n 3, 1)) (by decide +kernel) rfl ?_
    refine Ru.op (q := (.iload 4, 2)) (by decide +kernel) rfl ?_
    refine Ru.kI (q := (.bipush 16, 2)) (c := 16) (by decide +kernel) rfl (by decide) ?_
    obtain ⟨o16, e17, h⟩ := ob_some h
    refine Ru.vcall (i := 311) (j2 := 143) (as := [vI v3, vI v4, vI 16]) (by decide +kernel) (by rfl) rfl rfl (hp36 _) (by decide) ⟨(Nat.le_of_ble_eq_true rfl), (by show 19 + 4 ≤ 341; exact Nat.le_of_ble_eq_true rfl), Nat.le_of_ble_eq_true rfl, Nat.le_of_ble_eq_true rfl⟩ ((g143_ok e17).up (Nat.le_of_ble_eq_true rfl) (Nat.le_of_ble_eq_true rfl)) ?_
    obtain ⟨o18, e19, h⟩ := ob_some h
    refine Ru.vcall (i := 321) (j2 := 144) (as := [vI o14, vI o16]) (by decide +kernel) (by rfl) rfl rfl (hp36 _) (by decide) ⟨(Nat.le_of_ble_eq_true rfl), (by show 19 + 10 ≤ 341; exact Nat.le_of_ble_eq_true rfl), Nat.le_of_ble_eq_true rfl, Nat.le_of_ble_eq_true rfl⟩ ((g144_ok e19).up (Nat.le_of_ble_eq_true rfl) (Nat.le_of_ble_eq_true rfl)) ?_
    obtain ⟨g20, h⟩ := gd_some h
    cases h
    exact Ru.iret (by decide +kernel) rfl (nar_b1 g20)
def g137L19 (v1 : Int) : Nat → Int → Int → St → Option (Int × St)
  | 0, _, _, _ => none
  | n + 1, v2, v3, S => gd (inR v3) (if v3 < (S.F 36 9) then gd (inR v2) (if v2 = 0 then gd (ixR v3 100) (if (S.A 43 v3) = 1 then ob (g130 S v3 v1) (fun o9 => gd (inR o9.1) (if o9.1 = 0 then g137L19 v1 n 0 (v3 + 1) o9.2 else g137L19 v1 n 1 (v3 + 1) o9.2)) else g137L19 v1 n 0 (v3 + 1) S) else g137L19 v1 n 1 (v3 + 1) S) else some (v2, S))
set_option maxRecDepth 100000 in
set_option maxHeartbeats 4000000 in
theorem g137L19_ok {v1 : Int} : ∀ (n : Nat) (v2 : Int) (v3 : Int) (S : St) (d4 d5 : Option Value) (out : Int × St), g137L19 v1 n v2 v3 S = some out → ∀ r, (∀ (e3 e4 e5 : Option Value), Ru none 17 368 137 (62, [some (.ref 36), some (vI v1), some (vI out.1), e3, e4, e5], [], out.2.ns, Hp out.2) r) → Ru none 17 368 137 (19, [some (.ref 36), some (vI v1), some (vI v2), some (vI v3), d4, d5], [], S.ns, Hp S) r := by
  intro n
  induction n with
  | zero => intro v2 v3 S d4 d5 out h; cases h
  | succ n ih =>
    intro v2 v3 S d4 d5 out h r hk
    unfold g137L19 at h
    refine Ru.op (q := (.iload_n 3, 1)) (by decide +kernel) rfl ?_
    refine Ru.op (q := (.aload_n 0, 1)) (by decide +kernel) rfl ?_
    refine Ru.getI (i := 263) (x := (S.F 36 9)) (by decide +kernel) (by rfl) (hp36 _) (by decide) rfl (eI_of _) ?_
    obtain ⟨g3, h⟩ := gd_some h
    by_cases b4 : v3 < (S.F 36 9)
    · replace h := if_t b4 h
      refine Ru.br2 (k := .ge) (off := 38) (bb := false) (tg := 27) (by decide +kernel) (by decide +kernel) (ci_ge0 g3 (inR_to _) b4) rfl ?_
      refine Ru.op (q := (.iload_n 2, 1)) (by decide +kernel) rfl ?_
      obtain ⟨g5, h⟩ := gd_some h
      by_cases b6 : v2 = 0
      · replace h := if_t b6 h
        refine Ru.br (k := .ne) (off := 22) (bb := false) (tg := 31) (by decide +kernel) (by decide +kernel) (cz (ci_ne0 g5 (by decide) b6)) rfl ?_
        refine Ru.op (q := (.aload_n 0, 1)) (by decide +kernel) rfl ?_
        refine Ru.get (i := 33) (v := .ref 43) (by decide +kernel) (by rfl) (hp36 _) (by decide) rfl ?_
        refine Ru.op (q := (.iload_n 3, 1)) (by decide +kernel) rfl ?_
        obtain ⟨g7, h⟩ := gd_some h
        refine Ru.ildI (i := v3) (z := (S.A 43 v3)) (by decide +kernel) (hp43 _) g7 (eI_of _) ?_
        refine Ru.kI (q := (.iconst 1, 1)) (c := 1) (by decide +kernel) rfl (by decide) ?_
        by_cases b8 : (S.A 43 v3) = 1
        · replace h := if_t b8 h
          refine Ru.br2 (k := .ne) (off := 16) (bb := false) (tg := 41) (by decide +kernel) (by decide +kernel) (ci_ne0 (inR_to _) (by decide) b8) rfl ?_
          refine Ru.op (q := (.aload_n 0, 1)) (by decide +kernel) rfl ?_
          refine Ru.op (q := (.iload_n 3, 1)) (by decide +kernel) rfl ?_
          refine Ru.op (q := (.iload_n 1, 1)) (by decide +kernel) rfl ?_
          obtain ⟨o9, e10, h⟩ := ob_some h
          refine Ru.vcall (i := 266) (j2 := 130) (as := [vI v3, vI v1]) (by decide +kernel) (by rfl) rfl rfl (hp36 _) (by decide) ⟨(Nat.le_of_ble_eq_true rfl), (by show 19 + 8 ≤ 368; exact Nat.le_of_ble_eq_true rfl), Nat.le_of_ble_eq_true rfl, Nat.le_of_ble_eq_true rfl⟩ ((g130_ok e10).up (Nat.le_of_ble_eq_true rfl) (Nat.le_of_ble_eq_true rfl)) ?_
          obtain ⟨g11, h⟩ := gd_some h
          by_cases b12 : o9.1 = 0
          · replace h := if_t b12 h
            refine Ru.br (k := .eq) (off := 7) (bb := true) (tg := 54) (by decide +kernel) (by decide +kernel) (cz (ci_eq1 g11 (by decide) b12)) rfl ?_
            refine Ru.kI (q := (.iconst 0, 1)) (c := 0) (by decide +kernel) rfl (by decide) ?_
            refine Ru.op (q := (.istore_n 2, 1)) (S' := (56, [some (.ref 36), some (vI v1), some (vI 0), some (vI v3), d4, d5], [], _, _)) (by decide +kernel) rfl ?_
            refine Ru.inc (x := v3) (z := (v3 + 1)) (xs' := [some (.ref 36), some (vI v1), some (vI 0), some (vI (v3 + 1)), d4, d5]) (by decide +kernel) rfl rfl rfl ?_
            refine Ru.op (q := (.goto (-40), 3)) (by decide +kernel) rfl ?_
            exact ih _ _ _ _ _ _ h r hk
          · replace h := if_f b12 h
            refine Ru.br (k := .eq) (off := 7) (bb := false) (tg := 50) (by decide +kernel) (by decide +kernel) (cz (ci_eq0 g11 (by decide) b12)) rfl ?_
            refine Ru.kI (q := (.iconst 1, 1)) (c := 1) (by decide +kernel) rfl (by decide) ?_
            refine Ru.op (q := (.goto 4, 3)) (by decide +kernel) rfl ?_
            refine Ru.op (q := (.istore_n 2, 1)) (S' := (56, [some (.ref 36), some (vI v1), some (vI 1), some (vI v3), d4, d5], [], _, _)) (by decide +kernel) rfl ?_
            refine Ru.inc (x := v3) (z := (v3 + 1)) (xs' := [some (.ref 36), some (vI v1), some (vI 1), some (vI (v3 + 1)), d4, d5]) (by decide +kernel) rfl rfl rfl ?_
            refine Ru.op (q := (.goto (-40), 3)) (by decide +kernel) rfl ?_
            exact ih _ _ _ _ _ _ h r hk
        · replace h := if_f b8 h
          refine Ru.br2 (k := .ne) (off := 16) (bb := true) (tg := 54) (by decide +kernel) (by decide +kernel) (ci_ne1 (inR_to _) (by decide) b8) rfl ?_
          refine Ru.kI (q := (.iconst 0, 1)) (c := 0) (by decide +kernel) rfl (by decide) ?_
          refine Ru.op (q := (.istore_n 2, 1)) (S' := (56, [some (.ref 36), some (vI v1), some (vI 0), some (vI v3), d4, d5], [], _, _)) (by decide +kernel) rfl ?_
          refine Ru.inc (x := v3) (z := (v3 + 1)) (xs' := [some (.ref 36), some (vI v1), some (vI 0), some (vI (v3 + 1)), d4, d5]) (by decide +kernel) rfl rfl rfl ?_
          refine Ru.op (q := (.goto (-40), 3)) (by decide +kernel) rfl ?_
          exact ih _ _ _ _ _ _ h r hk
      · replace h := if_f b6 h
        refine Ru.br (k := .ne) (off := 22) (bb := true) (tg := 50) (by decide +kernel) (by decide +kernel) (cz (ci_ne1 g5 (by decide) b6)) rfl ?_
        refine Ru.kI (q := (.iconst 1, 1)) (c := 1) (by decide +kernel) rfl (by decide) ?_
        refine Ru.op (q := (.goto 4, 3)) (by decide +kernel) rfl ?_
        refine Ru.op (q := (.istore_n 2, 1)) (S' := (56, [some (.ref 36), some (vI v1), some (vI 1), some (vI v3), d4, d5], [], _, _)) (by decide +kernel) rfl ?_
        refine Ru.inc (x := v3) (z := (v3 + 1)) (xs' := [some (.ref 36), some (vI v1), some (vI 1), some (vI (v3 + 1)), d4, d5]) (by decide +kernel) rfl rfl rfl ?_
        refine Ru.op (q := (.goto (-40), 3)) (by decide +kernel) rfl ?_
        exact ih _ _ _ _ _ _ h r hk
    · replace h := if_f b4 h
      refine Ru.br2 (k := .ge) (off := 38) (bb := true) (tg := 62) (by decide +kernel) (by decide +kernel) (ci_ge1 g3 (inR_to _) b4) rfl ?_
      cases h
      exact hk _ _ _
def g137L77 (v1 : Int) : Nat → Int → St → Option (St)
  | 0, _, _ => none
  | n + 1, v3, S => gd (inR v3) (if v3 < (S.F 36 9) then gd (ixR v3 100) (if (S.A 43 v3) = 1 then ob (g130 S v1 v3) (fun o24 => gd (inR o24.1) (if o24.1 = 0 then g137L77 v1 n (v3 + 1) (o24.2.a 43 v3 (o24.2.A 43 v3)) else g137L77 v1 n (v3 + 1) (o24.2.a 43 v3 2))) else g137L77 v1 n (v3 + 1) (S.a 43 v3 (S.A 43 v3))) else some S)
set_option maxRecDepth 100000 in
set_option maxHeartbeats 4000000 in
theorem g137L77_ok {v1 : Int} : ∀ (n : Nat) (v3 : Int) (S : St) (d2 d4 d5 : Option Value) (out : St), g137L77 v1 n v3 S = some out → ∀ r, (∀ (e2 e3 e4 e5 : Option Value), Ru none 17 368 137 (126, [some (.ref 36), some (vI v1), e2, e3, e4, e5], [], out.ns, Hp out) r) → Ru none 17 368 137 (77, [some (.ref 36), some (vI v1), d2, some (vI v3), d4, d5], [], S.ns, Hp S) r := by
  intro n
  induction n with
  | zero => intro v3 S d2 d4 d5 out h; cases h
  | succ n ih =>
    intro v3 S d2 d4 d5 out h r hk
    unfold g137L77 at h
    refine Ru.op (q := (.iload_n 3, 1)) (by decide +kernel) rfl ?_
    refine Ru.op (q := (.aload_n 0, 1)) (by decide +kernel) rfl ?_
    refine Ru.getI (i := 263) (x := (S.F 36 9)) (by decide +kernel) (by rfl) (hp36 _) (by decide) rfl (eI_of _) ?_
    obtain ⟨g20, h⟩ := gd_some h
    by_cases b21 : v3 < (S.F 36 9)
    · replace h := if_t b21 h
      refine Ru.br2 (k := .ge) (off := 44) (bb := false) (tg := 85) (by decide +kernel) (by decide +kernel) (ci_ge0 g20 (inR_to _) b21) rfl ?_
      refine Ru.op (q := (.aload_n 0, 1)) (by decide +kernel) rfl ?_
      refine Ru.get (i := 33) (v := .ref 43) (by decide +kernel) (by rfl) (hp36 _) (by decide) rfl ?_
      refine Ru.op (q := (.iload_n 3, 1)) (by decide +kernel) rfl ?_
      refine Ru.op (q := (.aload_n 0, 1)) (by decide +kernel) rfl ?_
      refine Ru.get (i := 33) (v := .ref 43) (by decide +kernel) (by rfl) (hp36 _) (by decide) rfl ?_
      refine Ru.op (q := (.iload_n 3, 1)) (by decide +kernel) rfl ?_
      obtain ⟨g22, h⟩ := gd_some h
      refine Ru.ildI (i := v3) (z := (S.A 43 v3)) (by decide +kernel) (hp43 _) g22 (eI_of _) ?_
      refine Ru.kI (q := (.iconst 1, 1)) (c := 1) (by decide +kernel) rfl (by decide) ?_
      by_cases b23 : (S.A 43 v3) = 1
      · replace h := if_t b23 h
        refine Ru.br2 (k := .ne) (off := 16) (bb := false) (tg := 100) (by decide +kernel) (by decide +kernel) (ci_ne0 (inR_to _) (by decide) b23) rfl ?_
        refine Ru.op (q := (.aload_n 0, 1)) (by decide +kernel) rfl ?_
        refine Ru.op (q := (.iload_n 1, 1)) (by decide +kernel) rfl ?_
        refine Ru.op (q := (.iload_n 3, 1)) (by decide +kernel) rfl ?_
        obtain ⟨o24, e25, h⟩ := ob_some h
        refine Ru.vcall (i := 266) (j2 := 130) (as := [vI v1, vI v3]) (by decide +kernel) (by rfl) rfl rfl (hp36 _) (by decide) ⟨(Nat.le_of_ble_eq_true rfl), (by show 19 + 8 ≤ 368; exact Nat.le_of_ble_eq_true rfl), Nat.le_of_ble_eq_true rfl, Nat.le_of_ble_eq_true rfl⟩ ((g130_ok e25).up (Nat.le_of_ble_eq_true rfl) (Nat.le_of_ble_eq_true rfl)) ?_
        obtain ⟨g26, h⟩ := gd_some h
        by_cases b27 : o24.1 = 0
        · replace h := if_t b27 h
          refine Ru.br (k := .eq) (off := 7) (bb := true) (tg := 113) (by decide +kernel) (by decide +kernel) (cz (ci_eq1 g26 (by decide) b27)) rfl ?_
          refine Ru.op (q := (.aload_n 0, 1)) (by decide +kernel) rfl ?_
          refine Ru.get (i := 33) (v := .ref 43) (by decide +kernel) (by rfl) (hp36 _) (by decide) rfl ?_
          refine Ru.op (q := (.iload_n 3, 1)) (by decide +kernel) rfl ?_
          refine Ru.ildI (i := v3) (z := (o24.2.A 43 v3)) (by decide +kernel) (hp43 _) g22 (eI_of _) ?_
          refine Ru.istI (i := v3) (x := (o24.2.A 43 v3)) (by decide +kernel) (hp43 _) g22 (ps_43 _ _ _) ?_
          refine Ru.inc (x := v3) (z := (v3 + 1)) (xs' := [some (.ref 36), some (vI v1), d2, some (vI (v3 + 1)), d4, d5]) (by decide +kernel) rfl rfl rfl ?_
          refine Ru.op (q := (.goto (-46), 3)) (by decide +kernel) rfl ?_
          exact ih _ _ _ _ _ _ h r hk
        · replace h := if_f b27 h
          refine Ru.br (k := .eq) (off := 7) (bb := false) (tg := 109) (by decide +kernel) (by decide +kernel) (cz (ci_eq0 g26 (by decide) b27)) rfl ?_
          refine Ru.kI (q := (.iconst 2, 1)) (c := 2) (by decide +kernel) rfl (by decide) ?_
          refine Ru.op (q := (.goto 9, 3)) (by decide +kernel) rfl ?_
          refine Ru.istI (i := v3) (x := 2) (by decide +kernel) (hp43 _) g22 (ps_43 _ _ _) ?_
          refine Ru.inc (x := v3) (z := (v3 + 1)) (xs' := [some (.ref 36), some (vI v1), d2, some (vI (v3 + 1)), d4, d5]) (by decide +kernel) rfl rfl rfl ?_
          refine Ru.op (q := (.goto (-46), 3)) (by decide +kernel) rfl ?_
          exact ih _ _ _ _ _ _ h r hk
      · replace h := if_f b23 h
        refine Ru.br2 (k := .ne) (off := 16) (bb := true) (tg := 113) (by decide +kernel) (by decide +kernel) (ci_ne1 (inR_to _) (by decide) b23) rfl ?_
        refine Ru.op (q := (.aload_n 0, 1)) (by decide +kernel) rfl ?_
        refine Ru.get (i := 33) (v := .ref 43) (by decide +kernel) (by rfl) (hp36 _) (by decide) rfl ?_
        refine Ru.op (q := (.iload_n 3, 1)) (by decide +kernel) rfl ?_
        refine Ru.ildI (i := v3) (z := (S.A 43 v3)) (by decide +kernel) (hp43 _) g22 (eI_of _) ?_
        refine Ru.istI (i := v3) (x := (S.A 43 v3)) (by decide +kernel) (hp43 _) g22 (ps_43 _ _ _) ?_
        refine Ru.inc (x := v3) (z := (v3 + 1)) (xs' := [some (.ref 36), some (vI v1), d2, some (vI (v3 + 1)), d4, d5]) (by decide +kernel) rfl rfl rfl ?_
        refine Ru.op (q := (.goto (-46), 3)) (by decide +kernel) rfl ?_
        exact ih _ _ _ _ _ _ h r hk
    · replace h := if_f b21 h
      refine Ru.br2 (k := .ge) (off := 44) (bb := true) (tg := 126) (by decide +kernel) (by decide +kernel) (ci_ge1 g20 (inR_to _) b21) rfl ?_
      cases h
      exact hk _ _ _ _
def g137L150 (v1 : Int) (v3 : Int) : Nat → Int → St → Option (St)
  | 0, _, _ => none
  | n + 1, v4, S => gd (ixR v1 125) (gd (inR v4) (if v4 < (S.A 41 v1) then ob (g139 S) (fun o41 => gd (inR o41) (if o41 = 0 then ob (g140 S v1 v3 v4) (fun o45 => gd (inR o45.1) (if o45.1 = 0 then g137L150 v1 v3 n (v4 + 1) o45.2 else ob (g118 o45.2 1 v1 v3 v1 v4) (fun o49 => gd (inR o49.1) (if o49.1 = 0 then g137L150 v1 v3 n (v4 + 1) o49.2 else g137L150 v1 v3 n (v4 + 1) o49.2)))) else some S)) else some S))
set_option maxRecDepth 100000 in
set_option maxHeartbeats 4000000 in
theorem g137L150_ok {v1 : Int} {v3 : Int} : ∀ (n : Nat) (v4 : Int) (S : St) (d2 d5 : Option Value) (out : St), g137L150 v1 v3 n v4 S = some out → ∀ r, (∀ (e2 e4 e5 : Option Value), Ru none 17 368 137 (205, [some (.ref 36), some (vI v1), e2, some (vI v3), e4, e5], [], out.ns, Hp out) r) → Ru none 17 368 137 (150, [some (.ref 36), some (vI v1), d2, some (vI v3), some (vI v4), d5], [], S.ns, Hp S) r := by
  intro n
  induction n with
  | zero => intro v4 S d2 d5 out h; cases h
  | succ n ih =>
    intro v4 S d2 d5 out h r hk
    unfold g137L150 at h
    refine Ru.op (q := (.iload 4, 2)) (by decide +kernel) rfl ?_
    refine Ru.op (q := (.aload_n 0, 1)) (by decide +kernel) rfl ?_
    refine Ru.get (i := 27) (v := .ref 41) (by decide +kernel) (by rfl) (hp36 _) (by decide) rfl ?_
    refine Ru.op (q := (.iload_n 1, 1)) (by decide +kernel) rfl ?_
    obtain ⟨g38, h⟩ := gd_some h
    refine Ru.ildI (i := v1) (z := (S.A 41 v1)) (by decide +kernel) (hp41 _) g38 (eI_of _) ?_
    obtain ⟨g39, h⟩ := gd_some h
    by_cases b40 : v4 < (S.A 41 v1)
    · replace h := if_t b40 h
      refine Ru.br2 (k := .ge) (off := 47) (bb := false) (tg := 161) (by decide +kernel) (by decide +kernel) (ci_ge0 g39 (inR_to _) b40) rfl ?_
      refine Ru.op (q := (.aload_n 0, 1)) (by decide +kernel) rfl ?_
      obtain ⟨o41, e42, h⟩ := ob_some h
      refine Ru.vcall (i := 330) (j2 := 139) (as := []) (by decide +kernel) (by rfl) rfl rfl (hp36 _) (by decide) ⟨(Nat.le_of_ble_eq_true rfl), (by show 19 + 1 ≤ 368; exact Nat.le_of_ble_eq_true rfl), Nat.le_of_ble_eq_true rfl, Nat.le_of_ble_eq_true rfl⟩ ((g139_ok e42).up (Nat.le_of_ble_eq_true rfl) (Nat.le_of_ble_eq_true rfl)) ?_
      obtain ⟨g43, h⟩ := gd_some h
      by_cases b44 : o41 = 0
      · replace h := if_t b44 h
        refine Ru.br (k := .ne) (off := 40) (bb := false) (tg := 168) (by decide +kernel) (by decide +kernel) (cz (ci_ne0 g43 (by decide) b44)) rfl ?_
        refine Ru.op (q := (.aload_n 0, 1)) (by decide +kernel) rfl ?_
        refine Ru.op (q := (.iload_n 1, 1)) (by decide +kernel) rfl ?_
        refine Ru.op (q := (.iload_n 3, 1)) (by decide +kernel) rfl ?_
        refine Ru.op (q := (.iload 4, 2)) (by decide +kernel) rfl ?_
        obtain ⟨o45, e46, h⟩ := ob_some h
        refine Ru.vcall (i := 333) (j2 := 140) (as := [vI v1, vI v3, vI v4]) (by decide +kernel) (by rfl) rfl rfl (hp36 _) (by decide) ⟨(Nat.le_of_ble_eq_true rfl), (by show 19 + 4 ≤ 368; exact Nat.le_of_ble_eq_true rfl), Nat.le_of_ble_eq_true rfl, Nat.le_of_ble_eq_true rfl⟩ ((g140_ok e46).up (Nat.le_of_ble_eq_true rfl) (Nat.le_of_ble_eq_true rfl)) ?_
        obtain ⟨g47, h⟩ := gd_some h
        by_cases b48 : o45.1 = 0
        · replace h := if_t b48 h
          refine Ru.br (k := .eq) (off := 20) (bb := true) (tg := 196) (by decide +kernel) (by decide +kernel) (cz (ci_eq1 g47 (by decide) b48)) rfl ?_
          refine Ru.kI (q := (.iconst 0, 1)) (c := 0) (by decide +kernel) rfl (by decide) ?_
          refine Ru.op (q := (.istore 5, 2)) (S' := (199, [some (.ref 36), some (vI v1), d2, some (vI v3), some (vI v4), some (vI 0)], [], _, _)) (by decide +kernel) rfl ?_
          refine Ru.inc (x := v4) (z := (v4 + 1)) (xs' := [some (.ref 36), some (vI v1), d2, some (vI v3), some (vI (v4 + 1)), some (vI 0)]) (by decide +kernel) rfl rfl rfl ?_
          refine Ru.op (q := (.goto (-52), 3)) (by decide +kernel) rfl ?_
          exact ih _ _ _ _ _ h r hk
        · replace h := if_f b48 h
          refine Ru.br (k := .eq) (off := 20) (bb := false) (tg := 179) (by decide +kernel) (by decide +kernel) (cz (ci_eq0 g47 (by decide) b48)) rfl ?_
          refine Ru.op (q := (.aload_n 0, 1)) (by decide +kernel) rfl ?_
          refine Ru.kI (q := (.iconst 1, 1)) (c := 1) (by decide +kernel) rfl (by decide) ?_
          refine Ru.op (q := (.iload_n 1, 1)) (by decide +kernel) rfl ?_
          refine Ru.op (q := (.iload_n 3, 1)) (by decide +kernel) rfl ?_
          refine Ru.op (q := (.iload_n 1, 1)) (by decide +kernel) rfl ?_
          refine Ru.op (q := (.iload 4, 2)) (by decide +kernel) rfl ?_
          obtain ⟨o49, e50, h⟩ := ob_some h
          refine Ru.vcall (i := 301) (j2 := 118) (as := [vI 1, vI v1, vI v3, vI v1, vI v4]) (by decide +kernel) (by rfl) rfl rfl (hp36 _) (by decide) ⟨(Nat.le_of_ble_eq_true rfl), (by show 19 + 6 ≤ 368; exact Nat.le_of_ble_eq_true rfl), Nat.le_of_ble_eq_true rfl, Nat.le_of_ble_eq_true rfl⟩ ((g118_ok e50).up (Nat.le_of_ble_eq_true rfl) (Nat.le_of_ble_eq_true rfl)) ?_
          obtain ⟨g51, h⟩ := gd_some h
          by_cases b52 : o49.1 = 0
          · replace h := if_t b52 h
            refine Ru.br (k := .eq) (off := 7) (bb := true) (tg := 196) (by decide +kernel) (by decide +kernel) (cz (ci_eq1 g51 (by decide) b52)) rfl ?_
            refine Ru.kI (q := (.iconst 0, 1)) (c := 0) (by decide +kernel) rfl (by decide) ?_
            refine Ru.op (q := (.istore 5, 2)) (S' := (199, [some (.ref 36), some (vI v1), d2, some (vI v3), some (vI v4), some (vI 0)], [], _, _)) (by decide +kernel) rfl ?_
            refine Ru.inc (x := v4) (z := (v4 + 1)) (xs' := [some (.ref 36), some (vI v1), d2, some (vI v3), some (vI (v4 + 1)), some (vI 0)]) (by decide +kernel) rfl rfl rfl ?_
            refine Ru.op (q := (.goto (-52), 3)) (by decide +kernel) rfl ?_
            exact ih _ _ _ _ _ h r hk
          · replace h := if_f b52 h
            refine Ru.br (k := .eq) (off := 7) (bb := false) (tg := 192) (by decide +kernel) (by decide +kernel) (cz (ci_eq0 g51 (by decide) b52)) rfl ?_
            refine Ru.kI (q := (.iconst 1, 1)) (c := 1) (by decide +kernel) rfl (by decide) ?_
            refine Ru.op (q := (.goto 4, 3)) (by decide +kernel) rfl ?_
            refine Ru.op (q := (.istore 5, 2)) (S' := (199, [some (.ref 36), some (vI v1), d2, some (vI v3), some (vI v4), some (vI 1)], [], _, _)) (by decide +kernel) rfl ?_
            refine Ru.inc (x := v4) (z := (v4 + 1)) (xs' := [some (.ref 36), some (vI v1), d2, some (vI v3), some (vI (v4 + 1)), some (vI 1)]) (by decide +kernel) rfl rfl rfl ?_
            refine Ru.op (q := (.goto (-52), 3)) (by decide +kernel) rfl ?_
            exact ih _ _ _ _ _ h r hk
      · replace h := if_f b44 h
        refine Ru.br (k := .ne) (off := 40) (bb := true) (tg := 205) (by decide +kernel) (by decide +kernel) (cz (ci_ne1 g43 (by decide) b44)) rfl ?_
        cases h
        exact hk _ _ _
    · replace h := if_f b40 h
      refine Ru.br2 (k := .ge) (off := 47) (bb := true) (tg := 205) (by decide +kernel) (by decide +kernel) (ci_ge1 g39 (inR_to _) b40) rfl ?_
      cases h
      exact hk _ _ _
def g137L135 (v1 : Int) : Nat → Int → St → Option (St)
  | 0, _, _ => none
  | n + 1, v3, S => gd (ixR v1 125) (gd (inR v3) (if v3 < (S.A 41 v1) then ob (g137L150 v1 v3 FU (v3 + 1) S) (fun o53 => g137L135 v1 n (v3 + 1) o53) else some S))
set_option maxRecDepth 100000 in
set_option maxHeartbeats 4000000 in
theorem g137L135_ok {v1 : Int} : ∀ (n : Nat) (v3 : Int) (S : St) (d2 d4 d5 : Option Value) (out : St), g137L135 v1 n v3 S = some out → ∀ r, (∀ (e2 e3 e4 e5 : Option Value), Ru none 17 368 137 (211, [some (.ref 36), some (vI v1), e2, e3, e4, e5], [], out.ns, Hp out) r) → Ru none 17 368 137 (135, [some (.ref 36), some (vI v1), d2, some (vI v3), d4, d5], [], S.ns, Hp S) r := by
  intro n
  induction n with
  | zero => intro v3 S d2 d4 d5 out h; cases h
  | succ n ih =>
    intro v3 S d2 d4 d5 out h r hk
    unfold g137L135 at h
    refine Ru.op (q := (.iload_n 3, 1)) (by decide +kernel) rfl ?_
    refine Ru.op (q := (.aload_n 0, 1)) (by decide +kernel) rfl ?_
    refine Ru.get (i := 27) (v := .ref 41) (by decide +kernel) (by rfl) (hp36 _) (by decide) rfl ?_
    refine Ru.op (q := (.iload_n 1, 1)) (by decide +kernel) rfl ?_
    obtain ⟨g35, h⟩ := gd_some h
    refine Ru.ildI (i := v1) (z := (S.A 41 v1)) (by decide +kernel) (hp41 _) g35 (eI_of _) ?_
    obtain ⟨g36, h⟩ := gd_some h
    by_cases b37 : v3 < (S.A 41 v1)
    · replace h := if_t b37 h
      refine Ru.br2 (k := .ge) (off := 69) (bb := false) (tg := 145) (by decide +kernel) (by decide +kernel) (ci_ge0 g36 (inR_to _) b37) rfl ?_
      refine Ru.op (q := (.iload_n 3, 1)) (by decide +kernel) rfl ?_
      refine Ru.kI (q := (.iconst 1, 1)) (c := 1) (by decide +kernel) rfl (by decide) ?_
      refine Ru.ar2 (i := .iadd) (z := (v3 + 1)) (by decide +kernel) rfl (ar_add _ _) ?_
      refine Ru.op (q := (.istore 4, 2)) (S' := (150, [some (.ref 36), some (vI v1), d2, some (vI v3), some (vI (v3 + 1)), d5], [], _, _)) (by decide +kernel) rfl ?_
      obtain ⟨o53, e57, h⟩ := ob_some h
      refine g137L150_ok FU _ _ _ _ _ e57 _ ?_
      intro d54 d55 d56
      refine Ru.inc (x := v3) (z := (v3 + 1)) (xs' := [some (.ref 36), some (vI v1), d54, some (vI (v3 + 1)), d55, d56]) (by decide +kernel) rfl rfl rfl ?_
      refine Ru.op (q := (.goto (-73), 3)) (by decide +kernel) rfl ?_
      exact ih _ _ _ _ _ _ h r hk
    · replace h := if_f b37 h
      refine Ru.br2 (k := .ge) (off := 69) (bb := true) (tg := 211) (by decide +kernel) (by decide +kernel) (ci_ge1 g36 (inR_to _) b37) rfl ?_
      cases h
      exact hk _ _ _ _
def g137L231 (v1 : Int) (v3 : Int) : Nat → Int → St → Option (St)
  | 0, _, _ => none
  | n + 1, v4, S => gd (ixR v1 125) (gd (ixR v3 125) (gd (inR v4) (gd (inR ((S.A 41 v1) * (S.A 41 v3))) (if v4 < ((S.A 41 v1) * (S.A 41 v3)) then gd (ixR v3 100) (if (S.A 43 v3) = 1 then ob (g139 S) (fun o77 => gd (inR o77) (if o77 = 0 then gd (dvR v4 (S.A 41 v3)) (ob (g146 S v1 (v4 / (S.A 41 v3)) v3 (v4 % (S.A 41 v3))) (fun o82 => gd (inR o82.1) (if o82.1 = 0 then g137L231 v1 v3 n (v4 + 1) o82.2 else gd (dvR v4 (o82.2.A 41 v3)) (ob (g118 o82.2 2 v1 (v4 / (o82.2.A 41 v3)) v3 (v4 % (o82.2.A 41 v3))) (fun o87 => gd (inR o87.1) (if o87.1 = 0 then g137L231 v1 v3 n (v4 + 1) o87.2 else g137L231 v1 v3 n (v4 + 1) o87.2)))))) else some S)) else some S) else some S))))
set_option maxRecDepth 100000 in
set_option maxHeartbeats 4000000 in
theorem g137L231_ok {v1 : Int} {v3 : Int} : ∀ (n : Nat) (v4 : Int) (S : St) (d2 d5 : Option Value) (out : St), g137L231 v1 v3 n v4 S = some out → ∀ r, (∀ (e2 e4 e5 : Option Value), Ru none 17 368 137 (334, [some (.ref 36), some (vI v1), e2, some (vI v3), e4, e5], [], out.ns, Hp out) r) → Ru none 17 368 137 (231, [some (.ref 36), some (vI v1), d2, some (vI v3), some (vI v4), d5], [], S.ns, Hp S) r := by
  intro n
  induction n with
  | zero => intro v4 S d2 d5 out h; cases h
  | succ n ih =>
    intro v4 S d2 d5 out h r hk
    unfold g137L231 at h
    refine Ru.op (q := (.iload 4, 2)) (by decide +kernel) rfl ?_
    refine Ru.op (q := (.aload_n 0, 1)) (by decide +kernel) rfl ?_
    refine Ru.get (i := 27) (v := .ref 41) (by decide +kernel) (by rfl) (hp36 _) (by decide) rfl ?_
    refine Ru.op (q := (.iload_n 1, 1)) (by decide +kernel) rfl ?_
    obtain ⟨g70, h⟩ := gd_some h
    refine Ru.ildI (i := v1) (z := (S.A 41 v1)) (by decide +kernel) (hp41 _) g70 (eI_of _) ?_
    refine Ru.op (q := (.aload_n 0, 1)) (by decide +kernel) rfl ?_
    refine Ru.get (i := 27) (v := .ref 41) (by decide +kernel) (by rfl) (hp36 _) (by decide) rfl ?_
    refine Ru.op (q := (.iload_n 3, 1)) (by decide +kernel) rfl ?_
    obtain ⟨g71, h⟩ := gd_some h
    refine Ru.ildI (i := v3) (z := (S.A 41 v3)) (by decide +kernel) (hp41 _) g71 (eI_of _) ?_
    refine Ru.ar2 (i := .imul) (z := ((S.A 41 v1) * (S.A 41 v3))) (by decide +kernel) rfl (ar_mul _ _) ?_
    obtain ⟨g72, h⟩ := gd_some h
    obtain ⟨g73, h⟩ := gd_some h
    by_cases b74 : v4 < ((S.A 41 v1) * (S.A 41 v3))
    · replace h := if_t b74 h
      refine Ru.br2 (k := .ge) (off := 88) (bb := false) (tg := 249) (by decide +kernel) (by decide +kernel) (ci_ge0 g72 g73 b74) rfl ?_
      refine Ru.op (q := (.aload_n 0, 1)) (by decide +kernel) rfl ?_
      refine Ru.get (i := 33) (v := .ref 43) (by decide +kernel) (by rfl) (hp36 _) (by decide) rfl ?_
      refine Ru.op (q := (.iload_n 3, 1)) (by decide +kernel) rfl ?_
      obtain ⟨g75, h⟩ := gd_some h
      refine Ru.ildI (i := v3) (z := (S.A 43 v3)) (by decide +kernel) (hp43 _) g75 (eI_of _) ?_
      refine Ru.kI (q := (.iconst 1, 1)) (c := 1) (by decide +kernel) rfl (by decide) ?_
      by_cases b76 : (S.A 43 v3) = 1
      · replace h := if_t b76 h
        refine Ru.br2 (k := .ne) (off := 78) (bb := false) (tg := 259) (by decide +kernel) (by decide +kernel) (ci_ne0 (inR_to _) (by decide) b76) rfl ?_
        refine Ru.op (q := (.aload_n 0, 1)) (by decide +kernel) rfl ?_
        obtain ⟨o77, e78, h⟩ := ob_some h
        refine Ru.vcall (i := 330) (j2 := 139) (as := []) (by decide +kernel) (by rfl) rfl rfl (hp36 _) (by decide) ⟨(Nat.le_of_ble_eq_true rfl), (by show 19 + 1 ≤ 368; exact Nat.le_of_ble_eq_true rfl), Nat.le_of_ble_eq_true rfl, Nat.le_of_ble_eq_true rfl⟩ ((g139_ok e78).up (Nat.le_of_ble_eq_true rfl) (Nat.le_of_ble_eq_true rfl)) ?_
        obtain ⟨g79, h⟩ := gd_some h
        by_cases b80 : o77 = 0
        · replace h := if_t b80 h
          refine Ru.br (k := .ne) (off := 71) (bb := false) (tg := 266) (by decide +kernel) (by decide +kernel) (cz (ci_ne0 g79 (by decide) b80)) rfl ?_
          refine Ru.op (q := (.aload_n 0, 1)) (by decide +kernel) rfl ?_
          refine Ru.op (q := (.iload_n 1, 1)) (by decide +kernel) rfl ?_
          refine Ru.op (q := (.iload 4, 2)) (by decide +kernel) rfl ?_
          refine Ru.op (q := (.aload_n 0, 1)) (by decide +kernel) rfl ?_
          refine Ru.get (i := 27) (v := .ref 41) (by decide +kernel) (by rfl) (hp36 _) (by decide) rfl ?_
          refine Ru.op (q := (.iload_n 3, 1)) (by decide +kernel) rfl ?_
          refine Ru.ildI (i := v3) (z := (S.A 41 v3)) (by decide +kernel) (hp41 _) g71 (eI_of _) ?_
          obtain ⟨g81, h⟩ := gd_some h
          refine Ru.ar2 (i := .idiv) (z := (v4 / (S.A 41 v3))) (by decide +kernel) rfl (ar_div g81) ?_
          refine Ru.op (q := (.iload_n 3, 1)) (by decide +kernel) rfl ?_
          refine Ru.op (q := (.iload 4, 2)) (by decide +kernel) rfl ?_
          refine Ru.op (q := (.aload_n 0, 1)) (by decide +kernel) rfl ?_
          refine Ru.get (i := 27) (v := .ref 41) (by decide +kernel) (by rfl) (hp36 _) (by decide) rfl ?_
          refine Ru.op (q := (.iload_n 3, 1)) (by decide +kernel) rfl ?_
          refine Ru.ildI (i := v3) (z := (S.A 41 v3)) (by decide +kernel) (hp41 _) g71 (eI_of _) ?_
          refine Ru.ar2 (i := .irem) (z := (v4 % (S.A 41 v3))) (by decide +kernel) rfl (ar_rem g81) ?_
          obtain ⟨o82, e83, h⟩ := ob_some h
          refine Ru.vcall (i := 337) (j2 := 146) (as := [vI v1, vI (v4 / (S.A 41 v3)), vI v3, vI (v4 % (S.A 41 v3))]) (by decide +kernel) (by rfl) rfl rfl (hp36 _) (by decide) ⟨(Nat.le_of_ble_eq_true rfl), (by show 19 + 5 ≤ 368; exact Nat.le_of_ble_eq_true rfl), Nat.le_of_ble_eq_true rfl, Nat.le_of_ble_eq_true rfl⟩ ((g146_ok e83).up (Nat.le_of_ble_eq_true rfl) (Nat.le_of_ble_eq_true rfl)) ?_
          obtain ⟨g84, h⟩ := gd_some h
          by_cases b85 : o82.1 = 0
          · replace h := if_t b85 h
            refine Ru.br (k := .eq) (off := 35) (bb := true) (tg := 325) (by decide +kernel) (by decide +kernel) (cz (ci_eq1 g84 (by decide) b85)) rfl ?_
            refine Ru.kI (q := (.iconst 0, 1)) (c := 0) (by decide +kernel) rfl (by decide) ?_
            refine Ru.op (q := (.istore 5, 2)) (S' := (328, [some (.ref 36), some (vI v1), d2, some (vI v3), some (vI v4), some (vI 0)], [], _, _)) (by decide +kernel) rfl ?_
            refine Ru.inc (x := v4) (z := (v4 + 1)) (xs' := [some (.ref 36), some (vI v1), d2, some (vI v3), some (vI (v4 + 1)), some (vI 0)]) (by decide +kernel) rfl rfl rfl ?_
            refine Ru.op (q := (.goto (-100), 3)) (by decide +kernel) rfl ?_
            exact ih _ _ _ _ _ h r hk
          · replace h := if_f b85 h
            refine Ru.br (k := .eq) (off := 35) (bb := false) (tg := 293) (by decide +kernel) (by decide +kernel) (cz (ci_eq0 g84 (by decide) b85)) rfl ?_
            refine Ru.op (q := (.aload_n 0, 1)) (by decide +kernel) rfl ?_
            refine Ru.kI (q := (.iconst 2, 1)) (c := 2) (by decide +kernel) rfl (by decide) ?_
            refine Ru.op (q := (.iload_n 1, 1)) (by decide +kernel) rfl ?_
            refine Ru.op (q := (.iload 4, 2)) (by decide +kernel) rfl ?_
            refine Ru.op (q := (.aload_n 0, 1)) (by decide +kernel) rfl ?_
            refine Ru.get (i := 27) (v := .ref 41) (by decide +kernel) (by rfl) (hp36 _) (by decide) rfl ?_
            refine Ru.op (q := (.iload_n 3, 1)) (by decide +kernel) rfl ?_
            refine Ru.ildI (i := v3) (z := (o82.2.A 41 v3)) (by decide +kernel) (hp41 _) g71 (eI_of _) ?_
            obtain ⟨g86, h⟩ := gd_some h
            refine Ru.ar2 (i := .idiv) (z := (v4 / (o82.2.A 41 v3))) (by decide +kernel) rfl (ar_div g86) ?_
            refine Ru.op (q := (.iload_n 3, 1)) (by decide +kernel) rfl ?_
            refine Ru.op (q := (.iload 4, 2)) (by decide +kernel) rfl ?_
            refine Ru.op (q := (.aload_n 0, 1)) (by decide +kernel) rfl ?_
            refine Ru.get (i := 27) (v := .ref 41) (by decide +kernel) (by rfl) (hp36 _) (by decide) rfl ?_
            refine Ru.op (q := (.iload_n 3, 1)) (by decide +kernel) rfl ?_
            refine Ru.ildI (i := v3) (z := (o82.2.A 41 v3)) (by decide +kernel) (hp41 _) g71 (eI_of _) ?_
            refine Ru.ar2 (i := .irem) (z := (v4 % (o82.2.A 41 v3))) (by decide +kernel) rfl (ar_rem g86) ?_
            obtain ⟨o87, e88, h⟩ := ob_some h
            refine Ru.vcall (i := 301) (j2 := 118) (as := [vI 2, vI v1, vI (v4 / (o82.2.A 41 v3)), vI v3, vI (v4 % (o82.2.A 41 v3))]) (by decide +kernel) (by rfl) rfl rfl (hp36 _) (by decide) ⟨(Nat.le_of_ble_eq_true rfl), (by show 19 + 6 ≤ 368; exact Nat.le_of_ble_eq_true rfl), Nat.le_of_ble_eq_true rfl, Nat.le_of_ble_eq_true rfl⟩ ((g118_ok e88).up (Nat.le_of_ble_eq_true rfl) (Nat.le_of_ble_eq_true rfl)) ?_
            obtain ⟨g89, h⟩ := gd_some h
            by_cases b90 : o87.1 = 0
            · replace h := if_t b90 h
              refine Ru.br (k := .eq) (off := 7) (bb := true) (tg := 325) (by decide +kernel) (by decide +kernel) (cz (ci_eq1 g89 (by decide) b90)) rfl ?_
              refine Ru.kI (q := (.iconst 0, 1)) (c := 0) (by decide +kernel) rfl (by decide) ?_
              refine Ru.op (q := (.istore 5, 2)) (S' := (328, [some (.ref 36), some (vI v1), d2, some (vI v3), some (vI v4), some (vI 0)], [], _, _)) (by decide +kernel) rfl ?_
              refine Ru.inc (x := v4) (z := (v4 + 1)) (xs' := [some (.ref 36), some (vI v1), d2, some (vI v3), some (vI (v4 + 1)), some (vI 0)]) (by decide +kernel) rfl rfl rfl ?_
              refine Ru.op (q := (.goto (-100), 3)) (by decide +kernel) rfl ?_
              exact ih _ _ _ _ _ h r hk
            · replace h := if_f b90 h
              refine Ru.br (k := .eq) (off := 7) (bb := false) (tg := 321) (by decide +kernel) (by decide +kernel) (cz (ci_eq0 g89 (by decide) b90)) rfl ?_
              refine Ru.kI (q := (.iconst 1, 1)) (c := 1) (by decide +kernel) rfl (by decide) ?_
              refine Ru.op (q := (.goto 4, 3)) (by decide +kernel) rfl ?_
              refine Ru.op (q := (.istore 5, 2)) (S' := (328, [some (.ref 36), some (vI v1), d2, some (vI v3), some (vI v4), some (vI 1)], [], _, _)) (by decide +kernel) rfl ?_
              refine Ru.inc (x := v4) (z := (v4 + 1)) (xs' := [some (.ref 36), some (vI v1), d2, some (vI v3), some (vI (v4 + 1)), some (vI 1)]) (by decide +kernel) rfl rfl rfl ?_
              refine Ru.op (q := (.goto (-100), 3)) (by decide +kernel) rfl ?_
              exact ih _ _ _ _ _ h r hk
        · replace h := if_f b80 h
          refine Ru.br (k := .ne) (off := 71) (bb := true) (tg := 334) (by decide +kernel) (by decide +kernel) (cz (ci_ne1 g79 (by decide) b80)) rfl ?_
          cases h
          exact hk _ _ _
      · replace h := if_f b76 h
        refine Ru.br2 (k := .ne) (off := 78) (bb := true) (tg := 334) (by decide +kernel) (by decide +kernel) (ci_ne1 (inR_to _) (by decide) b76) rfl ?_
        cases h
        exact hk _ _ _
    · replace h := if_f b74 h
      refine Ru.br2 (k := .ge) (off := 88) (bb := true) (tg := 334) (by decide +kernel) (by decide +kernel) (ci_ge1 g72 g73 b74) rfl ?_
      cases h
      exact hk _ _ _
def g137L213 (v1 : Int) : Nat → Int → St → Option (St)
  | 0, _, _ => none
  | n + 1, v3, S => gd (inR v3) (if v3 < (S.F 36 9) then ob (g139 S) (fun o66 => gd (inR o66) (if o66 = 0 then ob (g137L231 v1 v3 FU 0 S) (fun o91 => g137L213 v1 n (v3 + 1) o91) else some S)) else some S)
set_option maxRecDepth 100000 in
set_option maxHeartbeats 4000000 in
theorem g137L213_ok {v1 : Int} : ∀ (n : Nat) (v3 : Int) (S : St) (d2 d4 d5 : Option Value) (out : St), g137L213 v1 n v3 S = some out → ∀ r, (∀ (e0 e2 e3 e4 e5 : Option Value), Ru none 17 368 137 (340, [e0, some (vI v1), e2, e3, e4, e5], [], out.ns, Hp out) r) → Ru none 17 368 137 (213, [some (.ref 36), some (vI v1), d2, some (vI v3), d4, d5], [], S.ns, Hp S) r := by
  intro n
  induction n with
  | zero => intro v3 S d2 d4 d5 out h; cases h
  | succ n ih =>
    intro v3 S d2 d4 d5 out h r hk
    unfold g137L213 at h
    refine Ru.op (q := (.iload_n 3, 1)) (by decide +kernel) rfl ?_
    refine Ru.op (q := (.aload_n 0, 1)) (by decide +kernel) rfl ?_
    refine Ru.getI (i := 263) (x := (S.F 36 9)) (by decide +kernel) (by rfl) (hp36 _) (by decide) rfl (eI_of _) ?_
    obtain ⟨g64, h⟩ := gd_some h
    by_cases b65 : v3 < (S.F 36 9)
    · replace h := if_t b65 h
      refine Ru.br2 (k := .ge) (off := 122) (bb := false) (tg := 221) (by decide +kernel) (by decide +kernel) (ci_ge0 g64 (inR_to _) b65) rfl ?_
      refine Ru.op (q := (.aload_n 0, 1)) (by decide +kernel) rfl ?_
      obtain ⟨o66, e67, h⟩ := ob_some h
      refine Ru.vcall (i := 330) (j2 := 139) (as := []) (by decide +kernel) (by rfl) rfl rfl (hp36 _) (by decide) ⟨(Nat.le_of_ble_eq_true rfl), (by show 19 + 1 ≤ 368; exact Nat.le_of_ble_eq_true rfl), Nat.le_of_ble_eq_true rfl, Nat.le_of_ble_eq_true rfl⟩ ((g139_ok e67).up (Nat.le_of_ble_eq_true rfl) (Nat.le_of_ble_eq_true rfl)) ?_
      obtain ⟨g68, h⟩ := gd_some h
      by_cases b69 : o66 = 0
      · replace h := if_t b69 h
        refine Ru.br (k := .ne) (off := 115) (bb := false) (tg := 228) (by decide +kernel) (by decide +kernel) (cz (ci_ne0 g68 (by decide) b69)) rfl ?_
        refine Ru.kI (q := (.iconst 0, 1)) (c := 0) (by decide +kernel) rfl (by decide) ?_
        refine Ru.op (q := (.istore 4, 2)) (S' := (231, [some (.ref 36), some (vI v1), d2, some (vI v3), some (vI 0), d5], [], _, _)) (by decide +kernel) rfl ?_
        obtain ⟨o91, e95, h⟩ := ob_some h
        refine g137L231_ok FU _ _ _ _ _ e95 _ ?_
        intro d92 d93 d94
        refine Ru.inc (x := v3) (z := (v3 + 1)) (xs' := [some (.ref 36), some (vI v1), d92, some (vI (v3 + 1)), d93, d94]) (by decide +kernel) rfl rfl rfl ?_
        refine Ru.op (q := (.goto (-124), 3)) (by decide +kernel) rfl ?_
        exact ih _ _ _ _ _ _ h r hk
      · replace h := if_f b69 h
        refine Ru.br (k := .ne) (off := 115) (bb := true) (tg := 340) (by decide +kernel) (by decide +kernel) (cz (ci_ne1 g68 (by decide) b69)) rfl ?_
        cases h
        exact hk _ _ _ _ _
    · replace h := if_f b65 h
      refine Ru.br2 (k := .ge) (off := 122) (bb := true) (tg := 340) (by decide +kernel) (by decide +kernel) (ci_ge1 g64 (inR_to _) b65) rfl ?_
      cases h
      exact hk _ _ _ _ _
def g137 (S : St) : Option (Int × St) := ob (g138 S) (fun o1 => ob (g137L19 o1 FU 0 0 (S.f 36 16 ((S.F 36 16) + 1))) (fun o13 => gd (inR o13.1) (if o13.1 = 0 then ob (g137L77 o1 FU 0 o13.2) (fun o28 => gd (ixR o1 100) (ob (g137L135 o1 FU 0 (o28.a 43 o1 1)) (fun o58 => ob (g137L213 o1 FU 0 o58) (fun o96 => some (o1, o96))))) else gd (ixR o1 100) (some (o1, (o13.2.a 43 o1 2))))))
set_option maxRecDepth 100000 in
set_option maxHeartbeats 4000000 in
theorem g137_ok {S : St} {o : Int × St} (h : g137 S  = some o) : Ru none 17 368 137 (0, mn_pad (mn_ent [.ref 36]) 6, [], S.ns, Hp S) ((0, some (vI o.1)), o.2.ns, Hp o.2) := by
  unfold g137 at h
  show Ru none 17 368 137 (0, [some (.ref 36), none, none, none, none, none], [], S.ns, Hp S) _
  refine Ru.op (q := (.aload_n 0, 1)) (by decide +kernel) rfl ?_
  obtain ⟨o1, e2, h⟩ := ob_some h
  refine Ru.vcall (i := 327) (j2 := 138) (as := []) (by decide +kernel) (by rfl) rfl rfl (hp36 _) (by decide) ⟨(Nat.le_of_ble_eq_true rfl), (by show 19 + 5 ≤ 368; exact Nat.le_of_ble_eq_true rfl), Nat.le_of_ble_eq_true rfl, Nat.le_of_ble_eq_true rfl⟩ ((g138_ok e2).up (Nat.le_of_ble_eq_true rfl) (Nat.le_of_ble_eq_true rfl)) ?_
  refine Ru.op (q := (.istore_n 1, 1)) (S' := (5, [some (.ref 36), some (vI o1), none, none, none, none], [], _, _)) (by decide +kernel) rfl ?_
  refine Ru.op (q := (.aload_n 0, 1)) (by decide +kernel) rfl ?_
  refine Ru.op (q := (.dup, 1)) (by decide +kernel) rfl ?_
  refine Ru.getI (i := 324) (x := (S.F 36 16)) (by decide +kernel) (by rfl) (hp36 _) (by decide) rfl (eI_of _) ?_
  refine Ru.kI (q := (.iconst 1, 1)) (c := 1) (by decide +kernel) rfl (by decide) ?_
  refine Ru.ar2 (i := .iadd) (z := ((S.F 36 16) + 1)) (by decide +kernel) rfl (ar_add _ _) ?_
  refine Ru.putH (i := 324) (by decide +kernel) (by rfl) (hp36 _) (by decide) (Nat.le_of_ble_eq_true rfl) rfl (by decide +kernel) (pf_36_16 _ _) ?_
  refine Ru.kI (q := (.iconst 0, 1)) (c := 0) (by decide +kernel) rfl (by decide) ?_
  refine Ru.op (q := (.istore_n 2, 1)) (S' := (17, [some (.ref 36), some (vI o1), some (vI 0), none, none, none], [], _, _)) (by decide +kernel) rfl ?_
  refine Ru.kI (q := (.iconst 0, 1)) (c := 0) (by decide +kernel) rfl (by decide) ?_
  refine Ru.op (q := (.istore_n 3, 1)) (S' := (19, [some (.ref 36), some (vI o1), some (vI 0), some (vI 0), none, none], [], _, _)) (by decide +kernel) rfl ?_
  obtain ⟨o13, e17, h⟩ := ob_some h
  refine g137L19_ok FU _ _ _ _ _ _ e17 _ ?_
  intro d14 d15 d16
  refine Ru.op (q := (.iload_n 2, 1)) (by decide +kernel) rfl ?_
  obtain ⟨g18, h⟩ := gd_some h
  by_cases b19 : o13.1 = 0
  · replace h := if_t b19 h
    refine Ru.br (k := .eq) (off := 12) (bb := true) (tg := 75) (by decide +kernel) (by decide +kernel) (cz (ci_eq1 g18 (by decide) b19)) rfl ?_
    refine Ru.kI (q := (.iconst 0, 1)) (c := 0) (by decide +kernel) rfl (by decide) ?_
    refine Ru.op (q := (.istore_n 3, 1)) (S' := (77, [some (.ref 36), some (vI o1), some (vI o13.1), some (vI 0), d15, d16], [], _, _)) (by decide +kernel) rfl ?_
    obtain ⟨o28, e33, h⟩ := ob_some h
    refine g137L77_ok FU _ _ _ _ _ _ e33 _ ?_
    intro d29 d30 d31 d32
    refine Ru.op (q := (.aload_n 0, 1)) (by decide +kernel) rfl ?_
    refine Ru.get (i := 33) (v := .ref 43) (by decide +kernel) (by rfl) (hp36 _) (by decide) rfl ?_
    refine Ru.op (q := (.iload_n 1, 1)) (by decide +kernel) rfl ?_
    refine Ru.kI (q := (.iconst 1, 1)) (c := 1) (by decide +kernel) rfl (by decide) ?_
    obtain ⟨g34, h⟩ := gd_some h
    refine Ru.istI (i := o1) (x := 1) (by decide +kernel) (hp43 _) g34 (ps_43 _ _ _) ?_
    refine Ru.kI (q := (.iconst 0, 1)) (c := 0) (by decide +kernel) rfl (by decide) ?_
    refine Ru.op (q := (.istore_n 3, 1)) (S' := (135, [some (.ref 36), some (vI o1), d29, some (vI 0), d31, d32], [], _, _)) (by decide +kernel) rfl ?_
    obtain ⟨o58, e63, h⟩ := ob_some h
    refine g137L135_ok FU _ _ _ _ _ _ e63 _ ?_
    intro d59 d60 d61 d62
    refine Ru.kI (q := (.iconst 0, 1)) (c := 0) (by decide +kernel) rfl (by decide) ?_
    refine Ru.op (q := (.istore_n 3, 1)) (S' := (213, [some (.ref 36), some (vI o1), d59, some (vI 0), d61, d62], [], _, _)) (by decide +kernel) rfl ?_
    obtain ⟨o96, e102, h⟩ := ob_some h
    refine g137L213_ok FU _ _ _ _ _ _ e102 _ ?_
    intro d97 d98 d99 d100 d101
    refine Ru.op (q := (.iload_n 1, 1)) (by decide +kernel) rfl ?_
    cases h
    exact Ru.iret (by decide +kernel) rfl rfl
  · replace h := if_f b19 h
    refine Ru.br (k := .eq) (off := 12) (bb := false) (tg := 66) (by decide +kernel) (by decide +kernel) (cz (ci_eq0 g18 (by decide) b19)) rfl ?_
    refine Ru.op (q := (.aload_n 0, 1)) (by decide +kernel) rfl ?_
    refine Ru.get (i := 33) (v := .ref 43) (by decide +kernel) (by rfl) (hp36 _) (by decide) rfl ?_
    refine Ru.op (q := (.iload_n 1, 1)) (by decide +kernel) rfl ?_
    refine Ru.kI (q := (.iconst 2, 1)) (c := 2) (by decide +kernel) rfl (by decide) ?_
    obtain ⟨g103, h⟩ := gd_some h
    refine Ru.istI (i := o1) (x := 2) (by decide +kernel) (hp43 _) g103 (ps_43 _ _ _) ?_
    refine Ru.op (q := (.iload_n 1, 1)) (by decide +kernel) rfl ?_
    cases h
    exact Ru.iret (by decide +kernel) rfl rfl
def g136 (S : St) : Option (Int × St) := ob (g134 S) (fun o1 => gd (inR o1) (if o1 = 0 then ob (g137 (S.f 36 0 0)) (fun o5 => some (o5.1, o5.2)) else some (0, (S.f 36 0 1))))
set_option maxRecDepth 100000 in
set_option maxHeartbeats 4000000 in
theorem g136_ok {S : St} {o : Int × St} (h : g136 S  = some o) : Ru none 18 393 136 (0, mn_pad (mn_ent [.ref 36]) 1, [], S.ns, Hp S) ((0, some (vI o.1)), o.2.ns, Hp o.2) := by
  unfold g136 at h
  show Ru none 18 393 136 (0, [some (.ref 36)], [], S.ns, Hp S) _
  refine Ru.op (q := (.aload_n 0, 1)) (by decide +kernel) rfl ?_
  refine Ru.op (q := (.aload_n 0, 1)) (by decide +kernel) rfl ?_
  obtain ⟨o1, e2, h⟩ := ob_some h
  refine Ru.vcall (i := 308) (j2 := 134) (as := []) (by decide +kernel) (by rfl) rfl rfl (hp36 _) (by decide) ⟨(Nat.le_of_ble_eq_true rfl), (by show 19 + 1 ≤ 393; exact Nat.le_of_ble_eq_true rfl), Nat.le_of_ble_eq_true rfl, Nat.le_of_ble_eq_true rfl⟩ ((g134_ok e2).up (Nat.le_of_ble_eq_true rfl) (Nat.le_of_ble_eq_true rfl)) ?_
  obtain ⟨g3, h⟩ := gd_some h
  by_cases b4 : o1 = 0
  · replace h := if_t b4 h
    refine Ru.br (k := .ne) (off := 7) (bb := false) (tg := 8) (by decide +kernel) (by decide +kernel) (cz (ci_ne0 g3 (by decide) b4)) rfl ?_
    refine Ru.kI (q := (.iconst 0, 1)) (c := 0) (by decide +kernel) rfl (by decide) ?_
    refine Ru.op (q := (.goto 4, 3)) (by decide +kernel) rfl ?_
    refine Ru.putH (i := 120) (by decide +kernel) (by rfl) (hp36 _) (by decide) (Nat.le_of_ble_eq_true rfl) rfl (by decide +kernel) (pf_36_0 _ _) ?_
    refine Ru.op (q := (.aload_n 0, 1)) (by decide +kernel) rfl ?_
    refine Ru.getI (i := 120) (x := 0) (by decide +kernel) (by rfl) (hp36 _) (by decide) rfl rfl ?_
    refine Ru.br (k := .ne) (off := 10) (bb := false) (tg := 23) (by decide +kernel) (by decide +kernel) (by decide) rfl ?_
    refine Ru.op (q := (.aload_n 0, 1)) (by decide +kernel) rfl ?_
    obtain ⟨o5, e6, h⟩ := ob_some h
    refine Ru.vcall (i := 341) (j2 := 137) (as := []) (by decide +kernel) (by rfl) rfl rfl (hp36 _) (by decide) ⟨(Nat.le_of_ble_eq_true rfl), (by show 19 + 6 ≤ 393; exact Nat.le_of_ble_eq_true rfl), Nat.le_of_ble_eq_true rfl, Nat.le_of_ble_eq_true rfl⟩ ((g137_ok e6).up (Nat.le_of_ble_eq_true rfl) (Nat.le_of_ble_eq_true rfl)) ?_
    refine Ru.op (q := (.goto 4, 3)) (by decide +kernel) rfl ?_
    cases h
    exact Ru.iret (by decide +kernel) rfl rfl
  · replace h := if_f b4 h
    refine Ru.br (k := .ne) (off := 7) (bb := true) (tg := 12) (by decide +kernel) (by decide +kernel) (cz (ci_ne1 g3 (by decide) b4)) rfl ?_
    refine Ru.kI (q := (.iconst 1, 1)) (c := 1) (by decide +kernel) rfl (by decide) ?_
    refine Ru.putH (i := 120) (by decide +kernel) (by rfl) (hp36 _) (by decide) (Nat.le_of_ble_eq_true rfl) rfl (by decide +kernel) (pf_36_0 _ _) ?_
    refine Ru.op (q := (.aload_n 0, 1)) (by decide +kernel) rfl ?_
    refine Ru.getI (i := 120) (x := 1) (by decide +kernel) (by rfl) (hp36 _) (by decide) rfl rfl ?_
    refine Ru.br (k := .ne) (off := 10) (bb := true) (tg := 30) (by decide +kernel) (by decide +kernel) (by decide) rfl ?_
    refine Ru.kI (q := (.iconst 0, 1)) (c := 0) (by decide +kernel) rfl (by decide) ?_
    cases h
    exact Ru.iret (by decide +kernel) rfl rfl
