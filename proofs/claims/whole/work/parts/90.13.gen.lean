def g101L10  : Nat → Int → Int → Int → Int → St → Option (Int × St)
  | 0, _, _, _, _, _ => none
  | n + 1, v2, v3, v4, v5, S => gd (inR v5) (if v5 = 0 then some (v4, S) else if (S.F 36 28) = 0 then ob (g102 S) (fun o4 => gd (inR o4) (if o4 < 65 then ob (g115 S o4) (fun o8 => gd (inR o8) (if o8 = 0 then g101L10 n v2 v3 v4 v5 (S.f 36 28 1) else gd (inR v3) (if v3 < 10 then gd (ixR v3 10) (gd (b1R v2) (if o4 = 33 then gd (inR v2) (if 1 = v2 then ob (g116 ((((S.f 36 27 ((S.F 36 27) + 1)).a 54 v3 o4).a 55 v3 v2).a 56 v3 0) 0) (fun o19 => if o4 = 126 then if v2 = 0 then g101L10 n 1 (v3 + 1) v4 v5 o19 else g101L10 n 0 (v3 + 1) v4 v5 o19 else if o4 = 62 then if v2 = 1 then g101L10 n 0 (v3 + 1) v4 v5 o19 else g101L10 n 1 (v3 + 1) v4 v5 o19 else if v2 = 0 then g101L10 n 0 (v3 + 1) v4 v5 o19 else g101L10 n 1 (v3 + 1) v4 v5 o19) else ob (g116 ((((S.f 36 27 ((S.F 36 27) + 1)).a 54 v3 o4).a 55 v3 v2).a 56 v3 0) 1) (fun o26 => if o4 = 126 then if v2 = 0 then g101L10 n 1 (v3 + 1) v4 v5 o26 else g101L10 n 0 (v3 + 1) v4 v5 o26 else if o4 = 62 then if v2 = 1 then g101L10 n 0 (v3 + 1) v4 v5 o26 else g101L10 n 1 (v3 + 1) v4 v5 o26 else if v2 = 0 then g101L10 n 0 (v3 + 1) v4 v5 o26 else g101L10 n 1 (v3 + 1) v4 v5 o26)) else if o4 = 63 then gd (inR v2) (if 0 = v2 then ob (g116 ((((S.f 36 27 ((S.F 36 27) + 1)).a 54 v3 o4).a 55 v3 v2).a 56 v3 0) 0) (fun o36 => if o4 = 126 then if v2 = 0 then g101L10 n 1 (v3 + 1) v4 v5 o36 else g101L10 n 0 (v3 + 1) v4 v5 o36 else if o4 = 62 then if v2 = 1 then g101L10 n 0 (v3 + 1) v4 v5 o36 else g101L10 n 1 (v3 + 1) v4 v5 o36 else if v2 = 0 then g101L10 n 0 (v3 + 1) v4 v5 o36 else g101L10 n 1 (v3 + 1) v4 v5 o36) else ob (g116 ((((S.f 36 27 ((S.F 36 27) + 1)).a 54 v3 o4).a 55 v3 v2).a 56 v3 0) 1) (fun o43 => if o4 = 126 then if v2 = 0 then g101L10 n 1 (v3 + 1) v4 v5 o43 else g101L10 n 0 (v3 + 1) v4 v5 o43 else if o4 = 62 then if v2 = 1 then g101L10 n 0 (v3 + 1) v4 v5 o43 else g101L10 n 1 (v3 + 1) v4 v5 o43 else if v2 = 0 then g101L10 n 0 (v3 + 1) v4 v5 o43 else g101L10 n 1 (v3 + 1) v4 v5 o43)) else if o4 = 126 then gd (inR v2) (if v2 = 0 then g101L10 n 1 (v3 + 1) v4 v5 ((((S.f 36 27 ((S.F 36 27) + 1)).a 54 v3 o4).a 55 v3 v2).a 56 v3 0) else g101L10 n 0 (v3 + 1) v4 v5 ((((S.f 36 27 ((S.F 36 27) + 1)).a 54 v3 o4).a 55 v3 v2).a 56 v3 0)) else if o4 = 62 then gd (inR v2) (if v2 = 1 then g101L10 n 0 (v3 + 1) v4 v5 ((((S.f 36 27 ((S.F 36 27) + 1)).a 54 v3 o4).a 55 v3 v2).a 56 v3 0) else g101L10 n 1 (v3 + 1) v4 v5 ((((S.f 36 27 ((S.F 36 27) + 1)).a 54 v3 o4).a 55 v3 v2).a 56 v3 0)) else gd (inR v2) (if v2 = 0 then g101L10 n 0 (v3 + 1) v4 v5 ((((S.f 36 27 ((S.F 36 27) + 1)).a 54 v3 o4).a 55 v3 v2).a 56 v3 0) else g101L10 n 1 (v3 + 1) v4 v5 ((((S.f 36 27 ((S.F 36 27) + 1)).a 54 v3 o4).a 55 v3 v2).a 56 v3 0)))) else g101L10 n v2 v3 v4 v5 (S.f 36 28 1)))) else if 90 < o4 then ob (g115 S o4) (fun o59 => gd (inR o59) (if o59 = 0 then g101L10 n v2 v3 v4 v5 (S.f 36 28 1) else gd (inR v3) (if v3 < 10 then gd (ixR v3 10) (gd (b1R v2) (if o4 = 33 then gd (inR v2) (if 1 = v2 then ob (g116 ((((S.f 36 27 ((S.F 36 27) + 1)).a 54 v3 o4).a 55 v3 v2).a 56 v3 0) 0) (fun o70 => if o4 = 126 then if v2 = 0 then g101L10 n 1 (v3 + 1) v4 v5 o70 else g101L10 n 0 (v3 + 1) v4 v5 o70 else if o4 = 62 then if v2 = 1 then g101L10 n 0 (v3 + 1) v4 v5 o70 else g101L10 n 1 (v3 + 1) v4 v5 o70 else if v2 = 0 then g101L10 n 0 (v3 + 1) v4 v5 o70 else g101L10 n 1 (v3 + 1) v4 v5 o70) else ob (g116 ((((S.f 36 27 ((S.F 36 27) + 1)).a 54 v3 o4).a 55 v3 v2).a 56 v3 0) 1) (fun o77 => if o4 = 126 then if v2 = 0 then g101L10 n 1 (v3 + 1) v4 v5 o77 else g101L10 n 0 (v3 + 1) v4 v5 o77 else if o4 = 62 then if v2 = 1 then g101L10 n 0 (v3 + 1) v4 v5 o77 else g101L10 n 1 (v3 + 1) v4 v5 o77 else if v2 = 0 then g101L10 n 0 (v3 + 1) v4 v5 o77 else g101L10 n 1 (v3 + 1) v4 v5 o77)) else if o4 = 63 then gd (inR v2) (if 0 = v2 then ob (g116 ((((S.f 36 27 ((S.F 36 27) + 1)).a 54 v3 o4).a 55 v3 v2).a 56 v3 0) 0) (fun o87 => if o4 = 126 then if v2 = 0 then g101L10 n 1 (v3 + 1) v4 v5 o87 else g101L10 n 0 (v3 + 1) v4 v5 o87 else if o4 = 62 then if v2 = 1 then g101L10 n 0 (v3 + 1) v4 v5 o87 else g101L10 n 1 (v3 + 1) v4 v5 o87 else if v2 = 0 then g101L10 n 0 (v3 + 1) v4 v5 o87 else g101L10 n 1 (v3 + 1) v4 v5 o87) else ob (g116 ((((S.f 36 27 ((S.F 36 27) + 1)).a 54 v3 o4).a 55 v3 v2).a 56 v3 0) 1) (fun o94 => if o4 = 126 then if v2 = 0 then g101L10 n 1 (v3 + 1) v4 v5 o94 else g101L10 n 0 (v3 + 1) v4 v5 o94 else if o4 = 62 then if v2 = 1 then g101L10 n 0 (v3 + 1) v4 v5 o94 else g101L10 n 1 (v3 + 1) v4 v5 o94 else if v2 = 0 then g101L10 n 0 (v3 + 1) v4 v5 o94 else g101L10 n 1 (v3 + 1) v4 v5 o94)) else if o4 = 126 then gd (inR v2) (if v2 = 0 then g101L10 n 1 (v3 + 1) v4 v5 ((((S.f 36 27 ((S.F 36 27) + 1)).a 54 v3 o4).a 55 v3 v2).a 56 v3 0) else g101L10 n 0 (v3 + 1) v4 v5 ((((S.f 36 27 ((S.F 36 27) + 1)).a 54 v3 o4).a 55 v3 v2).a 56 v3 0)) else if o4 = 62 then gd (inR v2) (if v2 = 1 then g101L10 n 0 (v3 + 1) v4 v5 ((((S.f 36 27 ((S.F 36 27) + 1)).a 54 v3 o4).a 55 v3 v2).a 56 v3 0) else g101L10 n 1 (v3 + 1) v4 v5 ((((S.f 36 27 ((S.F 36 27) + 1)).a 54 v3 o4).a 55 v3 v2).a 56 v3 0)) else gd (inR v2) (if v2 = 0 then g101L10 n 0 (v3 + 1) v4 v5 ((((S.f 36 27 ((S.F 36 27) + 1)).a 54 v3 o4).a 55 v3 v2).a 56 v3 0) else g101L10 n 1 (v3 + 1) v4 v5 ((((S.f 36 27 ((S.F 36 27) + 1)).a 54 v3 o4).a 55 v3 v2).a 56 v3 0)))) else g101L10 n v2 v3 v4 v5 (S.f 36 28 1)))) else ob (g103 S v2) (fun o109 => if (o109.F 36 36) = 0 then if (o109.F 36 28) = 0 then ob (g112 o109 ((o109.F 36 46) - 1)) (fun o113 => ob (g113 o113.2 v3 o113.1) (fun o115 => gd (inR o115.1) (if 0 < o115.1 then gd (ixR (o115.1 - 1) 10) (if (o115.2.A 55 (o115.1 - 1)) = 0 then g101L10 n 0 o115.1 (o115.2.F 36 42) 1 o115.2 else g101L10 n 1 o115.1 (o115.2.F 36 42) 1 o115.2) else g101L10 n 0 o115.1 (o115.2.F 36 42) 0 o115.2))) else ob (g113 o109 v3 0) (fun o121 => gd (inR o121.1) (if 0 < o121.1 then gd (ixR (o121.1 - 1) 10) (if (o121.2.A 55 (o121.1 - 1)) = 0 then g101L10 n 0 o121.1 (o121.2.F 36 42) 1 o121.2 else g101L10 n 1 o121.1 (o121.2.F 36 42) 1 o121.2) else g101L10 n 0 o121.1 (o121.2.F 36 42) 0 o121.2)) else ob (g113 o109 v3 0) (fun o127 => gd (inR o127.1) (if 0 < o127.1 then gd (ixR (o127.1 - 1) 10) (if (o127.2.A 55 (o127.1 - 1)) = 0 then g101L10 n 0 o127.1 (o127.2.F 36 42) 1 o127.2 else g101L10 n 1 o127.1 (o127.2.F 36 42) 1 o127.2) else g101L10 n 0 o127.1 (o127.2.F 36 42) 0 o127.2))))) else some (v4, S))
set_option maxRecDepth 100000 in
set_option maxHeartbeats 4000000 in
theorem g101L10_ok : ∀ (n : Nat) (v2 : Int) (v3 : Int) (v4 : Int) (v5 : Int) (S : St) (d1 d6 : Option Value) (out : Int × St), g101L10 n v2 v3 v4 v5 S = some out → ∀ r, (∀ (e0 e1 e2 e3 e5 e6 : Option Value), Ru none 17 353 101 (268, [e0, e1, e2, e3, some (vI out.1), e5, e6], [], out.2.ns, Hp out.2) r) → Ru none 17 353 101 (10, [some (.ref 36), d1, some (vI v2), some (vI v3), some (vI v4), some (vI v5), d6], [], S.ns, Hp S) r := by
  intro n
  induction n with
  | zero => intro v2 v3 v4 v5 S d1 d6 out h; cases h
  | succ n ih =>
    intro v2 v3 v4 v5 S d1 d6 out h r hk
    unfold g101L10 at h
    refine Ru.op (q := (.iload 5, 2)) (by decide +kernel) rfl ?_
    obtain ⟨g1, h⟩ := gd_some h
    by_cases b2 : v5 = 0
    · replace h := if_t b2 h
      refine Ru.br (k := .eq) (off := 256) (bb := true) (tg := 268) (by decide +kernel) (by decide +kernel) (cz (ci_eq1 g1 (by decide) b2)) rfl ?_
      cases h
      exact hk _ _ _ _ _ _
    · replace h := if_f b2 h
      refine Ru.br (k := .eq) (off := 256) (bb := false) (tg := 15) (by decide +kernel) (by decide +kernel) (cz (ci_eq0 g1 (by decide) b2)) rfl ?_
      refine Ru.op (q := (.aload_n 0, 1)) (by decide +kernel) rfl ?_
      refine Ru.getI (i := 151) (x := (S.F 36 28)) (by decide +kernel) (by rfl) (hp36 _) (by decide) rfl (eI_of _) ?_
      by_cases b3 : (S.F 36 28) = 0
      · replace h := if_t b3 h
        refine Ru.br (k := .ne) (off := 249) (bb := false) (tg := 22) (by decide +kernel) (by decide +kernel) (cz (ci_ne0 (inR_to _) (by decide) b3)) rfl ?_
        refine Ru.op (q := (.aload_n 0, 1)) (by decide +kernel) rfl ?_
        obtain ⟨o4, e5, h⟩ := ob_some h
        refine Ru.vcall (i := 143) (j2 := 102) (as := []) (by decide +kernel) (by rfl) rfl rfl (hp36 _) (by decide) ⟨(Nat.le_of_ble_eq_true rfl), (by show 19 + 1 ≤ 353; exact Nat.le_of_ble_eq_true rfl), Nat.le_of_ble_eq_true rfl, Nat.le_of_ble_eq_true rfl⟩ ((g102_ok e5).up (Nat.le_of_ble_eq_true rfl) (Nat.le_of_ble_eq_true rfl)) ?_
        refine Ru.op (q := (.istore 6, 2)) (S' := (28, [some (.ref 36), d1, some (vI v2), some (vI v3), some (vI v4), some (vI v5), some (vI o4)], [], _, _)) (by decide +kernel) rfl ?_
        refine Ru.op (q := (.iload 6, 2)) (by decide +kernel) rfl ?_
        refine Ru.kI (q := (.bipush 65, 2)) (c := 65) (by decide +kernel) rfl (by decide) ?_
        obtain ⟨g6, h⟩ := gd_some h
        by_cases b7 : o4 < 65
        · replace h := if_t b7 h
          refine Ru.br2 (k := .lt) (off := 95) (bb := true) (tg := 127) (by decide +kernel) (by decide +kernel) (ci_lt1 g6 (by decide) b7) rfl ?_
          refine Ru.op (q := (.aload_n 0, 1)) (by decide +kernel) rfl ?_
          refine Ru.op (q := (.iload 6, 2)) (by decide +kernel) rfl ?_
          obtain ⟨o8, e9, h⟩ := ob_some h
          refine Ru.vcall (i := 221) (j2 := 115) (as := [vI o4]) (by decide +kernel) (by rfl) rfl rfl (hp36 _) (by decide) ⟨(Nat.le_of_ble_eq_true rfl), (by show 19 + 2 ≤ 353; exact Nat.le_of_ble_eq_true rfl), Nat.le_of_ble_eq_true rfl, Nat.le_of_ble_eq_true rfl⟩ ((g115_ok e9).up (Nat.le_of_ble_eq_true rfl) (Nat.le_of_ble_eq_true rfl)) ?_
          obtain ⟨g10, h⟩ := gd_some h
          by_cases b11 : o8 = 0
          · replace h := if_t b11 h
            refine Ru.br (k := .eq) (off := 127) (bb := true) (tg := 260) (by decide +kernel) (by decide +kernel) (cz (ci_eq1 g10 (by decide) b11)) rfl ?_
            refine Ru.op (q := (.aload_n 0, 1)) (by decide +kernel) rfl ?_
            refine Ru.kI (q := (.iconst 1, 1)) (c := 1) (by decide +kernel) rfl (by decide) ?_
            refine Ru.putH (i := 151) (by decide +kernel) (by rfl) (hp36 _) (by decide) (Nat.le_of_ble_eq_true rfl) (fk_b (by decide)) (by decide +kernel) (pf_36_28 _ _) ?_
            refine Ru.op (q := (.goto (-255), 3)) (by decide +kernel) rfl ?_
            exact ih _ _ _ _ _ _ _ _ h r hk
          · replace h := if_f b11 h
            refine Ru.br (k := .eq) (off := 127) (bb := false) (tg := 136) (by decide +kernel) (by decide +kernel) (cz (ci_eq0 g10 (by decide) b11)) rfl ?_
            refine Ru.op (q := (.iload_n 3, 1)) (by decide +kernel) rfl ?_
            refine Ru.kI (q := (.bipush 10, 2)) (c := 10) (by decide +kernel) rfl (by decide) ?_
            obtain ⟨g12, h⟩ := gd_some h
            by_cases b13 : v3 < 10
            · replace h := if_t b13 h
              refine Ru.br2 (k := .ge) (off := 121) (bb := false) (tg := 142) (by decide +kernel) (by decide +kernel) (ci_ge0 g12 (by decide) b13) rfl ?_
              refine Ru.op (q := (.aload_n 0, 1)) (by decide +kernel) rfl ?_
              refine Ru.op (q := (.dup, 1)) (by decide +kernel) rfl ?_
              refine Ru.getI (i := 140) (x := (S.F 36 27)) (by decide +kernel) (by rfl) (hp36 _) (by decide) rfl (eI_of _) ?_
              refine Ru.kI (q := (.iconst 1, 1)) (c := 1) (by decide +kernel) rfl (by decide) ?_
              refine Ru.ar2 (i := .iadd) (z := ((S.F 36 27) + 1)) (by decide +kernel) rfl (ar_add _ _) ?_
              refine Ru.putH (i := 140) (by decide +kernel) (by rfl) (hp36 _) (by decide) (Nat.le_of_ble_eq_true rfl) rfl (by decide +kernel) (pf_36_27 _ _) ?_
              refine Ru.op (q := (.aload_n 0, 1)) (by decide +kernel) rfl ?_
              refine Ru.get (i := 69) (v := .ref 54) (by decide +kernel) (by rfl) (hp36 _) (by decide) rfl ?_
              refine Ru.op (q := (.iload_n 3, 1)) (by decide +kernel) rfl ?_
              refine Ru.op (q := (.iload 6, 2)) (by decide +kernel) rfl ?_
              obtain ⟨g14, h⟩ := gd_some h
              refine Ru.istI (i := v3) (x := o4) (by decide +kernel) (hp54 _) g14 (ps_54 _ _ _) ?_
              refine Ru.op (q := (.aload_n 0, 1)) (by decide +kernel) rfl ?_
              refine Ru.get (i := 72) (v := .ref 55) (by decide +kernel) (by rfl) (hp36 _) (by decide) rfl ?_
              refine Ru.op (q := (.iload_n 3, 1)) (by decide +kernel) rfl ?_
              refine Ru.op (q := (.iload_n 2, 1)) (by decide +kernel) rfl ?_
              obtain ⟨g15, h⟩ := gd_some h
              refine Ru.bstI (i := v3) (x := v2) (by decide +kernel) (hp55 _) g14 g15 (ps_55 _ _ _) ?_
              refine Ru.op (q := (.aload_n 0, 1)) (by decide +kernel) rfl ?_
              refine Ru.get (i := 75) (v := .ref 56) (by decide +kernel) (by rfl) (hp36 _) (by decide) rfl ?_
              refine Ru.op (q := (.iload_n 3, 1)) (by decide +kernel) rfl ?_
              refine Ru.kI (q := (.iconst 0, 1)) (c := 0) (by decide +kernel) rfl (by decide) ?_
              refine Ru.bstI (i := v3) (x := 0) (by decide +kernel) (hp56 _) g14 (by decide) (ps_56 _ _ _) ?_
              refine Ru.inc (x := v3) (z := (v3 + 1)) (xs' := [some (.ref 36), d1, some (vI v2), some (vI (v3 + 1)), some (vI v4), some (vI v5), some (vI o4)]) (by decide +kernel) rfl rfl rfl ?_
              refine Ru.op (q := (.iload 6, 2)) (by decide +kernel) rfl ?_
              refine Ru.kI (q := (.bipush 33, 2)) (c := 33) (by decide +kernel) rfl (by decide) ?_
              by_cases b16 : o4 = 33
              · replace h := if_t b16 h
                refine Ru.br2 (k := .eq) (off := 10) (bb := true) (tg := 191) (by decide +kernel) (by decide +kernel) (ci_eq1 g6 (by decide) b16) rfl ?_
                refine Ru.op (q := (.aload_n 0, 1)) (by decide +kernel) rfl ?_
                refine Ru.op (q := (.iload 6, 2)) (by decide +kernel) rfl ?_
                refine Ru.kI (q := (.bipush 33, 2)) (c := 33) (by decide +kernel) rfl (by decide) ?_
                refine Ru.br2 (k := .ne) (off := 7) (bb := false) (tg := 199) (by decide +kernel) (by decide +kernel) (ci_ne0 g6 (by decide) b16) rfl ?_
                refine Ru.kI (q := (.iconst 1, 1)) (c := 1) (by decide +kernel) rfl (by decide) ?_
                refine Ru.op (q := (.goto 4, 3)) (by decide +kernel) rfl ?_
                refine Ru.op (q := (.iload_n 2, 1)) (by decide +kernel) rfl ?_
                obtain ⟨g17, h⟩ := gd_some h
                by_cases b18 : 1 = v2
                · replace h := if_t b18 h
                  refine Ru.br2 (k := .eq) (off := 7) (bb := true) (tg := 212) (by decide +kernel) (by decide +kernel) (ci_eq1 (by decide) g17 b18) rfl ?_
                  refine Ru.kI (q := (.iconst 0, 1)) (c := 0) (by decide +kernel) rfl (by decide) ?_
                  obtain ⟨o19, e20, h⟩ := ob_some h
                  refine Ru.vcall (i := 224) (j2 := 116) (as := [vI 0]) (by decide +kernel) (by rfl) rfl rfl (hp36 _) (by decide) ⟨(Nat.le_of_ble_eq_true rfl), (by show 19 + 3 ≤ 353; exact Nat.le_of_ble_eq_true rfl), Nat.le_of_ble_eq_true rfl, Nat.le_of_ble_eq_true rfl⟩ ((g116_ok e20).up (Nat.le_of_ble_eq_true rfl) (Nat.le_of_ble_eq_true rfl)) ?_
                  refine Ru.op (q := (.iload 6, 2)) (by decide +kernel) rfl ?_
                  refine Ru.kI (q := (.bipush 126, 2)) (c := 126) (by decide +kernel) rfl (by decide) ?_
                  by_cases b21 : o4 = 126
                  · replace h := if_t b21 h
                    refine Ru.br2 (k := .ne) (off := 15) (bb := false) (tg := 223) (by decide +kernel) (by decide +kernel) (ci_ne0 g6 (by decide) b21) rfl ?_
                    refine Ru.op (q := (.iload_n 2, 1)) (by decide +kernel) rfl ?_
                    by_cases b22 : v2 = 0
                    · replace h := if_t b22 h
                      refine Ru.br (k := .ne) (off := 7) (bb := false) (tg := 227) (by decide +kernel) (by decide +kernel) (cz (ci_ne0 g17 (by decide) b22)) rfl ?_
                      refine Ru.kI (q := (.iconst 1, 1)) (c := 1) (by decide +kernel) rfl (by decide) ?_
                      refine Ru.op (q := (.goto 28, 3)) (by decide +kernel) rfl ?_
                      refine Ru.op (q := (.istore_n 2, 1)) (S' := (257, [some (.ref 36), d1, some (vI 1), some (vI (v3 + 1)), some (vI v4), some (vI v5), some (vI o4)], [], _, _)) (by decide +kernel) rfl ?_
                      refine Ru.op (q := (.goto 8, 3)) (by decide +kernel) rfl ?_
                      refine Ru.op (q := (.goto (-255), 3)) (by decide +kernel) rfl ?_
                      exact ih _ _ _ _ _ _ _ _ h r hk
                    · replace h := if_f b22 h
                      refine Ru.br (k := .ne) (off := 7) (bb := true) (tg := 231) (by decide +kernel) (by decide +kernel) (cz (ci_ne1 g17 (by decide) b22)) rfl ?_
                      refine Ru.kI (q := (.iconst 0, 1)) (c := 0) (by decide +kernel) rfl (by decide) ?_
                      refine Ru.op (q := (.goto 24, 3)) (by decide +kernel) rfl ?_
                      refine Ru.op (q := (.istore_n 2, 1)) (S' := (257, [some (.ref 36), d1, some (vI 0), some (vI (v3 + 1)), some (vI v4), some (vI v5), some (vI o4)], [], _, _)) (by decide +kernel) rfl ?_
                      refine Ru.op (q := (.goto 8, 3)) (by decide +kernel) rfl ?_
                      refine Ru.op (q := (.goto (-255), 3)) (by decide +kernel) rfl ?_
                      exact ih _ _ _ _ _ _ _ _ h r hk
                  · replace h := if_f b21 h
                    refine Ru.br2 (k := .ne) (off := 15) (bb := true) (tg := 235) (by decide +kernel) (by decide +kernel) (ci_ne1 g6 (by decide) b21) rfl ?_
                    refine Ru.op (q := (.iload_n 2, 1)) (by decide +kernel) rfl ?_
                    refine Ru.op (q := (.iload 6, 2)) (by decide +kernel) rfl ?_
                    refine Ru.kI (q := (.bipush 62, 2)) (c := 62) (by decide +kernel) rfl (by decide) ?_
                    by_cases b23 : o4 = 62
                    · replace h := if_t b23 h
                      refine Ru.br2 (k := .ne) (off := 7) (bb := false) (tg := 243) (by decide +kernel) (by decide +kernel) (ci_ne0 g6 (by decide) b23) rfl ?_
                      refine Ru.kI (q := (.iconst 1, 1)) (c := 1) (by decide +kernel) rfl (by decide) ?_
                      refine Ru.op (q := (.goto 4, 3)) (by decide +kernel) rfl ?_
                      by_cases b24 : v2 = 1
                      · replace h := if_t b24 h
                        refine Ru.br2 (k := .eq) (off := 7) (bb := true) (tg := 255) (by decide +kernel) (by decide +kernel) (ci_eq1 g17 (by decide) b24) rfl ?_
                        refine Ru.kI (q := (.iconst 0, 1)) (c := 0) (by decide +kernel) rfl (by decide) ?_
                        refine Ru.op (q := (.istore_n 2, 1)) (S' := (257, [some (.ref 36), d1, some (vI 0), some (vI (v3 + 1)), some (vI v4), some (vI v5), some (vI o4)], [], _, _)) (by decide +kernel) rfl ?_
                        refine Ru.op (q := (.goto 8, 3)) (by decide +kernel) rfl ?_
                        refine Ru.op (q := (.goto (-255), 3)) (by decide +kernel) rfl ?_
                        exact ih _ _ _ _ _ _ _ _ h r hk
                      · replace h := if_f b24 h
                        refine Ru.br2 (k := .eq) (off := 7) (bb := false) (tg := 251) (by decide +kernel) (by decide +kernel) (ci_eq0 g17 (by decide) b24) rfl ?_
                        refine Ru.kI (q := (.iconst 1, 1)) (c := 1) (by decide +kernel) rfl (by decide) ?_
                        refine Ru.op (q := (.goto 4, 3)) (by decide +kernel) rfl ?_
                        refine Ru.op (q := (.istore_n 2, 1)) (S' := (257, [some (.ref 36), d1, some (vI 1), some (vI (v3 + 1)), some (vI v4), some (vI v5), some (vI o4)], [], _, _)) (by decide +kernel) rfl ?_
                        refine Ru.op (q := (.goto 8, 3)) (by decide +kernel) rfl ?_
                        refine Ru.op (q := (.goto (-255), 3)) (by decide +kernel) rfl ?_
                        exact ih _ _ _ _ _ _ _ _ h r hk
                    · replace h := if_f b23 h
                      refine Ru.br2 (k := .ne) (off := 7) (bb := true) (tg := 247) (by decide +kernel) (by decide +kernel) (ci_ne1 g6 (by decide) b23) rfl ?_
                      refine Ru.kI (q := (.iconst 0, 1)) (c := 0) (by decide +kernel) rfl (by decide) ?_
                      by_cases b25 : v2 = 0
                      · replace h := if_t b25 h
                        refine Ru.br2 (k := .eq) (off := 7) (bb := true) (tg := 255) (by decide +kernel) (by decide +kernel) (ci_eq1 g17 (by decide) b25) rfl ?_
                        refine Ru.kI (q := (.iconst 0, 1)) (c := 0) (by decide +kernel) rfl (by decide) ?_
                        refine Ru.op (q := (.istore_n 2, 1)) (S' := (257, [some (.ref 36), d1, some (vI 0), some (vI (v3 + 1)), some (vI v4), some (vI v5), some (vI o4)], [], _, _)) (by decide +kernel) rfl ?_
                        refine Ru.op (q := (.goto 8, 3)) (by decide +kernel) rfl ?_
                        refine Ru.op (q := (.goto (-255), 3)) (by decide +kernel) rfl ?_
                        exact ih _ _ _ _ _ _ _ _ h r hk
                      · replace h := if_f b25 h
                        refine Ru.br2 (k := .eq) (off := 7) (bb := false) (tg := 251) (by decide +kernel) (by decide +kernel) (ci_eq0 g17 (by decide) b25) rfl ?_
                        refine Ru.kI (q := (.iconst 1, 1)) (c := 1) (by decide +kernel) rfl (by decide) ?_
                        refine Ru.op (q := (.goto 4, 3)) (by decide +kernel) rfl ?_
                        refine Ru.op (q := (.istore_n 2, 1)) (S' := (257, [some (.ref 36), d1, some (vI 1), some (vI (v3 + 1)), some (vI v4), some (vI v5), some (vI o4)], [], _, _)) (by decide +kernel) rfl ?_
                        refine Ru.op (q := (.goto 8, 3)) (by decide +kernel) rfl ?_
                        refine Ru.op (q := (.goto (-255), 3)) (by decide +kernel) rfl ?_
                        exact ih _ _ _ _ _ _ _ _ h r hk
                · replace h := if_f b18 h
                  refine Ru.br2 (k := .eq) (off := 7) (bb := false) (tg := 208) (by decide +kernel) (by decide +kernel) (ci_eq0 (by decide) g17 b18) rfl ?_
                  refine Ru.kI (q := (.iconst 1, 1)) (c := 1) (by decide +kernel) rfl (by decide) ?_
                  refine Ru.op (q := (.goto 4, 3)) (by decide +kernel) rfl ?_
                  obtain ⟨o26, e27, h⟩ := ob_some h
                  refine Ru.vcall (i := 224) (j2 := 116) (as := [vI 1]) (by decide +kernel) (by rfl) rfl rfl (hp36 _) (by decide) ⟨(Nat.le_of_ble_eq_true rfl), (by show 19 + 3 ≤ 353; exact Nat.le_of_ble_eq_true rfl), Nat.le_of_ble_eq_true rfl, Nat.le_of_ble_eq_true rfl⟩ ((g116_ok e27).up (Nat.le_of_ble_eq_true rfl) (Nat.le_of_ble_eq_true rfl)) ?_
                  refine Ru.op (q := (.iload 6, 2)) (by decide +kernel) rfl ?_
                  refine Ru.kI (q := (.bipush 126, 2)) (c := 126) (by decide +kernel) rfl (by decide) ?_
                  by_cases b28 : o4 = 126
                  · replace h := if_t b28 h
                    refine Ru.br2 (k := .ne) (off := 15) (bb := false) (tg := 223) (by decide +kernel) (by decide +kernel) (ci_ne0 g6 (by decide) b28) rfl ?_
                    refine Ru.op (q := (.iload_n 2, 1)) (by decide +kernel) rfl ?_
                    by_cases b29 : v2 = 0
                    · replace h := if_t b29 h
                      refine Ru.br (k := .ne) (off := 7) (bb := false) (tg := 227) (by decide +kernel) (by decide +kernel) (cz (ci_ne0 g17 (by decide) b29)) rfl ?_
                      refine Ru.kI (q := (.iconst 1, 1)) (c := 1) (by decide +kernel) rfl (by decide) ?_
                      refine Ru.op (q := (.goto 28, 3)) (by decide +kernel) rfl ?_
                      refine Ru.op (q := (.istore_n 2, 1)) (S' := (257, [some (.ref 36), d1, some (vI 1), some (vI (v3 + 1)), some (vI v4), some (vI v5), some (vI o4)], [], _, _)) (by decide +kernel) rfl ?_
                      refine Ru.op (q := (.goto 8, 3)) (by decide +kernel) rfl ?_
                      refine Ru.op (q := (.goto (-255), 3)) (by decide +kernel) rfl ?_
                      exact ih _ _ _ _ _ _ _ _ h r hk
                    · replace h := if_f b29 h
                      refine Ru.br (k := .ne) (off := 7) (bb := true) (tg := 231) (by decide +kernel) (by decide +kernel) (cz (ci_ne1 g17 (by decide) b29)) rfl ?_
                      refine Ru.kI (q := (.iconst 0, 1)) (c := 0) (by decide +kernel) rfl (by decide) ?_
                      refine Ru.op (q := (.goto 24, 3)) (by decide +kernel) rfl ?_
                      refine Ru.op (q := (.istore_n 2, 1)) (S' := (257, [some (.ref 36), d1, some (vI 0), some (vI (v3 + 1)), some (vI v4), some (vI v5), some (vI o4)], [], _, _)) (by decide +kernel) rfl ?_
                      refine Ru.op (q := (.goto 8, 3)) (by decide +kernel) rfl ?_
                      refine Ru.op (q := (.goto (-255), 3)) (by decide +kernel) rfl ?_
                      exact ih _ _ _ _ _ _ _ _ h r hk
                  · replace h := if_f b28 h
                    refine Ru.br2 (k := .ne) (off := 15) (bb := true) (tg := 235) (by decide +kernel) (by decide +kernel) (ci_ne1 g6 (by decide) b28) rfl ?_
                    refine Ru.op (q := (.iload_n 2, 1)) (by decide +kernel) rfl ?_
                    refine Ru.op (q := (.iload 6, 2)) (by decide +kernel) rfl ?_
                    refine Ru.kI (q := (.bipush 62, 2)) (c := 62) (by decide +kernel) rfl (by decide) ?_
                    by_cases b30 : o4 = 62
                    · replace h := if_t b30 h
                      refine Ru.br2 (k := .ne) (off := 7) (bb := false) (tg := 243) (by decide +kernel) (by decide +kernel) (ci_ne0 g6 (by decide) b30) rfl ?_
                      refine Ru.kI (q := (.iconst 1, 1)) (c := 1) (by decide +kernel) rfl (by decide) ?_
                      refine Ru.op (q := (.goto 4, 3)) (by decide +kernel) rfl ?_
                      by_cases b31 : v2 = 1
                      · replace h := if_t b31 h
                        refine Ru.br2 (k := .eq) (off := 7) (bb := true) (tg := 255) (by decide +kernel) (by decide +kernel) (ci_eq1 g17 (by decide) b31) rfl ?_
                        refine Ru.kI (q := (.iconst 0, 1)) (c := 0) (by decide +kernel) rfl (by decide) ?_
                        refine Ru.op (q := (.istore_n 2, 1)) (S' := (257, [some (.ref 36), d1, some (vI 0), some (vI (v3 + 1)), some (vI v4), some (vI v5), some (vI o4)], [], _, _)) (by decide +kernel) rfl ?_
                        refine Ru.op (q := (.goto 8, 3)) (by decide +kernel) rfl ?_
                        refine Ru.op (q := (.goto (-255), 3)) (by decide +kernel) rfl ?_
                        exact ih _ _ _ _ _ _ _ _ h r hk
                      · replace h := if_f b31 h
                        refine Ru.br2 (k := .eq) (off := 7) (bb := false) (tg := 251) (by decide +kernel) (by decide +kernel) (ci_eq0 g17 (by decide) b31) rfl ?_
                        refine Ru.kI (q := (.iconst 1, 1)) (c := 1) (by decide +kernel) rfl (by decide) ?_
                        refine Ru.op (q := (.goto 4, 3)) (by decide +kernel) rfl ?_
                        refine Ru.op (q := (.istore_n 2, 1)) (S' := (257, [some (.ref 36), d1, some (vI 1), some (vI (v3 + 1)), some (vI v4), some (vI v5), some (vI o4)], [], _, _)) (by decide +kernel) rfl ?_
                        refine Ru.op (q := (.goto 8, 3)) (by decide +kernel) rfl ?_
                        refine Ru.op (q := (.goto (-255), 3)) (by decide +kernel) rfl ?_
                        exact ih _ _ _ _ _ _ _ _ h r hk
                    · replace h := if_f b30 h
                      refine Ru.br2 (k := .ne) (off := 7) (bb := true) (tg := 247) (by decide +kernel) (by decide +kernel) (ci_ne1 g6 (by decide) b30) rfl ?_
                      refine Ru.kI (q := (.iconst 0, 1)) (c := 0) (by decide +kernel) rfl (by decide) ?_
                      by_cases b32 : v2 = 0
                      · replace h := if_t b32 h
                        refine Ru.br2 (k := .eq) (off := 7) (bb := true) (tg := 255) (by decide +kernel) (by decide +kernel) (ci_eq1 g17 (by decide) b32) rfl ?_
                        refine Ru.kI (q := (.iconst 0, 1)) (c := 0) (by decide +kernel) rfl (by decide) ?_
                        refine Ru.op (q := (.istore_n 2, 1)) (S' := (257, [some (.ref 36), d1, some (vI 0), some (vI (v3 + 1)), some (vI v4), some (vI v5), some (vI o4)], [], _, _)) (by decide +kernel) rfl ?_
                        refine Ru.op (q := (.goto 8, 3)) (by decide +kernel) rfl ?_
                        refine Ru.op (q := (.goto (-255), 3)) (by decide +kernel) rfl ?_
                        exact ih _ _ _ _ _ _ _ _ h r hk
                      · replace h := if_f b32 h
                        refine Ru.br2 (k := .eq) (off := 7) (bb := false) (tg := 251) (by decide +kernel) (by decide +kernel) (ci_eq0 g17 (by decide) b32) rfl ?_
                        refine Ru.kI (q := (.iconst 1, 1)) (c := 1) (by decide +kernel) rfl (by decide) ?_
                        refine Ru.op (q := (.goto 4, 3)) (by decide +kernel) rfl ?_
                        refine Ru.op (q := (.istore_n 2, 1)) (S' := (257, [some (.ref 36), d1, some (vI 1), some (vI (v3 + 1)), some (vI v4), some (vI v5), some (vI o4)], [], _, _)) (by decide +kernel) rfl ?_
                        refine Ru.op (q := (.goto 8, 3)) (by decide +kernel) rfl ?_
                        refine Ru.op (q := (.goto (-255), 3)) (by decide +kernel) rfl ?_
                        exact ih _ _ _ _ _ _ _ _ h r hk
              · replace h := if_f b16 h
                refine Ru.br2 (k := .eq) (off := 10) (bb := false) (tg := 184) (by decide +kernel) (by decide +kernel) (ci_eq0 g6 (by decide) b16) rfl ?_
                refine Ru.op (q := (.iload 6, 2)) (by decide +kernel) rfl ?_
                refine Ru.kI (q := (.bipush 63, 2)) (c := 63) (by decide +kernel) rfl (by decide) ?_
                by_cases b33 : o4 = 63
                · replace h := if_t b33 h
                  refine Ru.br2 (k := .ne) (off := 28) (bb := false) (tg := 191) (by decide +kernel) (by decide +kernel) (ci_ne0 g6 (by decide) b33) rfl ?_
                  refine Ru.op (q := (.aload_n 0, 1)) (by decide +kernel) rfl ?_
                  refine Ru.op (q := (.iload 6, 2)) (by decide +kernel) rfl ?_
                  refine Ru.kI (q := (.bipush 33, 2)) (c := 33) (by decide +kernel) rfl (by decide) ?_
                  refine Ru.br2 (k := .ne) (off := 7) (bb := true) (tg := 203) (by decide +kernel) (by decide +kernel) (ci_ne1 g6 (by decide) b16) rfl ?_
                  refine Ru.kI (q := (.iconst 0, 1)) (c := 0) (by decide +kernel) rfl (by decide) ?_
                  refine Ru.op (q := (.iload_n 2, 1)) (by decide +kernel) rfl ?_
                  obtain ⟨g34, h⟩ := gd_some h
                  by_cases b35 : 0 = v2
                  · replace h := if_t b35 h
                    refine Ru.br2 (k := .eq) (off := 7) (bb := true) (tg := 212) (by decide +kernel) (by decide +kernel) (ci_eq1 (by decide) g34 b35) rfl ?_
                    refine Ru.kI (q := (.iconst 0, 1)) (c := 0) (by decide +kernel) rfl (by decide) ?_
                    obtain ⟨o36, e37, h⟩ := ob_some h
                    refine Ru.vcall (i := 224) (j2 := 116) (as := [vI 0]) (by decide +kernel) (by rfl) rfl rfl (hp36 _) (by decide) ⟨(Nat.le_of_ble_eq_true rfl), (by show 19 + 3 ≤ 353; exact Nat.le_of_ble_eq_true rfl), Nat.le_of_ble_eq_true rfl, Nat.le_of_ble_eq_true rfl⟩ ((g116_ok e37).up (Nat.le_of_ble_eq_true rfl) (Nat.le_of_ble_eq_true rfl)) ?_
                    refine Ru.op (q := (.iload 6, 2)) (by decide +kernel) rfl ?_
                    refine Ru.kI (q := (.bipush 126, 2)) (c := 126) (by decide +kernel) rfl (by decide) ?_
                    by_cases b38 : o4 = 126
                    · replace h := if_t b38 h
                      refine Ru.br2 (k := .ne) (off := 15) (bb := false) (tg := 223) (by decide +kernel) (by decide +kernel) (ci_ne0 g6 (by decide) b38) rfl ?_
                      refine Ru.op (q := (.iload_n 2, 1)) (by decide +kernel) rfl ?_
                      by_cases b39 : v2 = 0
                      · replace h := if_t b39 h
                        refine Ru.br (k := .ne) (off := 7) (bb := false) (tg := 227) (by decide +kernel) (by decide +kernel) (cz (ci_ne0 g34 (by decide) b39)) rfl ?_
                        refine Ru.kI (q := (.iconst 1, 1)) (c := 1) (by decide +kernel) rfl (by decide) ?_
                        refine Ru.op (q := (.goto 28, 3)) (by decide +kernel) rfl ?_
                        refine Ru.op (q := (.istore_n 2, 1)) (S' := (257, [some (.ref 36), d1, some (vI 1), some (vI (v3 + 1)), some (vI v4), some (vI v5), some (vI o4)], [], _, _)) (by decide +kernel) rfl ?_
                        refine Ru.op (q := (.goto 8, 3)) (by decide +kernel) rfl ?_
                        refine Ru.op (q := (.goto (-255), 3)) (by decide +kernel) rfl ?_
                        exact ih _ _ _ _ _ _ _ _ h r hk
                      · replace h := if_f b39 h
                        refine Ru.br (k := .ne) (off := 7) (bb := true) (tg := 231) (by decide +kernel) (by decide +kernel) (cz (ci_ne1 g34 (by decide) b39)) rfl ?_
                        refine Ru.kI (q := (.iconst 0, 1)) (c := 0) (by decide +kernel) rfl (by decide) ?_
                        refine Ru.op (q := (.goto 24, 3)) (by decide +kernel) rfl ?_
                        refine Ru.op (q := (.istore_n 2, 1)) (S' := (257, [some (.ref 36), d1, some (vI 0), some (vI (v3 + 1)), some (vI v4), some (vI v5), some (vI o4)], [], _, _)) (by decide +kernel) rfl ?_
                        refine Ru.op (q := (.goto 8, 3)) (by decide +kernel) rfl ?_
                        refine Ru.op (q := (.goto (-255), 3)) (by decide +kernel) rfl ?_
                        exact ih _ _ _ _ _ _ _ _ h r hk
                    · replace h := if_f b38 h
                      refine Ru.br2 (k := .ne) (off := 15) (bb := true) (tg := 235) (by decide +kernel) (by decide +kernel) (ci_ne1 g6 (by decide) b38) rfl ?_
                      refine Ru.op (q := (.iload_n 2, 1)) (by decide +kernel) rfl ?_
                      refine Ru.op (q := (.iload 6, 2)) (by decide +kernel) rfl ?_
                      refine Ru.kI (q := (.bipush 62, 2)) (c := 62) (by decide +kernel) rfl (by decide) ?_
                      by_cases b40 : o4 = 62
                      · replace h := if_t b40 h
                        refine Ru.br2 (k := .ne) (off := 7) (bb := false) (tg := 243) (by decide +kernel) (by decide +kernel) (ci_ne0 g6 (by decide) b40) rfl ?_
                        refine Ru.kI (q := (.iconst 1, 1)) (c := 1) (by decide +kernel) rfl (by decide) ?_
                        refine Ru.op (q := (.goto 4, 3)) (by decide +kernel) rfl ?_
                        by_cases b41 : v2 = 1
                        · replace h := if_t b41 h
                          refine Ru.br2 (k := .eq) (off := 7) (bb := true) (tg := 255) (by decide +kernel) (by decide +kernel) (ci_eq1 g34 (by decide) b41) rfl ?_
                          refine Ru.kI (q := (.iconst 0, 1)) (c := 0) (by decide +kernel) rfl (by decide) ?_
                          refine Ru.op (q := (.istore_n 2, 1)) (S' := (257, [some (.ref 36), d1, some (vI 0), some (vI (v3 + 1)), some (vI v4), some (vI v5), some (vI o4)], [], _, _)) (by decide +kernel) rfl ?_
                          refine Ru.op (q := (.goto 8, 3)) (by decide +kernel) rfl ?_
                          refine Ru.op (q := (.goto (-255), 3)) (by decide +kernel) rfl ?_
                          exact ih _ _ _ _ _ _ _ _ h r hk
                        · replace h := if_f b41 h
                          refine Ru.br2 (k := .eq) (off := 7) (bb := false) (tg := 251) (by decide +kernel) (by decide +kernel) (ci_eq0 g34 (by decide) b41) rfl ?_
                          refine Ru.kI (q := (.iconst 1, 1)) (c := 1) (by decide +kernel) rfl (by decide) ?_
                          refine Ru.op (q := (.goto 4, 3)) (by decide +kernel) rfl ?_
                          refine Ru.op (q := (.istore_n 2, 1)) (S' := (257, [some (.ref 36), d1, some (vI 1), some (vI (v3 + 1)), some (vI v4), some (vI v5), some (vI o4)], [], _, _)) (by decide +kernel) rfl ?_
                          refine Ru.op (q := (.goto 8, 3)) (by decide +kernel) rfl ?_
                          refine Ru.op (q := (.goto (-255), 3)) (by decide +kernel) rfl ?_
                          exact ih _ _ _ _ _ _ _ _ h r hk
                      · replace h := if_f b40 h
                        refine Ru.br2 (k := .ne) (off := 7) (bb := true) (tg := 247) (by decide +kernel) (by decide +kernel) (ci_ne1 g6 (by decide) b40) rfl ?_
                        refine Ru.kI (q := (.iconst 0, 1)) (c := 0) (by decide +kernel) rfl (by decide) ?_
                        by_cases b42 : v2 = 0
                        · replace h := if_t b42 h
                          refine Ru.br2 (k := .eq) (off := 7) (bb := true) (tg := 255) (by decide +kernel) (by decide +kernel) (ci_eq1 g34 (by decide) b42) rfl ?_
                          refine Ru.kI (q := (.iconst 0, 1)) (c := 0) (by decide +kernel) rfl (by decide) ?_
                          refine Ru.op (q := (.istore_n 2, 1)) (S' := (257, [some (.ref 36), d1, some (vI 0), some (vI (v3 + 1)), some (vI v4), some (vI v5), some (vI o4)], [], _, _)) (by decide +kernel) rfl ?_
                          refine Ru.op (q := (.goto 8, 3)) (by decide +kernel) rfl ?_
                          refine Ru.op (q := (.goto (-255), 3)) (by decide +kernel) rfl ?_
                          exact ih _ _ _ _ _ _ _ _ h r hk
                        · replace h := if_f b42 h
                          refine Ru.br2 (k := .eq) (off := 7) (bb := false) (tg := 251) (by decide +kernel) (by decide +kernel) (ci_eq0 g34 (by decide) b42) rfl ?_
                          refine Ru.kI (q := (.iconst 1, 1)) (c := 1) (by decide +kernel) rfl (by decide) ?_
                          refine Ru.op (q := (.goto 4, 3)) (by decide +kernel) rfl ?_
                          refine Ru.op (q := (.istore_n 2, 1)) (S' := (257, [some (.ref 36), d1, some (vI 1), some (vI (v3 + 1)), some (vI v4), some (vI v5), some (vI o4)], [], _, _)) (by decide +kernel) rfl ?_
                          refine Ru.op (q := (.goto 8, 3)) (by decide +kernel) rfl ?_
                          refine Ru.op (q := (.goto (-255), 3)) (by decide +kernel) rfl ?_
                          exact ih _ _ _ _ _ _ _ _ h r hk
                  · replace h := if_f b35 h
                    refine Ru.br2 (k := .eq) (off := 7) (bb := false) (tg := 208) (by decide +kernel) (by decide +kernel) (ci_eq0 (by decide) g34 b35) rfl ?_
                    refine Ru.kI (q := (.iconst 1, 1)) (c := 1) (by decide +kernel) rfl (by decide) ?_
                    refine Ru.op (q := (.goto 4, 3)) (by decide +kernel) rfl ?_
                    obtain ⟨o43, e44, h⟩ := ob_some h
                    refine Ru.vcall (i := 224) (j2 := 116) (as := [vI 1]) (by decide +kernel) (by rfl) rfl rfl (hp36 _) (by decide) ⟨(Nat.le_of_ble_eq_true rfl), (by show 19 + 3 ≤ 353; exact Nat.le_of_ble_eq_true rfl), Nat.le_of_ble_eq_true rfl, Nat.le_of_ble_eq_true rfl⟩ ((g116_ok e44).up (Nat.le_of_ble_eq_true rfl) (Nat.le_of_ble_eq_true rfl)) ?_
                    refine Ru.op (q := (.iload 6, 2)) (by decide +kernel) rfl ?_
                    refine Ru.kI (q := (.bipush 126, 2)) (c := 126) (by decide +kernel) rfl (by decide) ?_
                    by_cases b45 : o4 = 126
                    · replace h := if_t b45 h
                      refine Ru.br2 (k := .ne) (off := 15) (bb := false) (tg := 223) (by decide +kernel) (by decide +kernel) (ci_ne0 g6 (by decide) b45) rfl ?_
                      refine Ru.op (q := (.iload_n 2, 1)) (by decide +kernel) rfl ?_
                      by_cases b46 : v2 = 0
                      · replace h := if_t b46 h
                        refine Ru.br (k := .ne) (off := 7) (bb := false) (tg := 227) (by decide +kernel) (by decide +kernel) (cz (ci_ne0 g34 (by decide) b46)) rfl ?_
                        refine Ru.kI (q := (.iconst 1, 1)) (c := 1) (by decide +kernel) rfl (by decide) ?_
                        refine Ru.op (q := (.goto 28, 3)) (by decide +kernel) rfl ?_
                        refine Ru.op (q := (.istore_n 2, 1)) (S' := (257, [some (.ref 36), d1, some (vI 1), some (vI (v3 + 1)), some (vI v4), some (vI v5), some (vI o4)], [], _, _)) (by decide +kernel) rfl ?_
                        refine Ru.op (q := (.goto 8, 3)) (by decide +kernel) rfl ?_
                        refine Ru.op (q := (.goto (-255), 3)) (by decide +kernel) rfl ?_
                        exact ih _ _ _ _ _ _ _ _ h r hk
                      · replace h := if_f b46 h
                        refine Ru.br (k := .ne) (off := 7) (bb := true) (tg := 231) (by decide +kernel) (by decide +kernel) (cz (ci_ne1 g34 (by decide) b46)) rfl ?_
                        refine Ru.kI (q := (.iconst 0, 1)) (c := 0) (by decide +kernel) rfl (by decide) ?_
                        refine Ru.op (q := (.goto 24, 3)) (by decide +kernel) rfl ?_
                        refine Ru.op (q := (.istore_n 2, 1)) (S' := (257, [some (.ref 36), d1, some (vI 0), some (vI (v3 + 1)), some (vI v4), some (vI v5), some (vI o4)], [], _, _)) (by decide +kernel) rfl ?_
                        refine Ru.op (q := (.goto 8, 3)) (by decide +kernel) rfl ?_
                        refine Ru.op (q := (.goto (-255), 3)) (by decide +kernel) rfl ?_
                        exact ih _ _ _ _ _ _ _ _ h r hk
                    · replace h := if_f b45 h
                      refine Ru.br2 (k := .ne) (off := 15) (bb := true) (tg := 235) (by decide +kernel) (by decide +kernel) (ci_ne1 g6 (by decide) b45) rfl ?_
                      refine Ru.op (q := (.iload_n 2, 1)) (by decide +kernel) rfl ?_
                      refine Ru.op (q := (.iload 6, 2)) (by decide +kernel) rfl ?_
                      refine Ru.kI (q := (.bipush 62, 2)) (c := 62) (by decide +kernel) rfl (by decide) ?_
                      by_cases b47 : o4 = 62
                      · replace h := if_t b47 h
                        refine Ru.br2 (k := .ne) (off := 7) (bb := false) (tg := 243) (by decide +kernel) (by decide +kernel) (ci_ne0 g6 (by decide) b47) rfl ?_
                        refine Ru.kI (q := (.iconst 1, 1)) (c := 1) (by decide +kernel) rfl (by decide) ?_
                        refine Ru.op (q := (.goto 4, 3)) (by decide +kernel) rfl ?_
                        by_cases b48 : v2 = 1
                        · replace h := if_t b48 h
                          refine Ru.br2 (k := .eq) (off := 7) (bb := true) (tg := 255) (by decide +kernel) (by decide +kernel) (ci_eq1 g34 (by decide) b48) rfl ?_
                          refine Ru.kI (q := (.iconst 0, 1)) (c := 0) (by decide +kernel) rfl (by decide) ?_
                          refine Ru.op (q := (.istore_n 2, 1)) (S' := (257, [some (.ref 36), d1, some (vI 0), some (vI (v3 + 1)), some (vI v4), some (vI v5), some (vI o4)], [], _, _)) (by decide +kernel) rfl ?_
                          refine Ru.op (q := (.goto 8, 3)) (by decide +kernel) rfl ?_
                          refine Ru.op (q := (.goto (-255), 3)) (by decide +kernel) rfl ?_
                          exact ih _ _ _ _ _ _ _ _ h r hk
                        · replace h := if_f b48 h
                          refine Ru.br2 (k := .eq) (off := 7) (bb := false) (tg := 251) (by decide +kernel) (by decide +kernel) (ci_eq0 g34 (by decide) b48) rfl ?_
                          refine Ru.kI (q := (.iconst 1, 1)) (c := 1) (by decide +kernel) rfl (by decide) ?_
                          refine Ru.op (q := (.goto 4, 3)) (by decide +kernel) rfl ?_
                          refine Ru.op (q := (.istore_n 2, 1)) (S' := (257, [some (.ref 36), d1, some (vI 1), some (vI (v3 + 1)), some (vI v4), some (vI v5), some (vI o4)], [], _, _)) (by decide +kernel) rfl ?_
                          refine Ru.op (q := (.goto 8, 3)) (by decide +kernel) rfl ?_
                          refine Ru.op (q := (.goto (-255), 3)) (by decide +kernel) rfl ?_
                          exact ih _ _ _ _ _ _ _ _ h r hk
                      · replace h := if_f b47 h
                        refine Ru.br2 (k := .ne) (off := 7) (bb := true) (tg := 247) (by decide +kernel) (by decide +kernel) (ci_ne1 g6 (by decide) b47) rfl ?_
                        refine Ru.kI (q := (.iconst 0, 1)) (c := 0) (by decide +kernel) rfl (by decide) ?_
                        by_cases b49 : v2 = 0
                        · replace h := if_t b49 h
                          refine Ru.br2 (k := .eq) (off := 7) (bb := true) (tg := 255) (by decide +kernel) (by decide +kernel) (ci_eq1 g34 (by decide) b49) rfl ?_
                          refine Ru.kI (q := (.iconst 0, 1)) (c := 0) (by decide +kernel) rfl (by decide) ?_
                          refine Ru.op (q := (.istore_n 2, 1)) (S' := (257, [some (.ref 36), d1, some (vI 0), some (vI (v3 + 1)), some (vI v4), some (vI v5), some (vI o4)], [], _, _)) (by decide +kernel) rfl ?_
                          refine Ru.op (q := (.goto 8, 3)) (by decide +kernel) rfl ?_
                          refine Ru.op (q := (.goto (-255), 3)) (by decide +kernel) rfl ?_
                          exact ih _ _ _ _ _ _ _ _ h r hk
                        · replace h := if_f b49 h
                          refine Ru.br2 (k := .eq) (off := 7) (bb := false) (tg := 251) (by decide +kernel) (by decide +kernel) (ci_eq0 g34 (by decide) b49) rfl ?_
                          refine Ru.kI (q := (.iconst 1, 1)) (c := 1) (by decide +kernel) rfl (by decide) ?_
                          refine Ru.op (q := (.goto 4, 3)) (by decide +kernel) rfl ?_
                          refine Ru.op (q := (.istore_n 2, 1)) (S' := (257, [some (.ref 36), d1, some (vI 1), some (vI (v3 + 1)), some (vI v4), some (vI v5), some (vI o4)], [], _, _)) (by decide +kernel) rfl ?_
                          refine Ru.op (q := (.goto 8, 3)) (by decide +kernel) rfl ?_
                          refine Ru.op (q := (.goto (-255), 3)) (by decide +kernel) rfl ?_
                          exact ih _ _ _ _ _ _ _ _ h r hk
                · replace h := if_f b33 h
                  refine Ru.br2 (k := .ne) (off := 28) (bb := true) (tg := 216) (by decide +kernel) (by decide +kernel) (ci_ne1 g6 (by decide) b33) rfl ?_
                  refine Ru.op (q := (.iload 6, 2)) (by decide +kernel) rfl ?_
                  refine Ru.kI (q := (.bipush 126, 2)) (c := 126) (by decide +kernel) rfl (by decide) ?_
                  by_cases b50 : o4 = 126
                  · replace h := if_t b50 h
                    refine Ru.br2 (k := .ne) (off := 15) (bb := false) (tg := 223) (by decide +kernel) (by decide +kernel) (ci_ne0 g6 (by decide) b50) rfl ?_
                    refine Ru.op (q := (.iload_n 2, 1)) (by decide +kernel) rfl ?_
                    obtain ⟨g51, h⟩ := gd_some h
                    by_cases b52 : v2 = 0
                    · replace h := if_t b52 h
                      refine Ru.br (k := .ne) (off := 7) (bb := false) (tg := 227) (by decide +kernel) (by decide +kernel) (cz (ci_ne0 g51 (by decide) b52)) rfl ?_
                      refine Ru.kI (q := (.iconst 1, 1)) (c := 1) (by decide +kernel) rfl (by decide) ?_
                      refine Ru.op (q := (.goto 28, 3)) (by decide +kernel) rfl ?_
                      refine Ru.op (q := (.istore_n 2, 1)) (S' := (257, [some (.ref 36), d1, some (vI 1), some (vI (v3 + 1)), some (vI v4), some (vI v5), some (vI o4)], [], _, _)) (by decide +kernel) rfl ?_
                      refine Ru.op (q := (.goto 8, 3)) (by decide +kernel) rfl ?_
                      refine Ru.op (q := (.goto (-255), 3)) (by decide +kernel) rfl ?_
                      exact ih _ _ _ _ _ _ _ _ h r hk
                    · replace h := if_f b52 h
                      refine Ru.br (k := .ne) (off := 7) (bb := true) (tg := 231) (by decide +kernel) (by decide +kernel) (cz (ci_ne1 g51 (by decide) b52)) rfl ?_
                      refine Ru.kI (q := (.iconst 0, 1)) (c := 0) (by decide +kernel) rfl (by decide) ?_
                      refine Ru.op (q := (.goto 24, 3)) (by decide +kernel) rfl ?_
                      refine Ru.op (q := (.istore_n 2, 1)) (S' := (257, [some (.ref 36), d1, some (vI 0), some (vI (v3 + 1)), some (vI v4), some (vI v5), some (vI o4)], [], _, _)) (by decide +kernel) rfl ?_
                      refine Ru.op (q := (.goto 8, 3)) (by decide +kernel) rfl ?_
                      refine Ru.op (q := (.goto (-255), 3)) (by decide +kernel) rfl ?_
                      exact ih _ _ _ _ _ _ _ _ h r hk
                  · replace h := if_f b50 h
                    refine Ru.br2 (k := .ne) (off := 15) (bb := true) (tg := 235) (by decide +kernel) (by decide +kernel) (ci_ne1 g6 (by decide) b50) rfl ?_
                    refine Ru.op (q := (.iload_n 2, 1)) (by decide +kernel) rfl ?_
                    refine Ru.op (q := (.iload 6, 2)) (by decide +kernel) rfl ?_
                    refine Ru.kI (q := (.bipush 62, 2)) (c := 62) (by decide +kernel) rfl (by decide) ?_
                    by_cases b53 : o4 = 62
                    · replace h := if_t b53 h
                      refine Ru.br2 (k := .ne) (off := 7) (bb := false) (tg := 243) (by decide +kernel) (by decide +kernel) (ci_ne0 g6 (by decide) b53) rfl ?_
                      refine Ru.kI (q := (.iconst 1, 1)) (c := 1) (by decide +kernel) rfl (by decide) ?_
                      refine Ru.op (q := (.goto 4, 3)) (by decide +kernel) rfl ?_
                      obtain ⟨g54, h⟩ := gd_some h
                      by_cases b55 : v2 = 1
                      · replace h := if_t b55 h
                        refine Ru.br2 (k := .eq) (off := 7) (bb := true) (tg := 255) (by decide +kernel) (by decide +kernel) (ci_eq1 g54 (by decide) b55) rfl ?_
                        refine Ru.kI (q := (.iconst 0, 1)) (c := 0) (by decide +kernel) rfl (by decide) ?_
                        refine Ru.op (q := (.istore_n 2, 1)) (S' := (257, [some (.ref 36), d1, some (vI 0), some (vI (v3 + 1)), some (vI v4), some (vI v5), some (vI o4)], [], _, _)) (by decide +kernel) rfl ?_
                        refine Ru.op (q := (.goto 8, 3)) (by decide +kernel) rfl ?_
                        refine Ru.op (q := (.goto (-255), 3)) (by decide +kernel) rfl ?_
                        exact ih _ _ _ _ _ _ _ _ h r hk
                      · replace h := if_f b55 h
                        refine Ru.br2 (k := .eq) (off := 7) (bb := false) (tg := 251) (by decide +kernel) (by decide +kernel) (ci_eq0 g54 (by decide) b55) rfl ?_
                        refine Ru.kI (q := (.iconst 1, 1)) (c := 1) (by decide +kernel) rfl (by decide) ?_
                        refine Ru.op (q := (.goto 4, 3)) (by decide +kernel) rfl ?_
                        refine Ru.op (q := (.istore_n 2, 1)) (S' := (257, [some (.ref 36), d1, some (vI 1), some (vI (v3 + 1)), some (vI v4), some (vI v5), some (vI o4)], [], _, _)) (by decide +kernel) rfl ?_
                        refine Ru.op (q := (.goto 8, 3)) (by decide +kernel) rfl ?_
                        refine Ru.op (q := (.goto (-255), 3)) (by decide +kernel) rfl ?_
                        exact ih _ _ _ _ _ _ _ _ h r hk
                    · replace h := if_f b53 h
                      refine Ru.br2 (k := .ne) (off := 7) (bb := true) (tg := 247) (by decide +kernel) (by decide +kernel) (ci_ne1 g6 (by decide) b53) rfl ?_
                      refine Ru.kI (q := (.iconst 0, 1)) (c := 0) (by decide +kernel) rfl (by decide) ?_
                      obtain ⟨g56, h⟩ := gd_some h
                      by_cases b57 : v2 = 0
                      · replace h := if_t b57 h
                        refine Ru.br2 (k := .eq) (off := 7) (bb := true) (tg := 255) (by decide +kernel) (by decide +kernel) (ci_eq1 g56 (by decide) b57) rfl ?_
                        refine Ru.kI (q := (.iconst 0, 1)) (c := 0) (by decide +kernel) rfl (by decide) ?_
                        refine Ru.op (q := (.istore_n 2, 1)) (S' := (257, [some (.ref 36), d1, some (vI 0), some (vI (v3 + 1)), some (vI v4), some (vI v5), some (vI o4)], [], _, _)) (by decide +kernel) rfl ?_
                        refine Ru.op (q := (.goto 8, 3)) (by decide +kernel) rfl ?_
                        refine Ru.op (q := (.goto (-255), 3)) (by decide +kernel) rfl ?_
                        exact ih _ _ _ _ _ _ _ _ h r hk
                      · replace h := if_f b57 h
                        refine Ru.br2 (k := .eq) (off := 7) (bb := false) (tg := 251) (by decide +kernel) (by decide +kernel) (ci_eq0 g56 (by decide) b57) rfl ?_
                        refine Ru.kI (q := (.iconst 1, 1)) (c := 1) (by decide +kernel) rfl (by decide) ?_
                        refine Ru.op (q := (.goto 4, 3)) (by decide +kernel) rfl ?_
                        refine Ru.op (q := (.istore_n 2, 1)) (S' := (257, [some (.ref 36), d1, some (vI 1), some (vI (v3 + 1)), some (vI v4), some (vI v5), some (vI o4)], [], _, _)) (by decide +kernel) rfl ?_
                        refine Ru.op (q := (.goto 8, 3)) (by decide +kernel) rfl ?_
                        refine Ru.op (q := (.goto (-255), 3)) (by decide +kernel) rfl ?_
                        exact ih _ _ _ _ _ _ _ _ h r hk
            · replace h := if_f b13 h
              refine Ru.br2 (k := .ge) (off := 121) (bb := true) (tg := 260) (by decide +kernel) (by decide +kernel) (ci_ge1 g12 (by decide) b13) rfl ?_
              refine Ru.op (q := (.aload_n 0, 1)) (by decide +kernel) rfl ?_
              refine Ru.kI (q := (.iconst 1, 1)) (c := 1) (by decide +kernel) rfl (by decide) ?_
              refine Ru.putH (i := 151) (by decide +kernel) (by rfl) (hp36 _) (by decide) (Nat.le_of_ble_eq_true rfl) (fk_b (by decide)) (by decide +kernel) (pf_36_28 _ _) ?_
              refine Ru.op (q := (.goto (-255), 3)) (by decide +kernel) rfl ?_
              exact ih _ _ _ _ _ _ _ _ h r hk
        · replace h := if_f b7 h
          refine Ru.br2 (k := .lt) (off := 95) (bb := false) (tg := 35) (by decide +kernel) (by decide +kernel) (ci_lt0 g6 (by decide) b7) rfl ?_
          refine Ru.op (q := (.iload 6, 2)) (by decide +kernel) rfl ?_
          refine Ru.kI (q := (.bipush 90, 2)) (c := 90) (by decide +kernel) rfl (by decide) ?_
          by_cases b58 : 90 < o4
          · replace h := if_t b58 h
            refine Ru.br2 (k := .gt) (off := 88) (bb := true) (tg := 127) (by decide +kernel) (by decide +kernel) (ci_gt1 g6 (by decide) b58) rfl ?_
            refine Ru.op (q := (.aload_n 0, 1)) (by decide +kernel) rfl ?_
            refine Ru.op (q := (.iload 6, 2)) (by decide +kernel) rfl ?_
            obtain ⟨o59, e60, h⟩ := ob_some h
            refine Ru.vcall (i := 221) (j2 := 115) (as := [vI o4]) (by decide +kernel) (by rfl) rfl rfl (hp36 _) (by decide) ⟨(Nat.le_of_ble_eq_true rfl), (by show 19 + 2 ≤ 353; exact Nat.le_of_ble_eq_true rfl), Nat.le_of_ble_eq_true rfl, Nat.le_of_ble_eq_true rfl⟩ ((g115_ok e60).up (Nat.le_of_ble_eq_true rfl) (Nat.le_of_ble_eq_true rfl)) ?_
            obtain ⟨g61, h⟩ := gd_some h
            by_cases b62 : o59 = 0
            · replace h := if_t b62 h
              refine Ru.br (k := .eq) (off := 127) (bb := true) (tg := 260) (by decide +kernel) (by decide +kernel) (cz (ci_eq1 g61 (by decide) b62)) rfl ?_
              refine Ru.op (q := (.aload_n 0, 1)) (by decide +kernel) rfl ?_
              refine Ru.kI (q := (.iconst 1, 1)) (c := 1) (by decide +kernel) rfl (by decide) ?_
              refine Ru.putH (i := 151) (by decide +kernel) (by rfl) (hp36 _) (by decide) (Nat.le_of_ble_eq_true rfl) (fk_b (by decide)) (by decide +kernel) (pf_36_28 _ _) ?_
              refine Ru.op (q := (.goto (-255), 3)) (by decide +kernel) rfl ?_
              exact ih _ _ _ _ _ _ _ _ h r hk
            · replace h := if_f b62 h
              refine Ru.br (k := .eq) (off := 127) (bb := false) (tg := 136) (by decide +kernel) (by decide +kernel) (cz (ci_eq0 g61 (by decide) b62)) rfl ?_
              refine Ru.op (q := (.iload_n 3, 1)) (by decide +kernel) rfl ?_
              refine Ru.kI (q := (.bipush 10, 2)) (c := 10) (by decide +kernel) rfl (by decide) ?_
              obtain ⟨g63, h⟩ := gd_some h
              by_cases b64 : v3 < 10
              · replace h := if_t b64 h
                refine Ru.br2 (k := .ge) (off := 121) (bb := false) (tg := 142) (by decide +kernel) (by decide +kernel) (ci_ge0 g63 (by decide) b64) rfl ?_
                refine Ru.op (q := (.aload_n 0, 1)) (by decide +kernel) rfl ?_
                refine Ru.op (q := (.dup, 1)) (by decide +kernel) rfl ?_
                refine Ru.getI (i := 140) (x := (S.F 36 27)) (by decide +kernel) (by rfl) (hp36 _) (by decide) rfl (eI_of _) ?_
                refine Ru.kI (q := (.iconst 1, 1)) (c := 1) (by decide +kernel) rfl (by decide) ?_
                refine Ru.ar2 (i := .iadd) (z := ((S.F 36 27) + 1)) (by decide +kernel) rfl (ar_add _ _) ?_
                refine Ru.putH (i := 140) (by decide +kernel) (by rfl) (hp36 _) (by decide) (Nat.le_of_ble_eq_true rfl) rfl (by decide +kernel) (pf_36_27 _ _) ?_
                refine Ru.op (q := (.aload_n 0, 1)) (by decide +kernel) rfl ?_
                refine Ru.get (i := 69) (v := .ref 54) (by decide +kernel) (by rfl) (hp36 _) (by decide) rfl ?_
                refine Ru.op (q := (.iload_n 3, 1)) (by decide +kernel) rfl ?_
                refine Ru.op (q := (.iload 6, 2)) (by decide +kernel) rfl ?_
                obtain ⟨g65, h⟩ := gd_some h
                refine Ru.istI (i := v3) (x := o4) (by decide +kernel) (hp54 _) g65 (ps_54 _ _ _) ?_
                refine Ru.op (q := (.aload_n 0, 1)) (by decide +kernel) rfl ?_
                refine Ru.get (i := 72) (v := .ref 55) (by decide +kernel) (by rfl) (hp36 _) (by decide) rfl ?_
                refine Ru.op (q := (.iload_n 3, 1)) (by decide +kernel) rfl ?_
                refine Ru.op (q := (.iload_n 2, 1)) (by decide +kernel) rfl ?_
                obtain ⟨g66, h⟩ := gd_some h
                refine Ru.bstI (i := v3) (x := v2) (by decide +kernel) (hp55 _) g65 g66 (ps_55 _ _ _) ?_
                refine Ru.op (q := (.aload_n 0, 1)) (by decide +kernel) rfl ?_
                refine Ru.get (i := 75) (v := .ref 56) (by decide +kernel) (by rfl) (hp36 _) (by decide) rfl ?_
                refine Ru.op (q := (.iload_n 3, 1)) (by decide +kernel) rfl ?_
                refine Ru.kI (q := (.iconst 0, 1)) (c := 0) (by decide +kernel) rfl (by decide) ?_
                refine Ru.bstI (i := v3) (x := 0) (by decide +kernel) (hp56 _) g65 (by decide) (ps_56 _ _ _) ?_
                refine Ru.inc (x := v3) (z := (v3 + 1)) (xs' := [some (.ref 36), d1, some (vI v2), some (vI (v3 + 1)), some (vI v4), some (vI v5), some (vI o4)]) (by decide +kernel) rfl rfl rfl ?_
                refine Ru.op (q := (.iload 6, 2)) (by decide +kernel) rfl ?_
                refine Ru.kI (q := (.bipush 33, 2)) (c := 33) (by decide +kernel) rfl (by decide) ?_
                by_cases b67 : o4 = 33
                · replace h := if_t b67 h
                  refine Ru.br2 (k := .eq) (off := 10) (bb := true) (tg := 191) (by decide +kernel) (by decide +kernel) (ci_eq1 g6 (by decide) b67) rfl ?_
                  refine Ru.op (q := (.aload_n 0, 1)) (by decide +kernel) rfl ?_
                  refine Ru.op (q := (.iload 6, 2)) (by decide +kernel) rfl ?_
                  refine Ru.kI (q := (.bipush 33, 2)) (c := 33) (by decide +kernel) rfl (by decide) ?_
                  refine Ru.br2 (k := .ne) (off := 7) (bb := false) (tg := 199) (by decide +kernel) (by decide +kernel) (ci_ne0 g6 (by decide) b67) rfl ?_
                  refine Ru.kI (q := (.iconst 1, 1)) (c := 1) (by decide +kernel) rfl (by decide) ?_
                  refine Ru.op (q := (.goto 4, 3)) (by decide +kernel) rfl ?_
                  refine Ru.op (q := (.iload_n 2, 1)) (by decide +kernel) rfl ?_
                  obtain ⟨g68, h⟩ := gd_some h
                  by_cases b69 : 1 = v2
                  · replace h := if_t b69 h
                    refine Ru.br2 (k := .eq) (off := 7) (bb := true) (tg := 212) (by decide +kernel) (by decide +kernel) (ci_eq1 (by decide) g68 b69) rfl ?_
                    refine Ru.kI (q := (.iconst 0, 1)) (c := 0) (by decide +kernel) rfl (by decide) ?_
                    obtain ⟨o70, e71, h⟩ := ob_some h
                    refine Ru.vcall (i := 224) (j2 := 116) (as := [vI 0]) (by decide +kernel) (by rfl) rfl rfl (hp36 _) (by decide) ⟨(Nat.le_of_ble_eq_true rfl), (by show 19 + 3 ≤ 353; exact Nat.le_of_ble_eq_true rfl), Nat.le_of_ble_eq_true rfl, Nat.le_of_ble_eq_true rfl⟩ ((g116_ok e71).up (Nat.le_of_ble_eq_true rfl) (Nat.le_of_ble_eq_true rfl)) ?_
                    refine Ru.op (q := (.iload 6, 2)) (by decide +kernel) rfl ?_
                    refine Ru.kI (q := (.bipush 126, 2)) (c := 126) (by decide +kernel) rfl (by decide) ?_
                    by_cases b72 : o4 = 126
                    · replace h := if_t b72 h
                      refine Ru.br2 (k := .ne) (off := 15) (bb := false) (tg := 223) (by decide +kernel) (by decide +kernel) (ci_ne0 g6 (by decide) b72) rfl ?_
                      refine Ru.op (q := (.iload_n 2, 1)) (by decide +kernel) rfl ?_
                      by_cases b73 : v2 = 0
                      · replace h := if_t b73 h
                        refine Ru.br (k := .ne) (off := 7) (bb := false) (tg := 227) (by decide +kernel) (by decide +kernel) (cz (ci_ne0 g68 (by decide) b73)) rfl ?_
                        refine Ru.kI (q := (.iconst 1, 1)) (c := 1) (by decide +kernel) rfl (by decide) ?_
                        refine Ru.op (q := (.goto 28, 3)) (by decide +kernel) rfl ?_
                        refine Ru.op (q := (.istore_n 2, 1)) (S' := (257, [some (.ref 36), d1, some (vI 1), some (vI (v3 + 1)), some (vI v4), some (vI v5), some (vI o4)], [], _, _)) (by decide +kernel) rfl ?_
                        refine Ru.op (q := (.goto 8, 3)) (by decide +kernel) rfl ?_
                        refine Ru.op (q := (.goto (-255), 3)) (by decide +kernel) rfl ?_
                        exact ih _ _ _ _ _ _ _ _ h r hk
                      · replace h := if_f b73 h
                        refine Ru.br (k := .ne) (off := 7) (bb := true) (tg := 231) (by decide +kernel) (by decide +kernel) (cz (ci_ne1 g68 (by decide) b73)) rfl ?_
                        refine Ru.kI (q := (.iconst 0, 1)) (c := 0) (by decide +kernel) rfl (by decide) ?_
                        refine Ru.op (q := (.goto 24, 3)) (by decide +kernel) rfl ?_
                        refine Ru.op (q := (.istore_n 2, 1)) (S' := (257, [some (.ref 36), d1, some (vI 0), some (vI (v3 + 1)), some (vI v4), some (vI v5), some (vI o4)], [], _, _)) (by decide +kernel) rfl ?_
                        refine Ru.op (q := (.goto 8, 3)) (by decide +kernel) rfl ?_
                        refine Ru.op (q := (.goto (-255), 3)) (by decide +kernel) rfl ?_
                        exact ih _ _ _ _ _ _ _ _ h r hk
                    · replace h := if_f b72 h
                      refine Ru.br2 (k := .ne) (off := 15) (bb := true) (tg := 235) (by decide +kernel) (by decide +kernel) (ci_ne1 g6 (by decide) b72) rfl ?_
                      refine Ru.op (q := (.iload_n 2, 1)) (by decide +kernel) rfl ?_
                      refine Ru.op (q := (.iload 6, 2)) (by decide +kernel) rfl ?_
                      refine Ru.kI (q := (.bipush 62, 2)) (c := 62) (by decide +kernel) rfl (by decide) ?_
                      by_cases b74 : o4 = 62
                      · replace h := if_t b74 h
                        refine Ru.br2 (k := .ne) (off := 7) (bb := false) (tg := 243) (by decide +kernel) (by decide +kernel) (ci_ne0 g6 (by decide) b74) rfl ?_
                        refine Ru.kI (q := (.iconst 1, 1)) (c := 1) (by decide +kernel) rfl (by decide) ?_
                        refine Ru.op (q := (.goto 4, 3)) (by decide +kernel) rfl ?_
                        by_cases b75 : v2 = 1
                        · replace h := if_t b75 h
                          refine Ru.br2 (k := .eq) (off := 7) (bb := true) (tg := 255) (by decide +kernel) (by decide +kernel) (ci_eq1 g68 (by decide) b75) rfl ?_
                          refine Ru.kI (q := (.iconst 0, 1)) (c := 0) (by decide +kernel) rfl (by decide) ?_
                          refine Ru.op (q := (.istore_n 2, 1)) (S' := (257, [some (.ref 36), d1, some (vI 0), some (vI (v3 + 1)), some (vI v4), some (vI v5), some (vI o4)], [], _, _)) (by decide +kernel) rfl ?_
                          refine Ru.op (q := (.goto 8, 3)) (by decide +kernel) rfl ?_
                          refine Ru.op (q := (.goto (-255), 3)) (by decide +kernel) rfl ?_
                          exact ih _ _ _ _ _ _ _ _ h r hk
                        · replace h := if_f b75 h
                          refine Ru.br2 (k := .eq) (off := 7) (bb := false) (tg := 251) (by decide +kernel) (by decide +kernel) (ci_eq0 g68 (by decide) b75) rfl ?_
                          refine Ru.kI (q := (.iconst 1, 1)) (c := 1) (by decide +kernel) rfl (by decide) ?_
                          refine Ru.op (q := (.goto 4, 3)) (by decide +kernel) rfl ?_
                          refine Ru.op (q := (.istore_n 2, 1)) (S' := (257, [some (.ref 36), d1, some (vI 1), some (vI (v3 + 1)), some (vI v4), some (vI v5), some (vI o4)], [], _, _)) (by decide +kernel) rfl ?_
                          refine Ru.op (q := (.goto 8, 3)) (by decide +kernel) rfl ?_
                          refine Ru.op (q := (.goto (-255), 3)) (by decide +kernel) rfl ?_
                          exact ih _ _ _ _ _ _ _ _ h r hk
                      · replace h := if_f b74 h
                        refine Ru.br2 (k := .ne) (off := 7) (bb := true) (tg := 247) (by decide +kernel) (by decide +kernel) (ci_ne1 g6 (by decide) b74) rfl ?_
                        refine Ru.kI (q := (.iconst 0, 1)) (c := 0) (by decide +kernel) rfl (by decide) ?_
                        by_cases b76 : v2 = 0
                        · replace h := if_t b76 h
                          refine Ru.br2 (k := .eq) (off := 7) (bb := true) (tg := 255) (by decide +kernel) (by decide +kernel) (ci_eq1 g68 (by decide) b76) rfl ?_
                          refine Ru.kI (q := (.iconst 0, 1)) (c := 0) (by decide +kernel) rfl (by decide) ?_
                          refine Ru.op (q := (.istore_n 2, 1)) (S' := (257, [some (.ref 36), d1, some (vI 0), some (vI (v3 + 1)), some (vI v4), some (vI v5), some (vI o4)], [], _, _)) (by decide +kernel) rfl ?_
                          refine Ru.op (q := (.goto 8, 3)) (by decide +kernel) rfl ?_
                          refine Ru.op (q := (.goto (-255), 3)) (by decide +kernel) rfl ?_
                          exact ih _ _ _ _ _ _ _ _ h r hk
                        · replace h := if_f b76 h
                          refine Ru.br2 (k := .eq) (off := 7) (bb := false) (tg := 251) (by decide +kernel) (by decide +kernel) (ci_eq0 g68 (by decide) b76) rfl ?_
                          refine Ru.kI (q := (.iconst 1, 1)) (c := 1) (by decide +kernel) rfl (by decide) ?_
                          refine Ru.op (q := (.goto 4, 3)) (by decide +kernel) rfl ?_
                          refine Ru.op (q := (.istore_n 2, 1)) (S' := (257, [some (.ref 36), d1, some (vI 1), some (vI (v3 + 1)), some (vI v4), some (vI v5), some (vI o4)], [], _, _)) (by decide +kernel) rfl ?_
                          refine Ru.op (q := (.goto 8, 3)) (by decide +kernel) rfl ?_
                          refine Ru.op (q := (.goto (-255), 3)) (by decide +kernel) rfl ?_
                          exact ih _ _ _ _ _ _ _ _ h r hk
                  · replace h := if_f b69 h
                    refine Ru.br2 (k := .eq) (off := 7) (bb := false) (tg := 208) (by decide +kernel) (by decide +kernel) (ci_eq0 (by decide) g68 b69) rfl ?_
                    refine Ru.kI (q := (.iconst 1, 1)) (c := 1) (by decide +kernel) rfl (by decide) ?_
                    refine Ru.op (q := (.goto 4, 3)) (by decide +kernel) rfl ?_
                    obtain ⟨o77, e78, h⟩ := ob_some h
                    refine Ru.vcall (i := 224) (j2 := 116) (as := [vI 1]) (by decide +kernel) (by rfl) rfl rfl (hp36 _) (by decide) ⟨(Nat.le_of_ble_eq_true rfl), (by show 19 + 3 ≤ 353; exact Nat.le_of_ble_eq_true rfl), Nat.le_of_ble_eq_true rfl, Nat.le_of_ble_eq_true rfl⟩ ((g116_ok e78).up (Nat.le_of_ble_eq_true rfl) (Nat.le_of_ble_eq_true rfl)) ?_
                    refine Ru.op (q := (.iload 6, 2)) (by decide +kernel) rfl ?_
                    refine Ru.kI (q := (.bipush 126, 2)) (c := 126) (by decide +kernel) rfl (by decide) ?_
                    by_cases b79 : o4 = 126
                    · replace h := if_t b79 h
                      refine Ru.br2 (k := .ne) (off := 15) (bb := false) (tg := 223) (by decide +kernel) (by decide +kernel) (ci_ne0 g6 (by decide) b79) rfl ?_
                      refine Ru.op (q := (.iload_n 2, 1)) (by decide +kernel) rfl ?_
                      by_cases b80 : v2 = 0
                      · replace h := if_t b80 h
                        refine Ru.br (k := .ne) (off := 7) (bb := false) (tg := 227) (by decide +kernel) (by decide +kernel) (cz (ci_ne0 g68 (by decide) b80)) rfl ?_
                        refine Ru.kI (q := (.iconst 1, 1)) (c := 1) (by decide +kernel) rfl (by decide) ?_
                        refine Ru.op (q := (.goto 28, 3)) (by decide +kernel) rfl ?_
                        refine Ru.op (q := (.istore_n 2, 1)) (S' := (257, [some (.ref 36), d1, some (vI 1), some (vI (v3 + 1)), some (vI v4), some (vI v5), some (vI o4)], [], _, _)) (by decide +kernel) rfl ?_
                        refine Ru.op (q := (.goto 8, 3)) (by decide +kernel) rfl ?_
                        refine Ru.op (q := (.goto (-255), 3)) (by decide +kernel) rfl ?_
                        exact ih _ _ _ _ _ _ _ _ h r hk
                      · replace h := if_f b80 h
                        refine Ru.br (k := .ne) (off := 7) (bb := true) (tg := 231) (by decide +kernel) (by decide +kernel) (cz (ci_ne1 g68 (by decide) b80)) rfl ?_
                        refine Ru.kI (q := (.iconst 0, 1)) (c := 0) (by decide +kernel) rfl (by decide) ?_
                        refine Ru.op (q := (.goto 24, 3)) (by decide +kernel) rfl ?_
                        refine Ru.op (q := (.istore_n 2, 1)) (S' := (257, [some (.ref 36), d1, some (vI 0), some (vI (v3 + 1)), some (vI v4), some (vI v5), some (vI o4)], [], _, _)) (by decide +kernel) rfl ?_
                        refine Ru.op (q := (.goto 8, 3)) (by decide +kernel) rfl ?_
                        refine Ru.op (q := (.goto (-255), 3)) (by decide +kernel) rfl ?_
                        exact ih _ _ _ _ _ _ _ _ h r hk
                    · replace h := if_f b79 h
                      refine Ru.br2 (k := .ne) (off := 15) (bb := true) (tg := 235) (by decide +kernel) (by decide +kernel) (ci_ne1 g6 (by decide) b79) rfl ?_
                      refine Ru.op (q := (.iload_n 2, 1)) (by decide +kernel) rfl ?_
                      refine Ru.op (q := (.iload 6, 2)) (by decide +kernel) rfl ?_
                      refine Ru.kI (q := (.bipush 62, 2)) (c := 62) (by decide +kernel) rfl (by decide) ?_
                      by_cases b81 : o4 = 62
                      · replace h := if_t b81 h
                        refine Ru.br2 (k := .ne) (off := 7) (bb := false) (tg := 243) (by decide +kernel) (by decide +kernel) (ci_ne0 g6 (by decide) b81) rfl ?_
                        refine Ru.kI (q := (.iconst 1, 1)) (c := 1) (by decide +kernel) rfl (by decide) ?_
                        refine Ru.op (q := (.goto 4, 3)) (by decide +kernel) rfl ?_
                        by_cases b82 : v2 = 1
                        · replace h := if_t b82 h
                          refine Ru.br2 (k := .eq) (off := 7) (bb := true) (tg := 255) (by decide +kernel) (by decide +kernel) (ci_eq1 g68 (by decide) b82) rfl ?_
                          refine Ru.kI (q := (.iconst 0, 1)) (c := 0) (by decide +kernel) rfl (by decide) ?_
                          refine Ru.op (q := (.istore_n 2, 1)) (S' := (257, [some (.ref 36), d1, some (vI 0), some (vI (v3 + 1)), some (vI v4), some (vI v5), some (vI o4)], [], _, _)) (by decide +kernel) rfl ?_
                          refine Ru.op (q := (.goto 8, 3)) (by decide +kernel) rfl ?_
                          refine Ru.op (q := (.goto (-255), 3)) (by decide +kernel) rfl ?_
                          exact ih _ _ _ _ _ _ _ _ h r hk
                        · replace h := if_f b82 h
                          refine Ru.br2 (k := .eq) (off := 7) (bb := false) (tg := 251) (by decide +kernel) (by decide +kernel) (ci_eq0 g68 (by decide) b82) rfl ?_
                          refine Ru.kI (q := (.iconst 1, 1)) (c := 1) (by decide +kernel) rfl (by decide) ?_
                          refine Ru.op (q := (.goto 4, 3)) (by decide +kernel) rfl ?_
                          refine Ru.op (q := (.istore_n 2, 1)) (S' := (257, [some (.ref 36), d1, some (vI 1), some (vI (v3 + 1)), some (vI v4), some (vI v5), some (vI o4)], [], _, _)) (by decide +kernel) rfl ?_
                          refine Ru.op (q := (.goto 8, 3)) (by decide +kernel) rfl ?_
                          refine Ru.op (q := (.goto (-255), 3)) (by decide +kernel) rfl ?_
                          exact ih _ _ _ _ _ _ _ _ h r hk
                      · replace h := if_f b81 h
                        refine Ru.br2 (k := .ne) (off := 7) (bb := true) (tg := 247) (by decide +kernel) (by decide +kernel) (ci_ne1 g6 (by decide) b81) rfl ?_
                        refine Ru.kI (q := (.iconst 0, 1)) (c := 0) (by decide +kernel) rfl (by decide) ?_
                        by_cases b83 : v2 = 0
                        · replace h := if_t b83 h
                          refine Ru.br2 (k := .eq) (off := 7) (bb := true) (tg := 255) (by decide +kernel) (by decide +kernel) (ci_eq1 g68 (by decide) b83) rfl ?_
                          refine Ru.kI (q := (.iconst 0, 1)) (c := 0) (by decide +kernel) rfl (by decide) ?_
                          refine Ru.op (q := (.istore_n 2, 1)) (S' := (257, [some (.ref 36), d1, some (vI 0), some (vI (v3 + 1)), some (vI v4), some (vI v5), some (vI o4)], [], _, _)) (by decide +kernel) rfl ?_
                          refine Ru.op (q := (.goto 8, 3)) (by decide +kernel) rfl ?_
                          refine Ru.op (q := (.goto (-255), 3)) (by decide +kernel) rfl ?_
                          exact ih _ _ _ _ _ _ _ _ h r hk
                        · replace h := if_f b83 h
                          refine Ru.br2 (k := .eq) (off := 7) (bb := false) (tg := 251) (by decide +kernel) (by decide +kernel) (ci_eq0 g68 (by decide) b83) rfl ?_
                          refine Ru.kI (q := (.iconst 1, 1)) (c := 1) (by decide +kernel) rfl (by decide) ?_
                          refine Ru.op (q := (.goto 4, 3)) (by decide +kernel) rfl ?_
                          refine Ru.op (q := (.istore_n 2, 1)) (S' := (257, [some (.ref 36), d1, some (vI 1), some (vI (v3 + 1)), some (vI v4), some (vI v5), some (vI o4)], [], _, _)) (by decide +kernel) rfl ?_
                          refine Ru.op (q := (.goto 8, 3)) (by decide +kernel) rfl ?_
                          refine Ru.op (q := (.goto (-255), 3)) (by decide +kernel) rfl ?_
                          exact ih _ _ _ _ _ _ _ _ h r hk
                · replace h := if_f b67 h
                  refine Ru.br2 (k := .eq) (off := 10) (bb := false) (tg := 184) (by decide +kernel) (by decide +kernel) (ci_eq0 g6 (by decide) b67) rfl ?_
                  refine Ru.op (q := (.iload 6, 2)) (by decide +kernel) rfl ?_
                  refine Ru.kI (q := (.bipush 63, 2)) (c := 63) (by decide +kernel) rfl (by decide) ?_
                  by_cases b84 : o4 = 63
                  · replace h := if_t b84 h
                    refine Ru.br2 (k := .ne) (off := 28) (bb := false) (tg := 191) (by decide +kernel) (by decide +kernel) (ci_ne0 g6 (by decide) b84) rfl ?_
                    refine Ru.op (q := (.aload_n 0, 1)) (by decide +kernel) rfl ?_
                    refine Ru.op (q := (.iload 6, 2)) (by decide +kernel) rfl ?_
                    refine Ru.kI (q := (.bipush 33, 2)) (c := 33) (by decide +kernel) rfl (by decide) ?_
                    refine Ru.br2 (k := .ne) (off := 7) (bb := true) (tg := 203) (by decide +kernel) (by decide +kernel) (ci_ne1 g6 (by decide) b67) rfl ?_
                    refine Ru.kI (q := (.iconst 0, 1)) (c := 0) (by decide +kernel) rfl (by decide) ?_
                    refine Ru.op (q := (.iload_n 2, 1)) (by decide +kernel) rfl ?_
                    obtain ⟨g85, h⟩ := gd_some h
                    by_cases b86 : 0 = v2
                    · replace h := if_t b86 h
                      refine Ru.br2 (k := .eq) (off := 7) (bb := true) (tg := 212) (by decide +kernel) (by decide +kernel) (ci_eq1 (by decide) g85 b86) rfl ?_
                      refine Ru.kI (q := (.iconst 0, 1)) (c := 0) (by decide +kernel) rfl (by decide) ?_
                      obtain ⟨o87, e88, h⟩ := ob_some h
                      refine Ru.vcall (i := 224) (j2 := 116) (as := [vI 0]) (by decide +kernel) (by rfl) rfl rfl (hp36 _) (by decide) ⟨(Nat.le_of_ble_eq_true rfl), (by show 19 + 3 ≤ 353; exact Nat.le_of_ble_eq_true rfl), Nat.le_of_ble_eq_true rfl, Nat.le_of_ble_eq_true rfl⟩ ((g116_ok e88).up (Nat.le_of_ble_eq_true rfl) (Nat.le_of_ble_eq_true rfl)) ?_
                      refine Ru.op (q := (.iload 6, 2)) (by decide +kernel) rfl ?_
                      refine Ru.kI (q := (.bipush 126, 2)) (c := 126) (by decide +kernel) rfl (by decide) ?_
                      by_cases b89 : o4 = 126
                      · replace h := if_t b89 h
                        refine Ru.br2 (k := .ne) (off := 15) (bb := false) (tg := 223) (by decide +kernel) (by decide +kernel) (ci_ne0 g6 (by decide) b89) rfl ?_
                        refine Ru.op (q := (.iload_n 2, 1)) (by decide +kernel) rfl ?_
                        by_cases b90 : v2 = 0
                        · replace h := if_t b90 h
                          refine Ru.br (k := .ne) (off := 7) (bb := false) (tg := 227) (by decide +kernel) (by decide +kernel) (cz (ci_ne0 g85 (by decide) b90)) rfl ?_
                          refine Ru.kI (q := (.iconst 1, 1)) (c := 1) (by decide +kernel) rfl (by decide) ?_
                          refine Ru.op (q := (.goto 28, 3)) (by decide +kernel) rfl ?_
                          refine Ru.op (q := (.istore_n 2, 1)) (S' := (257, [some (.ref 36), d1, some (vI 1), some (vI (v3 + 1)), some (vI v4), some (vI v5), some (vI o4)], [], _, _)) (by decide +kernel) rfl ?_
                          refine Ru.op (q := (.goto 8, 3)) (by decide +kernel) rfl ?_
                          refine Ru.op (q := (.goto (-255), 3)) (by decide +kernel) rfl ?_
                          exact ih _ _ _ _ _ _ _ _ h r hk
                        · replace h := if_f b90 h
                          refine Ru.br (k := .ne) (off := 7) (bb := true) (tg := 231) (by decide +kernel) (by decide +kernel) (cz (ci_ne1 g85 (by decide) b90)) rfl ?_
                          refine Ru.kI (q := (.iconst 0, 1)) (c := 0) (by decide +kernel) rfl (by decide) ?_
                          refine Ru.op (q := (.goto 24, 3)) (by decide +kernel) rfl ?_
                          refine Ru.op (q := (.istore_n 2, 1)) (S' := (257, [some (.ref 36), d1, some (vI 0), some (vI (v3 + 1)), some (vI v4), some (vI v5), some (vI o4)], [], _, _)) (by decide +kernel) rfl ?_
                          refine Ru.op (q := (.goto 8, 3)) (by decide +kernel) rfl ?_
                          refine Ru.op (q := (.goto (-255), 3)) (by decide +kernel) rfl ?_
                          exact ih _ _ _ _ _ _ _ _ h r hk
                      · replace h := if_f b89 h
                        refine Ru.br2 (k := .ne) (off := 15) (bb := true) (tg := 235) (by decide +kernel) (by decide +kernel) (ci_ne1 g6 (by decide) b89) rfl ?_
                        refine Ru.op (q := (.iload_n 2, 1)) (by decide +kernel) rfl ?_
                        refine Ru.op (q := (.iload 6, 2)) (by decide +kernel) rfl ?_
                        refine Ru.kI (q := (.bipush 62, 2)) (c := 62) (by decide +kernel) rfl (by decide) ?_
                        by_cases b91 : o4 = 62
                        · replace h := if_t b91 h
                          refine Ru.br2 (k := .ne) (off := 7) (bb := false) (tg := 243) (by decide +kernel) (by decide +kernel) (ci_ne0 g6 (by decide) b91) rfl ?_
                          refine Ru.kI (q := (.iconst 1, 1)) (c := 1) (by decide +kernel) rfl (by decide) ?_
                          refine Ru.op (q := (.goto 4, 3)) (by decide +kernel) rfl ?_
                          by_cases b92 : v2 = 1
                          · replace h := if_t b92 h
                            refine Ru.br2 (k := .eq) (off := 7) (bb := true) (tg := 255) (by decide +kernel) (by decide +kernel) (ci_eq1 g85 (by decide) b92) rfl ?_
                            refine Ru.kI (q := (.iconst 0, 1)) (c := 0) (by decide +kernel) rfl (by decide) ?_
                            refine Ru.op (q := (.istore_n 2, 1)) (S' := (257, [some (.ref 36), d1, some (vI 0), some (vI (v3 + 1)), some (vI v4), some (vI v5), some (vI o4)], [], _, _)) (by decide +kernel) rfl ?_
                            refine Ru.op (q := (.goto 8, 3)) (by decide +kernel) rfl ?_
                            refine Ru.op (q := (.goto (-255), 3)) (by decide +kernel) rfl ?_
                            exact ih _ _ _ _ _ _ _ _ h r hk
                          · replace h := if_f b92 h
                            refine Ru.br2 (k := .eq) (off := 7) (bb := false) (tg := 251) (by decide +kernel) (by decide +kernel) (ci_eq0 g85 (by decide) b92) rfl ?_
                            refine Ru.kI (q := (.iconst 1, 1)) (c := 1) (by decide +kernel) rfl (by decide) ?_
                            refine Ru.op (q := (.goto 4, 3)) (by decide +kernel) rfl ?_
                            refine Ru.op (q := (.istore_n 2, 1)) (S' := (257, [some (.ref 36), d1, some (vI 1), some (vI (v3 + 1)), some (vI v4), some (vI v5), some (vI o4)], [], _, _)) (by decide +kernel) rfl ?_
                            refine Ru.op (q := (.goto 8, 3)) (by decide +kernel) rfl ?_
                            refine Ru.op (q := (.goto (-255), 3)) (by decide +kernel) rfl ?_
                            exact ih _ _ _ _ _ _ _ _ h r hk
                        · replace h := if_f b91 h
                          refine Ru.br2 (k := .ne) (off := 7) (bb := true) (tg := 247) (by decide +kernel) (by decide +kernel) (ci_ne1 g6 (by decide) b91) rfl ?_
                          refine Ru.kI (q := (.iconst 0, 1)) (c := 0) (by decide +kernel) rfl (by decide) ?_
                          by_cases b93 : v2 = 0
                          · replace h := if_t b93 h
                            refine Ru.br2 (k := .eq) (off := 7) (bb := true) (tg := 255) (by decide +kernel) (by decide +kernel) (ci_eq1 g85 (by decide) b93) rfl ?_
                            refine Ru.kI (q := (.iconst 0, 1)) (c := 0) (by decide +kernel) rfl (by decide) ?_
                            refine Ru.op (q := (.istore_n 2, 1)) (S' := (257, [some (.ref 36), d1, some (vI 0), some (vI (v3 + 1)), some (vI v4), some (vI v5), some (vI o4)], [], _, _)) (by decide +kernel) rfl ?_
                            refine Ru.op (q := (.goto 8, 3)) (by decide +kernel) rfl ?_
                            refine Ru.op (q := (.goto (-255), 3)) (by decide +kernel) rfl ?_
                            exact ih _ _ _ _ _ _ _ _ h r hk
                          · replace h := if_f b93 h
                            refine Ru.br2 (k := .eq) (off := 7) (bb := false) (tg := 251) (by decide +kernel) (by decide +kernel) (ci_eq0 g85 (by decide) b93) rfl ?_
                            refine Ru.kI (q := (.iconst 1, 1)) (c := 1) (by decide +kernel) rfl (by decide) ?_
                            refine Ru.op (q := (.goto 4, 3)) (by decide +kernel) rfl ?_
                            refine Ru.op (q := (.istore_n 2, 1)) (S' := (257, [some (.ref 36), d1, some (vI 1), some (vI (v3 + 1)), some (vI v4), some (vI v5), some (vI o4)], [], _, _)) (by decide +kernel) rfl ?_
                            refine Ru.op (q := (.goto 8, 3)) (by decide +kernel) rfl ?_
                            refine Ru.op (q := (.goto (-255), 3)) (by decide +kernel) rfl ?_
                            exact ih _ _ _ _ _ _ _ _ h r hk
                    · replace h := if_f b86 h
                      refine Ru.br2 (k := .eq) (off := 7) (bb := false) (tg := 208) (by decide +kernel) (by decide +kernel) (ci_eq0 (by decide) g85 b86) rfl ?_
                      refine Ru.kI (q := (.iconst 1, 1)) (c := 1) (by decide +kernel) rfl (by decide) ?_
                      refine Ru.op (q := (.goto 4, 3)) (by decide +kernel) rfl ?_
                      obtain ⟨o94, e95, h⟩ := ob_some h
                      refine Ru.vcall (i := 224) (j2 := 116) (as := [vI 1]) (by decide +kernel) (by rfl) rfl rfl (hp36 _) (by decide) ⟨(Nat.le_of_ble_eq_true rfl), (by show 19 + 3 ≤ 353; exact Nat.le_of_ble_eq_true rfl), Nat.le_of_ble_eq_true rfl, Nat.le_of_ble_eq_true rfl⟩ ((g116_ok e95).up (Nat.le_of_ble_eq_true rfl) (Nat.le_of_ble_eq_true rfl)) ?_
                      refine Ru.op (q := (.iload 6, 2)) (by decide +kernel) rfl ?_
                      refine Ru.kI (q := (.bipush 126, 2)) (c := 126) (by decide +kernel) rfl (by decide) ?_
                      by_cases b96 : o4 = 126
                      · replace h := if_t b96 h
                        refine Ru.br2 (k := .ne) (off := 15) (bb := false) (tg := 223) (by decide +kernel) (by decide +kernel) (ci_ne0 g6 (by decide) b96) rfl ?_
                        refine Ru.op (q := (.iload_n 2, 1)) (by decide +kernel) rfl ?_
                        by_cases b97 : v2 = 0
                        · replace h := if_t b97 h
                          refine Ru.br (k := .ne) (off := 7) (bb := false) (tg := 227) (by decide +kernel) (by decide +kernel) (cz (ci_ne0 g85 (by decide) b97)) rfl ?_
                          refine Ru.kI (q := (.iconst 1, 1)) (c := 1) (by decide +kernel) rfl (by decide) ?_
                          refine Ru.op (q := (.goto 28, 3)) (by decide +kernel) rfl ?_
                          refine Ru.op (q := (.istore_n 2, 1)) (S' := (257, [some (.ref 36), d1, some (vI 1), some (vI (v3 + 1)), some (vI v4), some (vI v5), some (vI o4)], [], _, _)) (by decide +kernel) rfl ?_
                          refine Ru.op (q := (.goto 8, 3)) (by decide +kernel) rfl ?_
                          refine Ru.op (q := (.goto (-255), 3)) (by decide +kernel) rfl ?_
                          exact ih _ _ _ _ _ _ _ _ h r hk
                        · replace h := if_f b97 h
                          refine Ru.br (k := .ne) (off := 7) (bb := true) (tg := 231) (by decide +kernel) (by decide +kernel) (cz (ci_ne1 g85 (by decide) b97)) rfl ?_
                          refine Ru.kI (q := (.iconst 0, 1)) (c := 0) (by decide +kernel) rfl (by decide) ?_
                          refine Ru.op (q := (.goto 24, 3)) (by decide +kernel) rfl ?_
                          refine Ru.op (q := (.istore_n 2, 1)) (S' := (257, [some (.ref 36), d1, some (vI 0), some (vI (v3 + 1)), some (vI v4), some (vI v5), some (vI o4)], [], _, _)) (by decide +kernel) rfl ?_
                          refine Ru.op (q := (.goto 8, 3)) (by decide +kernel) rfl ?_
                          refine Ru.op (q := (.goto (-255), 3)) (by decide +kernel) rfl ?_
                          exact ih _ _ _ _ _ _ _ _ h r hk
                      · replace h := if_f b96 h
                        refine Ru.br2 (k := .ne) (off := 15) (bb := true) (tg := 235) (by decide +kernel) (by decide +kernel) (ci_ne1 g6 (by decide) b96) rfl ?_
                        refine Ru.op (q := (.iload_n 2, 1)) (by decide +kernel) rfl ?_
                        refine Ru.op (q := (.iload 6, 2)) (by decide +kernel) rfl ?_
                        refine Ru.kI (q := (.bipush 62, 2)) (c := 62) (by decide +kernel) rfl (by decide) ?_
                        by_cases b98 : o4 = 62
                        · replace h := if_t b98 h
                          refine Ru.br2 (k := .ne) (off := 7) (bb := false) (tg := 243) (by decide +kernel) (by decide +kernel) (ci_ne0 g6 (by decide) b98) rfl ?_
                          refine Ru.kI (q := (.iconst 1, 1)) (c := 1) (by decide +kernel) rfl (by decide) ?_
                          refine Ru.op (q := (.goto 4, 3)) (by decide +kernel) rfl ?_
                          by_cases b99 : v2 = 1
                          · replace h := if_t b99 h
                            refine Ru.br2 (k := .eq) (off := 7) (bb := true) (tg := 255) (by decide +kernel) (by decide +kernel) (ci_eq1 g85 (by decide) b99) rfl ?_
                            refine Ru.kI (q := (.iconst 0, 1)) (c := 0) (by decide +kernel) rfl (by decide) ?_
                            refine Ru.op (q := (.istore_n 2, 1)) (S' := (257, [some (.ref 36), d1, some (vI 0), some (vI (v3 + 1)), some (vI v4), some (vI v5), some (vI o4)], [], _, _)) (by decide +kernel) rfl ?_
                            refine Ru.op (q := (.goto 8, 3)) (by decide +kernel) rfl ?_
                            refine Ru.op (q := (.goto (-255), 3)) (by decide +kernel) rfl ?_
                            exact ih _ _ _ _ _ _ _ _ h r hk
                          · replace h := if_f b99 h
                            refine Ru.br2 (k := .eq) (off := 7) (bb := false) (tg := 251) (by decide +kernel) (by decide +kernel) (ci_eq0 g85 (by decide) b99) rfl ?_
                            refine Ru.kI (q := (.iconst 1, 1)) (c := 1) (by decide +kernel) rfl (by decide) ?_
                            refine Ru.op (q := (.goto 4, 3)) (by decide +kernel) rfl ?_
                            refine Ru.op (q := (.istore_n 2, 1)) (S' := (257, [some (.ref 36), d1, some (vI 1), some (vI (v3 + 1)), some (vI v4), some (vI v5), some (vI o4)], [], _, _)) (by decide +kernel) rfl ?_
                            refine Ru.op (q := (.goto 8, 3)) (by decide +kernel) rfl ?_
                            refine Ru.op (q := (.goto (-255), 3)) (by decide +kernel) rfl ?_
                            exact ih _ _ _ _ _ _ _ _ h r hk
                        · replace h := if_f b98 h
                          refine Ru.br2 (k := .ne) (off := 7) (bb := true) (tg := 247) (by decide +kernel) (by decide +kernel) (ci_ne1 g6 (by decide) b98) rfl ?_
                          refine Ru.kI (q := (.iconst 0, 1)) (c := 0) (by decide +kernel) rfl (by decide) ?_
                          by_cases b100 : v2 = 0
                          · replace h := if_t b100 h
                            refine Ru.br2 (k := .eq) (off := 7) (bb := true) (tg := 255) (by decide +kernel) (by decide +kernel) (ci_eq1 g85 (by decide) b100) rfl ?_
                            refine Ru.kI (q := (.iconst 0, 1)) (c := 0) (by decide +kernel) rfl (by decide) ?_
                            refine Ru.op (q := (.istore_n 2, 1)) (S' := (257, [some (.ref 36), d1, some (vI 0), some (vI (v3 + 1)), some (vI v4), some (vI v5), some (vI o4)], [], _, _)) (by decide +kernel) rfl ?_
                            refine Ru.op (q := (.goto 8, 3)) (by decide +kernel) rfl ?_
                            refine Ru.op (q := (.goto (-255), 3)) (by decide +kernel) rfl ?_
                            exact ih _ _ _ _ _ _ _ _ h r hk
                          · replace h := if_f b100 h
                            refine Ru.br2 (k := .eq) (off := 7) (bb := false) (tg := 251) (by decide +kernel) (by decide +kernel) (ci_eq0 g85 (by decide) b100) rfl ?_
                            refine Ru.kI (q := (.iconst 1, 1)) (c := 1) (by decide +kernel) rfl (by decide) ?_
                            refine Ru.op (q := (.goto 4, 3)) (by decide +kernel) rfl ?_
                            refine Ru.op (q := (.istore_n 2, 1)) (S' := (257, [some (.ref 36), d1, some (vI 1), some (vI (v3 + 1)), some (vI v4), some (vI v5), some (vI o4)], [], _, _)) (by decide +kernel) rfl ?_
                            refine Ru.op (q := (.goto 8, 3)) (by decide +kernel) rfl ?_
                            refine Ru.op (q := (.goto (-255), 3)) (by decide +kernel) rfl ?_
                            exact ih _ _ _ _ _ _ _ _ h r hk
                  · replace h := if_f b84 h
                    refine Ru.br2 (k := .ne) (off := 28) (bb := true) (tg := 216) (by decide +kernel) (by decide +kernel) (ci_ne1 g6 (by decide) b84) rfl ?_
                    refine Ru.op (q := (.iload 6, 2)) (by decide +kernel) rfl ?_
                    refine Ru.kI (q := (.bipush 126, 2)) (c := 126) (by decide +kernel) rfl (by decide) ?_
                    by_cases b101 : o4 = 126
                    · replace h := if_t b101 h
                      refine Ru.br2 (k := .ne) (off := 15) (bb := false) (tg := 223) (by decide +kernel) (by decide +kernel) (ci_ne0 g6 (by decide) b101) rfl ?_
                      refine Ru.op (q := (.iload_n 2, 1)) (by decide +kernel) rfl ?_
                      obtain ⟨g102, h⟩ := gd_some h
                      by_cases b103 : v2 = 0
                      · replace h := if_t b103 h
                        refine Ru.br (k := .ne) (off := 7) (bb := false) (tg := 227) (by decide +kernel) (by decide +kernel) (cz (ci_ne0 g102 (by decide) b103)) rfl ?_
                        refine Ru.kI (q := (.iconst 1, 1)) (c := 1) (by decide +kernel) rfl (by decide) ?_
                        refine Ru.op (q := (.goto 28, 3)) (by decide +kernel) rfl ?_
                        refine Ru.op (q := (.istore_n 2, 1)) (S' := (257, [some (.ref 36), d1, some (vI 1), some (vI (v3 + 1)), some (vI v4), some (vI v5), some (vI o4)], [], _, _)) (by decide +kernel) rfl ?_
                        refine Ru.op (q := (.goto 8, 3)) (by decide +kernel) rfl ?_
                        refine Ru.op (q := (.goto (-255), 3)) (by decide +kernel) rfl ?_
                        exact ih _ _ _ _ _ _ _ _ h r hk
                      · replace h := if_f b103 h
                        refine Ru.br (k := .ne) (off := 7) (bb := true) (tg := 231) (by decide +kernel) (by decide +kernel) (cz (ci_ne1 g102 (by decide) b103)) rfl ?_
                        refine Ru.kI (q := (.iconst 0, 1)) (c := 0) (by decide +kernel) rfl (by decide) ?_
                        refine Ru.op (q := (.goto 24, 3)) (by decide +kernel) rfl ?_
                        refine Ru.op (q := (.istore_n 2, 1)) (S' := (257, [some (.ref 36), d1, some (vI 0), some (vI (v3 + 1)), some (vI v4), some (vI v5), some (vI o4)], [], _, _)) (by decide +kernel) rfl ?_
                        refine Ru.op (q := (.goto 8, 3)) (by decide +kernel) rfl ?_
                        refine Ru.op (q := (.goto (-255), 3)) (by decide +kernel) rfl ?_
                        exact ih _ _ _ _ _ _ _ _ h r hk
                    · replace h := if_f b101 h
                      refine Ru.br2 (k := .ne) (off := 15) (bb := true) (tg := 235) (by decide +kernel) (by decide +kernel) (ci_ne1 g6 (by decide) b101) rfl ?_
                      refine Ru.op (q := (.iload_n 2, 1)) (by decide +kernel) rfl ?_
                      refine Ru.op (q := (.iload 6, 2)) (by decide +kernel) rfl ?_
                      refine Ru.kI (q := (.bipush 62, 2)) (c := 62) (by decide +kernel) rfl (by decide) ?_
                      by_cases b104 : o4 = 62
                      · replace h := if_t b104 h
                        refine Ru.br2 (k := .ne) (off := 7) (bb := false) (tg := 243) (by decide +kernel) (by decide +kernel) (ci_ne0 g6 (by decide) b104) rfl ?_
                        refine Ru.kI (q := (.iconst 1, 1)) (c := 1) (by decide +kernel) rfl (by decide) ?_
                        refine Ru.op (q := (.goto 4, 3)) (by decide +kernel) rfl ?_
                        obtain ⟨g105, h⟩ := gd_some h
                        by_cases b106 : v2 = 1
                        · replace h := if_t b106 h
                          refine Ru.br2 (k := .eq) (off := 7) (bb := true) (tg := 255) (by decide +kernel) (by decide +kernel) (ci_eq1 g105 (by decide) b106) rfl ?_
                          refine Ru.kI (q := (.iconst 0, 1)) (c := 0) (by decide +kernel) rfl (by decide) ?_
                          refine Ru.op (q := (.istore_n 2, 1)) (S' := (257, [some (.ref 36), d1, some (vI 0), some (vI (v3 + 1)), some (vI v4), some (vI v5), some (vI o4)], [], _, _)) (by decide +kernel) rfl ?_
                          refine Ru.op (q := (.goto 8, 3)) (by decide +kernel) rfl ?_
                          refine Ru.op (q := (.goto (-255), 3)) (by decide +kernel) rfl ?_
                          exact ih _ _ _ _ _ _ _ _ h r hk
                        · replace h := if_f b106 h
                          refine Ru.br2 (k := .eq) (off := 7) (bb := false) (tg := 251) (by decide +kernel) (by decide +kernel) (ci_eq0 g105 (by decide) b106) rfl ?_
                          refine Ru.kI (q := (.iconst 1, 1)) (c := 1) (by decide +kernel) rfl (by decide) ?_
                          refine Ru.op (q := (.goto 4, 3)) (by decide +kernel) rfl ?_
                          refine Ru.op (q := (.istore_n 2, 1)) (S' := (257, [some (.ref 36), d1, some (vI 1), some (vI (v3 + 1)), some (vI v4), some (vI v5), some (vI o4)], [], _, _)) (by decide +kernel) rfl ?_
                          refine Ru.op (q := (.goto 8, 3)) (by decide +kernel) rfl ?_
                          refine Ru.op (q := (.goto (-255), 3)) (by decide +kernel) rfl ?_
                          exact ih _ _ _ _ _ _ _ _ h r hk
                      · replace h := if_f b104 h
                        refine Ru.br2 (k := .ne) (off := 7) (bb := true) (tg := 247) (by decide +kernel) (by decide +kernel) (ci_ne1 g6 (by decide) b104) rfl ?_
                        refine Ru.kI (q := (.iconst 0, 1)) (c := 0) (by decide +kernel) rfl (by decide) ?_
                        obtain ⟨g107, h⟩ := gd_some h
                        by_cases b108 : v2 = 0
                        · replace h := if_t b108 h
                          refine Ru.br2 (k := .eq) (off := 7) (bb := true) (tg := 255) (by decide +kernel) (by decide +kernel) (ci_eq1 g107 (by decide) b108) rfl ?_
                          refine Ru.kI (q := (.iconst 0, 1)) (c := 0) (by decide +kernel) rfl (by decide) ?_
                          refine Ru.op (q := (.istore_n 2, 1)) (S' := (257, [some (.ref 36), d1, some (vI 0), some (vI (v3 + 1)), some (vI v4), some (vI v5), some (vI o4)], [], _, _)) (by decide +kernel) rfl ?_
                          refine Ru.op (q := (.goto 8, 3)) (by decide +kernel) rfl ?_
                          refine Ru.op (q := (.goto (-255), 3)) (by decide +kernel) rfl ?_
                          exact ih _ _ _ _ _ _ _ _ h r hk
                        · replace h := if_f b108 h
                          refine Ru.br2 (k := .eq) (off := 7) (bb := false) (tg := 251) (by decide +kernel) (by decide +kernel) (ci_eq0 g107 (by decide) b108) rfl ?_
                          refine Ru.kI (q := (.iconst 1, 1)) (c := 1) (by decide +kernel) rfl (by decide) ?_
                          refine Ru.op (q := (.goto 4, 3)) (by decide +kernel) rfl ?_
                          refine Ru.op (q := (.istore_n 2, 1)) (S' := (257, [some (.ref 36), d1, some (vI 1), some (vI (v3 + 1)), some (vI v4), some (vI v5), some (vI o4)], [], _, _)) (by decide +kernel) rfl ?_
                          refine Ru.op (q := (.goto 8, 3)) (by decide +kernel) rfl ?_
                          refine Ru.op (q := (.goto (-255), 3)) (by decide +kernel) rfl ?_
                          exact ih _ _ _ _ _ _ _ _ h r hk
              · replace h := if_f b64 h
                refine Ru.br2 (k := .ge) (off := 121) (bb := true) (tg := 260) (by decide +kernel) (by decide +kernel) (ci_ge1 g63 (by decide) b64) rfl ?_
                refine Ru.op (q := (.aload_n 0, 1)) (by decide +kernel) rfl ?_
                refine Ru.kI (q := (.iconst 1, 1)) (c := 1) (by decide +kernel) rfl (by decide) ?_
                refine Ru.putH (i := 151) (by decide +kernel) (by rfl) (hp36 _) (by decide) (Nat.le_of_ble_eq_true rfl) (fk_b (by decide)) (by decide +kernel) (pf_36_28 _ _) ?_
                refine Ru.op (q := (.goto (-255), 3)) (by decide +kernel) rfl ?_
                exact ih _ _ _ _ _ _ _ _ h r hk
          · replace h := if_f b58 h
            refine Ru.br2 (k := .gt) (off := 88) (bb := false) (tg := 42) (by decide +kernel) (by decide +kernel) (ci_gt0 g6 (by decide) b58) rfl ?_
            refine Ru.op (q := (.aload_n 0, 1)) (by decide +kernel) rfl ?_
            refine Ru.op (q := (.iload_n 2, 1)) (by decide +kernel) rfl ?_
            obtain ⟨o109, e110, h⟩ := ob_some h
            refine Ru.vcall (i := 207) (j2 := 103) (as := [vI v2]) (by decide +kernel) (by rfl) rfl rfl (hp36 _) (by decide) ⟨(Nat.le_of_ble_eq_true rfl), (by show 19 + 2 ≤ 353; exact Nat.le_of_ble_eq_true rfl), Nat.le_of_ble_eq_true rfl, Nat.le_of_ble_eq_true rfl⟩ ((g103_ok e110).up (Nat.le_of_ble_eq_true rfl) (Nat.le_of_ble_eq_true rfl)) ?_
            refine Ru.op (q := (.aload_n 0, 1)) (by decide +kernel) rfl ?_
            refine Ru.getI (i := 192) (x := (o109.F 36 36)) (by decide +kernel) (by rfl) (hp36 _) (by decide) rfl (eI_of _) ?_
            by_cases b111 : (o109.F 36 36) = 0
            · replace h := if_t b111 h
              refine Ru.br (k := .ne) (off := 10) (bb := false) (tg := 54) (by decide +kernel) (by decide +kernel) (cz (ci_ne0 (inR_to _) (by decide) b111)) rfl ?_
              refine Ru.op (q := (.aload_n 0, 1)) (by decide +kernel) rfl ?_
              refine Ru.getI (i := 151) (x := (o109.F 36 28)) (by decide +kernel) (by rfl) (hp36 _) (by decide) rfl (eI_of _) ?_
              by_cases b112 : (o109.F 36 28) = 0
              · replace h := if_t b112 h
                refine Ru.br (k := .eq) (off := 7) (bb := true) (tg := 65) (by decide +kernel) (by decide +kernel) (cz (ci_eq1 (inR_to _) (by decide) b112)) rfl ?_
                refine Ru.op (q := (.aload_n 0, 1)) (by decide +kernel) rfl ?_
                refine Ru.op (q := (.aload_n 0, 1)) (by decide +kernel) rfl ?_
                refine Ru.getI (i := 186) (x := (o109.F 36 46)) (by decide +kernel) (by rfl) (hp36 _) (by decide) rfl (eI_of _) ?_
                refine Ru.kI (q := (.iconst 1, 1)) (c := 1) (by decide +kernel) rfl (by decide) ?_
                refine Ru.ar2 (i := .isub) (z := ((o109.F 36 46) - 1)) (by decide +kernel) rfl (ar_sub _ _) ?_
                obtain ⟨o113, e114, h⟩ := ob_some h
                refine Ru.vcall (i := 211) (j2 := 112) (as := [vI ((o109.F 36 46) - 1)]) (by decide +kernel) (by rfl) rfl rfl (hp36 _) (by decide) ⟨(Nat.le_of_ble_eq_true rfl), (by show 19 + 2 ≤ 353; exact Nat.le_of_ble_eq_true rfl), Nat.le_of_ble_eq_true rfl, Nat.le_of_ble_eq_true rfl⟩ ((g112_ok e114).up (Nat.le_of_ble_eq_true rfl) (Nat.le_of_ble_eq_true rfl)) ?_
                refine Ru.op (q := (.istore 4, 2)) (S' := (77, [some (.ref 36), d1, some (vI v2), some (vI v3), some (vI o113.1), some (vI v5), some (vI o4)], [], _, _)) (by decide +kernel) rfl ?_
                refine Ru.op (q := (.aload_n 0, 1)) (by decide +kernel) rfl ?_
                refine Ru.op (q := (.iload_n 3, 1)) (by decide +kernel) rfl ?_
                refine Ru.op (q := (.iload 4, 2)) (by decide +kernel) rfl ?_
                obtain ⟨o115, e116, h⟩ := ob_some h
                refine Ru.vcall (i := 214) (j2 := 113) (as := [vI v3, vI o113.1]) (by decide +kernel) (by rfl) rfl rfl (hp36 _) (by decide) ⟨(Nat.le_of_ble_eq_true rfl), (by show 19 + 5 ≤ 353; exact Nat.le_of_ble_eq_true rfl), Nat.le_of_ble_eq_true rfl, Nat.le_of_ble_eq_true rfl⟩ ((g113_ok e116).up (Nat.le_of_ble_eq_true rfl) (Nat.le_of_ble_eq_true rfl)) ?_
                refine Ru.op (q := (.istore_n 3, 1)) (S' := (85, [some (.ref 36), d1, some (vI v2), some (vI o115.1), some (vI o113.1), some (vI v5), some (vI o4)], [], _, _)) (by decide +kernel) rfl ?_
                refine Ru.op (q := (.iload_n 3, 1)) (by decide +kernel) rfl ?_
                obtain ⟨g117, h⟩ := gd_some h
                by_cases b118 : 0 < o115.1
                · replace h := if_t b118 h
                  refine Ru.br (k := .le) (off := 7) (bb := false) (tg := 89) (by decide +kernel) (by decide +kernel) (cz (ci_le0 g117 (by decide) b118)) rfl ?_
                  refine Ru.kI (q := (.iconst 1, 1)) (c := 1) (by decide +kernel) rfl (by decide) ?_
                  refine Ru.op (q := (.goto 4, 3)) (by decide +kernel) rfl ?_
                  refine Ru.op (q := (.istore 5, 2)) (S' := (96, [some (.ref 36), d1, some (vI v2), some (vI o115.1), some (vI o113.1), some (vI 1), some (vI o4)], [], _, _)) (by decide +kernel) rfl ?_
                  refine Ru.op (q := (.iload 5, 2)) (by decide +kernel) rfl ?_
                  refine Ru.br (k := .eq) (off := 18) (bb := false) (tg := 101) (by decide +kernel) (by decide +kernel) (by decide) rfl ?_
                  refine Ru.op (q := (.aload_n 0, 1)) (by decide +kernel) rfl ?_
                  refine Ru.get (i := 72) (v := .ref 55) (by decide +kernel) (by rfl) (hp36 _) (by decide) rfl ?_
                  refine Ru.op (q := (.iload_n 3, 1)) (by decide +kernel) rfl ?_
                  refine Ru.kI (q := (.iconst 1, 1)) (c := 1) (by decide +kernel) rfl (by decide) ?_
                  refine Ru.ar2 (i := .isub) (z := (o115.1 - 1)) (by decide +kernel) rfl (ar_sub _ _) ?_
                  obtain ⟨g119, h⟩ := gd_some h
                  refine Ru.bldI (i := (o115.1 - 1)) (z := (o115.2.A 55 (o115.1 - 1))) (by decide +kernel) (hp55 _) g119 (eI_of _) ?_
                  by_cases b120 : (o115.2.A 55 (o115.1 - 1)) = 0
                  · replace h := if_t b120 h
                    refine Ru.br (k := .eq) (off := 7) (bb := true) (tg := 116) (by decide +kernel) (by decide +kernel) (cz (ci_eq1 (inR_to _) (by decide) b120)) rfl ?_
                    refine Ru.kI (q := (.iconst 0, 1)) (c := 0) (by decide +kernel) rfl (by decide) ?_
                    refine Ru.op (q := (.istore_n 2, 1)) (S' := (118, [some (.ref 36), d1, some (vI 0), some (vI o115.1), some (vI o113.1), some (vI 1), some (vI o4)], [], _, _)) (by decide +kernel) rfl ?_
                    refine Ru.op (q := (.aload_n 0, 1)) (by decide +kernel) rfl ?_
                    refine Ru.getI (i := 218) (x := (o115.2.F 36 42)) (by decide +kernel) (by rfl) (hp36 _) (by decide) rfl (eI_of _) ?_
                    refine Ru.op (q := (.istore 4, 2)) (S' := (124, [some (.ref 36), d1, some (vI 0), some (vI o115.1), some (vI (o115.2.F 36 42)), some (vI 1), some (vI o4)], [], _, _)) (by decide +kernel) rfl ?_
                    refine Ru.op (q := (.goto 141, 3)) (by decide +kernel) rfl ?_
                    refine Ru.op (q := (.goto (-255), 3)) (by decide +kernel) rfl ?_
                    exact ih _ _ _ _ _ _ _ _ h r hk
                  · replace h := if_f b120 h
                    refine Ru.br (k := .eq) (off := 7) (bb := false) (tg := 112) (by decide +kernel) (by decide +kernel) (cz (ci_eq0 (inR_to _) (by decide) b120)) rfl ?_
                    refine Ru.kI (q := (.iconst 1, 1)) (c := 1) (by decide +kernel) rfl (by decide) ?_
                    refine Ru.op (q := (.goto 4, 3)) (by decide +kernel) rfl ?_
                    refine Ru.op (q := (.istore_n 2, 1)) (S' := (118, [some (.ref 36), d1, some (vI 1), some (vI o115.1), some (vI o113.1), some (vI 1), some (vI o4)], [], _, _)) (by decide +kernel) rfl ?_
                    refine Ru.op (q := (.aload_n 0, 1)) (by decide +kernel) rfl ?_
                    refine Ru.getI (i := 218) (x := (o115.2.F 36 42)) (by decide +kernel) (by rfl) (hp36 _) (by decide) rfl (eI_of _) ?_
                    refine Ru.op (q := (.istore 4, 2)) (S' := (124, [some (.ref 36), d1, some (vI 1), some (vI o115.1), some (vI (o115.2.F 36 42)), some (vI 1), some (vI o4)], [], _, _)) (by decide +kernel) rfl ?_
                    refine Ru.op (q := (.goto 141, 3)) (by decide +kernel) rfl ?_
                    refine Ru.op (q := (.goto (-255), 3)) (by decide +kernel) rfl ?_
                    exact ih _ _ _ _ _ _ _ _ h r hk
                · replace h := if_f b118 h
                  refine Ru.br (k := .le) (off := 7) (bb := true) (tg := 93) (by decide +kernel) (by decide +kernel) (cz (ci_le1 g117 (by decide) b118)) rfl ?_
                  refine Ru.kI (q := (.iconst 0, 1)) (c := 0) (by decide +kernel) rfl (by decide) ?_
                  refine Ru.op (q := (.istore 5, 2)) (S' := (96, [some (.ref 36), d1, some (vI v2), some (vI o115.1), some (vI o113.1), some (vI 0), some (vI o4)], [], _, _)) (by decide +kernel) rfl ?_
                  refine Ru.op (q := (.iload 5, 2)) (by decide +kernel) rfl ?_
                  refine Ru.br (k := .eq) (off := 18) (bb := true) (tg := 116) (by decide +kernel) (by decide +kernel) (by decide) rfl ?_
                  refine Ru.kI (q := (.iconst 0, 1)) (c := 0) (by decide +kernel) rfl (by decide) ?_
                  refine Ru.op (q := (.istore_n 2, 1)) (S' := (118, [some (.ref 36), d1, some (vI 0), some (vI o115.1), some (vI o113.1), some (vI 0), some (vI o4)], [], _, _)) (by decide +kernel) rfl ?_
                  refine Ru.op (q := (.aload_n 0, 1)) (by decide +kernel) rfl ?_
                  refine Ru.getI (i := 218) (x := (o115.2.F 36 42)) (by decide +kernel) (by rfl) (hp36 _) (by decide) rfl (eI_of _) ?_
                  refine Ru.op (q := (.istore 4, 2)) (S' := (124, [some (.ref 36), d1, some (vI 0), some (vI o115.1), some (vI (o115.2.F 36 42)), some (vI 0), some (vI o4)], [], _, _)) (by decide +kernel) rfl ?_
                  refine Ru.op (q := (.goto 141, 3)) (by decide +kernel) rfl ?_
                  refine Ru.op (q := (.goto (-255), 3)) (by decide +kernel) rfl ?_
                  exact ih _ _ _ _ _ _ _ _ h r hk
              · replace h := if_f b112 h
                refine Ru.br (k := .eq) (off := 7) (bb := false) (tg := 61) (by decide +kernel) (by decide +kernel) (cz (ci_eq0 (inR_to _) (by decide) b112)) rfl ?_
                refine Ru.kI (q := (.iconst 0, 1)) (c := 0) (by decide +kernel) rfl (by decide) ?_
                refine Ru.op (q := (.goto 13, 3)) (by decide +kernel) rfl ?_
                refine Ru.op (q := (.istore 4, 2)) (S' := (77, [some (.ref 36), d1, some (vI v2), some (vI v3), some (vI 0), some (vI v5), some (vI o4)], [], _, _)) (by decide +kernel) rfl ?_
                refine Ru.op (q := (.aload_n 0, 1)) (by decide +kernel) rfl ?_
                refine Ru.op (q := (.iload_n 3, 1)) (by decide +kernel) rfl ?_
                refine Ru.op (q := (.iload 4, 2)) (by decide +kernel) rfl ?_
                obtain ⟨o121, e122, h⟩ := ob_some h
                refine Ru.vcall (i := 214) (j2 := 113) (as := [vI v3, vI 0]) (by decide +kernel) (by rfl) rfl rfl (hp36 _) (by decide) ⟨(Nat.le_of_ble_eq_true rfl), (by show 19 + 5 ≤ 353; exact Nat.le_of_ble_eq_true rfl), Nat.le_of_ble_eq_true rfl, Nat.le_of_ble_eq_true rfl⟩ ((g113_ok e122).up (Nat.le_of_ble_eq_true rfl) (Nat.le_of_ble_eq_true rfl)) ?_
                refine Ru.op (q := (.istore_n 3, 1)) (S' := (85, [some (.ref 36), d1, some (vI v2), some (vI o121.1), some (vI 0), some (vI v5), some (vI o4)], [], _, _)) (by decide +kernel) rfl ?_
                refine Ru.op (q := (.iload_n 3, 1)) (by decide +kernel) rfl ?_
                obtain ⟨g123, h⟩ := gd_some h
                by_cases b124 : 0 < o121.1
                · replace h := if_t b124 h
                  refine Ru.br (k := .le) (off := 7) (bb := false) (tg := 89) (by decide +kernel) (by decide +kernel) (cz (ci_le0 g123 (by decide) b124)) rfl ?_
                  refine Ru.kI (q := (.iconst 1, 1)) (c := 1) (by decide +kernel) rfl (by decide) ?_
                  refine Ru.op (q := (.goto 4, 3)) (by decide +kernel) rfl ?_
                  refine Ru.op (q := (.istore 5, 2)) (S' := (96, [some (.ref 36), d1, some (vI v2), some (vI o121.1), some (vI 0), some (vI 1), some (vI o4)], [], _, _)) (by decide +kernel) rfl ?_
                  refine Ru.op (q := (.iload 5, 2)) (by decide +kernel) rfl ?_
                  refine Ru.br (k := .eq) (off := 18) (bb := false) (tg := 101) (by decide +kernel) (by decide +kernel) (by decide) rfl ?_
                  refine Ru.op (q := (.aload_n 0, 1)) (by decide +kernel) rfl ?_
                  refine Ru.get (i := 72) (v := .ref 55) (by decide +kernel) (by rfl) (hp36 _) (by decide) rfl ?_
                  refine Ru.op (q := (.iload_n 3, 1)) (by decide +kernel) rfl ?_
                  refine Ru.kI (q := (.iconst 1, 1)) (c := 1) (by decide +kernel) rfl (by decide) ?_
                  refine Ru.ar2 (i := .isub) (z := (o121.1 - 1)) (by decide +kernel) rfl (ar_sub _ _) ?_
                  obtain ⟨g125, h⟩ := gd_some h
                  refine Ru.bldI (i := (o121.1 - 1)) (z := (o121.2.A 55 (o121.1 - 1))) (by decide +kernel) (hp55 _) g125 (eI_of _) ?_
                  by_cases b126 : (o121.2.A 55 (o121.1 - 1)) = 0
                  · replace h := if_t b126 h
                    refine Ru.br (k := .eq) (off := 7) (bb := true) (tg := 116) (by decide +kernel) (by decide +kernel) (cz (ci_eq1 (inR_to _) (by decide) b126)) rfl ?_
                    refine Ru.kI (q := (.iconst 0, 1)) (c := 0) (by decide +kernel) rfl (by decide) ?_
                    refine Ru.op (q := (.istore_n 2, 1)) (S' := (118, [some (.ref 36), d1, some (vI 0), some (vI o121.1), some (vI 0), some (vI 1), some (vI o4)], [], _, _)) (by decide +kernel) rfl ?_
                    refine Ru.op (q := (.aload_n 0, 1)) (by decide +kernel) rfl ?_
                    refine Ru.getI (i := 218) (x := (o121.2.F 36 42)) (by decide +kernel) (by rfl) (hp36 _) (by decide) rfl (eI_of _) ?_
                    refine Ru.op (q := (.istore 4, 2)) (S' := (124, [some (.ref 36), d1, some (vI 0), some (vI o121.1), some (vI (o121.2.F 36 42)), some (vI 1), some (vI o4)], [], _, _)) (by decide +kernel) rfl ?_
                    refine Ru.op (q := (.goto 141, 3)) (by decide +kernel) rfl ?_
                    refine Ru.op (q := (.goto (-255), 3)) (by decide +kernel) rfl ?_
                    exact ih _ _ _ _ _ _ _ _ h r hk
                  · replace h := if_f b126 h
                    refine Ru.br (k := .eq) (off := 7) (bb := false) (tg := 112) (by decide +kernel) (by decide +kernel) (cz (ci_eq0 (inR_to _) (by decide) b126)) rfl ?_
                    refine Ru.kI (q := (.iconst 1, 1)) (c := 1) (by decide +kernel) rfl (by decide) ?_
                    refine Ru.op (q := (.goto 4, 3)) (by decide +kernel) rfl ?_
                    refine Ru.op (q := (.istore_n 2, 1)) (S' := (118, [some (.ref 36), d1, some (vI 1), some (vI o121.1), some (vI 0), some (vI 1), some (vI o4)], [], _, _)) (by decide +kernel) rfl ?_
                    refine Ru.op (q := (.aload_n 0, 1)) (by decide +kernel) rfl ?_
                    refine Ru.getI (i := 218) (x := (o121.2.F 36 42)) (by decide +kernel) (by rfl) (hp36 _) (by decide) rfl (eI_of _) ?_
                    refine Ru.op (q := (.istore 4, 2)) (S' := (124, [some (.ref 36), d1, some (vI 1), some (vI o121.1), some (vI (o121.2.F 36 42)), some (vI 1), some (vI o4)], [], _, _)) (by decide +kernel) rfl ?_
                    refine Ru.op (q := (.goto 141, 3)) (by decide +kernel) rfl ?_
                    refine Ru.op (q := (.goto (-255), 3)) (by decide +kernel) rfl ?_
                    exact ih _ _ _ _ _ _ _ _ h r hk
                · replace h := if_f b124 h
                  refine Ru.br (k := .le) (off := 7) (bb := true) (tg := 93) (by decide +kernel) (by decide +kernel) (cz (ci_le1 g123 (by decide) b124)) rfl ?_
                  refine Ru.kI (q := (.iconst 0, 1)) (c := 0) (by decide +kernel) rfl (by decide) ?_
                  refine Ru.op (q := (.istore 5, 2)) (S' := (96, [some (.ref 36), d1, some (vI v2), some (vI o121.1), some (vI 0), some (vI 0), some (vI o4)], [], _, _)) (by decide +kernel) rfl ?_
                  refine Ru.op (q := (.iload 5, 2)) (by decide +kernel) rfl ?_
                  refine Ru.br (k := .eq) (off := 18) (bb := true) (tg := 116) (by decide +kernel) (by decide +kernel) (by decide) rfl ?_
                  refine Ru.kI (q := (.iconst 0, 1)) (c := 0) (by decide +kernel) rfl (by decide) ?_
                  refine Ru.op (q := (.istore_n 2, 1)) (S' := (118, [some (.ref 36), d1, some (vI 0), some (vI o121.1), some (vI 0), some (vI 0), some (vI o4)], [], _, _)) (by decide +kernel) rfl ?_
                  refine Ru.op (q := (.aload_n 0, 1)) (by decide +kernel) rfl ?_
                  refine Ru.getI (i := 218) (x := (o121.2.F 36 42)) (by decide +kernel) (by rfl) (hp36 _) (by decide) rfl (eI_of _) ?_
                  refine Ru.op (q := (.istore 4, 2)) (S' := (124, [some (.ref 36), d1, some (vI 0), some (vI o121.1), some (vI (o121.2.F 36 42)), some (vI 0), some (vI o4)], [], _, _)) (by decide +kernel) rfl ?_
                  refine Ru.op (q := (.goto 141, 3)) (by decide +kernel) rfl ?_
                  refine Ru.op (q := (.goto (-255), 3)) (by decide +kernel) rfl ?_
                  exact ih _ _ _ _ _ _ _ _ h r hk
            · replace h := if_f b111 h
              refine Ru.br (k := .ne) (off := 10) (bb := true) (tg := 61) (by decide +kernel) (by decide +kernel) (cz (ci_ne1 (inR_to _) (by decide) b111)) rfl ?_
              refine Ru.kI (q := (.iconst 0, 1)) (c := 0) (by decide +kernel) rfl (by decide) ?_
              refine Ru.op (q := (.goto 13, 3)) (by decide +kernel) rfl ?_
              refine Ru.op (q := (.istore 4, 2)) (S' := (77, [some (.ref 36), d1, some (vI v2), some (vI v3), some (vI 0), some (vI v5), some (vI o4)], [], _, _)) (by decide +kernel) rfl ?_
              refine Ru.op (q := (.aload_n 0, 1)) (by decide +kernel) rfl ?_
              refine Ru.op (q := (.iload_n 3, 1)) (by decide +kernel) rfl ?_
              refine Ru.op (q := (.iload 4, 2)) (by decide +kernel) rfl ?_
              obtain ⟨o127, e128, h⟩ := ob_some h
              refine Ru.vcall (i := 214) (j2 := 113) (as := [vI v3, vI 0]) (by decide +kernel) (by rfl) rfl rfl (hp36 _) (by decide) ⟨(Nat.le_of_ble_eq_true rfl), (by show 19 + 5 ≤ 353; exact Nat.le_of_ble_eq_true rfl), Nat.le_of_ble_eq_true rfl, Nat.le_of_ble_eq_true rfl⟩ ((g113_ok e128).up (Nat.le_of_ble_eq_true rfl) (Nat.le_of_ble_eq_true rfl)) ?_
              refine Ru.op (q := (.istore_n 3, 1)) (S' := (85, [some (.ref 36), d1, some (vI v2), some (vI o127.1), some (vI 0), some (vI v5), some (vI o4)], [], _, _)) (by decide +kernel) rfl ?_
              refine Ru.op (q := (.iload_n 3, 1)) (by decide +kernel) rfl ?_
              obtain ⟨g129, h⟩ := gd_some h
              by_cases b130 : 0 < o127.1
              · replace h := if_t b130 h
                refine Ru.br (k := .le) (off := 7) (bb := false) (tg := 89) (by decide +kernel) (by decide +kernel) (cz (ci_le0 g129 (by decide) b130)) rfl ?_
                refine Ru.kI (q := (.iconst 1, 1)) (c := 1) (by decide +kernel) rfl (by decide) ?_
                refine Ru.op (q := (.goto 4, 3)) (by decide +kernel) rfl ?_
                refine Ru.op (q := (.istore 5, 2)) (S' := (96, [some (.ref 36), d1, some (vI v2), some (vI o127.1), some (vI 0), some (vI 1), some (vI o4)], [], _, _)) (by decide +kernel) rfl ?_
                refine Ru.op (q := (.iload 5, 2)) (by decide +kernel) rfl ?_
                refine Ru.br (k := .eq) (off := 18) (bb := false) (tg := 101) (by decide +kernel) (by decide +kernel) (by decide) rfl ?_
                refine Ru.op (q := (.aload_n 0, 1)) (by decide +kernel) rfl ?_
                refine Ru.get (i := 72) (v := .ref 55) (by decide +kernel) (by rfl) (hp36 _) (by decide) rfl ?_
                refine Ru.op (q := (.iload_n 3, 1)) (by decide +kernel) rfl ?_
                refine Ru.kI (q := (.iconst 1, 1)) (c := 1) (by decide +kernel) rfl (by decide) ?_
                refine Ru.ar2 (i := .isub) (z := (o127.1 - 1)) (by decide +kernel) rfl (ar_sub _ _) ?_
                obtain ⟨g131, h⟩ := gd_some h
                refine Ru.bldI (i := (o127.1 - 1)) (z := (o127.2.A 55 (o127.1 - 1))) (by decide +kernel) (hp55 _) g131 (eI_of _) ?_
                by_cases b132 : (o127.2.A 55 (o127.1 - 1)) = 0
                · replace h := if_t b132 h
                  refine Ru.br (k := .eq) (off := 7) (bb := true) (tg := 116) (by decide +kernel) (by decide +kernel) (cz (ci_eq1 (inR_to _) (by decide) b132)) rfl ?_
                  refine Ru.kI (q := (.iconst 0, 1)) (c := 0) (by decide +kernel) rfl (by decide) ?_
                  refine Ru.op (q := (.istore_n 2, 1)) (S' := (118, [some (.ref 36), d1, some (vI 0), some (vI o127.1), some (vI 0), some (vI 1), some (vI o4)], [], _, _)) (by decide +kernel) rfl ?_
                  refine Ru.op (q := (.aload_n 0, 1)) (by decide +kernel) rfl ?_
                  refine Ru.getI (i := 218) (x := (o127.2.F 36 42)) (by decide +kernel) (by rfl) (hp36 _) (by decide) rfl (eI_of _) ?_
                  refine Ru.op (q := (.istore 4, 2)) (S' := (124, [some (.ref 36), d1, some (vI 0), some (vI o127.1), some (vI (o127.2.F 36 42)), some (vI 1), some (vI o4)], [], _, _)) (by decide +kernel) rfl ?_
                  refine Ru.op (q := (.goto 141, 3)) (by decide +kernel) rfl ?_
                  refine Ru.op (q := (.goto (-255), 3)) (by decide +kernel) rfl ?_
                  exact ih _ _ _ _ _ _ _ _ h r hk
                · replace h := if_f b132 h
                  refine Ru.br (k := .eq) (off := 7) (bb := false) (tg := 112) (by decide +kernel) (by decide +kernel) (cz (ci_eq0 (inR_to _) (by decide) b132)) rfl ?_
                  refine Ru.kI (q := (.iconst 1, 1)) (c := 1) (by decide +kernel) rfl (by decide) ?_
                  refine Ru.op (q := (.goto 4, 3)) (by decide +kernel) rfl ?_
                  refine Ru.op (q := (.istore_n 2, 1)) (S' := (118, [some (.ref 36), d1, some (vI 1), some (vI o127.1), some (vI 0), some (vI 1), some (vI o4)], [], _, _)) (by decide +kernel) rfl ?_
                  refine Ru.op (q := (.aload_n 0, 1)) (by decide +kernel) rfl ?_
                  refine Ru.getI (i := 218) (x := (o127.2.F 36 42)) (by decide +kernel) (by rfl) (hp36 _) (by decide) rfl (eI_of _) ?_
                  refine Ru.op (q := (.istore 4, 2)) (S' := (124, [some (.ref 36), d1, some (vI 1), some (vI o127.1), some (vI (o127.2.F 36 42)), some (vI 1), some (vI o4)], [], _, _)) (by decide +kernel) rfl ?_
                  refine Ru.op (q := (.goto 141, 3)) (by decide +kernel) rfl ?_
                  refine Ru.op (q := (.goto (-255), 3)) (by decide +kernel) rfl ?_
                  exact ih _ _ _ _ _ _ _ _ h r hk
              · replace h := if_f b130 h
                refine Ru.br (k := .le) (off := 7) (bb := true) (tg := 93) (by decide +kernel) (by decide +kernel) (cz (ci_le1 g129 (by decide) b130)) rfl ?_
                refine Ru.kI (q := (.iconst 0, 1)) (c := 0) (by decide +kernel) rfl (by decide) ?_
                refine Ru.op (q := (.istore 5, 2)) (S' := (96, [some (.ref 36), d1, some (vI v2), some (vI o127.1), some (vI 0), some (vI 0), some (vI o4)], [], _, _)) (by decide +kernel) rfl ?_
                refine Ru.op (q := (.iload 5, 2)) (by decide +kernel) rfl ?_
                refine Ru.br (k := .eq) (off := 18) (bb := true) (tg := 116) (by decide +kernel) (by decide +kernel) (by decide) rfl ?_
                refine Ru.kI (q := (.iconst 0, 1)) (c := 0) (by decide +kernel) rfl (by decide) ?_
                refine Ru.op (q := (.istore_n 2, 1)) (S' := (118, [some (.ref 36), d1, some (vI 0), some (vI o127.1), some (vI 0), some (vI 0), some (vI o4)], [], _, _)) (by decide +kernel) rfl ?_
                refine Ru.op (q := (.aload_n 0, 1)) (by decide +kernel) rfl ?_
                refine Ru.getI (i := 218) (x := (o127.2.F 36 42)) (by decide +kernel) (by rfl) (hp36 _) (by decide) rfl (eI_of _) ?_
                refine Ru.op (q := (.istore 4, 2)) (S' := (124, [some (.ref 36), d1, some (vI 0), some (vI o127.1), some (vI (o127.2.F 36 42)), some (vI 0), some (vI o4)], [], _, _)) (by decide +kernel) rfl ?_
                refine Ru.op (q := (.goto 141, 3)) (by decide +kernel) rfl ?_
                refine Ru.op (q := (.goto (-255), 3)) (by decide +kernel) rfl ?_
                exact ih _ _ _ _ _ _ _ _ h r hk
      · replace h := if_f b3 h
        refine Ru.br (k := .ne) (off := 249) (bb := true) (tg := 268) (by decide +kernel) (by decide +kernel) (cz (ci_ne1 (inR_to _) (by decide) b3)) rfl ?_
        cases h
        exact hk _ _ _ _ _ _
def g101 (S : St) (v1 : Int) : Option (Int × St) := ob (g101L10 FU v1 0 0 1 S) (fun o133 => some (o133.1, o133.2))
set_option maxRecDepth 100000 in
set_option maxHeartbeats 4000000 in
theorem g101_ok {S : St} {v1 : Int} {o : Int × St} (h : g101 S v1 = some o) : Ru none 17 353 101 (0, mn_pad (mn_ent [.ref 36, vI v1]) 7, [], S.ns, Hp S) ((0, some (vI o.1)), o.2.ns, Hp o.2) := by
  unfold g101 at h
  show Ru none 17 353 101 (0, [some (.ref 36), some (vI v1), none, none, none, none, none], [], S.ns, Hp S) _
  refine Ru.op (q := (.iload_n 1, 1)) (by decide +kernel) rfl ?_
  refine Ru.op (q := (.istore_n 2, 1)) (S' := (2, [some (.ref 36), some (vI v1), some (vI v1), none, none, none, none], [], _, _)) (by decide +kernel) rfl ?_
  refine Ru.kI (q := (.iconst 0, 1)) (c := 0) (by decide +kernel) rfl (by decide) ?_
  refine Ru.op (q := (.istore_n 3, 1)) (S' := (4, [some (.ref 36), some (vI v1), some (vI v1), some (vI 0), none, none, none], [], _, _)) (by decide +kernel) rfl ?_
  refine Ru.kI (q := (.iconst 0, 1)) (c := 0) (by decide +kernel) rfl (by decide) ?_
  refine Ru.op (q := (.istore 4, 2)) (S' := (7, [some (.ref 36), some (vI v1), some (vI v1), some (vI 0), some (vI 0), none, none], [], _, _)) (by decide +kernel) rfl ?_
  refine Ru.kI (q := (.iconst 1, 1)) (c := 1) (by decide +kernel) rfl (by decide) ?_
  refine Ru.op (q := (.istore 5, 2)) (S' := (10, [some (.ref 36), some (vI v1), some (vI v1), some (vI 0), some (vI 0), some (vI 1), none], [], _, _)) (by decide +kernel) rfl ?_
  obtain ⟨o133, e140, h⟩ := ob_some h
  refine g101L10_ok FU _ _ _ _ _ _ _ _ e140 _ ?_
  intro d134 d135 d136 d137 d138 d139
  refine Ru.op (q := (.iload 4, 2)) (by decide +kernel) rfl ?_
  cases h
  exact Ru.iret (by decide +kernel) rfl rfl
