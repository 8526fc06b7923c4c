def g34b (rc : St → Int → Int → Option (Int × St)) (S : St) (v1 : Int) (v2 : Int) (v3 : Int) : Option (Int × St) := gd (inR v1) (if v1 = 62 then gd (inR v2) (if 1 = v2 then ob (rc S 0 (v3 + 1)) (fun o5 => gd (inR o5.1) (if o5.1 = (-1) then some ((-1), o5.2) else ob (rc o5.2 v2 (v3 + 1)) (fun o9 => gd (inR o9.1) (if o9.1 = (-1) then some ((-1), o9.2) else if v1 = 38 then ob (g35 o9.2 0 o5.1 o9.1) (fun o14 => some (o14.1, o14.2)) else if 0 = v2 then ob (g35 o9.2 0 o5.1 o9.1) (fun o17 => some (o17.1, o17.2)) else ob (g35 o9.2 1 o5.1 o9.1) (fun o19 => some (o19.1, o19.2)))))) else ob (rc S 1 (v3 + 1)) (fun o21 => gd (inR o21.1) (if o21.1 = (-1) then some ((-1), o21.2) else ob (rc o21.2 v2 (v3 + 1)) (fun o25 => gd (inR o25.1) (if o25.1 = (-1) then some ((-1), o25.2) else if v1 = 38 then ob (g35 o25.2 1 o21.1 o25.1) (fun o30 => some (o30.1, o30.2)) else if 0 = v2 then ob (g35 o25.2 0 o21.1 o25.1) (fun o33 => some (o33.1, o33.2)) else ob (g35 o25.2 1 o21.1 o25.1) (fun o35 => some (o35.1, o35.2))))))) else gd (inR v2) (if 0 = v2 then ob (rc S 0 (v3 + 1)) (fun o39 => gd (inR o39.1) (if o39.1 = (-1) then some ((-1), o39.2) else ob (rc o39.2 v2 (v3 + 1)) (fun o43 => gd (inR o43.1) (if o43.1 = (-1) then some ((-1), o43.2) else if v1 = 38 then if 1 = v2 then ob (g35 o43.2 0 o39.1 o43.1) (fun o49 => some (o49.1, o49.2)) else ob (g35 o43.2 1 o39.1 o43.1) (fun o51 => some (o51.1, o51.2)) else ob (g35 o43.2 0 o39.1 o43.1) (fun o53 => some (o53.1, o53.2)))))) else ob (rc S 1 (v3 + 1)) (fun o55 => gd (inR o55.1) (if o55.1 = (-1) then some ((-1), o55.2) else ob (rc o55.2 v2 (v3 + 1)) (fun o59 => gd (inR o59.1) (if o59.1 = (-1) then some ((-1), o59.2) else if v1 = 38 then if 1 = v2 then ob (g35 o59.2 0 o55.1 o59.1) (fun o65 => some (o65.1, o65.2)) else ob (g35 o59.2 1 o55.1 o59.1) (fun o67 => some (o67.1, o67.2)) else ob (g35 o59.2 1 o55.1 o59.1) (fun o69 => some (o69.1, o69.2))))))))
set_option maxRecDepth 100000 in
set_option maxHeartbeats 4000000 in
theorem g34b_ok {FR LO : Nat} {rc : St → Int → Int → Option (Int × St)} (hF : 12 ≤ FR) (hL : 247 ≤ LO) (hrc : ∀ {S : St} {v1 : Int} {v2 : Int} {o : Int × St}, rc S v1 v2 = some o → Ru none FR LO 22 (0, mn_pad (mn_ent [.ref 1, vI v1, vI v2]) 4, [], S.ns, Hp S) ((0, some (vI o.1)), o.2.ns, Hp o.2)) {S : St} {v1 : Int} {v2 : Int} {v3 : Int} {o : Int × St} (h : g34b rc S v1 v2 v3 = some o) : Ru none (FR + 1) (LO + 23) 34 (0, mn_pad (mn_ent [.ref 1, vI v1, vI v2, vI v3]) 6, [], S.ns, Hp S) ((0, some (vI o.1)), o.2.ns, Hp o.2) := by
  unfold g34b at h
  show Ru none (FR + 1) (LO + 23) 34 (0, [some (.ref 1), some (vI v1), some (vI v2), some (vI v3), none, none], [], S.ns, Hp S) _
  refine Ru.op (q := (.aload_n 0, 1)) (by decide +kernel) rfl ?_
  refine Ru.op (q := (.iload_n 1, 1)) (by decide +kernel) rfl ?_
  refine Ru.kI (q := (.bipush 62, 2)) (c := 62) (by decide +kernel) rfl (by decide) ?_
  obtain ⟨g1, h⟩ := gd_some h
  by_cases b2 : v1 = 62
  · replace h := if_t b2 h
    refine Ru.br2 (k := .ne) (off := 7) (bb := false) (tg := 7) (by decide +kernel) (by decide +kernel) (ci_ne0 g1 (by decide) b2) rfl ?_
    refine Ru.kI (q := (.iconst 1, 1)) (c := 1) (by decide +kernel) rfl (by decide) ?_
    refine Ru.op (q := (.goto 4, 3)) (by decide +kernel) rfl ?_
    refine Ru.op (q := (.iload_n 2, 1)) (by decide +kernel) rfl ?_
    obtain ⟨g3, h⟩ := gd_some h
    by_cases b4 : 1 = v2
    · replace h := if_t b4 h
      refine Ru.br2 (k := .eq) (off := 7) (bb := true) (tg := 20) (by decide +kernel) (by decide +kernel) (ci_eq1 (by decide) g3 b4) rfl ?_
      refine Ru.kI (q := (.iconst 0, 1)) (c := 0) (by decide +kernel) rfl (by decide) ?_
      refine Ru.op (q := (.iload_n 3, 1)) (by decide +kernel) rfl ?_
      refine Ru.kI (q := (.iconst 1, 1)) (c := 1) (by decide +kernel) rfl (by decide) ?_
      refine Ru.ar2 (i := .iadd) (z := (v3 + 1)) (by decide +kernel) rfl (ar_add _ _) ?_
      obtain ⟨o5, e6, h⟩ := ob_some h
      refine Ru.vcall (i := 55) (j2 := 22) (as := [vI 0, vI (v3 + 1)]) (by decide +kernel) (by rfl) rfl rfl (hp1 _) (by decide) ⟨(by omega), (by show 19 + 4 ≤ (LO + 23); omega), Nat.le_of_ble_eq_true rfl, Nat.le_of_ble_eq_true rfl⟩ ((hrc e6).up (by omega) (by show _ ≤ (LO + 23) - (19 + 4); omega)) ?_
      refine Ru.op (q := (.istore 4, 2)) (S' := (29, [some (.ref 1), some (vI v1), some (vI v2), some (vI v3), some (vI o5.1), none], [], _, _)) (by decide +kernel) rfl ?_
      refine Ru.op (q := (.iload 4, 2)) (by decide +kernel) rfl ?_
      refine Ru.kI (q := (.iconst (-1), 1)) (c := (-1)) (by decide +kernel) rfl (by decide) ?_
      obtain ⟨g7, h⟩ := gd_some h
      by_cases b8 : o5.1 = (-1)
      · replace h := if_t b8 h
        refine Ru.br2 (k := .ne) (off := 5) (bb := false) (tg := 35) (by decide +kernel) (by decide +kernel) (ci_ne0 g7 (by decide) b8) rfl ?_
        refine Ru.kI (q := (.iconst (-1), 1)) (c := (-1)) (by decide +kernel) rfl (by decide) ?_
        cases h
        exact Ru.iret (by decide +kernel) rfl rfl
      · replace h := if_f b8 h
        refine Ru.br2 (k := .ne) (off := 5) (bb := true) (tg := 37) (by decide +kernel) (by decide +kernel) (ci_ne1 g7 (by decide) b8) rfl ?_
        refine Ru.op (q := (.aload_n 0, 1)) (by decide +kernel) rfl ?_
        refine Ru.op (q := (.iload_n 2, 1)) (by decide +kernel) rfl ?_
        refine Ru.op (q := (.iload_n 3, 1)) (by decide +kernel) rfl ?_
        refine Ru.kI (q := (.iconst 1, 1)) (c := 1) (by decide +kernel) rfl (by decide) ?_
        refine Ru.ar2 (i := .iadd) (z := (v3 + 1)) (by decide +kernel) rfl (ar_add _ _) ?_
        obtain ⟨o9, e10, h⟩ := ob_some h
        refine Ru.vcall (i := 55) (j2 := 22) (as := [vI v2, vI (v3 + 1)]) (by decide +kernel) (by rfl) rfl rfl (hp1 _) (by decide) ⟨(by omega), (by show 19 + 4 ≤ (LO + 23); omega), Nat.le_of_ble_eq_true rfl, Nat.le_of_ble_eq_true rfl⟩ ((hrc e10).up (by omega) (by show _ ≤ (LO + 23) - (19 + 4); omega)) ?_
        refine Ru.op (q := (.istore 5, 2)) (S' := (47, [some (.ref 1), some (vI v1), some (vI v2), some (vI v3), some (vI o5.1), some (vI o9.1)], [], _, _)) (by decide +kernel) rfl ?_
        refine Ru.op (q := (.iload 5, 2)) (by decide +kernel) rfl ?_
        refine Ru.kI (q := (.iconst (-1), 1)) (c := (-1)) (by decide +kernel) rfl (by decide) ?_
        obtain ⟨g11, h⟩ := gd_some h
        by_cases b12 : o9.1 = (-1)
        · replace h := if_t b12 h
          refine Ru.br2 (k := .ne) (off := 5) (bb := false) (tg := 53) (by decide +kernel) (by decide +kernel) (ci_ne0 g11 (by decide) b12) rfl ?_
          refine Ru.kI (q := (.iconst (-1), 1)) (c := (-1)) (by decide +kernel) rfl (by decide) ?_
          cases h
          exact Ru.iret (by decide +kernel) rfl rfl
        · replace h := if_f b12 h
          refine Ru.br2 (k := .ne) (off := 5) (bb := true) (tg := 55) (by decide +kernel) (by decide +kernel) (ci_ne1 g11 (by decide) b12) rfl ?_
          refine Ru.op (q := (.aload_n 0, 1)) (by decide +kernel) rfl ?_
          refine Ru.get (i := 18) (v := .ref 3) (by decide +kernel) (by rfl) (hp1 _) (by decide) rfl ?_
          refine Ru.op (q := (.iload_n 1, 1)) (by decide +kernel) rfl ?_
          refine Ru.kI (q := (.bipush 38, 2)) (c := 38) (by decide +kernel) rfl (by decide) ?_
          by_cases b13 : v1 = 38
          · replace h := if_t b13 h
            refine Ru.br2 (k := .ne) (off := 7) (bb := false) (tg := 65) (by decide +kernel) (by decide +kernel) (ci_ne0 g1 (by decide) b13) rfl ?_
            refine Ru.kI (q := (.iconst 1, 1)) (c := 1) (by decide +kernel) rfl (by decide) ?_
            refine Ru.op (q := (.goto 4, 3)) (by decide +kernel) rfl ?_
            refine Ru.op (q := (.iload_n 2, 1)) (by decide +kernel) rfl ?_
            refine Ru.br2 (k := .eq) (off := 7) (bb := true) (tg := 78) (by decide +kernel) (by decide +kernel) (ci_eq1 (by decide) g3 b4) rfl ?_
            refine Ru.kI (q := (.iconst 0, 1)) (c := 0) (by decide +kernel) rfl (by decide) ?_
            refine Ru.op (q := (.iload 4, 2)) (by decide +kernel) rfl ?_
            refine Ru.op (q := (.iload 5, 2)) (by decide +kernel) rfl ?_
            obtain ⟨o14, e15, h⟩ := ob_some h
            refine Ru.vcall (i := 99) (j2 := 35) (as := [vI 0, vI o5.1, vI o9.1]) (by decide +kernel) (by rfl) rfl rfl (hp3 _) (by decide) ⟨(by omega), (by show 19 + 5 ≤ (LO + 23); omega), Nat.le_of_ble_eq_true rfl, Nat.le_of_ble_eq_true rfl⟩ ((g35_ok e15).up (by omega) (by show _ ≤ (LO + 23) - (19 + 5); omega)) ?_
            cases h
            exact Ru.iret (by decide +kernel) rfl rfl
          · replace h := if_f b13 h
            refine Ru.br2 (k := .ne) (off := 7) (bb := true) (tg := 69) (by decide +kernel) (by decide +kernel) (ci_ne1 g1 (by decide) b13) rfl ?_
            refine Ru.kI (q := (.iconst 0, 1)) (c := 0) (by decide +kernel) rfl (by decide) ?_
            refine Ru.op (q := (.iload_n 2, 1)) (by decide +kernel) rfl ?_
            by_cases b16 : 0 = v2
            · replace h := if_t b16 h
              refine Ru.br2 (k := .eq) (off := 7) (bb := true) (tg := 78) (by decide +kernel) (by decide +kernel) (ci_eq1 (by decide) g3 b16) rfl ?_
              refine Ru.kI (q := (.iconst 0, 1)) (c := 0) (by decide +kernel) rfl (by decide) ?_
              refine Ru.op (q := (.iload 4, 2)) (by decide +kernel) rfl ?_
              refine Ru.op (q := (.iload 5, 2)) (by decide +kernel) rfl ?_
              obtain ⟨o17, e18, h⟩ := ob_some h
              refine Ru.vcall (i := 99) (j2 := 35) (as := [vI 0, vI o5.1, vI o9.1]) (by decide +kernel) (by rfl) rfl rfl (hp3 _) (by decide) ⟨(by omega), (by show 19 + 5 ≤ (LO + 23); omega), Nat.le_of_ble_eq_true rfl, Nat.le_of_ble_eq_true rfl⟩ ((g35_ok e18).up (by omega) (by show _ ≤ (LO + 23) - (19 + 5); omega)) ?_
              cases h
              exact Ru.iret (by decide +kernel) rfl rfl
            · replace h := if_f b16 h
              refine Ru.br2 (k := .eq) (off := 7) (bb := false) (tg := 74) (by decide +kernel) (by decide +kernel) (ci_eq0 (by decide) g3 b16) rfl ?_
              refine Ru.kI (q := (.iconst 1, 1)) (c := 1) (by decide +kernel) rfl (by decide) ?_
              refine Ru.op (q := (.goto 4, 3)) (by decide +kernel) rfl ?_
              refine Ru.op (q := (.iload 4, 2)) (by decide +kernel) rfl ?_
              refine Ru.op (q := (.iload 5, 2)) (by decide +kernel) rfl ?_
              obtain ⟨o19, e20, h⟩ := ob_some h
              refine Ru.vcall (i := 99) (j2 := 35) (as := [vI 1, vI o5.1, vI o9.1]) (by decide +kernel) (by rfl) rfl rfl (hp3 _) (by decide) ⟨(by omega), (by show 19 + 5 ≤ (LO + 23); omega), Nat.le_of_ble_eq_true rfl, Nat.le_of_ble_eq_true rfl⟩ ((g35_ok e20).up (by omega) (by show _ ≤ (LO + 23) - (19 + 5); omega)) ?_
              cases h
              exact Ru.iret (by decide +kernel) rfl rfl
    · replace h := if_f b4 h
      refine Ru.br2 (k := .eq) (off := 7) (bb := false) (tg := 16) (by decide +kernel) (by decide +kernel) (ci_eq0 (by decide) g3 b4) rfl ?_
      refine Ru.kI (q := (.iconst 1, 1)) (c := 1) (by decide +kernel) rfl (by decide) ?_
      refine Ru.op (q := (.goto 4, 3)) (by decide +kernel) rfl ?_
      refine Ru.op (q := (.iload_n 3, 1)) (by decide +kernel) rfl ?_
      refine Ru.kI (q := (.iconst 1, 1)) (c := 1) (by decide +kernel) rfl (by decide) ?_
      refine Ru.ar2 (i := .iadd) (z := (v3 + 1)) (by decide +kernel) rfl (ar_add _ _) ?_
      obtain ⟨o21, e22, h⟩ := ob_some h
      refine Ru.vcall (i := 55) (j2 := 22) (as := [vI 1, vI (v3 + 1)]) (by decide +kernel) (by rfl) rfl rfl (hp1 _) (by decide) ⟨(by omega), (by show 19 + 4 ≤ (LO + 23); omega), Nat.le_of_ble_eq_true rfl, Nat.le_of_ble_eq_true rfl⟩ ((hrc e22).up (by omega) (by show _ ≤ (LO + 23) - (19 + 4); omega)) ?_
      refine Ru.op (q := (.istore 4, 2)) (S' := (29, [some (.ref 1), some (vI v1), some (vI v2), some (vI v3), some (vI o21.1), none], [], _, _)) (by decide +kernel) rfl ?_
      refine Ru.op (q := (.iload 4, 2)) (by decide +kernel) rfl ?_
      refine Ru.kI (q := (.iconst (-1), 1)) (c := (-1)) (by decide +kernel) rfl (by decide) ?_
      obtain ⟨g23, h⟩ := gd_some h
      by_cases b24 : o21.1 = (-1)
      · replace h := if_t b24 h
        refine Ru.br2 (k := .ne) (off := 5) (bb := false) (tg := 35) (by decide +kernel) (by decide +kernel) (ci_ne0 g23 (by decide) b24) rfl ?_
        refine Ru.kI (q := (.iconst (-1), 1)) (c := (-1)) (by decide +kernel) rfl (by decide) ?_
        cases h
        exact Ru.iret (by decide +kernel) rfl rfl
      · replace h := if_f b24 h
        refine Ru.br2 (k := .ne) (off := 5) (bb := true) (tg := 37) (by decide +kernel) (by decide +kernel) (ci_ne1 g23 (by decide) b24) rfl ?_
        refine Ru.op (q := (.aload_n 0, 1)) (by decide +kernel) rfl ?_
        refine Ru.op (q := (.iload_n 2, 1)) (by decide +kernel) rfl ?_
        refine Ru.op (q := (.iload_n 3, 1)) (by decide +kernel) rfl ?_
        refine Ru.kI (q := (.iconst 1, 1)) (c := 1) (by decide +kernel) rfl (by decide) ?_
        refine Ru.ar2 (i := .iadd) (z := (v3 + 1)) (by decide +kernel) rfl (ar_add _ _) ?_
        obtain ⟨o25, e26, h⟩ := ob_some h
        refine Ru.vcall (i := 55) (j2 := 22) (as := [vI v2, vI (v3 + 1)]) (by decide +kernel) (by rfl) rfl rfl (hp1 _) (by decide) ⟨(by omega), (by show 19 + 4 ≤ (LO + 23); omega), Nat.le_of_ble_eq_true rfl, Nat.le_of_ble_eq_true rfl⟩ ((hrc e26).up (by omega) (by show _ ≤ (LO + 23) - (19 + 4); omega)) ?_
        refine Ru.op (q := (.istore 5, 2)) (S' := (47, [some (.ref 1), some (vI v1), some (vI v2), some (vI v3), some (vI o21.1), some (vI o25.1)], [], _, _)) (by decide +kernel) rfl ?_
        refine Ru.op (q := (.iload 5, 2)) (by decide +kernel) rfl ?_
        refine Ru.kI (q := (.iconst (-1), 1)) (c := (-1)) (by decide +kernel) rfl (by decide) ?_
        obtain ⟨g27, h⟩ := gd_some h
        by_cases b28 : o25.1 = (-1)
        · replace h := if_t b28 h
          refine Ru.br2 (k := .ne) (off := 5) (bb := false) (tg := 53) (by decide +kernel) (by decide +kernel) (ci_ne0 g27 (by decide) b28) rfl ?_
          refine Ru.kI (q := (.iconst (-1), 1)) (c := (-1)) (by decide +kernel) rfl (by decide) ?_
          cases h
          exact Ru.iret (by decide +kernel) rfl rfl
        · replace h := if_f b28 h
          refine Ru.br2 (k := .ne) (off := 5) (bb := true) (tg := 55) (by decide +kernel) (by decide +kernel) (ci_ne1 g27 (by decide) b28) rfl ?_
          refine Ru.op (q := (.aload_n 0, 1)) (by decide +kernel) rfl ?_
          refine Ru.get (i := 18) (v := .ref 3) (by decide +kernel) (by rfl) (hp1 _) (by decide) rfl ?_
          refine Ru.op (q := (.iload_n 1, 1)) (by decide +kernel) rfl ?_
          refine Ru.kI (q := (.bipush 38, 2)) (c := 38) (by decide +kernel) rfl (by decide) ?_
          by_cases b29 : v1 = 38
          · replace h := if_t b29 h
            refine Ru.br2 (k := .ne) (off := 7) (bb := false) (tg := 65) (by decide +kernel) (by decide +kernel) (ci_ne0 g1 (by decide) b29) rfl ?_
            refine Ru.kI (q := (.iconst 1, 1)) (c := 1) (by decide +kernel) rfl (by decide) ?_
            refine Ru.op (q := (.goto 4, 3)) (by decide +kernel) rfl ?_
            refine Ru.op (q := (.iload_n 2, 1)) (by decide +kernel) rfl ?_
            refine Ru.br2 (k := .eq) (off := 7) (bb := false) (tg := 74) (by decide +kernel) (by decide +kernel) (ci_eq0 (by decide) g3 b4) rfl ?_
            refine Ru.kI (q := (.iconst 1, 1)) (c := 1) (by decide +kernel) rfl (by decide) ?_
            refine Ru.op (q := (.goto 4, 3)) (by decide +kernel) rfl ?_
            refine Ru.op (q := (.iload 4, 2)) (by decide +kernel) rfl ?_
            refine Ru.op (q := (.iload 5, 2)) (by decide +kernel) rfl ?_
            obtain ⟨o30, e31, h⟩ := ob_some h
            refine Ru.vcall (i := 99) (j2 := 35) (as := [vI 1, vI o21.1, vI o25.1]) (by decide +kernel) (by rfl) rfl rfl (hp3 _) (by decide) ⟨(by omega), (by show 19 + 5 ≤ (LO + 23); omega), Nat.le_of_ble_eq_true rfl, Nat.le_of_ble_eq_true rfl⟩ ((g35_ok e31).up (by omega) (by show _ ≤ (LO + 23) - (19 + 5); omega)) ?_
            cases h
            exact Ru.iret (by decide +kernel) rfl rfl
          · replace h := if_f b29 h
            refine Ru.br2 (k := .ne) (off := 7) (bb := true) (tg := 69) (by decide +kernel) (by decide +kernel) (ci_ne1 g1 (by decide) b29) rfl ?_
            refine Ru.kI (q := (.iconst 0, 1)) (c := 0) (by decide +kernel) rfl (by decide) ?_
            refine Ru.op (q := (.iload_n 2, 1)) (by decide +kernel) rfl ?_
            by_cases b32 : 0 = v2
            · replace h := if_t b32 h
              refine Ru.br2 (k := .eq) (off := 7) (bb := true) (tg := 78) (by decide +kernel) (by decide +kernel) (ci_eq1 (by decide) g3 b32) rfl ?_
              refine Ru.kI (q := (.iconst 0, 1)) (c := 0) (by decide +kernel) rfl (by decide) ?_
              refine Ru.op (q := (.iload 4, 2)) (by decide +kernel) rfl ?_
              refine Ru.op (q := (.iload 5, 2)) (by decide +kernel) rfl ?_
              obtain ⟨o33, e34, h⟩ := ob_some h
              refine Ru.vcall (i := 99) (j2 := 35) (as := [vI 0, vI o21.1, vI o25.1]) (by decide +kernel) (by rfl) rfl rfl (hp3 _) (by decide) ⟨(by omega), (by show 19 + 5 ≤ (LO + 23); omega), Nat.le_of_ble_eq_true rfl, Nat.le_of_ble_eq_true rfl⟩ ((g35_ok e34).up (by omega) (by show _ ≤ (LO + 23) - (19 + 5); omega)) ?_
              cases h
              exact Ru.iret (by decide +kernel) rfl rfl
            · replace h := if_f b32 h
              refine Ru.br2 (k := .eq) (off := 7) (bb := false) (tg := 74) (by decide +kernel) (by decide +kernel) (ci_eq0 (by decide) g3 b32) rfl ?_
              refine Ru.kI (q := (.iconst 1, 1)) (c := 1) (by decide +kernel) rfl (by decide) ?_
              refine Ru.op (q := (.goto 4, 3)) (by decide +kernel) rfl ?_
              refine Ru.op (q := (.iload 4, 2)) (by decide +kernel) rfl ?_
              refine Ru.op (q := (.iload 5, 2)) (by decide +kernel) rfl ?_
              obtain ⟨o35, e36, h⟩ := ob_some h
              refine Ru.vcall (i := 99) (j2 := 35) (as := [vI 1, vI o21.1, vI o25.1]) (by decide +kernel) (by rfl) rfl rfl (hp3 _) (by decide) ⟨(by omega), (by show 19 + 5 ≤ (LO + 23); omega), Nat.le_of_ble_eq_true rfl, Nat.le_of_ble_eq_true rfl⟩ ((g35_ok e36).up (by omega) (by show _ ≤ (LO + 23) - (19 + 5); omega)) ?_
              cases h
              exact Ru.iret (by decide +kernel) rfl rfl
  · replace h := if_f b2 h
    refine Ru.br2 (k := .ne) (off := 7) (bb := true) (tg := 11) (by decide +kernel) (by decide +kernel) (ci_ne1 g1 (by decide) b2) rfl ?_
    refine Ru.kI (q := (.iconst 0, 1)) (c := 0) (by decide +kernel) rfl (by decide) ?_
    refine Ru.op (q := (.iload_n 2, 1)) (by decide +kernel) rfl ?_
    obtain ⟨g37, h⟩ := gd_some h
    by_cases b38 : 0 = v2
    · replace h := if_t b38 h
      refine Ru.br2 (k := .eq) (off := 7) (bb := true) (tg := 20) (by decide +kernel) (by decide +kernel) (ci_eq1 (by decide) g37 b38) rfl ?_
      refine Ru.kI (q := (.iconst 0, 1)) (c := 0) (by decide +kernel) rfl (by decide) ?_
      refine Ru.op (q := (.iload_n 3, 1)) (by decide +kernel) rfl ?_
      refine Ru.kI (q := (.iconst 1, 1)) (c := 1) (by decide +kernel) rfl (by decide) ?_
      refine Ru.ar2 (i := .iadd) (z := (v3 + 1)) (by decide +kernel) rfl (ar_add _ _) ?_
      obtain ⟨o39, e40, h⟩ := ob_some h
      refine Ru.vcall (i := 55) (j2 := 22) (as := [vI 0, vI (v3 + 1)]) (by decide +kernel) (by rfl) rfl rfl (hp1 _) (by decide) ⟨(by omega), (by show 19 + 4 ≤ (LO + 23); omega), Nat.le_of_ble_eq_true rfl, Nat.le_of_ble_eq_true rfl⟩ ((hrc e40).up (by omega) (by show _ ≤ (LO + 23) - (19 + 4); omega)) ?_
      refine Ru.op (q := (.istore 4, 2)) (S' := (29, [some (.ref 1), some (vI v1), some (vI v2), some (vI v3), some (vI o39.1), none], [], _, _)) (by decide +kernel) rfl ?_
      refine Ru.op (q := (.iload 4, 2)) (by decide +kernel) rfl ?_
      refine Ru.kI (q := (.iconst (-1), 1)) (c := (-1)) (by decide +kernel) rfl (by decide) ?_
      obtain ⟨g41, h⟩ := gd_some h
      by_cases b42 : o39.1 = (-1)
      · replace h := if_t b42 h
        refine Ru.br2 (k := .ne) (off := 5) (bb := false) (tg := 35) (by decide +kernel) (by decide +kernel) (ci_ne0 g41 (by decide) b42) rfl ?_
        refine Ru.kI (q := (.iconst (-1), 1)) (c := (-1)) (by decide +kernel) rfl (by decide) ?_
        cases h
        exact Ru.iret (by decide +kernel) rfl rfl
      · replace h := if_f b42 h
        refine Ru.br2 (k := .ne) (off := 5) (bb := true) (tg := 37) (by decide +kernel) (by decide +kernel) (ci_ne1 g41 (by decide) b42) rfl ?_
        refine Ru.op (q := (.aload_n 0, 1)) (by decide +kernel) rfl ?_
        refine Ru.op (q := (.iload_n 2, 1)) (by decide +kernel) rfl ?_
        refine Ru.op (q := (.iload_n 3, 1)) (by decide +kernel) rfl ?_
        refine Ru.kI (q := (.iconst 1, 1)) (c := 1) (by decide +kernel) rfl (by decide) ?_
        refine Ru.ar2 (i := .iadd) (z := (v3 + 1)) (by decide +kernel) rfl (ar_add _ _) ?_
        obtain ⟨o43, e44, h⟩ := ob_some h
        refine Ru.vcall (i := 55) (j2 := 22) (as := [vI v2, vI (v3 + 1)]) (by decide +kernel) (by rfl) rfl rfl (hp1 _) (by decide) ⟨(by omega), (by show 19 + 4 ≤ (LO + 23); omega), Nat.le_of_ble_eq_true rfl, Nat.le_of_ble_eq_true rfl⟩ ((hrc e44).up (by omega) (by show _ ≤ (LO + 23) - (19 + 4); omega)) ?_
        refine Ru.op (q := (.istore 5, 2)) (S' := (47, [some (.ref 1), some (vI v1), some (vI v2), some (vI v3), some (vI o39.1), some (vI o43.1)], [], _, _)) (by decide +kernel) rfl ?_
        refine Ru.op (q := (.iload 5, 2)) (by decide +kernel) rfl ?_
        refine Ru.kI (q := (.iconst (-1), 1)) (c := (-1)) (by decide +kernel) rfl (by decide) ?_
        obtain ⟨g45, h⟩ := gd_some h
        by_cases b46 : o43.1 = (-1)
        · replace h := if_t b46 h
          refine Ru.br2 (k := .ne) (off := 5) (bb := false) (tg := 53) (by decide +kernel) (by decide +kernel) (ci_ne0 g45 (by decide) b46) rfl ?_
          refine Ru.kI (q := (.iconst (-1), 1)) (c := (-1)) (by decide +kernel) rfl (by decide) ?_
          cases h
          exact Ru.iret (by decide +kernel) rfl rfl
        · replace h := if_f b46 h
          refine Ru.br2 (k := .ne) (off := 5) (bb := true) (tg := 55) (by decide +kernel) (by decide +kernel) (ci_ne1 g45 (by decide) b46) rfl ?_
          refine Ru.op (q := (.aload_n 0, 1)) (by decide +kernel) rfl ?_
          refine Ru.get (i := 18) (v := .ref 3) (by decide +kernel) (by rfl) (hp1 _) (by decide) rfl ?_
          refine Ru.op (q := (.iload_n 1, 1)) (by decide +kernel) rfl ?_
          refine Ru.kI (q := (.bipush 38, 2)) (c := 38) (by decide +kernel) rfl (by decide) ?_
          by_cases b47 : v1 = 38
          · replace h := if_t b47 h
            refine Ru.br2 (k := .ne) (off := 7) (bb := false) (tg := 65) (by decide +kernel) (by decide +kernel) (ci_ne0 g1 (by decide) b47) rfl ?_
            refine Ru.kI (q := (.iconst 1, 1)) (c := 1) (by decide +kernel) rfl (by decide) ?_
            refine Ru.op (q := (.goto 4, 3)) (by decide +kernel) rfl ?_
            refine Ru.op (q := (.iload_n 2, 1)) (by decide +kernel) rfl ?_
            by_cases b48 : 1 = v2
            · replace h := if_t b48 h
              refine Ru.br2 (k := .eq) (off := 7) (bb := true) (tg := 78) (by decide +kernel) (by decide +kernel) (ci_eq1 (by decide) g37 b48) rfl ?_
              refine Ru.kI (q := (.iconst 0, 1)) (c := 0) (by decide +kernel) rfl (by decide) ?_
              refine Ru.op (q := (.iload 4, 2)) (by decide +kernel) rfl ?_
              refine Ru.op (q := (.iload 5, 2)) (by decide +kernel) rfl ?_
              obtain ⟨o49, e50, h⟩ := ob_some h
              refine Ru.vcall (i := 99) (j2 := 35) (as := [vI 0, vI o39.1, vI o43.1]) (by decide +kernel) (by rfl) rfl rfl (hp3 _) (by decide) ⟨(by omega), (by show 19 + 5 ≤ (LO + 23); omega), Nat.le_of_ble_eq_true rfl, Nat.le_of_ble_eq_true rfl⟩ ((g35_ok e50).up (by omega) (by show _ ≤ (LO + 23) - (19 + 5); omega)) ?_
              cases h
              exact Ru.iret (by decide +kernel) rfl rfl
            · replace h := if_f b48 h
              refine Ru.br2 (k := .eq) (off := 7) (bb := false) (tg := 74) (by decide +kernel) (by decide +kernel) (ci_eq0 (by decide) g37 b48) rfl ?_
              refine Ru.kI (q := (.iconst 1, 1)) (c := 1) (by decide +kernel) rfl (by decide) ?_
              refine Ru.op (q := (.goto 4, 3)) (by decide +kernel) rfl ?_
              refine Ru.op (q := (.iload 4, 2)) (by decide +kernel) rfl ?_
              refine Ru.op (q := (.iload 5, 2)) (by decide +kernel) rfl ?_
              obtain ⟨o51, e52, h⟩ := ob_some h
              refine Ru.vcall (i := 99) (j2 := 35) (as := [vI 1, vI o39.1, vI o43.1]) (by decide +kernel) (by rfl) rfl rfl (hp3 _) (by decide) ⟨(by omega), (by show 19 + 5 ≤ (LO + 23); omega), Nat.le_of_ble_eq_true rfl, Nat.le_of_ble_eq_true rfl⟩ ((g35_ok e52).up (by omega) (by show _ ≤ (LO + 23) - (19 + 5); omega)) ?_
              cases h
              exact Ru.iret (by decide +kernel) rfl rfl
          · replace h := if_f b47 h
            refine Ru.br2 (k := .ne) (off := 7) (bb := true) (tg := 69) (by decide +kernel) (by decide +kernel) (ci_ne1 g1 (by decide) b47) rfl ?_
            refine Ru.kI (q := (.iconst 0, 1)) (c := 0) (by decide +kernel) rfl (by decide) ?_
            refine Ru.op (q := (.iload_n 2, 1)) (by decide +kernel) rfl ?_
            refine Ru.br2 (k := .eq) (off := 7) (bb := true) (tg := 78) (by decide +kernel) (by decide +kernel) (ci_eq1 (by decide) g37 b38) rfl ?_
            refine Ru.kI (q := (.iconst 0, 1)) (c := 0) (by decide +kernel) rfl (by decide) ?_
            refine Ru.op (q := (.iload 4, 2)) (by decide +kernel) rfl ?_
            refine Ru.op (q := (.iload 5, 2)) (by decide +kernel) rfl ?_
            obtain ⟨o53, e54, h⟩ := ob_some h
            refine Ru.vcall (i := 99) (j2 := 35) (as := [vI 0, vI o39.1, vI o43.1]) (by decide +kernel) (by rfl) rfl rfl (hp3 _) (by decide) ⟨(by omega), (by show 19 + 5 ≤ (LO + 23); omega), Nat.le_of_ble_eq_true rfl, Nat.le_of_ble_eq_true rfl⟩ ((g35_ok e54).up (by omega) (by show _ ≤ (LO + 23) - (19 + 5); omega)) ?_
            cases h
            exact Ru.iret (by decide +kernel) rfl rfl
    · replace h := if_f b38 h
      refine Ru.br2 (k := .eq) (off := 7) (bb := false) (tg := 16) (by decide +kernel) (by decide +kernel) (ci_eq0 (by decide) g37 b38) rfl ?_
      refine Ru.kI (q := (.iconst 1, 1)) (c := 1) (by decide +kernel) rfl (by decide) ?_
      refine Ru.op (q := (.goto 4, 3)) (by decide +kernel) rfl ?_
      refine Ru.op (q := (.iload_n 3, 1)) (by decide +kernel) rfl ?_
      refine Ru.kI (q := (.iconst 1, 1)) (c := 1) (by decide +kernel) rfl (by decide) ?_
      refine Ru.ar2 (i := .iadd) (z := (v3 + 1)) (by decide +kernel) rfl (ar_add _ _) ?_
      obtain ⟨o55, e56, h⟩ := ob_some h
      refine Ru.vcall (i := 55) (j2 := 22) (as := [vI 1, vI (v3 + 1)]) (by decide +kernel) (by rfl) rfl rfl (hp1 _) (by decide) ⟨(by omega), (by show 19 + 4 ≤ (LO + 23); omega), Nat.le_of_ble_eq_true rfl, Nat.le_of_ble_eq_true rfl⟩ ((hrc e56).up (by omega) (by show _ ≤ (LO + 23) - (19 + 4); omega)) ?_
      refine Ru.op (q := (.istore 4, 2)) (S' := (29, [some (.ref 1), some (vI v1), some (vI v2), some (vI v3), some (vI o55.1), none], [], _, _)) (by decide +kernel) rfl ?_
      refine Ru.op (q := (.iload 4, 2)) (by decide +kernel) rfl ?_
      refine Ru.kI (q := (.iconst (-1), 1)) (c := (-1)) (by decide +kernel) rfl (by decide) ?_
      obtain ⟨g57, h⟩ := gd_some h
      by_cases b58 : o55.1 = (-1)
      · replace h := if_t b58 h
        refine Ru.br2 (k := .ne) (off := 5) (bb := false) (tg := 35) (by decide +kernel) (by decide +kernel) (ci_ne0 g57 (by decide) b58) rfl ?_
        refine Ru.kI (q := (.iconst (-1), 1)) (c := (-1)) (by decide +kernel) rfl (by decide) ?_
        cases h
        exact Ru.iret (by decide +kernel) rfl rfl
      · replace h := if_f b58 h
        refine Ru.br2 (k := .ne) (off := 5) (bb := true) (tg := 37) (by decide +kernel) (by decide +kernel) (ci_ne1 g57 (by decide) b58) rfl ?_
        refine Ru.op (q := (.aload_n 0, 1)) (by decide +kernel) rfl ?_
        refine Ru.op (q := (.iload_n 2, 1)) (by decide +kernel) rfl ?_
        refine Ru.op (q := (.iload_n 3, 1)) (by decide +kernel) rfl ?_
        refine Ru.kI (q := (.iconst 1, 1)) (c := 1) (by decide +kernel) rfl (by decide) ?_
        refine Ru.ar2 (i := .iadd) (z := (v3 + 1)) (by decide +kernel) rfl (ar_add _ _) ?_
        obtain ⟨o59, e60, h⟩ := ob_some h
        refine Ru.vcall (i := 55) (j2 := 22) (as := [vI v2, vI (v3 + 1)]) (by decide +kernel) (by rfl) rfl rfl (hp1 _) (by decide) ⟨(by omega), (by show 19 + 4 ≤ (LO + 23); omega), Nat.le_of_ble_eq_true rfl, Nat.le_of_ble_eq_true rfl⟩ ((hrc e60).up (by omega) (by show _ ≤ (LO + 23) - (19 + 4); omega)) ?_
        refine Ru.op (q := (.istore 5, 2)) (S' := (47, [some (.ref 1), some (vI v1), some (vI v2), some (vI v3), some (vI o55.1), some (vI o59.1)], [], _, _)) (by decide +kernel) rfl ?_
        refine Ru.op (q := (.iload 5, 2)) (by decide +kernel) rfl ?_
        refine Ru.kI (q := (.iconst (-1), 1)) (c := (-1)) (by decide +kernel) rfl (by decide) ?_
        obtain ⟨g61, h⟩ := gd_some h
        by_cases b62 : o59.1 = (-1)
        · replace h := if_t b62 h
          refine Ru.br2 (k := .ne) (off := 5) (bb := false) (tg := 53) (by decide +kernel) (by decide +kernel) (ci_ne0 g61 (by decide) b62) rfl ?_
          refine Ru.kI (q := (.iconst (-1), 1)) (c := (-1)) (by decide +kernel) rfl (by decide) ?_
          cases h
          exact Ru.iret (by decide +kernel) rfl rfl
        · replace h := if_f b62 h
          refine Ru.br2 (k := .ne) (off := 5) (bb := true) (tg := 55) (by decide +kernel) (by decide +kernel) (ci_ne1 g61 (by decide) b62) rfl ?_
          refine Ru.op (q := (.aload_n 0, 1)) (by decide +kernel) rfl ?_
          refine Ru.get (i := 18) (v := .ref 3) (by decide +kernel) (by rfl) (hp1 _) (by decide) rfl ?_
          refine Ru.op (q := (.iload_n 1, 1)) (by decide +kernel) rfl ?_
          refine Ru.kI (q := (.bipush 38, 2)) (c := 38) (by decide +kernel) rfl (by decide) ?_
          by_cases b63 : v1 = 38
          · replace h := if_t b63 h
            refine Ru.br2 (k := .ne) (off := 7) (bb := false) (tg := 65) (by decide +kernel) (by decide +kernel) (ci_ne0 g1 (by decide) b63) rfl ?_
            refine Ru.kI (q := (.iconst 1, 1)) (c := 1) (by decide +kernel) rfl (by decide) ?_
            refine Ru.op (q := (.goto 4, 3)) (by decide +kernel) rfl ?_
            refine Ru.op (q := (.iload_n 2, 1)) (by decide +kernel) rfl ?_
            by_cases b64 : 1 = v2
            · replace h := if_t b64 h
              refine Ru.br2 (k := .eq) (off := 7) (bb := true) (tg := 78) (by decide +kernel) (by decide +kernel) (ci_eq1 (by decide) g37 b64) rfl ?_
              refine Ru.kI (q := (.iconst 0, 1)) (c := 0) (by decide +kernel) rfl (by decide) ?_
              refine Ru.op (q := (.iload 4, 2)) (by decide +kernel) rfl ?_
              refine Ru.op (q := (.iload 5, 2)) (by decide +kernel) rfl ?_
              obtain ⟨o65, e66, h⟩ := ob_some h
              refine Ru.vcall (i := 99) (j2 := 35) (as := [vI 0, vI o55.1, vI o59.1]) (by decide +kernel) (by rfl) rfl rfl (hp3 _) (by decide) ⟨(by omega), (by show 19 + 5 ≤ (LO + 23); omega), Nat.le_of_ble_eq_true rfl, Nat.le_of_ble_eq_true rfl⟩ ((g35_ok e66).up (by omega) (by show _ ≤ (LO + 23) - (19 + 5); omega)) ?_
              cases h
              exact Ru.iret (by decide +kernel) rfl rfl
            · replace h := if_f b64 h
              refine Ru.br2 (k := .eq) (off := 7) (bb := false) (tg := 74) (by decide +kernel) (by decide +kernel) (ci_eq0 (by decide) g37 b64) rfl ?_
              refine Ru.kI (q := (.iconst 1, 1)) (c := 1) (by decide +kernel) rfl (by decide) ?_
              refine Ru.op (q := (.goto 4, 3)) (by decide +kernel) rfl ?_
              refine Ru.op (q := (.iload 4, 2)) (by decide +kernel) rfl ?_
              refine Ru.op (q := (.iload 5, 2)) (by decide +kernel) rfl ?_
              obtain ⟨o67, e68, h⟩ := ob_some h
              refine Ru.vcall (i := 99) (j2 := 35) (as := [vI 1, vI o55.1, vI o59.1]) (by decide +kernel) (by rfl) rfl rfl (hp3 _) (by decide) ⟨(by omega), (by show 19 + 5 ≤ (LO + 23); omega), Nat.le_of_ble_eq_true rfl, Nat.le_of_ble_eq_true rfl⟩ ((g35_ok e68).up (by omega) (by show _ ≤ (LO + 23) - (19 + 5); omega)) ?_
              cases h
              exact Ru.iret (by decide +kernel) rfl rfl
          · replace h := if_f b63 h
            refine Ru.br2 (k := .ne) (off := 7) (bb := true) (tg := 69) (by decide +kernel) (by decide +kernel) (ci_ne1 g1 (by decide) b63) rfl ?_
            refine Ru.kI (q := (.iconst 0, 1)) (c := 0) (by decide +kernel) rfl (by decide) ?_
            refine Ru.op (q := (.iload_n 2, 1)) (by decide +kernel) rfl ?_
            refine Ru.br2 (k := .eq) (off := 7) (bb := false) (tg := 74) (by decide +kernel) (by decide +kernel) (ci_eq0 (by decide) g37 b38) rfl ?_
            refine Ru.kI (q := (.iconst 1, 1)) (c := 1) (by decide +kernel) rfl (by decide) ?_
            refine Ru.op (q := (.goto 4, 3)) (by decide +kernel) rfl ?_
            refine Ru.op (q := (.iload 4, 2)) (by decide +kernel) rfl ?_
            refine Ru.op (q := (.iload 5, 2)) (by decide +kernel) rfl ?_
            obtain ⟨o69, e70, h⟩ := ob_some h
            refine Ru.vcall (i := 99) (j2 := 35) (as := [vI 1, vI o55.1, vI o59.1]) (by decide +kernel) (by rfl) rfl rfl (hp3 _) (by decide) ⟨(by omega), (by show 19 + 5 ≤ (LO + 23); omega), Nat.le_of_ble_eq_true rfl, Nat.le_of_ble_eq_true rfl⟩ ((g35_ok e70).up (by omega) (by show _ ≤ (LO + 23) - (19 + 5); omega)) ?_
            cases h
            exact Ru.iret (by decide +kernel) rfl rfl
def g26 (S : St) (v1 : Int) : Option (St) := if (S.F 1 12) < 16 then gd (ixR (S.F 1 12) 16) (some ((S.a 12 (S.F 1 12) v1).f 1 12 ((S.F 1 12) + 1))) else some (S.f 1 12 ((S.F 1 12) + 1))
set_option maxRecDepth 100000 in
set_option maxHeartbeats 4000000 in
theorem g26_ok {S : St} {v1 : Int} {o : St} (h : g26 S v1 = some o) : Ru none 10 200 26 (0, mn_pad (mn_ent [.ref 1, vI v1]) 2, [], S.ns, Hp S) ((0, none), o.ns, Hp o) := by
  unfold g26 at h
  show Ru none 10 200 26 (0, [some (.ref 1), some (vI v1)], [], S.ns, Hp S) _
  refine Ru.op (q := (.aload_n 0, 1)) (by decide +kernel) rfl ?_
  refine Ru.getI (i := 84) (x := (S.F 1 12)) (by decide +kernel) (by rfl) (hp1 _) (by decide) rfl (eI_of _) ?_
  refine Ru.kI (q := (.bipush 16, 2)) (c := 16) (by decide +kernel) rfl (by decide) ?_
  by_cases b1 : (S.F 1 12) < 16
  · replace h := if_t b1 h
    refine Ru.br2 (k := .ge) (off := 13) (bb := false) (tg := 9) (by decide +kernel) (by decide +kernel) (ci_ge0 (inR_to _) (by decide) b1) rfl ?_
    refine Ru.op (q := (.aload_n 0, 1)) (by decide +kernel) rfl ?_
    refine Ru.get (i := 29) (v := .ref 12) (by decide +kernel) (by rfl) (hp1 _) (by decide) rfl ?_
    refine Ru.op (q := (.aload_n 0, 1)) (by decide +kernel) rfl ?_
    refine Ru.getI (i := 84) (x := (S.F 1 12)) (by decide +kernel) (by rfl) (hp1 _) (by decide) rfl (eI_of _) ?_
    refine Ru.op (q := (.iload_n 1, 1)) (by decide +kernel) rfl ?_
    obtain ⟨g2, h⟩ := gd_some h
    refine Ru.istI (i := (S.F 1 12)) (x := v1) (by decide +kernel) (hp12 _) g2 (ps_12 _ _ _) ?_
    refine Ru.op (q := (.aload_n 0, 1)) (by decide +kernel) rfl ?_
    refine Ru.op (q := (.dup, 1)) (by decide +kernel) rfl ?_
    refine Ru.getI (i := 84) (x := (S.F 1 12)) (by decide +kernel) (by rfl) (hp1 _) (by decide) rfl (eI_of _) ?_
    refine Ru.kI (q := (.iconst 1, 1)) (c := 1) (by decide +kernel) rfl (by decide) ?_
    refine Ru.ar2 (i := .iadd) (z := ((S.F 1 12) + 1)) (by decide +kernel) rfl (ar_add _ _) ?_
    refine Ru.putH (i := 84) (by decide +kernel) (by rfl) (hp1 _) (by decide) (Nat.le_of_ble_eq_true rfl) rfl (by decide +kernel) (pf_1_12 _ _) ?_
    cases h
    exact Ru.end (q := (.return_, 1)) (by decide +kernel) rfl rfl
  · replace h := if_f b1 h
    refine Ru.br2 (k := .ge) (off := 13) (bb := true) (tg := 19) (by decide +kernel) (by decide +kernel) (ci_ge1 (inR_to _) (by decide) b1) rfl ?_
    refine Ru.op (q := (.aload_n 0, 1)) (by decide +kernel) rfl ?_
    refine Ru.op (q := (.dup, 1)) (by decide +kernel) rfl ?_
    refine Ru.getI (i := 84) (x := (S.F 1 12)) (by decide +kernel) (by rfl) (hp1 _) (by decide) rfl (eI_of _) ?_
    refine Ru.kI (q := (.iconst 1, 1)) (c := 1) (by decide +kernel) rfl (by decide) ?_
    refine Ru.ar2 (i := .iadd) (z := ((S.F 1 12) + 1)) (by decide +kernel) rfl (ar_add _ _) ?_
    refine Ru.putH (i := 84) (by decide +kernel) (by rfl) (hp1 _) (by decide) (Nat.le_of_ble_eq_true rfl) rfl (by decide +kernel) (pf_1_12 _ _) ?_
    cases h
    exact Ru.end (q := (.return_, 1)) (by decide +kernel) rfl rfl
def g31 (S : St) : Option (Int × St) := ob (g23 (S.f 1 4 ((S.F 1 4) + 1))) (fun o1 => gd (inR o1) (if o1 < 49 then some ((-1), (S.f 1 4 ((S.F 1 4) + 1))) else if 57 < o1 then some ((-1), (S.f 1 4 ((S.F 1 4) + 1))) else ob (g23 ((S.f 1 4 ((S.F 1 4) + 1)).f 1 4 (((S.F 1 4) + 1) + 1))) (fun o6 => gd (inR o6) (if o6 < 48 then some ((128 + (o1 - 48)), ((S.f 1 4 ((S.F 1 4) + 1)).f 1 4 (((S.F 1 4) + 1) + 1))) else if 57 < o6 then some ((128 + (o1 - 48)), ((S.f 1 4 ((S.F 1 4) + 1)).f 1 4 (((S.F 1 4) + 1) + 1))) else some ((128 + ((((o1 - 48) * 10) + o6) - 48)), (((S.f 1 4 ((S.F 1 4) + 1)).f 1 4 (((S.F 1 4) + 1) + 1)).f 1 4 ((((S.F 1 4) + 1) + 1) + 1)))))))
set_option maxRecDepth 100000 in
set_option maxHeartbeats 4000000 in
theorem g31_ok {S : St} {o : Int × St} (h : g31 S  = some o) : Ru none 11 220 31 (0, mn_pad (mn_ent [.ref 1]) 4, [], S.ns, Hp S) ((0, some (vI o.1)), o.2.ns, Hp o.2) := by
  unfold g31 at h
  show Ru none 11 220 31 (0, [some (.ref 1), none, none, none], [], S.ns, Hp S) _
  refine Ru.op (q := (.aload_n 0, 1)) (by decide +kernel) rfl ?_
  refine Ru.op (q := (.dup, 1)) (by decide +kernel) rfl ?_
  refine Ru.getI (i := 36) (x := (S.F 1 4)) (by decide +kernel) (by rfl) (hp1 _) (by decide) rfl (eI_of _) ?_
  refine Ru.kI (q := (.iconst 1, 1)) (c := 1) (by decide +kernel) rfl (by decide) ?_
  refine Ru.ar2 (i := .iadd) (z := ((S.F 1 4) + 1)) (by decide +kernel) rfl (ar_add _ _) ?_
  refine Ru.putH (i := 36) (by decide +kernel) (by rfl) (hp1 _) (by decide) (Nat.le_of_ble_eq_true rfl) rfl (by decide +kernel) (pf_1_4 _ _) ?_
  refine Ru.op (q := (.aload_n 0, 1)) (by decide +kernel) rfl ?_
  obtain ⟨o1, e2, h⟩ := ob_some h
  refine Ru.vcall (i := 69) (j2 := 23) (as := []) (by decide +kernel) (by rfl) rfl rfl (hp1 _) (by decide) ⟨(Nat.le_of_ble_eq_true rfl), (by show 19 + 1 ≤ 220; exact Nat.le_of_ble_eq_true rfl), Nat.le_of_ble_eq_true rfl, Nat.le_of_ble_eq_true rfl⟩ ((g23_ok e2).up (Nat.le_of_ble_eq_true rfl) (Nat.le_of_ble_eq_true rfl)) ?_
  refine Ru.op (q := (.istore_n 1, 1)) (S' := (15, [some (.ref 1), some (vI o1), none, none], [], _, _)) (by decide +kernel) rfl ?_
  refine Ru.op (q := (.iload_n 1, 1)) (by decide +kernel) rfl ?_
  refine Ru.kI (q := (.bipush 49, 2)) (c := 49) (by decide +kernel) rfl (by decide) ?_
  obtain ⟨g3, h⟩ := gd_some h
  by_cases b4 : o1 < 49
  · replace h := if_t b4 h
    refine Ru.br2 (k := .lt) (off := 9) (bb := true) (tg := 27) (by decide +kernel) (by decide +kernel) (ci_lt1 g3 (by decide) b4) rfl ?_
    refine Ru.kI (q := (.iconst (-1), 1)) (c := (-1)) (by decide +kernel) rfl (by decide) ?_
    cases h
    exact Ru.iret (by decide +kernel) rfl rfl
  · replace h := if_f b4 h
    refine Ru.br2 (k := .lt) (off := 9) (bb := false) (tg := 21) (by decide +kernel) (by decide +kernel) (ci_lt0 g3 (by decide) b4) rfl ?_
    refine Ru.op (q := (.iload_n 1, 1)) (by decide +kernel) rfl ?_
    refine Ru.kI (q := (.bipush 57, 2)) (c := 57) (by decide +kernel) rfl (by decide) ?_
    by_cases b5 : 57 < o1
    · replace h := if_t b5 h
      refine Ru.br2 (k := .le) (off := 5) (bb := false) (tg := 27) (by decide +kernel) (by decide +kernel) (ci_le0 g3 (by decide) b5) rfl ?_
      refine Ru.kI (q := (.iconst (-1), 1)) (c := (-1)) (by decide +kernel) rfl (by decide) ?_
      cases h
      exact Ru.iret (by decide +kernel) rfl rfl
    · replace h := if_f b5 h
      refine Ru.br2 (k := .le) (off := 5) (bb := true) (tg := 29) (by decide +kernel) (by decide +kernel) (ci_le1 g3 (by decide) b5) rfl ?_
      refine Ru.op (q := (.aload_n 0, 1)) (by decide +kernel) rfl ?_
      refine Ru.op (q := (.dup, 1)) (by decide +kernel) rfl ?_
      refine Ru.getI (i := 36) (x := ((S.F 1 4) + 1)) (by decide +kernel) (by rfl) (hp1 _) (by decide) rfl rfl ?_
      refine Ru.kI (q := (.iconst 1, 1)) (c := 1) (by decide +kernel) rfl (by decide) ?_
      refine Ru.ar2 (i := .iadd) (z := (((S.F 1 4) + 1) + 1)) (by decide +kernel) rfl (ar_add _ _) ?_
      refine Ru.putH (i := 36) (by decide +kernel) (by rfl) (hp1 _) (by decide) (Nat.le_of_ble_eq_true rfl) rfl (by decide +kernel) (pf_1_4 _ _) ?_
      refine Ru.op (q := (.iload_n 1, 1)) (by decide +kernel) rfl ?_
      refine Ru.kI (q := (.bipush 48, 2)) (c := 48) (by decide +kernel) rfl (by decide) ?_
      refine Ru.ar2 (i := .isub) (z := (o1 - 48)) (by decide +kernel) rfl (ar_sub _ _) ?_
      refine Ru.op (q := (.istore_n 2, 1)) (S' := (44, [some (.ref 1), some (vI o1), some (vI (o1 - 48)), none], [], _, _)) (by decide +kernel) rfl ?_
      refine Ru.op (q := (.aload_n 0, 1)) (by decide +kernel) rfl ?_
      obtain ⟨o6, e7, h⟩ := ob_some h
      refine Ru.vcall (i := 69) (j2 := 23) (as := []) (by decide +kernel) (by rfl) rfl rfl (hp1 _) (by decide) ⟨(Nat.le_of_ble_eq_true rfl), (by show 19 + 1 ≤ 220; exact Nat.le_of_ble_eq_true rfl), Nat.le_of_ble_eq_true rfl, Nat.le_of_ble_eq_true rfl⟩ ((g23_ok e7).up (Nat.le_of_ble_eq_true rfl) (Nat.le_of_ble_eq_true rfl)) ?_
      refine Ru.op (q := (.istore_n 3, 1)) (S' := (49, [some (.ref 1), some (vI o1), some (vI (o1 - 48)), some (vI o6)], [], _, _)) (by decide +kernel) rfl ?_
      refine Ru.op (q := (.iload_n 3, 1)) (by decide +kernel) rfl ?_
      refine Ru.kI (q := (.bipush 48, 2)) (c := 48) (by decide +kernel) rfl (by decide) ?_
      obtain ⟨g8, h⟩ := gd_some h
      by_cases b9 : o6 < 48
      · replace h := if_t b9 h
        refine Ru.br2 (k := .lt) (off := 29) (bb := true) (tg := 81) (by decide +kernel) (by decide +kernel) (ci_lt1 g8 (by decide) b9) rfl ?_
        refine Ru.kI (q := (.sipush 128, 3)) (c := 128) (by decide +kernel) rfl (by decide) ?_
        refine Ru.op (q := (.iload_n 2, 1)) (by decide +kernel) rfl ?_
        refine Ru.ar2 (i := .iadd) (z := (128 + (o1 - 48))) (by decide +kernel) rfl (ar_add _ _) ?_
        cases h
        exact Ru.iret (by decide +kernel) rfl rfl
      · replace h := if_f b9 h
        refine Ru.br2 (k := .lt) (off := 29) (bb := false) (tg := 55) (by decide +kernel) (by decide +kernel) (ci_lt0 g8 (by decide) b9) rfl ?_
        refine Ru.op (q := (.iload_n 3, 1)) (by decide +kernel) rfl ?_
        refine Ru.kI (q := (.bipush 57, 2)) (c := 57) (by decide +kernel) rfl (by decide) ?_
        by_cases b10 : 57 < o6
        · replace h := if_t b10 h
          refine Ru.br2 (k := .gt) (off := 23) (bb := true) (tg := 81) (by decide +kernel) (by decide +kernel) (ci_gt1 g8 (by decide) b10) rfl ?_
          refine Ru.kI (q := (.sipush 128, 3)) (c := 128) (by decide +kernel) rfl (by decide) ?_
          refine Ru.op (q := (.iload_n 2, 1)) (by decide +kernel) rfl ?_
          refine Ru.ar2 (i := .iadd) (z := (128 + (o1 - 48))) (by decide +kernel) rfl (ar_add _ _) ?_
          cases h
          exact Ru.iret (by decide +kernel) rfl rfl
        · replace h := if_f b10 h
          refine Ru.br2 (k := .gt) (off := 23) (bb := false) (tg := 61) (by decide +kernel) (by decide +kernel) (ci_gt0 g8 (by decide) b10) rfl ?_
          refine Ru.op (q := (.aload_n 0, 1)) (by decide +kernel) rfl ?_
          refine Ru.op (q := (.dup, 1)) (by decide +kernel) rfl ?_
          refine Ru.getI (i := 36) (x := (((S.F 1 4) + 1) + 1)) (by decide +kernel) (by rfl) (hp1 _) (by decide) rfl rfl ?_
          refine Ru.kI (q := (.iconst 1, 1)) (c := 1) (by decide +kernel) rfl (by decide) ?_
          refine Ru.ar2 (i := .iadd) (z := ((((S.F 1 4) + 1) + 1) + 1)) (by decide +kernel) rfl (ar_add _ _) ?_
          refine Ru.putH (i := 36) (by decide +kernel) (by rfl) (hp1 _) (by decide) (Nat.le_of_ble_eq_true rfl) rfl (by decide +kernel) (pf_1_4 _ _) ?_
          refine Ru.op (q := (.iload_n 2, 1)) (by decide +kernel) rfl ?_
          refine Ru.kI (q := (.bipush 10, 2)) (c := 10) (by decide +kernel) rfl (by decide) ?_
          refine Ru.ar2 (i := .imul) (z := ((o1 - 48) * 10)) (by decide +kernel) rfl (ar_mul _ _) ?_
          refine Ru.op (q := (.iload_n 3, 1)) (by decide +kernel) rfl ?_
          refine Ru.ar2 (i := .iadd) (z := (((o1 - 48) * 10) + o6)) (by decide +kernel) rfl (ar_add _ _) ?_
          refine Ru.kI (q := (.bipush 48, 2)) (c := 48) (by decide +kernel) rfl (by decide) ?_
          refine Ru.ar2 (i := .isub) (z := ((((o1 - 48) * 10) + o6) - 48)) (by decide +kernel) rfl (ar_sub _ _) ?_
          refine Ru.op (q := (.istore_n 2, 1)) (S' := (81, [some (.ref 1), some (vI o1), some (vI ((((o1 - 48) * 10) + o6) - 48)), some (vI o6)], [], _, _)) (by decide +kernel) rfl ?_
          refine Ru.kI (q := (.sipush 128, 3)) (c := 128) (by decide +kernel) rfl (by decide) ?_
          refine Ru.op (q := (.iload_n 2, 1)) (by decide +kernel) rfl ?_
          refine Ru.ar2 (i := .iadd) (z := (128 + ((((o1 - 48) * 10) + o6) - 48))) (by decide +kernel) rfl (ar_add _ _) ?_
          cases h
          exact Ru.iret (by decide +kernel) rfl rfl
def g30L23 (S : St) (v1 : Int) (v2 : Int) : Nat → Int → Option (Int)
  | 0, _ => none
  | n + 1, v3 => gd (inR v3) (if v3 < 0 then some v3 else gd (ixR v3 10) (gd (inR v1) (if (S.A 10 v3) = v1 then some v3 else g30L23 S v1 v2 n (v3 + (-1)))))
set_option maxRecDepth 100000 in
set_option maxHeartbeats 4000000 in
theorem g30L23_ok {S : St} {v1 : Int} {v2 : Int} : ∀ (n : Nat) (v3 : Int) (d4 : Option Value) (out : Int), g30L23 S v1 v2 n v3 = some out → ∀ r, (∀ (e1 e4 : Option Value), Ru none 11 221 30 (43, [some (.ref 1), e1, some (vI v2), some (vI out), e4], [], S.ns, Hp S) r) → Ru none 11 221 30 (23, [some (.ref 1), some (vI v1), some (vI v2), some (vI v3), d4], [], S.ns, Hp S) r := by
  intro n
  induction n with
  | zero => intro v3 d4 out h; cases h
  | succ n ih =>
    intro v3 d4 out h r hk
    unfold g30L23 at h
    refine Ru.op (q := (.iload_n 3, 1)) (by decide +kernel) rfl ?_
    obtain ⟨g2, h⟩ := gd_some h
    by_cases b3 : v3 < 0
    · replace h := if_t b3 h
      refine Ru.br (k := .lt) (off := 19) (bb := true) (tg := 43) (by decide +kernel) (by decide +kernel) (cz (ci_lt1 g2 (by decide) b3)) rfl ?_
      cases h
      exact hk _ _
    · replace h := if_f b3 h
      refine Ru.br (k := .lt) (off := 19) (bb := false) (tg := 27) (by decide +kernel) (by decide +kernel) (cz (ci_lt0 g2 (by decide) b3)) rfl ?_
      refine Ru.op (q := (.aload_n 0, 1)) (by decide +kernel) rfl ?_
      refine Ru.get (i := 22) (v := .ref 10) (by decide +kernel) (by rfl) (hp1 _) (by decide) rfl ?_
      refine Ru.op (q := (.iload_n 3, 1)) (by decide +kernel) rfl ?_
      obtain ⟨g4, h⟩ := gd_some h
      refine Ru.ildI (i := v3) (z := (S.A 10 v3)) (by decide +kernel) (hp10 _) g4 (eI_of _) ?_
      refine Ru.op (q := (.iload_n 1, 1)) (by decide +kernel) rfl ?_
      obtain ⟨g5, h⟩ := gd_some h
      by_cases b6 : (S.A 10 v3) = v1
      · replace h := if_t b6 h
        refine Ru.br2 (k := .eq) (off := 9) (bb := true) (tg := 43) (by decide +kernel) (by decide +kernel) (ci_eq1 (inR_to _) g5 b6) rfl ?_
        cases h
        exact hk _ _
      · replace h := if_f b6 h
        refine Ru.br2 (k := .eq) (off := 9) (bb := false) (tg := 37) (by decide +kernel) (by decide +kernel) (ci_eq0 (inR_to _) g5 b6) rfl ?_
        refine Ru.inc (x := v3) (z := (v3 + (-1))) (xs' := [some (.ref 1), some (vI v1), some (vI v2), some (vI (v3 + (-1))), d4]) (by decide +kernel) rfl rfl rfl ?_
        refine Ru.op (q := (.goto (-17), 3)) (by decide +kernel) rfl ?_
        exact ih _ _ _ h r hk
def g30L78 (v3 : Int) : Nat → Int → St → Option (St)
  | 0, _, _ => none
  | n + 1, v4, S => gd (inR v4) (gd (inR v3) (if v4 < v3 then gd (ixR v4 10) (if (S.A 11 v4) < 32768 then ob (g26 S (S.A 11 v4)) (fun o24 => g30L78 v3 n (v4 + 1) o24) else g30L78 v3 n (v4 + 1) S) else some S))
set_option maxRecDepth 100000 in
set_option maxHeartbeats 4000000 in
theorem g30L78_ok {v3 : Int} : ∀ (n : Nat) (v4 : Int) (S : St) (d1 d2 : Option Value) (out : St), g30L78 v3 n v4 S = some out → ∀ r, (∀ (e0 e1 e2 e3 e4 : Option Value), Ru none 11 221 30 (113, [e0, e1, e2, e3, e4], [], out.ns, Hp out) r) → Ru none 11 221 30 (78, [some (.ref 1), d1, d2, some (vI v3), some (vI v4)], [], S.ns, Hp S) r := by
  intro n
  induction n with
  | zero => intro v4 S d1 d2 out h; cases h
  | succ n ih =>
    intro v4 S d1 d2 out h r hk
    unfold g30L78 at h
    refine Ru.op (q := (.iload 4, 2)) (by decide +kernel) rfl ?_
    refine Ru.op (q := (.iload_n 3, 1)) (by decide +kernel) rfl ?_
    obtain ⟨g19, h⟩ := gd_some h
    obtain ⟨g20, h⟩ := gd_some h
    by_cases b21 : v4 < v3
    · replace h := if_t b21 h
      refine Ru.br2 (k := .ge) (off := 32) (bb := false) (tg := 84) (by decide +kernel) (by decide +kernel) (ci_ge0 g19 g20 b21) rfl ?_
      refine Ru.op (q := (.aload_n 0, 1)) (by decide +kernel) rfl ?_
      refine Ru.get (i := 26) (v := .ref 11) (by decide +kernel) (by rfl) (hp1 _) (by decide) rfl ?_
      refine Ru.op (q := (.iload 4, 2)) (by decide +kernel) rfl ?_
      obtain ⟨g22, h⟩ := gd_some h
      refine Ru.ildI (i := v4) (z := (S.A 11 v4)) (by decide +kernel) (hp11 _) g22 (eI_of _) ?_
      refine Ru.kI (q := (.ldc 112, 2)) (c := 32768) (by decide +kernel) rfl (by decide) ?_
      by_cases b23 : (S.A 11 v4) < 32768
      · replace h := if_t b23 h
        refine Ru.br2 (k := .ge) (off := 14) (bb := false) (tg := 96) (by decide +kernel) (by decide +kernel) (ci_ge0 (inR_to _) (by decide) b23) rfl ?_
        refine Ru.op (q := (.aload_n 0, 1)) (by decide +kernel) rfl ?_
        refine Ru.op (q := (.aload_n 0, 1)) (by decide +kernel) rfl ?_
        refine Ru.get (i := 26) (v := .ref 11) (by decide +kernel) (by rfl) (hp1 _) (by decide) rfl ?_
        refine Ru.op (q := (.iload 4, 2)) (by decide +kernel) rfl ?_
        refine Ru.ildI (i := v4) (z := (S.A 11 v4)) (by decide +kernel) (hp11 _) g22 (eI_of _) ?_
        obtain ⟨o24, e25, h⟩ := ob_some h
        refine Ru.vcall (i := 118) (j2 := 26) (as := [vI (S.A 11 v4)]) (by decide +kernel) (by rfl) rfl rfl (hp1 _) (by decide) ⟨(Nat.le_of_ble_eq_true rfl), (by show 19 + 2 ≤ 221; exact Nat.le_of_ble_eq_true rfl), Nat.le_of_ble_eq_true rfl, Nat.le_of_ble_eq_true rfl⟩ ((g26_ok e25).up (Nat.le_of_ble_eq_true rfl) (Nat.le_of_ble_eq_true rfl)) ?_
        refine Ru.inc (x := v4) (z := (v4 + 1)) (xs' := [some (.ref 1), d1, d2, some (vI v3), some (vI (v4 + 1))]) (by decide +kernel) rfl rfl rfl ?_
        refine Ru.op (q := (.goto (-32), 3)) (by decide +kernel) rfl ?_
        exact ih _ _ _ _ _ h r hk
      · replace h := if_f b23 h
        refine Ru.br2 (k := .ge) (off := 14) (bb := true) (tg := 107) (by decide +kernel) (by decide +kernel) (ci_ge1 (inR_to _) (by decide) b23) rfl ?_
        refine Ru.inc (x := v4) (z := (v4 + 1)) (xs' := [some (.ref 1), d1, d2, some (vI v3), some (vI (v4 + 1))]) (by decide +kernel) rfl rfl rfl ?_
        refine Ru.op (q := (.goto (-32), 3)) (by decide +kernel) rfl ?_
        exact ih _ _ _ _ _ h r hk
    · replace h := if_f b21 h
      refine Ru.br2 (k := .ge) (off := 32) (bb := true) (tg := 113) (by decide +kernel) (by decide +kernel) (ci_ge1 g19 g20 b21) rfl ?_
      cases h
      exact hk _ _ _ _ _
def g30 (S : St) (v1 : Int) (v2 : Int) : Option (St) := if (S.F 1 5) = 0 then ob (g30L23 S v1 v2 FU ((S.F 1 8) - 1)) (fun o7 => gd (inR o7) (if o7 < 0 then ob (g25 S v2) (fun o13 => some o13.2) else gd (ixR o7 10) (ob (g26 S (S.A 11 o7)) (fun o16 => if (o16.A 11 o7) < 32768 then some o16 else ob (g30L78 o7 FU 0 o16) (fun o26 => some o26))))) else ob (g26 S (v1 * 256)) (fun o33 => some o33)
set_option maxRecDepth 100000 in
set_option maxHeartbeats 4000000 in
theorem g30_ok {S : St} {v1 : Int} {v2 : Int} {o : St} (h : g30 S v1 v2 = some o) : Ru none 11 221 30 (0, mn_pad (mn_ent [.ref 1, vI v1, vI v2]) 5, [], S.ns, Hp S) ((0, none), o.ns, Hp o) := by
  unfold g30 at h
  show Ru none 11 221 30 (0, [some (.ref 1), some (vI v1), some (vI v2), none, none], [], S.ns, Hp S) _
  refine Ru.op (q := (.aload_n 0, 1)) (by decide +kernel) rfl ?_
  refine Ru.getI (i := 32) (x := (S.F 1 5)) (by decide +kernel) (by rfl) (hp1 _) (by decide) rfl (eI_of _) ?_
  by_cases b1 : (S.F 1 5) = 0
  · replace h := if_t b1 h
    refine Ru.br (k := .eq) (off := 12) (bb := true) (tg := 16) (by decide +kernel) (by decide +kernel) (cz (ci_eq1 (inR_to _) (by decide) b1)) rfl ?_
    refine Ru.op (q := (.aload_n 0, 1)) (by decide +kernel) rfl ?_
    refine Ru.getI (i := 46) (x := (S.F 1 8)) (by decide +kernel) (by rfl) (hp1 _) (by decide) rfl (eI_of _) ?_
    refine Ru.kI (q := (.iconst 1, 1)) (c := 1) (by decide +kernel) rfl (by decide) ?_
    refine Ru.ar2 (i := .isub) (z := ((S.F 1 8) - 1)) (by decide +kernel) rfl (ar_sub _ _) ?_
    refine Ru.op (q := (.istore_n 3, 1)) (S' := (23, [some (.ref 1), some (vI v1), some (vI v2), some (vI ((S.F 1 8) - 1)), none], [], _, _)) (by decide +kernel) rfl ?_
    obtain ⟨o7, e10, h⟩ := ob_some h
    refine g30L23_ok FU _ _ _ e10 _ ?_
    intro d8 d9
    refine Ru.op (q := (.iload_n 3, 1)) (by decide +kernel) rfl ?_
    obtain ⟨g11, h⟩ := gd_some h
    by_cases b12 : o7 < 0
    · replace h := if_t b12 h
      refine Ru.br (k := .ge) (off := 10) (bb := false) (tg := 47) (by decide +kernel) (by decide +kernel) (cz (ci_ge0 g11 (by decide) b12)) rfl ?_
      refine Ru.op (q := (.aload_n 0, 1)) (by decide +kernel) rfl ?_
      refine Ru.op (q := (.iload_n 2, 1)) (by decide +kernel) rfl ?_
      obtain ⟨o13, e14, h⟩ := ob_some h
      refine Ru.vcall (i := 62) (j2 := 25) (as := [vI v2]) (by decide +kernel) (by rfl) rfl rfl (hp1 _) (by decide) ⟨(Nat.le_of_ble_eq_true rfl), (by show 19 + 2 ≤ 221; exact Nat.le_of_ble_eq_true rfl), Nat.le_of_ble_eq_true rfl, Nat.le_of_ble_eq_true rfl⟩ ((g25_ok e14).up (Nat.le_of_ble_eq_true rfl) (Nat.le_of_ble_eq_true rfl)) ?_
      refine Ru.op (q := (.pop, 1)) (by decide +kernel) rfl ?_
      cases h
      exact Ru.end (q := (.return_, 1)) (by decide +kernel) rfl rfl
    · replace h := if_f b12 h
      refine Ru.br (k := .ge) (off := 10) (bb := true) (tg := 54) (by decide +kernel) (by decide +kernel) (cz (ci_ge1 g11 (by decide) b12)) rfl ?_
      refine Ru.op (q := (.aload_n 0, 1)) (by decide +kernel) rfl ?_
      refine Ru.op (q := (.aload_n 0, 1)) (by decide +kernel) rfl ?_
      refine Ru.get (i := 26) (v := .ref 11) (by decide +kernel) (by rfl) (hp1 _) (by decide) rfl ?_
      refine Ru.op (q := (.iload_n 3, 1)) (by decide +kernel) rfl ?_
      obtain ⟨g15, h⟩ := gd_some h
      refine Ru.ildI (i := o7) (z := (S.A 11 o7)) (by decide +kernel) (hp11 _) g15 (eI_of _) ?_
      obtain ⟨o16, e17, h⟩ := ob_some h
      refine Ru.vcall (i := 118) (j2 := 26) (as := [vI (S.A 11 o7)]) (by decide +kernel) (by rfl) rfl rfl (hp1 _) (by decide) ⟨(Nat.le_of_ble_eq_true rfl), (by show 19 + 2 ≤ 221; exact Nat.le_of_ble_eq_true rfl), Nat.le_of_ble_eq_true rfl, Nat.le_of_ble_eq_true rfl⟩ ((g26_ok e17).up (Nat.le_of_ble_eq_true rfl) (Nat.le_of_ble_eq_true rfl)) ?_
      refine Ru.op (q := (.aload_n 0, 1)) (by decide +kernel) rfl ?_
      refine Ru.get (i := 26) (v := .ref 11) (by decide +kernel) (by rfl) (hp1 _) (by decide) rfl ?_
      refine Ru.op (q := (.iload_n 3, 1)) (by decide +kernel) rfl ?_
      refine Ru.ildI (i := o7) (z := (o16.A 11 o7)) (by decide +kernel) (hp11 _) g15 (eI_of _) ?_
      refine Ru.kI (q := (.ldc 112, 2)) (c := 32768) (by decide +kernel) rfl (by decide) ?_
      by_cases b18 : (o16.A 11 o7) < 32768
      · replace h := if_t b18 h
        refine Ru.br2 (k := .lt) (off := 41) (bb := true) (tg := 113) (by decide +kernel) (by decide +kernel) (ci_lt1 (inR_to _) (by decide) b18) rfl ?_
        cases h
        exact Ru.end (q := (.return_, 1)) (by decide +kernel) rfl rfl
      · replace h := if_f b18 h
        refine Ru.br2 (k := .lt) (off := 41) (bb := false) (tg := 75) (by decide +kernel) (by decide +kernel) (ci_lt0 (inR_to _) (by decide) b18) rfl ?_
        refine Ru.kI (q := (.iconst 0, 1)) (c := 0) (by decide +kernel) rfl (by decide) ?_
        refine Ru.op (q := (.istore 4, 2)) (S' := (78, [some (.ref 1), d8, some (vI v2), some (vI o7), some (vI 0)], [], _, _)) (by decide +kernel) rfl ?_
        obtain ⟨o26, e32, h⟩ := ob_some h
        refine g30L78_ok FU _ _ _ _ _ e32 _ ?_
        intro d27 d28 d29 d30 d31
        cases h
        exact Ru.end (q := (.return_, 1)) (by decide +kernel) rfl rfl
  · replace h := if_f b1 h
    refine Ru.br (k := .eq) (off := 12) (bb := false) (tg := 7) (by decide +kernel) (by decide +kernel) (cz (ci_eq0 (inR_to _) (by decide) b1)) rfl ?_
    refine Ru.op (q := (.aload_n 0, 1)) (by decide +kernel) rfl ?_
    refine Ru.op (q := (.iload_n 1, 1)) (by decide +kernel) rfl ?_
    refine Ru.kI (q := (.bipush 8, 2)) (c := 8) (by decide +kernel) rfl (by decide) ?_
    refine Ru.ar2 (i := .ishl) (z := (v1 * 256)) (by decide +kernel) rfl (ar_shl _) ?_
    obtain ⟨o33, e34, h⟩ := ob_some h
    refine Ru.vcall (i := 118) (j2 := 26) (as := [vI (v1 * 256)]) (by decide +kernel) (by rfl) rfl rfl (hp1 _) (by decide) ⟨(Nat.le_of_ble_eq_true rfl), (by show 19 + 2 ≤ 221; exact Nat.le_of_ble_eq_true rfl), Nat.le_of_ble_eq_true rfl, Nat.le_of_ble_eq_true rfl⟩ ((g26_ok e34).up (Nat.le_of_ble_eq_true rfl) (Nat.le_of_ble_eq_true rfl)) ?_
    cases h
    exact Ru.end (q := (.return_, 1)) (by decide +kernel) rfl rfl
def g28b (rc : St → Int → Int → Option (St)) (S : St) (v1 : Int) : Option (St) := ob (g29 S 120 122) (fun o1 => gd (inR o1.1) (if o1.1 = (-1) then ob (g23 o1.2) (fun o5 => gd (inR o5) (if o5 = 36 then if (o1.2.F 1 5) = 0 then ob (g29 o1.2 97 107) (fun o10 => gd (inR o10.1) (if o10.1 = (-1) then ob (g25 o10.2 (o10.2.F 1 4)) (fun o14 => some o14.2) else ob (g26 o10.2 (32768 + (o10.1 * 256))) (fun o16 => ob (g23 o16) (fun o18 => gd (inR o18) (if o18 = 40 then gd (inR v1) (if v1 < 14 then ob (rc o16 (o10.2.F 1 12) (v1 + 1)) (fun o24 => some o24) else ob (g25 o16 (o16.F 1 4)) (fun o26 => some o26.2)) else some o16))))) else ob (g31 o1.2) (fun o28 => gd (inR o28.1) (if o28.1 = (-1) then ob (g25 o28.2 (o28.2.F 1 4)) (fun o32 => some o32.2) else ob (g26 o28.2 (32768 + (o28.1 * 256))) (fun o34 => ob (g23 o34) (fun o36 => gd (inR o36) (if o36 = 40 then gd (inR v1) (if v1 < 14 then ob (rc o34 (o28.2.F 1 12) (v1 + 1)) (fun o42 => some o42) else ob (g25 o34 (o34.F 1 4)) (fun o44 => some o44.2)) else some o34))))) else ob (g29 o1.2 97 107) (fun o46 => gd (inR o46.1) (if o46.1 = (-1) then ob (g25 o46.2 (o46.2.F 1 4)) (fun o50 => some o50.2) else ob (g26 o46.2 (32768 + (o46.1 * 256))) (fun o52 => ob (g23 o52) (fun o54 => gd (inR o54) (if o54 = 40 then gd (inR v1) (if v1 < 14 then ob (rc o52 (o46.2.F 1 12) (v1 + 1)) (fun o60 => some o60) else ob (g25 o52 (o52.F 1 4)) (fun o62 => some o62.2)) else some o52))))))) else ob (g30 o1.2 o1.1 (S.F 1 4)) (fun o64 => some o64)))
set_option maxRecDepth 100000 in
set_option maxHeartbeats 4000000 in
theorem g28b_ok {FR LO : Nat} {rc : St → Int → Int → Option (St)} (hF : 12 ≤ FR) (hL : 245 ≤ LO) (hrc : ∀ {S : St} {v1 : Int} {v2 : Int} {o : St}, rc S v1 v2 = some o → Ru none FR LO 27 (0, mn_pad (mn_ent [.ref 1, vI v1, vI v2]) 5, [], S.ns, Hp S) ((0, none), o.ns, Hp o)) {S : St} {v1 : Int} {o : St} (h : g28b rc S v1 = some o) : Ru none (FR + 1) (LO + 24) 28 (0, mn_pad (mn_ent [.ref 1, vI v1]) 6, [], S.ns, Hp S) ((0, none), o.ns, Hp o) := by
  unfold g28b at h
  show Ru none (FR + 1) (LO + 24) 28 (0, [some (.ref 1), some (vI v1), none, none, none, none], [], S.ns, Hp S) _
  refine Ru.op (q := (.aload_n 0, 1)) (by decide +kernel) rfl ?_
  refine Ru.getI (i := 36) (x := (S.F 1 4)) (by decide +kernel) (by rfl) (hp1 _) (by decide) rfl (eI_of _) ?_
  refine Ru.op (q := (.istore_n 2, 1)) (S' := (5, [some (.ref 1), some (vI v1), some (vI (S.F 1 4)), none, none, none], [], _, _)) (by decide +kernel) rfl ?_
  refine Ru.op (q := (.aload_n 0, 1)) (by decide +kernel) rfl ?_
  refine Ru.kI (q := (.bipush 120, 2)) (c := 120) (by decide +kernel) rfl (by decide) ?_
  refine Ru.kI (q := (.bipush 122, 2)) (c := 122) (by decide +kernel) rfl (by decide) ?_
  obtain ⟨o1, e2, h⟩ := ob_some h
  refine Ru.vcall (i := 103) (j2 := 29) (as := [vI 120, vI 122]) (by decide +kernel) (by rfl) rfl rfl (hp1 _) (by decide) ⟨(by omega), (by show 19 + 5 ≤ (LO + 24); omega), Nat.le_of_ble_eq_true rfl, Nat.le_of_ble_eq_true rfl⟩ ((g29_ok e2).up (by omega) (by show _ ≤ (LO + 24) - (19 + 5); omega)) ?_
  refine Ru.op (q := (.istore_n 3, 1)) (S' := (14, [some (.ref 1), some (vI v1), some (vI (S.F 1 4)), some (vI o1.1), none, none], [], _, _)) (by decide +kernel) rfl ?_
  refine Ru.op (q := (.iload_n 3, 1)) (by decide +kernel) rfl ?_
  refine Ru.kI (q := (.iconst (-1), 1)) (c := (-1)) (by decide +kernel) rfl (by decide) ?_
  obtain ⟨g3, h⟩ := gd_some h
  by_cases b4 : o1.1 = (-1)
  · replace h := if_t b4 h
    refine Ru.br2 (k := .eq) (off := 10) (bb := true) (tg := 26) (by decide +kernel) (by decide +kernel) (ci_eq1 g3 (by decide) b4) rfl ?_
    refine Ru.op (q := (.aload_n 0, 1)) (by decide +kernel) rfl ?_
    obtain ⟨o5, e6, h⟩ := ob_some h
    refine Ru.vcall (i := 69) (j2 := 23) (as := []) (by decide +kernel) (by rfl) rfl rfl (hp1 _) (by decide) ⟨(by omega), (by show 19 + 1 ≤ (LO + 24); omega), Nat.le_of_ble_eq_true rfl, Nat.le_of_ble_eq_true rfl⟩ ((g23_ok e6).up (by omega) (by show _ ≤ (LO + 24) - (19 + 1); omega)) ?_
    refine Ru.kI (q := (.bipush 36, 2)) (c := 36) (by decide +kernel) rfl (by decide) ?_
    obtain ⟨g7, h⟩ := gd_some h
    by_cases b8 : o5 = 36
    · replace h := if_t b8 h
      refine Ru.br2 (k := .ne) (off := 17) (bb := false) (tg := 35) (by decide +kernel) (by decide +kernel) (ci_ne0 g7 (by decide) b8) rfl ?_
      refine Ru.op (q := (.aload_n 0, 1)) (by decide +kernel) rfl ?_
      refine Ru.getI (i := 32) (x := (o1.2.F 1 5)) (by decide +kernel) (by rfl) (hp1 _) (by decide) rfl (eI_of _) ?_
      by_cases b9 : (o1.2.F 1 5) = 0
      · replace h := if_t b9 h
        refine Ru.br (k := .eq) (off := 10) (bb := true) (tg := 49) (by decide +kernel) (by decide +kernel) (cz (ci_eq1 (inR_to _) (by decide) b9)) rfl ?_
        refine Ru.op (q := (.aload_n 0, 1)) (by decide +kernel) rfl ?_
        refine Ru.kI (q := (.bipush 97, 2)) (c := 97) (by decide +kernel) rfl (by decide) ?_
        refine Ru.kI (q := (.bipush 107, 2)) (c := 107) (by decide +kernel) rfl (by decide) ?_
        obtain ⟨o10, e11, h⟩ := ob_some h
        refine Ru.vcall (i := 103) (j2 := 29) (as := [vI 97, vI 107]) (by decide +kernel) (by rfl) rfl rfl (hp1 _) (by decide) ⟨(by omega), (by show 19 + 5 ≤ (LO + 24); omega), Nat.le_of_ble_eq_true rfl, Nat.le_of_ble_eq_true rfl⟩ ((g29_ok e11).up (by omega) (by show _ ≤ (LO + 24) - (19 + 5); omega)) ?_
        refine Ru.op (q := (.istore 4, 2)) (S' := (59, [some (.ref 1), some (vI v1), some (vI (S.F 1 4)), some (vI o1.1), some (vI o10.1), none], [], _, _)) (by decide +kernel) rfl ?_
        refine Ru.op (q := (.iload 4, 2)) (by decide +kernel) rfl ?_
        refine Ru.kI (q := (.iconst (-1), 1)) (c := (-1)) (by decide +kernel) rfl (by decide) ?_
        obtain ⟨g12, h⟩ := gd_some h
        by_cases b13 : o10.1 = (-1)
        · replace h := if_t b13 h
          refine Ru.br2 (k := .ne) (off := 13) (bb := false) (tg := 65) (by decide +kernel) (by decide +kernel) (ci_ne0 g12 (by decide) b13) rfl ?_
          refine Ru.op (q := (.aload_n 0, 1)) (by decide +kernel) rfl ?_
          refine Ru.op (q := (.aload_n 0, 1)) (by decide +kernel) rfl ?_
          refine Ru.getI (i := 36) (x := (o10.2.F 1 4)) (by decide +kernel) (by rfl) (hp1 _) (by decide) rfl (eI_of _) ?_
          obtain ⟨o14, e15, h⟩ := ob_some h
          refine Ru.vcall (i := 62) (j2 := 25) (as := [vI (o10.2.F 1 4)]) (by decide +kernel) (by rfl) rfl rfl (hp1 _) (by decide) ⟨(by omega), (by show 19 + 2 ≤ (LO + 24); omega), Nat.le_of_ble_eq_true rfl, Nat.le_of_ble_eq_true rfl⟩ ((g25_ok e15).up (by omega) (by show _ ≤ (LO + 24) - (19 + 2); omega)) ?_
          refine Ru.op (q := (.pop, 1)) (by decide +kernel) rfl ?_
          cases h
          exact Ru.end (q := (.return_, 1)) (by decide +kernel) rfl rfl
        · replace h := if_f b13 h
          refine Ru.br2 (k := .ne) (off := 13) (bb := true) (tg := 75) (by decide +kernel) (by decide +kernel) (ci_ne1 g12 (by decide) b13) rfl ?_
          refine Ru.op (q := (.aload_n 0, 1)) (by decide +kernel) rfl ?_
          refine Ru.getI (i := 84) (x := (o10.2.F 1 12)) (by decide +kernel) (by rfl) (hp1 _) (by decide) rfl (eI_of _) ?_
          refine Ru.op (q := (.istore 5, 2)) (S' := (81, [some (.ref 1), some (vI v1), some (vI (S.F 1 4)), some (vI o1.1), some (vI o10.1), some (vI (o10.2.F 1 12))], [], _, _)) (by decide +kernel) rfl ?_
          refine Ru.op (q := (.aload_n 0, 1)) (by decide +kernel) rfl ?_
          refine Ru.kI (q := (.ldc 112, 2)) (c := 32768) (by decide +kernel) rfl (by decide) ?_
          refine Ru.op (q := (.iload 4, 2)) (by decide +kernel) rfl ?_
          refine Ru.kI (q := (.bipush 8, 2)) (c := 8) (by decide +kernel) rfl (by decide) ?_
          refine Ru.ar2 (i := .ishl) (z := (o10.1 * 256)) (by decide +kernel) rfl (ar_shl _) ?_
          refine Ru.ar2 (i := .iadd) (z := (32768 + (o10.1 * 256))) (by decide +kernel) rfl (ar_add _ _) ?_
          obtain ⟨o16, e17, h⟩ := ob_some h
          refine Ru.vcall (i := 118) (j2 := 26) (as := [vI (32768 + (o10.1 * 256))]) (by decide +kernel) (by rfl) rfl rfl (hp1 _) (by decide) ⟨(by omega), (by show 19 + 2 ≤ (LO + 24); omega), Nat.le_of_ble_eq_true rfl, Nat.le_of_ble_eq_true rfl⟩ ((g26_ok e17).up (by omega) (by show _ ≤ (LO + 24) - (19 + 2); omega)) ?_
          refine Ru.op (q := (.aload_n 0, 1)) (by decide +kernel) rfl ?_
          obtain ⟨o18, e19, h⟩ := ob_some h
          refine Ru.vcall (i := 69) (j2 := 23) (as := []) (by decide +kernel) (by rfl) rfl rfl (hp1 _) (by decide) ⟨(by omega), (by show 19 + 1 ≤ (LO + 24); omega), Nat.le_of_ble_eq_true rfl, Nat.le_of_ble_eq_true rfl⟩ ((g23_ok e19).up (by omega) (by show _ ≤ (LO + 24) - (19 + 1); omega)) ?_
          refine Ru.kI (q := (.bipush 40, 2)) (c := 40) (by decide +kernel) rfl (by decide) ?_
          obtain ⟨g20, h⟩ := gd_some h
          by_cases b21 : o18 = 40
          · replace h := if_t b21 h
            refine Ru.br2 (k := .ne) (off := 30) (bb := false) (tg := 102) (by decide +kernel) (by decide +kernel) (ci_ne0 g20 (by decide) b21) rfl ?_
            refine Ru.op (q := (.iload_n 1, 1)) (by decide +kernel) rfl ?_
            refine Ru.kI (q := (.bipush 14, 2)) (c := 14) (by decide +kernel) rfl (by decide) ?_
            obtain ⟨g22, h⟩ := gd_some h
            by_cases b23 : v1 < 14
            · replace h := if_t b23 h
              refine Ru.br2 (k := .lt) (off := 15) (bb := true) (tg := 120) (by decide +kernel) (by decide +kernel) (ci_lt1 g22 (by decide) b23) rfl ?_
              refine Ru.op (q := (.aload_n 0, 1)) (by decide +kernel) rfl ?_
              refine Ru.op (q := (.iload 5, 2)) (by decide +kernel) rfl ?_
              refine Ru.op (q := (.iload_n 1, 1)) (by decide +kernel) rfl ?_
              refine Ru.kI (q := (.iconst 1, 1)) (c := 1) (by decide +kernel) rfl (by decide) ?_
              refine Ru.ar2 (i := .iadd) (z := (v1 + 1)) (by decide +kernel) rfl (ar_add _ _) ?_
              obtain ⟨o24, e25, h⟩ := ob_some h
              refine Ru.vcall (i := 122) (j2 := 27) (as := [vI (o10.2.F 1 12), vI (v1 + 1)]) (by decide +kernel) (by rfl) rfl rfl (hp1 _) (by decide) ⟨(by omega), (by show 19 + 5 ≤ (LO + 24); omega), Nat.le_of_ble_eq_true rfl, Nat.le_of_ble_eq_true rfl⟩ ((hrc e25).up (by omega) (by show _ ≤ (LO + 24) - (19 + 5); omega)) ?_
              cases h
              exact Ru.end (q := (.return_, 1)) (by decide +kernel) rfl rfl
            · replace h := if_f b23 h
              refine Ru.br2 (k := .lt) (off := 15) (bb := false) (tg := 108) (by decide +kernel) (by decide +kernel) (ci_lt0 g22 (by decide) b23) rfl ?_
              refine Ru.op (q := (.aload_n 0, 1)) (by decide +kernel) rfl ?_
              refine Ru.op (q := (.aload_n 0, 1)) (by decide +kernel) rfl ?_
              refine Ru.getI (i := 36) (x := (o16.F 1 4)) (by decide +kernel) (by rfl) (hp1 _) (by decide) rfl (eI_of _) ?_
              obtain ⟨o26, e27, h⟩ := ob_some h
              refine Ru.vcall (i := 62) (j2 := 25) (as := [vI (o16.F 1 4)]) (by decide +kernel) (by rfl) rfl rfl (hp1 _) (by decide) ⟨(by omega), (by show 19 + 2 ≤ (LO + 24); omega), Nat.le_of_ble_eq_true rfl, Nat.le_of_ble_eq_true rfl⟩ ((g25_ok e27).up (by omega) (by show _ ≤ (LO + 24) - (19 + 2); omega)) ?_
              refine Ru.op (q := (.pop, 1)) (by decide +kernel) rfl ?_
              refine Ru.op (q := (.goto 12, 3)) (by decide +kernel) rfl ?_
              cases h
              exact Ru.end (q := (.return_, 1)) (by decide +kernel) rfl rfl
          · replace h := if_f b21 h
            refine Ru.br2 (k := .ne) (off := 30) (bb := true) (tg := 129) (by decide +kernel) (by decide +kernel) (ci_ne1 g20 (by decide) b21) rfl ?_
            cases h
            exact Ru.end (q := (.return_, 1)) (by decide +kernel) rfl rfl
      · replace h := if_f b9 h
        refine Ru.br (k := .eq) (off := 10) (bb := false) (tg := 42) (by decide +kernel) (by decide +kernel) (cz (ci_eq0 (inR_to _) (by decide) b9)) rfl ?_
        refine Ru.op (q := (.aload_n 0, 1)) (by decide +kernel) rfl ?_
        obtain ⟨o28, e29, h⟩ := ob_some h
        refine Ru.vcall (i := 132) (j2 := 31) (as := []) (by decide +kernel) (by rfl) rfl rfl (hp1 _) (by decide) ⟨(by omega), (by show 19 + 4 ≤ (LO + 24); omega), Nat.le_of_ble_eq_true rfl, Nat.le_of_ble_eq_true rfl⟩ ((g31_ok e29).up (by omega) (by show _ ≤ (LO + 24) - (19 + 4); omega)) ?_
        refine Ru.op (q := (.goto 11, 3)) (by decide +kernel) rfl ?_
        refine Ru.op (q := (.istore 4, 2)) (S' := (59, [some (.ref 1), some (vI v1), some (vI (S.F 1 4)), some (vI o1.1), some (vI o28.1), none], [], _, _)) (by decide +kernel) rfl ?_
        refine Ru.op (q := (.iload 4, 2)) (by decide +kernel) rfl ?_
        refine Ru.kI (q := (.iconst (-1), 1)) (c := (-1)) (by decide +kernel) rfl (by decide) ?_
        obtain ⟨g30, h⟩ := gd_some h
        by_cases b31 : o28.1 = (-1)
        · replace h := if_t b31 h
          refine Ru.br2 (k := .ne) (off := 13) (bb := false) (tg := 65) (by decide +kernel) (by decide +kernel) (ci_ne0 g30 (by decide) b31) rfl ?_
          refine Ru.op (q := (.aload_n 0, 1)) (by decide +kernel) rfl ?_
          refine Ru.op (q := (.aload_n 0, 1)) (by decide +kernel) rfl ?_
          refine Ru.getI (i := 36) (x := (o28.2.F 1 4)) (by decide +kernel) (by rfl) (hp1 _) (by decide) rfl (eI_of _) ?_
          obtain ⟨o32, e33, h⟩ := ob_some h
          refine Ru.vcall (i := 62) (j2 := 25) (as := [vI (o28.2.F 1 4)]) (by decide +kernel) (by rfl) rfl rfl (hp1 _) (by decide) ⟨(by omega), (by show 19 + 2 ≤ (LO + 24); omega), Nat.le_of_ble_eq_true rfl, Nat.le_of_ble_eq_true rfl⟩ ((g25_ok e33).up (by omega) (by show _ ≤ (LO + 24) - (19 + 2); omega)) ?_
          refine Ru.op (q := (.pop, 1)) (by decide +kernel) rfl ?_
          cases h
          exact Ru.end (q := (.return_, 1)) (by decide +kernel) rfl rfl
        · replace h := if_f b31 h
          refine Ru.br2 (k := .ne) (off := 13) (bb := true) (tg := 75) (by decide +kernel) (by decide +kernel) (ci_ne1 g30 (by decide) b31) rfl ?_
          refine Ru.op (q := (.aload_n 0, 1)) (by decide +kernel) rfl ?_
          refine Ru.getI (i := 84) (x := (o28.2.F 1 12)) (by decide +kernel) (by rfl) (hp1 _) (by decide) rfl (eI_of _) ?_
          refine Ru.op (q := (.istore 5, 2)) (S' := (81, [some (.ref 1), some (vI v1), some (vI (S.F 1 4)), some (vI o1.1), some (vI o28.1), some (vI (o28.2.F 1 12))], [], _, _)) (by decide +kernel) rfl ?_
          refine Ru.op (q := (.aload_n 0, 1)) (by decide +kernel) rfl ?_
          refine Ru.kI (q := (.ldc 112, 2)) (c := 32768) (by decide +kernel) rfl (by decide) ?_
          refine Ru.op (q := (.iload 4, 2)) (by decide +kernel) rfl ?_
          refine Ru.kI (q := (.bipush 8, 2)) (c := 8) (by decide +kernel) rfl (by decide) ?_
          refine Ru.ar2 (i := .ishl) (z := (o28.1 * 256)) (by decide +kernel) rfl (ar_shl _) ?_
          refine Ru.ar2 (i := .iadd) (z := (32768 + (o28.1 * 256))) (by decide +kernel) rfl (ar_add _ _) ?_
          obtain ⟨o34, e35, h⟩ := ob_some h
          refine Ru.vcall (i := 118) (j2 := 26) (as := [vI (32768 + (o28.1 * 256))]) (by decide +kernel) (by rfl) rfl rfl (hp1 _) (by decide) ⟨(by omega), (by show 19 + 2 ≤ (LO + 24); omega), Nat.le_of_ble_eq_true rfl, Nat.le_of_ble_eq_true rfl⟩ ((g26_ok e35).up (by omega) (by show _ ≤ (LO + 24) - (19 + 2); omega)) ?_
          refine Ru.op (q := (.aload_n 0, 1)) (by decide +kernel) rfl ?_
          obtain ⟨o36, e37, h⟩ := ob_some h
          refine Ru.vcall (i := 69) (j2 := 23) (as := []) (by decide +kernel) (by rfl) rfl rfl (hp1 _) (by decide) ⟨(by omega), (by show 19 + 1 ≤ (LO + 24); omega), Nat.le_of_ble_eq_true rfl, Nat.le_of_ble_eq_true rfl⟩ ((g23_ok e37).up (by omega) (by show _ ≤ (LO + 24) - (19 + 1); omega)) ?_
          refine Ru.kI (q := (.bipush 40, 2)) (c := 40) (by decide +kernel) rfl (by decide) ?_
          obtain ⟨g38, h⟩ := gd_some h
          by_cases b39 : o36 = 40
          · replace h := if_t b39 h
            refine Ru.br2 (k := .ne) (off := 30) (bb := false) (tg := 102) (by decide +kernel) (by decide +kernel) (ci_ne0 g38 (by decide) b39) rfl ?_
            refine Ru.op (q := (.iload_n 1, 1)) (by decide +kernel) rfl ?_
            refine Ru.kI (q := (.bipush 14, 2)) (c := 14) (by decide +kernel) rfl (by decide) ?_
            obtain ⟨g40, h⟩ := gd_some h
            by_cases b41 : v1 < 14
            · replace h := if_t b41 h
              refine Ru.br2 (k := .lt) (off := 15) (bb := true) (tg := 120) (by decide +kernel) (by decide +kernel) (ci_lt1 g40 (by decide) b41) rfl ?_
              refine Ru.op (q := (.aload_n 0, 1)) (by decide +kernel) rfl ?_
              refine Ru.op (q := (.iload 5, 2)) (by decide +kernel) rfl ?_
              refine Ru.op (q := (.iload_n 1, 1)) (by decide +kernel) rfl ?_
              refine Ru.kI (q := (.iconst 1, 1)) (c := 1) (by decide +kernel) rfl (by decide) ?_
              refine Ru.ar2 (i := .iadd) (z := (v1 + 1)) (by decide +kernel) rfl (ar_add _ _) ?_
              obtain ⟨o42, e43, h⟩ := ob_some h
              refine Ru.vcall (i := 122) (j2 := 27) (as := [vI (o28.2.F 1 12), vI (v1 + 1)]) (by decide +kernel) (by rfl) rfl rfl (hp1 _) (by decide) ⟨(by omega), (by show 19 + 5 ≤ (LO + 24); omega), Nat.le_of_ble_eq_true rfl, Nat.le_of_ble_eq_true rfl⟩ ((hrc e43).up (by omega) (by show _ ≤ (LO + 24) - (19 + 5); omega)) ?_
              cases h
              exact Ru.end (q := (.return_, 1)) (by decide +kernel) rfl rfl
            · replace h := if_f b41 h
              refine Ru.br2 (k := .lt) (off := 15) (bb := false) (tg := 108) (by decide +kernel) (by decide +kernel) (ci_lt0 g40 (by decide) b41) rfl ?_
              refine Ru.op (q := (.aload_n 0, 1)) (by decide +kernel) rfl ?_
              refine Ru.op (q := (.aload_n 0, 1)) (by decide +kernel) rfl ?_
              refine Ru.getI (i := 36) (x := (o34.F 1 4)) (by decide +kernel) (by rfl) (hp1 _) (by decide) rfl (eI_of _) ?_
              obtain ⟨o44, e45, h⟩ := ob_some h
              refine Ru.vcall (i := 62) (j2 := 25) (as := [vI (o34.F 1 4)]) (by decide +kernel) (by rfl) rfl rfl (hp1 _) (by decide) ⟨(by omega), (by show 19 + 2 ≤ (LO + 24); omega), Nat.le_of_ble_eq_true rfl, Nat.le_of_ble_eq_true rfl⟩ ((g25_ok e45).up (by omega) (by show _ ≤ (LO + 24) - (19 + 2); omega)) ?_
              refine Ru.op (q := (.pop, 1)) (by decide +kernel) rfl ?_
              refine Ru.op (q := (.goto 12, 3)) (by decide +kernel) rfl ?_
              cases h
              exact Ru.end (q := (.return_, 1)) (by decide +kernel) rfl rfl
          · replace h := if_f b39 h
            refine Ru.br2 (k := .ne) (off := 30) (bb := true) (tg := 129) (by decide +kernel) (by decide +kernel) (ci_ne1 g38 (by decide) b39) rfl ?_
            cases h
            exact Ru.end (q := (.return_, 1)) (by decide +kernel) rfl rfl
    · replace h := if_f b8 h
      refine Ru.br2 (k := .ne) (off := 17) (bb := true) (tg := 49) (by decide +kernel) (by decide +kernel) (ci_ne1 g7 (by decide) b8) rfl ?_
      refine Ru.op (q := (.aload_n 0, 1)) (by decide +kernel) rfl ?_
      refine Ru.kI (q := (.bipush 97, 2)) (c := 97) (by decide +kernel) rfl (by decide) ?_
      refine Ru.kI (q := (.bipush 107, 2)) (c := 107) (by decide +kernel) rfl (by decide) ?_
      obtain ⟨o46, e47, h⟩ := ob_some h
      refine Ru.vcall (i := 103) (j2 := 29) (as := [vI 97, vI 107]) (by decide +kernel) (by rfl) rfl rfl (hp1 _) (by decide) ⟨(by omega), (by show 19 + 5 ≤ (LO + 24); omega), Nat.le_of_ble_eq_true rfl, Nat.le_of_ble_eq_true rfl⟩ ((g29_ok e47).up (by omega) (by show _ ≤ (LO + 24) - (19 + 5); omega)) ?_
      refine Ru.op (q := (.istore 4, 2)) (S' := (59, [some (.ref 1), some (vI v1), some (vI (S.F 1 4)), some (vI o1.1), some (vI o46.1), none], [], _, _)) (by decide +kernel) rfl ?_
      refine Ru.op (q := (.iload 4, 2)) (by decide +kernel) rfl ?_
      refine Ru.kI (q := (.iconst (-1), 1)) (c := (-1)) (by decide +kernel) rfl (by decide) ?_
      obtain ⟨g48, h⟩ := gd_some h
      by_cases b49 : o46.1 = (-1)
      · replace h := if_t b49 h
        refine Ru.br2 (k := .ne) (off := 13) (bb := false) (tg := 65) (by decide +kernel) (by decide +kernel) (ci_ne0 g48 (by decide) b49) rfl ?_
        refine Ru.op (q := (.aload_n 0, 1)) (by decide +kernel) rfl ?_
        refine Ru.op (q := (.aload_n 0, 1)) (by decide +kernel) rfl ?_
        refine Ru.getI (i := 36) (x := (o46.2.F 1 4)) (by decide +kernel) (by rfl) (hp1 _) (by decide) rfl (eI_of _) ?_
        obtain ⟨o50, e51, h⟩ := ob_some h
        refine Ru.vcall (i := 62) (j2 := 25) (as := [vI (o46.2.F 1 4)]) (by decide +kernel) (by rfl) rfl rfl (hp1 _) (by decide) ⟨(by omega), (by show 19 + 2 ≤ (LO + 24); omega), Nat.le_of_ble_eq_true rfl, Nat.le_of_ble_eq_true rfl⟩ ((g25_ok e51).up (by omega) (by show _ ≤ (LO + 24) - (19 + 2); omega)) ?_
        refine Ru.op (q := (.pop, 1)) (by decide +kernel) rfl ?_
        cases h
        exact Ru.end (q := (.return_, 1)) (by decide +kernel) rfl rfl
      · replace h := if_f b49 h
        refine Ru.br2 (k := .ne) (off := 13) (bb := true) (tg := 75) (by decide +kernel) (by decide +kernel) (ci_ne1 g48 (by decide) b49) rfl ?_
        refine Ru.op (q := (.aload_n 0, 1)) (by decide +kernel) rfl ?_
        refine Ru.getI (i := 84) (x := (o46.2.F 1 12)) (by decide +kernel) (by rfl) (hp1 _) (by decide) rfl (eI_of _) ?_
        refine Ru.op (q := (.istore 5, 2)) (S' := (81, [some (.ref 1), some (vI v1), some (vI (S.F 1 4)), some (vI o1.1), some (vI o46.1), some (vI (o46.2.F 1 12))], [], _, _)) (by decide +kernel) rfl ?_
        refine Ru.op (q := (.aload_n 0, 1)) (by decide +kernel) rfl ?_
        refine Ru.kI (q := (.ldc 112, 2)) (c := 32768) (by decide +kernel) rfl (by decide) ?_
        refine Ru.op (q := (.iload 4, 2)) (by decide +kernel) rfl ?_
        refine Ru.kI (q := (.bipush 8, 2)) (c := 8) (by decide +kernel) rfl (by decide) ?_
        refine Ru.ar2 (i := .ishl) (z := (o46.1 * 256)) (by decide +kernel) rfl (ar_shl _) ?_
        refine Ru.ar2 (i := .iadd) (z := (32768 + (o46.1 * 256))) (by decide +kernel) rfl (ar_add _ _) ?_
        obtain ⟨o52, e53, h⟩ := ob_some h
        refine Ru.vcall (i := 118) (j2 := 26) (as := [vI (32768 + (o46.1 * 256))]) (by decide +kernel) (by rfl) rfl rfl (hp1 _) (by decide) ⟨(by omega), (by show 19 + 2 ≤ (LO + 24); omega), Nat.le_of_ble_eq_true rfl, Nat.le_of_ble_eq_true rfl⟩ ((g26_ok e53).up (by omega) (by show _ ≤ (LO + 24) - (19 + 2); omega)) ?_
        refine Ru.op (q := (.aload_n 0, 1)) (by decide +kernel) rfl ?_
        obtain ⟨o54, e55, h⟩ := ob_some h
        refine Ru.vcall (i := 69) (j2 := 23) (as := []) (by decide +kernel) (by rfl) rfl rfl (hp1 _) (by decide) ⟨(by omega), (by show 19 + 1 ≤ (LO + 24); omega), Nat.le_of_ble_eq_true rfl, Nat.le_of_ble_eq_true rfl⟩ ((g23_ok e55).up (by omega) (by show _ ≤ (LO + 24) - (19 + 1); omega)) ?_
        refine Ru.kI (q := (.bipush 40, 2)) (c := 40) (by decide +kernel) rfl (by decide) ?_
        obtain ⟨g56, h⟩ := gd_some h
        by_cases b57 : o54 = 40
        · replace h := if_t b57 h
          refine Ru.br2 (k := .ne) (off := 30) (bb := false) (tg := 102) (by decide +kernel) (by decide +kernel) (ci_ne0 g56 (by decide) b57) rfl ?_
          refine Ru.op (q := (.iload_n 1, 1)) (by decide +kernel) rfl ?_
          refine Ru.kI (q := (.bipush 14, 2)) (c := 14) (by decide +kernel) rfl (by decide) ?_
          obtain ⟨g58, h⟩ := gd_some h
          by_cases b59 : v1 < 14
          · replace h := if_t b59 h
            refine Ru.br2 (k := .lt) (off := 15) (bb := true) (tg := 120) (by decide +kernel) (by decide +kernel) (ci_lt1 g58 (by decide) b59) rfl ?_
            refine Ru.op (q := (.aload_n 0, 1)) (by decide +kernel) rfl ?_
            refine Ru.op (q := (.iload 5, 2)) (by decide +kernel) rfl ?_
            refine Ru.op (q := (.iload_n 1, 1)) (by decide +kernel) rfl ?_
            refine Ru.kI (q := (.iconst 1, 1)) (c := 1) (by decide +kernel) rfl (by decide) ?_
            refine Ru.ar2 (i := .iadd) (z := (v1 + 1)) (by decide +kernel) rfl (ar_add _ _) ?_
            obtain ⟨o60, e61, h⟩ := ob_some h
            refine Ru.vcall (i := 122) (j2 := 27) (as := [vI (o46.2.F 1 12), vI (v1 + 1)]) (by decide +kernel) (by rfl) rfl rfl (hp1 _) (by decide) ⟨(by omega), (by show 19 + 5 ≤ (LO + 24); omega), Nat.le_of_ble_eq_true rfl, Nat.le_of_ble_eq_true rfl⟩ ((hrc e61).up (by omega) (by show _ ≤ (LO + 24) - (19 + 5); omega)) ?_
            cases h
            exact Ru.end (q := (.return_, 1)) (by decide +kernel) rfl rfl
          · replace h := if_f b59 h
            refine Ru.br2 (k := .lt) (off := 15) (bb := false) (tg := 108) (by decide +kernel) (by decide +kernel) (ci_lt0 g58 (by decide) b59) rfl ?_
            refine Ru.op (q := (.aload_n 0, 1)) (by decide +kernel) rfl ?_
            refine Ru.op (q := (.aload_n 0, 1)) (by decide +kernel) rfl ?_
            refine Ru.getI (i := 36) (x := (o52.F 1 4)) (by decide +kernel) (by rfl) (hp1 _) (by decide) rfl (eI_of _) ?_
            obtain ⟨o62, e63, h⟩ := ob_some h
            refine Ru.vcall (i := 62) (j2 := 25) (as := [vI (o52.F 1 4)]) (by decide +kernel) (by rfl) rfl rfl (hp1 _) (by decide) ⟨(by omega), (by show 19 + 2 ≤ (LO + 24); omega), Nat.le_of_ble_eq_true rfl, Nat.le_of_ble_eq_true rfl⟩ ((g25_ok e63).up (by omega) (by show _ ≤ (LO + 24) - (19 + 2); omega)) ?_
            refine Ru.op (q := (.pop, 1)) (by decide +kernel) rfl ?_
            refine Ru.op (q := (.goto 12, 3)) (by decide +kernel) rfl ?_
            cases h
            exact Ru.end (q := (.return_, 1)) (by decide +kernel) rfl rfl
        · replace h := if_f b57 h
          refine Ru.br2 (k := .ne) (off := 30) (bb := true) (tg := 129) (by decide +kernel) (by decide +kernel) (ci_ne1 g56 (by decide) b57) rfl ?_
          cases h
          exact Ru.end (q := (.return_, 1)) (by decide +kernel) rfl rfl
  · replace h := if_f b4 h
    refine Ru.br2 (k := .eq) (off := 10) (bb := false) (tg := 19) (by decide +kernel) (by decide +kernel) (ci_eq0 g3 (by decide) b4) rfl ?_
    refine Ru.op (q := (.aload_n 0, 1)) (by decide +kernel) rfl ?_
    refine Ru.op (q := (.iload_n 3, 1)) (by decide +kernel) rfl ?_
    refine Ru.op (q := (.iload_n 2, 1)) (by decide +kernel) rfl ?_
    obtain ⟨o64, e65, h⟩ := ob_some h
    refine Ru.vcall (i := 129) (j2 := 30) (as := [vI o1.1, vI (S.F 1 4)]) (by decide +kernel) (by rfl) rfl rfl (hp1 _) (by decide) ⟨(by omega), (by show 19 + 5 ≤ (LO + 24); omega), Nat.le_of_ble_eq_true rfl, Nat.le_of_ble_eq_true rfl⟩ ((g30_ok e65).up (by omega) (by show _ ≤ (LO + 24) - (19 + 5); omega)) ?_
    cases h
    exact Ru.end (q := (.return_, 1)) (by decide +kernel) rfl rfl
