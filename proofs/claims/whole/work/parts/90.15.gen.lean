def g131L154 (S : St) (v3 : Int) (v4 : Int) (v5 : Int) (v6 : Int) (v7 : Int) : Nat → Int → Int → Option (Int)
  | 0, _, _ => none
  | n + 1, v8, v9 => gd (inR v9) (gd (inR v7) (if v9 < v7 then gd (inR v8) (if v8 = 0 then some v8 else gd (ixR v6 64) (gd (ixR ((S.A 62 v6) + v9) 8032) (gd (ixR (v4 + v9) 8032) (if (S.A 38 ((S.A 62 v6) + v9)) = (S.A 38 (v4 + v9)) then g131L154 S v3 v4 v5 v6 v7 n 1 (v9 + 1) else g131L154 S v3 v4 v5 v6 v7 n 0 (v9 + 1))))) else some v8))
set_option maxRecDepth 100000 in
set_option maxHeartbeats 4000000 in
theorem g131L154_ok {S : St} {v3 : Int} {v4 : Int} {v5 : Int} {v6 : Int} {v7 : Int} : ∀ (n : Nat) (v8 : Int) (v9 : Int) (d1 d2 : Option Value) (out : Int), g131L154 S v3 v4 v5 v6 v7 n v8 v9 = some out → ∀ r, (∀ (e1 e2 e6 e9 : Option Value), Ru none 13 263 131 (207, [some (.ref 36), e1, e2, some (vI v3), some (vI v4), some (vI v5), e6, some (vI v7), some (vI out), e9], [], S.ns, Hp S) r) → Ru none 13 263 131 (154, [some (.ref 36), d1, d2, some (vI v3), some (vI v4), some (vI v5), some (vI v6), some (vI v7), some (vI v8), some (vI v9)], [], S.ns, Hp S) r := by
  intro n
  induction n with
  | zero => intro v8 v9 d1 d2 out h; cases h
  | succ n ih =>
    intro v8 v9 d1 d2 out h r hk
    unfold g131L154 at h
    refine Ru.op (q := (.iload 9, 2)) (by decide +kernel) rfl ?_
    refine Ru.op (q := (.iload 7, 2)) (by decide +kernel) rfl ?_
    obtain ⟨g22, h⟩ := gd_some h
    obtain ⟨g23, h⟩ := gd_some h
    by_cases b24 : v9 < v7
    · replace h := if_t b24 h
      refine Ru.br2 (k := .ge) (off := 49) (bb := false) (tg := 161) (by decide +kernel) (by decide +kernel) (ci_ge0 g22 g23 b24) rfl ?_
      refine Ru.op (q := (.iload 8, 2)) (by decide +kernel) rfl ?_
      obtain ⟨g25, h⟩ := gd_some h
      by_cases b26 : v8 = 0
      · replace h := if_t b26 h
        refine Ru.br (k := .eq) (off := 44) (bb := true) (tg := 207) (by decide +kernel) (by decide +kernel) (cz (ci_eq1 g25 (by decide) b26)) rfl ?_
        cases h
        exact hk _ _ _ _
      · replace h := if_f b26 h
        refine Ru.br (k := .eq) (off := 44) (bb := false) (tg := 166) (by decide +kernel) (by decide +kernel) (cz (ci_eq0 g25 (by decide) b26)) rfl ?_
        refine Ru.op (q := (.aload_n 0, 1)) (by decide +kernel) rfl ?_
        refine Ru.get (i := 17) (v := .ref 38) (by decide +kernel) (by rfl) (hp36 _) (by decide) rfl ?_
        refine Ru.op (q := (.aload_n 0, 1)) (by decide +kernel) rfl ?_
        refine Ru.get (i := 93) (v := .ref 62) (by decide +kernel) (by rfl) (hp36 _) (by decide) rfl ?_
        refine Ru.op (q := (.iload 6, 2)) (by decide +kernel) rfl ?_
        obtain ⟨g27, h⟩ := gd_some h
        refine Ru.ildI (i := v6) (z := (S.A 62 v6)) (by decide +kernel) (hp62 _) g27 (eI_of _) ?_
        refine Ru.op (q := (.iload 9, 2)) (by decide +kernel) rfl ?_
        refine Ru.ar2 (i := .iadd) (z := ((S.A 62 v6) + v9)) (by decide +kernel) rfl (ar_add _ _) ?_
        obtain ⟨g28, h⟩ := gd_some h
        refine Ru.ildI (i := ((S.A 62 v6) + v9)) (z := (S.A 38 ((S.A 62 v6) + v9))) (by decide +kernel) (hp38 _) g28 (eI_of _) ?_
        refine Ru.op (q := (.aload_n 0, 1)) (by decide +kernel) rfl ?_
        refine Ru.get (i := 17) (v := .ref 38) (by decide +kernel) (by rfl) (hp36 _) (by decide) rfl ?_
        refine Ru.op (q := (.iload 4, 2)) (by decide +kernel) rfl ?_
        refine Ru.op (q := (.iload 9, 2)) (by decide +kernel) rfl ?_
        refine Ru.ar2 (i := .iadd) (z := (v4 + v9)) (by decide +kernel) rfl (ar_add _ _) ?_
        obtain ⟨g29, h⟩ := gd_some h
        refine Ru.ildI (i := (v4 + v9)) (z := (S.A 38 (v4 + v9))) (by decide +kernel) (hp38 _) g29 (eI_of _) ?_
        by_cases b30 : (S.A 38 ((S.A 62 v6) + v9)) = (S.A 38 (v4 + v9))
        · replace h := if_t b30 h
          refine Ru.br2 (k := .ne) (off := 7) (bb := false) (tg := 194) (by decide +kernel) (by decide +kernel) (ci_ne0 (inR_to _) (inR_to _) b30) rfl ?_
          refine Ru.kI (q := (.iconst 1, 1)) (c := 1) (by decide +kernel) rfl (by decide) ?_
          refine Ru.op (q := (.goto 4, 3)) (by decide +kernel) rfl ?_
          refine Ru.op (q := (.istore 8, 2)) (S' := (201, [some (.ref 36), d1, d2, some (vI v3), some (vI v4), some (vI v5), some (vI v6), some (vI v7), some (vI 1), some (vI v9)], [], _, _)) (by decide +kernel) rfl ?_
          refine Ru.inc (x := v9) (z := (v9 + 1)) (xs' := [some (.ref 36), d1, d2, some (vI v3), some (vI v4), some (vI v5), some (vI v6), some (vI v7), some (vI 1), some (vI (v9 + 1))]) (by decide +kernel) rfl rfl rfl ?_
          refine Ru.op (q := (.goto (-50), 3)) (by decide +kernel) rfl ?_
          exact ih _ _ _ _ _ h r hk
        · replace h := if_f b30 h
          refine Ru.br2 (k := .ne) (off := 7) (bb := true) (tg := 198) (by decide +kernel) (by decide +kernel) (ci_ne1 (inR_to _) (inR_to _) b30) rfl ?_
          refine Ru.kI (q := (.iconst 0, 1)) (c := 0) (by decide +kernel) rfl (by decide) ?_
          refine Ru.op (q := (.istore 8, 2)) (S' := (201, [some (.ref 36), d1, d2, some (vI v3), some (vI v4), some (vI v5), some (vI v6), some (vI v7), some (vI 0), some (vI v9)], [], _, _)) (by decide +kernel) rfl ?_
          refine Ru.inc (x := v9) (z := (v9 + 1)) (xs' := [some (.ref 36), d1, d2, some (vI v3), some (vI v4), some (vI v5), some (vI v6), some (vI v7), some (vI 0), some (vI (v9 + 1))]) (by decide +kernel) rfl rfl rfl ?_
          refine Ru.op (q := (.goto (-50), 3)) (by decide +kernel) rfl ?_
          exact ih _ _ _ _ _ h r hk
    · replace h := if_f b24 h
      refine Ru.br2 (k := .ge) (off := 49) (bb := true) (tg := 207) (by decide +kernel) (by decide +kernel) (ci_ge1 g22 g23 b24) rfl ?_
      cases h
      exact hk _ _ _ _
def g131L47 (v3 : Int) : Nat → Int → Int → St → Option (Sum (St) (Int × St))
  | 0, _, _, _ => none
  | n + 1, v4, v5, S => gd (inR v5) (gd (inR v3) (if v5 < v3 then gd (ixR v5 8032) (ob (g122 S (S.A 38 v5)) (fun o69 => gd (inR o69) (if o69 = 0 then gd (ixR v4 8032) (if (S.A 38 v5) = (S.A 38 v4) then g131L47 v3 n (v4 + 1) (v5 + 1) S else some (.inr (0, S))) else ob (g125 S 38 v4) (fun o75 => gd (ixR (S.A 38 v5) 64) (if (S.A 62 (S.A 38 v5)) < 0 then gd (inR (o75 - v4)) (if (o75 - v4) = (((S.a 62 (S.A 38 v5) v4).a 63 (S.A 38 v5) (o75 - v4)).A 63 (S.A 38 v5)) then ob (g131L154 ((S.a 62 (S.A 38 v5) v4).a 63 (S.A 38 v5) (o75 - v4)) v3 v4 v5 (S.A 38 v5) (o75 - v4) FU 1 0) (fun o81 => gd (inR o81) (if o81 = 0 then some (.inr (0, ((S.a 62 (S.A 38 v5) v4).a 63 (S.A 38 v5) (o75 - v4)))) else g131L47 v3 n (v4 + (o75 - v4)) (v5 + 1) ((S.a 62 (S.A 38 v5) v4).a 63 (S.A 38 v5) (o75 - v4)))) else ob (g131L154 ((S.a 62 (S.A 38 v5) v4).a 63 (S.A 38 v5) (o75 - v4)) v3 v4 v5 (S.A 38 v5) (o75 - v4) FU 0 0) (fun o89 => gd (inR o89) (if o89 = 0 then some (.inr (0, ((S.a 62 (S.A 38 v5) v4).a 63 (S.A 38 v5) (o75 - v4)))) else g131L47 v3 n (v4 + (o75 - v4)) (v5 + 1) ((S.a 62 (S.A 38 v5) v4).a 63 (S.A 38 v5) (o75 - v4))))) else gd (inR (o75 - v4)) (if (o75 - v4) = (S.A 63 (S.A 38 v5)) then ob (g131L154 S v3 v4 v5 (S.A 38 v5) (o75 - v4) FU 1 0) (fun o99 => gd (inR o99) (if o99 = 0 then some (.inr (0, S)) else g131L47 v3 n (v4 + (o75 - v4)) (v5 + 1) S)) else ob (g131L154 S v3 v4 v5 (S.A 38 v5) (o75 - v4) FU 0 0) (fun o107 => gd (inR o107) (if o107 = 0 then some (.inr (0, S)) else g131L47 v3 n (v4 + (o75 - v4)) (v5 + 1) S)))))))) else some (.inl S)))
set_option maxRecDepth 100000 in
set_option maxHeartbeats 4000000 in
theorem g131L47_ok {v3 : Int} : ∀ (n : Nat) (v4 : Int) (v5 : Int) (S : St) (d1 d2 d6 d7 d8 d9 : Option Value) (out : Sum (St) (Int × St)), g131L47 v3 n v4 v5 S = some out → ∀ r, (∀ o, out = .inl o → ∀ (e0 e1 e2 e3 e4 e5 e6 e7 e8 e9 : Option Value), Ru none 13 263 131 (227, [e0, e1, e2, e3, e4, e5, e6, e7, e8, e9], [], o.ns, Hp o) r) → (∀ o, out = .inr o → r = ((0, some (vI o.1)), o.2.ns, Hp o.2)) → Ru none 13 263 131 (47, [some (.ref 36), d1, d2, some (vI v3), some (vI v4), some (vI v5), d6, d7, d8, d9], [], S.ns, Hp S) r := by
  intro n
  induction n with
  | zero => intro v4 v5 S d1 d2 d6 d7 d8 d9 out h; cases h
  | succ n ih =>
    intro v4 v5 S d1 d2 d6 d7 d8 d9 out h r hk hr
    unfold g131L47 at h
    refine Ru.op (q := (.iload 5, 2)) (by decide +kernel) rfl ?_
    refine Ru.op (q := (.iload_n 3, 1)) (by decide +kernel) rfl ?_
    obtain ⟨g65, h⟩ := gd_some h
    obtain ⟨g66, h⟩ := gd_some h
    by_cases b67 : v5 < v3
    · replace h := if_t b67 h
      refine Ru.br2 (k := .ge) (off := 177) (bb := false) (tg := 53) (by decide +kernel) (by decide +kernel) (ci_ge0 g65 g66 b67) rfl ?_
      refine Ru.op (q := (.aload_n 0, 1)) (by decide +kernel) rfl ?_
      refine Ru.get (i := 17) (v := .ref 38) (by decide +kernel) (by rfl) (hp36 _) (by decide) rfl ?_
      refine Ru.op (q := (.iload 5, 2)) (by decide +kernel) rfl ?_
      obtain ⟨g68, h⟩ := gd_some h
      refine Ru.ildI (i := v5) (z := (S.A 38 v5)) (by decide +kernel) (hp38 _) g68 (eI_of _) ?_
      refine Ru.op (q := (.istore 6, 2)) (S' := (62, [some (.ref 36), d1, d2, some (vI v3), some (vI v4), some (vI v5), some (vI (S.A 38 v5)), d7, d8, d9], [], _, _)) (by decide +kernel) rfl ?_
      refine Ru.op (q := (.iload 6, 2)) (by decide +kernel) rfl ?_
      obtain ⟨o69, e70, h⟩ := ob_some h
      refine Ru.call (q := (.invokestatic 132, 3)) (j2 := 122) (as := [vI (S.A 38 v5)]) (by decide +kernel) rfl rfl rfl rfl ⟨(Nat.le_of_ble_eq_true rfl), (by show 19 + 1 ≤ 263; exact Nat.le_of_ble_eq_true rfl), Nat.le_of_ble_eq_true rfl, Nat.le_of_ble_eq_true rfl⟩ ((g122_ok e70).up (Nat.le_of_ble_eq_true rfl) (Nat.le_of_ble_eq_true rfl)) ?_
      obtain ⟨g71, h⟩ := gd_some h
      by_cases b72 : o69 = 0
      · replace h := if_t b72 h
        refine Ru.br (k := .ne) (off := 23) (bb := false) (tg := 70) (by decide +kernel) (by decide +kernel) (cz (ci_ne0 g71 (by decide) b72)) rfl ?_
        refine Ru.op (q := (.iload 6, 2)) (by decide +kernel) rfl ?_
        refine Ru.op (q := (.aload_n 0, 1)) (by decide +kernel) rfl ?_
        refine Ru.get (i := 17) (v := .ref 38) (by decide +kernel) (by rfl) (hp36 _) (by decide) rfl ?_
        refine Ru.op (q := (.iload 4, 2)) (by decide +kernel) rfl ?_
        obtain ⟨g73, h⟩ := gd_some h
        refine Ru.ildI (i := v4) (z := (S.A 38 v4)) (by decide +kernel) (hp38 _) g73 (eI_of _) ?_
        by_cases b74 : (S.A 38 v5) = (S.A 38 v4)
        · replace h := if_t b74 h
          refine Ru.br2 (k := .eq) (off := 5) (bb := true) (tg := 84) (by decide +kernel) (by decide +kernel) (ci_eq1 (inR_to _) (inR_to _) b74) rfl ?_
          refine Ru.inc (x := v4) (z := (v4 + 1)) (xs' := [some (.ref 36), d1, d2, some (vI v3), some (vI (v4 + 1)), some (vI v5), some (vI (S.A 38 v5)), d7, d8, d9]) (by decide +kernel) rfl rfl rfl ?_
          refine Ru.op (q := (.goto 134, 3)) (by decide +kernel) rfl ?_
          refine Ru.inc (x := v5) (z := (v5 + 1)) (xs' := [some (.ref 36), d1, d2, some (vI v3), some (vI (v4 + 1)), some (vI (v5 + 1)), some (vI (S.A 38 v5)), d7, d8, d9]) (by decide +kernel) rfl rfl rfl ?_
          refine Ru.op (q := (.goto (-177), 3)) (by decide +kernel) rfl ?_
          exact ih _ _ _ _ _ _ _ _ _ _ h r hk hr
        · replace h := if_f b74 h
          refine Ru.br2 (k := .eq) (off := 5) (bb := false) (tg := 82) (by decide +kernel) (by decide +kernel) (ci_eq0 (inR_to _) (inR_to _) b74) rfl ?_
          refine Ru.kI (q := (.iconst 0, 1)) (c := 0) (by decide +kernel) rfl (by decide) ?_
          cases h
          have h9 := hr _ rfl
          subst h9
          exact Ru.iret (by decide +kernel) rfl (nar_b1 (by decide))
      · replace h := if_f b72 h
        refine Ru.br (k := .ne) (off := 23) (bb := true) (tg := 90) (by decide +kernel) (by decide +kernel) (cz (ci_ne1 g71 (by decide) b72)) rfl ?_
        refine Ru.op (q := (.aload_n 0, 1)) (by decide +kernel) rfl ?_
        refine Ru.get (i := 17) (v := .ref 38) (by decide +kernel) (by rfl) (hp36 _) (by decide) rfl ?_
        refine Ru.op (q := (.iload 4, 2)) (by decide +kernel) rfl ?_
        obtain ⟨o75, e76, h⟩ := ob_some h
        refine Ru.call (q := (.invokestatic 233, 3)) (j2 := 125) (as := [.ref 38, vI v4]) (by decide +kernel) rfl rfl rfl rfl ⟨(Nat.le_of_ble_eq_true rfl), (by show 19 + 4 ≤ 263; exact Nat.le_of_ble_eq_true rfl), Nat.le_of_ble_eq_true rfl, Nat.le_of_ble_eq_true rfl⟩ ((g125_ok e76).up (Nat.le_of_ble_eq_true rfl) (Nat.le_of_ble_eq_true rfl)) ?_
        refine Ru.op (q := (.iload 4, 2)) (by decide +kernel) rfl ?_
        refine Ru.ar2 (i := .isub) (z := (o75 - v4)) (by decide +kernel) rfl (ar_sub _ _) ?_
        refine Ru.op (q := (.istore 7, 2)) (S' := (104, [some (.ref 36), d1, d2, some (vI v3), some (vI v4), some (vI v5), some (vI (S.A 38 v5)), some (vI (o75 - v4)), d8, d9], [], _, _)) (by decide +kernel) rfl ?_
        refine Ru.op (q := (.aload_n 0, 1)) (by decide +kernel) rfl ?_
        refine Ru.get (i := 93) (v := .ref 62) (by decide +kernel) (by rfl) (hp36 _) (by decide) rfl ?_
        refine Ru.op (q := (.iload 6, 2)) (by decide +kernel) rfl ?_
        obtain ⟨g77, h⟩ := gd_some h
        refine Ru.ildI (i := (S.A 38 v5)) (z := (S.A 62 (S.A 38 v5))) (by decide +kernel) (hp62 _) g77 (eI_of _) ?_
        by_cases b78 : (S.A 62 (S.A 38 v5)) < 0
        · replace h := if_t b78 h
          refine Ru.br (k := .ge) (off := 21) (bb := false) (tg := 114) (by decide +kernel) (by decide +kernel) (cz (ci_ge0 (inR_to _) (by decide) b78)) rfl ?_
          refine Ru.op (q := (.aload_n 0, 1)) (by decide +kernel) rfl ?_
          refine Ru.get (i := 93) (v := .ref 62) (by decide +kernel) (by rfl) (hp36 _) (by decide) rfl ?_
          refine Ru.op (q := (.iload 6, 2)) (by decide +kernel) rfl ?_
          refine Ru.op (q := (.iload 4, 2)) (by decide +kernel) rfl ?_
          refine Ru.istI (i := (S.A 38 v5)) (x := v4) (by decide +kernel) (hp62 _) g77 (ps_62 _ _ _) ?_
          refine Ru.op (q := (.aload_n 0, 1)) (by decide +kernel) rfl ?_
          refine Ru.get (i := 96) (v := .ref 63) (by decide +kernel) (by rfl) (hp36 _) (by decide) rfl ?_
          refine Ru.op (q := (.iload 6, 2)) (by decide +kernel) rfl ?_
          refine Ru.op (q := (.iload 7, 2)) (by decide +kernel) rfl ?_
          refine Ru.istI (i := (S.A 38 v5)) (x := (o75 - v4)) (by decide +kernel) (hp63 _) g77 (ps_63 _ _ _) ?_
          refine Ru.op (q := (.iload 7, 2)) (by decide +kernel) rfl ?_
          refine Ru.op (q := (.aload_n 0, 1)) (by decide +kernel) rfl ?_
          refine Ru.get (i := 96) (v := .ref 63) (by decide +kernel) (by rfl) (hp36 _) (by decide) rfl ?_
          refine Ru.op (q := (.iload 6, 2)) (by decide +kernel) rfl ?_
          refine Ru.ildI (i := (S.A 38 v5)) (z := (((S.a 62 (S.A 38 v5) v4).a 63 (S.A 38 v5) (o75 - v4)).A 63 (S.A 38 v5))) (by decide +kernel) (hp63 _) g77 (eI_of _) ?_
          obtain ⟨g79, h⟩ := gd_some h
          by_cases b80 : (o75 - v4) = (((S.a 62 (S.A 38 v5) v4).a 63 (S.A 38 v5) (o75 - v4)).A 63 (S.A 38 v5))
          · replace h := if_t b80 h
            refine Ru.br2 (k := .ne) (off := 7) (bb := false) (tg := 144) (by decide +kernel) (by decide +kernel) (ci_ne0 g79 (inR_to _) b80) rfl ?_
            refine Ru.kI (q := (.iconst 1, 1)) (c := 1) (by decide +kernel) rfl (by decide) ?_
            refine Ru.op (q := (.goto 4, 3)) (by decide +kernel) rfl ?_
            refine Ru.op (q := (.istore 8, 2)) (S' := (151, [some (.ref 36), d1, d2, some (vI v3), some (vI v4), some (vI v5), some (vI (S.A 38 v5)), some (vI (o75 - v4)), some (vI 1), d9], [], _, _)) (by decide +kernel) rfl ?_
            refine Ru.kI (q := (.iconst 0, 1)) (c := 0) (by decide +kernel) rfl (by decide) ?_
            refine Ru.op (q := (.istore 9, 2)) (S' := (154, [some (.ref 36), d1, d2, some (vI v3), some (vI v4), some (vI v5), some (vI (S.A 38 v5)), some (vI (o75 - v4)), some (vI 1), some (vI 0)], [], _, _)) (by decide +kernel) rfl ?_
            obtain ⟨o81, e86, h⟩ := ob_some h
            refine g131L154_ok FU _ _ _ _ _ e86 _ ?_
            intro d82 d83 d84 d85
            refine Ru.op (q := (.iload 8, 2)) (by decide +kernel) rfl ?_
            obtain ⟨g87, h⟩ := gd_some h
            by_cases b88 : o81 = 0
            · replace h := if_t b88 h
              refine Ru.br (k := .ne) (off := 5) (bb := false) (tg := 212) (by decide +kernel) (by decide +kernel) (cz (ci_ne0 g87 (by decide) b88)) rfl ?_
              refine Ru.kI (q := (.iconst 0, 1)) (c := 0) (by decide +kernel) rfl (by decide) ?_
              cases h
              have h9 := hr _ rfl
              subst h9
              exact Ru.iret (by decide +kernel) rfl (nar_b1 (by decide))
            · replace h := if_f b88 h
              refine Ru.br (k := .ne) (off := 5) (bb := true) (tg := 214) (by decide +kernel) (by decide +kernel) (cz (ci_ne1 g87 (by decide) b88)) rfl ?_
              refine Ru.op (q := (.iload 4, 2)) (by decide +kernel) rfl ?_
              refine Ru.op (q := (.iload 7, 2)) (by decide +kernel) rfl ?_
              refine Ru.ar2 (i := .iadd) (z := (v4 + (o75 - v4))) (by decide +kernel) rfl (ar_add _ _) ?_
              refine Ru.op (q := (.istore 4, 2)) (S' := (221, [some (.ref 36), d82, d83, some (vI v3), some (vI (v4 + (o75 - v4))), some (vI v5), d84, some (vI (o75 - v4)), some (vI o81), d85], [], _, _)) (by decide +kernel) rfl ?_
              refine Ru.inc (x := v5) (z := (v5 + 1)) (xs' := [some (.ref 36), d82, d83, some (vI v3), some (vI (v4 + (o75 - v4))), some (vI (v5 + 1)), d84, some (vI (o75 - v4)), some (vI o81), d85]) (by decide +kernel) rfl rfl rfl ?_
              refine Ru.op (q := (.goto (-177), 3)) (by decide +kernel) rfl ?_
              exact ih _ _ _ _ _ _ _ _ _ _ h r hk hr
          · replace h := if_f b80 h
            refine Ru.br2 (k := .ne) (off := 7) (bb := true) (tg := 148) (by decide +kernel) (by decide +kernel) (ci_ne1 g79 (inR_to _) b80) rfl ?_
            refine Ru.kI (q := (.iconst 0, 1)) (c := 0) (by decide +kernel) rfl (by decide) ?_
            refine Ru.op (q := (.istore 8, 2)) (S' := (151, [some (.ref 36), d1, d2, some (vI v3), some (vI v4), some (vI v5), some (vI (S.A 38 v5)), some (vI (o75 - v4)), some (vI 0), d9], [], _, _)) (by decide +kernel) rfl ?_
            refine Ru.kI (q := (.iconst 0, 1)) (c := 0) (by decide +kernel) rfl (by decide) ?_
            refine Ru.op (q := (.istore 9, 2)) (S' := (154, [some (.ref 36), d1, d2, some (vI v3), some (vI v4), some (vI v5), some (vI (S.A 38 v5)), some (vI (o75 - v4)), some (vI 0), some (vI 0)], [], _, _)) (by decide +kernel) rfl ?_
            obtain ⟨o89, e94, h⟩ := ob_some h
            refine g131L154_ok FU _ _ _ _ _ e94 _ ?_
            intro d90 d91 d92 d93
            refine Ru.op (q := (.iload 8, 2)) (by decide +kernel) rfl ?_
            obtain ⟨g95, h⟩ := gd_some h
            by_cases b96 : o89 = 0
            · replace h := if_t b96 h
              refine Ru.br (k := .ne) (off := 5) (bb := false) (tg := 212) (by decide +kernel) (by decide +kernel) (cz (ci_ne0 g95 (by decide) b96)) rfl ?_
              refine Ru.kI (q := (.iconst 0, 1)) (c := 0) (by decide +kernel) rfl (by decide) ?_
              cases h
              have h9 := hr _ rfl
              subst h9
              exact Ru.iret (by decide +kernel) rfl (nar_b1 (by decide))
            · replace h := if_f b96 h
              refine Ru.br (k := .ne) (off := 5) (bb := true) (tg := 214) (by decide +kernel) (by decide +kernel) (cz (ci_ne1 g95 (by decide) b96)) rfl ?_
              refine Ru.op (q := (.iload 4, 2)) (by decide +kernel) rfl ?_
              refine Ru.op (q := (.iload 7, 2)) (by decide +kernel) rfl ?_
              refine Ru.ar2 (i := .iadd) (z := (v4 + (o75 - v4))) (by decide +kernel) rfl (ar_add _ _) ?_
              refine Ru.op (q := (.istore 4, 2)) (S' := (221, [some (.ref 36), d90, d91, some (vI v3), some (vI (v4 + (o75 - v4))), some (vI v5), d92, some (vI (o75 - v4)), some (vI o89), d93], [], _, _)) (by decide +kernel) rfl ?_
              refine Ru.inc (x := v5) (z := (v5 + 1)) (xs' := [some (.ref 36), d90, d91, some (vI v3), some (vI (v4 + (o75 - v4))), some (vI (v5 + 1)), d92, some (vI (o75 - v4)), some (vI o89), d93]) (by decide +kernel) rfl rfl rfl ?_
              refine Ru.op (q := (.goto (-177), 3)) (by decide +kernel) rfl ?_
              exact ih _ _ _ _ _ _ _ _ _ _ h r hk hr
        · replace h := if_f b78 h
          refine Ru.br (k := .ge) (off := 21) (bb := true) (tg := 132) (by decide +kernel) (by decide +kernel) (cz (ci_ge1 (inR_to _) (by decide) b78)) rfl ?_
          refine Ru.op (q := (.iload 7, 2)) (by decide +kernel) rfl ?_
          refine Ru.op (q := (.aload_n 0, 1)) (by decide +kernel) rfl ?_
          refine Ru.get (i := 96) (v := .ref 63) (by decide +kernel) (by rfl) (hp36 _) (by decide) rfl ?_
          refine Ru.op (q := (.iload 6, 2)) (by decide +kernel) rfl ?_
          refine Ru.ildI (i := (S.A 38 v5)) (z := (S.A 63 (S.A 38 v5))) (by decide +kernel) (hp63 _) g77 (eI_of _) ?_
          obtain ⟨g97, h⟩ := gd_some h
          by_cases b98 : (o75 - v4) = (S.A 63 (S.A 38 v5))
          · replace h := if_t b98 h
            refine Ru.br2 (k := .ne) (off := 7) (bb := false) (tg := 144) (by decide +kernel) (by decide +kernel) (ci_ne0 g97 (inR_to _) b98) rfl ?_
            refine Ru.kI (q := (.iconst 1, 1)) (c := 1) (by decide +kernel) rfl (by decide) ?_
            refine Ru.op (q := (.goto 4, 3)) (by decide +kernel) rfl ?_
            refine Ru.op (q := (.istore 8, 2)) (S' := (151, [some (.ref 36), d1, d2, some (vI v3), some (vI v4), some (vI v5), some (vI (S.A 38 v5)), some (vI (o75 - v4)), some (vI 1), d9], [], _, _)) (by decide +kernel) rfl ?_
            refine Ru.kI (q := (.iconst 0, 1)) (c := 0) (by decide +kernel) rfl (by decide) ?_
            refine Ru.op (q := (.istore 9, 2)) (S' := (154, [some (.ref 36), d1, d2, some (vI v3), some (vI v4), some (vI v5), some (vI (S.A 38 v5)), some (vI (o75 - v4)), some (vI 1), some (vI 0)], [], _, _)) (by decide +kernel) rfl ?_
            obtain ⟨o99, e104, h⟩ := ob_some h
            refine g131L154_ok FU _ _ _ _ _ e104 _ ?_
            intro d100 d101 d102 d103
            refine Ru.op (q := (.iload 8, 2)) (by decide +kernel) rfl ?_
            obtain ⟨g105, h⟩ := gd_some h
            by_cases b106 : o99 = 0
            · replace h := if_t b106 h
              refine Ru.br (k := .ne) (off := 5) (bb := false) (tg := 212) (by decide +kernel) (by decide +kernel) (cz (ci_ne0 g105 (by decide) b106)) rfl ?_
              refine Ru.kI (q := (.iconst 0, 1)) (c := 0) (by decide +kernel) rfl (by decide) ?_
              cases h
              have h9 := hr _ rfl
              subst h9
              exact Ru.iret (by decide +kernel) rfl (nar_b1 (by decide))
            · replace h := if_f b106 h
              refine Ru.br (k := .ne) (off := 5) (bb := true) (tg := 214) (by decide +kernel) (by decide +kernel) (cz (ci_ne1 g105 (by decide) b106)) rfl ?_
              refine Ru.op (q := (.iload 4, 2)) (by decide +kernel) rfl ?_
              refine Ru.op (q := (.iload 7, 2)) (by decide +kernel) rfl ?_
              refine Ru.ar2 (i := .iadd) (z := (v4 + (o75 - v4))) (by decide +kernel) rfl (ar_add _ _) ?_
              refine Ru.op (q := (.istore 4, 2)) (S' := (221, [some (.ref 36), d100, d101, some (vI v3), some (vI (v4 + (o75 - v4))), some (vI v5), d102, some (vI (o75 - v4)), some (vI o99), d103], [], _, _)) (by decide +kernel) rfl ?_
              refine Ru.inc (x := v5) (z := (v5 + 1)) (xs' := [some (.ref 36), d100, d101, some (vI v3), some (vI (v4 + (o75 - v4))), some (vI (v5 + 1)), d102, some (vI (o75 - v4)), some (vI o99), d103]) (by decide +kernel) rfl rfl rfl ?_
              refine Ru.op (q := (.goto (-177), 3)) (by decide +kernel) rfl ?_
              exact ih _ _ _ _ _ _ _ _ _ _ h r hk hr
          · replace h := if_f b98 h
            refine Ru.br2 (k := .ne) (off := 7) (bb := true) (tg := 148) (by decide +kernel) (by decide +kernel) (ci_ne1 g97 (inR_to _) b98) rfl ?_
            refine Ru.kI (q := (.iconst 0, 1)) (c := 0) (by decide +kernel) rfl (by decide) ?_
            refine Ru.op (q := (.istore 8, 2)) (S' := (151, [some (.ref 36), d1, d2, some (vI v3), some (vI v4), some (vI v5), some (vI (S.A 38 v5)), some (vI (o75 - v4)), some (vI 0), d9], [], _, _)) (by decide +kernel) rfl ?_
            refine Ru.kI (q := (.iconst 0, 1)) (c := 0) (by decide +kernel) rfl (by decide) ?_
            refine Ru.op (q := (.istore 9, 2)) (S' := (154, [some (.ref 36), d1, d2, some (vI v3), some (vI v4), some (vI v5), some (vI (S.A 38 v5)), some (vI (o75 - v4)), some (vI 0), some (vI 0)], [], _, _)) (by decide +kernel) rfl ?_
            obtain ⟨o107, e112, h⟩ := ob_some h
            refine g131L154_ok FU _ _ _ _ _ e112 _ ?_
            intro d108 d109 d110 d111
            refine Ru.op (q := (.iload 8, 2)) (by decide +kernel) rfl ?_
            obtain ⟨g113, h⟩ := gd_some h
            by_cases b114 : o107 = 0
            · replace h := if_t b114 h
              refine Ru.br (k := .ne) (off := 5) (bb := false) (tg := 212) (by decide +kernel) (by decide +kernel) (cz (ci_ne0 g113 (by decide) b114)) rfl ?_
              refine Ru.kI (q := (.iconst 0, 1)) (c := 0) (by decide +kernel) rfl (by decide) ?_
              cases h
              have h9 := hr _ rfl
              subst h9
              exact Ru.iret (by decide +kernel) rfl (nar_b1 (by decide))
            · replace h := if_f b114 h
              refine Ru.br (k := .ne) (off := 5) (bb := true) (tg := 214) (by decide +kernel) (by decide +kernel) (cz (ci_ne1 g113 (by decide) b114)) rfl ?_
              refine Ru.op (q := (.iload 4, 2)) (by decide +kernel) rfl ?_
              refine Ru.op (q := (.iload 7, 2)) (by decide +kernel) rfl ?_
              refine Ru.ar2 (i := .iadd) (z := (v4 + (o75 - v4))) (by decide +kernel) rfl (ar_add _ _) ?_
              refine Ru.op (q := (.istore 4, 2)) (S' := (221, [some (.ref 36), d108, d109, some (vI v3), some (vI (v4 + (o75 - v4))), some (vI v5), d110, some (vI (o75 - v4)), some (vI o107), d111], [], _, _)) (by decide +kernel) rfl ?_
              refine Ru.inc (x := v5) (z := (v5 + 1)) (xs' := [some (.ref 36), d108, d109, some (vI v3), some (vI (v4 + (o75 - v4))), some (vI (v5 + 1)), d110, some (vI (o75 - v4)), some (vI o107), d111]) (by decide +kernel) rfl rfl rfl ?_
              refine Ru.op (q := (.goto (-177), 3)) (by decide +kernel) rfl ?_
              exact ih _ _ _ _ _ _ _ _ _ _ h r hk hr
    · replace h := if_f b67 h
      refine Ru.br2 (k := .ge) (off := 177) (bb := true) (tg := 227) (by decide +kernel) (by decide +kernel) (ci_ge1 g65 g66 b67) rfl ?_
      cases h
      exact hk _ rfl _ _ _ _ _ _ _ _ _ _
def g131 (S : St) (v1 : Int) (v2 : Int) : Option (Int × St) := gd (ixR v1 504) (gd (ixR v2 504) (if (S.A 40 v1) = (S.A 40 v2) then ob (g125 S 38 (S.A 39 v1)) (fun o4 => obr (g131L47 o4 FU (S.A 39 v2) (S.A 39 v1) S) (fun o115 => some (1, o115))) else some (0, S)))
set_option maxRecDepth 100000 in
set_option maxHeartbeats 4000000 in
theorem g131_ok {S : St} {v1 : Int} {v2 : Int} {o : Int × St} (h : g131 S v1 v2 = some o) : Ru none 13 263 131 (0, mn_pad (mn_ent [.ref 36, vI v1, vI v2]) 10, [], S.ns, Hp S) ((0, some (vI o.1)), o.2.ns, Hp o.2) := by
  unfold g131 at h
  show Ru none 13 263 131 (0, [some (.ref 36), some (vI v1), some (vI v2), none, none, none, none, none, none, none], [], S.ns, Hp S) _
  refine Ru.op (q := (.aload_n 0, 1)) (by decide +kernel) rfl ?_
  refine Ru.get (i := 23) (v := .ref 40) (by decide +kernel) (by rfl) (hp36 _) (by decide) rfl ?_
  refine Ru.op (q := (.iload_n 1, 1)) (by decide +kernel) rfl ?_
  obtain ⟨g1, h⟩ := gd_some h
  refine Ru.bldI (i := v1) (z := (S.A 40 v1)) (by decide +kernel) (hp40 _) g1 (eI_of _) ?_
  refine Ru.op (q := (.aload_n 0, 1)) (by decide +kernel) rfl ?_
  refine Ru.get (i := 23) (v := .ref 40) (by decide +kernel) (by rfl) (hp36 _) (by decide) rfl ?_
  refine Ru.op (q := (.iload_n 2, 1)) (by decide +kernel) rfl ?_
  obtain ⟨g2, h⟩ := gd_some h
  refine Ru.bldI (i := v2) (z := (S.A 40 v2)) (by decide +kernel) (hp40 _) g2 (eI_of _) ?_
  by_cases b3 : (S.A 40 v1) = (S.A 40 v2)
  · replace h := if_t b3 h
    refine Ru.br2 (k := .eq) (off := 5) (bb := true) (tg := 17) (by decide +kernel) (by decide +kernel) (ci_eq1 (inR_to _) (inR_to _) b3) rfl ?_
    refine Ru.op (q := (.aload_n 0, 1)) (by decide +kernel) rfl ?_
    refine Ru.get (i := 17) (v := .ref 38) (by decide +kernel) (by rfl) (hp36 _) (by decide) rfl ?_
    refine Ru.op (q := (.aload_n 0, 1)) (by decide +kernel) rfl ?_
    refine Ru.get (i := 20) (v := .ref 39) (by decide +kernel) (by rfl) (hp36 _) (by decide) rfl ?_
    refine Ru.op (q := (.iload_n 1, 1)) (by decide +kernel) rfl ?_
    refine Ru.ildI (i := v1) (z := (S.A 39 v1)) (by decide +kernel) (hp39 _) g1 (eI_of _) ?_
    obtain ⟨o4, e5, h⟩ := ob_some h
    refine Ru.call (q := (.invokestatic 233, 3)) (j2 := 125) (as := [.ref 38, vI (S.A 39 v1)]) (by decide +kernel) rfl rfl rfl rfl ⟨(Nat.le_of_ble_eq_true rfl), (by show 19 + 4 ≤ 263; exact Nat.le_of_ble_eq_true rfl), Nat.le_of_ble_eq_true rfl, Nat.le_of_ble_eq_true rfl⟩ ((g125_ok e5).up (Nat.le_of_ble_eq_true rfl) (Nat.le_of_ble_eq_true rfl)) ?_
    refine Ru.op (q := (.istore_n 3, 1)) (S' := (31, [some (.ref 36), some (vI v1), some (vI v2), some (vI o4), none, none, none, none, none, none], [], _, _)) (by decide +kernel) rfl ?_
    refine Ru.op (q := (.aload_n 0, 1)) (by decide +kernel) rfl ?_
    refine Ru.get (i := 20) (v := .ref 39) (by decide +kernel) (by rfl) (hp36 _) (by decide) rfl ?_
    refine Ru.op (q := (.iload_n 2, 1)) (by decide +kernel) rfl ?_
    refine Ru.ildI (i := v2) (z := (S.A 39 v2)) (by decide +kernel) (hp39 _) g2 (eI_of _) ?_
    refine Ru.op (q := (.istore 4, 2)) (S' := (39, [some (.ref 36), some (vI v1), some (vI v2), some (vI o4), some (vI (S.A 39 v2)), none, none, none, none, none], [], _, _)) (by decide +kernel) rfl ?_
    refine Ru.op (q := (.aload_n 0, 1)) (by decide +kernel) rfl ?_
    refine Ru.get (i := 20) (v := .ref 39) (by decide +kernel) (by rfl) (hp36 _) (by decide) rfl ?_
    refine Ru.op (q := (.iload_n 1, 1)) (by decide +kernel) rfl ?_
    refine Ru.ildI (i := v1) (z := (S.A 39 v1)) (by decide +kernel) (hp39 _) g1 (eI_of _) ?_
    refine Ru.op (q := (.istore 5, 2)) (S' := (47, [some (.ref 36), some (vI v1), some (vI v2), some (vI o4), some (vI (S.A 39 v2)), some (vI (S.A 39 v1)), none, none, none, none], [], _, _)) (by decide +kernel) rfl ?_
    rcases obr_some h with ⟨o115, e126, h⟩ | e126
    · refine g131L47_ok FU _ _ _ _ _ _ _ _ _ _ e126 _ (fun o' e' => ?_) (fun o' e' => by cases e')
      cases e'
      intro d116 d117 d118 d119 d120 d121 d122 d123 d124 d125
      refine Ru.kI (q := (.iconst 1, 1)) (c := 1) (by decide +kernel) rfl (by decide) ?_
      cases h
      exact Ru.iret (by decide +kernel) rfl (nar_b1 (by decide))
    · exact g131L47_ok FU _ _ _ _ _ _ _ _ _ _ e126 _ (fun o' e' => by cases e') (fun o' e' => by cases e'; rfl)
  · replace h := if_f b3 h
    refine Ru.br2 (k := .eq) (off := 5) (bb := false) (tg := 15) (by decide +kernel) (by decide +kernel) (ci_eq0 (inR_to _) (inR_to _) b3) rfl ?_
    refine Ru.kI (q := (.iconst 0, 1)) (c := 0) (by decide +kernel) rfl (by decide) ?_
    cases h
    exact Ru.iret (by decide +kernel) rfl (nar_b1 (by decide))
def g130L22 (S : St) (v1 : Int) (v2 : Int) : Nat → Int → Int → Option (Int)
  | 0, _, _ => none
  | n + 1, v3, v4 => gd (ixR v1 125) (gd (inR v4) (if v4 < (S.A 41 v1) then gd (ixR v2 125) (g130L22 S v1 v2 n (v3 * (S.A 41 v2)) (v4 + 1)) else some v3))
set_option maxRecDepth 100000 in
set_option maxHeartbeats 4000000 in
theorem g130L22_ok {S : St} {v1 : Int} {v2 : Int} : ∀ (n : Nat) (v3 : Int) (v4 : Int) (d5 d6 d7 : Option Value) (out : Int), g130L22 S v1 v2 n v3 v4 = some out → ∀ r, (∀ (e4 e5 e6 e7 : Option Value), Ru none 14 292 130 (48, [some (.ref 36), some (vI v1), some (vI v2), some (vI out), e4, e5, e6, e7], [], S.ns, Hp S) r) → Ru none 14 292 130 (22, [some (.ref 36), some (vI v1), some (vI v2), some (vI v3), some (vI v4), d5, d6, d7], [], S.ns, Hp S) r := by
  intro n
  induction n with
  | zero => intro v3 v4 d5 d6 d7 out h; cases h
  | succ n ih =>
    intro v3 v4 d5 d6 d7 out h r hk
    unfold g130L22 at h
    refine Ru.op (q := (.iload 4, 2)) (by decide +kernel) rfl ?_
    refine Ru.op (q := (.aload_n 0, 1)) (by decide +kernel) rfl ?_
    refine Ru.get (i := 27) (v := .ref 41) (by decide +kernel) (by rfl) (hp36 _) (by decide) rfl ?_
    refine Ru.op (q := (.iload_n 1, 1)) (by decide +kernel) rfl ?_
    obtain ⟨g4, h⟩ := gd_some h
    refine Ru.ildI (i := v1) (z := (S.A 41 v1)) (by decide +kernel) (hp41 _) g4 (eI_of _) ?_
    obtain ⟨g5, h⟩ := gd_some h
    by_cases b6 : v4 < (S.A 41 v1)
    · replace h := if_t b6 h
      refine Ru.br2 (k := .ge) (off := 18) (bb := false) (tg := 33) (by decide +kernel) (by decide +kernel) (ci_ge0 g5 (inR_to _) b6) rfl ?_
      refine Ru.op (q := (.iload_n 3, 1)) (by decide +kernel) rfl ?_
      refine Ru.op (q := (.aload_n 0, 1)) (by decide +kernel) rfl ?_
      refine Ru.get (i := 27) (v := .ref 41) (by decide +kernel) (by rfl) (hp36 _) (by decide) rfl ?_
      refine Ru.op (q := (.iload_n 2, 1)) (by decide +kernel) rfl ?_
      obtain ⟨g7, h⟩ := gd_some h
      refine Ru.ildI (i := v2) (z := (S.A 41 v2)) (by decide +kernel) (hp41 _) g7 (eI_of _) ?_
      refine Ru.ar2 (i := .imul) (z := (v3 * (S.A 41 v2))) (by decide +kernel) rfl (ar_mul _ _) ?_
      refine Ru.op (q := (.istore_n 3, 1)) (S' := (42, [some (.ref 36), some (vI v1), some (vI v2), some (vI (v3 * (S.A 41 v2))), some (vI v4), d5, d6, d7], [], _, _)) (by decide +kernel) rfl ?_
      refine Ru.inc (x := v4) (z := (v4 + 1)) (xs' := [some (.ref 36), some (vI v1), some (vI v2), some (vI (v3 * (S.A 41 v2))), some (vI (v4 + 1)), d5, d6, d7]) (by decide +kernel) rfl rfl rfl ?_
      refine Ru.op (q := (.goto (-23), 3)) (by decide +kernel) rfl ?_
      exact ih _ _ _ _ _ _ h r hk
    · replace h := if_f b6 h
      refine Ru.br2 (k := .ge) (off := 18) (bb := true) (tg := 48) (by decide +kernel) (by decide +kernel) (ci_ge1 g5 (inR_to _) b6) rfl ?_
      cases h
      exact hk _ _ _ _
def g130L60 (v1 : Int) (v2 : Int) (v3 : Int) (v4 : Int) : Nat → Int → St → Option (St)
  | 0, _, _ => none
  | n + 1, v5, S => gd (inR v5) (if v5 < 64 then gd (ixR v5 64) (g130L60 v1 v2 v3 v4 n (v5 + 1) (S.a 62 v5 (-1))) else some S)
set_option maxRecDepth 100000 in
set_option maxHeartbeats 4000000 in
theorem g130L60_ok {v1 : Int} {v2 : Int} {v3 : Int} {v4 : Int} : ∀ (n : Nat) (v5 : Int) (S : St) (d6 d7 : Option Value) (out : St), g130L60 v1 v2 v3 v4 n v5 S = some out → ∀ r, (∀ (e5 e6 e7 : Option Value), Ru none 14 292 130 (81, [some (.ref 36), some (vI v1), some (vI v2), some (vI v3), some (vI v4), e5, e6, e7], [], out.ns, Hp out) r) → Ru none 14 292 130 (60, [some (.ref 36), some (vI v1), some (vI v2), some (vI v3), some (vI v4), some (vI v5), d6, d7], [], S.ns, Hp S) r := by
  intro n
  induction n with
  | zero => intro v5 S d6 d7 out h; cases h
  | succ n ih =>
    intro v5 S d6 d7 out h r hk
    unfold g130L60 at h
    refine Ru.op (q := (.iload 5, 2)) (by decide +kernel) rfl ?_
    refine Ru.kI (q := (.bipush 64, 2)) (c := 64) (by decide +kernel) rfl (by decide) ?_
    obtain ⟨g17, h⟩ := gd_some h
    by_cases b18 : v5 < 64
    · replace h := if_t b18 h
      refine Ru.br2 (k := .ge) (off := 17) (bb := false) (tg := 67) (by decide +kernel) (by decide +kernel) (ci_ge0 g17 (by decide) b18) rfl ?_
      refine Ru.op (q := (.aload_n 0, 1)) (by decide +kernel) rfl ?_
      refine Ru.get (i := 93) (v := .ref 62) (by decide +kernel) (by rfl) (hp36 _) (by decide) rfl ?_
      refine Ru.op (q := (.iload 5, 2)) (by decide +kernel) rfl ?_
      refine Ru.kI (q := (.iconst (-1), 1)) (c := (-1)) (by decide +kernel) rfl (by decide) ?_
      obtain ⟨g19, h⟩ := gd_some h
      refine Ru.istI (i := v5) (x := (-1)) (by decide +kernel) (hp62 _) g19 (ps_62 _ _ _) ?_
      refine Ru.inc (x := v5) (z := (v5 + 1)) (xs' := [some (.ref 36), some (vI v1), some (vI v2), some (vI v3), some (vI v4), some (vI (v5 + 1)), d6, d7]) (by decide +kernel) rfl rfl rfl ?_
      refine Ru.op (q := (.goto (-18), 3)) (by decide +kernel) rfl ?_
      exact ih _ _ _ _ _ h r hk
    · replace h := if_f b18 h
      refine Ru.br2 (k := .ge) (off := 17) (bb := true) (tg := 81) (by decide +kernel) (by decide +kernel) (ci_ge1 g17 (by decide) b18) rfl ?_
      cases h
      exact hk _ _ _
def g130L91 (v1 : Int) (v2 : Int) (v3 : Int) (v4 : Int) : Nat → Int → Int → Int → St → Option (Int × St)
  | 0, _, _, _, _ => none
  | n + 1, v5, v6, v7, S => gd (ixR v1 125) (gd (inR v7) (if v7 < (S.A 41 v1) then gd (inR v5) (if v5 = 0 then some (v5, S) else gd (ixR v2 125) (gd (dvR v6 (S.A 41 v2)) (ob (g131 S ((4 * v1) + v7) ((4 * v2) + (v6 % (S.A 41 v2)))) (fun o32 => gd (dvR v6 (o32.2.A 41 v2)) (g130L91 v1 v2 v3 v4 n o32.1 (v6 / (o32.2.A 41 v2)) (v7 + 1) o32.2))))) else some (v5, S)))
set_option maxRecDepth 100000 in
set_option maxHeartbeats 4000000 in
theorem g130L91_ok {v1 : Int} {v2 : Int} {v3 : Int} {v4 : Int} : ∀ (n : Nat) (v5 : Int) (v6 : Int) (v7 : Int) (S : St) (out : Int × St), g130L91 v1 v2 v3 v4 n v5 v6 v7 S = some out → ∀ r, (∀ (e6 e7 : Option Value), Ru none 14 292 130 (149, [some (.ref 36), some (vI v1), some (vI v2), some (vI v3), some (vI v4), some (vI out.1), e6, e7], [], out.2.ns, Hp out.2) r) → Ru none 14 292 130 (91, [some (.ref 36), some (vI v1), some (vI v2), some (vI v3), some (vI v4), some (vI v5), some (vI v6), some (vI v7)], [], S.ns, Hp S) r := by
  intro n
  induction n with
  | zero => intro v5 v6 v7 S out h; cases h
  | succ n ih =>
    intro v5 v6 v7 S out h r hk
    unfold g130L91 at h
    refine Ru.op (q := (.iload 7, 2)) (by decide +kernel) rfl ?_
    refine Ru.op (q := (.aload_n 0, 1)) (by decide +kernel) rfl ?_
    refine Ru.get (i := 27) (v := .ref 41) (by decide +kernel) (by rfl) (hp36 _) (by decide) rfl ?_
    refine Ru.op (q := (.iload_n 1, 1)) (by decide +kernel) rfl ?_
    obtain ⟨g25, h⟩ := gd_some h
    refine Ru.ildI (i := v1) (z := (S.A 41 v1)) (by decide +kernel) (hp41 _) g25 (eI_of _) ?_
    obtain ⟨g26, h⟩ := gd_some h
    by_cases b27 : v7 < (S.A 41 v1)
    · replace h := if_t b27 h
      refine Ru.br2 (k := .ge) (off := 50) (bb := false) (tg := 102) (by decide +kernel) (by decide +kernel) (ci_ge0 g26 (inR_to _) b27) rfl ?_
      refine Ru.op (q := (.iload 5, 2)) (by decide +kernel) rfl ?_
      obtain ⟨g28, h⟩ := gd_some h
      by_cases b29 : v5 = 0
      · replace h := if_t b29 h
        refine Ru.br (k := .eq) (off := 45) (bb := true) (tg := 149) (by decide +kernel) (by decide +kernel) (cz (ci_eq1 g28 (by decide) b29)) rfl ?_
        cases h
        exact hk _ _
      · replace h := if_f b29 h
        refine Ru.br (k := .eq) (off := 45) (bb := false) (tg := 107) (by decide +kernel) (by decide +kernel) (cz (ci_eq0 g28 (by decide) b29)) rfl ?_
        refine Ru.op (q := (.aload_n 0, 1)) (by decide +kernel) rfl ?_
        refine Ru.kI (q := (.iconst 4, 1)) (c := 4) (by decide +kernel) rfl (by decide) ?_
        refine Ru.op (q := (.iload_n 1, 1)) (by decide +kernel) rfl ?_
        refine Ru.ar2 (i := .imul) (z := (4 * v1)) (by decide +kernel) rfl (ar_mul _ _) ?_
        refine Ru.op (q := (.iload 7, 2)) (by decide +kernel) rfl ?_
        refine Ru.ar2 (i := .iadd) (z := ((4 * v1) + v7)) (by decide +kernel) rfl (ar_add _ _) ?_
        refine Ru.kI (q := (.iconst 4, 1)) (c := 4) (by decide +kernel) rfl (by decide) ?_
        refine Ru.op (q := (.iload_n 2, 1)) (by decide +kernel) rfl ?_
        refine Ru.ar2 (i := .imul) (z := (4 * v2)) (by decide +kernel) rfl (ar_mul _ _) ?_
        refine Ru.op (q := (.iload 6, 2)) (by decide +kernel) rfl ?_
        refine Ru.op (q := (.aload_n 0, 1)) (by decide +kernel) rfl ?_
        refine Ru.get (i := 27) (v := .ref 41) (by decide +kernel) (by rfl) (hp36 _) (by decide) rfl ?_
        refine Ru.op (q := (.iload_n 2, 1)) (by decide +kernel) rfl ?_
        obtain ⟨g30, h⟩ := gd_some h
        refine Ru.ildI (i := v2) (z := (S.A 41 v2)) (by decide +kernel) (hp41 _) g30 (eI_of _) ?_
        obtain ⟨g31, h⟩ := gd_some h
        refine Ru.ar2 (i := .irem) (z := (v6 % (S.A 41 v2))) (by decide +kernel) rfl (ar_rem g31) ?_
        refine Ru.ar2 (i := .iadd) (z := ((4 * v2) + (v6 % (S.A 41 v2)))) (by decide +kernel) rfl (ar_add _ _) ?_
        obtain ⟨o32, e33, h⟩ := ob_some h
        refine Ru.vcall (i := 260) (j2 := 131) (as := [vI ((4 * v1) + v7), vI ((4 * v2) + (v6 % (S.A 41 v2)))]) (by decide +kernel) (by rfl) rfl rfl (hp36 _) (by decide) ⟨(Nat.le_of_ble_eq_true rfl), (by show 19 + 10 ≤ 292; exact Nat.le_of_ble_eq_true rfl), Nat.le_of_ble_eq_true rfl, Nat.le_of_ble_eq_true rfl⟩ ((g131_ok e33).up (Nat.le_of_ble_eq_true rfl) (Nat.le_of_ble_eq_true rfl)) ?_
        refine Ru.op (q := (.istore 5, 2)) (S' := (132, [some (.ref 36), some (vI v1), some (vI v2), some (vI v3), some (vI v4), some (vI o32.1), some (vI v6), some (vI v7)], [], _, _)) (by decide +kernel) rfl ?_
        refine Ru.op (q := (.iload 6, 2)) (by decide +kernel) rfl ?_
        refine Ru.op (q := (.aload_n 0, 1)) (by decide +kernel) rfl ?_
        refine Ru.get (i := 27) (v := .ref 41) (by decide +kernel) (by rfl) (hp36 _) (by decide) rfl ?_
        refine Ru.op (q := (.iload_n 2, 1)) (by decide +kernel) rfl ?_
        refine Ru.ildI (i := v2) (z := (o32.2.A 41 v2)) (by decide +kernel) (hp41 _) g30 (eI_of _) ?_
        obtain ⟨g34, h⟩ := gd_some h
        refine Ru.ar2 (i := .idiv) (z := (v6 / (o32.2.A 41 v2))) (by decide +kernel) rfl (ar_div g34) ?_
        refine Ru.op (q := (.istore 6, 2)) (S' := (143, [some (.ref 36), some (vI v1), some (vI v2), some (vI v3), some (vI v4), some (vI o32.1), some (vI (v6 / (o32.2.A 41 v2))), some (vI v7)], [], _, _)) (by decide +kernel) rfl ?_
        refine Ru.inc (x := v7) (z := (v7 + 1)) (xs' := [some (.ref 36), some (vI v1), some (vI v2), some (vI v3), some (vI v4), some (vI o32.1), some (vI (v6 / (o32.2.A 41 v2))), some (vI (v7 + 1))]) (by decide +kernel) rfl rfl rfl ?_
        refine Ru.op (q := (.goto (-55), 3)) (by decide +kernel) rfl ?_
        exact ih _ _ _ _ _ h r hk
    · replace h := if_f b27 h
      refine Ru.br2 (k := .ge) (off := 50) (bb := true) (tg := 149) (by decide +kernel) (by decide +kernel) (ci_ge1 g26 (inR_to _) b27) rfl ?_
      cases h
      exact hk _ _
def g130L51 (v1 : Int) (v2 : Int) (v3 : Int) : Nat → Int → St → Option (Sum (St) (Int × St))
  | 0, _, _ => none
  | n + 1, v4, S => gd (inR v4) (gd (inR v3) (if v4 < v3 then ob (g130L60 v1 v2 v3 v4 FU 0 S) (fun o44 => ob (g130L91 v1 v2 v3 v4 FU 1 v4 0 o44) (fun o49 => gd (inR o49.1) (if o49.1 = 0 then g130L51 v1 v2 v3 n (v4 + 1) o49.2 else some (.inr (1, o49.2))))) else some (.inl S)))
set_option maxRecDepth 100000 in
set_option maxHeartbeats 4000000 in
theorem g130L51_ok {v1 : Int} {v2 : Int} {v3 : Int} : ∀ (n : Nat) (v4 : Int) (S : St) (d5 d6 d7 : Option Value) (out : Sum (St) (Int × St)), g130L51 v1 v2 v3 n v4 S = some out → ∀ r, (∀ o, out = .inl o → ∀ (e0 e1 e2 e3 e4 e5 e6 e7 : Option Value), Ru none 14 292 130 (162, [e0, e1, e2, e3, e4, e5, e6, e7], [], o.ns, Hp o) r) → (∀ o, out = .inr o → r = ((0, some (vI o.1)), o.2.ns, Hp o.2)) → Ru none 14 292 130 (51, [some (.ref 36), some (vI v1), some (vI v2), some (vI v3), some (vI v4), d5, d6, d7], [], S.ns, Hp S) r := by
  intro n
  induction n with
  | zero => intro v4 S d5 d6 d7 out h; cases h
  | succ n ih =>
    intro v4 S d5 d6 d7 out h r hk hr
    unfold g130L51 at h
    refine Ru.op (q := (.iload 4, 2)) (by decide +kernel) rfl ?_
    refine Ru.op (q := (.iload_n 3, 1)) (by decide +kernel) rfl ?_
    obtain ⟨g41, h⟩ := gd_some h
    obtain ⟨g42, h⟩ := gd_some h
    by_cases b43 : v4 < v3
    · replace h := if_t b43 h
      refine Ru.br2 (k := .ge) (off := 108) (bb := false) (tg := 57) (by decide +kernel) (by decide +kernel) (ci_ge0 g41 g42 b43) rfl ?_
      refine Ru.kI (q := (.iconst 0, 1)) (c := 0) (by decide +kernel) rfl (by decide) ?_
      refine Ru.op (q := (.istore 5, 2)) (S' := (60, [some (.ref 36), some (vI v1), some (vI v2), some (vI v3), some (vI v4), some (vI 0), d6, d7], [], _, _)) (by decide +kernel) rfl ?_
      obtain ⟨o44, e48, h⟩ := ob_some h
      refine g130L60_ok FU _ _ _ _ _ e48 _ ?_
      intro d45 d46 d47
      refine Ru.kI (q := (.iconst 1, 1)) (c := 1) (by decide +kernel) rfl (by decide) ?_
      refine Ru.op (q := (.istore 5, 2)) (S' := (84, [some (.ref 36), some (vI v1), some (vI v2), some (vI v3), some (vI v4), some (vI 1), d46, d47], [], _, _)) (by decide +kernel) rfl ?_
      refine Ru.op (q := (.iload 4, 2)) (by decide +kernel) rfl ?_
      refine Ru.op (q := (.istore 6, 2)) (S' := (88, [some (.ref 36), some (vI v1), some (vI v2), some (vI v3), some (vI v4), some (vI 1), some (vI v4), d47], [], _, _)) (by decide +kernel) rfl ?_
      refine Ru.kI (q := (.iconst 0, 1)) (c := 0) (by decide +kernel) rfl (by decide) ?_
      refine Ru.op (q := (.istore 7, 2)) (S' := (91, [some (.ref 36), some (vI v1), some (vI v2), some (vI v3), some (vI v4), some (vI 1), some (vI v4), some (vI 0)], [], _, _)) (by decide +kernel) rfl ?_
      obtain ⟨o49, e52, h⟩ := ob_some h
      refine g130L91_ok FU _ _ _ _ _ e52 _ ?_
      intro d50 d51
      refine Ru.op (q := (.iload 5, 2)) (by decide +kernel) rfl ?_
      obtain ⟨g53, h⟩ := gd_some h
      by_cases b54 : o49.1 = 0
      · replace h := if_t b54 h
        refine Ru.br (k := .eq) (off := 5) (bb := true) (tg := 156) (by decide +kernel) (by decide +kernel) (cz (ci_eq1 g53 (by decide) b54)) rfl ?_
        refine Ru.inc (x := v4) (z := (v4 + 1)) (xs' := [some (.ref 36), some (vI v1), some (vI v2), some (vI v3), some (vI (v4 + 1)), some (vI o49.1), d50, d51]) (by decide +kernel) rfl rfl rfl ?_
        refine Ru.op (q := (.goto (-108), 3)) (by decide +kernel) rfl ?_
        exact ih _ _ _ _ _ _ h r hk hr
      · replace h := if_f b54 h
        refine Ru.br (k := .eq) (off := 5) (bb := false) (tg := 154) (by decide +kernel) (by decide +kernel) (cz (ci_eq0 g53 (by decide) b54)) rfl ?_
        refine Ru.kI (q := (.iconst 1, 1)) (c := 1) (by decide +kernel) rfl (by decide) ?_
        cases h
        have h9 := hr _ rfl
        subst h9
        exact Ru.iret (by decide +kernel) rfl (nar_b1 (by decide))
    · replace h := if_f b43 h
      refine Ru.br2 (k := .ge) (off := 108) (bb := true) (tg := 162) (by decide +kernel) (by decide +kernel) (ci_ge1 g41 g42 b43) rfl ?_
      cases h
      exact hk _ rfl _ _ _ _ _ _ _ _
def g130 (S : St) (v1 : Int) (v2 : Int) : Option (Int × St) := gd (ixR v1 125) (gd (ixR v2 125) (if (S.A 41 v2) < (S.A 41 v1) then some (0, S) else ob (g130L22 S v1 v2 FU 1 0) (fun o8 => obr (g130L51 v1 v2 o8 FU 0 S) (fun o55 => some (0, o55)))))
set_option maxRecDepth 100000 in
set_option maxHeartbeats 4000000 in
theorem g130_ok {S : St} {v1 : Int} {v2 : Int} {o : Int × St} (h : g130 S v1 v2 = some o) : Ru none 14 292 130 (0, mn_pad (mn_ent [.ref 36, vI v1, vI v2]) 8, [], S.ns, Hp S) ((0, some (vI o.1)), o.2.ns, Hp o.2) := by
  unfold g130 at h
  show Ru none 14 292 130 (0, [some (.ref 36), some (vI v1), some (vI v2), none, none, none, none, none], [], S.ns, Hp S) _
  refine Ru.op (q := (.aload_n 0, 1)) (by decide +kernel) rfl ?_
  refine Ru.get (i := 27) (v := .ref 41) (by decide +kernel) (by rfl) (hp36 _) (by decide) rfl ?_
  refine Ru.op (q := (.iload_n 1, 1)) (by decide +kernel) rfl ?_
  obtain ⟨g1, h⟩ := gd_some h
  refine Ru.ildI (i := v1) (z := (S.A 41 v1)) (by decide +kernel) (hp41 _) g1 (eI_of _) ?_
  refine Ru.op (q := (.aload_n 0, 1)) (by decide +kernel) rfl ?_
  refine Ru.get (i := 27) (v := .ref 41) (by decide +kernel) (by rfl) (hp36 _) (by decide) rfl ?_
  refine Ru.op (q := (.iload_n 2, 1)) (by decide +kernel) rfl ?_
  obtain ⟨g2, h⟩ := gd_some h
  refine Ru.ildI (i := v2) (z := (S.A 41 v2)) (by decide +kernel) (hp41 _) g2 (eI_of _) ?_
  by_cases b3 : (S.A 41 v2) < (S.A 41 v1)
  · replace h := if_t b3 h
    refine Ru.br2 (k := .le) (off := 5) (bb := false) (tg := 15) (by decide +kernel) (by decide +kernel) (ci_le0 (inR_to _) (inR_to _) b3) rfl ?_
    refine Ru.kI (q := (.iconst 0, 1)) (c := 0) (by decide +kernel) rfl (by decide) ?_
    cases h
    exact Ru.iret (by decide +kernel) rfl (nar_b1 (by decide))
  · replace h := if_f b3 h
    refine Ru.br2 (k := .le) (off := 5) (bb := true) (tg := 17) (by decide +kernel) (by decide +kernel) (ci_le1 (inR_to _) (inR_to _) b3) rfl ?_
    refine Ru.kI (q := (.iconst 1, 1)) (c := 1) (by decide +kernel) rfl (by decide) ?_
    refine Ru.op (q := (.istore_n 3, 1)) (S' := (19, [some (.ref 36), some (vI v1), some (vI v2), some (vI 1), none, none, none, none], [], _, _)) (by decide +kernel) rfl ?_
    refine Ru.kI (q := (.iconst 0, 1)) (c := 0) (by decide +kernel) rfl (by decide) ?_
    refine Ru.op (q := (.istore 4, 2)) (S' := (22, [some (.ref 36), some (vI v1), some (vI v2), some (vI 1), some (vI 0), none, none, none], [], _, _)) (by decide +kernel) rfl ?_
    obtain ⟨o8, e13, h⟩ := ob_some h
    refine g130L22_ok FU _ _ _ _ _ _ e13 _ ?_
    intro d9 d10 d11 d12
    refine Ru.kI (q := (.iconst 0, 1)) (c := 0) (by decide +kernel) rfl (by decide) ?_
    refine Ru.op (q := (.istore 4, 2)) (S' := (51, [some (.ref 36), some (vI v1), some (vI v2), some (vI o8), some (vI 0), d10, d11, d12], [], _, _)) (by decide +kernel) rfl ?_
    rcases obr_some h with ⟨o55, e64, h⟩ | e64
    · refine g130L51_ok FU _ _ _ _ _ _ e64 _ (fun o' e' => ?_) (fun o' e' => by cases e')
      cases e'
      intro d56 d57 d58 d59 d60 d61 d62 d63
      refine Ru.kI (q := (.iconst 0, 1)) (c := 0) (by decide +kernel) rfl (by decide) ?_
      cases h
      exact Ru.iret (by decide +kernel) rfl (nar_b1 (by decide))
    · exact g130L51_ok FU _ _ _ _ _ _ e64 _ (fun o' e' => by cases e') (fun o' e' => by cases e'; rfl)
def g129L4  : Nat → Int → Int → St → Option (Int × St)
  | 0, _, _, _ => none
  | n + 1, v1, v2, S => gd (inR v2) (if v2 < (S.F 36 9) then gd (inR v1) (if v1 = 0 then gd (ixR v2 100) (if (S.A 43 v2) < 2 then ob (g130 S v2 124) (fun o7 => gd (inR o7.1) (if o7.1 = 0 then g129L4 n 0 (v2 + 1) o7.2 else g129L4 n 1 (v2 + 1) o7.2)) else g129L4 n 0 (v2 + 1) S) else some (v1, S)) else some (v1, S))
set_option maxRecDepth 100000 in
set_option maxHeartbeats 4000000 in
theorem g129L4_ok : ∀ (n : Nat) (v1 : Int) (v2 : Int) (S : St) (out : Int × St), g129L4 n v1 v2 S = some out → ∀ r, (∀ (e0 e2 : Option Value), Ru none 15 319 129 (48, [e0, some (vI out.1), e2], [], out.2.ns, Hp out.2) r) → Ru none 15 319 129 (4, [some (.ref 36), some (vI v1), some (vI v2)], [], S.ns, Hp S) r := by
  intro n
  induction n with
  | zero => intro v1 v2 S out h; cases h
  | succ n ih =>
    intro v1 v2 S out h r hk
    unfold g129L4 at h
    refine Ru.op (q := (.iload_n 2, 1)) (by decide +kernel) rfl ?_
    refine Ru.op (q := (.aload_n 0, 1)) (by decide +kernel) rfl ?_
    refine Ru.getI (i := 263) (x := (S.F 36 9)) (by decide +kernel) (by rfl) (hp36 _) (by decide) rfl (eI_of _) ?_
    obtain ⟨g1, h⟩ := gd_some h
    by_cases b2 : v2 < (S.F 36 9)
    · replace h := if_t b2 h
      refine Ru.br2 (k := .ge) (off := 39) (bb := false) (tg := 12) (by decide +kernel) (by decide +kernel) (ci_ge0 g1 (inR_to _) b2) rfl ?_
      refine Ru.op (q := (.iload_n 1, 1)) (by decide +kernel) rfl ?_
      obtain ⟨g3, h⟩ := gd_some h
      by_cases b4 : v1 = 0
      · replace h := if_t b4 h
        refine Ru.br (k := .ne) (off := 35) (bb := false) (tg := 16) (by decide +kernel) (by decide +kernel) (cz (ci_ne0 g3 (by decide) b4)) rfl ?_
        refine Ru.op (q := (.aload_n 0, 1)) (by decide +kernel) rfl ?_
        refine Ru.get (i := 33) (v := .ref 43) (by decide +kernel) (by rfl) (hp36 _) (by decide) rfl ?_
        refine Ru.op (q := (.iload_n 2, 1)) (by decide +kernel) rfl ?_
        obtain ⟨g5, h⟩ := gd_some h
        refine Ru.ildI (i := v2) (z := (S.A 43 v2)) (by decide +kernel) (hp43 _) g5 (eI_of _) ?_
        refine Ru.kI (q := (.iconst 2, 1)) (c := 2) (by decide +kernel) rfl (by decide) ?_
        by_cases b6 : (S.A 43 v2) < 2
        · replace h := if_t b6 h
          refine Ru.br2 (k := .ge) (off := 17) (bb := false) (tg := 26) (by decide +kernel) (by decide +kernel) (ci_ge0 (inR_to _) (by decide) b6) rfl ?_
          refine Ru.op (q := (.aload_n 0, 1)) (by decide +kernel) rfl ?_
          refine Ru.op (q := (.iload_n 2, 1)) (by decide +kernel) rfl ?_
          refine Ru.kI (q := (.bipush 124, 2)) (c := 124) (by decide +kernel) rfl (by decide) ?_
          obtain ⟨o7, e8, h⟩ := ob_some h
          refine Ru.vcall (i := 266) (j2 := 130) (as := [vI v2, vI 124]) (by decide +kernel) (by rfl) rfl rfl (hp36 _) (by decide) ⟨(Nat.le_of_ble_eq_true rfl), (by show 19 + 8 ≤ 319; exact Nat.le_of_ble_eq_true rfl), Nat.le_of_ble_eq_true rfl, Nat.le_of_ble_eq_true rfl⟩ ((g130_ok e8).up (Nat.le_of_ble_eq_true rfl) (Nat.le_of_ble_eq_true rfl)) ?_
          obtain ⟨g9, h⟩ := gd_some h
          by_cases b10 : o7.1 = 0
          · replace h := if_t b10 h
            refine Ru.br (k := .eq) (off := 7) (bb := true) (tg := 40) (by decide +kernel) (by decide +kernel) (cz (ci_eq1 g9 (by decide) b10)) rfl ?_
            refine Ru.kI (q := (.iconst 0, 1)) (c := 0) (by decide +kernel) rfl (by decide) ?_
            refine Ru.op (q := (.istore_n 1, 1)) (S' := (42, [some (.ref 36), some (vI 0), some (vI v2)], [], _, _)) (by decide +kernel) rfl ?_
            refine Ru.inc (x := v2) (z := (v2 + 1)) (xs' := [some (.ref 36), some (vI 0), some (vI (v2 + 1))]) (by decide +kernel) rfl rfl rfl ?_
            refine Ru.op (q := (.goto (-41), 3)) (by decide +kernel) rfl ?_
            exact ih _ _ _ _ h r hk
          · replace h := if_f b10 h
            refine Ru.br (k := .eq) (off := 7) (bb := false) (tg := 36) (by decide +kernel) (by decide +kernel) (cz (ci_eq0 g9 (by decide) b10)) rfl ?_
            refine Ru.kI (q := (.iconst 1, 1)) (c := 1) (by decide +kernel) rfl (by decide) ?_
            refine Ru.op (q := (.goto 4, 3)) (by decide +kernel) rfl ?_
            refine Ru.op (q := (.istore_n 1, 1)) (S' := (42, [some (.ref 36), some (vI 1), some (vI v2)], [], _, _)) (by decide +kernel) rfl ?_
            refine Ru.inc (x := v2) (z := (v2 + 1)) (xs' := [some (.ref 36), some (vI 1), some (vI (v2 + 1))]) (by decide +kernel) rfl rfl rfl ?_
            refine Ru.op (q := (.goto (-41), 3)) (by decide +kernel) rfl ?_
            exact ih _ _ _ _ h r hk
        · replace h := if_f b6 h
          refine Ru.br2 (k := .ge) (off := 17) (bb := true) (tg := 40) (by decide +kernel) (by decide +kernel) (ci_ge1 (inR_to _) (by decide) b6) rfl ?_
          refine Ru.kI (q := (.iconst 0, 1)) (c := 0) (by decide +kernel) rfl (by decide) ?_
          refine Ru.op (q := (.istore_n 1, 1)) (S' := (42, [some (.ref 36), some (vI 0), some (vI v2)], [], _, _)) (by decide +kernel) rfl ?_
          refine Ru.inc (x := v2) (z := (v2 + 1)) (xs' := [some (.ref 36), some (vI 0), some (vI (v2 + 1))]) (by decide +kernel) rfl rfl rfl ?_
          refine Ru.op (q := (.goto (-41), 3)) (by decide +kernel) rfl ?_
          exact ih _ _ _ _ h r hk
      · replace h := if_f b4 h
        refine Ru.br (k := .ne) (off := 35) (bb := true) (tg := 48) (by decide +kernel) (by decide +kernel) (cz (ci_ne1 g3 (by decide) b4)) rfl ?_
        cases h
        exact hk _ _
    · replace h := if_f b2 h
      refine Ru.br2 (k := .ge) (off := 39) (bb := true) (tg := 48) (by decide +kernel) (by decide +kernel) (ci_ge1 g1 (inR_to _) b2) rfl ?_
      cases h
      exact hk _ _
def g129 (S : St) : Option (Int × St) := ob (g129L4 FU 0 0 S) (fun o11 => gd (b1R o11.1) (some (o11.1, o11.2)))
set_option maxRecDepth 100000 in
set_option maxHeartbeats 4000000 in
theorem g129_ok {S : St} {o : Int × St} (h : g129 S  = some o) : Ru none 15 319 129 (0, mn_pad (mn_ent [.ref 36]) 3, [], S.ns, Hp S) ((0, some (vI o.1)), o.2.ns, Hp o.2) := by
  unfold g129 at h
  show Ru none 15 319 129 (0, [some (.ref 36), none, none], [], S.ns, Hp S) _
  refine Ru.kI (q := (.iconst 0, 1)) (c := 0) (by decide +kernel) rfl (by decide) ?_
  refine Ru.op (q := (.istore_n 1, 1)) (S' := (2, [some (.ref 36), some (vI 0), none], [], _, _)) (by decide +kernel) rfl ?_
  refine Ru.kI (q := (.iconst 0, 1)) (c := 0) (by decide +kernel) rfl (by decide) ?_
  refine Ru.op (q := (.istore_n 2, 1)) (S' := (4, [some (.ref 36), some (vI 0), some (vI 0)], [], _, _)) (by decide +kernel) rfl ?_
  obtain ⟨o11, e14, h⟩ := ob_some h
  refine g129L4_ok FU _ _ _ _ e14 _ ?_
  intro d12 d13
  refine Ru.op (q := (.iload_n 1, 1)) (by decide +kernel) rfl ?_
  obtain ⟨g15, h⟩ := gd_some h
  cases h
  exact Ru.iret (by decide +kernel) rfl (nar_b1 g15)
def g132L2 (v1 : Int) : Nat → Int → St → Option (St)
  | 0, _, _ => none
  | n + 1, v2, S => gd (inR v2) (if v2 < (S.A 42 124) then gd (ixR (7936 + v2) 8032) (gd (ixR ((64 * v1) + v2) 8032) (g132L2 v1 n (v2 + 1) (S.a 38 ((64 * v1) + v2) (S.A 38 (7936 + v2))))) else some S)
set_option maxRecDepth 100000 in
set_option maxHeartbeats 4000000 in
theorem g132L2_ok {v1 : Int} : ∀ (n : Nat) (v2 : Int) (S : St) (out : St), g132L2 v1 n v2 S = some out → ∀ r, (∀ (e2 : Option Value), Ru none 10 200 132 (40, [some (.ref 36), some (vI v1), e2], [], out.ns, Hp out) r) → Ru none 10 200 132 (2, [some (.ref 36), some (vI v1), some (vI v2)], [], S.ns, Hp S) r := by
  intro n
  induction n with
  | zero => intro v2 S out h; cases h
  | succ n ih =>
    intro v2 S out h r hk
    unfold g132L2 at h
    refine Ru.op (q := (.iload_n 2, 1)) (by decide +kernel) rfl ?_
    refine Ru.op (q := (.aload_n 0, 1)) (by decide +kernel) rfl ?_
    refine Ru.get (i := 30) (v := .ref 42) (by decide +kernel) (by rfl) (hp36 _) (by decide) rfl ?_
    refine Ru.kI (q := (.bipush 124, 2)) (c := 124) (by decide +kernel) rfl (by decide) ?_
    refine Ru.ildI (i := 124) (z := (S.A 42 124)) (by decide +kernel) (hp42 _) (by decide) (eI_of _) ?_
    obtain ⟨g1, h⟩ := gd_some h
    by_cases b2 : v2 < (S.A 42 124)
    · replace h := if_t b2 h
      refine Ru.br2 (k := .ge) (off := 30) (bb := false) (tg := 13) (by decide +kernel) (by decide +kernel) (ci_ge0 g1 (inR_to _) b2) rfl ?_
      refine Ru.op (q := (.aload_n 0, 1)) (by decide +kernel) rfl ?_
      refine Ru.get (i := 17) (v := .ref 38) (by decide +kernel) (by rfl) (hp36 _) (by decide) rfl ?_
      refine Ru.kI (q := (.bipush 64, 2)) (c := 64) (by decide +kernel) rfl (by decide) ?_
      refine Ru.op (q := (.iload_n 1, 1)) (by decide +kernel) rfl ?_
      refine Ru.ar2 (i := .imul) (z := (64 * v1)) (by decide +kernel) rfl (ar_mul _ _) ?_
      refine Ru.op (q := (.iload_n 2, 1)) (by decide +kernel) rfl ?_
      refine Ru.ar2 (i := .iadd) (z := ((64 * v1) + v2)) (by decide +kernel) rfl (ar_add _ _) ?_
      refine Ru.op (q := (.aload_n 0, 1)) (by decide +kernel) rfl ?_
      refine Ru.get (i := 17) (v := .ref 38) (by decide +kernel) (by rfl) (hp36 _) (by decide) rfl ?_
      refine Ru.kI (q := (.sipush 7936, 3)) (c := 7936) (by decide +kernel) rfl (by decide) ?_
      refine Ru.op (q := (.iload_n 2, 1)) (by decide +kernel) rfl ?_
      refine Ru.ar2 (i := .iadd) (z := (7936 + v2)) (by decide +kernel) rfl (ar_add _ _) ?_
      obtain ⟨g3, h⟩ := gd_some h
      refine Ru.ildI (i := (7936 + v2)) (z := (S.A 38 (7936 + v2))) (by decide +kernel) (hp38 _) g3 (eI_of _) ?_
      obtain ⟨g4, h⟩ := gd_some h
      refine Ru.istI (i := ((64 * v1) + v2)) (x := (S.A 38 (7936 + v2))) (by decide +kernel) (hp38 _) g4 (ps_38 _ _ _) ?_
      refine Ru.inc (x := v2) (z := (v2 + 1)) (xs' := [some (.ref 36), some (vI v1), some (vI (v2 + 1))]) (by decide +kernel) rfl rfl rfl ?_
      refine Ru.op (q := (.goto (-35), 3)) (by decide +kernel) rfl ?_
      exact ih _ _ _ h r hk
    · replace h := if_f b2 h
      refine Ru.br2 (k := .ge) (off := 30) (bb := true) (tg := 40) (by decide +kernel) (by decide +kernel) (ci_ge1 g1 (inR_to _) b2) rfl ?_
      cases h
      exact hk _
def g132L42 (v1 : Int) : Nat → Int → St → Option (St)
  | 0, _, _ => none
  | n + 1, v2, S => gd (inR v2) (if v2 < (S.A 41 124) then gd (ixR (496 + v2) 504) (gd (ixR ((4 * v1) + v2) 504) (gd (b1R (S.A 40 (496 + v2))) (g132L42 v1 n (v2 + 1) ((S.a 39 ((4 * v1) + v2) (((S.A 39 (496 + v2)) - 7936) + (64 * v1))).a 40 ((4 * v1) + v2) (S.A 40 (496 + v2)))))) else some S)
set_option maxRecDepth 100000 in
set_option maxHeartbeats 4000000 in
theorem g132L42_ok {v1 : Int} : ∀ (n : Nat) (v2 : Int) (S : St) (out : St), g132L42 v1 n v2 S = some out → ∀ r, (∀ (e2 : Option Value), Ru none 10 200 132 (108, [some (.ref 36), some (vI v1), e2], [], out.ns, Hp out) r) → Ru none 10 200 132 (42, [some (.ref 36), some (vI v1), some (vI v2)], [], S.ns, Hp S) r := by
  intro n
  induction n with
  | zero => intro v2 S out h; cases h
  | succ n ih =>
    intro v2 S out h r hk
    unfold g132L42 at h
    refine Ru.op (q := (.iload_n 2, 1)) (by decide +kernel) rfl ?_
    refine Ru.op (q := (.aload_n 0, 1)) (by decide +kernel) rfl ?_
    refine Ru.get (i := 27) (v := .ref 41) (by decide +kernel) (by rfl) (hp36 _) (by decide) rfl ?_
    refine Ru.kI (q := (.bipush 124, 2)) (c := 124) (by decide +kernel) rfl (by decide) ?_
    refine Ru.ildI (i := 124) (z := (S.A 41 124)) (by decide +kernel) (hp41 _) (by decide) (eI_of _) ?_
    obtain ⟨g8, h⟩ := gd_some h
    by_cases b9 : v2 < (S.A 41 124)
    · replace h := if_t b9 h
      refine Ru.br2 (k := .ge) (off := 58) (bb := false) (tg := 53) (by decide +kernel) (by decide +kernel) (ci_ge0 g8 (inR_to _) b9) rfl ?_
      refine Ru.op (q := (.aload_n 0, 1)) (by decide +kernel) rfl ?_
      refine Ru.get (i := 20) (v := .ref 39) (by decide +kernel) (by rfl) (hp36 _) (by decide) rfl ?_
      refine Ru.kI (q := (.iconst 4, 1)) (c := 4) (by decide +kernel) rfl (by decide) ?_
      refine Ru.op (q := (.iload_n 1, 1)) (by decide +kernel) rfl ?_
      refine Ru.ar2 (i := .imul) (z := (4 * v1)) (by decide +kernel) rfl (ar_mul _ _) ?_
      refine Ru.op (q := (.iload_n 2, 1)) (by decide +kernel) rfl ?_
      refine Ru.ar2 (i := .iadd) (z := ((4 * v1) + v2)) (by decide +kernel) rfl (ar_add _ _) ?_
      refine Ru.op (q := (.aload_n 0, 1)) (by decide +kernel) rfl ?_
      refine Ru.get (i := 20) (v := .ref 39) (by decide +kernel) (by rfl) (hp36 _) (by decide) rfl ?_
      refine Ru.kI (q := (.sipush 496, 3)) (c := 496) (by decide +kernel) rfl (by decide) ?_
      refine Ru.op (q := (.iload_n 2, 1)) (by decide +kernel) rfl ?_
      refine Ru.ar2 (i := .iadd) (z := (496 + v2)) (by decide +kernel) rfl (ar_add _ _) ?_
      obtain ⟨g10, h⟩ := gd_some h
      refine Ru.ildI (i := (496 + v2)) (z := (S.A 39 (496 + v2))) (by decide +kernel) (hp39 _) g10 (eI_of _) ?_
      refine Ru.kI (q := (.sipush 7936, 3)) (c := 7936) (by decide +kernel) rfl (by decide) ?_
      refine Ru.ar2 (i := .isub) (z := ((S.A 39 (496 + v2)) - 7936)) (by decide +kernel) rfl (ar_sub _ _) ?_
      refine Ru.kI (q := (.bipush 64, 2)) (c := 64) (by decide +kernel) rfl (by decide) ?_
      refine Ru.op (q := (.iload_n 1, 1)) (by decide +kernel) rfl ?_
      refine Ru.ar2 (i := .imul) (z := (64 * v1)) (by decide +kernel) rfl (ar_mul _ _) ?_
      refine Ru.ar2 (i := .iadd) (z := (((S.A 39 (496 + v2)) - 7936) + (64 * v1))) (by decide +kernel) rfl (ar_add _ _) ?_
      obtain ⟨g11, h⟩ := gd_some h
      refine Ru.istI (i := ((4 * v1) + v2)) (x := (((S.A 39 (496 + v2)) - 7936) + (64 * v1))) (by decide +kernel) (hp39 _) g11 (ps_39 _ _ _) ?_
      refine Ru.op (q := (.aload_n 0, 1)) (by decide +kernel) rfl ?_
      refine Ru.get (i := 23) (v := .ref 40) (by decide +kernel) (by rfl) (hp36 _) (by decide) rfl ?_
      refine Ru.kI (q := (.iconst 4, 1)) (c := 4) (by decide +kernel) rfl (by decide) ?_
      refine Ru.op (q := (.iload_n 1, 1)) (by decide +kernel) rfl ?_
      refine Ru.ar2 (i := .imul) (z := (4 * v1)) (by decide +kernel) rfl (ar_mul _ _) ?_
      refine Ru.op (q := (.iload_n 2, 1)) (by decide +kernel) rfl ?_
      refine Ru.ar2 (i := .iadd) (z := ((4 * v1) + v2)) (by decide +kernel) rfl (ar_add _ _) ?_
      refine Ru.op (q := (.aload_n 0, 1)) (by decide +kernel) rfl ?_
      refine Ru.get (i := 23) (v := .ref 40) (by decide +kernel) (by rfl) (hp36 _) (by decide) rfl ?_
      refine Ru.kI (q := (.sipush 496, 3)) (c := 496) (by decide +kernel) rfl (by decide) ?_
      refine Ru.op (q := (.iload_n 2, 1)) (by decide +kernel) rfl ?_
      refine Ru.ar2 (i := .iadd) (z := (496 + v2)) (by decide +kernel) rfl (ar_add _ _) ?_
      refine Ru.bldI (i := (496 + v2)) (z := (S.A 40 (496 + v2))) (by decide +kernel) (hp40 _) g10 (eI_of _) ?_
      obtain ⟨g12, h⟩ := gd_some h
      refine Ru.bstI (i := ((4 * v1) + v2)) (x := (S.A 40 (496 + v2))) (by decide +kernel) (hp40 _) g11 g12 (ps_40 _ _ _) ?_
      refine Ru.inc (x := v2) (z := (v2 + 1)) (xs' := [some (.ref 36), some (vI v1), some (vI (v2 + 1))]) (by decide +kernel) rfl rfl rfl ?_
      refine Ru.op (q := (.goto (-63), 3)) (by decide +kernel) rfl ?_
      exact ih _ _ _ h r hk
    · replace h := if_f b9 h
      refine Ru.br2 (k := .ge) (off := 58) (bb := true) (tg := 108) (by decide +kernel) (by decide +kernel) (ci_ge1 g8 (inR_to _) b9) rfl ?_
      cases h
      exact hk _
def g132 (S : St) (v1 : Int) : Option (St) := ob (g132L2 v1 FU 0 S) (fun o5 => ob (g132L42 v1 FU 0 o5) (fun o13 => gd (ixR v1 125) (some ((o13.a 41 v1 (o13.A 41 124)).a 42 v1 (o13.A 42 124)))))
set_option maxRecDepth 100000 in
set_option maxHeartbeats 4000000 in
theorem g132_ok {S : St} {v1 : Int} {o : St} (h : g132 S v1 = some o) : Ru none 10 200 132 (0, mn_pad (mn_ent [.ref 36, vI v1]) 3, [], S.ns, Hp S) ((0, none), o.ns, Hp o) := by
  unfold g132 at h
  show Ru none 10 200 132 (0, [some (.ref 36), some (vI v1), none], [], S.ns, Hp S) _
  refine Ru.kI (q := (.iconst 0, 1)) (c := 0) (by decide +kernel) rfl (by decide) ?_
  refine Ru.op (q := (.istore_n 2, 1)) (S' := (2, [some (.ref 36), some (vI v1), some (vI 0)], [], _, _)) (by decide +kernel) rfl ?_
  obtain ⟨o5, e7, h⟩ := ob_some h
  refine g132L2_ok FU _ _ _ e7 _ ?_
  intro d6
  refine Ru.kI (q := (.iconst 0, 1)) (c := 0) (by decide +kernel) rfl (by decide) ?_
  refine Ru.op (q := (.istore_n 2, 1)) (S' := (42, [some (.ref 36), some (vI v1), some (vI 0)], [], _, _)) (by decide +kernel) rfl ?_
  obtain ⟨o13, e15, h⟩ := ob_some h
  refine g132L42_ok FU _ _ _ e15 _ ?_
  intro d14
  refine Ru.op (q := (.aload_n 0, 1)) (by decide +kernel) rfl ?_
  refine Ru.get (i := 27) (v := .ref 41) (by decide +kernel) (by rfl) (hp36 _) (by decide) rfl ?_
  refine Ru.op (q := (.iload_n 1, 1)) (by decide +kernel) rfl ?_
  refine Ru.op (q := (.aload_n 0, 1)) (by decide +kernel) rfl ?_
  refine Ru.get (i := 27) (v := .ref 41) (by decide +kernel) (by rfl) (hp36 _) (by decide) rfl ?_
  refine Ru.kI (q := (.bipush 124, 2)) (c := 124) (by decide +kernel) rfl (by decide) ?_
  refine Ru.ildI (i := 124) (z := (o13.A 41 124)) (by decide +kernel) (hp41 _) (by decide) (eI_of _) ?_
  obtain ⟨g16, h⟩ := gd_some h
  refine Ru.istI (i := v1) (x := (o13.A 41 124)) (by decide +kernel) (hp41 _) g16 (ps_41 _ _ _) ?_
  refine Ru.op (q := (.aload_n 0, 1)) (by decide +kernel) rfl ?_
  refine Ru.get (i := 30) (v := .ref 42) (by decide +kernel) (by rfl) (hp36 _) (by decide) rfl ?_
  refine Ru.op (q := (.iload_n 1, 1)) (by decide +kernel) rfl ?_
  refine Ru.op (q := (.aload_n 0, 1)) (by decide +kernel) rfl ?_
  refine Ru.get (i := 30) (v := .ref 42) (by decide +kernel) (by rfl) (hp36 _) (by decide) rfl ?_
  refine Ru.kI (q := (.bipush 124, 2)) (c := 124) (by decide +kernel) rfl (by decide) ?_
  refine Ru.ildI (i := 124) (z := (o13.A 42 124)) (by decide +kernel) (hp42 _) (by decide) (eI_of _) ?_
  refine Ru.istI (i := v1) (x := (o13.A 42 124)) (by decide +kernel) (hp42 _) g16 (ps_42 _ _ _) ?_
  cases h
  exact Ru.end (q := (.return_, 1)) (by decide +kernel) rfl rfl
def g118 (S : St) (v1 : Int) (v2 : Int) (v3 : Int) (v4 : Int) (v5 : Int) : Option (Int × St) := ob (g119 S) (fun o1 => gd (inR o1.1) (if o1.1 = 0 then some (0, (o1.2.f 36 17 ((o1.2.F 36 17) + 1))) else if 16 < (o1.2.A 42 124) then some (0, (o1.2.f 36 17 ((o1.2.F 36 17) + 1))) else ob (g128 o1.2) (fun o6 => gd (inR o6) (if o6 = 0 then ob (g129 o1.2) (fun o10 => gd (inR o10.1) (if o10.1 = 0 then if (o10.2.F 36 9) = 100 then some (0, (o10.2.f 36 15 1)) else ob (g132 o10.2 (o10.2.F 36 9)) (fun o15 => gd (ixR (o15.F 36 9) 100) (gd (ixR (4 * (o15.F 36 9)) 400) (gd (ixR ((4 * (o15.F 36 9)) + 1) 400) (gd (ixR ((4 * (o15.F 36 9)) + 2) 400) (gd (ixR ((4 * (o15.F 36 9)) + 3) 400) (gd (ixR (o15.F 36 9) 125) (if (o15.A 41 (o15.F 36 9)) = 0 then some (1, ((((((((o15.a 43 (o15.F 36 9) 0).a 44 (o15.F 36 9) v1).a 45 (4 * (o15.F 36 9)) v2).a 45 ((4 * (o15.F 36 9)) + 1) v3).a 45 ((4 * (o15.F 36 9)) + 2) v4).a 45 ((4 * (o15.F 36 9)) + 3) v5).f 36 14 (o15.F 36 9)).f 36 9 ((o15.F 36 9) + 1))) else some (1, ((((((((o15.a 43 (o15.F 36 9) 0).a 44 (o15.F 36 9) v1).a 45 (4 * (o15.F 36 9)) v2).a 45 ((4 * (o15.F 36 9)) + 1) v3).a 45 ((4 * (o15.F 36 9)) + 2) v4).a 45 ((4 * (o15.F 36 9)) + 3) v5).f 36 14 (o15.F 36 14)).f 36 9 ((o15.F 36 9) + 1)))))))))) else some (0, (o10.2.f 36 19 ((o10.2.F 36 19) + 1))))) else some (0, (o1.2.f 36 18 ((o1.2.F 36 18) + 1)))))))
set_option maxRecDepth 100000 in
set_option maxHeartbeats 4000000 in
theorem g118_ok {S : St} {v1 : Int} {v2 : Int} {v3 : Int} {v4 : Int} {v5 : Int} {o : Int × St} (h : g118 S v1 v2 v3 v4 v5 = some o) : Ru none 16 343 118 (0, mn_pad (mn_ent [.ref 36, vI v1, vI v2, vI v3, vI v4, vI v5]) 6, [], S.ns, Hp S) ((0, some (vI o.1)), o.2.ns, Hp o.2) := by
  unfold g118 at h
  show Ru none 16 343 118 (0, [some (.ref 36), some (vI v1), some (vI v2), some (vI v3), some (vI v4), some (vI v5)], [], S.ns, Hp S) _
  refine Ru.op (q := (.aload_n 0, 1)) (by decide +kernel) rfl ?_
  obtain ⟨o1, e2, h⟩ := ob_some h
  refine Ru.vcall (i := 269) (j2 := 119) (as := []) (by decide +kernel) (by rfl) rfl rfl (hp36 _) (by decide) ⟨(Nat.le_of_ble_eq_true rfl), (by show 19 + 9 ≤ 343; exact Nat.le_of_ble_eq_true rfl), Nat.le_of_ble_eq_true rfl, Nat.le_of_ble_eq_true rfl⟩ ((g119_ok e2).up (Nat.le_of_ble_eq_true rfl) (Nat.le_of_ble_eq_true rfl)) ?_
  obtain ⟨g3, h⟩ := gd_some h
  by_cases b4 : o1.1 = 0
  · replace h := if_t b4 h
    refine Ru.br (k := .eq) (off := 15) (bb := true) (tg := 19) (by decide +kernel) (by decide +kernel) (cz (ci_eq1 g3 (by decide) b4)) rfl ?_
    refine Ru.op (q := (.aload_n 0, 1)) (by decide +kernel) rfl ?_
    refine Ru.op (q := (.dup, 1)) (by decide +kernel) rfl ?_
    refine Ru.getI (i := 273) (x := (o1.2.F 36 17)) (by decide +kernel) (by rfl) (hp36 _) (by decide) rfl (eI_of _) ?_
    refine Ru.kI (q := (.iconst 1, 1)) (c := 1) (by decide +kernel) rfl (by decide) ?_
    refine Ru.ar2 (i := .iadd) (z := ((o1.2.F 36 17) + 1)) (by decide +kernel) rfl (ar_add _ _) ?_
    refine Ru.putH (i := 273) (by decide +kernel) (by rfl) (hp36 _) (by decide) (Nat.le_of_ble_eq_true rfl) rfl (by decide +kernel) (pf_36_17 _ _) ?_
    refine Ru.kI (q := (.iconst 0, 1)) (c := 0) (by decide +kernel) rfl (by decide) ?_
    cases h
    exact Ru.iret (by decide +kernel) rfl (nar_b1 (by decide))
  · replace h := if_f b4 h
    refine Ru.br (k := .eq) (off := 15) (bb := false) (tg := 7) (by decide +kernel) (by decide +kernel) (cz (ci_eq0 g3 (by decide) b4)) rfl ?_
    refine Ru.op (q := (.aload_n 0, 1)) (by decide +kernel) rfl ?_
    refine Ru.get (i := 30) (v := .ref 42) (by decide +kernel) (by rfl) (hp36 _) (by decide) rfl ?_
    refine Ru.kI (q := (.bipush 124, 2)) (c := 124) (by decide +kernel) rfl (by decide) ?_
    refine Ru.ildI (i := 124) (z := (o1.2.A 42 124)) (by decide +kernel) (hp42 _) (by decide) (eI_of _) ?_
    refine Ru.kI (q := (.bipush 16, 2)) (c := 16) (by decide +kernel) rfl (by decide) ?_
    by_cases b5 : 16 < (o1.2.A 42 124)
    · replace h := if_t b5 h
      refine Ru.br2 (k := .le) (off := 15) (bb := false) (tg := 19) (by decide +kernel) (by decide +kernel) (ci_le0 (inR_to _) (by decide) b5) rfl ?_
      refine Ru.op (q := (.aload_n 0, 1)) (by decide +kernel) rfl ?_
      refine Ru.op (q := (.dup, 1)) (by decide +kernel) rfl ?_
      refine Ru.getI (i := 273) (x := (o1.2.F 36 17)) (by decide +kernel) (by rfl) (hp36 _) (by decide) rfl (eI_of _) ?_
      refine Ru.kI (q := (.iconst 1, 1)) (c := 1) (by decide +kernel) rfl (by decide) ?_
      refine Ru.ar2 (i := .iadd) (z := ((o1.2.F 36 17) + 1)) (by decide +kernel) rfl (ar_add _ _) ?_
      refine Ru.putH (i := 273) (by decide +kernel) (by rfl) (hp36 _) (by decide) (Nat.le_of_ble_eq_true rfl) rfl (by decide +kernel) (pf_36_17 _ _) ?_
      refine Ru.kI (q := (.iconst 0, 1)) (c := 0) (by decide +kernel) rfl (by decide) ?_
      cases h
      exact Ru.iret (by decide +kernel) rfl (nar_b1 (by decide))
    · replace h := if_f b5 h
      refine Ru.br2 (k := .le) (off := 15) (bb := true) (tg := 31) (by decide +kernel) (by decide +kernel) (ci_le1 (inR_to _) (by decide) b5) rfl ?_
      refine Ru.op (q := (.aload_n 0, 1)) (by decide +kernel) rfl ?_
      obtain ⟨o6, e7, h⟩ := ob_some h
      refine Ru.vcall (i := 276) (j2 := 128) (as := []) (by decide +kernel) (by rfl) rfl rfl (hp36 _) (by decide) ⟨(Nat.le_of_ble_eq_true rfl), (by show 19 + 4 ≤ 343; exact Nat.le_of_ble_eq_true rfl), Nat.le_of_ble_eq_true rfl, Nat.le_of_ble_eq_true rfl⟩ ((g128_ok e7).up (Nat.le_of_ble_eq_true rfl) (Nat.le_of_ble_eq_true rfl)) ?_
      obtain ⟨g8, h⟩ := gd_some h
      by_cases b9 : o6 = 0
      · replace h := if_t b9 h
        refine Ru.br (k := .eq) (off := 15) (bb := true) (tg := 50) (by decide +kernel) (by decide +kernel) (cz (ci_eq1 g8 (by decide) b9)) rfl ?_
        refine Ru.op (q := (.aload_n 0, 1)) (by decide +kernel) rfl ?_
        obtain ⟨o10, e11, h⟩ := ob_some h
        refine Ru.vcall (i := 282) (j2 := 129) (as := []) (by decide +kernel) (by rfl) rfl rfl (hp36 _) (by decide) ⟨(Nat.le_of_ble_eq_true rfl), (by show 19 + 3 ≤ 343; exact Nat.le_of_ble_eq_true rfl), Nat.le_of_ble_eq_true rfl, Nat.le_of_ble_eq_true rfl⟩ ((g129_ok e11).up (Nat.le_of_ble_eq_true rfl) (Nat.le_of_ble_eq_true rfl)) ?_
        obtain ⟨g12, h⟩ := gd_some h
        by_cases b13 : o10.1 = 0
        · replace h := if_t b13 h
          refine Ru.br (k := .eq) (off := 15) (bb := true) (tg := 69) (by decide +kernel) (by decide +kernel) (cz (ci_eq1 g12 (by decide) b13)) rfl ?_
          refine Ru.op (q := (.aload_n 0, 1)) (by decide +kernel) rfl ?_
          refine Ru.getI (i := 263) (x := (o10.2.F 36 9)) (by decide +kernel) (by rfl) (hp36 _) (by decide) rfl (eI_of _) ?_
          refine Ru.kI (q := (.bipush 100, 2)) (c := 100) (by decide +kernel) rfl (by decide) ?_
          by_cases b14 : (o10.2.F 36 9) = 100
          · replace h := if_t b14 h
            refine Ru.br2 (k := .ne) (off := 10) (bb := false) (tg := 78) (by decide +kernel) (by decide +kernel) (ci_ne0 (inR_to _) (by decide) b14) rfl ?_
            refine Ru.op (q := (.aload_n 0, 1)) (by decide +kernel) rfl ?_
            refine Ru.kI (q := (.iconst 1, 1)) (c := 1) (by decide +kernel) rfl (by decide) ?_
            refine Ru.putH (i := 288) (by decide +kernel) (by rfl) (hp36 _) (by decide) (Nat.le_of_ble_eq_true rfl) (fk_b (by decide)) (by decide +kernel) (pf_36_15 _ _) ?_
            refine Ru.kI (q := (.iconst 0, 1)) (c := 0) (by decide +kernel) rfl (by decide) ?_
            cases h
            exact Ru.iret (by decide +kernel) rfl (nar_b1 (by decide))
          · replace h := if_f b14 h
            refine Ru.br2 (k := .ne) (off := 10) (bb := true) (tg := 85) (by decide +kernel) (by decide +kernel) (ci_ne1 (inR_to _) (by decide) b14) rfl ?_
            refine Ru.op (q := (.aload_n 0, 1)) (by decide +kernel) rfl ?_
            refine Ru.op (q := (.aload_n 0, 1)) (by decide +kernel) rfl ?_
            refine Ru.getI (i := 263) (x := (o10.2.F 36 9)) (by decide +kernel) (by rfl) (hp36 _) (by decide) rfl (eI_of _) ?_
            obtain ⟨o15, e16, h⟩ := ob_some h
            refine Ru.vcall (i := 291) (j2 := 132) (as := [vI (o10.2.F 36 9)]) (by decide +kernel) (by rfl) rfl rfl (hp36 _) (by decide) ⟨(Nat.le_of_ble_eq_true rfl), (by show 19 + 3 ≤ 343; exact Nat.le_of_ble_eq_true rfl), Nat.le_of_ble_eq_true rfl, Nat.le_of_ble_eq_true rfl⟩ ((g132_ok e16).up (Nat.le_of_ble_eq_true rfl) (Nat.le_of_ble_eq_true rfl)) ?_
            refine Ru.op (q := (.aload_n 0, 1)) (by decide +kernel) rfl ?_
            refine Ru.get (i := 33) (v := .ref 43) (by decide +kernel) (by rfl) (hp36 _) (by decide) rfl ?_
            refine Ru.op (q := (.aload_n 0, 1)) (by decide +kernel) rfl ?_
            refine Ru.getI (i := 263) (x := (o15.F 36 9)) (by decide +kernel) (by rfl) (hp36 _) (by decide) rfl (eI_of _) ?_
            refine Ru.kI (q := (.iconst 0, 1)) (c := 0) (by decide +kernel) rfl (by decide) ?_
            obtain ⟨g17, h⟩ := gd_some h
            refine Ru.istI (i := (o15.F 36 9)) (x := 0) (by decide +kernel) (hp43 _) g17 (ps_43 _ _ _) ?_
            refine Ru.op (q := (.aload_n 0, 1)) (by decide +kernel) rfl ?_
            refine Ru.get (i := 36) (v := .ref 44) (by decide +kernel) (by rfl) (hp36 _) (by decide) rfl ?_
            refine Ru.op (q := (.aload_n 0, 1)) (by decide +kernel) rfl ?_
            refine Ru.getI (i := 263) (x := (o15.F 36 9)) (by decide +kernel) (by rfl) (hp36 _) (by decide) rfl (eI_of _) ?_
            refine Ru.op (q := (.iload_n 1, 1)) (by decide +kernel) rfl ?_
            refine Ru.istI (i := (o15.F 36 9)) (x := v1) (by decide +kernel) (hp44 _) g17 (ps_44 _ _ _) ?_
            refine Ru.op (q := (.aload_n 0, 1)) (by decide +kernel) rfl ?_
            refine Ru.get (i := 39) (v := .ref 45) (by decide +kernel) (by rfl) (hp36 _) (by decide) rfl ?_
            refine Ru.kI (q := (.iconst 4, 1)) (c := 4) (by decide +kernel) rfl (by decide) ?_
            refine Ru.op (q := (.aload_n 0, 1)) (by decide +kernel) rfl ?_
            refine Ru.getI (i := 263) (x := (o15.F 36 9)) (by decide +kernel) (by rfl) (hp36 _) (by decide) rfl (eI_of _) ?_
            refine Ru.ar2 (i := .imul) (z := (4 * (o15.F 36 9))) (by decide +kernel) rfl (ar_mul _ _) ?_
            refine Ru.op (q := (.iload_n 2, 1)) (by decide +kernel) rfl ?_
            obtain ⟨g18, h⟩ := gd_some h
            refine Ru.istI (i := (4 * (o15.F 36 9))) (x := v2) (by decide +kernel) (hp45 _) g18 (ps_45 _ _ _) ?_
            refine Ru.op (q := (.aload_n 0, 1)) (by decide +kernel) rfl ?_
            refine Ru.get (i := 39) (v := .ref 45) (by decide +kernel) (by rfl) (hp36 _) (by decide) rfl ?_
            refine Ru.kI (q := (.iconst 4, 1)) (c := 4) (by decide +kernel) rfl (by decide) ?_
            refine Ru.op (q := (.aload_n 0, 1)) (by decide +kernel) rfl ?_
            refine Ru.getI (i := 263) (x := (o15.F 36 9)) (by decide +kernel) (by rfl) (hp36 _) (by decide) rfl (eI_of _) ?_
            refine Ru.ar2 (i := .imul) (z := (4 * (o15.F 36 9))) (by decide +kernel) rfl (ar_mul _ _) ?_
            refine Ru.kI (q := (.iconst 1, 1)) (c := 1) (by decide +kernel) rfl (by decide) ?_
            refine Ru.ar2 (i := .iadd) (z := ((4 * (o15.F 36 9)) + 1)) (by decide +kernel) rfl (ar_add _ _) ?_
            refine Ru.op (q := (.iload_n 3, 1)) (by decide +kernel) rfl ?_
            obtain ⟨g19, h⟩ := gd_some h
            refine Ru.istI (i := ((4 * (o15.F 36 9)) + 1)) (x := v3) (by decide +kernel) (hp45 _) g19 (ps_45 _ _ _) ?_
            refine Ru.op (q := (.aload_n 0, 1)) (by decide +kernel) rfl ?_
            refine Ru.get (i := 39) (v := .ref 45) (by decide +kernel) (by rfl) (hp36 _) (by decide) rfl ?_
            refine Ru.kI (q := (.iconst 4, 1)) (c := 4) (by decide +kernel) rfl (by decide) ?_
            refine Ru.op (q := (.aload_n 0, 1)) (by decide +kernel) rfl ?_
            refine Ru.getI (i := 263) (x := (o15.F 36 9)) (by decide +kernel) (by rfl) (hp36 _) (by decide) rfl (eI_of _) ?_
            refine Ru.ar2 (i := .imul) (z := (4 * (o15.F 36 9))) (by decide +kernel) rfl (ar_mul _ _) ?_
            refine Ru.kI (q := (.iconst 2, 1)) (c := 2) (by decide +kernel) rfl (by decide) ?_
            refine Ru.ar2 (i := .iadd) (z := ((4 * (o15.F 36 9)) + 2)) (by decide +kernel) rfl (ar_add _ _) ?_
            refine Ru.op (q := (.iload 4, 2)) (by decide +kernel) rfl ?_
            obtain ⟨g20, h⟩ := gd_some h
            refine Ru.istI (i := ((4 * (o15.F 36 9)) + 2)) (x := v4) (by decide +kernel) (hp45 _) g20 (ps_45 _ _ _) ?_
            refine Ru.op (q := (.aload_n 0, 1)) (by decide +kernel) rfl ?_
            refine Ru.get (i := 39) (v := .ref 45) (by decide +kernel) (by rfl) (hp36 _) (by decide) rfl ?_
            refine Ru.kI (q := (.iconst 4, 1)) (c := 4) (by decide +kernel) rfl (by decide) ?_
            refine Ru.op (q := (.aload_n 0, 1)) (by decide +kernel) rfl ?_
            refine Ru.getI (i := 263) (x := (o15.F 36 9)) (by decide +kernel) (by rfl) (hp36 _) (by decide) rfl (eI_of _) ?_
            refine Ru.ar2 (i := .imul) (z := (4 * (o15.F 36 9))) (by decide +kernel) rfl (ar_mul _ _) ?_
            refine Ru.kI (q := (.iconst 3, 1)) (c := 3) (by decide +kernel) rfl (by decide) ?_
            refine Ru.ar2 (i := .iadd) (z := ((4 * (o15.F 36 9)) + 3)) (by decide +kernel) rfl (ar_add _ _) ?_
            refine Ru.op (q := (.iload 5, 2)) (by decide +kernel) rfl ?_
            obtain ⟨g21, h⟩ := gd_some h
            refine Ru.istI (i := ((4 * (o15.F 36 9)) + 3)) (x := v5) (by decide +kernel) (hp45 _) g21 (ps_45 _ _ _) ?_
            refine Ru.op (q := (.aload_n 0, 1)) (by decide +kernel) rfl ?_
            refine Ru.op (q := (.aload_n 0, 1)) (by decide +kernel) rfl ?_
            refine Ru.get (i := 27) (v := .ref 41) (by decide +kernel) (by rfl) (hp36 _) (by decide) rfl ?_
            refine Ru.op (q := (.aload_n 0, 1)) (by decide +kernel) rfl ?_
            refine Ru.getI (i := 263) (x := (o15.F 36 9)) (by decide +kernel) (by rfl) (hp36 _) (by decide) rfl (eI_of _) ?_
            obtain ⟨g22, h⟩ := gd_some h
            refine Ru.ildI (i := (o15.F 36 9)) (z := (o15.A 41 (o15.F 36 9))) (by decide +kernel) (hp41 _) g22 (eI_of _) ?_
            by_cases b23 : (o15.A 41 (o15.F 36 9)) = 0
            · replace h := if_t b23 h
              refine Ru.br (k := .ne) (off := 10) (bb := false) (tg := 182) (by decide +kernel) (by decide +kernel) (cz (ci_ne0 (inR_to _) (by decide) b23)) rfl ?_
              refine Ru.op (q := (.aload_n 0, 1)) (by decide +kernel) rfl ?_
              refine Ru.getI (i := 263) (x := (o15.F 36 9)) (by decide +kernel) (by rfl) (hp36 _) (by decide) rfl (eI_of _) ?_
              refine Ru.op (q := (.goto 7, 3)) (by decide +kernel) rfl ?_
              refine Ru.putH (i := 42) (by decide +kernel) (by rfl) (hp36 _) (by decide) (Nat.le_of_ble_eq_true rfl) rfl (by decide +kernel) (pf_36_14 _ _) ?_
              refine Ru.op (q := (.aload_n 0, 1)) (by decide +kernel) rfl ?_
              refine Ru.op (q := (.dup, 1)) (by decide +kernel) rfl ?_
              refine Ru.getI (i := 263) (x := (o15.F 36 9)) (by decide +kernel) (by rfl) (hp36 _) (by decide) rfl (eI_of _) ?_
              refine Ru.kI (q := (.iconst 1, 1)) (c := 1) (by decide +kernel) rfl (by decide) ?_
              refine Ru.ar2 (i := .iadd) (z := ((o15.F 36 9) + 1)) (by decide +kernel) rfl (ar_add _ _) ?_
              refine Ru.putH (i := 263) (by decide +kernel) (by rfl) (hp36 _) (by decide) (Nat.le_of_ble_eq_true rfl) rfl (by decide +kernel) (pf_36_9 _ _) ?_
              refine Ru.kI (q := (.iconst 1, 1)) (c := 1) (by decide +kernel) rfl (by decide) ?_
              cases h
              exact Ru.iret (by decide +kernel) rfl (nar_b1 (by decide))
            · replace h := if_f b23 h
              refine Ru.br (k := .ne) (off := 10) (bb := true) (tg := 189) (by decide +kernel) (by decide +kernel) (cz (ci_ne1 (inR_to _) (by decide) b23)) rfl ?_
              refine Ru.op (q := (.aload_n 0, 1)) (by decide +kernel) rfl ?_
              refine Ru.getI (i := 42) (x := (o15.F 36 14)) (by decide +kernel) (by rfl) (hp36 _) (by decide) rfl (eI_of _) ?_
              refine Ru.putH (i := 42) (by decide +kernel) (by rfl) (hp36 _) (by decide) (Nat.le_of_ble_eq_true rfl) rfl (by decide +kernel) (pf_36_14 _ _) ?_
              refine Ru.op (q := (.aload_n 0, 1)) (by decide +kernel) rfl ?_
              refine Ru.op (q := (.dup, 1)) (by decide +kernel) rfl ?_
              refine Ru.getI (i := 263) (x := (o15.F 36 9)) (by decide +kernel) (by rfl) (hp36 _) (by decide) rfl (eI_of _) ?_
              refine Ru.kI (q := (.iconst 1, 1)) (c := 1) (by decide +kernel) rfl (by decide) ?_
              refine Ru.ar2 (i := .iadd) (z := ((o15.F 36 9) + 1)) (by decide +kernel) rfl (ar_add _ _) ?_
              refine Ru.putH (i := 263) (by decide +kernel) (by rfl) (hp36 _) (by decide) (Nat.le_of_ble_eq_true rfl) rfl (by decide +kernel) (pf_36_9 _ _) ?_
              refine Ru.kI (q := (.iconst 1, 1)) (c := 1) (by decide +kernel) rfl (by decide) ?_
              cases h
              exact Ru.iret (by decide +kernel) rfl (nar_b1 (by decide))
        · replace h := if_f b13 h
          refine Ru.br (k := .eq) (off := 15) (bb := false) (tg := 57) (by decide +kernel) (by decide +kernel) (cz (ci_eq0 g12 (by decide) b13)) rfl ?_
          refine Ru.op (q := (.aload_n 0, 1)) (by decide +kernel) rfl ?_
          refine Ru.op (q := (.dup, 1)) (by decide +kernel) rfl ?_
          refine Ru.getI (i := 285) (x := (o10.2.F 36 19)) (by decide +kernel) (by rfl) (hp36 _) (by decide) rfl (eI_of _) ?_
          refine Ru.kI (q := (.iconst 1, 1)) (c := 1) (by decide +kernel) rfl (by decide) ?_
          refine Ru.ar2 (i := .iadd) (z := ((o10.2.F 36 19) + 1)) (by decide +kernel) rfl (ar_add _ _) ?_
          refine Ru.putH (i := 285) (by decide +kernel) (by rfl) (hp36 _) (by decide) (Nat.le_of_ble_eq_true rfl) rfl (by decide +kernel) (pf_36_19 _ _) ?_
          refine Ru.kI (q := (.iconst 0, 1)) (c := 0) (by decide +kernel) rfl (by decide) ?_
          cases h
          exact Ru.iret (by decide +kernel) rfl (nar_b1 (by decide))
      · replace h := if_f b9 h
        refine Ru.br (k := .eq) (off := 15) (bb := false) (tg := 38) (by decide +kernel) (by decide +kernel) (cz (ci_eq0 g8 (by decide) b9)) rfl ?_
        refine Ru.op (q := (.aload_n 0, 1)) (by decide +kernel) rfl ?_
        refine Ru.op (q := (.dup, 1)) (by decide +kernel) rfl ?_
        refine Ru.getI (i := 279) (x := (o1.2.F 36 18)) (by decide +kernel) (by rfl) (hp36 _) (by decide) rfl (eI_of _) ?_
        refine Ru.kI (q := (.iconst 1, 1)) (c := 1) (by decide +kernel) rfl (by decide) ?_
        refine Ru.ar2 (i := .iadd) (z := ((o1.2.F 36 18) + 1)) (by decide +kernel) rfl (ar_add _ _) ?_
        refine Ru.putH (i := 279) (by decide +kernel) (by rfl) (hp36 _) (by decide) (Nat.le_of_ble_eq_true rfl) rfl (by decide +kernel) (pf_36_18 _ _) ?_
        refine Ru.kI (q := (.iconst 0, 1)) (c := 0) (by decide +kernel) rfl (by decide) ?_
        cases h
        exact Ru.iret (by decide +kernel) rfl (nar_b1 (by decide))
