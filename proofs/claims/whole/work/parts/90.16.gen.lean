def g98L151 (v2 : Int) (v3 : Int) (v4 : Int) : Nat → Int → St → Option (St)
  | 0, _, _ => none
  | n + 1, v5, S => gd (inR v5) (if v5 < (S.F 36 24) then gd (ixR ((8 * v4) + v5) 2400) (gd (ixR (S.A 59 ((8 * v4) + v5)) 100) (gd (ixR v5 100) (gd (b1R (S.A 61 (S.A 59 ((8 * v4) + v5)))) (g98L151 v2 v3 v4 n (v5 + 1) ((S.a 48 v5 (S.A 60 (S.A 59 ((8 * v4) + v5)))).a 49 v5 (S.A 61 (S.A 59 ((8 * v4) + v5)))))))) else some S)
set_option maxRecDepth 100000 in
set_option maxHeartbeats 4000000 in
theorem g98L151_ok {v2 : Int} {v3 : Int} {v4 : Int} : ∀ (n : Nat) (v5 : Int) (S : St) (d1 : Option Value) (out : St), g98L151 v2 v3 v4 n v5 S = some out → ∀ r, (∀ (e1 e5 : Option Value), Ru none 18 379 98 (216, [some (.ref 36), e1, some (vI v2), some (vI v3), some (vI v4), e5], [], out.ns, Hp out) r) → Ru none 18 379 98 (151, [some (.ref 36), d1, some (vI v2), some (vI v3), some (vI v4), some (vI v5)], [], S.ns, Hp S) r := by
  intro n
  induction n with
  | zero => intro v5 S d1 out h; cases h
  | succ n ih =>
    intro v5 S d1 out h r hk
    unfold g98L151 at h
    refine Ru.op (q := (.iload 5, 2)) (by decide +kernel) rfl ?_
    refine Ru.op (q := (.aload_n 0, 1)) (by decide +kernel) rfl ?_
    refine Ru.getI (i := 246) (x := (S.F 36 24)) (by decide +kernel) (by rfl) (hp36 _) (by decide) rfl (eI_of _) ?_
    obtain ⟨g13, h⟩ := gd_some h
    by_cases b14 : v5 < (S.F 36 24)
    · replace h := if_t b14 h
      refine Ru.br2 (k := .ge) (off := 59) (bb := false) (tg := 160) (by decide +kernel) (by decide +kernel) (ci_ge0 g13 (inR_to _) b14) rfl ?_
      refine Ru.op (q := (.aload_n 0, 1)) (by decide +kernel) rfl ?_
      refine Ru.get (i := 51) (v := .ref 48) (by decide +kernel) (by rfl) (hp36 _) (by decide) rfl ?_
      refine Ru.op (q := (.iload 5, 2)) (by decide +kernel) rfl ?_
      refine Ru.op (q := (.aload_n 0, 1)) (by decide +kernel) rfl ?_
      refine Ru.get (i := 87) (v := .ref 60) (by decide +kernel) (by rfl) (hp36 _) (by decide) rfl ?_
      refine Ru.op (q := (.aload_n 0, 1)) (by decide +kernel) rfl ?_
      refine Ru.get (i := 84) (v := .ref 59) (by decide +kernel) (by rfl) (hp36 _) (by decide) rfl ?_
      refine Ru.kI (q := (.bipush 8, 2)) (c := 8) (by decide +kernel) rfl (by decide) ?_
      refine Ru.op (q := (.iload 4, 2)) (by decide +kernel) rfl ?_
      refine Ru.ar2 (i := .imul) (z := (8 * v4)) (by decide +kernel) rfl (ar_mul _ _) ?_
      refine Ru.op (q := (.iload 5, 2)) (by decide +kernel) rfl ?_
      refine Ru.ar2 (i := .iadd) (z := ((8 * v4) + v5)) (by decide +kernel) rfl (ar_add _ _) ?_
      obtain ⟨g15, h⟩ := gd_some h
      refine Ru.ildI (i := ((8 * v4) + v5)) (z := (S.A 59 ((8 * v4) + v5))) (by decide +kernel) (hp59 _) g15 (eI_of _) ?_
      obtain ⟨g16, h⟩ := gd_some h
      refine Ru.ildI (i := (S.A 59 ((8 * v4) + v5))) (z := (S.A 60 (S.A 59 ((8 * v4) + v5)))) (by decide +kernel) (hp60 _) g16 (eI_of _) ?_
      obtain ⟨g17, h⟩ := gd_some h
      refine Ru.istI (i := v5) (x := (S.A 60 (S.A 59 ((8 * v4) + v5)))) (by decide +kernel) (hp48 _) g17 (ps_48 _ _ _) ?_
      refine Ru.op (q := (.aload_n 0, 1)) (by decide +kernel) rfl ?_
      refine Ru.get (i := 54) (v := .ref 49) (by decide +kernel) (by rfl) (hp36 _) (by decide) rfl ?_
      refine Ru.op (q := (.iload 5, 2)) (by decide +kernel) rfl ?_
      refine Ru.op (q := (.aload_n 0, 1)) (by decide +kernel) rfl ?_
      refine Ru.get (i := 90) (v := .ref 61) (by decide +kernel) (by rfl) (hp36 _) (by decide) rfl ?_
      refine Ru.op (q := (.aload_n 0, 1)) (by decide +kernel) rfl ?_
      refine Ru.get (i := 84) (v := .ref 59) (by decide +kernel) (by rfl) (hp36 _) (by decide) rfl ?_
      refine Ru.kI (q := (.bipush 8, 2)) (c := 8) (by decide +kernel) rfl (by decide) ?_
      refine Ru.op (q := (.iload 4, 2)) (by decide +kernel) rfl ?_
      refine Ru.ar2 (i := .imul) (z := (8 * v4)) (by decide +kernel) rfl (ar_mul _ _) ?_
      refine Ru.op (q := (.iload 5, 2)) (by decide +kernel) rfl ?_
      refine Ru.ar2 (i := .iadd) (z := ((8 * v4) + v5)) (by decide +kernel) rfl (ar_add _ _) ?_
      refine Ru.ildI (i := ((8 * v4) + v5)) (z := (S.A 59 ((8 * v4) + v5))) (by decide +kernel) (hp59 _) g15 (eI_of _) ?_
      refine Ru.bldI (i := (S.A 59 ((8 * v4) + v5))) (z := (S.A 61 (S.A 59 ((8 * v4) + v5)))) (by decide +kernel) (hp61 _) g16 (eI_of _) ?_
      obtain ⟨g18, h⟩ := gd_some h
      refine Ru.bstI (i := v5) (x := (S.A 61 (S.A 59 ((8 * v4) + v5)))) (by decide +kernel) (hp49 _) g17 g18 (ps_49 _ _ _) ?_
      refine Ru.inc (x := v5) (z := (v5 + 1)) (xs' := [some (.ref 36), d1, some (vI v2), some (vI v3), some (vI v4), some (vI (v5 + 1))]) (by decide +kernel) rfl rfl rfl ?_
      refine Ru.op (q := (.goto (-62), 3)) (by decide +kernel) rfl ?_
      exact ih _ _ _ _ h r hk
    · replace h := if_f b14 h
      refine Ru.br2 (k := .ge) (off := 59) (bb := true) (tg := 216) (by decide +kernel) (by decide +kernel) (ci_ge1 g13 (inR_to _) b14) rfl ?_
      cases h
      exact hk _ _
def g98L124 (v2 : Int) : Nat → Int → Int → St → Option (Int × St)
  | 0, _, _, _ => none
  | n + 1, v3, v4, S => gd (inR v4) (gd (inR v2) (if v4 < v2 then if (S.F 36 15) = 0 then gd (ixR v4 300) (ob (g98L151 v2 v3 v4 FU 0 (S.f 36 24 (S.A 58 v4))) (fun o19 => ob (g118 o19 0 (-1) (-1) (-1) (-1)) (fun o23 => gd (inR o23.1) (if o23.1 = 0 then g98L124 v2 n v3 (v4 + 1) o23.2 else g98L124 v2 n (v3 + 1) (v4 + 1) o23.2)))) else some (v3, S) else some (v3, S)))
set_option maxRecDepth 100000 in
set_option maxHeartbeats 4000000 in
theorem g98L124_ok {v2 : Int} : ∀ (n : Nat) (v3 : Int) (v4 : Int) (S : St) (d1 d5 : Option Value) (out : Int × St), g98L124 v2 n v3 v4 S = some out → ∀ r, (∀ (e0 e1 e2 e4 e5 : Option Value), Ru none 18 379 98 (242, [e0, e1, e2, some (vI out.1), e4, e5], [], out.2.ns, Hp out.2) r) → Ru none 18 379 98 (124, [some (.ref 36), d1, some (vI v2), some (vI v3), some (vI v4), d5], [], S.ns, Hp S) r := by
  intro n
  induction n with
  | zero => intro v3 v4 S d1 d5 out h; cases h
  | succ n ih =>
    intro v3 v4 S d1 d5 out h r hk
    unfold g98L124 at h
    refine Ru.op (q := (.iload 4, 2)) (by decide +kernel) rfl ?_
    refine Ru.op (q := (.iload_n 2, 1)) (by decide +kernel) rfl ?_
    obtain ⟨g8, h⟩ := gd_some h
    obtain ⟨g9, h⟩ := gd_some h
    by_cases b10 : v4 < v2
    · replace h := if_t b10 h
      refine Ru.br2 (k := .ge) (off := 115) (bb := false) (tg := 130) (by decide +kernel) (by decide +kernel) (ci_ge0 g8 g9 b10) rfl ?_
      refine Ru.op (q := (.aload_n 0, 1)) (by decide +kernel) rfl ?_
      refine Ru.getI (i := 288) (x := (S.F 36 15)) (by decide +kernel) (by rfl) (hp36 _) (by decide) rfl (eI_of _) ?_
      by_cases b11 : (S.F 36 15) = 0
      · replace h := if_t b11 h
        refine Ru.br (k := .ne) (off := 108) (bb := false) (tg := 137) (by decide +kernel) (by decide +kernel) (cz (ci_ne0 (inR_to _) (by decide) b11)) rfl ?_
        refine Ru.op (q := (.aload_n 0, 1)) (by decide +kernel) rfl ?_
        refine Ru.op (q := (.aload_n 0, 1)) (by decide +kernel) rfl ?_
        refine Ru.get (i := 81) (v := .ref 58) (by decide +kernel) (by rfl) (hp36 _) (by decide) rfl ?_
        refine Ru.op (q := (.iload 4, 2)) (by decide +kernel) rfl ?_
        obtain ⟨g12, h⟩ := gd_some h
        refine Ru.ildI (i := v4) (z := (S.A 58 v4)) (by decide +kernel) (hp58 _) g12 (eI_of _) ?_
        refine Ru.putH (i := 246) (by decide +kernel) (by rfl) (hp36 _) (by decide) (Nat.le_of_ble_eq_true rfl) rfl (by decide +kernel) (pf_36_24 _ _) ?_
        refine Ru.kI (q := (.iconst 0, 1)) (c := 0) (by decide +kernel) rfl (by decide) ?_
        refine Ru.op (q := (.istore 5, 2)) (S' := (151, [some (.ref 36), d1, some (vI v2), some (vI v3), some (vI v4), some (vI 0)], [], _, _)) (by decide +kernel) rfl ?_
        obtain ⟨o19, e22, h⟩ := ob_some h
        refine g98L151_ok FU _ _ _ _ e22 _ ?_
        intro d20 d21
        refine Ru.op (q := (.aload_n 0, 1)) (by decide +kernel) rfl ?_
        refine Ru.kI (q := (.iconst 0, 1)) (c := 0) (by decide +kernel) rfl (by decide) ?_
        refine Ru.kI (q := (.iconst (-1), 1)) (c := (-1)) (by decide +kernel) rfl (by decide) ?_
        refine Ru.kI (q := (.iconst (-1), 1)) (c := (-1)) (by decide +kernel) rfl (by decide) ?_
        refine Ru.kI (q := (.iconst (-1), 1)) (c := (-1)) (by decide +kernel) rfl (by decide) ?_
        refine Ru.kI (q := (.iconst (-1), 1)) (c := (-1)) (by decide +kernel) rfl (by decide) ?_
        obtain ⟨o23, e24, h⟩ := ob_some h
        refine Ru.vcall (i := 301) (j2 := 118) (as := [vI 0, vI (-1), vI (-1), vI (-1), vI (-1)]) (by decide +kernel) (by rfl) rfl rfl (hp36 _) (by decide) ⟨(Nat.le_of_ble_eq_true rfl), (by show 19 + 6 ≤ 379; exact Nat.le_of_ble_eq_true rfl), Nat.le_of_ble_eq_true rfl, Nat.le_of_ble_eq_true rfl⟩ ((g118_ok e24).up (Nat.le_of_ble_eq_true rfl) (Nat.le_of_ble_eq_true rfl)) ?_
        obtain ⟨g25, h⟩ := gd_some h
        by_cases b26 : o23.1 = 0
        · replace h := if_t b26 h
          refine Ru.br (k := .eq) (off := 9) (bb := true) (tg := 234) (by decide +kernel) (by decide +kernel) (cz (ci_eq1 g25 (by decide) b26)) rfl ?_
          refine Ru.op (q := (.iload_n 3, 1)) (by decide +kernel) rfl ?_
          refine Ru.op (q := (.istore_n 3, 1)) (S' := (236, [some (.ref 36), d20, some (vI v2), some (vI v3), some (vI v4), d21], [], _, _)) (by decide +kernel) rfl ?_
          refine Ru.inc (x := v4) (z := (v4 + 1)) (xs' := [some (.ref 36), d20, some (vI v2), some (vI v3), some (vI (v4 + 1)), d21]) (by decide +kernel) rfl rfl rfl ?_
          refine Ru.op (q := (.goto (-115), 3)) (by decide +kernel) rfl ?_
          exact ih _ _ _ _ _ _ h r hk
        · replace h := if_f b26 h
          refine Ru.br (k := .eq) (off := 9) (bb := false) (tg := 228) (by decide +kernel) (by decide +kernel) (cz (ci_eq0 g25 (by decide) b26)) rfl ?_
          refine Ru.op (q := (.iload_n 3, 1)) (by decide +kernel) rfl ?_
          refine Ru.kI (q := (.iconst 1, 1)) (c := 1) (by decide +kernel) rfl (by decide) ?_
          refine Ru.ar2 (i := .iadd) (z := (v3 + 1)) (by decide +kernel) rfl (ar_add _ _) ?_
          refine Ru.op (q := (.goto 4, 3)) (by decide +kernel) rfl ?_
          refine Ru.op (q := (.istore_n 3, 1)) (S' := (236, [some (.ref 36), d20, some (vI v2), some (vI (v3 + 1)), some (vI v4), d21], [], _, _)) (by decide +kernel) rfl ?_
          refine Ru.inc (x := v4) (z := (v4 + 1)) (xs' := [some (.ref 36), d20, some (vI v2), some (vI (v3 + 1)), some (vI (v4 + 1)), d21]) (by decide +kernel) rfl rfl rfl ?_
          refine Ru.op (q := (.goto (-115), 3)) (by decide +kernel) rfl ?_
          exact ih _ _ _ _ _ _ h r hk
      · replace h := if_f b11 h
        refine Ru.br (k := .ne) (off := 108) (bb := true) (tg := 242) (by decide +kernel) (by decide +kernel) (cz (ci_ne1 (inR_to _) (by decide) b11)) rfl ?_
        cases h
        exact hk _ _ _ _ _
    · replace h := if_f b10 h
      refine Ru.br2 (k := .ge) (off := 115) (bb := true) (tg := 242) (by decide +kernel) (by decide +kernel) (ci_ge1 g8 g9 b10) rfl ?_
      cases h
      exact hk _ _ _ _ _
def g98 (S : St) (v1 : Int) : Option (Int × St) := ob (g99 S) (fun o1 => ob (g101 o1 v1) (fun o3 => if (o3.2.F 36 28) = 0 then if (o3.2.F 36 27) = (o3.2.F 36 2) then if (o3.2.F 36 36) = 0 then ob (g98L124 o3.1 FU 0 0 (((((o3.2.f 36 28 0).f 36 0 0).f 36 1 (-1)).f 36 20 (o3.2.F 36 35)).f 36 2 0)) (fun o27 => some (o27.1, o27.2)) else some (0, (((o3.2.f 36 28 0).f 36 0 2).f 36 1 (o3.2.F 36 1))) else some (0, (((o3.2.f 36 28 1).f 36 0 1).f 36 1 (o3.2.F 36 27))) else some (0, (((o3.2.f 36 28 1).f 36 0 1).f 36 1 (o3.2.F 36 27)))))
set_option maxRecDepth 100000 in
set_option maxHeartbeats 4000000 in
theorem g98_ok {S : St} {v1 : Int} {o : Int × St} (h : g98 S v1 = some o) : Ru none 18 379 98 (0, mn_pad (mn_ent [.ref 36, vI v1]) 6, [], S.ns, Hp S) ((0, some (vI o.1)), o.2.ns, Hp o.2) := by
  unfold g98 at h
  show Ru none 18 379 98 (0, [some (.ref 36), some (vI v1), none, none, none, none], [], S.ns, Hp S) _
  refine Ru.op (q := (.aload_n 0, 1)) (by decide +kernel) rfl ?_
  obtain ⟨o1, e2, h⟩ := ob_some h
  refine Ru.vcall (i := 294) (j2 := 99) (as := []) (by decide +kernel) (by rfl) rfl rfl (hp36 _) (by decide) ⟨(Nat.le_of_ble_eq_true rfl), (by show 19 + 1 ≤ 379; exact Nat.le_of_ble_eq_true rfl), Nat.le_of_ble_eq_true rfl, Nat.le_of_ble_eq_true rfl⟩ ((g99_ok e2).up (Nat.le_of_ble_eq_true rfl) (Nat.le_of_ble_eq_true rfl)) ?_
  refine Ru.op (q := (.aload_n 0, 1)) (by decide +kernel) rfl ?_
  refine Ru.op (q := (.iload_n 1, 1)) (by decide +kernel) rfl ?_
  obtain ⟨o3, e4, h⟩ := ob_some h
  refine Ru.vcall (i := 297) (j2 := 101) (as := [vI v1]) (by decide +kernel) (by rfl) rfl rfl (hp36 _) (by decide) ⟨(Nat.le_of_ble_eq_true rfl), (by show 19 + 7 ≤ 379; exact Nat.le_of_ble_eq_true rfl), Nat.le_of_ble_eq_true rfl, Nat.le_of_ble_eq_true rfl⟩ ((g101_ok e4).up (Nat.le_of_ble_eq_true rfl) (Nat.le_of_ble_eq_true rfl)) ?_
  refine Ru.op (q := (.istore_n 2, 1)) (S' := (10, [some (.ref 36), some (vI v1), some (vI o3.1), none, none, none], [], _, _)) (by decide +kernel) rfl ?_
  refine Ru.op (q := (.aload_n 0, 1)) (by decide +kernel) rfl ?_
  refine Ru.op (q := (.aload_n 0, 1)) (by decide +kernel) rfl ?_
  refine Ru.getI (i := 151) (x := (o3.2.F 36 28)) (by decide +kernel) (by rfl) (hp36 _) (by decide) rfl (eI_of _) ?_
  by_cases b5 : (o3.2.F 36 28) = 0
  · replace h := if_t b5 h
    refine Ru.br (k := .ne) (off := 14) (bb := false) (tg := 18) (by decide +kernel) (by decide +kernel) (cz (ci_ne0 (inR_to _) (by decide) b5)) rfl ?_
    refine Ru.op (q := (.aload_n 0, 1)) (by decide +kernel) rfl ?_
    refine Ru.getI (i := 140) (x := (o3.2.F 36 27)) (by decide +kernel) (by rfl) (hp36 _) (by decide) rfl (eI_of _) ?_
    refine Ru.op (q := (.aload_n 0, 1)) (by decide +kernel) rfl ?_
    refine Ru.getI (i := 129) (x := (o3.2.F 36 2)) (by decide +kernel) (by rfl) (hp36 _) (by decide) rfl (eI_of _) ?_
    by_cases b6 : (o3.2.F 36 27) = (o3.2.F 36 2)
    · replace h := if_t b6 h
      refine Ru.br2 (k := .eq) (off := 7) (bb := true) (tg := 33) (by decide +kernel) (by decide +kernel) (ci_eq1 (inR_to _) (inR_to _) b6) rfl ?_
      refine Ru.kI (q := (.iconst 0, 1)) (c := 0) (by decide +kernel) rfl (by decide) ?_
      refine Ru.putH (i := 151) (by decide +kernel) (by rfl) (hp36 _) (by decide) (Nat.le_of_ble_eq_true rfl) (fk_b (by decide)) (by decide +kernel) (pf_36_28 _ _) ?_
      refine Ru.op (q := (.aload_n 0, 1)) (by decide +kernel) rfl ?_
      refine Ru.op (q := (.aload_n 0, 1)) (by decide +kernel) rfl ?_
      refine Ru.getI (i := 151) (x := 0) (by decide +kernel) (by rfl) (hp36 _) (by decide) rfl rfl ?_
      refine Ru.br (k := .eq) (off := 7) (bb := true) (tg := 49) (by decide +kernel) (by decide +kernel) (by decide) rfl ?_
      refine Ru.op (q := (.aload_n 0, 1)) (by decide +kernel) rfl ?_
      refine Ru.getI (i := 192) (x := (o3.2.F 36 36)) (by decide +kernel) (by rfl) (hp36 _) (by decide) rfl (eI_of _) ?_
      by_cases b7 : (o3.2.F 36 36) = 0
      · replace h := if_t b7 h
        refine Ru.br (k := .eq) (off := 7) (bb := true) (tg := 60) (by decide +kernel) (by decide +kernel) (cz (ci_eq1 (inR_to _) (by decide) b7)) rfl ?_
        refine Ru.kI (q := (.iconst 0, 1)) (c := 0) (by decide +kernel) rfl (by decide) ?_
        refine Ru.putH (i := 120) (by decide +kernel) (by rfl) (hp36 _) (by decide) (Nat.le_of_ble_eq_true rfl) rfl (by decide +kernel) (pf_36_0 _ _) ?_
        refine Ru.op (q := (.aload_n 0, 1)) (by decide +kernel) rfl ?_
        refine Ru.op (q := (.aload_n 0, 1)) (by decide +kernel) rfl ?_
        refine Ru.getI (i := 151) (x := 0) (by decide +kernel) (by rfl) (hp36 _) (by decide) rfl rfl ?_
        refine Ru.br (k := .eq) (off := 10) (bb := true) (tg := 79) (by decide +kernel) (by decide +kernel) (by decide) rfl ?_
        refine Ru.op (q := (.aload_n 0, 1)) (by decide +kernel) rfl ?_
        refine Ru.getI (i := 192) (x := (o3.2.F 36 36)) (by decide +kernel) (by rfl) (hp36 _) (by decide) rfl (eI_of _) ?_
        refine Ru.br (k := .eq) (off := 10) (bb := true) (tg := 93) (by decide +kernel) (by decide +kernel) (cz (ci_eq1 (inR_to _) (by decide) b7)) rfl ?_
        refine Ru.kI (q := (.iconst (-1), 1)) (c := (-1)) (by decide +kernel) rfl (by decide) ?_
        refine Ru.putH (i := 9) (by decide +kernel) (by rfl) (hp36 _) (by decide) (Nat.le_of_ble_eq_true rfl) rfl (by decide +kernel) (pf_36_1 _ _) ?_
        refine Ru.op (q := (.aload_n 0, 1)) (by decide +kernel) rfl ?_
        refine Ru.getI (i := 120) (x := 0) (by decide +kernel) (by rfl) (hp36 _) (by decide) rfl rfl ?_
        refine Ru.br (k := .le) (off := 5) (bb := true) (tg := 106) (by decide +kernel) (by decide +kernel) (by decide) rfl ?_
        refine Ru.op (q := (.aload_n 0, 1)) (by decide +kernel) rfl ?_
        refine Ru.op (q := (.aload_n 0, 1)) (by decide +kernel) rfl ?_
        refine Ru.getI (i := 198) (x := (o3.2.F 36 35)) (by decide +kernel) (by rfl) (hp36 _) (by decide) rfl (eI_of _) ?_
        refine Ru.putH (i := 195) (by decide +kernel) (by rfl) (hp36 _) (by decide) (Nat.le_of_ble_eq_true rfl) rfl (by decide +kernel) (pf_36_20 _ _) ?_
        refine Ru.op (q := (.aload_n 0, 1)) (by decide +kernel) rfl ?_
        refine Ru.kI (q := (.iconst 0, 1)) (c := 0) (by decide +kernel) rfl (by decide) ?_
        refine Ru.putH (i := 129) (by decide +kernel) (by rfl) (hp36 _) (by decide) (Nat.le_of_ble_eq_true rfl) rfl (by decide +kernel) (pf_36_2 _ _) ?_
        refine Ru.kI (q := (.iconst 0, 1)) (c := 0) (by decide +kernel) rfl (by decide) ?_
        refine Ru.op (q := (.istore_n 3, 1)) (S' := (121, [some (.ref 36), some (vI v1), some (vI o3.1), some (vI 0), none, none], [], _, _)) (by decide +kernel) rfl ?_
        refine Ru.kI (q := (.iconst 0, 1)) (c := 0) (by decide +kernel) rfl (by decide) ?_
        refine Ru.op (q := (.istore 4, 2)) (S' := (124, [some (.ref 36), some (vI v1), some (vI o3.1), some (vI 0), some (vI 0), none], [], _, _)) (by decide +kernel) rfl ?_
        obtain ⟨o27, e33, h⟩ := ob_some h
        refine g98L124_ok FU _ _ _ _ _ _ e33 _ ?_
        intro d28 d29 d30 d31 d32
        refine Ru.op (q := (.iload_n 3, 1)) (by decide +kernel) rfl ?_
        cases h
        exact Ru.iret (by decide +kernel) rfl rfl
      · replace h := if_f b7 h
        refine Ru.br (k := .eq) (off := 7) (bb := false) (tg := 56) (by decide +kernel) (by decide +kernel) (cz (ci_eq0 (inR_to _) (by decide) b7)) rfl ?_
        refine Ru.kI (q := (.iconst 2, 1)) (c := 2) (by decide +kernel) rfl (by decide) ?_
        refine Ru.op (q := (.goto 4, 3)) (by decide +kernel) rfl ?_
        refine Ru.putH (i := 120) (by decide +kernel) (by rfl) (hp36 _) (by decide) (Nat.le_of_ble_eq_true rfl) rfl (by decide +kernel) (pf_36_0 _ _) ?_
        refine Ru.op (q := (.aload_n 0, 1)) (by decide +kernel) rfl ?_
        refine Ru.op (q := (.aload_n 0, 1)) (by decide +kernel) rfl ?_
        refine Ru.getI (i := 151) (x := 0) (by decide +kernel) (by rfl) (hp36 _) (by decide) rfl rfl ?_
        refine Ru.br (k := .eq) (off := 10) (bb := true) (tg := 79) (by decide +kernel) (by decide +kernel) (by decide) rfl ?_
        refine Ru.op (q := (.aload_n 0, 1)) (by decide +kernel) rfl ?_
        refine Ru.getI (i := 192) (x := (o3.2.F 36 36)) (by decide +kernel) (by rfl) (hp36 _) (by decide) rfl (eI_of _) ?_
        refine Ru.br (k := .eq) (off := 10) (bb := false) (tg := 86) (by decide +kernel) (by decide +kernel) (cz (ci_eq0 (inR_to _) (by decide) b7)) rfl ?_
        refine Ru.op (q := (.aload_n 0, 1)) (by decide +kernel) rfl ?_
        refine Ru.getI (i := 9) (x := (o3.2.F 36 1)) (by decide +kernel) (by rfl) (hp36 _) (by decide) rfl (eI_of _) ?_
        refine Ru.op (q := (.goto 4, 3)) (by decide +kernel) rfl ?_
        refine Ru.putH (i := 9) (by decide +kernel) (by rfl) (hp36 _) (by decide) (Nat.le_of_ble_eq_true rfl) rfl (by decide +kernel) (pf_36_1 _ _) ?_
        refine Ru.op (q := (.aload_n 0, 1)) (by decide +kernel) rfl ?_
        refine Ru.getI (i := 120) (x := 2) (by decide +kernel) (by rfl) (hp36 _) (by decide) rfl rfl ?_
        refine Ru.br (k := .le) (off := 5) (bb := false) (tg := 104) (by decide +kernel) (by decide +kernel) (by decide) rfl ?_
        refine Ru.kI (q := (.iconst 0, 1)) (c := 0) (by decide +kernel) rfl (by decide) ?_
        cases h
        exact Ru.iret (by decide +kernel) rfl rfl
    · replace h := if_f b6 h
      refine Ru.br2 (k := .eq) (off := 7) (bb := false) (tg := 29) (by decide +kernel) (by decide +kernel) (ci_eq0 (inR_to _) (inR_to _) b6) rfl ?_
      refine Ru.kI (q := (.iconst 1, 1)) (c := 1) (by decide +kernel) rfl (by decide) ?_
      refine Ru.op (q := (.goto 4, 3)) (by decide +kernel) rfl ?_
      refine Ru.putH (i := 151) (by decide +kernel) (by rfl) (hp36 _) (by decide) (Nat.le_of_ble_eq_true rfl) (fk_b (by decide)) (by decide +kernel) (pf_36_28 _ _) ?_
      refine Ru.op (q := (.aload_n 0, 1)) (by decide +kernel) rfl ?_
      refine Ru.op (q := (.aload_n 0, 1)) (by decide +kernel) rfl ?_
      refine Ru.getI (i := 151) (x := 1) (by decide +kernel) (by rfl) (hp36 _) (by decide) rfl rfl ?_
      refine Ru.br (k := .eq) (off := 7) (bb := false) (tg := 45) (by decide +kernel) (by decide +kernel) (by decide) rfl ?_
      refine Ru.kI (q := (.iconst 1, 1)) (c := 1) (by decide +kernel) rfl (by decide) ?_
      refine Ru.op (q := (.goto 15, 3)) (by decide +kernel) rfl ?_
      refine Ru.putH (i := 120) (by decide +kernel) (by rfl) (hp36 _) (by decide) (Nat.le_of_ble_eq_true rfl) rfl (by decide +kernel) (pf_36_0 _ _) ?_
      refine Ru.op (q := (.aload_n 0, 1)) (by decide +kernel) rfl ?_
      refine Ru.op (q := (.aload_n 0, 1)) (by decide +kernel) rfl ?_
      refine Ru.getI (i := 151) (x := 1) (by decide +kernel) (by rfl) (hp36 _) (by decide) rfl rfl ?_
      refine Ru.br (k := .eq) (off := 10) (bb := false) (tg := 72) (by decide +kernel) (by decide +kernel) (by decide) rfl ?_
      refine Ru.op (q := (.aload_n 0, 1)) (by decide +kernel) rfl ?_
      refine Ru.getI (i := 140) (x := (o3.2.F 36 27)) (by decide +kernel) (by rfl) (hp36 _) (by decide) rfl (eI_of _) ?_
      refine Ru.op (q := (.goto 18, 3)) (by decide +kernel) rfl ?_
      refine Ru.putH (i := 9) (by decide +kernel) (by rfl) (hp36 _) (by decide) (Nat.le_of_ble_eq_true rfl) rfl (by decide +kernel) (pf_36_1 _ _) ?_
      refine Ru.op (q := (.aload_n 0, 1)) (by decide +kernel) rfl ?_
      refine Ru.getI (i := 120) (x := 1) (by decide +kernel) (by rfl) (hp36 _) (by decide) rfl rfl ?_
      refine Ru.br (k := .le) (off := 5) (bb := false) (tg := 104) (by decide +kernel) (by decide +kernel) (by decide) rfl ?_
      refine Ru.kI (q := (.iconst 0, 1)) (c := 0) (by decide +kernel) rfl (by decide) ?_
      cases h
      exact Ru.iret (by decide +kernel) rfl rfl
  · replace h := if_f b5 h
    refine Ru.br (k := .ne) (off := 14) (bb := true) (tg := 29) (by decide +kernel) (by decide +kernel) (cz (ci_ne1 (inR_to _) (by decide) b5)) rfl ?_
    refine Ru.kI (q := (.iconst 1, 1)) (c := 1) (by decide +kernel) rfl (by decide) ?_
    refine Ru.op (q := (.goto 4, 3)) (by decide +kernel) rfl ?_
    refine Ru.putH (i := 151) (by decide +kernel) (by rfl) (hp36 _) (by decide) (Nat.le_of_ble_eq_true rfl) (fk_b (by decide)) (by decide +kernel) (pf_36_28 _ _) ?_
    refine Ru.op (q := (.aload_n 0, 1)) (by decide +kernel) rfl ?_
    refine Ru.op (q := (.aload_n 0, 1)) (by decide +kernel) rfl ?_
    refine Ru.getI (i := 151) (x := 1) (by decide +kernel) (by rfl) (hp36 _) (by decide) rfl rfl ?_
    refine Ru.br (k := .eq) (off := 7) (bb := false) (tg := 45) (by decide +kernel) (by decide +kernel) (by decide) rfl ?_
    refine Ru.kI (q := (.iconst 1, 1)) (c := 1) (by decide +kernel) rfl (by decide) ?_
    refine Ru.op (q := (.goto 15, 3)) (by decide +kernel) rfl ?_
    refine Ru.putH (i := 120) (by decide +kernel) (by rfl) (hp36 _) (by decide) (Nat.le_of_ble_eq_true rfl) rfl (by decide +kernel) (pf_36_0 _ _) ?_
    refine Ru.op (q := (.aload_n 0, 1)) (by decide +kernel) rfl ?_
    refine Ru.op (q := (.aload_n 0, 1)) (by decide +kernel) rfl ?_
    refine Ru.getI (i := 151) (x := 1) (by decide +kernel) (by rfl) (hp36 _) (by decide) rfl rfl ?_
    refine Ru.br (k := .eq) (off := 10) (bb := false) (tg := 72) (by decide +kernel) (by decide +kernel) (by decide) rfl ?_
    refine Ru.op (q := (.aload_n 0, 1)) (by decide +kernel) rfl ?_
    refine Ru.getI (i := 140) (x := (o3.2.F 36 27)) (by decide +kernel) (by rfl) (hp36 _) (by decide) rfl (eI_of _) ?_
    refine Ru.op (q := (.goto 18, 3)) (by decide +kernel) rfl ?_
    refine Ru.putH (i := 9) (by decide +kernel) (by rfl) (hp36 _) (by decide) (Nat.le_of_ble_eq_true rfl) rfl (by decide +kernel) (pf_36_1 _ _) ?_
    refine Ru.op (q := (.aload_n 0, 1)) (by decide +kernel) rfl ?_
    refine Ru.getI (i := 120) (x := 1) (by decide +kernel) (by rfl) (hp36 _) (by decide) rfl rfl ?_
    refine Ru.br (k := .le) (off := 5) (bb := false) (tg := 104) (by decide +kernel) (by decide +kernel) (by decide) rfl ?_
    refine Ru.kI (q := (.iconst 0, 1)) (c := 0) (by decide +kernel) rfl (by decide) ?_
    cases h
    exact Ru.iret (by decide +kernel) rfl rfl
def g135L4 (S : St) (v1 : Int) : Nat → Int → Int → Option (Int)
  | 0, _, _ => none
  | n + 1, v2, v3 => gd (inR v3) (if v3 < (S.F 36 9) then gd (ixR v3 100) (gd (inR v1) (if (S.A 43 v3) = v1 then g135L4 S v1 n (v2 + 1) (v3 + 1) else g135L4 S v1 n v2 (v3 + 1))) else some v2)
set_option maxRecDepth 100000 in
set_option maxHeartbeats 4000000 in
theorem g135L4_ok {S : St} {v1 : Int} : ∀ (n : Nat) (v2 : Int) (v3 : Int) (out : Int), g135L4 S v1 n v2 v3 = some out → ∀ r, (∀ (e0 e1 e3 : Option Value), Ru none 10 200 135 (36, [e0, e1, some (vI out), e3], [], S.ns, Hp S) r) → Ru none 10 200 135 (4, [some (.ref 36), some (vI v1), some (vI v2), some (vI v3)], [], S.ns, Hp S) r := by
  intro n
  induction n with
  | zero => intro v2 v3 out h; cases h
  | succ n ih =>
    intro v2 v3 out h r hk
    unfold g135L4 at h
    refine Ru.op (q := (.iload_n 3, 1)) (by decide +kernel) rfl ?_
    refine Ru.op (q := (.aload_n 0, 1)) (by decide +kernel) rfl ?_
    refine Ru.getI (i := 263) (x := (S.F 36 9)) (by decide +kernel) (by rfl) (hp36 _) (by decide) rfl (eI_of _) ?_
    obtain ⟨g1, h⟩ := gd_some h
    by_cases b2 : v3 < (S.F 36 9)
    · replace h := if_t b2 h
      refine Ru.br2 (k := .ge) (off := 27) (bb := false) (tg := 12) (by decide +kernel) (by decide +kernel) (ci_ge0 g1 (inR_to _) b2) rfl ?_
      refine Ru.op (q := (.aload_n 0, 1)) (by decide +kernel) rfl ?_
      refine Ru.get (i := 33) (v := .ref 43) (by decide +kernel) (by rfl) (hp36 _) (by decide) rfl ?_
      refine Ru.op (q := (.iload_n 3, 1)) (by decide +kernel) rfl ?_
      obtain ⟨g3, h⟩ := gd_some h
      refine Ru.ildI (i := v3) (z := (S.A 43 v3)) (by decide +kernel) (hp43 _) g3 (eI_of _) ?_
      refine Ru.op (q := (.iload_n 1, 1)) (by decide +kernel) rfl ?_
      obtain ⟨g4, h⟩ := gd_some h
      by_cases b5 : (S.A 43 v3) = v1
      · replace h := if_t b5 h
        refine Ru.br2 (k := .ne) (off := 9) (bb := false) (tg := 22) (by decide +kernel) (by decide +kernel) (ci_ne0 (inR_to _) g4 b5) rfl ?_
        refine Ru.op (q := (.iload_n 2, 1)) (by decide +kernel) rfl ?_
        refine Ru.kI (q := (.iconst 1, 1)) (c := 1) (by decide +kernel) rfl (by decide) ?_
        refine Ru.ar2 (i := .iadd) (z := (v2 + 1)) (by decide +kernel) rfl (ar_add _ _) ?_
        refine Ru.op (q := (.goto 4, 3)) (by decide +kernel) rfl ?_
        refine Ru.op (q := (.istore_n 2, 1)) (S' := (30, [some (.ref 36), some (vI v1), some (vI (v2 + 1)), some (vI v3)], [], _, _)) (by decide +kernel) rfl ?_
        refine Ru.inc (x := v3) (z := (v3 + 1)) (xs' := [some (.ref 36), some (vI v1), some (vI (v2 + 1)), some (vI (v3 + 1))]) (by decide +kernel) rfl rfl rfl ?_
        refine Ru.op (q := (.goto (-29), 3)) (by decide +kernel) rfl ?_
        exact ih _ _ _ h r hk
      · replace h := if_f b5 h
        refine Ru.br2 (k := .ne) (off := 9) (bb := true) (tg := 28) (by decide +kernel) (by decide +kernel) (ci_ne1 (inR_to _) g4 b5) rfl ?_
        refine Ru.op (q := (.iload_n 2, 1)) (by decide +kernel) rfl ?_
        refine Ru.op (q := (.istore_n 2, 1)) (S' := (30, [some (.ref 36), some (vI v1), some (vI v2), some (vI v3)], [], _, _)) (by decide +kernel) rfl ?_
        refine Ru.inc (x := v3) (z := (v3 + 1)) (xs' := [some (.ref 36), some (vI v1), some (vI v2), some (vI (v3 + 1))]) (by decide +kernel) rfl rfl rfl ?_
        refine Ru.op (q := (.goto (-29), 3)) (by decide +kernel) rfl ?_
        exact ih _ _ _ h r hk
    · replace h := if_f b2 h
      refine Ru.br2 (k := .ge) (off := 27) (bb := true) (tg := 36) (by decide +kernel) (by decide +kernel) (ci_ge1 g1 (inR_to _) b2) rfl ?_
      cases h
      exact hk _ _ _
def g135 (S : St) (v1 : Int) : Option (Int) := ob (g135L4 S v1 FU 0 0) (fun o6 => some o6)
set_option maxRecDepth 100000 in
set_option maxHeartbeats 4000000 in
theorem g135_ok {S : St} {v1 : Int} {o : Int} (h : g135 S v1 = some o) : Ru none 10 200 135 (0, mn_pad (mn_ent [.ref 36, vI v1]) 4, [], S.ns, Hp S) ((0, some (vI o)), S.ns, Hp S) := by
  unfold g135 at h
  show Ru none 10 200 135 (0, [some (.ref 36), some (vI v1), none, none], [], S.ns, Hp S) _
  refine Ru.kI (q := (.iconst 0, 1)) (c := 0) (by decide +kernel) rfl (by decide) ?_
  refine Ru.op (q := (.istore_n 2, 1)) (S' := (2, [some (.ref 36), some (vI v1), some (vI 0), none], [], _, _)) (by decide +kernel) rfl ?_
  refine Ru.kI (q := (.iconst 0, 1)) (c := 0) (by decide +kernel) rfl (by decide) ?_
  refine Ru.op (q := (.istore_n 3, 1)) (S' := (4, [some (.ref 36), some (vI v1), some (vI 0), some (vI 0)], [], _, _)) (by decide +kernel) rfl ?_
  obtain ⟨o6, e10, h⟩ := ob_some h
  refine g135L4_ok FU _ _ _ e10 _ ?_
  intro d7 d8 d9
  refine Ru.op (q := (.iload_n 2, 1)) (by decide +kernel) rfl ?_
  cases h
  exact Ru.iret (by decide +kernel) rfl rfl
def g134 (S : St) : Option (Int) := if (S.F 36 14) < 0 then if (S.F 36 15) = 0 then ob (g135 S 0) (fun o3 => gd (inR o3) (if 0 < o3 then some 0 else if (S.F 36 17) = 0 then some 3 else some 4)) else some 2 else some 1
set_option maxRecDepth 100000 in
set_option maxHeartbeats 4000000 in
theorem g134_ok {S : St} {o : Int} (h : g134 S  = some o) : Ru none 11 223 134 (0, mn_pad (mn_ent [.ref 36]) 1, [], S.ns, Hp S) ((0, some (vI o)), S.ns, Hp S) := by
  unfold g134 at h
  show Ru none 11 223 134 (0, [some (.ref 36)], [], S.ns, Hp S) _
  refine Ru.op (q := (.aload_n 0, 1)) (by decide +kernel) rfl ?_
  refine Ru.getI (i := 42) (x := (S.F 36 14)) (by decide +kernel) (by rfl) (hp36 _) (by decide) rfl (eI_of _) ?_
  by_cases b1 : (S.F 36 14) < 0
  · replace h := if_t b1 h
    refine Ru.br (k := .lt) (off := 5) (bb := true) (tg := 9) (by decide +kernel) (by decide +kernel) (cz (ci_lt1 (inR_to _) (by decide) b1)) rfl ?_
    refine Ru.op (q := (.aload_n 0, 1)) (by decide +kernel) rfl ?_
    refine Ru.getI (i := 288) (x := (S.F 36 15)) (by decide +kernel) (by rfl) (hp36 _) (by decide) rfl (eI_of _) ?_
    by_cases b2 : (S.F 36 15) = 0
    · replace h := if_t b2 h
      refine Ru.br (k := .eq) (off := 7) (bb := true) (tg := 20) (by decide +kernel) (by decide +kernel) (cz (ci_eq1 (inR_to _) (by decide) b2)) rfl ?_
      refine Ru.op (q := (.aload_n 0, 1)) (by decide +kernel) rfl ?_
      refine Ru.kI (q := (.iconst 0, 1)) (c := 0) (by decide +kernel) rfl (by decide) ?_
      obtain ⟨o3, e4, h⟩ := ob_some h
      refine Ru.vcall (i := 305) (j2 := 135) (as := [vI 0]) (by decide +kernel) (by rfl) rfl rfl (hp36 _) (by decide) ⟨(Nat.le_of_ble_eq_true rfl), (by show 19 + 4 ≤ 223; exact Nat.le_of_ble_eq_true rfl), Nat.le_of_ble_eq_true rfl, Nat.le_of_ble_eq_true rfl⟩ ((g135_ok e4).up (Nat.le_of_ble_eq_true rfl) (Nat.le_of_ble_eq_true rfl)) ?_
      obtain ⟨g5, h⟩ := gd_some h
      by_cases b6 : 0 < o3
      · replace h := if_t b6 h
        refine Ru.br (k := .le) (off := 7) (bb := false) (tg := 28) (by decide +kernel) (by decide +kernel) (cz (ci_le0 g5 (by decide) b6)) rfl ?_
        refine Ru.kI (q := (.iconst 0, 1)) (c := 0) (by decide +kernel) rfl (by decide) ?_
        refine Ru.op (q := (.goto 15, 3)) (by decide +kernel) rfl ?_
        cases h
        exact Ru.iret (by decide +kernel) rfl rfl
      · replace h := if_f b6 h
        refine Ru.br (k := .le) (off := 7) (bb := true) (tg := 32) (by decide +kernel) (by decide +kernel) (cz (ci_le1 g5 (by decide) b6)) rfl ?_
        refine Ru.op (q := (.aload_n 0, 1)) (by decide +kernel) rfl ?_
        refine Ru.getI (i := 273) (x := (S.F 36 17)) (by decide +kernel) (by rfl) (hp36 _) (by decide) rfl (eI_of _) ?_
        by_cases b7 : (S.F 36 17) = 0
        · replace h := if_t b7 h
          refine Ru.br (k := .ne) (off := 7) (bb := false) (tg := 39) (by decide +kernel) (by decide +kernel) (cz (ci_ne0 (inR_to _) (by decide) b7)) rfl ?_
          refine Ru.kI (q := (.iconst 3, 1)) (c := 3) (by decide +kernel) rfl (by decide) ?_
          refine Ru.op (q := (.goto 4, 3)) (by decide +kernel) rfl ?_
          cases h
          exact Ru.iret (by decide +kernel) rfl rfl
        · replace h := if_f b7 h
          refine Ru.br (k := .ne) (off := 7) (bb := true) (tg := 43) (by decide +kernel) (by decide +kernel) (cz (ci_ne1 (inR_to _) (by decide) b7)) rfl ?_
          refine Ru.kI (q := (.iconst 4, 1)) (c := 4) (by decide +kernel) rfl (by decide) ?_
          cases h
          exact Ru.iret (by decide +kernel) rfl rfl
    · replace h := if_f b2 h
      refine Ru.br (k := .eq) (off := 7) (bb := false) (tg := 16) (by decide +kernel) (by decide +kernel) (cz (ci_eq0 (inR_to _) (by decide) b2)) rfl ?_
      refine Ru.kI (q := (.iconst 2, 1)) (c := 2) (by decide +kernel) rfl (by decide) ?_
      refine Ru.op (q := (.goto 27, 3)) (by decide +kernel) rfl ?_
      cases h
      exact Ru.iret (by decide +kernel) rfl rfl
  · replace h := if_f b1 h
    refine Ru.br (k := .lt) (off := 5) (bb := false) (tg := 7) (by decide +kernel) (by decide +kernel) (cz (ci_lt0 (inR_to _) (by decide) b1)) rfl ?_
    refine Ru.kI (q := (.iconst 1, 1)) (c := 1) (by decide +kernel) rfl (by decide) ?_
    cases h
    exact Ru.iret (by decide +kernel) rfl rfl
def g133 (S : St) : Option (Int × St) := ob (g134 (S.f 36 0 0)) (fun o1 => some (o1, (S.f 36 0 0)))
set_option maxRecDepth 100000 in
set_option maxHeartbeats 4000000 in
theorem g133_ok {S : St} {o : Int × St} (h : g133 S  = some o) : Ru none 12 243 133 (0, mn_pad (mn_ent [.ref 36]) 1, [], S.ns, Hp S) ((0, some (vI o.1)), o.2.ns, Hp o.2) := by
  unfold g133 at h
  show Ru none 12 243 133 (0, [some (.ref 36)], [], S.ns, Hp S) _
  refine Ru.op (q := (.aload_n 0, 1)) (by decide +kernel) rfl ?_
  refine Ru.kI (q := (.iconst 0, 1)) (c := 0) (by decide +kernel) rfl (by decide) ?_
  refine Ru.putH (i := 120) (by decide +kernel) (by rfl) (hp36 _) (by decide) (Nat.le_of_ble_eq_true rfl) rfl (by decide +kernel) (pf_36_0 _ _) ?_
  refine Ru.op (q := (.aload_n 0, 1)) (by decide +kernel) rfl ?_
  obtain ⟨o1, e2, h⟩ := ob_some h
  refine Ru.vcall (i := 308) (j2 := 134) (as := []) (by decide +kernel) (by rfl) rfl rfl (hp36 _) (by decide) ⟨(Nat.le_of_ble_eq_true rfl), (by show 19 + 1 ≤ 243; exact Nat.le_of_ble_eq_true rfl), Nat.le_of_ble_eq_true rfl, Nat.le_of_ble_eq_true rfl⟩ ((g134_ok e2).up (Nat.le_of_ble_eq_true rfl) (Nat.le_of_ble_eq_true rfl)) ?_
  cases h
  exact Ru.iret (by decide +kernel) rfl rfl
def g138L20 (S : St) (v1 : Int) : Nat → Int → Int → Option (Int)
  | 0, _, _ => none
  | n + 1, v2, v3 => gd (inR v3) (if v3 < (S.F 36 9) then gd (inR v2) (if v2 < 0 then gd (ixR v3 100) (if (S.A 43 v3) = 0 then g138L20 S v1 n v3 (v3 + 1) else g138L20 S v1 n v2 (v3 + 1)) else gd (inR v1) (if v1 = 0 then gd (ixR v3 125) (gd (ixR v2 125) (if (S.A 42 v3) < (S.A 42 v2) then gd (ixR v3 100) (if (S.A 43 v3) = 0 then g138L20 S v1 n v3 (v3 + 1) else g138L20 S v1 n v2 (v3 + 1)) else gd (ixR v3 100) (if (S.A 43 v3) = 0 then g138L20 S v1 n v2 (v3 + 1) else g138L20 S v1 n v2 (v3 + 1)))) else gd (ixR v3 100) (if (S.A 43 v3) = 0 then g138L20 S v1 n v2 (v3 + 1) else g138L20 S v1 n v2 (v3 + 1)))) else some v2)
set_option maxRecDepth 100000 in
set_option maxHeartbeats 4000000 in
theorem g138L20_ok {S : St} {v1 : Int} : ∀ (n : Nat) (v2 : Int) (v3 : Int) (d4 : Option Value) (out : Int), g138L20 S v1 n v2 v3 = some out → ∀ r, (∀ (e0 e1 e3 e4 : Option Value), Ru none 10 200 138 (84, [e0, e1, some (vI out), e3, e4], [], S.ns, Hp S) r) → Ru none 10 200 138 (20, [some (.ref 36), some (vI v1), some (vI v2), some (vI v3), d4], [], S.ns, Hp S) r := by
  intro n
  induction n with
  | zero => intro v2 v3 d4 out h; cases h
  | succ n ih =>
    intro v2 v3 d4 out h r hk
    unfold g138L20 at h
    refine Ru.op (q := (.iload_n 3, 1)) (by decide +kernel) rfl ?_
    refine Ru.op (q := (.aload_n 0, 1)) (by decide +kernel) rfl ?_
    refine Ru.getI (i := 263) (x := (S.F 36 9)) (by decide +kernel) (by rfl) (hp36 _) (by decide) rfl (eI_of _) ?_
    obtain ⟨g4, h⟩ := gd_some h
    by_cases b5 : v3 < (S.F 36 9)
    · replace h := if_t b5 h
      refine Ru.br2 (k := .ge) (off := 59) (bb := false) (tg := 28) (by decide +kernel) (by decide +kernel) (ci_ge0 g4 (inR_to _) b5) rfl ?_
      refine Ru.op (q := (.iload_n 2, 1)) (by decide +kernel) rfl ?_
      obtain ⟨g6, h⟩ := gd_some h
      by_cases b7 : v2 < 0
      · replace h := if_t b7 h
        refine Ru.br (k := .lt) (off := 22) (bb := true) (tg := 51) (by decide +kernel) (by decide +kernel) (cz (ci_lt1 g6 (by decide) b7)) rfl ?_
        refine Ru.kI (q := (.iconst 1, 1)) (c := 1) (by decide +kernel) rfl (by decide) ?_
        refine Ru.op (q := (.goto 4, 3)) (by decide +kernel) rfl ?_
        refine Ru.op (q := (.istore 4, 2)) (S' := (58, [some (.ref 36), some (vI v1), some (vI v2), some (vI v3), some (vI 1)], [], _, _)) (by decide +kernel) rfl ?_
        refine Ru.op (q := (.aload_n 0, 1)) (by decide +kernel) rfl ?_
        refine Ru.get (i := 33) (v := .ref 43) (by decide +kernel) (by rfl) (hp36 _) (by decide) rfl ?_
        refine Ru.op (q := (.iload_n 3, 1)) (by decide +kernel) rfl ?_
        obtain ⟨g8, h⟩ := gd_some h
        refine Ru.ildI (i := v3) (z := (S.A 43 v3)) (by decide +kernel) (hp43 _) g8 (eI_of _) ?_
        by_cases b9 : (S.A 43 v3) = 0
        · replace h := if_t b9 h
          refine Ru.br (k := .ne) (off := 12) (bb := false) (tg := 67) (by decide +kernel) (by decide +kernel) (cz (ci_ne0 (inR_to _) (by decide) b9)) rfl ?_
          refine Ru.op (q := (.iload 4, 2)) (by decide +kernel) rfl ?_
          refine Ru.br (k := .eq) (off := 7) (bb := false) (tg := 72) (by decide +kernel) (by decide +kernel) (by decide) rfl ?_
          refine Ru.op (q := (.iload_n 3, 1)) (by decide +kernel) rfl ?_
          refine Ru.op (q := (.goto 4, 3)) (by decide +kernel) rfl ?_
          refine Ru.op (q := (.istore_n 2, 1)) (S' := (78, [some (.ref 36), some (vI v1), some (vI v3), some (vI v3), some (vI 1)], [], _, _)) (by decide +kernel) rfl ?_
          refine Ru.inc (x := v3) (z := (v3 + 1)) (xs' := [some (.ref 36), some (vI v1), some (vI v3), some (vI (v3 + 1)), some (vI 1)]) (by decide +kernel) rfl rfl rfl ?_
          refine Ru.op (q := (.goto (-61), 3)) (by decide +kernel) rfl ?_
          exact ih _ _ _ _ h r hk
        · replace h := if_f b9 h
          refine Ru.br (k := .ne) (off := 12) (bb := true) (tg := 76) (by decide +kernel) (by decide +kernel) (cz (ci_ne1 (inR_to _) (by decide) b9)) rfl ?_
          refine Ru.op (q := (.iload_n 2, 1)) (by decide +kernel) rfl ?_
          refine Ru.op (q := (.istore_n 2, 1)) (S' := (78, [some (.ref 36), some (vI v1), some (vI v2), some (vI v3), some (vI 1)], [], _, _)) (by decide +kernel) rfl ?_
          refine Ru.inc (x := v3) (z := (v3 + 1)) (xs' := [some (.ref 36), some (vI v1), some (vI v2), some (vI (v3 + 1)), some (vI 1)]) (by decide +kernel) rfl rfl rfl ?_
          refine Ru.op (q := (.goto (-61), 3)) (by decide +kernel) rfl ?_
          exact ih _ _ _ _ h r hk
      · replace h := if_f b7 h
        refine Ru.br (k := .lt) (off := 22) (bb := false) (tg := 32) (by decide +kernel) (by decide +kernel) (cz (ci_lt0 g6 (by decide) b7)) rfl ?_
        refine Ru.op (q := (.iload_n 1, 1)) (by decide +kernel) rfl ?_
        obtain ⟨g10, h⟩ := gd_some h
        by_cases b11 : v1 = 0
        · replace h := if_t b11 h
          refine Ru.br (k := .ne) (off := 22) (bb := false) (tg := 36) (by decide +kernel) (by decide +kernel) (cz (ci_ne0 g10 (by decide) b11)) rfl ?_
          refine Ru.op (q := (.aload_n 0, 1)) (by decide +kernel) rfl ?_
          refine Ru.get (i := 30) (v := .ref 42) (by decide +kernel) (by rfl) (hp36 _) (by decide) rfl ?_
          refine Ru.op (q := (.iload_n 3, 1)) (by decide +kernel) rfl ?_
          obtain ⟨g12, h⟩ := gd_some h
          refine Ru.ildI (i := v3) (z := (S.A 42 v3)) (by decide +kernel) (hp42 _) g12 (eI_of _) ?_
          refine Ru.op (q := (.aload_n 0, 1)) (by decide +kernel) rfl ?_
          refine Ru.get (i := 30) (v := .ref 42) (by decide +kernel) (by rfl) (hp36 _) (by decide) rfl ?_
          refine Ru.op (q := (.iload_n 2, 1)) (by decide +kernel) rfl ?_
          obtain ⟨g13, h⟩ := gd_some h
          refine Ru.ildI (i := v2) (z := (S.A 42 v2)) (by decide +kernel) (hp42 _) g13 (eI_of _) ?_
          by_cases b14 : (S.A 42 v3) < (S.A 42 v2)
          · replace h := if_t b14 h
            refine Ru.br2 (k := .ge) (off := 7) (bb := false) (tg := 51) (by decide +kernel) (by decide +kernel) (ci_ge0 (inR_to _) (inR_to _) b14) rfl ?_
            refine Ru.kI (q := (.iconst 1, 1)) (c := 1) (by decide +kernel) rfl (by decide) ?_
            refine Ru.op (q := (.goto 4, 3)) (by decide +kernel) rfl ?_
            refine Ru.op (q := (.istore 4, 2)) (S' := (58, [some (.ref 36), some (vI v1), some (vI v2), some (vI v3), some (vI 1)], [], _, _)) (by decide +kernel) rfl ?_
            refine Ru.op (q := (.aload_n 0, 1)) (by decide +kernel) rfl ?_
            refine Ru.get (i := 33) (v := .ref 43) (by decide +kernel) (by rfl) (hp36 _) (by decide) rfl ?_
            refine Ru.op (q := (.iload_n 3, 1)) (by decide +kernel) rfl ?_
            obtain ⟨g15, h⟩ := gd_some h
            refine Ru.ildI (i := v3) (z := (S.A 43 v3)) (by decide +kernel) (hp43 _) g15 (eI_of _) ?_
            by_cases b16 : (S.A 43 v3) = 0
            · replace h := if_t b16 h
              refine Ru.br (k := .ne) (off := 12) (bb := false) (tg := 67) (by decide +kernel) (by decide +kernel) (cz (ci_ne0 (inR_to _) (by decide) b16)) rfl ?_
              refine Ru.op (q := (.iload 4, 2)) (by decide +kernel) rfl ?_
              refine Ru.br (k := .eq) (off := 7) (bb := false) (tg := 72) (by decide +kernel) (by decide +kernel) (by decide) rfl ?_
              refine Ru.op (q := (.iload_n 3, 1)) (by decide +kernel) rfl ?_
              refine Ru.op (q := (.goto 4, 3)) (by decide +kernel) rfl ?_
              refine Ru.op (q := (.istore_n 2, 1)) (S' := (78, [some (.ref 36), some (vI v1), some (vI v3), some (vI v3), some (vI 1)], [], _, _)) (by decide +kernel) rfl ?_
              refine Ru.inc (x := v3) (z := (v3 + 1)) (xs' := [some (.ref 36), some (vI v1), some (vI v3), some (vI (v3 + 1)), some (vI 1)]) (by decide +kernel) rfl rfl rfl ?_
              refine Ru.op (q := (.goto (-61), 3)) (by decide +kernel) rfl ?_
              exact ih _ _ _ _ h r hk
            · replace h := if_f b16 h
              refine Ru.br (k := .ne) (off := 12) (bb := true) (tg := 76) (by decide +kernel) (by decide +kernel) (cz (ci_ne1 (inR_to _) (by decide) b16)) rfl ?_
              refine Ru.op (q := (.iload_n 2, 1)) (by decide +kernel) rfl ?_
              refine Ru.op (q := (.istore_n 2, 1)) (S' := (78, [some (.ref 36), some (vI v1), some (vI v2), some (vI v3), some (vI 1)], [], _, _)) (by decide +kernel) rfl ?_
              refine Ru.inc (x := v3) (z := (v3 + 1)) (xs' := [some (.ref 36), some (vI v1), some (vI v2), some (vI (v3 + 1)), some (vI 1)]) (by decide +kernel) rfl rfl rfl ?_
              refine Ru.op (q := (.goto (-61), 3)) (by decide +kernel) rfl ?_
              exact ih _ _ _ _ h r hk
          · replace h := if_f b14 h
            refine Ru.br2 (k := .ge) (off := 7) (bb := true) (tg := 55) (by decide +kernel) (by decide +kernel) (ci_ge1 (inR_to _) (inR_to _) b14) rfl ?_
            refine Ru.kI (q := (.iconst 0, 1)) (c := 0) (by decide +kernel) rfl (by decide) ?_
            refine Ru.op (q := (.istore 4, 2)) (S' := (58, [some (.ref 36), some (vI v1), some (vI v2), some (vI v3), some (vI 0)], [], _, _)) (by decide +kernel) rfl ?_
            refine Ru.op (q := (.aload_n 0, 1)) (by decide +kernel) rfl ?_
            refine Ru.get (i := 33) (v := .ref 43) (by decide +kernel) (by rfl) (hp36 _) (by decide) rfl ?_
            refine Ru.op (q := (.iload_n 3, 1)) (by decide +kernel) rfl ?_
            obtain ⟨g17, h⟩ := gd_some h
            refine Ru.ildI (i := v3) (z := (S.A 43 v3)) (by decide +kernel) (hp43 _) g17 (eI_of _) ?_
            by_cases b18 : (S.A 43 v3) = 0
            · replace h := if_t b18 h
              refine Ru.br (k := .ne) (off := 12) (bb := false) (tg := 67) (by decide +kernel) (by decide +kernel) (cz (ci_ne0 (inR_to _) (by decide) b18)) rfl ?_
              refine Ru.op (q := (.iload 4, 2)) (by decide +kernel) rfl ?_
              refine Ru.br (k := .eq) (off := 7) (bb := true) (tg := 76) (by decide +kernel) (by decide +kernel) (by decide) rfl ?_
              refine Ru.op (q := (.iload_n 2, 1)) (by decide +kernel) rfl ?_
              refine Ru.op (q := (.istore_n 2, 1)) (S' := (78, [some (.ref 36), some (vI v1), some (vI v2), some (vI v3), some (vI 0)], [], _, _)) (by decide +kernel) rfl ?_
              refine Ru.inc (x := v3) (z := (v3 + 1)) (xs' := [some (.ref 36), some (vI v1), some (vI v2), some (vI (v3 + 1)), some (vI 0)]) (by decide +kernel) rfl rfl rfl ?_
              refine Ru.op (q := (.goto (-61), 3)) (by decide +kernel) rfl ?_
              exact ih _ _ _ _ h r hk
            · replace h := if_f b18 h
              refine Ru.br (k := .ne) (off := 12) (bb := true) (tg := 76) (by decide +kernel) (by decide +kernel) (cz (ci_ne1 (inR_to _) (by decide) b18)) rfl ?_
              refine Ru.op (q := (.iload_n 2, 1)) (by decide +kernel) rfl ?_
              refine Ru.op (q := (.istore_n 2, 1)) (S' := (78, [some (.ref 36), some (vI v1), some (vI v2), some (vI v3), some (vI 0)], [], _, _)) (by decide +kernel) rfl ?_
              refine Ru.inc (x := v3) (z := (v3 + 1)) (xs' := [some (.ref 36), some (vI v1), some (vI v2), some (vI (v3 + 1)), some (vI 0)]) (by decide +kernel) rfl rfl rfl ?_
              refine Ru.op (q := (.goto (-61), 3)) (by decide +kernel) rfl ?_
              exact ih _ _ _ _ h r hk
        · replace h := if_f b11 h
          refine Ru.br (k := .ne) (off := 22) (bb := true) (tg := 55) (by decide +kernel) (by decide +kernel) (cz (ci_ne1 g10 (by decide) b11)) rfl ?_
          refine Ru.kI (q := (.iconst 0, 1)) (c := 0) (by decide +kernel) rfl (by decide) ?_
          refine Ru.op (q := (.istore 4, 2)) (S' := (58, [some (.ref 36), some (vI v1), some (vI v2), some (vI v3), some (vI 0)], [], _, _)) (by decide +kernel) rfl ?_
          refine Ru.op (q := (.aload_n 0, 1)) (by decide +kernel) rfl ?_
          refine Ru.get (i := 33) (v := .ref 43) (by decide +kernel) (by rfl) (hp36 _) (by decide) rfl ?_
          refine Ru.op (q := (.iload_n 3, 1)) (by decide +kernel) rfl ?_
          obtain ⟨g19, h⟩ := gd_some h
          refine Ru.ildI (i := v3) (z := (S.A 43 v3)) (by decide +kernel) (hp43 _) g19 (eI_of _) ?_
          by_cases b20 : (S.A 43 v3) = 0
          · replace h := if_t b20 h
            refine Ru.br (k := .ne) (off := 12) (bb := false) (tg := 67) (by decide +kernel) (by decide +kernel) (cz (ci_ne0 (inR_to _) (by decide) b20)) rfl ?_
            refine Ru.op (q := (.iload 4, 2)) (by decide +kernel) rfl ?_
            refine Ru.br (k := .eq) (off := 7) (bb := true) (tg := 76) (by decide +kernel) (by decide +kernel) (by decide) rfl ?_
            refine Ru.op (q := (.iload_n 2, 1)) (by decide +kernel) rfl ?_
            refine Ru.op (q := (.istore_n 2, 1)) (S' := (78, [some (.ref 36), some (vI v1), some (vI v2), some (vI v3), some (vI 0)], [], _, _)) (by decide +kernel) rfl ?_
            refine Ru.inc (x := v3) (z := (v3 + 1)) (xs' := [some (.ref 36), some (vI v1), some (vI v2), some (vI (v3 + 1)), some (vI 0)]) (by decide +kernel) rfl rfl rfl ?_
            refine Ru.op (q := (.goto (-61), 3)) (by decide +kernel) rfl ?_
            exact ih _ _ _ _ h r hk
          · replace h := if_f b20 h
            refine Ru.br (k := .ne) (off := 12) (bb := true) (tg := 76) (by decide +kernel) (by decide +kernel) (cz (ci_ne1 (inR_to _) (by decide) b20)) rfl ?_
            refine Ru.op (q := (.iload_n 2, 1)) (by decide +kernel) rfl ?_
            refine Ru.op (q := (.istore_n 2, 1)) (S' := (78, [some (.ref 36), some (vI v1), some (vI v2), some (vI v3), some (vI 0)], [], _, _)) (by decide +kernel) rfl ?_
            refine Ru.inc (x := v3) (z := (v3 + 1)) (xs' := [some (.ref 36), some (vI v1), some (vI v2), some (vI (v3 + 1)), some (vI 0)]) (by decide +kernel) rfl rfl rfl ?_
            refine Ru.op (q := (.goto (-61), 3)) (by decide +kernel) rfl ?_
            exact ih _ _ _ _ h r hk
    · replace h := if_f b5 h
      refine Ru.br2 (k := .ge) (off := 59) (bb := true) (tg := 84) (by decide +kernel) (by decide +kernel) (ci_ge1 g4 (inR_to _) b5) rfl ?_
      cases h
      exact hk _ _ _ _
def g138 (S : St) : Option (Int) := gd (dvR (S.F 36 16) 4) (gd (inR ((S.F 36 16) % 4)) (if ((S.F 36 16) % 4) = 3 then ob (g138L20 S 1 FU (-1) 0) (fun o21 => some o21) else ob (g138L20 S 0 FU (-1) 0) (fun o27 => some o27)))
set_option maxRecDepth 100000 in
set_option maxHeartbeats 4000000 in
theorem g138_ok {S : St} {o : Int} (h : g138 S  = some o) : Ru none 10 200 138 (0, mn_pad (mn_ent [.ref 36]) 5, [], S.ns, Hp S) ((0, some (vI o)), S.ns, Hp S) := by
  unfold g138 at h
  show Ru none 10 200 138 (0, [some (.ref 36), none, none, none, none], [], S.ns, Hp S) _
  refine Ru.op (q := (.aload_n 0, 1)) (by decide +kernel) rfl ?_
  refine Ru.getI (i := 324) (x := (S.F 36 16)) (by decide +kernel) (by rfl) (hp36 _) (by decide) rfl (eI_of _) ?_
  refine Ru.kI (q := (.iconst 4, 1)) (c := 4) (by decide +kernel) rfl (by decide) ?_
  obtain ⟨g1, h⟩ := gd_some h
  refine Ru.ar2 (i := .irem) (z := ((S.F 36 16) % 4)) (by decide +kernel) rfl (ar_rem g1) ?_
  refine Ru.kI (q := (.iconst 3, 1)) (c := 3) (by decide +kernel) rfl (by decide) ?_
  obtain ⟨g2, h⟩ := gd_some h
  by_cases b3 : ((S.F 36 16) % 4) = 3
  · replace h := if_t b3 h
    refine Ru.br2 (k := .ne) (off := 7) (bb := false) (tg := 10) (by decide +kernel) (by decide +kernel) (ci_ne0 g2 (by decide) b3) rfl ?_
    refine Ru.kI (q := (.iconst 1, 1)) (c := 1) (by decide +kernel) rfl (by decide) ?_
    refine Ru.op (q := (.goto 4, 3)) (by decide +kernel) rfl ?_
    refine Ru.op (q := (.istore_n 1, 1)) (S' := (16, [some (.ref 36), some (vI 1), none, none, none], [], _, _)) (by decide +kernel) rfl ?_
    refine Ru.kI (q := (.iconst (-1), 1)) (c := (-1)) (by decide +kernel) rfl (by decide) ?_
    refine Ru.op (q := (.istore_n 2, 1)) (S' := (18, [some (.ref 36), some (vI 1), some (vI (-1)), none, none], [], _, _)) (by decide +kernel) rfl ?_
    refine Ru.kI (q := (.iconst 0, 1)) (c := 0) (by decide +kernel) rfl (by decide) ?_
    refine Ru.op (q := (.istore_n 3, 1)) (S' := (20, [some (.ref 36), some (vI 1), some (vI (-1)), some (vI 0), none], [], _, _)) (by decide +kernel) rfl ?_
    obtain ⟨o21, e26, h⟩ := ob_some h
    refine g138L20_ok FU _ _ _ _ e26 _ ?_
    intro d22 d23 d24 d25
    refine Ru.op (q := (.iload_n 2, 1)) (by decide +kernel) rfl ?_
    cases h
    exact Ru.iret (by decide +kernel) rfl rfl
  · replace h := if_f b3 h
    refine Ru.br2 (k := .ne) (off := 7) (bb := true) (tg := 14) (by decide +kernel) (by decide +kernel) (ci_ne1 g2 (by decide) b3) rfl ?_
    refine Ru.kI (q := (.iconst 0, 1)) (c := 0) (by decide +kernel) rfl (by decide) ?_
    refine Ru.op (q := (.istore_n 1, 1)) (S' := (16, [some (.ref 36), some (vI 0), none, none, none], [], _, _)) (by decide +kernel) rfl ?_
    refine Ru.kI (q := (.iconst (-1), 1)) (c := (-1)) (by decide +kernel) rfl (by decide) ?_
    refine Ru.op (q := (.istore_n 2, 1)) (S' := (18, [some (.ref 36), some (vI 0), some (vI (-1)), none, none], [], _, _)) (by decide +kernel) rfl ?_
    refine Ru.kI (q := (.iconst 0, 1)) (c := 0) (by decide +kernel) rfl (by decide) ?_
    refine Ru.op (q := (.istore_n 3, 1)) (S' := (20, [some (.ref 36), some (vI 0), some (vI (-1)), some (vI 0), none], [], _, _)) (by decide +kernel) rfl ?_
    obtain ⟨o27, e32, h⟩ := ob_some h
    refine g138L20_ok FU _ _ _ _ e32 _ ?_
    intro d28 d29 d30 d31
    refine Ru.op (q := (.iload_n 2, 1)) (by decide +kernel) rfl ?_
    cases h
    exact Ru.iret (by decide +kernel) rfl rfl
def g139 (S : St) : Option (Int) := if (S.F 36 14) < 0 then if (S.F 36 15) = 0 then some 0 else some 1 else some 1
set_option maxRecDepth 100000 in
set_option maxHeartbeats 4000000 in
theorem g139_ok {S : St} {o : Int} (h : g139 S  = some o) : Ru none 10 200 139 (0, mn_pad (mn_ent [.ref 36]) 1, [], S.ns, Hp S) ((0, some (vI o)), S.ns, Hp S) := by
  unfold g139 at h
  show Ru none 10 200 139 (0, [some (.ref 36)], [], S.ns, Hp S) _
  refine Ru.op (q := (.aload_n 0, 1)) (by decide +kernel) rfl ?_
  refine Ru.getI (i := 42) (x := (S.F 36 14)) (by decide +kernel) (by rfl) (hp36 _) (by decide) rfl (eI_of _) ?_
  by_cases b1 : (S.F 36 14) < 0
  · replace h := if_t b1 h
    refine Ru.br (k := .ge) (off := 10) (bb := false) (tg := 7) (by decide +kernel) (by decide +kernel) (cz (ci_ge0 (inR_to _) (by decide) b1)) rfl ?_
    refine Ru.op (q := (.aload_n 0, 1)) (by decide +kernel) rfl ?_
    refine Ru.getI (i := 288) (x := (S.F 36 15)) (by decide +kernel) (by rfl) (hp36 _) (by decide) rfl (eI_of _) ?_
    by_cases b2 : (S.F 36 15) = 0
    · replace h := if_t b2 h
      refine Ru.br (k := .eq) (off := 7) (bb := true) (tg := 18) (by decide +kernel) (by decide +kernel) (cz (ci_eq1 (inR_to _) (by decide) b2)) rfl ?_
      refine Ru.kI (q := (.iconst 0, 1)) (c := 0) (by decide +kernel) rfl (by decide) ?_
      cases h
      exact Ru.iret (by decide +kernel) rfl (nar_b1 (by decide))
    · replace h := if_f b2 h
      refine Ru.br (k := .eq) (off := 7) (bb := false) (tg := 14) (by decide +kernel) (by decide +kernel) (cz (ci_eq0 (inR_to _) (by decide) b2)) rfl ?_
      refine Ru.kI (q := (.iconst 1, 1)) (c := 1) (by decide +kernel) rfl (by decide) ?_
      refine Ru.op (q := (.goto 4, 3)) (by decide +kernel) rfl ?_
      cases h
      exact Ru.iret (by decide +kernel) rfl (nar_b1 (by decide))
  · replace h := if_f b1 h
    refine Ru.br (k := .ge) (off := 10) (bb := true) (tg := 14) (by decide +kernel) (by decide +kernel) (cz (ci_ge1 (inR_to _) (by decide) b1)) rfl ?_
    refine Ru.kI (q := (.iconst 1, 1)) (c := 1) (by decide +kernel) rfl (by decide) ?_
    refine Ru.op (q := (.goto 4, 3)) (by decide +kernel) rfl ?_
    cases h
    exact Ru.iret (by decide +kernel) rfl (nar_b1 (by decide))
def g141L2 (v1 : Int) (v2 : Int) : Nat → Int → St → Option (St)
  | 0, _, _ => none
  | n + 1, v3, S => gd (ixR v1 125) (gd (inR v3) (if v3 < (S.A 42 v1) then gd (ixR ((64 * v1) + v3) 8032) (ob (g122 S (S.A 38 ((64 * v1) + v3))) (fun o5 => gd (inR o5) (if o5 = 0 then gd (ixR (v2 + v3) 1024) (g141L2 v1 v2 n (v3 + 1) (S.a 46 (v2 + v3) (S.A 38 ((64 * v1) + v3)))) else gd (ixR (v2 + v3) 1024) (g141L2 v1 v2 n (v3 + 1) (S.a 46 (v2 + v3) ((S.A 38 ((64 * v1) + v3)) + v2)))))) else some S))
set_option maxRecDepth 100000 in
set_option maxHeartbeats 4000000 in
theorem g141L2_ok {v1 : Int} {v2 : Int} : ∀ (n : Nat) (v3 : Int) (S : St) (d4 : Option Value) (out : St), g141L2 v1 v2 n v3 S = some out → ∀ r, (∀ (e0 e1 e2 e3 e4 : Option Value), Ru none 11 220 141 (56, [e0, e1, e2, e3, e4], [], out.ns, Hp out) r) → Ru none 11 220 141 (2, [some (.ref 36), some (vI v1), some (vI v2), some (vI v3), d4], [], S.ns, Hp S) r := by
  intro n
  induction n with
  | zero => intro v3 S d4 out h; cases h
  | succ n ih =>
    intro v3 S d4 out h r hk
    unfold g141L2 at h
    refine Ru.op (q := (.iload_n 3, 1)) (by decide +kernel) rfl ?_
    refine Ru.op (q := (.aload_n 0, 1)) (by decide +kernel) rfl ?_
    refine Ru.get (i := 30) (v := .ref 42) (by decide +kernel) (by rfl) (hp36 _) (by decide) rfl ?_
    refine Ru.op (q := (.iload_n 1, 1)) (by decide +kernel) rfl ?_
    obtain ⟨g1, h⟩ := gd_some h
    refine Ru.ildI (i := v1) (z := (S.A 42 v1)) (by decide +kernel) (hp42 _) g1 (eI_of _) ?_
    obtain ⟨g2, h⟩ := gd_some h
    by_cases b3 : v3 < (S.A 42 v1)
    · replace h := if_t b3 h
      refine Ru.br2 (k := .ge) (off := 47) (bb := false) (tg := 12) (by decide +kernel) (by decide +kernel) (ci_ge0 g2 (inR_to _) b3) rfl ?_
      refine Ru.op (q := (.aload_n 0, 1)) (by decide +kernel) rfl ?_
      refine Ru.get (i := 17) (v := .ref 38) (by decide +kernel) (by rfl) (hp36 _) (by decide) rfl ?_
      refine Ru.kI (q := (.bipush 64, 2)) (c := 64) (by decide +kernel) rfl (by decide) ?_
      refine Ru.op (q := (.iload_n 1, 1)) (by decide +kernel) rfl ?_
      refine Ru.ar2 (i := .imul) (z := (64 * v1)) (by decide +kernel) rfl (ar_mul _ _) ?_
      refine Ru.op (q := (.iload_n 3, 1)) (by decide +kernel) rfl ?_
      refine Ru.ar2 (i := .iadd) (z := ((64 * v1) + v3)) (by decide +kernel) rfl (ar_add _ _) ?_
      obtain ⟨g4, h⟩ := gd_some h
      refine Ru.ildI (i := ((64 * v1) + v3)) (z := (S.A 38 ((64 * v1) + v3))) (by decide +kernel) (hp38 _) g4 (eI_of _) ?_
      refine Ru.op (q := (.istore 4, 2)) (S' := (25, [some (.ref 36), some (vI v1), some (vI v2), some (vI v3), some (vI (S.A 38 ((64 * v1) + v3)))], [], _, _)) (by decide +kernel) rfl ?_
      refine Ru.op (q := (.aload_n 0, 1)) (by decide +kernel) rfl ?_
      refine Ru.get (i := 45) (v := .ref 46) (by decide +kernel) (by rfl) (hp36 _) (by decide) rfl ?_
      refine Ru.op (q := (.iload_n 2, 1)) (by decide +kernel) rfl ?_
      refine Ru.op (q := (.iload_n 3, 1)) (by decide +kernel) rfl ?_
      refine Ru.ar2 (i := .iadd) (z := (v2 + v3)) (by decide +kernel) rfl (ar_add _ _) ?_
      refine Ru.op (q := (.iload 4, 2)) (by decide +kernel) rfl ?_
      obtain ⟨o5, e6, h⟩ := ob_some h
      refine Ru.call (q := (.invokestatic 132, 3)) (j2 := 122) (as := [vI (S.A 38 ((64 * v1) + v3))]) (by decide +kernel) rfl rfl rfl rfl ⟨(Nat.le_of_ble_eq_true rfl), (by show 19 + 1 ≤ 220; exact Nat.le_of_ble_eq_true rfl), Nat.le_of_ble_eq_true rfl, Nat.le_of_ble_eq_true rfl⟩ ((g122_ok e6).up (Nat.le_of_ble_eq_true rfl) (Nat.le_of_ble_eq_true rfl)) ?_
      obtain ⟨g7, h⟩ := gd_some h
      by_cases b8 : o5 = 0
      · replace h := if_t b8 h
        refine Ru.br (k := .eq) (off := 10) (bb := true) (tg := 47) (by decide +kernel) (by decide +kernel) (cz (ci_eq1 g7 (by decide) b8)) rfl ?_
        refine Ru.op (q := (.iload 4, 2)) (by decide +kernel) rfl ?_
        obtain ⟨g9, h⟩ := gd_some h
        refine Ru.istI (i := (v2 + v3)) (x := (S.A 38 ((64 * v1) + v3))) (by decide +kernel) (hp46 _) g9 (ps_46 _ _ _) ?_
        refine Ru.inc (x := v3) (z := (v3 + 1)) (xs' := [some (.ref 36), some (vI v1), some (vI v2), some (vI (v3 + 1)), some (vI (S.A 38 ((64 * v1) + v3)))]) (by decide +kernel) rfl rfl rfl ?_
        refine Ru.op (q := (.goto (-51), 3)) (by decide +kernel) rfl ?_
        exact ih _ _ _ _ h r hk
      · replace h := if_f b8 h
        refine Ru.br (k := .eq) (off := 10) (bb := false) (tg := 40) (by decide +kernel) (by decide +kernel) (cz (ci_eq0 g7 (by decide) b8)) rfl ?_
        refine Ru.op (q := (.iload 4, 2)) (by decide +kernel) rfl ?_
        refine Ru.op (q := (.iload_n 2, 1)) (by decide +kernel) rfl ?_
        refine Ru.ar2 (i := .iadd) (z := ((S.A 38 ((64 * v1) + v3)) + v2)) (by decide +kernel) rfl (ar_add _ _) ?_
        refine Ru.op (q := (.goto 5, 3)) (by decide +kernel) rfl ?_
        obtain ⟨g10, h⟩ := gd_some h
        refine Ru.istI (i := (v2 + v3)) (x := ((S.A 38 ((64 * v1) + v3)) + v2)) (by decide +kernel) (hp46 _) g10 (ps_46 _ _ _) ?_
        refine Ru.inc (x := v3) (z := (v3 + 1)) (xs' := [some (.ref 36), some (vI v1), some (vI v2), some (vI (v3 + 1)), some (vI (S.A 38 ((64 * v1) + v3)))]) (by decide +kernel) rfl rfl rfl ?_
        refine Ru.op (q := (.goto (-51), 3)) (by decide +kernel) rfl ?_
        exact ih _ _ _ _ h r hk
    · replace h := if_f b3 h
      refine Ru.br2 (k := .ge) (off := 47) (bb := true) (tg := 56) (by decide +kernel) (by decide +kernel) (ci_ge1 g2 (inR_to _) b3) rfl ?_
      cases h
      exact hk _ _ _ _ _
def g141 (S : St) (v1 : Int) (v2 : Int) : Option (St) := ob (g141L2 v1 v2 FU 0 S) (fun o11 => some o11)
set_option maxRecDepth 100000 in
set_option maxHeartbeats 4000000 in
theorem g141_ok {S : St} {v1 : Int} {v2 : Int} {o : St} (h : g141 S v1 v2 = some o) : Ru none 11 220 141 (0, mn_pad (mn_ent [.ref 36, vI v1, vI v2]) 5, [], S.ns, Hp S) ((0, none), o.ns, Hp o) := by
  unfold g141 at h
  show Ru none 11 220 141 (0, [some (.ref 36), some (vI v1), some (vI v2), none, none], [], S.ns, Hp S) _
  refine Ru.kI (q := (.iconst 0, 1)) (c := 0) (by decide +kernel) rfl (by decide) ?_
  refine Ru.op (q := (.istore_n 3, 1)) (S' := (2, [some (.ref 36), some (vI v1), some (vI v2), some (vI 0), none], [], _, _)) (by decide +kernel) rfl ?_
  obtain ⟨o11, e17, h⟩ := ob_some h
  refine g141L2_ok FU _ _ _ _ e17 _ ?_
  intro d12 d13 d14 d15 d16
  cases h
  exact Ru.end (q := (.return_, 1)) (by decide +kernel) rfl rfl
def g143 (S : St) (v1 : Int) (v2 : Int) (v3 : Int) : Option (Int) := gd (ixR ((4 * v1) + v2) 504) (some (((S.A 39 ((4 * v1) + v2)) - (64 * v1)) + v3))
set_option maxRecDepth 100000 in
set_option maxHeartbeats 4000000 in
theorem g143_ok {S : St} {v1 : Int} {v2 : Int} {v3 : Int} {o : Int} (h : g143 S v1 v2 v3 = some o) : Ru none 10 200 143 (0, mn_pad (mn_ent [.ref 36, vI v1, vI v2, vI v3]) 4, [], S.ns, Hp S) ((0, some (vI o)), S.ns, Hp S) := by
  unfold g143 at h
  show Ru none 10 200 143 (0, [some (.ref 36), some (vI v1), some (vI v2), some (vI v3)], [], S.ns, Hp S) _
  refine Ru.op (q := (.aload_n 0, 1)) (by decide +kernel) rfl ?_
  refine Ru.get (i := 20) (v := .ref 39) (by decide +kernel) (by rfl) (hp36 _) (by decide) rfl ?_
  refine Ru.kI (q := (.iconst 4, 1)) (c := 4) (by decide +kernel) rfl (by decide) ?_
  refine Ru.op (q := (.iload_n 1, 1)) (by decide +kernel) rfl ?_
  refine Ru.ar2 (i := .imul) (z := (4 * v1)) (by decide +kernel) rfl (ar_mul _ _) ?_
  refine Ru.op (q := (.iload_n 2, 1)) (by decide +kernel) rfl ?_
  refine Ru.ar2 (i := .iadd) (z := ((4 * v1) + v2)) (by decide +kernel) rfl (ar_add _ _) ?_
  obtain ⟨g1, h⟩ := gd_some h
  refine Ru.ildI (i := ((4 * v1) + v2)) (z := (S.A 39 ((4 * v1) + v2))) (by decide +kernel) (hp39 _) g1 (eI_of _) ?_
  refine Ru.kI (q := (.bipush 64, 2)) (c := 64) (by decide +kernel) rfl (by decide) ?_
  refine Ru.op (q := (.iload_n 1, 1)) (by decide +kernel) rfl ?_
  refine Ru.ar2 (i := .imul) (z := (64 * v1)) (by decide +kernel) rfl (ar_mul _ _) ?_
  refine Ru.ar2 (i := .isub) (z := ((S.A 39 ((4 * v1) + v2)) - (64 * v1))) (by decide +kernel) rfl (ar_sub _ _) ?_
  refine Ru.op (q := (.iload_n 3, 1)) (by decide +kernel) rfl ?_
  refine Ru.ar2 (i := .iadd) (z := (((S.A 39 ((4 * v1) + v2)) - (64 * v1)) + v3)) (by decide +kernel) rfl (ar_add _ _) ?_
  cases h
  exact Ru.iret (by decide +kernel) rfl rfl
def g142L3 (v1 : Int) (v2 : Int) (v3 : Int) : Nat → Int → St → Option (St)
  | 0, _, _ => none
  | n + 1, v4, S => gd (ixR v1 125) (gd (inR v4) (if v4 < (S.A 41 v1) then gd (inR v2) (if v4 = v2 then g142L3 v1 v2 v3 n (v4 + 1) S else ob (g143 S v1 v4 v3) (fun o6 => gd (ixR (S.F 36 24) 100) (gd (ixR ((4 * v1) + v4) 504) (gd (b1R (S.A 40 ((4 * v1) + v4))) (g142L3 v1 v2 v3 n (v4 + 1) (((S.a 48 (S.F 36 24) o6).a 49 (S.F 36 24) (S.A 40 ((4 * v1) + v4))).f 36 24 ((S.F 36 24) + 1))))))) else some S))
set_option maxRecDepth 100000 in
set_option maxHeartbeats 4000000 in
theorem g142L3_ok {v1 : Int} {v2 : Int} {v3 : Int} : ∀ (n : Nat) (v4 : Int) (S : St) (out : St), g142L3 v1 v2 v3 n v4 S = some out → ∀ r, (∀ (e0 e1 e2 e3 e4 : Option Value), Ru none 11 223 142 (73, [e0, e1, e2, e3, e4], [], out.ns, Hp out) r) → Ru none 11 223 142 (3, [some (.ref 36), some (vI v1), some (vI v2), some (vI v3), some (vI v4)], [], S.ns, Hp S) r := by
  intro n
  induction n with
  | zero => intro v4 S out h; cases h
  | succ n ih =>
    intro v4 S out h r hk
    unfold g142L3 at h
    refine Ru.op (q := (.iload 4, 2)) (by decide +kernel) rfl ?_
    refine Ru.op (q := (.aload_n 0, 1)) (by decide +kernel) rfl ?_
    refine Ru.get (i := 27) (v := .ref 41) (by decide +kernel) (by rfl) (hp36 _) (by decide) rfl ?_
    refine Ru.op (q := (.iload_n 1, 1)) (by decide +kernel) rfl ?_
    obtain ⟨g1, h⟩ := gd_some h
    refine Ru.ildI (i := v1) (z := (S.A 41 v1)) (by decide +kernel) (hp41 _) g1 (eI_of _) ?_
    obtain ⟨g2, h⟩ := gd_some h
    by_cases b3 : v4 < (S.A 41 v1)
    · replace h := if_t b3 h
      refine Ru.br2 (k := .ge) (off := 62) (bb := false) (tg := 14) (by decide +kernel) (by decide +kernel) (ci_ge0 g2 (inR_to _) b3) rfl ?_
      refine Ru.op (q := (.iload 4, 2)) (by decide +kernel) rfl ?_
      refine Ru.op (q := (.iload_n 2, 1)) (by decide +kernel) rfl ?_
      obtain ⟨g4, h⟩ := gd_some h
      by_cases b5 : v4 = v2
      · replace h := if_t b5 h
        refine Ru.br2 (k := .eq) (off := 50) (bb := true) (tg := 67) (by decide +kernel) (by decide +kernel) (ci_eq1 g2 g4 b5) rfl ?_
        refine Ru.inc (x := v4) (z := (v4 + 1)) (xs' := [some (.ref 36), some (vI v1), some (vI v2), some (vI v3), some (vI (v4 + 1))]) (by decide +kernel) rfl rfl rfl ?_
        refine Ru.op (q := (.goto (-67), 3)) (by decide +kernel) rfl ?_
        exact ih _ _ _ h r hk
      · replace h := if_f b5 h
        refine Ru.br2 (k := .eq) (off := 50) (bb := false) (tg := 20) (by decide +kernel) (by decide +kernel) (ci_eq0 g2 g4 b5) rfl ?_
        refine Ru.op (q := (.aload_n 0, 1)) (by decide +kernel) rfl ?_
        refine Ru.get (i := 51) (v := .ref 48) (by decide +kernel) (by rfl) (hp36 _) (by decide) rfl ?_
        refine Ru.op (q := (.aload_n 0, 1)) (by decide +kernel) rfl ?_
        refine Ru.getI (i := 246) (x := (S.F 36 24)) (by decide +kernel) (by rfl) (hp36 _) (by decide) rfl (eI_of _) ?_
        refine Ru.op (q := (.aload_n 0, 1)) (by decide +kernel) rfl ?_
        refine Ru.op (q := (.iload_n 1, 1)) (by decide +kernel) rfl ?_
        refine Ru.op (q := (.iload 4, 2)) (by decide +kernel) rfl ?_
        refine Ru.op (q := (.iload_n 3, 1)) (by decide +kernel) rfl ?_
        obtain ⟨o6, e7, h⟩ := ob_some h
        refine Ru.vcall (i := 311) (j2 := 143) (as := [vI v1, vI v4, vI v3]) (by decide +kernel) (by rfl) rfl rfl (hp36 _) (by decide) ⟨(Nat.le_of_ble_eq_true rfl), (by show 19 + 4 ≤ 223; exact Nat.le_of_ble_eq_true rfl), Nat.le_of_ble_eq_true rfl, Nat.le_of_ble_eq_true rfl⟩ ((g143_ok e7).up (Nat.le_of_ble_eq_true rfl) (Nat.le_of_ble_eq_true rfl)) ?_
        obtain ⟨g8, h⟩ := gd_some h
        refine Ru.istI (i := (S.F 36 24)) (x := o6) (by decide +kernel) (hp48 _) g8 (ps_48 _ _ _) ?_
        refine Ru.op (q := (.aload_n 0, 1)) (by decide +kernel) rfl ?_
        refine Ru.get (i := 54) (v := .ref 49) (by decide +kernel) (by rfl) (hp36 _) (by decide) rfl ?_
        refine Ru.op (q := (.aload_n 0, 1)) (by decide +kernel) rfl ?_
        refine Ru.getI (i := 246) (x := (S.F 36 24)) (by decide +kernel) (by rfl) (hp36 _) (by decide) rfl (eI_of _) ?_
        refine Ru.op (q := (.aload_n 0, 1)) (by decide +kernel) rfl ?_
        refine Ru.get (i := 23) (v := .ref 40) (by decide +kernel) (by rfl) (hp36 _) (by decide) rfl ?_
        refine Ru.kI (q := (.iconst 4, 1)) (c := 4) (by decide +kernel) rfl (by decide) ?_
        refine Ru.op (q := (.iload_n 1, 1)) (by decide +kernel) rfl ?_
        refine Ru.ar2 (i := .imul) (z := (4 * v1)) (by decide +kernel) rfl (ar_mul _ _) ?_
        refine Ru.op (q := (.iload 4, 2)) (by decide +kernel) rfl ?_
        refine Ru.ar2 (i := .iadd) (z := ((4 * v1) + v4)) (by decide +kernel) rfl (ar_add _ _) ?_
        obtain ⟨g9, h⟩ := gd_some h
        refine Ru.bldI (i := ((4 * v1) + v4)) (z := (S.A 40 ((4 * v1) + v4))) (by decide +kernel) (hp40 _) g9 (eI_of _) ?_
        obtain ⟨g10, h⟩ := gd_some h
        refine Ru.bstI (i := (S.F 36 24)) (x := (S.A 40 ((4 * v1) + v4))) (by decide +kernel) (hp49 _) g8 g10 (ps_49 _ _ _) ?_
        refine Ru.op (q := (.aload_n 0, 1)) (by decide +kernel) rfl ?_
        refine Ru.op (q := (.dup, 1)) (by decide +kernel) rfl ?_
        refine Ru.getI (i := 246) (x := (S.F 36 24)) (by decide +kernel) (by rfl) (hp36 _) (by decide) rfl (eI_of _) ?_
        refine Ru.kI (q := (.iconst 1, 1)) (c := 1) (by decide +kernel) rfl (by decide) ?_
        refine Ru.ar2 (i := .iadd) (z := ((S.F 36 24) + 1)) (by decide +kernel) rfl (ar_add _ _) ?_
        refine Ru.putH (i := 246) (by decide +kernel) (by rfl) (hp36 _) (by decide) (Nat.le_of_ble_eq_true rfl) rfl (by decide +kernel) (pf_36_24 _ _) ?_
        refine Ru.inc (x := v4) (z := (v4 + 1)) (xs' := [some (.ref 36), some (vI v1), some (vI v2), some (vI v3), some (vI (v4 + 1))]) (by decide +kernel) rfl rfl rfl ?_
        refine Ru.op (q := (.goto (-67), 3)) (by decide +kernel) rfl ?_
        exact ih _ _ _ h r hk
    · replace h := if_f b3 h
      refine Ru.br2 (k := .ge) (off := 62) (bb := true) (tg := 73) (by decide +kernel) (by decide +kernel) (ci_ge1 g2 (inR_to _) b3) rfl ?_
      cases h
      exact hk _ _ _ _ _
def g142 (S : St) (v1 : Int) (v2 : Int) (v3 : Int) : Option (St) := ob (g142L3 v1 v2 v3 FU 0 S) (fun o11 => some o11)
set_option maxRecDepth 100000 in
set_option maxHeartbeats 4000000 in
theorem g142_ok {S : St} {v1 : Int} {v2 : Int} {v3 : Int} {o : St} (h : g142 S v1 v2 v3 = some o) : Ru none 11 223 142 (0, mn_pad (mn_ent [.ref 36, vI v1, vI v2, vI v3]) 5, [], S.ns, Hp S) ((0, none), o.ns, Hp o) := by
  unfold g142 at h
  show Ru none 11 223 142 (0, [some (.ref 36), some (vI v1), some (vI v2), some (vI v3), none], [], S.ns, Hp S) _
  refine Ru.kI (q := (.iconst 0, 1)) (c := 0) (by decide +kernel) rfl (by decide) ?_
  refine Ru.op (q := (.istore 4, 2)) (S' := (3, [some (.ref 36), some (vI v1), some (vI v2), some (vI v3), some (vI 0)], [], _, _)) (by decide +kernel) rfl ?_
  obtain ⟨o11, e17, h⟩ := ob_some h
  refine g142L3_ok FU _ _ _ e17 _ ?_
  intro d12 d13 d14 d15 d16
  cases h
  exact Ru.end (q := (.return_, 1)) (by decide +kernel) rfl rfl
def g145L44 (v1 : Int) (v4 : Int) : Nat → Int → Int → St → Option (Int × St)
  | 0, _, _, _ => none
  | n + 1, v3, v5, S => gd (ixR v4 1024) (ob (g123 S (S.A 46 v4)) (fun o10 => gd (inR v5) (gd (inR o10) (if v5 < o10 then ob (g124 S v4 v5) (fun o15 => gd (ixR (v3 + 1) 640) (g145L44 v1 v4 n (v3 + 1) (v5 + 1) (S.a 65 (v3 + 1) o15))) else some (v3, S)))))
set_option maxRecDepth 100000 in
set_option maxHeartbeats 4000000 in
theorem g145L44_ok {v1 : Int} {v4 : Int} : ∀ (n : Nat) (v3 : Int) (v5 : Int) (S : St) (d2 : Option Value) (out : Int × St), g145L44 v1 v4 n v3 v5 S = some out → ∀ r, (∀ (e2 e4 e5 : Option Value), Ru none 14 287 145 (82, [some (.ref 36), some (vI v1), e2, some (vI out.1), e4, e5], [], out.2.ns, Hp out.2) r) → Ru none 14 287 145 (44, [some (.ref 36), some (vI v1), d2, some (vI v3), some (vI v4), some (vI v5)], [], S.ns, Hp S) r := by
  intro n
  induction n with
  | zero => intro v3 v5 S d2 out h; cases h
  | succ n ih =>
    intro v3 v5 S d2 out h r hk
    unfold g145L44 at h
    refine Ru.op (q := (.iload 5, 2)) (by decide +kernel) rfl ?_
    refine Ru.op (q := (.aload_n 0, 1)) (by decide +kernel) rfl ?_
    refine Ru.get (i := 45) (v := .ref 46) (by decide +kernel) (by rfl) (hp36 _) (by decide) rfl ?_
    refine Ru.op (q := (.iload 4, 2)) (by decide +kernel) rfl ?_
    obtain ⟨g9, h⟩ := gd_some h
    refine Ru.ildI (i := v4) (z := (S.A 46 v4)) (by decide +kernel) (hp46 _) g9 (eI_of _) ?_
    obtain ⟨o10, e11, h⟩ := ob_some h
    refine Ru.call (q := (.invokestatic 136, 3)) (j2 := 123) (as := [vI (S.A 46 v4)]) (by decide +kernel) rfl rfl rfl rfl ⟨(Nat.le_of_ble_eq_true rfl), (by show 19 + 1 ≤ 287; exact Nat.le_of_ble_eq_true rfl), Nat.le_of_ble_eq_true rfl, Nat.le_of_ble_eq_true rfl⟩ ((g123_ok e11).up (Nat.le_of_ble_eq_true rfl) (Nat.le_of_ble_eq_true rfl)) ?_
    obtain ⟨g12, h⟩ := gd_some h
    obtain ⟨g13, h⟩ := gd_some h
    by_cases b14 : v5 < o10
    · replace h := if_t b14 h
      refine Ru.br2 (k := .ge) (off := 26) (bb := false) (tg := 59) (by decide +kernel) (by decide +kernel) (ci_ge0 g12 g13 b14) rfl ?_
      refine Ru.inc (x := v3) (z := (v3 + 1)) (xs' := [some (.ref 36), some (vI v1), d2, some (vI (v3 + 1)), some (vI v4), some (vI v5)]) (by decide +kernel) rfl rfl rfl ?_
      refine Ru.op (q := (.aload_n 0, 1)) (by decide +kernel) rfl ?_
      refine Ru.get (i := 102) (v := .ref 65) (by decide +kernel) (by rfl) (hp36 _) (by decide) rfl ?_
      refine Ru.op (q := (.iload_n 3, 1)) (by decide +kernel) rfl ?_
      refine Ru.op (q := (.aload_n 0, 1)) (by decide +kernel) rfl ?_
      refine Ru.op (q := (.iload 4, 2)) (by decide +kernel) rfl ?_
      refine Ru.op (q := (.iload 5, 2)) (by decide +kernel) rfl ?_
      obtain ⟨o15, e16, h⟩ := ob_some h
      refine Ru.vcall (i := 240) (j2 := 124) (as := [vI v4, vI v5]) (by decide +kernel) (by rfl) rfl rfl (hp36 _) (by decide) ⟨(Nat.le_of_ble_eq_true rfl), (by show 19 + 5 ≤ 287; exact Nat.le_of_ble_eq_true rfl), Nat.le_of_ble_eq_true rfl, Nat.le_of_ble_eq_true rfl⟩ ((g124_ok e16).up (Nat.le_of_ble_eq_true rfl) (Nat.le_of_ble_eq_true rfl)) ?_
      obtain ⟨g17, h⟩ := gd_some h
      refine Ru.istI (i := (v3 + 1)) (x := o15) (by decide +kernel) (hp65 _) g17 (ps_65 _ _ _) ?_
      refine Ru.inc (x := v5) (z := (v5 + 1)) (xs' := [some (.ref 36), some (vI v1), d2, some (vI (v3 + 1)), some (vI v4), some (vI (v5 + 1))]) (by decide +kernel) rfl rfl rfl ?_
      refine Ru.op (q := (.goto (-35), 3)) (by decide +kernel) rfl ?_
      exact ih _ _ _ _ _ h r hk
    · replace h := if_f b14 h
      refine Ru.br2 (k := .ge) (off := 26) (bb := true) (tg := 82) (by decide +kernel) (by decide +kernel) (ci_ge1 g12 g13 b14) rfl ?_
      cases h
      exact hk _ _ _
def g145L9 (v1 : Int) : Nat → Int → St → Option (Sum (St) (Int × St))
  | 0, _, _ => none
  | n + 1, v3, S => gd (inR v3) (if v3 < 0 then some (.inl S) else gd (ixR v3 640) (ob (g121 S (S.A 65 v3)) (fun o26 => gd (ixR o26 1024) (gd (inR v1) (if (S.A 46 o26) = v1 then some (.inr (1, S)) else ob (g145L44 v1 o26 FU (v3 + (-1)) 0 S) (fun o31 => g145L9 v1 n o31.1 o31.2))))))
set_option maxRecDepth 100000 in
set_option maxHeartbeats 4000000 in
theorem g145L9_ok {v1 : Int} : ∀ (n : Nat) (v3 : Int) (S : St) (d2 d4 d5 : Option Value) (out : Sum (St) (Int × St)), g145L9 v1 n v3 S = some out → ∀ r, (∀ o, out = .inl o → ∀ (e0 e1 e2 e3 e4 e5 : Option Value), Ru none 14 287 145 (85, [e0, e1, e2, e3, e4, e5], [], o.ns, Hp o) r) → (∀ o, out = .inr o → r = ((0, some (vI o.1)), o.2.ns, Hp o.2)) → Ru none 14 287 145 (9, [some (.ref 36), some (vI v1), d2, some (vI v3), d4, d5], [], S.ns, Hp S) r := by
  intro n
  induction n with
  | zero => intro v3 S d2 d4 d5 out h; cases h
  | succ n ih =>
    intro v3 S d2 d4 d5 out h r hk hr
    unfold g145L9 at h
    refine Ru.op (q := (.iload_n 3, 1)) (by decide +kernel) rfl ?_
    obtain ⟨g23, h⟩ := gd_some h
    by_cases b24 : v3 < 0
    · replace h := if_t b24 h
      refine Ru.br (k := .lt) (off := 75) (bb := true) (tg := 85) (by decide +kernel) (by decide +kernel) (cz (ci_lt1 g23 (by decide) b24)) rfl ?_
      cases h
      exact hk _ rfl _ _ _ _ _ _
    · replace h := if_f b24 h
      refine Ru.br (k := .lt) (off := 75) (bb := false) (tg := 13) (by decide +kernel) (by decide +kernel) (cz (ci_lt0 g23 (by decide) b24)) rfl ?_
      refine Ru.op (q := (.aload_n 0, 1)) (by decide +kernel) rfl ?_
      refine Ru.op (q := (.aload_n 0, 1)) (by decide +kernel) rfl ?_
      refine Ru.get (i := 102) (v := .ref 65) (by decide +kernel) (by rfl) (hp36 _) (by decide) rfl ?_
      refine Ru.op (q := (.iload_n 3, 1)) (by decide +kernel) rfl ?_
      obtain ⟨g25, h⟩ := gd_some h
      refine Ru.ildI (i := v3) (z := (S.A 65 v3)) (by decide +kernel) (hp65 _) g25 (eI_of _) ?_
      obtain ⟨o26, e27, h⟩ := ob_some h
      refine Ru.vcall (i := 237) (j2 := 121) (as := [vI (S.A 65 v3)]) (by decide +kernel) (by rfl) rfl rfl (hp36 _) (by decide) ⟨(Nat.le_of_ble_eq_true rfl), (by show 19 + 3 ≤ 287; exact Nat.le_of_ble_eq_true rfl), Nat.le_of_ble_eq_true rfl, Nat.le_of_ble_eq_true rfl⟩ ((g121_ok e27).up (Nat.le_of_ble_eq_true rfl) (Nat.le_of_ble_eq_true rfl)) ?_
      refine Ru.op (q := (.istore 4, 2)) (S' := (25, [some (.ref 36), some (vI v1), d2, some (vI v3), some (vI o26), d5], [], _, _)) (by decide +kernel) rfl ?_
      refine Ru.inc (x := v3) (z := (v3 + (-1))) (xs' := [some (.ref 36), some (vI v1), d2, some (vI (v3 + (-1))), some (vI o26), d5]) (by decide +kernel) rfl rfl rfl ?_
      refine Ru.op (q := (.aload_n 0, 1)) (by decide +kernel) rfl ?_
      refine Ru.get (i := 45) (v := .ref 46) (by decide +kernel) (by rfl) (hp36 _) (by decide) rfl ?_
      refine Ru.op (q := (.iload 4, 2)) (by decide +kernel) rfl ?_
      obtain ⟨g28, h⟩ := gd_some h
      refine Ru.ildI (i := o26) (z := (S.A 46 o26)) (by decide +kernel) (hp46 _) g28 (eI_of _) ?_
      refine Ru.op (q := (.iload_n 1, 1)) (by decide +kernel) rfl ?_
      obtain ⟨g29, h⟩ := gd_some h
      by_cases b30 : (S.A 46 o26) = v1
      · replace h := if_t b30 h
        refine Ru.br2 (k := .ne) (off := 5) (bb := false) (tg := 39) (by decide +kernel) (by decide +kernel) (ci_ne0 (inR_to _) g29 b30) rfl ?_
        refine Ru.kI (q := (.iconst 1, 1)) (c := 1) (by decide +kernel) rfl (by decide) ?_
        cases h
        have h9 := hr _ rfl
        subst h9
        exact Ru.iret (by decide +kernel) rfl (nar_b1 (by decide))
      · replace h := if_f b30 h
        refine Ru.br2 (k := .ne) (off := 5) (bb := true) (tg := 41) (by decide +kernel) (by decide +kernel) (ci_ne1 (inR_to _) g29 b30) rfl ?_
        refine Ru.kI (q := (.iconst 0, 1)) (c := 0) (by decide +kernel) rfl (by decide) ?_
        refine Ru.op (q := (.istore 5, 2)) (S' := (44, [some (.ref 36), some (vI v1), d2, some (vI (v3 + (-1))), some (vI o26), some (vI 0)], [], _, _)) (by decide +kernel) rfl ?_
        obtain ⟨o31, e35, h⟩ := ob_some h
        refine g145L44_ok FU _ _ _ _ _ e35 _ ?_
        intro d32 d33 d34
        refine Ru.op (q := (.goto (-73), 3)) (by decide +kernel) rfl ?_
        exact ih _ _ _ _ _ _ h r hk hr
def g145 (S : St) (v1 : Int) (v2 : Int) : Option (Int × St) := obr (g145L9 v1 FU 0 (S.a 65 0 v2)) (fun o36 => some (0, o36))
set_option maxRecDepth 100000 in
set_option maxHeartbeats 4000000 in
theorem g145_ok {S : St} {v1 : Int} {v2 : Int} {o : Int × St} (h : g145 S v1 v2 = some o) : Ru none 14 287 145 (0, mn_pad (mn_ent [.ref 36, vI v1, vI v2]) 6, [], S.ns, Hp S) ((0, some (vI o.1)), o.2.ns, Hp o.2) := by
  unfold g145 at h
  show Ru none 14 287 145 (0, [some (.ref 36), some (vI v1), some (vI v2), none, none, none], [], S.ns, Hp S) _
  refine Ru.kI (q := (.iconst 0, 1)) (c := 0) (by decide +kernel) rfl (by decide) ?_
  refine Ru.op (q := (.istore_n 3, 1)) (S' := (2, [some (.ref 36), some (vI v1), some (vI v2), some (vI 0), none, none], [], _, _)) (by decide +kernel) rfl ?_
  refine Ru.op (q := (.aload_n 0, 1)) (by decide +kernel) rfl ?_
  refine Ru.get (i := 102) (v := .ref 65) (by decide +kernel) (by rfl) (hp36 _) (by decide) rfl ?_
  refine Ru.kI (q := (.iconst 0, 1)) (c := 0) (by decide +kernel) rfl (by decide) ?_
  refine Ru.op (q := (.iload_n 2, 1)) (by decide +kernel) rfl ?_
  refine Ru.istI (i := 0) (x := v2) (by decide +kernel) (hp65 _) (by decide) (ps_65 _ _ _) ?_
  rcases obr_some h with ⟨o36, e43, h⟩ | e43
  · refine g145L9_ok FU _ _ _ _ _ _ e43 _ (fun o' e' => ?_) (fun o' e' => by cases e')
    cases e'
    intro d37 d38 d39 d40 d41 d42
    refine Ru.kI (q := (.iconst 0, 1)) (c := 0) (by decide +kernel) rfl (by decide) ?_
    cases h
    exact Ru.iret (by decide +kernel) rfl (nar_b1 (by decide))
  · exact g145L9_ok FU _ _ _ _ _ _ e43 _ (fun o' e' => by cases e') (fun o' e' => by cases e'; rfl)
