def g155 (S : St) (v1 : Int) (v2 : Int) : Option (Int × St) := gd (inR v1) (if v1 < 0 then some (0, (S.f 36 0 1)) else if v1 < (S.F 36 9) then gd (inR v2) (if v2 < 0 then some (0, (S.f 36 0 1)) else if v2 < (S.F 36 9) then ob (g130 (S.f 36 0 0) v1 v2) (fun o7 => gd (inR o7.1) (if o7.1 = 0 then some (0, o7.2) else some (1, o7.2))) else some (0, (S.f 36 0 1))) else some (0, (S.f 36 0 1)))
set_option maxRecDepth 100000 in
set_option maxHeartbeats 4000000 in
theorem g155_ok {S : St} {v1 : Int} {v2 : Int} {o : Int × St} (h : g155 S v1 v2 = some o) : Ru none 15 319 155 (0, mn_pad (mn_ent [.ref 36, vI v1, vI v2]) 3, [], S.ns, Hp S) ((0, some (vI o.1)), o.2.ns, Hp o.2) := by
  unfold g155 at h
  show Ru none 15 319 155 (0, [some (.ref 36), some (vI v1), some (vI v2)], [], S.ns, Hp S) _
  refine Ru.op (q := (.aload_n 0, 1)) (by decide +kernel) rfl ?_
  refine Ru.op (q := (.iload_n 1, 1)) (by decide +kernel) rfl ?_
  obtain ⟨g1, h⟩ := gd_some h
  by_cases b2 : v1 < 0
  · replace h := if_t b2 h
    refine Ru.br (k := .lt) (off := 23) (bb := true) (tg := 25) (by decide +kernel) (by decide +kernel) (cz (ci_lt1 g1 (by decide) b2)) rfl ?_
    refine Ru.kI (q := (.iconst 1, 1)) (c := 1) (by decide +kernel) rfl (by decide) ?_
    refine Ru.op (q := (.goto 4, 3)) (by decide +kernel) rfl ?_
    refine Ru.putH (i := 120) (by decide +kernel) (by rfl) (hp36 _) (by decide) (Nat.le_of_ble_eq_true rfl) rfl (by decide +kernel) (pf_36_0 _ _) ?_
    refine Ru.op (q := (.aload_n 0, 1)) (by decide +kernel) rfl ?_
    refine Ru.getI (i := 120) (x := 1) (by decide +kernel) (by rfl) (hp36 _) (by decide) rfl rfl ?_
    refine Ru.br (k := .ne) (off := 16) (bb := true) (tg := 53) (by decide +kernel) (by decide +kernel) (by decide) rfl ?_
    refine Ru.kI (q := (.iconst 0, 1)) (c := 0) (by decide +kernel) rfl (by decide) ?_
    cases h
    exact Ru.iret (by decide +kernel) rfl (nar_b1 (by decide))
  · replace h := if_f b2 h
    refine Ru.br (k := .lt) (off := 23) (bb := false) (tg := 5) (by decide +kernel) (by decide +kernel) (cz (ci_lt0 g1 (by decide) b2)) rfl ?_
    refine Ru.op (q := (.iload_n 1, 1)) (by decide +kernel) rfl ?_
    refine Ru.op (q := (.aload_n 0, 1)) (by decide +kernel) rfl ?_
    refine Ru.getI (i := 263) (x := (S.F 36 9)) (by decide +kernel) (by rfl) (hp36 _) (by decide) rfl (eI_of _) ?_
    by_cases b3 : v1 < (S.F 36 9)
    · replace h := if_t b3 h
      refine Ru.br2 (k := .ge) (off := 15) (bb := false) (tg := 13) (by decide +kernel) (by decide +kernel) (ci_ge0 g1 (inR_to _) b3) rfl ?_
      refine Ru.op (q := (.iload_n 2, 1)) (by decide +kernel) rfl ?_
      obtain ⟨g4, h⟩ := gd_some h
      by_cases b5 : v2 < 0
      · replace h := if_t b5 h
        refine Ru.br (k := .lt) (off := 11) (bb := true) (tg := 25) (by decide +kernel) (by decide +kernel) (cz (ci_lt1 g4 (by decide) b5)) rfl ?_
        refine Ru.kI (q := (.iconst 1, 1)) (c := 1) (by decide +kernel) rfl (by decide) ?_
        refine Ru.op (q := (.goto 4, 3)) (by decide +kernel) rfl ?_
        refine Ru.putH (i := 120) (by decide +kernel) (by rfl) (hp36 _) (by decide) (Nat.le_of_ble_eq_true rfl) rfl (by decide +kernel) (pf_36_0 _ _) ?_
        refine Ru.op (q := (.aload_n 0, 1)) (by decide +kernel) rfl ?_
        refine Ru.getI (i := 120) (x := 1) (by decide +kernel) (by rfl) (hp36 _) (by decide) rfl rfl ?_
        refine Ru.br (k := .ne) (off := 16) (bb := true) (tg := 53) (by decide +kernel) (by decide +kernel) (by decide) rfl ?_
        refine Ru.kI (q := (.iconst 0, 1)) (c := 0) (by decide +kernel) rfl (by decide) ?_
        cases h
        exact Ru.iret (by decide +kernel) rfl (nar_b1 (by decide))
      · replace h := if_f b5 h
        refine Ru.br (k := .lt) (off := 11) (bb := false) (tg := 17) (by decide +kernel) (by decide +kernel) (cz (ci_lt0 g4 (by decide) b5)) rfl ?_
        refine Ru.op (q := (.iload_n 2, 1)) (by decide +kernel) rfl ?_
        refine Ru.op (q := (.aload_n 0, 1)) (by decide +kernel) rfl ?_
        refine Ru.getI (i := 263) (x := (S.F 36 9)) (by decide +kernel) (by rfl) (hp36 _) (by decide) rfl (eI_of _) ?_
        by_cases b6 : v2 < (S.F 36 9)
        · replace h := if_t b6 h
          refine Ru.br2 (k := .lt) (off := 7) (bb := true) (tg := 29) (by decide +kernel) (by decide +kernel) (ci_lt1 g4 (inR_to _) b6) rfl ?_
          refine Ru.kI (q := (.iconst 0, 1)) (c := 0) (by decide +kernel) rfl (by decide) ?_
          refine Ru.putH (i := 120) (by decide +kernel) (by rfl) (hp36 _) (by decide) (Nat.le_of_ble_eq_true rfl) rfl (by decide +kernel) (pf_36_0 _ _) ?_
          refine Ru.op (q := (.aload_n 0, 1)) (by decide +kernel) rfl ?_
          refine Ru.getI (i := 120) (x := 0) (by decide +kernel) (by rfl) (hp36 _) (by decide) rfl rfl ?_
          refine Ru.br (k := .ne) (off := 16) (bb := false) (tg := 40) (by decide +kernel) (by decide +kernel) (by decide) rfl ?_
          refine Ru.op (q := (.aload_n 0, 1)) (by decide +kernel) rfl ?_
          refine Ru.op (q := (.iload_n 1, 1)) (by decide +kernel) rfl ?_
          refine Ru.op (q := (.iload_n 2, 1)) (by decide +kernel) rfl ?_
          obtain ⟨o7, e8, h⟩ := ob_some h
          refine Ru.vcall (i := 266) (j2 := 130) (as := [vI v1, vI v2]) (by decide +kernel) (by rfl) rfl rfl (hp36 _) (by decide) ⟨(Nat.le_of_ble_eq_true rfl), (by show 19 + 8 ≤ 319; exact Nat.le_of_ble_eq_true rfl), Nat.le_of_ble_eq_true rfl, Nat.le_of_ble_eq_true rfl⟩ ((g130_ok e8).up (Nat.le_of_ble_eq_true rfl) (Nat.le_of_ble_eq_true rfl)) ?_
          obtain ⟨g9, h⟩ := gd_some h
          by_cases b10 : o7.1 = 0
          · replace h := if_t b10 h
            refine Ru.br (k := .eq) (off := 7) (bb := true) (tg := 53) (by decide +kernel) (by decide +kernel) (cz (ci_eq1 g9 (by decide) b10)) rfl ?_
            refine Ru.kI (q := (.iconst 0, 1)) (c := 0) (by decide +kernel) rfl (by decide) ?_
            cases h
            exact Ru.iret (by decide +kernel) rfl (nar_b1 (by decide))
          · replace h := if_f b10 h
            refine Ru.br (k := .eq) (off := 7) (bb := false) (tg := 49) (by decide +kernel) (by decide +kernel) (cz (ci_eq0 g9 (by decide) b10)) rfl ?_
            refine Ru.kI (q := (.iconst 1, 1)) (c := 1) (by decide +kernel) rfl (by decide) ?_
            refine Ru.op (q := (.goto 4, 3)) (by decide +kernel) rfl ?_
            cases h
            exact Ru.iret (by decide +kernel) rfl (nar_b1 (by decide))
        · replace h := if_f b6 h
          refine Ru.br2 (k := .lt) (off := 7) (bb := false) (tg := 25) (by decide +kernel) (by decide +kernel) (ci_lt0 g4 (inR_to _) b6) rfl ?_
          refine Ru.kI (q := (.iconst 1, 1)) (c := 1) (by decide +kernel) rfl (by decide) ?_
          refine Ru.op (q := (.goto 4, 3)) (by decide +kernel) rfl ?_
          refine Ru.putH (i := 120) (by decide +kernel) (by rfl) (hp36 _) (by decide) (Nat.le_of_ble_eq_true rfl) rfl (by decide +kernel) (pf_36_0 _ _) ?_
          refine Ru.op (q := (.aload_n 0, 1)) (by decide +kernel) rfl ?_
          refine Ru.getI (i := 120) (x := 1) (by decide +kernel) (by rfl) (hp36 _) (by decide) rfl rfl ?_
          refine Ru.br (k := .ne) (off := 16) (bb := true) (tg := 53) (by decide +kernel) (by decide +kernel) (by decide) rfl ?_
          refine Ru.kI (q := (.iconst 0, 1)) (c := 0) (by decide +kernel) rfl (by decide) ?_
          cases h
          exact Ru.iret (by decide +kernel) rfl (nar_b1 (by decide))
    · replace h := if_f b3 h
      refine Ru.br2 (k := .ge) (off := 15) (bb := true) (tg := 25) (by decide +kernel) (by decide +kernel) (ci_ge1 g1 (inR_to _) b3) rfl ?_
      refine Ru.kI (q := (.iconst 1, 1)) (c := 1) (by decide +kernel) rfl (by decide) ?_
      refine Ru.op (q := (.goto 4, 3)) (by decide +kernel) rfl ?_
      refine Ru.putH (i := 120) (by decide +kernel) (by rfl) (hp36 _) (by decide) (Nat.le_of_ble_eq_true rfl) rfl (by decide +kernel) (pf_36_0 _ _) ?_
      refine Ru.op (q := (.aload_n 0, 1)) (by decide +kernel) rfl ?_
      refine Ru.getI (i := 120) (x := 1) (by decide +kernel) (by rfl) (hp36 _) (by decide) rfl rfl ?_
      refine Ru.br (k := .ne) (off := 16) (bb := true) (tg := 53) (by decide +kernel) (by decide +kernel) (by decide) rfl ?_
      refine Ru.kI (q := (.iconst 0, 1)) (c := 0) (by decide +kernel) rfl (by decide) ?_
      cases h
      exact Ru.iret (by decide +kernel) rfl (nar_b1 (by decide))
def g156L18 (v1 : Int) : Nat → Int → St → Option (St)
  | 0, _, _ => none
  | n + 1, v2, S => gd (inR v2) (if v2 < (S.F 36 9) then if v2 = (S.F 36 14) then gd (ixR v2 100) (g156L18 v1 n (v2 + 1) (S.a 70 v2 1)) else gd (ixR v2 100) (g156L18 v1 n (v2 + 1) (S.a 70 v2 0)) else some S)
set_option maxRecDepth 100000 in
set_option maxHeartbeats 4000000 in
theorem g156L18_ok {v1 : Int} : ∀ (n : Nat) (v2 : Int) (S : St) (out : St), g156L18 v1 n v2 S = some out → ∀ r, (∀ (e2 : Option Value), Ru none 10 200 156 (51, [some (.ref 36), some (vI v1), e2], [], out.ns, Hp out) r) → Ru none 10 200 156 (18, [some (.ref 36), some (vI v1), some (vI v2)], [], S.ns, Hp S) r := by
  intro n
  induction n with
  | zero => intro v2 S out h; cases h
  | succ n ih =>
    intro v2 S out h r hk
    unfold g156L18 at h
    refine Ru.op (q := (.iload_n 2, 1)) (by decide +kernel) rfl ?_
    refine Ru.op (q := (.aload_n 0, 1)) (by decide +kernel) rfl ?_
    refine Ru.getI (i := 263) (x := (S.F 36 9)) (by decide +kernel) (by rfl) (hp36 _) (by decide) rfl (eI_of _) ?_
    obtain ⟨g2, h⟩ := gd_some h
    by_cases b3 : v2 < (S.F 36 9)
    · replace h := if_t b3 h
      refine Ru.br2 (k := .ge) (off := 28) (bb := false) (tg := 26) (by decide +kernel) (by decide +kernel) (ci_ge0 g2 (inR_to _) b3) rfl ?_
      refine Ru.op (q := (.aload_n 0, 1)) (by decide +kernel) rfl ?_
      refine Ru.get (i := 117) (v := .ref 70) (by decide +kernel) (by rfl) (hp36 _) (by decide) rfl ?_
      refine Ru.op (q := (.iload_n 2, 1)) (by decide +kernel) rfl ?_
      refine Ru.op (q := (.iload_n 2, 1)) (by decide +kernel) rfl ?_
      refine Ru.op (q := (.aload_n 0, 1)) (by decide +kernel) rfl ?_
      refine Ru.getI (i := 42) (x := (S.F 36 14)) (by decide +kernel) (by rfl) (hp36 _) (by decide) rfl (eI_of _) ?_
      by_cases b4 : v2 = (S.F 36 14)
      · replace h := if_t b4 h
        refine Ru.br2 (k := .ne) (off := 7) (bb := false) (tg := 39) (by decide +kernel) (by decide +kernel) (ci_ne0 g2 (inR_to _) b4) rfl ?_
        refine Ru.kI (q := (.iconst 1, 1)) (c := 1) (by decide +kernel) rfl (by decide) ?_
        refine Ru.op (q := (.goto 4, 3)) (by decide +kernel) rfl ?_
        obtain ⟨g5, h⟩ := gd_some h
        refine Ru.bstI (i := v2) (x := 1) (by decide +kernel) (hp70 _) g5 (by decide) (ps_70 _ _ _) ?_
        refine Ru.inc (x := v2) (z := (v2 + 1)) (xs' := [some (.ref 36), some (vI v1), some (vI (v2 + 1))]) (by decide +kernel) rfl rfl rfl ?_
        refine Ru.op (q := (.goto (-30), 3)) (by decide +kernel) rfl ?_
        exact ih _ _ _ h r hk
      · replace h := if_f b4 h
        refine Ru.br2 (k := .ne) (off := 7) (bb := true) (tg := 43) (by decide +kernel) (by decide +kernel) (ci_ne1 g2 (inR_to _) b4) rfl ?_
        refine Ru.kI (q := (.iconst 0, 1)) (c := 0) (by decide +kernel) rfl (by decide) ?_
        obtain ⟨g6, h⟩ := gd_some h
        refine Ru.bstI (i := v2) (x := 0) (by decide +kernel) (hp70 _) g6 (by decide) (ps_70 _ _ _) ?_
        refine Ru.inc (x := v2) (z := (v2 + 1)) (xs' := [some (.ref 36), some (vI v1), some (vI (v2 + 1))]) (by decide +kernel) rfl rfl rfl ?_
        refine Ru.op (q := (.goto (-30), 3)) (by decide +kernel) rfl ?_
        exact ih _ _ _ h r hk
    · replace h := if_f b3 h
      refine Ru.br2 (k := .ge) (off := 28) (bb := true) (tg := 51) (by decide +kernel) (by decide +kernel) (ci_ge1 g2 (inR_to _) b3) rfl ?_
      cases h
      exact hk _
def g156L58  : Nat → Int → Int → St → Option (Int × St)
  | 0, _, _, _ => none
  | n + 1, v1, v2, S => gd (inR v2) (if v2 < 0 then some (v1, S) else gd (ixR v2 100) (if (S.A 70 v2) = 0 then g156L58 n v1 (v2 + (-1)) S else if 0 < (S.A 44 v2) then gd (ixR (4 * v2) 400) (gd (ixR (S.A 45 (4 * v2)) 100) (gd (ixR ((4 * v2) + 2) 400) (gd (ixR (S.A 45 ((4 * v2) + 2)) 100) (g156L58 n (v1 + 1) (v2 + (-1)) ((S.a 70 (S.A 45 (4 * v2)) 1).a 70 (S.A 45 ((4 * v2) + 2)) 1))))) else g156L58 n (v1 + 1) (v2 + (-1)) S))
set_option maxRecDepth 100000 in
set_option maxHeartbeats 4000000 in
theorem g156L58_ok : ∀ (n : Nat) (v1 : Int) (v2 : Int) (S : St) (out : Int × St), g156L58 n v1 v2 S = some out → ∀ r, (∀ (e0 e2 : Option Value), Ru none 10 200 156 (128, [e0, some (vI out.1), e2], [], out.2.ns, Hp out.2) r) → Ru none 10 200 156 (58, [some (.ref 36), some (vI v1), some (vI v2)], [], S.ns, Hp S) r := by
  intro n
  induction n with
  | zero => intro v1 v2 S out h; cases h
  | succ n ih =>
    intro v1 v2 S out h r hk
    unfold g156L58 at h
    refine Ru.op (q := (.iload_n 2, 1)) (by decide +kernel) rfl ?_
    obtain ⟨g10, h⟩ := gd_some h
    by_cases b11 : v2 < 0
    · replace h := if_t b11 h
      refine Ru.br (k := .lt) (off := 69) (bb := true) (tg := 128) (by decide +kernel) (by decide +kernel) (cz (ci_lt1 g10 (by decide) b11)) rfl ?_
      cases h
      exact hk _ _
    · replace h := if_f b11 h
      refine Ru.br (k := .lt) (off := 69) (bb := false) (tg := 62) (by decide +kernel) (by decide +kernel) (cz (ci_lt0 g10 (by decide) b11)) rfl ?_
      refine Ru.op (q := (.aload_n 0, 1)) (by decide +kernel) rfl ?_
      refine Ru.get (i := 117) (v := .ref 70) (by decide +kernel) (by rfl) (hp36 _) (by decide) rfl ?_
      refine Ru.op (q := (.iload_n 2, 1)) (by decide +kernel) rfl ?_
      obtain ⟨g12, h⟩ := gd_some h
      refine Ru.bldI (i := v2) (z := (S.A 70 v2)) (by decide +kernel) (hp70 _) g12 (eI_of _) ?_
      by_cases b13 : (S.A 70 v2) = 0
      · replace h := if_t b13 h
        refine Ru.br (k := .eq) (off := 6) (bb := true) (tg := 74) (by decide +kernel) (by decide +kernel) (cz (ci_eq1 (inR_to _) (by decide) b13)) rfl ?_
        refine Ru.op (q := (.aload_n 0, 1)) (by decide +kernel) rfl ?_
        refine Ru.get (i := 117) (v := .ref 70) (by decide +kernel) (by rfl) (hp36 _) (by decide) rfl ?_
        refine Ru.op (q := (.iload_n 2, 1)) (by decide +kernel) rfl ?_
        refine Ru.bldI (i := v2) (z := (S.A 70 v2)) (by decide +kernel) (hp70 _) g12 (eI_of _) ?_
        refine Ru.br (k := .eq) (off := 42) (bb := true) (tg := 122) (by decide +kernel) (by decide +kernel) (cz (ci_eq1 (inR_to _) (by decide) b13)) rfl ?_
        refine Ru.inc (x := v2) (z := (v2 + (-1))) (xs' := [some (.ref 36), some (vI v1), some (vI (v2 + (-1)))]) (by decide +kernel) rfl rfl rfl ?_
        refine Ru.op (q := (.goto (-67), 3)) (by decide +kernel) rfl ?_
        exact ih _ _ _ _ h r hk
      · replace h := if_f b13 h
        refine Ru.br (k := .eq) (off := 6) (bb := false) (tg := 71) (by decide +kernel) (by decide +kernel) (cz (ci_eq0 (inR_to _) (by decide) b13)) rfl ?_
        refine Ru.inc (x := v1) (z := (v1 + 1)) (xs' := [some (.ref 36), some (vI (v1 + 1)), some (vI v2)]) (by decide +kernel) rfl rfl rfl ?_
        refine Ru.op (q := (.aload_n 0, 1)) (by decide +kernel) rfl ?_
        refine Ru.get (i := 117) (v := .ref 70) (by decide +kernel) (by rfl) (hp36 _) (by decide) rfl ?_
        refine Ru.op (q := (.iload_n 2, 1)) (by decide +kernel) rfl ?_
        refine Ru.bldI (i := v2) (z := (S.A 70 v2)) (by decide +kernel) (hp70 _) g12 (eI_of _) ?_
        refine Ru.br (k := .eq) (off := 42) (bb := false) (tg := 83) (by decide +kernel) (by decide +kernel) (cz (ci_eq0 (inR_to _) (by decide) b13)) rfl ?_
        refine Ru.op (q := (.aload_n 0, 1)) (by decide +kernel) rfl ?_
        refine Ru.get (i := 36) (v := .ref 44) (by decide +kernel) (by rfl) (hp36 _) (by decide) rfl ?_
        refine Ru.op (q := (.iload_n 2, 1)) (by decide +kernel) rfl ?_
        refine Ru.ildI (i := v2) (z := (S.A 44 v2)) (by decide +kernel) (hp44 _) g12 (eI_of _) ?_
        by_cases b14 : 0 < (S.A 44 v2)
        · replace h := if_t b14 h
          refine Ru.br (k := .le) (off := 33) (bb := false) (tg := 92) (by decide +kernel) (by decide +kernel) (cz (ci_le0 (inR_to _) (by decide) b14)) rfl ?_
          refine Ru.op (q := (.aload_n 0, 1)) (by decide +kernel) rfl ?_
          refine Ru.get (i := 117) (v := .ref 70) (by decide +kernel) (by rfl) (hp36 _) (by decide) rfl ?_
          refine Ru.op (q := (.aload_n 0, 1)) (by decide +kernel) rfl ?_
          refine Ru.get (i := 39) (v := .ref 45) (by decide +kernel) (by rfl) (hp36 _) (by decide) rfl ?_
          refine Ru.kI (q := (.iconst 4, 1)) (c := 4) (by decide +kernel) rfl (by decide) ?_
          refine Ru.op (q := (.iload_n 2, 1)) (by decide +kernel) rfl ?_
          refine Ru.ar2 (i := .imul) (z := (4 * v2)) (by decide +kernel) rfl (ar_mul _ _) ?_
          obtain ⟨g15, h⟩ := gd_some h
          refine Ru.ildI (i := (4 * v2)) (z := (S.A 45 (4 * v2))) (by decide +kernel) (hp45 _) g15 (eI_of _) ?_
          refine Ru.kI (q := (.iconst 1, 1)) (c := 1) (by decide +kernel) rfl (by decide) ?_
          obtain ⟨g16, h⟩ := gd_some h
          refine Ru.bstI (i := (S.A 45 (4 * v2))) (x := 1) (by decide +kernel) (hp70 _) g16 (by decide) (ps_70 _ _ _) ?_
          refine Ru.op (q := (.aload_n 0, 1)) (by decide +kernel) rfl ?_
          refine Ru.get (i := 117) (v := .ref 70) (by decide +kernel) (by rfl) (hp36 _) (by decide) rfl ?_
          refine Ru.op (q := (.aload_n 0, 1)) (by decide +kernel) rfl ?_
          refine Ru.get (i := 39) (v := .ref 45) (by decide +kernel) (by rfl) (hp36 _) (by decide) rfl ?_
          refine Ru.kI (q := (.iconst 4, 1)) (c := 4) (by decide +kernel) rfl (by decide) ?_
          refine Ru.op (q := (.iload_n 2, 1)) (by decide +kernel) rfl ?_
          refine Ru.ar2 (i := .imul) (z := (4 * v2)) (by decide +kernel) rfl (ar_mul _ _) ?_
          refine Ru.kI (q := (.iconst 2, 1)) (c := 2) (by decide +kernel) rfl (by decide) ?_
          refine Ru.ar2 (i := .iadd) (z := ((4 * v2) + 2)) (by decide +kernel) rfl (ar_add _ _) ?_
          obtain ⟨g17, h⟩ := gd_some h
          refine Ru.ildI (i := ((4 * v2) + 2)) (z := (S.A 45 ((4 * v2) + 2))) (by decide +kernel) (hp45 _) g17 (eI_of _) ?_
          refine Ru.kI (q := (.iconst 1, 1)) (c := 1) (by decide +kernel) rfl (by decide) ?_
          obtain ⟨g18, h⟩ := gd_some h
          refine Ru.bstI (i := (S.A 45 ((4 * v2) + 2))) (x := 1) (by decide +kernel) (hp70 _) g18 (by decide) (ps_70 _ _ _) ?_
          refine Ru.inc (x := v2) (z := (v2 + (-1))) (xs' := [some (.ref 36), some (vI (v1 + 1)), some (vI (v2 + (-1)))]) (by decide +kernel) rfl rfl rfl ?_
          refine Ru.op (q := (.goto (-67), 3)) (by decide +kernel) rfl ?_
          exact ih _ _ _ _ h r hk
        · replace h := if_f b14 h
          refine Ru.br (k := .le) (off := 33) (bb := true) (tg := 122) (by decide +kernel) (by decide +kernel) (cz (ci_le1 (inR_to _) (by decide) b14)) rfl ?_
          refine Ru.inc (x := v2) (z := (v2 + (-1))) (xs' := [some (.ref 36), some (vI (v1 + 1)), some (vI (v2 + (-1)))]) (by decide +kernel) rfl rfl rfl ?_
          refine Ru.op (q := (.goto (-67), 3)) (by decide +kernel) rfl ?_
          exact ih _ _ _ _ h r hk
def g156 (S : St) : Option (Int × St) := if (S.F 36 14) < 0 then some ((-1), (S.f 36 0 0)) else ob (g156L18 0 FU 0 (S.f 36 0 0)) (fun o7 => ob (g156L58 FU 0 ((o7.F 36 9) - 1) o7) (fun o19 => some (o19.1, o19.2)))
set_option maxRecDepth 100000 in
set_option maxHeartbeats 4000000 in
theorem g156_ok {S : St} {o : Int × St} (h : g156 S  = some o) : Ru none 10 200 156 (0, mn_pad (mn_ent [.ref 36]) 3, [], S.ns, Hp S) ((0, some (vI o.1)), o.2.ns, Hp o.2) := by
  unfold g156 at h
  show Ru none 10 200 156 (0, [some (.ref 36), none, none], [], S.ns, Hp S) _
  refine Ru.op (q := (.aload_n 0, 1)) (by decide +kernel) rfl ?_
  refine Ru.kI (q := (.iconst 0, 1)) (c := 0) (by decide +kernel) rfl (by decide) ?_
  refine Ru.putH (i := 120) (by decide +kernel) (by rfl) (hp36 _) (by decide) (Nat.le_of_ble_eq_true rfl) rfl (by decide +kernel) (pf_36_0 _ _) ?_
  refine Ru.op (q := (.aload_n 0, 1)) (by decide +kernel) rfl ?_
  refine Ru.getI (i := 42) (x := (S.F 36 14)) (by decide +kernel) (by rfl) (hp36 _) (by decide) rfl (eI_of _) ?_
  by_cases b1 : (S.F 36 14) < 0
  · replace h := if_t b1 h
    refine Ru.br (k := .ge) (off := 5) (bb := false) (tg := 12) (by decide +kernel) (by decide +kernel) (cz (ci_ge0 (inR_to _) (by decide) b1)) rfl ?_
    refine Ru.kI (q := (.iconst (-1), 1)) (c := (-1)) (by decide +kernel) rfl (by decide) ?_
    cases h
    exact Ru.iret (by decide +kernel) rfl rfl
  · replace h := if_f b1 h
    refine Ru.br (k := .ge) (off := 5) (bb := true) (tg := 14) (by decide +kernel) (by decide +kernel) (cz (ci_ge1 (inR_to _) (by decide) b1)) rfl ?_
    refine Ru.kI (q := (.iconst 0, 1)) (c := 0) (by decide +kernel) rfl (by decide) ?_
    refine Ru.op (q := (.istore_n 1, 1)) (S' := (16, [some (.ref 36), some (vI 0), none], [], _, _)) (by decide +kernel) rfl ?_
    refine Ru.kI (q := (.iconst 0, 1)) (c := 0) (by decide +kernel) rfl (by decide) ?_
    refine Ru.op (q := (.istore_n 2, 1)) (S' := (18, [some (.ref 36), some (vI 0), some (vI 0)], [], _, _)) (by decide +kernel) rfl ?_
    obtain ⟨o7, e9, h⟩ := ob_some h
    refine g156L18_ok FU _ _ _ e9 _ ?_
    intro d8
    refine Ru.op (q := (.aload_n 0, 1)) (by decide +kernel) rfl ?_
    refine Ru.getI (i := 263) (x := (o7.F 36 9)) (by decide +kernel) (by rfl) (hp36 _) (by decide) rfl (eI_of _) ?_
    refine Ru.kI (q := (.iconst 1, 1)) (c := 1) (by decide +kernel) rfl (by decide) ?_
    refine Ru.ar2 (i := .isub) (z := ((o7.F 36 9) - 1)) (by decide +kernel) rfl (ar_sub _ _) ?_
    refine Ru.op (q := (.istore_n 2, 1)) (S' := (58, [some (.ref 36), some (vI 0), some (vI ((o7.F 36 9) - 1))], [], _, _)) (by decide +kernel) rfl ?_
    obtain ⟨o19, e22, h⟩ := ob_some h
    refine g156L58_ok FU _ _ _ _ e22 _ ?_
    intro d20 d21
    refine Ru.op (q := (.iload_n 1, 1)) (by decide +kernel) rfl ?_
    cases h
    exact Ru.iret (by decide +kernel) rfl rfl
def g157 (S : St) (v1 : Int) : Option (Int × St) := gd (inR v1) (if v1 < 0 then if v1 = 0 then some ((S.F 36 9), (S.f 36 0 1)) else if v1 = 1 then ob (g135 (S.f 36 0 1) 0) (fun o5 => some (o5, (S.f 36 0 1))) else if v1 = 2 then ob (g135 (S.f 36 0 1) 1) (fun o8 => some (o8, (S.f 36 0 1))) else if v1 = 3 then some ((S.F 36 16), (S.f 36 0 1)) else if v1 = 4 then some ((S.F 36 17), (S.f 36 0 1)) else if v1 = 5 then some ((S.F 36 18), (S.f 36 0 1)) else if v1 = 6 then some ((S.F 36 19), (S.f 36 0 1)) else if v1 = 7 then some ((S.F 36 20), (S.f 36 0 1)) else if v1 = 8 then some ((S.F 36 10), (S.f 36 0 1)) else some (0, (S.f 36 0 1)) else if 8 < v1 then if v1 = 0 then some ((S.F 36 9), (S.f 36 0 1)) else if v1 = 1 then ob (g135 (S.f 36 0 1) 0) (fun o19 => some (o19, (S.f 36 0 1))) else if v1 = 2 then ob (g135 (S.f 36 0 1) 1) (fun o22 => some (o22, (S.f 36 0 1))) else if v1 = 3 then some ((S.F 36 16), (S.f 36 0 1)) else if v1 = 4 then some ((S.F 36 17), (S.f 36 0 1)) else if v1 = 5 then some ((S.F 36 18), (S.f 36 0 1)) else if v1 = 6 then some ((S.F 36 19), (S.f 36 0 1)) else if v1 = 7 then some ((S.F 36 20), (S.f 36 0 1)) else if v1 = 8 then some ((S.F 36 10), (S.f 36 0 1)) else some (0, (S.f 36 0 1)) else if v1 = 0 then some ((S.F 36 9), (S.f 36 0 0)) else if v1 = 1 then ob (g135 (S.f 36 0 0) 0) (fun o32 => some (o32, (S.f 36 0 0))) else if v1 = 2 then ob (g135 (S.f 36 0 0) 1) (fun o35 => some (o35, (S.f 36 0 0))) else if v1 = 3 then some ((S.F 36 16), (S.f 36 0 0)) else if v1 = 4 then some ((S.F 36 17), (S.f 36 0 0)) else if v1 = 5 then some ((S.F 36 18), (S.f 36 0 0)) else if v1 = 6 then some ((S.F 36 19), (S.f 36 0 0)) else if v1 = 7 then some ((S.F 36 20), (S.f 36 0 0)) else if v1 = 8 then some ((S.F 36 10), (S.f 36 0 0)) else some (0, (S.f 36 0 0)))
set_option maxRecDepth 100000 in
set_option maxHeartbeats 4000000 in
theorem g157_ok {S : St} {v1 : Int} {o : Int × St} (h : g157 S v1 = some o) : Ru none 11 223 157 (0, mn_pad (mn_ent [.ref 36, vI v1]) 2, [], S.ns, Hp S) ((0, some (vI o.1)), o.2.ns, Hp o.2) := by
  unfold g157 at h
  show Ru none 11 223 157 (0, [some (.ref 36), some (vI v1)], [], S.ns, Hp S) _
  refine Ru.op (q := (.aload_n 0, 1)) (by decide +kernel) rfl ?_
  refine Ru.op (q := (.iload_n 1, 1)) (by decide +kernel) rfl ?_
  obtain ⟨g1, h⟩ := gd_some h
  by_cases b2 : v1 < 0
  · replace h := if_t b2 h
    refine Ru.br (k := .lt) (off := 9) (bb := true) (tg := 11) (by decide +kernel) (by decide +kernel) (cz (ci_lt1 g1 (by decide) b2)) rfl ?_
    refine Ru.kI (q := (.iconst 1, 1)) (c := 1) (by decide +kernel) rfl (by decide) ?_
    refine Ru.op (q := (.goto 4, 3)) (by decide +kernel) rfl ?_
    refine Ru.putH (i := 120) (by decide +kernel) (by rfl) (hp36 _) (by decide) (Nat.le_of_ble_eq_true rfl) rfl (by decide +kernel) (pf_36_0 _ _) ?_
    refine Ru.op (q := (.iload_n 1, 1)) (by decide +kernel) rfl ?_
    by_cases b3 : v1 = 0
    · replace h := if_t b3 h
      refine Ru.sw (d := 99) (lo2 := 0) (hi := 8) (offs := #[52, 57, 63, 69, 74, 79, 84, 89, 94]) (len := 52) (tg := 72) (by decide +kernel) (by rw [b3]; decide +kernel) ?_
      refine Ru.op (q := (.aload_n 0, 1)) (by decide +kernel) rfl ?_
      refine Ru.getI (i := 263) (x := (S.F 36 9)) (by decide +kernel) (by rfl) (hp36 _) (by decide) rfl (eI_of _) ?_
      cases h
      exact Ru.iret (by decide +kernel) rfl rfl
    · replace h := if_f b3 h
      by_cases b4 : v1 = 1
      · replace h := if_t b4 h
        refine Ru.sw (d := 99) (lo2 := 0) (hi := 8) (offs := #[52, 57, 63, 69, 74, 79, 84, 89, 94]) (len := 52) (tg := 77) (by decide +kernel) (by rw [b4]; decide +kernel) ?_
        refine Ru.op (q := (.aload_n 0, 1)) (by decide +kernel) rfl ?_
        refine Ru.kI (q := (.iconst 0, 1)) (c := 0) (by decide +kernel) rfl (by decide) ?_
        obtain ⟨o5, e6, h⟩ := ob_some h
        refine Ru.vcall (i := 305) (j2 := 135) (as := [vI 0]) (by decide +kernel) (by rfl) rfl rfl (hp36 _) (by decide) ⟨(Nat.le_of_ble_eq_true rfl), (by show 19 + 4 ≤ 223; exact Nat.le_of_ble_eq_true rfl), Nat.le_of_ble_eq_true rfl, Nat.le_of_ble_eq_true rfl⟩ ((g135_ok e6).up (Nat.le_of_ble_eq_true rfl) (Nat.le_of_ble_eq_true rfl)) ?_
        cases h
        exact Ru.iret (by decide +kernel) rfl rfl
      · replace h := if_f b4 h
        by_cases b7 : v1 = 2
        · replace h := if_t b7 h
          refine Ru.sw (d := 99) (lo2 := 0) (hi := 8) (offs := #[52, 57, 63, 69, 74, 79, 84, 89, 94]) (len := 52) (tg := 83) (by decide +kernel) (by rw [b7]; decide +kernel) ?_
          refine Ru.op (q := (.aload_n 0, 1)) (by decide +kernel) rfl ?_
          refine Ru.kI (q := (.iconst 1, 1)) (c := 1) (by decide +kernel) rfl (by decide) ?_
          obtain ⟨o8, e9, h⟩ := ob_some h
          refine Ru.vcall (i := 305) (j2 := 135) (as := [vI 1]) (by decide +kernel) (by rfl) rfl rfl (hp36 _) (by decide) ⟨(Nat.le_of_ble_eq_true rfl), (by show 19 + 4 ≤ 223; exact Nat.le_of_ble_eq_true rfl), Nat.le_of_ble_eq_true rfl, Nat.le_of_ble_eq_true rfl⟩ ((g135_ok e9).up (Nat.le_of_ble_eq_true rfl) (Nat.le_of_ble_eq_true rfl)) ?_
          cases h
          exact Ru.iret (by decide +kernel) rfl rfl
        · replace h := if_f b7 h
          by_cases b10 : v1 = 3
          · replace h := if_t b10 h
            refine Ru.sw (d := 99) (lo2 := 0) (hi := 8) (offs := #[52, 57, 63, 69, 74, 79, 84, 89, 94]) (len := 52) (tg := 89) (by decide +kernel) (by rw [b10]; decide +kernel) ?_
            refine Ru.op (q := (.aload_n 0, 1)) (by decide +kernel) rfl ?_
            refine Ru.getI (i := 324) (x := (S.F 36 16)) (by decide +kernel) (by rfl) (hp36 _) (by decide) rfl (eI_of _) ?_
            cases h
            exact Ru.iret (by decide +kernel) rfl rfl
          · replace h := if_f b10 h
            by_cases b11 : v1 = 4
            · replace h := if_t b11 h
              refine Ru.sw (d := 99) (lo2 := 0) (hi := 8) (offs := #[52, 57, 63, 69, 74, 79, 84, 89, 94]) (len := 52) (tg := 94) (by decide +kernel) (by rw [b11]; decide +kernel) ?_
              refine Ru.op (q := (.aload_n 0, 1)) (by decide +kernel) rfl ?_
              refine Ru.getI (i := 273) (x := (S.F 36 17)) (by decide +kernel) (by rfl) (hp36 _) (by decide) rfl (eI_of _) ?_
              cases h
              exact Ru.iret (by decide +kernel) rfl rfl
            · replace h := if_f b11 h
              by_cases b12 : v1 = 5
              · replace h := if_t b12 h
                refine Ru.sw (d := 99) (lo2 := 0) (hi := 8) (offs := #[52, 57, 63, 69, 74, 79, 84, 89, 94]) (len := 52) (tg := 99) (by decide +kernel) (by rw [b12]; decide +kernel) ?_
                refine Ru.op (q := (.aload_n 0, 1)) (by decide +kernel) rfl ?_
                refine Ru.getI (i := 279) (x := (S.F 36 18)) (by decide +kernel) (by rfl) (hp36 _) (by decide) rfl (eI_of _) ?_
                cases h
                exact Ru.iret (by decide +kernel) rfl rfl
              · replace h := if_f b12 h
                by_cases b13 : v1 = 6
                · replace h := if_t b13 h
                  refine Ru.sw (d := 99) (lo2 := 0) (hi := 8) (offs := #[52, 57, 63, 69, 74, 79, 84, 89, 94]) (len := 52) (tg := 104) (by decide +kernel) (by rw [b13]; decide +kernel) ?_
                  refine Ru.op (q := (.aload_n 0, 1)) (by decide +kernel) rfl ?_
                  refine Ru.getI (i := 285) (x := (S.F 36 19)) (by decide +kernel) (by rfl) (hp36 _) (by decide) rfl (eI_of _) ?_
                  cases h
                  exact Ru.iret (by decide +kernel) rfl rfl
                · replace h := if_f b13 h
                  by_cases b14 : v1 = 7
                  · replace h := if_t b14 h
                    refine Ru.sw (d := 99) (lo2 := 0) (hi := 8) (offs := #[52, 57, 63, 69, 74, 79, 84, 89, 94]) (len := 52) (tg := 109) (by decide +kernel) (by rw [b14]; decide +kernel) ?_
                    refine Ru.op (q := (.aload_n 0, 1)) (by decide +kernel) rfl ?_
                    refine Ru.getI (i := 195) (x := (S.F 36 20)) (by decide +kernel) (by rfl) (hp36 _) (by decide) rfl (eI_of _) ?_
                    cases h
                    exact Ru.iret (by decide +kernel) rfl rfl
                  · replace h := if_f b14 h
                    by_cases b15 : v1 = 8
                    · replace h := if_t b15 h
                      refine Ru.sw (d := 99) (lo2 := 0) (hi := 8) (offs := #[52, 57, 63, 69, 74, 79, 84, 89, 94]) (len := 52) (tg := 114) (by decide +kernel) (by rw [b15]; decide +kernel) ?_
                      refine Ru.op (q := (.aload_n 0, 1)) (by decide +kernel) rfl ?_
                      refine Ru.getI (i := 356) (x := (S.F 36 10)) (by decide +kernel) (by rfl) (hp36 _) (by decide) rfl (eI_of _) ?_
                      cases h
                      exact Ru.iret (by decide +kernel) rfl rfl
                    · replace h := if_f b15 h
                      refine Ru.sw (d := 99) (lo2 := 0) (hi := 8) (offs := #[52, 57, 63, 69, 74, 79, 84, 89, 94]) (len := 52) (tg := 119) (by decide +kernel) (by simp only [mn_opC]; rw [eI_to g1, if_pos (by omega)]; rfl) ?_
                      refine Ru.kI (q := (.iconst 0, 1)) (c := 0) (by decide +kernel) rfl (by decide) ?_
                      cases h
                      exact Ru.iret (by decide +kernel) rfl rfl
  · replace h := if_f b2 h
    refine Ru.br (k := .lt) (off := 9) (bb := false) (tg := 5) (by decide +kernel) (by decide +kernel) (cz (ci_lt0 g1 (by decide) b2)) rfl ?_
    refine Ru.op (q := (.iload_n 1, 1)) (by decide +kernel) rfl ?_
    refine Ru.kI (q := (.bipush 8, 2)) (c := 8) (by decide +kernel) rfl (by decide) ?_
    by_cases b16 : 8 < v1
    · replace h := if_t b16 h
      refine Ru.br2 (k := .le) (off := 7) (bb := false) (tg := 11) (by decide +kernel) (by decide +kernel) (ci_le0 g1 (by decide) b16) rfl ?_
      refine Ru.kI (q := (.iconst 1, 1)) (c := 1) (by decide +kernel) rfl (by decide) ?_
      refine Ru.op (q := (.goto 4, 3)) (by decide +kernel) rfl ?_
      refine Ru.putH (i := 120) (by decide +kernel) (by rfl) (hp36 _) (by decide) (Nat.le_of_ble_eq_true rfl) rfl (by decide +kernel) (pf_36_0 _ _) ?_
      refine Ru.op (q := (.iload_n 1, 1)) (by decide +kernel) rfl ?_
      by_cases b17 : v1 = 0
      · replace h := if_t b17 h
        refine Ru.sw (d := 99) (lo2 := 0) (hi := 8) (offs := #[52, 57, 63, 69, 74, 79, 84, 89, 94]) (len := 52) (tg := 72) (by decide +kernel) (by rw [b17]; decide +kernel) ?_
        refine Ru.op (q := (.aload_n 0, 1)) (by decide +kernel) rfl ?_
        refine Ru.getI (i := 263) (x := (S.F 36 9)) (by decide +kernel) (by rfl) (hp36 _) (by decide) rfl (eI_of _) ?_
        cases h
        exact Ru.iret (by decide +kernel) rfl rfl
      · replace h := if_f b17 h
        by_cases b18 : v1 = 1
        · replace h := if_t b18 h
          refine Ru.sw (d := 99) (lo2 := 0) (hi := 8) (offs := #[52, 57, 63, 69, 74, 79, 84, 89, 94]) (len := 52) (tg := 77) (by decide +kernel) (by rw [b18]; decide +kernel) ?_
          refine Ru.op (q := (.aload_n 0, 1)) (by decide +kernel) rfl ?_
          refine Ru.kI (q := (.iconst 0, 1)) (c := 0) (by decide +kernel) rfl (by decide) ?_
          obtain ⟨o19, e20, h⟩ := ob_some h
          refine Ru.vcall (i := 305) (j2 := 135) (as := [vI 0]) (by decide +kernel) (by rfl) rfl rfl (hp36 _) (by decide) ⟨(Nat.le_of_ble_eq_true rfl), (by show 19 + 4 ≤ 223; exact Nat.le_of_ble_eq_true rfl), Nat.le_of_ble_eq_true rfl, Nat.le_of_ble_eq_true rfl⟩ ((g135_ok e20).up (Nat.le_of_ble_eq_true rfl) (Nat.le_of_ble_eq_true rfl)) ?_
          cases h
          exact Ru.iret (by decide +kernel) rfl rfl
        · replace h := if_f b18 h
          by_cases b21 : v1 = 2
          · replace h := if_t b21 h
            refine Ru.sw (d := 99) (lo2 := 0) (hi := 8) (offs := #[52, 57, 63, 69, 74, 79, 84, 89, 94]) (len := 52) (tg := 83) (by decide +kernel) (by rw [b21]; decide +kernel) ?_
            refine Ru.op (q := (.aload_n 0, 1)) (by decide +kernel) rfl ?_
            refine Ru.kI (q := (.iconst 1, 1)) (c := 1) (by decide +kernel) rfl (by decide) ?_
            obtain ⟨o22, e23, h⟩ := ob_some h
            refine Ru.vcall (i := 305) (j2 := 135) (as := [vI 1]) (by decide +kernel) (by rfl) rfl rfl (hp36 _) (by decide) ⟨(Nat.le_of_ble_eq_true rfl), (by show 19 + 4 ≤ 223; exact Nat.le_of_ble_eq_true rfl), Nat.le_of_ble_eq_true rfl, Nat.le_of_ble_eq_true rfl⟩ ((g135_ok e23).up (Nat.le_of_ble_eq_true rfl) (Nat.le_of_ble_eq_true rfl)) ?_
            cases h
            exact Ru.iret (by decide +kernel) rfl rfl
          · replace h := if_f b21 h
            by_cases b24 : v1 = 3
            · replace h := if_t b24 h
              refine Ru.sw (d := 99) (lo2 := 0) (hi := 8) (offs := #[52, 57, 63, 69, 74, 79, 84, 89, 94]) (len := 52) (tg := 89) (by decide +kernel) (by rw [b24]; decide +kernel) ?_
              refine Ru.op (q := (.aload_n 0, 1)) (by decide +kernel) rfl ?_
              refine Ru.getI (i := 324) (x := (S.F 36 16)) (by decide +kernel) (by rfl) (hp36 _) (by decide) rfl (eI_of _) ?_
              cases h
              exact Ru.iret (by decide +kernel) rfl rfl
            · replace h := if_f b24 h
              by_cases b25 : v1 = 4
              · replace h := if_t b25 h
                refine Ru.sw (d := 99) (lo2 := 0) (hi := 8) (offs := #[52, 57, 63, 69, 74, 79, 84, 89, 94]) (len := 52) (tg := 94) (by decide +kernel) (by rw [b25]; decide +kernel) ?_
                refine Ru.op (q := (.aload_n 0, 1)) (by decide +kernel) rfl ?_
                refine Ru.getI (i := 273) (x := (S.F 36 17)) (by decide +kernel) (by rfl) (hp36 _) (by decide) rfl (eI_of _) ?_
                cases h
                exact Ru.iret (by decide +kernel) rfl rfl
              · replace h := if_f b25 h
                by_cases b26 : v1 = 5
                · replace h := if_t b26 h
                  refine Ru.sw (d := 99) (lo2 := 0) (hi := 8) (offs := #[52, 57, 63, 69, 74, 79, 84, 89, 94]) (len := 52) (tg := 99) (by decide +kernel) (by rw [b26]; decide +kernel) ?_
                  refine Ru.op (q := (.aload_n 0, 1)) (by decide +kernel) rfl ?_
                  refine Ru.getI (i := 279) (x := (S.F 36 18)) (by decide +kernel) (by rfl) (hp36 _) (by decide) rfl (eI_of _) ?_
                  cases h
                  exact Ru.iret (by decide +kernel) rfl rfl
                · replace h := if_f b26 h
                  by_cases b27 : v1 = 6
                  · replace h := if_t b27 h
                    refine Ru.sw (d := 99) (lo2 := 0) (hi := 8) (offs := #[52, 57, 63, 69, 74, 79, 84, 89, 94]) (len := 52) (tg := 104) (by decide +kernel) (by rw [b27]; decide +kernel) ?_
                    refine Ru.op (q := (.aload_n 0, 1)) (by decide +kernel) rfl ?_
                    refine Ru.getI (i := 285) (x := (S.F 36 19)) (by decide +kernel) (by rfl) (hp36 _) (by decide) rfl (eI_of _) ?_
                    cases h
                    exact Ru.iret (by decide +kernel) rfl rfl
                  · replace h := if_f b27 h
                    by_cases b28 : v1 = 7
                    · replace h := if_t b28 h
                      refine Ru.sw (d := 99) (lo2 := 0) (hi := 8) (offs := #[52, 57, 63, 69, 74, 79, 84, 89, 94]) (len := 52) (tg := 109) (by decide +kernel) (by rw [b28]; decide +kernel) ?_
                      refine Ru.op (q := (.aload_n 0, 1)) (by decide +kernel) rfl ?_
                      refine Ru.getI (i := 195) (x := (S.F 36 20)) (by decide +kernel) (by rfl) (hp36 _) (by decide) rfl (eI_of _) ?_
                      cases h
                      exact Ru.iret (by decide +kernel) rfl rfl
                    · replace h := if_f b28 h
                      by_cases b29 : v1 = 8
                      · replace h := if_t b29 h
                        refine Ru.sw (d := 99) (lo2 := 0) (hi := 8) (offs := #[52, 57, 63, 69, 74, 79, 84, 89, 94]) (len := 52) (tg := 114) (by decide +kernel) (by rw [b29]; decide +kernel) ?_
                        refine Ru.op (q := (.aload_n 0, 1)) (by decide +kernel) rfl ?_
                        refine Ru.getI (i := 356) (x := (S.F 36 10)) (by decide +kernel) (by rfl) (hp36 _) (by decide) rfl (eI_of _) ?_
                        cases h
                        exact Ru.iret (by decide +kernel) rfl rfl
                      · replace h := if_f b29 h
                        refine Ru.sw (d := 99) (lo2 := 0) (hi := 8) (offs := #[52, 57, 63, 69, 74, 79, 84, 89, 94]) (len := 52) (tg := 119) (by decide +kernel) (by simp only [mn_opC]; rw [eI_to g1, if_pos (by omega)]; rfl) ?_
                        refine Ru.kI (q := (.iconst 0, 1)) (c := 0) (by decide +kernel) rfl (by decide) ?_
                        cases h
                        exact Ru.iret (by decide +kernel) rfl rfl
    · replace h := if_f b16 h
      refine Ru.br2 (k := .le) (off := 7) (bb := true) (tg := 15) (by decide +kernel) (by decide +kernel) (ci_le1 g1 (by decide) b16) rfl ?_
      refine Ru.kI (q := (.iconst 0, 1)) (c := 0) (by decide +kernel) rfl (by decide) ?_
      refine Ru.putH (i := 120) (by decide +kernel) (by rfl) (hp36 _) (by decide) (Nat.le_of_ble_eq_true rfl) rfl (by decide +kernel) (pf_36_0 _ _) ?_
      refine Ru.op (q := (.iload_n 1, 1)) (by decide +kernel) rfl ?_
      by_cases b30 : v1 = 0
      · replace h := if_t b30 h
        refine Ru.sw (d := 99) (lo2 := 0) (hi := 8) (offs := #[52, 57, 63, 69, 74, 79, 84, 89, 94]) (len := 52) (tg := 72) (by decide +kernel) (by rw [b30]; decide +kernel) ?_
        refine Ru.op (q := (.aload_n 0, 1)) (by decide +kernel) rfl ?_
        refine Ru.getI (i := 263) (x := (S.F 36 9)) (by decide +kernel) (by rfl) (hp36 _) (by decide) rfl (eI_of _) ?_
        cases h
        exact Ru.iret (by decide +kernel) rfl rfl
      · replace h := if_f b30 h
        by_cases b31 : v1 = 1
        · replace h := if_t b31 h
          refine Ru.sw (d := 99) (lo2 := 0) (hi := 8) (offs := #[52, 57, 63, 69, 74, 79, 84, 89, 94]) (len := 52) (tg := 77) (by decide +kernel) (by rw [b31]; decide +kernel) ?_
          refine Ru.op (q := (.aload_n 0, 1)) (by decide +kernel) rfl ?_
          refine Ru.kI (q := (.iconst 0, 1)) (c := 0) (by decide +kernel) rfl (by decide) ?_
          obtain ⟨o32, e33, h⟩ := ob_some h
          refine Ru.vcall (i := 305) (j2 := 135) (as := [vI 0]) (by decide +kernel) (by rfl) rfl rfl (hp36 _) (by decide) ⟨(Nat.le_of_ble_eq_true rfl), (by show 19 + 4 ≤ 223; exact Nat.le_of_ble_eq_true rfl), Nat.le_of_ble_eq_true rfl, Nat.le_of_ble_eq_true rfl⟩ ((g135_ok e33).up (Nat.le_of_ble_eq_true rfl) (Nat.le_of_ble_eq_true rfl)) ?_
          cases h
          exact Ru.iret (by decide +kernel) rfl rfl
        · replace h := if_f b31 h
          by_cases b34 : v1 = 2
          · replace h := if_t b34 h
            refine Ru.sw (d := 99) (lo2 := 0) (hi := 8) (offs := #[52, 57, 63, 69, 74, 79, 84, 89, 94]) (len := 52) (tg := 83) (by decide +kernel) (by rw [b34]; decide +kernel) ?_
            refine Ru.op (q := (.aload_n 0, 1)) (by decide +kernel) rfl ?_
            refine Ru.kI (q := (.iconst 1, 1)) (c := 1) (by decide +kernel) rfl (by decide) ?_
            obtain ⟨o35, e36, h⟩ := ob_some h
            refine Ru.vcall (i := 305) (j2 := 135) (as := [vI 1]) (by decide +kernel) (by rfl) rfl rfl (hp36 _) (by decide) ⟨(Nat.le_of_ble_eq_true rfl), (by show 19 + 4 ≤ 223; exact Nat.le_of_ble_eq_true rfl), Nat.le_of_ble_eq_true rfl, Nat.le_of_ble_eq_true rfl⟩ ((g135_ok e36).up (Nat.le_of_ble_eq_true rfl) (Nat.le_of_ble_eq_true rfl)) ?_
            cases h
            exact Ru.iret (by decide +kernel) rfl rfl
          · replace h := if_f b34 h
            by_cases b37 : v1 = 3
            · replace h := if_t b37 h
              refine Ru.sw (d := 99) (lo2 := 0) (hi := 8) (offs := #[52, 57, 63, 69, 74, 79, 84, 89, 94]) (len := 52) (tg := 89) (by decide +kernel) (by rw [b37]; decide +kernel) ?_
              refine Ru.op (q := (.aload_n 0, 1)) (by decide +kernel) rfl ?_
              refine Ru.getI (i := 324) (x := (S.F 36 16)) (by decide +kernel) (by rfl) (hp36 _) (by decide) rfl (eI_of _) ?_
              cases h
              exact Ru.iret (by decide +kernel) rfl rfl
            · replace h := if_f b37 h
              by_cases b38 : v1 = 4
              · replace h := if_t b38 h
                refine Ru.sw (d := 99) (lo2 := 0) (hi := 8) (offs := #[52, 57, 63, 69, 74, 79, 84, 89, 94]) (len := 52) (tg := 94) (by decide +kernel) (by rw [b38]; decide +kernel) ?_
                refine Ru.op (q := (.aload_n 0, 1)) (by decide +kernel) rfl ?_
                refine Ru.getI (i := 273) (x := (S.F 36 17)) (by decide +kernel) (by rfl) (hp36 _) (by decide) rfl (eI_of _) ?_
                cases h
                exact Ru.iret (by decide +kernel) rfl rfl
              · replace h := if_f b38 h
                by_cases b39 : v1 = 5
                · replace h := if_t b39 h
                  refine Ru.sw (d := 99) (lo2 := 0) (hi := 8) (offs := #[52, 57, 63, 69, 74, 79, 84, 89, 94]) (len := 52) (tg := 99) (by decide +kernel) (by rw [b39]; decide +kernel) ?_
                  refine Ru.op (q := (.aload_n 0, 1)) (by decide +kernel) rfl ?_
                  refine Ru.getI (i := 279) (x := (S.F 36 18)) (by decide +kernel) (by rfl) (hp36 _) (by decide) rfl (eI_of _) ?_
                  cases h
                  exact Ru.iret (by decide +kernel) rfl rfl
                · replace h := if_f b39 h
                  by_cases b40 : v1 = 6
                  · replace h := if_t b40 h
                    refine Ru.sw (d := 99) (lo2 := 0) (hi := 8) (offs := #[52, 57, 63, 69, 74, 79, 84, 89, 94]) (len := 52) (tg := 104) (by decide +kernel) (by rw [b40]; decide +kernel) ?_
                    refine Ru.op (q := (.aload_n 0, 1)) (by decide +kernel) rfl ?_
                    refine Ru.getI (i := 285) (x := (S.F 36 19)) (by decide +kernel) (by rfl) (hp36 _) (by decide) rfl (eI_of _) ?_
                    cases h
                    exact Ru.iret (by decide +kernel) rfl rfl
                  · replace h := if_f b40 h
                    by_cases b41 : v1 = 7
                    · replace h := if_t b41 h
                      refine Ru.sw (d := 99) (lo2 := 0) (hi := 8) (offs := #[52, 57, 63, 69, 74, 79, 84, 89, 94]) (len := 52) (tg := 109) (by decide +kernel) (by rw [b41]; decide +kernel) ?_
                      refine Ru.op (q := (.aload_n 0, 1)) (by decide +kernel) rfl ?_
                      refine Ru.getI (i := 195) (x := (S.F 36 20)) (by decide +kernel) (by rfl) (hp36 _) (by decide) rfl (eI_of _) ?_
                      cases h
                      exact Ru.iret (by decide +kernel) rfl rfl
                    · replace h := if_f b41 h
                      by_cases b42 : v1 = 8
                      · replace h := if_t b42 h
                        refine Ru.sw (d := 99) (lo2 := 0) (hi := 8) (offs := #[52, 57, 63, 69, 74, 79, 84, 89, 94]) (len := 52) (tg := 114) (by decide +kernel) (by rw [b42]; decide +kernel) ?_
                        refine Ru.op (q := (.aload_n 0, 1)) (by decide +kernel) rfl ?_
                        refine Ru.getI (i := 356) (x := (S.F 36 10)) (by decide +kernel) (by rfl) (hp36 _) (by decide) rfl (eI_of _) ?_
                        cases h
                        exact Ru.iret (by decide +kernel) rfl rfl
                      · replace h := if_f b42 h
                        refine Ru.sw (d := 99) (lo2 := 0) (hi := 8) (offs := #[52, 57, 63, 69, 74, 79, 84, 89, 94]) (len := 52) (tg := 119) (by decide +kernel) (by simp only [mn_opC]; rw [eI_to g1, if_pos (by omega)]; rfl) ?_
                        refine Ru.kI (q := (.iconst 0, 1)) (c := 0) (by decide +kernel) rfl (by decide) ?_
                        cases h
                        exact Ru.iret (by decide +kernel) rfl rfl
def g160 (S : St) (v1 : Int) : Option (Int) := gd (inR v1) (if v1 < 0 then some 0 else if v1 < (S.F 36 10) then some 1 else some 0)
set_option maxRecDepth 100000 in
set_option maxHeartbeats 4000000 in
theorem g160_ok {S : St} {v1 : Int} {o : Int} (h : g160 S v1 = some o) : Ru none 10 200 160 (0, mn_pad (mn_ent [.ref 36, vI v1]) 2, [], S.ns, Hp S) ((0, some (vI o)), S.ns, Hp S) := by
  unfold g160 at h
  show Ru none 10 200 160 (0, [some (.ref 36), some (vI v1)], [], S.ns, Hp S) _
  refine Ru.op (q := (.iload_n 1, 1)) (by decide +kernel) rfl ?_
  obtain ⟨g1, h⟩ := gd_some h
  by_cases b2 : v1 < 0
  · replace h := if_t b2 h
    refine Ru.br (k := .lt) (off := 15) (bb := true) (tg := 16) (by decide +kernel) (by decide +kernel) (cz (ci_lt1 g1 (by decide) b2)) rfl ?_
    refine Ru.kI (q := (.iconst 0, 1)) (c := 0) (by decide +kernel) rfl (by decide) ?_
    cases h
    exact Ru.iret (by decide +kernel) rfl (nar_b1 (by decide))
  · replace h := if_f b2 h
    refine Ru.br (k := .lt) (off := 15) (bb := false) (tg := 4) (by decide +kernel) (by decide +kernel) (cz (ci_lt0 g1 (by decide) b2)) rfl ?_
    refine Ru.op (q := (.iload_n 1, 1)) (by decide +kernel) rfl ?_
    refine Ru.op (q := (.aload_n 0, 1)) (by decide +kernel) rfl ?_
    refine Ru.getI (i := 356) (x := (S.F 36 10)) (by decide +kernel) (by rfl) (hp36 _) (by decide) rfl (eI_of _) ?_
    by_cases b3 : v1 < (S.F 36 10)
    · replace h := if_t b3 h
      refine Ru.br2 (k := .ge) (off := 7) (bb := false) (tg := 12) (by decide +kernel) (by decide +kernel) (ci_ge0 g1 (inR_to _) b3) rfl ?_
      refine Ru.kI (q := (.iconst 1, 1)) (c := 1) (by decide +kernel) rfl (by decide) ?_
      refine Ru.op (q := (.goto 4, 3)) (by decide +kernel) rfl ?_
      cases h
      exact Ru.iret (by decide +kernel) rfl (nar_b1 (by decide))
    · replace h := if_f b3 h
      refine Ru.br2 (k := .ge) (off := 7) (bb := true) (tg := 16) (by decide +kernel) (by decide +kernel) (ci_ge1 g1 (inR_to _) b3) rfl ?_
      refine Ru.kI (q := (.iconst 0, 1)) (c := 0) (by decide +kernel) rfl (by decide) ?_
      cases h
      exact Ru.iret (by decide +kernel) rfl (nar_b1 (by decide))
def g159 (S : St) (v1 : Int) (v2 : Int) (v3 : Int) (v4 : Int) : Option (Int) := gd (inR v1) (if v1 = (-1) then gd (inR v2) (if v2 < 0 then some 0 else if v2 < (S.F 36 9) then gd (ixR v2 100) (if (S.A 44 v2) = 0 then some 1 else some 0) else some 0) else gd (inR v3) (if v3 = (-1) then ob (g160 S v1) (fun o10 => gd (inR o10) (if o10 = 0 then some 0 else ob (g160 S v1) (fun o14 => gd (inR o14) (if o14 = 0 then some 0 else gd (inR v2) (if v2 < 0 then some 0 else gd (inR v4) (if v4 < 0 then some 0 else gd (ixR (100 + v1) 125) (if v2 < (S.A 41 (100 + v1)) then if v4 < (S.A 41 (100 + v1)) then if v2 = v4 then some 0 else some 1 else some 0 else some 0))))))) else ob (g160 S v1) (fun o26 => gd (inR o26) (if o26 = 0 then some 0 else ob (g160 S v3) (fun o30 => gd (inR o30) (if o30 = 0 then some 0 else gd (inR v2) (if v2 < 0 then some 0 else gd (inR v4) (if v4 < 0 then some 0 else gd (ixR (100 + v1) 125) (if v2 < (S.A 41 (100 + v1)) then gd (ixR (100 + v3) 125) (if v4 < (S.A 41 (100 + v3)) then some 1 else some 0) else some 0)))))))))
set_option maxRecDepth 100000 in
set_option maxHeartbeats 4000000 in
theorem g159_ok {S : St} {v1 : Int} {v2 : Int} {v3 : Int} {v4 : Int} {o : Int} (h : g159 S v1 v2 v3 v4 = some o) : Ru none 11 221 159 (0, mn_pad (mn_ent [.ref 36, vI v1, vI v2, vI v3, vI v4]) 6, [], S.ns, Hp S) ((0, some (vI o)), S.ns, Hp S) := by
  unfold g159 at h
  show Ru none 11 221 159 (0, [some (.ref 36), some (vI v1), some (vI v2), some (vI v3), some (vI v4), none], [], S.ns, Hp S) _
  refine Ru.op (q := (.iload_n 1, 1)) (by decide +kernel) rfl ?_
  refine Ru.kI (q := (.iconst (-1), 1)) (c := (-1)) (by decide +kernel) rfl (by decide) ?_
  obtain ⟨g1, h⟩ := gd_some h
  by_cases b2 : v1 = (-1)
  · replace h := if_t b2 h
    refine Ru.br2 (k := .ne) (off := 30) (bb := false) (tg := 5) (by decide +kernel) (by decide +kernel) (ci_ne0 g1 (by decide) b2) rfl ?_
    refine Ru.op (q := (.iload_n 2, 1)) (by decide +kernel) rfl ?_
    obtain ⟨g3, h⟩ := gd_some h
    by_cases b4 : v2 < 0
    · replace h := if_t b4 h
      refine Ru.br (k := .lt) (off := 24) (bb := true) (tg := 30) (by decide +kernel) (by decide +kernel) (cz (ci_lt1 g3 (by decide) b4)) rfl ?_
      refine Ru.kI (q := (.iconst 0, 1)) (c := 0) (by decide +kernel) rfl (by decide) ?_
      cases h
      exact Ru.iret (by decide +kernel) rfl (nar_b1 (by decide))
    · replace h := if_f b4 h
      refine Ru.br (k := .lt) (off := 24) (bb := false) (tg := 9) (by decide +kernel) (by decide +kernel) (cz (ci_lt0 g3 (by decide) b4)) rfl ?_
      refine Ru.op (q := (.iload_n 2, 1)) (by decide +kernel) rfl ?_
      refine Ru.op (q := (.aload_n 0, 1)) (by decide +kernel) rfl ?_
      refine Ru.getI (i := 263) (x := (S.F 36 9)) (by decide +kernel) (by rfl) (hp36 _) (by decide) rfl (eI_of _) ?_
      by_cases b5 : v2 < (S.F 36 9)
      · replace h := if_t b5 h
        refine Ru.br2 (k := .ge) (off := 16) (bb := false) (tg := 17) (by decide +kernel) (by decide +kernel) (ci_ge0 g3 (inR_to _) b5) rfl ?_
        refine Ru.op (q := (.aload_n 0, 1)) (by decide +kernel) rfl ?_
        refine Ru.get (i := 36) (v := .ref 44) (by decide +kernel) (by rfl) (hp36 _) (by decide) rfl ?_
        refine Ru.op (q := (.iload_n 2, 1)) (by decide +kernel) rfl ?_
        obtain ⟨g6, h⟩ := gd_some h
        refine Ru.ildI (i := v2) (z := (S.A 44 v2)) (by decide +kernel) (hp44 _) g6 (eI_of _) ?_
        by_cases b7 : (S.A 44 v2) = 0
        · replace h := if_t b7 h
          refine Ru.br (k := .ne) (off := 7) (bb := false) (tg := 26) (by decide +kernel) (by decide +kernel) (cz (ci_ne0 (inR_to _) (by decide) b7)) rfl ?_
          refine Ru.kI (q := (.iconst 1, 1)) (c := 1) (by decide +kernel) rfl (by decide) ?_
          refine Ru.op (q := (.goto 4, 3)) (by decide +kernel) rfl ?_
          cases h
          exact Ru.iret (by decide +kernel) rfl (nar_b1 (by decide))
        · replace h := if_f b7 h
          refine Ru.br (k := .ne) (off := 7) (bb := true) (tg := 30) (by decide +kernel) (by decide +kernel) (cz (ci_ne1 (inR_to _) (by decide) b7)) rfl ?_
          refine Ru.kI (q := (.iconst 0, 1)) (c := 0) (by decide +kernel) rfl (by decide) ?_
          cases h
          exact Ru.iret (by decide +kernel) rfl (nar_b1 (by decide))
      · replace h := if_f b5 h
        refine Ru.br2 (k := .ge) (off := 16) (bb := true) (tg := 30) (by decide +kernel) (by decide +kernel) (ci_ge1 g3 (inR_to _) b5) rfl ?_
        refine Ru.kI (q := (.iconst 0, 1)) (c := 0) (by decide +kernel) rfl (by decide) ?_
        cases h
        exact Ru.iret (by decide +kernel) rfl (nar_b1 (by decide))
  · replace h := if_f b2 h
    refine Ru.br2 (k := .ne) (off := 30) (bb := true) (tg := 32) (by decide +kernel) (by decide +kernel) (ci_ne1 g1 (by decide) b2) rfl ?_
    refine Ru.op (q := (.iload_n 3, 1)) (by decide +kernel) rfl ?_
    refine Ru.kI (q := (.iconst (-1), 1)) (c := (-1)) (by decide +kernel) rfl (by decide) ?_
    obtain ⟨g8, h⟩ := gd_some h
    by_cases b9 : v3 = (-1)
    · replace h := if_t b9 h
      refine Ru.br2 (k := .ne) (off := 7) (bb := false) (tg := 37) (by decide +kernel) (by decide +kernel) (ci_ne0 g8 (by decide) b9) rfl ?_
      refine Ru.op (q := (.iload_n 1, 1)) (by decide +kernel) rfl ?_
      refine Ru.op (q := (.goto 4, 3)) (by decide +kernel) rfl ?_
      refine Ru.op (q := (.istore 5, 2)) (S' := (44, [some (.ref 36), some (vI v1), some (vI v2), some (vI v3), some (vI v4), some (vI v1)], [], _, _)) (by decide +kernel) rfl ?_
      refine Ru.op (q := (.aload_n 0, 1)) (by decide +kernel) rfl ?_
      refine Ru.op (q := (.iload_n 1, 1)) (by decide +kernel) rfl ?_
      obtain ⟨o10, e11, h⟩ := ob_some h
      refine Ru.vcall (i := 362) (j2 := 160) (as := [vI v1]) (by decide +kernel) (by rfl) rfl rfl (hp36 _) (by decide) ⟨(Nat.le_of_ble_eq_true rfl), (by show 19 + 2 ≤ 221; exact Nat.le_of_ble_eq_true rfl), Nat.le_of_ble_eq_true rfl, Nat.le_of_ble_eq_true rfl⟩ ((g160_ok e11).up (Nat.le_of_ble_eq_true rfl) (Nat.le_of_ble_eq_true rfl)) ?_
      obtain ⟨g12, h⟩ := gd_some h
      by_cases b13 : o10 = 0
      · replace h := if_t b13 h
        refine Ru.br (k := .eq) (off := 21) (bb := true) (tg := 70) (by decide +kernel) (by decide +kernel) (cz (ci_eq1 g12 (by decide) b13)) rfl ?_
        refine Ru.kI (q := (.iconst 0, 1)) (c := 0) (by decide +kernel) rfl (by decide) ?_
        cases h
        exact Ru.iret (by decide +kernel) rfl (nar_b1 (by decide))
      · replace h := if_f b13 h
        refine Ru.br (k := .eq) (off := 21) (bb := false) (tg := 52) (by decide +kernel) (by decide +kernel) (cz (ci_eq0 g12 (by decide) b13)) rfl ?_
        refine Ru.op (q := (.aload_n 0, 1)) (by decide +kernel) rfl ?_
        refine Ru.op (q := (.iload 5, 2)) (by decide +kernel) rfl ?_
        obtain ⟨o14, e15, h⟩ := ob_some h
        refine Ru.vcall (i := 362) (j2 := 160) (as := [vI v1]) (by decide +kernel) (by rfl) rfl rfl (hp36 _) (by decide) ⟨(Nat.le_of_ble_eq_true rfl), (by show 19 + 2 ≤ 221; exact Nat.le_of_ble_eq_true rfl), Nat.le_of_ble_eq_true rfl, Nat.le_of_ble_eq_true rfl⟩ ((g160_ok e15).up (Nat.le_of_ble_eq_true rfl) (Nat.le_of_ble_eq_true rfl)) ?_
        obtain ⟨g16, h⟩ := gd_some h
        by_cases b17 : o14 = 0
        · replace h := if_t b17 h
          refine Ru.br (k := .eq) (off := 12) (bb := true) (tg := 70) (by decide +kernel) (by decide +kernel) (cz (ci_eq1 g16 (by decide) b17)) rfl ?_
          refine Ru.kI (q := (.iconst 0, 1)) (c := 0) (by decide +kernel) rfl (by decide) ?_
          cases h
          exact Ru.iret (by decide +kernel) rfl (nar_b1 (by decide))
        · replace h := if_f b17 h
          refine Ru.br (k := .eq) (off := 12) (bb := false) (tg := 61) (by decide +kernel) (by decide +kernel) (cz (ci_eq0 g16 (by decide) b17)) rfl ?_
          refine Ru.op (q := (.iload_n 2, 1)) (by decide +kernel) rfl ?_
          obtain ⟨g18, h⟩ := gd_some h
          by_cases b19 : v2 < 0
          · replace h := if_t b19 h
            refine Ru.br (k := .lt) (off := 8) (bb := true) (tg := 70) (by decide +kernel) (by decide +kernel) (cz (ci_lt1 g18 (by decide) b19)) rfl ?_
            refine Ru.kI (q := (.iconst 0, 1)) (c := 0) (by decide +kernel) rfl (by decide) ?_
            cases h
            exact Ru.iret (by decide +kernel) rfl (nar_b1 (by decide))
          · replace h := if_f b19 h
            refine Ru.br (k := .lt) (off := 8) (bb := false) (tg := 65) (by decide +kernel) (by decide +kernel) (cz (ci_lt0 g18 (by decide) b19)) rfl ?_
            refine Ru.op (q := (.iload 4, 2)) (by decide +kernel) rfl ?_
            obtain ⟨g20, h⟩ := gd_some h
            by_cases b21 : v4 < 0
            · replace h := if_t b21 h
              refine Ru.br (k := .ge) (off := 5) (bb := false) (tg := 70) (by decide +kernel) (by decide +kernel) (cz (ci_ge0 g20 (by decide) b21)) rfl ?_
              refine Ru.kI (q := (.iconst 0, 1)) (c := 0) (by decide +kernel) rfl (by decide) ?_
              cases h
              exact Ru.iret (by decide +kernel) rfl (nar_b1 (by decide))
            · replace h := if_f b21 h
              refine Ru.br (k := .ge) (off := 5) (bb := true) (tg := 72) (by decide +kernel) (by decide +kernel) (cz (ci_ge1 g20 (by decide) b21)) rfl ?_
              refine Ru.op (q := (.iload_n 2, 1)) (by decide +kernel) rfl ?_
              refine Ru.op (q := (.aload_n 0, 1)) (by decide +kernel) rfl ?_
              refine Ru.get (i := 27) (v := .ref 41) (by decide +kernel) (by rfl) (hp36 _) (by decide) rfl ?_
              refine Ru.kI (q := (.bipush 100, 2)) (c := 100) (by decide +kernel) rfl (by decide) ?_
              refine Ru.op (q := (.iload_n 1, 1)) (by decide +kernel) rfl ?_
              refine Ru.ar2 (i := .iadd) (z := (100 + v1)) (by decide +kernel) rfl (ar_add _ _) ?_
              obtain ⟨g22, h⟩ := gd_some h
              refine Ru.ildI (i := (100 + v1)) (z := (S.A 41 (100 + v1))) (by decide +kernel) (hp41 _) g22 (eI_of _) ?_
              by_cases b23 : v2 < (S.A 41 (100 + v1))
              · replace h := if_t b23 h
                refine Ru.br2 (k := .ge) (off := 33) (bb := false) (tg := 85) (by decide +kernel) (by decide +kernel) (ci_ge0 g18 (inR_to _) b23) rfl ?_
                refine Ru.op (q := (.iload 4, 2)) (by decide +kernel) rfl ?_
                refine Ru.op (q := (.aload_n 0, 1)) (by decide +kernel) rfl ?_
                refine Ru.get (i := 27) (v := .ref 41) (by decide +kernel) (by rfl) (hp36 _) (by decide) rfl ?_
                refine Ru.kI (q := (.bipush 100, 2)) (c := 100) (by decide +kernel) rfl (by decide) ?_
                refine Ru.op (q := (.iload 5, 2)) (by decide +kernel) rfl ?_
                refine Ru.ar2 (i := .iadd) (z := (100 + v1)) (by decide +kernel) rfl (ar_add _ _) ?_
                refine Ru.ildI (i := (100 + v1)) (z := (S.A 41 (100 + v1))) (by decide +kernel) (hp41 _) g22 (eI_of _) ?_
                by_cases b24 : v4 < (S.A 41 (100 + v1))
                · replace h := if_t b24 h
                  refine Ru.br2 (k := .ge) (off := 18) (bb := false) (tg := 100) (by decide +kernel) (by decide +kernel) (ci_ge0 g20 (inR_to _) b24) rfl ?_
                  refine Ru.op (q := (.iload_n 3, 1)) (by decide +kernel) rfl ?_
                  refine Ru.kI (q := (.iconst (-1), 1)) (c := (-1)) (by decide +kernel) rfl (by decide) ?_
                  refine Ru.br2 (k := .ne) (off := 9) (bb := false) (tg := 105) (by decide +kernel) (by decide +kernel) (ci_ne0 g8 (by decide) b9) rfl ?_
                  refine Ru.op (q := (.iload_n 2, 1)) (by decide +kernel) rfl ?_
                  refine Ru.op (q := (.iload 4, 2)) (by decide +kernel) rfl ?_
                  by_cases b25 : v2 = v4
                  · replace h := if_t b25 h
                    refine Ru.br2 (k := .eq) (off := 7) (bb := true) (tg := 115) (by decide +kernel) (by decide +kernel) (ci_eq1 g18 g20 b25) rfl ?_
                    refine Ru.kI (q := (.iconst 0, 1)) (c := 0) (by decide +kernel) rfl (by decide) ?_
                    cases h
                    exact Ru.iret (by decide +kernel) rfl (nar_b1 (by decide))
                  · replace h := if_f b25 h
                    refine Ru.br2 (k := .eq) (off := 7) (bb := false) (tg := 111) (by decide +kernel) (by decide +kernel) (ci_eq0 g18 g20 b25) rfl ?_
                    refine Ru.kI (q := (.iconst 1, 1)) (c := 1) (by decide +kernel) rfl (by decide) ?_
                    refine Ru.op (q := (.goto 4, 3)) (by decide +kernel) rfl ?_
                    cases h
                    exact Ru.iret (by decide +kernel) rfl (nar_b1 (by decide))
                · replace h := if_f b24 h
                  refine Ru.br2 (k := .ge) (off := 18) (bb := true) (tg := 115) (by decide +kernel) (by decide +kernel) (ci_ge1 g20 (inR_to _) b24) rfl ?_
                  refine Ru.kI (q := (.iconst 0, 1)) (c := 0) (by decide +kernel) rfl (by decide) ?_
                  cases h
                  exact Ru.iret (by decide +kernel) rfl (nar_b1 (by decide))
              · replace h := if_f b23 h
                refine Ru.br2 (k := .ge) (off := 33) (bb := true) (tg := 115) (by decide +kernel) (by decide +kernel) (ci_ge1 g18 (inR_to _) b23) rfl ?_
                refine Ru.kI (q := (.iconst 0, 1)) (c := 0) (by decide +kernel) rfl (by decide) ?_
                cases h
                exact Ru.iret (by decide +kernel) rfl (nar_b1 (by decide))
    · replace h := if_f b9 h
      refine Ru.br2 (k := .ne) (off := 7) (bb := true) (tg := 41) (by decide +kernel) (by decide +kernel) (ci_ne1 g8 (by decide) b9) rfl ?_
      refine Ru.op (q := (.iload_n 3, 1)) (by decide +kernel) rfl ?_
      refine Ru.op (q := (.istore 5, 2)) (S' := (44, [some (.ref 36), some (vI v1), some (vI v2), some (vI v3), some (vI v4), some (vI v3)], [], _, _)) (by decide +kernel) rfl ?_
      refine Ru.op (q := (.aload_n 0, 1)) (by decide +kernel) rfl ?_
      refine Ru.op (q := (.iload_n 1, 1)) (by decide +kernel) rfl ?_
      obtain ⟨o26, e27, h⟩ := ob_some h
      refine Ru.vcall (i := 362) (j2 := 160) (as := [vI v1]) (by decide +kernel) (by rfl) rfl rfl (hp36 _) (by decide) ⟨(Nat.le_of_ble_eq_true rfl), (by show 19 + 2 ≤ 221; exact Nat.le_of_ble_eq_true rfl), Nat.le_of_ble_eq_true rfl, Nat.le_of_ble_eq_true rfl⟩ ((g160_ok e27).up (Nat.le_of_ble_eq_true rfl) (Nat.le_of_ble_eq_true rfl)) ?_
      obtain ⟨g28, h⟩ := gd_some h
      by_cases b29 : o26 = 0
      · replace h := if_t b29 h
        refine Ru.br (k := .eq) (off := 21) (bb := true) (tg := 70) (by decide +kernel) (by decide +kernel) (cz (ci_eq1 g28 (by decide) b29)) rfl ?_
        refine Ru.kI (q := (.iconst 0, 1)) (c := 0) (by decide +kernel) rfl (by decide) ?_
        cases h
        exact Ru.iret (by decide +kernel) rfl (nar_b1 (by decide))
      · replace h := if_f b29 h
        refine Ru.br (k := .eq) (off := 21) (bb := false) (tg := 52) (by decide +kernel) (by decide +kernel) (cz (ci_eq0 g28 (by decide) b29)) rfl ?_
        refine Ru.op (q := (.aload_n 0, 1)) (by decide +kernel) rfl ?_
        refine Ru.op (q := (.iload 5, 2)) (by decide +kernel) rfl ?_
        obtain ⟨o30, e31, h⟩ := ob_some h
        refine Ru.vcall (i := 362) (j2 := 160) (as := [vI v3]) (by decide +kernel) (by rfl) rfl rfl (hp36 _) (by decide) ⟨(Nat.le_of_ble_eq_true rfl), (by show 19 + 2 ≤ 221; exact Nat.le_of_ble_eq_true rfl), Nat.le_of_ble_eq_true rfl, Nat.le_of_ble_eq_true rfl⟩ ((g160_ok e31).up (Nat.le_of_ble_eq_true rfl) (Nat.le_of_ble_eq_true rfl)) ?_
        obtain ⟨g32, h⟩ := gd_some h
        by_cases b33 : o30 = 0
        · replace h := if_t b33 h
          refine Ru.br (k := .eq) (off := 12) (bb := true) (tg := 70) (by decide +kernel) (by decide +kernel) (cz (ci_eq1 g32 (by decide) b33)) rfl ?_
          refine Ru.kI (q := (.iconst 0, 1)) (c := 0) (by decide +kernel) rfl (by decide) ?_
          cases h
          exact Ru.iret (by decide +kernel) rfl (nar_b1 (by decide))
        · replace h := if_f b33 h
          refine Ru.br (k := .eq) (off := 12) (bb := false) (tg := 61) (by decide +kernel) (by decide +kernel) (cz (ci_eq0 g32 (by decide) b33)) rfl ?_
          refine Ru.op (q := (.iload_n 2, 1)) (by decide +kernel) rfl ?_
          obtain ⟨g34, h⟩ := gd_some h
          by_cases b35 : v2 < 0
          · replace h := if_t b35 h
            refine Ru.br (k := .lt) (off := 8) (bb := true) (tg := 70) (by decide +kernel) (by decide +kernel) (cz (ci_lt1 g34 (by decide) b35)) rfl ?_
            refine Ru.kI (q := (.iconst 0, 1)) (c := 0) (by decide +kernel) rfl (by decide) ?_
            cases h
            exact Ru.iret (by decide +kernel) rfl (nar_b1 (by decide))
          · replace h := if_f b35 h
            refine Ru.br (k := .lt) (off := 8) (bb := false) (tg := 65) (by decide +kernel) (by decide +kernel) (cz (ci_lt0 g34 (by decide) b35)) rfl ?_
            refine Ru.op (q := (.iload 4, 2)) (by decide +kernel) rfl ?_
            obtain ⟨g36, h⟩ := gd_some h
            by_cases b37 : v4 < 0
            · replace h := if_t b37 h
              refine Ru.br (k := .ge) (off := 5) (bb := false) (tg := 70) (by decide +kernel) (by decide +kernel) (cz (ci_ge0 g36 (by decide) b37)) rfl ?_
              refine Ru.kI (q := (.iconst 0, 1)) (c := 0) (by decide +kernel) rfl (by decide) ?_
              cases h
              exact Ru.iret (by decide +kernel) rfl (nar_b1 (by decide))
            · replace h := if_f b37 h
              refine Ru.br (k := .ge) (off := 5) (bb := true) (tg := 72) (by decide +kernel) (by decide +kernel) (cz (ci_ge1 g36 (by decide) b37)) rfl ?_
              refine Ru.op (q := (.iload_n 2, 1)) (by decide +kernel) rfl ?_
              refine Ru.op (q := (.aload_n 0, 1)) (by decide +kernel) rfl ?_
              refine Ru.get (i := 27) (v := .ref 41) (by decide +kernel) (by rfl) (hp36 _) (by decide) rfl ?_
              refine Ru.kI (q := (.bipush 100, 2)) (c := 100) (by decide +kernel) rfl (by decide) ?_
              refine Ru.op (q := (.iload_n 1, 1)) (by decide +kernel) rfl ?_
              refine Ru.ar2 (i := .iadd) (z := (100 + v1)) (by decide +kernel) rfl (ar_add _ _) ?_
              obtain ⟨g38, h⟩ := gd_some h
              refine Ru.ildI (i := (100 + v1)) (z := (S.A 41 (100 + v1))) (by decide +kernel) (hp41 _) g38 (eI_of _) ?_
              by_cases b39 : v2 < (S.A 41 (100 + v1))
              · replace h := if_t b39 h
                refine Ru.br2 (k := .ge) (off := 33) (bb := false) (tg := 85) (by decide +kernel) (by decide +kernel) (ci_ge0 g34 (inR_to _) b39) rfl ?_
                refine Ru.op (q := (.iload 4, 2)) (by decide +kernel) rfl ?_
                refine Ru.op (q := (.aload_n 0, 1)) (by decide +kernel) rfl ?_
                refine Ru.get (i := 27) (v := .ref 41) (by decide +kernel) (by rfl) (hp36 _) (by decide) rfl ?_
                refine Ru.kI (q := (.bipush 100, 2)) (c := 100) (by decide +kernel) rfl (by decide) ?_
                refine Ru.op (q := (.iload 5, 2)) (by decide +kernel) rfl ?_
                refine Ru.ar2 (i := .iadd) (z := (100 + v3)) (by decide +kernel) rfl (ar_add _ _) ?_
                obtain ⟨g40, h⟩ := gd_some h
                refine Ru.ildI (i := (100 + v3)) (z := (S.A 41 (100 + v3))) (by decide +kernel) (hp41 _) g40 (eI_of _) ?_
                by_cases b41 : v4 < (S.A 41 (100 + v3))
                · replace h := if_t b41 h
                  refine Ru.br2 (k := .ge) (off := 18) (bb := false) (tg := 100) (by decide +kernel) (by decide +kernel) (ci_ge0 g36 (inR_to _) b41) rfl ?_
                  refine Ru.op (q := (.iload_n 3, 1)) (by decide +kernel) rfl ?_
                  refine Ru.kI (q := (.iconst (-1), 1)) (c := (-1)) (by decide +kernel) rfl (by decide) ?_
                  refine Ru.br2 (k := .ne) (off := 9) (bb := true) (tg := 111) (by decide +kernel) (by decide +kernel) (ci_ne1 g8 (by decide) b9) rfl ?_
                  refine Ru.kI (q := (.iconst 1, 1)) (c := 1) (by decide +kernel) rfl (by decide) ?_
                  refine Ru.op (q := (.goto 4, 3)) (by decide +kernel) rfl ?_
                  cases h
                  exact Ru.iret (by decide +kernel) rfl (nar_b1 (by decide))
                · replace h := if_f b41 h
                  refine Ru.br2 (k := .ge) (off := 18) (bb := true) (tg := 115) (by decide +kernel) (by decide +kernel) (ci_ge1 g36 (inR_to _) b41) rfl ?_
                  refine Ru.kI (q := (.iconst 0, 1)) (c := 0) (by decide +kernel) rfl (by decide) ?_
                  cases h
                  exact Ru.iret (by decide +kernel) rfl (nar_b1 (by decide))
              · replace h := if_f b39 h
                refine Ru.br2 (k := .ge) (off := 33) (bb := true) (tg := 115) (by decide +kernel) (by decide +kernel) (ci_ge1 g34 (inR_to _) b39) rfl ?_
                refine Ru.kI (q := (.iconst 0, 1)) (c := 0) (by decide +kernel) rfl (by decide) ?_
                cases h
                exact Ru.iret (by decide +kernel) rfl (nar_b1 (by decide))
def g161 (S : St) (v1 : Int) (v2 : Int) (v3 : Int) (v4 : Int) : Option (Int × St) := gd (inR v1) (if v1 = (-1) then ob (g130 S v2 (100 + (S.F 36 10))) (fun o3 => gd (b1R o3.1) (some (o3.1, o3.2))) else gd (inR v3) (if v3 = (-1) then ob (g140 S (100 + v1) v2 v4) (fun o8 => gd (inR o8.1) (if o8.1 = 0 then some (0, o8.2) else ob (g119 o8.2) (fun o12 => gd (inR o12.1) (if o12.1 = 0 then some (0, o12.2) else ob (g130 o12.2 124 (100 + (S.F 36 10))) (fun o16 => gd (inR o16.1) (if o16.1 = 0 then some (0, o16.2) else some (1, o16.2))))))) else ob (g146 S (100 + v1) v2 (100 + v3) v4) (fun o20 => gd (inR o20.1) (if o20.1 = 0 then some (0, o20.2) else ob (g119 o20.2) (fun o24 => gd (inR o24.1) (if o24.1 = 0 then some (0, o24.2) else ob (g130 o24.2 124 (100 + (S.F 36 10))) (fun o28 => gd (inR o28.1) (if o28.1 = 0 then some (0, o28.2) else some (1, o28.2)))))))))
set_option maxRecDepth 100000 in
set_option maxHeartbeats 4000000 in
theorem g161_ok {S : St} {v1 : Int} {v2 : Int} {v3 : Int} {v4 : Int} {o : Int × St} (h : g161 S v1 v2 v3 v4 = some o) : Ru none 17 365 161 (0, mn_pad (mn_ent [.ref 36, vI v1, vI v2, vI v3, vI v4]) 7, [], S.ns, Hp S) ((0, some (vI o.1)), o.2.ns, Hp o.2) := by
  unfold g161 at h
  show Ru none 17 365 161 (0, [some (.ref 36), some (vI v1), some (vI v2), some (vI v3), some (vI v4), none, none], [], S.ns, Hp S) _
  refine Ru.kI (q := (.bipush 100, 2)) (c := 100) (by decide +kernel) rfl (by decide) ?_
  refine Ru.op (q := (.aload_n 0, 1)) (by decide +kernel) rfl ?_
  refine Ru.getI (i := 356) (x := (S.F 36 10)) (by decide +kernel) (by rfl) (hp36 _) (by decide) rfl (eI_of _) ?_
  refine Ru.ar2 (i := .iadd) (z := (100 + (S.F 36 10))) (by decide +kernel) rfl (ar_add _ _) ?_
  refine Ru.op (q := (.istore 5, 2)) (S' := (9, [some (.ref 36), some (vI v1), some (vI v2), some (vI v3), some (vI v4), some (vI (100 + (S.F 36 10))), none], [], _, _)) (by decide +kernel) rfl ?_
  refine Ru.op (q := (.iload_n 1, 1)) (by decide +kernel) rfl ?_
  refine Ru.kI (q := (.iconst (-1), 1)) (c := (-1)) (by decide +kernel) rfl (by decide) ?_
  obtain ⟨g1, h⟩ := gd_some h
  by_cases b2 : v1 = (-1)
  · replace h := if_t b2 h
    refine Ru.br2 (k := .ne) (off := 11) (bb := false) (tg := 14) (by decide +kernel) (by decide +kernel) (ci_ne0 g1 (by decide) b2) rfl ?_
    refine Ru.op (q := (.aload_n 0, 1)) (by decide +kernel) rfl ?_
    refine Ru.op (q := (.iload_n 2, 1)) (by decide +kernel) rfl ?_
    refine Ru.op (q := (.iload 5, 2)) (by decide +kernel) rfl ?_
    obtain ⟨o3, e4, h⟩ := ob_some h
    refine Ru.vcall (i := 266) (j2 := 130) (as := [vI v2, vI (100 + (S.F 36 10))]) (by decide +kernel) (by rfl) rfl rfl (hp36 _) (by decide) ⟨(Nat.le_of_ble_eq_true rfl), (by show 19 + 8 ≤ 365; exact Nat.le_of_ble_eq_true rfl), Nat.le_of_ble_eq_true rfl, Nat.le_of_ble_eq_true rfl⟩ ((g130_ok e4).up (Nat.le_of_ble_eq_true rfl) (Nat.le_of_ble_eq_true rfl)) ?_
    obtain ⟨g5, h⟩ := gd_some h
    cases h
    exact Ru.iret (by decide +kernel) rfl (nar_b1 g5)
  · replace h := if_f b2 h
    refine Ru.br2 (k := .ne) (off := 11) (bb := true) (tg := 22) (by decide +kernel) (by decide +kernel) (ci_ne1 g1 (by decide) b2) rfl ?_
    refine Ru.op (q := (.iload_n 3, 1)) (by decide +kernel) rfl ?_
    refine Ru.kI (q := (.iconst (-1), 1)) (c := (-1)) (by decide +kernel) rfl (by decide) ?_
    obtain ⟨g6, h⟩ := gd_some h
    by_cases b7 : v3 = (-1)
    · replace h := if_t b7 h
      refine Ru.br2 (k := .ne) (off := 17) (bb := false) (tg := 27) (by decide +kernel) (by decide +kernel) (ci_ne0 g6 (by decide) b7) rfl ?_
      refine Ru.op (q := (.aload_n 0, 1)) (by decide +kernel) rfl ?_
      refine Ru.kI (q := (.bipush 100, 2)) (c := 100) (by decide +kernel) rfl (by decide) ?_
      refine Ru.op (q := (.iload_n 1, 1)) (by decide +kernel) rfl ?_
      refine Ru.ar2 (i := .iadd) (z := (100 + v1)) (by decide +kernel) rfl (ar_add _ _) ?_
      refine Ru.op (q := (.iload_n 2, 1)) (by decide +kernel) rfl ?_
      refine Ru.op (q := (.iload 4, 2)) (by decide +kernel) rfl ?_
      obtain ⟨o8, e9, h⟩ := ob_some h
      refine Ru.vcall (i := 333) (j2 := 140) (as := [vI (100 + v1), vI v2, vI v4]) (by decide +kernel) (by rfl) rfl rfl (hp36 _) (by decide) ⟨(Nat.le_of_ble_eq_true rfl), (by show 19 + 4 ≤ 365; exact Nat.le_of_ble_eq_true rfl), Nat.le_of_ble_eq_true rfl, Nat.le_of_ble_eq_true rfl⟩ ((g140_ok e9).up (Nat.le_of_ble_eq_true rfl) (Nat.le_of_ble_eq_true rfl)) ?_
      refine Ru.op (q := (.goto 18, 3)) (by decide +kernel) rfl ?_
      refine Ru.op (q := (.istore 6, 2)) (S' := (58, [some (.ref 36), some (vI v1), some (vI v2), some (vI v3), some (vI v4), some (vI (100 + (S.F 36 10))), some (vI o8.1)], [], _, _)) (by decide +kernel) rfl ?_
      refine Ru.op (q := (.iload 6, 2)) (by decide +kernel) rfl ?_
      obtain ⟨g10, h⟩ := gd_some h
      by_cases b11 : o8.1 = 0
      · replace h := if_t b11 h
        refine Ru.br (k := .eq) (off := 25) (bb := true) (tg := 85) (by decide +kernel) (by decide +kernel) (cz (ci_eq1 g10 (by decide) b11)) rfl ?_
        refine Ru.kI (q := (.iconst 0, 1)) (c := 0) (by decide +kernel) rfl (by decide) ?_
        cases h
        exact Ru.iret (by decide +kernel) rfl (nar_b1 (by decide))
      · replace h := if_f b11 h
        refine Ru.br (k := .eq) (off := 25) (bb := false) (tg := 63) (by decide +kernel) (by decide +kernel) (cz (ci_eq0 g10 (by decide) b11)) rfl ?_
        refine Ru.op (q := (.aload_n 0, 1)) (by decide +kernel) rfl ?_
        obtain ⟨o12, e13, h⟩ := ob_some h
        refine Ru.vcall (i := 269) (j2 := 119) (as := []) (by decide +kernel) (by rfl) rfl rfl (hp36 _) (by decide) ⟨(Nat.le_of_ble_eq_true rfl), (by show 19 + 9 ≤ 365; exact Nat.le_of_ble_eq_true rfl), Nat.le_of_ble_eq_true rfl, Nat.le_of_ble_eq_true rfl⟩ ((g119_ok e13).up (Nat.le_of_ble_eq_true rfl) (Nat.le_of_ble_eq_true rfl)) ?_
        obtain ⟨g14, h⟩ := gd_some h
        by_cases b15 : o12.1 = 0
        · replace h := if_t b15 h
          refine Ru.br (k := .eq) (off := 18) (bb := true) (tg := 85) (by decide +kernel) (by decide +kernel) (cz (ci_eq1 g14 (by decide) b15)) rfl ?_
          refine Ru.kI (q := (.iconst 0, 1)) (c := 0) (by decide +kernel) rfl (by decide) ?_
          cases h
          exact Ru.iret (by decide +kernel) rfl (nar_b1 (by decide))
        · replace h := if_f b15 h
          refine Ru.br (k := .eq) (off := 18) (bb := false) (tg := 70) (by decide +kernel) (by decide +kernel) (cz (ci_eq0 g14 (by decide) b15)) rfl ?_
          refine Ru.op (q := (.aload_n 0, 1)) (by decide +kernel) rfl ?_
          refine Ru.kI (q := (.bipush 124, 2)) (c := 124) (by decide +kernel) rfl (by decide) ?_
          refine Ru.op (q := (.iload 5, 2)) (by decide +kernel) rfl ?_
          obtain ⟨o16, e17, h⟩ := ob_some h
          refine Ru.vcall (i := 266) (j2 := 130) (as := [vI 124, vI (100 + (S.F 36 10))]) (by decide +kernel) (by rfl) rfl rfl (hp36 _) (by decide) ⟨(Nat.le_of_ble_eq_true rfl), (by show 19 + 8 ≤ 365; exact Nat.le_of_ble_eq_true rfl), Nat.le_of_ble_eq_true rfl, Nat.le_of_ble_eq_true rfl⟩ ((g130_ok e17).up (Nat.le_of_ble_eq_true rfl) (Nat.le_of_ble_eq_true rfl)) ?_
          obtain ⟨g18, h⟩ := gd_some h
          by_cases b19 : o16.1 = 0
          · replace h := if_t b19 h
            refine Ru.br (k := .eq) (off := 7) (bb := true) (tg := 85) (by decide +kernel) (by decide +kernel) (cz (ci_eq1 g18 (by decide) b19)) rfl ?_
            refine Ru.kI (q := (.iconst 0, 1)) (c := 0) (by decide +kernel) rfl (by decide) ?_
            cases h
            exact Ru.iret (by decide +kernel) rfl (nar_b1 (by decide))
          · replace h := if_f b19 h
            refine Ru.br (k := .eq) (off := 7) (bb := false) (tg := 81) (by decide +kernel) (by decide +kernel) (cz (ci_eq0 g18 (by decide) b19)) rfl ?_
            refine Ru.kI (q := (.iconst 1, 1)) (c := 1) (by decide +kernel) rfl (by decide) ?_
            refine Ru.op (q := (.goto 4, 3)) (by decide +kernel) rfl ?_
            cases h
            exact Ru.iret (by decide +kernel) rfl (nar_b1 (by decide))
    · replace h := if_f b7 h
      refine Ru.br2 (k := .ne) (off := 17) (bb := true) (tg := 41) (by decide +kernel) (by decide +kernel) (ci_ne1 g6 (by decide) b7) rfl ?_
      refine Ru.op (q := (.aload_n 0, 1)) (by decide +kernel) rfl ?_
      refine Ru.kI (q := (.bipush 100, 2)) (c := 100) (by decide +kernel) rfl (by decide) ?_
      refine Ru.op (q := (.iload_n 1, 1)) (by decide +kernel) rfl ?_
      refine Ru.ar2 (i := .iadd) (z := (100 + v1)) (by decide +kernel) rfl (ar_add _ _) ?_
      refine Ru.op (q := (.iload_n 2, 1)) (by decide +kernel) rfl ?_
      refine Ru.kI (q := (.bipush 100, 2)) (c := 100) (by decide +kernel) rfl (by decide) ?_
      refine Ru.op (q := (.iload_n 3, 1)) (by decide +kernel) rfl ?_
      refine Ru.ar2 (i := .iadd) (z := (100 + v3)) (by decide +kernel) rfl (ar_add _ _) ?_
      refine Ru.op (q := (.iload 4, 2)) (by decide +kernel) rfl ?_
      obtain ⟨o20, e21, h⟩ := ob_some h
      refine Ru.vcall (i := 337) (j2 := 146) (as := [vI (100 + v1), vI v2, vI (100 + v3), vI v4]) (by decide +kernel) (by rfl) rfl rfl (hp36 _) (by decide) ⟨(Nat.le_of_ble_eq_true rfl), (by show 19 + 5 ≤ 365; exact Nat.le_of_ble_eq_true rfl), Nat.le_of_ble_eq_true rfl, Nat.le_of_ble_eq_true rfl⟩ ((g146_ok e21).up (Nat.le_of_ble_eq_true rfl) (Nat.le_of_ble_eq_true rfl)) ?_
      refine Ru.op (q := (.istore 6, 2)) (S' := (58, [some (.ref 36), some (vI v1), some (vI v2), some (vI v3), some (vI v4), some (vI (100 + (S.F 36 10))), some (vI o20.1)], [], _, _)) (by decide +kernel) rfl ?_
      refine Ru.op (q := (.iload 6, 2)) (by decide +kernel) rfl ?_
      obtain ⟨g22, h⟩ := gd_some h
      by_cases b23 : o20.1 = 0
      · replace h := if_t b23 h
        refine Ru.br (k := .eq) (off := 25) (bb := true) (tg := 85) (by decide +kernel) (by decide +kernel) (cz (ci_eq1 g22 (by decide) b23)) rfl ?_
        refine Ru.kI (q := (.iconst 0, 1)) (c := 0) (by decide +kernel) rfl (by decide) ?_
        cases h
        exact Ru.iret (by decide +kernel) rfl (nar_b1 (by decide))
      · replace h := if_f b23 h
        refine Ru.br (k := .eq) (off := 25) (bb := false) (tg := 63) (by decide +kernel) (by decide +kernel) (cz (ci_eq0 g22 (by decide) b23)) rfl ?_
        refine Ru.op (q := (.aload_n 0, 1)) (by decide +kernel) rfl ?_
        obtain ⟨o24, e25, h⟩ := ob_some h
        refine Ru.vcall (i := 269) (j2 := 119) (as := []) (by decide +kernel) (by rfl) rfl rfl (hp36 _) (by decide) ⟨(Nat.le_of_ble_eq_true rfl), (by show 19 + 9 ≤ 365; exact Nat.le_of_ble_eq_true rfl), Nat.le_of_ble_eq_true rfl, Nat.le_of_ble_eq_true rfl⟩ ((g119_ok e25).up (Nat.le_of_ble_eq_true rfl) (Nat.le_of_ble_eq_true rfl)) ?_
        obtain ⟨g26, h⟩ := gd_some h
        by_cases b27 : o24.1 = 0
        · replace h := if_t b27 h
          refine Ru.br (k := .eq) (off := 18) (bb := true) (tg := 85) (by decide +kernel) (by decide +kernel) (cz (ci_eq1 g26 (by decide) b27)) rfl ?_
          refine Ru.kI (q := (.iconst 0, 1)) (c := 0) (by decide +kernel) rfl (by decide) ?_
          cases h
          exact Ru.iret (by decide +kernel) rfl (nar_b1 (by decide))
        · replace h := if_f b27 h
          refine Ru.br (k := .eq) (off := 18) (bb := false) (tg := 70) (by decide +kernel) (by decide +kernel) (cz (ci_eq0 g26 (by decide) b27)) rfl ?_
          refine Ru.op (q := (.aload_n 0, 1)) (by decide +kernel) rfl ?_
          refine Ru.kI (q := (.bipush 124, 2)) (c := 124) (by decide +kernel) rfl (by decide) ?_
          refine Ru.op (q := (.iload 5, 2)) (by decide +kernel) rfl ?_
          obtain ⟨o28, e29, h⟩ := ob_some h
          refine Ru.vcall (i := 266) (j2 := 130) (as := [vI 124, vI (100 + (S.F 36 10))]) (by decide +kernel) (by rfl) rfl rfl (hp36 _) (by decide) ⟨(Nat.le_of_ble_eq_true rfl), (by show 19 + 8 ≤ 365; exact Nat.le_of_ble_eq_true rfl), Nat.le_of_ble_eq_true rfl, Nat.le_of_ble_eq_true rfl⟩ ((g130_ok e29).up (Nat.le_of_ble_eq_true rfl) (Nat.le_of_ble_eq_true rfl)) ?_
          obtain ⟨g30, h⟩ := gd_some h
          by_cases b31 : o28.1 = 0
          · replace h := if_t b31 h
            refine Ru.br (k := .eq) (off := 7) (bb := true) (tg := 85) (by decide +kernel) (by decide +kernel) (cz (ci_eq1 g30 (by decide) b31)) rfl ?_
            refine Ru.kI (q := (.iconst 0, 1)) (c := 0) (by decide +kernel) rfl (by decide) ?_
            cases h
            exact Ru.iret (by decide +kernel) rfl (nar_b1 (by decide))
          · replace h := if_f b31 h
            refine Ru.br (k := .eq) (off := 7) (bb := false) (tg := 81) (by decide +kernel) (by decide +kernel) (cz (ci_eq0 g30 (by decide) b31)) rfl ?_
            refine Ru.kI (q := (.iconst 1, 1)) (c := 1) (by decide +kernel) rfl (by decide) ?_
            refine Ru.op (q := (.goto 4, 3)) (by decide +kernel) rfl ?_
            cases h
            exact Ru.iret (by decide +kernel) rfl (nar_b1 (by decide))
