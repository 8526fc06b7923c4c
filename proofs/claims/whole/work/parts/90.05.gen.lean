def g64L2 (v1 : Int) : Nat → Int → St → Option (St)
  | 0, _, _ => none
  | n + 1, v2, S => gd (inR v2) (if v2 < (S.F 13 1) then gd (ixR v2 100) (ob (S.R 14 v2) (fun c4 => gK S c4 (fun c6 n7 n8 n9 n10 n11 n12 => if n7 = 1 then gd (ixR v1 100) (ob (S.R 14 v1) (fun c17 => gK S c17 (fun c19 n20 n21 n22 n23 n24 n25 => ob (g54 S c19 c6) (fun o28 => gd (inR o28.1) (if o28.1 = 0 then g64L2 v1 n (v2 + 1) o28.2 else ob (o28.2.R 14 v2) (fun c32 => gK o28.2 c32 (fun c34 n35 n36 n37 n38 n39 n40 => gd (72 ≤ c32) (g64L2 v1 n (v2 + 1) (o28.2.t c32 (.ob 9 [c34] [eI 2, eI n36, eI n37, eI n38, eI n39, eI n40])))))))))) else g64L2 v1 n (v2 + 1) S))) else some S)
set_option maxRecDepth 100000 in
set_option maxHeartbeats 4000000 in
theorem g64L2_ok {v1 : Int} : ∀ (n : Nat) (v2 : Int) (S : St) (out : St), g64L2 v1 n v2 S = some out → ∀ r, (∀ (e0 e1 e2 : Option Value), Ru none 13 278 64 (67, [e0, e1, e2], [], out.ns, Hp out) r) → Ru none 13 278 64 (2, [some (.ref 13), some (vI v1), some (vI v2)], [], S.ns, Hp S) r := by
  intro n
  induction n with
  | zero => intro v2 S out h; cases h
  | succ n ih =>
    intro v2 S out h r hk
    unfold g64L2 at h
    refine Ru.op (q := (.iload_n 2, 1)) (by decide +kernel) rfl ?_
    refine Ru.op (q := (.aload_n 0, 1)) (by decide +kernel) rfl ?_
    refine Ru.getI (i := 57) (x := (S.F 13 1)) (by decide +kernel) (by rfl) (hp13 _) (by decide) rfl (eI_of _) ?_
    obtain ⟨g1, h⟩ := gd_some h
    by_cases b2 : v2 < (S.F 13 1)
    · replace h := if_t b2 h
      refine Ru.br2 (k := .ge) (off := 60) (bb := false) (tg := 10) (by decide +kernel) (by decide +kernel) (ci_ge0 g1 (inR_to _) b2) rfl ?_
      refine Ru.op (q := (.aload_n 0, 1)) (by decide +kernel) rfl ?_
      refine Ru.get (i := 11) (v := .ref 14) (by decide +kernel) (by rfl) (hp13 _) (by decide) rfl ?_
      refine Ru.op (q := (.iload_n 2, 1)) (by decide +kernel) rfl ?_
      obtain ⟨g3, h⟩ := gd_some h
      obtain ⟨c4, e5, h⟩ := ob_some h
      refine Ru.aldI (i := v2) (b := c4) (by decide +kernel) (hp14 _) (by decide) g3 e5 ?_
      obtain ⟨c6, n7, n8, n9, n10, n11, n12, e13, q14, h⟩ := gK_some h
      refine Ru.get (i := 60) (v := vI n7) (by decide +kernel) (by rfl) q14 (by decide) rfl ?_
      refine Ru.kI (q := (.iconst 1, 1)) (c := 1) (by decide +kernel) rfl (by decide) ?_
      by_cases b15 : n7 = 1
      · replace h := if_t b15 h
        refine Ru.br2 (k := .ne) (off := 41) (bb := false) (tg := 23) (by decide +kernel) (by decide +kernel) (ci_ne0 e13.1 (by decide) b15) rfl ?_
        refine Ru.op (q := (.aload_n 0, 1)) (by decide +kernel) rfl ?_
        refine Ru.get (i := 38) (v := .ref 23) (by decide +kernel) (by rfl) (hp13 _) (by decide) rfl ?_
        refine Ru.op (q := (.aload_n 0, 1)) (by decide +kernel) rfl ?_
        refine Ru.get (i := 11) (v := .ref 14) (by decide +kernel) (by rfl) (hp13 _) (by decide) rfl ?_
        refine Ru.op (q := (.iload_n 1, 1)) (by decide +kernel) rfl ?_
        obtain ⟨g16, h⟩ := gd_some h
        obtain ⟨c17, e18, h⟩ := ob_some h
        refine Ru.aldI (i := v1) (b := c17) (by decide +kernel) (hp14 _) (by decide) g16 e18 ?_
        obtain ⟨c19, n20, n21, n22, n23, n24, n25, e26, q27, h⟩ := gK_some h
        refine Ru.get (i := 109) (v := .ref c19) (by decide +kernel) (by rfl) q27 (by decide) rfl ?_
        refine Ru.op (q := (.aload_n 0, 1)) (by decide +kernel) rfl ?_
        refine Ru.get (i := 11) (v := .ref 14) (by decide +kernel) (by rfl) (hp13 _) (by decide) rfl ?_
        refine Ru.op (q := (.iload_n 2, 1)) (by decide +kernel) rfl ?_
        refine Ru.aldI (i := v2) (b := c4) (by decide +kernel) (hp14 _) (by decide) g3 e5 ?_
        refine Ru.get (i := 109) (v := .ref c6) (by decide +kernel) (by rfl) q14 (by decide) rfl ?_
        obtain ⟨o28, e29, h⟩ := ob_some h
        refine Ru.vcall (i := 112) (j2 := 54) (as := [.ref c19, .ref c6]) (by decide +kernel) (by rfl) rfl rfl (hp23 _) (by decide) ⟨(Nat.le_of_ble_eq_true rfl), (by show 19 + 5 ≤ 278; exact Nat.le_of_ble_eq_true rfl), Nat.le_of_ble_eq_true rfl, Nat.le_of_ble_eq_true rfl⟩ ((g54_ok e29).up (Nat.le_of_ble_eq_true rfl) (Nat.le_of_ble_eq_true rfl)) ?_
        obtain ⟨g30, h⟩ := gd_some h
        by_cases b31 : o28.1 = 0
        · replace h := if_t b31 h
          refine Ru.br (k := .eq) (off := 13) (bb := true) (tg := 61) (by decide +kernel) (by decide +kernel) (cz (ci_eq1 g30 (by decide) b31)) rfl ?_
          refine Ru.inc (x := v2) (z := (v2 + 1)) (xs' := [some (.ref 13), some (vI v1), some (vI (v2 + 1))]) (by decide +kernel) rfl rfl rfl ?_
          refine Ru.op (q := (.goto (-62), 3)) (by decide +kernel) rfl ?_
          exact ih _ _ _ h r hk
        · replace h := if_f b31 h
          refine Ru.br (k := .eq) (off := 13) (bb := false) (tg := 51) (by decide +kernel) (by decide +kernel) (cz (ci_eq0 g30 (by decide) b31)) rfl ?_
          refine Ru.op (q := (.aload_n 0, 1)) (by decide +kernel) rfl ?_
          refine Ru.get (i := 11) (v := .ref 14) (by decide +kernel) (by rfl) (hp13 _) (by decide) rfl ?_
          refine Ru.op (q := (.iload_n 2, 1)) (by decide +kernel) rfl ?_
          obtain ⟨c32, e33, h⟩ := ob_some h
          refine Ru.aldI (i := v2) (b := c32) (by decide +kernel) (hp14 _) (by decide) g3 e33 ?_
          refine Ru.kI (q := (.iconst 2, 1)) (c := 2) (by decide +kernel) rfl (by decide) ?_
          obtain ⟨c34, n35, n36, n37, n38, n39, n40, e41, q42, h⟩ := gK_some h
          obtain ⟨g43, h⟩ := gd_some h
          refine Ru.putH (i := 60) (by decide +kernel) (by rfl) q42 (by decide) (Nat.le_of_ble_eq_true rfl) rfl (by decide +kernel) (pt_ok g43 (x := .ob 9 [c34] [eI 2, eI n36, eI n37, eI n38, eI n39, eI n40])) ?_
          refine Ru.inc (x := v2) (z := (v2 + 1)) (xs' := [some (.ref 13), some (vI v1), some (vI (v2 + 1))]) (by decide +kernel) rfl rfl rfl ?_
          refine Ru.op (q := (.goto (-62), 3)) (by decide +kernel) rfl ?_
          exact ih _ _ _ h r hk
      · replace h := if_f b15 h
        refine Ru.br2 (k := .ne) (off := 41) (bb := true) (tg := 61) (by decide +kernel) (by decide +kernel) (ci_ne1 e13.1 (by decide) b15) rfl ?_
        refine Ru.inc (x := v2) (z := (v2 + 1)) (xs' := [some (.ref 13), some (vI v1), some (vI (v2 + 1))]) (by decide +kernel) rfl rfl rfl ?_
        refine Ru.op (q := (.goto (-62), 3)) (by decide +kernel) rfl ?_
        exact ih _ _ _ h r hk
    · replace h := if_f b2 h
      refine Ru.br2 (k := .ge) (off := 60) (bb := true) (tg := 67) (by decide +kernel) (by decide +kernel) (ci_ge1 g1 (inR_to _) b2) rfl ?_
      cases h
      exact hk _ _ _
def g64 (S : St) (v1 : Int) : Option (St) := ob (g64L2 v1 FU 0 S) (fun o44 => some o44)
set_option maxRecDepth 100000 in
set_option maxHeartbeats 4000000 in
theorem g64_ok {S : St} {v1 : Int} {o : St} (h : g64 S v1 = some o) : Ru none 13 278 64 (0, mn_pad (mn_ent [.ref 13, vI v1]) 3, [], S.ns, Hp S) ((0, none), o.ns, Hp o) := by
  unfold g64 at h
  show Ru none 13 278 64 (0, [some (.ref 13), some (vI v1), none], [], S.ns, Hp S) _
  refine Ru.kI (q := (.iconst 0, 1)) (c := 0) (by decide +kernel) rfl (by decide) ?_
  refine Ru.op (q := (.istore_n 2, 1)) (S' := (2, [some (.ref 13), some (vI v1), some (vI 0)], [], _, _)) (by decide +kernel) rfl ?_
  obtain ⟨o44, e48, h⟩ := ob_some h
  refine g64L2_ok FU _ _ _ e48 _ ?_
  intro d45 d46 d47
  cases h
  exact Ru.end (q := (.return_, 1)) (by decide +kernel) rfl rfl
def g66 (S : St) : Option (Int) := if (S.F 13 8) = 0 then if (S.F 13 7) = (-1) then some 0 else some 1 else some 1
set_option maxRecDepth 100000 in
set_option maxHeartbeats 4000000 in
theorem g66_ok {S : St} {o : Int} (h : g66 S  = some o) : Ru none 10 200 66 (0, mn_pad (mn_ent [.ref 13]) 1, [], S.ns, Hp S) ((0, some (vI o)), S.ns, Hp S) := by
  unfold g66 at h
  show Ru none 10 200 66 (0, [some (.ref 13)], [], S.ns, Hp S) _
  refine Ru.op (q := (.aload_n 0, 1)) (by decide +kernel) rfl ?_
  refine Ru.getI (i := 46) (x := (S.F 13 8)) (by decide +kernel) (by rfl) (hp13 _) (by decide) rfl (eI_of _) ?_
  by_cases b1 : (S.F 13 8) = 0
  · replace h := if_t b1 h
    refine Ru.br (k := .ne) (off := 11) (bb := false) (tg := 7) (by decide +kernel) (by decide +kernel) (cz (ci_ne0 (inR_to _) (by decide) b1)) rfl ?_
    refine Ru.op (q := (.aload_n 0, 1)) (by decide +kernel) rfl ?_
    refine Ru.getI (i := 17) (x := (S.F 13 7)) (by decide +kernel) (by rfl) (hp13 _) (by decide) rfl (eI_of _) ?_
    refine Ru.kI (q := (.iconst (-1), 1)) (c := (-1)) (by decide +kernel) rfl (by decide) ?_
    by_cases b2 : (S.F 13 7) = (-1)
    · replace h := if_t b2 h
      refine Ru.br2 (k := .eq) (off := 7) (bb := true) (tg := 19) (by decide +kernel) (by decide +kernel) (ci_eq1 (inR_to _) (by decide) b2) rfl ?_
      refine Ru.kI (q := (.iconst 0, 1)) (c := 0) (by decide +kernel) rfl (by decide) ?_
      cases h
      exact Ru.iret (by decide +kernel) rfl (nar_b1 (by decide))
    · replace h := if_f b2 h
      refine Ru.br2 (k := .eq) (off := 7) (bb := false) (tg := 15) (by decide +kernel) (by decide +kernel) (ci_eq0 (inR_to _) (by decide) b2) rfl ?_
      refine Ru.kI (q := (.iconst 1, 1)) (c := 1) (by decide +kernel) rfl (by decide) ?_
      refine Ru.op (q := (.goto 4, 3)) (by decide +kernel) rfl ?_
      cases h
      exact Ru.iret (by decide +kernel) rfl (nar_b1 (by decide))
  · replace h := if_f b1 h
    refine Ru.br (k := .ne) (off := 11) (bb := true) (tg := 15) (by decide +kernel) (by decide +kernel) (cz (ci_ne1 (inR_to _) (by decide) b1)) rfl ?_
    refine Ru.kI (q := (.iconst 1, 1)) (c := 1) (by decide +kernel) rfl (by decide) ?_
    refine Ru.op (q := (.goto 4, 3)) (by decide +kernel) rfl ?_
    cases h
    exact Ru.iret (by decide +kernel) rfl (nar_b1 (by decide))
def g68L2 (v1 : Nat) (v2 : Int) : Nat → Int → St → Option (St)
  | 0, _, _ => none
  | n + 1, v3, S => gd (inR v3) (if v3 < 16 then gd (ixR (v2 + v3) 32) (g68L2 v1 v2 n (v3 + 1) (S.a 22 (v2 + v3) (-1))) else some S)
set_option maxRecDepth 100000 in
set_option maxHeartbeats 4000000 in
theorem g68L2_ok {v1 : Nat} {v2 : Int} : ∀ (n : Nat) (v3 : Int) (S : St) (d4 : Option Value) (out : St), g68L2 v1 v2 n v3 S = some out → ∀ r, (∀ (e3 e4 : Option Value), Ru none 10 200 68 (23, [some (.ref 20), some (.ref v1), some (vI v2), e3, e4], [], out.ns, Hp out) r) → Ru none 10 200 68 (2, [some (.ref 20), some (.ref v1), some (vI v2), some (vI v3), d4], [], S.ns, Hp S) r := by
  intro n
  induction n with
  | zero => intro v3 S d4 out h; cases h
  | succ n ih =>
    intro v3 S d4 out h r hk
    unfold g68L2 at h
    refine Ru.op (q := (.iload_n 3, 1)) (by decide +kernel) rfl ?_
    refine Ru.kI (q := (.bipush 16, 2)) (c := 16) (by decide +kernel) rfl (by decide) ?_
    obtain ⟨g1, h⟩ := gd_some h
    by_cases b2 : v3 < 16
    · replace h := if_t b2 h
      refine Ru.br2 (k := .ge) (off := 18) (bb := false) (tg := 8) (by decide +kernel) (by decide +kernel) (ci_ge0 g1 (by decide) b2) rfl ?_
      refine Ru.op (q := (.aload_n 0, 1)) (by decide +kernel) rfl ?_
      refine Ru.get (i := 15) (v := .ref 22) (by decide +kernel) (by rfl) (hp20 _) (by decide) rfl ?_
      refine Ru.op (q := (.iload_n 2, 1)) (by decide +kernel) rfl ?_
      refine Ru.op (q := (.iload_n 3, 1)) (by decide +kernel) rfl ?_
      refine Ru.ar2 (i := .iadd) (z := (v2 + v3)) (by decide +kernel) rfl (ar_add _ _) ?_
      refine Ru.kI (q := (.iconst (-1), 1)) (c := (-1)) (by decide +kernel) rfl (by decide) ?_
      obtain ⟨g3, h⟩ := gd_some h
      refine Ru.istI (i := (v2 + v3)) (x := (-1)) (by decide +kernel) (hp22 _) g3 (ps_22 _ _ _) ?_
      refine Ru.inc (x := v3) (z := (v3 + 1)) (xs' := [some (.ref 20), some (.ref v1), some (vI v2), some (vI (v3 + 1)), d4]) (by decide +kernel) rfl rfl rfl ?_
      refine Ru.op (q := (.goto (-18), 3)) (by decide +kernel) rfl ?_
      exact ih _ _ _ _ h r hk
    · replace h := if_f b2 h
      refine Ru.br2 (k := .ge) (off := 18) (bb := true) (tg := 23) (by decide +kernel) (by decide +kernel) (ci_ge1 g1 (by decide) b2) rfl ?_
      cases h
      exact hk _ _
def g68L25 (v1 : Nat) (v2 : Int) : Nat → Int → St → Option (St)
  | 0, _, _ => none
  | n + 1, v3, S => gC S v1 (fun c8 c9 n10 n11 => gd (inR v3) (if v3 < n11 then if v3 < 16 then gA S c8 (fun N17 f18 => gd (ixR v3 N17) (if (f18 v3) < 32768 then gd (ixR (v2 + v3) 32) (g68L25 v1 v2 n (v3 + 1) (S.a 21 (v2 + v3) ((f18 v3) + (v2 * 256)))) else gd (ixR (v2 + v3) 32) (g68L25 v1 v2 n (v3 + 1) (S.a 21 (v2 + v3) (f18 v3))))) else some S else some S))
set_option maxRecDepth 100000 in
set_option maxHeartbeats 4000000 in
theorem g68L25_ok {v1 : Nat} {v2 : Int} : ∀ (n : Nat) (v3 : Int) (S : St) (d4 : Option Value) (out : St), g68L25 v1 v2 n v3 S = some out → ∀ r, (∀ (e0 e1 e2 e3 e4 : Option Value), Ru none 10 200 68 (80, [e0, e1, e2, e3, e4], [], out.ns, Hp out) r) → Ru none 10 200 68 (25, [some (.ref 20), some (.ref v1), some (vI v2), some (vI v3), d4], [], S.ns, Hp S) r := by
  intro n
  induction n with
  | zero => intro v3 S d4 out h; cases h
  | succ n ih =>
    intro v3 S d4 out h r hk
    unfold g68L25 at h
    refine Ru.op (q := (.iload_n 3, 1)) (by decide +kernel) rfl ?_
    refine Ru.op (q := (.aload_n 1, 1)) (by decide +kernel) rfl ?_
    obtain ⟨c8, c9, n10, n11, e12, q13, h⟩ := gC_some h
    refine Ru.get (i := 46) (v := vI n11) (by decide +kernel) (by rfl) q13 (by decide) rfl ?_
    obtain ⟨g14, h⟩ := gd_some h
    by_cases b15 : v3 < n11
    · replace h := if_t b15 h
      refine Ru.br2 (k := .ge) (off := 50) (bb := false) (tg := 33) (by decide +kernel) (by decide +kernel) (ci_ge0 g14 e12.2 b15) rfl ?_
      refine Ru.op (q := (.iload_n 3, 1)) (by decide +kernel) rfl ?_
      refine Ru.kI (q := (.bipush 16, 2)) (c := 16) (by decide +kernel) rfl (by decide) ?_
      by_cases b16 : v3 < 16
      · replace h := if_t b16 h
        refine Ru.br2 (k := .ge) (off := 44) (bb := false) (tg := 39) (by decide +kernel) (by decide +kernel) (ci_ge0 g14 (by decide) b16) rfl ?_
        refine Ru.op (q := (.aload_n 1, 1)) (by decide +kernel) rfl ?_
        refine Ru.get (i := 23) (v := .ref c8) (by decide +kernel) (by rfl) q13 (by decide) rfl ?_
        refine Ru.op (q := (.iload_n 3, 1)) (by decide +kernel) rfl ?_
        obtain ⟨N17, f18, e19, q20, h⟩ := gA_some h
        obtain ⟨g21, h⟩ := gd_some h
        refine Ru.ildI (i := v3) (z := (f18 v3)) (by decide +kernel) q20 g21 rfl ?_
        refine Ru.op (q := (.istore 4, 2)) (S' := (47, [some (.ref 20), some (.ref v1), some (vI v2), some (vI v3), some (vI (f18 v3))], [], _, _)) (by decide +kernel) rfl ?_
        refine Ru.op (q := (.aload_n 0, 1)) (by decide +kernel) rfl ?_
        refine Ru.get (i := 9) (v := .ref 21) (by decide +kernel) (by rfl) (hp20 _) (by decide) rfl ?_
        refine Ru.op (q := (.iload_n 2, 1)) (by decide +kernel) rfl ?_
        refine Ru.op (q := (.iload_n 3, 1)) (by decide +kernel) rfl ?_
        refine Ru.ar2 (i := .iadd) (z := (v2 + v3)) (by decide +kernel) rfl (ar_add _ _) ?_
        refine Ru.op (q := (.iload 4, 2)) (by decide +kernel) rfl ?_
        refine Ru.kI (q := (.ldc 50, 2)) (c := 32768) (by decide +kernel) rfl (by decide) ?_
        by_cases b22 : (f18 v3) < 32768
        · replace h := if_t b22 h
          refine Ru.br2 (k := .ge) (off := 13) (bb := false) (tg := 61) (by decide +kernel) (by decide +kernel) (ci_ge0 (e19 _) (by decide) b22) rfl ?_
          refine Ru.op (q := (.iload 4, 2)) (by decide +kernel) rfl ?_
          refine Ru.op (q := (.iload_n 2, 1)) (by decide +kernel) rfl ?_
          refine Ru.kI (q := (.bipush 8, 2)) (c := 8) (by decide +kernel) rfl (by decide) ?_
          refine Ru.ar2 (i := .ishl) (z := (v2 * 256)) (by decide +kernel) rfl (ar_shl _) ?_
          refine Ru.ar2 (i := .iadd) (z := ((f18 v3) + (v2 * 256))) (by decide +kernel) rfl (ar_add _ _) ?_
          refine Ru.op (q := (.goto 5, 3)) (by decide +kernel) rfl ?_
          obtain ⟨g23, h⟩ := gd_some h
          refine Ru.istI (i := (v2 + v3)) (x := ((f18 v3) + (v2 * 256))) (by decide +kernel) (hp21 _) g23 (ps_21 _ _ _) ?_
          refine Ru.inc (x := v3) (z := (v3 + 1)) (xs' := [some (.ref 20), some (.ref v1), some (vI v2), some (vI (v3 + 1)), some (vI (f18 v3))]) (by decide +kernel) rfl rfl rfl ?_
          refine Ru.op (q := (.goto (-52), 3)) (by decide +kernel) rfl ?_
          exact ih _ _ _ _ h r hk
        · replace h := if_f b22 h
          refine Ru.br2 (k := .ge) (off := 13) (bb := true) (tg := 71) (by decide +kernel) (by decide +kernel) (ci_ge1 (e19 _) (by decide) b22) rfl ?_
          refine Ru.op (q := (.iload 4, 2)) (by decide +kernel) rfl ?_
          obtain ⟨g24, h⟩ := gd_some h
          refine Ru.istI (i := (v2 + v3)) (x := (f18 v3)) (by decide +kernel) (hp21 _) g24 (ps_21 _ _ _) ?_
          refine Ru.inc (x := v3) (z := (v3 + 1)) (xs' := [some (.ref 20), some (.ref v1), some (vI v2), some (vI (v3 + 1)), some (vI (f18 v3))]) (by decide +kernel) rfl rfl rfl ?_
          refine Ru.op (q := (.goto (-52), 3)) (by decide +kernel) rfl ?_
          exact ih _ _ _ _ h r hk
      · replace h := if_f b16 h
        refine Ru.br2 (k := .ge) (off := 44) (bb := true) (tg := 80) (by decide +kernel) (by decide +kernel) (ci_ge1 g14 (by decide) b16) rfl ?_
        cases h
        exact hk _ _ _ _ _
    · replace h := if_f b15 h
      refine Ru.br2 (k := .ge) (off := 50) (bb := true) (tg := 80) (by decide +kernel) (by decide +kernel) (ci_ge1 g14 e12.2 b15) rfl ?_
      cases h
      exact hk _ _ _ _ _
def g68 (S : St) (v1 : Nat) (v2 : Int) : Option (St) := ob (g68L2 v1 v2 FU 0 S) (fun o4 => ob (g68L25 v1 v2 FU 0 o4) (fun o25 => some o25))
set_option maxRecDepth 100000 in
set_option maxHeartbeats 4000000 in
theorem g68_ok {S : St} {v1 : Nat} {v2 : Int} {o : St} (h : g68 S v1 v2 = some o) : Ru none 10 200 68 (0, mn_pad (mn_ent [.ref 20, .ref v1, vI v2]) 5, [], S.ns, Hp S) ((0, none), o.ns, Hp o) := by
  unfold g68 at h
  show Ru none 10 200 68 (0, [some (.ref 20), some (.ref v1), some (vI v2), none, none], [], S.ns, Hp S) _
  refine Ru.kI (q := (.iconst 0, 1)) (c := 0) (by decide +kernel) rfl (by decide) ?_
  refine Ru.op (q := (.istore_n 3, 1)) (S' := (2, [some (.ref 20), some (.ref v1), some (vI v2), some (vI 0), none], [], _, _)) (by decide +kernel) rfl ?_
  obtain ⟨o4, e7, h⟩ := ob_some h
  refine g68L2_ok FU _ _ _ _ e7 _ ?_
  intro d5 d6
  refine Ru.kI (q := (.iconst 0, 1)) (c := 0) (by decide +kernel) rfl (by decide) ?_
  refine Ru.op (q := (.istore_n 3, 1)) (S' := (25, [some (.ref 20), some (.ref v1), some (vI v2), some (vI 0), d6], [], _, _)) (by decide +kernel) rfl ?_
  obtain ⟨o25, e31, h⟩ := ob_some h
  refine g68L25_ok FU _ _ _ _ e31 _ ?_
  intro d26 d27 d28 d29 d30
  cases h
  exact Ru.end (q := (.return_, 1)) (by decide +kernel) rfl rfl
def g70L4 (S : St) : Nat → Int → Int → Option (Sum (Int) (Int))
  | 0, _, _ => none
  | n + 1, v2, v3 => gd (inR v3) (if v3 < 32 then gd (ixR v2 32) (if (S.A 21 v2) < 32768 then gd (ixR ((S.A 21 v2) / 256) 32) (if (S.A 22 ((S.A 21 v2) / 256)) = (-1) then some (.inr v2) else g70L4 S n (S.A 22 ((S.A 21 v2) / 256)) (v3 + 1)) else some (.inr v2)) else some (.inl v2))
set_option maxRecDepth 100000 in
set_option maxHeartbeats 4000000 in
theorem g70L4_ok {S : St} : ∀ (n : Nat) (v2 : Int) (v3 : Int) (d1 : Option Value) (out : Sum (Int) (Int)), g70L4 S n v2 v3 = some out → ∀ r, (∀ o, out = .inl o → ∀ (e0 e1 e3 : Option Value), Ru none 10 200 70 (65, [e0, e1, some (vI o), e3], [], S.ns, Hp S) r) → (∀ o, out = .inr o → r = ((0, some (vI o)), S.ns, Hp S)) → Ru none 10 200 70 (4, [some (.ref 20), d1, some (vI v2), some (vI v3)], [], S.ns, Hp S) r := by
  intro n
  induction n with
  | zero => intro v2 v3 d1 out h; cases h
  | succ n ih =>
    intro v2 v3 d1 out h r hk hr
    unfold g70L4 at h
    refine Ru.op (q := (.iload_n 3, 1)) (by decide +kernel) rfl ?_
    refine Ru.op (q := (.aload_n 0, 1)) (by decide +kernel) rfl ?_
    refine Ru.get (i := 15) (v := .ref 22) (by decide +kernel) (by rfl) (hp20 _) (by decide) rfl ?_
    refine Ru.lenI (N := 32) (z := 32) (by decide +kernel) (hp22 _) (by decide) (aI_len _ _) rfl ?_
    obtain ⟨g7, h⟩ := gd_some h
    by_cases b8 : v3 < 32
    · replace h := if_t b8 h
      refine Ru.br2 (k := .ge) (off := 55) (bb := false) (tg := 13) (by decide +kernel) (by decide +kernel) (ci_ge0 g7 (by decide) b8) rfl ?_
      refine Ru.op (q := (.aload_n 0, 1)) (by decide +kernel) rfl ?_
      refine Ru.get (i := 9) (v := .ref 21) (by decide +kernel) (by rfl) (hp20 _) (by decide) rfl ?_
      refine Ru.op (q := (.iload_n 2, 1)) (by decide +kernel) rfl ?_
      obtain ⟨g9, h⟩ := gd_some h
      refine Ru.ildI (i := v2) (z := (S.A 21 v2)) (by decide +kernel) (hp21 _) g9 (eI_of _) ?_
      refine Ru.kI (q := (.ldc 50, 2)) (c := 32768) (by decide +kernel) rfl (by decide) ?_
      by_cases b10 : (S.A 21 v2) < 32768
      · replace h := if_t b10 h
        refine Ru.br2 (k := .ge) (off := 21) (bb := false) (tg := 24) (by decide +kernel) (by decide +kernel) (ci_ge0 (inR_to _) (by decide) b10) rfl ?_
        refine Ru.op (q := (.aload_n 0, 1)) (by decide +kernel) rfl ?_
        refine Ru.get (i := 15) (v := .ref 22) (by decide +kernel) (by rfl) (hp20 _) (by decide) rfl ?_
        refine Ru.op (q := (.aload_n 0, 1)) (by decide +kernel) rfl ?_
        refine Ru.get (i := 9) (v := .ref 21) (by decide +kernel) (by rfl) (hp20 _) (by decide) rfl ?_
        refine Ru.op (q := (.iload_n 2, 1)) (by decide +kernel) rfl ?_
        refine Ru.ildI (i := v2) (z := (S.A 21 v2)) (by decide +kernel) (hp21 _) g9 (eI_of _) ?_
        refine Ru.kI (q := (.bipush 8, 2)) (c := 8) (by decide +kernel) rfl (by decide) ?_
        refine Ru.ar2 (i := .ishr) (z := ((S.A 21 v2) / 256)) (by decide +kernel) rfl (ar_shr (inR_to _)) ?_
        obtain ⟨g11, h⟩ := gd_some h
        refine Ru.ildI (i := ((S.A 21 v2) / 256)) (z := (S.A 22 ((S.A 21 v2) / 256))) (by decide +kernel) (hp22 _) g11 (eI_of _) ?_
        refine Ru.kI (q := (.iconst (-1), 1)) (c := (-1)) (by decide +kernel) rfl (by decide) ?_
        by_cases b12 : (S.A 22 ((S.A 21 v2) / 256)) = (-1)
        · replace h := if_t b12 h
          refine Ru.br2 (k := .ne) (off := 5) (bb := false) (tg := 42) (by decide +kernel) (by decide +kernel) (ci_ne0 (inR_to _) (by decide) b12) rfl ?_
          refine Ru.op (q := (.iload_n 2, 1)) (by decide +kernel) rfl ?_
          cases h
          have h9 := hr _ rfl
          subst h9
          exact Ru.iret (by decide +kernel) rfl rfl
        · replace h := if_f b12 h
          refine Ru.br2 (k := .ne) (off := 5) (bb := true) (tg := 44) (by decide +kernel) (by decide +kernel) (ci_ne1 (inR_to _) (by decide) b12) rfl ?_
          refine Ru.op (q := (.aload_n 0, 1)) (by decide +kernel) rfl ?_
          refine Ru.get (i := 15) (v := .ref 22) (by decide +kernel) (by rfl) (hp20 _) (by decide) rfl ?_
          refine Ru.op (q := (.aload_n 0, 1)) (by decide +kernel) rfl ?_
          refine Ru.get (i := 9) (v := .ref 21) (by decide +kernel) (by rfl) (hp20 _) (by decide) rfl ?_
          refine Ru.op (q := (.iload_n 2, 1)) (by decide +kernel) rfl ?_
          refine Ru.ildI (i := v2) (z := (S.A 21 v2)) (by decide +kernel) (hp21 _) g9 (eI_of _) ?_
          refine Ru.kI (q := (.bipush 8, 2)) (c := 8) (by decide +kernel) rfl (by decide) ?_
          refine Ru.ar2 (i := .ishr) (z := ((S.A 21 v2) / 256)) (by decide +kernel) rfl (ar_shr (inR_to _)) ?_
          refine Ru.ildI (i := ((S.A 21 v2) / 256)) (z := (S.A 22 ((S.A 21 v2) / 256))) (by decide +kernel) (hp22 _) g11 (eI_of _) ?_
          refine Ru.op (q := (.istore_n 2, 1)) (S' := (59, [some (.ref 20), d1, some (vI (S.A 22 ((S.A 21 v2) / 256))), some (vI v3)], [], _, _)) (by decide +kernel) rfl ?_
          refine Ru.inc (x := v3) (z := (v3 + 1)) (xs' := [some (.ref 20), d1, some (vI (S.A 22 ((S.A 21 v2) / 256))), some (vI (v3 + 1))]) (by decide +kernel) rfl rfl rfl ?_
          refine Ru.op (q := (.goto (-58), 3)) (by decide +kernel) rfl ?_
          exact ih _ _ _ _ h r hk hr
      · replace h := if_f b10 h
        refine Ru.br2 (k := .ge) (off := 21) (bb := true) (tg := 42) (by decide +kernel) (by decide +kernel) (ci_ge1 (inR_to _) (by decide) b10) rfl ?_
        refine Ru.op (q := (.iload_n 2, 1)) (by decide +kernel) rfl ?_
        cases h
        have h9 := hr _ rfl
        subst h9
        exact Ru.iret (by decide +kernel) rfl rfl
    · replace h := if_f b8 h
      refine Ru.br2 (k := .ge) (off := 55) (bb := true) (tg := 65) (by decide +kernel) (by decide +kernel) (ci_ge1 g7 (by decide) b8) rfl ?_
      cases h
      exact hk _ rfl _ _ _
def g70 (S : St) (v1 : Int) : Option (Int) := obr (g70L4 S FU v1 0) (fun o13 => some o13)
set_option maxRecDepth 100000 in
set_option maxHeartbeats 4000000 in
theorem g70_ok {S : St} {v1 : Int} {o : Int} (h : g70 S v1 = some o) : Ru none 10 200 70 (0, mn_pad (mn_ent [.ref 20, vI v1]) 4, [], S.ns, Hp S) ((0, some (vI o)), S.ns, Hp S) := by
  unfold g70 at h
  show Ru none 10 200 70 (0, [some (.ref 20), some (vI v1), none, none], [], S.ns, Hp S) _
  refine Ru.op (q := (.iload_n 1, 1)) (by decide +kernel) rfl ?_
  refine Ru.op (q := (.istore_n 2, 1)) (S' := (2, [some (.ref 20), some (vI v1), some (vI v1), none], [], _, _)) (by decide +kernel) rfl ?_
  refine Ru.kI (q := (.iconst 0, 1)) (c := 0) (by decide +kernel) rfl (by decide) ?_
  refine Ru.op (q := (.istore_n 3, 1)) (S' := (4, [some (.ref 20), some (vI v1), some (vI v1), some (vI 0)], [], _, _)) (by decide +kernel) rfl ?_
  rcases obr_some h with ⟨o13, e17, h⟩ | e17
  · refine g70L4_ok FU _ _ _ _ e17 _ (fun o' e' => ?_) (fun o' e' => by cases e')
    cases e'
    intro d14 d15 d16
    refine Ru.op (q := (.iload_n 2, 1)) (by decide +kernel) rfl ?_
    cases h
    exact Ru.iret (by decide +kernel) rfl rfl
  · exact g70L4_ok FU _ _ _ _ e17 _ (fun o' e' => by cases e') (fun o' e' => by cases e'; rfl)
def g71L29 (rc : St → Int → Int → Int → Option (Int)) (S : St) (v1 : Int) (v3 : Int) (v4 : Int) (v5 : Int) : Nat → Int → Int → Option (Sum (Unit) (Int))
  | 0, _, _ => none
  | n + 1, v6, v7 => gd (inR v7) (gd (inR v5) (if v7 < v5 then gd (inR v3) (if v3 < 40 then ob (rc S v1 v6 (v3 + 1)) (fun o20 => gd (inR o20) (if o20 = 0 then ob (g57 S 21 v6 32) (fun o24 => g71L29 rc S v1 v3 v4 v5 n o24 (v7 + 1)) else some (.inr 1))) else some (.inl ())) else some (.inl ())))
set_option maxRecDepth 100000 in
set_option maxHeartbeats 4000000 in
theorem g71L29_ok {FR LO : Nat} {rc : St → Int → Int → Int → Option (Int)} (hF : 11 ≤ FR) (hL : 224 ≤ LO) (hrc : ∀ {S : St} {v1 : Int} {v2 : Int} {v3 : Int} {o : Int}, rc S v1 v2 v3 = some o → Ru none FR LO 71 (0, mn_pad (mn_ent [.ref 20, vI v1, vI v2, vI v3]) 8, [], S.ns, Hp S) ((0, some (vI o)), S.ns, Hp S)) {S : St} {v1 : Int} {v3 : Int} {v4 : Int} {v5 : Int} : ∀ (n : Nat) (v6 : Int) (v7 : Int) (d2 : Option Value) (out : Sum (Unit) (Int)), g71L29 rc S v1 v3 v4 v5 n v6 v7 = some out → ∀ r, (∀ o, out = .inl o → ∀ (e2 e3 e5 e6 e7 : Option Value), Ru none (FR + 1) (LO + 27) 71 (79, [some (.ref 20), some (vI v1), e2, e3, some (vI v4), e5, e6, e7], [], S.ns, Hp S) r) → (∀ o, out = .inr o → r = ((0, some (vI o)), S.ns, Hp S)) → Ru none (FR + 1) (LO + 27) 71 (29, [some (.ref 20), some (vI v1), d2, some (vI v3), some (vI v4), some (vI v5), some (vI v6), some (vI v7)], [], S.ns, Hp S) r := by
  intro n
  induction n with
  | zero => intro v6 v7 d2 out h; cases h
  | succ n ih =>
    intro v6 v7 d2 out h r hk hr
    unfold g71L29 at h
    refine Ru.op (q := (.iload 7, 2)) (by decide +kernel) rfl ?_
    refine Ru.op (q := (.iload 5, 2)) (by decide +kernel) rfl ?_
    obtain ⟨g15, h⟩ := gd_some h
    obtain ⟨g16, h⟩ := gd_some h
    by_cases b17 : v7 < v5
    · replace h := if_t b17 h
      refine Ru.br2 (k := .ge) (off := 46) (bb := false) (tg := 36) (by decide +kernel) (by decide +kernel) (ci_ge0 g15 g16 b17) rfl ?_
      refine Ru.op (q := (.iload_n 3, 1)) (by decide +kernel) rfl ?_
      refine Ru.kI (q := (.bipush 40, 2)) (c := 40) (by decide +kernel) rfl (by decide) ?_
      obtain ⟨g18, h⟩ := gd_some h
      by_cases b19 : v3 < 40
      · replace h := if_t b19 h
        refine Ru.br2 (k := .ge) (off := 40) (bb := false) (tg := 42) (by decide +kernel) (by decide +kernel) (ci_ge0 g18 (by decide) b19) rfl ?_
        refine Ru.op (q := (.aload_n 0, 1)) (by decide +kernel) rfl ?_
        refine Ru.op (q := (.iload_n 1, 1)) (by decide +kernel) rfl ?_
        refine Ru.op (q := (.iload 6, 2)) (by decide +kernel) rfl ?_
        refine Ru.op (q := (.iload_n 3, 1)) (by decide +kernel) rfl ?_
        refine Ru.kI (q := (.iconst 1, 1)) (c := 1) (by decide +kernel) rfl (by decide) ?_
        refine Ru.ar2 (i := .iadd) (z := (v3 + 1)) (by decide +kernel) rfl (ar_add _ _) ?_
        obtain ⟨o20, e21, h⟩ := ob_some h
        refine Ru.vcall (i := 77) (j2 := 71) (as := [vI v1, vI v6, vI (v3 + 1)]) (by decide +kernel) (by rfl) rfl rfl (hp20 _) (by decide) ⟨(by omega), (by show 19 + 8 ≤ (LO + 27); omega), Nat.le_of_ble_eq_true rfl, Nat.le_of_ble_eq_true rfl⟩ ((hrc e21).up (by omega) (by show _ ≤ (LO + 27) - (19 + 8); omega)) ?_
        obtain ⟨g22, h⟩ := gd_some h
        by_cases b23 : o20 = 0
        · replace h := if_t b23 h
          refine Ru.br (k := .eq) (off := 5) (bb := true) (tg := 57) (by decide +kernel) (by decide +kernel) (cz (ci_eq1 g22 (by decide) b23)) rfl ?_
          refine Ru.op (q := (.aload_n 0, 1)) (by decide +kernel) rfl ?_
          refine Ru.get (i := 9) (v := .ref 21) (by decide +kernel) (by rfl) (hp20 _) (by decide) rfl ?_
          refine Ru.op (q := (.iload 6, 2)) (by decide +kernel) rfl ?_
          refine Ru.op (q := (.aload_n 0, 1)) (by decide +kernel) rfl ?_
          refine Ru.get (i := 9) (v := .ref 21) (by decide +kernel) (by rfl) (hp20 _) (by decide) rfl ?_
          refine Ru.lenI (N := 32) (z := 32) (by decide +kernel) (hp21 _) (by decide) (aI_len _ _) rfl ?_
          obtain ⟨o24, e25, h⟩ := ob_some h
          refine Ru.call (q := (.invokestatic 73, 3)) (j2 := 57) (as := [.ref 21, vI v6, vI 32]) (by decide +kernel) rfl rfl rfl rfl ⟨(by omega), (by show 19 + 5 ≤ (LO + 27); omega), Nat.le_of_ble_eq_true rfl, Nat.le_of_ble_eq_true rfl⟩ ((g57_ok e25).up (by omega) (by show _ ≤ (LO + 27) - (19 + 5); omega)) ?_
          refine Ru.op (q := (.istore 6, 2)) (S' := (73, [some (.ref 20), some (vI v1), d2, some (vI v3), some (vI v4), some (vI v5), some (vI o24), some (vI v7)], [], _, _)) (by decide +kernel) rfl ?_
          refine Ru.inc (x := v7) (z := (v7 + 1)) (xs' := [some (.ref 20), some (vI v1), d2, some (vI v3), some (vI v4), some (vI v5), some (vI o24), some (vI (v7 + 1))]) (by decide +kernel) rfl rfl rfl ?_
          refine Ru.op (q := (.goto (-47), 3)) (by decide +kernel) rfl ?_
          exact ih _ _ _ _ h r hk hr
        · replace h := if_f b23 h
          refine Ru.br (k := .eq) (off := 5) (bb := false) (tg := 55) (by decide +kernel) (by decide +kernel) (cz (ci_eq0 g22 (by decide) b23)) rfl ?_
          refine Ru.kI (q := (.iconst 1, 1)) (c := 1) (by decide +kernel) rfl (by decide) ?_
          cases h
          have h9 := hr _ rfl
          subst h9
          exact Ru.iret (by decide +kernel) rfl (nar_b1 (by decide))
      · replace h := if_f b19 h
        refine Ru.br2 (k := .ge) (off := 40) (bb := true) (tg := 79) (by decide +kernel) (by decide +kernel) (ci_ge1 g18 (by decide) b19) rfl ?_
        cases h
        exact hk _ rfl _ _ _ _ _
    · replace h := if_f b17 h
      refine Ru.br2 (k := .ge) (off := 46) (bb := true) (tg := 79) (by decide +kernel) (by decide +kernel) (ci_ge1 g15 g16 b17) rfl ?_
      cases h
      exact hk _ rfl _ _ _ _ _
def g71b (rc : St → Int → Int → Int → Option (Int)) (S : St) (v1 : Int) (v2 : Int) (v3 : Int) : Option (Int) := ob (g70 S v2) (fun o1 => gd (ixR o1 32) (obr (g71L29 rc S v1 v3 o1 ((S.A 21 o1) % 256) FU (o1 + 1) 0) (fun o26 => gd (inR v1) (if (S.A 21 o1) = v1 then some 1 else some 0))))
set_option maxRecDepth 100000 in
set_option maxHeartbeats 4000000 in
theorem g71b_ok {FR LO : Nat} {rc : St → Int → Int → Int → Option (Int)} (hF : 11 ≤ FR) (hL : 224 ≤ LO) (hrc : ∀ {S : St} {v1 : Int} {v2 : Int} {v3 : Int} {o : Int}, rc S v1 v2 v3 = some o → Ru none FR LO 71 (0, mn_pad (mn_ent [.ref 20, vI v1, vI v2, vI v3]) 8, [], S.ns, Hp S) ((0, some (vI o)), S.ns, Hp S)) {S : St} {v1 : Int} {v2 : Int} {v3 : Int} {o : Int} (h : g71b rc S v1 v2 v3 = some o) : Ru none (FR + 1) (LO + 27) 71 (0, mn_pad (mn_ent [.ref 20, vI v1, vI v2, vI v3]) 8, [], S.ns, Hp S) ((0, some (vI o)), S.ns, Hp S) := by
  unfold g71b at h
  show Ru none (FR + 1) (LO + 27) 71 (0, [some (.ref 20), some (vI v1), some (vI v2), some (vI v3), none, none, none, none], [], S.ns, Hp S) _
  refine Ru.op (q := (.aload_n 0, 1)) (by decide +kernel) rfl ?_
  refine Ru.op (q := (.iload_n 2, 1)) (by decide +kernel) rfl ?_
  obtain ⟨o1, e2, h⟩ := ob_some h
  refine Ru.vcall (i := 65) (j2 := 70) (as := [vI v2]) (by decide +kernel) (by rfl) rfl rfl (hp20 _) (by decide) ⟨(by omega), (by show 19 + 4 ≤ (LO + 27); omega), Nat.le_of_ble_eq_true rfl, Nat.le_of_ble_eq_true rfl⟩ ((g70_ok e2).up (by omega) (by show _ ≤ (LO + 27) - (19 + 4); omega)) ?_
  refine Ru.op (q := (.istore 4, 2)) (S' := (7, [some (.ref 20), some (vI v1), some (vI v2), some (vI v3), some (vI o1), none, none, none], [], _, _)) (by decide +kernel) rfl ?_
  refine Ru.op (q := (.aload_n 0, 1)) (by decide +kernel) rfl ?_
  refine Ru.get (i := 9) (v := .ref 21) (by decide +kernel) (by rfl) (hp20 _) (by decide) rfl ?_
  refine Ru.op (q := (.iload 4, 2)) (by decide +kernel) rfl ?_
  obtain ⟨g3, h⟩ := gd_some h
  refine Ru.ildI (i := o1) (z := (S.A 21 o1)) (by decide +kernel) (hp21 _) g3 (eI_of _) ?_
  refine Ru.kI (q := (.sipush 255, 3)) (c := 255) (by decide +kernel) rfl (by decide) ?_
  refine Ru.ar2 (i := .iand) (z := ((S.A 21 o1) % 256)) (by decide +kernel) rfl (ar_and _) ?_
  refine Ru.op (q := (.istore 5, 2)) (S' := (20, [some (.ref 20), some (vI v1), some (vI v2), some (vI v3), some (vI o1), some (vI ((S.A 21 o1) % 256)), none, none], [], _, _)) (by decide +kernel) rfl ?_
  refine Ru.op (q := (.iload 4, 2)) (by decide +kernel) rfl ?_
  refine Ru.kI (q := (.iconst 1, 1)) (c := 1) (by decide +kernel) rfl (by decide) ?_
  refine Ru.ar2 (i := .iadd) (z := (o1 + 1)) (by decide +kernel) rfl (ar_add _ _) ?_
  refine Ru.op (q := (.istore 6, 2)) (S' := (26, [some (.ref 20), some (vI v1), some (vI v2), some (vI v3), some (vI o1), some (vI ((S.A 21 o1) % 256)), some (vI (o1 + 1)), none], [], _, _)) (by decide +kernel) rfl ?_
  refine Ru.kI (q := (.iconst 0, 1)) (c := 0) (by decide +kernel) rfl (by decide) ?_
  refine Ru.op (q := (.istore 7, 2)) (S' := (29, [some (.ref 20), some (vI v1), some (vI v2), some (vI v3), some (vI o1), some (vI ((S.A 21 o1) % 256)), some (vI (o1 + 1)), some (vI 0)], [], _, _)) (by decide +kernel) rfl ?_
  rcases obr_some h with ⟨o26, e32, h⟩ | e32
  · refine g71L29_ok hF hL hrc FU _ _ _ _ e32 _ (fun o' e' => ?_) (fun o' e' => by cases e')
    cases e'
    intro d27 d28 d29 d30 d31
    refine Ru.op (q := (.aload_n 0, 1)) (by decide +kernel) rfl ?_
    refine Ru.get (i := 9) (v := .ref 21) (by decide +kernel) (by rfl) (hp20 _) (by decide) rfl ?_
    refine Ru.op (q := (.iload 4, 2)) (by decide +kernel) rfl ?_
    refine Ru.ildI (i := o1) (z := (S.A 21 o1)) (by decide +kernel) (hp21 _) g3 (eI_of _) ?_
    refine Ru.op (q := (.iload_n 1, 1)) (by decide +kernel) rfl ?_
    obtain ⟨g33, h⟩ := gd_some h
    by_cases b34 : (S.A 21 o1) = v1
    · replace h := if_t b34 h
      refine Ru.br2 (k := .ne) (off := 7) (bb := false) (tg := 90) (by decide +kernel) (by decide +kernel) (ci_ne0 (inR_to _) g33 b34) rfl ?_
      refine Ru.kI (q := (.iconst 1, 1)) (c := 1) (by decide +kernel) rfl (by decide) ?_
      refine Ru.op (q := (.goto 4, 3)) (by decide +kernel) rfl ?_
      cases h
      exact Ru.iret (by decide +kernel) rfl (nar_b1 (by decide))
    · replace h := if_f b34 h
      refine Ru.br2 (k := .ne) (off := 7) (bb := true) (tg := 94) (by decide +kernel) (by decide +kernel) (ci_ne1 (inR_to _) g33 b34) rfl ?_
      refine Ru.kI (q := (.iconst 0, 1)) (c := 0) (by decide +kernel) rfl (by decide) ?_
      cases h
      exact Ru.iret (by decide +kernel) rfl (nar_b1 (by decide))
  · exact g71L29_ok hF hL hrc FU _ _ _ _ e32 _ (fun o' e' => by cases e') (fun o' e' => by cases e'; rfl)
def g71 : Nat → St → Int → Int → Int → Option (Int)
  | 0, _, _, _, _ => none
  | n + 1, S, v1, v2, v3 => g71b (g71 n) S v1 v2 v3
theorem g71_ok : ∀ (n : Nat) {S : St} {v1 : Int} {v2 : Int} {v3 : Int} {o : Int}, g71 n S v1 v2 v3 = some o → Ru none (11 + 1 * n) (224 + 27 * n) 71 (0, mn_pad (mn_ent [.ref 20, vI v1, vI v2, vI v3]) 8, [], S.ns, Hp S) ((0, some (vI o)), S.ns, Hp S) := by
  intro n
  induction n with
  | zero => intro S v1 v2 v3 o h; cases h
  | succ n ih => intro S v1 v2 v3 o h; exact (g71b_ok (FR := 11 + 1 * n) (LO := 224 + 27 * n) (by omega) (by omega) ih h).up (by omega) (by omega)
