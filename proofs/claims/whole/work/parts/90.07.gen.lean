def g65L25 (v1 : Int) (v2 : Nat) (v3 : Int) : Nat → Int → St → Option (St)
  | 0, _, _ => none
  | n + 1, v4, S => gC S v2 (fun c21 c22 n23 n24 => gd (inR v4) (if v4 < n23 then ob (g66 S) (fun o29 => gd (inR o29) (if o29 = 0 then ob (g67_15 S v2 v3 v4) (fun o33 => gd (inR o33.1) (if o33.1 = 0 then g65L25 v1 v2 v3 n (v4 + 1) o33.2 else ob (g49 o33.2 1 v1 v3 v1 v4) (fun o37 => g65L25 v1 v2 v3 n (v4 + 1) o37))) else some S)) else some S))
set_option maxRecDepth 100000 in
set_option maxHeartbeats 4000000 in
theorem g65L25_ok {v1 : Int} {v2 : Nat} {v3 : Int} : ∀ (n : Nat) (v4 : Int) (S : St) (out : St), g65L25 v1 v2 v3 n v4 S = some out → ∀ r, (∀ (e4 : Option Value), Ru none 142 3955 65 (75, [some (.ref 13), some (vI v1), some (.ref v2), some (vI v3), e4], [], out.ns, Hp out) r) → Ru none 142 3955 65 (25, [some (.ref 13), some (vI v1), some (.ref v2), some (vI v3), some (vI v4)], [], S.ns, Hp S) r := by
  intro n
  induction n with
  | zero => intro v4 S out h; cases h
  | succ n ih =>
    intro v4 S out h r hk
    unfold g65L25 at h
    refine Ru.op (q := (.iload 4, 2)) (by decide +kernel) rfl ?_
    refine Ru.op (q := (.aload_n 2, 1)) (by decide +kernel) rfl ?_
    obtain ⟨c21, c22, n23, n24, e25, q26, h⟩ := gC_some h
    refine Ru.get (i := 104) (v := vI n23) (by decide +kernel) (by rfl) q26 (by decide) rfl ?_
    obtain ⟨g27, h⟩ := gd_some h
    by_cases b28 : v4 < n23
    · replace h := if_t b28 h
      refine Ru.br2 (k := .ge) (off := 44) (bb := false) (tg := 34) (by decide +kernel) (by decide +kernel) (ci_ge0 g27 e25.1 b28) rfl ?_
      refine Ru.op (q := (.aload_n 0, 1)) (by decide +kernel) rfl ?_
      obtain ⟨o29, e30, h⟩ := ob_some h
      refine Ru.vcall (i := 134) (j2 := 66) (as := []) (by decide +kernel) (by rfl) rfl rfl (hp13 _) (by decide) ⟨(Nat.le_of_ble_eq_true rfl), (by show 19 + 1 ≤ 3955; exact Nat.le_of_ble_eq_true rfl), Nat.le_of_ble_eq_true rfl, Nat.le_of_ble_eq_true rfl⟩ ((g66_ok e30).up (Nat.le_of_ble_eq_true rfl) (Nat.le_of_ble_eq_true rfl)) ?_
      obtain ⟨g31, h⟩ := gd_some h
      by_cases b32 : o29 = 0
      · replace h := if_t b32 h
        refine Ru.br (k := .ne) (off := 37) (bb := false) (tg := 41) (by decide +kernel) (by decide +kernel) (cz (ci_ne0 g31 (by decide) b32)) rfl ?_
        refine Ru.op (q := (.aload_n 0, 1)) (by decide +kernel) rfl ?_
        refine Ru.get (i := 31) (v := .ref 20) (by decide +kernel) (by rfl) (hp13 _) (by decide) rfl ?_
        refine Ru.op (q := (.aload_n 2, 1)) (by decide +kernel) rfl ?_
        refine Ru.op (q := (.iload_n 3, 1)) (by decide +kernel) rfl ?_
        refine Ru.op (q := (.iload 4, 2)) (by decide +kernel) rfl ?_
        refine Ru.op (q := (.aload_n 0, 1)) (by decide +kernel) rfl ?_
        refine Ru.get (i := 24) (v := .ref 15) (by decide +kernel) (by rfl) (hp13 _) (by decide) rfl ?_
        obtain ⟨o33, e34, h⟩ := ob_some h
        refine Ru.vcall (i := 144) (j2 := 67) (as := [.ref v2, vI v3, vI v4, .ref 15]) (by decide +kernel) (by rfl) rfl rfl (hp20 _) (by decide) ⟨(Nat.le_of_ble_eq_true rfl), (by show 19 + 7 ≤ 3955; exact Nat.le_of_ble_eq_true rfl), Nat.le_of_ble_eq_true rfl, Nat.le_of_ble_eq_true rfl⟩ ((g67_15_ok e34).up (Nat.le_of_ble_eq_true rfl) (Nat.le_of_ble_eq_true rfl)) ?_
        obtain ⟨g35, h⟩ := gd_some h
        by_cases b36 : o33.1 = 0
        · replace h := if_t b36 h
          refine Ru.br (k := .eq) (off := 13) (bb := true) (tg := 69) (by decide +kernel) (by decide +kernel) (cz (ci_eq1 g35 (by decide) b36)) rfl ?_
          refine Ru.inc (x := v4) (z := (v4 + 1)) (xs' := [some (.ref 13), some (vI v1), some (.ref v2), some (vI v3), some (vI (v4 + 1))]) (by decide +kernel) rfl rfl rfl ?_
          refine Ru.op (q := (.goto (-47), 3)) (by decide +kernel) rfl ?_
          exact ih _ _ _ h r hk
        · replace h := if_f b36 h
          refine Ru.br (k := .eq) (off := 13) (bb := false) (tg := 59) (by decide +kernel) (by decide +kernel) (cz (ci_eq0 g35 (by decide) b36)) rfl ?_
          refine Ru.op (q := (.aload_n 0, 1)) (by decide +kernel) rfl ?_
          refine Ru.kI (q := (.iconst 1, 1)) (c := 1) (by decide +kernel) rfl (by decide) ?_
          refine Ru.op (q := (.iload_n 1, 1)) (by decide +kernel) rfl ?_
          refine Ru.op (q := (.iload_n 3, 1)) (by decide +kernel) rfl ?_
          refine Ru.op (q := (.iload_n 1, 1)) (by decide +kernel) rfl ?_
          refine Ru.op (q := (.iload 4, 2)) (by decide +kernel) rfl ?_
          obtain ⟨o37, e38, h⟩ := ob_some h
          refine Ru.vcall (i := 73) (j2 := 49) (as := [vI 1, vI v1, vI v3, vI v1, vI v4]) (by decide +kernel) (by rfl) rfl rfl (hp13 _) (by decide) ⟨(Nat.le_of_ble_eq_true rfl), (by show 19 + 6 ≤ 3955; exact Nat.le_of_ble_eq_true rfl), Nat.le_of_ble_eq_true rfl, Nat.le_of_ble_eq_true rfl⟩ ((g49_ok e38).up (Nat.le_of_ble_eq_true rfl) (Nat.le_of_ble_eq_true rfl)) ?_
          refine Ru.inc (x := v4) (z := (v4 + 1)) (xs' := [some (.ref 13), some (vI v1), some (.ref v2), some (vI v3), some (vI (v4 + 1))]) (by decide +kernel) rfl rfl rfl ?_
          refine Ru.op (q := (.goto (-47), 3)) (by decide +kernel) rfl ?_
          exact ih _ _ _ h r hk
      · replace h := if_f b32 h
        refine Ru.br (k := .ne) (off := 37) (bb := true) (tg := 75) (by decide +kernel) (by decide +kernel) (cz (ci_ne1 g31 (by decide) b32)) rfl ?_
        cases h
        exact hk _
    · replace h := if_f b28 h
      refine Ru.br2 (k := .ge) (off := 44) (bb := true) (tg := 75) (by decide +kernel) (by decide +kernel) (ci_ge1 g27 e25.1 b28) rfl ?_
      cases h
      exact hk _
def g65L12 (v1 : Int) (v2 : Nat) : Nat → Int → St → Option (St)
  | 0, _, _ => none
  | n + 1, v3, S => gC S v2 (fun c13 c14 n15 n16 => gd (inR v3) (if v3 < n15 then ob (g65L25 v1 v2 v3 FU (v3 + 1) S) (fun o39 => g65L12 v1 v2 n (v3 + 1) o39) else some S))
set_option maxRecDepth 100000 in
set_option maxHeartbeats 4000000 in
theorem g65L12_ok {v1 : Int} {v2 : Nat} : ∀ (n : Nat) (v3 : Int) (S : St) (d4 : Option Value) (out : St), g65L12 v1 v2 n v3 S = some out → ∀ r, (∀ (e0 e1 e2 e3 e4 : Option Value), Ru none 142 3955 65 (81, [e0, e1, e2, e3, e4], [], out.ns, Hp out) r) → Ru none 142 3955 65 (12, [some (.ref 13), some (vI v1), some (.ref v2), some (vI v3), d4], [], S.ns, Hp S) r := by
  intro n
  induction n with
  | zero => intro v3 S d4 out h; cases h
  | succ n ih =>
    intro v3 S d4 out h r hk
    unfold g65L12 at h
    refine Ru.op (q := (.iload_n 3, 1)) (by decide +kernel) rfl ?_
    refine Ru.op (q := (.aload_n 2, 1)) (by decide +kernel) rfl ?_
    obtain ⟨c13, c14, n15, n16, e17, q18, h⟩ := gC_some h
    refine Ru.get (i := 104) (v := vI n15) (by decide +kernel) (by rfl) q18 (by decide) rfl ?_
    obtain ⟨g19, h⟩ := gd_some h
    by_cases b20 : v3 < n15
    · replace h := if_t b20 h
      refine Ru.br2 (k := .ge) (off := 64) (bb := false) (tg := 20) (by decide +kernel) (by decide +kernel) (ci_ge0 g19 e17.1 b20) rfl ?_
      refine Ru.op (q := (.iload_n 3, 1)) (by decide +kernel) rfl ?_
      refine Ru.kI (q := (.iconst 1, 1)) (c := 1) (by decide +kernel) rfl (by decide) ?_
      refine Ru.ar2 (i := .iadd) (z := (v3 + 1)) (by decide +kernel) rfl (ar_add _ _) ?_
      refine Ru.op (q := (.istore 4, 2)) (S' := (25, [some (.ref 13), some (vI v1), some (.ref v2), some (vI v3), some (vI (v3 + 1))], [], _, _)) (by decide +kernel) rfl ?_
      obtain ⟨o39, e41, h⟩ := ob_some h
      refine g65L25_ok FU _ _ _ e41 _ ?_
      intro d40
      refine Ru.inc (x := v3) (z := (v3 + 1)) (xs' := [some (.ref 13), some (vI v1), some (.ref v2), some (vI (v3 + 1)), d40]) (by decide +kernel) rfl rfl rfl ?_
      refine Ru.op (q := (.goto (-66), 3)) (by decide +kernel) rfl ?_
      exact ih _ _ _ _ h r hk
    · replace h := if_f b20 h
      refine Ru.br2 (k := .ge) (off := 64) (bb := true) (tg := 81) (by decide +kernel) (by decide +kernel) (ci_ge1 g19 e17.1 b20) rfl ?_
      cases h
      exact hk _ _ _ _ _
def g65 (S : St) (v1 : Int) : Option (St) := gd (ixR v1 100) (ob (S.R 14 v1) (fun c2 => gK S c2 (fun c4 n5 n6 n7 n8 n9 n10 => ob (g65L12 v1 c4 FU 0 S) (fun o42 => some o42))))
set_option maxRecDepth 100000 in
set_option maxHeartbeats 4000000 in
theorem g65_ok {S : St} {v1 : Int} {o : St} (h : g65 S v1 = some o) : Ru none 142 3955 65 (0, mn_pad (mn_ent [.ref 13, vI v1]) 5, [], S.ns, Hp S) ((0, none), o.ns, Hp o) := by
  unfold g65 at h
  show Ru none 142 3955 65 (0, [some (.ref 13), some (vI v1), none, none, none], [], S.ns, Hp S) _
  refine Ru.op (q := (.aload_n 0, 1)) (by decide +kernel) rfl ?_
  refine Ru.get (i := 11) (v := .ref 14) (by decide +kernel) (by rfl) (hp13 _) (by decide) rfl ?_
  refine Ru.op (q := (.iload_n 1, 1)) (by decide +kernel) rfl ?_
  obtain ⟨g1, h⟩ := gd_some h
  obtain ⟨c2, e3, h⟩ := ob_some h
  refine Ru.aldI (i := v1) (b := c2) (by decide +kernel) (hp14 _) (by decide) g1 e3 ?_
  obtain ⟨c4, n5, n6, n7, n8, n9, n10, e11, q12, h⟩ := gK_some h
  refine Ru.get (i := 109) (v := .ref c4) (by decide +kernel) (by rfl) q12 (by decide) rfl ?_
  refine Ru.op (q := (.astore_n 2, 1)) (S' := (10, [some (.ref 13), some (vI v1), some (.ref c4), none, none], [], _, _)) (by decide +kernel) rfl ?_
  refine Ru.kI (q := (.iconst 0, 1)) (c := 0) (by decide +kernel) rfl (by decide) ?_
  refine Ru.op (q := (.istore_n 3, 1)) (S' := (12, [some (.ref 13), some (vI v1), some (.ref c4), some (vI 0), none], [], _, _)) (by decide +kernel) rfl ?_
  obtain ⟨o42, e48, h⟩ := ob_some h
  refine g65L12_ok FU _ _ _ _ e48 _ ?_
  intro d43 d44 d45 d46 d47
  cases h
  exact Ru.end (q := (.return_, 1)) (by decide +kernel) rfl rfl
def g75_15 (S : St) (v1 : Nat) (v2 : Int) (v3 : Nat) (v4 : Int) : Option (Int × St) := gC S v1 (fun c1 c2 n3 n4 => gA S c2 (fun N7 f8 => gd (ixR v2 N7) (gC S v3 (fun c12 c13 n14 n15 => gA S c13 (fun N18 f19 => gd (ixR v4 N18) (gA S c1 (fun N23 f24 => gd (ixR (f8 v2) N23) (gA S c12 (fun N28 f29 => gd (ixR (f19 v4) N28) (gd (noR (f24 (f8 v2)) ∧ noR (f29 (f19 v4))) (gd (inR (xr (f24 (f8 v2)) (f29 (f19 v4)))) (if (xr (f24 (f8 v2)) (f29 (f19 v4))) = 256 then ob (g68 S v1 0) (fun o36 => ob (g68 o36 v3 16) (fun o38 => ob (g69 64 o38 (f8 v2) (16 + (f19 v4)) 0) (fun o40 => gd (inR o40.1) (if o40.1 = 0 then some (0, o40.2) else ob (g41_15 o40.2) (fun o44 => ob (g72_15 o44 v1 v2 0) (fun o46 => ob (g72_15 o46 v3 v4 16) (fun o48 => ob (g48_15 o48) (fun o50 => some (1, o50))))))))) else some (0, S)))))))))))))
set_option maxRecDepth 100000 in
set_option maxHeartbeats 4000000 in
theorem g75_15_ok {S : St} {v1 : Nat} {v2 : Int} {v3 : Nat} {v4 : Int} {o : Int × St} (h : g75_15 S v1 v2 v3 v4 = some o) : Ru none 141 3929 75 (0, mn_pad (mn_ent [.ref 20, .ref v1, vI v2, .ref v3, vI v4, .ref 15]) 8, [], S.ns, Hp S) ((0, some (vI o.1)), o.2.ns, Hp o.2) := by
  unfold g75_15 at h
  show Ru none 141 3929 75 (0, [some (.ref 20), some (.ref v1), some (vI v2), some (.ref v3), some (vI v4), some (.ref 15), none, none], [], S.ns, Hp S) _
  refine Ru.op (q := (.aload_n 1, 1)) (by decide +kernel) rfl ?_
  obtain ⟨c1, c2, n3, n4, e5, q6, h⟩ := gC_some h
  refine Ru.get (i := 18) (v := .ref c2) (by decide +kernel) (by rfl) q6 (by decide) rfl ?_
  refine Ru.op (q := (.iload_n 2, 1)) (by decide +kernel) rfl ?_
  obtain ⟨N7, f8, e9, q10, h⟩ := gA_some h
  obtain ⟨g11, h⟩ := gd_some h
  refine Ru.ildI (i := v2) (z := (f8 v2)) (by decide +kernel) q10 g11 rfl ?_
  refine Ru.op (q := (.istore 6, 2)) (S' := (8, [some (.ref 20), some (.ref v1), some (vI v2), some (.ref v3), some (vI v4), some (.ref 15), some (vI (f8 v2)), none], [], _, _)) (by decide +kernel) rfl ?_
  refine Ru.op (q := (.aload_n 3, 1)) (by decide +kernel) rfl ?_
  obtain ⟨c12, c13, n14, n15, e16, q17, h⟩ := gC_some h
  refine Ru.get (i := 18) (v := .ref c13) (by decide +kernel) (by rfl) q17 (by decide) rfl ?_
  refine Ru.op (q := (.iload 4, 2)) (by decide +kernel) rfl ?_
  obtain ⟨N18, f19, e20, q21, h⟩ := gA_some h
  obtain ⟨g22, h⟩ := gd_some h
  refine Ru.ildI (i := v4) (z := (f19 v4)) (by decide +kernel) q21 g22 rfl ?_
  refine Ru.op (q := (.istore 7, 2)) (S' := (17, [some (.ref 20), some (.ref v1), some (vI v2), some (.ref v3), some (vI v4), some (.ref 15), some (vI (f8 v2)), some (vI (f19 v4))], [], _, _)) (by decide +kernel) rfl ?_
  refine Ru.op (q := (.aload_n 1, 1)) (by decide +kernel) rfl ?_
  refine Ru.get (i := 23) (v := .ref c1) (by decide +kernel) (by rfl) q6 (by decide) rfl ?_
  refine Ru.op (q := (.iload 6, 2)) (by decide +kernel) rfl ?_
  obtain ⟨N23, f24, e25, q26, h⟩ := gA_some h
  obtain ⟨g27, h⟩ := gd_some h
  refine Ru.ildI (i := (f8 v2)) (z := (f24 (f8 v2))) (by decide +kernel) q26 g27 rfl ?_
  refine Ru.op (q := (.aload_n 3, 1)) (by decide +kernel) rfl ?_
  refine Ru.get (i := 23) (v := .ref c12) (by decide +kernel) (by rfl) q17 (by decide) rfl ?_
  refine Ru.op (q := (.iload 7, 2)) (by decide +kernel) rfl ?_
  obtain ⟨N28, f29, e30, q31, h⟩ := gA_some h
  obtain ⟨g32, h⟩ := gd_some h
  refine Ru.ildI (i := (f19 v4)) (z := (f29 (f19 v4))) (by decide +kernel) q31 g32 rfl ?_
  obtain ⟨g33, h⟩ := gd_some h
  refine Ru.ar2 (i := .ixor) (z := (xr (f24 (f8 v2)) (f29 (f19 v4)))) (by decide +kernel) rfl (ar_xor g33) ?_
  refine Ru.kI (q := (.sipush 256, 3)) (c := 256) (by decide +kernel) rfl (by decide) ?_
  obtain ⟨g34, h⟩ := gd_some h
  by_cases b35 : (xr (f24 (f8 v2)) (f29 (f19 v4))) = 256
  · replace h := if_t b35 h
    refine Ru.br2 (k := .eq) (off := 5) (bb := true) (tg := 40) (by decide +kernel) (by decide +kernel) (ci_eq1 g34 (by decide) b35) rfl ?_
    refine Ru.op (q := (.aload_n 0, 1)) (by decide +kernel) rfl ?_
    refine Ru.op (q := (.aload_n 1, 1)) (by decide +kernel) rfl ?_
    refine Ru.kI (q := (.iconst 0, 1)) (c := 0) (by decide +kernel) rfl (by decide) ?_
    obtain ⟨o36, e37, h⟩ := ob_some h
    refine Ru.vcall (i := 26) (j2 := 68) (as := [.ref v1, vI 0]) (by decide +kernel) (by rfl) rfl rfl (hp20 _) (by decide) ⟨(Nat.le_of_ble_eq_true rfl), (by show 19 + 5 ≤ 3929; exact Nat.le_of_ble_eq_true rfl), Nat.le_of_ble_eq_true rfl, Nat.le_of_ble_eq_true rfl⟩ ((g68_ok e37).up (Nat.le_of_ble_eq_true rfl) (Nat.le_of_ble_eq_true rfl)) ?_
    refine Ru.op (q := (.aload_n 0, 1)) (by decide +kernel) rfl ?_
    refine Ru.op (q := (.aload_n 3, 1)) (by decide +kernel) rfl ?_
    refine Ru.kI (q := (.bipush 16, 2)) (c := 16) (by decide +kernel) rfl (by decide) ?_
    obtain ⟨o38, e39, h⟩ := ob_some h
    refine Ru.vcall (i := 26) (j2 := 68) (as := [.ref v3, vI 16]) (by decide +kernel) (by rfl) rfl rfl (hp20 _) (by decide) ⟨(Nat.le_of_ble_eq_true rfl), (by show 19 + 5 ≤ 3929; exact Nat.le_of_ble_eq_true rfl), Nat.le_of_ble_eq_true rfl, Nat.le_of_ble_eq_true rfl⟩ ((g68_ok e39).up (Nat.le_of_ble_eq_true rfl) (Nat.le_of_ble_eq_true rfl)) ?_
    refine Ru.op (q := (.aload_n 0, 1)) (by decide +kernel) rfl ?_
    refine Ru.op (q := (.iload 6, 2)) (by decide +kernel) rfl ?_
    refine Ru.kI (q := (.bipush 16, 2)) (c := 16) (by decide +kernel) rfl (by decide) ?_
    refine Ru.op (q := (.iload 7, 2)) (by decide +kernel) rfl ?_
    refine Ru.ar2 (i := .iadd) (z := (16 + (f19 v4))) (by decide +kernel) rfl (ar_add _ _) ?_
    refine Ru.kI (q := (.iconst 0, 1)) (c := 0) (by decide +kernel) rfl (by decide) ?_
    obtain ⟨o40, e41, h⟩ := ob_some h
    refine Ru.vcall (i := 30) (j2 := 69) (as := [vI (f8 v2), vI (16 + (f19 v4)), vI 0]) (by decide +kernel) (by rfl) rfl rfl (hp20 _) (by decide) ⟨(Nat.le_of_ble_eq_true rfl), (by show 19 + 11 ≤ 3929; exact Nat.le_of_ble_eq_true rfl), Nat.le_of_ble_eq_true rfl, Nat.le_of_ble_eq_true rfl⟩ ((g69_ok 64 e41).up (Nat.le_of_ble_eq_true rfl) (Nat.le_of_ble_eq_true rfl)) ?_
    obtain ⟨g42, h⟩ := gd_some h
    by_cases b43 : o40.1 = 0
    · replace h := if_t b43 h
      refine Ru.br (k := .ne) (off := 5) (bb := false) (tg := 68) (by decide +kernel) (by decide +kernel) (cz (ci_ne0 g42 (by decide) b43)) rfl ?_
      refine Ru.kI (q := (.iconst 0, 1)) (c := 0) (by decide +kernel) rfl (by decide) ?_
      cases h
      exact Ru.iret (by decide +kernel) rfl (nar_b1 (by decide))
    · replace h := if_f b43 h
      refine Ru.br (k := .ne) (off := 5) (bb := true) (tg := 70) (by decide +kernel) (by decide +kernel) (cz (ci_ne1 g42 (by decide) b43)) rfl ?_
      refine Ru.op (q := (.aload 5, 2)) (by decide +kernel) rfl ?_
      obtain ⟨o44, e45, h⟩ := ob_some h
      refine Ru.vcall (i := 34) (j2 := 41) (as := []) (by decide +kernel) (by rfl) rfl rfl (hp15 _) (by decide) ⟨(Nat.le_of_ble_eq_true rfl), (by show 19 + 1 ≤ 3929; exact Nat.le_of_ble_eq_true rfl), Nat.le_of_ble_eq_true rfl, Nat.le_of_ble_eq_true rfl⟩ ((g41_15_ok e45).up (Nat.le_of_ble_eq_true rfl) (Nat.le_of_ble_eq_true rfl)) ?_
      refine Ru.op (q := (.aload_n 0, 1)) (by decide +kernel) rfl ?_
      refine Ru.op (q := (.aload_n 1, 1)) (by decide +kernel) rfl ?_
      refine Ru.op (q := (.iload_n 2, 1)) (by decide +kernel) rfl ?_
      refine Ru.kI (q := (.iconst 0, 1)) (c := 0) (by decide +kernel) rfl (by decide) ?_
      refine Ru.op (q := (.aload 5, 2)) (by decide +kernel) rfl ?_
      obtain ⟨o46, e47, h⟩ := ob_some h
      refine Ru.vcall (i := 39) (j2 := 72) (as := [.ref v1, vI v2, vI 0, .ref 15]) (by decide +kernel) (by rfl) rfl rfl (hp20 _) (by decide) ⟨(Nat.le_of_ble_eq_true rfl), (by show 19 + 6 ≤ 3929; exact Nat.le_of_ble_eq_true rfl), Nat.le_of_ble_eq_true rfl, Nat.le_of_ble_eq_true rfl⟩ ((g72_15_ok e47).up (Nat.le_of_ble_eq_true rfl) (Nat.le_of_ble_eq_true rfl)) ?_
      refine Ru.op (q := (.aload_n 0, 1)) (by decide +kernel) rfl ?_
      refine Ru.op (q := (.aload_n 3, 1)) (by decide +kernel) rfl ?_
      refine Ru.op (q := (.iload 4, 2)) (by decide +kernel) rfl ?_
      refine Ru.kI (q := (.bipush 16, 2)) (c := 16) (by decide +kernel) rfl (by decide) ?_
      refine Ru.op (q := (.aload 5, 2)) (by decide +kernel) rfl ?_
      obtain ⟨o48, e49, h⟩ := ob_some h
      refine Ru.vcall (i := 39) (j2 := 72) (as := [.ref v3, vI v4, vI 16, .ref 15]) (by decide +kernel) (by rfl) rfl rfl (hp20 _) (by decide) ⟨(Nat.le_of_ble_eq_true rfl), (by show 19 + 6 ≤ 3929; exact Nat.le_of_ble_eq_true rfl), Nat.le_of_ble_eq_true rfl, Nat.le_of_ble_eq_true rfl⟩ ((g72_15_ok e49).up (Nat.le_of_ble_eq_true rfl) (Nat.le_of_ble_eq_true rfl)) ?_
      refine Ru.op (q := (.aload 5, 2)) (by decide +kernel) rfl ?_
      obtain ⟨o50, e51, h⟩ := ob_some h
      refine Ru.vcall (i := 43) (j2 := 48) (as := []) (by decide +kernel) (by rfl) rfl rfl (hp15 _) (by decide) ⟨(Nat.le_of_ble_eq_true rfl), (by show 19 + 5 ≤ 3929; exact Nat.le_of_ble_eq_true rfl), Nat.le_of_ble_eq_true rfl, Nat.le_of_ble_eq_true rfl⟩ ((g48_15_ok e51).up (Nat.le_of_ble_eq_true rfl) (Nat.le_of_ble_eq_true rfl)) ?_
      refine Ru.kI (q := (.iconst 1, 1)) (c := 1) (by decide +kernel) rfl (by decide) ?_
      cases h
      exact Ru.iret (by decide +kernel) rfl (nar_b1 (by decide))
  · replace h := if_f b35 h
    refine Ru.br2 (k := .eq) (off := 5) (bb := false) (tg := 38) (by decide +kernel) (by decide +kernel) (ci_eq0 g34 (by decide) b35) rfl ?_
    refine Ru.kI (q := (.iconst 0, 1)) (c := 0) (by decide +kernel) rfl (by decide) ?_
    cases h
    exact Ru.iret (by decide +kernel) rfl (nar_b1 (by decide))
def g74L36 (v1 : Int) (v2 : Int) (v3 : Nat) (v4 : Nat) (v5 : Int) : Nat → Int → St → Option (St)
  | 0, _, _ => none
  | n + 1, v6, S => gC S v4 (fun c33 c34 n35 n36 => gd (inR v6) (if v6 < n35 then ob (g66 S) (fun o41 => gd (inR o41) (if o41 = 0 then ob (g75_15 S v3 v5 v4 v6) (fun o45 => gd (inR o45.1) (if o45.1 = 0 then g74L36 v1 v2 v3 v4 v5 n (v6 + 1) o45.2 else ob (g49 o45.2 2 v1 v5 v2 v6) (fun o49 => g74L36 v1 v2 v3 v4 v5 n (v6 + 1) o49))) else some S)) else some S))
set_option maxRecDepth 100000 in
set_option maxHeartbeats 4000000 in
theorem g74L36_ok {v1 : Int} {v2 : Int} {v3 : Nat} {v4 : Nat} {v5 : Int} : ∀ (n : Nat) (v6 : Int) (S : St) (out : St), g74L36 v1 v2 v3 v4 v5 n v6 S = some out → ∀ r, (∀ (e6 : Option Value), Ru none 142 3956 74 (91, [some (.ref 13), some (vI v1), some (vI v2), some (.ref v3), some (.ref v4), some (vI v5), e6], [], out.ns, Hp out) r) → Ru none 142 3956 74 (36, [some (.ref 13), some (vI v1), some (vI v2), some (.ref v3), some (.ref v4), some (vI v5), some (vI v6)], [], S.ns, Hp S) r := by
  intro n
  induction n with
  | zero => intro v6 S out h; cases h
  | succ n ih =>
    intro v6 S out h r hk
    unfold g74L36 at h
    refine Ru.op (q := (.iload 6, 2)) (by decide +kernel) rfl ?_
    refine Ru.op (q := (.aload 4, 2)) (by decide +kernel) rfl ?_
    obtain ⟨c33, c34, n35, n36, e37, q38, h⟩ := gC_some h
    refine Ru.get (i := 104) (v := vI n35) (by decide +kernel) (by rfl) q38 (by decide) rfl ?_
    obtain ⟨g39, h⟩ := gd_some h
    by_cases b40 : v6 < n35
    · replace h := if_t b40 h
      refine Ru.br2 (k := .ge) (off := 48) (bb := false) (tg := 46) (by decide +kernel) (by decide +kernel) (ci_ge0 g39 e37.1 b40) rfl ?_
      refine Ru.op (q := (.aload_n 0, 1)) (by decide +kernel) rfl ?_
      obtain ⟨o41, e42, h⟩ := ob_some h
      refine Ru.vcall (i := 134) (j2 := 66) (as := []) (by decide +kernel) (by rfl) rfl rfl (hp13 _) (by decide) ⟨(Nat.le_of_ble_eq_true rfl), (by show 19 + 1 ≤ 3956; exact Nat.le_of_ble_eq_true rfl), Nat.le_of_ble_eq_true rfl, Nat.le_of_ble_eq_true rfl⟩ ((g66_ok e42).up (Nat.le_of_ble_eq_true rfl) (Nat.le_of_ble_eq_true rfl)) ?_
      obtain ⟨g43, h⟩ := gd_some h
      by_cases b44 : o41 = 0
      · replace h := if_t b44 h
        refine Ru.br (k := .ne) (off := 41) (bb := false) (tg := 53) (by decide +kernel) (by decide +kernel) (cz (ci_ne0 g43 (by decide) b44)) rfl ?_
        refine Ru.op (q := (.aload_n 0, 1)) (by decide +kernel) rfl ?_
        refine Ru.get (i := 31) (v := .ref 20) (by decide +kernel) (by rfl) (hp13 _) (by decide) rfl ?_
        refine Ru.op (q := (.aload_n 3, 1)) (by decide +kernel) rfl ?_
        refine Ru.op (q := (.iload 5, 2)) (by decide +kernel) rfl ?_
        refine Ru.op (q := (.aload 4, 2)) (by decide +kernel) rfl ?_
        refine Ru.op (q := (.iload 6, 2)) (by decide +kernel) rfl ?_
        refine Ru.op (q := (.aload_n 0, 1)) (by decide +kernel) rfl ?_
        refine Ru.get (i := 24) (v := .ref 15) (by decide +kernel) (by rfl) (hp13 _) (by decide) rfl ?_
        obtain ⟨o45, e46, h⟩ := ob_some h
        refine Ru.vcall (i := 148) (j2 := 75) (as := [.ref v3, vI v5, .ref v4, vI v6, .ref 15]) (by decide +kernel) (by rfl) rfl rfl (hp20 _) (by decide) ⟨(Nat.le_of_ble_eq_true rfl), (by show 19 + 8 ≤ 3956; exact Nat.le_of_ble_eq_true rfl), Nat.le_of_ble_eq_true rfl, Nat.le_of_ble_eq_true rfl⟩ ((g75_15_ok e46).up (Nat.le_of_ble_eq_true rfl) (Nat.le_of_ble_eq_true rfl)) ?_
        obtain ⟨g47, h⟩ := gd_some h
        by_cases b48 : o45.1 = 0
        · replace h := if_t b48 h
          refine Ru.br (k := .eq) (off := 14) (bb := true) (tg := 85) (by decide +kernel) (by decide +kernel) (cz (ci_eq1 g47 (by decide) b48)) rfl ?_
          refine Ru.inc (x := v6) (z := (v6 + 1)) (xs' := [some (.ref 13), some (vI v1), some (vI v2), some (.ref v3), some (.ref v4), some (vI v5), some (vI (v6 + 1))]) (by decide +kernel) rfl rfl rfl ?_
          refine Ru.op (q := (.goto (-52), 3)) (by decide +kernel) rfl ?_
          exact ih _ _ _ h r hk
        · replace h := if_f b48 h
          refine Ru.br (k := .eq) (off := 14) (bb := false) (tg := 74) (by decide +kernel) (by decide +kernel) (cz (ci_eq0 g47 (by decide) b48)) rfl ?_
          refine Ru.op (q := (.aload_n 0, 1)) (by decide +kernel) rfl ?_
          refine Ru.kI (q := (.iconst 2, 1)) (c := 2) (by decide +kernel) rfl (by decide) ?_
          refine Ru.op (q := (.iload_n 1, 1)) (by decide +kernel) rfl ?_
          refine Ru.op (q := (.iload 5, 2)) (by decide +kernel) rfl ?_
          refine Ru.op (q := (.iload_n 2, 1)) (by decide +kernel) rfl ?_
          refine Ru.op (q := (.iload 6, 2)) (by decide +kernel) rfl ?_
          obtain ⟨o49, e50, h⟩ := ob_some h
          refine Ru.vcall (i := 73) (j2 := 49) (as := [vI 2, vI v1, vI v5, vI v2, vI v6]) (by decide +kernel) (by rfl) rfl rfl (hp13 _) (by decide) ⟨(Nat.le_of_ble_eq_true rfl), (by show 19 + 6 ≤ 3956; exact Nat.le_of_ble_eq_true rfl), Nat.le_of_ble_eq_true rfl, Nat.le_of_ble_eq_true rfl⟩ ((g49_ok e50).up (Nat.le_of_ble_eq_true rfl) (Nat.le_of_ble_eq_true rfl)) ?_
          refine Ru.inc (x := v6) (z := (v6 + 1)) (xs' := [some (.ref 13), some (vI v1), some (vI v2), some (.ref v3), some (.ref v4), some (vI v5), some (vI (v6 + 1))]) (by decide +kernel) rfl rfl rfl ?_
          refine Ru.op (q := (.goto (-52), 3)) (by decide +kernel) rfl ?_
          exact ih _ _ _ h r hk
      · replace h := if_f b44 h
        refine Ru.br (k := .ne) (off := 41) (bb := true) (tg := 91) (by decide +kernel) (by decide +kernel) (cz (ci_ne1 g43 (by decide) b44)) rfl ?_
        cases h
        exact hk _
    · replace h := if_f b40 h
      refine Ru.br2 (k := .ge) (off := 48) (bb := true) (tg := 91) (by decide +kernel) (by decide +kernel) (ci_ge1 g39 e37.1 b40) rfl ?_
      cases h
      exact hk _
def g74L24 (v1 : Int) (v2 : Int) (v3 : Nat) (v4 : Nat) : Nat → Int → St → Option (St)
  | 0, _, _ => none
  | n + 1, v5, S => gC S v3 (fun c25 c26 n27 n28 => gd (inR v5) (if v5 < n27 then ob (g74L36 v1 v2 v3 v4 v5 FU 0 S) (fun o51 => g74L24 v1 v2 v3 v4 n (v5 + 1) o51) else some S))
set_option maxRecDepth 100000 in
set_option maxHeartbeats 4000000 in
theorem g74L24_ok {v1 : Int} {v2 : Int} {v3 : Nat} {v4 : Nat} : ∀ (n : Nat) (v5 : Int) (S : St) (d6 : Option Value) (out : St), g74L24 v1 v2 v3 v4 n v5 S = some out → ∀ r, (∀ (e0 e1 e2 e3 e4 e5 e6 : Option Value), Ru none 142 3956 74 (97, [e0, e1, e2, e3, e4, e5, e6], [], out.ns, Hp out) r) → Ru none 142 3956 74 (24, [some (.ref 13), some (vI v1), some (vI v2), some (.ref v3), some (.ref v4), some (vI v5), d6], [], S.ns, Hp S) r := by
  intro n
  induction n with
  | zero => intro v5 S d6 out h; cases h
  | succ n ih =>
    intro v5 S d6 out h r hk
    unfold g74L24 at h
    refine Ru.op (q := (.iload 5, 2)) (by decide +kernel) rfl ?_
    refine Ru.op (q := (.aload_n 3, 1)) (by decide +kernel) rfl ?_
    obtain ⟨c25, c26, n27, n28, e29, q30, h⟩ := gC_some h
    refine Ru.get (i := 104) (v := vI n27) (by decide +kernel) (by rfl) q30 (by decide) rfl ?_
    obtain ⟨g31, h⟩ := gd_some h
    by_cases b32 : v5 < n27
    · replace h := if_t b32 h
      refine Ru.br2 (k := .ge) (off := 67) (bb := false) (tg := 33) (by decide +kernel) (by decide +kernel) (ci_ge0 g31 e29.1 b32) rfl ?_
      refine Ru.kI (q := (.iconst 0, 1)) (c := 0) (by decide +kernel) rfl (by decide) ?_
      refine Ru.op (q := (.istore 6, 2)) (S' := (36, [some (.ref 13), some (vI v1), some (vI v2), some (.ref v3), some (.ref v4), some (vI v5), some (vI 0)], [], _, _)) (by decide +kernel) rfl ?_
      obtain ⟨o51, e53, h⟩ := ob_some h
      refine g74L36_ok FU _ _ _ e53 _ ?_
      intro d52
      refine Ru.inc (x := v5) (z := (v5 + 1)) (xs' := [some (.ref 13), some (vI v1), some (vI v2), some (.ref v3), some (.ref v4), some (vI (v5 + 1)), d52]) (by decide +kernel) rfl rfl rfl ?_
      refine Ru.op (q := (.goto (-70), 3)) (by decide +kernel) rfl ?_
      exact ih _ _ _ _ h r hk
    · replace h := if_f b32 h
      refine Ru.br2 (k := .ge) (off := 67) (bb := true) (tg := 97) (by decide +kernel) (by decide +kernel) (ci_ge1 g31 e29.1 b32) rfl ?_
      cases h
      exact hk _ _ _ _ _ _ _
def g74 (S : St) (v1 : Int) (v2 : Int) : Option (St) := gd (ixR v1 100) (ob (S.R 14 v1) (fun c2 => gK S c2 (fun c4 n5 n6 n7 n8 n9 n10 => gd (ixR v2 100) (ob (S.R 14 v2) (fun c14 => gK S c14 (fun c16 n17 n18 n19 n20 n21 n22 => ob (g74L24 v1 v2 c4 c16 FU 0 S) (fun o54 => some o54)))))))
set_option maxRecDepth 100000 in
set_option maxHeartbeats 4000000 in
theorem g74_ok {S : St} {v1 : Int} {v2 : Int} {o : St} (h : g74 S v1 v2 = some o) : Ru none 142 3956 74 (0, mn_pad (mn_ent [.ref 13, vI v1, vI v2]) 7, [], S.ns, Hp S) ((0, none), o.ns, Hp o) := by
  unfold g74 at h
  show Ru none 142 3956 74 (0, [some (.ref 13), some (vI v1), some (vI v2), none, none, none, none], [], S.ns, Hp S) _
  refine Ru.op (q := (.aload_n 0, 1)) (by decide +kernel) rfl ?_
  refine Ru.get (i := 11) (v := .ref 14) (by decide +kernel) (by rfl) (hp13 _) (by decide) rfl ?_
  refine Ru.op (q := (.iload_n 1, 1)) (by decide +kernel) rfl ?_
  obtain ⟨g1, h⟩ := gd_some h
  obtain ⟨c2, e3, h⟩ := ob_some h
  refine Ru.aldI (i := v1) (b := c2) (by decide +kernel) (hp14 _) (by decide) g1 e3 ?_
  obtain ⟨c4, n5, n6, n7, n8, n9, n10, e11, q12, h⟩ := gK_some h
  refine Ru.get (i := 109) (v := .ref c4) (by decide +kernel) (by rfl) q12 (by decide) rfl ?_
  refine Ru.op (q := (.astore_n 3, 1)) (S' := (10, [some (.ref 13), some (vI v1), some (vI v2), some (.ref c4), none, none, none], [], _, _)) (by decide +kernel) rfl ?_
  refine Ru.op (q := (.aload_n 0, 1)) (by decide +kernel) rfl ?_
  refine Ru.get (i := 11) (v := .ref 14) (by decide +kernel) (by rfl) (hp13 _) (by decide) rfl ?_
  refine Ru.op (q := (.iload_n 2, 1)) (by decide +kernel) rfl ?_
  obtain ⟨g13, h⟩ := gd_some h
  obtain ⟨c14, e15, h⟩ := ob_some h
  refine Ru.aldI (i := v2) (b := c14) (by decide +kernel) (hp14 _) (by decide) g13 e15 ?_
  obtain ⟨c16, n17, n18, n19, n20, n21, n22, e23, q24, h⟩ := gK_some h
  refine Ru.get (i := 109) (v := .ref c16) (by decide +kernel) (by rfl) q24 (by decide) rfl ?_
  refine Ru.op (q := (.astore 4, 2)) (S' := (21, [some (.ref 13), some (vI v1), some (vI v2), some (.ref c4), some (.ref c16), none, none], [], _, _)) (by decide +kernel) rfl ?_
  refine Ru.kI (q := (.iconst 0, 1)) (c := 0) (by decide +kernel) rfl (by decide) ?_
  refine Ru.op (q := (.istore 5, 2)) (S' := (24, [some (.ref 13), some (vI v1), some (vI v2), some (.ref c4), some (.ref c16), some (vI 0), none], [], _, _)) (by decide +kernel) rfl ?_
  obtain ⟨o54, e62, h⟩ := ob_some h
  refine g74L24_ok FU _ _ _ _ e62 _ ?_
  intro d55 d56 d57 d58 d59 d60 d61
  cases h
  exact Ru.end (q := (.return_, 1)) (by decide +kernel) rfl rfl
def g61L85 (v1 : Int) (v2 : Int) : Nat → Int → St → Option (St)
  | 0, _, _ => none
  | n + 1, v3, S => gd (inR v3) (gd (inR v2) (if v3 < v2 then ob (g66 S) (fun o32 => gd (inR o32) (if o32 = 0 then gd (ixR v3 100) (ob (S.R 14 v3) (fun c37 => gK S c37 (fun c39 n40 n41 n42 n43 n44 n45 => if n40 = 1 then ob (g74 S v1 v3) (fun o49 => g61L85 v1 v2 n (v3 + 1) o49) else g61L85 v1 v2 n (v3 + 1) S))) else some S)) else some S))
set_option maxRecDepth 100000 in
set_option maxHeartbeats 4000000 in
theorem g61L85_ok {v1 : Int} {v2 : Int} : ∀ (n : Nat) (v3 : Int) (S : St) (out : St), g61L85 v1 v2 n v3 S = some out → ∀ r, (∀ (e0 e2 e3 : Option Value), Ru none 143 3982 61 (122, [e0, some (vI v1), e2, e3], [], out.ns, Hp out) r) → Ru none 143 3982 61 (85, [some (.ref 13), some (vI v1), some (vI v2), some (vI v3)], [], S.ns, Hp S) r := by
  intro n
  induction n with
  | zero => intro v3 S out h; cases h
  | succ n ih =>
    intro v3 S out h r hk
    unfold g61L85 at h
    refine Ru.op (q := (.iload_n 3, 1)) (by decide +kernel) rfl ?_
    refine Ru.op (q := (.iload_n 2, 1)) (by decide +kernel) rfl ?_
    obtain ⟨g29, h⟩ := gd_some h
    obtain ⟨g30, h⟩ := gd_some h
    by_cases b31 : v3 < v2
    · replace h := if_t b31 h
      refine Ru.br2 (k := .ge) (off := 35) (bb := false) (tg := 90) (by decide +kernel) (by decide +kernel) (ci_ge0 g29 g30 b31) rfl ?_
      refine Ru.op (q := (.aload_n 0, 1)) (by decide +kernel) rfl ?_
      obtain ⟨o32, e33, h⟩ := ob_some h
      refine Ru.vcall (i := 134) (j2 := 66) (as := []) (by decide +kernel) (by rfl) rfl rfl (hp13 _) (by decide) ⟨(Nat.le_of_ble_eq_true rfl), (by show 19 + 1 ≤ 3982; exact Nat.le_of_ble_eq_true rfl), Nat.le_of_ble_eq_true rfl, Nat.le_of_ble_eq_true rfl⟩ ((g66_ok e33).up (Nat.le_of_ble_eq_true rfl) (Nat.le_of_ble_eq_true rfl)) ?_
      obtain ⟨g34, h⟩ := gd_some h
      by_cases b35 : o32 = 0
      · replace h := if_t b35 h
        refine Ru.br (k := .ne) (off := 28) (bb := false) (tg := 97) (by decide +kernel) (by decide +kernel) (cz (ci_ne0 g34 (by decide) b35)) rfl ?_
        refine Ru.op (q := (.aload_n 0, 1)) (by decide +kernel) rfl ?_
        refine Ru.get (i := 11) (v := .ref 14) (by decide +kernel) (by rfl) (hp13 _) (by decide) rfl ?_
        refine Ru.op (q := (.iload_n 3, 1)) (by decide +kernel) rfl ?_
        obtain ⟨g36, h⟩ := gd_some h
        obtain ⟨c37, e38, h⟩ := ob_some h
        refine Ru.aldI (i := v3) (b := c37) (by decide +kernel) (hp14 _) (by decide) g36 e38 ?_
        obtain ⟨c39, n40, n41, n42, n43, n44, n45, e46, q47, h⟩ := gK_some h
        refine Ru.get (i := 60) (v := vI n40) (by decide +kernel) (by rfl) q47 (by decide) rfl ?_
        refine Ru.kI (q := (.iconst 1, 1)) (c := 1) (by decide +kernel) rfl (by decide) ?_
        by_cases b48 : n40 = 1
        · replace h := if_t b48 h
          refine Ru.br2 (k := .ne) (off := 9) (bb := false) (tg := 110) (by decide +kernel) (by decide +kernel) (ci_ne0 e46.1 (by decide) b48) rfl ?_
          refine Ru.op (q := (.aload_n 0, 1)) (by decide +kernel) rfl ?_
          refine Ru.op (q := (.iload_n 1, 1)) (by decide +kernel) rfl ?_
          refine Ru.op (q := (.iload_n 3, 1)) (by decide +kernel) rfl ?_
          obtain ⟨o49, e50, h⟩ := ob_some h
          refine Ru.vcall (i := 137) (j2 := 74) (as := [vI v1, vI v3]) (by decide +kernel) (by rfl) rfl rfl (hp13 _) (by decide) ⟨(Nat.le_of_ble_eq_true rfl), (by show 19 + 7 ≤ 3982; exact Nat.le_of_ble_eq_true rfl), Nat.le_of_ble_eq_true rfl, Nat.le_of_ble_eq_true rfl⟩ ((g74_ok e50).up (Nat.le_of_ble_eq_true rfl) (Nat.le_of_ble_eq_true rfl)) ?_
          refine Ru.inc (x := v3) (z := (v3 + 1)) (xs' := [some (.ref 13), some (vI v1), some (vI v2), some (vI (v3 + 1))]) (by decide +kernel) rfl rfl rfl ?_
          refine Ru.op (q := (.goto (-34), 3)) (by decide +kernel) rfl ?_
          exact ih _ _ _ h r hk
        · replace h := if_f b48 h
          refine Ru.br2 (k := .ne) (off := 9) (bb := true) (tg := 116) (by decide +kernel) (by decide +kernel) (ci_ne1 e46.1 (by decide) b48) rfl ?_
          refine Ru.inc (x := v3) (z := (v3 + 1)) (xs' := [some (.ref 13), some (vI v1), some (vI v2), some (vI (v3 + 1))]) (by decide +kernel) rfl rfl rfl ?_
          refine Ru.op (q := (.goto (-34), 3)) (by decide +kernel) rfl ?_
          exact ih _ _ _ h r hk
      · replace h := if_f b35 h
        refine Ru.br (k := .ne) (off := 28) (bb := true) (tg := 122) (by decide +kernel) (by decide +kernel) (cz (ci_ne1 g34 (by decide) b35)) rfl ?_
        cases h
        exact hk _ _ _
    · replace h := if_f b31 h
      refine Ru.br2 (k := .ge) (off := 35) (bb := true) (tg := 122) (by decide +kernel) (by decide +kernel) (ci_ge1 g29 g30 b31) rfl ?_
      cases h
      exact hk _ _ _
def g61 (S : St) : Option (Int × St) := gd (dvR ((S.F 13 3) + 1) 4) (gd (inR (((S.F 13 3) + 1) % 4)) (if (((S.F 13 3) + 1) % 4) = 0 then ob (g62 S 1) (fun o4 => gd (inR o4) (if o4 = (-1) then some ((-1), S) else ob (g63 (S.f 13 3 ((S.F 13 3) + 1)) o4) (fun o8 => gd (inR o8.1) (if o8.1 = 0 then ob (g64 o8.2 o4) (fun o12 => gd (ixR o4 100) (ob (o12.R 14 o4) (fun c15 => gK o12 c15 (fun c17 n18 n19 n20 n21 n22 n23 => gd (72 ≤ c15) (ob (g65 (o12.t c15 (.ob 9 [c17] [eI 1, eI n19, eI n20, eI n21, eI n22, eI n23])) o4) (fun o27 => ob (g61L85 o4 (o27.F 13 1) FU 0 o27) (fun o51 => some (o4, o51)))))))) else gd (ixR o4 100) (ob (o8.2.R 14 o4) (fun c57 => gK o8.2 c57 (fun c59 n60 n61 n62 n63 n64 n65 => gd (72 ≤ c57) (some (o4, (o8.2.t c57 (.ob 9 [c59] [eI 2, eI n61, eI n62, eI n63, eI n64, eI n65]))))))))))) else ob (g62 S 0) (fun o69 => gd (inR o69) (if o69 = (-1) then some ((-1), S) else ob (g63 (S.f 13 3 ((S.F 13 3) + 1)) o69) (fun o73 => gd (inR o73.1) (if o73.1 = 0 then ob (g64 o73.2 o69) (fun o77 => gd (ixR o69 100) (ob (o77.R 14 o69) (fun c80 => gK o77 c80 (fun c82 n83 n84 n85 n86 n87 n88 => gd (72 ≤ c80) (ob (g65 (o77.t c80 (.ob 9 [c82] [eI 1, eI n84, eI n85, eI n86, eI n87, eI n88])) o69) (fun o92 => ob (g61L85 o69 (o92.F 13 1) FU 0 o92) (fun o94 => some (o69, o94)))))))) else gd (ixR o69 100) (ob (o73.2.R 14 o69) (fun c100 => gK o73.2 c100 (fun c102 n103 n104 n105 n106 n107 n108 => gd (72 ≤ c100) (some (o69, (o73.2.t c100 (.ob 9 [c102] [eI 2, eI n104, eI n105, eI n106, eI n107, eI n108])))))))))))))
set_option maxRecDepth 100000 in
set_option maxHeartbeats 4000000 in
theorem g61_ok {S : St} {o : Int × St} (h : g61 S  = some o) : Ru none 143 3982 61 (0, mn_pad (mn_ent [.ref 13]) 4, [], S.ns, Hp S) ((0, some (vI o.1)), o.2.ns, Hp o.2) := by
  unfold g61 at h
  show Ru none 143 3982 61 (0, [some (.ref 13), none, none, none], [], S.ns, Hp S) _
  refine Ru.op (q := (.aload_n 0, 1)) (by decide +kernel) rfl ?_
  refine Ru.op (q := (.aload_n 0, 1)) (by decide +kernel) rfl ?_
  refine Ru.getI (i := 116) (x := (S.F 13 3)) (by decide +kernel) (by rfl) (hp13 _) (by decide) rfl (eI_of _) ?_
  refine Ru.kI (q := (.iconst 1, 1)) (c := 1) (by decide +kernel) rfl (by decide) ?_
  refine Ru.ar2 (i := .iadd) (z := ((S.F 13 3) + 1)) (by decide +kernel) rfl (ar_add _ _) ?_
  refine Ru.kI (q := (.iconst 4, 1)) (c := 4) (by decide +kernel) rfl (by decide) ?_
  obtain ⟨g1, h⟩ := gd_some h
  refine Ru.ar2 (i := .irem) (z := (((S.F 13 3) + 1) % 4)) (by decide +kernel) rfl (ar_rem g1) ?_
  obtain ⟨g2, h⟩ := gd_some h
  by_cases b3 : (((S.F 13 3) + 1) % 4) = 0
  · replace h := if_t b3 h
    refine Ru.br (k := .ne) (off := 7) (bb := false) (tg := 12) (by decide +kernel) (by decide +kernel) (cz (ci_ne0 g2 (by decide) b3)) rfl ?_
    refine Ru.kI (q := (.iconst 1, 1)) (c := 1) (by decide +kernel) rfl (by decide) ?_
    refine Ru.op (q := (.goto 4, 3)) (by decide +kernel) rfl ?_
    obtain ⟨o4, e5, h⟩ := ob_some h
    refine Ru.vcall (i := 119) (j2 := 62) (as := [vI 1]) (by decide +kernel) (by rfl) rfl rfl (hp13 _) (by decide) ⟨(Nat.le_of_ble_eq_true rfl), (by show 19 + 4 ≤ 3982; exact Nat.le_of_ble_eq_true rfl), Nat.le_of_ble_eq_true rfl, Nat.le_of_ble_eq_true rfl⟩ ((g62_ok e5).up (Nat.le_of_ble_eq_true rfl) (Nat.le_of_ble_eq_true rfl)) ?_
    refine Ru.op (q := (.istore_n 1, 1)) (S' := (21, [some (.ref 13), some (vI o4), none, none], [], _, _)) (by decide +kernel) rfl ?_
    refine Ru.op (q := (.iload_n 1, 1)) (by decide +kernel) rfl ?_
    refine Ru.kI (q := (.iconst (-1), 1)) (c := (-1)) (by decide +kernel) rfl (by decide) ?_
    obtain ⟨g6, h⟩ := gd_some h
    by_cases b7 : o4 = (-1)
    · replace h := if_t b7 h
      refine Ru.br2 (k := .ne) (off := 5) (bb := false) (tg := 26) (by decide +kernel) (by decide +kernel) (ci_ne0 g6 (by decide) b7) rfl ?_
      refine Ru.kI (q := (.iconst (-1), 1)) (c := (-1)) (by decide +kernel) rfl (by decide) ?_
      cases h
      exact Ru.iret (by decide +kernel) rfl rfl
    · replace h := if_f b7 h
      refine Ru.br2 (k := .ne) (off := 5) (bb := true) (tg := 28) (by decide +kernel) (by decide +kernel) (ci_ne1 g6 (by decide) b7) rfl ?_
      refine Ru.op (q := (.aload_n 0, 1)) (by decide +kernel) rfl ?_
      refine Ru.op (q := (.dup, 1)) (by decide +kernel) rfl ?_
      refine Ru.getI (i := 116) (x := (S.F 13 3)) (by decide +kernel) (by rfl) (hp13 _) (by decide) rfl (eI_of _) ?_
      refine Ru.kI (q := (.iconst 1, 1)) (c := 1) (by decide +kernel) rfl (by decide) ?_
      refine Ru.ar2 (i := .iadd) (z := ((S.F 13 3) + 1)) (by decide +kernel) rfl (ar_add _ _) ?_
      refine Ru.putH (i := 116) (by decide +kernel) (by rfl) (hp13 _) (by decide) (Nat.le_of_ble_eq_true rfl) rfl (by decide +kernel) (pf_13_3 _ _) ?_
      refine Ru.op (q := (.aload_n 0, 1)) (by decide +kernel) rfl ?_
      refine Ru.op (q := (.iload_n 1, 1)) (by decide +kernel) rfl ?_
      obtain ⟨o8, e9, h⟩ := ob_some h
      refine Ru.vcall (i := 123) (j2 := 63) (as := [vI o4]) (by decide +kernel) (by rfl) rfl rfl (hp13 _) (by decide) ⟨(Nat.le_of_ble_eq_true rfl), (by show 19 + 3 ≤ 3982; exact Nat.le_of_ble_eq_true rfl), Nat.le_of_ble_eq_true rfl, Nat.le_of_ble_eq_true rfl⟩ ((g63_ok e9).up (Nat.le_of_ble_eq_true rfl) (Nat.le_of_ble_eq_true rfl)) ?_
      obtain ⟨g10, h⟩ := gd_some h
      by_cases b11 : o8.1 = 0
      · replace h := if_t b11 h
        refine Ru.br (k := .eq) (off := 15) (bb := true) (tg := 58) (by decide +kernel) (by decide +kernel) (cz (ci_eq1 g10 (by decide) b11)) rfl ?_
        refine Ru.op (q := (.aload_n 0, 1)) (by decide +kernel) rfl ?_
        refine Ru.op (q := (.iload_n 1, 1)) (by decide +kernel) rfl ?_
        obtain ⟨o12, e13, h⟩ := ob_some h
        refine Ru.vcall (i := 127) (j2 := 64) (as := [vI o4]) (by decide +kernel) (by rfl) rfl rfl (hp13 _) (by decide) ⟨(Nat.le_of_ble_eq_true rfl), (by show 19 + 3 ≤ 3982; exact Nat.le_of_ble_eq_true rfl), Nat.le_of_ble_eq_true rfl, Nat.le_of_ble_eq_true rfl⟩ ((g64_ok e13).up (Nat.le_of_ble_eq_true rfl) (Nat.le_of_ble_eq_true rfl)) ?_
        refine Ru.op (q := (.aload_n 0, 1)) (by decide +kernel) rfl ?_
        refine Ru.get (i := 11) (v := .ref 14) (by decide +kernel) (by rfl) (hp13 _) (by decide) rfl ?_
        refine Ru.op (q := (.iload_n 1, 1)) (by decide +kernel) rfl ?_
        obtain ⟨g14, h⟩ := gd_some h
        obtain ⟨c15, e16, h⟩ := ob_some h
        refine Ru.aldI (i := o4) (b := c15) (by decide +kernel) (hp14 _) (by decide) g14 e16 ?_
        refine Ru.kI (q := (.iconst 1, 1)) (c := 1) (by decide +kernel) rfl (by decide) ?_
        obtain ⟨c17, n18, n19, n20, n21, n22, n23, e24, q25, h⟩ := gK_some h
        obtain ⟨g26, h⟩ := gd_some h
        refine Ru.putH (i := 60) (by decide +kernel) (by rfl) q25 (by decide) (Nat.le_of_ble_eq_true rfl) rfl (by decide +kernel) (pt_ok g26 (x := .ob 9 [c17] [eI 1, eI n19, eI n20, eI n21, eI n22, eI n23])) ?_
        refine Ru.op (q := (.aload_n 0, 1)) (by decide +kernel) rfl ?_
        refine Ru.op (q := (.iload_n 1, 1)) (by decide +kernel) rfl ?_
        obtain ⟨o27, e28, h⟩ := ob_some h
        refine Ru.vcall (i := 131) (j2 := 65) (as := [vI o4]) (by decide +kernel) (by rfl) rfl rfl (hp13 _) (by decide) ⟨(Nat.le_of_ble_eq_true rfl), (by show 19 + 5 ≤ 3982; exact Nat.le_of_ble_eq_true rfl), Nat.le_of_ble_eq_true rfl, Nat.le_of_ble_eq_true rfl⟩ ((g65_ok e28).up (Nat.le_of_ble_eq_true rfl) (Nat.le_of_ble_eq_true rfl)) ?_
        refine Ru.op (q := (.aload_n 0, 1)) (by decide +kernel) rfl ?_
        refine Ru.getI (i := 57) (x := (o27.F 13 1)) (by decide +kernel) (by rfl) (hp13 _) (by decide) rfl (eI_of _) ?_
        refine Ru.op (q := (.istore_n 2, 1)) (S' := (83, [some (.ref 13), some (vI o4), some (vI (o27.F 13 1)), none], [], _, _)) (by decide +kernel) rfl ?_
        refine Ru.kI (q := (.iconst 0, 1)) (c := 0) (by decide +kernel) rfl (by decide) ?_
        refine Ru.op (q := (.istore_n 3, 1)) (S' := (85, [some (.ref 13), some (vI o4), some (vI (o27.F 13 1)), some (vI 0)], [], _, _)) (by decide +kernel) rfl ?_
        obtain ⟨o51, e55, h⟩ := ob_some h
        refine g61L85_ok FU _ _ _ e55 _ ?_
        intro d52 d53 d54
        refine Ru.op (q := (.iload_n 1, 1)) (by decide +kernel) rfl ?_
        cases h
        exact Ru.iret (by decide +kernel) rfl rfl
      · replace h := if_f b11 h
        refine Ru.br (k := .eq) (off := 15) (bb := false) (tg := 46) (by decide +kernel) (by decide +kernel) (cz (ci_eq0 g10 (by decide) b11)) rfl ?_
        refine Ru.op (q := (.aload_n 0, 1)) (by decide +kernel) rfl ?_
        refine Ru.get (i := 11) (v := .ref 14) (by decide +kernel) (by rfl) (hp13 _) (by decide) rfl ?_
        refine Ru.op (q := (.iload_n 1, 1)) (by decide +kernel) rfl ?_
        obtain ⟨g56, h⟩ := gd_some h
        obtain ⟨c57, e58, h⟩ := ob_some h
        refine Ru.aldI (i := o4) (b := c57) (by decide +kernel) (hp14 _) (by decide) g56 e58 ?_
        refine Ru.kI (q := (.iconst 2, 1)) (c := 2) (by decide +kernel) rfl (by decide) ?_
        obtain ⟨c59, n60, n61, n62, n63, n64, n65, e66, q67, h⟩ := gK_some h
        obtain ⟨g68, h⟩ := gd_some h
        refine Ru.putH (i := 60) (by decide +kernel) (by rfl) q67 (by decide) (Nat.le_of_ble_eq_true rfl) rfl (by decide +kernel) (pt_ok g68 (x := .ob 9 [c59] [eI 2, eI n61, eI n62, eI n63, eI n64, eI n65])) ?_
        refine Ru.op (q := (.iload_n 1, 1)) (by decide +kernel) rfl ?_
        cases h
        exact Ru.iret (by decide +kernel) rfl rfl
  · replace h := if_f b3 h
    refine Ru.br (k := .ne) (off := 7) (bb := true) (tg := 16) (by decide +kernel) (by decide +kernel) (cz (ci_ne1 g2 (by decide) b3)) rfl ?_
    refine Ru.kI (q := (.iconst 0, 1)) (c := 0) (by decide +kernel) rfl (by decide) ?_
    obtain ⟨o69, e70, h⟩ := ob_some h
    refine Ru.vcall (i := 119) (j2 := 62) (as := [vI 0]) (by decide +kernel) (by rfl) rfl rfl (hp13 _) (by decide) ⟨(Nat.le_of_ble_eq_true rfl), (by show 19 + 4 ≤ 3982; exact Nat.le_of_ble_eq_true rfl), Nat.le_of_ble_eq_true rfl, Nat.le_of_ble_eq_true rfl⟩ ((g62_ok e70).up (Nat.le_of_ble_eq_true rfl) (Nat.le_of_ble_eq_true rfl)) ?_
    refine Ru.op (q := (.istore_n 1, 1)) (S' := (21, [some (.ref 13), some (vI o69), none, none], [], _, _)) (by decide +kernel) rfl ?_
    refine Ru.op (q := (.iload_n 1, 1)) (by decide +kernel) rfl ?_
    refine Ru.kI (q := (.iconst (-1), 1)) (c := (-1)) (by decide +kernel) rfl (by decide) ?_
    obtain ⟨g71, h⟩ := gd_some h
    by_cases b72 : o69 = (-1)
    · replace h := if_t b72 h
      refine Ru.br2 (k := .ne) (off := 5) (bb := false) (tg := 26) (by decide +kernel) (by decide +kernel) (ci_ne0 g71 (by decide) b72) rfl ?_
      refine Ru.kI (q := (.iconst (-1), 1)) (c := (-1)) (by decide +kernel) rfl (by decide) ?_
      cases h
      exact Ru.iret (by decide +kernel) rfl rfl
    · replace h := if_f b72 h
      refine Ru.br2 (k := .ne) (off := 5) (bb := true) (tg := 28) (by decide +kernel) (by decide +kernel) (ci_ne1 g71 (by decide) b72) rfl ?_
      refine Ru.op (q := (.aload_n 0, 1)) (by decide +kernel) rfl ?_
      refine Ru.op (q := (.dup, 1)) (by decide +kernel) rfl ?_
      refine Ru.getI (i := 116) (x := (S.F 13 3)) (by decide +kernel) (by rfl) (hp13 _) (by decide) rfl (eI_of _) ?_
      refine Ru.kI (q := (.iconst 1, 1)) (c := 1) (by decide +kernel) rfl (by decide) ?_
      refine Ru.ar2 (i := .iadd) (z := ((S.F 13 3) + 1)) (by decide +kernel) rfl (ar_add _ _) ?_
      refine Ru.putH (i := 116) (by decide +kernel) (by rfl) (hp13 _) (by decide) (Nat.le_of_ble_eq_true rfl) rfl (by decide +kernel) (pf_13_3 _ _) ?_
      refine Ru.op (q := (.aload_n 0, 1)) (by decide +kernel) rfl ?_
      refine Ru.op (q := (.iload_n 1, 1)) (by decide +kernel) rfl ?_
      obtain ⟨o73, e74, h⟩ := ob_some h
      refine Ru.vcall (i := 123) (j2 := 63) (as := [vI o69]) (by decide +kernel) (by rfl) rfl rfl (hp13 _) (by decide) ⟨(Nat.le_of_ble_eq_true rfl), (by show 19 + 3 ≤ 3982; exact Nat.le_of_ble_eq_true rfl), Nat.le_of_ble_eq_true rfl, Nat.le_of_ble_eq_true rfl⟩ ((g63_ok e74).up (Nat.le_of_ble_eq_true rfl) (Nat.le_of_ble_eq_true rfl)) ?_
      obtain ⟨g75, h⟩ := gd_some h
      by_cases b76 : o73.1 = 0
      · replace h := if_t b76 h
        refine Ru.br (k := .eq) (off := 15) (bb := true) (tg := 58) (by decide +kernel) (by decide +kernel) (cz (ci_eq1 g75 (by decide) b76)) rfl ?_
        refine Ru.op (q := (.aload_n 0, 1)) (by decide +kernel) rfl ?_
        refine Ru.op (q := (.iload_n 1, 1)) (by decide +kernel) rfl ?_
        obtain ⟨o77, e78, h⟩ := ob_some h
        refine Ru.vcall (i := 127) (j2 := 64) (as := [vI o69]) (by decide +kernel) (by rfl) rfl rfl (hp13 _) (by decide) ⟨(Nat.le_of_ble_eq_true rfl), (by show 19 + 3 ≤ 3982; exact Nat.le_of_ble_eq_true rfl), Nat.le_of_ble_eq_true rfl, Nat.le_of_ble_eq_true rfl⟩ ((g64_ok e78).up (Nat.le_of_ble_eq_true rfl) (Nat.le_of_ble_eq_true rfl)) ?_
        refine Ru.op (q := (.aload_n 0, 1)) (by decide +kernel) rfl ?_
        refine Ru.get (i := 11) (v := .ref 14) (by decide +kernel) (by rfl) (hp13 _) (by decide) rfl ?_
        refine Ru.op (q := (.iload_n 1, 1)) (by decide +kernel) rfl ?_
        obtain ⟨g79, h⟩ := gd_some h
        obtain ⟨c80, e81, h⟩ := ob_some h
        refine Ru.aldI (i := o69) (b := c80) (by decide +kernel) (hp14 _) (by decide) g79 e81 ?_
        refine Ru.kI (q := (.iconst 1, 1)) (c := 1) (by decide +kernel) rfl (by decide) ?_
        obtain ⟨c82, n83, n84, n85, n86, n87, n88, e89, q90, h⟩ := gK_some h
        obtain ⟨g91, h⟩ := gd_some h
        refine Ru.putH (i := 60) (by decide +kernel) (by rfl) q90 (by decide) (Nat.le_of_ble_eq_true rfl) rfl (by decide +kernel) (pt_ok g91 (x := .ob 9 [c82] [eI 1, eI n84, eI n85, eI n86, eI n87, eI n88])) ?_
        refine Ru.op (q := (.aload_n 0, 1)) (by decide +kernel) rfl ?_
        refine Ru.op (q := (.iload_n 1, 1)) (by decide +kernel) rfl ?_
        obtain ⟨o92, e93, h⟩ := ob_some h
        refine Ru.vcall (i := 131) (j2 := 65) (as := [vI o69]) (by decide +kernel) (by rfl) rfl rfl (hp13 _) (by decide) ⟨(Nat.le_of_ble_eq_true rfl), (by show 19 + 5 ≤ 3982; exact Nat.le_of_ble_eq_true rfl), Nat.le_of_ble_eq_true rfl, Nat.le_of_ble_eq_true rfl⟩ ((g65_ok e93).up (Nat.le_of_ble_eq_true rfl) (Nat.le_of_ble_eq_true rfl)) ?_
        refine Ru.op (q := (.aload_n 0, 1)) (by decide +kernel) rfl ?_
        refine Ru.getI (i := 57) (x := (o92.F 13 1)) (by decide +kernel) (by rfl) (hp13 _) (by decide) rfl (eI_of _) ?_
        refine Ru.op (q := (.istore_n 2, 1)) (S' := (83, [some (.ref 13), some (vI o69), some (vI (o92.F 13 1)), none], [], _, _)) (by decide +kernel) rfl ?_
        refine Ru.kI (q := (.iconst 0, 1)) (c := 0) (by decide +kernel) rfl (by decide) ?_
        refine Ru.op (q := (.istore_n 3, 1)) (S' := (85, [some (.ref 13), some (vI o69), some (vI (o92.F 13 1)), some (vI 0)], [], _, _)) (by decide +kernel) rfl ?_
        obtain ⟨o94, e98, h⟩ := ob_some h
        refine g61L85_ok FU _ _ _ e98 _ ?_
        intro d95 d96 d97
        refine Ru.op (q := (.iload_n 1, 1)) (by decide +kernel) rfl ?_
        cases h
        exact Ru.iret (by decide +kernel) rfl rfl
      · replace h := if_f b76 h
        refine Ru.br (k := .eq) (off := 15) (bb := false) (tg := 46) (by decide +kernel) (by decide +kernel) (cz (ci_eq0 g75 (by decide) b76)) rfl ?_
        refine Ru.op (q := (.aload_n 0, 1)) (by decide +kernel) rfl ?_
        refine Ru.get (i := 11) (v := .ref 14) (by decide +kernel) (by rfl) (hp13 _) (by decide) rfl ?_
        refine Ru.op (q := (.iload_n 1, 1)) (by decide +kernel) rfl ?_
        obtain ⟨g99, h⟩ := gd_some h
        obtain ⟨c100, e101, h⟩ := ob_some h
        refine Ru.aldI (i := o69) (b := c100) (by decide +kernel) (hp14 _) (by decide) g99 e101 ?_
        refine Ru.kI (q := (.iconst 2, 1)) (c := 2) (by decide +kernel) rfl (by decide) ?_
        obtain ⟨c102, n103, n104, n105, n106, n107, n108, e109, q110, h⟩ := gK_some h
        obtain ⟨g111, h⟩ := gd_some h
        refine Ru.putH (i := 60) (by decide +kernel) (by rfl) q110 (by decide) (Nat.le_of_ble_eq_true rfl) rfl (by decide +kernel) (pt_ok g111 (x := .ob 9 [c102] [eI 2, eI n104, eI n105, eI n106, eI n107, eI n108])) ?_
        refine Ru.op (q := (.iload_n 1, 1)) (by decide +kernel) rfl ?_
        cases h
        exact Ru.iret (by decide +kernel) rfl rfl
def g60 (S : St) : Option (Nat × Int × St) := ob (g12 S) (fun o1 => gd (inR o1) (if o1 = 0 then ob (g61 S) (fun o5 => some (0, o5.1, o5.2)) else some (2, 0, S.ho)))
set_option maxRecDepth 100000 in
set_option maxHeartbeats 4000000 in
theorem g60_ok {S : St} {o : Nat × Int × St} (h : g60 S  = some o) : Ru none 144 4005 60 (0, mn_pad (mn_ent [.ref 0]) 1, [], S.ns, Hp S) ((o.1, tv o.1 o.2.1), o.2.2.ns, Hp o.2.2) := by
  unfold g60 at h
  show Ru none 144 4005 60 (0, [some (.ref 0)], [], S.ns, Hp S) _
  refine Ru.op (q := (.aload_n 0, 1)) (by decide +kernel) rfl ?_
  refine Ru.get (i := 19) (v := .ref 13) (by decide +kernel) (by rfl) (hp0 _) (by decide) rfl ?_
  obtain ⟨o1, e2, h⟩ := ob_some h
  refine Ru.vcall (i := 95) (j2 := 12) (as := []) (by decide +kernel) (by rfl) rfl rfl (hp13 _) (by decide) ⟨(Nat.le_of_ble_eq_true rfl), (by show 19 + 1 ≤ 4005; exact Nat.le_of_ble_eq_true rfl), Nat.le_of_ble_eq_true rfl, Nat.le_of_ble_eq_true rfl⟩ ((g12_ok e2).up (Nat.le_of_ble_eq_true rfl) (Nat.le_of_ble_eq_true rfl)) ?_
  obtain ⟨g3, h⟩ := gd_some h
  by_cases b4 : o1 = 0
  · replace h := if_t b4 h
    refine Ru.br (k := .eq) (off := 11) (bb := true) (tg := 18) (by decide +kernel) (by decide +kernel) (cz (ci_eq1 g3 (by decide) b4)) rfl ?_
    refine Ru.op (q := (.aload_n 0, 1)) (by decide +kernel) rfl ?_
    refine Ru.get (i := 19) (v := .ref 13) (by decide +kernel) (by rfl) (hp0 _) (by decide) rfl ?_
    obtain ⟨o5, e6, h⟩ := ob_some h
    refine Ru.vcall (i := 99) (j2 := 61) (as := []) (by decide +kernel) (by rfl) rfl rfl (hp13 _) (by decide) ⟨(Nat.le_of_ble_eq_true rfl), (by show 19 + 4 ≤ 4005; exact Nat.le_of_ble_eq_true rfl), Nat.le_of_ble_eq_true rfl, Nat.le_of_ble_eq_true rfl⟩ ((g61_ok e6).up (Nat.le_of_ble_eq_true rfl) (Nat.le_of_ble_eq_true rfl)) ?_
    cases h
    exact Ru.iret (by decide +kernel) rfl rfl
  · replace h := if_f b4 h
    refine Ru.br (k := .eq) (off := 11) (bb := false) (tg := 10) (by decide +kernel) (by decide +kernel) (cz (ci_eq0 g3 (by decide) b4)) rfl ?_
    cases h
    exact tho (S := S) (Ru.thr (q := (.new 88, 3)) (by decide +kernel) rfl rfl (by decide +kernel))
def g76L20 (v1 : Int) : Nat → Int → St → Option (Int × St)
  | 0, _, _ => none
  | n + 1, v2, S => gd (inR v2) (gd (inR v1) (if v2 < v1 then ob (g12 S) (fun o7 => gd (inR o7) (if o7 = 0 then ob (g61 S) (fun o11 => g76L20 v1 n (v2 + 1) o11.2) else some (v2, S))) else some (v2, S)))
set_option maxRecDepth 100000 in
set_option maxHeartbeats 4000000 in
theorem g76L20_ok {v1 : Int} : ∀ (n : Nat) (v2 : Int) (S : St) (out : Int × St), g76L20 v1 n v2 S = some out → ∀ r, (∀ (e0 e1 : Option Value), Ru none 144 4005 76 (49, [e0, e1, some (vI out.1)], [], out.2.ns, Hp out.2) r) → Ru none 144 4005 76 (20, [some (.ref 0), some (vI v1), some (vI v2)], [], S.ns, Hp S) r := by
  intro n
  induction n with
  | zero => intro v2 S out h; cases h
  | succ n ih =>
    intro v2 S out h r hk
    unfold g76L20 at h
    refine Ru.op (q := (.iload_n 2, 1)) (by decide +kernel) rfl ?_
    refine Ru.op (q := (.iload_n 1, 1)) (by decide +kernel) rfl ?_
    obtain ⟨g4, h⟩ := gd_some h
    obtain ⟨g5, h⟩ := gd_some h
    by_cases b6 : v2 < v1
    · replace h := if_t b6 h
      refine Ru.br2 (k := .ge) (off := 27) (bb := false) (tg := 25) (by decide +kernel) (by decide +kernel) (ci_ge0 g4 g5 b6) rfl ?_
      refine Ru.op (q := (.aload_n 0, 1)) (by decide +kernel) rfl ?_
      refine Ru.get (i := 19) (v := .ref 13) (by decide +kernel) (by rfl) (hp0 _) (by decide) rfl ?_
      obtain ⟨o7, e8, h⟩ := ob_some h
      refine Ru.vcall (i := 95) (j2 := 12) (as := []) (by decide +kernel) (by rfl) rfl rfl (hp13 _) (by decide) ⟨(Nat.le_of_ble_eq_true rfl), (by show 19 + 1 ≤ 4005; exact Nat.le_of_ble_eq_true rfl), Nat.le_of_ble_eq_true rfl, Nat.le_of_ble_eq_true rfl⟩ ((g12_ok e8).up (Nat.le_of_ble_eq_true rfl) (Nat.le_of_ble_eq_true rfl)) ?_
      obtain ⟨g9, h⟩ := gd_some h
      by_cases b10 : o7 = 0
      · replace h := if_t b10 h
        refine Ru.br (k := .ne) (off := 17) (bb := false) (tg := 35) (by decide +kernel) (by decide +kernel) (cz (ci_ne0 g9 (by decide) b10)) rfl ?_
        refine Ru.op (q := (.aload_n 0, 1)) (by decide +kernel) rfl ?_
        refine Ru.get (i := 19) (v := .ref 13) (by decide +kernel) (by rfl) (hp0 _) (by decide) rfl ?_
        obtain ⟨o11, e12, h⟩ := ob_some h
        refine Ru.vcall (i := 99) (j2 := 61) (as := []) (by decide +kernel) (by rfl) rfl rfl (hp13 _) (by decide) ⟨(Nat.le_of_ble_eq_true rfl), (by show 19 + 4 ≤ 4005; exact Nat.le_of_ble_eq_true rfl), Nat.le_of_ble_eq_true rfl, Nat.le_of_ble_eq_true rfl⟩ ((g61_ok e12).up (Nat.le_of_ble_eq_true rfl) (Nat.le_of_ble_eq_true rfl)) ?_
        refine Ru.op (q := (.pop, 1)) (by decide +kernel) rfl ?_
        refine Ru.inc (x := v2) (z := (v2 + 1)) (xs' := [some (.ref 0), some (vI v1), some (vI (v2 + 1))]) (by decide +kernel) rfl rfl rfl ?_
        refine Ru.op (q := (.goto (-26), 3)) (by decide +kernel) rfl ?_
        exact ih _ _ _ h r hk
      · replace h := if_f b10 h
        refine Ru.br (k := .ne) (off := 17) (bb := true) (tg := 49) (by decide +kernel) (by decide +kernel) (cz (ci_ne1 g9 (by decide) b10)) rfl ?_
        cases h
        exact hk _ _
    · replace h := if_f b6 h
      refine Ru.br2 (k := .ge) (off := 27) (bb := true) (tg := 49) (by decide +kernel) (by decide +kernel) (ci_ge1 g4 g5 b6) rfl ?_
      cases h
      exact hk _ _
def g76 (S : St) (v1 : Int) : Option (Nat × Int × St) := gd (inR v1) (if v1 < 0 then some (1, 0, S.ho) else if 50 < v1 then some (1, 0, S.ho) else ob (g76L20 v1 FU 0 S) (fun o13 => some (0, o13.1, o13.2)))
set_option maxRecDepth 100000 in
set_option maxHeartbeats 4000000 in
theorem g76_ok {S : St} {v1 : Int} {o : Nat × Int × St} (h : g76 S v1 = some o) : Ru none 144 4005 76 (0, mn_pad (mn_ent [.ref 0, vI v1]) 3, [], S.ns, Hp S) ((o.1, tv o.1 o.2.1), o.2.2.ns, Hp o.2.2) := by
  unfold g76 at h
  show Ru none 144 4005 76 (0, [some (.ref 0), some (vI v1), none], [], S.ns, Hp S) _
  refine Ru.op (q := (.iload_n 1, 1)) (by decide +kernel) rfl ?_
  obtain ⟨g1, h⟩ := gd_some h
  by_cases b2 : v1 < 0
  · replace h := if_t b2 h
    refine Ru.br (k := .lt) (off := 9) (bb := true) (tg := 10) (by decide +kernel) (by decide +kernel) (cz (ci_lt1 g1 (by decide) b2)) rfl ?_
    cases h
    exact tho (S := S) (Ru.thr (q := (.new 51, 3)) (by decide +kernel) rfl rfl (by decide +kernel))
  · replace h := if_f b2 h
    refine Ru.br (k := .lt) (off := 9) (bb := false) (tg := 4) (by decide +kernel) (by decide +kernel) (cz (ci_lt0 g1 (by decide) b2)) rfl ?_
    refine Ru.op (q := (.iload_n 1, 1)) (by decide +kernel) rfl ?_
    refine Ru.kI (q := (.bipush 50, 2)) (c := 50) (by decide +kernel) rfl (by decide) ?_
    by_cases b3 : 50 < v1
    · replace h := if_t b3 h
      refine Ru.br2 (k := .le) (off := 11) (bb := false) (tg := 10) (by decide +kernel) (by decide +kernel) (ci_le0 g1 (by decide) b3) rfl ?_
      cases h
      exact tho (S := S) (Ru.thr (q := (.new 51, 3)) (by decide +kernel) rfl rfl (by decide +kernel))
    · replace h := if_f b3 h
      refine Ru.br2 (k := .le) (off := 11) (bb := true) (tg := 18) (by decide +kernel) (by decide +kernel) (ci_le1 g1 (by decide) b3) rfl ?_
      refine Ru.kI (q := (.iconst 0, 1)) (c := 0) (by decide +kernel) rfl (by decide) ?_
      refine Ru.op (q := (.istore_n 2, 1)) (S' := (20, [some (.ref 0), some (vI v1), some (vI 0)], [], _, _)) (by decide +kernel) rfl ?_
      obtain ⟨o13, e16, h⟩ := ob_some h
      refine g76L20_ok FU _ _ _ e16 _ ?_
      intro d14 d15
      refine Ru.op (q := (.iload_n 2, 1)) (by decide +kernel) rfl ?_
      cases h
      exact Ru.iret (by decide +kernel) rfl rfl
def g79 (S : St) (v1 : Int) : Option (St) := if (S.F 28 1) < 128 then gd (ixR (S.F 28 1) 128) (gd (chR v1) (some ((S.a 29 (S.F 28 1) v1).f 28 1 ((S.F 28 1) + 1)))) else some S
set_option maxRecDepth 100000 in
set_option maxHeartbeats 4000000 in
theorem g79_ok {S : St} {v1 : Int} {o : St} (h : g79 S v1 = some o) : Ru none 10 200 79 (0, mn_pad (mn_ent [.ref 28, vI v1]) 2, [], S.ns, Hp S) ((0, none), o.ns, Hp o) := by
  unfold g79 at h
  show Ru none 10 200 79 (0, [some (.ref 28), some (vI v1)], [], S.ns, Hp S) _
  refine Ru.op (q := (.aload_n 0, 1)) (by decide +kernel) rfl ?_
  refine Ru.getI (i := 15) (x := (S.F 28 1)) (by decide +kernel) (by rfl) (hp28 _) (by decide) rfl (eI_of _) ?_
  refine Ru.op (q := (.aload_n 0, 1)) (by decide +kernel) rfl ?_
  refine Ru.get (i := 9) (v := .ref 29) (by decide +kernel) (by rfl) (hp28 _) (by decide) rfl ?_
  refine Ru.lenI (N := 128) (z := 128) (by decide +kernel) (hp29 _) (by decide) (aI_len _ _) rfl ?_
  by_cases b1 : (S.F 28 1) < 128
  · replace h := if_t b1 h
    refine Ru.br2 (k := .ge) (off := 23) (bb := false) (tg := 12) (by decide +kernel) (by decide +kernel) (ci_ge0 (inR_to _) (by decide) b1) rfl ?_
    refine Ru.op (q := (.aload_n 0, 1)) (by decide +kernel) rfl ?_
    refine Ru.get (i := 9) (v := .ref 29) (by decide +kernel) (by rfl) (hp28 _) (by decide) rfl ?_
    refine Ru.op (q := (.aload_n 0, 1)) (by decide +kernel) rfl ?_
    refine Ru.getI (i := 15) (x := (S.F 28 1)) (by decide +kernel) (by rfl) (hp28 _) (by decide) rfl (eI_of _) ?_
    refine Ru.op (q := (.iload_n 1, 1)) (by decide +kernel) rfl ?_
    obtain ⟨g2, h⟩ := gd_some h
    obtain ⟨g3, h⟩ := gd_some h
    refine Ru.cstI (i := (S.F 28 1)) (x := v1) (by decide +kernel) (hp29 _) g2 g3 (ps_29 _ _ _) ?_
    refine Ru.op (q := (.aload_n 0, 1)) (by decide +kernel) rfl ?_
    refine Ru.op (q := (.dup, 1)) (by decide +kernel) rfl ?_
    refine Ru.getI (i := 15) (x := (S.F 28 1)) (by decide +kernel) (by rfl) (hp28 _) (by decide) rfl (eI_of _) ?_
    refine Ru.kI (q := (.iconst 1, 1)) (c := 1) (by decide +kernel) rfl (by decide) ?_
    refine Ru.ar2 (i := .iadd) (z := ((S.F 28 1) + 1)) (by decide +kernel) rfl (ar_add _ _) ?_
    refine Ru.putH (i := 15) (by decide +kernel) (by rfl) (hp28 _) (by decide) (Nat.le_of_ble_eq_true rfl) rfl (by decide +kernel) (pf_28_1 _ _) ?_
    cases h
    exact Ru.end (q := (.return_, 1)) (by decide +kernel) rfl rfl
  · replace h := if_f b1 h
    refine Ru.br2 (k := .ge) (off := 23) (bb := true) (tg := 32) (by decide +kernel) (by decide +kernel) (ci_ge1 (inR_to _) (by decide) b1) rfl ?_
    cases h
    exact Ru.end (q := (.return_, 1)) (by decide +kernel) rfl rfl
def g82 (S : St) (v1 : Int) : Option (St) := gd (inR v1) (if v1 < 10 then gd (dvR v1 10) (gd (chR (48 + (v1 % 10))) (ob (g79 S (48 + (v1 % 10))) (fun o5 => some o5))) else gd (dvR v1 10) (gd (chR (48 + (v1 / 10))) (ob (g79 S (48 + (v1 / 10))) (fun o9 => gd (chR (48 + (v1 % 10))) (ob (g79 o9 (48 + (v1 % 10))) (fun o12 => some o12))))))
set_option maxRecDepth 100000 in
set_option maxHeartbeats 4000000 in
theorem g82_ok {S : St} {v1 : Int} {o : St} (h : g82 S v1 = some o) : Ru none 11 221 82 (0, mn_pad (mn_ent [.ref 28, vI v1]) 2, [], S.ns, Hp S) ((0, none), o.ns, Hp o) := by
  unfold g82 at h
  show Ru none 11 221 82 (0, [some (.ref 28), some (vI v1)], [], S.ns, Hp S) _
  refine Ru.op (q := (.iload_n 1, 1)) (by decide +kernel) rfl ?_
  refine Ru.kI (q := (.bipush 10, 2)) (c := 10) (by decide +kernel) rfl (by decide) ?_
  obtain ⟨g1, h⟩ := gd_some h
  by_cases b2 : v1 < 10
  · replace h := if_t b2 h
    refine Ru.br2 (k := .lt) (off := 15) (bb := true) (tg := 18) (by decide +kernel) (by decide +kernel) (ci_lt1 g1 (by decide) b2) rfl ?_
    refine Ru.op (q := (.aload_n 0, 1)) (by decide +kernel) rfl ?_
    refine Ru.kI (q := (.bipush 48, 2)) (c := 48) (by decide +kernel) rfl (by decide) ?_
    refine Ru.op (q := (.iload_n 1, 1)) (by decide +kernel) rfl ?_
    refine Ru.kI (q := (.bipush 10, 2)) (c := 10) (by decide +kernel) rfl (by decide) ?_
    obtain ⟨g3, h⟩ := gd_some h
    refine Ru.ar2 (i := .irem) (z := (v1 % 10)) (by decide +kernel) rfl (ar_rem g3) ?_
    refine Ru.ar2 (i := .iadd) (z := (48 + (v1 % 10))) (by decide +kernel) rfl (ar_add _ _) ?_
    obtain ⟨g4, h⟩ := gd_some h
    refine Ru.i2c (by decide +kernel) g4 ?_
    obtain ⟨o5, e6, h⟩ := ob_some h
    refine Ru.vcall (i := 24) (j2 := 79) (as := [vI (48 + (v1 % 10))]) (by decide +kernel) (by rfl) rfl rfl (hp28 _) (by decide) ⟨(Nat.le_of_ble_eq_true rfl), (by show 19 + 2 ≤ 221; exact Nat.le_of_ble_eq_true rfl), Nat.le_of_ble_eq_true rfl, Nat.le_of_ble_eq_true rfl⟩ ((g79_ok e6).up (Nat.le_of_ble_eq_true rfl) (Nat.le_of_ble_eq_true rfl)) ?_
    cases h
    exact Ru.end (q := (.return_, 1)) (by decide +kernel) rfl rfl
  · replace h := if_f b2 h
    refine Ru.br2 (k := .lt) (off := 15) (bb := false) (tg := 6) (by decide +kernel) (by decide +kernel) (ci_lt0 g1 (by decide) b2) rfl ?_
    refine Ru.op (q := (.aload_n 0, 1)) (by decide +kernel) rfl ?_
    refine Ru.kI (q := (.bipush 48, 2)) (c := 48) (by decide +kernel) rfl (by decide) ?_
    refine Ru.op (q := (.iload_n 1, 1)) (by decide +kernel) rfl ?_
    refine Ru.kI (q := (.bipush 10, 2)) (c := 10) (by decide +kernel) rfl (by decide) ?_
    obtain ⟨g7, h⟩ := gd_some h
    refine Ru.ar2 (i := .idiv) (z := (v1 / 10)) (by decide +kernel) rfl (ar_div g7) ?_
    refine Ru.ar2 (i := .iadd) (z := (48 + (v1 / 10))) (by decide +kernel) rfl (ar_add _ _) ?_
    obtain ⟨g8, h⟩ := gd_some h
    refine Ru.i2c (by decide +kernel) g8 ?_
    obtain ⟨o9, e10, h⟩ := ob_some h
    refine Ru.vcall (i := 24) (j2 := 79) (as := [vI (48 + (v1 / 10))]) (by decide +kernel) (by rfl) rfl rfl (hp28 _) (by decide) ⟨(Nat.le_of_ble_eq_true rfl), (by show 19 + 2 ≤ 221; exact Nat.le_of_ble_eq_true rfl), Nat.le_of_ble_eq_true rfl, Nat.le_of_ble_eq_true rfl⟩ ((g79_ok e10).up (Nat.le_of_ble_eq_true rfl) (Nat.le_of_ble_eq_true rfl)) ?_
    refine Ru.op (q := (.aload_n 0, 1)) (by decide +kernel) rfl ?_
    refine Ru.kI (q := (.bipush 48, 2)) (c := 48) (by decide +kernel) rfl (by decide) ?_
    refine Ru.op (q := (.iload_n 1, 1)) (by decide +kernel) rfl ?_
    refine Ru.kI (q := (.bipush 10, 2)) (c := 10) (by decide +kernel) rfl (by decide) ?_
    refine Ru.ar2 (i := .irem) (z := (v1 % 10)) (by decide +kernel) rfl (ar_rem g7) ?_
    refine Ru.ar2 (i := .iadd) (z := (48 + (v1 % 10))) (by decide +kernel) rfl (ar_add _ _) ?_
    obtain ⟨g11, h⟩ := gd_some h
    refine Ru.i2c (by decide +kernel) g11 ?_
    obtain ⟨o12, e13, h⟩ := ob_some h
    refine Ru.vcall (i := 24) (j2 := 79) (as := [vI (48 + (v1 % 10))]) (by decide +kernel) (by rfl) rfl rfl (hp28 _) (by decide) ⟨(Nat.le_of_ble_eq_true rfl), (by show 19 + 2 ≤ 221; exact Nat.le_of_ble_eq_true rfl), Nat.le_of_ble_eq_true rfl, Nat.le_of_ble_eq_true rfl⟩ ((g79_ok e13).up (Nat.le_of_ble_eq_true rfl) (Nat.le_of_ble_eq_true rfl)) ?_
    cases h
    exact Ru.end (q := (.return_, 1)) (by decide +kernel) rfl rfl
def g81 (S : St) (v1 : Int) : Option (St) := gd (inR v1) (if v1 < 131072 then if v1 < 65536 then if v1 < 32768 then gd (dvR (v1 / 256) 3) (gd (chR (120 + ((v1 / 256) % 3))) (ob (g79 S (120 + ((v1 / 256) % 3))) (fun o7 => gd (inR (v1 / 256)) (if (v1 / 256) < 3 then some o7 else ob (g82 o7 ((v1 / 256) / 3)) (fun o11 => some o11))))) else gd (inR (v1 - 32768)) (gd (dvR ((v1 - 32768) / 256) 11) (gd (chR (97 + (((v1 - 32768) / 256) / 11))) (ob (g79 S (97 + (((v1 - 32768) / 256) / 11))) (fun o16 => gd (inR (((v1 - 32768) / 256) % 11)) (if 0 < (((v1 - 32768) / 256) % 11) then ob (g82 o16 ((((v1 - 32768) / 256) % 11) - 1)) (fun o20 => some o20) else some o16))))) else ob (g79 S 36) (fun o22 => gd (inR (v1 - 65536)) (ob (g82 o22 ((v1 - 65536) / 256)) (fun o25 => some o25))) else gd (inR (v1 - 131072)) (gd (dvR ((v1 - 131072) / 256) 2) (gd (inR (((v1 - 131072) / 256) % 2)) (if (((v1 - 131072) / 256) % 2) = 1 then ob (g79 S 126) (fun o31 => gd (chR (65 + (((v1 - 131072) / 256) / 2))) (ob (g79 o31 (65 + (((v1 - 131072) / 256) / 2))) (fun o34 => some o34))) else gd (chR (65 + (((v1 - 131072) / 256) / 2))) (ob (g79 S (65 + (((v1 - 131072) / 256) / 2))) (fun o37 => some o37))))))
set_option maxRecDepth 100000 in
set_option maxHeartbeats 4000000 in
theorem g81_ok {S : St} {v1 : Int} {o : St} (h : g81 S v1 = some o) : Ru none 12 242 81 (0, mn_pad (mn_ent [.ref 28, vI v1]) 3, [], S.ns, Hp S) ((0, none), o.ns, Hp o) := by
  unfold g81 at h
  show Ru none 12 242 81 (0, [some (.ref 28), some (vI v1), none], [], S.ns, Hp S) _
  refine Ru.op (q := (.iload_n 1, 1)) (by decide +kernel) rfl ?_
  refine Ru.kI (q := (.ldc 47, 2)) (c := 131072) (by decide +kernel) rfl (by decide) ?_
  obtain ⟨g1, h⟩ := gd_some h
  by_cases b2 : v1 < 131072
  · replace h := if_t b2 h
    refine Ru.br2 (k := .lt) (off := 38) (bb := true) (tg := 41) (by decide +kernel) (by decide +kernel) (ci_lt1 g1 (by decide) b2) rfl ?_
    refine Ru.op (q := (.iload_n 1, 1)) (by decide +kernel) rfl ?_
    refine Ru.kI (q := (.ldc 48, 2)) (c := 65536) (by decide +kernel) rfl (by decide) ?_
    by_cases b3 : v1 < 65536
    · replace h := if_t b3 h
      refine Ru.br2 (k := .lt) (off := 23) (bb := true) (tg := 67) (by decide +kernel) (by decide +kernel) (ci_lt1 g1 (by decide) b3) rfl ?_
      refine Ru.op (q := (.iload_n 1, 1)) (by decide +kernel) rfl ?_
      refine Ru.kI (q := (.ldc 52, 2)) (c := 32768) (by decide +kernel) rfl (by decide) ?_
      by_cases b4 : v1 < 32768
      · replace h := if_t b4 h
        refine Ru.br2 (k := .lt) (off := 43) (bb := true) (tg := 113) (by decide +kernel) (by decide +kernel) (ci_lt1 g1 (by decide) b4) rfl ?_
        refine Ru.op (q := (.iload_n 1, 1)) (by decide +kernel) rfl ?_
        refine Ru.kI (q := (.bipush 8, 2)) (c := 8) (by decide +kernel) rfl (by decide) ?_
        refine Ru.ar2 (i := .ishr) (z := (v1 / 256)) (by decide +kernel) rfl (ar_shr g1) ?_
        refine Ru.op (q := (.istore_n 2, 1)) (S' := (118, [some (.ref 28), some (vI v1), some (vI (v1 / 256))], [], _, _)) (by decide +kernel) rfl ?_
        refine Ru.op (q := (.aload_n 0, 1)) (by decide +kernel) rfl ?_
        refine Ru.kI (q := (.bipush 120, 2)) (c := 120) (by decide +kernel) rfl (by decide) ?_
        refine Ru.op (q := (.iload_n 2, 1)) (by decide +kernel) rfl ?_
        refine Ru.kI (q := (.iconst 3, 1)) (c := 3) (by decide +kernel) rfl (by decide) ?_
        obtain ⟨g5, h⟩ := gd_some h
        refine Ru.ar2 (i := .irem) (z := ((v1 / 256) % 3)) (by decide +kernel) rfl (ar_rem g5) ?_
        refine Ru.ar2 (i := .iadd) (z := (120 + ((v1 / 256) % 3))) (by decide +kernel) rfl (ar_add _ _) ?_
        obtain ⟨g6, h⟩ := gd_some h
        refine Ru.i2c (by decide +kernel) g6 ?_
        obtain ⟨o7, e8, h⟩ := ob_some h
        refine Ru.vcall (i := 24) (j2 := 79) (as := [vI (120 + ((v1 / 256) % 3))]) (by decide +kernel) (by rfl) rfl rfl (hp28 _) (by decide) ⟨(Nat.le_of_ble_eq_true rfl), (by show 19 + 2 ≤ 242; exact Nat.le_of_ble_eq_true rfl), Nat.le_of_ble_eq_true rfl, Nat.le_of_ble_eq_true rfl⟩ ((g79_ok e8).up (Nat.le_of_ble_eq_true rfl) (Nat.le_of_ble_eq_true rfl)) ?_
        refine Ru.op (q := (.iload_n 2, 1)) (by decide +kernel) rfl ?_
        refine Ru.kI (q := (.iconst 3, 1)) (c := 3) (by decide +kernel) rfl (by decide) ?_
        obtain ⟨g9, h⟩ := gd_some h
        by_cases b10 : (v1 / 256) < 3
        · replace h := if_t b10 h
          refine Ru.br2 (k := .lt) (off := 10) (bb := true) (tg := 141) (by decide +kernel) (by decide +kernel) (ci_lt1 g9 (by decide) b10) rfl ?_
          cases h
          exact Ru.end (q := (.return_, 1)) (by decide +kernel) rfl rfl
        · replace h := if_f b10 h
          refine Ru.br2 (k := .lt) (off := 10) (bb := false) (tg := 134) (by decide +kernel) (by decide +kernel) (ci_lt0 g9 (by decide) b10) rfl ?_
          refine Ru.op (q := (.aload_n 0, 1)) (by decide +kernel) rfl ?_
          refine Ru.op (q := (.iload_n 2, 1)) (by decide +kernel) rfl ?_
          refine Ru.kI (q := (.iconst 3, 1)) (c := 3) (by decide +kernel) rfl (by decide) ?_
          refine Ru.ar2 (i := .idiv) (z := ((v1 / 256) / 3)) (by decide +kernel) rfl (ar_div g5) ?_
          obtain ⟨o11, e12, h⟩ := ob_some h
          refine Ru.vcall (i := 49) (j2 := 82) (as := [vI ((v1 / 256) / 3)]) (by decide +kernel) (by rfl) rfl rfl (hp28 _) (by decide) ⟨(Nat.le_of_ble_eq_true rfl), (by show 19 + 2 ≤ 242; exact Nat.le_of_ble_eq_true rfl), Nat.le_of_ble_eq_true rfl, Nat.le_of_ble_eq_true rfl⟩ ((g82_ok e12).up (Nat.le_of_ble_eq_true rfl) (Nat.le_of_ble_eq_true rfl)) ?_
          cases h
          exact Ru.end (q := (.return_, 1)) (by decide +kernel) rfl rfl
      · replace h := if_f b4 h
        refine Ru.br2 (k := .lt) (off := 43) (bb := false) (tg := 73) (by decide +kernel) (by decide +kernel) (ci_lt0 g1 (by decide) b4) rfl ?_
        refine Ru.op (q := (.iload_n 1, 1)) (by decide +kernel) rfl ?_
        refine Ru.kI (q := (.ldc 52, 2)) (c := 32768) (by decide +kernel) rfl (by decide) ?_
        refine Ru.ar2 (i := .isub) (z := (v1 - 32768)) (by decide +kernel) rfl (ar_sub _ _) ?_
        refine Ru.kI (q := (.bipush 8, 2)) (c := 8) (by decide +kernel) rfl (by decide) ?_
        obtain ⟨g13, h⟩ := gd_some h
        refine Ru.ar2 (i := .ishr) (z := ((v1 - 32768) / 256)) (by decide +kernel) rfl (ar_shr g13) ?_
        refine Ru.op (q := (.istore_n 2, 1)) (S' := (81, [some (.ref 28), some (vI v1), some (vI ((v1 - 32768) / 256))], [], _, _)) (by decide +kernel) rfl ?_
        refine Ru.op (q := (.aload_n 0, 1)) (by decide +kernel) rfl ?_
        refine Ru.kI (q := (.bipush 97, 2)) (c := 97) (by decide +kernel) rfl (by decide) ?_
        refine Ru.op (q := (.iload_n 2, 1)) (by decide +kernel) rfl ?_
        refine Ru.kI (q := (.bipush 11, 2)) (c := 11) (by decide +kernel) rfl (by decide) ?_
        obtain ⟨g14, h⟩ := gd_some h
        refine Ru.ar2 (i := .idiv) (z := (((v1 - 32768) / 256) / 11)) (by decide +kernel) rfl (ar_div g14) ?_
        refine Ru.ar2 (i := .iadd) (z := (97 + (((v1 - 32768) / 256) / 11))) (by decide +kernel) rfl (ar_add _ _) ?_
        obtain ⟨g15, h⟩ := gd_some h
        refine Ru.i2c (by decide +kernel) g15 ?_
        obtain ⟨o16, e17, h⟩ := ob_some h
        refine Ru.vcall (i := 24) (j2 := 79) (as := [vI (97 + (((v1 - 32768) / 256) / 11))]) (by decide +kernel) (by rfl) rfl rfl (hp28 _) (by decide) ⟨(Nat.le_of_ble_eq_true rfl), (by show 19 + 2 ≤ 242; exact Nat.le_of_ble_eq_true rfl), Nat.le_of_ble_eq_true rfl, Nat.le_of_ble_eq_true rfl⟩ ((g79_ok e17).up (Nat.le_of_ble_eq_true rfl) (Nat.le_of_ble_eq_true rfl)) ?_
        refine Ru.op (q := (.iload_n 2, 1)) (by decide +kernel) rfl ?_
        refine Ru.kI (q := (.bipush 11, 2)) (c := 11) (by decide +kernel) rfl (by decide) ?_
        refine Ru.ar2 (i := .irem) (z := (((v1 - 32768) / 256) % 11)) (by decide +kernel) rfl (ar_rem g14) ?_
        obtain ⟨g18, h⟩ := gd_some h
        by_cases b19 : 0 < (((v1 - 32768) / 256) % 11)
        · replace h := if_t b19 h
          refine Ru.br (k := .le) (off := 13) (bb := false) (tg := 100) (by decide +kernel) (by decide +kernel) (cz (ci_le0 g18 (by decide) b19)) rfl ?_
          refine Ru.op (q := (.aload_n 0, 1)) (by decide +kernel) rfl ?_
          refine Ru.op (q := (.iload_n 2, 1)) (by decide +kernel) rfl ?_
          refine Ru.kI (q := (.bipush 11, 2)) (c := 11) (by decide +kernel) rfl (by decide) ?_
          refine Ru.ar2 (i := .irem) (z := (((v1 - 32768) / 256) % 11)) (by decide +kernel) rfl (ar_rem g14) ?_
          refine Ru.kI (q := (.iconst 1, 1)) (c := 1) (by decide +kernel) rfl (by decide) ?_
          refine Ru.ar2 (i := .isub) (z := ((((v1 - 32768) / 256) % 11) - 1)) (by decide +kernel) rfl (ar_sub _ _) ?_
          obtain ⟨o20, e21, h⟩ := ob_some h
          refine Ru.vcall (i := 49) (j2 := 82) (as := [vI ((((v1 - 32768) / 256) % 11) - 1)]) (by decide +kernel) (by rfl) rfl rfl (hp28 _) (by decide) ⟨(Nat.le_of_ble_eq_true rfl), (by show 19 + 2 ≤ 242; exact Nat.le_of_ble_eq_true rfl), Nat.le_of_ble_eq_true rfl, Nat.le_of_ble_eq_true rfl⟩ ((g82_ok e21).up (Nat.le_of_ble_eq_true rfl) (Nat.le_of_ble_eq_true rfl)) ?_
          refine Ru.op (q := (.goto 31, 3)) (by decide +kernel) rfl ?_
          cases h
          exact Ru.end (q := (.return_, 1)) (by decide +kernel) rfl rfl
        · replace h := if_f b19 h
          refine Ru.br (k := .le) (off := 13) (bb := true) (tg := 110) (by decide +kernel) (by decide +kernel) (cz (ci_le1 g18 (by decide) b19)) rfl ?_
          refine Ru.op (q := (.goto 31, 3)) (by decide +kernel) rfl ?_
          cases h
          exact Ru.end (q := (.return_, 1)) (by decide +kernel) rfl rfl
    · replace h := if_f b3 h
      refine Ru.br2 (k := .lt) (off := 23) (bb := false) (tg := 47) (by decide +kernel) (by decide +kernel) (ci_lt0 g1 (by decide) b3) rfl ?_
      refine Ru.op (q := (.aload_n 0, 1)) (by decide +kernel) rfl ?_
      refine Ru.kI (q := (.bipush 36, 2)) (c := 36) (by decide +kernel) rfl (by decide) ?_
      obtain ⟨o22, e23, h⟩ := ob_some h
      refine Ru.vcall (i := 24) (j2 := 79) (as := [vI 36]) (by decide +kernel) (by rfl) rfl rfl (hp28 _) (by decide) ⟨(Nat.le_of_ble_eq_true rfl), (by show 19 + 2 ≤ 242; exact Nat.le_of_ble_eq_true rfl), Nat.le_of_ble_eq_true rfl, Nat.le_of_ble_eq_true rfl⟩ ((g79_ok e23).up (Nat.le_of_ble_eq_true rfl) (Nat.le_of_ble_eq_true rfl)) ?_
      refine Ru.op (q := (.aload_n 0, 1)) (by decide +kernel) rfl ?_
      refine Ru.op (q := (.iload_n 1, 1)) (by decide +kernel) rfl ?_
      refine Ru.kI (q := (.ldc 48, 2)) (c := 65536) (by decide +kernel) rfl (by decide) ?_
      refine Ru.ar2 (i := .isub) (z := (v1 - 65536)) (by decide +kernel) rfl (ar_sub _ _) ?_
      refine Ru.kI (q := (.bipush 8, 2)) (c := 8) (by decide +kernel) rfl (by decide) ?_
      obtain ⟨g24, h⟩ := gd_some h
      refine Ru.ar2 (i := .ishr) (z := ((v1 - 65536) / 256)) (by decide +kernel) rfl (ar_shr g24) ?_
      obtain ⟨o25, e26, h⟩ := ob_some h
      refine Ru.vcall (i := 49) (j2 := 82) (as := [vI ((v1 - 65536) / 256)]) (by decide +kernel) (by rfl) rfl rfl (hp28 _) (by decide) ⟨(Nat.le_of_ble_eq_true rfl), (by show 19 + 2 ≤ 242; exact Nat.le_of_ble_eq_true rfl), Nat.le_of_ble_eq_true rfl, Nat.le_of_ble_eq_true rfl⟩ ((g82_ok e26).up (Nat.le_of_ble_eq_true rfl) (Nat.le_of_ble_eq_true rfl)) ?_
      refine Ru.op (q := (.goto 77, 3)) (by decide +kernel) rfl ?_
      cases h
      exact Ru.end (q := (.return_, 1)) (by decide +kernel) rfl rfl
  · replace h := if_f b2 h
    refine Ru.br2 (k := .lt) (off := 38) (bb := false) (tg := 6) (by decide +kernel) (by decide +kernel) (ci_lt0 g1 (by decide) b2) rfl ?_
    refine Ru.op (q := (.iload_n 1, 1)) (by decide +kernel) rfl ?_
    refine Ru.kI (q := (.ldc 47, 2)) (c := 131072) (by decide +kernel) rfl (by decide) ?_
    refine Ru.ar2 (i := .isub) (z := (v1 - 131072)) (by decide +kernel) rfl (ar_sub _ _) ?_
    refine Ru.kI (q := (.bipush 8, 2)) (c := 8) (by decide +kernel) rfl (by decide) ?_
    obtain ⟨g27, h⟩ := gd_some h
    refine Ru.ar2 (i := .ishr) (z := ((v1 - 131072) / 256)) (by decide +kernel) rfl (ar_shr g27) ?_
    refine Ru.op (q := (.istore_n 2, 1)) (S' := (14, [some (.ref 28), some (vI v1), some (vI ((v1 - 131072) / 256))], [], _, _)) (by decide +kernel) rfl ?_
    refine Ru.op (q := (.iload_n 2, 1)) (by decide +kernel) rfl ?_
    refine Ru.kI (q := (.iconst 2, 1)) (c := 2) (by decide +kernel) rfl (by decide) ?_
    obtain ⟨g28, h⟩ := gd_some h
    refine Ru.ar2 (i := .irem) (z := (((v1 - 131072) / 256) % 2)) (by decide +kernel) rfl (ar_rem g28) ?_
    refine Ru.kI (q := (.iconst 1, 1)) (c := 1) (by decide +kernel) rfl (by decide) ?_
    obtain ⟨g29, h⟩ := gd_some h
    by_cases b30 : (((v1 - 131072) / 256) % 2) = 1
    · replace h := if_t b30 h
      refine Ru.br2 (k := .ne) (off := 9) (bb := false) (tg := 21) (by decide +kernel) (by decide +kernel) (ci_ne0 g29 (by decide) b30) rfl ?_
      refine Ru.op (q := (.aload_n 0, 1)) (by decide +kernel) rfl ?_
      refine Ru.kI (q := (.bipush 126, 2)) (c := 126) (by decide +kernel) rfl (by decide) ?_
      obtain ⟨o31, e32, h⟩ := ob_some h
      refine Ru.vcall (i := 24) (j2 := 79) (as := [vI 126]) (by decide +kernel) (by rfl) rfl rfl (hp28 _) (by decide) ⟨(Nat.le_of_ble_eq_true rfl), (by show 19 + 2 ≤ 242; exact Nat.le_of_ble_eq_true rfl), Nat.le_of_ble_eq_true rfl, Nat.le_of_ble_eq_true rfl⟩ ((g79_ok e32).up (Nat.le_of_ble_eq_true rfl) (Nat.le_of_ble_eq_true rfl)) ?_
      refine Ru.op (q := (.aload_n 0, 1)) (by decide +kernel) rfl ?_
      refine Ru.kI (q := (.bipush 65, 2)) (c := 65) (by decide +kernel) rfl (by decide) ?_
      refine Ru.op (q := (.iload_n 2, 1)) (by decide +kernel) rfl ?_
      refine Ru.kI (q := (.iconst 2, 1)) (c := 2) (by decide +kernel) rfl (by decide) ?_
      refine Ru.ar2 (i := .idiv) (z := (((v1 - 131072) / 256) / 2)) (by decide +kernel) rfl (ar_div g28) ?_
      refine Ru.ar2 (i := .iadd) (z := (65 + (((v1 - 131072) / 256) / 2))) (by decide +kernel) rfl (ar_add _ _) ?_
      obtain ⟨g33, h⟩ := gd_some h
      refine Ru.i2c (by decide +kernel) g33 ?_
      obtain ⟨o34, e35, h⟩ := ob_some h
      refine Ru.vcall (i := 24) (j2 := 79) (as := [vI (65 + (((v1 - 131072) / 256) / 2))]) (by decide +kernel) (by rfl) rfl rfl (hp28 _) (by decide) ⟨(Nat.le_of_ble_eq_true rfl), (by show 19 + 2 ≤ 242; exact Nat.le_of_ble_eq_true rfl), Nat.le_of_ble_eq_true rfl, Nat.le_of_ble_eq_true rfl⟩ ((g79_ok e35).up (Nat.le_of_ble_eq_true rfl) (Nat.le_of_ble_eq_true rfl)) ?_
      refine Ru.op (q := (.goto 103, 3)) (by decide +kernel) rfl ?_
      cases h
      exact Ru.end (q := (.return_, 1)) (by decide +kernel) rfl rfl
    · replace h := if_f b30 h
      refine Ru.br2 (k := .ne) (off := 9) (bb := true) (tg := 27) (by decide +kernel) (by decide +kernel) (ci_ne1 g29 (by decide) b30) rfl ?_
      refine Ru.op (q := (.aload_n 0, 1)) (by decide +kernel) rfl ?_
      refine Ru.kI (q := (.bipush 65, 2)) (c := 65) (by decide +kernel) rfl (by decide) ?_
      refine Ru.op (q := (.iload_n 2, 1)) (by decide +kernel) rfl ?_
      refine Ru.kI (q := (.iconst 2, 1)) (c := 2) (by decide +kernel) rfl (by decide) ?_
      refine Ru.ar2 (i := .idiv) (z := (((v1 - 131072) / 256) / 2)) (by decide +kernel) rfl (ar_div g28) ?_
      refine Ru.ar2 (i := .iadd) (z := (65 + (((v1 - 131072) / 256) / 2))) (by decide +kernel) rfl (ar_add _ _) ?_
      obtain ⟨g36, h⟩ := gd_some h
      refine Ru.i2c (by decide +kernel) g36 ?_
      obtain ⟨o37, e38, h⟩ := ob_some h
      refine Ru.vcall (i := 24) (j2 := 79) (as := [vI (65 + (((v1 - 131072) / 256) / 2))]) (by decide +kernel) (by rfl) rfl rfl (hp28 _) (by decide) ⟨(Nat.le_of_ble_eq_true rfl), (by show 19 + 2 ≤ 242; exact Nat.le_of_ble_eq_true rfl), Nat.le_of_ble_eq_true rfl, Nat.le_of_ble_eq_true rfl⟩ ((g79_ok e38).up (Nat.le_of_ble_eq_true rfl) (Nat.le_of_ble_eq_true rfl)) ?_
      refine Ru.op (q := (.goto 103, 3)) (by decide +kernel) rfl ?_
      cases h
      exact Ru.end (q := (.return_, 1)) (by decide +kernel) rfl rfl
