def g9 (S : St) : Option (Int × St) := some ((S.F 1 1), (S.f 1 1 0))
set_option maxRecDepth 100000 in
set_option maxHeartbeats 4000000 in
theorem g9_ok {S : St} {o : Int × St} (h : g9 S  = some o) : Ru none 10 200 9 (0, mn_pad (mn_ent [.ref 0]) 2, [], S.ns, Hp S) ((0, some (vI o.1)), o.2.ns, Hp o.2) := by
  unfold g9 at h
  show Ru none 10 200 9 (0, [some (.ref 0), none], [], S.ns, Hp S) _
  refine Ru.op (q := (.aload_n 0, 1)) (by decide +kernel) rfl ?_
  refine Ru.get (i := 12) (v := .ref 1) (by decide +kernel) (by rfl) (hp0 _) (by decide) rfl ?_
  refine Ru.getI (i := 54) (x := (S.F 1 1)) (by decide +kernel) (by rfl) (hp1 _) (by decide) rfl (eI_of _) ?_
  refine Ru.op (q := (.istore_n 1, 1)) (S' := (8, [some (.ref 0), some (vI (S.F 1 1))], [], _, _)) (by decide +kernel) rfl ?_
  refine Ru.op (q := (.aload_n 0, 1)) (by decide +kernel) rfl ?_
  refine Ru.get (i := 12) (v := .ref 1) (by decide +kernel) (by rfl) (hp0 _) (by decide) rfl ?_
  refine Ru.kI (q := (.iconst 0, 1)) (c := 0) (by decide +kernel) rfl (by decide) ?_
  refine Ru.putH (i := 54) (by decide +kernel) (by rfl) (hp1 _) (by decide) (Nat.le_of_ble_eq_true rfl) rfl (by decide +kernel) (pf_1_1 _ _) ?_
  refine Ru.op (q := (.iload_n 1, 1)) (by decide +kernel) rfl ?_
  cases h
  exact Ru.iret (by decide +kernel) rfl rfl
def g10 (S : St) : Option (Int) := some (S.F 0 6)
set_option maxRecDepth 100000 in
set_option maxHeartbeats 4000000 in
theorem g10_ok {S : St} {o : Int} (h : g10 S  = some o) : Ru none 10 200 10 (0, mn_pad (mn_ent [.ref 0]) 1, [], S.ns, Hp S) ((0, some (vI o)), S.ns, Hp S) := by
  unfold g10 at h
  show Ru none 10 200 10 (0, [some (.ref 0)], [], S.ns, Hp S) _
  refine Ru.op (q := (.aload_n 0, 1)) (by decide +kernel) rfl ?_
  refine Ru.getI (i := 43) (x := (S.F 0 6)) (by decide +kernel) (by rfl) (hp0 _) (by decide) rfl (eI_of _) ?_
  cases h
  exact Ru.iret (by decide +kernel) rfl rfl
def g13L4 (S : St) (v1 : Int) : Nat → Int → Int → Option (Int)
  | 0, _, _ => none
  | n + 1, v2, v3 => gd (inR v3) (if v3 < (S.F 13 1) then gd (ixR v3 100) (ob (S.R 14 v3) (fun c4 => gK S c4 (fun c6 n7 n8 n9 n10 n11 n12 => gd (inR v1) (if n7 = v1 then g13L4 S v1 n (v2 + 1) (v3 + 1) else g13L4 S v1 n v2 (v3 + 1))))) else some v2)
set_option maxRecDepth 100000 in
set_option maxHeartbeats 4000000 in
theorem g13L4_ok {S : St} {v1 : Int} : ∀ (n : Nat) (v2 : Int) (v3 : Int) (out : Int), g13L4 S v1 n v2 v3 = some out → ∀ r, (∀ (e0 e1 e3 : Option Value), Ru none 10 200 13 (34, [e0, e1, some (vI out), e3], [], S.ns, Hp S) r) → Ru none 10 200 13 (4, [some (.ref 13), some (vI v1), some (vI v2), some (vI v3)], [], S.ns, Hp S) r := by
  intro n
  induction n with
  | zero => intro v2 v3 out h; cases h
  | succ n ih =>
    intro v2 v3 out h r hk
    unfold g13L4 at h
    refine Ru.op (q := (.iload_n 3, 1)) (by decide +kernel) rfl ?_
    refine Ru.op (q := (.aload_n 0, 1)) (by decide +kernel) rfl ?_
    refine Ru.getI (i := 57) (x := (S.F 13 1)) (by decide +kernel) (by rfl) (hp13 _) (by decide) rfl (eI_of _) ?_
    obtain ⟨g1, h⟩ := gd_some h
    by_cases b2 : v3 < (S.F 13 1)
    · replace h := if_t b2 h
      refine Ru.br2 (k := .ge) (off := 25) (bb := false) (tg := 12) (by decide +kernel) (by decide +kernel) (ci_ge0 g1 (inR_to _) b2) rfl ?_
      refine Ru.op (q := (.aload_n 0, 1)) (by decide +kernel) rfl ?_
      refine Ru.get (i := 11) (v := .ref 14) (by decide +kernel) (by rfl) (hp13 _) (by decide) rfl ?_
      refine Ru.op (q := (.iload_n 3, 1)) (by decide +kernel) rfl ?_
      obtain ⟨g3, h⟩ := gd_some h
      obtain ⟨c4, e5, h⟩ := ob_some h
      refine Ru.aldI (i := v3) (b := c4) (by decide +kernel) (hp14 _) (by decide) g3 e5 ?_
      obtain ⟨c6, n7, n8, n9, n10, n11, n12, e13, q14, h⟩ := gK_some h
      refine Ru.get (i := 60) (v := vI n7) (by decide +kernel) (by rfl) q14 (by decide) rfl ?_
      refine Ru.op (q := (.iload_n 1, 1)) (by decide +kernel) rfl ?_
      obtain ⟨g15, h⟩ := gd_some h
      by_cases b16 : n7 = v1
      · replace h := if_t b16 h
        refine Ru.br2 (k := .ne) (off := 6) (bb := false) (tg := 25) (by decide +kernel) (by decide +kernel) (ci_ne0 e13.1 g15 b16) rfl ?_
        refine Ru.inc (x := v2) (z := (v2 + 1)) (xs' := [some (.ref 13), some (vI v1), some (vI (v2 + 1)), some (vI v3)]) (by decide +kernel) rfl rfl rfl ?_
        refine Ru.inc (x := v3) (z := (v3 + 1)) (xs' := [some (.ref 13), some (vI v1), some (vI (v2 + 1)), some (vI (v3 + 1))]) (by decide +kernel) rfl rfl rfl ?_
        refine Ru.op (q := (.goto (-27), 3)) (by decide +kernel) rfl ?_
        exact ih _ _ _ h r hk
      · replace h := if_f b16 h
        refine Ru.br2 (k := .ne) (off := 6) (bb := true) (tg := 28) (by decide +kernel) (by decide +kernel) (ci_ne1 e13.1 g15 b16) rfl ?_
        refine Ru.inc (x := v3) (z := (v3 + 1)) (xs' := [some (.ref 13), some (vI v1), some (vI v2), some (vI (v3 + 1))]) (by decide +kernel) rfl rfl rfl ?_
        refine Ru.op (q := (.goto (-27), 3)) (by decide +kernel) rfl ?_
        exact ih _ _ _ h r hk
    · replace h := if_f b2 h
      refine Ru.br2 (k := .ge) (off := 25) (bb := true) (tg := 34) (by decide +kernel) (by decide +kernel) (ci_ge1 g1 (inR_to _) b2) rfl ?_
      cases h
      exact hk _ _ _
def g13 (S : St) (v1 : Int) : Option (Int) := ob (g13L4 S v1 FU 0 0) (fun o17 => some o17)
set_option maxRecDepth 100000 in
set_option maxHeartbeats 4000000 in
theorem g13_ok {S : St} {v1 : Int} {o : Int} (h : g13 S v1 = some o) : Ru none 10 200 13 (0, mn_pad (mn_ent [.ref 13, vI v1]) 4, [], S.ns, Hp S) ((0, some (vI o)), S.ns, Hp S) := by
  unfold g13 at h
  show Ru none 10 200 13 (0, [some (.ref 13), some (vI v1), none, none], [], S.ns, Hp S) _
  refine Ru.kI (q := (.iconst 0, 1)) (c := 0) (by decide +kernel) rfl (by decide) ?_
  refine Ru.op (q := (.istore_n 2, 1)) (S' := (2, [some (.ref 13), some (vI v1), some (vI 0), none], [], _, _)) (by decide +kernel) rfl ?_
  refine Ru.kI (q := (.iconst 0, 1)) (c := 0) (by decide +kernel) rfl (by decide) ?_
  refine Ru.op (q := (.istore_n 3, 1)) (S' := (4, [some (.ref 13), some (vI v1), some (vI 0), some (vI 0)], [], _, _)) (by decide +kernel) rfl ?_
  obtain ⟨o17, e21, h⟩ := ob_some h
  refine g13L4_ok FU _ _ _ e21 _ ?_
  intro d18 d19 d20
  refine Ru.op (q := (.iload_n 2, 1)) (by decide +kernel) rfl ?_
  cases h
  exact Ru.iret (by decide +kernel) rfl rfl
def g12 (S : St) : Option (Int) := if (S.F 13 7) = (-1) then if (S.F 13 8) = 0 then ob (g13 S 0) (fun o3 => gd (inR o3) (if 0 < o3 then some 0 else if (S.F 13 4) = 0 then some 3 else some 4)) else some 2 else some 1
set_option maxRecDepth 100000 in
set_option maxHeartbeats 4000000 in
theorem g12_ok {S : St} {o : Int} (h : g12 S  = some o) : Ru none 11 223 12 (0, mn_pad (mn_ent [.ref 13]) 1, [], S.ns, Hp S) ((0, some (vI o)), S.ns, Hp S) := by
  unfold g12 at h
  show Ru none 11 223 12 (0, [some (.ref 13)], [], S.ns, Hp S) _
  refine Ru.op (q := (.aload_n 0, 1)) (by decide +kernel) rfl ?_
  refine Ru.getI (i := 17) (x := (S.F 13 7)) (by decide +kernel) (by rfl) (hp13 _) (by decide) rfl (eI_of _) ?_
  refine Ru.kI (q := (.iconst (-1), 1)) (c := (-1)) (by decide +kernel) rfl (by decide) ?_
  by_cases b1 : (S.F 13 7) = (-1)
  · replace h := if_t b1 h
    refine Ru.br2 (k := .eq) (off := 5) (bb := true) (tg := 10) (by decide +kernel) (by decide +kernel) (ci_eq1 (inR_to _) (by decide) b1) rfl ?_
    refine Ru.op (q := (.aload_n 0, 1)) (by decide +kernel) rfl ?_
    refine Ru.getI (i := 46) (x := (S.F 13 8)) (by decide +kernel) (by rfl) (hp13 _) (by decide) rfl (eI_of _) ?_
    by_cases b2 : (S.F 13 8) = 0
    · replace h := if_t b2 h
      refine Ru.br (k := .eq) (off := 5) (bb := true) (tg := 19) (by decide +kernel) (by decide +kernel) (cz (ci_eq1 (inR_to _) (by decide) b2)) rfl ?_
      refine Ru.op (q := (.aload_n 0, 1)) (by decide +kernel) rfl ?_
      refine Ru.kI (q := (.iconst 0, 1)) (c := 0) (by decide +kernel) rfl (by decide) ?_
      obtain ⟨o3, e4, h⟩ := ob_some h
      refine Ru.vcall (i := 50) (j2 := 13) (as := [vI 0]) (by decide +kernel) (by rfl) rfl rfl (hp13 _) (by decide) ⟨(Nat.le_of_ble_eq_true rfl), (by show 19 + 4 ≤ 223; exact Nat.le_of_ble_eq_true rfl), Nat.le_of_ble_eq_true rfl, Nat.le_of_ble_eq_true rfl⟩ ((g13_ok e4).up (Nat.le_of_ble_eq_true rfl) (Nat.le_of_ble_eq_true rfl)) ?_
      obtain ⟨g5, h⟩ := gd_some h
      by_cases b6 : 0 < o3
      · replace h := if_t b6 h
        refine Ru.br (k := .le) (off := 5) (bb := false) (tg := 27) (by decide +kernel) (by decide +kernel) (cz (ci_le0 g5 (by decide) b6)) rfl ?_
        refine Ru.kI (q := (.iconst 0, 1)) (c := 0) (by decide +kernel) rfl (by decide) ?_
        cases h
        exact Ru.iret (by decide +kernel) rfl rfl
      · replace h := if_f b6 h
        refine Ru.br (k := .le) (off := 5) (bb := true) (tg := 29) (by decide +kernel) (by decide +kernel) (cz (ci_le1 g5 (by decide) b6)) rfl ?_
        refine Ru.op (q := (.aload_n 0, 1)) (by decide +kernel) rfl ?_
        refine Ru.getI (i := 54) (x := (S.F 13 4)) (by decide +kernel) (by rfl) (hp13 _) (by decide) rfl (eI_of _) ?_
        by_cases b7 : (S.F 13 4) = 0
        · replace h := if_t b7 h
          refine Ru.br (k := .ne) (off := 7) (bb := false) (tg := 36) (by decide +kernel) (by decide +kernel) (cz (ci_ne0 (inR_to _) (by decide) b7)) rfl ?_
          refine Ru.kI (q := (.iconst 3, 1)) (c := 3) (by decide +kernel) rfl (by decide) ?_
          refine Ru.op (q := (.goto 4, 3)) (by decide +kernel) rfl ?_
          cases h
          exact Ru.iret (by decide +kernel) rfl rfl
        · replace h := if_f b7 h
          refine Ru.br (k := .ne) (off := 7) (bb := true) (tg := 40) (by decide +kernel) (by decide +kernel) (cz (ci_ne1 (inR_to _) (by decide) b7)) rfl ?_
          refine Ru.kI (q := (.iconst 4, 1)) (c := 4) (by decide +kernel) rfl (by decide) ?_
          cases h
          exact Ru.iret (by decide +kernel) rfl rfl
    · replace h := if_f b2 h
      refine Ru.br (k := .eq) (off := 5) (bb := false) (tg := 17) (by decide +kernel) (by decide +kernel) (cz (ci_eq0 (inR_to _) (by decide) b2)) rfl ?_
      refine Ru.kI (q := (.iconst 2, 1)) (c := 2) (by decide +kernel) rfl (by decide) ?_
      cases h
      exact Ru.iret (by decide +kernel) rfl rfl
  · replace h := if_f b1 h
    refine Ru.br2 (k := .eq) (off := 5) (bb := false) (tg := 8) (by decide +kernel) (by decide +kernel) (ci_eq0 (inR_to _) (by decide) b1) rfl ?_
    refine Ru.kI (q := (.iconst 1, 1)) (c := 1) (by decide +kernel) rfl (by decide) ?_
    cases h
    exact Ru.iret (by decide +kernel) rfl rfl
def g11 (S : St) : Option (Int) := ob (g12 S) (fun o1 => some o1)
set_option maxRecDepth 100000 in
set_option maxHeartbeats 4000000 in
theorem g11_ok {S : St} {o : Int} (h : g11 S  = some o) : Ru none 12 243 11 (0, mn_pad (mn_ent [.ref 0]) 1, [], S.ns, Hp S) ((0, some (vI o)), S.ns, Hp S) := by
  unfold g11 at h
  show Ru none 12 243 11 (0, [some (.ref 0)], [], S.ns, Hp S) _
  refine Ru.op (q := (.aload_n 0, 1)) (by decide +kernel) rfl ?_
  refine Ru.get (i := 19) (v := .ref 13) (by decide +kernel) (by rfl) (hp0 _) (by decide) rfl ?_
  obtain ⟨o1, e2, h⟩ := ob_some h
  refine Ru.vcall (i := 95) (j2 := 12) (as := []) (by decide +kernel) (by rfl) rfl rfl (hp13 _) (by decide) ⟨(Nat.le_of_ble_eq_true rfl), (by show 19 + 1 ≤ 243; exact Nat.le_of_ble_eq_true rfl), Nat.le_of_ble_eq_true rfl, Nat.le_of_ble_eq_true rfl⟩ ((g12_ok e2).up (Nat.le_of_ble_eq_true rfl) (Nat.le_of_ble_eq_true rfl)) ?_
  cases h
  exact Ru.iret (by decide +kernel) rfl rfl
def g16 (S : St) (v1 : Int) : Option (St) := gd (inR v1) (if v1 < 0 then some S else if v1 < (S.F 13 1) then gd (ixR v1 100) (some (S.a 27 v1 1)) else some S)
set_option maxRecDepth 100000 in
set_option maxHeartbeats 4000000 in
theorem g16_ok {S : St} {v1 : Int} {o : St} (h : g16 S v1 = some o) : Ru none 10 200 16 (0, mn_pad (mn_ent [.ref 13, vI v1]) 2, [], S.ns, Hp S) ((0, none), o.ns, Hp o) := by
  unfold g16 at h
  show Ru none 10 200 16 (0, [some (.ref 13), some (vI v1)], [], S.ns, Hp S) _
  refine Ru.op (q := (.iload_n 1, 1)) (by decide +kernel) rfl ?_
  obtain ⟨g1, h⟩ := gd_some h
  by_cases b2 : v1 < 0
  · replace h := if_t b2 h
    refine Ru.br (k := .lt) (off := 18) (bb := true) (tg := 19) (by decide +kernel) (by decide +kernel) (cz (ci_lt1 g1 (by decide) b2)) rfl ?_
    cases h
    exact Ru.end (q := (.return_, 1)) (by decide +kernel) rfl rfl
  · replace h := if_f b2 h
    refine Ru.br (k := .lt) (off := 18) (bb := false) (tg := 4) (by decide +kernel) (by decide +kernel) (cz (ci_lt0 g1 (by decide) b2)) rfl ?_
    refine Ru.op (q := (.iload_n 1, 1)) (by decide +kernel) rfl ?_
    refine Ru.op (q := (.aload_n 0, 1)) (by decide +kernel) rfl ?_
    refine Ru.getI (i := 57) (x := (S.F 13 1)) (by decide +kernel) (by rfl) (hp13 _) (by decide) rfl (eI_of _) ?_
    by_cases b3 : v1 < (S.F 13 1)
    · replace h := if_t b3 h
      refine Ru.br2 (k := .ge) (off := 10) (bb := false) (tg := 12) (by decide +kernel) (by decide +kernel) (ci_ge0 g1 (inR_to _) b3) rfl ?_
      refine Ru.op (q := (.aload_n 0, 1)) (by decide +kernel) rfl ?_
      refine Ru.get (i := 42) (v := .ref 27) (by decide +kernel) (by rfl) (hp13 _) (by decide) rfl ?_
      refine Ru.op (q := (.iload_n 1, 1)) (by decide +kernel) rfl ?_
      refine Ru.kI (q := (.iconst 1, 1)) (c := 1) (by decide +kernel) rfl (by decide) ?_
      obtain ⟨g4, h⟩ := gd_some h
      refine Ru.bstI (i := v1) (x := 1) (by decide +kernel) (hp27 _) g4 (by decide) (ps_27 _ _ _) ?_
      cases h
      exact Ru.end (q := (.return_, 1)) (by decide +kernel) rfl rfl
    · replace h := if_f b3 h
      refine Ru.br2 (k := .ge) (off := 10) (bb := true) (tg := 19) (by decide +kernel) (by decide +kernel) (ci_ge1 g1 (inR_to _) b3) rfl ?_
      cases h
      exact Ru.end (q := (.return_, 1)) (by decide +kernel) rfl rfl
def g15L27  : Nat → Int → Int → St → Option (Int × St)
  | 0, _, _, _ => none
  | n + 1, v1, v2, S => gd (inR v2) (if v2 < 0 then some (v1, S) else gd (ixR v2 100) (if (S.A 27 v2) = 0 then g15L27 n v1 (v2 + (-1)) S else ob ((S.a 27 v2 0).R 14 v2) (fun c7 => gK (S.a 27 v2 0) c7 (fun c9 n10 n11 n12 n13 n14 n15 => ob (g16 (S.a 27 v2 0) n12) (fun o18 => ob (o18.R 14 v2) (fun c20 => gK o18 c20 (fun c22 n23 n24 n25 n26 n27 n28 => ob (g16 o18 n27) (fun o31 => g15L27 n (v1 + 1) (v2 + (-1)) o31))))))))
set_option maxRecDepth 100000 in
set_option maxHeartbeats 4000000 in
theorem g15L27_ok : ∀ (n : Nat) (v1 : Int) (v2 : Int) (S : St) (out : Int × St), g15L27 n v1 v2 S = some out → ∀ r, (∀ (e0 e2 : Option Value), Ru none 11 221 15 (82, [e0, some (vI out.1), e2], [], out.2.ns, Hp out.2) r) → Ru none 11 221 15 (27, [some (.ref 13), some (vI v1), some (vI v2)], [], S.ns, Hp S) r := by
  intro n
  induction n with
  | zero => intro v1 v2 S out h; cases h
  | succ n ih =>
    intro v1 v2 S out h r hk
    unfold g15L27 at h
    refine Ru.op (q := (.iload_n 2, 1)) (by decide +kernel) rfl ?_
    obtain ⟨g3, h⟩ := gd_some h
    by_cases b4 : v2 < 0
    · replace h := if_t b4 h
      refine Ru.br (k := .lt) (off := 54) (bb := true) (tg := 82) (by decide +kernel) (by decide +kernel) (cz (ci_lt1 g3 (by decide) b4)) rfl ?_
      cases h
      exact hk _ _
    · replace h := if_f b4 h
      refine Ru.br (k := .lt) (off := 54) (bb := false) (tg := 31) (by decide +kernel) (by decide +kernel) (cz (ci_lt0 g3 (by decide) b4)) rfl ?_
      refine Ru.op (q := (.aload_n 0, 1)) (by decide +kernel) rfl ?_
      refine Ru.get (i := 42) (v := .ref 27) (by decide +kernel) (by rfl) (hp13 _) (by decide) rfl ?_
      refine Ru.op (q := (.iload_n 2, 1)) (by decide +kernel) rfl ?_
      obtain ⟨g5, h⟩ := gd_some h
      refine Ru.bldI (i := v2) (z := (S.A 27 v2)) (by decide +kernel) (hp27 _) g5 (eI_of _) ?_
      by_cases b6 : (S.A 27 v2) = 0
      · replace h := if_t b6 h
        refine Ru.br (k := .eq) (off := 39) (bb := true) (tg := 76) (by decide +kernel) (by decide +kernel) (cz (ci_eq1 (inR_to _) (by decide) b6)) rfl ?_
        refine Ru.inc (x := v2) (z := (v2 + (-1))) (xs' := [some (.ref 13), some (vI v1), some (vI (v2 + (-1)))]) (by decide +kernel) rfl rfl rfl ?_
        refine Ru.op (q := (.goto (-52), 3)) (by decide +kernel) rfl ?_
        exact ih _ _ _ _ h r hk
      · replace h := if_f b6 h
        refine Ru.br (k := .eq) (off := 39) (bb := false) (tg := 40) (by decide +kernel) (by decide +kernel) (cz (ci_eq0 (inR_to _) (by decide) b6)) rfl ?_
        refine Ru.inc (x := v1) (z := (v1 + 1)) (xs' := [some (.ref 13), some (vI (v1 + 1)), some (vI v2)]) (by decide +kernel) rfl rfl rfl ?_
        refine Ru.op (q := (.aload_n 0, 1)) (by decide +kernel) rfl ?_
        refine Ru.get (i := 42) (v := .ref 27) (by decide +kernel) (by rfl) (hp13 _) (by decide) rfl ?_
        refine Ru.op (q := (.iload_n 2, 1)) (by decide +kernel) rfl ?_
        refine Ru.kI (q := (.iconst 0, 1)) (c := 0) (by decide +kernel) rfl (by decide) ?_
        refine Ru.bstI (i := v2) (x := 0) (by decide +kernel) (hp27 _) g5 (by decide) (ps_27 _ _ _) ?_
        refine Ru.op (q := (.aload_n 0, 1)) (by decide +kernel) rfl ?_
        refine Ru.op (q := (.aload_n 0, 1)) (by decide +kernel) rfl ?_
        refine Ru.get (i := 11) (v := .ref 14) (by decide +kernel) (by rfl) (hp13 _) (by decide) rfl ?_
        refine Ru.op (q := (.iload_n 2, 1)) (by decide +kernel) rfl ?_
        obtain ⟨c7, e8, h⟩ := ob_some h
        refine Ru.aldI (i := v2) (b := c7) (by decide +kernel) (hp14 _) (by decide) g5 e8 ?_
        obtain ⟨c9, n10, n11, n12, n13, n14, n15, e16, q17, h⟩ := gK_some h
        refine Ru.get (i := 152) (v := vI n12) (by decide +kernel) (by rfl) q17 (by decide) rfl ?_
        obtain ⟨o18, e19, h⟩ := ob_some h
        refine Ru.vcall (i := 155) (j2 := 16) (as := [vI n12]) (by decide +kernel) (by rfl) rfl rfl (hp13 _) (by decide) ⟨(Nat.le_of_ble_eq_true rfl), (by show 19 + 2 ≤ 221; exact Nat.le_of_ble_eq_true rfl), Nat.le_of_ble_eq_true rfl, Nat.le_of_ble_eq_true rfl⟩ ((g16_ok e19).up (Nat.le_of_ble_eq_true rfl) (Nat.le_of_ble_eq_true rfl)) ?_
        refine Ru.op (q := (.aload_n 0, 1)) (by decide +kernel) rfl ?_
        refine Ru.op (q := (.aload_n 0, 1)) (by decide +kernel) rfl ?_
        refine Ru.get (i := 11) (v := .ref 14) (by decide +kernel) (by rfl) (hp13 _) (by decide) rfl ?_
        refine Ru.op (q := (.iload_n 2, 1)) (by decide +kernel) rfl ?_
        obtain ⟨c20, e21, h⟩ := ob_some h
        refine Ru.aldI (i := v2) (b := c20) (by decide +kernel) (hp14 _) (by decide) g5 e21 ?_
        obtain ⟨c22, n23, n24, n25, n26, n27, n28, e29, q30, h⟩ := gK_some h
        refine Ru.get (i := 158) (v := vI n27) (by decide +kernel) (by rfl) q30 (by decide) rfl ?_
        obtain ⟨o31, e32, h⟩ := ob_some h
        refine Ru.vcall (i := 155) (j2 := 16) (as := [vI n27]) (by decide +kernel) (by rfl) rfl rfl (hp13 _) (by decide) ⟨(Nat.le_of_ble_eq_true rfl), (by show 19 + 2 ≤ 221; exact Nat.le_of_ble_eq_true rfl), Nat.le_of_ble_eq_true rfl, Nat.le_of_ble_eq_true rfl⟩ ((g16_ok e32).up (Nat.le_of_ble_eq_true rfl) (Nat.le_of_ble_eq_true rfl)) ?_
        refine Ru.inc (x := v2) (z := (v2 + (-1))) (xs' := [some (.ref 13), some (vI (v1 + 1)), some (vI (v2 + (-1)))]) (by decide +kernel) rfl rfl rfl ?_
        refine Ru.op (q := (.goto (-52), 3)) (by decide +kernel) rfl ?_
        exact ih _ _ _ _ h r hk
def g15 (S : St) : Option (Int × St) := if (S.F 13 7) = (-1) then some ((-1), S) else gd (ixR (S.F 13 7) 100) (ob (g15L27 FU 0 (S.F 13 7) (S.a 27 (S.F 13 7) 1)) (fun o33 => some (o33.1, o33.2)))
set_option maxRecDepth 100000 in
set_option maxHeartbeats 4000000 in
theorem g15_ok {S : St} {o : Int × St} (h : g15 S  = some o) : Ru none 11 221 15 (0, mn_pad (mn_ent [.ref 13]) 3, [], S.ns, Hp S) ((0, some (vI o.1)), o.2.ns, Hp o.2) := by
  unfold g15 at h
  show Ru none 11 221 15 (0, [some (.ref 13), none, none], [], S.ns, Hp S) _
  refine Ru.op (q := (.aload_n 0, 1)) (by decide +kernel) rfl ?_
  refine Ru.getI (i := 17) (x := (S.F 13 7)) (by decide +kernel) (by rfl) (hp13 _) (by decide) rfl (eI_of _) ?_
  refine Ru.kI (q := (.iconst (-1), 1)) (c := (-1)) (by decide +kernel) rfl (by decide) ?_
  by_cases b1 : (S.F 13 7) = (-1)
  · replace h := if_t b1 h
    refine Ru.br2 (k := .ne) (off := 5) (bb := false) (tg := 8) (by decide +kernel) (by decide +kernel) (ci_ne0 (inR_to _) (by decide) b1) rfl ?_
    refine Ru.kI (q := (.iconst (-1), 1)) (c := (-1)) (by decide +kernel) rfl (by decide) ?_
    cases h
    exact Ru.iret (by decide +kernel) rfl rfl
  · replace h := if_f b1 h
    refine Ru.br2 (k := .ne) (off := 5) (bb := true) (tg := 10) (by decide +kernel) (by decide +kernel) (ci_ne1 (inR_to _) (by decide) b1) rfl ?_
    refine Ru.op (q := (.aload_n 0, 1)) (by decide +kernel) rfl ?_
    refine Ru.get (i := 42) (v := .ref 27) (by decide +kernel) (by rfl) (hp13 _) (by decide) rfl ?_
    refine Ru.op (q := (.aload_n 0, 1)) (by decide +kernel) rfl ?_
    refine Ru.getI (i := 17) (x := (S.F 13 7)) (by decide +kernel) (by rfl) (hp13 _) (by decide) rfl (eI_of _) ?_
    refine Ru.kI (q := (.iconst 1, 1)) (c := 1) (by decide +kernel) rfl (by decide) ?_
    obtain ⟨g2, h⟩ := gd_some h
    refine Ru.bstI (i := (S.F 13 7)) (x := 1) (by decide +kernel) (hp27 _) g2 (by decide) (ps_27 _ _ _) ?_
    refine Ru.kI (q := (.iconst 0, 1)) (c := 0) (by decide +kernel) rfl (by decide) ?_
    refine Ru.op (q := (.istore_n 1, 1)) (S' := (22, [some (.ref 13), some (vI 0), none], [], _, _)) (by decide +kernel) rfl ?_
    refine Ru.op (q := (.aload_n 0, 1)) (by decide +kernel) rfl ?_
    refine Ru.getI (i := 17) (x := (S.F 13 7)) (by decide +kernel) (by rfl) (hp13 _) (by decide) rfl (eI_of _) ?_
    refine Ru.op (q := (.istore_n 2, 1)) (S' := (27, [some (.ref 13), some (vI 0), some (vI (S.F 13 7))], [], _, _)) (by decide +kernel) rfl ?_
    obtain ⟨o33, e36, h⟩ := ob_some h
    refine g15L27_ok FU _ _ _ _ e36 _ ?_
    intro d34 d35
    refine Ru.op (q := (.iload_n 1, 1)) (by decide +kernel) rfl ?_
    cases h
    exact Ru.iret (by decide +kernel) rfl rfl
def g14 (S : St) : Option (Int × St) := ob (g15 S) (fun o1 => some (o1.1, o1.2))
set_option maxRecDepth 100000 in
set_option maxHeartbeats 4000000 in
theorem g14_ok {S : St} {o : Int × St} (h : g14 S  = some o) : Ru none 12 243 14 (0, mn_pad (mn_ent [.ref 0]) 1, [], S.ns, Hp S) ((0, some (vI o.1)), o.2.ns, Hp o.2) := by
  unfold g14 at h
  show Ru none 12 243 14 (0, [some (.ref 0)], [], S.ns, Hp S) _
  refine Ru.op (q := (.aload_n 0, 1)) (by decide +kernel) rfl ?_
  refine Ru.get (i := 19) (v := .ref 13) (by decide +kernel) (by rfl) (hp0 _) (by decide) rfl ?_
  obtain ⟨o1, e2, h⟩ := ob_some h
  refine Ru.vcall (i := 163) (j2 := 15) (as := []) (by decide +kernel) (by rfl) rfl rfl (hp13 _) (by decide) ⟨(Nat.le_of_ble_eq_true rfl), (by show 19 + 3 ≤ 243; exact Nat.le_of_ble_eq_true rfl), Nat.le_of_ble_eq_true rfl, Nat.le_of_ble_eq_true rfl⟩ ((g15_ok e2).up (Nat.le_of_ble_eq_true rfl) (Nat.le_of_ble_eq_true rfl)) ?_
  cases h
  exact Ru.iret (by decide +kernel) rfl rfl
def g21 (S : St) : Option (St) := some ((S.f 3 5 0).f 3 7 0)
set_option maxRecDepth 100000 in
set_option maxHeartbeats 4000000 in
theorem g21_ok {S : St} {o : St} (h : g21 S  = some o) : Ru none 10 200 21 (0, mn_pad (mn_ent [.ref 3]) 1, [], S.ns, Hp S) ((0, none), o.ns, Hp o) := by
  unfold g21 at h
  show Ru none 10 200 21 (0, [some (.ref 3)], [], S.ns, Hp S) _
  refine Ru.op (q := (.aload_n 0, 1)) (by decide +kernel) rfl ?_
  refine Ru.kI (q := (.iconst 0, 1)) (c := 0) (by decide +kernel) rfl (by decide) ?_
  refine Ru.putH (i := 30) (by decide +kernel) (by rfl) (hp3 _) (by decide) (Nat.le_of_ble_eq_true rfl) rfl (by decide +kernel) (pf_3_5 _ _) ?_
  refine Ru.op (q := (.aload_n 0, 1)) (by decide +kernel) rfl ?_
  refine Ru.kI (q := (.iconst 0, 1)) (c := 0) (by decide +kernel) rfl (by decide) ?_
  refine Ru.putH (i := 34) (by decide +kernel) (by rfl) (hp3 _) (by decide) (Nat.le_of_ble_eq_true rfl) rfl (by decide +kernel) (pf_3_7 _ _) ?_
  cases h
  exact Ru.end (q := (.return_, 1)) (by decide +kernel) rfl rfl
def g23 (S : St) : Option (Int) := if (S.F 1 4) < (S.F 1 1) then gd (ixR (S.F 1 4) 160) (gd (chR (S.A 2 (S.F 1 4))) (some (S.A 2 (S.F 1 4)))) else some 0
set_option maxRecDepth 100000 in
set_option maxHeartbeats 4000000 in
theorem g23_ok {S : St} {o : Int} (h : g23 S  = some o) : Ru none 10 200 23 (0, mn_pad (mn_ent [.ref 1]) 1, [], S.ns, Hp S) ((0, some (vI o)), S.ns, Hp S) := by
  unfold g23 at h
  show Ru none 10 200 23 (0, [some (.ref 1)], [], S.ns, Hp S) _
  refine Ru.op (q := (.aload_n 0, 1)) (by decide +kernel) rfl ?_
  refine Ru.getI (i := 36) (x := (S.F 1 4)) (by decide +kernel) (by rfl) (hp1 _) (by decide) rfl (eI_of _) ?_
  refine Ru.op (q := (.aload_n 0, 1)) (by decide +kernel) rfl ?_
  refine Ru.getI (i := 59) (x := (S.F 1 1)) (by decide +kernel) (by rfl) (hp1 _) (by decide) rfl (eI_of _) ?_
  by_cases b1 : (S.F 1 4) < (S.F 1 1)
  · replace h := if_t b1 h
    refine Ru.br2 (k := .ge) (off := 15) (bb := false) (tg := 11) (by decide +kernel) (by decide +kernel) (ci_ge0 (inR_to _) (inR_to _) b1) rfl ?_
    refine Ru.op (q := (.aload_n 0, 1)) (by decide +kernel) rfl ?_
    refine Ru.get (i := 9) (v := .ref 2) (by decide +kernel) (by rfl) (hp1 _) (by decide) rfl ?_
    refine Ru.op (q := (.aload_n 0, 1)) (by decide +kernel) rfl ?_
    refine Ru.getI (i := 36) (x := (S.F 1 4)) (by decide +kernel) (by rfl) (hp1 _) (by decide) rfl (eI_of _) ?_
    obtain ⟨g2, h⟩ := gd_some h
    refine Ru.cldI (i := (S.F 1 4)) (z := (S.A 2 (S.F 1 4))) (by decide +kernel) (hp2 _) g2 (eI_of _) ?_
    refine Ru.op (q := (.goto 4, 3)) (by decide +kernel) rfl ?_
    obtain ⟨g3, h⟩ := gd_some h
    cases h
    exact Ru.iret (by decide +kernel) rfl (nar_ch g3)
  · replace h := if_f b1 h
    refine Ru.br2 (k := .ge) (off := 15) (bb := true) (tg := 23) (by decide +kernel) (by decide +kernel) (ci_ge1 (inR_to _) (inR_to _) b1) rfl ?_
    refine Ru.kI (q := (.iconst 0, 1)) (c := 0) (by decide +kernel) rfl (by decide) ?_
    cases h
    exact Ru.iret (by decide +kernel) rfl (nar_ch (by decide))
def g29 (S : St) (v1 : Int) (v2 : Int) : Option (Int × St) := ob (g23 S) (fun o1 => gd (inR o1) (gd (inR v1) (if o1 < v1 then some ((-1), S) else gd (inR v2) (if v2 < o1 then some ((-1), S) else ob (g23 (S.f 1 4 ((S.F 1 4) + 1))) (fun o8 => gd (inR o8) (if o8 < 48 then some (((o1 - v1) * 11), (S.f 1 4 ((S.F 1 4) + 1))) else if 57 < o8 then some (((o1 - v1) * 11), (S.f 1 4 ((S.F 1 4) + 1))) else some ((((((o1 - v1) * 11) + 1) + o8) - 48), ((S.f 1 4 ((S.F 1 4) + 1)).f 1 4 (((S.F 1 4) + 1) + 1)))))))))
set_option maxRecDepth 100000 in
set_option maxHeartbeats 4000000 in
theorem g29_ok {S : St} {v1 : Int} {v2 : Int} {o : Int × St} (h : g29 S v1 v2 = some o) : Ru none 11 220 29 (0, mn_pad (mn_ent [.ref 1, vI v1, vI v2]) 5, [], S.ns, Hp S) ((0, some (vI o.1)), o.2.ns, Hp o.2) := by
  unfold g29 at h
  show Ru none 11 220 29 (0, [some (.ref 1), some (vI v1), some (vI v2), none, none], [], S.ns, Hp S) _
  refine Ru.op (q := (.aload_n 0, 1)) (by decide +kernel) rfl ?_
  obtain ⟨o1, e2, h⟩ := ob_some h
  refine Ru.vcall (i := 69) (j2 := 23) (as := []) (by decide +kernel) (by rfl) rfl rfl (hp1 _) (by decide) ⟨(Nat.le_of_ble_eq_true rfl), (by show 19 + 1 ≤ 220; exact Nat.le_of_ble_eq_true rfl), Nat.le_of_ble_eq_true rfl, Nat.le_of_ble_eq_true rfl⟩ ((g23_ok e2).up (Nat.le_of_ble_eq_true rfl) (Nat.le_of_ble_eq_true rfl)) ?_
  refine Ru.op (q := (.istore_n 3, 1)) (S' := (5, [some (.ref 1), some (vI v1), some (vI v2), some (vI o1), none], [], _, _)) (by decide +kernel) rfl ?_
  refine Ru.op (q := (.iload_n 3, 1)) (by decide +kernel) rfl ?_
  refine Ru.op (q := (.iload_n 1, 1)) (by decide +kernel) rfl ?_
  obtain ⟨g3, h⟩ := gd_some h
  obtain ⟨g4, h⟩ := gd_some h
  by_cases b5 : o1 < v1
  · replace h := if_t b5 h
    refine Ru.br2 (k := .lt) (off := 8) (bb := true) (tg := 15) (by decide +kernel) (by decide +kernel) (ci_lt1 g3 g4 b5) rfl ?_
    refine Ru.kI (q := (.iconst (-1), 1)) (c := (-1)) (by decide +kernel) rfl (by decide) ?_
    cases h
    exact Ru.iret (by decide +kernel) rfl rfl
  · replace h := if_f b5 h
    refine Ru.br2 (k := .lt) (off := 8) (bb := false) (tg := 10) (by decide +kernel) (by decide +kernel) (ci_lt0 g3 g4 b5) rfl ?_
    refine Ru.op (q := (.iload_n 3, 1)) (by decide +kernel) rfl ?_
    refine Ru.op (q := (.iload_n 2, 1)) (by decide +kernel) rfl ?_
    obtain ⟨g6, h⟩ := gd_some h
    by_cases b7 : v2 < o1
    · replace h := if_t b7 h
      refine Ru.br2 (k := .le) (off := 5) (bb := false) (tg := 15) (by decide +kernel) (by decide +kernel) (ci_le0 g3 g6 b7) rfl ?_
      refine Ru.kI (q := (.iconst (-1), 1)) (c := (-1)) (by decide +kernel) rfl (by decide) ?_
      cases h
      exact Ru.iret (by decide +kernel) rfl rfl
    · replace h := if_f b7 h
      refine Ru.br2 (k := .le) (off := 5) (bb := true) (tg := 17) (by decide +kernel) (by decide +kernel) (ci_le1 g3 g6 b7) rfl ?_
      refine Ru.op (q := (.aload_n 0, 1)) (by decide +kernel) rfl ?_
      refine Ru.op (q := (.dup, 1)) (by decide +kernel) rfl ?_
      refine Ru.getI (i := 36) (x := (S.F 1 4)) (by decide +kernel) (by rfl) (hp1 _) (by decide) rfl (eI_of _) ?_
      refine Ru.kI (q := (.iconst 1, 1)) (c := 1) (by decide +kernel) rfl (by decide) ?_
      refine Ru.ar2 (i := .iadd) (z := ((S.F 1 4) + 1)) (by decide +kernel) rfl (ar_add _ _) ?_
      refine Ru.putH (i := 36) (by decide +kernel) (by rfl) (hp1 _) (by decide) (Nat.le_of_ble_eq_true rfl) rfl (by decide +kernel) (pf_1_4 _ _) ?_
      refine Ru.op (q := (.aload_n 0, 1)) (by decide +kernel) rfl ?_
      obtain ⟨o8, e9, h⟩ := ob_some h
      refine Ru.vcall (i := 69) (j2 := 23) (as := []) (by decide +kernel) (by rfl) rfl rfl (hp1 _) (by decide) ⟨(Nat.le_of_ble_eq_true rfl), (by show 19 + 1 ≤ 220; exact Nat.le_of_ble_eq_true rfl), Nat.le_of_ble_eq_true rfl, Nat.le_of_ble_eq_true rfl⟩ ((g23_ok e9).up (Nat.le_of_ble_eq_true rfl) (Nat.le_of_ble_eq_true rfl)) ?_
      refine Ru.op (q := (.istore 4, 2)) (S' := (33, [some (.ref 1), some (vI v1), some (vI v2), some (vI o1), some (vI o8)], [], _, _)) (by decide +kernel) rfl ?_
      refine Ru.op (q := (.iload 4, 2)) (by decide +kernel) rfl ?_
      refine Ru.kI (q := (.bipush 48, 2)) (c := 48) (by decide +kernel) rfl (by decide) ?_
      obtain ⟨g10, h⟩ := gd_some h
      by_cases b11 : o8 < 48
      · replace h := if_t b11 h
        refine Ru.br2 (k := .lt) (off := 10) (bb := true) (tg := 47) (by decide +kernel) (by decide +kernel) (ci_lt1 g10 (by decide) b11) rfl ?_
        refine Ru.op (q := (.iload_n 3, 1)) (by decide +kernel) rfl ?_
        refine Ru.op (q := (.iload_n 1, 1)) (by decide +kernel) rfl ?_
        refine Ru.ar2 (i := .isub) (z := (o1 - v1)) (by decide +kernel) rfl (ar_sub _ _) ?_
        refine Ru.kI (q := (.bipush 11, 2)) (c := 11) (by decide +kernel) rfl (by decide) ?_
        refine Ru.ar2 (i := .imul) (z := ((o1 - v1) * 11)) (by decide +kernel) rfl (ar_mul _ _) ?_
        cases h
        exact Ru.iret (by decide +kernel) rfl rfl
      · replace h := if_f b11 h
        refine Ru.br2 (k := .lt) (off := 10) (bb := false) (tg := 40) (by decide +kernel) (by decide +kernel) (ci_lt0 g10 (by decide) b11) rfl ?_
        refine Ru.op (q := (.iload 4, 2)) (by decide +kernel) rfl ?_
        refine Ru.kI (q := (.bipush 57, 2)) (c := 57) (by decide +kernel) rfl (by decide) ?_
        by_cases b12 : 57 < o8
        · replace h := if_t b12 h
          refine Ru.br2 (k := .le) (off := 10) (bb := false) (tg := 47) (by decide +kernel) (by decide +kernel) (ci_le0 g10 (by decide) b12) rfl ?_
          refine Ru.op (q := (.iload_n 3, 1)) (by decide +kernel) rfl ?_
          refine Ru.op (q := (.iload_n 1, 1)) (by decide +kernel) rfl ?_
          refine Ru.ar2 (i := .isub) (z := (o1 - v1)) (by decide +kernel) rfl (ar_sub _ _) ?_
          refine Ru.kI (q := (.bipush 11, 2)) (c := 11) (by decide +kernel) rfl (by decide) ?_
          refine Ru.ar2 (i := .imul) (z := ((o1 - v1) * 11)) (by decide +kernel) rfl (ar_mul _ _) ?_
          cases h
          exact Ru.iret (by decide +kernel) rfl rfl
        · replace h := if_f b12 h
          refine Ru.br2 (k := .le) (off := 10) (bb := true) (tg := 54) (by decide +kernel) (by decide +kernel) (ci_le1 g10 (by decide) b12) rfl ?_
          refine Ru.op (q := (.aload_n 0, 1)) (by decide +kernel) rfl ?_
          refine Ru.op (q := (.dup, 1)) (by decide +kernel) rfl ?_
          refine Ru.getI (i := 36) (x := ((S.F 1 4) + 1)) (by decide +kernel) (by rfl) (hp1 _) (by decide) rfl rfl ?_
          refine Ru.kI (q := (.iconst 1, 1)) (c := 1) (by decide +kernel) rfl (by decide) ?_
          refine Ru.ar2 (i := .iadd) (z := (((S.F 1 4) + 1) + 1)) (by decide +kernel) rfl (ar_add _ _) ?_
          refine Ru.putH (i := 36) (by decide +kernel) (by rfl) (hp1 _) (by decide) (Nat.le_of_ble_eq_true rfl) rfl (by decide +kernel) (pf_1_4 _ _) ?_
          refine Ru.op (q := (.iload_n 3, 1)) (by decide +kernel) rfl ?_
          refine Ru.op (q := (.iload_n 1, 1)) (by decide +kernel) rfl ?_
          refine Ru.ar2 (i := .isub) (z := (o1 - v1)) (by decide +kernel) rfl (ar_sub _ _) ?_
          refine Ru.kI (q := (.bipush 11, 2)) (c := 11) (by decide +kernel) rfl (by decide) ?_
          refine Ru.ar2 (i := .imul) (z := ((o1 - v1) * 11)) (by decide +kernel) rfl (ar_mul _ _) ?_
          refine Ru.kI (q := (.iconst 1, 1)) (c := 1) (by decide +kernel) rfl (by decide) ?_
          refine Ru.ar2 (i := .iadd) (z := (((o1 - v1) * 11) + 1)) (by decide +kernel) rfl (ar_add _ _) ?_
          refine Ru.op (q := (.iload 4, 2)) (by decide +kernel) rfl ?_
          refine Ru.ar2 (i := .iadd) (z := ((((o1 - v1) * 11) + 1) + o8)) (by decide +kernel) rfl (ar_add _ _) ?_
          refine Ru.kI (q := (.bipush 48, 2)) (c := 48) (by decide +kernel) rfl (by decide) ?_
          refine Ru.ar2 (i := .isub) (z := (((((o1 - v1) * 11) + 1) + o8) - 48)) (by decide +kernel) rfl (ar_sub _ _) ?_
          cases h
          exact Ru.iret (by decide +kernel) rfl rfl
def g25 (S : St) (v1 : Int) : Option (Int × St) := some ((-1), (S.f 1 3 v1))
set_option maxRecDepth 100000 in
set_option maxHeartbeats 4000000 in
theorem g25_ok {S : St} {v1 : Int} {o : Int × St} (h : g25 S v1 = some o) : Ru none 10 200 25 (0, mn_pad (mn_ent [.ref 1, vI v1]) 2, [], S.ns, Hp S) ((0, some (vI o.1)), o.2.ns, Hp o.2) := by
  unfold g25 at h
  show Ru none 10 200 25 (0, [some (.ref 1), some (vI v1)], [], S.ns, Hp S) _
  refine Ru.op (q := (.aload_n 0, 1)) (by decide +kernel) rfl ?_
  refine Ru.op (q := (.iload_n 1, 1)) (by decide +kernel) rfl ?_
  refine Ru.putH (i := 40) (by decide +kernel) (by rfl) (hp1 _) (by decide) (Nat.le_of_ble_eq_true rfl) rfl (by decide +kernel) (pf_1_3 _ _) ?_
  refine Ru.kI (q := (.iconst (-1), 1)) (c := (-1)) (by decide +kernel) rfl (by decide) ?_
  cases h
  exact Ru.iret (by decide +kernel) rfl rfl
def g38L4 (S : St) : Nat → Int → Int → Option (Int)
  | 0, _, _ => none
  | n + 1, v1, v2 => gd (inR v2) (if v2 < (S.F 1 8) then gd (ixR v2 10) (if (S.A 11 v2) < 32768 then g38L4 S n (v1 + 1) (v2 + 1) else g38L4 S n v1 (v2 + 1)) else some v1)
set_option maxRecDepth 100000 in
set_option maxHeartbeats 4000000 in
theorem g38L4_ok {S : St} : ∀ (n : Nat) (v1 : Int) (v2 : Int) (out : Int), g38L4 S n v1 v2 = some out → ∀ r, (∀ (e0 e2 : Option Value), Ru none 10 200 38 (32, [e0, some (vI out), e2], [], S.ns, Hp S) r) → Ru none 10 200 38 (4, [some (.ref 1), some (vI v1), some (vI v2)], [], S.ns, Hp S) r := by
  intro n
  induction n with
  | zero => intro v1 v2 out h; cases h
  | succ n ih =>
    intro v1 v2 out h r hk
    unfold g38L4 at h
    refine Ru.op (q := (.iload_n 2, 1)) (by decide +kernel) rfl ?_
    refine Ru.op (q := (.aload_n 0, 1)) (by decide +kernel) rfl ?_
    refine Ru.getI (i := 46) (x := (S.F 1 8)) (by decide +kernel) (by rfl) (hp1 _) (by decide) rfl (eI_of _) ?_
    obtain ⟨g1, h⟩ := gd_some h
    by_cases b2 : v2 < (S.F 1 8)
    · replace h := if_t b2 h
      refine Ru.br2 (k := .ge) (off := 23) (bb := false) (tg := 12) (by decide +kernel) (by decide +kernel) (ci_ge0 g1 (inR_to _) b2) rfl ?_
      refine Ru.op (q := (.aload_n 0, 1)) (by decide +kernel) rfl ?_
      refine Ru.get (i := 26) (v := .ref 11) (by decide +kernel) (by rfl) (hp1 _) (by decide) rfl ?_
      refine Ru.op (q := (.iload_n 2, 1)) (by decide +kernel) rfl ?_
      obtain ⟨g3, h⟩ := gd_some h
      refine Ru.ildI (i := v2) (z := (S.A 11 v2)) (by decide +kernel) (hp11 _) g3 (eI_of _) ?_
      refine Ru.kI (q := (.ldc 112, 2)) (c := 32768) (by decide +kernel) rfl (by decide) ?_
      by_cases b4 : (S.A 11 v2) < 32768
      · replace h := if_t b4 h
        refine Ru.br2 (k := .ge) (off := 6) (bb := false) (tg := 23) (by decide +kernel) (by decide +kernel) (ci_ge0 (inR_to _) (by decide) b4) rfl ?_
        refine Ru.inc (x := v1) (z := (v1 + 1)) (xs' := [some (.ref 1), some (vI (v1 + 1)), some (vI v2)]) (by decide +kernel) rfl rfl rfl ?_
        refine Ru.inc (x := v2) (z := (v2 + 1)) (xs' := [some (.ref 1), some (vI (v1 + 1)), some (vI (v2 + 1))]) (by decide +kernel) rfl rfl rfl ?_
        refine Ru.op (q := (.goto (-25), 3)) (by decide +kernel) rfl ?_
        exact ih _ _ _ h r hk
      · replace h := if_f b4 h
        refine Ru.br2 (k := .ge) (off := 6) (bb := true) (tg := 26) (by decide +kernel) (by decide +kernel) (ci_ge1 (inR_to _) (by decide) b4) rfl ?_
        refine Ru.inc (x := v2) (z := (v2 + 1)) (xs' := [some (.ref 1), some (vI v1), some (vI (v2 + 1))]) (by decide +kernel) rfl rfl rfl ?_
        refine Ru.op (q := (.goto (-25), 3)) (by decide +kernel) rfl ?_
        exact ih _ _ _ h r hk
    · replace h := if_f b2 h
      refine Ru.br2 (k := .ge) (off := 23) (bb := true) (tg := 32) (by decide +kernel) (by decide +kernel) (ci_ge1 g1 (inR_to _) b2) rfl ?_
      cases h
      exact hk _ _
def g38 (S : St) : Option (Int) := ob (g38L4 S FU 0 0) (fun o5 => some o5)
set_option maxRecDepth 100000 in
set_option maxHeartbeats 4000000 in
theorem g38_ok {S : St} {o : Int} (h : g38 S  = some o) : Ru none 10 200 38 (0, mn_pad (mn_ent [.ref 1]) 3, [], S.ns, Hp S) ((0, some (vI o)), S.ns, Hp S) := by
  unfold g38 at h
  show Ru none 10 200 38 (0, [some (.ref 1), none, none], [], S.ns, Hp S) _
  refine Ru.kI (q := (.iconst 0, 1)) (c := 0) (by decide +kernel) rfl (by decide) ?_
  refine Ru.op (q := (.istore_n 1, 1)) (S' := (2, [some (.ref 1), some (vI 0), none], [], _, _)) (by decide +kernel) rfl ?_
  refine Ru.kI (q := (.iconst 0, 1)) (c := 0) (by decide +kernel) rfl (by decide) ?_
  refine Ru.op (q := (.istore_n 2, 1)) (S' := (4, [some (.ref 1), some (vI 0), some (vI 0)], [], _, _)) (by decide +kernel) rfl ?_
  obtain ⟨o5, e8, h⟩ := ob_some h
  refine g38L4_ok FU _ _ _ e8 _ ?_
  intro d6 d7
  refine Ru.op (q := (.iload_n 1, 1)) (by decide +kernel) rfl ?_
  cases h
  exact Ru.iret (by decide +kernel) rfl rfl
def g37b (rc : St → Int → Int → Option (Int × St)) (S : St) (v1 : Int) (v2 : Int) (v3 : Int) : Option (Int × St) := ob (g29 S 120 122) (fun o1 => gd (inR o1.1) (if o1.1 = (-1) then ob (g25 o1.2 (o1.2.F 1 4)) (fun o5 => some (o5.1, o5.2)) else if (o1.2.F 1 8) < 10 then gd (ixR (o1.2.F 1 8) 10) (gd (inR v1) (if v1 = 0 then ob (rc ((((o1.2.a 10 (o1.2.F 1 8) o1.1).a 11 (o1.2.F 1 8) ((o1.2.F 1 9) * 256)).f 1 9 ((o1.2.F 1 9) + 1)).f 1 8 ((o1.2.F 1 8) + 1)) v2 (v3 + 1)) (fun o11 => some (o11.1, (o11.2.f 1 8 ((o11.2.F 1 8) - 1)))) else ob (g38 ((o1.2.a 10 (o1.2.F 1 8) o1.1).f 1 10 ((o1.2.F 1 10) + 1))) (fun o13 => ob (rc ((((o1.2.a 10 (o1.2.F 1 8) o1.1).f 1 10 ((o1.2.F 1 10) + 1)).a 11 (o1.2.F 1 8) ((65536 + (((o1.2.F 1 10) + 1) * 256)) + o13)).f 1 8 ((o1.2.F 1 8) + 1)) v2 (v3 + 1)) (fun o15 => some (o15.1, (o15.2.f 1 8 ((o15.2.F 1 8) - 1))))))) else ob (g25 o1.2 (o1.2.F 1 4)) (fun o17 => some (o17.1, o17.2))))
set_option maxRecDepth 100000 in
set_option maxHeartbeats 4000000 in
theorem g37b_ok {FR LO : Nat} {rc : St → Int → Int → Option (Int × St)} (hF : 12 ≤ FR) (hL : 244 ≤ LO) (hrc : ∀ {S : St} {v1 : Int} {v2 : Int} {o : Int × St}, rc S v1 v2 = some o → Ru none FR LO 22 (0, mn_pad (mn_ent [.ref 1, vI v1, vI v2]) 4, [], S.ns, Hp S) ((0, some (vI o.1)), o.2.ns, Hp o.2)) {S : St} {v1 : Int} {v2 : Int} {v3 : Int} {o : Int × St} (h : g37b rc S v1 v2 v3 = some o) : Ru none (FR + 1) (LO + 23) 37 (0, mn_pad (mn_ent [.ref 1, vI v1, vI v2, vI v3]) 6, [], S.ns, Hp S) ((0, some (vI o.1)), o.2.ns, Hp o.2) := by
  unfold g37b at h
  show Ru none (FR + 1) (LO + 23) 37 (0, [some (.ref 1), some (vI v1), some (vI v2), some (vI v3), none, none], [], S.ns, Hp S) _
  refine Ru.op (q := (.aload_n 0, 1)) (by decide +kernel) rfl ?_
  refine Ru.kI (q := (.bipush 120, 2)) (c := 120) (by decide +kernel) rfl (by decide) ?_
  refine Ru.kI (q := (.bipush 122, 2)) (c := 122) (by decide +kernel) rfl (by decide) ?_
  obtain ⟨o1, e2, h⟩ := ob_some h
  refine Ru.vcall (i := 103) (j2 := 29) (as := [vI 120, vI 122]) (by decide +kernel) (by rfl) rfl rfl (hp1 _) (by decide) ⟨(by omega), (by show 19 + 5 ≤ (LO + 23); omega), Nat.le_of_ble_eq_true rfl, Nat.le_of_ble_eq_true rfl⟩ ((g29_ok e2).up (by omega) (by show _ ≤ (LO + 23) - (19 + 5); omega)) ?_
  refine Ru.op (q := (.istore 4, 2)) (S' := (10, [some (.ref 1), some (vI v1), some (vI v2), some (vI v3), some (vI o1.1), none], [], _, _)) (by decide +kernel) rfl ?_
  refine Ru.op (q := (.iload 4, 2)) (by decide +kernel) rfl ?_
  refine Ru.kI (q := (.iconst (-1), 1)) (c := (-1)) (by decide +kernel) rfl (by decide) ?_
  obtain ⟨g3, h⟩ := gd_some h
  by_cases b4 : o1.1 = (-1)
  · replace h := if_t b4 h
    refine Ru.br2 (k := .eq) (off := 12) (bb := true) (tg := 25) (by decide +kernel) (by decide +kernel) (ci_eq1 g3 (by decide) b4) rfl ?_
    refine Ru.op (q := (.aload_n 0, 1)) (by decide +kernel) rfl ?_
    refine Ru.op (q := (.aload_n 0, 1)) (by decide +kernel) rfl ?_
    refine Ru.getI (i := 36) (x := (o1.2.F 1 4)) (by decide +kernel) (by rfl) (hp1 _) (by decide) rfl (eI_of _) ?_
    obtain ⟨o5, e6, h⟩ := ob_some h
    refine Ru.vcall (i := 62) (j2 := 25) (as := [vI (o1.2.F 1 4)]) (by decide +kernel) (by rfl) rfl rfl (hp1 _) (by decide) ⟨(by omega), (by show 19 + 2 ≤ (LO + 23); omega), Nat.le_of_ble_eq_true rfl, Nat.le_of_ble_eq_true rfl⟩ ((g25_ok e6).up (by omega) (by show _ ≤ (LO + 23) - (19 + 2); omega)) ?_
    cases h
    exact Ru.iret (by decide +kernel) rfl rfl
  · replace h := if_f b4 h
    refine Ru.br2 (k := .eq) (off := 12) (bb := false) (tg := 16) (by decide +kernel) (by decide +kernel) (ci_eq0 g3 (by decide) b4) rfl ?_
    refine Ru.op (q := (.aload_n 0, 1)) (by decide +kernel) rfl ?_
    refine Ru.getI (i := 46) (x := (o1.2.F 1 8)) (by decide +kernel) (by rfl) (hp1 _) (by decide) rfl (eI_of _) ?_
    refine Ru.kI (q := (.bipush 10, 2)) (c := 10) (by decide +kernel) rfl (by decide) ?_
    by_cases b7 : (o1.2.F 1 8) < 10
    · replace h := if_t b7 h
      refine Ru.br2 (k := .lt) (off := 12) (bb := true) (tg := 34) (by decide +kernel) (by decide +kernel) (ci_lt1 (inR_to _) (by decide) b7) rfl ?_
      refine Ru.op (q := (.aload_n 0, 1)) (by decide +kernel) rfl ?_
      refine Ru.get (i := 22) (v := .ref 10) (by decide +kernel) (by rfl) (hp1 _) (by decide) rfl ?_
      refine Ru.op (q := (.aload_n 0, 1)) (by decide +kernel) rfl ?_
      refine Ru.getI (i := 46) (x := (o1.2.F 1 8)) (by decide +kernel) (by rfl) (hp1 _) (by decide) rfl (eI_of _) ?_
      refine Ru.op (q := (.iload 4, 2)) (by decide +kernel) rfl ?_
      obtain ⟨g8, h⟩ := gd_some h
      refine Ru.istI (i := (o1.2.F 1 8)) (x := o1.1) (by decide +kernel) (hp10 _) g8 (ps_10 _ _ _) ?_
      refine Ru.op (q := (.iload_n 1, 1)) (by decide +kernel) rfl ?_
      obtain ⟨g9, h⟩ := gd_some h
      by_cases b10 : v1 = 0
      · replace h := if_t b10 h
        refine Ru.br (k := .eq) (off := 40) (bb := true) (tg := 86) (by decide +kernel) (by decide +kernel) (cz (ci_eq1 g9 (by decide) b10)) rfl ?_
        refine Ru.op (q := (.aload_n 0, 1)) (by decide +kernel) rfl ?_
        refine Ru.get (i := 26) (v := .ref 11) (by decide +kernel) (by rfl) (hp1 _) (by decide) rfl ?_
        refine Ru.op (q := (.aload_n 0, 1)) (by decide +kernel) rfl ?_
        refine Ru.getI (i := 46) (x := (o1.2.F 1 8)) (by decide +kernel) (by rfl) (hp1 _) (by decide) rfl (eI_of _) ?_
        refine Ru.op (q := (.aload_n 0, 1)) (by decide +kernel) rfl ?_
        refine Ru.getI (i := 49) (x := (o1.2.F 1 9)) (by decide +kernel) (by rfl) (hp1 _) (by decide) rfl (eI_of _) ?_
        refine Ru.kI (q := (.bipush 8, 2)) (c := 8) (by decide +kernel) rfl (by decide) ?_
        refine Ru.ar2 (i := .ishl) (z := ((o1.2.F 1 9) * 256)) (by decide +kernel) rfl (ar_shl _) ?_
        refine Ru.istI (i := (o1.2.F 1 8)) (x := ((o1.2.F 1 9) * 256)) (by decide +kernel) (hp11 _) g8 (ps_11 _ _ _) ?_
        refine Ru.op (q := (.aload_n 0, 1)) (by decide +kernel) rfl ?_
        refine Ru.op (q := (.dup, 1)) (by decide +kernel) rfl ?_
        refine Ru.getI (i := 49) (x := (o1.2.F 1 9)) (by decide +kernel) (by rfl) (hp1 _) (by decide) rfl (eI_of _) ?_
        refine Ru.kI (q := (.iconst 1, 1)) (c := 1) (by decide +kernel) rfl (by decide) ?_
        refine Ru.ar2 (i := .iadd) (z := ((o1.2.F 1 9) + 1)) (by decide +kernel) rfl (ar_add _ _) ?_
        refine Ru.putH (i := 49) (by decide +kernel) (by rfl) (hp1 _) (by decide) (Nat.le_of_ble_eq_true rfl) rfl (by decide +kernel) (pf_1_9 _ _) ?_
        refine Ru.op (q := (.aload_n 0, 1)) (by decide +kernel) rfl ?_
        refine Ru.op (q := (.dup, 1)) (by decide +kernel) rfl ?_
        refine Ru.getI (i := 46) (x := (o1.2.F 1 8)) (by decide +kernel) (by rfl) (hp1 _) (by decide) rfl (eI_of _) ?_
        refine Ru.kI (q := (.iconst 1, 1)) (c := 1) (by decide +kernel) rfl (by decide) ?_
        refine Ru.ar2 (i := .iadd) (z := ((o1.2.F 1 8) + 1)) (by decide +kernel) rfl (ar_add _ _) ?_
        refine Ru.putH (i := 46) (by decide +kernel) (by rfl) (hp1 _) (by decide) (Nat.le_of_ble_eq_true rfl) rfl (by decide +kernel) (pf_1_8 _ _) ?_
        refine Ru.op (q := (.aload_n 0, 1)) (by decide +kernel) rfl ?_
        refine Ru.op (q := (.iload_n 2, 1)) (by decide +kernel) rfl ?_
        refine Ru.op (q := (.iload_n 3, 1)) (by decide +kernel) rfl ?_
        refine Ru.kI (q := (.iconst 1, 1)) (c := 1) (by decide +kernel) rfl (by decide) ?_
        refine Ru.ar2 (i := .iadd) (z := (v3 + 1)) (by decide +kernel) rfl (ar_add _ _) ?_
        obtain ⟨o11, e12, h⟩ := ob_some h
        refine Ru.vcall (i := 55) (j2 := 22) (as := [vI v2, vI (v3 + 1)]) (by decide +kernel) (by rfl) rfl rfl (hp1 _) (by decide) ⟨(by omega), (by show 19 + 4 ≤ (LO + 23); omega), Nat.le_of_ble_eq_true rfl, Nat.le_of_ble_eq_true rfl⟩ ((hrc e12).up (by omega) (by show _ ≤ (LO + 23) - (19 + 4); omega)) ?_
        refine Ru.op (q := (.istore 5, 2)) (S' := (132, [some (.ref 1), some (vI v1), some (vI v2), some (vI v3), some (vI o1.1), some (vI o11.1)], [], _, _)) (by decide +kernel) rfl ?_
        refine Ru.op (q := (.aload_n 0, 1)) (by decide +kernel) rfl ?_
        refine Ru.op (q := (.dup, 1)) (by decide +kernel) rfl ?_
        refine Ru.getI (i := 46) (x := (o11.2.F 1 8)) (by decide +kernel) (by rfl) (hp1 _) (by decide) rfl (eI_of _) ?_
        refine Ru.kI (q := (.iconst 1, 1)) (c := 1) (by decide +kernel) rfl (by decide) ?_
        refine Ru.ar2 (i := .isub) (z := ((o11.2.F 1 8) - 1)) (by decide +kernel) rfl (ar_sub _ _) ?_
        refine Ru.putH (i := 46) (by decide +kernel) (by rfl) (hp1 _) (by decide) (Nat.le_of_ble_eq_true rfl) rfl (by decide +kernel) (pf_1_8 _ _) ?_
        refine Ru.op (q := (.iload 5, 2)) (by decide +kernel) rfl ?_
        cases h
        exact Ru.iret (by decide +kernel) rfl rfl
      · replace h := if_f b10 h
        refine Ru.br (k := .eq) (off := 40) (bb := false) (tg := 49) (by decide +kernel) (by decide +kernel) (cz (ci_eq0 g9 (by decide) b10)) rfl ?_
        refine Ru.op (q := (.aload_n 0, 1)) (by decide +kernel) rfl ?_
        refine Ru.op (q := (.dup, 1)) (by decide +kernel) rfl ?_
        refine Ru.getI (i := 52) (x := (o1.2.F 1 10)) (by decide +kernel) (by rfl) (hp1 _) (by decide) rfl (eI_of _) ?_
        refine Ru.kI (q := (.iconst 1, 1)) (c := 1) (by decide +kernel) rfl (by decide) ?_
        refine Ru.ar2 (i := .iadd) (z := ((o1.2.F 1 10) + 1)) (by decide +kernel) rfl (ar_add _ _) ?_
        refine Ru.putH (i := 52) (by decide +kernel) (by rfl) (hp1 _) (by decide) (Nat.le_of_ble_eq_true rfl) rfl (by decide +kernel) (pf_1_10 _ _) ?_
        refine Ru.op (q := (.aload_n 0, 1)) (by decide +kernel) rfl ?_
        refine Ru.get (i := 26) (v := .ref 11) (by decide +kernel) (by rfl) (hp1 _) (by decide) rfl ?_
        refine Ru.op (q := (.aload_n 0, 1)) (by decide +kernel) rfl ?_
        refine Ru.getI (i := 46) (x := (o1.2.F 1 8)) (by decide +kernel) (by rfl) (hp1 _) (by decide) rfl (eI_of _) ?_
        refine Ru.kI (q := (.ldc 107, 2)) (c := 65536) (by decide +kernel) rfl (by decide) ?_
        refine Ru.op (q := (.aload_n 0, 1)) (by decide +kernel) rfl ?_
        refine Ru.getI (i := 52) (x := ((o1.2.F 1 10) + 1)) (by decide +kernel) (by rfl) (hp1 _) (by decide) rfl rfl ?_
        refine Ru.kI (q := (.bipush 8, 2)) (c := 8) (by decide +kernel) rfl (by decide) ?_
        refine Ru.ar2 (i := .ishl) (z := (((o1.2.F 1 10) + 1) * 256)) (by decide +kernel) rfl (ar_shl _) ?_
        refine Ru.ar2 (i := .iadd) (z := (65536 + (((o1.2.F 1 10) + 1) * 256))) (by decide +kernel) rfl (ar_add _ _) ?_
        refine Ru.op (q := (.aload_n 0, 1)) (by decide +kernel) rfl ?_
        obtain ⟨o13, e14, h⟩ := ob_some h
        refine Ru.vcall (i := 108) (j2 := 38) (as := []) (by decide +kernel) (by rfl) rfl rfl (hp1 _) (by decide) ⟨(by omega), (by show 19 + 3 ≤ (LO + 23); omega), Nat.le_of_ble_eq_true rfl, Nat.le_of_ble_eq_true rfl⟩ ((g38_ok e14).up (by omega) (by show _ ≤ (LO + 23) - (19 + 3); omega)) ?_
        refine Ru.ar2 (i := .iadd) (z := ((65536 + (((o1.2.F 1 10) + 1) * 256)) + o13)) (by decide +kernel) rfl (ar_add _ _) ?_
        refine Ru.istI (i := (o1.2.F 1 8)) (x := ((65536 + (((o1.2.F 1 10) + 1) * 256)) + o13)) (by decide +kernel) (hp11 _) g8 (ps_11 _ _ _) ?_
        refine Ru.op (q := (.goto 29, 3)) (by decide +kernel) rfl ?_
        refine Ru.op (q := (.aload_n 0, 1)) (by decide +kernel) rfl ?_
        refine Ru.op (q := (.dup, 1)) (by decide +kernel) rfl ?_
        refine Ru.getI (i := 46) (x := (o1.2.F 1 8)) (by decide +kernel) (by rfl) (hp1 _) (by decide) rfl (eI_of _) ?_
        refine Ru.kI (q := (.iconst 1, 1)) (c := 1) (by decide +kernel) rfl (by decide) ?_
        refine Ru.ar2 (i := .iadd) (z := ((o1.2.F 1 8) + 1)) (by decide +kernel) rfl (ar_add _ _) ?_
        refine Ru.putH (i := 46) (by decide +kernel) (by rfl) (hp1 _) (by decide) (Nat.le_of_ble_eq_true rfl) rfl (by decide +kernel) (pf_1_8 _ _) ?_
        refine Ru.op (q := (.aload_n 0, 1)) (by decide +kernel) rfl ?_
        refine Ru.op (q := (.iload_n 2, 1)) (by decide +kernel) rfl ?_
        refine Ru.op (q := (.iload_n 3, 1)) (by decide +kernel) rfl ?_
        refine Ru.kI (q := (.iconst 1, 1)) (c := 1) (by decide +kernel) rfl (by decide) ?_
        refine Ru.ar2 (i := .iadd) (z := (v3 + 1)) (by decide +kernel) rfl (ar_add _ _) ?_
        obtain ⟨o15, e16, h⟩ := ob_some h
        refine Ru.vcall (i := 55) (j2 := 22) (as := [vI v2, vI (v3 + 1)]) (by decide +kernel) (by rfl) rfl rfl (hp1 _) (by decide) ⟨(by omega), (by show 19 + 4 ≤ (LO + 23); omega), Nat.le_of_ble_eq_true rfl, Nat.le_of_ble_eq_true rfl⟩ ((hrc e16).up (by omega) (by show _ ≤ (LO + 23) - (19 + 4); omega)) ?_
        refine Ru.op (q := (.istore 5, 2)) (S' := (132, [some (.ref 1), some (vI v1), some (vI v2), some (vI v3), some (vI o1.1), some (vI o15.1)], [], _, _)) (by decide +kernel) rfl ?_
        refine Ru.op (q := (.aload_n 0, 1)) (by decide +kernel) rfl ?_
        refine Ru.op (q := (.dup, 1)) (by decide +kernel) rfl ?_
        refine Ru.getI (i := 46) (x := (o15.2.F 1 8)) (by decide +kernel) (by rfl) (hp1 _) (by decide) rfl (eI_of _) ?_
        refine Ru.kI (q := (.iconst 1, 1)) (c := 1) (by decide +kernel) rfl (by decide) ?_
        refine Ru.ar2 (i := .isub) (z := ((o15.2.F 1 8) - 1)) (by decide +kernel) rfl (ar_sub _ _) ?_
        refine Ru.putH (i := 46) (by decide +kernel) (by rfl) (hp1 _) (by decide) (Nat.le_of_ble_eq_true rfl) rfl (by decide +kernel) (pf_1_8 _ _) ?_
        refine Ru.op (q := (.iload 5, 2)) (by decide +kernel) rfl ?_
        cases h
        exact Ru.iret (by decide +kernel) rfl rfl
    · replace h := if_f b7 h
      refine Ru.br2 (k := .lt) (off := 12) (bb := false) (tg := 25) (by decide +kernel) (by decide +kernel) (ci_lt0 (inR_to _) (by decide) b7) rfl ?_
      refine Ru.op (q := (.aload_n 0, 1)) (by decide +kernel) rfl ?_
      refine Ru.op (q := (.aload_n 0, 1)) (by decide +kernel) rfl ?_
      refine Ru.getI (i := 36) (x := (o1.2.F 1 4)) (by decide +kernel) (by rfl) (hp1 _) (by decide) rfl (eI_of _) ?_
      obtain ⟨o17, e18, h⟩ := ob_some h
      refine Ru.vcall (i := 62) (j2 := 25) (as := [vI (o1.2.F 1 4)]) (by decide +kernel) (by rfl) rfl rfl (hp1 _) (by decide) ⟨(by omega), (by show 19 + 2 ≤ (LO + 23); omega), Nat.le_of_ble_eq_true rfl, Nat.le_of_ble_eq_true rfl⟩ ((g25_ok e18).up (by omega) (by show _ ≤ (LO + 23) - (19 + 2); omega)) ?_
      cases h
      exact Ru.iret (by decide +kernel) rfl rfl
def g33 (S : St) (v1 : Int) (v2 : Int) (v3 : Int) : Option (Int × St) := if (S.F 3 5) < 160 then gd (ixR (S.F 3 5) 160) (some ((((S.F 3 5) + 1) - 1), ((((S.a 4 (S.F 3 5) v1).a 5 (S.F 3 5) v2).a 6 (S.F 3 5) v3).f 3 5 ((S.F 3 5) + 1)))) else some ((-1), S)
set_option maxRecDepth 100000 in
set_option maxHeartbeats 4000000 in
theorem g33_ok {S : St} {v1 : Int} {v2 : Int} {v3 : Int} {o : Int × St} (h : g33 S v1 v2 v3 = some o) : Ru none 10 200 33 (0, mn_pad (mn_ent [.ref 3, vI v1, vI v2, vI v3]) 4, [], S.ns, Hp S) ((0, some (vI o.1)), o.2.ns, Hp o.2) := by
  unfold g33 at h
  show Ru none 10 200 33 (0, [some (.ref 3), some (vI v1), some (vI v2), some (vI v3)], [], S.ns, Hp S) _
  refine Ru.op (q := (.aload_n 0, 1)) (by decide +kernel) rfl ?_
  refine Ru.getI (i := 30) (x := (S.F 3 5)) (by decide +kernel) (by rfl) (hp3 _) (by decide) rfl (eI_of _) ?_
  refine Ru.kI (q := (.sipush 160, 3)) (c := 160) (by decide +kernel) rfl (by decide) ?_
  by_cases b1 : (S.F 3 5) < 160
  · replace h := if_t b1 h
    refine Ru.br2 (k := .lt) (off := 5) (bb := true) (tg := 12) (by decide +kernel) (by decide +kernel) (ci_lt1 (inR_to _) (by decide) b1) rfl ?_
    refine Ru.op (q := (.aload_n 0, 1)) (by decide +kernel) rfl ?_
    refine Ru.get (i := 9) (v := .ref 4) (by decide +kernel) (by rfl) (hp3 _) (by decide) rfl ?_
    refine Ru.op (q := (.aload_n 0, 1)) (by decide +kernel) rfl ?_
    refine Ru.getI (i := 30) (x := (S.F 3 5)) (by decide +kernel) (by rfl) (hp3 _) (by decide) rfl (eI_of _) ?_
    refine Ru.op (q := (.iload_n 1, 1)) (by decide +kernel) rfl ?_
    obtain ⟨g2, h⟩ := gd_some h
    refine Ru.istI (i := (S.F 3 5)) (x := v1) (by decide +kernel) (hp4 _) g2 (ps_4 _ _ _) ?_
    refine Ru.op (q := (.aload_n 0, 1)) (by decide +kernel) rfl ?_
    refine Ru.get (i := 15) (v := .ref 5) (by decide +kernel) (by rfl) (hp3 _) (by decide) rfl ?_
    refine Ru.op (q := (.aload_n 0, 1)) (by decide +kernel) rfl ?_
    refine Ru.getI (i := 30) (x := (S.F 3 5)) (by decide +kernel) (by rfl) (hp3 _) (by decide) rfl (eI_of _) ?_
    refine Ru.op (q := (.iload_n 2, 1)) (by decide +kernel) rfl ?_
    refine Ru.istI (i := (S.F 3 5)) (x := v2) (by decide +kernel) (hp5 _) g2 (ps_5 _ _ _) ?_
    refine Ru.op (q := (.aload_n 0, 1)) (by decide +kernel) rfl ?_
    refine Ru.get (i := 18) (v := .ref 6) (by decide +kernel) (by rfl) (hp3 _) (by decide) rfl ?_
    refine Ru.op (q := (.aload_n 0, 1)) (by decide +kernel) rfl ?_
    refine Ru.getI (i := 30) (x := (S.F 3 5)) (by decide +kernel) (by rfl) (hp3 _) (by decide) rfl (eI_of _) ?_
    refine Ru.op (q := (.iload_n 3, 1)) (by decide +kernel) rfl ?_
    refine Ru.istI (i := (S.F 3 5)) (x := v3) (by decide +kernel) (hp6 _) g2 (ps_6 _ _ _) ?_
    refine Ru.op (q := (.aload_n 0, 1)) (by decide +kernel) rfl ?_
    refine Ru.op (q := (.dup, 1)) (by decide +kernel) rfl ?_
    refine Ru.getI (i := 30) (x := (S.F 3 5)) (by decide +kernel) (by rfl) (hp3 _) (by decide) rfl (eI_of _) ?_
    refine Ru.kI (q := (.iconst 1, 1)) (c := 1) (by decide +kernel) rfl (by decide) ?_
    refine Ru.ar2 (i := .iadd) (z := ((S.F 3 5) + 1)) (by decide +kernel) rfl (ar_add _ _) ?_
    refine Ru.putH (i := 30) (by decide +kernel) (by rfl) (hp3 _) (by decide) (Nat.le_of_ble_eq_true rfl) rfl (by decide +kernel) (pf_3_5 _ _) ?_
    refine Ru.op (q := (.aload_n 0, 1)) (by decide +kernel) rfl ?_
    refine Ru.getI (i := 30) (x := ((S.F 3 5) + 1)) (by decide +kernel) (by rfl) (hp3 _) (by decide) rfl rfl ?_
    refine Ru.kI (q := (.iconst 1, 1)) (c := 1) (by decide +kernel) rfl (by decide) ?_
    refine Ru.ar2 (i := .isub) (z := (((S.F 3 5) + 1) - 1)) (by decide +kernel) rfl (ar_sub _ _) ?_
    cases h
    exact Ru.iret (by decide +kernel) rfl rfl
  · replace h := if_f b1 h
    refine Ru.br2 (k := .lt) (off := 5) (bb := false) (tg := 10) (by decide +kernel) (by decide +kernel) (ci_lt0 (inR_to _) (by decide) b1) rfl ?_
    refine Ru.kI (q := (.iconst (-1), 1)) (c := (-1)) (by decide +kernel) rfl (by decide) ?_
    cases h
    exact Ru.iret (by decide +kernel) rfl rfl
def g36 (S : St) (v0 : Int) : Option (Int) := gd (inR v0) (some (min v0 17))
set_option maxRecDepth 100000 in
set_option maxHeartbeats 4000000 in
theorem g36_ok {S : St} {v0 : Int} {o : Int} (h : g36 S v0 = some o) : Ru none 10 200 36 (0, mn_pad (mn_ent [vI v0]) 1, [], S.ns, Hp S) ((0, some (vI o)), S.ns, Hp S) := by
  unfold g36 at h
  show Ru none 10 200 36 (0, [some (vI v0)], [], S.ns, Hp S) _
  refine Ru.op (q := (.iload_n 0, 1)) (by decide +kernel) rfl ?_
  refine Ru.kI (q := (.bipush 17, 2)) (c := 17) (by decide +kernel) rfl (by decide) ?_
  obtain ⟨g1, h⟩ := gd_some h
  refine Ru.minI (i := 51) (k := (0, 0, 0, 0, 0)) (by decide +kernel) (by rfl) g1 (by decide) (Nat.le_of_ble_eq_true rfl) (by show _ ≤ 200; exact Nat.le_of_ble_eq_true rfl) ?_
  cases h
  exact Ru.iret (by decide +kernel) rfl rfl
def g35 (S : St) (v1 : Int) (v2 : Int) (v3 : Int) : Option (Int × St) := gd (inR v1) (if v1 = 0 then ob (g33 S 2 v2 v3) (fun o3 => gd (inR o3.1) (if o3.1 = (-1) then some (o3.1, o3.2) else gd (ixR v2 160) (gd (ixR v3 160) (ob (g36 o3.2 ((o3.2.A 7 v2) * (o3.2.A 7 v3))) (fun o9 => gd (ixR o3.1 160) (some (o3.1, ((o3.2.a 7 o3.1 o9).a 8 o3.1 ((o3.2.A 8 v2) + (o3.2.A 8 v3)))))))))) else ob (g33 S 1 v2 v3) (fun o12 => gd (inR o12.1) (if o12.1 = (-1) then some (o12.1, o12.2) else gd (ixR v2 160) (gd (ixR v3 160) (ob (g36 o12.2 ((o12.2.A 7 v2) + (o12.2.A 7 v3))) (fun o18 => gd (ixR o12.1 160) (some (o12.1, ((o12.2.a 7 o12.1 o18).a 8 o12.1 (max (o12.2.A 8 v2) (o12.2.A 8 v3)))))))))))
set_option maxRecDepth 100000 in
set_option maxHeartbeats 4000000 in
theorem g35_ok {S : St} {v1 : Int} {v2 : Int} {v3 : Int} {o : Int × St} (h : g35 S v1 v2 v3 = some o) : Ru none 11 223 35 (0, mn_pad (mn_ent [.ref 3, vI v1, vI v2, vI v3]) 5, [], S.ns, Hp S) ((0, some (vI o.1)), o.2.ns, Hp o.2) := by
  unfold g35 at h
  show Ru none 11 223 35 (0, [some (.ref 3), some (vI v1), some (vI v2), some (vI v3), none], [], S.ns, Hp S) _
  refine Ru.op (q := (.aload_n 0, 1)) (by decide +kernel) rfl ?_
  refine Ru.op (q := (.iload_n 1, 1)) (by decide +kernel) rfl ?_
  obtain ⟨g1, h⟩ := gd_some h
  by_cases b2 : v1 = 0
  · replace h := if_t b2 h
    refine Ru.br (k := .eq) (off := 7) (bb := true) (tg := 9) (by decide +kernel) (by decide +kernel) (cz (ci_eq1 g1 (by decide) b2)) rfl ?_
    refine Ru.kI (q := (.iconst 2, 1)) (c := 2) (by decide +kernel) rfl (by decide) ?_
    refine Ru.op (q := (.iload_n 2, 1)) (by decide +kernel) rfl ?_
    refine Ru.op (q := (.iload_n 3, 1)) (by decide +kernel) rfl ?_
    obtain ⟨o3, e4, h⟩ := ob_some h
    refine Ru.vcall (i := 37) (j2 := 33) (as := [vI 2, vI v2, vI v3]) (by decide +kernel) (by rfl) rfl rfl (hp3 _) (by decide) ⟨(Nat.le_of_ble_eq_true rfl), (by show 19 + 4 ≤ 223; exact Nat.le_of_ble_eq_true rfl), Nat.le_of_ble_eq_true rfl, Nat.le_of_ble_eq_true rfl⟩ ((g33_ok e4).up (Nat.le_of_ble_eq_true rfl) (Nat.le_of_ble_eq_true rfl)) ?_
    refine Ru.op (q := (.istore 4, 2)) (S' := (17, [some (.ref 3), some (vI v1), some (vI v2), some (vI v3), some (vI o3.1)], [], _, _)) (by decide +kernel) rfl ?_
    refine Ru.op (q := (.iload 4, 2)) (by decide +kernel) rfl ?_
    refine Ru.kI (q := (.iconst (-1), 1)) (c := (-1)) (by decide +kernel) rfl (by decide) ?_
    obtain ⟨g5, h⟩ := gd_some h
    by_cases b6 : o3.1 = (-1)
    · replace h := if_t b6 h
      refine Ru.br2 (k := .eq) (off := 55) (bb := true) (tg := 75) (by decide +kernel) (by decide +kernel) (ci_eq1 g5 (by decide) b6) rfl ?_
      refine Ru.op (q := (.iload 4, 2)) (by decide +kernel) rfl ?_
      refine Ru.kI (q := (.iconst (-1), 1)) (c := (-1)) (by decide +kernel) rfl (by decide) ?_
      refine Ru.br2 (k := .eq) (off := 46) (bb := true) (tg := 124) (by decide +kernel) (by decide +kernel) (ci_eq1 g5 (by decide) b6) rfl ?_
      refine Ru.op (q := (.iload 4, 2)) (by decide +kernel) rfl ?_
      cases h
      exact Ru.iret (by decide +kernel) rfl rfl
    · replace h := if_f b6 h
      refine Ru.br2 (k := .eq) (off := 55) (bb := false) (tg := 23) (by decide +kernel) (by decide +kernel) (ci_eq0 g5 (by decide) b6) rfl ?_
      refine Ru.op (q := (.iload_n 1, 1)) (by decide +kernel) rfl ?_
      refine Ru.br (k := .eq) (off := 51) (bb := true) (tg := 75) (by decide +kernel) (by decide +kernel) (cz (ci_eq1 g1 (by decide) b2)) rfl ?_
      refine Ru.op (q := (.iload 4, 2)) (by decide +kernel) rfl ?_
      refine Ru.kI (q := (.iconst (-1), 1)) (c := (-1)) (by decide +kernel) rfl (by decide) ?_
      refine Ru.br2 (k := .eq) (off := 46) (bb := false) (tg := 81) (by decide +kernel) (by decide +kernel) (ci_eq0 g5 (by decide) b6) rfl ?_
      refine Ru.op (q := (.aload_n 0, 1)) (by decide +kernel) rfl ?_
      refine Ru.get (i := 21) (v := .ref 7) (by decide +kernel) (by rfl) (hp3 _) (by decide) rfl ?_
      refine Ru.op (q := (.iload 4, 2)) (by decide +kernel) rfl ?_
      refine Ru.op (q := (.aload_n 0, 1)) (by decide +kernel) rfl ?_
      refine Ru.get (i := 21) (v := .ref 7) (by decide +kernel) (by rfl) (hp3 _) (by decide) rfl ?_
      refine Ru.op (q := (.iload_n 2, 1)) (by decide +kernel) rfl ?_
      obtain ⟨g7, h⟩ := gd_some h
      refine Ru.ildI (i := v2) (z := (o3.2.A 7 v2)) (by decide +kernel) (hp7 _) g7 (eI_of _) ?_
      refine Ru.op (q := (.aload_n 0, 1)) (by decide +kernel) rfl ?_
      refine Ru.get (i := 21) (v := .ref 7) (by decide +kernel) (by rfl) (hp3 _) (by decide) rfl ?_
      refine Ru.op (q := (.iload_n 3, 1)) (by decide +kernel) rfl ?_
      obtain ⟨g8, h⟩ := gd_some h
      refine Ru.ildI (i := v3) (z := (o3.2.A 7 v3)) (by decide +kernel) (hp7 _) g8 (eI_of _) ?_
      refine Ru.ar2 (i := .imul) (z := ((o3.2.A 7 v2) * (o3.2.A 7 v3))) (by decide +kernel) rfl (ar_mul _ _) ?_
      obtain ⟨o9, e10, h⟩ := ob_some h
      refine Ru.call (q := (.invokestatic 41, 3)) (j2 := 36) (as := [vI ((o3.2.A 7 v2) * (o3.2.A 7 v3))]) (by decide +kernel) rfl rfl rfl rfl ⟨(Nat.le_of_ble_eq_true rfl), (by show 19 + 1 ≤ 223; exact Nat.le_of_ble_eq_true rfl), Nat.le_of_ble_eq_true rfl, Nat.le_of_ble_eq_true rfl⟩ ((g36_ok e10).up (Nat.le_of_ble_eq_true rfl) (Nat.le_of_ble_eq_true rfl)) ?_
      obtain ⟨g11, h⟩ := gd_some h
      refine Ru.istI (i := o3.1) (x := o9) (by decide +kernel) (hp7 _) g11 (ps_7 _ _ _) ?_
      refine Ru.op (q := (.aload_n 0, 1)) (by decide +kernel) rfl ?_
      refine Ru.get (i := 24) (v := .ref 8) (by decide +kernel) (by rfl) (hp3 _) (by decide) rfl ?_
      refine Ru.op (q := (.iload 4, 2)) (by decide +kernel) rfl ?_
      refine Ru.op (q := (.aload_n 0, 1)) (by decide +kernel) rfl ?_
      refine Ru.get (i := 24) (v := .ref 8) (by decide +kernel) (by rfl) (hp3 _) (by decide) rfl ?_
      refine Ru.op (q := (.iload_n 2, 1)) (by decide +kernel) rfl ?_
      refine Ru.ildI (i := v2) (z := (o3.2.A 8 v2)) (by decide +kernel) (hp8 _) g7 (eI_of _) ?_
      refine Ru.op (q := (.aload_n 0, 1)) (by decide +kernel) rfl ?_
      refine Ru.get (i := 24) (v := .ref 8) (by decide +kernel) (by rfl) (hp3 _) (by decide) rfl ?_
      refine Ru.op (q := (.iload_n 3, 1)) (by decide +kernel) rfl ?_
      refine Ru.ildI (i := v3) (z := (o3.2.A 8 v3)) (by decide +kernel) (hp8 _) g8 (eI_of _) ?_
      refine Ru.ar2 (i := .iadd) (z := ((o3.2.A 8 v2) + (o3.2.A 8 v3))) (by decide +kernel) rfl (ar_add _ _) ?_
      refine Ru.istI (i := o3.1) (x := ((o3.2.A 8 v2) + (o3.2.A 8 v3))) (by decide +kernel) (hp8 _) g11 (ps_8 _ _ _) ?_
      refine Ru.op (q := (.iload 4, 2)) (by decide +kernel) rfl ?_
      cases h
      exact Ru.iret (by decide +kernel) rfl rfl
  · replace h := if_f b2 h
    refine Ru.br (k := .eq) (off := 7) (bb := false) (tg := 5) (by decide +kernel) (by decide +kernel) (cz (ci_eq0 g1 (by decide) b2)) rfl ?_
    refine Ru.kI (q := (.iconst 1, 1)) (c := 1) (by decide +kernel) rfl (by decide) ?_
    refine Ru.op (q := (.goto 4, 3)) (by decide +kernel) rfl ?_
    refine Ru.op (q := (.iload_n 2, 1)) (by decide +kernel) rfl ?_
    refine Ru.op (q := (.iload_n 3, 1)) (by decide +kernel) rfl ?_
    obtain ⟨o12, e13, h⟩ := ob_some h
    refine Ru.vcall (i := 37) (j2 := 33) (as := [vI 1, vI v2, vI v3]) (by decide +kernel) (by rfl) rfl rfl (hp3 _) (by decide) ⟨(Nat.le_of_ble_eq_true rfl), (by show 19 + 4 ≤ 223; exact Nat.le_of_ble_eq_true rfl), Nat.le_of_ble_eq_true rfl, Nat.le_of_ble_eq_true rfl⟩ ((g33_ok e13).up (Nat.le_of_ble_eq_true rfl) (Nat.le_of_ble_eq_true rfl)) ?_
    refine Ru.op (q := (.istore 4, 2)) (S' := (17, [some (.ref 3), some (vI v1), some (vI v2), some (vI v3), some (vI o12.1)], [], _, _)) (by decide +kernel) rfl ?_
    refine Ru.op (q := (.iload 4, 2)) (by decide +kernel) rfl ?_
    refine Ru.kI (q := (.iconst (-1), 1)) (c := (-1)) (by decide +kernel) rfl (by decide) ?_
    obtain ⟨g14, h⟩ := gd_some h
    by_cases b15 : o12.1 = (-1)
    · replace h := if_t b15 h
      refine Ru.br2 (k := .eq) (off := 55) (bb := true) (tg := 75) (by decide +kernel) (by decide +kernel) (ci_eq1 g14 (by decide) b15) rfl ?_
      refine Ru.op (q := (.iload 4, 2)) (by decide +kernel) rfl ?_
      refine Ru.kI (q := (.iconst (-1), 1)) (c := (-1)) (by decide +kernel) rfl (by decide) ?_
      refine Ru.br2 (k := .eq) (off := 46) (bb := true) (tg := 124) (by decide +kernel) (by decide +kernel) (ci_eq1 g14 (by decide) b15) rfl ?_
      refine Ru.op (q := (.iload 4, 2)) (by decide +kernel) rfl ?_
      cases h
      exact Ru.iret (by decide +kernel) rfl rfl
    · replace h := if_f b15 h
      refine Ru.br2 (k := .eq) (off := 55) (bb := false) (tg := 23) (by decide +kernel) (by decide +kernel) (ci_eq0 g14 (by decide) b15) rfl ?_
      refine Ru.op (q := (.iload_n 1, 1)) (by decide +kernel) rfl ?_
      refine Ru.br (k := .eq) (off := 51) (bb := false) (tg := 27) (by decide +kernel) (by decide +kernel) (cz (ci_eq0 g1 (by decide) b2)) rfl ?_
      refine Ru.op (q := (.aload_n 0, 1)) (by decide +kernel) rfl ?_
      refine Ru.get (i := 21) (v := .ref 7) (by decide +kernel) (by rfl) (hp3 _) (by decide) rfl ?_
      refine Ru.op (q := (.iload 4, 2)) (by decide +kernel) rfl ?_
      refine Ru.op (q := (.aload_n 0, 1)) (by decide +kernel) rfl ?_
      refine Ru.get (i := 21) (v := .ref 7) (by decide +kernel) (by rfl) (hp3 _) (by decide) rfl ?_
      refine Ru.op (q := (.iload_n 2, 1)) (by decide +kernel) rfl ?_
      obtain ⟨g16, h⟩ := gd_some h
      refine Ru.ildI (i := v2) (z := (o12.2.A 7 v2)) (by decide +kernel) (hp7 _) g16 (eI_of _) ?_
      refine Ru.op (q := (.aload_n 0, 1)) (by decide +kernel) rfl ?_
      refine Ru.get (i := 21) (v := .ref 7) (by decide +kernel) (by rfl) (hp3 _) (by decide) rfl ?_
      refine Ru.op (q := (.iload_n 3, 1)) (by decide +kernel) rfl ?_
      obtain ⟨g17, h⟩ := gd_some h
      refine Ru.ildI (i := v3) (z := (o12.2.A 7 v3)) (by decide +kernel) (hp7 _) g17 (eI_of _) ?_
      refine Ru.ar2 (i := .iadd) (z := ((o12.2.A 7 v2) + (o12.2.A 7 v3))) (by decide +kernel) rfl (ar_add _ _) ?_
      obtain ⟨o18, e19, h⟩ := ob_some h
      refine Ru.call (q := (.invokestatic 41, 3)) (j2 := 36) (as := [vI ((o12.2.A 7 v2) + (o12.2.A 7 v3))]) (by decide +kernel) rfl rfl rfl rfl ⟨(Nat.le_of_ble_eq_true rfl), (by show 19 + 1 ≤ 223; exact Nat.le_of_ble_eq_true rfl), Nat.le_of_ble_eq_true rfl, Nat.le_of_ble_eq_true rfl⟩ ((g36_ok e19).up (Nat.le_of_ble_eq_true rfl) (Nat.le_of_ble_eq_true rfl)) ?_
      obtain ⟨g20, h⟩ := gd_some h
      refine Ru.istI (i := o12.1) (x := o18) (by decide +kernel) (hp7 _) g20 (ps_7 _ _ _) ?_
      refine Ru.op (q := (.aload_n 0, 1)) (by decide +kernel) rfl ?_
      refine Ru.get (i := 24) (v := .ref 8) (by decide +kernel) (by rfl) (hp3 _) (by decide) rfl ?_
      refine Ru.op (q := (.iload 4, 2)) (by decide +kernel) rfl ?_
      refine Ru.op (q := (.aload_n 0, 1)) (by decide +kernel) rfl ?_
      refine Ru.get (i := 24) (v := .ref 8) (by decide +kernel) (by rfl) (hp3 _) (by decide) rfl ?_
      refine Ru.op (q := (.iload_n 2, 1)) (by decide +kernel) rfl ?_
      refine Ru.ildI (i := v2) (z := (o12.2.A 8 v2)) (by decide +kernel) (hp8 _) g16 (eI_of _) ?_
      refine Ru.op (q := (.aload_n 0, 1)) (by decide +kernel) rfl ?_
      refine Ru.get (i := 24) (v := .ref 8) (by decide +kernel) (by rfl) (hp3 _) (by decide) rfl ?_
      refine Ru.op (q := (.iload_n 3, 1)) (by decide +kernel) rfl ?_
      refine Ru.ildI (i := v3) (z := (o12.2.A 8 v3)) (by decide +kernel) (hp8 _) g17 (eI_of _) ?_
      refine Ru.maxI (i := 45) (k := (0, 0, 0, 0, 0)) (by decide +kernel) (by rfl) (inR_to _) (inR_to _) (Nat.le_of_ble_eq_true rfl) (by show _ ≤ 223; exact Nat.le_of_ble_eq_true rfl) ?_
      refine Ru.istI (i := o12.1) (x := (max (o12.2.A 8 v2) (o12.2.A 8 v3))) (by decide +kernel) (hp8 _) g20 (ps_8 _ _ _) ?_
      refine Ru.op (q := (.goto 52, 3)) (by decide +kernel) rfl ?_
      refine Ru.op (q := (.iload 4, 2)) (by decide +kernel) rfl ?_
      cases h
      exact Ru.iret (by decide +kernel) rfl rfl
