def g122 (S : St) (v0 : Int) : Option (Int) := gd (inR v0) (if v0 < 4096 then some 1 else some 0)
set_option maxRecDepth 100000 in
set_option maxHeartbeats 4000000 in
theorem g122_ok {S : St} {v0 : Int} {o : Int} (h : g122 S v0 = some o) : Ru none 10 200 122 (0, mn_pad (mn_ent [vI v0]) 1, [], S.ns, Hp S) ((0, some (vI o)), S.ns, Hp S) := by
  unfold g122 at h
  show Ru none 10 200 122 (0, [some (vI v0)], [], S.ns, Hp S) _
  refine Ru.op (q := (.iload_n 0, 1)) (by decide +kernel) rfl ?_
  refine Ru.kI (q := (.sipush 4096, 3)) (c := 4096) (by decide +kernel) rfl (by decide) ?_
  obtain ⟨g1, h⟩ := gd_some h
  by_cases b2 : v0 < 4096
  · replace h := if_t b2 h
    refine Ru.br2 (k := .ge) (off := 7) (bb := false) (tg := 7) (by decide +kernel) (by decide +kernel) (ci_ge0 g1 (by decide) b2) rfl ?_
    refine Ru.kI (q := (.iconst 1, 1)) (c := 1) (by decide +kernel) rfl (by decide) ?_
    refine Ru.op (q := (.goto 4, 3)) (by decide +kernel) rfl ?_
    cases h
    exact Ru.iret (by decide +kernel) rfl (nar_b1 (by decide))
  · replace h := if_f b2 h
    refine Ru.br2 (k := .ge) (off := 7) (bb := true) (tg := 11) (by decide +kernel) (by decide +kernel) (ci_ge1 g1 (by decide) b2) rfl ?_
    refine Ru.kI (q := (.iconst 0, 1)) (c := 0) (by decide +kernel) rfl (by decide) ?_
    cases h
    exact Ru.iret (by decide +kernel) rfl (nar_b1 (by decide))
def g121L2 (S : St) : Nat → Int → Option (Int)
  | 0, _ => none
  | n + 1, v2 => gd (ixR v2 1024) (ob (g122 S (S.A 46 v2)) (fun o2 => gd (inR o2) (if o2 = 0 then some v2 else gd (ixR (S.A 46 v2) 128) (if (S.A 47 (S.A 46 v2)) < 0 then some v2 else g121L2 S n (S.A 47 (S.A 46 v2))))))
set_option maxRecDepth 100000 in
set_option maxHeartbeats 4000000 in
theorem g121L2_ok {S : St} : ∀ (n : Nat) (v2 : Int) (d1 : Option Value) (out : Int), g121L2 S n v2 = some out → ∀ r, (∀ (e0 e1 : Option Value), Ru none 11 220 121 (43, [e0, e1, some (vI out)], [], S.ns, Hp S) r) → Ru none 11 220 121 (2, [some (.ref 36), d1, some (vI v2)], [], S.ns, Hp S) r := by
  intro n
  induction n with
  | zero => intro v2 d1 out h; cases h
  | succ n ih =>
    intro v2 d1 out h r hk
    unfold g121L2 at h
    refine Ru.op (q := (.aload_n 0, 1)) (by decide +kernel) rfl ?_
    refine Ru.get (i := 45) (v := .ref 46) (by decide +kernel) (by rfl) (hp36 _) (by decide) rfl ?_
    refine Ru.op (q := (.iload_n 2, 1)) (by decide +kernel) rfl ?_
    obtain ⟨g1, h⟩ := gd_some h
    refine Ru.ildI (i := v2) (z := (S.A 46 v2)) (by decide +kernel) (hp46 _) g1 (eI_of _) ?_
    obtain ⟨o2, e3, h⟩ := ob_some h
    refine Ru.call (q := (.invokestatic 132, 3)) (j2 := 122) (as := [vI (S.A 46 v2)]) (by decide +kernel) rfl rfl rfl rfl ⟨(Nat.le_of_ble_eq_true rfl), (by show 19 + 1 ≤ 220; exact Nat.le_of_ble_eq_true rfl), Nat.le_of_ble_eq_true rfl, Nat.le_of_ble_eq_true rfl⟩ ((g122_ok e3).up (Nat.le_of_ble_eq_true rfl) (Nat.le_of_ble_eq_true rfl)) ?_
    obtain ⟨g4, h⟩ := gd_some h
    by_cases b5 : o2 = 0
    · replace h := if_t b5 h
      refine Ru.br (k := .eq) (off := 32) (bb := true) (tg := 43) (by decide +kernel) (by decide +kernel) (cz (ci_eq1 g4 (by decide) b5)) rfl ?_
      cases h
      exact hk _ _
    · replace h := if_f b5 h
      refine Ru.br (k := .eq) (off := 32) (bb := false) (tg := 14) (by decide +kernel) (by decide +kernel) (cz (ci_eq0 g4 (by decide) b5)) rfl ?_
      refine Ru.op (q := (.aload_n 0, 1)) (by decide +kernel) rfl ?_
      refine Ru.get (i := 48) (v := .ref 47) (by decide +kernel) (by rfl) (hp36 _) (by decide) rfl ?_
      refine Ru.op (q := (.aload_n 0, 1)) (by decide +kernel) rfl ?_
      refine Ru.get (i := 45) (v := .ref 46) (by decide +kernel) (by rfl) (hp36 _) (by decide) rfl ?_
      refine Ru.op (q := (.iload_n 2, 1)) (by decide +kernel) rfl ?_
      refine Ru.ildI (i := v2) (z := (S.A 46 v2)) (by decide +kernel) (hp46 _) g1 (eI_of _) ?_
      obtain ⟨g6, h⟩ := gd_some h
      refine Ru.ildI (i := (S.A 46 v2)) (z := (S.A 47 (S.A 46 v2))) (by decide +kernel) (hp47 _) g6 (eI_of _) ?_
      by_cases b7 : (S.A 47 (S.A 46 v2)) < 0
      · replace h := if_t b7 h
        refine Ru.br (k := .lt) (off := 18) (bb := true) (tg := 43) (by decide +kernel) (by decide +kernel) (cz (ci_lt1 (inR_to _) (by decide) b7)) rfl ?_
        cases h
        exact hk _ _
      · replace h := if_f b7 h
        refine Ru.br (k := .lt) (off := 18) (bb := false) (tg := 28) (by decide +kernel) (by decide +kernel) (cz (ci_lt0 (inR_to _) (by decide) b7)) rfl ?_
        refine Ru.op (q := (.aload_n 0, 1)) (by decide +kernel) rfl ?_
        refine Ru.get (i := 48) (v := .ref 47) (by decide +kernel) (by rfl) (hp36 _) (by decide) rfl ?_
        refine Ru.op (q := (.aload_n 0, 1)) (by decide +kernel) rfl ?_
        refine Ru.get (i := 45) (v := .ref 46) (by decide +kernel) (by rfl) (hp36 _) (by decide) rfl ?_
        refine Ru.op (q := (.iload_n 2, 1)) (by decide +kernel) rfl ?_
        refine Ru.ildI (i := v2) (z := (S.A 46 v2)) (by decide +kernel) (hp46 _) g1 (eI_of _) ?_
        refine Ru.ildI (i := (S.A 46 v2)) (z := (S.A 47 (S.A 46 v2))) (by decide +kernel) (hp47 _) g6 (eI_of _) ?_
        refine Ru.op (q := (.istore_n 2, 1)) (S' := (40, [some (.ref 36), d1, some (vI (S.A 47 (S.A 46 v2)))], [], _, _)) (by decide +kernel) rfl ?_
        refine Ru.op (q := (.goto (-38), 3)) (by decide +kernel) rfl ?_
        exact ih _ _ _ h r hk
def g121 (S : St) (v1 : Int) : Option (Int) := ob (g121L2 S FU v1) (fun o8 => some o8)
set_option maxRecDepth 100000 in
set_option maxHeartbeats 4000000 in
theorem g121_ok {S : St} {v1 : Int} {o : Int} (h : g121 S v1 = some o) : Ru none 11 220 121 (0, mn_pad (mn_ent [.ref 36, vI v1]) 3, [], S.ns, Hp S) ((0, some (vI o)), S.ns, Hp S) := by
  unfold g121 at h
  show Ru none 11 220 121 (0, [some (.ref 36), some (vI v1), none], [], S.ns, Hp S) _
  refine Ru.op (q := (.iload_n 1, 1)) (by decide +kernel) rfl ?_
  refine Ru.op (q := (.istore_n 2, 1)) (S' := (2, [some (.ref 36), some (vI v1), some (vI v1)], [], _, _)) (by decide +kernel) rfl ?_
  obtain ⟨o8, e11, h⟩ := ob_some h
  refine g121L2_ok FU _ _ _ e11 _ ?_
  intro d9 d10
  refine Ru.op (q := (.iload_n 2, 1)) (by decide +kernel) rfl ?_
  cases h
  exact Ru.iret (by decide +kernel) rfl rfl
def g123 (S : St) (v0 : Int) : Option (Int) := ob (g122 S v0) (fun o1 => gd (inR o1) (if o1 = 0 then gd (dvR v0 128) (some (v0 % 128)) else some 0))
set_option maxRecDepth 100000 in
set_option maxHeartbeats 4000000 in
theorem g123_ok {S : St} {v0 : Int} {o : Int} (h : g123 S v0 = some o) : Ru none 11 220 123 (0, mn_pad (mn_ent [vI v0]) 1, [], S.ns, Hp S) ((0, some (vI o)), S.ns, Hp S) := by
  unfold g123 at h
  show Ru none 11 220 123 (0, [some (vI v0)], [], S.ns, Hp S) _
  refine Ru.op (q := (.iload_n 0, 1)) (by decide +kernel) rfl ?_
  obtain ⟨o1, e2, h⟩ := ob_some h
  refine Ru.call (q := (.invokestatic 132, 3)) (j2 := 122) (as := [vI v0]) (by decide +kernel) rfl rfl rfl rfl ⟨(Nat.le_of_ble_eq_true rfl), (by show 19 + 1 ≤ 220; exact Nat.le_of_ble_eq_true rfl), Nat.le_of_ble_eq_true rfl, Nat.le_of_ble_eq_true rfl⟩ ((g122_ok e2).up (Nat.le_of_ble_eq_true rfl) (Nat.le_of_ble_eq_true rfl)) ?_
  obtain ⟨g3, h⟩ := gd_some h
  by_cases b4 : o1 = 0
  · replace h := if_t b4 h
    refine Ru.br (k := .eq) (off := 7) (bb := true) (tg := 11) (by decide +kernel) (by decide +kernel) (cz (ci_eq1 g3 (by decide) b4)) rfl ?_
    refine Ru.op (q := (.iload_n 0, 1)) (by decide +kernel) rfl ?_
    refine Ru.kI (q := (.sipush 128, 3)) (c := 128) (by decide +kernel) rfl (by decide) ?_
    obtain ⟨g5, h⟩ := gd_some h
    refine Ru.ar2 (i := .irem) (z := (v0 % 128)) (by decide +kernel) rfl (ar_rem g5) ?_
    cases h
    exact Ru.iret (by decide +kernel) rfl rfl
  · replace h := if_f b4 h
    refine Ru.br (k := .eq) (off := 7) (bb := false) (tg := 7) (by decide +kernel) (by decide +kernel) (cz (ci_eq0 g3 (by decide) b4)) rfl ?_
    refine Ru.kI (q := (.iconst 0, 1)) (c := 0) (by decide +kernel) rfl (by decide) ?_
    refine Ru.op (q := (.goto 8, 3)) (by decide +kernel) rfl ?_
    cases h
    exact Ru.iret (by decide +kernel) rfl rfl
def g125L4 (S : St) (v0 : Nat) : Nat → Int → Int → Option (Int)
  | 0, _, _ => none
  | n + 1, v2, v3 => gd (inR v2) (if 0 < v2 then gA S v0 (fun N3 f4 => gd (ixR v3 N3) (ob (g123 S (f4 v3)) (fun o8 => g125L4 S v0 n ((v2 - 1) + o8) (v3 + 1)))) else some v3)
set_option maxRecDepth 100000 in
set_option maxHeartbeats 4000000 in
theorem g125L4_ok {S : St} {v0 : Nat} : ∀ (n : Nat) (v2 : Int) (v3 : Int) (d1 : Option Value) (out : Int), g125L4 S v0 n v2 v3 = some out → ∀ r, (∀ (e0 e1 e2 : Option Value), Ru none 12 240 125 (25, [e0, e1, e2, some (vI out)], [], S.ns, Hp S) r) → Ru none 12 240 125 (4, [some (.ref v0), d1, some (vI v2), some (vI v3)], [], S.ns, Hp S) r := by
  intro n
  induction n with
  | zero => intro v2 v3 d1 out h; cases h
  | succ n ih =>
    intro v2 v3 d1 out h r hk
    unfold g125L4 at h
    refine Ru.op (q := (.iload_n 2, 1)) (by decide +kernel) rfl ?_
    obtain ⟨g1, h⟩ := gd_some h
    by_cases b2 : 0 < v2
    · replace h := if_t b2 h
      refine Ru.br (k := .le) (off := 20) (bb := false) (tg := 8) (by decide +kernel) (by decide +kernel) (cz (ci_le0 g1 (by decide) b2)) rfl ?_
      refine Ru.op (q := (.iload_n 2, 1)) (by decide +kernel) rfl ?_
      refine Ru.kI (q := (.iconst 1, 1)) (c := 1) (by decide +kernel) rfl (by decide) ?_
      refine Ru.ar2 (i := .isub) (z := (v2 - 1)) (by decide +kernel) rfl (ar_sub _ _) ?_
      refine Ru.op (q := (.aload_n 0, 1)) (by decide +kernel) rfl ?_
      refine Ru.op (q := (.iload_n 3, 1)) (by decide +kernel) rfl ?_
      obtain ⟨N3, f4, e5, q6, h⟩ := gA_some h
      obtain ⟨g7, h⟩ := gd_some h
      refine Ru.ildI (i := v3) (z := (f4 v3)) (by decide +kernel) q6 g7 rfl ?_
      obtain ⟨o8, e9, h⟩ := ob_some h
      refine Ru.call (q := (.invokestatic 136, 3)) (j2 := 123) (as := [vI (f4 v3)]) (by decide +kernel) rfl rfl rfl rfl ⟨(Nat.le_of_ble_eq_true rfl), (by show 19 + 1 ≤ 240; exact Nat.le_of_ble_eq_true rfl), Nat.le_of_ble_eq_true rfl, Nat.le_of_ble_eq_true rfl⟩ ((g123_ok e9).up (Nat.le_of_ble_eq_true rfl) (Nat.le_of_ble_eq_true rfl)) ?_
      refine Ru.ar2 (i := .iadd) (z := ((v2 - 1) + o8)) (by decide +kernel) rfl (ar_add _ _) ?_
      refine Ru.op (q := (.istore_n 2, 1)) (S' := (19, [some (.ref v0), d1, some (vI ((v2 - 1) + o8)), some (vI v3)], [], _, _)) (by decide +kernel) rfl ?_
      refine Ru.inc (x := v3) (z := (v3 + 1)) (xs' := [some (.ref v0), d1, some (vI ((v2 - 1) + o8)), some (vI (v3 + 1))]) (by decide +kernel) rfl rfl rfl ?_
      refine Ru.op (q := (.goto (-18), 3)) (by decide +kernel) rfl ?_
      exact ih _ _ _ _ h r hk
    · replace h := if_f b2 h
      refine Ru.br (k := .le) (off := 20) (bb := true) (tg := 25) (by decide +kernel) (by decide +kernel) (cz (ci_le1 g1 (by decide) b2)) rfl ?_
      cases h
      exact hk _ _ _
def g125 (S : St) (v0 : Nat) (v1 : Int) : Option (Int) := ob (g125L4 S v0 FU 1 v1) (fun o10 => some o10)
set_option maxRecDepth 100000 in
set_option maxHeartbeats 4000000 in
theorem g125_ok {S : St} {v0 : Nat} {v1 : Int} {o : Int} (h : g125 S v0 v1 = some o) : Ru none 12 240 125 (0, mn_pad (mn_ent [.ref v0, vI v1]) 4, [], S.ns, Hp S) ((0, some (vI o)), S.ns, Hp S) := by
  unfold g125 at h
  show Ru none 12 240 125 (0, [some (.ref v0), some (vI v1), none, none], [], S.ns, Hp S) _
  refine Ru.kI (q := (.iconst 1, 1)) (c := 1) (by decide +kernel) rfl (by decide) ?_
  refine Ru.op (q := (.istore_n 2, 1)) (S' := (2, [some (.ref v0), some (vI v1), some (vI 1), none], [], _, _)) (by decide +kernel) rfl ?_
  refine Ru.op (q := (.iload_n 1, 1)) (by decide +kernel) rfl ?_
  refine Ru.op (q := (.istore_n 3, 1)) (S' := (4, [some (.ref v0), some (vI v1), some (vI 1), some (vI v1)], [], _, _)) (by decide +kernel) rfl ?_
  obtain ⟨o10, e14, h⟩ := ob_some h
  refine g125L4_ok FU _ _ _ _ e14 _ ?_
  intro d11 d12 d13
  refine Ru.op (q := (.iload_n 3, 1)) (by decide +kernel) rfl ?_
  cases h
  exact Ru.iret (by decide +kernel) rfl rfl
def g124L7 (S : St) (v2 : Int) : Nat → Int → Int → Option (Int)
  | 0, _, _ => none
  | n + 1, v3, v4 => gd (inR v4) (gd (inR v2) (if v4 < v2 then ob (g125 S 46 v3) (fun o4 => g124L7 S v2 n o4 (v4 + 1)) else some v3))
set_option maxRecDepth 100000 in
set_option maxHeartbeats 4000000 in
theorem g124L7_ok {S : St} {v2 : Int} : ∀ (n : Nat) (v3 : Int) (v4 : Int) (d1 : Option Value) (out : Int), g124L7 S v2 n v3 v4 = some out → ∀ r, (∀ (e0 e1 e2 e4 : Option Value), Ru none 13 263 124 (28, [e0, e1, e2, some (vI out), e4], [], S.ns, Hp S) r) → Ru none 13 263 124 (7, [some (.ref 36), d1, some (vI v2), some (vI v3), some (vI v4)], [], S.ns, Hp S) r := by
  intro n
  induction n with
  | zero => intro v3 v4 d1 out h; cases h
  | succ n ih =>
    intro v3 v4 d1 out h r hk
    unfold g124L7 at h
    refine Ru.op (q := (.iload 4, 2)) (by decide +kernel) rfl ?_
    refine Ru.op (q := (.iload_n 2, 1)) (by decide +kernel) rfl ?_
    obtain ⟨g1, h⟩ := gd_some h
    obtain ⟨g2, h⟩ := gd_some h
    by_cases b3 : v4 < v2
    · replace h := if_t b3 h
      refine Ru.br2 (k := .ge) (off := 18) (bb := false) (tg := 13) (by decide +kernel) (by decide +kernel) (ci_ge0 g1 g2 b3) rfl ?_
      refine Ru.op (q := (.aload_n 0, 1)) (by decide +kernel) rfl ?_
      refine Ru.get (i := 45) (v := .ref 46) (by decide +kernel) (by rfl) (hp36 _) (by decide) rfl ?_
      refine Ru.op (q := (.iload_n 3, 1)) (by decide +kernel) rfl ?_
      obtain ⟨o4, e5, h⟩ := ob_some h
      refine Ru.call (q := (.invokestatic 233, 3)) (j2 := 125) (as := [.ref 46, vI v3]) (by decide +kernel) rfl rfl rfl rfl ⟨(Nat.le_of_ble_eq_true rfl), (by show 19 + 4 ≤ 263; exact Nat.le_of_ble_eq_true rfl), Nat.le_of_ble_eq_true rfl, Nat.le_of_ble_eq_true rfl⟩ ((g125_ok e5).up (Nat.le_of_ble_eq_true rfl) (Nat.le_of_ble_eq_true rfl)) ?_
      refine Ru.op (q := (.istore_n 3, 1)) (S' := (22, [some (.ref 36), d1, some (vI v2), some (vI o4), some (vI v4)], [], _, _)) (by decide +kernel) rfl ?_
      refine Ru.inc (x := v4) (z := (v4 + 1)) (xs' := [some (.ref 36), d1, some (vI v2), some (vI o4), some (vI (v4 + 1))]) (by decide +kernel) rfl rfl rfl ?_
      refine Ru.op (q := (.goto (-18), 3)) (by decide +kernel) rfl ?_
      exact ih _ _ _ _ h r hk
    · replace h := if_f b3 h
      refine Ru.br2 (k := .ge) (off := 18) (bb := true) (tg := 28) (by decide +kernel) (by decide +kernel) (ci_ge1 g1 g2 b3) rfl ?_
      cases h
      exact hk _ _ _ _
def g124 (S : St) (v1 : Int) (v2 : Int) : Option (Int) := ob (g124L7 S v2 FU (v1 + 1) 0) (fun o6 => some o6)
set_option maxRecDepth 100000 in
set_option maxHeartbeats 4000000 in
theorem g124_ok {S : St} {v1 : Int} {v2 : Int} {o : Int} (h : g124 S v1 v2 = some o) : Ru none 13 263 124 (0, mn_pad (mn_ent [.ref 36, vI v1, vI v2]) 5, [], S.ns, Hp S) ((0, some (vI o)), S.ns, Hp S) := by
  unfold g124 at h
  show Ru none 13 263 124 (0, [some (.ref 36), some (vI v1), some (vI v2), none, none], [], S.ns, Hp S) _
  refine Ru.op (q := (.iload_n 1, 1)) (by decide +kernel) rfl ?_
  refine Ru.kI (q := (.iconst 1, 1)) (c := 1) (by decide +kernel) rfl (by decide) ?_
  refine Ru.ar2 (i := .iadd) (z := (v1 + 1)) (by decide +kernel) rfl (ar_add _ _) ?_
  refine Ru.op (q := (.istore_n 3, 1)) (S' := (4, [some (.ref 36), some (vI v1), some (vI v2), some (vI (v1 + 1)), none], [], _, _)) (by decide +kernel) rfl ?_
  refine Ru.kI (q := (.iconst 0, 1)) (c := 0) (by decide +kernel) rfl (by decide) ?_
  refine Ru.op (q := (.istore 4, 2)) (S' := (7, [some (.ref 36), some (vI v1), some (vI v2), some (vI (v1 + 1)), some (vI 0)], [], _, _)) (by decide +kernel) rfl ?_
  obtain ⟨o6, e11, h⟩ := ob_some h
  refine g124L7_ok FU _ _ _ _ e11 _ ?_
  intro d7 d8 d9 d10
  refine Ru.op (q := (.iload_n 3, 1)) (by decide +kernel) rfl ?_
  cases h
  exact Ru.iret (by decide +kernel) rfl rfl
def g120L85 (v3 : Int) (v4 : Int) (v6 : Int) : Nat → Int → Int → St → Option (Int × St)
  | 0, _, _, _ => none
  | n + 1, v5, v8, S => gd (inR v8) (if v8 < 0 then some (v5, S) else ob (g124 S v6 v8) (fun o15 => gd (ixR (v5 + 1) 640) (g120L85 v3 v4 v6 n (v5 + 1) (v8 + (-1)) (S.a 65 (v5 + 1) o15))))
set_option maxRecDepth 100000 in
set_option maxHeartbeats 4000000 in
theorem g120L85_ok {v3 : Int} {v4 : Int} {v6 : Int} : ∀ (n : Nat) (v5 : Int) (v8 : Int) (S : St) (d1 d2 d7 : Option Value) (out : Int × St), g120L85 v3 v4 v6 n v5 v8 S = some out → ∀ r, (∀ (e1 e2 e6 e7 e8 : Option Value), Ru none 14 287 120 (114, [some (.ref 36), e1, e2, some (vI v3), some (vI v4), some (vI out.1), e6, e7, e8], [], out.2.ns, Hp out.2) r) → Ru none 14 287 120 (85, [some (.ref 36), d1, d2, some (vI v3), some (vI v4), some (vI v5), some (vI v6), d7, some (vI v8)], [], S.ns, Hp S) r := by
  intro n
  induction n with
  | zero => intro v5 v8 S d1 d2 d7 out h; cases h
  | succ n ih =>
    intro v5 v8 S d1 d2 d7 out h r hk
    unfold g120L85 at h
    refine Ru.op (q := (.iload 8, 2)) (by decide +kernel) rfl ?_
    obtain ⟨g13, h⟩ := gd_some h
    by_cases b14 : v8 < 0
    · replace h := if_t b14 h
      refine Ru.br (k := .lt) (off := 27) (bb := true) (tg := 114) (by decide +kernel) (by decide +kernel) (cz (ci_lt1 g13 (by decide) b14)) rfl ?_
      cases h
      exact hk _ _ _ _ _
    · replace h := if_f b14 h
      refine Ru.br (k := .lt) (off := 27) (bb := false) (tg := 90) (by decide +kernel) (by decide +kernel) (cz (ci_lt0 g13 (by decide) b14)) rfl ?_
      refine Ru.inc (x := v5) (z := (v5 + 1)) (xs' := [some (.ref 36), d1, d2, some (vI v3), some (vI v4), some (vI (v5 + 1)), some (vI v6), d7, some (vI v8)]) (by decide +kernel) rfl rfl rfl ?_
      refine Ru.op (q := (.aload_n 0, 1)) (by decide +kernel) rfl ?_
      refine Ru.get (i := 102) (v := .ref 65) (by decide +kernel) (by rfl) (hp36 _) (by decide) rfl ?_
      refine Ru.op (q := (.iload 5, 2)) (by decide +kernel) rfl ?_
      refine Ru.op (q := (.aload_n 0, 1)) (by decide +kernel) rfl ?_
      refine Ru.op (q := (.iload 6, 2)) (by decide +kernel) rfl ?_
      refine Ru.op (q := (.iload 8, 2)) (by decide +kernel) rfl ?_
      obtain ⟨o15, e16, h⟩ := ob_some h
      refine Ru.vcall (i := 240) (j2 := 124) (as := [vI v6, vI v8]) (by decide +kernel) (by rfl) rfl rfl (hp36 _) (by decide) ⟨(Nat.le_of_ble_eq_true rfl), (by show 19 + 5 ≤ 287; exact Nat.le_of_ble_eq_true rfl), Nat.le_of_ble_eq_true rfl, Nat.le_of_ble_eq_true rfl⟩ ((g124_ok e16).up (Nat.le_of_ble_eq_true rfl) (Nat.le_of_ble_eq_true rfl)) ?_
      obtain ⟨g17, h⟩ := gd_some h
      refine Ru.istI (i := (v5 + 1)) (x := o15) (by decide +kernel) (hp65 _) g17 (ps_65 _ _ _) ?_
      refine Ru.inc (x := v8) (z := (v8 + (-1))) (xs' := [some (.ref 36), d1, d2, some (vI v3), some (vI v4), some (vI (v5 + 1)), some (vI v6), d7, some (vI (v8 + (-1)))]) (by decide +kernel) rfl rfl rfl ?_
      refine Ru.op (q := (.goto (-26), 3)) (by decide +kernel) rfl ?_
      exact ih _ _ _ _ _ _ _ h r hk
def g120L13 (v3 : Int) : Nat → Int → Int → St → Option (Sum (Int × St) (Int × St))
  | 0, _, _, _ => none
  | n + 1, v4, v5, S => gd (inR v5) (if v5 < 0 then some (.inl (v4, S)) else gd (ixR v5 640) (ob (g121 S (S.A 65 v5)) (fun o28 => gd (ixR o28 1024) (ob (g123 S (S.A 46 o28)) (fun o31 => gd (inR (((v4 + v5) + 1) + o31)) (gd (inR v3) (if v3 < (((v4 + v5) + 1) + o31) then some (.inr ((-1), S)) else gd (ixR v4 8032) (ob (g120L85 v3 (v4 + 1) o28 FU (v5 + (-1)) (o31 - 1) (S.a 38 v4 (S.A 46 o28))) (fun o37 => g120L13 v3 n (v4 + 1) o37.1 o37.2)))))))))
set_option maxRecDepth 100000 in
set_option maxHeartbeats 4000000 in
theorem g120L13_ok {v3 : Int} : ∀ (n : Nat) (v4 : Int) (v5 : Int) (S : St) (d1 d2 d6 d7 d8 : Option Value) (out : Sum (Int × St) (Int × St)), g120L13 v3 n v4 v5 S = some out → ∀ r, (∀ o, out = .inl o → ∀ (e0 e1 e2 e3 e5 e6 e7 e8 : Option Value), Ru none 14 287 120 (117, [e0, e1, e2, e3, some (vI o.1), e5, e6, e7, e8], [], o.2.ns, Hp o.2) r) → (∀ o, out = .inr o → r = ((0, some (vI o.1)), o.2.ns, Hp o.2)) → Ru none 14 287 120 (13, [some (.ref 36), d1, d2, some (vI v3), some (vI v4), some (vI v5), d6, d7, d8], [], S.ns, Hp S) r := by
  intro n
  induction n with
  | zero => intro v4 v5 S d1 d2 d6 d7 d8 out h; cases h
  | succ n ih =>
    intro v4 v5 S d1 d2 d6 d7 d8 out h r hk hr
    unfold g120L13 at h
    refine Ru.op (q := (.iload 5, 2)) (by decide +kernel) rfl ?_
    obtain ⟨g25, h⟩ := gd_some h
    by_cases b26 : v5 < 0
    · replace h := if_t b26 h
      refine Ru.br (k := .lt) (off := 102) (bb := true) (tg := 117) (by decide +kernel) (by decide +kernel) (cz (ci_lt1 g25 (by decide) b26)) rfl ?_
      cases h
      exact hk _ rfl _ _ _ _ _ _ _ _
    · replace h := if_f b26 h
      refine Ru.br (k := .lt) (off := 102) (bb := false) (tg := 18) (by decide +kernel) (by decide +kernel) (cz (ci_lt0 g25 (by decide) b26)) rfl ?_
      refine Ru.op (q := (.aload_n 0, 1)) (by decide +kernel) rfl ?_
      refine Ru.op (q := (.aload_n 0, 1)) (by decide +kernel) rfl ?_
      refine Ru.get (i := 102) (v := .ref 65) (by decide +kernel) (by rfl) (hp36 _) (by decide) rfl ?_
      refine Ru.op (q := (.iload 5, 2)) (by decide +kernel) rfl ?_
      obtain ⟨g27, h⟩ := gd_some h
      refine Ru.ildI (i := v5) (z := (S.A 65 v5)) (by decide +kernel) (hp65 _) g27 (eI_of _) ?_
      obtain ⟨o28, e29, h⟩ := ob_some h
      refine Ru.vcall (i := 237) (j2 := 121) (as := [vI (S.A 65 v5)]) (by decide +kernel) (by rfl) rfl rfl (hp36 _) (by decide) ⟨(Nat.le_of_ble_eq_true rfl), (by show 19 + 3 ≤ 287; exact Nat.le_of_ble_eq_true rfl), Nat.le_of_ble_eq_true rfl, Nat.le_of_ble_eq_true rfl⟩ ((g121_ok e29).up (Nat.le_of_ble_eq_true rfl) (Nat.le_of_ble_eq_true rfl)) ?_
      refine Ru.op (q := (.istore 6, 2)) (S' := (31, [some (.ref 36), d1, d2, some (vI v3), some (vI v4), some (vI v5), some (vI o28), d7, d8], [], _, _)) (by decide +kernel) rfl ?_
      refine Ru.op (q := (.aload_n 0, 1)) (by decide +kernel) rfl ?_
      refine Ru.get (i := 45) (v := .ref 46) (by decide +kernel) (by rfl) (hp36 _) (by decide) rfl ?_
      refine Ru.op (q := (.iload 6, 2)) (by decide +kernel) rfl ?_
      obtain ⟨g30, h⟩ := gd_some h
      refine Ru.ildI (i := o28) (z := (S.A 46 o28)) (by decide +kernel) (hp46 _) g30 (eI_of _) ?_
      obtain ⟨o31, e32, h⟩ := ob_some h
      refine Ru.call (q := (.invokestatic 136, 3)) (j2 := 123) (as := [vI (S.A 46 o28)]) (by decide +kernel) rfl rfl rfl rfl ⟨(Nat.le_of_ble_eq_true rfl), (by show 19 + 1 ≤ 287; exact Nat.le_of_ble_eq_true rfl), Nat.le_of_ble_eq_true rfl, Nat.le_of_ble_eq_true rfl⟩ ((g123_ok e32).up (Nat.le_of_ble_eq_true rfl) (Nat.le_of_ble_eq_true rfl)) ?_
      refine Ru.op (q := (.istore 7, 2)) (S' := (43, [some (.ref 36), d1, d2, some (vI v3), some (vI v4), some (vI v5), some (vI o28), some (vI o31), d8], [], _, _)) (by decide +kernel) rfl ?_
      refine Ru.op (q := (.iload 4, 2)) (by decide +kernel) rfl ?_
      refine Ru.op (q := (.iload 5, 2)) (by decide +kernel) rfl ?_
      refine Ru.ar2 (i := .iadd) (z := (v4 + v5)) (by decide +kernel) rfl (ar_add _ _) ?_
      refine Ru.kI (q := (.iconst 1, 1)) (c := 1) (by decide +kernel) rfl (by decide) ?_
      refine Ru.ar2 (i := .iadd) (z := ((v4 + v5) + 1)) (by decide +kernel) rfl (ar_add _ _) ?_
      refine Ru.op (q := (.iload 7, 2)) (by decide +kernel) rfl ?_
      refine Ru.ar2 (i := .iadd) (z := (((v4 + v5) + 1) + o31)) (by decide +kernel) rfl (ar_add _ _) ?_
      refine Ru.op (q := (.iload_n 3, 1)) (by decide +kernel) rfl ?_
      obtain ⟨g33, h⟩ := gd_some h
      obtain ⟨g34, h⟩ := gd_some h
      by_cases b35 : v3 < (((v4 + v5) + 1) + o31)
      · replace h := if_t b35 h
        refine Ru.br2 (k := .le) (off := 5) (bb := false) (tg := 57) (by decide +kernel) (by decide +kernel) (ci_le0 g33 g34 b35) rfl ?_
        refine Ru.kI (q := (.iconst (-1), 1)) (c := (-1)) (by decide +kernel) rfl (by decide) ?_
        cases h
        have h9 := hr _ rfl
        subst h9
        exact Ru.iret (by decide +kernel) rfl rfl
      · replace h := if_f b35 h
        refine Ru.br2 (k := .le) (off := 5) (bb := true) (tg := 59) (by decide +kernel) (by decide +kernel) (ci_le1 g33 g34 b35) rfl ?_
        refine Ru.inc (x := v5) (z := (v5 + (-1))) (xs' := [some (.ref 36), d1, d2, some (vI v3), some (vI v4), some (vI (v5 + (-1))), some (vI o28), some (vI o31), d8]) (by decide +kernel) rfl rfl rfl ?_
        refine Ru.op (q := (.aload_n 0, 1)) (by decide +kernel) rfl ?_
        refine Ru.get (i := 17) (v := .ref 38) (by decide +kernel) (by rfl) (hp36 _) (by decide) rfl ?_
        refine Ru.op (q := (.iload 4, 2)) (by decide +kernel) rfl ?_
        refine Ru.op (q := (.aload_n 0, 1)) (by decide +kernel) rfl ?_
        refine Ru.get (i := 45) (v := .ref 46) (by decide +kernel) (by rfl) (hp36 _) (by decide) rfl ?_
        refine Ru.op (q := (.iload 6, 2)) (by decide +kernel) rfl ?_
        refine Ru.ildI (i := o28) (z := (S.A 46 o28)) (by decide +kernel) (hp46 _) g30 (eI_of _) ?_
        obtain ⟨g36, h⟩ := gd_some h
        refine Ru.istI (i := v4) (x := (S.A 46 o28)) (by decide +kernel) (hp38 _) g36 (ps_38 _ _ _) ?_
        refine Ru.inc (x := v4) (z := (v4 + 1)) (xs' := [some (.ref 36), d1, d2, some (vI v3), some (vI (v4 + 1)), some (vI (v5 + (-1))), some (vI o28), some (vI o31), d8]) (by decide +kernel) rfl rfl rfl ?_
        refine Ru.op (q := (.iload 7, 2)) (by decide +kernel) rfl ?_
        refine Ru.kI (q := (.iconst 1, 1)) (c := 1) (by decide +kernel) rfl (by decide) ?_
        refine Ru.ar2 (i := .isub) (z := (o31 - 1)) (by decide +kernel) rfl (ar_sub _ _) ?_
        refine Ru.op (q := (.istore 8, 2)) (S' := (85, [some (.ref 36), d1, d2, some (vI v3), some (vI (v4 + 1)), some (vI (v5 + (-1))), some (vI o28), some (vI o31), some (vI (o31 - 1))], [], _, _)) (by decide +kernel) rfl ?_
        obtain ⟨o37, e43, h⟩ := ob_some h
        refine g120L85_ok FU _ _ _ _ _ _ _ e43 _ ?_
        intro d38 d39 d40 d41 d42
        refine Ru.op (q := (.goto (-101), 3)) (by decide +kernel) rfl ?_
        exact ih _ _ _ _ _ _ _ _ _ h r hk hr
def g120 (S : St) (v1 : Int) (v2 : Int) (v3 : Int) : Option (Int × St) := obr (g120L13 v3 FU v2 0 (S.a 65 0 v1)) (fun o44 => some (o44.1, o44.2))
set_option maxRecDepth 100000 in
set_option maxHeartbeats 4000000 in
theorem g120_ok {S : St} {v1 : Int} {v2 : Int} {v3 : Int} {o : Int × St} (h : g120 S v1 v2 v3 = some o) : Ru none 14 287 120 (0, mn_pad (mn_ent [.ref 36, vI v1, vI v2, vI v3]) 9, [], S.ns, Hp S) ((0, some (vI o.1)), o.2.ns, Hp o.2) := by
  unfold g120 at h
  show Ru none 14 287 120 (0, [some (.ref 36), some (vI v1), some (vI v2), some (vI v3), none, none, none, none, none], [], S.ns, Hp S) _
  refine Ru.op (q := (.iload_n 2, 1)) (by decide +kernel) rfl ?_
  refine Ru.op (q := (.istore 4, 2)) (S' := (3, [some (.ref 36), some (vI v1), some (vI v2), some (vI v3), some (vI v2), none, none, none, none], [], _, _)) (by decide +kernel) rfl ?_
  refine Ru.kI (q := (.iconst 0, 1)) (c := 0) (by decide +kernel) rfl (by decide) ?_
  refine Ru.op (q := (.istore 5, 2)) (S' := (6, [some (.ref 36), some (vI v1), some (vI v2), some (vI v3), some (vI v2), some (vI 0), none, none, none], [], _, _)) (by decide +kernel) rfl ?_
  refine Ru.op (q := (.aload_n 0, 1)) (by decide +kernel) rfl ?_
  refine Ru.get (i := 102) (v := .ref 65) (by decide +kernel) (by rfl) (hp36 _) (by decide) rfl ?_
  refine Ru.kI (q := (.iconst 0, 1)) (c := 0) (by decide +kernel) rfl (by decide) ?_
  refine Ru.op (q := (.iload_n 1, 1)) (by decide +kernel) rfl ?_
  refine Ru.istI (i := 0) (x := v1) (by decide +kernel) (hp65 _) (by decide) (ps_65 _ _ _) ?_
  rcases obr_some h with ⟨o44, e53, h⟩ | e53
  · refine g120L13_ok FU _ _ _ _ _ _ _ _ _ e53 _ (fun o' e' => ?_) (fun o' e' => by cases e')
    cases e'
    intro d45 d46 d47 d48 d49 d50 d51 d52
    refine Ru.op (q := (.iload 4, 2)) (by decide +kernel) rfl ?_
    cases h
    exact Ru.iret (by decide +kernel) rfl rfl
  · exact g120L13_ok FU _ _ _ _ _ _ _ _ _ e53 _ (fun o' e' => by cases e') (fun o' e' => by cases e'; rfl)
def g126L33 (S : St) (v3 : Int) (v4 : Int) (v5 : Int) : Nat → Int → Int → Option (Int)
  | 0, _, _ => none
  | n + 1, v6, v7 => gd (inR v7) (gd (inR v5) (if v7 < v5 then gd (inR v6) (if v6 = 0 then some v6 else gd (ixR (v3 + v7) 8032) (gd (ixR (v4 + v7) 8032) (if (S.A 38 (v3 + v7)) = (S.A 38 (v4 + v7)) then g126L33 S v3 v4 v5 n 1 (v7 + 1) else g126L33 S v3 v4 v5 n 0 (v7 + 1)))) else some v6))
set_option maxRecDepth 100000 in
set_option maxHeartbeats 4000000 in
theorem g126L33_ok {S : St} {v3 : Int} {v4 : Int} {v5 : Int} : ∀ (n : Nat) (v6 : Int) (v7 : Int) (d1 d2 : Option Value) (out : Int), g126L33 S v3 v4 v5 n v6 v7 = some out → ∀ r, (∀ (e0 e1 e2 e3 e4 e5 e7 : Option Value), Ru none 13 263 126 (80, [e0, e1, e2, e3, e4, e5, some (vI out), e7], [], S.ns, Hp S) r) → Ru none 13 263 126 (33, [some (.ref 36), d1, d2, some (vI v3), some (vI v4), some (vI v5), some (vI v6), some (vI v7)], [], S.ns, Hp S) r := by
  intro n
  induction n with
  | zero => intro v6 v7 d1 d2 out h; cases h
  | succ n ih =>
    intro v6 v7 d1 d2 out h r hk
    unfold g126L33 at h
    refine Ru.op (q := (.iload 7, 2)) (by decide +kernel) rfl ?_
    refine Ru.op (q := (.iload 5, 2)) (by decide +kernel) rfl ?_
    obtain ⟨g5, h⟩ := gd_some h
    obtain ⟨g6, h⟩ := gd_some h
    by_cases b7 : v7 < v5
    · replace h := if_t b7 h
      refine Ru.br2 (k := .ge) (off := 43) (bb := false) (tg := 40) (by decide +kernel) (by decide +kernel) (ci_ge0 g5 g6 b7) rfl ?_
      refine Ru.op (q := (.iload 6, 2)) (by decide +kernel) rfl ?_
      obtain ⟨g8, h⟩ := gd_some h
      by_cases b9 : v6 = 0
      · replace h := if_t b9 h
        refine Ru.br (k := .eq) (off := 38) (bb := true) (tg := 80) (by decide +kernel) (by decide +kernel) (cz (ci_eq1 g8 (by decide) b9)) rfl ?_
        cases h
        exact hk _ _ _ _ _ _ _
      · replace h := if_f b9 h
        refine Ru.br (k := .eq) (off := 38) (bb := false) (tg := 45) (by decide +kernel) (by decide +kernel) (cz (ci_eq0 g8 (by decide) b9)) rfl ?_
        refine Ru.op (q := (.aload_n 0, 1)) (by decide +kernel) rfl ?_
        refine Ru.get (i := 17) (v := .ref 38) (by decide +kernel) (by rfl) (hp36 _) (by decide) rfl ?_
        refine Ru.op (q := (.iload_n 3, 1)) (by decide +kernel) rfl ?_
        refine Ru.op (q := (.iload 7, 2)) (by decide +kernel) rfl ?_
        refine Ru.ar2 (i := .iadd) (z := (v3 + v7)) (by decide +kernel) rfl (ar_add _ _) ?_
        obtain ⟨g10, h⟩ := gd_some h
        refine Ru.ildI (i := (v3 + v7)) (z := (S.A 38 (v3 + v7))) (by decide +kernel) (hp38 _) g10 (eI_of _) ?_
        refine Ru.op (q := (.aload_n 0, 1)) (by decide +kernel) rfl ?_
        refine Ru.get (i := 17) (v := .ref 38) (by decide +kernel) (by rfl) (hp36 _) (by decide) rfl ?_
        refine Ru.op (q := (.iload 4, 2)) (by decide +kernel) rfl ?_
        refine Ru.op (q := (.iload 7, 2)) (by decide +kernel) rfl ?_
        refine Ru.ar2 (i := .iadd) (z := (v4 + v7)) (by decide +kernel) rfl (ar_add _ _) ?_
        obtain ⟨g11, h⟩ := gd_some h
        refine Ru.ildI (i := (v4 + v7)) (z := (S.A 38 (v4 + v7))) (by decide +kernel) (hp38 _) g11 (eI_of _) ?_
        by_cases b12 : (S.A 38 (v3 + v7)) = (S.A 38 (v4 + v7))
        · replace h := if_t b12 h
          refine Ru.br2 (k := .ne) (off := 7) (bb := false) (tg := 67) (by decide +kernel) (by decide +kernel) (ci_ne0 (inR_to _) (inR_to _) b12) rfl ?_
          refine Ru.kI (q := (.iconst 1, 1)) (c := 1) (by decide +kernel) rfl (by decide) ?_
          refine Ru.op (q := (.goto 4, 3)) (by decide +kernel) rfl ?_
          refine Ru.op (q := (.istore 6, 2)) (S' := (74, [some (.ref 36), d1, d2, some (vI v3), some (vI v4), some (vI v5), some (vI 1), some (vI v7)], [], _, _)) (by decide +kernel) rfl ?_
          refine Ru.inc (x := v7) (z := (v7 + 1)) (xs' := [some (.ref 36), d1, d2, some (vI v3), some (vI v4), some (vI v5), some (vI 1), some (vI (v7 + 1))]) (by decide +kernel) rfl rfl rfl ?_
          refine Ru.op (q := (.goto (-44), 3)) (by decide +kernel) rfl ?_
          exact ih _ _ _ _ _ h r hk
        · replace h := if_f b12 h
          refine Ru.br2 (k := .ne) (off := 7) (bb := true) (tg := 71) (by decide +kernel) (by decide +kernel) (ci_ne1 (inR_to _) (inR_to _) b12) rfl ?_
          refine Ru.kI (q := (.iconst 0, 1)) (c := 0) (by decide +kernel) rfl (by decide) ?_
          refine Ru.op (q := (.istore 6, 2)) (S' := (74, [some (.ref 36), d1, d2, some (vI v3), some (vI v4), some (vI v5), some (vI 0), some (vI v7)], [], _, _)) (by decide +kernel) rfl ?_
          refine Ru.inc (x := v7) (z := (v7 + 1)) (xs' := [some (.ref 36), d1, d2, some (vI v3), some (vI v4), some (vI v5), some (vI 0), some (vI (v7 + 1))]) (by decide +kernel) rfl rfl rfl ?_
          refine Ru.op (q := (.goto (-44), 3)) (by decide +kernel) rfl ?_
          exact ih _ _ _ _ _ h r hk
    · replace h := if_f b7 h
      refine Ru.br2 (k := .ge) (off := 43) (bb := true) (tg := 80) (by decide +kernel) (by decide +kernel) (ci_ge1 g5 g6 b7) rfl ?_
      cases h
      exact hk _ _ _ _ _ _ _
def g126 (S : St) (v1 : Int) (v2 : Int) : Option (Int) := gd (ixR v1 504) (gd (ixR v2 504) (ob (g125 S 38 (S.A 39 v1)) (fun o3 => ob (g126L33 S (S.A 39 v1) (S.A 39 v2) (o3 - (S.A 39 v1)) FU 1 0) (fun o13 => gd (b1R o13) (some o13)))))
set_option maxRecDepth 100000 in
set_option maxHeartbeats 4000000 in
theorem g126_ok {S : St} {v1 : Int} {v2 : Int} {o : Int} (h : g126 S v1 v2 = some o) : Ru none 13 263 126 (0, mn_pad (mn_ent [.ref 36, vI v1, vI v2]) 8, [], S.ns, Hp S) ((0, some (vI o)), S.ns, Hp S) := by
  unfold g126 at h
  show Ru none 13 263 126 (0, [some (.ref 36), some (vI v1), some (vI v2), none, none, none, none, none], [], S.ns, Hp S) _
  refine Ru.op (q := (.aload_n 0, 1)) (by decide +kernel) rfl ?_
  refine Ru.get (i := 20) (v := .ref 39) (by decide +kernel) (by rfl) (hp36 _) (by decide) rfl ?_
  refine Ru.op (q := (.iload_n 1, 1)) (by decide +kernel) rfl ?_
  obtain ⟨g1, h⟩ := gd_some h
  refine Ru.ildI (i := v1) (z := (S.A 39 v1)) (by decide +kernel) (hp39 _) g1 (eI_of _) ?_
  refine Ru.op (q := (.istore_n 3, 1)) (S' := (7, [some (.ref 36), some (vI v1), some (vI v2), some (vI (S.A 39 v1)), none, none, none, none], [], _, _)) (by decide +kernel) rfl ?_
  refine Ru.op (q := (.aload_n 0, 1)) (by decide +kernel) rfl ?_
  refine Ru.get (i := 20) (v := .ref 39) (by decide +kernel) (by rfl) (hp36 _) (by decide) rfl ?_
  refine Ru.op (q := (.iload_n 2, 1)) (by decide +kernel) rfl ?_
  obtain ⟨g2, h⟩ := gd_some h
  refine Ru.ildI (i := v2) (z := (S.A 39 v2)) (by decide +kernel) (hp39 _) g2 (eI_of _) ?_
  refine Ru.op (q := (.istore 4, 2)) (S' := (15, [some (.ref 36), some (vI v1), some (vI v2), some (vI (S.A 39 v1)), some (vI (S.A 39 v2)), none, none, none], [], _, _)) (by decide +kernel) rfl ?_
  refine Ru.op (q := (.aload_n 0, 1)) (by decide +kernel) rfl ?_
  refine Ru.get (i := 17) (v := .ref 38) (by decide +kernel) (by rfl) (hp36 _) (by decide) rfl ?_
  refine Ru.op (q := (.iload_n 3, 1)) (by decide +kernel) rfl ?_
  obtain ⟨o3, e4, h⟩ := ob_some h
  refine Ru.call (q := (.invokestatic 233, 3)) (j2 := 125) (as := [.ref 38, vI (S.A 39 v1)]) (by decide +kernel) rfl rfl rfl rfl ⟨(Nat.le_of_ble_eq_true rfl), (by show 19 + 4 ≤ 263; exact Nat.le_of_ble_eq_true rfl), Nat.le_of_ble_eq_true rfl, Nat.le_of_ble_eq_true rfl⟩ ((g125_ok e4).up (Nat.le_of_ble_eq_true rfl) (Nat.le_of_ble_eq_true rfl)) ?_
  refine Ru.op (q := (.iload_n 3, 1)) (by decide +kernel) rfl ?_
  refine Ru.ar2 (i := .isub) (z := (o3 - (S.A 39 v1))) (by decide +kernel) rfl (ar_sub _ _) ?_
  refine Ru.op (q := (.istore 5, 2)) (S' := (27, [some (.ref 36), some (vI v1), some (vI v2), some (vI (S.A 39 v1)), some (vI (S.A 39 v2)), some (vI (o3 - (S.A 39 v1))), none, none], [], _, _)) (by decide +kernel) rfl ?_
  refine Ru.kI (q := (.iconst 1, 1)) (c := 1) (by decide +kernel) rfl (by decide) ?_
  refine Ru.op (q := (.istore 6, 2)) (S' := (30, [some (.ref 36), some (vI v1), some (vI v2), some (vI (S.A 39 v1)), some (vI (S.A 39 v2)), some (vI (o3 - (S.A 39 v1))), some (vI 1), none], [], _, _)) (by decide +kernel) rfl ?_
  refine Ru.kI (q := (.iconst 0, 1)) (c := 0) (by decide +kernel) rfl (by decide) ?_
  refine Ru.op (q := (.istore 7, 2)) (S' := (33, [some (.ref 36), some (vI v1), some (vI v2), some (vI (S.A 39 v1)), some (vI (S.A 39 v2)), some (vI (o3 - (S.A 39 v1))), some (vI 1), some (vI 0)], [], _, _)) (by decide +kernel) rfl ?_
  obtain ⟨o13, e21, h⟩ := ob_some h
  refine g126L33_ok FU _ _ _ _ _ e21 _ ?_
  intro d14 d15 d16 d17 d18 d19 d20
  refine Ru.op (q := (.iload 6, 2)) (by decide +kernel) rfl ?_
  obtain ⟨g22, h⟩ := gd_some h
  cases h
  exact Ru.iret (by decide +kernel) rfl (nar_b1 g22)
def g127L2 (v1 : Int) (v2 : Int) : Nat → Int → St → Option (St)
  | 0, _, _ => none
  | n + 1, v3, S => gd (inR v3) (if v3 < 128 then gd (ixR v3 128) (g127L2 v1 v2 n (v3 + 1) (S.a 64 v3 (-1))) else some S)
set_option maxRecDepth 100000 in
set_option maxHeartbeats 4000000 in
theorem g127L2_ok {v1 : Int} {v2 : Int} : ∀ (n : Nat) (v3 : Int) (S : St) (d4 : Option Value) (out : St), g127L2 v1 v2 n v3 S = some out → ∀ r, (∀ (e3 e4 : Option Value), Ru none 11 220 127 (22, [some (.ref 36), some (vI v1), some (vI v2), e3, e4], [], out.ns, Hp out) r) → Ru none 11 220 127 (2, [some (.ref 36), some (vI v1), some (vI v2), some (vI v3), d4], [], S.ns, Hp S) r := by
  intro n
  induction n with
  | zero => intro v3 S d4 out h; cases h
  | succ n ih =>
    intro v3 S d4 out h r hk
    unfold g127L2 at h
    refine Ru.op (q := (.iload_n 3, 1)) (by decide +kernel) rfl ?_
    refine Ru.kI (q := (.sipush 128, 3)) (c := 128) (by decide +kernel) rfl (by decide) ?_
    obtain ⟨g1, h⟩ := gd_some h
    by_cases b2 : v3 < 128
    · replace h := if_t b2 h
      refine Ru.br2 (k := .ge) (off := 16) (bb := false) (tg := 9) (by decide +kernel) (by decide +kernel) (ci_ge0 g1 (by decide) b2) rfl ?_
      refine Ru.op (q := (.aload_n 0, 1)) (by decide +kernel) rfl ?_
      refine Ru.get (i := 99) (v := .ref 64) (by decide +kernel) (by rfl) (hp36 _) (by decide) rfl ?_
      refine Ru.op (q := (.iload_n 3, 1)) (by decide +kernel) rfl ?_
      refine Ru.kI (q := (.iconst (-1), 1)) (c := (-1)) (by decide +kernel) rfl (by decide) ?_
      obtain ⟨g3, h⟩ := gd_some h
      refine Ru.istI (i := v3) (x := (-1)) (by decide +kernel) (hp64 _) g3 (ps_64 _ _ _) ?_
      refine Ru.inc (x := v3) (z := (v3 + 1)) (xs' := [some (.ref 36), some (vI v1), some (vI v2), some (vI (v3 + 1)), d4]) (by decide +kernel) rfl rfl rfl ?_
      refine Ru.op (q := (.goto (-17), 3)) (by decide +kernel) rfl ?_
      exact ih _ _ _ _ h r hk
    · replace h := if_f b2 h
      refine Ru.br2 (k := .ge) (off := 16) (bb := true) (tg := 22) (by decide +kernel) (by decide +kernel) (ci_ge1 g1 (by decide) b2) rfl ?_
      cases h
      exact hk _ _
def g127L27 (v2 : Int) : Nat → Int → Int → St → Option (St)
  | 0, _, _, _ => none
  | n + 1, v3, v4, S => gd (inR v4) (gd (inR v2) (if v4 < v2 then gd (ixR v4 8032) (ob (g122 S (S.A 38 v4)) (fun o12 => gd (inR o12) (if o12 = 0 then g127L27 v2 n v3 (v4 + 1) S else gd (ixR (S.A 38 v4) 128) (if (S.A 64 (S.A 38 v4)) < 0 then g127L27 v2 n (v3 + 1) (v4 + 1) ((S.a 64 (S.A 38 v4) v3).a 38 v4 ((S.a 64 (S.A 38 v4) v3).A 64 (S.A 38 v4))) else g127L27 v2 n v3 (v4 + 1) (S.a 38 v4 (S.A 64 (S.A 38 v4))))))) else some S))
set_option maxRecDepth 100000 in
set_option maxHeartbeats 4000000 in
theorem g127L27_ok {v2 : Int} : ∀ (n : Nat) (v3 : Int) (v4 : Int) (S : St) (d1 : Option Value) (out : St), g127L27 v2 n v3 v4 S = some out → ∀ r, (∀ (e0 e1 e2 e3 e4 : Option Value), Ru none 11 220 127 (102, [e0, e1, e2, e3, e4], [], out.ns, Hp out) r) → Ru none 11 220 127 (27, [some (.ref 36), d1, some (vI v2), some (vI v3), some (vI v4)], [], S.ns, Hp S) r := by
  intro n
  induction n with
  | zero => intro v3 v4 S d1 out h; cases h
  | succ n ih =>
    intro v3 v4 S d1 out h r hk
    unfold g127L27 at h
    refine Ru.op (q := (.iload 4, 2)) (by decide +kernel) rfl ?_
    refine Ru.op (q := (.iload_n 2, 1)) (by decide +kernel) rfl ?_
    obtain ⟨g8, h⟩ := gd_some h
    obtain ⟨g9, h⟩ := gd_some h
    by_cases b10 : v4 < v2
    · replace h := if_t b10 h
      refine Ru.br2 (k := .ge) (off := 72) (bb := false) (tg := 33) (by decide +kernel) (by decide +kernel) (ci_ge0 g8 g9 b10) rfl ?_
      refine Ru.op (q := (.aload_n 0, 1)) (by decide +kernel) rfl ?_
      refine Ru.get (i := 17) (v := .ref 38) (by decide +kernel) (by rfl) (hp36 _) (by decide) rfl ?_
      refine Ru.op (q := (.iload 4, 2)) (by decide +kernel) rfl ?_
      obtain ⟨g11, h⟩ := gd_some h
      refine Ru.ildI (i := v4) (z := (S.A 38 v4)) (by decide +kernel) (hp38 _) g11 (eI_of _) ?_
      obtain ⟨o12, e13, h⟩ := ob_some h
      refine Ru.call (q := (.invokestatic 132, 3)) (j2 := 122) (as := [vI (S.A 38 v4)]) (by decide +kernel) rfl rfl rfl rfl ⟨(Nat.le_of_ble_eq_true rfl), (by show 19 + 1 ≤ 220; exact Nat.le_of_ble_eq_true rfl), Nat.le_of_ble_eq_true rfl, Nat.le_of_ble_eq_true rfl⟩ ((g122_ok e13).up (Nat.le_of_ble_eq_true rfl) (Nat.le_of_ble_eq_true rfl)) ?_
      obtain ⟨g14, h⟩ := gd_some h
      by_cases b15 : o12 = 0
      · replace h := if_t b15 h
        refine Ru.br (k := .eq) (off := 53) (bb := true) (tg := 96) (by decide +kernel) (by decide +kernel) (cz (ci_eq1 g14 (by decide) b15)) rfl ?_
        refine Ru.inc (x := v4) (z := (v4 + 1)) (xs' := [some (.ref 36), d1, some (vI v2), some (vI v3), some (vI (v4 + 1))]) (by decide +kernel) rfl rfl rfl ?_
        refine Ru.op (q := (.goto (-72), 3)) (by decide +kernel) rfl ?_
        exact ih _ _ _ _ _ h r hk
      · replace h := if_f b15 h
        refine Ru.br (k := .eq) (off := 53) (bb := false) (tg := 46) (by decide +kernel) (by decide +kernel) (cz (ci_eq0 g14 (by decide) b15)) rfl ?_
        refine Ru.op (q := (.aload_n 0, 1)) (by decide +kernel) rfl ?_
        refine Ru.get (i := 99) (v := .ref 64) (by decide +kernel) (by rfl) (hp36 _) (by decide) rfl ?_
        refine Ru.op (q := (.aload_n 0, 1)) (by decide +kernel) rfl ?_
        refine Ru.get (i := 17) (v := .ref 38) (by decide +kernel) (by rfl) (hp36 _) (by decide) rfl ?_
        refine Ru.op (q := (.iload 4, 2)) (by decide +kernel) rfl ?_
        refine Ru.ildI (i := v4) (z := (S.A 38 v4)) (by decide +kernel) (hp38 _) g11 (eI_of _) ?_
        obtain ⟨g16, h⟩ := gd_some h
        refine Ru.ildI (i := (S.A 38 v4)) (z := (S.A 64 (S.A 38 v4))) (by decide +kernel) (hp64 _) g16 (eI_of _) ?_
        by_cases b17 : (S.A 64 (S.A 38 v4)) < 0
        · replace h := if_t b17 h
          refine Ru.br (k := .ge) (off := 19) (bb := false) (tg := 61) (by decide +kernel) (by decide +kernel) (cz (ci_ge0 (inR_to _) (by decide) b17)) rfl ?_
          refine Ru.op (q := (.aload_n 0, 1)) (by decide +kernel) rfl ?_
          refine Ru.get (i := 99) (v := .ref 64) (by decide +kernel) (by rfl) (hp36 _) (by decide) rfl ?_
          refine Ru.op (q := (.aload_n 0, 1)) (by decide +kernel) rfl ?_
          refine Ru.get (i := 17) (v := .ref 38) (by decide +kernel) (by rfl) (hp36 _) (by decide) rfl ?_
          refine Ru.op (q := (.iload 4, 2)) (by decide +kernel) rfl ?_
          refine Ru.ildI (i := v4) (z := (S.A 38 v4)) (by decide +kernel) (hp38 _) g11 (eI_of _) ?_
          refine Ru.op (q := (.iload_n 3, 1)) (by decide +kernel) rfl ?_
          refine Ru.istI (i := (S.A 38 v4)) (x := v3) (by decide +kernel) (hp64 _) g16 (ps_64 _ _ _) ?_
          refine Ru.inc (x := v3) (z := (v3 + 1)) (xs' := [some (.ref 36), d1, some (vI v2), some (vI (v3 + 1)), some (vI v4)]) (by decide +kernel) rfl rfl rfl ?_
          refine Ru.op (q := (.aload_n 0, 1)) (by decide +kernel) rfl ?_
          refine Ru.get (i := 17) (v := .ref 38) (by decide +kernel) (by rfl) (hp36 _) (by decide) rfl ?_
          refine Ru.op (q := (.iload 4, 2)) (by decide +kernel) rfl ?_
          refine Ru.op (q := (.aload_n 0, 1)) (by decide +kernel) rfl ?_
          refine Ru.get (i := 99) (v := .ref 64) (by decide +kernel) (by rfl) (hp36 _) (by decide) rfl ?_
          refine Ru.op (q := (.aload_n 0, 1)) (by decide +kernel) rfl ?_
          refine Ru.get (i := 17) (v := .ref 38) (by decide +kernel) (by rfl) (hp36 _) (by decide) rfl ?_
          refine Ru.op (q := (.iload 4, 2)) (by decide +kernel) rfl ?_
          refine Ru.ildI (i := v4) (z := (S.A 38 v4)) (by decide +kernel) (hp38 _) g11 (eI_of _) ?_
          refine Ru.ildI (i := (S.A 38 v4)) (z := ((S.a 64 (S.A 38 v4) v3).A 64 (S.A 38 v4))) (by decide +kernel) (hp64 _) g16 (eI_of _) ?_
          refine Ru.istI (i := v4) (x := ((S.a 64 (S.A 38 v4) v3).A 64 (S.A 38 v4))) (by decide +kernel) (hp38 _) g11 (ps_38 _ _ _) ?_
          refine Ru.inc (x := v4) (z := (v4 + 1)) (xs' := [some (.ref 36), d1, some (vI v2), some (vI (v3 + 1)), some (vI (v4 + 1))]) (by decide +kernel) rfl rfl rfl ?_
          refine Ru.op (q := (.goto (-72), 3)) (by decide +kernel) rfl ?_
          exact ih _ _ _ _ _ h r hk
        · replace h := if_f b17 h
          refine Ru.br (k := .ge) (off := 19) (bb := true) (tg := 77) (by decide +kernel) (by decide +kernel) (cz (ci_ge1 (inR_to _) (by decide) b17)) rfl ?_
          refine Ru.op (q := (.aload_n 0, 1)) (by decide +kernel) rfl ?_
          refine Ru.get (i := 17) (v := .ref 38) (by decide +kernel) (by rfl) (hp36 _) (by decide) rfl ?_
          refine Ru.op (q := (.iload 4, 2)) (by decide +kernel) rfl ?_
          refine Ru.op (q := (.aload_n 0, 1)) (by decide +kernel) rfl ?_
          refine Ru.get (i := 99) (v := .ref 64) (by decide +kernel) (by rfl) (hp36 _) (by decide) rfl ?_
          refine Ru.op (q := (.aload_n 0, 1)) (by decide +kernel) rfl ?_
          refine Ru.get (i := 17) (v := .ref 38) (by decide +kernel) (by rfl) (hp36 _) (by decide) rfl ?_
          refine Ru.op (q := (.iload 4, 2)) (by decide +kernel) rfl ?_
          refine Ru.ildI (i := v4) (z := (S.A 38 v4)) (by decide +kernel) (hp38 _) g11 (eI_of _) ?_
          refine Ru.ildI (i := (S.A 38 v4)) (z := (S.A 64 (S.A 38 v4))) (by decide +kernel) (hp64 _) g16 (eI_of _) ?_
          refine Ru.istI (i := v4) (x := (S.A 64 (S.A 38 v4))) (by decide +kernel) (hp38 _) g11 (ps_38 _ _ _) ?_
          refine Ru.inc (x := v4) (z := (v4 + 1)) (xs' := [some (.ref 36), d1, some (vI v2), some (vI v3), some (vI (v4 + 1))]) (by decide +kernel) rfl rfl rfl ?_
          refine Ru.op (q := (.goto (-72), 3)) (by decide +kernel) rfl ?_
          exact ih _ _ _ _ _ h r hk
    · replace h := if_f b10 h
      refine Ru.br2 (k := .ge) (off := 72) (bb := true) (tg := 102) (by decide +kernel) (by decide +kernel) (ci_ge1 g8 g9 b10) rfl ?_
      cases h
      exact hk _ _ _ _ _
def g127 (S : St) (v1 : Int) (v2 : Int) : Option (St) := ob (g127L2 v1 v2 FU 0 S) (fun o4 => ob (g127L27 v2 FU 0 v1 o4) (fun o18 => some o18))
set_option maxRecDepth 100000 in
set_option maxHeartbeats 4000000 in
theorem g127_ok {S : St} {v1 : Int} {v2 : Int} {o : St} (h : g127 S v1 v2 = some o) : Ru none 11 220 127 (0, mn_pad (mn_ent [.ref 36, vI v1, vI v2]) 5, [], S.ns, Hp S) ((0, none), o.ns, Hp o) := by
  unfold g127 at h
  show Ru none 11 220 127 (0, [some (.ref 36), some (vI v1), some (vI v2), none, none], [], S.ns, Hp S) _
  refine Ru.kI (q := (.iconst 0, 1)) (c := 0) (by decide +kernel) rfl (by decide) ?_
  refine Ru.op (q := (.istore_n 3, 1)) (S' := (2, [some (.ref 36), some (vI v1), some (vI v2), some (vI 0), none], [], _, _)) (by decide +kernel) rfl ?_
  obtain ⟨o4, e7, h⟩ := ob_some h
  refine g127L2_ok FU _ _ _ _ e7 _ ?_
  intro d5 d6
  refine Ru.kI (q := (.iconst 0, 1)) (c := 0) (by decide +kernel) rfl (by decide) ?_
  refine Ru.op (q := (.istore_n 3, 1)) (S' := (24, [some (.ref 36), some (vI v1), some (vI v2), some (vI 0), d6], [], _, _)) (by decide +kernel) rfl ?_
  refine Ru.op (q := (.iload_n 1, 1)) (by decide +kernel) rfl ?_
  refine Ru.op (q := (.istore 4, 2)) (S' := (27, [some (.ref 36), some (vI v1), some (vI v2), some (vI 0), some (vI v1)], [], _, _)) (by decide +kernel) rfl ?_
  obtain ⟨o18, e24, h⟩ := ob_some h
  refine g127L27_ok FU _ _ _ _ _ e24 _ ?_
  intro d19 d20 d21 d22 d23
  cases h
  exact Ru.end (q := (.return_, 1)) (by decide +kernel) rfl rfl
def g119L82 (S : St) (v1 : Int) (v2 : Int) (v3 : Int) (v4 : Int) (v5 : Int) (v6 : Int) : Nat → Int → Int → Option (Int)
  | 0, _, _ => none
  | n + 1, v7, v8 => gd (inR v8) (gd (inR v6) (if v8 < v6 then gd (inR v7) (if v7 = 0 then gd (ixR v8 504) (gd (ixR v4 100) (if (S.A 40 v8) = (S.A 49 v4) then ob (g126 S v6 v8) (fun o18 => gd (inR o18) (if o18 = 0 then g119L82 S v1 v2 v3 v4 v5 v6 n 0 (v8 + 1) else g119L82 S v1 v2 v3 v4 v5 v6 n 1 (v8 + 1))) else g119L82 S v1 v2 v3 v4 v5 v6 n 0 (v8 + 1))) else g119L82 S v1 v2 v3 v4 v5 v6 n 1 (v8 + 1)) else some v7))
set_option maxRecDepth 100000 in
set_option maxHeartbeats 4000000 in
theorem g119L82_ok {S : St} {v1 : Int} {v2 : Int} {v3 : Int} {v4 : Int} {v5 : Int} {v6 : Int} : ∀ (n : Nat) (v7 : Int) (v8 : Int) (out : Int), g119L82 S v1 v2 v3 v4 v5 v6 n v7 v8 = some out → ∀ r, (∀ (e6 e8 : Option Value), Ru none 15 315 119 (135, [some (.ref 36), some (vI v1), some (vI v2), some (vI v3), some (vI v4), some (vI v5), e6, some (vI out), e8], [], S.ns, Hp S) r) → Ru none 15 315 119 (82, [some (.ref 36), some (vI v1), some (vI v2), some (vI v3), some (vI v4), some (vI v5), some (vI v6), some (vI v7), some (vI v8)], [], S.ns, Hp S) r := by
  intro n
  induction n with
  | zero => intro v7 v8 out h; cases h
  | succ n ih =>
    intro v7 v8 out h r hk
    unfold g119L82 at h
    refine Ru.op (q := (.iload 8, 2)) (by decide +kernel) rfl ?_
    refine Ru.op (q := (.iload 6, 2)) (by decide +kernel) rfl ?_
    obtain ⟨g10, h⟩ := gd_some h
    obtain ⟨g11, h⟩ := gd_some h
    by_cases b12 : v8 < v6
    · replace h := if_t b12 h
      refine Ru.br2 (k := .ge) (off := 49) (bb := false) (tg := 89) (by decide +kernel) (by decide +kernel) (ci_ge0 g10 g11 b12) rfl ?_
      refine Ru.op (q := (.iload 7, 2)) (by decide +kernel) rfl ?_
      obtain ⟨g13, h⟩ := gd_some h
      by_cases b14 : v7 = 0
      · replace h := if_t b14 h
        refine Ru.br (k := .ne) (off := 31) (bb := false) (tg := 94) (by decide +kernel) (by decide +kernel) (cz (ci_ne0 g13 (by decide) b14)) rfl ?_
        refine Ru.op (q := (.aload_n 0, 1)) (by decide +kernel) rfl ?_
        refine Ru.get (i := 23) (v := .ref 40) (by decide +kernel) (by rfl) (hp36 _) (by decide) rfl ?_
        refine Ru.op (q := (.iload 8, 2)) (by decide +kernel) rfl ?_
        obtain ⟨g15, h⟩ := gd_some h
        refine Ru.bldI (i := v8) (z := (S.A 40 v8)) (by decide +kernel) (hp40 _) g15 (eI_of _) ?_
        refine Ru.op (q := (.aload_n 0, 1)) (by decide +kernel) rfl ?_
        refine Ru.get (i := 54) (v := .ref 49) (by decide +kernel) (by rfl) (hp36 _) (by decide) rfl ?_
        refine Ru.op (q := (.iload 4, 2)) (by decide +kernel) rfl ?_
        obtain ⟨g16, h⟩ := gd_some h
        refine Ru.bldI (i := v4) (z := (S.A 49 v4)) (by decide +kernel) (hp49 _) g16 (eI_of _) ?_
        by_cases b17 : (S.A 40 v8) = (S.A 49 v4)
        · replace h := if_t b17 h
          refine Ru.br2 (k := .ne) (off := 18) (bb := false) (tg := 111) (by decide +kernel) (by decide +kernel) (ci_ne0 (inR_to _) (inR_to _) b17) rfl ?_
          refine Ru.op (q := (.aload_n 0, 1)) (by decide +kernel) rfl ?_
          refine Ru.op (q := (.iload 6, 2)) (by decide +kernel) rfl ?_
          refine Ru.op (q := (.iload 8, 2)) (by decide +kernel) rfl ?_
          obtain ⟨o18, e19, h⟩ := ob_some h
          refine Ru.vcall (i := 253) (j2 := 126) (as := [vI v6, vI v8]) (by decide +kernel) (by rfl) rfl rfl (hp36 _) (by decide) ⟨(Nat.le_of_ble_eq_true rfl), (by show 19 + 8 ≤ 315; exact Nat.le_of_ble_eq_true rfl), Nat.le_of_ble_eq_true rfl, Nat.le_of_ble_eq_true rfl⟩ ((g126_ok e19).up (Nat.le_of_ble_eq_true rfl) (Nat.le_of_ble_eq_true rfl)) ?_
          obtain ⟨g20, h⟩ := gd_some h
          by_cases b21 : o18 = 0
          · replace h := if_t b21 h
            refine Ru.br (k := .eq) (off := 7) (bb := true) (tg := 126) (by decide +kernel) (by decide +kernel) (cz (ci_eq1 g20 (by decide) b21)) rfl ?_
            refine Ru.kI (q := (.iconst 0, 1)) (c := 0) (by decide +kernel) rfl (by decide) ?_
            refine Ru.op (q := (.istore 7, 2)) (S' := (129, [some (.ref 36), some (vI v1), some (vI v2), some (vI v3), some (vI v4), some (vI v5), some (vI v6), some (vI 0), some (vI v8)], [], _, _)) (by decide +kernel) rfl ?_
            refine Ru.inc (x := v8) (z := (v8 + 1)) (xs' := [some (.ref 36), some (vI v1), some (vI v2), some (vI v3), some (vI v4), some (vI v5), some (vI v6), some (vI 0), some (vI (v8 + 1))]) (by decide +kernel) rfl rfl rfl ?_
            refine Ru.op (q := (.goto (-50), 3)) (by decide +kernel) rfl ?_
            exact ih _ _ _ h r hk
          · replace h := if_f b21 h
            refine Ru.br (k := .eq) (off := 7) (bb := false) (tg := 122) (by decide +kernel) (by decide +kernel) (cz (ci_eq0 g20 (by decide) b21)) rfl ?_
            refine Ru.kI (q := (.iconst 1, 1)) (c := 1) (by decide +kernel) rfl (by decide) ?_
            refine Ru.op (q := (.goto 4, 3)) (by decide +kernel) rfl ?_
            refine Ru.op (q := (.istore 7, 2)) (S' := (129, [some (.ref 36), some (vI v1), some (vI v2), some (vI v3), some (vI v4), some (vI v5), some (vI v6), some (vI 1), some (vI v8)], [], _, _)) (by decide +kernel) rfl ?_
            refine Ru.inc (x := v8) (z := (v8 + 1)) (xs' := [some (.ref 36), some (vI v1), some (vI v2), some (vI v3), some (vI v4), some (vI v5), some (vI v6), some (vI 1), some (vI (v8 + 1))]) (by decide +kernel) rfl rfl rfl ?_
            refine Ru.op (q := (.goto (-50), 3)) (by decide +kernel) rfl ?_
            exact ih _ _ _ h r hk
        · replace h := if_f b17 h
          refine Ru.br2 (k := .ne) (off := 18) (bb := true) (tg := 126) (by decide +kernel) (by decide +kernel) (ci_ne1 (inR_to _) (inR_to _) b17) rfl ?_
          refine Ru.kI (q := (.iconst 0, 1)) (c := 0) (by decide +kernel) rfl (by decide) ?_
          refine Ru.op (q := (.istore 7, 2)) (S' := (129, [some (.ref 36), some (vI v1), some (vI v2), some (vI v3), some (vI v4), some (vI v5), some (vI v6), some (vI 0), some (vI v8)], [], _, _)) (by decide +kernel) rfl ?_
          refine Ru.inc (x := v8) (z := (v8 + 1)) (xs' := [some (.ref 36), some (vI v1), some (vI v2), some (vI v3), some (vI v4), some (vI v5), some (vI v6), some (vI 0), some (vI (v8 + 1))]) (by decide +kernel) rfl rfl rfl ?_
          refine Ru.op (q := (.goto (-50), 3)) (by decide +kernel) rfl ?_
          exact ih _ _ _ h r hk
      · replace h := if_f b14 h
        refine Ru.br (k := .ne) (off := 31) (bb := true) (tg := 122) (by decide +kernel) (by decide +kernel) (cz (ci_ne1 g13 (by decide) b14)) rfl ?_
        refine Ru.kI (q := (.iconst 1, 1)) (c := 1) (by decide +kernel) rfl (by decide) ?_
        refine Ru.op (q := (.goto 4, 3)) (by decide +kernel) rfl ?_
        refine Ru.op (q := (.istore 7, 2)) (S' := (129, [some (.ref 36), some (vI v1), some (vI v2), some (vI v3), some (vI v4), some (vI v5), some (vI v6), some (vI 1), some (vI v8)], [], _, _)) (by decide +kernel) rfl ?_
        refine Ru.inc (x := v8) (z := (v8 + 1)) (xs' := [some (.ref 36), some (vI v1), some (vI v2), some (vI v3), some (vI v4), some (vI v5), some (vI v6), some (vI 1), some (vI (v8 + 1))]) (by decide +kernel) rfl rfl rfl ?_
        refine Ru.op (q := (.goto (-50), 3)) (by decide +kernel) rfl ?_
        exact ih _ _ _ h r hk
    · replace h := if_f b12 h
      refine Ru.br2 (k := .ge) (off := 49) (bb := true) (tg := 135) (by decide +kernel) (by decide +kernel) (ci_ge1 g10 g11 b12) rfl ?_
      cases h
      exact hk _ _
def g119L11 (v1 : Int) : Nat → Int → Int → Int → St → Option (Sum (Int × Int × St) (Int × St))
  | 0, _, _, _, _ => none
  | n + 1, v2, v3, v4, S => gd (inR v4) (if v4 < (S.F 36 24) then gd (ixR v4 100) (ob (g120 S (S.A 48 v4) v2 (v2 + 16)) (fun o35 => gd (inR o35.1) (if o35.1 < 0 then some (.inr (0, o35.2)) else gd (ixR (496 + v3) 504) (gd (b1R (o35.2.A 49 v4)) (ob (g119L82 ((o35.2.a 39 (496 + v3) v2).a 40 (496 + v3) (o35.2.A 49 v4)) v1 v2 v3 v4 o35.1 (496 + v3) FU 0 496) (fun o41 => gd (inR o41) (if o41 = 0 then gd (inR (v3 + 1)) (if 4 < (v3 + 1) then some (.inr (0, ((o35.2.a 39 (496 + v3) v2).a 40 (496 + v3) (o35.2.A 49 v4)))) else g119L11 v1 n o35.1 (v3 + 1) (v4 + 1) ((o35.2.a 39 (496 + v3) v2).a 40 (496 + v3) (o35.2.A 49 v4))) else gd (inR v3) (if 4 < v3 then some (.inr (0, ((o35.2.a 39 (496 + v3) v2).a 40 (496 + v3) (o35.2.A 49 v4)))) else g119L11 v1 n v2 v3 (v4 + 1) ((o35.2.a 39 (496 + v3) v2).a 40 (496 + v3) (o35.2.A 49 v4)))))))))) else some (.inl (v2, v3, S)))
set_option maxRecDepth 100000 in
set_option maxHeartbeats 4000000 in
theorem g119L11_ok {v1 : Int} : ∀ (n : Nat) (v2 : Int) (v3 : Int) (v4 : Int) (S : St) (d5 d6 d7 d8 : Option Value) (out : Sum (Int × Int × St) (Int × St)), g119L11 v1 n v2 v3 v4 S = some out → ∀ r, (∀ o, out = .inl o → ∀ (e4 e5 e6 e7 e8 : Option Value), Ru none 15 315 119 (173, [some (.ref 36), some (vI v1), some (vI o.1), some (vI o.2.1), e4, e5, e6, e7, e8], [], o.2.2.ns, Hp o.2.2) r) → (∀ o, out = .inr o → r = ((0, some (vI o.1)), o.2.ns, Hp o.2)) → Ru none 15 315 119 (11, [some (.ref 36), some (vI v1), some (vI v2), some (vI v3), some (vI v4), d5, d6, d7, d8], [], S.ns, Hp S) r := by
  intro n
  induction n with
  | zero => intro v2 v3 v4 S d5 d6 d7 d8 out h; cases h
  | succ n ih =>
    intro v2 v3 v4 S d5 d6 d7 d8 out h r hk hr
    unfold g119L11 at h
    refine Ru.op (q := (.iload 4, 2)) (by decide +kernel) rfl ?_
    refine Ru.op (q := (.aload_n 0, 1)) (by decide +kernel) rfl ?_
    refine Ru.getI (i := 246) (x := (S.F 36 24)) (by decide +kernel) (by rfl) (hp36 _) (by decide) rfl (eI_of _) ?_
    obtain ⟨g32, h⟩ := gd_some h
    by_cases b33 : v4 < (S.F 36 24)
    · replace h := if_t b33 h
      refine Ru.br2 (k := .ge) (off := 156) (bb := false) (tg := 20) (by decide +kernel) (by decide +kernel) (ci_ge0 g32 (inR_to _) b33) rfl ?_
      refine Ru.op (q := (.aload_n 0, 1)) (by decide +kernel) rfl ?_
      refine Ru.op (q := (.aload_n 0, 1)) (by decide +kernel) rfl ?_
      refine Ru.get (i := 51) (v := .ref 48) (by decide +kernel) (by rfl) (hp36 _) (by decide) rfl ?_
      refine Ru.op (q := (.iload 4, 2)) (by decide +kernel) rfl ?_
      obtain ⟨g34, h⟩ := gd_some h
      refine Ru.ildI (i := v4) (z := (S.A 48 v4)) (by decide +kernel) (hp48 _) g34 (eI_of _) ?_
      refine Ru.op (q := (.iload_n 2, 1)) (by decide +kernel) rfl ?_
      refine Ru.op (q := (.iload_n 2, 1)) (by decide +kernel) rfl ?_
      refine Ru.kI (q := (.bipush 16, 2)) (c := 16) (by decide +kernel) rfl (by decide) ?_
      refine Ru.ar2 (i := .iadd) (z := (v2 + 16)) (by decide +kernel) rfl (ar_add _ _) ?_
      obtain ⟨o35, e36, h⟩ := ob_some h
      refine Ru.vcall (i := 249) (j2 := 120) (as := [vI (S.A 48 v4), vI v2, vI (v2 + 16)]) (by decide +kernel) (by rfl) rfl rfl (hp36 _) (by decide) ⟨(Nat.le_of_ble_eq_true rfl), (by show 19 + 9 ≤ 315; exact Nat.le_of_ble_eq_true rfl), Nat.le_of_ble_eq_true rfl, Nat.le_of_ble_eq_true rfl⟩ ((g120_ok e36).up (Nat.le_of_ble_eq_true rfl) (Nat.le_of_ble_eq_true rfl)) ?_
      refine Ru.op (q := (.istore 5, 2)) (S' := (38, [some (.ref 36), some (vI v1), some (vI v2), some (vI v3), some (vI v4), some (vI o35.1), d6, d7, d8], [], _, _)) (by decide +kernel) rfl ?_
      refine Ru.op (q := (.iload 5, 2)) (by decide +kernel) rfl ?_
      obtain ⟨g37, h⟩ := gd_some h
      by_cases b38 : o35.1 < 0
      · replace h := if_t b38 h
        refine Ru.br (k := .ge) (off := 5) (bb := false) (tg := 43) (by decide +kernel) (by decide +kernel) (cz (ci_ge0 g37 (by decide) b38)) rfl ?_
        refine Ru.kI (q := (.iconst 0, 1)) (c := 0) (by decide +kernel) rfl (by decide) ?_
        cases h
        have h9 := hr _ rfl
        subst h9
        exact Ru.iret (by decide +kernel) rfl (nar_b1 (by decide))
      · replace h := if_f b38 h
        refine Ru.br (k := .ge) (off := 5) (bb := true) (tg := 45) (by decide +kernel) (by decide +kernel) (cz (ci_ge1 g37 (by decide) b38)) rfl ?_
        refine Ru.kI (q := (.sipush 496, 3)) (c := 496) (by decide +kernel) rfl (by decide) ?_
        refine Ru.op (q := (.iload_n 3, 1)) (by decide +kernel) rfl ?_
        refine Ru.ar2 (i := .iadd) (z := (496 + v3)) (by decide +kernel) rfl (ar_add _ _) ?_
        refine Ru.op (q := (.istore 6, 2)) (S' := (52, [some (.ref 36), some (vI v1), some (vI v2), some (vI v3), some (vI v4), some (vI o35.1), some (vI (496 + v3)), d7, d8], [], _, _)) (by decide +kernel) rfl ?_
        refine Ru.op (q := (.aload_n 0, 1)) (by decide +kernel) rfl ?_
        refine Ru.get (i := 20) (v := .ref 39) (by decide +kernel) (by rfl) (hp36 _) (by decide) rfl ?_
        refine Ru.op (q := (.iload 6, 2)) (by decide +kernel) rfl ?_
        refine Ru.op (q := (.iload_n 2, 1)) (by decide +kernel) rfl ?_
        obtain ⟨g39, h⟩ := gd_some h
        refine Ru.istI (i := (496 + v3)) (x := v2) (by decide +kernel) (hp39 _) g39 (ps_39 _ _ _) ?_
        refine Ru.op (q := (.aload_n 0, 1)) (by decide +kernel) rfl ?_
        refine Ru.get (i := 23) (v := .ref 40) (by decide +kernel) (by rfl) (hp36 _) (by decide) rfl ?_
        refine Ru.op (q := (.iload 6, 2)) (by decide +kernel) rfl ?_
        refine Ru.op (q := (.aload_n 0, 1)) (by decide +kernel) rfl ?_
        refine Ru.get (i := 54) (v := .ref 49) (by decide +kernel) (by rfl) (hp36 _) (by decide) rfl ?_
        refine Ru.op (q := (.iload 4, 2)) (by decide +kernel) rfl ?_
        refine Ru.bldI (i := v4) (z := (o35.2.A 49 v4)) (by decide +kernel) (hp49 _) g34 (eI_of _) ?_
        obtain ⟨g40, h⟩ := gd_some h
        refine Ru.bstI (i := (496 + v3)) (x := (o35.2.A 49 v4)) (by decide +kernel) (hp40 _) g39 g40 (ps_40 _ _ _) ?_
        refine Ru.kI (q := (.iconst 0, 1)) (c := 0) (by decide +kernel) rfl (by decide) ?_
        refine Ru.op (q := (.istore 7, 2)) (S' := (77, [some (.ref 36), some (vI v1), some (vI v2), some (vI v3), some (vI v4), some (vI o35.1), some (vI (496 + v3)), some (vI 0), d8], [], _, _)) (by decide +kernel) rfl ?_
        refine Ru.kI (q := (.sipush 496, 3)) (c := 496) (by decide +kernel) rfl (by decide) ?_
        refine Ru.op (q := (.istore 8, 2)) (S' := (82, [some (.ref 36), some (vI v1), some (vI v2), some (vI v3), some (vI v4), some (vI o35.1), some (vI (496 + v3)), some (vI 0), some (vI 496)], [], _, _)) (by decide +kernel) rfl ?_
        obtain ⟨o41, e44, h⟩ := ob_some h
        refine g119L82_ok FU _ _ _ e44 _ ?_
        intro d42 d43
        refine Ru.op (q := (.iload 7, 2)) (by decide +kernel) rfl ?_
        obtain ⟨g45, h⟩ := gd_some h
        by_cases b46 : o41 = 0
        · replace h := if_t b46 h
          refine Ru.br (k := .eq) (off := 7) (bb := true) (tg := 144) (by decide +kernel) (by decide +kernel) (cz (ci_eq1 g45 (by decide) b46)) rfl ?_
          refine Ru.op (q := (.iload 5, 2)) (by decide +kernel) rfl ?_
          refine Ru.op (q := (.istore_n 2, 1)) (S' := (147, [some (.ref 36), some (vI v1), some (vI o35.1), some (vI v3), some (vI v4), some (vI o35.1), d42, some (vI o41), d43], [], _, _)) (by decide +kernel) rfl ?_
          refine Ru.op (q := (.iload 7, 2)) (by decide +kernel) rfl ?_
          refine Ru.br (k := .eq) (off := 7) (bb := true) (tg := 156) (by decide +kernel) (by decide +kernel) (cz (ci_eq1 g45 (by decide) b46)) rfl ?_
          refine Ru.op (q := (.iload_n 3, 1)) (by decide +kernel) rfl ?_
          refine Ru.kI (q := (.iconst 1, 1)) (c := 1) (by decide +kernel) rfl (by decide) ?_
          refine Ru.ar2 (i := .iadd) (z := (v3 + 1)) (by decide +kernel) rfl (ar_add _ _) ?_
          refine Ru.op (q := (.istore_n 3, 1)) (S' := (160, [some (.ref 36), some (vI v1), some (vI o35.1), some (vI (v3 + 1)), some (vI v4), some (vI o35.1), d42, some (vI o41), d43], [], _, _)) (by decide +kernel) rfl ?_
          refine Ru.op (q := (.iload_n 3, 1)) (by decide +kernel) rfl ?_
          refine Ru.kI (q := (.iconst 4, 1)) (c := 4) (by decide +kernel) rfl (by decide) ?_
          obtain ⟨g47, h⟩ := gd_some h
          by_cases b48 : 4 < (v3 + 1)
          · replace h := if_t b48 h
            refine Ru.br2 (k := .le) (off := 5) (bb := false) (tg := 165) (by decide +kernel) (by decide +kernel) (ci_le0 g47 (by decide) b48) rfl ?_
            refine Ru.kI (q := (.iconst 0, 1)) (c := 0) (by decide +kernel) rfl (by decide) ?_
            cases h
            have h9 := hr _ rfl
            subst h9
            exact Ru.iret (by decide +kernel) rfl (nar_b1 (by decide))
          · replace h := if_f b48 h
            refine Ru.br2 (k := .le) (off := 5) (bb := true) (tg := 167) (by decide +kernel) (by decide +kernel) (ci_le1 g47 (by decide) b48) rfl ?_
            refine Ru.inc (x := v4) (z := (v4 + 1)) (xs' := [some (.ref 36), some (vI v1), some (vI o35.1), some (vI (v3 + 1)), some (vI (v4 + 1)), some (vI o35.1), d42, some (vI o41), d43]) (by decide +kernel) rfl rfl rfl ?_
            refine Ru.op (q := (.goto (-159), 3)) (by decide +kernel) rfl ?_
            exact ih _ _ _ _ _ _ _ _ _ h r hk hr
        · replace h := if_f b46 h
          refine Ru.br (k := .eq) (off := 7) (bb := false) (tg := 140) (by decide +kernel) (by decide +kernel) (cz (ci_eq0 g45 (by decide) b46)) rfl ?_
          refine Ru.op (q := (.iload_n 2, 1)) (by decide +kernel) rfl ?_
          refine Ru.op (q := (.goto 5, 3)) (by decide +kernel) rfl ?_
          refine Ru.op (q := (.istore_n 2, 1)) (S' := (147, [some (.ref 36), some (vI v1), some (vI v2), some (vI v3), some (vI v4), some (vI o35.1), d42, some (vI o41), d43], [], _, _)) (by decide +kernel) rfl ?_
          refine Ru.op (q := (.iload 7, 2)) (by decide +kernel) rfl ?_
          refine Ru.br (k := .eq) (off := 7) (bb := false) (tg := 152) (by decide +kernel) (by decide +kernel) (cz (ci_eq0 g45 (by decide) b46)) rfl ?_
          refine Ru.op (q := (.iload_n 3, 1)) (by decide +kernel) rfl ?_
          refine Ru.op (q := (.goto 6, 3)) (by decide +kernel) rfl ?_
          refine Ru.op (q := (.istore_n 3, 1)) (S' := (160, [some (.ref 36), some (vI v1), some (vI v2), some (vI v3), some (vI v4), some (vI o35.1), d42, some (vI o41), d43], [], _, _)) (by decide +kernel) rfl ?_
          refine Ru.op (q := (.iload_n 3, 1)) (by decide +kernel) rfl ?_
          refine Ru.kI (q := (.iconst 4, 1)) (c := 4) (by decide +kernel) rfl (by decide) ?_
          obtain ⟨g49, h⟩ := gd_some h
          by_cases b50 : 4 < v3
          · replace h := if_t b50 h
            refine Ru.br2 (k := .le) (off := 5) (bb := false) (tg := 165) (by decide +kernel) (by decide +kernel) (ci_le0 g49 (by decide) b50) rfl ?_
            refine Ru.kI (q := (.iconst 0, 1)) (c := 0) (by decide +kernel) rfl (by decide) ?_
            cases h
            have h9 := hr _ rfl
            subst h9
            exact Ru.iret (by decide +kernel) rfl (nar_b1 (by decide))
          · replace h := if_f b50 h
            refine Ru.br2 (k := .le) (off := 5) (bb := true) (tg := 167) (by decide +kernel) (by decide +kernel) (ci_le1 g49 (by decide) b50) rfl ?_
            refine Ru.inc (x := v4) (z := (v4 + 1)) (xs' := [some (.ref 36), some (vI v1), some (vI v2), some (vI v3), some (vI (v4 + 1)), some (vI o35.1), d42, some (vI o41), d43]) (by decide +kernel) rfl rfl rfl ?_
            refine Ru.op (q := (.goto (-159), 3)) (by decide +kernel) rfl ?_
            exact ih _ _ _ _ _ _ _ _ _ h r hk hr
    · replace h := if_f b33 h
      refine Ru.br2 (k := .ge) (off := 156) (bb := true) (tg := 173) (by decide +kernel) (by decide +kernel) (ci_ge1 g32 (inR_to _) b33) rfl ?_
      cases h
      exact hk _ rfl _ _ _ _ _
def g119 (S : St) : Option (Int × St) := obr (g119L11 7936 FU 7936 0 0 S) (fun o51 => ob (g127 ((o51.2.2.a 41 124 o51.2.1).a 42 124 (o51.1 - 7936)) 7936 o51.1) (fun o58 => some (1, o58)))
set_option maxRecDepth 100000 in
set_option maxHeartbeats 4000000 in
theorem g119_ok {S : St} {o : Int × St} (h : g119 S  = some o) : Ru none 15 315 119 (0, mn_pad (mn_ent [.ref 36]) 9, [], S.ns, Hp S) ((0, some (vI o.1)), o.2.ns, Hp o.2) := by
  unfold g119 at h
  show Ru none 15 315 119 (0, [some (.ref 36), none, none, none, none, none, none, none, none], [], S.ns, Hp S) _
  refine Ru.kI (q := (.sipush 7936, 3)) (c := 7936) (by decide +kernel) rfl (by decide) ?_
  refine Ru.op (q := (.istore_n 1, 1)) (S' := (4, [some (.ref 36), some (vI 7936), none, none, none, none, none, none, none], [], _, _)) (by decide +kernel) rfl ?_
  refine Ru.op (q := (.iload_n 1, 1)) (by decide +kernel) rfl ?_
  refine Ru.op (q := (.istore_n 2, 1)) (S' := (6, [some (.ref 36), some (vI 7936), some (vI 7936), none, none, none, none, none, none], [], _, _)) (by decide +kernel) rfl ?_
  refine Ru.kI (q := (.iconst 0, 1)) (c := 0) (by decide +kernel) rfl (by decide) ?_
  refine Ru.op (q := (.istore_n 3, 1)) (S' := (8, [some (.ref 36), some (vI 7936), some (vI 7936), some (vI 0), none, none, none, none, none], [], _, _)) (by decide +kernel) rfl ?_
  refine Ru.kI (q := (.iconst 0, 1)) (c := 0) (by decide +kernel) rfl (by decide) ?_
  refine Ru.op (q := (.istore 4, 2)) (S' := (11, [some (.ref 36), some (vI 7936), some (vI 7936), some (vI 0), some (vI 0), none, none, none, none], [], _, _)) (by decide +kernel) rfl ?_
  rcases obr_some h with ⟨o51, e57, h⟩ | e57
  · refine g119L11_ok FU _ _ _ _ _ _ _ _ _ e57 _ (fun o' e' => ?_) (fun o' e' => by cases e')
    cases e'
    intro d52 d53 d54 d55 d56
    refine Ru.op (q := (.aload_n 0, 1)) (by decide +kernel) rfl ?_
    refine Ru.get (i := 27) (v := .ref 41) (by decide +kernel) (by rfl) (hp36 _) (by decide) rfl ?_
    refine Ru.kI (q := (.bipush 124, 2)) (c := 124) (by decide +kernel) rfl (by decide) ?_
    refine Ru.op (q := (.iload_n 3, 1)) (by decide +kernel) rfl ?_
    refine Ru.istI (i := 124) (x := o51.2.1) (by decide +kernel) (hp41 _) (by decide) (ps_41 _ _ _) ?_
    refine Ru.op (q := (.aload_n 0, 1)) (by decide +kernel) rfl ?_
    refine Ru.get (i := 30) (v := .ref 42) (by decide +kernel) (by rfl) (hp36 _) (by decide) rfl ?_
    refine Ru.kI (q := (.bipush 124, 2)) (c := 124) (by decide +kernel) rfl (by decide) ?_
    refine Ru.op (q := (.iload_n 2, 1)) (by decide +kernel) rfl ?_
    refine Ru.op (q := (.iload_n 1, 1)) (by decide +kernel) rfl ?_
    refine Ru.ar2 (i := .isub) (z := (o51.1 - 7936)) (by decide +kernel) rfl (ar_sub _ _) ?_
    refine Ru.istI (i := 124) (x := (o51.1 - 7936)) (by decide +kernel) (hp42 _) (by decide) (ps_42 _ _ _) ?_
    refine Ru.op (q := (.aload_n 0, 1)) (by decide +kernel) rfl ?_
    refine Ru.op (q := (.iload_n 1, 1)) (by decide +kernel) rfl ?_
    refine Ru.op (q := (.iload_n 2, 1)) (by decide +kernel) rfl ?_
    obtain ⟨o58, e59, h⟩ := ob_some h
    refine Ru.vcall (i := 256) (j2 := 127) (as := [vI 7936, vI o51.1]) (by decide +kernel) (by rfl) rfl rfl (hp36 _) (by decide) ⟨(Nat.le_of_ble_eq_true rfl), (by show 19 + 5 ≤ 315; exact Nat.le_of_ble_eq_true rfl), Nat.le_of_ble_eq_true rfl, Nat.le_of_ble_eq_true rfl⟩ ((g127_ok e59).up (Nat.le_of_ble_eq_true rfl) (Nat.le_of_ble_eq_true rfl)) ?_
    refine Ru.kI (q := (.iconst 1, 1)) (c := 1) (by decide +kernel) rfl (by decide) ?_
    cases h
    exact Ru.iret (by decide +kernel) rfl (nar_b1 (by decide))
  · exact g119L11_ok FU _ _ _ _ _ _ _ _ _ e57 _ (fun o' e' => by cases e') (fun o' e' => by cases e'; rfl)
def g128L25 (S : St) (v2 : Int) : Nat → Int → Int → Option (Int)
  | 0, _, _ => none
  | n + 1, v1, v3 => gd (inR v3) (gd (inR v2) (if v3 < v2 then gd (inR v1) (if v1 = 0 then gd (ixR v2 504) (gd (ixR v3 504) (if (S.A 40 v2) = (S.A 40 v3) then g128L25 S v2 n 0 (v3 + 1) else ob (g126 S v2 v3) (fun o12 => gd (inR o12) (if o12 = 0 then g128L25 S v2 n 0 (v3 + 1) else g128L25 S v2 n 1 (v3 + 1))))) else g128L25 S v2 n 1 (v3 + 1)) else some v1))
set_option maxRecDepth 100000 in
set_option maxHeartbeats 4000000 in
theorem g128L25_ok {S : St} {v2 : Int} : ∀ (n : Nat) (v1 : Int) (v3 : Int) (out : Int), g128L25 S v2 n v1 v3 = some out → ∀ r, (∀ (e3 : Option Value), Ru none 14 290 128 (70, [some (.ref 36), some (vI out), some (vI v2), e3], [], S.ns, Hp S) r) → Ru none 14 290 128 (25, [some (.ref 36), some (vI v1), some (vI v2), some (vI v3)], [], S.ns, Hp S) r := by
  intro n
  induction n with
  | zero => intro v1 v3 out h; cases h
  | succ n ih =>
    intro v1 v3 out h r hk
    unfold g128L25 at h
    refine Ru.op (q := (.iload_n 3, 1)) (by decide +kernel) rfl ?_
    refine Ru.op (q := (.iload_n 2, 1)) (by decide +kernel) rfl ?_
    obtain ⟨g4, h⟩ := gd_some h
    obtain ⟨g5, h⟩ := gd_some h
    by_cases b6 : v3 < v2
    · replace h := if_t b6 h
      refine Ru.br2 (k := .ge) (off := 43) (bb := false) (tg := 30) (by decide +kernel) (by decide +kernel) (ci_ge0 g4 g5 b6) rfl ?_
      refine Ru.op (q := (.iload_n 1, 1)) (by decide +kernel) rfl ?_
      obtain ⟨g7, h⟩ := gd_some h
      by_cases b8 : v1 = 0
      · replace h := if_t b8 h
        refine Ru.br (k := .ne) (off := 27) (bb := false) (tg := 34) (by decide +kernel) (by decide +kernel) (cz (ci_ne0 g7 (by decide) b8)) rfl ?_
        refine Ru.op (q := (.aload_n 0, 1)) (by decide +kernel) rfl ?_
        refine Ru.get (i := 23) (v := .ref 40) (by decide +kernel) (by rfl) (hp36 _) (by decide) rfl ?_
        refine Ru.op (q := (.iload_n 2, 1)) (by decide +kernel) rfl ?_
        obtain ⟨g9, h⟩ := gd_some h
        refine Ru.bldI (i := v2) (z := (S.A 40 v2)) (by decide +kernel) (hp40 _) g9 (eI_of _) ?_
        refine Ru.op (q := (.aload_n 0, 1)) (by decide +kernel) rfl ?_
        refine Ru.get (i := 23) (v := .ref 40) (by decide +kernel) (by rfl) (hp36 _) (by decide) rfl ?_
        refine Ru.op (q := (.iload_n 3, 1)) (by decide +kernel) rfl ?_
        obtain ⟨g10, h⟩ := gd_some h
        refine Ru.bldI (i := v3) (z := (S.A 40 v3)) (by decide +kernel) (hp40 _) g10 (eI_of _) ?_
        by_cases b11 : (S.A 40 v2) = (S.A 40 v3)
        · replace h := if_t b11 h
          refine Ru.br2 (k := .eq) (off := 16) (bb := true) (tg := 62) (by decide +kernel) (by decide +kernel) (ci_eq1 (inR_to _) (inR_to _) b11) rfl ?_
          refine Ru.kI (q := (.iconst 0, 1)) (c := 0) (by decide +kernel) rfl (by decide) ?_
          refine Ru.op (q := (.istore_n 1, 1)) (S' := (64, [some (.ref 36), some (vI 0), some (vI v2), some (vI v3)], [], _, _)) (by decide +kernel) rfl ?_
          refine Ru.inc (x := v3) (z := (v3 + 1)) (xs' := [some (.ref 36), some (vI 0), some (vI v2), some (vI (v3 + 1))]) (by decide +kernel) rfl rfl rfl ?_
          refine Ru.op (q := (.goto (-42), 3)) (by decide +kernel) rfl ?_
          exact ih _ _ _ h r hk
        · replace h := if_f b11 h
          refine Ru.br2 (k := .eq) (off := 16) (bb := false) (tg := 49) (by decide +kernel) (by decide +kernel) (ci_eq0 (inR_to _) (inR_to _) b11) rfl ?_
          refine Ru.op (q := (.aload_n 0, 1)) (by decide +kernel) rfl ?_
          refine Ru.op (q := (.iload_n 2, 1)) (by decide +kernel) rfl ?_
          refine Ru.op (q := (.iload_n 3, 1)) (by decide +kernel) rfl ?_
          obtain ⟨o12, e13, h⟩ := ob_some h
          refine Ru.vcall (i := 253) (j2 := 126) (as := [vI v2, vI v3]) (by decide +kernel) (by rfl) rfl rfl (hp36 _) (by decide) ⟨(Nat.le_of_ble_eq_true rfl), (by show 19 + 8 ≤ 290; exact Nat.le_of_ble_eq_true rfl), Nat.le_of_ble_eq_true rfl, Nat.le_of_ble_eq_true rfl⟩ ((g126_ok e13).up (Nat.le_of_ble_eq_true rfl) (Nat.le_of_ble_eq_true rfl)) ?_
          obtain ⟨g14, h⟩ := gd_some h
          by_cases b15 : o12 = 0
          · replace h := if_t b15 h
            refine Ru.br (k := .eq) (off := 7) (bb := true) (tg := 62) (by decide +kernel) (by decide +kernel) (cz (ci_eq1 g14 (by decide) b15)) rfl ?_
            refine Ru.kI (q := (.iconst 0, 1)) (c := 0) (by decide +kernel) rfl (by decide) ?_
            refine Ru.op (q := (.istore_n 1, 1)) (S' := (64, [some (.ref 36), some (vI 0), some (vI v2), some (vI v3)], [], _, _)) (by decide +kernel) rfl ?_
            refine Ru.inc (x := v3) (z := (v3 + 1)) (xs' := [some (.ref 36), some (vI 0), some (vI v2), some (vI (v3 + 1))]) (by decide +kernel) rfl rfl rfl ?_
            refine Ru.op (q := (.goto (-42), 3)) (by decide +kernel) rfl ?_
            exact ih _ _ _ h r hk
          · replace h := if_f b15 h
            refine Ru.br (k := .eq) (off := 7) (bb := false) (tg := 58) (by decide +kernel) (by decide +kernel) (cz (ci_eq0 g14 (by decide) b15)) rfl ?_
            refine Ru.kI (q := (.iconst 1, 1)) (c := 1) (by decide +kernel) rfl (by decide) ?_
            refine Ru.op (q := (.goto 4, 3)) (by decide +kernel) rfl ?_
            refine Ru.op (q := (.istore_n 1, 1)) (S' := (64, [some (.ref 36), some (vI 1), some (vI v2), some (vI v3)], [], _, _)) (by decide +kernel) rfl ?_
            refine Ru.inc (x := v3) (z := (v3 + 1)) (xs' := [some (.ref 36), some (vI 1), some (vI v2), some (vI (v3 + 1))]) (by decide +kernel) rfl rfl rfl ?_
            refine Ru.op (q := (.goto (-42), 3)) (by decide +kernel) rfl ?_
            exact ih _ _ _ h r hk
      · replace h := if_f b8 h
        refine Ru.br (k := .ne) (off := 27) (bb := true) (tg := 58) (by decide +kernel) (by decide +kernel) (cz (ci_ne1 g7 (by decide) b8)) rfl ?_
        refine Ru.kI (q := (.iconst 1, 1)) (c := 1) (by decide +kernel) rfl (by decide) ?_
        refine Ru.op (q := (.goto 4, 3)) (by decide +kernel) rfl ?_
        refine Ru.op (q := (.istore_n 1, 1)) (S' := (64, [some (.ref 36), some (vI 1), some (vI v2), some (vI v3)], [], _, _)) (by decide +kernel) rfl ?_
        refine Ru.inc (x := v3) (z := (v3 + 1)) (xs' := [some (.ref 36), some (vI 1), some (vI v2), some (vI (v3 + 1))]) (by decide +kernel) rfl rfl rfl ?_
        refine Ru.op (q := (.goto (-42), 3)) (by decide +kernel) rfl ?_
        exact ih _ _ _ h r hk
    · replace h := if_f b6 h
      refine Ru.br2 (k := .ge) (off := 43) (bb := true) (tg := 70) (by decide +kernel) (by decide +kernel) (ci_ge1 g4 g5 b6) rfl ?_
      cases h
      exact hk _
def g128L6 (S : St) : Nat → Int → Int → Option (Int)
  | 0, _, _ => none
  | n + 1, v1, v2 => gd (inR v2) (gd (inR (496 + (S.A 41 124))) (if v2 < (496 + (S.A 41 124)) then ob (g128L25 S v2 FU v1 496) (fun o16 => g128L6 S n o16 (v2 + 1)) else some v1))
set_option maxRecDepth 100000 in
set_option maxHeartbeats 4000000 in
theorem g128L6_ok {S : St} : ∀ (n : Nat) (v1 : Int) (v2 : Int) (d3 : Option Value) (out : Int), g128L6 S n v1 v2 = some out → ∀ r, (∀ (e0 e2 e3 : Option Value), Ru none 14 290 128 (76, [e0, some (vI out), e2, e3], [], S.ns, Hp S) r) → Ru none 14 290 128 (6, [some (.ref 36), some (vI v1), some (vI v2), d3], [], S.ns, Hp S) r := by
  intro n
  induction n with
  | zero => intro v1 v2 d3 out h; cases h
  | succ n ih =>
    intro v1 v2 d3 out h r hk
    unfold g128L6 at h
    refine Ru.op (q := (.iload_n 2, 1)) (by decide +kernel) rfl ?_
    refine Ru.kI (q := (.sipush 496, 3)) (c := 496) (by decide +kernel) rfl (by decide) ?_
    refine Ru.op (q := (.aload_n 0, 1)) (by decide +kernel) rfl ?_
    refine Ru.get (i := 27) (v := .ref 41) (by decide +kernel) (by rfl) (hp36 _) (by decide) rfl ?_
    refine Ru.kI (q := (.bipush 124, 2)) (c := 124) (by decide +kernel) rfl (by decide) ?_
    refine Ru.ildI (i := 124) (z := (S.A 41 124)) (by decide +kernel) (hp41 _) (by decide) (eI_of _) ?_
    refine Ru.ar2 (i := .iadd) (z := (496 + (S.A 41 124))) (by decide +kernel) rfl (ar_add _ _) ?_
    obtain ⟨g1, h⟩ := gd_some h
    obtain ⟨g2, h⟩ := gd_some h
    by_cases b3 : v2 < (496 + (S.A 41 124))
    · replace h := if_t b3 h
      refine Ru.br2 (k := .ge) (off := 58) (bb := false) (tg := 21) (by decide +kernel) (by decide +kernel) (ci_ge0 g1 g2 b3) rfl ?_
      refine Ru.kI (q := (.sipush 496, 3)) (c := 496) (by decide +kernel) rfl (by decide) ?_
      refine Ru.op (q := (.istore_n 3, 1)) (S' := (25, [some (.ref 36), some (vI v1), some (vI v2), some (vI 496)], [], _, _)) (by decide +kernel) rfl ?_
      obtain ⟨o16, e18, h⟩ := ob_some h
      refine g128L25_ok FU _ _ _ e18 _ ?_
      intro d17
      refine Ru.inc (x := v2) (z := (v2 + 1)) (xs' := [some (.ref 36), some (vI o16), some (vI (v2 + 1)), d17]) (by decide +kernel) rfl rfl rfl ?_
      refine Ru.op (q := (.goto (-67), 3)) (by decide +kernel) rfl ?_
      exact ih _ _ _ _ h r hk
    · replace h := if_f b3 h
      refine Ru.br2 (k := .ge) (off := 58) (bb := true) (tg := 76) (by decide +kernel) (by decide +kernel) (ci_ge1 g1 g2 b3) rfl ?_
      cases h
      exact hk _ _ _
def g128 (S : St) : Option (Int) := ob (g128L6 S FU 0 496) (fun o19 => gd (b1R o19) (some o19))
set_option maxRecDepth 100000 in
set_option maxHeartbeats 4000000 in
theorem g128_ok {S : St} {o : Int} (h : g128 S  = some o) : Ru none 14 290 128 (0, mn_pad (mn_ent [.ref 36]) 4, [], S.ns, Hp S) ((0, some (vI o)), S.ns, Hp S) := by
  unfold g128 at h
  show Ru none 14 290 128 (0, [some (.ref 36), none, none, none], [], S.ns, Hp S) _
  refine Ru.kI (q := (.iconst 0, 1)) (c := 0) (by decide +kernel) rfl (by decide) ?_
  refine Ru.op (q := (.istore_n 1, 1)) (S' := (2, [some (.ref 36), some (vI 0), none, none], [], _, _)) (by decide +kernel) rfl ?_
  refine Ru.kI (q := (.sipush 496, 3)) (c := 496) (by decide +kernel) rfl (by decide) ?_
  refine Ru.op (q := (.istore_n 2, 1)) (S' := (6, [some (.ref 36), some (vI 0), some (vI 496), none], [], _, _)) (by decide +kernel) rfl ?_
  obtain ⟨o19, e23, h⟩ := ob_some h
  refine g128L6_ok FU _ _ _ _ e23 _ ?_
  intro d20 d21 d22
  refine Ru.op (q := (.iload_n 1, 1)) (by decide +kernel) rfl ?_
  obtain ⟨g24, h⟩ := gd_some h
  cases h
  exact Ru.iret (by decide +kernel) rfl (nar_b1 g24)
