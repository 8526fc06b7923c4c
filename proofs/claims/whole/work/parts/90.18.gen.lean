def g147L21 (v1 : Int) : Nat → Int → St → Option (Int × St)
  | 0, _, _ => none
  | n + 1, v2, S => if (S.F 36 0) = 0 then gd (inR v2) (gd (inR v1) (if v2 < v1 then ob (g134 S) (fun o7 => gd (inR o7) (if o7 = 0 then ob (g137 S) (fun o11 => gd (inR o11.1) (if o11.1 < 0 then g147L21 v1 n v2 o11.2 else g147L21 v1 n (v2 + 1) o11.2)) else some (v2, S))) else some (v2, S))) else some (v2, S)
set_option maxRecDepth 100000 in
set_option maxHeartbeats 4000000 in
theorem g147L21_ok {v1 : Int} : ∀ (n : Nat) (v2 : Int) (S : St) (d3 : Option Value) (out : Int × St), g147L21 v1 n v2 S = some out → ∀ r, (∀ (e0 e1 e3 : Option Value), Ru none 18 393 147 (60, [e0, e1, some (vI out.1), e3], [], out.2.ns, Hp out.2) r) → Ru none 18 393 147 (21, [some (.ref 36), some (vI v1), some (vI v2), d3], [], S.ns, Hp S) r := by
  intro n
  induction n with
  | zero => intro v2 S d3 out h; cases h
  | succ n ih =>
    intro v2 S d3 out h r hk
    unfold g147L21 at h
    refine Ru.op (q := (.aload_n 0, 1)) (by decide +kernel) rfl ?_
    refine Ru.getI (i := 120) (x := (S.F 36 0)) (by decide +kernel) (by rfl) (hp36 _) (by decide) rfl (eI_of _) ?_
    by_cases b3 : (S.F 36 0) = 0
    · replace h := if_t b3 h
      refine Ru.br (k := .ne) (off := 35) (bb := false) (tg := 28) (by decide +kernel) (by decide +kernel) (cz (ci_ne0 (inR_to _) (by decide) b3)) rfl ?_
      refine Ru.op (q := (.iload_n 2, 1)) (by decide +kernel) rfl ?_
      refine Ru.op (q := (.iload_n 1, 1)) (by decide +kernel) rfl ?_
      obtain ⟨g4, h⟩ := gd_some h
      obtain ⟨g5, h⟩ := gd_some h
      by_cases b6 : v2 < v1
      · replace h := if_t b6 h
        refine Ru.br2 (k := .ge) (off := 30) (bb := false) (tg := 33) (by decide +kernel) (by decide +kernel) (ci_ge0 g4 g5 b6) rfl ?_
        refine Ru.op (q := (.aload_n 0, 1)) (by decide +kernel) rfl ?_
        obtain ⟨o7, e8, h⟩ := ob_some h
        refine Ru.vcall (i := 308) (j2 := 134) (as := []) (by decide +kernel) (by rfl) rfl rfl (hp36 _) (by decide) ⟨(Nat.le_of_ble_eq_true rfl), (by show 19 + 1 ≤ 393; exact Nat.le_of_ble_eq_true rfl), Nat.le_of_ble_eq_true rfl, Nat.le_of_ble_eq_true rfl⟩ ((g134_ok e8).up (Nat.le_of_ble_eq_true rfl) (Nat.le_of_ble_eq_true rfl)) ?_
        obtain ⟨g9, h⟩ := gd_some h
        by_cases b10 : o7 = 0
        · replace h := if_t b10 h
          refine Ru.br (k := .ne) (off := 23) (bb := false) (tg := 40) (by decide +kernel) (by decide +kernel) (cz (ci_ne0 g9 (by decide) b10)) rfl ?_
          refine Ru.op (q := (.aload_n 0, 1)) (by decide +kernel) rfl ?_
          obtain ⟨o11, e12, h⟩ := ob_some h
          refine Ru.vcall (i := 341) (j2 := 137) (as := []) (by decide +kernel) (by rfl) rfl rfl (hp36 _) (by decide) ⟨(Nat.le_of_ble_eq_true rfl), (by show 19 + 6 ≤ 393; exact Nat.le_of_ble_eq_true rfl), Nat.le_of_ble_eq_true rfl, Nat.le_of_ble_eq_true rfl⟩ ((g137_ok e12).up (Nat.le_of_ble_eq_true rfl) (Nat.le_of_ble_eq_true rfl)) ?_
          refine Ru.op (q := (.istore_n 3, 1)) (S' := (45, [some (.ref 36), some (vI v1), some (vI v2), some (vI o11.1)], [], _, _)) (by decide +kernel) rfl ?_
          refine Ru.op (q := (.iload_n 3, 1)) (by decide +kernel) rfl ?_
          obtain ⟨g13, h⟩ := gd_some h
          by_cases b14 : o11.1 < 0
          · replace h := if_t b14 h
            refine Ru.br (k := .lt) (off := 9) (bb := true) (tg := 55) (by decide +kernel) (by decide +kernel) (cz (ci_lt1 g13 (by decide) b14)) rfl ?_
            refine Ru.op (q := (.iload_n 2, 1)) (by decide +kernel) rfl ?_
            refine Ru.op (q := (.istore_n 2, 1)) (S' := (57, [some (.ref 36), some (vI v1), some (vI v2), some (vI o11.1)], [], _, _)) (by decide +kernel) rfl ?_
            refine Ru.op (q := (.goto (-36), 3)) (by decide +kernel) rfl ?_
            exact ih _ _ _ _ h r hk
          · replace h := if_f b14 h
            refine Ru.br (k := .lt) (off := 9) (bb := false) (tg := 49) (by decide +kernel) (by decide +kernel) (cz (ci_lt0 g13 (by decide) b14)) rfl ?_
            refine Ru.op (q := (.iload_n 2, 1)) (by decide +kernel) rfl ?_
            refine Ru.kI (q := (.iconst 1, 1)) (c := 1) (by decide +kernel) rfl (by decide) ?_
            refine Ru.ar2 (i := .iadd) (z := (v2 + 1)) (by decide +kernel) rfl (ar_add _ _) ?_
            refine Ru.op (q := (.goto 4, 3)) (by decide +kernel) rfl ?_
            refine Ru.op (q := (.istore_n 2, 1)) (S' := (57, [some (.ref 36), some (vI v1), some (vI (v2 + 1)), some (vI o11.1)], [], _, _)) (by decide +kernel) rfl ?_
            refine Ru.op (q := (.goto (-36), 3)) (by decide +kernel) rfl ?_
            exact ih _ _ _ _ h r hk
        · replace h := if_f b10 h
          refine Ru.br (k := .ne) (off := 23) (bb := true) (tg := 60) (by decide +kernel) (by decide +kernel) (cz (ci_ne1 g9 (by decide) b10)) rfl ?_
          cases h
          exact hk _ _ _
      · replace h := if_f b6 h
        refine Ru.br2 (k := .ge) (off := 30) (bb := true) (tg := 60) (by decide +kernel) (by decide +kernel) (ci_ge1 g4 g5 b6) rfl ?_
        cases h
        exact hk _ _ _
    · replace h := if_f b3 h
      refine Ru.br (k := .ne) (off := 35) (bb := true) (tg := 60) (by decide +kernel) (by decide +kernel) (cz (ci_ne1 (inR_to _) (by decide) b3)) rfl ?_
      cases h
      exact hk _ _ _
def g147 (S : St) (v1 : Int) : Option (Int × St) := gd (inR v1) (if v1 < 0 then ob (g147L21 v1 FU 0 (S.f 36 0 1)) (fun o15 => some (o15.1, o15.2)) else if 50 < v1 then ob (g147L21 v1 FU 0 (S.f 36 0 1)) (fun o21 => some (o21.1, o21.2)) else ob (g147L21 v1 FU 0 (S.f 36 0 0)) (fun o26 => some (o26.1, o26.2)))
set_option maxRecDepth 100000 in
set_option maxHeartbeats 4000000 in
theorem g147_ok {S : St} {v1 : Int} {o : Int × St} (h : g147 S v1 = some o) : Ru none 18 393 147 (0, mn_pad (mn_ent [.ref 36, vI v1]) 4, [], S.ns, Hp S) ((0, some (vI o.1)), o.2.ns, Hp o.2) := by
  unfold g147 at h
  show Ru none 18 393 147 (0, [some (.ref 36), some (vI v1), none, none], [], S.ns, Hp S) _
  refine Ru.op (q := (.aload_n 0, 1)) (by decide +kernel) rfl ?_
  refine Ru.op (q := (.iload_n 1, 1)) (by decide +kernel) rfl ?_
  obtain ⟨g1, h⟩ := gd_some h
  by_cases b2 : v1 < 0
  · replace h := if_t b2 h
    refine Ru.br (k := .lt) (off := 9) (bb := true) (tg := 11) (by decide +kernel) (by decide +kernel) (cz (ci_lt1 g1 (by decide) b2)) rfl ?_
    refine Ru.kI (q := (.iconst 1, 1)) (c := 1) (by decide +kernel) rfl (by decide) ?_
    refine Ru.op (q := (.goto 4, 3)) (by decide +kernel) rfl ?_
    refine Ru.putH (i := 120) (by decide +kernel) (by rfl) (hp36 _) (by decide) (Nat.le_of_ble_eq_true rfl) rfl (by decide +kernel) (pf_36_0 _ _) ?_
    refine Ru.kI (q := (.iconst 0, 1)) (c := 0) (by decide +kernel) rfl (by decide) ?_
    refine Ru.op (q := (.istore_n 2, 1)) (S' := (21, [some (.ref 36), some (vI v1), some (vI 0), none], [], _, _)) (by decide +kernel) rfl ?_
    obtain ⟨o15, e19, h⟩ := ob_some h
    refine g147L21_ok FU _ _ _ _ e19 _ ?_
    intro d16 d17 d18
    refine Ru.op (q := (.iload_n 2, 1)) (by decide +kernel) rfl ?_
    cases h
    exact Ru.iret (by decide +kernel) rfl rfl
  · replace h := if_f b2 h
    refine Ru.br (k := .lt) (off := 9) (bb := false) (tg := 5) (by decide +kernel) (by decide +kernel) (cz (ci_lt0 g1 (by decide) b2)) rfl ?_
    refine Ru.op (q := (.iload_n 1, 1)) (by decide +kernel) rfl ?_
    refine Ru.kI (q := (.bipush 50, 2)) (c := 50) (by decide +kernel) rfl (by decide) ?_
    by_cases b20 : 50 < v1
    · replace h := if_t b20 h
      refine Ru.br2 (k := .le) (off := 7) (bb := false) (tg := 11) (by decide +kernel) (by decide +kernel) (ci_le0 g1 (by decide) b20) rfl ?_
      refine Ru.kI (q := (.iconst 1, 1)) (c := 1) (by decide +kernel) rfl (by decide) ?_
      refine Ru.op (q := (.goto 4, 3)) (by decide +kernel) rfl ?_
      refine Ru.putH (i := 120) (by decide +kernel) (by rfl) (hp36 _) (by decide) (Nat.le_of_ble_eq_true rfl) rfl (by decide +kernel) (pf_36_0 _ _) ?_
      refine Ru.kI (q := (.iconst 0, 1)) (c := 0) (by decide +kernel) rfl (by decide) ?_
      refine Ru.op (q := (.istore_n 2, 1)) (S' := (21, [some (.ref 36), some (vI v1), some (vI 0), none], [], _, _)) (by decide +kernel) rfl ?_
      obtain ⟨o21, e25, h⟩ := ob_some h
      refine g147L21_ok FU _ _ _ _ e25 _ ?_
      intro d22 d23 d24
      refine Ru.op (q := (.iload_n 2, 1)) (by decide +kernel) rfl ?_
      cases h
      exact Ru.iret (by decide +kernel) rfl rfl
    · replace h := if_f b20 h
      refine Ru.br2 (k := .le) (off := 7) (bb := true) (tg := 15) (by decide +kernel) (by decide +kernel) (ci_le1 g1 (by decide) b20) rfl ?_
      refine Ru.kI (q := (.iconst 0, 1)) (c := 0) (by decide +kernel) rfl (by decide) ?_
      refine Ru.putH (i := 120) (by decide +kernel) (by rfl) (hp36 _) (by decide) (Nat.le_of_ble_eq_true rfl) rfl (by decide +kernel) (pf_36_0 _ _) ?_
      refine Ru.kI (q := (.iconst 0, 1)) (c := 0) (by decide +kernel) rfl (by decide) ?_
      refine Ru.op (q := (.istore_n 2, 1)) (S' := (21, [some (.ref 36), some (vI v1), some (vI 0), none], [], _, _)) (by decide +kernel) rfl ?_
      obtain ⟨o26, e30, h⟩ := ob_some h
      refine g147L21_ok FU _ _ _ _ e30 _ ?_
      intro d27 d28 d29
      refine Ru.op (q := (.iload_n 2, 1)) (by decide +kernel) rfl ?_
      cases h
      exact Ru.iret (by decide +kernel) rfl rfl
def g149 (S : St) (v1 : Int) : Option (St) := gd (ixR (S.F 36 56) 400) (some ((S.a 69 (S.F 36 56) v1).f 36 56 ((S.F 36 56) + 1)))
set_option maxRecDepth 100000 in
set_option maxHeartbeats 4000000 in
theorem g149_ok {S : St} {v1 : Int} {o : St} (h : g149 S v1 = some o) : Ru none 10 200 149 (0, mn_pad (mn_ent [.ref 36, vI v1]) 2, [], S.ns, Hp S) ((0, none), o.ns, Hp o) := by
  unfold g149 at h
  show Ru none 10 200 149 (0, [some (.ref 36), some (vI v1)], [], S.ns, Hp S) _
  refine Ru.op (q := (.aload_n 0, 1)) (by decide +kernel) rfl ?_
  refine Ru.get (i := 114) (v := .ref 69) (by decide +kernel) (by rfl) (hp36 _) (by decide) rfl ?_
  refine Ru.op (q := (.aload_n 0, 1)) (by decide +kernel) rfl ?_
  refine Ru.getI (i := 344) (x := (S.F 36 56)) (by decide +kernel) (by rfl) (hp36 _) (by decide) rfl (eI_of _) ?_
  refine Ru.op (q := (.iload_n 1, 1)) (by decide +kernel) rfl ?_
  obtain ⟨g1, h⟩ := gd_some h
  refine Ru.istI (i := (S.F 36 56)) (x := v1) (by decide +kernel) (hp69 _) g1 (ps_69 _ _ _) ?_
  refine Ru.op (q := (.aload_n 0, 1)) (by decide +kernel) rfl ?_
  refine Ru.op (q := (.dup, 1)) (by decide +kernel) rfl ?_
  refine Ru.getI (i := 344) (x := (S.F 36 56)) (by decide +kernel) (by rfl) (hp36 _) (by decide) rfl (eI_of _) ?_
  refine Ru.kI (q := (.iconst 1, 1)) (c := 1) (by decide +kernel) rfl (by decide) ?_
  refine Ru.ar2 (i := .iadd) (z := ((S.F 36 56) + 1)) (by decide +kernel) rfl (ar_add _ _) ?_
  refine Ru.putH (i := 344) (by decide +kernel) (by rfl) (hp36 _) (by decide) (Nat.le_of_ble_eq_true rfl) rfl (by decide +kernel) (pf_36_56 _ _) ?_
  cases h
  exact Ru.end (q := (.return_, 1)) (by decide +kernel) rfl rfl
def g152 (S : St) (v1 : Int) : Option (St) := gd (inR v1) (if 9 < v1 then gd (dvR v1 10) (ob (g149 S (48 + (v1 / 10))) (fun o4 => ob (g149 o4 (48 + (v1 % 10))) (fun o6 => some o6))) else gd (dvR v1 10) (ob (g149 S (48 + (v1 % 10))) (fun o9 => some o9)))
set_option maxRecDepth 100000 in
set_option maxHeartbeats 4000000 in
theorem g152_ok {S : St} {v1 : Int} {o : St} (h : g152 S v1 = some o) : Ru none 11 221 152 (0, mn_pad (mn_ent [.ref 36, vI v1]) 2, [], S.ns, Hp S) ((0, none), o.ns, Hp o) := by
  unfold g152 at h
  show Ru none 11 221 152 (0, [some (.ref 36), some (vI v1)], [], S.ns, Hp S) _
  refine Ru.op (q := (.iload_n 1, 1)) (by decide +kernel) rfl ?_
  refine Ru.kI (q := (.bipush 9, 2)) (c := 9) (by decide +kernel) rfl (by decide) ?_
  obtain ⟨g1, h⟩ := gd_some h
  by_cases b2 : 9 < v1
  · replace h := if_t b2 h
    refine Ru.br2 (k := .le) (off := 14) (bb := false) (tg := 6) (by decide +kernel) (by decide +kernel) (ci_le0 g1 (by decide) b2) rfl ?_
    refine Ru.op (q := (.aload_n 0, 1)) (by decide +kernel) rfl ?_
    refine Ru.kI (q := (.bipush 48, 2)) (c := 48) (by decide +kernel) rfl (by decide) ?_
    refine Ru.op (q := (.iload_n 1, 1)) (by decide +kernel) rfl ?_
    refine Ru.kI (q := (.bipush 10, 2)) (c := 10) (by decide +kernel) rfl (by decide) ?_
    obtain ⟨g3, h⟩ := gd_some h
    refine Ru.ar2 (i := .idiv) (z := (v1 / 10)) (by decide +kernel) rfl (ar_div g3) ?_
    refine Ru.ar2 (i := .iadd) (z := (48 + (v1 / 10))) (by decide +kernel) rfl (ar_add _ _) ?_
    obtain ⟨o4, e5, h⟩ := ob_some h
    refine Ru.vcall (i := 347) (j2 := 149) (as := [vI (48 + (v1 / 10))]) (by decide +kernel) (by rfl) rfl rfl (hp36 _) (by decide) ⟨(Nat.le_of_ble_eq_true rfl), (by show 19 + 2 ≤ 221; exact Nat.le_of_ble_eq_true rfl), Nat.le_of_ble_eq_true rfl, Nat.le_of_ble_eq_true rfl⟩ ((g149_ok e5).up (Nat.le_of_ble_eq_true rfl) (Nat.le_of_ble_eq_true rfl)) ?_
    refine Ru.op (q := (.aload_n 0, 1)) (by decide +kernel) rfl ?_
    refine Ru.kI (q := (.bipush 48, 2)) (c := 48) (by decide +kernel) rfl (by decide) ?_
    refine Ru.op (q := (.iload_n 1, 1)) (by decide +kernel) rfl ?_
    refine Ru.kI (q := (.bipush 10, 2)) (c := 10) (by decide +kernel) rfl (by decide) ?_
    refine Ru.ar2 (i := .irem) (z := (v1 % 10)) (by decide +kernel) rfl (ar_rem g3) ?_
    refine Ru.ar2 (i := .iadd) (z := (48 + (v1 % 10))) (by decide +kernel) rfl (ar_add _ _) ?_
    obtain ⟨o6, e7, h⟩ := ob_some h
    refine Ru.vcall (i := 347) (j2 := 149) (as := [vI (48 + (v1 % 10))]) (by decide +kernel) (by rfl) rfl rfl (hp36 _) (by decide) ⟨(Nat.le_of_ble_eq_true rfl), (by show 19 + 2 ≤ 221; exact Nat.le_of_ble_eq_true rfl), Nat.le_of_ble_eq_true rfl, Nat.le_of_ble_eq_true rfl⟩ ((g149_ok e7).up (Nat.le_of_ble_eq_true rfl) (Nat.le_of_ble_eq_true rfl)) ?_
    cases h
    exact Ru.end (q := (.return_, 1)) (by decide +kernel) rfl rfl
  · replace h := if_f b2 h
    refine Ru.br2 (k := .le) (off := 14) (bb := true) (tg := 17) (by decide +kernel) (by decide +kernel) (ci_le1 g1 (by decide) b2) rfl ?_
    refine Ru.op (q := (.aload_n 0, 1)) (by decide +kernel) rfl ?_
    refine Ru.kI (q := (.bipush 48, 2)) (c := 48) (by decide +kernel) rfl (by decide) ?_
    refine Ru.op (q := (.iload_n 1, 1)) (by decide +kernel) rfl ?_
    refine Ru.kI (q := (.bipush 10, 2)) (c := 10) (by decide +kernel) rfl (by decide) ?_
    obtain ⟨g8, h⟩ := gd_some h
    refine Ru.ar2 (i := .irem) (z := (v1 % 10)) (by decide +kernel) rfl (ar_rem g8) ?_
    refine Ru.ar2 (i := .iadd) (z := (48 + (v1 % 10))) (by decide +kernel) rfl (ar_add _ _) ?_
    obtain ⟨o9, e10, h⟩ := ob_some h
    refine Ru.vcall (i := 347) (j2 := 149) (as := [vI (48 + (v1 % 10))]) (by decide +kernel) (by rfl) rfl rfl (hp36 _) (by decide) ⟨(Nat.le_of_ble_eq_true rfl), (by show 19 + 2 ≤ 221; exact Nat.le_of_ble_eq_true rfl), Nat.le_of_ble_eq_true rfl, Nat.le_of_ble_eq_true rfl⟩ ((g149_ok e10).up (Nat.le_of_ble_eq_true rfl) (Nat.le_of_ble_eq_true rfl)) ?_
    cases h
    exact Ru.end (q := (.return_, 1)) (by decide +kernel) rfl rfl
def g151 (S : St) (v1 : Int) : Option (St) := ob (g122 S v1) (fun o1 => gd (inR o1) (if o1 = 0 then gd (dvR (v1 - 4096) 128) (gd (dvR ((v1 - 4096) / 128) 128) (ob (g149 S (((v1 - 4096) / 128) % 128)) (fun o7 => gd (inR ((v1 - 4096) / 128)) (if ((v1 - 4096) / 128) < 128 then some o7 else gd (inR (((v1 - 4096) / 128) % 128)) (if (((v1 - 4096) / 128) % 128) = 36 then ob (g152 o7 (((v1 - 4096) / 128) / 128)) (fun o13 => some o13) else ob (g152 o7 ((((v1 - 4096) / 128) / 128) - 1)) (fun o15 => some o15)))))) else gd (dvR v1 3) (ob (g149 S (120 + (v1 % 3))) (fun o18 => gd (inR v1) (if 2 < v1 then ob (g152 o18 (v1 / 3)) (fun o22 => some o22) else some o18)))))
set_option maxRecDepth 100000 in
set_option maxHeartbeats 4000000 in
theorem g151_ok {S : St} {v1 : Int} {o : St} (h : g151 S v1 = some o) : Ru none 12 242 151 (0, mn_pad (mn_ent [.ref 36, vI v1]) 3, [], S.ns, Hp S) ((0, none), o.ns, Hp o) := by
  unfold g151 at h
  show Ru none 12 242 151 (0, [some (.ref 36), some (vI v1), none], [], S.ns, Hp S) _
  refine Ru.op (q := (.iload_n 1, 1)) (by decide +kernel) rfl ?_
  obtain ⟨o1, e2, h⟩ := ob_some h
  refine Ru.call (q := (.invokestatic 132, 3)) (j2 := 122) (as := [vI v1]) (by decide +kernel) rfl rfl rfl rfl ⟨(Nat.le_of_ble_eq_true rfl), (by show 19 + 1 ≤ 242; exact Nat.le_of_ble_eq_true rfl), Nat.le_of_ble_eq_true rfl, Nat.le_of_ble_eq_true rfl⟩ ((g122_ok e2).up (Nat.le_of_ble_eq_true rfl) (Nat.le_of_ble_eq_true rfl)) ?_
  obtain ⟨g3, h⟩ := gd_some h
  by_cases b4 : o1 = 0
  · replace h := if_t b4 h
    refine Ru.br (k := .eq) (off := 26) (bb := true) (tg := 30) (by decide +kernel) (by decide +kernel) (cz (ci_eq1 g3 (by decide) b4)) rfl ?_
    refine Ru.op (q := (.iload_n 1, 1)) (by decide +kernel) rfl ?_
    refine Ru.kI (q := (.sipush 4096, 3)) (c := 4096) (by decide +kernel) rfl (by decide) ?_
    refine Ru.ar2 (i := .isub) (z := (v1 - 4096)) (by decide +kernel) rfl (ar_sub _ _) ?_
    refine Ru.kI (q := (.sipush 128, 3)) (c := 128) (by decide +kernel) rfl (by decide) ?_
    obtain ⟨g5, h⟩ := gd_some h
    refine Ru.ar2 (i := .idiv) (z := ((v1 - 4096) / 128)) (by decide +kernel) rfl (ar_div g5) ?_
    refine Ru.op (q := (.istore_n 2, 1)) (S' := (40, [some (.ref 36), some (vI v1), some (vI ((v1 - 4096) / 128))], [], _, _)) (by decide +kernel) rfl ?_
    refine Ru.op (q := (.aload_n 0, 1)) (by decide +kernel) rfl ?_
    refine Ru.op (q := (.iload_n 2, 1)) (by decide +kernel) rfl ?_
    refine Ru.kI (q := (.sipush 128, 3)) (c := 128) (by decide +kernel) rfl (by decide) ?_
    obtain ⟨g6, h⟩ := gd_some h
    refine Ru.ar2 (i := .irem) (z := (((v1 - 4096) / 128) % 128)) (by decide +kernel) rfl (ar_rem g6) ?_
    obtain ⟨o7, e8, h⟩ := ob_some h
    refine Ru.vcall (i := 347) (j2 := 149) (as := [vI (((v1 - 4096) / 128) % 128)]) (by decide +kernel) (by rfl) rfl rfl (hp36 _) (by decide) ⟨(Nat.le_of_ble_eq_true rfl), (by show 19 + 2 ≤ 242; exact Nat.le_of_ble_eq_true rfl), Nat.le_of_ble_eq_true rfl, Nat.le_of_ble_eq_true rfl⟩ ((g149_ok e8).up (Nat.le_of_ble_eq_true rfl) (Nat.le_of_ble_eq_true rfl)) ?_
    refine Ru.op (q := (.iload_n 2, 1)) (by decide +kernel) rfl ?_
    refine Ru.kI (q := (.sipush 128, 3)) (c := 128) (by decide +kernel) rfl (by decide) ?_
    obtain ⟨g9, h⟩ := gd_some h
    by_cases b10 : ((v1 - 4096) / 128) < 128
    · replace h := if_t b10 h
      refine Ru.br2 (k := .lt) (off := 32) (bb := true) (tg := 85) (by decide +kernel) (by decide +kernel) (ci_lt1 g9 (by decide) b10) rfl ?_
      cases h
      exact Ru.end (q := (.return_, 1)) (by decide +kernel) rfl rfl
    · replace h := if_f b10 h
      refine Ru.br2 (k := .lt) (off := 32) (bb := false) (tg := 56) (by decide +kernel) (by decide +kernel) (ci_lt0 g9 (by decide) b10) rfl ?_
      refine Ru.op (q := (.aload_n 0, 1)) (by decide +kernel) rfl ?_
      refine Ru.op (q := (.iload_n 2, 1)) (by decide +kernel) rfl ?_
      refine Ru.kI (q := (.sipush 128, 3)) (c := 128) (by decide +kernel) rfl (by decide) ?_
      refine Ru.ar2 (i := .irem) (z := (((v1 - 4096) / 128) % 128)) (by decide +kernel) rfl (ar_rem g6) ?_
      refine Ru.kI (q := (.bipush 36, 2)) (c := 36) (by decide +kernel) rfl (by decide) ?_
      obtain ⟨g11, h⟩ := gd_some h
      by_cases b12 : (((v1 - 4096) / 128) % 128) = 36
      · replace h := if_t b12 h
        refine Ru.br2 (k := .ne) (off := 11) (bb := false) (tg := 67) (by decide +kernel) (by decide +kernel) (ci_ne0 g11 (by decide) b12) rfl ?_
        refine Ru.op (q := (.iload_n 2, 1)) (by decide +kernel) rfl ?_
        refine Ru.kI (q := (.sipush 128, 3)) (c := 128) (by decide +kernel) rfl (by decide) ?_
        refine Ru.ar2 (i := .idiv) (z := (((v1 - 4096) / 128) / 128)) (by decide +kernel) rfl (ar_div g6) ?_
        refine Ru.op (q := (.goto 10, 3)) (by decide +kernel) rfl ?_
        obtain ⟨o13, e14, h⟩ := ob_some h
        refine Ru.vcall (i := 350) (j2 := 152) (as := [vI (((v1 - 4096) / 128) / 128)]) (by decide +kernel) (by rfl) rfl rfl (hp36 _) (by decide) ⟨(Nat.le_of_ble_eq_true rfl), (by show 19 + 2 ≤ 242; exact Nat.le_of_ble_eq_true rfl), Nat.le_of_ble_eq_true rfl, Nat.le_of_ble_eq_true rfl⟩ ((g152_ok e14).up (Nat.le_of_ble_eq_true rfl) (Nat.le_of_ble_eq_true rfl)) ?_
        cases h
        exact Ru.end (q := (.return_, 1)) (by decide +kernel) rfl rfl
      · replace h := if_f b12 h
        refine Ru.br2 (k := .ne) (off := 11) (bb := true) (tg := 75) (by decide +kernel) (by decide +kernel) (ci_ne1 g11 (by decide) b12) rfl ?_
        refine Ru.op (q := (.iload_n 2, 1)) (by decide +kernel) rfl ?_
        refine Ru.kI (q := (.sipush 128, 3)) (c := 128) (by decide +kernel) rfl (by decide) ?_
        refine Ru.ar2 (i := .idiv) (z := (((v1 - 4096) / 128) / 128)) (by decide +kernel) rfl (ar_div g6) ?_
        refine Ru.kI (q := (.iconst 1, 1)) (c := 1) (by decide +kernel) rfl (by decide) ?_
        refine Ru.ar2 (i := .isub) (z := ((((v1 - 4096) / 128) / 128) - 1)) (by decide +kernel) rfl (ar_sub _ _) ?_
        obtain ⟨o15, e16, h⟩ := ob_some h
        refine Ru.vcall (i := 350) (j2 := 152) (as := [vI ((((v1 - 4096) / 128) / 128) - 1)]) (by decide +kernel) (by rfl) rfl rfl (hp36 _) (by decide) ⟨(Nat.le_of_ble_eq_true rfl), (by show 19 + 2 ≤ 242; exact Nat.le_of_ble_eq_true rfl), Nat.le_of_ble_eq_true rfl, Nat.le_of_ble_eq_true rfl⟩ ((g152_ok e16).up (Nat.le_of_ble_eq_true rfl) (Nat.le_of_ble_eq_true rfl)) ?_
        cases h
        exact Ru.end (q := (.return_, 1)) (by decide +kernel) rfl rfl
  · replace h := if_f b4 h
    refine Ru.br (k := .eq) (off := 26) (bb := false) (tg := 7) (by decide +kernel) (by decide +kernel) (cz (ci_eq0 g3 (by decide) b4)) rfl ?_
    refine Ru.op (q := (.aload_n 0, 1)) (by decide +kernel) rfl ?_
    refine Ru.kI (q := (.bipush 120, 2)) (c := 120) (by decide +kernel) rfl (by decide) ?_
    refine Ru.op (q := (.iload_n 1, 1)) (by decide +kernel) rfl ?_
    refine Ru.kI (q := (.iconst 3, 1)) (c := 3) (by decide +kernel) rfl (by decide) ?_
    obtain ⟨g17, h⟩ := gd_some h
    refine Ru.ar2 (i := .irem) (z := (v1 % 3)) (by decide +kernel) rfl (ar_rem g17) ?_
    refine Ru.ar2 (i := .iadd) (z := (120 + (v1 % 3))) (by decide +kernel) rfl (ar_add _ _) ?_
    obtain ⟨o18, e19, h⟩ := ob_some h
    refine Ru.vcall (i := 347) (j2 := 149) (as := [vI (120 + (v1 % 3))]) (by decide +kernel) (by rfl) rfl rfl (hp36 _) (by decide) ⟨(Nat.le_of_ble_eq_true rfl), (by show 19 + 2 ≤ 242; exact Nat.le_of_ble_eq_true rfl), Nat.le_of_ble_eq_true rfl, Nat.le_of_ble_eq_true rfl⟩ ((g149_ok e19).up (Nat.le_of_ble_eq_true rfl) (Nat.le_of_ble_eq_true rfl)) ?_
    refine Ru.op (q := (.iload_n 1, 1)) (by decide +kernel) rfl ?_
    refine Ru.kI (q := (.iconst 2, 1)) (c := 2) (by decide +kernel) rfl (by decide) ?_
    obtain ⟨g20, h⟩ := gd_some h
    by_cases b21 : 2 < v1
    · replace h := if_t b21 h
      refine Ru.br2 (k := .le) (off := 10) (bb := false) (tg := 22) (by decide +kernel) (by decide +kernel) (ci_le0 g20 (by decide) b21) rfl ?_
      refine Ru.op (q := (.aload_n 0, 1)) (by decide +kernel) rfl ?_
      refine Ru.op (q := (.iload_n 1, 1)) (by decide +kernel) rfl ?_
      refine Ru.kI (q := (.iconst 3, 1)) (c := 3) (by decide +kernel) rfl (by decide) ?_
      refine Ru.ar2 (i := .idiv) (z := (v1 / 3)) (by decide +kernel) rfl (ar_div g17) ?_
      obtain ⟨o22, e23, h⟩ := ob_some h
      refine Ru.vcall (i := 350) (j2 := 152) (as := [vI (v1 / 3)]) (by decide +kernel) (by rfl) rfl rfl (hp36 _) (by decide) ⟨(Nat.le_of_ble_eq_true rfl), (by show 19 + 2 ≤ 242; exact Nat.le_of_ble_eq_true rfl), Nat.le_of_ble_eq_true rfl, Nat.le_of_ble_eq_true rfl⟩ ((g152_ok e23).up (Nat.le_of_ble_eq_true rfl) (Nat.le_of_ble_eq_true rfl)) ?_
      cases h
      exact Ru.end (q := (.return_, 1)) (by decide +kernel) rfl rfl
    · replace h := if_f b21 h
      refine Ru.br2 (k := .le) (off := 10) (bb := true) (tg := 29) (by decide +kernel) (by decide +kernel) (ci_le1 g20 (by decide) b21) rfl ?_
      cases h
      exact Ru.end (q := (.return_, 1)) (by decide +kernel) rfl rfl
def g150L77 (v2 : Int) (v4 : Int) : Nat → Int → Int → St → Option (Int × St)
  | 0, _, _, _ => none
  | n + 1, v3, v6, S => gd (inR v6) (if v6 = 0 then some (v3, S) else gd (inR v3) (if 0 < v3 then gd (ixR (v3 - 1) 16) (if ((S.a 68 (v3 - 1) ((S.A 68 (v3 - 1)) - 1)).A 68 (v3 - 1)) = 0 then ob (g149 (S.a 68 (v3 - 1) ((S.A 68 (v3 - 1)) - 1)) 41) (fun o23 => g150L77 v2 v4 n (v3 - 1) 1 o23) else ob (g149 (S.a 68 (v3 - 1) ((S.A 68 (v3 - 1)) - 1)) 44) (fun o25 => g150L77 v2 v4 n v3 0 o25)) else some (v3, S)))
set_option maxRecDepth 100000 in
set_option maxHeartbeats 4000000 in
theorem g150L77_ok {v2 : Int} {v4 : Int} : ∀ (n : Nat) (v3 : Int) (v6 : Int) (S : St) (d1 d5 : Option Value) (out : Int × St), g150L77 v2 v4 n v3 v6 S = some out → ∀ r, (∀ (e1 e5 e6 : Option Value), Ru none 13 264 150 (154, [some (.ref 36), e1, some (vI v2), some (vI out.1), some (vI v4), e5, e6], [], out.2.ns, Hp out.2) r) → Ru none 13 264 150 (77, [some (.ref 36), d1, some (vI v2), some (vI v3), some (vI v4), d5, some (vI v6)], [], S.ns, Hp S) r := by
  intro n
  induction n with
  | zero => intro v3 v6 S d1 d5 out h; cases h
  | succ n ih =>
    intro v3 v6 S d1 d5 out h r hk
    unfold g150L77 at h
    refine Ru.op (q := (.iload 6, 2)) (by decide +kernel) rfl ?_
    obtain ⟨g17, h⟩ := gd_some h
    by_cases b18 : v6 = 0
    · replace h := if_t b18 h
      refine Ru.br (k := .eq) (off := 75) (bb := true) (tg := 154) (by decide +kernel) (by decide +kernel) (cz (ci_eq1 g17 (by decide) b18)) rfl ?_
      cases h
      exact hk _ _ _
    · replace h := if_f b18 h
      refine Ru.br (k := .eq) (off := 75) (bb := false) (tg := 82) (by decide +kernel) (by decide +kernel) (cz (ci_eq0 g17 (by decide) b18)) rfl ?_
      refine Ru.op (q := (.iload_n 3, 1)) (by decide +kernel) rfl ?_
      obtain ⟨g19, h⟩ := gd_some h
      by_cases b20 : 0 < v3
      · replace h := if_t b20 h
        refine Ru.br (k := .le) (off := 71) (bb := false) (tg := 86) (by decide +kernel) (by decide +kernel) (cz (ci_le0 g19 (by decide) b20)) rfl ?_
        refine Ru.op (q := (.aload_n 0, 1)) (by decide +kernel) rfl ?_
        refine Ru.get (i := 111) (v := .ref 68) (by decide +kernel) (by rfl) (hp36 _) (by decide) rfl ?_
        refine Ru.op (q := (.iload_n 3, 1)) (by decide +kernel) rfl ?_
        refine Ru.kI (q := (.iconst 1, 1)) (c := 1) (by decide +kernel) rfl (by decide) ?_
        refine Ru.ar2 (i := .isub) (z := (v3 - 1)) (by decide +kernel) rfl (ar_sub _ _) ?_
        refine Ru.op (q := (.aload_n 0, 1)) (by decide +kernel) rfl ?_
        refine Ru.get (i := 111) (v := .ref 68) (by decide +kernel) (by rfl) (hp36 _) (by decide) rfl ?_
        refine Ru.op (q := (.iload_n 3, 1)) (by decide +kernel) rfl ?_
        refine Ru.kI (q := (.iconst 1, 1)) (c := 1) (by decide +kernel) rfl (by decide) ?_
        refine Ru.ar2 (i := .isub) (z := (v3 - 1)) (by decide +kernel) rfl (ar_sub _ _) ?_
        obtain ⟨g21, h⟩ := gd_some h
        refine Ru.ildI (i := (v3 - 1)) (z := (S.A 68 (v3 - 1))) (by decide +kernel) (hp68 _) g21 (eI_of _) ?_
        refine Ru.kI (q := (.iconst 1, 1)) (c := 1) (by decide +kernel) rfl (by decide) ?_
        refine Ru.ar2 (i := .isub) (z := ((S.A 68 (v3 - 1)) - 1)) (by decide +kernel) rfl (ar_sub _ _) ?_
        refine Ru.istI (i := (v3 - 1)) (x := ((S.A 68 (v3 - 1)) - 1)) (by decide +kernel) (hp68 _) g21 (ps_68 _ _ _) ?_
        refine Ru.op (q := (.aload_n 0, 1)) (by decide +kernel) rfl ?_
        refine Ru.get (i := 111) (v := .ref 68) (by decide +kernel) (by rfl) (hp36 _) (by decide) rfl ?_
        refine Ru.op (q := (.iload_n 3, 1)) (by decide +kernel) rfl ?_
        refine Ru.kI (q := (.iconst 1, 1)) (c := 1) (by decide +kernel) rfl (by decide) ?_
        refine Ru.ar2 (i := .isub) (z := (v3 - 1)) (by decide +kernel) rfl (ar_sub _ _) ?_
        refine Ru.ildI (i := (v3 - 1)) (z := ((S.a 68 (v3 - 1) ((S.A 68 (v3 - 1)) - 1)).A 68 (v3 - 1))) (by decide +kernel) (hp68 _) g21 (eI_of _) ?_
        by_cases b22 : ((S.a 68 (v3 - 1) ((S.A 68 (v3 - 1)) - 1)).A 68 (v3 - 1)) = 0
        · replace h := if_t b22 h
          refine Ru.br (k := .ne) (off := 7) (bb := false) (tg := 115) (by decide +kernel) (by decide +kernel) (cz (ci_ne0 (inR_to _) (by decide) b22)) rfl ?_
          refine Ru.kI (q := (.iconst 1, 1)) (c := 1) (by decide +kernel) rfl (by decide) ?_
          refine Ru.op (q := (.goto 4, 3)) (by decide +kernel) rfl ?_
          refine Ru.op (q := (.istore 6, 2)) (S' := (122, [some (.ref 36), d1, some (vI v2), some (vI v3), some (vI v4), d5, some (vI 1)], [], _, _)) (by decide +kernel) rfl ?_
          refine Ru.op (q := (.aload_n 0, 1)) (by decide +kernel) rfl ?_
          refine Ru.op (q := (.iload 6, 2)) (by decide +kernel) rfl ?_
          refine Ru.br (k := .eq) (off := 8) (bb := false) (tg := 128) (by decide +kernel) (by decide +kernel) (by decide) rfl ?_
          refine Ru.kI (q := (.bipush 41, 2)) (c := 41) (by decide +kernel) rfl (by decide) ?_
          refine Ru.op (q := (.goto 5, 3)) (by decide +kernel) rfl ?_
          obtain ⟨o23, e24, h⟩ := ob_some h
          refine Ru.vcall (i := 347) (j2 := 149) (as := [vI 41]) (by decide +kernel) (by rfl) rfl rfl (hp36 _) (by decide) ⟨(Nat.le_of_ble_eq_true rfl), (by show 19 + 2 ≤ 264; exact Nat.le_of_ble_eq_true rfl), Nat.le_of_ble_eq_true rfl, Nat.le_of_ble_eq_true rfl⟩ ((g149_ok e24).up (Nat.le_of_ble_eq_true rfl) (Nat.le_of_ble_eq_true rfl)) ?_
          refine Ru.op (q := (.iload 6, 2)) (by decide +kernel) rfl ?_
          refine Ru.br (k := .eq) (off := 9) (bb := false) (tg := 143) (by decide +kernel) (by decide +kernel) (by decide) rfl ?_
          refine Ru.op (q := (.iload_n 3, 1)) (by decide +kernel) rfl ?_
          refine Ru.kI (q := (.iconst 1, 1)) (c := 1) (by decide +kernel) rfl (by decide) ?_
          refine Ru.ar2 (i := .isub) (z := (v3 - 1)) (by decide +kernel) rfl (ar_sub _ _) ?_
          refine Ru.op (q := (.goto 4, 3)) (by decide +kernel) rfl ?_
          refine Ru.op (q := (.istore_n 3, 1)) (S' := (151, [some (.ref 36), d1, some (vI v2), some (vI (v3 - 1)), some (vI v4), d5, some (vI 1)], [], _, _)) (by decide +kernel) rfl ?_
          refine Ru.op (q := (.goto (-74), 3)) (by decide +kernel) rfl ?_
          exact ih _ _ _ _ _ _ h r hk
        · replace h := if_f b22 h
          refine Ru.br (k := .ne) (off := 7) (bb := true) (tg := 119) (by decide +kernel) (by decide +kernel) (cz (ci_ne1 (inR_to _) (by decide) b22)) rfl ?_
          refine Ru.kI (q := (.iconst 0, 1)) (c := 0) (by decide +kernel) rfl (by decide) ?_
          refine Ru.op (q := (.istore 6, 2)) (S' := (122, [some (.ref 36), d1, some (vI v2), some (vI v3), some (vI v4), d5, some (vI 0)], [], _, _)) (by decide +kernel) rfl ?_
          refine Ru.op (q := (.aload_n 0, 1)) (by decide +kernel) rfl ?_
          refine Ru.op (q := (.iload 6, 2)) (by decide +kernel) rfl ?_
          refine Ru.br (k := .eq) (off := 8) (bb := true) (tg := 133) (by decide +kernel) (by decide +kernel) (by decide) rfl ?_
          refine Ru.kI (q := (.bipush 44, 2)) (c := 44) (by decide +kernel) rfl (by decide) ?_
          obtain ⟨o25, e26, h⟩ := ob_some h
          refine Ru.vcall (i := 347) (j2 := 149) (as := [vI 44]) (by decide +kernel) (by rfl) rfl rfl (hp36 _) (by decide) ⟨(Nat.le_of_ble_eq_true rfl), (by show 19 + 2 ≤ 264; exact Nat.le_of_ble_eq_true rfl), Nat.le_of_ble_eq_true rfl, Nat.le_of_ble_eq_true rfl⟩ ((g149_ok e26).up (Nat.le_of_ble_eq_true rfl) (Nat.le_of_ble_eq_true rfl)) ?_
          refine Ru.op (q := (.iload 6, 2)) (by decide +kernel) rfl ?_
          refine Ru.br (k := .eq) (off := 9) (bb := true) (tg := 149) (by decide +kernel) (by decide +kernel) (by decide) rfl ?_
          refine Ru.op (q := (.iload_n 3, 1)) (by decide +kernel) rfl ?_
          refine Ru.op (q := (.istore_n 3, 1)) (S' := (151, [some (.ref 36), d1, some (vI v2), some (vI v3), some (vI v4), d5, some (vI 0)], [], _, _)) (by decide +kernel) rfl ?_
          refine Ru.op (q := (.goto (-74), 3)) (by decide +kernel) rfl ?_
          exact ih _ _ _ _ _ _ h r hk
      · replace h := if_f b20 h
        refine Ru.br (k := .le) (off := 71) (bb := true) (tg := 154) (by decide +kernel) (by decide +kernel) (cz (ci_le1 g19 (by decide) b20)) rfl ?_
        cases h
        exact hk _ _ _
def g150L14 (v2 : Int) : Nat → Int → Int → St → Option (St)
  | 0, _, _, _ => none
  | n + 1, v3, v4, S => gd (inR v4) (gd (inR v2) (if v4 < v2 then gd (ixR v4 8032) (ob (g151 S (S.A 38 v4)) (fun o7 => ob (g123 o7 (o7.A 38 v4)) (fun o9 => gd (inR o9) (if 0 < o9 then ob (g149 o7 40) (fun o13 => gd (ixR v3 16) (if o9 = 0 then ob (g150L77 v2 v4 FU (v3 + 1) 1 (o13.a 68 v3 o9)) (fun o27 => g150L14 v2 n o27.1 (v4 + 1) o27.2) else ob (g150L77 v2 v4 FU (v3 + 1) 0 (o13.a 68 v3 o9)) (fun o32 => g150L14 v2 n o32.1 (v4 + 1) o32.2))) else if o9 = 0 then ob (g150L77 v2 v4 FU v3 1 o7) (fun o38 => g150L14 v2 n o38.1 (v4 + 1) o38.2) else ob (g150L77 v2 v4 FU v3 0 o7) (fun o43 => g150L14 v2 n o43.1 (v4 + 1) o43.2))))) else some S))
set_option maxRecDepth 100000 in
set_option maxHeartbeats 4000000 in
theorem g150L14_ok {v2 : Int} : ∀ (n : Nat) (v3 : Int) (v4 : Int) (S : St) (d1 d5 d6 : Option Value) (out : St), g150L14 v2 n v3 v4 S = some out → ∀ r, (∀ (e0 e1 e2 e3 e4 e5 e6 : Option Value), Ru none 13 264 150 (160, [e0, e1, e2, e3, e4, e5, e6], [], out.ns, Hp out) r) → Ru none 13 264 150 (14, [some (.ref 36), d1, some (vI v2), some (vI v3), some (vI v4), d5, d6], [], S.ns, Hp S) r := by
  intro n
  induction n with
  | zero => intro v3 v4 S d1 d5 d6 out h; cases h
  | succ n ih =>
    intro v3 v4 S d1 d5 d6 out h r hk
    unfold g150L14 at h
    refine Ru.op (q := (.iload 4, 2)) (by decide +kernel) rfl ?_
    refine Ru.op (q := (.iload_n 2, 1)) (by decide +kernel) rfl ?_
    obtain ⟨g3, h⟩ := gd_some h
    obtain ⟨g4, h⟩ := gd_some h
    by_cases b5 : v4 < v2
    · replace h := if_t b5 h
      refine Ru.br2 (k := .ge) (off := 143) (bb := false) (tg := 20) (by decide +kernel) (by decide +kernel) (ci_ge0 g3 g4 b5) rfl ?_
      refine Ru.op (q := (.aload_n 0, 1)) (by decide +kernel) rfl ?_
      refine Ru.op (q := (.aload_n 0, 1)) (by decide +kernel) rfl ?_
      refine Ru.get (i := 17) (v := .ref 38) (by decide +kernel) (by rfl) (hp36 _) (by decide) rfl ?_
      refine Ru.op (q := (.iload 4, 2)) (by decide +kernel) rfl ?_
      obtain ⟨g6, h⟩ := gd_some h
      refine Ru.ildI (i := v4) (z := (S.A 38 v4)) (by decide +kernel) (hp38 _) g6 (eI_of _) ?_
      obtain ⟨o7, e8, h⟩ := ob_some h
      refine Ru.vcall (i := 353) (j2 := 151) (as := [vI (S.A 38 v4)]) (by decide +kernel) (by rfl) rfl rfl (hp36 _) (by decide) ⟨(Nat.le_of_ble_eq_true rfl), (by show 19 + 3 ≤ 264; exact Nat.le_of_ble_eq_true rfl), Nat.le_of_ble_eq_true rfl, Nat.le_of_ble_eq_true rfl⟩ ((g151_ok e8).up (Nat.le_of_ble_eq_true rfl) (Nat.le_of_ble_eq_true rfl)) ?_
      refine Ru.op (q := (.aload_n 0, 1)) (by decide +kernel) rfl ?_
      refine Ru.get (i := 17) (v := .ref 38) (by decide +kernel) (by rfl) (hp36 _) (by decide) rfl ?_
      refine Ru.op (q := (.iload 4, 2)) (by decide +kernel) rfl ?_
      refine Ru.ildI (i := v4) (z := (o7.A 38 v4)) (by decide +kernel) (hp38 _) g6 (eI_of _) ?_
      obtain ⟨o9, e10, h⟩ := ob_some h
      refine Ru.call (q := (.invokestatic 136, 3)) (j2 := 123) (as := [vI (o7.A 38 v4)]) (by decide +kernel) rfl rfl rfl rfl ⟨(Nat.le_of_ble_eq_true rfl), (by show 19 + 1 ≤ 264; exact Nat.le_of_ble_eq_true rfl), Nat.le_of_ble_eq_true rfl, Nat.le_of_ble_eq_true rfl⟩ ((g123_ok e10).up (Nat.le_of_ble_eq_true rfl) (Nat.le_of_ble_eq_true rfl)) ?_
      refine Ru.op (q := (.istore 5, 2)) (S' := (43, [some (.ref 36), d1, some (vI v2), some (vI v3), some (vI v4), some (vI o9), d6], [], _, _)) (by decide +kernel) rfl ?_
      refine Ru.op (q := (.iload 5, 2)) (by decide +kernel) rfl ?_
      obtain ⟨g11, h⟩ := gd_some h
      by_cases b12 : 0 < o9
      · replace h := if_t b12 h
        refine Ru.br (k := .le) (off := 20) (bb := false) (tg := 48) (by decide +kernel) (by decide +kernel) (cz (ci_le0 g11 (by decide) b12)) rfl ?_
        refine Ru.op (q := (.aload_n 0, 1)) (by decide +kernel) rfl ?_
        refine Ru.kI (q := (.bipush 40, 2)) (c := 40) (by decide +kernel) rfl (by decide) ?_
        obtain ⟨o13, e14, h⟩ := ob_some h
        refine Ru.vcall (i := 347) (j2 := 149) (as := [vI 40]) (by decide +kernel) (by rfl) rfl rfl (hp36 _) (by decide) ⟨(Nat.le_of_ble_eq_true rfl), (by show 19 + 2 ≤ 264; exact Nat.le_of_ble_eq_true rfl), Nat.le_of_ble_eq_true rfl, Nat.le_of_ble_eq_true rfl⟩ ((g149_ok e14).up (Nat.le_of_ble_eq_true rfl) (Nat.le_of_ble_eq_true rfl)) ?_
        refine Ru.op (q := (.aload_n 0, 1)) (by decide +kernel) rfl ?_
        refine Ru.get (i := 111) (v := .ref 68) (by decide +kernel) (by rfl) (hp36 _) (by decide) rfl ?_
        refine Ru.op (q := (.iload_n 3, 1)) (by decide +kernel) rfl ?_
        refine Ru.op (q := (.iload 5, 2)) (by decide +kernel) rfl ?_
        obtain ⟨g15, h⟩ := gd_some h
        refine Ru.istI (i := v3) (x := o9) (by decide +kernel) (hp68 _) g15 (ps_68 _ _ _) ?_
        refine Ru.inc (x := v3) (z := (v3 + 1)) (xs' := [some (.ref 36), d1, some (vI v2), some (vI (v3 + 1)), some (vI v4), some (vI o9), d6]) (by decide +kernel) rfl rfl rfl ?_
        refine Ru.op (q := (.iload 5, 2)) (by decide +kernel) rfl ?_
        by_cases b16 : o9 = 0
        · replace h := if_t b16 h
          refine Ru.br (k := .ne) (off := 7) (bb := false) (tg := 70) (by decide +kernel) (by decide +kernel) (cz (ci_ne0 g11 (by decide) b16)) rfl ?_
          refine Ru.kI (q := (.iconst 1, 1)) (c := 1) (by decide +kernel) rfl (by decide) ?_
          refine Ru.op (q := (.goto 4, 3)) (by decide +kernel) rfl ?_
          refine Ru.op (q := (.istore 6, 2)) (S' := (77, [some (.ref 36), d1, some (vI v2), some (vI (v3 + 1)), some (vI v4), some (vI o9), some (vI 1)], [], _, _)) (by decide +kernel) rfl ?_
          obtain ⟨o27, e31, h⟩ := ob_some h
          refine g150L77_ok FU _ _ _ _ _ _ e31 _ ?_
          intro d28 d29 d30
          refine Ru.inc (x := v4) (z := (v4 + 1)) (xs' := [some (.ref 36), d28, some (vI v2), some (vI o27.1), some (vI (v4 + 1)), d29, d30]) (by decide +kernel) rfl rfl rfl ?_
          refine Ru.op (q := (.goto (-143), 3)) (by decide +kernel) rfl ?_
          exact ih _ _ _ _ _ _ _ h r hk
        · replace h := if_f b16 h
          refine Ru.br (k := .ne) (off := 7) (bb := true) (tg := 74) (by decide +kernel) (by decide +kernel) (cz (ci_ne1 g11 (by decide) b16)) rfl ?_
          refine Ru.kI (q := (.iconst 0, 1)) (c := 0) (by decide +kernel) rfl (by decide) ?_
          refine Ru.op (q := (.istore 6, 2)) (S' := (77, [some (.ref 36), d1, some (vI v2), some (vI (v3 + 1)), some (vI v4), some (vI o9), some (vI 0)], [], _, _)) (by decide +kernel) rfl ?_
          obtain ⟨o32, e36, h⟩ := ob_some h
          refine g150L77_ok FU _ _ _ _ _ _ e36 _ ?_
          intro d33 d34 d35
          refine Ru.inc (x := v4) (z := (v4 + 1)) (xs' := [some (.ref 36), d33, some (vI v2), some (vI o32.1), some (vI (v4 + 1)), d34, d35]) (by decide +kernel) rfl rfl rfl ?_
          refine Ru.op (q := (.goto (-143), 3)) (by decide +kernel) rfl ?_
          exact ih _ _ _ _ _ _ _ h r hk
      · replace h := if_f b12 h
        refine Ru.br (k := .le) (off := 20) (bb := true) (tg := 65) (by decide +kernel) (by decide +kernel) (cz (ci_le1 g11 (by decide) b12)) rfl ?_
        refine Ru.op (q := (.iload 5, 2)) (by decide +kernel) rfl ?_
        by_cases b37 : o9 = 0
        · replace h := if_t b37 h
          refine Ru.br (k := .ne) (off := 7) (bb := false) (tg := 70) (by decide +kernel) (by decide +kernel) (cz (ci_ne0 g11 (by decide) b37)) rfl ?_
          refine Ru.kI (q := (.iconst 1, 1)) (c := 1) (by decide +kernel) rfl (by decide) ?_
          refine Ru.op (q := (.goto 4, 3)) (by decide +kernel) rfl ?_
          refine Ru.op (q := (.istore 6, 2)) (S' := (77, [some (.ref 36), d1, some (vI v2), some (vI v3), some (vI v4), some (vI o9), some (vI 1)], [], _, _)) (by decide +kernel) rfl ?_
          obtain ⟨o38, e42, h⟩ := ob_some h
          refine g150L77_ok FU _ _ _ _ _ _ e42 _ ?_
          intro d39 d40 d41
          refine Ru.inc (x := v4) (z := (v4 + 1)) (xs' := [some (.ref 36), d39, some (vI v2), some (vI o38.1), some (vI (v4 + 1)), d40, d41]) (by decide +kernel) rfl rfl rfl ?_
          refine Ru.op (q := (.goto (-143), 3)) (by decide +kernel) rfl ?_
          exact ih _ _ _ _ _ _ _ h r hk
        · replace h := if_f b37 h
          refine Ru.br (k := .ne) (off := 7) (bb := true) (tg := 74) (by decide +kernel) (by decide +kernel) (cz (ci_ne1 g11 (by decide) b37)) rfl ?_
          refine Ru.kI (q := (.iconst 0, 1)) (c := 0) (by decide +kernel) rfl (by decide) ?_
          refine Ru.op (q := (.istore 6, 2)) (S' := (77, [some (.ref 36), d1, some (vI v2), some (vI v3), some (vI v4), some (vI o9), some (vI 0)], [], _, _)) (by decide +kernel) rfl ?_
          obtain ⟨o43, e47, h⟩ := ob_some h
          refine g150L77_ok FU _ _ _ _ _ _ e47 _ ?_
          intro d44 d45 d46
          refine Ru.inc (x := v4) (z := (v4 + 1)) (xs' := [some (.ref 36), d44, some (vI v2), some (vI o43.1), some (vI (v4 + 1)), d45, d46]) (by decide +kernel) rfl rfl rfl ?_
          refine Ru.op (q := (.goto (-143), 3)) (by decide +kernel) rfl ?_
          exact ih _ _ _ _ _ _ _ h r hk
    · replace h := if_f b5 h
      refine Ru.br2 (k := .ge) (off := 143) (bb := true) (tg := 160) (by decide +kernel) (by decide +kernel) (ci_ge1 g3 g4 b5) rfl ?_
      cases h
      exact hk _ _ _ _ _ _ _
def g150 (S : St) (v1 : Int) : Option (St) := ob (g125 S 38 v1) (fun o1 => ob (g150L14 o1 FU 0 v1 S) (fun o48 => some o48))
set_option maxRecDepth 100000 in
set_option maxHeartbeats 4000000 in
theorem g150_ok {S : St} {v1 : Int} {o : St} (h : g150 S v1 = some o) : Ru none 13 264 150 (0, mn_pad (mn_ent [.ref 36, vI v1]) 7, [], S.ns, Hp S) ((0, none), o.ns, Hp o) := by
  unfold g150 at h
  show Ru none 13 264 150 (0, [some (.ref 36), some (vI v1), none, none, none, none, none], [], S.ns, Hp S) _
  refine Ru.op (q := (.aload_n 0, 1)) (by decide +kernel) rfl ?_
  refine Ru.get (i := 17) (v := .ref 38) (by decide +kernel) (by rfl) (hp36 _) (by decide) rfl ?_
  refine Ru.op (q := (.iload_n 1, 1)) (by decide +kernel) rfl ?_
  obtain ⟨o1, e2, h⟩ := ob_some h
  refine Ru.call (q := (.invokestatic 233, 3)) (j2 := 125) (as := [.ref 38, vI v1]) (by decide +kernel) rfl rfl rfl rfl ⟨(Nat.le_of_ble_eq_true rfl), (by show 19 + 4 ≤ 264; exact Nat.le_of_ble_eq_true rfl), Nat.le_of_ble_eq_true rfl, Nat.le_of_ble_eq_true rfl⟩ ((g125_ok e2).up (Nat.le_of_ble_eq_true rfl) (Nat.le_of_ble_eq_true rfl)) ?_
  refine Ru.op (q := (.istore_n 2, 1)) (S' := (9, [some (.ref 36), some (vI v1), some (vI o1), none, none, none, none], [], _, _)) (by decide +kernel) rfl ?_
  refine Ru.kI (q := (.iconst 0, 1)) (c := 0) (by decide +kernel) rfl (by decide) ?_
  refine Ru.op (q := (.istore_n 3, 1)) (S' := (11, [some (.ref 36), some (vI v1), some (vI o1), some (vI 0), none, none, none], [], _, _)) (by decide +kernel) rfl ?_
  refine Ru.op (q := (.iload_n 1, 1)) (by decide +kernel) rfl ?_
  refine Ru.op (q := (.istore 4, 2)) (S' := (14, [some (.ref 36), some (vI v1), some (vI o1), some (vI 0), some (vI v1), none, none], [], _, _)) (by decide +kernel) rfl ?_
  obtain ⟨o48, e56, h⟩ := ob_some h
  refine g150L14_ok FU _ _ _ _ _ _ _ e56 _ ?_
  intro d49 d50 d51 d52 d53 d54 d55
  cases h
  exact Ru.end (q := (.return_, 1)) (by decide +kernel) rfl rfl
def g148L79 (v3 : Int) : Nat → Int → St → Option (St)
  | 0, _, _ => none
  | n + 1, v4, S => gd (ixR v3 125) (gd (inR v4) (gd (inR ((4 * v3) + (S.A 41 v3))) (if v4 < ((4 * v3) + (S.A 41 v3)) then gd (inR (4 * v3)) (if (4 * v3) < v4 then ob (g149 S 124) (fun o16 => gd (ixR v4 504) (if (o16.A 40 v4) = 0 then ob (g150 o16 (o16.A 39 v4)) (fun o20 => g148L79 v3 n (v4 + 1) o20) else ob (g149 o16 126) (fun o22 => ob (g150 o22 (o22.A 39 v4)) (fun o24 => g148L79 v3 n (v4 + 1) o24)))) else gd (ixR v4 504) (if (S.A 40 v4) = 0 then ob (g150 S (S.A 39 v4)) (fun o28 => g148L79 v3 n (v4 + 1) o28) else ob (g149 S 126) (fun o30 => ob (g150 o30 (o30.A 39 v4)) (fun o32 => g148L79 v3 n (v4 + 1) o32)))) else some S)))
set_option maxRecDepth 100000 in
set_option maxHeartbeats 4000000 in
theorem g148L79_ok {v3 : Int} : ∀ (n : Nat) (v4 : Int) (S : St) (d1 d2 : Option Value) (out : St), g148L79 v3 n v4 S = some out → ∀ r, (∀ (e1 e2 e3 e4 : Option Value), Ru none 14 290 148 (141, [some (.ref 36), e1, e2, e3, e4], [], out.ns, Hp out) r) → Ru none 14 290 148 (79, [some (.ref 36), d1, d2, some (vI v3), some (vI v4)], [], S.ns, Hp S) r := by
  intro n
  induction n with
  | zero => intro v4 S d1 d2 out h; cases h
  | succ n ih =>
    intro v4 S d1 d2 out h r hk
    unfold g148L79 at h
    refine Ru.op (q := (.iload 4, 2)) (by decide +kernel) rfl ?_
    refine Ru.kI (q := (.iconst 4, 1)) (c := 4) (by decide +kernel) rfl (by decide) ?_
    refine Ru.op (q := (.iload_n 3, 1)) (by decide +kernel) rfl ?_
    refine Ru.ar2 (i := .imul) (z := (4 * v3)) (by decide +kernel) rfl (ar_mul _ _) ?_
    refine Ru.op (q := (.aload_n 0, 1)) (by decide +kernel) rfl ?_
    refine Ru.get (i := 27) (v := .ref 41) (by decide +kernel) (by rfl) (hp36 _) (by decide) rfl ?_
    refine Ru.op (q := (.iload_n 3, 1)) (by decide +kernel) rfl ?_
    obtain ⟨g10, h⟩ := gd_some h
    refine Ru.ildI (i := v3) (z := (S.A 41 v3)) (by decide +kernel) (hp41 _) g10 (eI_of _) ?_
    refine Ru.ar2 (i := .iadd) (z := ((4 * v3) + (S.A 41 v3))) (by decide +kernel) rfl (ar_add _ _) ?_
    obtain ⟨g11, h⟩ := gd_some h
    obtain ⟨g12, h⟩ := gd_some h
    by_cases b13 : v4 < ((4 * v3) + (S.A 41 v3))
    · replace h := if_t b13 h
      refine Ru.br2 (k := .ge) (off := 50) (bb := false) (tg := 94) (by decide +kernel) (by decide +kernel) (ci_ge0 g11 g12 b13) rfl ?_
      refine Ru.op (q := (.iload 4, 2)) (by decide +kernel) rfl ?_
      refine Ru.kI (q := (.iconst 4, 1)) (c := 4) (by decide +kernel) rfl (by decide) ?_
      refine Ru.op (q := (.iload_n 3, 1)) (by decide +kernel) rfl ?_
      refine Ru.ar2 (i := .imul) (z := (4 * v3)) (by decide +kernel) rfl (ar_mul _ _) ?_
      obtain ⟨g14, h⟩ := gd_some h
      by_cases b15 : (4 * v3) < v4
      · replace h := if_t b15 h
        refine Ru.br2 (k := .le) (off := 9) (bb := false) (tg := 102) (by decide +kernel) (by decide +kernel) (ci_le0 g11 g14 b15) rfl ?_
        refine Ru.op (q := (.aload_n 0, 1)) (by decide +kernel) rfl ?_
        refine Ru.kI (q := (.bipush 124, 2)) (c := 124) (by decide +kernel) rfl (by decide) ?_
        obtain ⟨o16, e17, h⟩ := ob_some h
        refine Ru.vcall (i := 347) (j2 := 149) (as := [vI 124]) (by decide +kernel) (by rfl) rfl rfl (hp36 _) (by decide) ⟨(Nat.le_of_ble_eq_true rfl), (by show 19 + 2 ≤ 290; exact Nat.le_of_ble_eq_true rfl), Nat.le_of_ble_eq_true rfl, Nat.le_of_ble_eq_true rfl⟩ ((g149_ok e17).up (Nat.le_of_ble_eq_true rfl) (Nat.le_of_ble_eq_true rfl)) ?_
        refine Ru.op (q := (.aload_n 0, 1)) (by decide +kernel) rfl ?_
        refine Ru.get (i := 23) (v := .ref 40) (by decide +kernel) (by rfl) (hp36 _) (by decide) rfl ?_
        refine Ru.op (q := (.iload 4, 2)) (by decide +kernel) rfl ?_
        obtain ⟨g18, h⟩ := gd_some h
        refine Ru.bldI (i := v4) (z := (o16.A 40 v4)) (by decide +kernel) (hp40 _) g18 (eI_of _) ?_
        by_cases b19 : (o16.A 40 v4) = 0
        · replace h := if_t b19 h
          refine Ru.br (k := .eq) (off := 9) (bb := true) (tg := 124) (by decide +kernel) (by decide +kernel) (cz (ci_eq1 (inR_to _) (by decide) b19)) rfl ?_
          refine Ru.op (q := (.aload_n 0, 1)) (by decide +kernel) rfl ?_
          refine Ru.op (q := (.aload_n 0, 1)) (by decide +kernel) rfl ?_
          refine Ru.get (i := 20) (v := .ref 39) (by decide +kernel) (by rfl) (hp36 _) (by decide) rfl ?_
          refine Ru.op (q := (.iload 4, 2)) (by decide +kernel) rfl ?_
          refine Ru.ildI (i := v4) (z := (o16.A 39 v4)) (by decide +kernel) (hp39 _) g18 (eI_of _) ?_
          obtain ⟨o20, e21, h⟩ := ob_some h
          refine Ru.vcall (i := 359) (j2 := 150) (as := [vI (o16.A 39 v4)]) (by decide +kernel) (by rfl) rfl rfl (hp36 _) (by decide) ⟨(Nat.le_of_ble_eq_true rfl), (by show 19 + 7 ≤ 290; exact Nat.le_of_ble_eq_true rfl), Nat.le_of_ble_eq_true rfl, Nat.le_of_ble_eq_true rfl⟩ ((g150_ok e21).up (Nat.le_of_ble_eq_true rfl) (Nat.le_of_ble_eq_true rfl)) ?_
          refine Ru.inc (x := v4) (z := (v4 + 1)) (xs' := [some (.ref 36), d1, d2, some (vI v3), some (vI (v4 + 1))]) (by decide +kernel) rfl rfl rfl ?_
          refine Ru.op (q := (.goto (-59), 3)) (by decide +kernel) rfl ?_
          exact ih _ _ _ _ _ h r hk
        · replace h := if_f b19 h
          refine Ru.br (k := .eq) (off := 9) (bb := false) (tg := 118) (by decide +kernel) (by decide +kernel) (cz (ci_eq0 (inR_to _) (by decide) b19)) rfl ?_
          refine Ru.op (q := (.aload_n 0, 1)) (by decide +kernel) rfl ?_
          refine Ru.kI (q := (.bipush 126, 2)) (c := 126) (by decide +kernel) rfl (by decide) ?_
          obtain ⟨o22, e23, h⟩ := ob_some h
          refine Ru.vcall (i := 347) (j2 := 149) (as := [vI 126]) (by decide +kernel) (by rfl) rfl rfl (hp36 _) (by decide) ⟨(Nat.le_of_ble_eq_true rfl), (by show 19 + 2 ≤ 290; exact Nat.le_of_ble_eq_true rfl), Nat.le_of_ble_eq_true rfl, Nat.le_of_ble_eq_true rfl⟩ ((g149_ok e23).up (Nat.le_of_ble_eq_true rfl) (Nat.le_of_ble_eq_true rfl)) ?_
          refine Ru.op (q := (.aload_n 0, 1)) (by decide +kernel) rfl ?_
          refine Ru.op (q := (.aload_n 0, 1)) (by decide +kernel) rfl ?_
          refine Ru.get (i := 20) (v := .ref 39) (by decide +kernel) (by rfl) (hp36 _) (by decide) rfl ?_
          refine Ru.op (q := (.iload 4, 2)) (by decide +kernel) rfl ?_
          refine Ru.ildI (i := v4) (z := (o22.A 39 v4)) (by decide +kernel) (hp39 _) g18 (eI_of _) ?_
          obtain ⟨o24, e25, h⟩ := ob_some h
          refine Ru.vcall (i := 359) (j2 := 150) (as := [vI (o22.A 39 v4)]) (by decide +kernel) (by rfl) rfl rfl (hp36 _) (by decide) ⟨(Nat.le_of_ble_eq_true rfl), (by show 19 + 7 ≤ 290; exact Nat.le_of_ble_eq_true rfl), Nat.le_of_ble_eq_true rfl, Nat.le_of_ble_eq_true rfl⟩ ((g150_ok e25).up (Nat.le_of_ble_eq_true rfl) (Nat.le_of_ble_eq_true rfl)) ?_
          refine Ru.inc (x := v4) (z := (v4 + 1)) (xs' := [some (.ref 36), d1, d2, some (vI v3), some (vI (v4 + 1))]) (by decide +kernel) rfl rfl rfl ?_
          refine Ru.op (q := (.goto (-59), 3)) (by decide +kernel) rfl ?_
          exact ih _ _ _ _ _ h r hk
      · replace h := if_f b15 h
        refine Ru.br2 (k := .le) (off := 9) (bb := true) (tg := 108) (by decide +kernel) (by decide +kernel) (ci_le1 g11 g14 b15) rfl ?_
        refine Ru.op (q := (.aload_n 0, 1)) (by decide +kernel) rfl ?_
        refine Ru.get (i := 23) (v := .ref 40) (by decide +kernel) (by rfl) (hp36 _) (by decide) rfl ?_
        refine Ru.op (q := (.iload 4, 2)) (by decide +kernel) rfl ?_
        obtain ⟨g26, h⟩ := gd_some h
        refine Ru.bldI (i := v4) (z := (S.A 40 v4)) (by decide +kernel) (hp40 _) g26 (eI_of _) ?_
        by_cases b27 : (S.A 40 v4) = 0
        · replace h := if_t b27 h
          refine Ru.br (k := .eq) (off := 9) (bb := true) (tg := 124) (by decide +kernel) (by decide +kernel) (cz (ci_eq1 (inR_to _) (by decide) b27)) rfl ?_
          refine Ru.op (q := (.aload_n 0, 1)) (by decide +kernel) rfl ?_
          refine Ru.op (q := (.aload_n 0, 1)) (by decide +kernel) rfl ?_
          refine Ru.get (i := 20) (v := .ref 39) (by decide +kernel) (by rfl) (hp36 _) (by decide) rfl ?_
          refine Ru.op (q := (.iload 4, 2)) (by decide +kernel) rfl ?_
          refine Ru.ildI (i := v4) (z := (S.A 39 v4)) (by decide +kernel) (hp39 _) g26 (eI_of _) ?_
          obtain ⟨o28, e29, h⟩ := ob_some h
          refine Ru.vcall (i := 359) (j2 := 150) (as := [vI (S.A 39 v4)]) (by decide +kernel) (by rfl) rfl rfl (hp36 _) (by decide) ⟨(Nat.le_of_ble_eq_true rfl), (by show 19 + 7 ≤ 290; exact Nat.le_of_ble_eq_true rfl), Nat.le_of_ble_eq_true rfl, Nat.le_of_ble_eq_true rfl⟩ ((g150_ok e29).up (Nat.le_of_ble_eq_true rfl) (Nat.le_of_ble_eq_true rfl)) ?_
          refine Ru.inc (x := v4) (z := (v4 + 1)) (xs' := [some (.ref 36), d1, d2, some (vI v3), some (vI (v4 + 1))]) (by decide +kernel) rfl rfl rfl ?_
          refine Ru.op (q := (.goto (-59), 3)) (by decide +kernel) rfl ?_
          exact ih _ _ _ _ _ h r hk
        · replace h := if_f b27 h
          refine Ru.br (k := .eq) (off := 9) (bb := false) (tg := 118) (by decide +kernel) (by decide +kernel) (cz (ci_eq0 (inR_to _) (by decide) b27)) rfl ?_
          refine Ru.op (q := (.aload_n 0, 1)) (by decide +kernel) rfl ?_
          refine Ru.kI (q := (.bipush 126, 2)) (c := 126) (by decide +kernel) rfl (by decide) ?_
          obtain ⟨o30, e31, h⟩ := ob_some h
          refine Ru.vcall (i := 347) (j2 := 149) (as := [vI 126]) (by decide +kernel) (by rfl) rfl rfl (hp36 _) (by decide) ⟨(Nat.le_of_ble_eq_true rfl), (by show 19 + 2 ≤ 290; exact Nat.le_of_ble_eq_true rfl), Nat.le_of_ble_eq_true rfl, Nat.le_of_ble_eq_true rfl⟩ ((g149_ok e31).up (Nat.le_of_ble_eq_true rfl) (Nat.le_of_ble_eq_true rfl)) ?_
          refine Ru.op (q := (.aload_n 0, 1)) (by decide +kernel) rfl ?_
          refine Ru.op (q := (.aload_n 0, 1)) (by decide +kernel) rfl ?_
          refine Ru.get (i := 20) (v := .ref 39) (by decide +kernel) (by rfl) (hp36 _) (by decide) rfl ?_
          refine Ru.op (q := (.iload 4, 2)) (by decide +kernel) rfl ?_
          refine Ru.ildI (i := v4) (z := (o30.A 39 v4)) (by decide +kernel) (hp39 _) g26 (eI_of _) ?_
          obtain ⟨o32, e33, h⟩ := ob_some h
          refine Ru.vcall (i := 359) (j2 := 150) (as := [vI (o30.A 39 v4)]) (by decide +kernel) (by rfl) rfl rfl (hp36 _) (by decide) ⟨(Nat.le_of_ble_eq_true rfl), (by show 19 + 7 ≤ 290; exact Nat.le_of_ble_eq_true rfl), Nat.le_of_ble_eq_true rfl, Nat.le_of_ble_eq_true rfl⟩ ((g150_ok e33).up (Nat.le_of_ble_eq_true rfl) (Nat.le_of_ble_eq_true rfl)) ?_
          refine Ru.inc (x := v4) (z := (v4 + 1)) (xs' := [some (.ref 36), d1, d2, some (vI v3), some (vI (v4 + 1))]) (by decide +kernel) rfl rfl rfl ?_
          refine Ru.op (q := (.goto (-59), 3)) (by decide +kernel) rfl ?_
          exact ih _ _ _ _ _ h r hk
    · replace h := if_f b13 h
      refine Ru.br2 (k := .ge) (off := 50) (bb := true) (tg := 141) (by decide +kernel) (by decide +kernel) (ci_ge1 g11 g12 b13) rfl ?_
      cases h
      exact hk _ _ _ _
def g148 (S : St) (v1 : Int) (v2 : Int) : Option (Int × St) := gd (inR v2) (if v2 < 0 then some (0, (S.f 36 0 1)) else gd (inR v1) (if v1 = 0 then if v2 < (S.F 36 9) then gd (ixR v2 125) (if (S.A 41 v2) = 0 then ob (g149 ((S.f 36 0 0).f 36 56 0) 48) (fun o8 => ob (g148L79 v2 FU (4 * v2) o8) (fun o34 => some ((o34.F 36 56), o34))) else ob (g148L79 v2 FU (4 * v2) ((S.f 36 0 0).f 36 56 0)) (fun o40 => some ((o40.F 36 56), o40))) else some (0, (S.f 36 0 1)) else if v2 < (S.F 36 10) then gd (ixR (100 + v2) 125) (if (S.A 41 (100 + v2)) = 0 then ob (g149 ((S.f 36 0 0).f 36 56 0) 48) (fun o49 => ob (g148L79 (100 + v2) FU (4 * (100 + v2)) o49) (fun o51 => some ((o51.F 36 56), o51))) else ob (g148L79 (100 + v2) FU (4 * (100 + v2)) ((S.f 36 0 0).f 36 56 0)) (fun o57 => some ((o57.F 36 56), o57))) else some (0, (S.f 36 0 1))))
set_option maxRecDepth 100000 in
set_option maxHeartbeats 4000000 in
theorem g148_ok {S : St} {v1 : Int} {v2 : Int} {o : Int × St} (h : g148 S v1 v2 = some o) : Ru none 14 290 148 (0, mn_pad (mn_ent [.ref 36, vI v1, vI v2]) 5, [], S.ns, Hp S) ((0, some (vI o.1)), o.2.ns, Hp o.2) := by
  unfold g148 at h
  show Ru none 14 290 148 (0, [some (.ref 36), some (vI v1), some (vI v2), none, none], [], S.ns, Hp S) _
  refine Ru.op (q := (.aload_n 0, 1)) (by decide +kernel) rfl ?_
  refine Ru.op (q := (.iload_n 2, 1)) (by decide +kernel) rfl ?_
  obtain ⟨g1, h⟩ := gd_some h
  by_cases b2 : v2 < 0
  · replace h := if_t b2 h
    refine Ru.br (k := .lt) (off := 22) (bb := true) (tg := 24) (by decide +kernel) (by decide +kernel) (cz (ci_lt1 g1 (by decide) b2)) rfl ?_
    refine Ru.kI (q := (.iconst 1, 1)) (c := 1) (by decide +kernel) rfl (by decide) ?_
    refine Ru.op (q := (.goto 4, 3)) (by decide +kernel) rfl ?_
    refine Ru.putH (i := 120) (by decide +kernel) (by rfl) (hp36 _) (by decide) (Nat.le_of_ble_eq_true rfl) rfl (by decide +kernel) (pf_36_0 _ _) ?_
    refine Ru.op (q := (.aload_n 0, 1)) (by decide +kernel) rfl ?_
    refine Ru.getI (i := 120) (x := 1) (by decide +kernel) (by rfl) (hp36 _) (by decide) rfl rfl ?_
    refine Ru.br (k := .le) (off := 5) (bb := false) (tg := 39) (by decide +kernel) (by decide +kernel) (by decide) rfl ?_
    refine Ru.kI (q := (.iconst 0, 1)) (c := 0) (by decide +kernel) rfl (by decide) ?_
    cases h
    exact Ru.iret (by decide +kernel) rfl rfl
  · replace h := if_f b2 h
    refine Ru.br (k := .lt) (off := 22) (bb := false) (tg := 5) (by decide +kernel) (by decide +kernel) (cz (ci_lt0 g1 (by decide) b2)) rfl ?_
    refine Ru.op (q := (.iload_n 2, 1)) (by decide +kernel) rfl ?_
    refine Ru.op (q := (.iload_n 1, 1)) (by decide +kernel) rfl ?_
    obtain ⟨g3, h⟩ := gd_some h
    by_cases b4 : v1 = 0
    · replace h := if_t b4 h
      refine Ru.br (k := .eq) (off := 10) (bb := true) (tg := 17) (by decide +kernel) (by decide +kernel) (cz (ci_eq1 g3 (by decide) b4)) rfl ?_
      refine Ru.op (q := (.aload_n 0, 1)) (by decide +kernel) rfl ?_
      refine Ru.getI (i := 263) (x := (S.F 36 9)) (by decide +kernel) (by rfl) (hp36 _) (by decide) rfl (eI_of _) ?_
      by_cases b5 : v2 < (S.F 36 9)
      · replace h := if_t b5 h
        refine Ru.br2 (k := .lt) (off := 7) (bb := true) (tg := 28) (by decide +kernel) (by decide +kernel) (ci_lt1 g1 (inR_to _) b5) rfl ?_
        refine Ru.kI (q := (.iconst 0, 1)) (c := 0) (by decide +kernel) rfl (by decide) ?_
        refine Ru.putH (i := 120) (by decide +kernel) (by rfl) (hp36 _) (by decide) (Nat.le_of_ble_eq_true rfl) rfl (by decide +kernel) (pf_36_0 _ _) ?_
        refine Ru.op (q := (.aload_n 0, 1)) (by decide +kernel) rfl ?_
        refine Ru.getI (i := 120) (x := 0) (by decide +kernel) (by rfl) (hp36 _) (by decide) rfl rfl ?_
        refine Ru.br (k := .le) (off := 5) (bb := true) (tg := 41) (by decide +kernel) (by decide +kernel) (by decide) rfl ?_
        refine Ru.op (q := (.iload_n 1, 1)) (by decide +kernel) rfl ?_
        refine Ru.br (k := .eq) (off := 10) (bb := true) (tg := 52) (by decide +kernel) (by decide +kernel) (cz (ci_eq1 g3 (by decide) b4)) rfl ?_
        refine Ru.op (q := (.iload_n 2, 1)) (by decide +kernel) rfl ?_
        refine Ru.op (q := (.istore_n 3, 1)) (S' := (54, [some (.ref 36), some (vI v1), some (vI v2), some (vI v2), none], [], _, _)) (by decide +kernel) rfl ?_
        refine Ru.op (q := (.aload_n 0, 1)) (by decide +kernel) rfl ?_
        refine Ru.kI (q := (.iconst 0, 1)) (c := 0) (by decide +kernel) rfl (by decide) ?_
        refine Ru.putH (i := 344) (by decide +kernel) (by rfl) (hp36 _) (by decide) (Nat.le_of_ble_eq_true rfl) rfl (by decide +kernel) (pf_36_56 _ _) ?_
        refine Ru.op (q := (.aload_n 0, 1)) (by decide +kernel) rfl ?_
        refine Ru.get (i := 27) (v := .ref 41) (by decide +kernel) (by rfl) (hp36 _) (by decide) rfl ?_
        refine Ru.op (q := (.iload_n 3, 1)) (by decide +kernel) rfl ?_
        obtain ⟨g6, h⟩ := gd_some h
        refine Ru.ildI (i := v2) (z := (S.A 41 v2)) (by decide +kernel) (hp41 _) g6 (eI_of _) ?_
        by_cases b7 : (S.A 41 v2) = 0
        · replace h := if_t b7 h
          refine Ru.br (k := .ne) (off := 9) (bb := false) (tg := 68) (by decide +kernel) (by decide +kernel) (cz (ci_ne0 (inR_to _) (by decide) b7)) rfl ?_
          refine Ru.op (q := (.aload_n 0, 1)) (by decide +kernel) rfl ?_
          refine Ru.kI (q := (.bipush 48, 2)) (c := 48) (by decide +kernel) rfl (by decide) ?_
          obtain ⟨o8, e9, h⟩ := ob_some h
          refine Ru.vcall (i := 347) (j2 := 149) (as := [vI 48]) (by decide +kernel) (by rfl) rfl rfl (hp36 _) (by decide) ⟨(Nat.le_of_ble_eq_true rfl), (by show 19 + 2 ≤ 290; exact Nat.le_of_ble_eq_true rfl), Nat.le_of_ble_eq_true rfl, Nat.le_of_ble_eq_true rfl⟩ ((g149_ok e9).up (Nat.le_of_ble_eq_true rfl) (Nat.le_of_ble_eq_true rfl)) ?_
          refine Ru.kI (q := (.iconst 4, 1)) (c := 4) (by decide +kernel) rfl (by decide) ?_
          refine Ru.op (q := (.iload_n 3, 1)) (by decide +kernel) rfl ?_
          refine Ru.ar2 (i := .imul) (z := (4 * v2)) (by decide +kernel) rfl (ar_mul _ _) ?_
          refine Ru.op (q := (.istore 4, 2)) (S' := (79, [some (.ref 36), some (vI v1), some (vI v2), some (vI v2), some (vI (4 * v2))], [], _, _)) (by decide +kernel) rfl ?_
          obtain ⟨o34, e39, h⟩ := ob_some h
          refine g148L79_ok FU _ _ _ _ _ e39 _ ?_
          intro d35 d36 d37 d38
          refine Ru.op (q := (.aload_n 0, 1)) (by decide +kernel) rfl ?_
          refine Ru.getI (i := 344) (x := (o34.F 36 56)) (by decide +kernel) (by rfl) (hp36 _) (by decide) rfl (eI_of _) ?_
          cases h
          exact Ru.iret (by decide +kernel) rfl rfl
        · replace h := if_f b7 h
          refine Ru.br (k := .ne) (off := 9) (bb := true) (tg := 74) (by decide +kernel) (by decide +kernel) (cz (ci_ne1 (inR_to _) (by decide) b7)) rfl ?_
          refine Ru.kI (q := (.iconst 4, 1)) (c := 4) (by decide +kernel) rfl (by decide) ?_
          refine Ru.op (q := (.iload_n 3, 1)) (by decide +kernel) rfl ?_
          refine Ru.ar2 (i := .imul) (z := (4 * v2)) (by decide +kernel) rfl (ar_mul _ _) ?_
          refine Ru.op (q := (.istore 4, 2)) (S' := (79, [some (.ref 36), some (vI v1), some (vI v2), some (vI v2), some (vI (4 * v2))], [], _, _)) (by decide +kernel) rfl ?_
          obtain ⟨o40, e45, h⟩ := ob_some h
          refine g148L79_ok FU _ _ _ _ _ e45 _ ?_
          intro d41 d42 d43 d44
          refine Ru.op (q := (.aload_n 0, 1)) (by decide +kernel) rfl ?_
          refine Ru.getI (i := 344) (x := (o40.F 36 56)) (by decide +kernel) (by rfl) (hp36 _) (by decide) rfl (eI_of _) ?_
          cases h
          exact Ru.iret (by decide +kernel) rfl rfl
      · replace h := if_f b5 h
        refine Ru.br2 (k := .lt) (off := 7) (bb := false) (tg := 24) (by decide +kernel) (by decide +kernel) (ci_lt0 g1 (inR_to _) b5) rfl ?_
        refine Ru.kI (q := (.iconst 1, 1)) (c := 1) (by decide +kernel) rfl (by decide) ?_
        refine Ru.op (q := (.goto 4, 3)) (by decide +kernel) rfl ?_
        refine Ru.putH (i := 120) (by decide +kernel) (by rfl) (hp36 _) (by decide) (Nat.le_of_ble_eq_true rfl) rfl (by decide +kernel) (pf_36_0 _ _) ?_
        refine Ru.op (q := (.aload_n 0, 1)) (by decide +kernel) rfl ?_
        refine Ru.getI (i := 120) (x := 1) (by decide +kernel) (by rfl) (hp36 _) (by decide) rfl rfl ?_
        refine Ru.br (k := .le) (off := 5) (bb := false) (tg := 39) (by decide +kernel) (by decide +kernel) (by decide) rfl ?_
        refine Ru.kI (q := (.iconst 0, 1)) (c := 0) (by decide +kernel) rfl (by decide) ?_
        cases h
        exact Ru.iret (by decide +kernel) rfl rfl
    · replace h := if_f b4 h
      refine Ru.br (k := .eq) (off := 10) (bb := false) (tg := 10) (by decide +kernel) (by decide +kernel) (cz (ci_eq0 g3 (by decide) b4)) rfl ?_
      refine Ru.op (q := (.aload_n 0, 1)) (by decide +kernel) rfl ?_
      refine Ru.getI (i := 356) (x := (S.F 36 10)) (by decide +kernel) (by rfl) (hp36 _) (by decide) rfl (eI_of _) ?_
      refine Ru.op (q := (.goto 7, 3)) (by decide +kernel) rfl ?_
      by_cases b46 : v2 < (S.F 36 10)
      · replace h := if_t b46 h
        refine Ru.br2 (k := .lt) (off := 7) (bb := true) (tg := 28) (by decide +kernel) (by decide +kernel) (ci_lt1 g1 (inR_to _) b46) rfl ?_
        refine Ru.kI (q := (.iconst 0, 1)) (c := 0) (by decide +kernel) rfl (by decide) ?_
        refine Ru.putH (i := 120) (by decide +kernel) (by rfl) (hp36 _) (by decide) (Nat.le_of_ble_eq_true rfl) rfl (by decide +kernel) (pf_36_0 _ _) ?_
        refine Ru.op (q := (.aload_n 0, 1)) (by decide +kernel) rfl ?_
        refine Ru.getI (i := 120) (x := 0) (by decide +kernel) (by rfl) (hp36 _) (by decide) rfl rfl ?_
        refine Ru.br (k := .le) (off := 5) (bb := true) (tg := 41) (by decide +kernel) (by decide +kernel) (by decide) rfl ?_
        refine Ru.op (q := (.iload_n 1, 1)) (by decide +kernel) rfl ?_
        refine Ru.br (k := .eq) (off := 10) (bb := false) (tg := 45) (by decide +kernel) (by decide +kernel) (cz (ci_eq0 g3 (by decide) b4)) rfl ?_
        refine Ru.kI (q := (.bipush 100, 2)) (c := 100) (by decide +kernel) rfl (by decide) ?_
        refine Ru.op (q := (.iload_n 2, 1)) (by decide +kernel) rfl ?_
        refine Ru.ar2 (i := .iadd) (z := (100 + v2)) (by decide +kernel) rfl (ar_add _ _) ?_
        refine Ru.op (q := (.goto 4, 3)) (by decide +kernel) rfl ?_
        refine Ru.op (q := (.istore_n 3, 1)) (S' := (54, [some (.ref 36), some (vI v1), some (vI v2), some (vI (100 + v2)), none], [], _, _)) (by decide +kernel) rfl ?_
        refine Ru.op (q := (.aload_n 0, 1)) (by decide +kernel) rfl ?_
        refine Ru.kI (q := (.iconst 0, 1)) (c := 0) (by decide +kernel) rfl (by decide) ?_
        refine Ru.putH (i := 344) (by decide +kernel) (by rfl) (hp36 _) (by decide) (Nat.le_of_ble_eq_true rfl) rfl (by decide +kernel) (pf_36_56 _ _) ?_
        refine Ru.op (q := (.aload_n 0, 1)) (by decide +kernel) rfl ?_
        refine Ru.get (i := 27) (v := .ref 41) (by decide +kernel) (by rfl) (hp36 _) (by decide) rfl ?_
        refine Ru.op (q := (.iload_n 3, 1)) (by decide +kernel) rfl ?_
        obtain ⟨g47, h⟩ := gd_some h
        refine Ru.ildI (i := (100 + v2)) (z := (S.A 41 (100 + v2))) (by decide +kernel) (hp41 _) g47 (eI_of _) ?_
        by_cases b48 : (S.A 41 (100 + v2)) = 0
        · replace h := if_t b48 h
          refine Ru.br (k := .ne) (off := 9) (bb := false) (tg := 68) (by decide +kernel) (by decide +kernel) (cz (ci_ne0 (inR_to _) (by decide) b48)) rfl ?_
          refine Ru.op (q := (.aload_n 0, 1)) (by decide +kernel) rfl ?_
          refine Ru.kI (q := (.bipush 48, 2)) (c := 48) (by decide +kernel) rfl (by decide) ?_
          obtain ⟨o49, e50, h⟩ := ob_some h
          refine Ru.vcall (i := 347) (j2 := 149) (as := [vI 48]) (by decide +kernel) (by rfl) rfl rfl (hp36 _) (by decide) ⟨(Nat.le_of_ble_eq_true rfl), (by show 19 + 2 ≤ 290; exact Nat.le_of_ble_eq_true rfl), Nat.le_of_ble_eq_true rfl, Nat.le_of_ble_eq_true rfl⟩ ((g149_ok e50).up (Nat.le_of_ble_eq_true rfl) (Nat.le_of_ble_eq_true rfl)) ?_
          refine Ru.kI (q := (.iconst 4, 1)) (c := 4) (by decide +kernel) rfl (by decide) ?_
          refine Ru.op (q := (.iload_n 3, 1)) (by decide +kernel) rfl ?_
          refine Ru.ar2 (i := .imul) (z := (4 * (100 + v2))) (by decide +kernel) rfl (ar_mul _ _) ?_
          refine Ru.op (q := (.istore 4, 2)) (S' := (79, [some (.ref 36), some (vI v1), some (vI v2), some (vI (100 + v2)), some (vI (4 * (100 + v2)))], [], _, _)) (by decide +kernel) rfl ?_
          obtain ⟨o51, e56, h⟩ := ob_some h
          refine g148L79_ok FU _ _ _ _ _ e56 _ ?_
          intro d52 d53 d54 d55
          refine Ru.op (q := (.aload_n 0, 1)) (by decide +kernel) rfl ?_
          refine Ru.getI (i := 344) (x := (o51.F 36 56)) (by decide +kernel) (by rfl) (hp36 _) (by decide) rfl (eI_of _) ?_
          cases h
          exact Ru.iret (by decide +kernel) rfl rfl
        · replace h := if_f b48 h
          refine Ru.br (k := .ne) (off := 9) (bb := true) (tg := 74) (by decide +kernel) (by decide +kernel) (cz (ci_ne1 (inR_to _) (by decide) b48)) rfl ?_
          refine Ru.kI (q := (.iconst 4, 1)) (c := 4) (by decide +kernel) rfl (by decide) ?_
          refine Ru.op (q := (.iload_n 3, 1)) (by decide +kernel) rfl ?_
          refine Ru.ar2 (i := .imul) (z := (4 * (100 + v2))) (by decide +kernel) rfl (ar_mul _ _) ?_
          refine Ru.op (q := (.istore 4, 2)) (S' := (79, [some (.ref 36), some (vI v1), some (vI v2), some (vI (100 + v2)), some (vI (4 * (100 + v2)))], [], _, _)) (by decide +kernel) rfl ?_
          obtain ⟨o57, e62, h⟩ := ob_some h
          refine g148L79_ok FU _ _ _ _ _ e62 _ ?_
          intro d58 d59 d60 d61
          refine Ru.op (q := (.aload_n 0, 1)) (by decide +kernel) rfl ?_
          refine Ru.getI (i := 344) (x := (o57.F 36 56)) (by decide +kernel) (by rfl) (hp36 _) (by decide) rfl (eI_of _) ?_
          cases h
          exact Ru.iret (by decide +kernel) rfl rfl
      · replace h := if_f b46 h
        refine Ru.br2 (k := .lt) (off := 7) (bb := false) (tg := 24) (by decide +kernel) (by decide +kernel) (ci_lt0 g1 (inR_to _) b46) rfl ?_
        refine Ru.kI (q := (.iconst 1, 1)) (c := 1) (by decide +kernel) rfl (by decide) ?_
        refine Ru.op (q := (.goto 4, 3)) (by decide +kernel) rfl ?_
        refine Ru.putH (i := 120) (by decide +kernel) (by rfl) (hp36 _) (by decide) (Nat.le_of_ble_eq_true rfl) rfl (by decide +kernel) (pf_36_0 _ _) ?_
        refine Ru.op (q := (.aload_n 0, 1)) (by decide +kernel) rfl ?_
        refine Ru.getI (i := 120) (x := 1) (by decide +kernel) (by rfl) (hp36 _) (by decide) rfl rfl ?_
        refine Ru.br (k := .le) (off := 5) (bb := false) (tg := 39) (by decide +kernel) (by decide +kernel) (by decide) rfl ?_
        refine Ru.kI (q := (.iconst 0, 1)) (c := 0) (by decide +kernel) rfl (by decide) ?_
        cases h
        exact Ru.iret (by decide +kernel) rfl rfl
def g153 (S : St) (v1 : Int) : Option (Int × St) := gd (inR v1) (if v1 < 0 then some (0, (S.f 36 0 1)) else if v1 < (S.F 36 56) then gd (ixR v1 400) (gd (chR (S.A 69 v1)) (some ((S.A 69 v1), (S.f 36 0 0)))) else some (0, (S.f 36 0 1)))
set_option maxRecDepth 100000 in
set_option maxHeartbeats 4000000 in
theorem g153_ok {S : St} {v1 : Int} {o : Int × St} (h : g153 S v1 = some o) : Ru none 10 200 153 (0, mn_pad (mn_ent [.ref 36, vI v1]) 2, [], S.ns, Hp S) ((0, some (vI o.1)), o.2.ns, Hp o.2) := by
  unfold g153 at h
  show Ru none 10 200 153 (0, [some (.ref 36), some (vI v1)], [], S.ns, Hp S) _
  refine Ru.op (q := (.aload_n 0, 1)) (by decide +kernel) rfl ?_
  refine Ru.op (q := (.iload_n 1, 1)) (by decide +kernel) rfl ?_
  obtain ⟨g1, h⟩ := gd_some h
  by_cases b2 : v1 < 0
  · replace h := if_t b2 h
    refine Ru.br (k := .lt) (off := 11) (bb := true) (tg := 13) (by decide +kernel) (by decide +kernel) (cz (ci_lt1 g1 (by decide) b2)) rfl ?_
    refine Ru.kI (q := (.iconst 1, 1)) (c := 1) (by decide +kernel) rfl (by decide) ?_
    refine Ru.op (q := (.goto 4, 3)) (by decide +kernel) rfl ?_
    refine Ru.putH (i := 120) (by decide +kernel) (by rfl) (hp36 _) (by decide) (Nat.le_of_ble_eq_true rfl) rfl (by decide +kernel) (pf_36_0 _ _) ?_
    refine Ru.op (q := (.aload_n 0, 1)) (by decide +kernel) rfl ?_
    refine Ru.getI (i := 120) (x := 1) (by decide +kernel) (by rfl) (hp36 _) (by decide) rfl rfl ?_
    refine Ru.br (k := .le) (off := 7) (bb := false) (tg := 28) (by decide +kernel) (by decide +kernel) (by decide) rfl ?_
    refine Ru.kI (q := (.iconst 0, 1)) (c := 0) (by decide +kernel) rfl (by decide) ?_
    refine Ru.op (q := (.goto 10, 3)) (by decide +kernel) rfl ?_
    cases h
    exact Ru.iret (by decide +kernel) rfl (nar_ch (by decide))
  · replace h := if_f b2 h
    refine Ru.br (k := .lt) (off := 11) (bb := false) (tg := 5) (by decide +kernel) (by decide +kernel) (cz (ci_lt0 g1 (by decide) b2)) rfl ?_
    refine Ru.op (q := (.iload_n 1, 1)) (by decide +kernel) rfl ?_
    refine Ru.op (q := (.aload_n 0, 1)) (by decide +kernel) rfl ?_
    refine Ru.getI (i := 344) (x := (S.F 36 56)) (by decide +kernel) (by rfl) (hp36 _) (by decide) rfl (eI_of _) ?_
    by_cases b3 : v1 < (S.F 36 56)
    · replace h := if_t b3 h
      refine Ru.br2 (k := .lt) (off := 7) (bb := true) (tg := 17) (by decide +kernel) (by decide +kernel) (ci_lt1 g1 (inR_to _) b3) rfl ?_
      refine Ru.kI (q := (.iconst 0, 1)) (c := 0) (by decide +kernel) rfl (by decide) ?_
      refine Ru.putH (i := 120) (by decide +kernel) (by rfl) (hp36 _) (by decide) (Nat.le_of_ble_eq_true rfl) rfl (by decide +kernel) (pf_36_0 _ _) ?_
      refine Ru.op (q := (.aload_n 0, 1)) (by decide +kernel) rfl ?_
      refine Ru.getI (i := 120) (x := 0) (by decide +kernel) (by rfl) (hp36 _) (by decide) rfl rfl ?_
      refine Ru.br (k := .le) (off := 7) (bb := true) (tg := 32) (by decide +kernel) (by decide +kernel) (by decide) rfl ?_
      refine Ru.op (q := (.aload_n 0, 1)) (by decide +kernel) rfl ?_
      refine Ru.get (i := 114) (v := .ref 69) (by decide +kernel) (by rfl) (hp36 _) (by decide) rfl ?_
      refine Ru.op (q := (.iload_n 1, 1)) (by decide +kernel) rfl ?_
      obtain ⟨g4, h⟩ := gd_some h
      refine Ru.ildI (i := v1) (z := (S.A 69 v1)) (by decide +kernel) (hp69 _) g4 (eI_of _) ?_
      obtain ⟨g5, h⟩ := gd_some h
      refine Ru.i2c (by decide +kernel) g5 ?_
      cases h
      exact Ru.iret (by decide +kernel) rfl (nar_ch g5)
    · replace h := if_f b3 h
      refine Ru.br2 (k := .lt) (off := 7) (bb := false) (tg := 13) (by decide +kernel) (by decide +kernel) (ci_lt0 g1 (inR_to _) b3) rfl ?_
      refine Ru.kI (q := (.iconst 1, 1)) (c := 1) (by decide +kernel) rfl (by decide) ?_
      refine Ru.op (q := (.goto 4, 3)) (by decide +kernel) rfl ?_
      refine Ru.putH (i := 120) (by decide +kernel) (by rfl) (hp36 _) (by decide) (Nat.le_of_ble_eq_true rfl) rfl (by decide +kernel) (pf_36_0 _ _) ?_
      refine Ru.op (q := (.aload_n 0, 1)) (by decide +kernel) rfl ?_
      refine Ru.getI (i := 120) (x := 1) (by decide +kernel) (by rfl) (hp36 _) (by decide) rfl rfl ?_
      refine Ru.br (k := .le) (off := 7) (bb := false) (tg := 28) (by decide +kernel) (by decide +kernel) (by decide) rfl ?_
      refine Ru.kI (q := (.iconst 0, 1)) (c := 0) (by decide +kernel) rfl (by decide) ?_
      refine Ru.op (q := (.goto 10, 3)) (by decide +kernel) rfl ?_
      cases h
      exact Ru.iret (by decide +kernel) rfl (nar_ch (by decide))
def g154 (S : St) (v1 : Int) (v2 : Int) : Option (Int × St) := gd (inR v1) (if v1 < 0 then some (0, (S.f 36 0 1)) else if v1 < (S.F 36 9) then gd (inR v2) (if v2 < 0 then some (0, (S.f 36 0 2)) else if 7 < v2 then some (0, (S.f 36 0 2)) else if 3 < v2 then gd (ixR (((4 * v1) + v2) - 4) 400) (some ((S.A 45 (((4 * v1) + v2) - 4)), (S.f 36 0 0))) else if v2 = 0 then gd (ixR v1 100) (some ((S.A 43 v1), (S.f 36 0 0))) else if v2 = 1 then gd (ixR v1 125) (some ((S.A 41 v1), (S.f 36 0 0))) else if v2 = 2 then gd (ixR v1 125) (some ((S.A 42 v1), (S.f 36 0 0))) else gd (ixR v1 100) (some ((S.A 44 v1), (S.f 36 0 0)))) else some (0, (S.f 36 0 1)))
set_option maxRecDepth 100000 in
set_option maxHeartbeats 4000000 in
theorem g154_ok {S : St} {v1 : Int} {v2 : Int} {o : Int × St} (h : g154 S v1 v2 = some o) : Ru none 10 200 154 (0, mn_pad (mn_ent [.ref 36, vI v1, vI v2]) 3, [], S.ns, Hp S) ((0, some (vI o.1)), o.2.ns, Hp o.2) := by
  unfold g154 at h
  show Ru none 10 200 154 (0, [some (.ref 36), some (vI v1), some (vI v2)], [], S.ns, Hp S) _
  refine Ru.op (q := (.aload_n 0, 1)) (by decide +kernel) rfl ?_
  refine Ru.op (q := (.iload_n 1, 1)) (by decide +kernel) rfl ?_
  obtain ⟨g1, h⟩ := gd_some h
  by_cases b2 : v1 < 0
  · replace h := if_t b2 h
    refine Ru.br (k := .lt) (off := 11) (bb := true) (tg := 13) (by decide +kernel) (by decide +kernel) (cz (ci_lt1 g1 (by decide) b2)) rfl ?_
    refine Ru.kI (q := (.iconst 1, 1)) (c := 1) (by decide +kernel) rfl (by decide) ?_
    refine Ru.op (q := (.goto 18, 3)) (by decide +kernel) rfl ?_
    refine Ru.putH (i := 120) (by decide +kernel) (by rfl) (hp36 _) (by decide) (Nat.le_of_ble_eq_true rfl) rfl (by decide +kernel) (pf_36_0 _ _) ?_
    refine Ru.op (q := (.aload_n 0, 1)) (by decide +kernel) rfl ?_
    refine Ru.getI (i := 120) (x := 1) (by decide +kernel) (by rfl) (hp36 _) (by decide) rfl rfl ?_
    refine Ru.br (k := .le) (off := 5) (bb := false) (tg := 42) (by decide +kernel) (by decide +kernel) (by decide) rfl ?_
    refine Ru.kI (q := (.iconst 0, 1)) (c := 0) (by decide +kernel) rfl (by decide) ?_
    cases h
    exact Ru.iret (by decide +kernel) rfl rfl
  · replace h := if_f b2 h
    refine Ru.br (k := .lt) (off := 11) (bb := false) (tg := 5) (by decide +kernel) (by decide +kernel) (cz (ci_lt0 g1 (by decide) b2)) rfl ?_
    refine Ru.op (q := (.iload_n 1, 1)) (by decide +kernel) rfl ?_
    refine Ru.op (q := (.aload_n 0, 1)) (by decide +kernel) rfl ?_
    refine Ru.getI (i := 263) (x := (S.F 36 9)) (by decide +kernel) (by rfl) (hp36 _) (by decide) rfl (eI_of _) ?_
    by_cases b3 : v1 < (S.F 36 9)
    · replace h := if_t b3 h
      refine Ru.br2 (k := .lt) (off := 7) (bb := true) (tg := 17) (by decide +kernel) (by decide +kernel) (ci_lt1 g1 (inR_to _) b3) rfl ?_
      refine Ru.op (q := (.iload_n 2, 1)) (by decide +kernel) rfl ?_
      obtain ⟨g4, h⟩ := gd_some h
      by_cases b5 : v2 < 0
      · replace h := if_t b5 h
        refine Ru.br (k := .lt) (off := 9) (bb := true) (tg := 27) (by decide +kernel) (by decide +kernel) (cz (ci_lt1 g4 (by decide) b5)) rfl ?_
        refine Ru.kI (q := (.iconst 2, 1)) (c := 2) (by decide +kernel) rfl (by decide) ?_
        refine Ru.op (q := (.goto 4, 3)) (by decide +kernel) rfl ?_
        refine Ru.putH (i := 120) (by decide +kernel) (by rfl) (hp36 _) (by decide) (Nat.le_of_ble_eq_true rfl) rfl (by decide +kernel) (pf_36_0 _ _) ?_
        refine Ru.op (q := (.aload_n 0, 1)) (by decide +kernel) rfl ?_
        refine Ru.getI (i := 120) (x := 2) (by decide +kernel) (by rfl) (hp36 _) (by decide) rfl rfl ?_
        refine Ru.br (k := .le) (off := 5) (bb := false) (tg := 42) (by decide +kernel) (by decide +kernel) (by decide) rfl ?_
        refine Ru.kI (q := (.iconst 0, 1)) (c := 0) (by decide +kernel) rfl (by decide) ?_
        cases h
        exact Ru.iret (by decide +kernel) rfl rfl
      · replace h := if_f b5 h
        refine Ru.br (k := .lt) (off := 9) (bb := false) (tg := 21) (by decide +kernel) (by decide +kernel) (cz (ci_lt0 g4 (by decide) b5)) rfl ?_
        refine Ru.op (q := (.iload_n 2, 1)) (by decide +kernel) rfl ?_
        refine Ru.kI (q := (.bipush 7, 2)) (c := 7) (by decide +kernel) rfl (by decide) ?_
        by_cases b6 : 7 < v2
        · replace h := if_t b6 h
          refine Ru.br2 (k := .le) (off := 7) (bb := false) (tg := 27) (by decide +kernel) (by decide +kernel) (ci_le0 g4 (by decide) b6) rfl ?_
          refine Ru.kI (q := (.iconst 2, 1)) (c := 2) (by decide +kernel) rfl (by decide) ?_
          refine Ru.op (q := (.goto 4, 3)) (by decide +kernel) rfl ?_
          refine Ru.putH (i := 120) (by decide +kernel) (by rfl) (hp36 _) (by decide) (Nat.le_of_ble_eq_true rfl) rfl (by decide +kernel) (pf_36_0 _ _) ?_
          refine Ru.op (q := (.aload_n 0, 1)) (by decide +kernel) rfl ?_
          refine Ru.getI (i := 120) (x := 2) (by decide +kernel) (by rfl) (hp36 _) (by decide) rfl rfl ?_
          refine Ru.br (k := .le) (off := 5) (bb := false) (tg := 42) (by decide +kernel) (by decide +kernel) (by decide) rfl ?_
          refine Ru.kI (q := (.iconst 0, 1)) (c := 0) (by decide +kernel) rfl (by decide) ?_
          cases h
          exact Ru.iret (by decide +kernel) rfl rfl
        · replace h := if_f b6 h
          refine Ru.br2 (k := .le) (off := 7) (bb := true) (tg := 31) (by decide +kernel) (by decide +kernel) (ci_le1 g4 (by decide) b6) rfl ?_
          refine Ru.kI (q := (.iconst 0, 1)) (c := 0) (by decide +kernel) rfl (by decide) ?_
          refine Ru.putH (i := 120) (by decide +kernel) (by rfl) (hp36 _) (by decide) (Nat.le_of_ble_eq_true rfl) rfl (by decide +kernel) (pf_36_0 _ _) ?_
          refine Ru.op (q := (.aload_n 0, 1)) (by decide +kernel) rfl ?_
          refine Ru.getI (i := 120) (x := 0) (by decide +kernel) (by rfl) (hp36 _) (by decide) rfl rfl ?_
          refine Ru.br (k := .le) (off := 5) (bb := true) (tg := 44) (by decide +kernel) (by decide +kernel) (by decide) rfl ?_
          refine Ru.op (q := (.iload_n 2, 1)) (by decide +kernel) rfl ?_
          refine Ru.kI (q := (.iconst 3, 1)) (c := 3) (by decide +kernel) rfl (by decide) ?_
          by_cases b7 : 3 < v2
          · replace h := if_t b7 h
            refine Ru.br2 (k := .le) (off := 16) (bb := false) (tg := 49) (by decide +kernel) (by decide +kernel) (ci_le0 g4 (by decide) b7) rfl ?_
            refine Ru.op (q := (.aload_n 0, 1)) (by decide +kernel) rfl ?_
            refine Ru.get (i := 39) (v := .ref 45) (by decide +kernel) (by rfl) (hp36 _) (by decide) rfl ?_
            refine Ru.kI (q := (.iconst 4, 1)) (c := 4) (by decide +kernel) rfl (by decide) ?_
            refine Ru.op (q := (.iload_n 1, 1)) (by decide +kernel) rfl ?_
            refine Ru.ar2 (i := .imul) (z := (4 * v1)) (by decide +kernel) rfl (ar_mul _ _) ?_
            refine Ru.op (q := (.iload_n 2, 1)) (by decide +kernel) rfl ?_
            refine Ru.ar2 (i := .iadd) (z := ((4 * v1) + v2)) (by decide +kernel) rfl (ar_add _ _) ?_
            refine Ru.kI (q := (.iconst 4, 1)) (c := 4) (by decide +kernel) rfl (by decide) ?_
            refine Ru.ar2 (i := .isub) (z := (((4 * v1) + v2) - 4)) (by decide +kernel) rfl (ar_sub _ _) ?_
            obtain ⟨g8, h⟩ := gd_some h
            refine Ru.ildI (i := (((4 * v1) + v2) - 4)) (z := (S.A 45 (((4 * v1) + v2) - 4))) (by decide +kernel) (hp45 _) g8 (eI_of _) ?_
            cases h
            exact Ru.iret (by decide +kernel) rfl rfl
          · replace h := if_f b7 h
            refine Ru.br2 (k := .le) (off := 16) (bb := true) (tg := 62) (by decide +kernel) (by decide +kernel) (ci_le1 g4 (by decide) b7) rfl ?_
            refine Ru.op (q := (.iload_n 2, 1)) (by decide +kernel) rfl ?_
            by_cases b9 : v2 = 0
            · replace h := if_t b9 h
              refine Ru.br (k := .ne) (off := 12) (bb := false) (tg := 66) (by decide +kernel) (by decide +kernel) (cz (ci_ne0 g4 (by decide) b9)) rfl ?_
              refine Ru.op (q := (.aload_n 0, 1)) (by decide +kernel) rfl ?_
              refine Ru.get (i := 33) (v := .ref 43) (by decide +kernel) (by rfl) (hp36 _) (by decide) rfl ?_
              refine Ru.op (q := (.iload_n 1, 1)) (by decide +kernel) rfl ?_
              obtain ⟨g10, h⟩ := gd_some h
              refine Ru.ildI (i := v1) (z := (S.A 43 v1)) (by decide +kernel) (hp43 _) g10 (eI_of _) ?_
              refine Ru.op (q := (.goto 37, 3)) (by decide +kernel) rfl ?_
              cases h
              exact Ru.iret (by decide +kernel) rfl rfl
            · replace h := if_f b9 h
              refine Ru.br (k := .ne) (off := 12) (bb := true) (tg := 75) (by decide +kernel) (by decide +kernel) (cz (ci_ne1 g4 (by decide) b9)) rfl ?_
              refine Ru.op (q := (.iload_n 2, 1)) (by decide +kernel) rfl ?_
              refine Ru.kI (q := (.iconst 1, 1)) (c := 1) (by decide +kernel) rfl (by decide) ?_
              by_cases b11 : v2 = 1
              · replace h := if_t b11 h
                refine Ru.br2 (k := .ne) (off := 12) (bb := false) (tg := 80) (by decide +kernel) (by decide +kernel) (ci_ne0 g4 (by decide) b11) rfl ?_
                refine Ru.op (q := (.aload_n 0, 1)) (by decide +kernel) rfl ?_
                refine Ru.get (i := 27) (v := .ref 41) (by decide +kernel) (by rfl) (hp36 _) (by decide) rfl ?_
                refine Ru.op (q := (.iload_n 1, 1)) (by decide +kernel) rfl ?_
                obtain ⟨g12, h⟩ := gd_some h
                refine Ru.ildI (i := v1) (z := (S.A 41 v1)) (by decide +kernel) (hp41 _) g12 (eI_of _) ?_
                refine Ru.op (q := (.goto 23, 3)) (by decide +kernel) rfl ?_
                cases h
                exact Ru.iret (by decide +kernel) rfl rfl
              · replace h := if_f b11 h
                refine Ru.br2 (k := .ne) (off := 12) (bb := true) (tg := 89) (by decide +kernel) (by decide +kernel) (ci_ne1 g4 (by decide) b11) rfl ?_
                refine Ru.op (q := (.iload_n 2, 1)) (by decide +kernel) rfl ?_
                refine Ru.kI (q := (.iconst 2, 1)) (c := 2) (by decide +kernel) rfl (by decide) ?_
                by_cases b13 : v2 = 2
                · replace h := if_t b13 h
                  refine Ru.br2 (k := .ne) (off := 12) (bb := false) (tg := 94) (by decide +kernel) (by decide +kernel) (ci_ne0 g4 (by decide) b13) rfl ?_
                  refine Ru.op (q := (.aload_n 0, 1)) (by decide +kernel) rfl ?_
                  refine Ru.get (i := 30) (v := .ref 42) (by decide +kernel) (by rfl) (hp36 _) (by decide) rfl ?_
                  refine Ru.op (q := (.iload_n 1, 1)) (by decide +kernel) rfl ?_
                  obtain ⟨g14, h⟩ := gd_some h
                  refine Ru.ildI (i := v1) (z := (S.A 42 v1)) (by decide +kernel) (hp42 _) g14 (eI_of _) ?_
                  refine Ru.op (q := (.goto 9, 3)) (by decide +kernel) rfl ?_
                  cases h
                  exact Ru.iret (by decide +kernel) rfl rfl
                · replace h := if_f b13 h
                  refine Ru.br2 (k := .ne) (off := 12) (bb := true) (tg := 103) (by decide +kernel) (by decide +kernel) (ci_ne1 g4 (by decide) b13) rfl ?_
                  refine Ru.op (q := (.aload_n 0, 1)) (by decide +kernel) rfl ?_
                  refine Ru.get (i := 36) (v := .ref 44) (by decide +kernel) (by rfl) (hp36 _) (by decide) rfl ?_
                  refine Ru.op (q := (.iload_n 1, 1)) (by decide +kernel) rfl ?_
                  obtain ⟨g15, h⟩ := gd_some h
                  refine Ru.ildI (i := v1) (z := (S.A 44 v1)) (by decide +kernel) (hp44 _) g15 (eI_of _) ?_
                  cases h
                  exact Ru.iret (by decide +kernel) rfl rfl
    · replace h := if_f b3 h
      refine Ru.br2 (k := .lt) (off := 7) (bb := false) (tg := 13) (by decide +kernel) (by decide +kernel) (ci_lt0 g1 (inR_to _) b3) rfl ?_
      refine Ru.kI (q := (.iconst 1, 1)) (c := 1) (by decide +kernel) rfl (by decide) ?_
      refine Ru.op (q := (.goto 18, 3)) (by decide +kernel) rfl ?_
      refine Ru.putH (i := 120) (by decide +kernel) (by rfl) (hp36 _) (by decide) (Nat.le_of_ble_eq_true rfl) rfl (by decide +kernel) (pf_36_0 _ _) ?_
      refine Ru.op (q := (.aload_n 0, 1)) (by decide +kernel) rfl ?_
      refine Ru.getI (i := 120) (x := 1) (by decide +kernel) (by rfl) (hp36 _) (by decide) rfl rfl ?_
      refine Ru.br (k := .le) (off := 5) (bb := false) (tg := 42) (by decide +kernel) (by decide +kernel) (by decide) rfl ?_
      refine Ru.kI (q := (.iconst 0, 1)) (c := 0) (by decide +kernel) rfl (by decide) ?_
      cases h
      exact Ru.iret (by decide +kernel) rfl rfl
