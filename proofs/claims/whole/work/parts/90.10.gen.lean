def g92 (S : St) (v1 : Int) : Option (Nat × Int × St) := gd (inR v1) (if v1 = 0 then some (0, (S.F 13 1), S) else if v1 = 1 then ob (g13 S 0) (fun o4 => some (0, o4, S)) else if v1 = 2 then ob (g13 S 1) (fun o7 => some (0, o7, S)) else if v1 = 3 then some (0, (S.F 13 3), S) else if v1 = 4 then some (0, (S.F 13 4), S) else if v1 = 5 then some (0, (S.F 13 5), S) else if v1 = 6 then some (0, (S.F 13 6), S) else if v1 = 7 then some (0, (S.F 13 2), S) else if v1 = 8 then some (0, (S.F 0 5), S) else some (1, 0, S.ho))
set_option maxRecDepth 100000 in
set_option maxHeartbeats 4000000 in
theorem g92_ok {S : St} {v1 : Int} {o : Nat × Int × St} (h : g92 S v1 = some o) : Ru none 11 223 92 (0, mn_pad (mn_ent [.ref 0, vI v1]) 2, [], S.ns, Hp S) ((o.1, tv o.1 o.2.1), o.2.2.ns, Hp o.2.2) := by
  unfold g92 at h
  show Ru none 11 223 92 (0, [some (.ref 0), some (vI v1)], [], S.ns, Hp S) _
  refine Ru.op (q := (.iload_n 1, 1)) (by decide +kernel) rfl ?_
  obtain ⟨g1, h⟩ := gd_some h
  by_cases b2 : v1 = 0
  · replace h := if_t b2 h
    refine Ru.sw (d := 122) (lo2 := 0) (hi := 8) (offs := #[51, 59, 68, 77, 85, 93, 101, 109, 117]) (len := 51) (tg := 52) (by decide +kernel) (by rw [b2]; decide +kernel) ?_
    refine Ru.op (q := (.aload_n 0, 1)) (by decide +kernel) rfl ?_
    refine Ru.get (i := 19) (v := .ref 13) (by decide +kernel) (by rfl) (hp0 _) (by decide) rfl ?_
    refine Ru.getI (i := 105) (x := (S.F 13 1)) (by decide +kernel) (by rfl) (hp13 _) (by decide) rfl (eI_of _) ?_
    cases h
    exact Ru.iret (by decide +kernel) rfl rfl
  · replace h := if_f b2 h
    by_cases b3 : v1 = 1
    · replace h := if_t b3 h
      refine Ru.sw (d := 122) (lo2 := 0) (hi := 8) (offs := #[51, 59, 68, 77, 85, 93, 101, 109, 117]) (len := 51) (tg := 60) (by decide +kernel) (by rw [b3]; decide +kernel) ?_
      refine Ru.op (q := (.aload_n 0, 1)) (by decide +kernel) rfl ?_
      refine Ru.get (i := 19) (v := .ref 13) (by decide +kernel) (by rfl) (hp0 _) (by decide) rfl ?_
      refine Ru.kI (q := (.iconst 0, 1)) (c := 0) (by decide +kernel) rfl (by decide) ?_
      obtain ⟨o4, e5, h⟩ := ob_some h
      refine Ru.vcall (i := 189) (j2 := 13) (as := [vI 0]) (by decide +kernel) (by rfl) rfl rfl (hp13 _) (by decide) ⟨(Nat.le_of_ble_eq_true rfl), (by show 19 + 4 ≤ 223; exact Nat.le_of_ble_eq_true rfl), Nat.le_of_ble_eq_true rfl, Nat.le_of_ble_eq_true rfl⟩ ((g13_ok e5).up (Nat.le_of_ble_eq_true rfl) (Nat.le_of_ble_eq_true rfl)) ?_
      cases h
      exact Ru.iret (by decide +kernel) rfl rfl
    · replace h := if_f b3 h
      by_cases b6 : v1 = 2
      · replace h := if_t b6 h
        refine Ru.sw (d := 122) (lo2 := 0) (hi := 8) (offs := #[51, 59, 68, 77, 85, 93, 101, 109, 117]) (len := 51) (tg := 69) (by decide +kernel) (by rw [b6]; decide +kernel) ?_
        refine Ru.op (q := (.aload_n 0, 1)) (by decide +kernel) rfl ?_
        refine Ru.get (i := 19) (v := .ref 13) (by decide +kernel) (by rfl) (hp0 _) (by decide) rfl ?_
        refine Ru.kI (q := (.iconst 1, 1)) (c := 1) (by decide +kernel) rfl (by decide) ?_
        obtain ⟨o7, e8, h⟩ := ob_some h
        refine Ru.vcall (i := 189) (j2 := 13) (as := [vI 1]) (by decide +kernel) (by rfl) rfl rfl (hp13 _) (by decide) ⟨(Nat.le_of_ble_eq_true rfl), (by show 19 + 4 ≤ 223; exact Nat.le_of_ble_eq_true rfl), Nat.le_of_ble_eq_true rfl, Nat.le_of_ble_eq_true rfl⟩ ((g13_ok e8).up (Nat.le_of_ble_eq_true rfl) (Nat.le_of_ble_eq_true rfl)) ?_
        cases h
        exact Ru.iret (by decide +kernel) rfl rfl
      · replace h := if_f b6 h
        by_cases b9 : v1 = 3
        · replace h := if_t b9 h
          refine Ru.sw (d := 122) (lo2 := 0) (hi := 8) (offs := #[51, 59, 68, 77, 85, 93, 101, 109, 117]) (len := 51) (tg := 78) (by decide +kernel) (by rw [b9]; decide +kernel) ?_
          refine Ru.op (q := (.aload_n 0, 1)) (by decide +kernel) rfl ?_
          refine Ru.get (i := 19) (v := .ref 13) (by decide +kernel) (by rfl) (hp0 _) (by decide) rfl ?_
          refine Ru.getI (i := 193) (x := (S.F 13 3)) (by decide +kernel) (by rfl) (hp13 _) (by decide) rfl (eI_of _) ?_
          cases h
          exact Ru.iret (by decide +kernel) rfl rfl
        · replace h := if_f b9 h
          by_cases b10 : v1 = 4
          · replace h := if_t b10 h
            refine Ru.sw (d := 122) (lo2 := 0) (hi := 8) (offs := #[51, 59, 68, 77, 85, 93, 101, 109, 117]) (len := 51) (tg := 86) (by decide +kernel) (by rw [b10]; decide +kernel) ?_
            refine Ru.op (q := (.aload_n 0, 1)) (by decide +kernel) rfl ?_
            refine Ru.get (i := 19) (v := .ref 13) (by decide +kernel) (by rfl) (hp0 _) (by decide) rfl ?_
            refine Ru.getI (i := 196) (x := (S.F 13 4)) (by decide +kernel) (by rfl) (hp13 _) (by decide) rfl (eI_of _) ?_
            cases h
            exact Ru.iret (by decide +kernel) rfl rfl
          · replace h := if_f b10 h
            by_cases b11 : v1 = 5
            · replace h := if_t b11 h
              refine Ru.sw (d := 122) (lo2 := 0) (hi := 8) (offs := #[51, 59, 68, 77, 85, 93, 101, 109, 117]) (len := 51) (tg := 94) (by decide +kernel) (by rw [b11]; decide +kernel) ?_
              refine Ru.op (q := (.aload_n 0, 1)) (by decide +kernel) rfl ?_
              refine Ru.get (i := 19) (v := .ref 13) (by decide +kernel) (by rfl) (hp0 _) (by decide) rfl ?_
              refine Ru.getI (i := 199) (x := (S.F 13 5)) (by decide +kernel) (by rfl) (hp13 _) (by decide) rfl (eI_of _) ?_
              cases h
              exact Ru.iret (by decide +kernel) rfl rfl
            · replace h := if_f b11 h
              by_cases b12 : v1 = 6
              · replace h := if_t b12 h
                refine Ru.sw (d := 122) (lo2 := 0) (hi := 8) (offs := #[51, 59, 68, 77, 85, 93, 101, 109, 117]) (len := 51) (tg := 102) (by decide +kernel) (by rw [b12]; decide +kernel) ?_
                refine Ru.op (q := (.aload_n 0, 1)) (by decide +kernel) rfl ?_
                refine Ru.get (i := 19) (v := .ref 13) (by decide +kernel) (by rfl) (hp0 _) (by decide) rfl ?_
                refine Ru.getI (i := 202) (x := (S.F 13 6)) (by decide +kernel) (by rfl) (hp13 _) (by decide) rfl (eI_of _) ?_
                cases h
                exact Ru.iret (by decide +kernel) rfl rfl
              · replace h := if_f b12 h
                by_cases b13 : v1 = 7
                · replace h := if_t b13 h
                  refine Ru.sw (d := 122) (lo2 := 0) (hi := 8) (offs := #[51, 59, 68, 77, 85, 93, 101, 109, 117]) (len := 51) (tg := 110) (by decide +kernel) (by rw [b13]; decide +kernel) ?_
                  refine Ru.op (q := (.aload_n 0, 1)) (by decide +kernel) rfl ?_
                  refine Ru.get (i := 19) (v := .ref 13) (by decide +kernel) (by rfl) (hp0 _) (by decide) rfl ?_
                  refine Ru.getI (i := 64) (x := (S.F 13 2)) (by decide +kernel) (by rfl) (hp13 _) (by decide) rfl (eI_of _) ?_
                  cases h
                  exact Ru.iret (by decide +kernel) rfl rfl
                · replace h := if_f b13 h
                  by_cases b14 : v1 = 8
                  · replace h := if_t b14 h
                    refine Ru.sw (d := 122) (lo2 := 0) (hi := 8) (offs := #[51, 59, 68, 77, 85, 93, 101, 109, 117]) (len := 51) (tg := 118) (by decide +kernel) (by rw [b14]; decide +kernel) ?_
                    refine Ru.op (q := (.aload_n 0, 1)) (by decide +kernel) rfl ?_
                    refine Ru.getI (i := 102) (x := (S.F 0 5)) (by decide +kernel) (by rfl) (hp0 _) (by decide) rfl (eI_of _) ?_
                    cases h
                    exact Ru.iret (by decide +kernel) rfl rfl
                  · replace h := if_f b14 h
                    refine Ru.sw (d := 122) (lo2 := 0) (hi := 8) (offs := #[51, 59, 68, 77, 85, 93, 101, 109, 117]) (len := 51) (tg := 123) (by decide +kernel) (by simp only [mn_opC]; rw [eI_to g1, if_pos (by omega)]; rfl) ?_
                    cases h
                    exact tho (S := S) (Ru.thr (q := (.new 51, 3)) (by decide +kernel) rfl rfl (by decide +kernel))
def g94 (S : St) : Option (Int) := some (S.F 36 0)
set_option maxRecDepth 100000 in
set_option maxHeartbeats 4000000 in
theorem g94_ok {S : St} {o : Int} (h : g94 S  = some o) : Ru none 10 200 94 (0, mn_pad (mn_ent [.ref 36]) 1, [], S.ns, Hp S) ((0, some (vI o)), S.ns, Hp S) := by
  unfold g94 at h
  show Ru none 10 200 94 (0, [some (.ref 36)], [], S.ns, Hp S) _
  refine Ru.op (q := (.aload_n 0, 1)) (by decide +kernel) rfl ?_
  refine Ru.getI (i := 120) (x := (S.F 36 0)) (by decide +kernel) (by rfl) (hp36 _) (by decide) rfl (eI_of _) ?_
  cases h
  exact Ru.iret (by decide +kernel) rfl rfl
def g96 (S : St) : Option (Int × St) := some ((S.F 36 2), ((S.f 36 0 0).f 36 2 0))
set_option maxRecDepth 100000 in
set_option maxHeartbeats 4000000 in
theorem g96_ok {S : St} {o : Int × St} (h : g96 S  = some o) : Ru none 10 200 96 (0, mn_pad (mn_ent [.ref 36]) 2, [], S.ns, Hp S) ((0, some (vI o.1)), o.2.ns, Hp o.2) := by
  unfold g96 at h
  show Ru none 10 200 96 (0, [some (.ref 36), none], [], S.ns, Hp S) _
  refine Ru.op (q := (.aload_n 0, 1)) (by decide +kernel) rfl ?_
  refine Ru.kI (q := (.iconst 0, 1)) (c := 0) (by decide +kernel) rfl (by decide) ?_
  refine Ru.putH (i := 120) (by decide +kernel) (by rfl) (hp36 _) (by decide) (Nat.le_of_ble_eq_true rfl) rfl (by decide +kernel) (pf_36_0 _ _) ?_
  refine Ru.op (q := (.aload_n 0, 1)) (by decide +kernel) rfl ?_
  refine Ru.getI (i := 129) (x := (S.F 36 2)) (by decide +kernel) (by rfl) (hp36 _) (by decide) rfl (eI_of _) ?_
  refine Ru.op (q := (.istore_n 1, 1)) (S' := (10, [some (.ref 36), some (vI (S.F 36 2))], [], _, _)) (by decide +kernel) rfl ?_
  refine Ru.op (q := (.aload_n 0, 1)) (by decide +kernel) rfl ?_
  refine Ru.kI (q := (.iconst 0, 1)) (c := 0) (by decide +kernel) rfl (by decide) ?_
  refine Ru.putH (i := 129) (by decide +kernel) (by rfl) (hp36 _) (by decide) (Nat.le_of_ble_eq_true rfl) rfl (by decide +kernel) (pf_36_2 _ _) ?_
  refine Ru.op (q := (.iload_n 1, 1)) (by decide +kernel) rfl ?_
  cases h
  exact Ru.iret (by decide +kernel) rfl rfl
def g97 (S : St) : Option (Int × St) := some ((S.F 36 1), (S.f 36 0 0))
set_option maxRecDepth 100000 in
set_option maxHeartbeats 4000000 in
theorem g97_ok {S : St} {o : Int × St} (h : g97 S  = some o) : Ru none 10 200 97 (0, mn_pad (mn_ent [.ref 36]) 1, [], S.ns, Hp S) ((0, some (vI o.1)), o.2.ns, Hp o.2) := by
  unfold g97 at h
  show Ru none 10 200 97 (0, [some (.ref 36)], [], S.ns, Hp S) _
  refine Ru.op (q := (.aload_n 0, 1)) (by decide +kernel) rfl ?_
  refine Ru.kI (q := (.iconst 0, 1)) (c := 0) (by decide +kernel) rfl (by decide) ?_
  refine Ru.putH (i := 120) (by decide +kernel) (by rfl) (hp36 _) (by decide) (Nat.le_of_ble_eq_true rfl) rfl (by decide +kernel) (pf_36_0 _ _) ?_
  refine Ru.op (q := (.aload_n 0, 1)) (by decide +kernel) rfl ?_
  refine Ru.getI (i := 9) (x := (S.F 36 1)) (by decide +kernel) (by rfl) (hp36 _) (by decide) rfl (eI_of _) ?_
  cases h
  exact Ru.iret (by decide +kernel) rfl rfl
def g100L2  : Nat → Int → St → Option (St)
  | 0, _, _ => none
  | n + 1, v1, S => gd (inR v1) (if v1 < 128 then gd (ixR v1 128) (g100L2 n (v1 + 1) (S.a 47 v1 (-1))) else some S)
set_option maxRecDepth 100000 in
set_option maxHeartbeats 4000000 in
theorem g100L2_ok : ∀ (n : Nat) (v1 : Int) (S : St) (out : St), g100L2 n v1 S = some out → ∀ r, (∀ (e0 e1 : Option Value), Ru none 10 200 100 (22, [e0, e1], [], out.ns, Hp out) r) → Ru none 10 200 100 (2, [some (.ref 36), some (vI v1)], [], S.ns, Hp S) r := by
  intro n
  induction n with
  | zero => intro v1 S out h; cases h
  | succ n ih =>
    intro v1 S out h r hk
    unfold g100L2 at h
    refine Ru.op (q := (.iload_n 1, 1)) (by decide +kernel) rfl ?_
    refine Ru.kI (q := (.sipush 128, 3)) (c := 128) (by decide +kernel) rfl (by decide) ?_
    obtain ⟨g1, h⟩ := gd_some h
    by_cases b2 : v1 < 128
    · replace h := if_t b2 h
      refine Ru.br2 (k := .ge) (off := 16) (bb := false) (tg := 9) (by decide +kernel) (by decide +kernel) (ci_ge0 g1 (by decide) b2) rfl ?_
      refine Ru.op (q := (.aload_n 0, 1)) (by decide +kernel) rfl ?_
      refine Ru.get (i := 48) (v := .ref 47) (by decide +kernel) (by rfl) (hp36 _) (by decide) rfl ?_
      refine Ru.op (q := (.iload_n 1, 1)) (by decide +kernel) rfl ?_
      refine Ru.kI (q := (.iconst (-1), 1)) (c := (-1)) (by decide +kernel) rfl (by decide) ?_
      obtain ⟨g3, h⟩ := gd_some h
      refine Ru.istI (i := v1) (x := (-1)) (by decide +kernel) (hp47 _) g3 (ps_47 _ _ _) ?_
      refine Ru.inc (x := v1) (z := (v1 + 1)) (xs' := [some (.ref 36), some (vI (v1 + 1))]) (by decide +kernel) rfl rfl rfl ?_
      refine Ru.op (q := (.goto (-17), 3)) (by decide +kernel) rfl ?_
      exact ih _ _ _ h r hk
    · replace h := if_f b2 h
      refine Ru.br2 (k := .ge) (off := 16) (bb := true) (tg := 22) (by decide +kernel) (by decide +kernel) (ci_ge1 g1 (by decide) b2) rfl ?_
      cases h
      exact hk _ _
def g100 (S : St) : Option (St) := ob (g100L2 FU 0 S) (fun o4 => some o4)
set_option maxRecDepth 100000 in
set_option maxHeartbeats 4000000 in
theorem g100_ok {S : St} {o : St} (h : g100 S  = some o) : Ru none 10 200 100 (0, mn_pad (mn_ent [.ref 36]) 2, [], S.ns, Hp S) ((0, none), o.ns, Hp o) := by
  unfold g100 at h
  show Ru none 10 200 100 (0, [some (.ref 36), none], [], S.ns, Hp S) _
  refine Ru.kI (q := (.iconst 0, 1)) (c := 0) (by decide +kernel) rfl (by decide) ?_
  refine Ru.op (q := (.istore_n 1, 1)) (S' := (2, [some (.ref 36), some (vI 0)], [], _, _)) (by decide +kernel) rfl ?_
  obtain ⟨o4, e7, h⟩ := ob_some h
  refine g100L2_ok FU _ _ _ e7 _ ?_
  intro d5 d6
  cases h
  exact Ru.end (q := (.return_, 1)) (by decide +kernel) rfl rfl
def g99 (S : St) : Option (St) := ob (g100 ((((((((((S.f 36 27 0).f 36 28 0).f 36 29 0).f 36 36 0).f 36 30 0).f 36 34 0).f 36 35 (S.F 36 20)).f 36 22 0).f 36 43 0).f 36 46 0)) (fun o1 => some o1)
set_option maxRecDepth 100000 in
set_option maxHeartbeats 4000000 in
theorem g99_ok {S : St} {o : St} (h : g99 S  = some o) : Ru none 11 221 99 (0, mn_pad (mn_ent [.ref 36]) 1, [], S.ns, Hp S) ((0, none), o.ns, Hp o) := by
  unfold g99 at h
  show Ru none 11 221 99 (0, [some (.ref 36)], [], S.ns, Hp S) _
  refine Ru.op (q := (.aload_n 0, 1)) (by decide +kernel) rfl ?_
  refine Ru.kI (q := (.iconst 0, 1)) (c := 0) (by decide +kernel) rfl (by decide) ?_
  refine Ru.putH (i := 140) (by decide +kernel) (by rfl) (hp36 _) (by decide) (Nat.le_of_ble_eq_true rfl) rfl (by decide +kernel) (pf_36_27 _ _) ?_
  refine Ru.op (q := (.aload_n 0, 1)) (by decide +kernel) rfl ?_
  refine Ru.kI (q := (.iconst 0, 1)) (c := 0) (by decide +kernel) rfl (by decide) ?_
  refine Ru.putH (i := 151) (by decide +kernel) (by rfl) (hp36 _) (by decide) (Nat.le_of_ble_eq_true rfl) (fk_b (by decide)) (by decide +kernel) (pf_36_28 _ _) ?_
  refine Ru.op (q := (.aload_n 0, 1)) (by decide +kernel) rfl ?_
  refine Ru.kI (q := (.iconst 0, 1)) (c := 0) (by decide +kernel) rfl (by decide) ?_
  refine Ru.putH (i := 167) (by decide +kernel) (by rfl) (hp36 _) (by decide) (Nat.le_of_ble_eq_true rfl) (fk_b (by decide)) (by decide +kernel) (pf_36_29 _ _) ?_
  refine Ru.op (q := (.aload_n 0, 1)) (by decide +kernel) rfl ?_
  refine Ru.kI (q := (.iconst 0, 1)) (c := 0) (by decide +kernel) rfl (by decide) ?_
  refine Ru.putH (i := 192) (by decide +kernel) (by rfl) (hp36 _) (by decide) (Nat.le_of_ble_eq_true rfl) (fk_b (by decide)) (by decide +kernel) (pf_36_36 _ _) ?_
  refine Ru.op (q := (.aload_n 0, 1)) (by decide +kernel) rfl ?_
  refine Ru.kI (q := (.iconst 0, 1)) (c := 0) (by decide +kernel) rfl (by decide) ?_
  refine Ru.putH (i := 158) (by decide +kernel) (by rfl) (hp36 _) (by decide) (Nat.le_of_ble_eq_true rfl) rfl (by decide +kernel) (pf_36_30 _ _) ?_
  refine Ru.op (q := (.aload_n 0, 1)) (by decide +kernel) rfl ?_
  refine Ru.kI (q := (.iconst 0, 1)) (c := 0) (by decide +kernel) rfl (by decide) ?_
  refine Ru.putH (i := 161) (by decide +kernel) (by rfl) (hp36 _) (by decide) (Nat.le_of_ble_eq_true rfl) rfl (by decide +kernel) (pf_36_34 _ _) ?_
  refine Ru.op (q := (.aload_n 0, 1)) (by decide +kernel) rfl ?_
  refine Ru.op (q := (.aload_n 0, 1)) (by decide +kernel) rfl ?_
  refine Ru.getI (i := 195) (x := (S.F 36 20)) (by decide +kernel) (by rfl) (hp36 _) (by decide) rfl (eI_of _) ?_
  refine Ru.putH (i := 198) (by decide +kernel) (by rfl) (hp36 _) (by decide) (Nat.le_of_ble_eq_true rfl) rfl (by decide +kernel) (pf_36_35 _ _) ?_
  refine Ru.op (q := (.aload_n 0, 1)) (by decide +kernel) rfl ?_
  refine Ru.kI (q := (.iconst 0, 1)) (c := 0) (by decide +kernel) rfl (by decide) ?_
  refine Ru.putH (i := 155) (by decide +kernel) (by rfl) (hp36 _) (by decide) (Nat.le_of_ble_eq_true rfl) rfl (by decide +kernel) (pf_36_22 _ _) ?_
  refine Ru.op (q := (.aload_n 0, 1)) (by decide +kernel) rfl ?_
  refine Ru.kI (q := (.iconst 0, 1)) (c := 0) (by decide +kernel) rfl (by decide) ?_
  refine Ru.putH (i := 201) (by decide +kernel) (by rfl) (hp36 _) (by decide) (Nat.le_of_ble_eq_true rfl) rfl (by decide +kernel) (pf_36_43 _ _) ?_
  refine Ru.op (q := (.aload_n 0, 1)) (by decide +kernel) rfl ?_
  refine Ru.kI (q := (.iconst 0, 1)) (c := 0) (by decide +kernel) rfl (by decide) ?_
  refine Ru.putH (i := 186) (by decide +kernel) (by rfl) (hp36 _) (by decide) (Nat.le_of_ble_eq_true rfl) rfl (by decide +kernel) (pf_36_46 _ _) ?_
  refine Ru.op (q := (.aload_n 0, 1)) (by decide +kernel) rfl ?_
  obtain ⟨o1, e2, h⟩ := ob_some h
  refine Ru.vcall (i := 204) (j2 := 100) (as := []) (by decide +kernel) (by rfl) rfl rfl (hp36 _) (by decide) ⟨(Nat.le_of_ble_eq_true rfl), (by show 19 + 2 ≤ 221; exact Nat.le_of_ble_eq_true rfl), Nat.le_of_ble_eq_true rfl, Nat.le_of_ble_eq_true rfl⟩ ((g100_ok e2).up (Nat.le_of_ble_eq_true rfl) (Nat.le_of_ble_eq_true rfl)) ?_
  cases h
  exact Ru.end (q := (.return_, 1)) (by decide +kernel) rfl rfl
def g102 (S : St) : Option (Int) := if (S.F 36 27) < (S.F 36 2) then gd (ixR (S.F 36 27) 160) (some (S.A 37 (S.F 36 27))) else some 0
set_option maxRecDepth 100000 in
set_option maxHeartbeats 4000000 in
theorem g102_ok {S : St} {o : Int} (h : g102 S  = some o) : Ru none 10 200 102 (0, mn_pad (mn_ent [.ref 36]) 1, [], S.ns, Hp S) ((0, some (vI o)), S.ns, Hp S) := by
  unfold g102 at h
  show Ru none 10 200 102 (0, [some (.ref 36)], [], S.ns, Hp S) _
  refine Ru.op (q := (.aload_n 0, 1)) (by decide +kernel) rfl ?_
  refine Ru.getI (i := 140) (x := (S.F 36 27)) (by decide +kernel) (by rfl) (hp36 _) (by decide) rfl (eI_of _) ?_
  refine Ru.op (q := (.aload_n 0, 1)) (by decide +kernel) rfl ?_
  refine Ru.getI (i := 129) (x := (S.F 36 2)) (by decide +kernel) (by rfl) (hp36 _) (by decide) rfl (eI_of _) ?_
  by_cases b1 : (S.F 36 27) < (S.F 36 2)
  · replace h := if_t b1 h
    refine Ru.br2 (k := .ge) (off := 15) (bb := false) (tg := 11) (by decide +kernel) (by decide +kernel) (ci_ge0 (inR_to _) (inR_to _) b1) rfl ?_
    refine Ru.op (q := (.aload_n 0, 1)) (by decide +kernel) rfl ?_
    refine Ru.get (i := 13) (v := .ref 37) (by decide +kernel) (by rfl) (hp36 _) (by decide) rfl ?_
    refine Ru.op (q := (.aload_n 0, 1)) (by decide +kernel) rfl ?_
    refine Ru.getI (i := 140) (x := (S.F 36 27)) (by decide +kernel) (by rfl) (hp36 _) (by decide) rfl (eI_of _) ?_
    obtain ⟨g2, h⟩ := gd_some h
    refine Ru.ildI (i := (S.F 36 27)) (z := (S.A 37 (S.F 36 27))) (by decide +kernel) (hp37 _) g2 (eI_of _) ?_
    refine Ru.op (q := (.goto 4, 3)) (by decide +kernel) rfl ?_
    cases h
    exact Ru.iret (by decide +kernel) rfl rfl
  · replace h := if_f b1 h
    refine Ru.br2 (k := .ge) (off := 15) (bb := true) (tg := 23) (by decide +kernel) (by decide +kernel) (ci_ge1 (inR_to _) (inR_to _) b1) rfl ?_
    refine Ru.kI (q := (.iconst 0, 1)) (c := 0) (by decide +kernel) rfl (by decide) ?_
    cases h
    exact Ru.iret (by decide +kernel) rfl rfl
def g115 (S : St) (v1 : Int) : Option (Int) := gd (inR v1) (if v1 = 126 then some 1 else if v1 = 38 then some 1 else if v1 = 124 then some 1 else if v1 = 62 then some 1 else if v1 = 33 then some 1 else if v1 = 63 then some 1 else some 0)
set_option maxRecDepth 100000 in
set_option maxHeartbeats 4000000 in
theorem g115_ok {S : St} {v1 : Int} {o : Int} (h : g115 S v1 = some o) : Ru none 10 200 115 (0, mn_pad (mn_ent [.ref 36, vI v1]) 2, [], S.ns, Hp S) ((0, some (vI o)), S.ns, Hp S) := by
  unfold g115 at h
  show Ru none 10 200 115 (0, [some (.ref 36), some (vI v1)], [], S.ns, Hp S) _
  refine Ru.op (q := (.iload_n 1, 1)) (by decide +kernel) rfl ?_
  refine Ru.kI (q := (.bipush 126, 2)) (c := 126) (by decide +kernel) rfl (by decide) ?_
  obtain ⟨g1, h⟩ := gd_some h
  by_cases b2 : v1 = 126
  · replace h := if_t b2 h
    refine Ru.br2 (k := .eq) (off := 33) (bb := true) (tg := 36) (by decide +kernel) (by decide +kernel) (ci_eq1 g1 (by decide) b2) rfl ?_
    refine Ru.kI (q := (.iconst 1, 1)) (c := 1) (by decide +kernel) rfl (by decide) ?_
    refine Ru.op (q := (.goto 4, 3)) (by decide +kernel) rfl ?_
    cases h
    exact Ru.iret (by decide +kernel) rfl (nar_b1 (by decide))
  · replace h := if_f b2 h
    refine Ru.br2 (k := .eq) (off := 33) (bb := false) (tg := 6) (by decide +kernel) (by decide +kernel) (ci_eq0 g1 (by decide) b2) rfl ?_
    refine Ru.op (q := (.iload_n 1, 1)) (by decide +kernel) rfl ?_
    refine Ru.kI (q := (.bipush 38, 2)) (c := 38) (by decide +kernel) rfl (by decide) ?_
    by_cases b3 : v1 = 38
    · replace h := if_t b3 h
      refine Ru.br2 (k := .eq) (off := 27) (bb := true) (tg := 36) (by decide +kernel) (by decide +kernel) (ci_eq1 g1 (by decide) b3) rfl ?_
      refine Ru.kI (q := (.iconst 1, 1)) (c := 1) (by decide +kernel) rfl (by decide) ?_
      refine Ru.op (q := (.goto 4, 3)) (by decide +kernel) rfl ?_
      cases h
      exact Ru.iret (by decide +kernel) rfl (nar_b1 (by decide))
    · replace h := if_f b3 h
      refine Ru.br2 (k := .eq) (off := 27) (bb := false) (tg := 12) (by decide +kernel) (by decide +kernel) (ci_eq0 g1 (by decide) b3) rfl ?_
      refine Ru.op (q := (.iload_n 1, 1)) (by decide +kernel) rfl ?_
      refine Ru.kI (q := (.bipush 124, 2)) (c := 124) (by decide +kernel) rfl (by decide) ?_
      by_cases b4 : v1 = 124
      · replace h := if_t b4 h
        refine Ru.br2 (k := .eq) (off := 21) (bb := true) (tg := 36) (by decide +kernel) (by decide +kernel) (ci_eq1 g1 (by decide) b4) rfl ?_
        refine Ru.kI (q := (.iconst 1, 1)) (c := 1) (by decide +kernel) rfl (by decide) ?_
        refine Ru.op (q := (.goto 4, 3)) (by decide +kernel) rfl ?_
        cases h
        exact Ru.iret (by decide +kernel) rfl (nar_b1 (by decide))
      · replace h := if_f b4 h
        refine Ru.br2 (k := .eq) (off := 21) (bb := false) (tg := 18) (by decide +kernel) (by decide +kernel) (ci_eq0 g1 (by decide) b4) rfl ?_
        refine Ru.op (q := (.iload_n 1, 1)) (by decide +kernel) rfl ?_
        refine Ru.kI (q := (.bipush 62, 2)) (c := 62) (by decide +kernel) rfl (by decide) ?_
        by_cases b5 : v1 = 62
        · replace h := if_t b5 h
          refine Ru.br2 (k := .eq) (off := 15) (bb := true) (tg := 36) (by decide +kernel) (by decide +kernel) (ci_eq1 g1 (by decide) b5) rfl ?_
          refine Ru.kI (q := (.iconst 1, 1)) (c := 1) (by decide +kernel) rfl (by decide) ?_
          refine Ru.op (q := (.goto 4, 3)) (by decide +kernel) rfl ?_
          cases h
          exact Ru.iret (by decide +kernel) rfl (nar_b1 (by decide))
        · replace h := if_f b5 h
          refine Ru.br2 (k := .eq) (off := 15) (bb := false) (tg := 24) (by decide +kernel) (by decide +kernel) (ci_eq0 g1 (by decide) b5) rfl ?_
          refine Ru.op (q := (.iload_n 1, 1)) (by decide +kernel) rfl ?_
          refine Ru.kI (q := (.bipush 33, 2)) (c := 33) (by decide +kernel) rfl (by decide) ?_
          by_cases b6 : v1 = 33
          · replace h := if_t b6 h
            refine Ru.br2 (k := .eq) (off := 9) (bb := true) (tg := 36) (by decide +kernel) (by decide +kernel) (ci_eq1 g1 (by decide) b6) rfl ?_
            refine Ru.kI (q := (.iconst 1, 1)) (c := 1) (by decide +kernel) rfl (by decide) ?_
            refine Ru.op (q := (.goto 4, 3)) (by decide +kernel) rfl ?_
            cases h
            exact Ru.iret (by decide +kernel) rfl (nar_b1 (by decide))
          · replace h := if_f b6 h
            refine Ru.br2 (k := .eq) (off := 9) (bb := false) (tg := 30) (by decide +kernel) (by decide +kernel) (ci_eq0 g1 (by decide) b6) rfl ?_
            refine Ru.op (q := (.iload_n 1, 1)) (by decide +kernel) rfl ?_
            refine Ru.kI (q := (.bipush 63, 2)) (c := 63) (by decide +kernel) rfl (by decide) ?_
            by_cases b7 : v1 = 63
            · replace h := if_t b7 h
              refine Ru.br2 (k := .ne) (off := 7) (bb := false) (tg := 36) (by decide +kernel) (by decide +kernel) (ci_ne0 g1 (by decide) b7) rfl ?_
              refine Ru.kI (q := (.iconst 1, 1)) (c := 1) (by decide +kernel) rfl (by decide) ?_
              refine Ru.op (q := (.goto 4, 3)) (by decide +kernel) rfl ?_
              cases h
              exact Ru.iret (by decide +kernel) rfl (nar_b1 (by decide))
            · replace h := if_f b7 h
              refine Ru.br2 (k := .ne) (off := 7) (bb := true) (tg := 40) (by decide +kernel) (by decide +kernel) (ci_ne1 g1 (by decide) b7) rfl ?_
              refine Ru.kI (q := (.iconst 0, 1)) (c := 0) (by decide +kernel) rfl (by decide) ?_
              cases h
              exact Ru.iret (by decide +kernel) rfl (nar_b1 (by decide))
def g104 (S : St) (v1 : Int) (v2 : Int) : Option (Int) := ob (g102 S) (fun o1 => gd (inR o1) (gd (inR v1) (if o1 < v1 then some 0 else ob (g102 S) (fun o6 => gd (inR o6) (gd (inR v2) (if v2 < o6 then some 0 else some 1))))))
set_option maxRecDepth 100000 in
set_option maxHeartbeats 4000000 in
theorem g104_ok {S : St} {v1 : Int} {v2 : Int} {o : Int} (h : g104 S v1 v2 = some o) : Ru none 11 220 104 (0, mn_pad (mn_ent [.ref 36, vI v1, vI v2]) 3, [], S.ns, Hp S) ((0, some (vI o)), S.ns, Hp S) := by
  unfold g104 at h
  show Ru none 11 220 104 (0, [some (.ref 36), some (vI v1), some (vI v2)], [], S.ns, Hp S) _
  refine Ru.op (q := (.aload_n 0, 1)) (by decide +kernel) rfl ?_
  obtain ⟨o1, e2, h⟩ := ob_some h
  refine Ru.vcall (i := 143) (j2 := 102) (as := []) (by decide +kernel) (by rfl) rfl rfl (hp36 _) (by decide) ⟨(Nat.le_of_ble_eq_true rfl), (by show 19 + 1 ≤ 220; exact Nat.le_of_ble_eq_true rfl), Nat.le_of_ble_eq_true rfl, Nat.le_of_ble_eq_true rfl⟩ ((g102_ok e2).up (Nat.le_of_ble_eq_true rfl) (Nat.le_of_ble_eq_true rfl)) ?_
  refine Ru.op (q := (.iload_n 1, 1)) (by decide +kernel) rfl ?_
  obtain ⟨g3, h⟩ := gd_some h
  obtain ⟨g4, h⟩ := gd_some h
  by_cases b5 : o1 < v1
  · replace h := if_t b5 h
    refine Ru.br2 (k := .lt) (off := 15) (bb := true) (tg := 20) (by decide +kernel) (by decide +kernel) (ci_lt1 g3 g4 b5) rfl ?_
    refine Ru.kI (q := (.iconst 0, 1)) (c := 0) (by decide +kernel) rfl (by decide) ?_
    cases h
    exact Ru.iret (by decide +kernel) rfl (nar_b1 (by decide))
  · replace h := if_f b5 h
    refine Ru.br2 (k := .lt) (off := 15) (bb := false) (tg := 8) (by decide +kernel) (by decide +kernel) (ci_lt0 g3 g4 b5) rfl ?_
    refine Ru.op (q := (.aload_n 0, 1)) (by decide +kernel) rfl ?_
    obtain ⟨o6, e7, h⟩ := ob_some h
    refine Ru.vcall (i := 143) (j2 := 102) (as := []) (by decide +kernel) (by rfl) rfl rfl (hp36 _) (by decide) ⟨(Nat.le_of_ble_eq_true rfl), (by show 19 + 1 ≤ 220; exact Nat.le_of_ble_eq_true rfl), Nat.le_of_ble_eq_true rfl, Nat.le_of_ble_eq_true rfl⟩ ((g102_ok e7).up (Nat.le_of_ble_eq_true rfl) (Nat.le_of_ble_eq_true rfl)) ?_
    refine Ru.op (q := (.iload_n 2, 1)) (by decide +kernel) rfl ?_
    obtain ⟨g8, h⟩ := gd_some h
    obtain ⟨g9, h⟩ := gd_some h
    by_cases b10 : v2 < o6
    · replace h := if_t b10 h
      refine Ru.br2 (k := .gt) (off := 7) (bb := true) (tg := 20) (by decide +kernel) (by decide +kernel) (ci_gt1 g8 g9 b10) rfl ?_
      refine Ru.kI (q := (.iconst 0, 1)) (c := 0) (by decide +kernel) rfl (by decide) ?_
      cases h
      exact Ru.iret (by decide +kernel) rfl (nar_b1 (by decide))
    · replace h := if_f b10 h
      refine Ru.br2 (k := .gt) (off := 7) (bb := false) (tg := 16) (by decide +kernel) (by decide +kernel) (ci_gt0 g8 g9 b10) rfl ?_
      refine Ru.kI (q := (.iconst 1, 1)) (c := 1) (by decide +kernel) rfl (by decide) ?_
      refine Ru.op (q := (.goto 4, 3)) (by decide +kernel) rfl ?_
      cases h
      exact Ru.iret (by decide +kernel) rfl (nar_b1 (by decide))
def g109 (S : St) : Option (Int × St) := ob (g102 S) (fun o1 => ob (g104 (S.f 36 27 ((S.F 36 27) + 1)) 48 57) (fun o3 => gd (inR o3) (if o3 = 0 then some (o1, (S.f 36 27 ((S.F 36 27) + 1))) else ob (g102 (S.f 36 27 ((S.F 36 27) + 1))) (fun o7 => some ((o1 + (128 * ((o7 - 48) + 1))), ((S.f 36 27 ((S.F 36 27) + 1)).f 36 27 (((S.F 36 27) + 1) + 1)))))))
set_option maxRecDepth 100000 in
set_option maxHeartbeats 4000000 in
theorem g109_ok {S : St} {o : Int × St} (h : g109 S  = some o) : Ru none 12 242 109 (0, mn_pad (mn_ent [.ref 36]) 2, [], S.ns, Hp S) ((0, some (vI o.1)), o.2.ns, Hp o.2) := by
  unfold g109 at h
  show Ru none 12 242 109 (0, [some (.ref 36), none], [], S.ns, Hp S) _
  refine Ru.op (q := (.aload_n 0, 1)) (by decide +kernel) rfl ?_
  obtain ⟨o1, e2, h⟩ := ob_some h
  refine Ru.vcall (i := 143) (j2 := 102) (as := []) (by decide +kernel) (by rfl) rfl rfl (hp36 _) (by decide) ⟨(Nat.le_of_ble_eq_true rfl), (by show 19 + 1 ≤ 242; exact Nat.le_of_ble_eq_true rfl), Nat.le_of_ble_eq_true rfl, Nat.le_of_ble_eq_true rfl⟩ ((g102_ok e2).up (Nat.le_of_ble_eq_true rfl) (Nat.le_of_ble_eq_true rfl)) ?_
  refine Ru.op (q := (.istore_n 1, 1)) (S' := (5, [some (.ref 36), some (vI o1)], [], _, _)) (by decide +kernel) rfl ?_
  refine Ru.op (q := (.aload_n 0, 1)) (by decide +kernel) rfl ?_
  refine Ru.op (q := (.dup, 1)) (by decide +kernel) rfl ?_
  refine Ru.getI (i := 140) (x := (S.F 36 27)) (by decide +kernel) (by rfl) (hp36 _) (by decide) rfl (eI_of _) ?_
  refine Ru.kI (q := (.iconst 1, 1)) (c := 1) (by decide +kernel) rfl (by decide) ?_
  refine Ru.ar2 (i := .iadd) (z := ((S.F 36 27) + 1)) (by decide +kernel) rfl (ar_add _ _) ?_
  refine Ru.putH (i := 140) (by decide +kernel) (by rfl) (hp36 _) (by decide) (Nat.le_of_ble_eq_true rfl) rfl (by decide +kernel) (pf_36_27 _ _) ?_
  refine Ru.op (q := (.aload_n 0, 1)) (by decide +kernel) rfl ?_
  refine Ru.kI (q := (.bipush 48, 2)) (c := 48) (by decide +kernel) rfl (by decide) ?_
  refine Ru.kI (q := (.bipush 57, 2)) (c := 57) (by decide +kernel) rfl (by decide) ?_
  obtain ⟨o3, e4, h⟩ := ob_some h
  refine Ru.vcall (i := 147) (j2 := 104) (as := [vI 48, vI 57]) (by decide +kernel) (by rfl) rfl rfl (hp36 _) (by decide) ⟨(Nat.le_of_ble_eq_true rfl), (by show 19 + 3 ≤ 242; exact Nat.le_of_ble_eq_true rfl), Nat.le_of_ble_eq_true rfl, Nat.le_of_ble_eq_true rfl⟩ ((g104_ok e4).up (Nat.le_of_ble_eq_true rfl) (Nat.le_of_ble_eq_true rfl)) ?_
  obtain ⟨g5, h⟩ := gd_some h
  by_cases b6 : o3 = 0
  · replace h := if_t b6 h
    refine Ru.br (k := .eq) (off := 29) (bb := true) (tg := 52) (by decide +kernel) (by decide +kernel) (cz (ci_eq1 g5 (by decide) b6)) rfl ?_
    refine Ru.op (q := (.iload_n 1, 1)) (by decide +kernel) rfl ?_
    cases h
    exact Ru.iret (by decide +kernel) rfl rfl
  · replace h := if_f b6 h
    refine Ru.br (k := .eq) (off := 29) (bb := false) (tg := 26) (by decide +kernel) (by decide +kernel) (cz (ci_eq0 g5 (by decide) b6)) rfl ?_
    refine Ru.op (q := (.iload_n 1, 1)) (by decide +kernel) rfl ?_
    refine Ru.kI (q := (.sipush 128, 3)) (c := 128) (by decide +kernel) rfl (by decide) ?_
    refine Ru.op (q := (.aload_n 0, 1)) (by decide +kernel) rfl ?_
    obtain ⟨o7, e8, h⟩ := ob_some h
    refine Ru.vcall (i := 143) (j2 := 102) (as := []) (by decide +kernel) (by rfl) rfl rfl (hp36 _) (by decide) ⟨(Nat.le_of_ble_eq_true rfl), (by show 19 + 1 ≤ 242; exact Nat.le_of_ble_eq_true rfl), Nat.le_of_ble_eq_true rfl, Nat.le_of_ble_eq_true rfl⟩ ((g102_ok e8).up (Nat.le_of_ble_eq_true rfl) (Nat.le_of_ble_eq_true rfl)) ?_
    refine Ru.kI (q := (.bipush 48, 2)) (c := 48) (by decide +kernel) rfl (by decide) ?_
    refine Ru.ar2 (i := .isub) (z := (o7 - 48)) (by decide +kernel) rfl (ar_sub _ _) ?_
    refine Ru.kI (q := (.iconst 1, 1)) (c := 1) (by decide +kernel) rfl (by decide) ?_
    refine Ru.ar2 (i := .iadd) (z := ((o7 - 48) + 1)) (by decide +kernel) rfl (ar_add _ _) ?_
    refine Ru.ar2 (i := .imul) (z := (128 * ((o7 - 48) + 1))) (by decide +kernel) rfl (ar_mul _ _) ?_
    refine Ru.ar2 (i := .iadd) (z := (o1 + (128 * ((o7 - 48) + 1)))) (by decide +kernel) rfl (ar_add _ _) ?_
    refine Ru.op (q := (.istore_n 1, 1)) (S' := (42, [some (.ref 36), some (vI (o1 + (128 * ((o7 - 48) + 1))))], [], _, _)) (by decide +kernel) rfl ?_
    refine Ru.op (q := (.aload_n 0, 1)) (by decide +kernel) rfl ?_
    refine Ru.op (q := (.dup, 1)) (by decide +kernel) rfl ?_
    refine Ru.getI (i := 140) (x := ((S.F 36 27) + 1)) (by decide +kernel) (by rfl) (hp36 _) (by decide) rfl rfl ?_
    refine Ru.kI (q := (.iconst 1, 1)) (c := 1) (by decide +kernel) rfl (by decide) ?_
    refine Ru.ar2 (i := .iadd) (z := (((S.F 36 27) + 1) + 1)) (by decide +kernel) rfl (ar_add _ _) ?_
    refine Ru.putH (i := 140) (by decide +kernel) (by rfl) (hp36 _) (by decide) (Nat.le_of_ble_eq_true rfl) rfl (by decide +kernel) (pf_36_27 _ _) ?_
    refine Ru.op (q := (.iload_n 1, 1)) (by decide +kernel) rfl ?_
    cases h
    exact Ru.iret (by decide +kernel) rfl rfl
def g110 (S : St) (v1 : Int) : Option (Int × St) := gd (ixR (S.F 36 30) 50) (some ((((S.F 36 34) + 1) - 1), (((((S.a 50 (S.F 36 30) v1).a 51 (S.F 36 30) (S.F 36 34)).a 52 (S.F 36 30) 0).f 36 30 ((S.F 36 30) + 1)).f 36 34 ((S.F 36 34) + 1))))
set_option maxRecDepth 100000 in
set_option maxHeartbeats 4000000 in
theorem g110_ok {S : St} {v1 : Int} {o : Int × St} (h : g110 S v1 = some o) : Ru none 10 200 110 (0, mn_pad (mn_ent [.ref 36, vI v1]) 2, [], S.ns, Hp S) ((0, some (vI o.1)), o.2.ns, Hp o.2) := by
  unfold g110 at h
  show Ru none 10 200 110 (0, [some (.ref 36), some (vI v1)], [], S.ns, Hp S) _
  refine Ru.op (q := (.aload_n 0, 1)) (by decide +kernel) rfl ?_
  refine Ru.get (i := 57) (v := .ref 50) (by decide +kernel) (by rfl) (hp36 _) (by decide) rfl ?_
  refine Ru.op (q := (.aload_n 0, 1)) (by decide +kernel) rfl ?_
  refine Ru.getI (i := 158) (x := (S.F 36 30)) (by decide +kernel) (by rfl) (hp36 _) (by decide) rfl (eI_of _) ?_
  refine Ru.op (q := (.iload_n 1, 1)) (by decide +kernel) rfl ?_
  obtain ⟨g1, h⟩ := gd_some h
  refine Ru.istI (i := (S.F 36 30)) (x := v1) (by decide +kernel) (hp50 _) g1 (ps_50 _ _ _) ?_
  refine Ru.op (q := (.aload_n 0, 1)) (by decide +kernel) rfl ?_
  refine Ru.get (i := 60) (v := .ref 51) (by decide +kernel) (by rfl) (hp36 _) (by decide) rfl ?_
  refine Ru.op (q := (.aload_n 0, 1)) (by decide +kernel) rfl ?_
  refine Ru.getI (i := 158) (x := (S.F 36 30)) (by decide +kernel) (by rfl) (hp36 _) (by decide) rfl (eI_of _) ?_
  refine Ru.op (q := (.aload_n 0, 1)) (by decide +kernel) rfl ?_
  refine Ru.getI (i := 161) (x := (S.F 36 34)) (by decide +kernel) (by rfl) (hp36 _) (by decide) rfl (eI_of _) ?_
  refine Ru.istI (i := (S.F 36 30)) (x := (S.F 36 34)) (by decide +kernel) (hp51 _) g1 (ps_51 _ _ _) ?_
  refine Ru.op (q := (.aload_n 0, 1)) (by decide +kernel) rfl ?_
  refine Ru.get (i := 63) (v := .ref 52) (by decide +kernel) (by rfl) (hp36 _) (by decide) rfl ?_
  refine Ru.op (q := (.aload_n 0, 1)) (by decide +kernel) rfl ?_
  refine Ru.getI (i := 158) (x := (S.F 36 30)) (by decide +kernel) (by rfl) (hp36 _) (by decide) rfl (eI_of _) ?_
  refine Ru.kI (q := (.iconst 0, 1)) (c := 0) (by decide +kernel) rfl (by decide) ?_
  refine Ru.bstI (i := (S.F 36 30)) (x := 0) (by decide +kernel) (hp52 _) g1 (by decide) (ps_52 _ _ _) ?_
  refine Ru.op (q := (.aload_n 0, 1)) (by decide +kernel) rfl ?_
  refine Ru.op (q := (.dup, 1)) (by decide +kernel) rfl ?_
  refine Ru.getI (i := 158) (x := (S.F 36 30)) (by decide +kernel) (by rfl) (hp36 _) (by decide) rfl (eI_of _) ?_
  refine Ru.kI (q := (.iconst 1, 1)) (c := 1) (by decide +kernel) rfl (by decide) ?_
  refine Ru.ar2 (i := .iadd) (z := ((S.F 36 30) + 1)) (by decide +kernel) rfl (ar_add _ _) ?_
  refine Ru.putH (i := 158) (by decide +kernel) (by rfl) (hp36 _) (by decide) (Nat.le_of_ble_eq_true rfl) rfl (by decide +kernel) (pf_36_30 _ _) ?_
  refine Ru.op (q := (.aload_n 0, 1)) (by decide +kernel) rfl ?_
  refine Ru.op (q := (.dup, 1)) (by decide +kernel) rfl ?_
  refine Ru.getI (i := 161) (x := (S.F 36 34)) (by decide +kernel) (by rfl) (hp36 _) (by decide) rfl (eI_of _) ?_
  refine Ru.kI (q := (.iconst 1, 1)) (c := 1) (by decide +kernel) rfl (by decide) ?_
  refine Ru.ar2 (i := .iadd) (z := ((S.F 36 34) + 1)) (by decide +kernel) rfl (ar_add _ _) ?_
  refine Ru.putH (i := 161) (by decide +kernel) (by rfl) (hp36 _) (by decide) (Nat.le_of_ble_eq_true rfl) rfl (by decide +kernel) (pf_36_34 _ _) ?_
  refine Ru.op (q := (.aload_n 0, 1)) (by decide +kernel) rfl ?_
  refine Ru.getI (i := 161) (x := ((S.F 36 34) + 1)) (by decide +kernel) (by rfl) (hp36 _) (by decide) rfl rfl ?_
  refine Ru.kI (q := (.iconst 1, 1)) (c := 1) (by decide +kernel) rfl (by decide) ?_
  refine Ru.ar2 (i := .isub) (z := (((S.F 36 34) + 1) - 1)) (by decide +kernel) rfl (ar_sub _ _) ?_
  cases h
  exact Ru.iret (by decide +kernel) rfl rfl
def g105 (S : St) (v1 : Int) : Option (St) := gd (ixR (S.F 36 22) 1024) (some ((S.a 46 (S.F 36 22) v1).f 36 22 ((S.F 36 22) + 1)))
set_option maxRecDepth 100000 in
set_option maxHeartbeats 4000000 in
theorem g105_ok {S : St} {v1 : Int} {o : St} (h : g105 S v1 = some o) : Ru none 10 200 105 (0, mn_pad (mn_ent [.ref 36, vI v1]) 2, [], S.ns, Hp S) ((0, none), o.ns, Hp o) := by
  unfold g105 at h
  show Ru none 10 200 105 (0, [some (.ref 36), some (vI v1)], [], S.ns, Hp S) _
  refine Ru.op (q := (.aload_n 0, 1)) (by decide +kernel) rfl ?_
  refine Ru.get (i := 45) (v := .ref 46) (by decide +kernel) (by rfl) (hp36 _) (by decide) rfl ?_
  refine Ru.op (q := (.aload_n 0, 1)) (by decide +kernel) rfl ?_
  refine Ru.getI (i := 155) (x := (S.F 36 22)) (by decide +kernel) (by rfl) (hp36 _) (by decide) rfl (eI_of _) ?_
  refine Ru.op (q := (.iload_n 1, 1)) (by decide +kernel) rfl ?_
  obtain ⟨g1, h⟩ := gd_some h
  refine Ru.istI (i := (S.F 36 22)) (x := v1) (by decide +kernel) (hp46 _) g1 (ps_46 _ _ _) ?_
  refine Ru.op (q := (.aload_n 0, 1)) (by decide +kernel) rfl ?_
  refine Ru.op (q := (.dup, 1)) (by decide +kernel) rfl ?_
  refine Ru.getI (i := 155) (x := (S.F 36 22)) (by decide +kernel) (by rfl) (hp36 _) (by decide) rfl (eI_of _) ?_
  refine Ru.kI (q := (.iconst 1, 1)) (c := 1) (by decide +kernel) rfl (by decide) ?_
  refine Ru.ar2 (i := .iadd) (z := ((S.F 36 22) + 1)) (by decide +kernel) rfl (ar_add _ _) ?_
  refine Ru.putH (i := 155) (by decide +kernel) (by rfl) (hp36 _) (by decide) (Nat.le_of_ble_eq_true rfl) rfl (by decide +kernel) (pf_36_22 _ _) ?_
  cases h
  exact Ru.end (q := (.return_, 1)) (by decide +kernel) rfl rfl
def g117L75 (v2 : Int) : Nat → Int → St → Option (St)
  | 0, _, _ => none
  | n + 1, v3, S => gd (inR v3) (if v3 < (S.F 36 30) then gd (ixR v3 50) (if (S.A 52 v3) = 0 then g117L75 v2 n (v3 + 1) S else ob (g105 S (S.A 51 v3)) (fun o11 => gd (ixR v2 1024) (g117L75 v2 n (v3 + 1) (o11.a 46 v2 ((o11.A 46 v2) + 1))))) else some S)
set_option maxRecDepth 100000 in
set_option maxHeartbeats 4000000 in
theorem g117L75_ok {v2 : Int} : ∀ (n : Nat) (v3 : Int) (S : St) (d1 : Option Value) (out : St), g117L75 v2 n v3 S = some out → ∀ r, (∀ (e0 e1 e2 e3 : Option Value), Ru none 11 221 117 (122, [e0, e1, e2, e3], [], out.ns, Hp out) r) → Ru none 11 221 117 (75, [some (.ref 36), d1, some (vI v2), some (vI v3)], [], S.ns, Hp S) r := by
  intro n
  induction n with
  | zero => intro v3 S d1 out h; cases h
  | succ n ih =>
    intro v3 S d1 out h r hk
    unfold g117L75 at h
    refine Ru.op (q := (.iload_n 3, 1)) (by decide +kernel) rfl ?_
    refine Ru.op (q := (.aload_n 0, 1)) (by decide +kernel) rfl ?_
    refine Ru.getI (i := 158) (x := (S.F 36 30)) (by decide +kernel) (by rfl) (hp36 _) (by decide) rfl (eI_of _) ?_
    obtain ⟨g7, h⟩ := gd_some h
    by_cases b8 : v3 < (S.F 36 30)
    · replace h := if_t b8 h
      refine Ru.br2 (k := .ge) (off := 42) (bb := false) (tg := 83) (by decide +kernel) (by decide +kernel) (ci_ge0 g7 (inR_to _) b8) rfl ?_
      refine Ru.op (q := (.aload_n 0, 1)) (by decide +kernel) rfl ?_
      refine Ru.get (i := 63) (v := .ref 52) (by decide +kernel) (by rfl) (hp36 _) (by decide) rfl ?_
      refine Ru.op (q := (.iload_n 3, 1)) (by decide +kernel) rfl ?_
      obtain ⟨g9, h⟩ := gd_some h
      refine Ru.bldI (i := v3) (z := (S.A 52 v3)) (by decide +kernel) (hp52 _) g9 (eI_of _) ?_
      by_cases b10 : (S.A 52 v3) = 0
      · replace h := if_t b10 h
        refine Ru.br (k := .eq) (off := 27) (bb := true) (tg := 116) (by decide +kernel) (by decide +kernel) (cz (ci_eq1 (inR_to _) (by decide) b10)) rfl ?_
        refine Ru.inc (x := v3) (z := (v3 + 1)) (xs' := [some (.ref 36), d1, some (vI v2), some (vI (v3 + 1))]) (by decide +kernel) rfl rfl rfl ?_
        refine Ru.op (q := (.goto (-44), 3)) (by decide +kernel) rfl ?_
        exact ih _ _ _ _ h r hk
      · replace h := if_f b10 h
        refine Ru.br (k := .eq) (off := 27) (bb := false) (tg := 92) (by decide +kernel) (by decide +kernel) (cz (ci_eq0 (inR_to _) (by decide) b10)) rfl ?_
        refine Ru.op (q := (.aload_n 0, 1)) (by decide +kernel) rfl ?_
        refine Ru.op (q := (.aload_n 0, 1)) (by decide +kernel) rfl ?_
        refine Ru.get (i := 60) (v := .ref 51) (by decide +kernel) (by rfl) (hp36 _) (by decide) rfl ?_
        refine Ru.op (q := (.iload_n 3, 1)) (by decide +kernel) rfl ?_
        refine Ru.ildI (i := v3) (z := (S.A 51 v3)) (by decide +kernel) (hp51 _) g9 (eI_of _) ?_
        obtain ⟨o11, e12, h⟩ := ob_some h
        refine Ru.vcall (i := 173) (j2 := 105) (as := [vI (S.A 51 v3)]) (by decide +kernel) (by rfl) rfl rfl (hp36 _) (by decide) ⟨(Nat.le_of_ble_eq_true rfl), (by show 19 + 2 ≤ 221; exact Nat.le_of_ble_eq_true rfl), Nat.le_of_ble_eq_true rfl, Nat.le_of_ble_eq_true rfl⟩ ((g105_ok e12).up (Nat.le_of_ble_eq_true rfl) (Nat.le_of_ble_eq_true rfl)) ?_
        refine Ru.op (q := (.aload_n 0, 1)) (by decide +kernel) rfl ?_
        refine Ru.get (i := 45) (v := .ref 46) (by decide +kernel) (by rfl) (hp36 _) (by decide) rfl ?_
        refine Ru.op (q := (.iload_n 2, 1)) (by decide +kernel) rfl ?_
        refine Ru.op (q := (.aload_n 0, 1)) (by decide +kernel) rfl ?_
        refine Ru.get (i := 45) (v := .ref 46) (by decide +kernel) (by rfl) (hp36 _) (by decide) rfl ?_
        refine Ru.op (q := (.iload_n 2, 1)) (by decide +kernel) rfl ?_
        obtain ⟨g13, h⟩ := gd_some h
        refine Ru.ildI (i := v2) (z := (o11.A 46 v2)) (by decide +kernel) (hp46 _) g13 (eI_of _) ?_
        refine Ru.kI (q := (.iconst 1, 1)) (c := 1) (by decide +kernel) rfl (by decide) ?_
        refine Ru.ar2 (i := .iadd) (z := ((o11.A 46 v2) + 1)) (by decide +kernel) rfl (ar_add _ _) ?_
        refine Ru.istI (i := v2) (x := ((o11.A 46 v2) + 1)) (by decide +kernel) (hp46 _) g13 (ps_46 _ _ _) ?_
        refine Ru.inc (x := v3) (z := (v3 + 1)) (xs' := [some (.ref 36), d1, some (vI v2), some (vI (v3 + 1))]) (by decide +kernel) rfl rfl rfl ?_
        refine Ru.op (q := (.goto (-44), 3)) (by decide +kernel) rfl ?_
        exact ih _ _ _ _ h r hk
    · replace h := if_f b8 h
      refine Ru.br2 (k := .ge) (off := 42) (bb := true) (tg := 122) (by decide +kernel) (by decide +kernel) (ci_ge1 g7 (inR_to _) b8) rfl ?_
      cases h
      exact hk _ _ _ _
def g117 (S : St) (v1 : Int) : Option (St) := if (S.F 36 36) = 0 then gd (inR ((S.F 36 35) + 1)) (if 99 < ((S.F 36 35) + 1) then gd (ixR v1 128) (ob (g105 (((S.f 36 35 ((S.F 36 35) + 1)).f 36 36 1).a 47 v1 (S.F 36 22)) (4096 + (128 * (36 + (128 * ((S.F 36 35) + 1)))))) (fun o5 => ob (g117L75 (S.F 36 22) FU 0 o5) (fun o14 => some o14))) else gd (ixR v1 128) (ob (g105 (((S.f 36 35 ((S.F 36 35) + 1)).f 36 36 0).a 47 v1 (S.F 36 22)) (4096 + (128 * (36 + (128 * ((S.F 36 35) + 1)))))) (fun o21 => ob (g117L75 (S.F 36 22) FU 0 o21) (fun o23 => some o23)))) else gd (ixR v1 128) (ob (g105 (((S.f 36 35 ((S.F 36 35) + 1)).f 36 36 1).a 47 v1 (S.F 36 22)) (4096 + (128 * (36 + (128 * ((S.F 36 35) + 1)))))) (fun o30 => ob (g117L75 (S.F 36 22) FU 0 o30) (fun o32 => some o32)))
set_option maxRecDepth 100000 in
set_option maxHeartbeats 4000000 in
theorem g117_ok {S : St} {v1 : Int} {o : St} (h : g117 S v1 = some o) : Ru none 11 221 117 (0, mn_pad (mn_ent [.ref 36, vI v1]) 4, [], S.ns, Hp S) ((0, none), o.ns, Hp o) := by
  unfold g117 at h
  show Ru none 11 221 117 (0, [some (.ref 36), some (vI v1), none, none], [], S.ns, Hp S) _
  refine Ru.op (q := (.aload_n 0, 1)) (by decide +kernel) rfl ?_
  refine Ru.op (q := (.dup, 1)) (by decide +kernel) rfl ?_
  refine Ru.getI (i := 198) (x := (S.F 36 35)) (by decide +kernel) (by rfl) (hp36 _) (by decide) rfl (eI_of _) ?_
  refine Ru.kI (q := (.iconst 1, 1)) (c := 1) (by decide +kernel) rfl (by decide) ?_
  refine Ru.ar2 (i := .iadd) (z := ((S.F 36 35) + 1)) (by decide +kernel) rfl (ar_add _ _) ?_
  refine Ru.putH (i := 198) (by decide +kernel) (by rfl) (hp36 _) (by decide) (Nat.le_of_ble_eq_true rfl) rfl (by decide +kernel) (pf_36_35 _ _) ?_
  refine Ru.op (q := (.aload_n 0, 1)) (by decide +kernel) rfl ?_
  refine Ru.op (q := (.aload_n 0, 1)) (by decide +kernel) rfl ?_
  refine Ru.getI (i := 192) (x := (S.F 36 36)) (by decide +kernel) (by rfl) (hp36 _) (by decide) rfl (eI_of _) ?_
  by_cases b1 : (S.F 36 36) = 0
  · replace h := if_t b1 h
    refine Ru.br (k := .ne) (off := 12) (bb := false) (tg := 18) (by decide +kernel) (by decide +kernel) (cz (ci_ne0 (inR_to _) (by decide) b1)) rfl ?_
    refine Ru.op (q := (.aload_n 0, 1)) (by decide +kernel) rfl ?_
    refine Ru.getI (i := 198) (x := ((S.F 36 35) + 1)) (by decide +kernel) (by rfl) (hp36 _) (by decide) rfl rfl ?_
    refine Ru.kI (q := (.bipush 99, 2)) (c := 99) (by decide +kernel) rfl (by decide) ?_
    obtain ⟨g2, h⟩ := gd_some h
    by_cases b3 : 99 < ((S.F 36 35) + 1)
    · replace h := if_t b3 h
      refine Ru.br2 (k := .le) (off := 7) (bb := false) (tg := 27) (by decide +kernel) (by decide +kernel) (ci_le0 g2 (by decide) b3) rfl ?_
      refine Ru.kI (q := (.iconst 1, 1)) (c := 1) (by decide +kernel) rfl (by decide) ?_
      refine Ru.op (q := (.goto 4, 3)) (by decide +kernel) rfl ?_
      refine Ru.putH (i := 192) (by decide +kernel) (by rfl) (hp36 _) (by decide) (Nat.le_of_ble_eq_true rfl) (fk_b (by decide)) (by decide +kernel) (pf_36_36 _ _) ?_
      refine Ru.op (q := (.aload_n 0, 1)) (by decide +kernel) rfl ?_
      refine Ru.get (i := 48) (v := .ref 47) (by decide +kernel) (by rfl) (hp36 _) (by decide) rfl ?_
      refine Ru.op (q := (.iload_n 1, 1)) (by decide +kernel) rfl ?_
      refine Ru.op (q := (.aload_n 0, 1)) (by decide +kernel) rfl ?_
      refine Ru.getI (i := 155) (x := (S.F 36 22)) (by decide +kernel) (by rfl) (hp36 _) (by decide) rfl (eI_of _) ?_
      obtain ⟨g4, h⟩ := gd_some h
      refine Ru.istI (i := v1) (x := (S.F 36 22)) (by decide +kernel) (hp47 _) g4 (ps_47 _ _ _) ?_
      refine Ru.op (q := (.aload_n 0, 1)) (by decide +kernel) rfl ?_
      refine Ru.getI (i := 155) (x := (S.F 36 22)) (by decide +kernel) (by rfl) (hp36 _) (by decide) rfl (eI_of _) ?_
      refine Ru.op (q := (.istore_n 2, 1)) (S' := (50, [some (.ref 36), some (vI v1), some (vI (S.F 36 22)), none], [], _, _)) (by decide +kernel) rfl ?_
      refine Ru.op (q := (.aload_n 0, 1)) (by decide +kernel) rfl ?_
      refine Ru.kI (q := (.sipush 4096, 3)) (c := 4096) (by decide +kernel) rfl (by decide) ?_
      refine Ru.kI (q := (.sipush 128, 3)) (c := 128) (by decide +kernel) rfl (by decide) ?_
      refine Ru.kI (q := (.bipush 36, 2)) (c := 36) (by decide +kernel) rfl (by decide) ?_
      refine Ru.kI (q := (.sipush 128, 3)) (c := 128) (by decide +kernel) rfl (by decide) ?_
      refine Ru.op (q := (.aload_n 0, 1)) (by decide +kernel) rfl ?_
      refine Ru.getI (i := 198) (x := ((S.F 36 35) + 1)) (by decide +kernel) (by rfl) (hp36 _) (by decide) rfl rfl ?_
      refine Ru.ar2 (i := .imul) (z := (128 * ((S.F 36 35) + 1))) (by decide +kernel) rfl (ar_mul _ _) ?_
      refine Ru.ar2 (i := .iadd) (z := (36 + (128 * ((S.F 36 35) + 1)))) (by decide +kernel) rfl (ar_add _ _) ?_
      refine Ru.ar2 (i := .imul) (z := (128 * (36 + (128 * ((S.F 36 35) + 1))))) (by decide +kernel) rfl (ar_mul _ _) ?_
      refine Ru.ar2 (i := .iadd) (z := (4096 + (128 * (36 + (128 * ((S.F 36 35) + 1)))))) (by decide +kernel) rfl (ar_add _ _) ?_
      obtain ⟨o5, e6, h⟩ := ob_some h
      refine Ru.vcall (i := 173) (j2 := 105) (as := [vI (4096 + (128 * (36 + (128 * ((S.F 36 35) + 1)))))]) (by decide +kernel) (by rfl) rfl rfl (hp36 _) (by decide) ⟨(Nat.le_of_ble_eq_true rfl), (by show 19 + 2 ≤ 221; exact Nat.le_of_ble_eq_true rfl), Nat.le_of_ble_eq_true rfl, Nat.le_of_ble_eq_true rfl⟩ ((g105_ok e6).up (Nat.le_of_ble_eq_true rfl) (Nat.le_of_ble_eq_true rfl)) ?_
      refine Ru.kI (q := (.iconst 0, 1)) (c := 0) (by decide +kernel) rfl (by decide) ?_
      refine Ru.op (q := (.istore_n 3, 1)) (S' := (75, [some (.ref 36), some (vI v1), some (vI (S.F 36 22)), some (vI 0)], [], _, _)) (by decide +kernel) rfl ?_
      obtain ⟨o14, e19, h⟩ := ob_some h
      refine g117L75_ok FU _ _ _ _ e19 _ ?_
      intro d15 d16 d17 d18
      cases h
      exact Ru.end (q := (.return_, 1)) (by decide +kernel) rfl rfl
    · replace h := if_f b3 h
      refine Ru.br2 (k := .le) (off := 7) (bb := true) (tg := 31) (by decide +kernel) (by decide +kernel) (ci_le1 g2 (by decide) b3) rfl ?_
      refine Ru.kI (q := (.iconst 0, 1)) (c := 0) (by decide +kernel) rfl (by decide) ?_
      refine Ru.putH (i := 192) (by decide +kernel) (by rfl) (hp36 _) (by decide) (Nat.le_of_ble_eq_true rfl) (fk_b (by decide)) (by decide +kernel) (pf_36_36 _ _) ?_
      refine Ru.op (q := (.aload_n 0, 1)) (by decide +kernel) rfl ?_
      refine Ru.get (i := 48) (v := .ref 47) (by decide +kernel) (by rfl) (hp36 _) (by decide) rfl ?_
      refine Ru.op (q := (.iload_n 1, 1)) (by decide +kernel) rfl ?_
      refine Ru.op (q := (.aload_n 0, 1)) (by decide +kernel) rfl ?_
      refine Ru.getI (i := 155) (x := (S.F 36 22)) (by decide +kernel) (by rfl) (hp36 _) (by decide) rfl (eI_of _) ?_
      obtain ⟨g20, h⟩ := gd_some h
      refine Ru.istI (i := v1) (x := (S.F 36 22)) (by decide +kernel) (hp47 _) g20 (ps_47 _ _ _) ?_
      refine Ru.op (q := (.aload_n 0, 1)) (by decide +kernel) rfl ?_
      refine Ru.getI (i := 155) (x := (S.F 36 22)) (by decide +kernel) (by rfl) (hp36 _) (by decide) rfl (eI_of _) ?_
      refine Ru.op (q := (.istore_n 2, 1)) (S' := (50, [some (.ref 36), some (vI v1), some (vI (S.F 36 22)), none], [], _, _)) (by decide +kernel) rfl ?_
      refine Ru.op (q := (.aload_n 0, 1)) (by decide +kernel) rfl ?_
      refine Ru.kI (q := (.sipush 4096, 3)) (c := 4096) (by decide +kernel) rfl (by decide) ?_
      refine Ru.kI (q := (.sipush 128, 3)) (c := 128) (by decide +kernel) rfl (by decide) ?_
      refine Ru.kI (q := (.bipush 36, 2)) (c := 36) (by decide +kernel) rfl (by decide) ?_
      refine Ru.kI (q := (.sipush 128, 3)) (c := 128) (by decide +kernel) rfl (by decide) ?_
      refine Ru.op (q := (.aload_n 0, 1)) (by decide +kernel) rfl ?_
      refine Ru.getI (i := 198) (x := ((S.F 36 35) + 1)) (by decide +kernel) (by rfl) (hp36 _) (by decide) rfl rfl ?_
      refine Ru.ar2 (i := .imul) (z := (128 * ((S.F 36 35) + 1))) (by decide +kernel) rfl (ar_mul _ _) ?_
      refine Ru.ar2 (i := .iadd) (z := (36 + (128 * ((S.F 36 35) + 1)))) (by decide +kernel) rfl (ar_add _ _) ?_
      refine Ru.ar2 (i := .imul) (z := (128 * (36 + (128 * ((S.F 36 35) + 1))))) (by decide +kernel) rfl (ar_mul _ _) ?_
      refine Ru.ar2 (i := .iadd) (z := (4096 + (128 * (36 + (128 * ((S.F 36 35) + 1)))))) (by decide +kernel) rfl (ar_add _ _) ?_
      obtain ⟨o21, e22, h⟩ := ob_some h
      refine Ru.vcall (i := 173) (j2 := 105) (as := [vI (4096 + (128 * (36 + (128 * ((S.F 36 35) + 1)))))]) (by decide +kernel) (by rfl) rfl rfl (hp36 _) (by decide) ⟨(Nat.le_of_ble_eq_true rfl), (by show 19 + 2 ≤ 221; exact Nat.le_of_ble_eq_true rfl), Nat.le_of_ble_eq_true rfl, Nat.le_of_ble_eq_true rfl⟩ ((g105_ok e22).up (Nat.le_of_ble_eq_true rfl) (Nat.le_of_ble_eq_true rfl)) ?_
      refine Ru.kI (q := (.iconst 0, 1)) (c := 0) (by decide +kernel) rfl (by decide) ?_
      refine Ru.op (q := (.istore_n 3, 1)) (S' := (75, [some (.ref 36), some (vI v1), some (vI (S.F 36 22)), some (vI 0)], [], _, _)) (by decide +kernel) rfl ?_
      obtain ⟨o23, e28, h⟩ := ob_some h
      refine g117L75_ok FU _ _ _ _ e28 _ ?_
      intro d24 d25 d26 d27
      cases h
      exact Ru.end (q := (.return_, 1)) (by decide +kernel) rfl rfl
  · replace h := if_f b1 h
    refine Ru.br (k := .ne) (off := 12) (bb := true) (tg := 27) (by decide +kernel) (by decide +kernel) (cz (ci_ne1 (inR_to _) (by decide) b1)) rfl ?_
    refine Ru.kI (q := (.iconst 1, 1)) (c := 1) (by decide +kernel) rfl (by decide) ?_
    refine Ru.op (q := (.goto 4, 3)) (by decide +kernel) rfl ?_
    refine Ru.putH (i := 192) (by decide +kernel) (by rfl) (hp36 _) (by decide) (Nat.le_of_ble_eq_true rfl) (fk_b (by decide)) (by decide +kernel) (pf_36_36 _ _) ?_
    refine Ru.op (q := (.aload_n 0, 1)) (by decide +kernel) rfl ?_
    refine Ru.get (i := 48) (v := .ref 47) (by decide +kernel) (by rfl) (hp36 _) (by decide) rfl ?_
    refine Ru.op (q := (.iload_n 1, 1)) (by decide +kernel) rfl ?_
    refine Ru.op (q := (.aload_n 0, 1)) (by decide +kernel) rfl ?_
    refine Ru.getI (i := 155) (x := (S.F 36 22)) (by decide +kernel) (by rfl) (hp36 _) (by decide) rfl (eI_of _) ?_
    obtain ⟨g29, h⟩ := gd_some h
    refine Ru.istI (i := v1) (x := (S.F 36 22)) (by decide +kernel) (hp47 _) g29 (ps_47 _ _ _) ?_
    refine Ru.op (q := (.aload_n 0, 1)) (by decide +kernel) rfl ?_
    refine Ru.getI (i := 155) (x := (S.F 36 22)) (by decide +kernel) (by rfl) (hp36 _) (by decide) rfl (eI_of _) ?_
    refine Ru.op (q := (.istore_n 2, 1)) (S' := (50, [some (.ref 36), some (vI v1), some (vI (S.F 36 22)), none], [], _, _)) (by decide +kernel) rfl ?_
    refine Ru.op (q := (.aload_n 0, 1)) (by decide +kernel) rfl ?_
    refine Ru.kI (q := (.sipush 4096, 3)) (c := 4096) (by decide +kernel) rfl (by decide) ?_
    refine Ru.kI (q := (.sipush 128, 3)) (c := 128) (by decide +kernel) rfl (by decide) ?_
    refine Ru.kI (q := (.bipush 36, 2)) (c := 36) (by decide +kernel) rfl (by decide) ?_
    refine Ru.kI (q := (.sipush 128, 3)) (c := 128) (by decide +kernel) rfl (by decide) ?_
    refine Ru.op (q := (.aload_n 0, 1)) (by decide +kernel) rfl ?_
    refine Ru.getI (i := 198) (x := ((S.F 36 35) + 1)) (by decide +kernel) (by rfl) (hp36 _) (by decide) rfl rfl ?_
    refine Ru.ar2 (i := .imul) (z := (128 * ((S.F 36 35) + 1))) (by decide +kernel) rfl (ar_mul _ _) ?_
    refine Ru.ar2 (i := .iadd) (z := (36 + (128 * ((S.F 36 35) + 1)))) (by decide +kernel) rfl (ar_add _ _) ?_
    refine Ru.ar2 (i := .imul) (z := (128 * (36 + (128 * ((S.F 36 35) + 1))))) (by decide +kernel) rfl (ar_mul _ _) ?_
    refine Ru.ar2 (i := .iadd) (z := (4096 + (128 * (36 + (128 * ((S.F 36 35) + 1)))))) (by decide +kernel) rfl (ar_add _ _) ?_
    obtain ⟨o30, e31, h⟩ := ob_some h
    refine Ru.vcall (i := 173) (j2 := 105) (as := [vI (4096 + (128 * (36 + (128 * ((S.F 36 35) + 1)))))]) (by decide +kernel) (by rfl) rfl rfl (hp36 _) (by decide) ⟨(Nat.le_of_ble_eq_true rfl), (by show 19 + 2 ≤ 221; exact Nat.le_of_ble_eq_true rfl), Nat.le_of_ble_eq_true rfl, Nat.le_of_ble_eq_true rfl⟩ ((g105_ok e31).up (Nat.le_of_ble_eq_true rfl) (Nat.le_of_ble_eq_true rfl)) ?_
    refine Ru.kI (q := (.iconst 0, 1)) (c := 0) (by decide +kernel) rfl (by decide) ?_
    refine Ru.op (q := (.istore_n 3, 1)) (S' := (75, [some (.ref 36), some (vI v1), some (vI (S.F 36 22)), some (vI 0)], [], _, _)) (by decide +kernel) rfl ?_
    obtain ⟨o32, e37, h⟩ := ob_some h
    refine g117L75_ok FU _ _ _ _ e37 _ ?_
    intro d33 d34 d35 d36
    cases h
    exact Ru.end (q := (.return_, 1)) (by decide +kernel) rfl rfl
def g116 (S : St) (v1 : Int) : Option (St) := ob (g104 S 120 122) (fun o1 => gd (inR o1) (if o1 = 0 then some (S.f 36 28 1) else ob (g109 S) (fun o5 => ob (g110 o5.2 o5.1) (fun o7 => gd (inR v1) (if v1 = 0 then ob (g117 o7.2 o7.1) (fun o11 => some o11) else gd (ixR ((o7.2.F 36 30) - 1) 50) (some (o7.2.a 52 ((o7.2.F 36 30) - 1) 1)))))))
set_option maxRecDepth 100000 in
set_option maxHeartbeats 4000000 in
theorem g116_ok {S : St} {v1 : Int} {o : St} (h : g116 S v1 = some o) : Ru none 13 263 116 (0, mn_pad (mn_ent [.ref 36, vI v1]) 3, [], S.ns, Hp S) ((0, none), o.ns, Hp o) := by
  unfold g116 at h
  show Ru none 13 263 116 (0, [some (.ref 36), some (vI v1), none], [], S.ns, Hp S) _
  refine Ru.op (q := (.aload_n 0, 1)) (by decide +kernel) rfl ?_
  refine Ru.kI (q := (.bipush 120, 2)) (c := 120) (by decide +kernel) rfl (by decide) ?_
  refine Ru.kI (q := (.bipush 122, 2)) (c := 122) (by decide +kernel) rfl (by decide) ?_
  obtain ⟨o1, e2, h⟩ := ob_some h
  refine Ru.vcall (i := 147) (j2 := 104) (as := [vI 120, vI 122]) (by decide +kernel) (by rfl) rfl rfl (hp36 _) (by decide) ⟨(Nat.le_of_ble_eq_true rfl), (by show 19 + 3 ≤ 263; exact Nat.le_of_ble_eq_true rfl), Nat.le_of_ble_eq_true rfl, Nat.le_of_ble_eq_true rfl⟩ ((g104_ok e2).up (Nat.le_of_ble_eq_true rfl) (Nat.le_of_ble_eq_true rfl)) ?_
  obtain ⟨g3, h⟩ := gd_some h
  by_cases b4 : o1 = 0
  · replace h := if_t b4 h
    refine Ru.br (k := .ne) (off := 9) (bb := false) (tg := 11) (by decide +kernel) (by decide +kernel) (cz (ci_ne0 g3 (by decide) b4)) rfl ?_
    refine Ru.op (q := (.aload_n 0, 1)) (by decide +kernel) rfl ?_
    refine Ru.kI (q := (.iconst 1, 1)) (c := 1) (by decide +kernel) rfl (by decide) ?_
    refine Ru.putH (i := 151) (by decide +kernel) (by rfl) (hp36 _) (by decide) (Nat.le_of_ble_eq_true rfl) (fk_b (by decide)) (by decide +kernel) (pf_36_28 _ _) ?_
    cases h
    exact Ru.end (q := (.return_, 1)) (by decide +kernel) rfl rfl
  · replace h := if_f b4 h
    refine Ru.br (k := .ne) (off := 9) (bb := true) (tg := 17) (by decide +kernel) (by decide +kernel) (cz (ci_ne1 g3 (by decide) b4)) rfl ?_
    refine Ru.op (q := (.aload_n 0, 1)) (by decide +kernel) rfl ?_
    refine Ru.op (q := (.aload_n 0, 1)) (by decide +kernel) rfl ?_
    obtain ⟨o5, e6, h⟩ := ob_some h
    refine Ru.vcall (i := 164) (j2 := 109) (as := []) (by decide +kernel) (by rfl) rfl rfl (hp36 _) (by decide) ⟨(Nat.le_of_ble_eq_true rfl), (by show 19 + 2 ≤ 263; exact Nat.le_of_ble_eq_true rfl), Nat.le_of_ble_eq_true rfl, Nat.le_of_ble_eq_true rfl⟩ ((g109_ok e6).up (Nat.le_of_ble_eq_true rfl) (Nat.le_of_ble_eq_true rfl)) ?_
    obtain ⟨o7, e8, h⟩ := ob_some h
    refine Ru.vcall (i := 170) (j2 := 110) (as := [vI o5.1]) (by decide +kernel) (by rfl) rfl rfl (hp36 _) (by decide) ⟨(Nat.le_of_ble_eq_true rfl), (by show 19 + 2 ≤ 263; exact Nat.le_of_ble_eq_true rfl), Nat.le_of_ble_eq_true rfl, Nat.le_of_ble_eq_true rfl⟩ ((g110_ok e8).up (Nat.le_of_ble_eq_true rfl) (Nat.le_of_ble_eq_true rfl)) ?_
    refine Ru.op (q := (.istore_n 2, 1)) (S' := (26, [some (.ref 36), some (vI v1), some (vI o7.1)], [], _, _)) (by decide +kernel) rfl ?_
    refine Ru.op (q := (.iload_n 1, 1)) (by decide +kernel) rfl ?_
    obtain ⟨g9, h⟩ := gd_some h
    by_cases b10 : v1 = 0
    · replace h := if_t b10 h
      refine Ru.br (k := .eq) (off := 18) (bb := true) (tg := 45) (by decide +kernel) (by decide +kernel) (cz (ci_eq1 g9 (by decide) b10)) rfl ?_
      refine Ru.op (q := (.aload_n 0, 1)) (by decide +kernel) rfl ?_
      refine Ru.op (q := (.iload_n 2, 1)) (by decide +kernel) rfl ?_
      obtain ⟨o11, e12, h⟩ := ob_some h
      refine Ru.vcall (i := 230) (j2 := 117) (as := [vI o7.1]) (by decide +kernel) (by rfl) rfl rfl (hp36 _) (by decide) ⟨(Nat.le_of_ble_eq_true rfl), (by show 19 + 4 ≤ 263; exact Nat.le_of_ble_eq_true rfl), Nat.le_of_ble_eq_true rfl, Nat.le_of_ble_eq_true rfl⟩ ((g117_ok e12).up (Nat.le_of_ble_eq_true rfl) (Nat.le_of_ble_eq_true rfl)) ?_
      cases h
      exact Ru.end (q := (.return_, 1)) (by decide +kernel) rfl rfl
    · replace h := if_f b10 h
      refine Ru.br (k := .eq) (off := 18) (bb := false) (tg := 30) (by decide +kernel) (by decide +kernel) (cz (ci_eq0 g9 (by decide) b10)) rfl ?_
      refine Ru.op (q := (.aload_n 0, 1)) (by decide +kernel) rfl ?_
      refine Ru.get (i := 63) (v := .ref 52) (by decide +kernel) (by rfl) (hp36 _) (by decide) rfl ?_
      refine Ru.op (q := (.aload_n 0, 1)) (by decide +kernel) rfl ?_
      refine Ru.getI (i := 158) (x := (o7.2.F 36 30)) (by decide +kernel) (by rfl) (hp36 _) (by decide) rfl (eI_of _) ?_
      refine Ru.kI (q := (.iconst 1, 1)) (c := 1) (by decide +kernel) rfl (by decide) ?_
      refine Ru.ar2 (i := .isub) (z := ((o7.2.F 36 30) - 1)) (by decide +kernel) rfl (ar_sub _ _) ?_
      refine Ru.kI (q := (.iconst 1, 1)) (c := 1) (by decide +kernel) rfl (by decide) ?_
      obtain ⟨g13, h⟩ := gd_some h
      refine Ru.bstI (i := ((o7.2.F 36 30) - 1)) (x := 1) (by decide +kernel) (hp52 _) g13 (by decide) (ps_52 _ _ _) ?_
      refine Ru.op (q := (.goto 8, 3)) (by decide +kernel) rfl ?_
      cases h
      exact Ru.end (q := (.return_, 1)) (by decide +kernel) rfl rfl
def g111 (S : St) : Option (Int × St) := ob (g104 (S.f 36 27 ((S.F 36 27) + 1)) 49 57) (fun o1 => gd (inR o1) (if o1 = 0 then some (0, ((S.f 36 27 ((S.F 36 27) + 1)).f 36 28 1)) else ob (g102 (S.f 36 27 ((S.F 36 27) + 1))) (fun o5 => ob (g104 ((S.f 36 27 ((S.F 36 27) + 1)).f 36 27 (((S.F 36 27) + 1) + 1)) 48 57) (fun o7 => gd (inR o7) (if o7 = 0 then some ((36 + (128 * (o5 - 48))), ((S.f 36 27 ((S.F 36 27) + 1)).f 36 27 (((S.F 36 27) + 1) + 1))) else ob (g102 ((S.f 36 27 ((S.F 36 27) + 1)).f 36 27 (((S.F 36 27) + 1) + 1))) (fun o11 => some ((36 + (128 * (((10 * (o5 - 48)) + o11) - 48))), (((S.f 36 27 ((S.F 36 27) + 1)).f 36 27 (((S.F 36 27) + 1) + 1)).f 36 27 ((((S.F 36 27) + 1) + 1) + 1)))))))))
set_option maxRecDepth 100000 in
set_option maxHeartbeats 4000000 in
theorem g111_ok {S : St} {o : Int × St} (h : g111 S  = some o) : Ru none 12 242 111 (0, mn_pad (mn_ent [.ref 36]) 2, [], S.ns, Hp S) ((0, some (vI o.1)), o.2.ns, Hp o.2) := by
  unfold g111 at h
  show Ru none 12 242 111 (0, [some (.ref 36), none], [], S.ns, Hp S) _
  refine Ru.op (q := (.aload_n 0, 1)) (by decide +kernel) rfl ?_
  refine Ru.op (q := (.dup, 1)) (by decide +kernel) rfl ?_
  refine Ru.getI (i := 140) (x := (S.F 36 27)) (by decide +kernel) (by rfl) (hp36 _) (by decide) rfl (eI_of _) ?_
  refine Ru.kI (q := (.iconst 1, 1)) (c := 1) (by decide +kernel) rfl (by decide) ?_
  refine Ru.ar2 (i := .iadd) (z := ((S.F 36 27) + 1)) (by decide +kernel) rfl (ar_add _ _) ?_
  refine Ru.putH (i := 140) (by decide +kernel) (by rfl) (hp36 _) (by decide) (Nat.le_of_ble_eq_true rfl) rfl (by decide +kernel) (pf_36_27 _ _) ?_
  refine Ru.op (q := (.aload_n 0, 1)) (by decide +kernel) rfl ?_
  refine Ru.kI (q := (.bipush 49, 2)) (c := 49) (by decide +kernel) rfl (by decide) ?_
  refine Ru.kI (q := (.bipush 57, 2)) (c := 57) (by decide +kernel) rfl (by decide) ?_
  obtain ⟨o1, e2, h⟩ := ob_some h
  refine Ru.vcall (i := 147) (j2 := 104) (as := [vI 49, vI 57]) (by decide +kernel) (by rfl) rfl rfl (hp36 _) (by decide) ⟨(Nat.le_of_ble_eq_true rfl), (by show 19 + 3 ≤ 242; exact Nat.le_of_ble_eq_true rfl), Nat.le_of_ble_eq_true rfl, Nat.le_of_ble_eq_true rfl⟩ ((g104_ok e2).up (Nat.le_of_ble_eq_true rfl) (Nat.le_of_ble_eq_true rfl)) ?_
  obtain ⟨g3, h⟩ := gd_some h
  by_cases b4 : o1 = 0
  · replace h := if_t b4 h
    refine Ru.br (k := .ne) (off := 10) (bb := false) (tg := 21) (by decide +kernel) (by decide +kernel) (cz (ci_ne0 g3 (by decide) b4)) rfl ?_
    refine Ru.op (q := (.aload_n 0, 1)) (by decide +kernel) rfl ?_
    refine Ru.kI (q := (.iconst 1, 1)) (c := 1) (by decide +kernel) rfl (by decide) ?_
    refine Ru.putH (i := 151) (by decide +kernel) (by rfl) (hp36 _) (by decide) (Nat.le_of_ble_eq_true rfl) (fk_b (by decide)) (by decide +kernel) (pf_36_28 _ _) ?_
    refine Ru.kI (q := (.iconst 0, 1)) (c := 0) (by decide +kernel) rfl (by decide) ?_
    cases h
    exact Ru.iret (by decide +kernel) rfl rfl
  · replace h := if_f b4 h
    refine Ru.br (k := .ne) (off := 10) (bb := true) (tg := 28) (by decide +kernel) (by decide +kernel) (cz (ci_ne1 g3 (by decide) b4)) rfl ?_
    refine Ru.op (q := (.aload_n 0, 1)) (by decide +kernel) rfl ?_
    obtain ⟨o5, e6, h⟩ := ob_some h
    refine Ru.vcall (i := 143) (j2 := 102) (as := []) (by decide +kernel) (by rfl) rfl rfl (hp36 _) (by decide) ⟨(Nat.le_of_ble_eq_true rfl), (by show 19 + 1 ≤ 242; exact Nat.le_of_ble_eq_true rfl), Nat.le_of_ble_eq_true rfl, Nat.le_of_ble_eq_true rfl⟩ ((g102_ok e6).up (Nat.le_of_ble_eq_true rfl) (Nat.le_of_ble_eq_true rfl)) ?_
    refine Ru.kI (q := (.bipush 48, 2)) (c := 48) (by decide +kernel) rfl (by decide) ?_
    refine Ru.ar2 (i := .isub) (z := (o5 - 48)) (by decide +kernel) rfl (ar_sub _ _) ?_
    refine Ru.op (q := (.istore_n 1, 1)) (S' := (36, [some (.ref 36), some (vI (o5 - 48))], [], _, _)) (by decide +kernel) rfl ?_
    refine Ru.op (q := (.aload_n 0, 1)) (by decide +kernel) rfl ?_
    refine Ru.op (q := (.dup, 1)) (by decide +kernel) rfl ?_
    refine Ru.getI (i := 140) (x := ((S.F 36 27) + 1)) (by decide +kernel) (by rfl) (hp36 _) (by decide) rfl rfl ?_
    refine Ru.kI (q := (.iconst 1, 1)) (c := 1) (by decide +kernel) rfl (by decide) ?_
    refine Ru.ar2 (i := .iadd) (z := (((S.F 36 27) + 1) + 1)) (by decide +kernel) rfl (ar_add _ _) ?_
    refine Ru.putH (i := 140) (by decide +kernel) (by rfl) (hp36 _) (by decide) (Nat.le_of_ble_eq_true rfl) rfl (by decide +kernel) (pf_36_27 _ _) ?_
    refine Ru.op (q := (.aload_n 0, 1)) (by decide +kernel) rfl ?_
    refine Ru.kI (q := (.bipush 48, 2)) (c := 48) (by decide +kernel) rfl (by decide) ?_
    refine Ru.kI (q := (.bipush 57, 2)) (c := 57) (by decide +kernel) rfl (by decide) ?_
    obtain ⟨o7, e8, h⟩ := ob_some h
    refine Ru.vcall (i := 147) (j2 := 104) (as := [vI 48, vI 57]) (by decide +kernel) (by rfl) rfl rfl (hp36 _) (by decide) ⟨(Nat.le_of_ble_eq_true rfl), (by show 19 + 3 ≤ 242; exact Nat.le_of_ble_eq_true rfl), Nat.le_of_ble_eq_true rfl, Nat.le_of_ble_eq_true rfl⟩ ((g104_ok e8).up (Nat.le_of_ble_eq_true rfl) (Nat.le_of_ble_eq_true rfl)) ?_
    obtain ⟨g9, h⟩ := gd_some h
    by_cases b10 : o7 = 0
    · replace h := if_t b10 h
      refine Ru.br (k := .eq) (off := 26) (bb := true) (tg := 80) (by decide +kernel) (by decide +kernel) (cz (ci_eq1 g9 (by decide) b10)) rfl ?_
      refine Ru.kI (q := (.bipush 36, 2)) (c := 36) (by decide +kernel) rfl (by decide) ?_
      refine Ru.kI (q := (.sipush 128, 3)) (c := 128) (by decide +kernel) rfl (by decide) ?_
      refine Ru.op (q := (.iload_n 1, 1)) (by decide +kernel) rfl ?_
      refine Ru.ar2 (i := .imul) (z := (128 * (o5 - 48))) (by decide +kernel) rfl (ar_mul _ _) ?_
      refine Ru.ar2 (i := .iadd) (z := (36 + (128 * (o5 - 48)))) (by decide +kernel) rfl (ar_add _ _) ?_
      cases h
      exact Ru.iret (by decide +kernel) rfl rfl
    · replace h := if_f b10 h
      refine Ru.br (k := .eq) (off := 26) (bb := false) (tg := 57) (by decide +kernel) (by decide +kernel) (cz (ci_eq0 g9 (by decide) b10)) rfl ?_
      refine Ru.kI (q := (.bipush 10, 2)) (c := 10) (by decide +kernel) rfl (by decide) ?_
      refine Ru.op (q := (.iload_n 1, 1)) (by decide +kernel) rfl ?_
      refine Ru.ar2 (i := .imul) (z := (10 * (o5 - 48))) (by decide +kernel) rfl (ar_mul _ _) ?_
      refine Ru.op (q := (.aload_n 0, 1)) (by decide +kernel) rfl ?_
      obtain ⟨o11, e12, h⟩ := ob_some h
      refine Ru.vcall (i := 143) (j2 := 102) (as := []) (by decide +kernel) (by rfl) rfl rfl (hp36 _) (by decide) ⟨(Nat.le_of_ble_eq_true rfl), (by show 19 + 1 ≤ 242; exact Nat.le_of_ble_eq_true rfl), Nat.le_of_ble_eq_true rfl, Nat.le_of_ble_eq_true rfl⟩ ((g102_ok e12).up (Nat.le_of_ble_eq_true rfl) (Nat.le_of_ble_eq_true rfl)) ?_
      refine Ru.ar2 (i := .iadd) (z := ((10 * (o5 - 48)) + o11)) (by decide +kernel) rfl (ar_add _ _) ?_
      refine Ru.kI (q := (.bipush 48, 2)) (c := 48) (by decide +kernel) rfl (by decide) ?_
      refine Ru.ar2 (i := .isub) (z := (((10 * (o5 - 48)) + o11) - 48)) (by decide +kernel) rfl (ar_sub _ _) ?_
      refine Ru.op (q := (.istore_n 1, 1)) (S' := (70, [some (.ref 36), some (vI (((10 * (o5 - 48)) + o11) - 48))], [], _, _)) (by decide +kernel) rfl ?_
      refine Ru.op (q := (.aload_n 0, 1)) (by decide +kernel) rfl ?_
      refine Ru.op (q := (.dup, 1)) (by decide +kernel) rfl ?_
      refine Ru.getI (i := 140) (x := (((S.F 36 27) + 1) + 1)) (by decide +kernel) (by rfl) (hp36 _) (by decide) rfl rfl ?_
      refine Ru.kI (q := (.iconst 1, 1)) (c := 1) (by decide +kernel) rfl (by decide) ?_
      refine Ru.ar2 (i := .iadd) (z := ((((S.F 36 27) + 1) + 1) + 1)) (by decide +kernel) rfl (ar_add _ _) ?_
      refine Ru.putH (i := 140) (by decide +kernel) (by rfl) (hp36 _) (by decide) (Nat.le_of_ble_eq_true rfl) rfl (by decide +kernel) (pf_36_27 _ _) ?_
      refine Ru.kI (q := (.bipush 36, 2)) (c := 36) (by decide +kernel) rfl (by decide) ?_
      refine Ru.kI (q := (.sipush 128, 3)) (c := 128) (by decide +kernel) rfl (by decide) ?_
      refine Ru.op (q := (.iload_n 1, 1)) (by decide +kernel) rfl ?_
      refine Ru.ar2 (i := .imul) (z := (128 * (((10 * (o5 - 48)) + o11) - 48))) (by decide +kernel) rfl (ar_mul _ _) ?_
      refine Ru.ar2 (i := .iadd) (z := (36 + (128 * (((10 * (o5 - 48)) + o11) - 48)))) (by decide +kernel) rfl (ar_add _ _) ?_
      cases h
      exact Ru.iret (by decide +kernel) rfl rfl
def g108L15 (S : St) (v1 : Int) (v2 : Int) : Nat → Int → Int → Option (Int)
  | 0, _, _ => none
  | n + 1, v3, v4 => gd (inR v4) (if v4 < (S.F 36 30) then gd (ixR v4 50) (gd (inR v2) (if (S.A 50 v4) = v2 then g108L15 S v1 v2 n (S.A 51 v4) (v4 + 1) else g108L15 S v1 v2 n v3 (v4 + 1))) else some v3)
set_option maxRecDepth 100000 in
set_option maxHeartbeats 4000000 in
theorem g108L15_ok {S : St} {v1 : Int} {v2 : Int} : ∀ (n : Nat) (v3 : Int) (v4 : Int) (out : Int), g108L15 S v1 v2 n v3 v4 = some out → ∀ r, (∀ (e4 : Option Value), Ru none 13 263 108 (53, [some (.ref 36), some (vI v1), some (vI v2), some (vI out), e4], [], S.ns, Hp S) r) → Ru none 13 263 108 (15, [some (.ref 36), some (vI v1), some (vI v2), some (vI v3), some (vI v4)], [], S.ns, Hp S) r := by
  intro n
  induction n with
  | zero => intro v3 v4 out h; cases h
  | succ n ih =>
    intro v3 v4 out h r hk
    unfold g108L15 at h
    refine Ru.op (q := (.iload 4, 2)) (by decide +kernel) rfl ?_
    refine Ru.op (q := (.aload_n 0, 1)) (by decide +kernel) rfl ?_
    refine Ru.getI (i := 158) (x := (S.F 36 30)) (by decide +kernel) (by rfl) (hp36 _) (by decide) rfl (eI_of _) ?_
    obtain ⟨g3, h⟩ := gd_some h
    by_cases b4 : v4 < (S.F 36 30)
    · replace h := if_t b4 h
      refine Ru.br2 (k := .ge) (off := 32) (bb := false) (tg := 24) (by decide +kernel) (by decide +kernel) (ci_ge0 g3 (inR_to _) b4) rfl ?_
      refine Ru.op (q := (.aload_n 0, 1)) (by decide +kernel) rfl ?_
      refine Ru.get (i := 57) (v := .ref 50) (by decide +kernel) (by rfl) (hp36 _) (by decide) rfl ?_
      refine Ru.op (q := (.iload 4, 2)) (by decide +kernel) rfl ?_
      obtain ⟨g5, h⟩ := gd_some h
      refine Ru.ildI (i := v4) (z := (S.A 50 v4)) (by decide +kernel) (hp50 _) g5 (eI_of _) ?_
      refine Ru.op (q := (.iload_n 2, 1)) (by decide +kernel) rfl ?_
      obtain ⟨g6, h⟩ := gd_some h
      by_cases b7 : (S.A 50 v4) = v2
      · replace h := if_t b7 h
        refine Ru.br2 (k := .ne) (off := 13) (bb := false) (tg := 35) (by decide +kernel) (by decide +kernel) (ci_ne0 (inR_to _) g6 b7) rfl ?_
        refine Ru.op (q := (.aload_n 0, 1)) (by decide +kernel) rfl ?_
        refine Ru.get (i := 60) (v := .ref 51) (by decide +kernel) (by rfl) (hp36 _) (by decide) rfl ?_
        refine Ru.op (q := (.iload 4, 2)) (by decide +kernel) rfl ?_
        refine Ru.ildI (i := v4) (z := (S.A 51 v4)) (by decide +kernel) (hp51 _) g5 (eI_of _) ?_
        refine Ru.op (q := (.goto 4, 3)) (by decide +kernel) rfl ?_
        refine Ru.op (q := (.istore_n 3, 1)) (S' := (47, [some (.ref 36), some (vI v1), some (vI v2), some (vI (S.A 51 v4)), some (vI v4)], [], _, _)) (by decide +kernel) rfl ?_
        refine Ru.inc (x := v4) (z := (v4 + 1)) (xs' := [some (.ref 36), some (vI v1), some (vI v2), some (vI (S.A 51 v4)), some (vI (v4 + 1))]) (by decide +kernel) rfl rfl rfl ?_
        refine Ru.op (q := (.goto (-35), 3)) (by decide +kernel) rfl ?_
        exact ih _ _ _ h r hk
      · replace h := if_f b7 h
        refine Ru.br2 (k := .ne) (off := 13) (bb := true) (tg := 45) (by decide +kernel) (by decide +kernel) (ci_ne1 (inR_to _) g6 b7) rfl ?_
        refine Ru.op (q := (.iload_n 3, 1)) (by decide +kernel) rfl ?_
        refine Ru.op (q := (.istore_n 3, 1)) (S' := (47, [some (.ref 36), some (vI v1), some (vI v2), some (vI v3), some (vI v4)], [], _, _)) (by decide +kernel) rfl ?_
        refine Ru.inc (x := v4) (z := (v4 + 1)) (xs' := [some (.ref 36), some (vI v1), some (vI v2), some (vI v3), some (vI (v4 + 1))]) (by decide +kernel) rfl rfl rfl ?_
        refine Ru.op (q := (.goto (-35), 3)) (by decide +kernel) rfl ?_
        exact ih _ _ _ h r hk
    · replace h := if_f b4 h
      refine Ru.br2 (k := .ge) (off := 32) (bb := true) (tg := 53) (by decide +kernel) (by decide +kernel) (ci_ge1 g3 (inR_to _) b4) rfl ?_
      cases h
      exact hk _
def g108 (S : St) : Option (St) := ob (g109 S) (fun o1 => ob (g108L15 o1.2 (S.F 36 27) o1.1 FU (-1) 0) (fun o8 => gd (inR o8) (if o8 < 0 then if (o1.2.F 36 29) = 0 then some ((o1.2.f 36 28 1).f 36 27 (S.F 36 27)) else ob (g110 o1.2 o1.1) (fun o14 => ob (g105 o14.2 o14.1) (fun o16 => some o16)) else ob (g105 o1.2 o8) (fun o18 => some o18))))
set_option maxRecDepth 100000 in
set_option maxHeartbeats 4000000 in
theorem g108_ok {S : St} {o : St} (h : g108 S  = some o) : Ru none 13 263 108 (0, mn_pad (mn_ent [.ref 36]) 5, [], S.ns, Hp S) ((0, none), o.ns, Hp o) := by
  unfold g108 at h
  show Ru none 13 263 108 (0, [some (.ref 36), none, none, none, none], [], S.ns, Hp S) _
  refine Ru.op (q := (.aload_n 0, 1)) (by decide +kernel) rfl ?_
  refine Ru.getI (i := 140) (x := (S.F 36 27)) (by decide +kernel) (by rfl) (hp36 _) (by decide) rfl (eI_of _) ?_
  refine Ru.op (q := (.istore_n 1, 1)) (S' := (5, [some (.ref 36), some (vI (S.F 36 27)), none, none, none], [], _, _)) (by decide +kernel) rfl ?_
  refine Ru.op (q := (.aload_n 0, 1)) (by decide +kernel) rfl ?_
  obtain ⟨o1, e2, h⟩ := ob_some h
  refine Ru.vcall (i := 164) (j2 := 109) (as := []) (by decide +kernel) (by rfl) rfl rfl (hp36 _) (by decide) ⟨(Nat.le_of_ble_eq_true rfl), (by show 19 + 2 ≤ 263; exact Nat.le_of_ble_eq_true rfl), Nat.le_of_ble_eq_true rfl, Nat.le_of_ble_eq_true rfl⟩ ((g109_ok e2).up (Nat.le_of_ble_eq_true rfl) (Nat.le_of_ble_eq_true rfl)) ?_
  refine Ru.op (q := (.istore_n 2, 1)) (S' := (10, [some (.ref 36), some (vI (S.F 36 27)), some (vI o1.1), none, none], [], _, _)) (by decide +kernel) rfl ?_
  refine Ru.kI (q := (.iconst (-1), 1)) (c := (-1)) (by decide +kernel) rfl (by decide) ?_
  refine Ru.op (q := (.istore_n 3, 1)) (S' := (12, [some (.ref 36), some (vI (S.F 36 27)), some (vI o1.1), some (vI (-1)), none], [], _, _)) (by decide +kernel) rfl ?_
  refine Ru.kI (q := (.iconst 0, 1)) (c := 0) (by decide +kernel) rfl (by decide) ?_
  refine Ru.op (q := (.istore 4, 2)) (S' := (15, [some (.ref 36), some (vI (S.F 36 27)), some (vI o1.1), some (vI (-1)), some (vI 0)], [], _, _)) (by decide +kernel) rfl ?_
  obtain ⟨o8, e10, h⟩ := ob_some h
  refine g108L15_ok FU _ _ _ e10 _ ?_
  intro d9
  refine Ru.op (q := (.iload_n 3, 1)) (by decide +kernel) rfl ?_
  obtain ⟨g11, h⟩ := gd_some h
  by_cases b12 : o8 < 0
  · replace h := if_t b12 h
    refine Ru.br (k := .ge) (off := 21) (bb := false) (tg := 57) (by decide +kernel) (by decide +kernel) (cz (ci_ge0 g11 (by decide) b12)) rfl ?_
    refine Ru.op (q := (.aload_n 0, 1)) (by decide +kernel) rfl ?_
    refine Ru.getI (i := 167) (x := (o1.2.F 36 29)) (by decide +kernel) (by rfl) (hp36 _) (by decide) rfl (eI_of _) ?_
    by_cases b13 : (o1.2.F 36 29) = 0
    · replace h := if_t b13 h
      refine Ru.br (k := .ne) (off := 14) (bb := false) (tg := 64) (by decide +kernel) (by decide +kernel) (cz (ci_ne0 (inR_to _) (by decide) b13)) rfl ?_
      refine Ru.op (q := (.aload_n 0, 1)) (by decide +kernel) rfl ?_
      refine Ru.kI (q := (.iconst 1, 1)) (c := 1) (by decide +kernel) rfl (by decide) ?_
      refine Ru.putH (i := 151) (by decide +kernel) (by rfl) (hp36 _) (by decide) (Nat.le_of_ble_eq_true rfl) (fk_b (by decide)) (by decide +kernel) (pf_36_28 _ _) ?_
      refine Ru.op (q := (.aload_n 0, 1)) (by decide +kernel) rfl ?_
      refine Ru.op (q := (.iload_n 1, 1)) (by decide +kernel) rfl ?_
      refine Ru.putH (i := 140) (by decide +kernel) (by rfl) (hp36 _) (by decide) (Nat.le_of_ble_eq_true rfl) rfl (by decide +kernel) (pf_36_27 _ _) ?_
      cases h
      exact Ru.end (q := (.return_, 1)) (by decide +kernel) rfl rfl
    · replace h := if_f b13 h
      refine Ru.br (k := .ne) (off := 14) (bb := true) (tg := 75) (by decide +kernel) (by decide +kernel) (cz (ci_ne1 (inR_to _) (by decide) b13)) rfl ?_
      refine Ru.op (q := (.aload_n 0, 1)) (by decide +kernel) rfl ?_
      refine Ru.op (q := (.iload_n 3, 1)) (by decide +kernel) rfl ?_
      refine Ru.br (k := .ge) (off := 11) (bb := false) (tg := 80) (by decide +kernel) (by decide +kernel) (cz (ci_ge0 g11 (by decide) b12)) rfl ?_
      refine Ru.op (q := (.aload_n 0, 1)) (by decide +kernel) rfl ?_
      refine Ru.op (q := (.iload_n 2, 1)) (by decide +kernel) rfl ?_
      obtain ⟨o14, e15, h⟩ := ob_some h
      refine Ru.vcall (i := 170) (j2 := 110) (as := [vI o1.1]) (by decide +kernel) (by rfl) rfl rfl (hp36 _) (by decide) ⟨(Nat.le_of_ble_eq_true rfl), (by show 19 + 2 ≤ 263; exact Nat.le_of_ble_eq_true rfl), Nat.le_of_ble_eq_true rfl, Nat.le_of_ble_eq_true rfl⟩ ((g110_ok e15).up (Nat.le_of_ble_eq_true rfl) (Nat.le_of_ble_eq_true rfl)) ?_
      refine Ru.op (q := (.goto 4, 3)) (by decide +kernel) rfl ?_
      obtain ⟨o16, e17, h⟩ := ob_some h
      refine Ru.vcall (i := 173) (j2 := 105) (as := [vI o14.1]) (by decide +kernel) (by rfl) rfl rfl (hp36 _) (by decide) ⟨(Nat.le_of_ble_eq_true rfl), (by show 19 + 2 ≤ 263; exact Nat.le_of_ble_eq_true rfl), Nat.le_of_ble_eq_true rfl, Nat.le_of_ble_eq_true rfl⟩ ((g105_ok e17).up (Nat.le_of_ble_eq_true rfl) (Nat.le_of_ble_eq_true rfl)) ?_
      cases h
      exact Ru.end (q := (.return_, 1)) (by decide +kernel) rfl rfl
  · replace h := if_f b12 h
    refine Ru.br (k := .ge) (off := 21) (bb := true) (tg := 75) (by decide +kernel) (by decide +kernel) (cz (ci_ge1 g11 (by decide) b12)) rfl ?_
    refine Ru.op (q := (.aload_n 0, 1)) (by decide +kernel) rfl ?_
    refine Ru.op (q := (.iload_n 3, 1)) (by decide +kernel) rfl ?_
    refine Ru.br (k := .ge) (off := 11) (bb := true) (tg := 88) (by decide +kernel) (by decide +kernel) (cz (ci_ge1 g11 (by decide) b12)) rfl ?_
    refine Ru.op (q := (.iload_n 3, 1)) (by decide +kernel) rfl ?_
    obtain ⟨o18, e19, h⟩ := ob_some h
    refine Ru.vcall (i := 173) (j2 := 105) (as := [vI o8]) (by decide +kernel) (by rfl) rfl rfl (hp36 _) (by decide) ⟨(Nat.le_of_ble_eq_true rfl), (by show 19 + 2 ≤ 263; exact Nat.le_of_ble_eq_true rfl), Nat.le_of_ble_eq_true rfl, Nat.le_of_ble_eq_true rfl⟩ ((g105_ok e19).up (Nat.le_of_ble_eq_true rfl) (Nat.le_of_ble_eq_true rfl)) ?_
    cases h
    exact Ru.end (q := (.return_, 1)) (by decide +kernel) rfl rfl
