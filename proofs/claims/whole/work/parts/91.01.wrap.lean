def g163 (S : St) (v1 : Int) : Option (Int × St) := ob (g19 S v1) (fun o1 => if o1.1 = 0 then some (0, (o1.2.2.o (lI o1.2.1))) else if o1.1 = 1 then some (1, o1.2.2) else if o1.1 = 2 then some (2, o1.2.2) else none)
set_option maxRecDepth 100000 in
set_option maxHeartbeats 4000000 in
theorem g163_ok {S : St} {v1 : Int} {o : Int × St} (h : g163 S v1 = some o) : Ru none 273 6567 163 (0, mn_pad (mn_ent [.ref 0, vI v1, .ref 71]) 4, [], S.ns, Hp S) ((0, some (vI o.1)), o.2.ns, Hp o.2) := by
  unfold g163 at h
  show Ru none 273 6567 163 (0, [some (.ref 0), some (vI v1), some (.ref 71), none], [], S.ns, Hp S) _
  refine Ru.op (q := (.aload_n 2, 1)) (S' := (1, _, _, _, _)) (by decide +kernel) rfl ?_
  refine Ru.kI (q := (.iconst 0, 1)) (c := 0) (pc' := 2) (by decide +kernel) rfl (by decide) rfl ?_
  refine Ru.op (q := (.aload_n 0, 1)) (S' := (3, _, _, _, _)) (by decide +kernel) rfl ?_
  refine Ru.op (q := (.iload_n 1, 1)) (S' := (4, _, _, _, _)) (by decide +kernel) rfl ?_
  obtain ⟨o1, e2, h⟩ := ob_some h
  have sp3 := g19_ok e2
  by_cases b4 : o1.1 = 0
  · replace h := if_t b4 h
    rw [b4] at sp3
    refine Ru.vcallI (pc' := 7) (st' := [vI o1.2.1, vI 0, .ref 71]) (i := 17) (j2 := 19) (ci := 0) (k := 0) (z := 0) (as := [vI v1]) (by decide +kernel) (by decide +kernel) rfl rfl (hp0 _) (by decide) ⟨(Nat.le_of_ble_eq_true rfl), (by show 19 + 3 ≤ 6567; exact Nat.le_of_ble_eq_true rfl), Nat.le_of_ble_eq_true rfl, Nat.le_of_ble_eq_true rfl⟩ (sp3.up (Nat.le_of_ble_eq_true rfl) (Nat.le_of_ble_eq_true rfl)) rfl rfl ?_
    refine Ru.i2l (x := o1.2.1) (pc' := 8) (by decide +kernel) rfl ?_
    refine Ru.lst (S := o1.2.2) (pc' := 9) (by decide +kernel) rfl ?_
    refine Ru.op (q := (.goto 9, 3)) (S' := (18, _, _, _, _)) (by decide +kernel) rfl ?_
    refine Ru.kI (q := (.iconst 0, 1)) (c := 0) (pc' := 19) (by decide +kernel) rfl (by decide) rfl ?_
    cases h
    exact Ru.iret (by decide +kernel) rfl rfl
  · replace h := if_f b4 h
    by_cases b5 : o1.1 = 1
    · replace h := if_t b5 h
      rw [b5] at sp3
      refine Ru.vcatI (k := 0) (hp := 12) (i := 17) (j2 := 19) (ci := 0) (k0 := 0) (z := 0) (as := [vI v1]) (by decide +kernel) (by decide +kernel) rfl rfl (hp0 _) (by decide) ⟨(Nat.le_of_ble_eq_true rfl), (by show 19 + 3 ≤ 6567; exact Nat.le_of_ble_eq_true rfl), Nat.le_of_ble_eq_true rfl, Nat.le_of_ble_eq_true rfl⟩ rfl (sp3.up (Nat.le_of_ble_eq_true rfl) (Nat.le_of_ble_eq_true rfl)) ?_
      refine Ru.op (q := (.astore_n 3, 1)) (S' := (13, [some (.ref 0), some (vI v1), some (.ref 71), some (.ref ((Hp o1.2.2).length - 1))], [], _, _)) (by decide +kernel) rfl ?_
      refine Ru.kI (q := (.iconst 1, 1)) (c := 1) (pc' := 14) (by decide +kernel) rfl (by decide) rfl ?_
      cases h
      exact Ru.iret (by decide +kernel) rfl rfl
    · replace h := if_f b5 h
      by_cases b6 : o1.1 = 2
      · replace h := if_t b6 h
        rw [b6] at sp3
        refine Ru.vcatI (k := 1) (hp := 15) (i := 17) (j2 := 19) (ci := 0) (k0 := 0) (z := 0) (as := [vI v1]) (by decide +kernel) (by decide +kernel) rfl rfl (hp0 _) (by decide) ⟨(Nat.le_of_ble_eq_true rfl), (by show 19 + 3 ≤ 6567; exact Nat.le_of_ble_eq_true rfl), Nat.le_of_ble_eq_true rfl, Nat.le_of_ble_eq_true rfl⟩ rfl (sp3.up (Nat.le_of_ble_eq_true rfl) (Nat.le_of_ble_eq_true rfl)) ?_
        refine Ru.op (q := (.astore_n 3, 1)) (S' := (16, [some (.ref 0), some (vI v1), some (.ref 71), some (.ref ((Hp o1.2.2).length - 1))], [], _, _)) (by decide +kernel) rfl ?_
        refine Ru.kI (q := (.iconst 2, 1)) (c := 2) (pc' := 17) (by decide +kernel) rfl (by decide) rfl ?_
        cases h
        exact Ru.iret (by decide +kernel) rfl rfl
      · replace h := if_f b6 h
        cases h
def g164 (S : St) : Option (Int × St) := ob (g60 S) (fun o1 => if o1.1 = 0 then some (0, (o1.2.2.o (lI o1.2.1))) else if o1.1 = 2 then some (1, o1.2.2) else none)
set_option maxRecDepth 100000 in
set_option maxHeartbeats 4000000 in
theorem g164_ok {S : St} {o : Int × St} (h : g164 S  = some o) : Ru none 145 4025 164 (0, mn_pad (mn_ent [.ref 0, .ref 71]) 3, [], S.ns, Hp S) ((0, some (vI o.1)), o.2.ns, Hp o.2) := by
  unfold g164 at h
  show Ru none 145 4025 164 (0, [some (.ref 0), some (.ref 71), none], [], S.ns, Hp S) _
  refine Ru.op (q := (.aload_n 1, 1)) (S' := (1, _, _, _, _)) (by decide +kernel) rfl ?_
  refine Ru.kI (q := (.iconst 0, 1)) (c := 0) (pc' := 2) (by decide +kernel) rfl (by decide) rfl ?_
  refine Ru.op (q := (.aload_n 0, 1)) (S' := (3, _, _, _, _)) (by decide +kernel) rfl ?_
  obtain ⟨o1, e2, h⟩ := ob_some h
  have sp3 := g60_ok e2
  by_cases b4 : o1.1 = 0
  · replace h := if_t b4 h
    rw [b4] at sp3
    refine Ru.vcallI (pc' := 6) (st' := [vI o1.2.1, vI 0, .ref 71]) (i := 23) (j2 := 60) (ci := 0) (k := 0) (z := 0) (as := []) (by decide +kernel) (by decide +kernel) rfl rfl (hp0 _) (by decide) ⟨(Nat.le_of_ble_eq_true rfl), (by show 19 + 1 ≤ 4025; exact Nat.le_of_ble_eq_true rfl), Nat.le_of_ble_eq_true rfl, Nat.le_of_ble_eq_true rfl⟩ (sp3.up (Nat.le_of_ble_eq_true rfl) (Nat.le_of_ble_eq_true rfl)) rfl rfl ?_
    refine Ru.i2l (x := o1.2.1) (pc' := 7) (by decide +kernel) rfl ?_
    refine Ru.lst (S := o1.2.2) (pc' := 8) (by decide +kernel) rfl ?_
    refine Ru.op (q := (.goto 6, 3)) (S' := (14, _, _, _, _)) (by decide +kernel) rfl ?_
    refine Ru.kI (q := (.iconst 0, 1)) (c := 0) (pc' := 15) (by decide +kernel) rfl (by decide) rfl ?_
    cases h
    exact Ru.iret (by decide +kernel) rfl rfl
  · replace h := if_f b4 h
    by_cases b5 : o1.1 = 2
    · replace h := if_t b5 h
      rw [b5] at sp3
      refine Ru.vcatI (k := 1) (hp := 11) (i := 23) (j2 := 60) (ci := 0) (k0 := 0) (z := 0) (as := []) (by decide +kernel) (by decide +kernel) rfl rfl (hp0 _) (by decide) ⟨(Nat.le_of_ble_eq_true rfl), (by show 19 + 1 ≤ 4025; exact Nat.le_of_ble_eq_true rfl), Nat.le_of_ble_eq_true rfl, Nat.le_of_ble_eq_true rfl⟩ rfl (sp3.up (Nat.le_of_ble_eq_true rfl) (Nat.le_of_ble_eq_true rfl)) ?_
      refine Ru.op (q := (.astore_n 2, 1)) (S' := (12, [some (.ref 0), some (.ref 71), some (.ref ((Hp o1.2.2).length - 1))], [], _, _)) (by decide +kernel) rfl ?_
      refine Ru.kI (q := (.iconst 1, 1)) (c := 1) (pc' := 13) (by decide +kernel) rfl (by decide) rfl ?_
      cases h
      exact Ru.iret (by decide +kernel) rfl rfl
    · replace h := if_f b5 h
      cases h
def g165 (S : St) (v1 : Int) : Option (Int × St) := ob (g76 S v1) (fun o1 => if o1.1 = 0 then some (0, (o1.2.2.o (lI o1.2.1))) else if o1.1 = 1 then some (1, o1.2.2) else none)
set_option maxRecDepth 100000 in
set_option maxHeartbeats 4000000 in
theorem g165_ok {S : St} {v1 : Int} {o : Int × St} (h : g165 S v1 = some o) : Ru none 145 4027 165 (0, mn_pad (mn_ent [.ref 0, vI v1, .ref 71]) 4, [], S.ns, Hp S) ((0, some (vI o.1)), o.2.ns, Hp o.2) := by
  unfold g165 at h
  show Ru none 145 4027 165 (0, [some (.ref 0), some (vI v1), some (.ref 71), none], [], S.ns, Hp S) _
  refine Ru.op (q := (.aload_n 2, 1)) (S' := (1, _, _, _, _)) (by decide +kernel) rfl ?_
  refine Ru.kI (q := (.iconst 0, 1)) (c := 0) (pc' := 2) (by decide +kernel) rfl (by decide) rfl ?_
  refine Ru.op (q := (.aload_n 0, 1)) (S' := (3, _, _, _, _)) (by decide +kernel) rfl ?_
  refine Ru.op (q := (.iload_n 1, 1)) (S' := (4, _, _, _, _)) (by decide +kernel) rfl ?_
  obtain ⟨o1, e2, h⟩ := ob_some h
  have sp3 := g76_ok e2
  by_cases b4 : o1.1 = 0
  · replace h := if_t b4 h
    rw [b4] at sp3
    refine Ru.vcallI (pc' := 7) (st' := [vI o1.2.1, vI 0, .ref 71]) (i := 27) (j2 := 76) (ci := 0) (k := 0) (z := 0) (as := [vI v1]) (by decide +kernel) (by decide +kernel) rfl rfl (hp0 _) (by decide) ⟨(Nat.le_of_ble_eq_true rfl), (by show 19 + 3 ≤ 4027; exact Nat.le_of_ble_eq_true rfl), Nat.le_of_ble_eq_true rfl, Nat.le_of_ble_eq_true rfl⟩ (sp3.up (Nat.le_of_ble_eq_true rfl) (Nat.le_of_ble_eq_true rfl)) rfl rfl ?_
    refine Ru.i2l (x := o1.2.1) (pc' := 8) (by decide +kernel) rfl ?_
    refine Ru.lst (S := o1.2.2) (pc' := 9) (by decide +kernel) rfl ?_
    refine Ru.op (q := (.goto 6, 3)) (S' := (15, _, _, _, _)) (by decide +kernel) rfl ?_
    refine Ru.kI (q := (.iconst 0, 1)) (c := 0) (pc' := 16) (by decide +kernel) rfl (by decide) rfl ?_
    cases h
    exact Ru.iret (by decide +kernel) rfl rfl
  · replace h := if_f b4 h
    by_cases b5 : o1.1 = 1
    · replace h := if_t b5 h
      rw [b5] at sp3
      refine Ru.vcatI (k := 0) (hp := 12) (i := 27) (j2 := 76) (ci := 0) (k0 := 0) (z := 0) (as := [vI v1]) (by decide +kernel) (by decide +kernel) rfl rfl (hp0 _) (by decide) ⟨(Nat.le_of_ble_eq_true rfl), (by show 19 + 3 ≤ 4027; exact Nat.le_of_ble_eq_true rfl), Nat.le_of_ble_eq_true rfl, Nat.le_of_ble_eq_true rfl⟩ rfl (sp3.up (Nat.le_of_ble_eq_true rfl) (Nat.le_of_ble_eq_true rfl)) ?_
      refine Ru.op (q := (.astore_n 3, 1)) (S' := (13, [some (.ref 0), some (vI v1), some (.ref 71), some (.ref ((Hp o1.2.2).length - 1))], [], _, _)) (by decide +kernel) rfl ?_
      refine Ru.kI (q := (.iconst 1, 1)) (c := 1) (pc' := 14) (by decide +kernel) rfl (by decide) rfl ?_
      cases h
      exact Ru.iret (by decide +kernel) rfl rfl
    · replace h := if_f b5 h
      cases h
def g166 (S : St) (v1 : Int) (v2 : Int) : Option (Int × St) := ob (g77 S v1 v2) (fun o1 => if o1.1 = 0 then some (0, (o1.2.2.o (lI o1.2.1))) else if o1.1 = 3 then some (1, o1.2.2) else none)
set_option maxRecDepth 100000 in
set_option maxHeartbeats 4000000 in
theorem g166_ok {S : St} {v1 : Int} {v2 : Int} {o : Int × St} (h : g166 S v1 v2 = some o) : Ru none 80 1999 166 (0, mn_pad (mn_ent [.ref 0, vI v1, vI v2, .ref 71]) 5, [], S.ns, Hp S) ((0, some (vI o.1)), o.2.ns, Hp o.2) := by
  unfold g166 at h
  show Ru none 80 1999 166 (0, [some (.ref 0), some (vI v1), some (vI v2), some (.ref 71), none], [], S.ns, Hp S) _
  refine Ru.op (q := (.aload_n 3, 1)) (S' := (1, _, _, _, _)) (by decide +kernel) rfl ?_
  refine Ru.kI (q := (.iconst 0, 1)) (c := 0) (pc' := 2) (by decide +kernel) rfl (by decide) rfl ?_
  refine Ru.op (q := (.aload_n 0, 1)) (S' := (3, _, _, _, _)) (by decide +kernel) rfl ?_
  refine Ru.op (q := (.iload_n 1, 1)) (S' := (4, _, _, _, _)) (by decide +kernel) rfl ?_
  refine Ru.op (q := (.iload_n 2, 1)) (S' := (5, _, _, _, _)) (by decide +kernel) rfl ?_
  obtain ⟨o1, e2, h⟩ := ob_some h
  have sp3 := g77_ok e2
  by_cases b4 : o1.1 = 0
  · replace h := if_t b4 h
    rw [b4] at sp3
    refine Ru.vcallI (pc' := 8) (st' := [vI o1.2.1, vI 0, .ref 71]) (i := 31) (j2 := 77) (ci := 0) (k := 0) (z := 0) (as := [vI v1, vI v2]) (by decide +kernel) (by decide +kernel) rfl rfl (hp0 _) (by decide) ⟨(Nat.le_of_ble_eq_true rfl), (by show 19 + 4 ≤ 1999; exact Nat.le_of_ble_eq_true rfl), Nat.le_of_ble_eq_true rfl, Nat.le_of_ble_eq_true rfl⟩ (sp3.up (Nat.le_of_ble_eq_true rfl) (Nat.le_of_ble_eq_true rfl)) rfl rfl ?_
    refine Ru.i2l (x := o1.2.1) (pc' := 9) (by decide +kernel) rfl ?_
    refine Ru.lst (S := o1.2.2) (pc' := 10) (by decide +kernel) rfl ?_
    refine Ru.op (q := (.goto 7, 3)) (S' := (17, _, _, _, _)) (by decide +kernel) rfl ?_
    refine Ru.kI (q := (.iconst 0, 1)) (c := 0) (pc' := 18) (by decide +kernel) rfl (by decide) rfl ?_
    cases h
    exact Ru.iret (by decide +kernel) rfl rfl
  · replace h := if_f b4 h
    by_cases b5 : o1.1 = 3
    · replace h := if_t b5 h
      rw [b5] at sp3
      refine Ru.vcatI (k := 2) (hp := 13) (i := 31) (j2 := 77) (ci := 0) (k0 := 0) (z := 0) (as := [vI v1, vI v2]) (by decide +kernel) (by decide +kernel) rfl rfl (hp0 _) (by decide) ⟨(Nat.le_of_ble_eq_true rfl), (by show 19 + 4 ≤ 1999; exact Nat.le_of_ble_eq_true rfl), Nat.le_of_ble_eq_true rfl, Nat.le_of_ble_eq_true rfl⟩ rfl (sp3.up (Nat.le_of_ble_eq_true rfl) (Nat.le_of_ble_eq_true rfl)) ?_
      refine Ru.op (q := (.astore 4, 2)) (S' := (15, [some (.ref 0), some (vI v1), some (vI v2), some (.ref 71), some (.ref ((Hp o1.2.2).length - 1))], [], _, _)) (by decide +kernel) rfl ?_
      refine Ru.kI (q := (.iconst 1, 1)) (c := 1) (pc' := 16) (by decide +kernel) rfl (by decide) rfl ?_
      cases h
      exact Ru.iret (by decide +kernel) rfl rfl
    · replace h := if_f b5 h
      cases h
def g167 (S : St) (v1 : Int) : Option (Int × St) := ob (g83 S v1) (fun o1 => if o1.1 = 0 then some (0, (o1.2.2.o (lI o1.2.1))) else if o1.1 = 3 then some (1, o1.2.2) else none)
set_option maxRecDepth 100000 in
set_option maxHeartbeats 4000000 in
theorem g167_ok {S : St} {v1 : Int} {o : Int × St} (h : g167 S v1 = some o) : Ru none 11 221 167 (0, mn_pad (mn_ent [.ref 0, vI v1, .ref 71]) 4, [], S.ns, Hp S) ((0, some (vI o.1)), o.2.ns, Hp o.2) := by
  unfold g167 at h
  show Ru none 11 221 167 (0, [some (.ref 0), some (vI v1), some (.ref 71), none], [], S.ns, Hp S) _
  refine Ru.op (q := (.aload_n 2, 1)) (S' := (1, _, _, _, _)) (by decide +kernel) rfl ?_
  refine Ru.kI (q := (.iconst 0, 1)) (c := 0) (pc' := 2) (by decide +kernel) rfl (by decide) rfl ?_
  refine Ru.op (q := (.aload_n 0, 1)) (S' := (3, _, _, _, _)) (by decide +kernel) rfl ?_
  refine Ru.op (q := (.iload_n 1, 1)) (S' := (4, _, _, _, _)) (by decide +kernel) rfl ?_
  obtain ⟨o1, e2, h⟩ := ob_some h
  have sp3 := g83_ok e2
  by_cases b4 : o1.1 = 0
  · replace h := if_t b4 h
    rw [b4] at sp3
    refine Ru.vcallI (pc' := 7) (st' := [vI o1.2.1, vI 0, .ref 71]) (i := 37) (j2 := 83) (ci := 0) (k := 0) (z := 0) (as := [vI v1]) (by decide +kernel) (by decide +kernel) rfl rfl (hp0 _) (by decide) ⟨(Nat.le_of_ble_eq_true rfl), (by show 19 + 2 ≤ 221; exact Nat.le_of_ble_eq_true rfl), Nat.le_of_ble_eq_true rfl, Nat.le_of_ble_eq_true rfl⟩ (sp3.up (Nat.le_of_ble_eq_true rfl) (Nat.le_of_ble_eq_true rfl)) rfl rfl ?_
    refine Ru.i2l (x := o1.2.1) (pc' := 8) (by decide +kernel) rfl ?_
    refine Ru.lst (S := o1.2.2) (pc' := 9) (by decide +kernel) rfl ?_
    refine Ru.op (q := (.goto 6, 3)) (S' := (15, _, _, _, _)) (by decide +kernel) rfl ?_
    refine Ru.kI (q := (.iconst 0, 1)) (c := 0) (pc' := 16) (by decide +kernel) rfl (by decide) rfl ?_
    cases h
    exact Ru.iret (by decide +kernel) rfl rfl
  · replace h := if_f b4 h
    by_cases b5 : o1.1 = 3
    · replace h := if_t b5 h
      rw [b5] at sp3
      refine Ru.vcatI (k := 2) (hp := 12) (i := 37) (j2 := 83) (ci := 0) (k0 := 0) (z := 0) (as := [vI v1]) (by decide +kernel) (by decide +kernel) rfl rfl (hp0 _) (by decide) ⟨(Nat.le_of_ble_eq_true rfl), (by show 19 + 2 ≤ 221; exact Nat.le_of_ble_eq_true rfl), Nat.le_of_ble_eq_true rfl, Nat.le_of_ble_eq_true rfl⟩ rfl (sp3.up (Nat.le_of_ble_eq_true rfl) (Nat.le_of_ble_eq_true rfl)) ?_
      refine Ru.op (q := (.astore_n 3, 1)) (S' := (13, [some (.ref 0), some (vI v1), some (.ref 71), some (.ref ((Hp o1.2.2).length - 1))], [], _, _)) (by decide +kernel) rfl ?_
      refine Ru.kI (q := (.iconst 1, 1)) (c := 1) (pc' := 14) (by decide +kernel) rfl (by decide) rfl ?_
      cases h
      exact Ru.iret (by decide +kernel) rfl rfl
    · replace h := if_f b5 h
      cases h
def g168 (S : St) (v1 : Int) (v2 : Int) : Option (Int × St) := ob (g84 S v1 v2) (fun o1 => if o1.1 = 0 then some (0, (o1.2.2.o (lI o1.2.1))) else if o1.1 = 3 then some (1, o1.2.2) else if o1.1 = 1 then some (2, o1.2.2) else none)
set_option maxRecDepth 100000 in
set_option maxHeartbeats 4000000 in
theorem g168_ok {S : St} {v1 : Int} {v2 : Int} {o : Int × St} (h : g168 S v1 v2 = some o) : Ru none 11 223 168 (0, mn_pad (mn_ent [.ref 0, vI v1, vI v2, .ref 71]) 5, [], S.ns, Hp S) ((0, some (vI o.1)), o.2.ns, Hp o.2) := by
  unfold g168 at h
  show Ru none 11 223 168 (0, [some (.ref 0), some (vI v1), some (vI v2), some (.ref 71), none], [], S.ns, Hp S) _
  refine Ru.op (q := (.aload_n 3, 1)) (S' := (1, _, _, _, _)) (by decide +kernel) rfl ?_
  refine Ru.kI (q := (.iconst 0, 1)) (c := 0) (pc' := 2) (by decide +kernel) rfl (by decide) rfl ?_
  refine Ru.op (q := (.aload_n 0, 1)) (S' := (3, _, _, _, _)) (by decide +kernel) rfl ?_
  refine Ru.op (q := (.iload_n 1, 1)) (S' := (4, _, _, _, _)) (by decide +kernel) rfl ?_
  refine Ru.op (q := (.iload_n 2, 1)) (S' := (5, _, _, _, _)) (by decide +kernel) rfl ?_
  obtain ⟨o1, e2, h⟩ := ob_some h
  have sp3 := g84_ok e2
  by_cases b4 : o1.1 = 0
  · replace h := if_t b4 h
    rw [b4] at sp3
    refine Ru.vcallI (pc' := 8) (st' := [vI o1.2.1, vI 0, .ref 71]) (i := 41) (j2 := 84) (ci := 0) (k := 0) (z := 0) (as := [vI v1, vI v2]) (by decide +kernel) (by decide +kernel) rfl rfl (hp0 _) (by decide) ⟨(Nat.le_of_ble_eq_true rfl), (by show 19 + 4 ≤ 223; exact Nat.le_of_ble_eq_true rfl), Nat.le_of_ble_eq_true rfl, Nat.le_of_ble_eq_true rfl⟩ (sp3.up (Nat.le_of_ble_eq_true rfl) (Nat.le_of_ble_eq_true rfl)) rfl rfl ?_
    refine Ru.i2l (x := o1.2.1) (pc' := 9) (by decide +kernel) rfl ?_
    refine Ru.lst (S := o1.2.2) (pc' := 10) (by decide +kernel) rfl ?_
    refine Ru.op (q := (.goto 11, 3)) (S' := (21, _, _, _, _)) (by decide +kernel) rfl ?_
    refine Ru.kI (q := (.iconst 0, 1)) (c := 0) (pc' := 22) (by decide +kernel) rfl (by decide) rfl ?_
    cases h
    exact Ru.iret (by decide +kernel) rfl rfl
  · replace h := if_f b4 h
    by_cases b5 : o1.1 = 3
    · replace h := if_t b5 h
      rw [b5] at sp3
      refine Ru.vcatI (k := 2) (hp := 13) (i := 41) (j2 := 84) (ci := 0) (k0 := 0) (z := 0) (as := [vI v1, vI v2]) (by decide +kernel) (by decide +kernel) rfl rfl (hp0 _) (by decide) ⟨(Nat.le_of_ble_eq_true rfl), (by show 19 + 4 ≤ 223; exact Nat.le_of_ble_eq_true rfl), Nat.le_of_ble_eq_true rfl, Nat.le_of_ble_eq_true rfl⟩ rfl (sp3.up (Nat.le_of_ble_eq_true rfl) (Nat.le_of_ble_eq_true rfl)) ?_
      refine Ru.op (q := (.astore 4, 2)) (S' := (15, [some (.ref 0), some (vI v1), some (vI v2), some (.ref 71), some (.ref ((Hp o1.2.2).length - 1))], [], _, _)) (by decide +kernel) rfl ?_
      refine Ru.kI (q := (.iconst 1, 1)) (c := 1) (pc' := 16) (by decide +kernel) rfl (by decide) rfl ?_
      cases h
      exact Ru.iret (by decide +kernel) rfl rfl
    · replace h := if_f b5 h
      by_cases b6 : o1.1 = 1
      · replace h := if_t b6 h
        rw [b6] at sp3
        refine Ru.vcatI (k := 0) (hp := 17) (i := 41) (j2 := 84) (ci := 0) (k0 := 0) (z := 0) (as := [vI v1, vI v2]) (by decide +kernel) (by decide +kernel) rfl rfl (hp0 _) (by decide) ⟨(Nat.le_of_ble_eq_true rfl), (by show 19 + 4 ≤ 223; exact Nat.le_of_ble_eq_true rfl), Nat.le_of_ble_eq_true rfl, Nat.le_of_ble_eq_true rfl⟩ rfl (sp3.up (Nat.le_of_ble_eq_true rfl) (Nat.le_of_ble_eq_true rfl)) ?_
        refine Ru.op (q := (.astore 4, 2)) (S' := (19, [some (.ref 0), some (vI v1), some (vI v2), some (.ref 71), some (.ref ((Hp o1.2.2).length - 1))], [], _, _)) (by decide +kernel) rfl ?_
        refine Ru.kI (q := (.iconst 2, 1)) (c := 2) (pc' := 20) (by decide +kernel) rfl (by decide) rfl ?_
        cases h
        exact Ru.iret (by decide +kernel) rfl rfl
      · replace h := if_f b6 h
        cases h
def g169 (S : St) (v1 : Int) (v2 : Int) : Option (Int × St) := ob (g85 S v1 v2) (fun o1 => if o1.1 = 0 then gd (inR o1.2.1) (if o1.2.1 = 0 then some (0, (o1.2.2.o 0)) else some (0, (o1.2.2.o 1))) else if o1.1 = 3 then some (1, o1.2.2) else none)
set_option maxRecDepth 100000 in
set_option maxHeartbeats 4000000 in
theorem g169_ok {S : St} {v1 : Int} {v2 : Int} {o : Int × St} (h : g169 S v1 v2 = some o) : Ru none 14 300 169 (0, mn_pad (mn_ent [.ref 0, vI v1, vI v2, .ref 71]) 5, [], S.ns, Hp S) ((0, some (vI o.1)), o.2.ns, Hp o.2) := by
  unfold g169 at h
  show Ru none 14 300 169 (0, [some (.ref 0), some (vI v1), some (vI v2), some (.ref 71), none], [], S.ns, Hp S) _
  refine Ru.op (q := (.aload_n 3, 1)) (S' := (1, _, _, _, _)) (by decide +kernel) rfl ?_
  refine Ru.kI (q := (.iconst 0, 1)) (c := 0) (pc' := 2) (by decide +kernel) rfl (by decide) rfl ?_
  refine Ru.op (q := (.aload_n 0, 1)) (S' := (3, _, _, _, _)) (by decide +kernel) rfl ?_
  refine Ru.op (q := (.iload_n 1, 1)) (S' := (4, _, _, _, _)) (by decide +kernel) rfl ?_
  refine Ru.op (q := (.iload_n 2, 1)) (S' := (5, _, _, _, _)) (by decide +kernel) rfl ?_
  obtain ⟨o1, e2, h⟩ := ob_some h
  have sp3 := g85_ok e2
  by_cases b4 : o1.1 = 0
  · replace h := if_t b4 h
    rw [b4] at sp3
    refine Ru.vcallI (pc' := 8) (st' := [vI o1.2.1, vI 0, .ref 71]) (i := 45) (j2 := 85) (ci := 0) (k := 0) (z := 0) (as := [vI v1, vI v2]) (by decide +kernel) (by decide +kernel) rfl rfl (hp0 _) (by decide) ⟨(Nat.le_of_ble_eq_true rfl), (by show 19 + 3 ≤ 300; exact Nat.le_of_ble_eq_true rfl), Nat.le_of_ble_eq_true rfl, Nat.le_of_ble_eq_true rfl⟩ (sp3.up (Nat.le_of_ble_eq_true rfl) (Nat.le_of_ble_eq_true rfl)) rfl rfl ?_
    obtain ⟨g5, h⟩ := gd_some h
    by_cases b6 : o1.2.1 = 0
    · replace h := if_t b6 h
      refine Ru.br (k := .eq) (off := 7) (bb := true) (tg := 15) (by decide +kernel) (by decide +kernel) (cz (ci_eq1 g5 (by decide) b6)) rfl ?_
      refine Ru.op (q := (.lconst 0, 1)) (S' := (16, _, _, _, _)) (by decide +kernel) rfl ?_
      refine Ru.lst (S := o1.2.2) (pc' := 17) (by decide +kernel) rfl ?_
      refine Ru.op (q := (.goto 7, 3)) (S' := (24, _, _, _, _)) (by decide +kernel) rfl ?_
      refine Ru.kI (q := (.iconst 0, 1)) (c := 0) (pc' := 25) (by decide +kernel) rfl (by decide) rfl ?_
      cases h
      exact Ru.iret (by decide +kernel) rfl rfl
    · replace h := if_f b6 h
      refine Ru.br (k := .eq) (off := 7) (bb := false) (tg := 11) (by decide +kernel) (by decide +kernel) (cz (ci_eq0 g5 (by decide) b6)) rfl ?_
      refine Ru.op (q := (.lconst 1, 1)) (S' := (12, _, _, _, _)) (by decide +kernel) rfl ?_
      refine Ru.op (q := (.goto 4, 3)) (S' := (16, _, _, _, _)) (by decide +kernel) rfl ?_
      refine Ru.lst (S := o1.2.2) (pc' := 17) (by decide +kernel) rfl ?_
      refine Ru.op (q := (.goto 7, 3)) (S' := (24, _, _, _, _)) (by decide +kernel) rfl ?_
      refine Ru.kI (q := (.iconst 0, 1)) (c := 0) (pc' := 25) (by decide +kernel) rfl (by decide) rfl ?_
      cases h
      exact Ru.iret (by decide +kernel) rfl rfl
  · replace h := if_f b4 h
    by_cases b7 : o1.1 = 3
    · replace h := if_t b7 h
      rw [b7] at sp3
      refine Ru.vcatI (k := 2) (hp := 20) (i := 45) (j2 := 85) (ci := 0) (k0 := 0) (z := 0) (as := [vI v1, vI v2]) (by decide +kernel) (by decide +kernel) rfl rfl (hp0 _) (by decide) ⟨(Nat.le_of_ble_eq_true rfl), (by show 19 + 3 ≤ 300; exact Nat.le_of_ble_eq_true rfl), Nat.le_of_ble_eq_true rfl, Nat.le_of_ble_eq_true rfl⟩ rfl (sp3.up (Nat.le_of_ble_eq_true rfl) (Nat.le_of_ble_eq_true rfl)) ?_
      refine Ru.op (q := (.astore 4, 2)) (S' := (22, [some (.ref 0), some (vI v1), some (vI v2), some (.ref 71), some (.ref ((Hp o1.2.2).length - 1))], [], _, _)) (by decide +kernel) rfl ?_
      refine Ru.kI (q := (.iconst 1, 1)) (c := 1) (pc' := 23) (by decide +kernel) rfl (by decide) rfl ?_
      cases h
      exact Ru.iret (by decide +kernel) rfl rfl
    · replace h := if_f b7 h
      cases h
def g170 (S : St) (v1 : Int) (v2 : Int) (v3 : Int) (v4 : Int) : Option (Int × St) := ob (g86 S v1 v2 v3 v4) (fun o1 => if o1.1 = 0 then some (0, (o1.2.2.o (lI o1.2.1))) else if o1.1 = 1 then some (1, o1.2.2) else if o1.1 = 3 then some (2, o1.2.2) else if o1.1 = 2 then some (3, o1.2.2) else none)
set_option maxRecDepth 100000 in
set_option maxHeartbeats 4000000 in
theorem g170_ok {S : St} {v1 : Int} {v2 : Int} {v3 : Int} {v4 : Int} {o : Int × St} (h : g170 S v1 v2 v3 v4 = some o) : Ru none 145 4006 170 (0, mn_pad (mn_ent [.ref 0, vI v1, vI v2, vI v3, vI v4, .ref 71]) 7, [], S.ns, Hp S) ((0, some (vI o.1)), o.2.ns, Hp o.2) := by
  unfold g170 at h
  show Ru none 145 4006 170 (0, [some (.ref 0), some (vI v1), some (vI v2), some (vI v3), some (vI v4), some (.ref 71), none], [], S.ns, Hp S) _
  refine Ru.op (q := (.aload 5, 2)) (S' := (2, _, _, _, _)) (by decide +kernel) rfl ?_
  refine Ru.kI (q := (.iconst 0, 1)) (c := 0) (pc' := 3) (by decide +kernel) rfl (by decide) rfl ?_
  refine Ru.op (q := (.aload_n 0, 1)) (S' := (4, _, _, _, _)) (by decide +kernel) rfl ?_
  refine Ru.op (q := (.iload_n 1, 1)) (S' := (5, _, _, _, _)) (by decide +kernel) rfl ?_
  refine Ru.op (q := (.iload_n 2, 1)) (S' := (6, _, _, _, _)) (by decide +kernel) rfl ?_
  refine Ru.op (q := (.iload_n 3, 1)) (S' := (7, _, _, _, _)) (by decide +kernel) rfl ?_
  refine Ru.op (q := (.iload 4, 2)) (S' := (9, _, _, _, _)) (by decide +kernel) rfl ?_
  obtain ⟨o1, e2, h⟩ := ob_some h
  have sp3 := g86_ok e2
  by_cases b4 : o1.1 = 0
  · replace h := if_t b4 h
    rw [b4] at sp3
    refine Ru.vcallI (pc' := 12) (st' := [vI o1.2.1, vI 0, .ref 71]) (i := 49) (j2 := 86) (ci := 0) (k := 0) (z := 0) (as := [vI v1, vI v2, vI v3, vI v4]) (by decide +kernel) (by decide +kernel) rfl rfl (hp0 _) (by decide) ⟨(Nat.le_of_ble_eq_true rfl), (by show 19 + 6 ≤ 4006; exact Nat.le_of_ble_eq_true rfl), Nat.le_of_ble_eq_true rfl, Nat.le_of_ble_eq_true rfl⟩ (sp3.up (Nat.le_of_ble_eq_true rfl) (Nat.le_of_ble_eq_true rfl)) rfl rfl ?_
    refine Ru.i2l (x := o1.2.1) (pc' := 13) (by decide +kernel) rfl ?_
    refine Ru.lst (S := o1.2.2) (pc' := 14) (by decide +kernel) rfl ?_
    refine Ru.op (q := (.goto 15, 3)) (S' := (29, _, _, _, _)) (by decide +kernel) rfl ?_
    refine Ru.kI (q := (.iconst 0, 1)) (c := 0) (pc' := 30) (by decide +kernel) rfl (by decide) rfl ?_
    cases h
    exact Ru.iret (by decide +kernel) rfl rfl
  · replace h := if_f b4 h
    by_cases b5 : o1.1 = 1
    · replace h := if_t b5 h
      rw [b5] at sp3
      refine Ru.vcatI (k := 0) (hp := 17) (i := 49) (j2 := 86) (ci := 0) (k0 := 0) (z := 0) (as := [vI v1, vI v2, vI v3, vI v4]) (by decide +kernel) (by decide +kernel) rfl rfl (hp0 _) (by decide) ⟨(Nat.le_of_ble_eq_true rfl), (by show 19 + 6 ≤ 4006; exact Nat.le_of_ble_eq_true rfl), Nat.le_of_ble_eq_true rfl, Nat.le_of_ble_eq_true rfl⟩ rfl (sp3.up (Nat.le_of_ble_eq_true rfl) (Nat.le_of_ble_eq_true rfl)) ?_
      refine Ru.op (q := (.astore 6, 2)) (S' := (19, [some (.ref 0), some (vI v1), some (vI v2), some (vI v3), some (vI v4), some (.ref 71), some (.ref ((Hp o1.2.2).length - 1))], [], _, _)) (by decide +kernel) rfl ?_
      refine Ru.kI (q := (.iconst 1, 1)) (c := 1) (pc' := 20) (by decide +kernel) rfl (by decide) rfl ?_
      cases h
      exact Ru.iret (by decide +kernel) rfl rfl
    · replace h := if_f b5 h
      by_cases b6 : o1.1 = 3
      · replace h := if_t b6 h
        rw [b6] at sp3
        refine Ru.vcatI (k := 2) (hp := 21) (i := 49) (j2 := 86) (ci := 0) (k0 := 0) (z := 0) (as := [vI v1, vI v2, vI v3, vI v4]) (by decide +kernel) (by decide +kernel) rfl rfl (hp0 _) (by decide) ⟨(Nat.le_of_ble_eq_true rfl), (by show 19 + 6 ≤ 4006; exact Nat.le_of_ble_eq_true rfl), Nat.le_of_ble_eq_true rfl, Nat.le_of_ble_eq_true rfl⟩ rfl (sp3.up (Nat.le_of_ble_eq_true rfl) (Nat.le_of_ble_eq_true rfl)) ?_
        refine Ru.op (q := (.astore 6, 2)) (S' := (23, [some (.ref 0), some (vI v1), some (vI v2), some (vI v3), some (vI v4), some (.ref 71), some (.ref ((Hp o1.2.2).length - 1))], [], _, _)) (by decide +kernel) rfl ?_
        refine Ru.kI (q := (.iconst 2, 1)) (c := 2) (pc' := 24) (by decide +kernel) rfl (by decide) rfl ?_
        cases h
        exact Ru.iret (by decide +kernel) rfl rfl
      · replace h := if_f b6 h
        by_cases b7 : o1.1 = 2
        · replace h := if_t b7 h
          rw [b7] at sp3
          refine Ru.vcatI (k := 1) (hp := 25) (i := 49) (j2 := 86) (ci := 0) (k0 := 0) (z := 0) (as := [vI v1, vI v2, vI v3, vI v4]) (by decide +kernel) (by decide +kernel) rfl rfl (hp0 _) (by decide) ⟨(Nat.le_of_ble_eq_true rfl), (by show 19 + 6 ≤ 4006; exact Nat.le_of_ble_eq_true rfl), Nat.le_of_ble_eq_true rfl, Nat.le_of_ble_eq_true rfl⟩ rfl (sp3.up (Nat.le_of_ble_eq_true rfl) (Nat.le_of_ble_eq_true rfl)) ?_
          refine Ru.op (q := (.astore 6, 2)) (S' := (27, [some (.ref 0), some (vI v1), some (vI v2), some (vI v3), some (vI v4), some (.ref 71), some (.ref ((Hp o1.2.2).length - 1))], [], _, _)) (by decide +kernel) rfl ?_
          refine Ru.kI (q := (.iconst 3, 1)) (c := 3) (pc' := 28) (by decide +kernel) rfl (by decide) rfl ?_
          cases h
          exact Ru.iret (by decide +kernel) rfl rfl
        · replace h := if_f b7 h
          cases h
def g171 (S : St) (v1 : Int) : Option (Int × St) := ob (g92 S v1) (fun o1 => if o1.1 = 0 then some (0, (o1.2.2.o (lI o1.2.1))) else if o1.1 = 1 then some (1, o1.2.2) else none)
set_option maxRecDepth 100000 in
set_option maxHeartbeats 4000000 in
theorem g171_ok {S : St} {v1 : Int} {o : Int × St} (h : g171 S v1 = some o) : Ru none 12 244 171 (0, mn_pad (mn_ent [.ref 0, vI v1, .ref 71]) 4, [], S.ns, Hp S) ((0, some (vI o.1)), o.2.ns, Hp o.2) := by
  unfold g171 at h
  show Ru none 12 244 171 (0, [some (.ref 0), some (vI v1), some (.ref 71), none], [], S.ns, Hp S) _
  refine Ru.op (q := (.aload_n 2, 1)) (S' := (1, _, _, _, _)) (by decide +kernel) rfl ?_
  refine Ru.kI (q := (.iconst 0, 1)) (c := 0) (pc' := 2) (by decide +kernel) rfl (by decide) rfl ?_
  refine Ru.op (q := (.aload_n 0, 1)) (S' := (3, _, _, _, _)) (by decide +kernel) rfl ?_
  refine Ru.op (q := (.iload_n 1, 1)) (S' := (4, _, _, _, _)) (by decide +kernel) rfl ?_
  obtain ⟨o1, e2, h⟩ := ob_some h
  have sp3 := g92_ok e2
  by_cases b4 : o1.1 = 0
  · replace h := if_t b4 h
    rw [b4] at sp3
    refine Ru.vcallI (pc' := 7) (st' := [vI o1.2.1, vI 0, .ref 71]) (i := 53) (j2 := 92) (ci := 0) (k := 0) (z := 0) (as := [vI v1]) (by decide +kernel) (by decide +kernel) rfl rfl (hp0 _) (by decide) ⟨(Nat.le_of_ble_eq_true rfl), (by show 19 + 2 ≤ 244; exact Nat.le_of_ble_eq_true rfl), Nat.le_of_ble_eq_true rfl, Nat.le_of_ble_eq_true rfl⟩ (sp3.up (Nat.le_of_ble_eq_true rfl) (Nat.le_of_ble_eq_true rfl)) rfl rfl ?_
    refine Ru.i2l (x := o1.2.1) (pc' := 8) (by decide +kernel) rfl ?_
    refine Ru.lst (S := o1.2.2) (pc' := 9) (by decide +kernel) rfl ?_
    refine Ru.op (q := (.goto 6, 3)) (S' := (15, _, _, _, _)) (by decide +kernel) rfl ?_
    refine Ru.kI (q := (.iconst 0, 1)) (c := 0) (pc' := 16) (by decide +kernel) rfl (by decide) rfl ?_
    cases h
    exact Ru.iret (by decide +kernel) rfl rfl
  · replace h := if_f b4 h
    by_cases b5 : o1.1 = 1
    · replace h := if_t b5 h
      rw [b5] at sp3
      refine Ru.vcatI (k := 0) (hp := 12) (i := 53) (j2 := 92) (ci := 0) (k0 := 0) (z := 0) (as := [vI v1]) (by decide +kernel) (by decide +kernel) rfl rfl (hp0 _) (by decide) ⟨(Nat.le_of_ble_eq_true rfl), (by show 19 + 2 ≤ 244; exact Nat.le_of_ble_eq_true rfl), Nat.le_of_ble_eq_true rfl, Nat.le_of_ble_eq_true rfl⟩ rfl (sp3.up (Nat.le_of_ble_eq_true rfl) (Nat.le_of_ble_eq_true rfl)) ?_
      refine Ru.op (q := (.astore_n 3, 1)) (S' := (13, [some (.ref 0), some (vI v1), some (.ref 71), some (.ref ((Hp o1.2.2).length - 1))], [], _, _)) (by decide +kernel) rfl ?_
      refine Ru.kI (q := (.iconst 1, 1)) (c := 1) (pc' := 14) (by decide +kernel) rfl (by decide) rfl ?_
      cases h
      exact Ru.iret (by decide +kernel) rfl rfl
    · replace h := if_f b5 h
      cases h
