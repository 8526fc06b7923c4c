def g69L183 (rc : St → Int → Int → Int → Option (Int × St)) (v3 : Int) (v9 : Int) : Nat → Int → Int → Int → St → Option (Sum (St) (Int × St))
  | 0, _, _, _, _ => none
  | n + 1, v6, v7, v10, S => gd (inR v10) (gd (inR v9) (if v10 < v9 then ob (rc S v6 v7 (v3 + 1)) (fun o51 => gd (inR o51.1) (if o51.1 = 0 then some (.inr (0, o51.2)) else ob (g57 o51.2 21 v6 32) (fun o55 => ob (g57 o51.2 21 v7 32) (fun o57 => g69L183 rc v3 v9 n o55 o57 (v10 + 1) o51.2)))) else some (.inl S)))
set_option maxRecDepth 100000 in
set_option maxHeartbeats 4000000 in
theorem g69L183_ok {FR LO : Nat} {rc : St → Int → Int → Int → Option (Int × St)} (hF : 76 ≤ FR) (hL : 1979 ≤ LO) (hrc : ∀ {S : St} {v1 : Int} {v2 : Int} {v3 : Int} {o : Int × St}, rc S v1 v2 v3 = some o → Ru none FR LO 69 (0, mn_pad (mn_ent [.ref 20, vI v1, vI v2, vI v3]) 11, [], S.ns, Hp S) ((0, some (vI o.1)), o.2.ns, Hp o.2)) {v3 : Int} {v9 : Int} : ∀ (n : Nat) (v6 : Int) (v7 : Int) (v10 : Int) (S : St) (d1 d2 d4 d5 d8 : Option Value) (out : Sum (St) (Int × St)), g69L183 rc v3 v9 n v6 v7 v10 S = some out → ∀ r, (∀ o, out = .inl o → ∀ (e0 e1 e2 e3 e4 e5 e6 e7 e8 e9 e10 : Option Value), Ru none (FR + 1) (LO + 30) 69 (244, [e0, e1, e2, e3, e4, e5, e6, e7, e8, e9, e10], [], o.ns, Hp o) r) → (∀ o, out = .inr o → r = ((0, some (vI o.1)), o.2.ns, Hp o.2)) → Ru none (FR + 1) (LO + 30) 69 (183, [some (.ref 20), d1, d2, some (vI v3), d4, d5, some (vI v6), some (vI v7), d8, some (vI v9), some (vI v10)], [], S.ns, Hp S) r := by
  intro n
  induction n with
  | zero => intro v6 v7 v10 S d1 d2 d4 d5 d8 out h; cases h
  | succ n ih =>
    intro v6 v7 v10 S d1 d2 d4 d5 d8 out h r hk hr
    unfold g69L183 at h
    refine Ru.op (q := (.iload 10, 2)) (by decide +kernel) rfl ?_
    refine Ru.op (q := (.iload 9, 2)) (by decide +kernel) rfl ?_
    obtain ⟨g48, h⟩ := gd_some h
    obtain ⟨g49, h⟩ := gd_some h
    by_cases b50 : v10 < v9
    · replace h := if_t b50 h
      refine Ru.br2 (k := .ge) (off := 57) (bb := false) (tg := 190) (by decide +kernel) (by decide +kernel) (ci_ge0 g48 g49 b50) rfl ?_
      refine Ru.op (q := (.aload_n 0, 1)) (by decide +kernel) rfl ?_
      refine Ru.op (q := (.iload 6, 2)) (by decide +kernel) rfl ?_
      refine Ru.op (q := (.iload 7, 2)) (by decide +kernel) rfl ?_
      refine Ru.op (q := (.iload_n 3, 1)) (by decide +kernel) rfl ?_
      refine Ru.kI (q := (.iconst 1, 1)) (c := 1) (by decide +kernel) rfl (by decide) ?_
      refine Ru.ar2 (i := .iadd) (z := (v3 + 1)) (by decide +kernel) rfl (ar_add _ _) ?_
      obtain ⟨o51, e52, h⟩ := ob_some h
      refine Ru.vcall (i := 30) (j2 := 69) (as := [vI v6, vI v7, vI (v3 + 1)]) (by decide +kernel) (by rfl) rfl rfl (hp20 _) (by decide) ⟨(by omega), (by show 19 + 11 ≤ (LO + 30); omega), Nat.le_of_ble_eq_true rfl, Nat.le_of_ble_eq_true rfl⟩ ((hrc e52).up (by omega) (by show _ ≤ (LO + 30) - (19 + 11); omega)) ?_
      obtain ⟨g53, h⟩ := gd_some h
      by_cases b54 : o51.1 = 0
      · replace h := if_t b54 h
        refine Ru.br (k := .ne) (off := 5) (bb := false) (tg := 204) (by decide +kernel) (by decide +kernel) (cz (ci_ne0 g53 (by decide) b54)) rfl ?_
        refine Ru.kI (q := (.iconst 0, 1)) (c := 0) (by decide +kernel) rfl (by decide) ?_
        cases h
        have h9 := hr _ rfl
        subst h9
        exact Ru.iret (by decide +kernel) rfl (nar_b1 (by decide))
      · replace h := if_f b54 h
        refine Ru.br (k := .ne) (off := 5) (bb := true) (tg := 206) (by decide +kernel) (by decide +kernel) (cz (ci_ne1 g53 (by decide) b54)) rfl ?_
        refine Ru.op (q := (.aload_n 0, 1)) (by decide +kernel) rfl ?_
        refine Ru.get (i := 9) (v := .ref 21) (by decide +kernel) (by rfl) (hp20 _) (by decide) rfl ?_
        refine Ru.op (q := (.iload 6, 2)) (by decide +kernel) rfl ?_
        refine Ru.op (q := (.aload_n 0, 1)) (by decide +kernel) rfl ?_
        refine Ru.get (i := 9) (v := .ref 21) (by decide +kernel) (by rfl) (hp20 _) (by decide) rfl ?_
        refine Ru.lenI (N := 32) (z := 32) (by decide +kernel) (hp21 _) (by decide) (aI_len _ _) rfl ?_
        obtain ⟨o55, e56, h⟩ := ob_some h
        refine Ru.call (q := (.invokestatic 73, 3)) (j2 := 57) (as := [.ref 21, vI v6, vI 32]) (by decide +kernel) rfl rfl rfl rfl ⟨(by omega), (by show 19 + 5 ≤ (LO + 30); omega), Nat.le_of_ble_eq_true rfl, Nat.le_of_ble_eq_true rfl⟩ ((g57_ok e56).up (by omega) (by show _ ≤ (LO + 30) - (19 + 5); omega)) ?_
        refine Ru.op (q := (.istore 6, 2)) (S' := (222, [some (.ref 20), d1, d2, some (vI v3), d4, d5, some (vI o55), some (vI v7), d8, some (vI v9), some (vI v10)], [], _, _)) (by decide +kernel) rfl ?_
        refine Ru.op (q := (.aload_n 0, 1)) (by decide +kernel) rfl ?_
        refine Ru.get (i := 9) (v := .ref 21) (by decide +kernel) (by rfl) (hp20 _) (by decide) rfl ?_
        refine Ru.op (q := (.iload 7, 2)) (by decide +kernel) rfl ?_
        refine Ru.op (q := (.aload_n 0, 1)) (by decide +kernel) rfl ?_
        refine Ru.get (i := 9) (v := .ref 21) (by decide +kernel) (by rfl) (hp20 _) (by decide) rfl ?_
        refine Ru.lenI (N := 32) (z := 32) (by decide +kernel) (hp21 _) (by decide) (aI_len _ _) rfl ?_
        obtain ⟨o57, e58, h⟩ := ob_some h
        refine Ru.call (q := (.invokestatic 73, 3)) (j2 := 57) (as := [.ref 21, vI v7, vI 32]) (by decide +kernel) rfl rfl rfl rfl ⟨(by omega), (by show 19 + 5 ≤ (LO + 30); omega), Nat.le_of_ble_eq_true rfl, Nat.le_of_ble_eq_true rfl⟩ ((g57_ok e58).up (by omega) (by show _ ≤ (LO + 30) - (19 + 5); omega)) ?_
        refine Ru.op (q := (.istore 7, 2)) (S' := (238, [some (.ref 20), d1, d2, some (vI v3), d4, d5, some (vI o55), some (vI o57), d8, some (vI v9), some (vI v10)], [], _, _)) (by decide +kernel) rfl ?_
        refine Ru.inc (x := v10) (z := (v10 + 1)) (xs' := [some (.ref 20), d1, d2, some (vI v3), d4, d5, some (vI o55), some (vI o57), d8, some (vI v9), some (vI (v10 + 1))]) (by decide +kernel) rfl rfl rfl ?_
        refine Ru.op (q := (.goto (-58), 3)) (by decide +kernel) rfl ?_
        exact ih _ _ _ _ _ _ _ _ _ _ h r hk hr
    · replace h := if_f b50 h
      refine Ru.br2 (k := .ge) (off := 57) (bb := true) (tg := 244) (by decide +kernel) (by decide +kernel) (ci_ge1 g48 g49 b50) rfl ?_
      cases h
      exact hk _ rfl _ _ _ _ _ _ _ _ _ _ _
def g69b (rc : St → Int → Int → Int → Option (Int × St)) (S : St) (v1 : Int) (v2 : Int) (v3 : Int) : Option (Int × St) := ob (g70 S v1) (fun o1 => ob (g70 S v2) (fun o3 => gd (ixR o1 32) (if (S.A 21 o1) < 32768 then gd (inR o1) (if o1 = o1 then gd (ixR o3 32) (if (S.A 21 o1) = (S.A 21 o3) then some (1, S) else ob (g71 64 S (S.A 21 o1) o3 0) (fun o11 => gd (inR o11) (if o11 = 0 then gd (ixR ((S.A 21 o1) / 256) 32) (some (1, (S.a 22 ((S.A 21 o1) / 256) o3))) else some (0, S)))) else if (S.A 21 o1) = (S.A 21 o1) then some (1, S) else ob (g71 64 S (S.A 21 o1) o1 0) (fun o17 => gd (inR o17) (if o17 = 0 then gd (ixR ((S.A 21 o1) / 256) 32) (some (1, (S.a 22 ((S.A 21 o1) / 256) o1))) else some (0, S)))) else gd (inR o3) (gd (inR o1) (if o3 = o1 then gd (ixR o3 32) (if (S.A 21 o3) < 32768 then if (S.A 21 o3) = (S.A 21 o3) then some (1, S) else ob (g71 64 S (S.A 21 o3) o3 0) (fun o28 => gd (inR o28) (if o28 = 0 then gd (ixR ((S.A 21 o3) / 256) 32) (some (1, (S.a 22 ((S.A 21 o3) / 256) o3))) else some (0, S))) else gd (inR v3) (if v3 = 0 then if v3 < 40 then if (S.A 21 o3) = (S.A 21 o3) then obr (g69L183 rc v3 ((S.A 21 o3) % 256) FU (o3 + 1) (o3 + 1) 0 S) (fun o59 => some (1, o59)) else obr (g69L183 rc v3 ((S.A 21 o3) % 256) FU (o3 + 1) (o3 + 1) 0 S) (fun o72 => some (1, o72)) else some (0, S) else if v3 < 40 then if (S.A 21 o3) = (S.A 21 o3) then obr (g69L183 rc v3 ((S.A 21 o3) % 256) FU (o3 + 1) (o3 + 1) 0 S) (fun o87 => some (1, o87)) else some (0, S) else some (0, S))) else gd (ixR o3 32) (if (S.A 21 o3) < 32768 then if (S.A 21 o3) = (S.A 21 o1) then some (1, S) else ob (g71 64 S (S.A 21 o3) o1 0) (fun o103 => gd (inR o103) (if o103 = 0 then gd (ixR ((S.A 21 o3) / 256) 32) (some (1, (S.a 22 ((S.A 21 o3) / 256) o1))) else some (0, S))) else gd (inR v3) (if v3 = 0 then if v3 < 40 then if (S.A 21 o3) = (S.A 21 o1) then obr (g69L183 rc v3 ((S.A 21 o3) % 256) FU (o3 + 1) (o1 + 1) 0 S) (fun o112 => some (1, o112)) else obr (g69L183 rc v3 ((S.A 21 o3) % 256) FU (o3 + 1) (o1 + 1) 0 S) (fun o125 => some (1, o125)) else some (0, S) else if v3 < 40 then if (S.A 21 o3) = (S.A 21 o1) then obr (g69L183 rc v3 ((S.A 21 o3) % 256) FU (o3 + 1) (o1 + 1) 0 S) (fun o140 => some (1, o140)) else some (0, S) else some (0, S))))))))
set_option maxRecDepth 100000 in
set_option maxHeartbeats 4000000 in
theorem g69b_ok {FR LO : Nat} {rc : St → Int → Int → Int → Option (Int × St)} (hF : 76 ≤ FR) (hL : 1979 ≤ LO) (hrc : ∀ {S : St} {v1 : Int} {v2 : Int} {v3 : Int} {o : Int × St}, rc S v1 v2 v3 = some o → Ru none FR LO 69 (0, mn_pad (mn_ent [.ref 20, vI v1, vI v2, vI v3]) 11, [], S.ns, Hp S) ((0, some (vI o.1)), o.2.ns, Hp o.2)) {S : St} {v1 : Int} {v2 : Int} {v3 : Int} {o : Int × St} (h : g69b rc S v1 v2 v3 = some o) : Ru none (FR + 1) (LO + 30) 69 (0, mn_pad (mn_ent [.ref 20, vI v1, vI v2, vI v3]) 11, [], S.ns, Hp S) ((0, some (vI o.1)), o.2.ns, Hp o.2) := by
  unfold g69b at h
  show Ru none (FR + 1) (LO + 30) 69 (0, [some (.ref 20), some (vI v1), some (vI v2), some (vI v3), none, none, none, none, none, none, none], [], S.ns, Hp S) _
  refine Ru.op (q := (.aload_n 0, 1)) (by decide +kernel) rfl ?_
  refine Ru.op (q := (.iload_n 1, 1)) (by decide +kernel) rfl ?_
  obtain ⟨o1, e2, h⟩ := ob_some h
  refine Ru.vcall (i := 65) (j2 := 70) (as := [vI v1]) (by decide +kernel) (by rfl) rfl rfl (hp20 _) (by decide) ⟨(by omega), (by show 19 + 4 ≤ (LO + 30); omega), Nat.le_of_ble_eq_true rfl, Nat.le_of_ble_eq_true rfl⟩ ((g70_ok e2).up (by omega) (by show _ ≤ (LO + 30) - (19 + 4); omega)) ?_
  refine Ru.op (q := (.istore 4, 2)) (S' := (7, [some (.ref 20), some (vI v1), some (vI v2), some (vI v3), some (vI o1), none, none, none, none, none, none], [], _, _)) (by decide +kernel) rfl ?_
  refine Ru.op (q := (.aload_n 0, 1)) (by decide +kernel) rfl ?_
  refine Ru.op (q := (.iload_n 2, 1)) (by decide +kernel) rfl ?_
  obtain ⟨o3, e4, h⟩ := ob_some h
  refine Ru.vcall (i := 65) (j2 := 70) (as := [vI v2]) (by decide +kernel) (by rfl) rfl rfl (hp20 _) (by decide) ⟨(by omega), (by show 19 + 4 ≤ (LO + 30); omega), Nat.le_of_ble_eq_true rfl, Nat.le_of_ble_eq_true rfl⟩ ((g70_ok e4).up (by omega) (by show _ ≤ (LO + 30) - (19 + 4); omega)) ?_
  refine Ru.op (q := (.istore 5, 2)) (S' := (14, [some (.ref 20), some (vI v1), some (vI v2), some (vI v3), some (vI o1), some (vI o3), none, none, none, none, none], [], _, _)) (by decide +kernel) rfl ?_
  refine Ru.op (q := (.aload_n 0, 1)) (by decide +kernel) rfl ?_
  refine Ru.get (i := 9) (v := .ref 21) (by decide +kernel) (by rfl) (hp20 _) (by decide) rfl ?_
  refine Ru.op (q := (.iload 4, 2)) (by decide +kernel) rfl ?_
  obtain ⟨g5, h⟩ := gd_some h
  refine Ru.ildI (i := o1) (z := (S.A 21 o1)) (by decide +kernel) (hp21 _) g5 (eI_of _) ?_
  refine Ru.kI (q := (.ldc 50, 2)) (c := 32768) (by decide +kernel) rfl (by decide) ?_
  by_cases b6 : (S.A 21 o1) < 32768
  · replace h := if_t b6 h
    refine Ru.br2 (k := .ge) (off := 8) (bb := false) (tg := 26) (by decide +kernel) (by decide +kernel) (ci_ge0 (inR_to _) (by decide) b6) rfl ?_
    refine Ru.op (q := (.iload 4, 2)) (by decide +kernel) rfl ?_
    refine Ru.op (q := (.goto 5, 3)) (by decide +kernel) rfl ?_
    refine Ru.op (q := (.istore 6, 2)) (S' := (35, [some (.ref 20), some (vI v1), some (vI v2), some (vI v3), some (vI o1), some (vI o3), some (vI o1), none, none, none, none], [], _, _)) (by decide +kernel) rfl ?_
    refine Ru.op (q := (.iload 6, 2)) (by decide +kernel) rfl ?_
    refine Ru.op (q := (.iload 4, 2)) (by decide +kernel) rfl ?_
    obtain ⟨g7, h⟩ := gd_some h
    by_cases b8 : o1 = o1
    · replace h := if_t b8 h
      refine Ru.br2 (k := .ne) (off := 8) (bb := false) (tg := 42) (by decide +kernel) (by decide +kernel) (ci_ne0 g7 g7 b8) rfl ?_
      refine Ru.op (q := (.iload 5, 2)) (by decide +kernel) rfl ?_
      refine Ru.op (q := (.goto 5, 3)) (by decide +kernel) rfl ?_
      refine Ru.op (q := (.istore 7, 2)) (S' := (51, [some (.ref 20), some (vI v1), some (vI v2), some (vI v3), some (vI o1), some (vI o3), some (vI o1), some (vI o3), none, none, none], [], _, _)) (by decide +kernel) rfl ?_
      refine Ru.op (q := (.aload_n 0, 1)) (by decide +kernel) rfl ?_
      refine Ru.get (i := 9) (v := .ref 21) (by decide +kernel) (by rfl) (hp20 _) (by decide) rfl ?_
      refine Ru.op (q := (.iload 6, 2)) (by decide +kernel) rfl ?_
      refine Ru.ildI (i := o1) (z := (S.A 21 o1)) (by decide +kernel) (hp21 _) g5 (eI_of _) ?_
      refine Ru.kI (q := (.ldc 50, 2)) (c := 32768) (by decide +kernel) rfl (by decide) ?_
      refine Ru.br2 (k := .ge) (off := 60) (bb := false) (tg := 63) (by decide +kernel) (by decide +kernel) (ci_ge0 (inR_to _) (by decide) b6) rfl ?_
      refine Ru.op (q := (.aload_n 0, 1)) (by decide +kernel) rfl ?_
      refine Ru.get (i := 9) (v := .ref 21) (by decide +kernel) (by rfl) (hp20 _) (by decide) rfl ?_
      refine Ru.op (q := (.iload 6, 2)) (by decide +kernel) rfl ?_
      refine Ru.ildI (i := o1) (z := (S.A 21 o1)) (by decide +kernel) (hp21 _) g5 (eI_of _) ?_
      refine Ru.op (q := (.aload_n 0, 1)) (by decide +kernel) rfl ?_
      refine Ru.get (i := 9) (v := .ref 21) (by decide +kernel) (by rfl) (hp20 _) (by decide) rfl ?_
      refine Ru.op (q := (.iload 7, 2)) (by decide +kernel) rfl ?_
      obtain ⟨g9, h⟩ := gd_some h
      refine Ru.ildI (i := o3) (z := (S.A 21 o3)) (by decide +kernel) (hp21 _) g9 (eI_of _) ?_
      by_cases b10 : (S.A 21 o1) = (S.A 21 o3)
      · replace h := if_t b10 h
        refine Ru.br2 (k := .ne) (off := 5) (bb := false) (tg := 80) (by decide +kernel) (by decide +kernel) (ci_ne0 (inR_to _) (inR_to _) b10) rfl ?_
        refine Ru.kI (q := (.iconst 1, 1)) (c := 1) (by decide +kernel) rfl (by decide) ?_
        cases h
        exact Ru.iret (by decide +kernel) rfl (nar_b1 (by decide))
      · replace h := if_f b10 h
        refine Ru.br2 (k := .ne) (off := 5) (bb := true) (tg := 82) (by decide +kernel) (by decide +kernel) (ci_ne1 (inR_to _) (inR_to _) b10) rfl ?_
        refine Ru.op (q := (.aload_n 0, 1)) (by decide +kernel) rfl ?_
        refine Ru.op (q := (.aload_n 0, 1)) (by decide +kernel) rfl ?_
        refine Ru.get (i := 9) (v := .ref 21) (by decide +kernel) (by rfl) (hp20 _) (by decide) rfl ?_
        refine Ru.op (q := (.iload 6, 2)) (by decide +kernel) rfl ?_
        refine Ru.ildI (i := o1) (z := (S.A 21 o1)) (by decide +kernel) (hp21 _) g5 (eI_of _) ?_
        refine Ru.op (q := (.iload 7, 2)) (by decide +kernel) rfl ?_
        refine Ru.kI (q := (.iconst 0, 1)) (c := 0) (by decide +kernel) rfl (by decide) ?_
        obtain ⟨o11, e12, h⟩ := ob_some h
        refine Ru.vcall (i := 77) (j2 := 71) (as := [vI (S.A 21 o1), vI o3, vI 0]) (by decide +kernel) (by rfl) rfl rfl (hp20 _) (by decide) ⟨(by omega), (by show 19 + 8 ≤ (LO + 30); omega), Nat.le_of_ble_eq_true rfl, Nat.le_of_ble_eq_true rfl⟩ ((g71_ok 64 e12).up (by omega) (by show _ ≤ (LO + 30) - (19 + 8); omega)) ?_
        obtain ⟨g13, h⟩ := gd_some h
        by_cases b14 : o11 = 0
        · replace h := if_t b14 h
          refine Ru.br (k := .eq) (off := 5) (bb := true) (tg := 101) (by decide +kernel) (by decide +kernel) (cz (ci_eq1 g13 (by decide) b14)) rfl ?_
          refine Ru.op (q := (.aload_n 0, 1)) (by decide +kernel) rfl ?_
          refine Ru.get (i := 15) (v := .ref 22) (by decide +kernel) (by rfl) (hp20 _) (by decide) rfl ?_
          refine Ru.op (q := (.aload_n 0, 1)) (by decide +kernel) rfl ?_
          refine Ru.get (i := 9) (v := .ref 21) (by decide +kernel) (by rfl) (hp20 _) (by decide) rfl ?_
          refine Ru.op (q := (.iload 6, 2)) (by decide +kernel) rfl ?_
          refine Ru.ildI (i := o1) (z := (S.A 21 o1)) (by decide +kernel) (hp21 _) g5 (eI_of _) ?_
          refine Ru.kI (q := (.bipush 8, 2)) (c := 8) (by decide +kernel) rfl (by decide) ?_
          refine Ru.ar2 (i := .ishr) (z := ((S.A 21 o1) / 256)) (by decide +kernel) rfl (ar_shr (inR_to _)) ?_
          refine Ru.op (q := (.iload 7, 2)) (by decide +kernel) rfl ?_
          obtain ⟨g15, h⟩ := gd_some h
          refine Ru.istI (i := ((S.A 21 o1) / 256)) (x := o3) (by decide +kernel) (hp22 _) g15 (ps_22 _ _ _) ?_
          refine Ru.kI (q := (.iconst 1, 1)) (c := 1) (by decide +kernel) rfl (by decide) ?_
          cases h
          exact Ru.iret (by decide +kernel) rfl (nar_b1 (by decide))
        · replace h := if_f b14 h
          refine Ru.br (k := .eq) (off := 5) (bb := false) (tg := 99) (by decide +kernel) (by decide +kernel) (cz (ci_eq0 g13 (by decide) b14)) rfl ?_
          refine Ru.kI (q := (.iconst 0, 1)) (c := 0) (by decide +kernel) rfl (by decide) ?_
          cases h
          exact Ru.iret (by decide +kernel) rfl (nar_b1 (by decide))
    · replace h := if_f b8 h
      refine Ru.br2 (k := .ne) (off := 8) (bb := true) (tg := 47) (by decide +kernel) (by decide +kernel) (ci_ne1 g7 g7 b8) rfl ?_
      refine Ru.op (q := (.iload 4, 2)) (by decide +kernel) rfl ?_
      refine Ru.op (q := (.istore 7, 2)) (S' := (51, [some (.ref 20), some (vI v1), some (vI v2), some (vI v3), some (vI o1), some (vI o3), some (vI o1), some (vI o1), none, none, none], [], _, _)) (by decide +kernel) rfl ?_
      refine Ru.op (q := (.aload_n 0, 1)) (by decide +kernel) rfl ?_
      refine Ru.get (i := 9) (v := .ref 21) (by decide +kernel) (by rfl) (hp20 _) (by decide) rfl ?_
      refine Ru.op (q := (.iload 6, 2)) (by decide +kernel) rfl ?_
      refine Ru.ildI (i := o1) (z := (S.A 21 o1)) (by decide +kernel) (hp21 _) g5 (eI_of _) ?_
      refine Ru.kI (q := (.ldc 50, 2)) (c := 32768) (by decide +kernel) rfl (by decide) ?_
      refine Ru.br2 (k := .ge) (off := 60) (bb := false) (tg := 63) (by decide +kernel) (by decide +kernel) (ci_ge0 (inR_to _) (by decide) b6) rfl ?_
      refine Ru.op (q := (.aload_n 0, 1)) (by decide +kernel) rfl ?_
      refine Ru.get (i := 9) (v := .ref 21) (by decide +kernel) (by rfl) (hp20 _) (by decide) rfl ?_
      refine Ru.op (q := (.iload 6, 2)) (by decide +kernel) rfl ?_
      refine Ru.ildI (i := o1) (z := (S.A 21 o1)) (by decide +kernel) (hp21 _) g5 (eI_of _) ?_
      refine Ru.op (q := (.aload_n 0, 1)) (by decide +kernel) rfl ?_
      refine Ru.get (i := 9) (v := .ref 21) (by decide +kernel) (by rfl) (hp20 _) (by decide) rfl ?_
      refine Ru.op (q := (.iload 7, 2)) (by decide +kernel) rfl ?_
      refine Ru.ildI (i := o1) (z := (S.A 21 o1)) (by decide +kernel) (hp21 _) g5 (eI_of _) ?_
      by_cases b16 : (S.A 21 o1) = (S.A 21 o1)
      · replace h := if_t b16 h
        refine Ru.br2 (k := .ne) (off := 5) (bb := false) (tg := 80) (by decide +kernel) (by decide +kernel) (ci_ne0 (inR_to _) (inR_to _) b16) rfl ?_
        refine Ru.kI (q := (.iconst 1, 1)) (c := 1) (by decide +kernel) rfl (by decide) ?_
        cases h
        exact Ru.iret (by decide +kernel) rfl (nar_b1 (by decide))
      · replace h := if_f b16 h
        refine Ru.br2 (k := .ne) (off := 5) (bb := true) (tg := 82) (by decide +kernel) (by decide +kernel) (ci_ne1 (inR_to _) (inR_to _) b16) rfl ?_
        refine Ru.op (q := (.aload_n 0, 1)) (by decide +kernel) rfl ?_
        refine Ru.op (q := (.aload_n 0, 1)) (by decide +kernel) rfl ?_
        refine Ru.get (i := 9) (v := .ref 21) (by decide +kernel) (by rfl) (hp20 _) (by decide) rfl ?_
        refine Ru.op (q := (.iload 6, 2)) (by decide +kernel) rfl ?_
        refine Ru.ildI (i := o1) (z := (S.A 21 o1)) (by decide +kernel) (hp21 _) g5 (eI_of _) ?_
        refine Ru.op (q := (.iload 7, 2)) (by decide +kernel) rfl ?_
        refine Ru.kI (q := (.iconst 0, 1)) (c := 0) (by decide +kernel) rfl (by decide) ?_
        obtain ⟨o17, e18, h⟩ := ob_some h
        refine Ru.vcall (i := 77) (j2 := 71) (as := [vI (S.A 21 o1), vI o1, vI 0]) (by decide +kernel) (by rfl) rfl rfl (hp20 _) (by decide) ⟨(by omega), (by show 19 + 8 ≤ (LO + 30); omega), Nat.le_of_ble_eq_true rfl, Nat.le_of_ble_eq_true rfl⟩ ((g71_ok 64 e18).up (by omega) (by show _ ≤ (LO + 30) - (19 + 8); omega)) ?_
        obtain ⟨g19, h⟩ := gd_some h
        by_cases b20 : o17 = 0
        · replace h := if_t b20 h
          refine Ru.br (k := .eq) (off := 5) (bb := true) (tg := 101) (by decide +kernel) (by decide +kernel) (cz (ci_eq1 g19 (by decide) b20)) rfl ?_
          refine Ru.op (q := (.aload_n 0, 1)) (by decide +kernel) rfl ?_
          refine Ru.get (i := 15) (v := .ref 22) (by decide +kernel) (by rfl) (hp20 _) (by decide) rfl ?_
          refine Ru.op (q := (.aload_n 0, 1)) (by decide +kernel) rfl ?_
          refine Ru.get (i := 9) (v := .ref 21) (by decide +kernel) (by rfl) (hp20 _) (by decide) rfl ?_
          refine Ru.op (q := (.iload 6, 2)) (by decide +kernel) rfl ?_
          refine Ru.ildI (i := o1) (z := (S.A 21 o1)) (by decide +kernel) (hp21 _) g5 (eI_of _) ?_
          refine Ru.kI (q := (.bipush 8, 2)) (c := 8) (by decide +kernel) rfl (by decide) ?_
          refine Ru.ar2 (i := .ishr) (z := ((S.A 21 o1) / 256)) (by decide +kernel) rfl (ar_shr (inR_to _)) ?_
          refine Ru.op (q := (.iload 7, 2)) (by decide +kernel) rfl ?_
          obtain ⟨g21, h⟩ := gd_some h
          refine Ru.istI (i := ((S.A 21 o1) / 256)) (x := o1) (by decide +kernel) (hp22 _) g21 (ps_22 _ _ _) ?_
          refine Ru.kI (q := (.iconst 1, 1)) (c := 1) (by decide +kernel) rfl (by decide) ?_
          cases h
          exact Ru.iret (by decide +kernel) rfl (nar_b1 (by decide))
        · replace h := if_f b20 h
          refine Ru.br (k := .eq) (off := 5) (bb := false) (tg := 99) (by decide +kernel) (by decide +kernel) (cz (ci_eq0 g19 (by decide) b20)) rfl ?_
          refine Ru.kI (q := (.iconst 0, 1)) (c := 0) (by decide +kernel) rfl (by decide) ?_
          cases h
          exact Ru.iret (by decide +kernel) rfl (nar_b1 (by decide))
  · replace h := if_f b6 h
    refine Ru.br2 (k := .ge) (off := 8) (bb := true) (tg := 31) (by decide +kernel) (by decide +kernel) (ci_ge1 (inR_to _) (by decide) b6) rfl ?_
    refine Ru.op (q := (.iload 5, 2)) (by decide +kernel) rfl ?_
    refine Ru.op (q := (.istore 6, 2)) (S' := (35, [some (.ref 20), some (vI v1), some (vI v2), some (vI v3), some (vI o1), some (vI o3), some (vI o3), none, none, none, none], [], _, _)) (by decide +kernel) rfl ?_
    refine Ru.op (q := (.iload 6, 2)) (by decide +kernel) rfl ?_
    refine Ru.op (q := (.iload 4, 2)) (by decide +kernel) rfl ?_
    obtain ⟨g22, h⟩ := gd_some h
    obtain ⟨g23, h⟩ := gd_some h
    by_cases b24 : o3 = o1
    · replace h := if_t b24 h
      refine Ru.br2 (k := .ne) (off := 8) (bb := false) (tg := 42) (by decide +kernel) (by decide +kernel) (ci_ne0 g22 g23 b24) rfl ?_
      refine Ru.op (q := (.iload 5, 2)) (by decide +kernel) rfl ?_
      refine Ru.op (q := (.goto 5, 3)) (by decide +kernel) rfl ?_
      refine Ru.op (q := (.istore 7, 2)) (S' := (51, [some (.ref 20), some (vI v1), some (vI v2), some (vI v3), some (vI o1), some (vI o3), some (vI o3), some (vI o3), none, none, none], [], _, _)) (by decide +kernel) rfl ?_
      refine Ru.op (q := (.aload_n 0, 1)) (by decide +kernel) rfl ?_
      refine Ru.get (i := 9) (v := .ref 21) (by decide +kernel) (by rfl) (hp20 _) (by decide) rfl ?_
      refine Ru.op (q := (.iload 6, 2)) (by decide +kernel) rfl ?_
      obtain ⟨g25, h⟩ := gd_some h
      refine Ru.ildI (i := o3) (z := (S.A 21 o3)) (by decide +kernel) (hp21 _) g25 (eI_of _) ?_
      refine Ru.kI (q := (.ldc 50, 2)) (c := 32768) (by decide +kernel) rfl (by decide) ?_
      by_cases b26 : (S.A 21 o3) < 32768
      · replace h := if_t b26 h
        refine Ru.br2 (k := .ge) (off := 60) (bb := false) (tg := 63) (by decide +kernel) (by decide +kernel) (ci_ge0 (inR_to _) (by decide) b26) rfl ?_
        refine Ru.op (q := (.aload_n 0, 1)) (by decide +kernel) rfl ?_
        refine Ru.get (i := 9) (v := .ref 21) (by decide +kernel) (by rfl) (hp20 _) (by decide) rfl ?_
        refine Ru.op (q := (.iload 6, 2)) (by decide +kernel) rfl ?_
        refine Ru.ildI (i := o3) (z := (S.A 21 o3)) (by decide +kernel) (hp21 _) g25 (eI_of _) ?_
        refine Ru.op (q := (.aload_n 0, 1)) (by decide +kernel) rfl ?_
        refine Ru.get (i := 9) (v := .ref 21) (by decide +kernel) (by rfl) (hp20 _) (by decide) rfl ?_
        refine Ru.op (q := (.iload 7, 2)) (by decide +kernel) rfl ?_
        refine Ru.ildI (i := o3) (z := (S.A 21 o3)) (by decide +kernel) (hp21 _) g25 (eI_of _) ?_
        by_cases b27 : (S.A 21 o3) = (S.A 21 o3)
        · replace h := if_t b27 h
          refine Ru.br2 (k := .ne) (off := 5) (bb := false) (tg := 80) (by decide +kernel) (by decide +kernel) (ci_ne0 (inR_to _) (inR_to _) b27) rfl ?_
          refine Ru.kI (q := (.iconst 1, 1)) (c := 1) (by decide +kernel) rfl (by decide) ?_
          cases h
          exact Ru.iret (by decide +kernel) rfl (nar_b1 (by decide))
        · replace h := if_f b27 h
          refine Ru.br2 (k := .ne) (off := 5) (bb := true) (tg := 82) (by decide +kernel) (by decide +kernel) (ci_ne1 (inR_to _) (inR_to _) b27) rfl ?_
          refine Ru.op (q := (.aload_n 0, 1)) (by decide +kernel) rfl ?_
          refine Ru.op (q := (.aload_n 0, 1)) (by decide +kernel) rfl ?_
          refine Ru.get (i := 9) (v := .ref 21) (by decide +kernel) (by rfl) (hp20 _) (by decide) rfl ?_
          refine Ru.op (q := (.iload 6, 2)) (by decide +kernel) rfl ?_
          refine Ru.ildI (i := o3) (z := (S.A 21 o3)) (by decide +kernel) (hp21 _) g25 (eI_of _) ?_
          refine Ru.op (q := (.iload 7, 2)) (by decide +kernel) rfl ?_
          refine Ru.kI (q := (.iconst 0, 1)) (c := 0) (by decide +kernel) rfl (by decide) ?_
          obtain ⟨o28, e29, h⟩ := ob_some h
          refine Ru.vcall (i := 77) (j2 := 71) (as := [vI (S.A 21 o3), vI o3, vI 0]) (by decide +kernel) (by rfl) rfl rfl (hp20 _) (by decide) ⟨(by omega), (by show 19 + 8 ≤ (LO + 30); omega), Nat.le_of_ble_eq_true rfl, Nat.le_of_ble_eq_true rfl⟩ ((g71_ok 64 e29).up (by omega) (by show _ ≤ (LO + 30) - (19 + 8); omega)) ?_
          obtain ⟨g30, h⟩ := gd_some h
          by_cases b31 : o28 = 0
          · replace h := if_t b31 h
            refine Ru.br (k := .eq) (off := 5) (bb := true) (tg := 101) (by decide +kernel) (by decide +kernel) (cz (ci_eq1 g30 (by decide) b31)) rfl ?_
            refine Ru.op (q := (.aload_n 0, 1)) (by decide +kernel) rfl ?_
            refine Ru.get (i := 15) (v := .ref 22) (by decide +kernel) (by rfl) (hp20 _) (by decide) rfl ?_
            refine Ru.op (q := (.aload_n 0, 1)) (by decide +kernel) rfl ?_
            refine Ru.get (i := 9) (v := .ref 21) (by decide +kernel) (by rfl) (hp20 _) (by decide) rfl ?_
            refine Ru.op (q := (.iload 6, 2)) (by decide +kernel) rfl ?_
            refine Ru.ildI (i := o3) (z := (S.A 21 o3)) (by decide +kernel) (hp21 _) g25 (eI_of _) ?_
            refine Ru.kI (q := (.bipush 8, 2)) (c := 8) (by decide +kernel) rfl (by decide) ?_
            refine Ru.ar2 (i := .ishr) (z := ((S.A 21 o3) / 256)) (by decide +kernel) rfl (ar_shr (inR_to _)) ?_
            refine Ru.op (q := (.iload 7, 2)) (by decide +kernel) rfl ?_
            obtain ⟨g32, h⟩ := gd_some h
            refine Ru.istI (i := ((S.A 21 o3) / 256)) (x := o3) (by decide +kernel) (hp22 _) g32 (ps_22 _ _ _) ?_
            refine Ru.kI (q := (.iconst 1, 1)) (c := 1) (by decide +kernel) rfl (by decide) ?_
            cases h
            exact Ru.iret (by decide +kernel) rfl (nar_b1 (by decide))
          · replace h := if_f b31 h
            refine Ru.br (k := .eq) (off := 5) (bb := false) (tg := 99) (by decide +kernel) (by decide +kernel) (cz (ci_eq0 g30 (by decide) b31)) rfl ?_
            refine Ru.kI (q := (.iconst 0, 1)) (c := 0) (by decide +kernel) rfl (by decide) ?_
            cases h
            exact Ru.iret (by decide +kernel) rfl (nar_b1 (by decide))
      · replace h := if_f b26 h
        refine Ru.br2 (k := .ge) (off := 60) (bb := true) (tg := 120) (by decide +kernel) (by decide +kernel) (ci_ge1 (inR_to _) (by decide) b26) rfl ?_
        refine Ru.op (q := (.iload_n 3, 1)) (by decide +kernel) rfl ?_
        obtain ⟨g33, h⟩ := gd_some h
        by_cases b34 : v3 = 0
        · replace h := if_t b34 h
          refine Ru.br (k := .ne) (off := 7) (bb := false) (tg := 124) (by decide +kernel) (by decide +kernel) (cz (ci_ne0 g33 (by decide) b34)) rfl ?_
          refine Ru.kI (q := (.iconst 1, 1)) (c := 1) (by decide +kernel) rfl (by decide) ?_
          refine Ru.op (q := (.goto 4, 3)) (by decide +kernel) rfl ?_
          refine Ru.op (q := (.istore 8, 2)) (S' := (131, [some (.ref 20), some (vI v1), some (vI v2), some (vI v3), some (vI o1), some (vI o3), some (vI o3), some (vI o3), some (vI 1), none, none], [], _, _)) (by decide +kernel) rfl ?_
          refine Ru.op (q := (.iload_n 3, 1)) (by decide +kernel) rfl ?_
          refine Ru.kI (q := (.bipush 40, 2)) (c := 40) (by decide +kernel) rfl (by decide) ?_
          by_cases b35 : v3 < 40
          · replace h := if_t b35 h
            refine Ru.br2 (k := .ge) (off := 25) (bb := false) (tg := 137) (by decide +kernel) (by decide +kernel) (ci_ge0 g33 (by decide) b35) rfl ?_
            refine Ru.op (q := (.aload_n 0, 1)) (by decide +kernel) rfl ?_
            refine Ru.get (i := 9) (v := .ref 21) (by decide +kernel) (by rfl) (hp20 _) (by decide) rfl ?_
            refine Ru.op (q := (.iload 6, 2)) (by decide +kernel) rfl ?_
            refine Ru.ildI (i := o3) (z := (S.A 21 o3)) (by decide +kernel) (hp21 _) g25 (eI_of _) ?_
            refine Ru.op (q := (.aload_n 0, 1)) (by decide +kernel) rfl ?_
            refine Ru.get (i := 9) (v := .ref 21) (by decide +kernel) (by rfl) (hp20 _) (by decide) rfl ?_
            refine Ru.op (q := (.iload 7, 2)) (by decide +kernel) rfl ?_
            refine Ru.ildI (i := o3) (z := (S.A 21 o3)) (by decide +kernel) (hp21 _) g25 (eI_of _) ?_
            by_cases b36 : (S.A 21 o3) = (S.A 21 o3)
            · replace h := if_t b36 h
              refine Ru.br2 (k := .eq) (off := 10) (bb := true) (tg := 161) (by decide +kernel) (by decide +kernel) (ci_eq1 (inR_to _) (inR_to _) b36) rfl ?_
              refine Ru.op (q := (.aload_n 0, 1)) (by decide +kernel) rfl ?_
              refine Ru.get (i := 9) (v := .ref 21) (by decide +kernel) (by rfl) (hp20 _) (by decide) rfl ?_
              refine Ru.op (q := (.iload 6, 2)) (by decide +kernel) rfl ?_
              refine Ru.ildI (i := o3) (z := (S.A 21 o3)) (by decide +kernel) (hp21 _) g25 (eI_of _) ?_
              refine Ru.kI (q := (.sipush 255, 3)) (c := 255) (by decide +kernel) rfl (by decide) ?_
              refine Ru.ar2 (i := .iand) (z := ((S.A 21 o3) % 256)) (by decide +kernel) rfl (ar_and _) ?_
              refine Ru.op (q := (.istore 9, 2)) (S' := (174, [some (.ref 20), some (vI v1), some (vI v2), some (vI v3), some (vI o1), some (vI o3), some (vI o3), some (vI o3), some (vI 1), some (vI ((S.A 21 o3) % 256)), none], [], _, _)) (by decide +kernel) rfl ?_
              refine Ru.inc (x := o3) (z := (o3 + 1)) (xs' := [some (.ref 20), some (vI v1), some (vI v2), some (vI v3), some (vI o1), some (vI o3), some (vI (o3 + 1)), some (vI o3), some (vI 1), some (vI ((S.A 21 o3) % 256)), none]) (by decide +kernel) rfl rfl rfl ?_
              refine Ru.inc (x := o3) (z := (o3 + 1)) (xs' := [some (.ref 20), some (vI v1), some (vI v2), some (vI v3), some (vI o1), some (vI o3), some (vI (o3 + 1)), some (vI (o3 + 1)), some (vI 1), some (vI ((S.A 21 o3) % 256)), none]) (by decide +kernel) rfl rfl rfl ?_
              refine Ru.kI (q := (.iconst 0, 1)) (c := 0) (by decide +kernel) rfl (by decide) ?_
              refine Ru.op (q := (.istore 10, 2)) (S' := (183, [some (.ref 20), some (vI v1), some (vI v2), some (vI v3), some (vI o1), some (vI o3), some (vI (o3 + 1)), some (vI (o3 + 1)), some (vI 1), some (vI ((S.A 21 o3) % 256)), some (vI 0)], [], _, _)) (by decide +kernel) rfl ?_
              rcases obr_some h with ⟨o59, e71, h⟩ | e71
              · refine g69L183_ok hF hL hrc FU _ _ _ _ _ _ _ _ _ _ e71 _ (fun o' e' => ?_) (fun o' e' => by cases e')
                cases e'
                intro d60 d61 d62 d63 d64 d65 d66 d67 d68 d69 d70
                refine Ru.kI (q := (.iconst 1, 1)) (c := 1) (by decide +kernel) rfl (by decide) ?_
                cases h
                exact Ru.iret (by decide +kernel) rfl (nar_b1 (by decide))
              · exact g69L183_ok hF hL hrc FU _ _ _ _ _ _ _ _ _ _ e71 _ (fun o' e' => by cases e') (fun o' e' => by cases e'; rfl)
            · replace h := if_f b36 h
              refine Ru.br2 (k := .eq) (off := 10) (bb := false) (tg := 154) (by decide +kernel) (by decide +kernel) (ci_eq0 (inR_to _) (inR_to _) b36) rfl ?_
              refine Ru.op (q := (.iload 8, 2)) (by decide +kernel) rfl ?_
              refine Ru.br (k := .ne) (off := 5) (bb := true) (tg := 161) (by decide +kernel) (by decide +kernel) (by decide) rfl ?_
              refine Ru.op (q := (.aload_n 0, 1)) (by decide +kernel) rfl ?_
              refine Ru.get (i := 9) (v := .ref 21) (by decide +kernel) (by rfl) (hp20 _) (by decide) rfl ?_
              refine Ru.op (q := (.iload 6, 2)) (by decide +kernel) rfl ?_
              refine Ru.ildI (i := o3) (z := (S.A 21 o3)) (by decide +kernel) (hp21 _) g25 (eI_of _) ?_
              refine Ru.kI (q := (.sipush 255, 3)) (c := 255) (by decide +kernel) rfl (by decide) ?_
              refine Ru.ar2 (i := .iand) (z := ((S.A 21 o3) % 256)) (by decide +kernel) rfl (ar_and _) ?_
              refine Ru.op (q := (.istore 9, 2)) (S' := (174, [some (.ref 20), some (vI v1), some (vI v2), some (vI v3), some (vI o1), some (vI o3), some (vI o3), some (vI o3), some (vI 1), some (vI ((S.A 21 o3) % 256)), none], [], _, _)) (by decide +kernel) rfl ?_
              refine Ru.inc (x := o3) (z := (o3 + 1)) (xs' := [some (.ref 20), some (vI v1), some (vI v2), some (vI v3), some (vI o1), some (vI o3), some (vI (o3 + 1)), some (vI o3), some (vI 1), some (vI ((S.A 21 o3) % 256)), none]) (by decide +kernel) rfl rfl rfl ?_
              refine Ru.inc (x := o3) (z := (o3 + 1)) (xs' := [some (.ref 20), some (vI v1), some (vI v2), some (vI v3), some (vI o1), some (vI o3), some (vI (o3 + 1)), some (vI (o3 + 1)), some (vI 1), some (vI ((S.A 21 o3) % 256)), none]) (by decide +kernel) rfl rfl rfl ?_
              refine Ru.kI (q := (.iconst 0, 1)) (c := 0) (by decide +kernel) rfl (by decide) ?_
              refine Ru.op (q := (.istore 10, 2)) (S' := (183, [some (.ref 20), some (vI v1), some (vI v2), some (vI v3), some (vI o1), some (vI o3), some (vI (o3 + 1)), some (vI (o3 + 1)), some (vI 1), some (vI ((S.A 21 o3) % 256)), some (vI 0)], [], _, _)) (by decide +kernel) rfl ?_
              rcases obr_some h with ⟨o72, e84, h⟩ | e84
              · refine g69L183_ok hF hL hrc FU _ _ _ _ _ _ _ _ _ _ e84 _ (fun o' e' => ?_) (fun o' e' => by cases e')
                cases e'
                intro d73 d74 d75 d76 d77 d78 d79 d80 d81 d82 d83
                refine Ru.kI (q := (.iconst 1, 1)) (c := 1) (by decide +kernel) rfl (by decide) ?_
                cases h
                exact Ru.iret (by decide +kernel) rfl (nar_b1 (by decide))
              · exact g69L183_ok hF hL hrc FU _ _ _ _ _ _ _ _ _ _ e84 _ (fun o' e' => by cases e') (fun o' e' => by cases e'; rfl)
          · replace h := if_f b35 h
            refine Ru.br2 (k := .ge) (off := 25) (bb := true) (tg := 159) (by decide +kernel) (by decide +kernel) (ci_ge1 g33 (by decide) b35) rfl ?_
            refine Ru.kI (q := (.iconst 0, 1)) (c := 0) (by decide +kernel) rfl (by decide) ?_
            cases h
            exact Ru.iret (by decide +kernel) rfl (nar_b1 (by decide))
        · replace h := if_f b34 h
          refine Ru.br (k := .ne) (off := 7) (bb := true) (tg := 128) (by decide +kernel) (by decide +kernel) (cz (ci_ne1 g33 (by decide) b34)) rfl ?_
          refine Ru.kI (q := (.iconst 0, 1)) (c := 0) (by decide +kernel) rfl (by decide) ?_
          refine Ru.op (q := (.istore 8, 2)) (S' := (131, [some (.ref 20), some (vI v1), some (vI v2), some (vI v3), some (vI o1), some (vI o3), some (vI o3), some (vI o3), some (vI 0), none, none], [], _, _)) (by decide +kernel) rfl ?_
          refine Ru.op (q := (.iload_n 3, 1)) (by decide +kernel) rfl ?_
          refine Ru.kI (q := (.bipush 40, 2)) (c := 40) (by decide +kernel) rfl (by decide) ?_
          by_cases b85 : v3 < 40
          · replace h := if_t b85 h
            refine Ru.br2 (k := .ge) (off := 25) (bb := false) (tg := 137) (by decide +kernel) (by decide +kernel) (ci_ge0 g33 (by decide) b85) rfl ?_
            refine Ru.op (q := (.aload_n 0, 1)) (by decide +kernel) rfl ?_
            refine Ru.get (i := 9) (v := .ref 21) (by decide +kernel) (by rfl) (hp20 _) (by decide) rfl ?_
            refine Ru.op (q := (.iload 6, 2)) (by decide +kernel) rfl ?_
            refine Ru.ildI (i := o3) (z := (S.A 21 o3)) (by decide +kernel) (hp21 _) g25 (eI_of _) ?_
            refine Ru.op (q := (.aload_n 0, 1)) (by decide +kernel) rfl ?_
            refine Ru.get (i := 9) (v := .ref 21) (by decide +kernel) (by rfl) (hp20 _) (by decide) rfl ?_
            refine Ru.op (q := (.iload 7, 2)) (by decide +kernel) rfl ?_
            refine Ru.ildI (i := o3) (z := (S.A 21 o3)) (by decide +kernel) (hp21 _) g25 (eI_of _) ?_
            by_cases b86 : (S.A 21 o3) = (S.A 21 o3)
            · replace h := if_t b86 h
              refine Ru.br2 (k := .eq) (off := 10) (bb := true) (tg := 161) (by decide +kernel) (by decide +kernel) (ci_eq1 (inR_to _) (inR_to _) b86) rfl ?_
              refine Ru.op (q := (.aload_n 0, 1)) (by decide +kernel) rfl ?_
              refine Ru.get (i := 9) (v := .ref 21) (by decide +kernel) (by rfl) (hp20 _) (by decide) rfl ?_
              refine Ru.op (q := (.iload 6, 2)) (by decide +kernel) rfl ?_
              refine Ru.ildI (i := o3) (z := (S.A 21 o3)) (by decide +kernel) (hp21 _) g25 (eI_of _) ?_
              refine Ru.kI (q := (.sipush 255, 3)) (c := 255) (by decide +kernel) rfl (by decide) ?_
              refine Ru.ar2 (i := .iand) (z := ((S.A 21 o3) % 256)) (by decide +kernel) rfl (ar_and _) ?_
              refine Ru.op (q := (.istore 9, 2)) (S' := (174, [some (.ref 20), some (vI v1), some (vI v2), some (vI v3), some (vI o1), some (vI o3), some (vI o3), some (vI o3), some (vI 0), some (vI ((S.A 21 o3) % 256)), none], [], _, _)) (by decide +kernel) rfl ?_
              refine Ru.inc (x := o3) (z := (o3 + 1)) (xs' := [some (.ref 20), some (vI v1), some (vI v2), some (vI v3), some (vI o1), some (vI o3), some (vI (o3 + 1)), some (vI o3), some (vI 0), some (vI ((S.A 21 o3) % 256)), none]) (by decide +kernel) rfl rfl rfl ?_
              refine Ru.inc (x := o3) (z := (o3 + 1)) (xs' := [some (.ref 20), some (vI v1), some (vI v2), some (vI v3), some (vI o1), some (vI o3), some (vI (o3 + 1)), some (vI (o3 + 1)), some (vI 0), some (vI ((S.A 21 o3) % 256)), none]) (by decide +kernel) rfl rfl rfl ?_
              refine Ru.kI (q := (.iconst 0, 1)) (c := 0) (by decide +kernel) rfl (by decide) ?_
              refine Ru.op (q := (.istore 10, 2)) (S' := (183, [some (.ref 20), some (vI v1), some (vI v2), some (vI v3), some (vI o1), some (vI o3), some (vI (o3 + 1)), some (vI (o3 + 1)), some (vI 0), some (vI ((S.A 21 o3) % 256)), some (vI 0)], [], _, _)) (by decide +kernel) rfl ?_
              rcases obr_some h with ⟨o87, e99, h⟩ | e99
              · refine g69L183_ok hF hL hrc FU _ _ _ _ _ _ _ _ _ _ e99 _ (fun o' e' => ?_) (fun o' e' => by cases e')
                cases e'
                intro d88 d89 d90 d91 d92 d93 d94 d95 d96 d97 d98
                refine Ru.kI (q := (.iconst 1, 1)) (c := 1) (by decide +kernel) rfl (by decide) ?_
                cases h
                exact Ru.iret (by decide +kernel) rfl (nar_b1 (by decide))
              · exact g69L183_ok hF hL hrc FU _ _ _ _ _ _ _ _ _ _ e99 _ (fun o' e' => by cases e') (fun o' e' => by cases e'; rfl)
            · replace h := if_f b86 h
              refine Ru.br2 (k := .eq) (off := 10) (bb := false) (tg := 154) (by decide +kernel) (by decide +kernel) (ci_eq0 (inR_to _) (inR_to _) b86) rfl ?_
              refine Ru.op (q := (.iload 8, 2)) (by decide +kernel) rfl ?_
              refine Ru.br (k := .ne) (off := 5) (bb := false) (tg := 159) (by decide +kernel) (by decide +kernel) (by decide) rfl ?_
              refine Ru.kI (q := (.iconst 0, 1)) (c := 0) (by decide +kernel) rfl (by decide) ?_
              cases h
              exact Ru.iret (by decide +kernel) rfl (nar_b1 (by decide))
          · replace h := if_f b85 h
            refine Ru.br2 (k := .ge) (off := 25) (bb := true) (tg := 159) (by decide +kernel) (by decide +kernel) (ci_ge1 g33 (by decide) b85) rfl ?_
            refine Ru.kI (q := (.iconst 0, 1)) (c := 0) (by decide +kernel) rfl (by decide) ?_
            cases h
            exact Ru.iret (by decide +kernel) rfl (nar_b1 (by decide))
    · replace h := if_f b24 h
      refine Ru.br2 (k := .ne) (off := 8) (bb := true) (tg := 47) (by decide +kernel) (by decide +kernel) (ci_ne1 g22 g23 b24) rfl ?_
      refine Ru.op (q := (.iload 4, 2)) (by decide +kernel) rfl ?_
      refine Ru.op (q := (.istore 7, 2)) (S' := (51, [some (.ref 20), some (vI v1), some (vI v2), some (vI v3), some (vI o1), some (vI o3), some (vI o3), some (vI o1), none, none, none], [], _, _)) (by decide +kernel) rfl ?_
      refine Ru.op (q := (.aload_n 0, 1)) (by decide +kernel) rfl ?_
      refine Ru.get (i := 9) (v := .ref 21) (by decide +kernel) (by rfl) (hp20 _) (by decide) rfl ?_
      refine Ru.op (q := (.iload 6, 2)) (by decide +kernel) rfl ?_
      obtain ⟨g100, h⟩ := gd_some h
      refine Ru.ildI (i := o3) (z := (S.A 21 o3)) (by decide +kernel) (hp21 _) g100 (eI_of _) ?_
      refine Ru.kI (q := (.ldc 50, 2)) (c := 32768) (by decide +kernel) rfl (by decide) ?_
      by_cases b101 : (S.A 21 o3) < 32768
      · replace h := if_t b101 h
        refine Ru.br2 (k := .ge) (off := 60) (bb := false) (tg := 63) (by decide +kernel) (by decide +kernel) (ci_ge0 (inR_to _) (by decide) b101) rfl ?_
        refine Ru.op (q := (.aload_n 0, 1)) (by decide +kernel) rfl ?_
        refine Ru.get (i := 9) (v := .ref 21) (by decide +kernel) (by rfl) (hp20 _) (by decide) rfl ?_
        refine Ru.op (q := (.iload 6, 2)) (by decide +kernel) rfl ?_
        refine Ru.ildI (i := o3) (z := (S.A 21 o3)) (by decide +kernel) (hp21 _) g100 (eI_of _) ?_
        refine Ru.op (q := (.aload_n 0, 1)) (by decide +kernel) rfl ?_
        refine Ru.get (i := 9) (v := .ref 21) (by decide +kernel) (by rfl) (hp20 _) (by decide) rfl ?_
        refine Ru.op (q := (.iload 7, 2)) (by decide +kernel) rfl ?_
        refine Ru.ildI (i := o1) (z := (S.A 21 o1)) (by decide +kernel) (hp21 _) g5 (eI_of _) ?_
        by_cases b102 : (S.A 21 o3) = (S.A 21 o1)
        · replace h := if_t b102 h
          refine Ru.br2 (k := .ne) (off := 5) (bb := false) (tg := 80) (by decide +kernel) (by decide +kernel) (ci_ne0 (inR_to _) (inR_to _) b102) rfl ?_
          refine Ru.kI (q := (.iconst 1, 1)) (c := 1) (by decide +kernel) rfl (by decide) ?_
          cases h
          exact Ru.iret (by decide +kernel) rfl (nar_b1 (by decide))
        · replace h := if_f b102 h
          refine Ru.br2 (k := .ne) (off := 5) (bb := true) (tg := 82) (by decide +kernel) (by decide +kernel) (ci_ne1 (inR_to _) (inR_to _) b102) rfl ?_
          refine Ru.op (q := (.aload_n 0, 1)) (by decide +kernel) rfl ?_
          refine Ru.op (q := (.aload_n 0, 1)) (by decide +kernel) rfl ?_
          refine Ru.get (i := 9) (v := .ref 21) (by decide +kernel) (by rfl) (hp20 _) (by decide) rfl ?_
          refine Ru.op (q := (.iload 6, 2)) (by decide +kernel) rfl ?_
          refine Ru.ildI (i := o3) (z := (S.A 21 o3)) (by decide +kernel) (hp21 _) g100 (eI_of _) ?_
          refine Ru.op (q := (.iload 7, 2)) (by decide +kernel) rfl ?_
          refine Ru.kI (q := (.iconst 0, 1)) (c := 0) (by decide +kernel) rfl (by decide) ?_
          obtain ⟨o103, e104, h⟩ := ob_some h
          refine Ru.vcall (i := 77) (j2 := 71) (as := [vI (S.A 21 o3), vI o1, vI 0]) (by decide +kernel) (by rfl) rfl rfl (hp20 _) (by decide) ⟨(by omega), (by show 19 + 8 ≤ (LO + 30); omega), Nat.le_of_ble_eq_true rfl, Nat.le_of_ble_eq_true rfl⟩ ((g71_ok 64 e104).up (by omega) (by show _ ≤ (LO + 30) - (19 + 8); omega)) ?_
          obtain ⟨g105, h⟩ := gd_some h
          by_cases b106 : o103 = 0
          · replace h := if_t b106 h
            refine Ru.br (k := .eq) (off := 5) (bb := true) (tg := 101) (by decide +kernel) (by decide +kernel) (cz (ci_eq1 g105 (by decide) b106)) rfl ?_
            refine Ru.op (q := (.aload_n 0, 1)) (by decide +kernel) rfl ?_
            refine Ru.get (i := 15) (v := .ref 22) (by decide +kernel) (by rfl) (hp20 _) (by decide) rfl ?_
            refine Ru.op (q := (.aload_n 0, 1)) (by decide +kernel) rfl ?_
            refine Ru.get (i := 9) (v := .ref 21) (by decide +kernel) (by rfl) (hp20 _) (by decide) rfl ?_
            refine Ru.op (q := (.iload 6, 2)) (by decide +kernel) rfl ?_
            refine Ru.ildI (i := o3) (z := (S.A 21 o3)) (by decide +kernel) (hp21 _) g100 (eI_of _) ?_
            refine Ru.kI (q := (.bipush 8, 2)) (c := 8) (by decide +kernel) rfl (by decide) ?_
            refine Ru.ar2 (i := .ishr) (z := ((S.A 21 o3) / 256)) (by decide +kernel) rfl (ar_shr (inR_to _)) ?_
            refine Ru.op (q := (.iload 7, 2)) (by decide +kernel) rfl ?_
            obtain ⟨g107, h⟩ := gd_some h
            refine Ru.istI (i := ((S.A 21 o3) / 256)) (x := o1) (by decide +kernel) (hp22 _) g107 (ps_22 _ _ _) ?_
            refine Ru.kI (q := (.iconst 1, 1)) (c := 1) (by decide +kernel) rfl (by decide) ?_
            cases h
            exact Ru.iret (by decide +kernel) rfl (nar_b1 (by decide))
          · replace h := if_f b106 h
            refine Ru.br (k := .eq) (off := 5) (bb := false) (tg := 99) (by decide +kernel) (by decide +kernel) (cz (ci_eq0 g105 (by decide) b106)) rfl ?_
            refine Ru.kI (q := (.iconst 0, 1)) (c := 0) (by decide +kernel) rfl (by decide) ?_
            cases h
            exact Ru.iret (by decide +kernel) rfl (nar_b1 (by decide))
      · replace h := if_f b101 h
        refine Ru.br2 (k := .ge) (off := 60) (bb := true) (tg := 120) (by decide +kernel) (by decide +kernel) (ci_ge1 (inR_to _) (by decide) b101) rfl ?_
        refine Ru.op (q := (.iload_n 3, 1)) (by decide +kernel) rfl ?_
        obtain ⟨g108, h⟩ := gd_some h
        by_cases b109 : v3 = 0
        · replace h := if_t b109 h
          refine Ru.br (k := .ne) (off := 7) (bb := false) (tg := 124) (by decide +kernel) (by decide +kernel) (cz (ci_ne0 g108 (by decide) b109)) rfl ?_
          refine Ru.kI (q := (.iconst 1, 1)) (c := 1) (by decide +kernel) rfl (by decide) ?_
          refine Ru.op (q := (.goto 4, 3)) (by decide +kernel) rfl ?_
          refine Ru.op (q := (.istore 8, 2)) (S' := (131, [some (.ref 20), some (vI v1), some (vI v2), some (vI v3), some (vI o1), some (vI o3), some (vI o3), some (vI o1), some (vI 1), none, none], [], _, _)) (by decide +kernel) rfl ?_
          refine Ru.op (q := (.iload_n 3, 1)) (by decide +kernel) rfl ?_
          refine Ru.kI (q := (.bipush 40, 2)) (c := 40) (by decide +kernel) rfl (by decide) ?_
          by_cases b110 : v3 < 40
          · replace h := if_t b110 h
            refine Ru.br2 (k := .ge) (off := 25) (bb := false) (tg := 137) (by decide +kernel) (by decide +kernel) (ci_ge0 g108 (by decide) b110) rfl ?_
            refine Ru.op (q := (.aload_n 0, 1)) (by decide +kernel) rfl ?_
            refine Ru.get (i := 9) (v := .ref 21) (by decide +kernel) (by rfl) (hp20 _) (by decide) rfl ?_
            refine Ru.op (q := (.iload 6, 2)) (by decide +kernel) rfl ?_
            refine Ru.ildI (i := o3) (z := (S.A 21 o3)) (by decide +kernel) (hp21 _) g100 (eI_of _) ?_
            refine Ru.op (q := (.aload_n 0, 1)) (by decide +kernel) rfl ?_
            refine Ru.get (i := 9) (v := .ref 21) (by decide +kernel) (by rfl) (hp20 _) (by decide) rfl ?_
            refine Ru.op (q := (.iload 7, 2)) (by decide +kernel) rfl ?_
            refine Ru.ildI (i := o1) (z := (S.A 21 o1)) (by decide +kernel) (hp21 _) g5 (eI_of _) ?_
            by_cases b111 : (S.A 21 o3) = (S.A 21 o1)
            · replace h := if_t b111 h
              refine Ru.br2 (k := .eq) (off := 10) (bb := true) (tg := 161) (by decide +kernel) (by decide +kernel) (ci_eq1 (inR_to _) (inR_to _) b111) rfl ?_
              refine Ru.op (q := (.aload_n 0, 1)) (by decide +kernel) rfl ?_
              refine Ru.get (i := 9) (v := .ref 21) (by decide +kernel) (by rfl) (hp20 _) (by decide) rfl ?_
              refine Ru.op (q := (.iload 6, 2)) (by decide +kernel) rfl ?_
              refine Ru.ildI (i := o3) (z := (S.A 21 o3)) (by decide +kernel) (hp21 _) g100 (eI_of _) ?_
              refine Ru.kI (q := (.sipush 255, 3)) (c := 255) (by decide +kernel) rfl (by decide) ?_
              refine Ru.ar2 (i := .iand) (z := ((S.A 21 o3) % 256)) (by decide +kernel) rfl (ar_and _) ?_
              refine Ru.op (q := (.istore 9, 2)) (S' := (174, [some (.ref 20), some (vI v1), some (vI v2), some (vI v3), some (vI o1), some (vI o3), some (vI o3), some (vI o1), some (vI 1), some (vI ((S.A 21 o3) % 256)), none], [], _, _)) (by decide +kernel) rfl ?_
              refine Ru.inc (x := o3) (z := (o3 + 1)) (xs' := [some (.ref 20), some (vI v1), some (vI v2), some (vI v3), some (vI o1), some (vI o3), some (vI (o3 + 1)), some (vI o1), some (vI 1), some (vI ((S.A 21 o3) % 256)), none]) (by decide +kernel) rfl rfl rfl ?_
              refine Ru.inc (x := o1) (z := (o1 + 1)) (xs' := [some (.ref 20), some (vI v1), some (vI v2), some (vI v3), some (vI o1), some (vI o3), some (vI (o3 + 1)), some (vI (o1 + 1)), some (vI 1), some (vI ((S.A 21 o3) % 256)), none]) (by decide +kernel) rfl rfl rfl ?_
              refine Ru.kI (q := (.iconst 0, 1)) (c := 0) (by decide +kernel) rfl (by decide) ?_
              refine Ru.op (q := (.istore 10, 2)) (S' := (183, [some (.ref 20), some (vI v1), some (vI v2), some (vI v3), some (vI o1), some (vI o3), some (vI (o3 + 1)), some (vI (o1 + 1)), some (vI 1), some (vI ((S.A 21 o3) % 256)), some (vI 0)], [], _, _)) (by decide +kernel) rfl ?_
              rcases obr_some h with ⟨o112, e124, h⟩ | e124
              · refine g69L183_ok hF hL hrc FU _ _ _ _ _ _ _ _ _ _ e124 _ (fun o' e' => ?_) (fun o' e' => by cases e')
                cases e'
                intro d113 d114 d115 d116 d117 d118 d119 d120 d121 d122 d123
                refine Ru.kI (q := (.iconst 1, 1)) (c := 1) (by decide +kernel) rfl (by decide) ?_
                cases h
                exact Ru.iret (by decide +kernel) rfl (nar_b1 (by decide))
              · exact g69L183_ok hF hL hrc FU _ _ _ _ _ _ _ _ _ _ e124 _ (fun o' e' => by cases e') (fun o' e' => by cases e'; rfl)
            · replace h := if_f b111 h
              refine Ru.br2 (k := .eq) (off := 10) (bb := false) (tg := 154) (by decide +kernel) (by decide +kernel) (ci_eq0 (inR_to _) (inR_to _) b111) rfl ?_
              refine Ru.op (q := (.iload 8, 2)) (by decide +kernel) rfl ?_
              refine Ru.br (k := .ne) (off := 5) (bb := true) (tg := 161) (by decide +kernel) (by decide +kernel) (by decide) rfl ?_
              refine Ru.op (q := (.aload_n 0, 1)) (by decide +kernel) rfl ?_
              refine Ru.get (i := 9) (v := .ref 21) (by decide +kernel) (by rfl) (hp20 _) (by decide) rfl ?_
              refine Ru.op (q := (.iload 6, 2)) (by decide +kernel) rfl ?_
              refine Ru.ildI (i := o3) (z := (S.A 21 o3)) (by decide +kernel) (hp21 _) g100 (eI_of _) ?_
              refine Ru.kI (q := (.sipush 255, 3)) (c := 255) (by decide +kernel) rfl (by decide) ?_
              refine Ru.ar2 (i := .iand) (z := ((S.A 21 o3) % 256)) (by decide +kernel) rfl (ar_and _) ?_
              refine Ru.op (q := (.istore 9, 2)) (S' := (174, [some (.ref 20), some (vI v1), some (vI v2), some (vI v3), some (vI o1), some (vI o3), some (vI o3), some (vI o1), some (vI 1), some (vI ((S.A 21 o3) % 256)), none], [], _, _)) (by decide +kernel) rfl ?_
              refine Ru.inc (x := o3) (z := (o3 + 1)) (xs' := [some (.ref 20), some (vI v1), some (vI v2), some (vI v3), some (vI o1), some (vI o3), some (vI (o3 + 1)), some (vI o1), some (vI 1), some (vI ((S.A 21 o3) % 256)), none]) (by decide +kernel) rfl rfl rfl ?_
              refine Ru.inc (x := o1) (z := (o1 + 1)) (xs' := [some (.ref 20), some (vI v1), some (vI v2), some (vI v3), some (vI o1), some (vI o3), some (vI (o3 + 1)), some (vI (o1 + 1)), some (vI 1), some (vI ((S.A 21 o3) % 256)), none]) (by decide +kernel) rfl rfl rfl ?_
              refine Ru.kI (q := (.iconst 0, 1)) (c := 0) (by decide +kernel) rfl (by decide) ?_
              refine Ru.op (q := (.istore 10, 2)) (S' := (183, [some (.ref 20), some (vI v1), some (vI v2), some (vI v3), some (vI o1), some (vI o3), some (vI (o3 + 1)), some (vI (o1 + 1)), some (vI 1), some (vI ((S.A 21 o3) % 256)), some (vI 0)], [], _, _)) (by decide +kernel) rfl ?_
              rcases obr_some h with ⟨o125, e137, h⟩ | e137
              · refine g69L183_ok hF hL hrc FU _ _ _ _ _ _ _ _ _ _ e137 _ (fun o' e' => ?_) (fun o' e' => by cases e')
                cases e'
                intro d126 d127 d128 d129 d130 d131 d132 d133 d134 d135 d136
                refine Ru.kI (q := (.iconst 1, 1)) (c := 1) (by decide +kernel) rfl (by decide) ?_
                cases h
                exact Ru.iret (by decide +kernel) rfl (nar_b1 (by decide))
              · exact g69L183_ok hF hL hrc FU _ _ _ _ _ _ _ _ _ _ e137 _ (fun o' e' => by cases e') (fun o' e' => by cases e'; rfl)
          · replace h := if_f b110 h
            refine Ru.br2 (k := .ge) (off := 25) (bb := true) (tg := 159) (by decide +kernel) (by decide +kernel) (ci_ge1 g108 (by decide) b110) rfl ?_
            refine Ru.kI (q := (.iconst 0, 1)) (c := 0) (by decide +kernel) rfl (by decide) ?_
            cases h
            exact Ru.iret (by decide +kernel) rfl (nar_b1 (by decide))
        · replace h := if_f b109 h
          refine Ru.br (k := .ne) (off := 7) (bb := true) (tg := 128) (by decide +kernel) (by decide +kernel) (cz (ci_ne1 g108 (by decide) b109)) rfl ?_
          refine Ru.kI (q := (.iconst 0, 1)) (c := 0) (by decide +kernel) rfl (by decide) ?_
          refine Ru.op (q := (.istore 8, 2)) (S' := (131, [some (.ref 20), some (vI v1), some (vI v2), some (vI v3), some (vI o1), some (vI o3), some (vI o3), some (vI o1), some (vI 0), none, none], [], _, _)) (by decide +kernel) rfl ?_
          refine Ru.op (q := (.iload_n 3, 1)) (by decide +kernel) rfl ?_
          refine Ru.kI (q := (.bipush 40, 2)) (c := 40) (by decide +kernel) rfl (by decide) ?_
          by_cases b138 : v3 < 40
          · replace h := if_t b138 h
            refine Ru.br2 (k := .ge) (off := 25) (bb := false) (tg := 137) (by decide +kernel) (by decide +kernel) (ci_ge0 g108 (by decide) b138) rfl ?_
            refine Ru.op (q := (.aload_n 0, 1)) (by decide +kernel) rfl ?_
            refine Ru.get (i := 9) (v := .ref 21) (by decide +kernel) (by rfl) (hp20 _) (by decide) rfl ?_
            refine Ru.op (q := (.iload 6, 2)) (by decide +kernel) rfl ?_
            refine Ru.ildI (i := o3) (z := (S.A 21 o3)) (by decide +kernel) (hp21 _) g100 (eI_of _) ?_
            refine Ru.op (q := (.aload_n 0, 1)) (by decide +kernel) rfl ?_
            refine Ru.get (i := 9) (v := .ref 21) (by decide +kernel) (by rfl) (hp20 _) (by decide) rfl ?_
            refine Ru.op (q := (.iload 7, 2)) (by decide +kernel) rfl ?_
            refine Ru.ildI (i := o1) (z := (S.A 21 o1)) (by decide +kernel) (hp21 _) g5 (eI_of _) ?_
            by_cases b139 : (S.A 21 o3) = (S.A 21 o1)
            · replace h := if_t b139 h
              refine Ru.br2 (k := .eq) (off := 10) (bb := true) (tg := 161) (by decide +kernel) (by decide +kernel) (ci_eq1 (inR_to _) (inR_to _) b139) rfl ?_
              refine Ru.op (q := (.aload_n 0, 1)) (by decide +kernel) rfl ?_
              refine Ru.get (i := 9) (v := .ref 21) (by decide +kernel) (by rfl) (hp20 _) (by decide) rfl ?_
              refine Ru.op (q := (.iload 6, 2)) (by decide +kernel) rfl ?_
              refine Ru.ildI (i := o3) (z := (S.A 21 o3)) (by decide +kernel) (hp21 _) g100 (eI_of _) ?_
              refine Ru.kI (q := (.sipush 255, 3)) (c := 255) (by decide +kernel) rfl (by decide) ?_
              refine Ru.ar2 (i := .iand) (z := ((S.A 21 o3) % 256)) (by decide +kernel) rfl (ar_and _) ?_
              refine Ru.op (q := (.istore 9, 2)) (S' := (174, [some (.ref 20), some (vI v1), some (vI v2), some (vI v3), some (vI o1), some (vI o3), some (vI o3), some (vI o1), some (vI 0), some (vI ((S.A 21 o3) % 256)), none], [], _, _)) (by decide +kernel) rfl ?_
              refine Ru.inc (x := o3) (z := (o3 + 1)) (xs' := [some (.ref 20), some (vI v1), some (vI v2), some (vI v3), some (vI o1), some (vI o3), some (vI (o3 + 1)), some (vI o1), some (vI 0), some (vI ((S.A 21 o3) % 256)), none]) (by decide +kernel) rfl rfl rfl ?_
              refine Ru.inc (x := o1) (z := (o1 + 1)) (xs' := [some (.ref 20), some (vI v1), some (vI v2), some (vI v3), some (vI o1), some (vI o3), some (vI (o3 + 1)), some (vI (o1 + 1)), some (vI 0), some (vI ((S.A 21 o3) % 256)), none]) (by decide +kernel) rfl rfl rfl ?_
              refine Ru.kI (q := (.iconst 0, 1)) (c := 0) (by decide +kernel) rfl (by decide) ?_
              refine Ru.op (q := (.istore 10, 2)) (S' := (183, [some (.ref 20), some (vI v1), some (vI v2), some (vI v3), some (vI o1), some (vI o3), some (vI (o3 + 1)), some (vI (o1 + 1)), some (vI 0), some (vI ((S.A 21 o3) % 256)), some (vI 0)], [], _, _)) (by decide +kernel) rfl ?_
              rcases obr_some h with ⟨o140, e152, h⟩ | e152
              · refine g69L183_ok hF hL hrc FU _ _ _ _ _ _ _ _ _ _ e152 _ (fun o' e' => ?_) (fun o' e' => by cases e')
                cases e'
                intro d141 d142 d143 d144 d145 d146 d147 d148 d149 d150 d151
                refine Ru.kI (q := (.iconst 1, 1)) (c := 1) (by decide +kernel) rfl (by decide) ?_
                cases h
                exact Ru.iret (by decide +kernel) rfl (nar_b1 (by decide))
              · exact g69L183_ok hF hL hrc FU _ _ _ _ _ _ _ _ _ _ e152 _ (fun o' e' => by cases e') (fun o' e' => by cases e'; rfl)
            · replace h := if_f b139 h
              refine Ru.br2 (k := .eq) (off := 10) (bb := false) (tg := 154) (by decide +kernel) (by decide +kernel) (ci_eq0 (inR_to _) (inR_to _) b139) rfl ?_
              refine Ru.op (q := (.iload 8, 2)) (by decide +kernel) rfl ?_
              refine Ru.br (k := .ne) (off := 5) (bb := false) (tg := 159) (by decide +kernel) (by decide +kernel) (by decide) rfl ?_
              refine Ru.kI (q := (.iconst 0, 1)) (c := 0) (by decide +kernel) rfl (by decide) ?_
              cases h
              exact Ru.iret (by decide +kernel) rfl (nar_b1 (by decide))
          · replace h := if_f b138 h
            refine Ru.br2 (k := .ge) (off := 25) (bb := true) (tg := 159) (by decide +kernel) (by decide +kernel) (ci_ge1 g108 (by decide) b138) rfl ?_
            refine Ru.kI (q := (.iconst 0, 1)) (c := 0) (by decide +kernel) rfl (by decide) ?_
            cases h
            exact Ru.iret (by decide +kernel) rfl (nar_b1 (by decide))
def g69 : Nat → St → Int → Int → Int → Option (Int × St)
  | 0, _, _, _, _ => none
  | n + 1, S, v1, v2, v3 => g69b (g69 n) S v1 v2 v3
theorem g69_ok : ∀ (n : Nat) {S : St} {v1 : Int} {v2 : Int} {v3 : Int} {o : Int × St}, g69 n S v1 v2 v3 = some o → Ru none (76 + 1 * n) (1979 + 30 * n) 69 (0, mn_pad (mn_ent [.ref 20, vI v1, vI v2, vI v3]) 11, [], S.ns, Hp S) ((0, some (vI o.1)), o.2.ns, Hp o.2) := by
  intro n
  induction n with
  | zero => intro S v1 v2 v3 o h; cases h
  | succ n ih => intro S v1 v2 v3 o h; exact (g69b_ok (FR := 76 + 1 * n) (LO := 1979 + 30 * n) (by omega) (by omega) ih h).up (by omega) (by omega)
def g73_15L52 (rc : St → Int → Int → Option (St)) (v3 : Int) (v5 : Int) : Nat → Int → Int → St → Option (St)
  | 0, _, _, _ => none
  | n + 1, v6, v7, S => gd (inR v7) (gd (inR v5) (if v7 < v5 then if (S.F 15 3) = 0 then ob (rc S v6 (v3 + 1)) (fun o12 => ob (g57 o12 21 v6 32) (fun o14 => g73_15L52 rc v3 v5 n o14 (v7 + 1) o12)) else some S else some S))
set_option maxRecDepth 100000 in
set_option maxHeartbeats 4000000 in
theorem g73_15L52_ok {FR LO : Nat} {rc : St → Int → Int → Option (St)} (hF : 11 ≤ FR) (hL : 224 ≤ LO) (hrc : ∀ {S : St} {v1 : Int} {v3 : Int} {o : St}, rc S v1 v3 = some o → Ru none FR LO 73 (0, mn_pad (mn_ent [.ref 20, vI v1, .ref 15, vI v3]) 8, [], S.ns, Hp S) ((0, none), o.ns, Hp o)) {v3 : Int} {v5 : Int} : ∀ (n : Nat) (v6 : Int) (v7 : Int) (S : St) (d1 d4 : Option Value) (out : St), g73_15L52 rc v3 v5 n v6 v7 S = some out → ∀ r, (∀ (e0 e1 e2 e3 e4 e5 e6 e7 : Option Value), Ru none (FR + 1) (LO + 27) 73 (98, [e0, e1, e2, e3, e4, e5, e6, e7], [], out.ns, Hp out) r) → Ru none (FR + 1) (LO + 27) 73 (52, [some (.ref 20), d1, some (.ref 15), some (vI v3), d4, some (vI v5), some (vI v6), some (vI v7)], [], S.ns, Hp S) r := by
  intro n
  induction n with
  | zero => intro v6 v7 S d1 d4 out h; cases h
  | succ n ih =>
    intro v6 v7 S d1 d4 out h r hk
    unfold g73_15L52 at h
    refine Ru.op (q := (.iload 7, 2)) (by decide +kernel) rfl ?_
    refine Ru.op (q := (.iload 5, 2)) (by decide +kernel) rfl ?_
    obtain ⟨g8, h⟩ := gd_some h
    obtain ⟨g9, h⟩ := gd_some h
    by_cases b10 : v7 < v5
    · replace h := if_t b10 h
      refine Ru.br2 (k := .ge) (off := 42) (bb := false) (tg := 59) (by decide +kernel) (by decide +kernel) (ci_ge0 g8 g9 b10) rfl ?_
      refine Ru.op (q := (.aload_n 2, 1)) (by decide +kernel) rfl ?_
      refine Ru.getI (i := 61) (x := (S.F 15 3)) (by decide +kernel) (by rfl) (hp15 _) (by decide) rfl (eI_of _) ?_
      by_cases b11 : (S.F 15 3) = 0
      · replace h := if_t b11 h
        refine Ru.br (k := .ne) (off := 35) (bb := false) (tg := 66) (by decide +kernel) (by decide +kernel) (cz (ci_ne0 (inR_to _) (by decide) b11)) rfl ?_
        refine Ru.op (q := (.aload_n 0, 1)) (by decide +kernel) rfl ?_
        refine Ru.op (q := (.iload 6, 2)) (by decide +kernel) rfl ?_
        refine Ru.op (q := (.aload_n 2, 1)) (by decide +kernel) rfl ?_
        refine Ru.op (q := (.iload_n 3, 1)) (by decide +kernel) rfl ?_
        refine Ru.kI (q := (.iconst 1, 1)) (c := 1) (by decide +kernel) rfl (by decide) ?_
        refine Ru.ar2 (i := .iadd) (z := (v3 + 1)) (by decide +kernel) rfl (ar_add _ _) ?_
        obtain ⟨o12, e13, h⟩ := ob_some h
        refine Ru.vcall (i := 54) (j2 := 73) (as := [vI v6, .ref 15, vI (v3 + 1)]) (by decide +kernel) (by rfl) rfl rfl (hp20 _) (by decide) ⟨(by omega), (by show 19 + 8 ≤ (LO + 27); omega), Nat.le_of_ble_eq_true rfl, Nat.le_of_ble_eq_true rfl⟩ ((hrc e13).up (by omega) (by show _ ≤ (LO + 27) - (19 + 8); omega)) ?_
        refine Ru.op (q := (.aload_n 0, 1)) (by decide +kernel) rfl ?_
        refine Ru.get (i := 9) (v := .ref 21) (by decide +kernel) (by rfl) (hp20 _) (by decide) rfl ?_
        refine Ru.op (q := (.iload 6, 2)) (by decide +kernel) rfl ?_
        refine Ru.op (q := (.aload_n 0, 1)) (by decide +kernel) rfl ?_
        refine Ru.get (i := 9) (v := .ref 21) (by decide +kernel) (by rfl) (hp20 _) (by decide) rfl ?_
        refine Ru.lenI (N := 32) (z := 32) (by decide +kernel) (hp21 _) (by decide) (aI_len _ _) rfl ?_
        obtain ⟨o14, e15, h⟩ := ob_some h
        refine Ru.call (q := (.invokestatic 73, 3)) (j2 := 57) (as := [.ref 21, vI v6, vI 32]) (by decide +kernel) rfl rfl rfl rfl ⟨(by omega), (by show 19 + 5 ≤ (LO + 27); omega), Nat.le_of_ble_eq_true rfl, Nat.le_of_ble_eq_true rfl⟩ ((g57_ok e15).up (by omega) (by show _ ≤ (LO + 27) - (19 + 5); omega)) ?_
        refine Ru.op (q := (.istore 6, 2)) (S' := (92, [some (.ref 20), d1, some (.ref 15), some (vI v3), d4, some (vI v5), some (vI o14), some (vI v7)], [], _, _)) (by decide +kernel) rfl ?_
        refine Ru.inc (x := v7) (z := (v7 + 1)) (xs' := [some (.ref 20), d1, some (.ref 15), some (vI v3), d4, some (vI v5), some (vI o14), some (vI (v7 + 1))]) (by decide +kernel) rfl rfl rfl ?_
        refine Ru.op (q := (.goto (-43), 3)) (by decide +kernel) rfl ?_
        exact ih _ _ _ _ _ _ h r hk
      · replace h := if_f b11 h
        refine Ru.br (k := .ne) (off := 35) (bb := true) (tg := 98) (by decide +kernel) (by decide +kernel) (cz (ci_ne1 (inR_to _) (by decide) b11)) rfl ?_
        cases h
        exact hk _ _ _ _ _ _ _ _
    · replace h := if_f b10 h
      refine Ru.br2 (k := .ge) (off := 42) (bb := true) (tg := 98) (by decide +kernel) (by decide +kernel) (ci_ge1 g8 g9 b10) rfl ?_
      cases h
      exact hk _ _ _ _ _ _ _ _
def g73_15b (rc : St → Int → Int → Option (St)) (S : St) (v1 : Int) (v3 : Int) : Option (St) := gd (inR v3) (if v3 < 40 then ob (g70 S v1) (fun o3 => gd (ixR o3 32) (ob (g44_15 S (S.A 21 o3)) (fun o6 => ob (g73_15L52 rc v3 ((o6.A 21 o3) % 256) FU (o3 + 1) 0 o6) (fun o16 => some o16)))) else some (S.f 15 3 1))
set_option maxRecDepth 100000 in
set_option maxHeartbeats 4000000 in
theorem g73_15b_ok {FR LO : Nat} {rc : St → Int → Int → Option (St)} (hF : 11 ≤ FR) (hL : 224 ≤ LO) (hrc : ∀ {S : St} {v1 : Int} {v3 : Int} {o : St}, rc S v1 v3 = some o → Ru none FR LO 73 (0, mn_pad (mn_ent [.ref 20, vI v1, .ref 15, vI v3]) 8, [], S.ns, Hp S) ((0, none), o.ns, Hp o)) {S : St} {v1 : Int} {v3 : Int} {o : St} (h : g73_15b rc S v1 v3 = some o) : Ru none (FR + 1) (LO + 27) 73 (0, mn_pad (mn_ent [.ref 20, vI v1, .ref 15, vI v3]) 8, [], S.ns, Hp S) ((0, none), o.ns, Hp o) := by
  unfold g73_15b at h
  show Ru none (FR + 1) (LO + 27) 73 (0, [some (.ref 20), some (vI v1), some (.ref 15), some (vI v3), none, none, none, none], [], S.ns, Hp S) _
  refine Ru.op (q := (.iload_n 3, 1)) (by decide +kernel) rfl ?_
  refine Ru.kI (q := (.bipush 40, 2)) (c := 40) (by decide +kernel) rfl (by decide) ?_
  obtain ⟨g1, h⟩ := gd_some h
  by_cases b2 : v3 < 40
  · replace h := if_t b2 h
    refine Ru.br2 (k := .lt) (off := 9) (bb := true) (tg := 12) (by decide +kernel) (by decide +kernel) (ci_lt1 g1 (by decide) b2) rfl ?_
    refine Ru.op (q := (.aload_n 0, 1)) (by decide +kernel) rfl ?_
    refine Ru.op (q := (.iload_n 1, 1)) (by decide +kernel) rfl ?_
    obtain ⟨o3, e4, h⟩ := ob_some h
    refine Ru.vcall (i := 65) (j2 := 70) (as := [vI v1]) (by decide +kernel) (by rfl) rfl rfl (hp20 _) (by decide) ⟨(by omega), (by show 19 + 4 ≤ (LO + 27); omega), Nat.le_of_ble_eq_true rfl, Nat.le_of_ble_eq_true rfl⟩ ((g70_ok e4).up (by omega) (by show _ ≤ (LO + 27) - (19 + 4); omega)) ?_
    refine Ru.op (q := (.istore 4, 2)) (S' := (19, [some (.ref 20), some (vI v1), some (.ref 15), some (vI v3), some (vI o3), none, none, none], [], _, _)) (by decide +kernel) rfl ?_
    refine Ru.op (q := (.aload_n 2, 1)) (by decide +kernel) rfl ?_
    refine Ru.op (q := (.aload_n 0, 1)) (by decide +kernel) rfl ?_
    refine Ru.get (i := 9) (v := .ref 21) (by decide +kernel) (by rfl) (hp20 _) (by decide) rfl ?_
    refine Ru.op (q := (.iload 4, 2)) (by decide +kernel) rfl ?_
    obtain ⟨g5, h⟩ := gd_some h
    refine Ru.ildI (i := o3) (z := (S.A 21 o3)) (by decide +kernel) (hp21 _) g5 (eI_of _) ?_
    obtain ⟨o6, e7, h⟩ := ob_some h
    refine Ru.vcall (i := 69) (j2 := 44) (as := [vI (S.A 21 o3)]) (by decide +kernel) (by rfl) rfl rfl (hp15 _) (by decide) ⟨(by omega), (by show 19 + 2 ≤ (LO + 27); omega), Nat.le_of_ble_eq_true rfl, Nat.le_of_ble_eq_true rfl⟩ ((g44_15_ok e7).up (by omega) (by show _ ≤ (LO + 27) - (19 + 2); omega)) ?_
    refine Ru.op (q := (.aload_n 0, 1)) (by decide +kernel) rfl ?_
    refine Ru.get (i := 9) (v := .ref 21) (by decide +kernel) (by rfl) (hp20 _) (by decide) rfl ?_
    refine Ru.op (q := (.iload 4, 2)) (by decide +kernel) rfl ?_
    refine Ru.ildI (i := o3) (z := (o6.A 21 o3)) (by decide +kernel) (hp21 _) g5 (eI_of _) ?_
    refine Ru.kI (q := (.sipush 255, 3)) (c := 255) (by decide +kernel) rfl (by decide) ?_
    refine Ru.ar2 (i := .iand) (z := ((o6.A 21 o3) % 256)) (by decide +kernel) rfl (ar_and _) ?_
    refine Ru.op (q := (.istore 5, 2)) (S' := (43, [some (.ref 20), some (vI v1), some (.ref 15), some (vI v3), some (vI o3), some (vI ((o6.A 21 o3) % 256)), none, none], [], _, _)) (by decide +kernel) rfl ?_
    refine Ru.op (q := (.iload 4, 2)) (by decide +kernel) rfl ?_
    refine Ru.kI (q := (.iconst 1, 1)) (c := 1) (by decide +kernel) rfl (by decide) ?_
    refine Ru.ar2 (i := .iadd) (z := (o3 + 1)) (by decide +kernel) rfl (ar_add _ _) ?_
    refine Ru.op (q := (.istore 6, 2)) (S' := (49, [some (.ref 20), some (vI v1), some (.ref 15), some (vI v3), some (vI o3), some (vI ((o6.A 21 o3) % 256)), some (vI (o3 + 1)), none], [], _, _)) (by decide +kernel) rfl ?_
    refine Ru.kI (q := (.iconst 0, 1)) (c := 0) (by decide +kernel) rfl (by decide) ?_
    refine Ru.op (q := (.istore 7, 2)) (S' := (52, [some (.ref 20), some (vI v1), some (.ref 15), some (vI v3), some (vI o3), some (vI ((o6.A 21 o3) % 256)), some (vI (o3 + 1)), some (vI 0)], [], _, _)) (by decide +kernel) rfl ?_
    obtain ⟨o16, e25, h⟩ := ob_some h
    refine g73_15L52_ok hF hL hrc FU _ _ _ _ _ _ e25 _ ?_
    intro d17 d18 d19 d20 d21 d22 d23 d24
    cases h
    exact Ru.end (q := (.return_, 1)) (by decide +kernel) rfl rfl
  · replace h := if_f b2 h
    refine Ru.br2 (k := .lt) (off := 9) (bb := false) (tg := 6) (by decide +kernel) (by decide +kernel) (ci_lt0 g1 (by decide) b2) rfl ?_
    refine Ru.op (q := (.aload_n 2, 1)) (by decide +kernel) rfl ?_
    refine Ru.kI (q := (.iconst 1, 1)) (c := 1) (by decide +kernel) rfl (by decide) ?_
    refine Ru.putH (i := 61) (by decide +kernel) (by rfl) (hp15 _) (by decide) (Nat.le_of_ble_eq_true rfl) (fk_b (by decide)) (by decide +kernel) (pf_15_3 _ _) ?_
    cases h
    exact Ru.end (q := (.return_, 1)) (by decide +kernel) rfl rfl
def g73_15 : Nat → St → Int → Int → Option (St)
  | 0, _, _, _ => none
  | n + 1, S, v1, v3 => g73_15b (g73_15 n) S v1 v3
theorem g73_15_ok : ∀ (n : Nat) {S : St} {v1 : Int} {v3 : Int} {o : St}, g73_15 n S v1 v3 = some o → Ru none (11 + 1 * n) (224 + 27 * n) 73 (0, mn_pad (mn_ent [.ref 20, vI v1, .ref 15, vI v3]) 8, [], S.ns, Hp S) ((0, none), o.ns, Hp o) := by
  intro n
  induction n with
  | zero => intro S v1 v3 o h; cases h
  | succ n ih => intro S v1 v3 o h; exact (g73_15b_ok (FR := 11 + 1 * n) (LO := 224 + 27 * n) (by omega) (by omega) ih h).up (by omega) (by omega)
def g72_15L3 (v1 : Nat) (v2 : Int) (v3 : Int) : Nat → Int → St → Option (St)
  | 0, _, _ => none
  | n + 1, v5, S => gC S v1 (fun c1 c2 n3 n4 => gd (inR v5) (if v5 < n3 then gd (inR v2) (if v5 = v2 then g72_15L3 v1 v2 v3 n (v5 + 1) S else gA S c2 (fun N11 f12 => gd (ixR v5 N11) (ob (g73_15 64 S (v3 + (f12 v5)) 0) (fun o16 => ob (g45_15 o16) (fun o18 => g72_15L3 v1 v2 v3 n (v5 + 1) o18))))) else some S))
set_option maxRecDepth 100000 in
set_option maxHeartbeats 4000000 in
theorem g72_15L3_ok {v1 : Nat} {v2 : Int} {v3 : Int} : ∀ (n : Nat) (v5 : Int) (S : St) (out : St), g72_15L3 v1 v2 v3 n v5 S = some out → ∀ r, (∀ (e0 e1 e2 e3 e4 e5 : Option Value), Ru none 76 1979 72 (45, [e0, e1, e2, e3, e4, e5], [], out.ns, Hp out) r) → Ru none 76 1979 72 (3, [some (.ref 20), some (.ref v1), some (vI v2), some (vI v3), some (.ref 15), some (vI v5)], [], S.ns, Hp S) r := by
  intro n
  induction n with
  | zero => intro v5 S out h; cases h
  | succ n ih =>
    intro v5 S out h r hk
    unfold g72_15L3 at h
    refine Ru.op (q := (.iload 5, 2)) (by decide +kernel) rfl ?_
    refine Ru.op (q := (.aload_n 1, 1)) (by decide +kernel) rfl ?_
    obtain ⟨c1, c2, n3, n4, e5, q6, h⟩ := gC_some h
    refine Ru.get (i := 51) (v := vI n3) (by decide +kernel) (by rfl) q6 (by decide) rfl ?_
    obtain ⟨g7, h⟩ := gd_some h
    by_cases b8 : v5 < n3
    · replace h := if_t b8 h
      refine Ru.br2 (k := .ge) (off := 36) (bb := false) (tg := 12) (by decide +kernel) (by decide +kernel) (ci_ge0 g7 e5.1 b8) rfl ?_
      refine Ru.op (q := (.iload 5, 2)) (by decide +kernel) rfl ?_
      refine Ru.op (q := (.iload_n 2, 1)) (by decide +kernel) rfl ?_
      obtain ⟨g9, h⟩ := gd_some h
      by_cases b10 : v5 = v2
      · replace h := if_t b10 h
        refine Ru.br2 (k := .eq) (off := 24) (bb := true) (tg := 39) (by decide +kernel) (by decide +kernel) (ci_eq1 g7 g9 b10) rfl ?_
        refine Ru.inc (x := v5) (z := (v5 + 1)) (xs' := [some (.ref 20), some (.ref v1), some (vI v2), some (vI v3), some (.ref 15), some (vI (v5 + 1))]) (by decide +kernel) rfl rfl rfl ?_
        refine Ru.op (q := (.goto (-39), 3)) (by decide +kernel) rfl ?_
        exact ih _ _ _ h r hk
      · replace h := if_f b10 h
        refine Ru.br2 (k := .eq) (off := 24) (bb := false) (tg := 18) (by decide +kernel) (by decide +kernel) (ci_eq0 g7 g9 b10) rfl ?_
        refine Ru.op (q := (.aload_n 0, 1)) (by decide +kernel) rfl ?_
        refine Ru.op (q := (.iload_n 3, 1)) (by decide +kernel) rfl ?_
        refine Ru.op (q := (.aload_n 1, 1)) (by decide +kernel) rfl ?_
        refine Ru.get (i := 18) (v := .ref c2) (by decide +kernel) (by rfl) q6 (by decide) rfl ?_
        refine Ru.op (q := (.iload 5, 2)) (by decide +kernel) rfl ?_
        obtain ⟨N11, f12, e13, q14, h⟩ := gA_some h
        obtain ⟨g15, h⟩ := gd_some h
        refine Ru.ildI (i := v5) (z := (f12 v5)) (by decide +kernel) q14 g15 rfl ?_
        refine Ru.ar2 (i := .iadd) (z := (v3 + (f12 v5))) (by decide +kernel) rfl (ar_add _ _) ?_
        refine Ru.op (q := (.aload 4, 2)) (by decide +kernel) rfl ?_
        refine Ru.kI (q := (.iconst 0, 1)) (c := 0) (by decide +kernel) rfl (by decide) ?_
        obtain ⟨o16, e17, h⟩ := ob_some h
        refine Ru.vcall (i := 54) (j2 := 73) (as := [vI (v3 + (f12 v5)), .ref 15, vI 0]) (by decide +kernel) (by rfl) rfl rfl (hp20 _) (by decide) ⟨(Nat.le_of_ble_eq_true rfl), (by show 19 + 8 ≤ 1979; exact Nat.le_of_ble_eq_true rfl), Nat.le_of_ble_eq_true rfl, Nat.le_of_ble_eq_true rfl⟩ ((g73_15_ok 64 e17).up (Nat.le_of_ble_eq_true rfl) (Nat.le_of_ble_eq_true rfl)) ?_
        refine Ru.op (q := (.aload 4, 2)) (by decide +kernel) rfl ?_
        obtain ⟨o18, e19, h⟩ := ob_some h
        refine Ru.vcall (i := 58) (j2 := 45) (as := []) (by decide +kernel) (by rfl) rfl rfl (hp15 _) (by decide) ⟨(Nat.le_of_ble_eq_true rfl), (by show 19 + 1 ≤ 1979; exact Nat.le_of_ble_eq_true rfl), Nat.le_of_ble_eq_true rfl, Nat.le_of_ble_eq_true rfl⟩ ((g45_15_ok e19).up (Nat.le_of_ble_eq_true rfl) (Nat.le_of_ble_eq_true rfl)) ?_
        refine Ru.inc (x := v5) (z := (v5 + 1)) (xs' := [some (.ref 20), some (.ref v1), some (vI v2), some (vI v3), some (.ref 15), some (vI (v5 + 1))]) (by decide +kernel) rfl rfl rfl ?_
        refine Ru.op (q := (.goto (-39), 3)) (by decide +kernel) rfl ?_
        exact ih _ _ _ h r hk
    · replace h := if_f b8 h
      refine Ru.br2 (k := .ge) (off := 36) (bb := true) (tg := 45) (by decide +kernel) (by decide +kernel) (ci_ge1 g7 e5.1 b8) rfl ?_
      cases h
      exact hk _ _ _ _ _ _
def g72_15 (S : St) (v1 : Nat) (v2 : Int) (v3 : Int) : Option (St) := ob (g72_15L3 v1 v2 v3 FU 0 S) (fun o20 => some o20)
set_option maxRecDepth 100000 in
set_option maxHeartbeats 4000000 in
theorem g72_15_ok {S : St} {v1 : Nat} {v2 : Int} {v3 : Int} {o : St} (h : g72_15 S v1 v2 v3 = some o) : Ru none 76 1979 72 (0, mn_pad (mn_ent [.ref 20, .ref v1, vI v2, vI v3, .ref 15]) 6, [], S.ns, Hp S) ((0, none), o.ns, Hp o) := by
  unfold g72_15 at h
  show Ru none 76 1979 72 (0, [some (.ref 20), some (.ref v1), some (vI v2), some (vI v3), some (.ref 15), none], [], S.ns, Hp S) _
  refine Ru.kI (q := (.iconst 0, 1)) (c := 0) (by decide +kernel) rfl (by decide) ?_
  refine Ru.op (q := (.istore 5, 2)) (S' := (3, [some (.ref 20), some (.ref v1), some (vI v2), some (vI v3), some (.ref 15), some (vI 0)], [], _, _)) (by decide +kernel) rfl ?_
  obtain ⟨o20, e27, h⟩ := ob_some h
  refine g72_15L3_ok FU _ _ _ e27 _ ?_
  intro d21 d22 d23 d24 d25 d26
  cases h
  exact Ru.end (q := (.return_, 1)) (by decide +kernel) rfl rfl
def g67_15 (S : St) (v1 : Nat) (v2 : Int) (v3 : Int) : Option (Int × St) := gC S v1 (fun c1 c2 n3 n4 => gA S c2 (fun N7 f8 => gd (ixR v2 N7) (gd (ixR v3 N7) (gA S c1 (fun N13 f14 => gd (ixR (f8 v2) N13) (gd (ixR (f8 v3) N13) (if (f14 (f8 v2)) = (f14 (f8 v3)) then ob (g68 S v1 0) (fun o20 => ob (g69 64 o20 (f8 v2) (f8 v3) 0) (fun o22 => gd (inR o22.1) (if o22.1 = 0 then some (0, o22.2) else ob (g41_15 o22.2) (fun o26 => ob (g72_15 o26 v1 v3 0) (fun o28 => ob (g48_15 o28) (fun o30 => some (1, o30))))))) else some (0, S))))))))
set_option maxRecDepth 100000 in
set_option maxHeartbeats 4000000 in
theorem g67_15_ok {S : St} {v1 : Nat} {v2 : Int} {v3 : Int} {o : Int × St} (h : g67_15 S v1 v2 v3 = some o) : Ru none 141 3929 67 (0, mn_pad (mn_ent [.ref 20, .ref v1, vI v2, vI v3, .ref 15]) 7, [], S.ns, Hp S) ((0, some (vI o.1)), o.2.ns, Hp o.2) := by
  unfold g67_15 at h
  show Ru none 141 3929 67 (0, [some (.ref 20), some (.ref v1), some (vI v2), some (vI v3), some (.ref 15), none, none], [], S.ns, Hp S) _
  refine Ru.op (q := (.aload_n 1, 1)) (by decide +kernel) rfl ?_
  obtain ⟨c1, c2, n3, n4, e5, q6, h⟩ := gC_some h
  refine Ru.get (i := 18) (v := .ref c2) (by decide +kernel) (by rfl) q6 (by decide) rfl ?_
  refine Ru.op (q := (.iload_n 2, 1)) (by decide +kernel) rfl ?_
  obtain ⟨N7, f8, e9, q10, h⟩ := gA_some h
  obtain ⟨g11, h⟩ := gd_some h
  refine Ru.ildI (i := v2) (z := (f8 v2)) (by decide +kernel) q10 g11 rfl ?_
  refine Ru.op (q := (.istore 5, 2)) (S' := (8, [some (.ref 20), some (.ref v1), some (vI v2), some (vI v3), some (.ref 15), some (vI (f8 v2)), none], [], _, _)) (by decide +kernel) rfl ?_
  refine Ru.op (q := (.aload_n 1, 1)) (by decide +kernel) rfl ?_
  refine Ru.get (i := 18) (v := .ref c2) (by decide +kernel) (by rfl) q6 (by decide) rfl ?_
  refine Ru.op (q := (.iload_n 3, 1)) (by decide +kernel) rfl ?_
  obtain ⟨g12, h⟩ := gd_some h
  refine Ru.ildI (i := v3) (z := (f8 v3)) (by decide +kernel) q10 g12 rfl ?_
  refine Ru.op (q := (.istore 6, 2)) (S' := (16, [some (.ref 20), some (.ref v1), some (vI v2), some (vI v3), some (.ref 15), some (vI (f8 v2)), some (vI (f8 v3))], [], _, _)) (by decide +kernel) rfl ?_
  refine Ru.op (q := (.aload_n 1, 1)) (by decide +kernel) rfl ?_
  refine Ru.get (i := 23) (v := .ref c1) (by decide +kernel) (by rfl) q6 (by decide) rfl ?_
  refine Ru.op (q := (.iload 5, 2)) (by decide +kernel) rfl ?_
  obtain ⟨N13, f14, e15, q16, h⟩ := gA_some h
  obtain ⟨g17, h⟩ := gd_some h
  refine Ru.ildI (i := (f8 v2)) (z := (f14 (f8 v2))) (by decide +kernel) q16 g17 rfl ?_
  refine Ru.op (q := (.aload_n 1, 1)) (by decide +kernel) rfl ?_
  refine Ru.get (i := 23) (v := .ref c1) (by decide +kernel) (by rfl) q6 (by decide) rfl ?_
  refine Ru.op (q := (.iload 6, 2)) (by decide +kernel) rfl ?_
  obtain ⟨g18, h⟩ := gd_some h
  refine Ru.ildI (i := (f8 v3)) (z := (f14 (f8 v3))) (by decide +kernel) q16 g18 rfl ?_
  by_cases b19 : (f14 (f8 v2)) = (f14 (f8 v3))
  · replace h := if_t b19 h
    refine Ru.br2 (k := .eq) (off := 5) (bb := true) (tg := 35) (by decide +kernel) (by decide +kernel) (ci_eq1 (e15 _) (e15 _) b19) rfl ?_
    refine Ru.op (q := (.aload_n 0, 1)) (by decide +kernel) rfl ?_
    refine Ru.op (q := (.aload_n 1, 1)) (by decide +kernel) rfl ?_
    refine Ru.kI (q := (.iconst 0, 1)) (c := 0) (by decide +kernel) rfl (by decide) ?_
    obtain ⟨o20, e21, h⟩ := ob_some h
    refine Ru.vcall (i := 26) (j2 := 68) (as := [.ref v1, vI 0]) (by decide +kernel) (by rfl) rfl rfl (hp20 _) (by decide) ⟨(Nat.le_of_ble_eq_true rfl), (by show 19 + 5 ≤ 3929; exact Nat.le_of_ble_eq_true rfl), Nat.le_of_ble_eq_true rfl, Nat.le_of_ble_eq_true rfl⟩ ((g68_ok e21).up (Nat.le_of_ble_eq_true rfl) (Nat.le_of_ble_eq_true rfl)) ?_
    refine Ru.op (q := (.aload_n 0, 1)) (by decide +kernel) rfl ?_
    refine Ru.op (q := (.iload 5, 2)) (by decide +kernel) rfl ?_
    refine Ru.op (q := (.iload 6, 2)) (by decide +kernel) rfl ?_
    refine Ru.kI (q := (.iconst 0, 1)) (c := 0) (by decide +kernel) rfl (by decide) ?_
    obtain ⟨o22, e23, h⟩ := ob_some h
    refine Ru.vcall (i := 30) (j2 := 69) (as := [vI (f8 v2), vI (f8 v3), vI 0]) (by decide +kernel) (by rfl) rfl rfl (hp20 _) (by decide) ⟨(Nat.le_of_ble_eq_true rfl), (by show 19 + 11 ≤ 3929; exact Nat.le_of_ble_eq_true rfl), Nat.le_of_ble_eq_true rfl, Nat.le_of_ble_eq_true rfl⟩ ((g69_ok 64 e23).up (Nat.le_of_ble_eq_true rfl) (Nat.le_of_ble_eq_true rfl)) ?_
    obtain ⟨g24, h⟩ := gd_some h
    by_cases b25 : o22.1 = 0
    · replace h := if_t b25 h
      refine Ru.br (k := .ne) (off := 5) (bb := false) (tg := 53) (by decide +kernel) (by decide +kernel) (cz (ci_ne0 g24 (by decide) b25)) rfl ?_
      refine Ru.kI (q := (.iconst 0, 1)) (c := 0) (by decide +kernel) rfl (by decide) ?_
      cases h
      exact Ru.iret (by decide +kernel) rfl (nar_b1 (by decide))
    · replace h := if_f b25 h
      refine Ru.br (k := .ne) (off := 5) (bb := true) (tg := 55) (by decide +kernel) (by decide +kernel) (cz (ci_ne1 g24 (by decide) b25)) rfl ?_
      refine Ru.op (q := (.aload 4, 2)) (by decide +kernel) rfl ?_
      obtain ⟨o26, e27, h⟩ := ob_some h
      refine Ru.vcall (i := 34) (j2 := 41) (as := []) (by decide +kernel) (by rfl) rfl rfl (hp15 _) (by decide) ⟨(Nat.le_of_ble_eq_true rfl), (by show 19 + 1 ≤ 3929; exact Nat.le_of_ble_eq_true rfl), Nat.le_of_ble_eq_true rfl, Nat.le_of_ble_eq_true rfl⟩ ((g41_15_ok e27).up (Nat.le_of_ble_eq_true rfl) (Nat.le_of_ble_eq_true rfl)) ?_
      refine Ru.op (q := (.aload_n 0, 1)) (by decide +kernel) rfl ?_
      refine Ru.op (q := (.aload_n 1, 1)) (by decide +kernel) rfl ?_
      refine Ru.op (q := (.iload_n 3, 1)) (by decide +kernel) rfl ?_
      refine Ru.kI (q := (.iconst 0, 1)) (c := 0) (by decide +kernel) rfl (by decide) ?_
      refine Ru.op (q := (.aload 4, 2)) (by decide +kernel) rfl ?_
      obtain ⟨o28, e29, h⟩ := ob_some h
      refine Ru.vcall (i := 39) (j2 := 72) (as := [.ref v1, vI v3, vI 0, .ref 15]) (by decide +kernel) (by rfl) rfl rfl (hp20 _) (by decide) ⟨(Nat.le_of_ble_eq_true rfl), (by show 19 + 6 ≤ 3929; exact Nat.le_of_ble_eq_true rfl), Nat.le_of_ble_eq_true rfl, Nat.le_of_ble_eq_true rfl⟩ ((g72_15_ok e29).up (Nat.le_of_ble_eq_true rfl) (Nat.le_of_ble_eq_true rfl)) ?_
      refine Ru.op (q := (.aload 4, 2)) (by decide +kernel) rfl ?_
      obtain ⟨o30, e31, h⟩ := ob_some h
      refine Ru.vcall (i := 43) (j2 := 48) (as := []) (by decide +kernel) (by rfl) rfl rfl (hp15 _) (by decide) ⟨(Nat.le_of_ble_eq_true rfl), (by show 19 + 5 ≤ 3929; exact Nat.le_of_ble_eq_true rfl), Nat.le_of_ble_eq_true rfl, Nat.le_of_ble_eq_true rfl⟩ ((g48_15_ok e31).up (Nat.le_of_ble_eq_true rfl) (Nat.le_of_ble_eq_true rfl)) ?_
      refine Ru.kI (q := (.iconst 1, 1)) (c := 1) (by decide +kernel) rfl (by decide) ?_
      cases h
      exact Ru.iret (by decide +kernel) rfl (nar_b1 (by decide))
  · replace h := if_f b19 h
    refine Ru.br2 (k := .eq) (off := 5) (bb := false) (tg := 33) (by decide +kernel) (by decide +kernel) (ci_eq0 (e15 _) (e15 _) b19) rfl ?_
    refine Ru.kI (q := (.iconst 0, 1)) (c := 0) (by decide +kernel) rfl (by decide) ?_
    cases h
    exact Ru.iret (by decide +kernel) rfl (nar_b1 (by decide))
