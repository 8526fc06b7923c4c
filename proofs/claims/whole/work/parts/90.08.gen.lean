def g80L34 (rc : St → Nat → Int → Int → Option (St)) (v1 : Nat) (v3 : Int) (v4 : Int) : Nat → Int → Int → St → Option (St)
  | 0, _, _, _ => none
  | n + 1, v5, v6, S => gd (inR v6) (gd (inR v4) (if v6 < v4 then gA S v1 (fun N18 f19 => gd (inR v5) (gd (inR (N18 : Int)) (if v5 < (N18 : Int) then if v6 = 0 then ob (g79 S 40) (fun o26 => ob (rc o26 v1 v5 (v3 + 1)) (fun o28 => gA o28 v1 (fun N30 f31 => ob (g57 o28 v1 v5 (N30 : Int)) (fun o34 => g80L34 rc v1 v3 v4 n o34 (v6 + 1) o28)))) else ob (g79 S 44) (fun o36 => ob (rc o36 v1 v5 (v3 + 1)) (fun o38 => gA o38 v1 (fun N40 f41 => ob (g57 o38 v1 v5 (N40 : Int)) (fun o44 => g80L34 rc v1 v3 v4 n o44 (v6 + 1) o38)))) else some S))) else some S))
set_option maxRecDepth 100000 in
set_option maxHeartbeats 4000000 in
theorem g80L34_ok {FR LO : Nat} {rc : St → Nat → Int → Int → Option (St)} (hF : 13 ≤ FR) (hL : 264 ≤ LO) (hrc : ∀ {S : St} {v1 : Nat} {v2 : Int} {v3 : Int} {o : St}, rc S v1 v2 v3 = some o → Ru none FR LO 80 (0, mn_pad (mn_ent [.ref 28, .ref v1, vI v2, vI v3]) 7, [], S.ns, Hp S) ((0, none), o.ns, Hp o)) {v1 : Nat} {v3 : Int} {v4 : Int} : ∀ (n : Nat) (v5 : Int) (v6 : Int) (S : St) (d2 : Option Value) (out : St), g80L34 rc v1 v3 v4 n v5 v6 S = some out → ∀ r, (∀ (e1 e2 e3 e5 e6 : Option Value), Ru none (FR + 1) (LO + 26) 80 (90, [some (.ref 28), e1, e2, e3, some (vI v4), e5, e6], [], out.ns, Hp out) r) → Ru none (FR + 1) (LO + 26) 80 (34, [some (.ref 28), some (.ref v1), d2, some (vI v3), some (vI v4), some (vI v5), some (vI v6)], [], S.ns, Hp S) r := by
  intro n
  induction n with
  | zero => intro v5 v6 S d2 out h; cases h
  | succ n ih =>
    intro v5 v6 S d2 out h r hk
    unfold g80L34 at h
    refine Ru.op (q := (.iload 6, 2)) (by decide +kernel) rfl ?_
    refine Ru.op (q := (.iload 4, 2)) (by decide +kernel) rfl ?_
    obtain ⟨g15, h⟩ := gd_some h
    obtain ⟨g16, h⟩ := gd_some h
    by_cases b17 : v6 < v4
    · replace h := if_t b17 h
      refine Ru.br2 (k := .ge) (off := 52) (bb := false) (tg := 41) (by decide +kernel) (by decide +kernel) (ci_ge0 g15 g16 b17) rfl ?_
      refine Ru.op (q := (.iload 5, 2)) (by decide +kernel) rfl ?_
      refine Ru.op (q := (.aload_n 1, 1)) (by decide +kernel) rfl ?_
      obtain ⟨N18, f19, e20, q21, h⟩ := gA_some h
      refine Ru.lenI (N := N18) (z := (N18 : Int)) (by decide +kernel) q21 (by decide) (aI_len _ _) rfl ?_
      obtain ⟨g22, h⟩ := gd_some h
      obtain ⟨g23, h⟩ := gd_some h
      by_cases b24 : v5 < (N18 : Int)
      · replace h := if_t b24 h
        refine Ru.br2 (k := .ge) (off := 45) (bb := false) (tg := 48) (by decide +kernel) (by decide +kernel) (ci_ge0 g22 g23 b24) rfl ?_
        refine Ru.op (q := (.aload_n 0, 1)) (by decide +kernel) rfl ?_
        refine Ru.op (q := (.iload 6, 2)) (by decide +kernel) rfl ?_
        by_cases b25 : v6 = 0
        · replace h := if_t b25 h
          refine Ru.br (k := .ne) (off := 8) (bb := false) (tg := 54) (by decide +kernel) (by decide +kernel) (cz (ci_ne0 g15 (by decide) b25)) rfl ?_
          refine Ru.kI (q := (.bipush 40, 2)) (c := 40) (by decide +kernel) rfl (by decide) ?_
          refine Ru.op (q := (.goto 5, 3)) (by decide +kernel) rfl ?_
          obtain ⟨o26, e27, h⟩ := ob_some h
          refine Ru.vcall (i := 24) (j2 := 79) (as := [vI 40]) (by decide +kernel) (by rfl) rfl rfl (hp28 _) (by decide) ⟨(by omega), (by show 19 + 2 ≤ (LO + 26); omega), Nat.le_of_ble_eq_true rfl, Nat.le_of_ble_eq_true rfl⟩ ((g79_ok e27).up (by omega) (by show _ ≤ (LO + 26) - (19 + 2); omega)) ?_
          refine Ru.op (q := (.aload_n 0, 1)) (by decide +kernel) rfl ?_
          refine Ru.op (q := (.aload_n 1, 1)) (by decide +kernel) rfl ?_
          refine Ru.op (q := (.iload 5, 2)) (by decide +kernel) rfl ?_
          refine Ru.op (q := (.iload_n 3, 1)) (by decide +kernel) rfl ?_
          refine Ru.kI (q := (.iconst 1, 1)) (c := 1) (by decide +kernel) rfl (by decide) ?_
          refine Ru.ar2 (i := .iadd) (z := (v3 + 1)) (by decide +kernel) rfl (ar_add _ _) ?_
          obtain ⟨o28, e29, h⟩ := ob_some h
          refine Ru.vcall (i := 35) (j2 := 80) (as := [.ref v1, vI v5, vI (v3 + 1)]) (by decide +kernel) (by rfl) rfl rfl (hp28 _) (by decide) ⟨(by omega), (by show 19 + 7 ≤ (LO + 26); omega), Nat.le_of_ble_eq_true rfl, Nat.le_of_ble_eq_true rfl⟩ ((hrc e29).up (by omega) (by show _ ≤ (LO + 26) - (19 + 7); omega)) ?_
          refine Ru.op (q := (.aload_n 1, 1)) (by decide +kernel) rfl ?_
          refine Ru.op (q := (.iload 5, 2)) (by decide +kernel) rfl ?_
          refine Ru.op (q := (.aload_n 1, 1)) (by decide +kernel) rfl ?_
          obtain ⟨N30, f31, e32, q33, h⟩ := gA_some h
          refine Ru.lenI (N := N30) (z := (N30 : Int)) (by decide +kernel) q33 (by decide) (aI_len _ _) rfl ?_
          obtain ⟨o34, e35, h⟩ := ob_some h
          refine Ru.call (q := (.invokestatic 43, 3)) (j2 := 57) (as := [.ref v1, vI v5, vI (N30 : Int)]) (by decide +kernel) rfl rfl rfl rfl ⟨(by omega), (by show 19 + 5 ≤ (LO + 26); omega), Nat.le_of_ble_eq_true rfl, Nat.le_of_ble_eq_true rfl⟩ ((g57_ok e35).up (by omega) (by show _ ≤ (LO + 26) - (19 + 5); omega)) ?_
          refine Ru.op (q := (.istore 5, 2)) (S' := (84, [some (.ref 28), some (.ref v1), d2, some (vI v3), some (vI v4), some (vI o34), some (vI v6)], [], _, _)) (by decide +kernel) rfl ?_
          refine Ru.inc (x := v6) (z := (v6 + 1)) (xs' := [some (.ref 28), some (.ref v1), d2, some (vI v3), some (vI v4), some (vI o34), some (vI (v6 + 1))]) (by decide +kernel) rfl rfl rfl ?_
          refine Ru.op (q := (.goto (-53), 3)) (by decide +kernel) rfl ?_
          exact ih _ _ _ _ _ h r hk
        · replace h := if_f b25 h
          refine Ru.br (k := .ne) (off := 8) (bb := true) (tg := 59) (by decide +kernel) (by decide +kernel) (cz (ci_ne1 g15 (by decide) b25)) rfl ?_
          refine Ru.kI (q := (.bipush 44, 2)) (c := 44) (by decide +kernel) rfl (by decide) ?_
          obtain ⟨o36, e37, h⟩ := ob_some h
          refine Ru.vcall (i := 24) (j2 := 79) (as := [vI 44]) (by decide +kernel) (by rfl) rfl rfl (hp28 _) (by decide) ⟨(by omega), (by show 19 + 2 ≤ (LO + 26); omega), Nat.le_of_ble_eq_true rfl, Nat.le_of_ble_eq_true rfl⟩ ((g79_ok e37).up (by omega) (by show _ ≤ (LO + 26) - (19 + 2); omega)) ?_
          refine Ru.op (q := (.aload_n 0, 1)) (by decide +kernel) rfl ?_
          refine Ru.op (q := (.aload_n 1, 1)) (by decide +kernel) rfl ?_
          refine Ru.op (q := (.iload 5, 2)) (by decide +kernel) rfl ?_
          refine Ru.op (q := (.iload_n 3, 1)) (by decide +kernel) rfl ?_
          refine Ru.kI (q := (.iconst 1, 1)) (c := 1) (by decide +kernel) rfl (by decide) ?_
          refine Ru.ar2 (i := .iadd) (z := (v3 + 1)) (by decide +kernel) rfl (ar_add _ _) ?_
          obtain ⟨o38, e39, h⟩ := ob_some h
          refine Ru.vcall (i := 35) (j2 := 80) (as := [.ref v1, vI v5, vI (v3 + 1)]) (by decide +kernel) (by rfl) rfl rfl (hp28 _) (by decide) ⟨(by omega), (by show 19 + 7 ≤ (LO + 26); omega), Nat.le_of_ble_eq_true rfl, Nat.le_of_ble_eq_true rfl⟩ ((hrc e39).up (by omega) (by show _ ≤ (LO + 26) - (19 + 7); omega)) ?_
          refine Ru.op (q := (.aload_n 1, 1)) (by decide +kernel) rfl ?_
          refine Ru.op (q := (.iload 5, 2)) (by decide +kernel) rfl ?_
          refine Ru.op (q := (.aload_n 1, 1)) (by decide +kernel) rfl ?_
          obtain ⟨N40, f41, e42, q43, h⟩ := gA_some h
          refine Ru.lenI (N := N40) (z := (N40 : Int)) (by decide +kernel) q43 (by decide) (aI_len _ _) rfl ?_
          obtain ⟨o44, e45, h⟩ := ob_some h
          refine Ru.call (q := (.invokestatic 43, 3)) (j2 := 57) (as := [.ref v1, vI v5, vI (N40 : Int)]) (by decide +kernel) rfl rfl rfl rfl ⟨(by omega), (by show 19 + 5 ≤ (LO + 26); omega), Nat.le_of_ble_eq_true rfl, Nat.le_of_ble_eq_true rfl⟩ ((g57_ok e45).up (by omega) (by show _ ≤ (LO + 26) - (19 + 5); omega)) ?_
          refine Ru.op (q := (.istore 5, 2)) (S' := (84, [some (.ref 28), some (.ref v1), d2, some (vI v3), some (vI v4), some (vI o44), some (vI v6)], [], _, _)) (by decide +kernel) rfl ?_
          refine Ru.inc (x := v6) (z := (v6 + 1)) (xs' := [some (.ref 28), some (.ref v1), d2, some (vI v3), some (vI v4), some (vI o44), some (vI (v6 + 1))]) (by decide +kernel) rfl rfl rfl ?_
          refine Ru.op (q := (.goto (-53), 3)) (by decide +kernel) rfl ?_
          exact ih _ _ _ _ _ h r hk
      · replace h := if_f b24 h
        refine Ru.br2 (k := .ge) (off := 45) (bb := true) (tg := 90) (by decide +kernel) (by decide +kernel) (ci_ge1 g22 g23 b24) rfl ?_
        cases h
        exact hk _ _ _ _ _
    · replace h := if_f b17 h
      refine Ru.br2 (k := .ge) (off := 52) (bb := true) (tg := 90) (by decide +kernel) (by decide +kernel) (ci_ge1 g15 g16 b17) rfl ?_
      cases h
      exact hk _ _ _ _ _
def g80b (rc : St → Nat → Int → Int → Option (St)) (S : St) (v1 : Nat) (v2 : Int) (v3 : Int) : Option (St) := gA S v1 (fun N1 f2 => gd (ixR v2 N1) (ob (g81 S (f2 v2)) (fun o6 => gd (inR v3) (if v3 < 40 then gA o6 v1 (fun N10 f11 => gd (ixR v2 N10) (ob (g80L34 rc v1 v3 ((f11 v2) % 256) FU (v2 + 1) 0 o6) (fun o46 => gd (inR ((f11 v2) % 256)) (if 0 < ((f11 v2) % 256) then ob (g79 o46 41) (fun o55 => some o55) else some o46)))) else ob (g80L34 rc v1 v3 0 FU (v2 + 1) 0 o6) (fun o57 => some o57)))))
set_option maxRecDepth 100000 in
set_option maxHeartbeats 4000000 in
theorem g80b_ok {FR LO : Nat} {rc : St → Nat → Int → Int → Option (St)} (hF : 13 ≤ FR) (hL : 264 ≤ LO) (hrc : ∀ {S : St} {v1 : Nat} {v2 : Int} {v3 : Int} {o : St}, rc S v1 v2 v3 = some o → Ru none FR LO 80 (0, mn_pad (mn_ent [.ref 28, .ref v1, vI v2, vI v3]) 7, [], S.ns, Hp S) ((0, none), o.ns, Hp o)) {S : St} {v1 : Nat} {v2 : Int} {v3 : Int} {o : St} (h : g80b rc S v1 v2 v3 = some o) : Ru none (FR + 1) (LO + 26) 80 (0, mn_pad (mn_ent [.ref 28, .ref v1, vI v2, vI v3]) 7, [], S.ns, Hp S) ((0, none), o.ns, Hp o) := by
  unfold g80b at h
  show Ru none (FR + 1) (LO + 26) 80 (0, [some (.ref 28), some (.ref v1), some (vI v2), some (vI v3), none, none, none], [], S.ns, Hp S) _
  refine Ru.op (q := (.aload_n 0, 1)) (by decide +kernel) rfl ?_
  refine Ru.op (q := (.aload_n 1, 1)) (by decide +kernel) rfl ?_
  refine Ru.op (q := (.iload_n 2, 1)) (by decide +kernel) rfl ?_
  obtain ⟨N1, f2, e3, q4, h⟩ := gA_some h
  obtain ⟨g5, h⟩ := gd_some h
  refine Ru.ildI (i := v2) (z := (f2 v2)) (by decide +kernel) q4 g5 rfl ?_
  obtain ⟨o6, e7, h⟩ := ob_some h
  refine Ru.vcall (i := 39) (j2 := 81) (as := [vI (f2 v2)]) (by decide +kernel) (by rfl) rfl rfl (hp28 _) (by decide) ⟨(by omega), (by show 19 + 3 ≤ (LO + 26); omega), Nat.le_of_ble_eq_true rfl, Nat.le_of_ble_eq_true rfl⟩ ((g81_ok e7).up (by omega) (by show _ ≤ (LO + 26) - (19 + 3); omega)) ?_
  refine Ru.op (q := (.iload_n 3, 1)) (by decide +kernel) rfl ?_
  refine Ru.kI (q := (.bipush 40, 2)) (c := 40) (by decide +kernel) rfl (by decide) ?_
  obtain ⟨g8, h⟩ := gd_some h
  by_cases b9 : v3 < 40
  · replace h := if_t b9 h
    refine Ru.br2 (k := .ge) (off := 13) (bb := false) (tg := 13) (by decide +kernel) (by decide +kernel) (ci_ge0 g8 (by decide) b9) rfl ?_
    refine Ru.op (q := (.aload_n 1, 1)) (by decide +kernel) rfl ?_
    refine Ru.op (q := (.iload_n 2, 1)) (by decide +kernel) rfl ?_
    obtain ⟨N10, f11, e12, q13, h⟩ := gA_some h
    obtain ⟨g14, h⟩ := gd_some h
    refine Ru.ildI (i := v2) (z := (f11 v2)) (by decide +kernel) q13 g14 rfl ?_
    refine Ru.kI (q := (.sipush 255, 3)) (c := 255) (by decide +kernel) rfl (by decide) ?_
    refine Ru.ar2 (i := .iand) (z := ((f11 v2) % 256)) (by decide +kernel) rfl (ar_and _) ?_
    refine Ru.op (q := (.goto 4, 3)) (by decide +kernel) rfl ?_
    refine Ru.op (q := (.istore 4, 2)) (S' := (26, [some (.ref 28), some (.ref v1), some (vI v2), some (vI v3), some (vI ((f11 v2) % 256)), none, none], [], _, _)) (by decide +kernel) rfl ?_
    refine Ru.op (q := (.iload_n 2, 1)) (by decide +kernel) rfl ?_
    refine Ru.kI (q := (.iconst 1, 1)) (c := 1) (by decide +kernel) rfl (by decide) ?_
    refine Ru.ar2 (i := .iadd) (z := (v2 + 1)) (by decide +kernel) rfl (ar_add _ _) ?_
    refine Ru.op (q := (.istore 5, 2)) (S' := (31, [some (.ref 28), some (.ref v1), some (vI v2), some (vI v3), some (vI ((f11 v2) % 256)), some (vI (v2 + 1)), none], [], _, _)) (by decide +kernel) rfl ?_
    refine Ru.kI (q := (.iconst 0, 1)) (c := 0) (by decide +kernel) rfl (by decide) ?_
    refine Ru.op (q := (.istore 6, 2)) (S' := (34, [some (.ref 28), some (.ref v1), some (vI v2), some (vI v3), some (vI ((f11 v2) % 256)), some (vI (v2 + 1)), some (vI 0)], [], _, _)) (by decide +kernel) rfl ?_
    obtain ⟨o46, e52, h⟩ := ob_some h
    refine g80L34_ok hF hL hrc FU _ _ _ _ _ e52 _ ?_
    intro d47 d48 d49 d50 d51
    refine Ru.op (q := (.iload 4, 2)) (by decide +kernel) rfl ?_
    obtain ⟨g53, h⟩ := gd_some h
    by_cases b54 : 0 < ((f11 v2) % 256)
    · replace h := if_t b54 h
      refine Ru.br (k := .le) (off := 9) (bb := false) (tg := 95) (by decide +kernel) (by decide +kernel) (cz (ci_le0 g53 (by decide) b54)) rfl ?_
      refine Ru.op (q := (.aload_n 0, 1)) (by decide +kernel) rfl ?_
      refine Ru.kI (q := (.bipush 41, 2)) (c := 41) (by decide +kernel) rfl (by decide) ?_
      obtain ⟨o55, e56, h⟩ := ob_some h
      refine Ru.vcall (i := 24) (j2 := 79) (as := [vI 41]) (by decide +kernel) (by rfl) rfl rfl (hp28 _) (by decide) ⟨(by omega), (by show 19 + 2 ≤ (LO + 26); omega), Nat.le_of_ble_eq_true rfl, Nat.le_of_ble_eq_true rfl⟩ ((g79_ok e56).up (by omega) (by show _ ≤ (LO + 26) - (19 + 2); omega)) ?_
      cases h
      exact Ru.end (q := (.return_, 1)) (by decide +kernel) rfl rfl
    · replace h := if_f b54 h
      refine Ru.br (k := .le) (off := 9) (bb := true) (tg := 101) (by decide +kernel) (by decide +kernel) (cz (ci_le1 g53 (by decide) b54)) rfl ?_
      cases h
      exact Ru.end (q := (.return_, 1)) (by decide +kernel) rfl rfl
  · replace h := if_f b9 h
    refine Ru.br2 (k := .ge) (off := 13) (bb := true) (tg := 23) (by decide +kernel) (by decide +kernel) (ci_ge1 g8 (by decide) b9) rfl ?_
    refine Ru.kI (q := (.iconst 0, 1)) (c := 0) (by decide +kernel) rfl (by decide) ?_
    refine Ru.op (q := (.istore 4, 2)) (S' := (26, [some (.ref 28), some (.ref v1), some (vI v2), some (vI v3), some (vI 0), none, none], [], _, _)) (by decide +kernel) rfl ?_
    refine Ru.op (q := (.iload_n 2, 1)) (by decide +kernel) rfl ?_
    refine Ru.kI (q := (.iconst 1, 1)) (c := 1) (by decide +kernel) rfl (by decide) ?_
    refine Ru.ar2 (i := .iadd) (z := (v2 + 1)) (by decide +kernel) rfl (ar_add _ _) ?_
    refine Ru.op (q := (.istore 5, 2)) (S' := (31, [some (.ref 28), some (.ref v1), some (vI v2), some (vI v3), some (vI 0), some (vI (v2 + 1)), none], [], _, _)) (by decide +kernel) rfl ?_
    refine Ru.kI (q := (.iconst 0, 1)) (c := 0) (by decide +kernel) rfl (by decide) ?_
    refine Ru.op (q := (.istore 6, 2)) (S' := (34, [some (.ref 28), some (.ref v1), some (vI v2), some (vI v3), some (vI 0), some (vI (v2 + 1)), some (vI 0)], [], _, _)) (by decide +kernel) rfl ?_
    obtain ⟨o57, e63, h⟩ := ob_some h
    refine g80L34_ok hF hL hrc FU _ _ _ _ _ e63 _ ?_
    intro d58 d59 d60 d61 d62
    refine Ru.op (q := (.iload 4, 2)) (by decide +kernel) rfl ?_
    refine Ru.br (k := .le) (off := 9) (bb := true) (tg := 101) (by decide +kernel) (by decide +kernel) (by decide) rfl ?_
    cases h
    exact Ru.end (q := (.return_, 1)) (by decide +kernel) rfl rfl
def g80 : Nat → St → Nat → Int → Int → Option (St)
  | 0, _, _, _, _ => none
  | n + 1, S, v1, v2, v3 => g80b (g80 n) S v1 v2 v3
theorem g80_ok : ∀ (n : Nat) {S : St} {v1 : Nat} {v2 : Int} {v3 : Int} {o : St}, g80 n S v1 v2 v3 = some o → Ru none (13 + 1 * n) (264 + 26 * n) 80 (0, mn_pad (mn_ent [.ref 28, .ref v1, vI v2, vI v3]) 7, [], S.ns, Hp S) ((0, none), o.ns, Hp o) := by
  intro n
  induction n with
  | zero => intro S v1 v2 v3 o h; cases h
  | succ n ih => intro S v1 v2 v3 o h; exact (g80b_ok (FR := 13 + 1 * n) (LO := 264 + 26 * n) (by omega) (by omega) ih h).up (by omega) (by omega)
def g78L20 (v1 : Nat) : Nat → Int → St → Option (St)
  | 0, _, _ => none
  | n + 1, v2, S => gC S v1 (fun c10 c11 n12 n13 => gd (inR v2) (if v2 < n12 then if 0 < v2 then ob (g79 S 124) (fun o19 => gC o19 v1 (fun c21 c22 n23 n24 => gA o19 c22 (fun N27 f28 => gd (ixR v2 N27) (ob (g80 64 o19 c21 (f28 v2) 0) (fun o32 => g78L20 v1 n (v2 + 1) o32))))) else gA S c11 (fun N34 f35 => gd (ixR v2 N34) (ob (g80 64 S c10 (f35 v2) 0) (fun o39 => g78L20 v1 n (v2 + 1) o39))) else some S))
set_option maxRecDepth 100000 in
set_option maxHeartbeats 4000000 in
theorem g78L20_ok {v1 : Nat} : ∀ (n : Nat) (v2 : Int) (S : St) (out : St), g78L20 v1 n v2 S = some out → ∀ r, (∀ (e0 e1 e2 : Option Value), Ru none 78 1954 78 (59, [e0, e1, e2], [], out.ns, Hp out) r) → Ru none 78 1954 78 (20, [some (.ref 28), some (.ref v1), some (vI v2)], [], S.ns, Hp S) r := by
  intro n
  induction n with
  | zero => intro v2 S out h; cases h
  | succ n ih =>
    intro v2 S out h r hk
    unfold g78L20 at h
    refine Ru.op (q := (.iload_n 2, 1)) (by decide +kernel) rfl ?_
    refine Ru.op (q := (.aload_n 1, 1)) (by decide +kernel) rfl ?_
    obtain ⟨c10, c11, n12, n13, e14, q15, h⟩ := gC_some h
    refine Ru.get (i := 19) (v := vI n12) (by decide +kernel) (by rfl) q15 (by decide) rfl ?_
    obtain ⟨g16, h⟩ := gd_some h
    by_cases b17 : v2 < n12
    · replace h := if_t b17 h
      refine Ru.br2 (k := .ge) (off := 34) (bb := false) (tg := 28) (by decide +kernel) (by decide +kernel) (ci_ge0 g16 e14.1 b17) rfl ?_
      refine Ru.op (q := (.iload_n 2, 1)) (by decide +kernel) rfl ?_
      by_cases b18 : 0 < v2
      · replace h := if_t b18 h
        refine Ru.br (k := .le) (off := 9) (bb := false) (tg := 32) (by decide +kernel) (by decide +kernel) (cz (ci_le0 g16 (by decide) b18)) rfl ?_
        refine Ru.op (q := (.aload_n 0, 1)) (by decide +kernel) rfl ?_
        refine Ru.kI (q := (.bipush 124, 2)) (c := 124) (by decide +kernel) rfl (by decide) ?_
        obtain ⟨o19, e20, h⟩ := ob_some h
        refine Ru.vcall (i := 24) (j2 := 79) (as := [vI 124]) (by decide +kernel) (by rfl) rfl rfl (hp28 _) (by decide) ⟨(Nat.le_of_ble_eq_true rfl), (by show 19 + 2 ≤ 1954; exact Nat.le_of_ble_eq_true rfl), Nat.le_of_ble_eq_true rfl, Nat.le_of_ble_eq_true rfl⟩ ((g79_ok e20).up (Nat.le_of_ble_eq_true rfl) (Nat.le_of_ble_eq_true rfl)) ?_
        refine Ru.op (q := (.aload_n 0, 1)) (by decide +kernel) rfl ?_
        refine Ru.op (q := (.aload_n 1, 1)) (by decide +kernel) rfl ?_
        obtain ⟨c21, c22, n23, n24, e25, q26, h⟩ := gC_some h
        refine Ru.get (i := 28) (v := .ref c21) (by decide +kernel) (by rfl) q26 (by decide) rfl ?_
        refine Ru.op (q := (.aload_n 1, 1)) (by decide +kernel) rfl ?_
        refine Ru.get (i := 32) (v := .ref c22) (by decide +kernel) (by rfl) q26 (by decide) rfl ?_
        refine Ru.op (q := (.iload_n 2, 1)) (by decide +kernel) rfl ?_
        obtain ⟨N27, f28, e29, q30, h⟩ := gA_some h
        obtain ⟨g31, h⟩ := gd_some h
        refine Ru.ildI (i := v2) (z := (f28 v2)) (by decide +kernel) q30 g31 rfl ?_
        refine Ru.kI (q := (.iconst 0, 1)) (c := 0) (by decide +kernel) rfl (by decide) ?_
        obtain ⟨o32, e33, h⟩ := ob_some h
        refine Ru.vcall (i := 35) (j2 := 80) (as := [.ref c21, vI (f28 v2), vI 0]) (by decide +kernel) (by rfl) rfl rfl (hp28 _) (by decide) ⟨(Nat.le_of_ble_eq_true rfl), (by show 19 + 7 ≤ 1954; exact Nat.le_of_ble_eq_true rfl), Nat.le_of_ble_eq_true rfl, Nat.le_of_ble_eq_true rfl⟩ ((g80_ok 64 e33).up (Nat.le_of_ble_eq_true rfl) (Nat.le_of_ble_eq_true rfl)) ?_
        refine Ru.inc (x := v2) (z := (v2 + 1)) (xs' := [some (.ref 28), some (.ref v1), some (vI (v2 + 1))]) (by decide +kernel) rfl rfl rfl ?_
        refine Ru.op (q := (.goto (-36), 3)) (by decide +kernel) rfl ?_
        exact ih _ _ _ h r hk
      · replace h := if_f b18 h
        refine Ru.br (k := .le) (off := 9) (bb := true) (tg := 38) (by decide +kernel) (by decide +kernel) (cz (ci_le1 g16 (by decide) b18)) rfl ?_
        refine Ru.op (q := (.aload_n 0, 1)) (by decide +kernel) rfl ?_
        refine Ru.op (q := (.aload_n 1, 1)) (by decide +kernel) rfl ?_
        refine Ru.get (i := 28) (v := .ref c10) (by decide +kernel) (by rfl) q15 (by decide) rfl ?_
        refine Ru.op (q := (.aload_n 1, 1)) (by decide +kernel) rfl ?_
        refine Ru.get (i := 32) (v := .ref c11) (by decide +kernel) (by rfl) q15 (by decide) rfl ?_
        refine Ru.op (q := (.iload_n 2, 1)) (by decide +kernel) rfl ?_
        obtain ⟨N34, f35, e36, q37, h⟩ := gA_some h
        obtain ⟨g38, h⟩ := gd_some h
        refine Ru.ildI (i := v2) (z := (f35 v2)) (by decide +kernel) q37 g38 rfl ?_
        refine Ru.kI (q := (.iconst 0, 1)) (c := 0) (by decide +kernel) rfl (by decide) ?_
        obtain ⟨o39, e40, h⟩ := ob_some h
        refine Ru.vcall (i := 35) (j2 := 80) (as := [.ref c10, vI (f35 v2), vI 0]) (by decide +kernel) (by rfl) rfl rfl (hp28 _) (by decide) ⟨(Nat.le_of_ble_eq_true rfl), (by show 19 + 7 ≤ 1954; exact Nat.le_of_ble_eq_true rfl), Nat.le_of_ble_eq_true rfl, Nat.le_of_ble_eq_true rfl⟩ ((g80_ok 64 e40).up (Nat.le_of_ble_eq_true rfl) (Nat.le_of_ble_eq_true rfl)) ?_
        refine Ru.inc (x := v2) (z := (v2 + 1)) (xs' := [some (.ref 28), some (.ref v1), some (vI (v2 + 1))]) (by decide +kernel) rfl rfl rfl ?_
        refine Ru.op (q := (.goto (-36), 3)) (by decide +kernel) rfl ?_
        exact ih _ _ _ h r hk
    · replace h := if_f b17 h
      refine Ru.br2 (k := .ge) (off := 34) (bb := true) (tg := 59) (by decide +kernel) (by decide +kernel) (ci_ge1 g16 e14.1 b17) rfl ?_
      cases h
      exact hk _ _ _
def g78 (S : St) (v1 : Nat) : Option (St) := gC (S.f 28 1 0) v1 (fun c1 c2 n3 n4 => if n3 = 0 then ob (g79 (S.f 28 1 0) 48) (fun o8 => ob (g78L20 v1 FU 0 o8) (fun o41 => some o41)) else ob (g78L20 v1 FU 0 (S.f 28 1 0)) (fun o46 => some o46))
set_option maxRecDepth 100000 in
set_option maxHeartbeats 4000000 in
theorem g78_ok {S : St} {v1 : Nat} {o : St} (h : g78 S v1 = some o) : Ru none 78 1954 78 (0, mn_pad (mn_ent [.ref 28, .ref v1]) 3, [], S.ns, Hp S) ((0, none), o.ns, Hp o) := by
  unfold g78 at h
  show Ru none 78 1954 78 (0, [some (.ref 28), some (.ref v1), none], [], S.ns, Hp S) _
  refine Ru.op (q := (.aload_n 0, 1)) (by decide +kernel) rfl ?_
  refine Ru.kI (q := (.iconst 0, 1)) (c := 0) (by decide +kernel) rfl (by decide) ?_
  refine Ru.putH (i := 15) (by decide +kernel) (by rfl) (hp28 _) (by decide) (Nat.le_of_ble_eq_true rfl) rfl (by decide +kernel) (pf_28_1 _ _) ?_
  refine Ru.op (q := (.aload_n 1, 1)) (by decide +kernel) rfl ?_
  obtain ⟨c1, c2, n3, n4, e5, q6, h⟩ := gC_some h
  refine Ru.get (i := 19) (v := vI n3) (by decide +kernel) (by rfl) q6 (by decide) rfl ?_
  by_cases b7 : n3 = 0
  · replace h := if_t b7 h
    refine Ru.br (k := .ne) (off := 9) (bb := false) (tg := 12) (by decide +kernel) (by decide +kernel) (cz (ci_ne0 e5.1 (by decide) b7)) rfl ?_
    refine Ru.op (q := (.aload_n 0, 1)) (by decide +kernel) rfl ?_
    refine Ru.kI (q := (.bipush 48, 2)) (c := 48) (by decide +kernel) rfl (by decide) ?_
    obtain ⟨o8, e9, h⟩ := ob_some h
    refine Ru.vcall (i := 24) (j2 := 79) (as := [vI 48]) (by decide +kernel) (by rfl) rfl rfl (hp28 _) (by decide) ⟨(Nat.le_of_ble_eq_true rfl), (by show 19 + 2 ≤ 1954; exact Nat.le_of_ble_eq_true rfl), Nat.le_of_ble_eq_true rfl, Nat.le_of_ble_eq_true rfl⟩ ((g79_ok e9).up (Nat.le_of_ble_eq_true rfl) (Nat.le_of_ble_eq_true rfl)) ?_
    refine Ru.kI (q := (.iconst 0, 1)) (c := 0) (by decide +kernel) rfl (by decide) ?_
    refine Ru.op (q := (.istore_n 2, 1)) (S' := (20, [some (.ref 28), some (.ref v1), some (vI 0)], [], _, _)) (by decide +kernel) rfl ?_
    obtain ⟨o41, e45, h⟩ := ob_some h
    refine g78L20_ok FU _ _ _ e45 _ ?_
    intro d42 d43 d44
    cases h
    exact Ru.end (q := (.return_, 1)) (by decide +kernel) rfl rfl
  · replace h := if_f b7 h
    refine Ru.br (k := .ne) (off := 9) (bb := true) (tg := 18) (by decide +kernel) (by decide +kernel) (cz (ci_ne1 e5.1 (by decide) b7)) rfl ?_
    refine Ru.kI (q := (.iconst 0, 1)) (c := 0) (by decide +kernel) rfl (by decide) ?_
    refine Ru.op (q := (.istore_n 2, 1)) (S' := (20, [some (.ref 28), some (.ref v1), some (vI 0)], [], _, _)) (by decide +kernel) rfl ?_
    obtain ⟨o46, e50, h⟩ := ob_some h
    refine g78L20_ok FU _ _ _ e50 _ ?_
    intro d47 d48 d49
    cases h
    exact Ru.end (q := (.return_, 1)) (by decide +kernel) rfl rfl
def g77 (S : St) (v1 : Int) (v2 : Int) : Option (Nat × Int × St) := gd (inR v1) (if v1 = 0 then gd (inR v2) (if v2 < 0 then some (3, 0, S.ho) else if v2 < (S.F 13 1) then gd (ixR v2 100) (ob (S.R 14 v2) (fun c7 => gK S c7 (fun c9 n10 n11 n12 n13 n14 n15 => ob (g78 S c9) (fun o18 => some (0, (o18.F 28 1), o18))))) else some (3, 0, S.ho)) else gd (inR v2) (if v2 < 0 then some (3, 0, S.ho) else if v2 < (S.F 0 5) then gd (ixR v2 24) (ob (S.R 35 v2) (fun c24 => ob (g78 S c24) (fun o26 => some (0, (o26.F 28 1), o26)))) else some (3, 0, S.ho)))
set_option maxRecDepth 100000 in
set_option maxHeartbeats 4000000 in
theorem g77_ok {S : St} {v1 : Int} {v2 : Int} {o : Nat × Int × St} (h : g77 S v1 v2 = some o) : Ru none 79 1976 77 (0, mn_pad (mn_ent [.ref 0, vI v1, vI v2]) 4, [], S.ns, Hp S) ((o.1, tv o.1 o.2.1), o.2.2.ns, Hp o.2.2) := by
  unfold g77 at h
  show Ru none 79 1976 77 (0, [some (.ref 0), some (vI v1), some (vI v2), none], [], S.ns, Hp S) _
  refine Ru.op (q := (.iload_n 1, 1)) (by decide +kernel) rfl ?_
  obtain ⟨g1, h⟩ := gd_some h
  by_cases b2 : v1 = 0
  · replace h := if_t b2 h
    refine Ru.br (k := .eq) (off := 10) (bb := true) (tg := 11) (by decide +kernel) (by decide +kernel) (cz (ci_eq1 g1 (by decide) b2)) rfl ?_
    refine Ru.op (q := (.aload_n 0, 1)) (by decide +kernel) rfl ?_
    refine Ru.get (i := 19) (v := .ref 13) (by decide +kernel) (by rfl) (hp0 _) (by decide) rfl ?_
    refine Ru.getI (i := 105) (x := (S.F 13 1)) (by decide +kernel) (by rfl) (hp13 _) (by decide) rfl (eI_of _) ?_
    refine Ru.op (q := (.istore_n 3, 1)) (S' := (19, [some (.ref 0), some (vI v1), some (vI v2), some (vI (S.F 13 1))], [], _, _)) (by decide +kernel) rfl ?_
    refine Ru.op (q := (.iload_n 2, 1)) (by decide +kernel) rfl ?_
    obtain ⟨g3, h⟩ := gd_some h
    by_cases b4 : v2 < 0
    · replace h := if_t b4 h
      refine Ru.br (k := .lt) (off := 8) (bb := true) (tg := 28) (by decide +kernel) (by decide +kernel) (cz (ci_lt1 g3 (by decide) b4)) rfl ?_
      cases h
      exact tho (S := S) (Ru.thr (q := (.new 108, 3)) (by decide +kernel) rfl rfl (by decide +kernel))
    · replace h := if_f b4 h
      refine Ru.br (k := .lt) (off := 8) (bb := false) (tg := 23) (by decide +kernel) (by decide +kernel) (cz (ci_lt0 g3 (by decide) b4)) rfl ?_
      refine Ru.op (q := (.iload_n 2, 1)) (by decide +kernel) rfl ?_
      refine Ru.op (q := (.iload_n 3, 1)) (by decide +kernel) rfl ?_
      by_cases b5 : v2 < (S.F 13 1)
      · replace h := if_t b5 h
        refine Ru.br2 (k := .lt) (off := 11) (bb := true) (tg := 36) (by decide +kernel) (by decide +kernel) (ci_lt1 g3 (inR_to _) b5) rfl ?_
        refine Ru.op (q := (.aload_n 0, 1)) (by decide +kernel) rfl ?_
        refine Ru.get (i := 26) (v := .ref 28) (by decide +kernel) (by rfl) (hp0 _) (by decide) rfl ?_
        refine Ru.op (q := (.iload_n 1, 1)) (by decide +kernel) rfl ?_
        refine Ru.br (k := .eq) (off := 12) (bb := true) (tg := 53) (by decide +kernel) (by decide +kernel) (cz (ci_eq1 g1 (by decide) b2)) rfl ?_
        refine Ru.op (q := (.aload_n 0, 1)) (by decide +kernel) rfl ?_
        refine Ru.get (i := 19) (v := .ref 13) (by decide +kernel) (by rfl) (hp0 _) (by decide) rfl ?_
        refine Ru.get (i := 111) (v := .ref 14) (by decide +kernel) (by rfl) (hp13 _) (by decide) rfl ?_
        refine Ru.op (q := (.iload_n 2, 1)) (by decide +kernel) rfl ?_
        obtain ⟨g6, h⟩ := gd_some h
        obtain ⟨c7, e8, h⟩ := ob_some h
        refine Ru.aldI (i := v2) (b := c7) (by decide +kernel) (hp14 _) (by decide) g6 e8 ?_
        obtain ⟨c9, n10, n11, n12, n13, n14, n15, e16, q17, h⟩ := gK_some h
        refine Ru.get (i := 115) (v := .ref c9) (by decide +kernel) (by rfl) q17 (by decide) rfl ?_
        obtain ⟨o18, e19, h⟩ := ob_some h
        refine Ru.vcall (i := 121) (j2 := 78) (as := [.ref c9]) (by decide +kernel) (by rfl) rfl rfl (hp28 _) (by decide) ⟨(Nat.le_of_ble_eq_true rfl), (by show 19 + 3 ≤ 1976; exact Nat.le_of_ble_eq_true rfl), Nat.le_of_ble_eq_true rfl, Nat.le_of_ble_eq_true rfl⟩ ((g78_ok e19).up (Nat.le_of_ble_eq_true rfl) (Nat.le_of_ble_eq_true rfl)) ?_
        refine Ru.op (q := (.aload_n 0, 1)) (by decide +kernel) rfl ?_
        refine Ru.get (i := 26) (v := .ref 28) (by decide +kernel) (by rfl) (hp0 _) (by decide) rfl ?_
        refine Ru.getI (i := 125) (x := (o18.F 28 1)) (by decide +kernel) (by rfl) (hp28 _) (by decide) rfl (eI_of _) ?_
        cases h
        exact Ru.iret (by decide +kernel) rfl rfl
      · replace h := if_f b5 h
        refine Ru.br2 (k := .lt) (off := 11) (bb := false) (tg := 28) (by decide +kernel) (by decide +kernel) (ci_lt0 g3 (inR_to _) b5) rfl ?_
        cases h
        exact tho (S := S) (Ru.thr (q := (.new 108, 3)) (by decide +kernel) rfl rfl (by decide +kernel))
  · replace h := if_f b2 h
    refine Ru.br (k := .eq) (off := 10) (bb := false) (tg := 4) (by decide +kernel) (by decide +kernel) (cz (ci_eq0 g1 (by decide) b2)) rfl ?_
    refine Ru.op (q := (.aload_n 0, 1)) (by decide +kernel) rfl ?_
    refine Ru.getI (i := 102) (x := (S.F 0 5)) (by decide +kernel) (by rfl) (hp0 _) (by decide) rfl (eI_of _) ?_
    refine Ru.op (q := (.goto 10, 3)) (by decide +kernel) rfl ?_
    refine Ru.op (q := (.istore_n 3, 1)) (S' := (19, [some (.ref 0), some (vI v1), some (vI v2), some (vI (S.F 0 5))], [], _, _)) (by decide +kernel) rfl ?_
    refine Ru.op (q := (.iload_n 2, 1)) (by decide +kernel) rfl ?_
    obtain ⟨g20, h⟩ := gd_some h
    by_cases b21 : v2 < 0
    · replace h := if_t b21 h
      refine Ru.br (k := .lt) (off := 8) (bb := true) (tg := 28) (by decide +kernel) (by decide +kernel) (cz (ci_lt1 g20 (by decide) b21)) rfl ?_
      cases h
      exact tho (S := S) (Ru.thr (q := (.new 108, 3)) (by decide +kernel) rfl rfl (by decide +kernel))
    · replace h := if_f b21 h
      refine Ru.br (k := .lt) (off := 8) (bb := false) (tg := 23) (by decide +kernel) (by decide +kernel) (cz (ci_lt0 g20 (by decide) b21)) rfl ?_
      refine Ru.op (q := (.iload_n 2, 1)) (by decide +kernel) rfl ?_
      refine Ru.op (q := (.iload_n 3, 1)) (by decide +kernel) rfl ?_
      by_cases b22 : v2 < (S.F 0 5)
      · replace h := if_t b22 h
        refine Ru.br2 (k := .lt) (off := 11) (bb := true) (tg := 36) (by decide +kernel) (by decide +kernel) (ci_lt1 g20 (inR_to _) b22) rfl ?_
        refine Ru.op (q := (.aload_n 0, 1)) (by decide +kernel) rfl ?_
        refine Ru.get (i := 26) (v := .ref 28) (by decide +kernel) (by rfl) (hp0 _) (by decide) rfl ?_
        refine Ru.op (q := (.iload_n 1, 1)) (by decide +kernel) rfl ?_
        refine Ru.br (k := .eq) (off := 12) (bb := false) (tg := 44) (by decide +kernel) (by decide +kernel) (cz (ci_eq0 g1 (by decide) b2)) rfl ?_
        refine Ru.op (q := (.aload_n 0, 1)) (by decide +kernel) rfl ?_
        refine Ru.get (i := 39) (v := .ref 35) (by decide +kernel) (by rfl) (hp0 _) (by decide) rfl ?_
        refine Ru.op (q := (.iload_n 2, 1)) (by decide +kernel) rfl ?_
        obtain ⟨g23, h⟩ := gd_some h
        obtain ⟨c24, e25, h⟩ := ob_some h
        refine Ru.aldI (i := v2) (b := c24) (by decide +kernel) (hp35 _) (by decide) g23 e25 ?_
        refine Ru.op (q := (.goto 15, 3)) (by decide +kernel) rfl ?_
        obtain ⟨o26, e27, h⟩ := ob_some h
        refine Ru.vcall (i := 121) (j2 := 78) (as := [.ref c24]) (by decide +kernel) (by rfl) rfl rfl (hp28 _) (by decide) ⟨(Nat.le_of_ble_eq_true rfl), (by show 19 + 3 ≤ 1976; exact Nat.le_of_ble_eq_true rfl), Nat.le_of_ble_eq_true rfl, Nat.le_of_ble_eq_true rfl⟩ ((g78_ok e27).up (Nat.le_of_ble_eq_true rfl) (Nat.le_of_ble_eq_true rfl)) ?_
        refine Ru.op (q := (.aload_n 0, 1)) (by decide +kernel) rfl ?_
        refine Ru.get (i := 26) (v := .ref 28) (by decide +kernel) (by rfl) (hp0 _) (by decide) rfl ?_
        refine Ru.getI (i := 125) (x := (o26.F 28 1)) (by decide +kernel) (by rfl) (hp28 _) (by decide) rfl (eI_of _) ?_
        cases h
        exact Ru.iret (by decide +kernel) rfl rfl
      · replace h := if_f b22 h
        refine Ru.br2 (k := .lt) (off := 11) (bb := false) (tg := 28) (by decide +kernel) (by decide +kernel) (ci_lt0 g20 (inR_to _) b22) rfl ?_
        cases h
        exact tho (S := S) (Ru.thr (q := (.new 108, 3)) (by decide +kernel) rfl rfl (by decide +kernel))
def g83 (S : St) (v1 : Int) : Option (Nat × Int × St) := gd (inR v1) (if v1 < 0 then some (3, 0, S.ho) else if v1 < (S.F 28 1) then gd (ixR v1 128) (gd (chR (S.A 29 v1)) (some (0, (S.A 29 v1), S))) else some (3, 0, S.ho))
set_option maxRecDepth 100000 in
set_option maxHeartbeats 4000000 in
theorem g83_ok {S : St} {v1 : Int} {o : Nat × Int × St} (h : g83 S v1 = some o) : Ru none 10 200 83 (0, mn_pad (mn_ent [.ref 0, vI v1]) 2, [], S.ns, Hp S) ((o.1, tv o.1 o.2.1), o.2.2.ns, Hp o.2.2) := by
  unfold g83 at h
  show Ru none 10 200 83 (0, [some (.ref 0), some (vI v1)], [], S.ns, Hp S) _
  refine Ru.op (q := (.iload_n 1, 1)) (by decide +kernel) rfl ?_
  obtain ⟨g1, h⟩ := gd_some h
  by_cases b2 : v1 < 0
  · replace h := if_t b2 h
    refine Ru.br (k := .lt) (off := 14) (bb := true) (tg := 15) (by decide +kernel) (by decide +kernel) (cz (ci_lt1 g1 (by decide) b2)) rfl ?_
    cases h
    exact tho (S := S) (Ru.thr (q := (.new 108, 3)) (by decide +kernel) rfl rfl (by decide +kernel))
  · replace h := if_f b2 h
    refine Ru.br (k := .lt) (off := 14) (bb := false) (tg := 4) (by decide +kernel) (by decide +kernel) (cz (ci_lt0 g1 (by decide) b2)) rfl ?_
    refine Ru.op (q := (.iload_n 1, 1)) (by decide +kernel) rfl ?_
    refine Ru.op (q := (.aload_n 0, 1)) (by decide +kernel) rfl ?_
    refine Ru.get (i := 26) (v := .ref 28) (by decide +kernel) (by rfl) (hp0 _) (by decide) rfl ?_
    refine Ru.getI (i := 125) (x := (S.F 28 1)) (by decide +kernel) (by rfl) (hp28 _) (by decide) rfl (eI_of _) ?_
    by_cases b3 : v1 < (S.F 28 1)
    · replace h := if_t b3 h
      refine Ru.br2 (k := .lt) (off := 11) (bb := true) (tg := 23) (by decide +kernel) (by decide +kernel) (ci_lt1 g1 (inR_to _) b3) rfl ?_
      refine Ru.op (q := (.aload_n 0, 1)) (by decide +kernel) rfl ?_
      refine Ru.get (i := 26) (v := .ref 28) (by decide +kernel) (by rfl) (hp0 _) (by decide) rfl ?_
      refine Ru.get (i := 126) (v := .ref 29) (by decide +kernel) (by rfl) (hp28 _) (by decide) rfl ?_
      refine Ru.op (q := (.iload_n 1, 1)) (by decide +kernel) rfl ?_
      obtain ⟨g4, h⟩ := gd_some h
      refine Ru.cldI (i := v1) (z := (S.A 29 v1)) (by decide +kernel) (hp29 _) g4 (eI_of _) ?_
      obtain ⟨g5, h⟩ := gd_some h
      cases h
      exact Ru.iret (by decide +kernel) rfl (nar_ch g5)
    · replace h := if_f b3 h
      refine Ru.br2 (k := .lt) (off := 11) (bb := false) (tg := 15) (by decide +kernel) (by decide +kernel) (ci_lt0 g1 (inR_to _) b3) rfl ?_
      cases h
      exact tho (S := S) (Ru.thr (q := (.new 108, 3)) (by decide +kernel) rfl rfl (by decide +kernel))
def g84 (S : St) (v1 : Int) (v2 : Int) : Option (Nat × Int × St) := gd (inR v1) (if v1 < 0 then some (3, 0, S.ho) else if v1 < (S.F 13 1) then gd (ixR v1 100) (ob (S.R 14 v1) (fun c5 => gd (inR v2) (if v2 = 0 then gK S c5 (fun c9 n10 n11 n12 n13 n14 n15 => some (0, n10, S)) else if v2 = 1 then gK S c5 (fun c19 n20 n21 n22 n23 n24 n25 => gC S c19 (fun c28 c29 n30 n31 => some (0, n30, S))) else if v2 = 2 then gK S c5 (fun c35 n36 n37 n38 n39 n40 n41 => gC S c35 (fun c44 c45 n46 n47 => some (0, n47, S))) else if v2 = 3 then gK S c5 (fun c51 n52 n53 n54 n55 n56 n57 => some (0, n53, S)) else if v2 = 4 then gK S c5 (fun c61 n62 n63 n64 n65 n66 n67 => some (0, n64, S)) else if v2 = 5 then gK S c5 (fun c71 n72 n73 n74 n75 n76 n77 => some (0, n75, S)) else if v2 = 6 then gK S c5 (fun c81 n82 n83 n84 n85 n86 n87 => some (0, n86, S)) else if v2 = 7 then gK S c5 (fun c91 n92 n93 n94 n95 n96 n97 => some (0, n97, S)) else some (1, 0, S.ho)))) else some (3, 0, S.ho))
set_option maxRecDepth 100000 in
set_option maxHeartbeats 4000000 in
theorem g84_ok {S : St} {v1 : Int} {v2 : Int} {o : Nat × Int × St} (h : g84 S v1 v2 = some o) : Ru none 10 200 84 (0, mn_pad (mn_ent [.ref 0, vI v1, vI v2]) 4, [], S.ns, Hp S) ((o.1, tv o.1 o.2.1), o.2.2.ns, Hp o.2.2) := by
  unfold g84 at h
  show Ru none 10 200 84 (0, [some (.ref 0), some (vI v1), some (vI v2), none], [], S.ns, Hp S) _
  refine Ru.op (q := (.iload_n 1, 1)) (by decide +kernel) rfl ?_
  obtain ⟨g1, h⟩ := gd_some h
  by_cases b2 : v1 < 0
  · replace h := if_t b2 h
    refine Ru.br (k := .lt) (off := 14) (bb := true) (tg := 15) (by decide +kernel) (by decide +kernel) (cz (ci_lt1 g1 (by decide) b2)) rfl ?_
    cases h
    exact tho (S := S) (Ru.thr (q := (.new 108, 3)) (by decide +kernel) rfl rfl (by decide +kernel))
  · replace h := if_f b2 h
    refine Ru.br (k := .lt) (off := 14) (bb := false) (tg := 4) (by decide +kernel) (by decide +kernel) (cz (ci_lt0 g1 (by decide) b2)) rfl ?_
    refine Ru.op (q := (.iload_n 1, 1)) (by decide +kernel) rfl ?_
    refine Ru.op (q := (.aload_n 0, 1)) (by decide +kernel) rfl ?_
    refine Ru.get (i := 19) (v := .ref 13) (by decide +kernel) (by rfl) (hp0 _) (by decide) rfl ?_
    refine Ru.getI (i := 105) (x := (S.F 13 1)) (by decide +kernel) (by rfl) (hp13 _) (by decide) rfl (eI_of _) ?_
    by_cases b3 : v1 < (S.F 13 1)
    · replace h := if_t b3 h
      refine Ru.br2 (k := .lt) (off := 11) (bb := true) (tg := 23) (by decide +kernel) (by decide +kernel) (ci_lt1 g1 (inR_to _) b3) rfl ?_
      refine Ru.op (q := (.aload_n 0, 1)) (by decide +kernel) rfl ?_
      refine Ru.get (i := 19) (v := .ref 13) (by decide +kernel) (by rfl) (hp0 _) (by decide) rfl ?_
      refine Ru.get (i := 111) (v := .ref 14) (by decide +kernel) (by rfl) (hp13 _) (by decide) rfl ?_
      refine Ru.op (q := (.iload_n 1, 1)) (by decide +kernel) rfl ?_
      obtain ⟨g4, h⟩ := gd_some h
      obtain ⟨c5, e6, h⟩ := ob_some h
      refine Ru.aldI (i := v1) (b := c5) (by decide +kernel) (hp14 _) (by decide) g4 e6 ?_
      refine Ru.op (q := (.astore_n 3, 1)) (S' := (33, [some (.ref 0), some (vI v1), some (vI v2), some (.ref c5)], [], _, _)) (by decide +kernel) rfl ?_
      refine Ru.op (q := (.iload_n 2, 1)) (by decide +kernel) rfl ?_
      obtain ⟨g7, h⟩ := gd_some h
      by_cases b8 : v2 = 0
      · replace h := if_t b8 h
        refine Ru.sw (d := 92) (lo2 := 0) (hi := 7) (offs := #[46, 51, 59, 67, 72, 77, 82, 87]) (len := 46) (tg := 80) (by decide +kernel) (by rw [b8]; decide +kernel) ?_
        refine Ru.op (q := (.aload_n 3, 1)) (by decide +kernel) rfl ?_
        obtain ⟨c9, n10, n11, n12, n13, n14, n15, e16, q17, h⟩ := gK_some h
        refine Ru.get (i := 129) (v := vI n10) (by decide +kernel) (by rfl) q17 (by decide) rfl ?_
        cases h
        exact Ru.iret (by decide +kernel) rfl rfl
      · replace h := if_f b8 h
        by_cases b18 : v2 = 1
        · replace h := if_t b18 h
          refine Ru.sw (d := 92) (lo2 := 0) (hi := 7) (offs := #[46, 51, 59, 67, 72, 77, 82, 87]) (len := 46) (tg := 85) (by decide +kernel) (by rw [b18]; decide +kernel) ?_
          refine Ru.op (q := (.aload_n 3, 1)) (by decide +kernel) rfl ?_
          obtain ⟨c19, n20, n21, n22, n23, n24, n25, e26, q27, h⟩ := gK_some h
          refine Ru.get (i := 115) (v := .ref c19) (by decide +kernel) (by rfl) q27 (by decide) rfl ?_
          obtain ⟨c28, c29, n30, n31, e32, q33, h⟩ := gC_some h
          refine Ru.get (i := 132) (v := vI n30) (by decide +kernel) (by rfl) q33 (by decide) rfl ?_
          cases h
          exact Ru.iret (by decide +kernel) rfl rfl
        · replace h := if_f b18 h
          by_cases b34 : v2 = 2
          · replace h := if_t b34 h
            refine Ru.sw (d := 92) (lo2 := 0) (hi := 7) (offs := #[46, 51, 59, 67, 72, 77, 82, 87]) (len := 46) (tg := 93) (by decide +kernel) (by rw [b34]; decide +kernel) ?_
            refine Ru.op (q := (.aload_n 3, 1)) (by decide +kernel) rfl ?_
            obtain ⟨c35, n36, n37, n38, n39, n40, n41, e42, q43, h⟩ := gK_some h
            refine Ru.get (i := 115) (v := .ref c35) (by decide +kernel) (by rfl) q43 (by decide) rfl ?_
            obtain ⟨c44, c45, n46, n47, e48, q49, h⟩ := gC_some h
            refine Ru.get (i := 135) (v := vI n47) (by decide +kernel) (by rfl) q49 (by decide) rfl ?_
            cases h
            exact Ru.iret (by decide +kernel) rfl rfl
          · replace h := if_f b34 h
            by_cases b50 : v2 = 3
            · replace h := if_t b50 h
              refine Ru.sw (d := 92) (lo2 := 0) (hi := 7) (offs := #[46, 51, 59, 67, 72, 77, 82, 87]) (len := 46) (tg := 101) (by decide +kernel) (by rw [b50]; decide +kernel) ?_
              refine Ru.op (q := (.aload_n 3, 1)) (by decide +kernel) rfl ?_
              obtain ⟨c51, n52, n53, n54, n55, n56, n57, e58, q59, h⟩ := gK_some h
              refine Ru.get (i := 138) (v := vI n53) (by decide +kernel) (by rfl) q59 (by decide) rfl ?_
              cases h
              exact Ru.iret (by decide +kernel) rfl rfl
            · replace h := if_f b50 h
              by_cases b60 : v2 = 4
              · replace h := if_t b60 h
                refine Ru.sw (d := 92) (lo2 := 0) (hi := 7) (offs := #[46, 51, 59, 67, 72, 77, 82, 87]) (len := 46) (tg := 106) (by decide +kernel) (by rw [b60]; decide +kernel) ?_
                refine Ru.op (q := (.aload_n 3, 1)) (by decide +kernel) rfl ?_
                obtain ⟨c61, n62, n63, n64, n65, n66, n67, e68, q69, h⟩ := gK_some h
                refine Ru.get (i := 141) (v := vI n64) (by decide +kernel) (by rfl) q69 (by decide) rfl ?_
                cases h
                exact Ru.iret (by decide +kernel) rfl rfl
              · replace h := if_f b60 h
                by_cases b70 : v2 = 5
                · replace h := if_t b70 h
                  refine Ru.sw (d := 92) (lo2 := 0) (hi := 7) (offs := #[46, 51, 59, 67, 72, 77, 82, 87]) (len := 46) (tg := 111) (by decide +kernel) (by rw [b70]; decide +kernel) ?_
                  refine Ru.op (q := (.aload_n 3, 1)) (by decide +kernel) rfl ?_
                  obtain ⟨c71, n72, n73, n74, n75, n76, n77, e78, q79, h⟩ := gK_some h
                  refine Ru.get (i := 144) (v := vI n75) (by decide +kernel) (by rfl) q79 (by decide) rfl ?_
                  cases h
                  exact Ru.iret (by decide +kernel) rfl rfl
                · replace h := if_f b70 h
                  by_cases b80 : v2 = 6
                  · replace h := if_t b80 h
                    refine Ru.sw (d := 92) (lo2 := 0) (hi := 7) (offs := #[46, 51, 59, 67, 72, 77, 82, 87]) (len := 46) (tg := 116) (by decide +kernel) (by rw [b80]; decide +kernel) ?_
                    refine Ru.op (q := (.aload_n 3, 1)) (by decide +kernel) rfl ?_
                    obtain ⟨c81, n82, n83, n84, n85, n86, n87, e88, q89, h⟩ := gK_some h
                    refine Ru.get (i := 147) (v := vI n86) (by decide +kernel) (by rfl) q89 (by decide) rfl ?_
                    cases h
                    exact Ru.iret (by decide +kernel) rfl rfl
                  · replace h := if_f b80 h
                    by_cases b90 : v2 = 7
                    · replace h := if_t b90 h
                      refine Ru.sw (d := 92) (lo2 := 0) (hi := 7) (offs := #[46, 51, 59, 67, 72, 77, 82, 87]) (len := 46) (tg := 121) (by decide +kernel) (by rw [b90]; decide +kernel) ?_
                      refine Ru.op (q := (.aload_n 3, 1)) (by decide +kernel) rfl ?_
                      obtain ⟨c91, n92, n93, n94, n95, n96, n97, e98, q99, h⟩ := gK_some h
                      refine Ru.get (i := 150) (v := vI n97) (by decide +kernel) (by rfl) q99 (by decide) rfl ?_
                      cases h
                      exact Ru.iret (by decide +kernel) rfl rfl
                    · replace h := if_f b90 h
                      refine Ru.sw (d := 92) (lo2 := 0) (hi := 7) (offs := #[46, 51, 59, 67, 72, 77, 82, 87]) (len := 46) (tg := 126) (by decide +kernel) (by simp only [mn_opC]; rw [eI_to g7, if_pos (by omega)]; rfl) ?_
                      cases h
                      exact tho (S := S) (Ru.thr (q := (.new 51, 3)) (by decide +kernel) rfl rfl (by decide +kernel))
    · replace h := if_f b3 h
      refine Ru.br2 (k := .lt) (off := 11) (bb := false) (tg := 15) (by decide +kernel) (by decide +kernel) (ci_lt0 g1 (inR_to _) b3) rfl ?_
      cases h
      exact tho (S := S) (Ru.thr (q := (.new 108, 3)) (by decide +kernel) rfl rfl (by decide +kernel))
def g85 (S : St) (v1 : Int) (v2 : Int) : Option (Nat × Int × St) := gd (inR v1) (if v1 < 0 then some (3, 0, S.ho) else if v1 < (S.F 13 1) then gd (inR v2) (if v2 < 0 then some (3, 0, S.ho) else if v2 < (S.F 13 1) then gd (ixR v1 100) (ob (S.R 14 v1) (fun c8 => gK S c8 (fun c10 n11 n12 n13 n14 n15 n16 => gd (ixR v2 100) (ob (S.R 14 v2) (fun c20 => gK S c20 (fun c22 n23 n24 n25 n26 n27 n28 => ob (g54 S c10 c22) (fun o31 => gd (b1R o31.1) (some (0, o31.1, o31.2))))))))) else some (3, 0, S.ho)) else some (3, 0, S.ho))
set_option maxRecDepth 100000 in
set_option maxHeartbeats 4000000 in
theorem g85_ok {S : St} {v1 : Int} {v2 : Int} {o : Nat × Int × St} (h : g85 S v1 v2 = some o) : Ru none 13 278 85 (0, mn_pad (mn_ent [.ref 0, vI v1, vI v2]) 3, [], S.ns, Hp S) ((o.1, tv o.1 o.2.1), o.2.2.ns, Hp o.2.2) := by
  unfold g85 at h
  show Ru none 13 278 85 (0, [some (.ref 0), some (vI v1), some (vI v2)], [], S.ns, Hp S) _
  refine Ru.op (q := (.iload_n 1, 1)) (by decide +kernel) rfl ?_
  obtain ⟨g1, h⟩ := gd_some h
  by_cases b2 : v1 < 0
  · replace h := if_t b2 h
    refine Ru.br (k := .lt) (off := 29) (bb := true) (tg := 30) (by decide +kernel) (by decide +kernel) (cz (ci_lt1 g1 (by decide) b2)) rfl ?_
    cases h
    exact tho (S := S) (Ru.thr (q := (.new 108, 3)) (by decide +kernel) rfl rfl (by decide +kernel))
  · replace h := if_f b2 h
    refine Ru.br (k := .lt) (off := 29) (bb := false) (tg := 4) (by decide +kernel) (by decide +kernel) (cz (ci_lt0 g1 (by decide) b2)) rfl ?_
    refine Ru.op (q := (.iload_n 1, 1)) (by decide +kernel) rfl ?_
    refine Ru.op (q := (.aload_n 0, 1)) (by decide +kernel) rfl ?_
    refine Ru.get (i := 19) (v := .ref 13) (by decide +kernel) (by rfl) (hp0 _) (by decide) rfl ?_
    refine Ru.getI (i := 105) (x := (S.F 13 1)) (by decide +kernel) (by rfl) (hp13 _) (by decide) rfl (eI_of _) ?_
    by_cases b3 : v1 < (S.F 13 1)
    · replace h := if_t b3 h
      refine Ru.br2 (k := .ge) (off := 18) (bb := false) (tg := 15) (by decide +kernel) (by decide +kernel) (ci_ge0 g1 (inR_to _) b3) rfl ?_
      refine Ru.op (q := (.iload_n 2, 1)) (by decide +kernel) rfl ?_
      obtain ⟨g4, h⟩ := gd_some h
      by_cases b5 : v2 < 0
      · replace h := if_t b5 h
        refine Ru.br (k := .lt) (off := 14) (bb := true) (tg := 30) (by decide +kernel) (by decide +kernel) (cz (ci_lt1 g4 (by decide) b5)) rfl ?_
        cases h
        exact tho (S := S) (Ru.thr (q := (.new 108, 3)) (by decide +kernel) rfl rfl (by decide +kernel))
      · replace h := if_f b5 h
        refine Ru.br (k := .lt) (off := 14) (bb := false) (tg := 19) (by decide +kernel) (by decide +kernel) (cz (ci_lt0 g4 (by decide) b5)) rfl ?_
        refine Ru.op (q := (.iload_n 2, 1)) (by decide +kernel) rfl ?_
        refine Ru.op (q := (.aload_n 0, 1)) (by decide +kernel) rfl ?_
        refine Ru.get (i := 19) (v := .ref 13) (by decide +kernel) (by rfl) (hp0 _) (by decide) rfl ?_
        refine Ru.getI (i := 105) (x := (S.F 13 1)) (by decide +kernel) (by rfl) (hp13 _) (by decide) rfl (eI_of _) ?_
        by_cases b6 : v2 < (S.F 13 1)
        · replace h := if_t b6 h
          refine Ru.br2 (k := .lt) (off := 11) (bb := true) (tg := 38) (by decide +kernel) (by decide +kernel) (ci_lt1 g4 (inR_to _) b6) rfl ?_
          refine Ru.op (q := (.aload_n 0, 1)) (by decide +kernel) rfl ?_
          refine Ru.get (i := 19) (v := .ref 13) (by decide +kernel) (by rfl) (hp0 _) (by decide) rfl ?_
          refine Ru.get (i := 153) (v := .ref 23) (by decide +kernel) (by rfl) (hp13 _) (by decide) rfl ?_
          refine Ru.op (q := (.aload_n 0, 1)) (by decide +kernel) rfl ?_
          refine Ru.get (i := 19) (v := .ref 13) (by decide +kernel) (by rfl) (hp0 _) (by decide) rfl ?_
          refine Ru.get (i := 111) (v := .ref 14) (by decide +kernel) (by rfl) (hp13 _) (by decide) rfl ?_
          refine Ru.op (q := (.iload_n 1, 1)) (by decide +kernel) rfl ?_
          obtain ⟨g7, h⟩ := gd_some h
          obtain ⟨c8, e9, h⟩ := ob_some h
          refine Ru.aldI (i := v1) (b := c8) (by decide +kernel) (hp14 _) (by decide) g7 e9 ?_
          obtain ⟨c10, n11, n12, n13, n14, n15, n16, e17, q18, h⟩ := gK_some h
          refine Ru.get (i := 115) (v := .ref c10) (by decide +kernel) (by rfl) q18 (by decide) rfl ?_
          refine Ru.op (q := (.aload_n 0, 1)) (by decide +kernel) rfl ?_
          refine Ru.get (i := 19) (v := .ref 13) (by decide +kernel) (by rfl) (hp0 _) (by decide) rfl ?_
          refine Ru.get (i := 111) (v := .ref 14) (by decide +kernel) (by rfl) (hp13 _) (by decide) rfl ?_
          refine Ru.op (q := (.iload_n 2, 1)) (by decide +kernel) rfl ?_
          obtain ⟨g19, h⟩ := gd_some h
          obtain ⟨c20, e21, h⟩ := ob_some h
          refine Ru.aldI (i := v2) (b := c20) (by decide +kernel) (hp14 _) (by decide) g19 e21 ?_
          obtain ⟨c22, n23, n24, n25, n26, n27, n28, e29, q30, h⟩ := gK_some h
          refine Ru.get (i := 115) (v := .ref c22) (by decide +kernel) (by rfl) q30 (by decide) rfl ?_
          obtain ⟨o31, e32, h⟩ := ob_some h
          refine Ru.vcall (i := 157) (j2 := 54) (as := [.ref c10, .ref c22]) (by decide +kernel) (by rfl) rfl rfl (hp23 _) (by decide) ⟨(Nat.le_of_ble_eq_true rfl), (by show 19 + 5 ≤ 278; exact Nat.le_of_ble_eq_true rfl), Nat.le_of_ble_eq_true rfl, Nat.le_of_ble_eq_true rfl⟩ ((g54_ok e32).up (Nat.le_of_ble_eq_true rfl) (Nat.le_of_ble_eq_true rfl)) ?_
          obtain ⟨g33, h⟩ := gd_some h
          cases h
          exact Ru.iret (by decide +kernel) rfl (nar_b1 g33)
        · replace h := if_f b6 h
          refine Ru.br2 (k := .lt) (off := 11) (bb := false) (tg := 30) (by decide +kernel) (by decide +kernel) (ci_lt0 g4 (inR_to _) b6) rfl ?_
          cases h
          exact tho (S := S) (Ru.thr (q := (.new 108, 3)) (by decide +kernel) rfl rfl (by decide +kernel))
    · replace h := if_f b3 h
      refine Ru.br2 (k := .ge) (off := 18) (bb := true) (tg := 30) (by decide +kernel) (by decide +kernel) (ci_ge1 g1 (inR_to _) b3) rfl ?_
      cases h
      exact tho (S := S) (Ru.thr (q := (.new 108, 3)) (by decide +kernel) rfl rfl (by decide +kernel))
def g41_30 (S : St) : Option (St) := some (((((S.f 31 2 0).f 31 3 0).a 33 0 0).f 30 2 0).f 30 3 0)
set_option maxRecDepth 100000 in
set_option maxHeartbeats 4000000 in
theorem g41_30_ok {S : St} {o : St} (h : g41_30 S  = some o) : Ru none 10 200 41 (0, mn_pad (mn_ent [.ref 30]) 1, [], S.ns, Hp S) ((0, none), o.ns, Hp o) := by
  unfold g41_30 at h
  show Ru none 10 200 41 (0, [some (.ref 30)], [], S.ns, Hp S) _
  refine Ru.op (q := (.aload_n 0, 1)) (by decide +kernel) rfl ?_
  refine Ru.get (i := 14) (v := .ref 31) (by decide +kernel) (by rfl) (hp30 _) (by decide) rfl ?_
  refine Ru.kI (q := (.iconst 0, 1)) (c := 0) (by decide +kernel) rfl (by decide) ?_
  refine Ru.putH (i := 24) (by decide +kernel) (by rfl) (hp31 _) (by decide) (Nat.le_of_ble_eq_true rfl) rfl (by decide +kernel) (pf_31_2 _ _) ?_
  refine Ru.op (q := (.aload_n 0, 1)) (by decide +kernel) rfl ?_
  refine Ru.get (i := 14) (v := .ref 31) (by decide +kernel) (by rfl) (hp30 _) (by decide) rfl ?_
  refine Ru.kI (q := (.iconst 0, 1)) (c := 0) (by decide +kernel) rfl (by decide) ?_
  refine Ru.putH (i := 28) (by decide +kernel) (by rfl) (hp31 _) (by decide) (Nat.le_of_ble_eq_true rfl) rfl (by decide +kernel) (pf_31_3 _ _) ?_
  refine Ru.op (q := (.aload_n 0, 1)) (by decide +kernel) rfl ?_
  refine Ru.get (i := 14) (v := .ref 31) (by decide +kernel) (by rfl) (hp30 _) (by decide) rfl ?_
  refine Ru.get (i := 31) (v := .ref 33) (by decide +kernel) (by rfl) (hp31 _) (by decide) rfl ?_
  refine Ru.kI (q := (.iconst 0, 1)) (c := 0) (by decide +kernel) rfl (by decide) ?_
  refine Ru.kI (q := (.iconst 0, 1)) (c := 0) (by decide +kernel) rfl (by decide) ?_
  refine Ru.istI (i := 0) (x := 0) (by decide +kernel) (hp33 _) (by decide) (ps_33 _ _ _) ?_
  refine Ru.op (q := (.aload_n 0, 1)) (by decide +kernel) rfl ?_
  refine Ru.kI (q := (.iconst 0, 1)) (c := 0) (by decide +kernel) rfl (by decide) ?_
  refine Ru.putH (i := 34) (by decide +kernel) (by rfl) (hp30 _) (by decide) (Nat.le_of_ble_eq_true rfl) rfl (by decide +kernel) (pf_30_2 _ _) ?_
  refine Ru.op (q := (.aload_n 0, 1)) (by decide +kernel) rfl ?_
  refine Ru.kI (q := (.iconst 0, 1)) (c := 0) (by decide +kernel) rfl (by decide) ?_
  refine Ru.putH (i := 37) (by decide +kernel) (by rfl) (hp30 _) (by decide) (Nat.le_of_ble_eq_true rfl) (fk_b (by decide)) (by decide +kernel) (pf_30_3 _ _) ?_
  cases h
  exact Ru.end (q := (.return_, 1)) (by decide +kernel) rfl rfl
def g48_30L10  : Nat → Int → St → Option (St)
  | 0, _, _ => none
  | n + 1, v2, S => gd (inR v2) (if v2 < (S.F 31 3) then gd (ixR v2 80) (if (S.A 32 v2) < 32768 then gd (ixR ((S.A 32 v2) / 256) 128) (g48_30L10 n (v2 + 1) (S.a 34 ((S.A 32 v2) / 256) (-1))) else g48_30L10 n (v2 + 1) S) else some S)
set_option maxRecDepth 100000 in
set_option maxHeartbeats 4000000 in
theorem g48_30L10_ok : ∀ (n : Nat) (v2 : Int) (S : St) (d3 d4 : Option Value) (out : St), g48_30L10 n v2 S = some out → ∀ r, (∀ (e2 e3 e4 : Option Value), Ru none 10 200 48 (47, [some (.ref 30), some (.ref 32), e2, e3, e4], [], out.ns, Hp out) r) → Ru none 10 200 48 (10, [some (.ref 30), some (.ref 32), some (vI v2), d3, d4], [], S.ns, Hp S) r := by
  intro n
  induction n with
  | zero => intro v2 S d3 d4 out h; cases h
  | succ n ih =>
    intro v2 S d3 d4 out h r hk
    unfold g48_30L10 at h
    refine Ru.op (q := (.iload_n 2, 1)) (by decide +kernel) rfl ?_
    refine Ru.op (q := (.aload_n 0, 1)) (by decide +kernel) rfl ?_
    refine Ru.get (i := 14) (v := .ref 31) (by decide +kernel) (by rfl) (hp30 _) (by decide) rfl ?_
    refine Ru.getI (i := 28) (x := (S.F 31 3)) (by decide +kernel) (by rfl) (hp31 _) (by decide) rfl (eI_of _) ?_
    obtain ⟨g1, h⟩ := gd_some h
    by_cases b2 : v2 < (S.F 31 3)
    · replace h := if_t b2 h
      refine Ru.br2 (k := .ge) (off := 29) (bb := false) (tg := 21) (by decide +kernel) (by decide +kernel) (ci_ge0 g1 (inR_to _) b2) rfl ?_
      refine Ru.op (q := (.aload_n 1, 1)) (by decide +kernel) rfl ?_
      refine Ru.op (q := (.iload_n 2, 1)) (by decide +kernel) rfl ?_
      obtain ⟨g3, h⟩ := gd_some h
      refine Ru.ildI (i := v2) (z := (S.A 32 v2)) (by decide +kernel) (hp32 _) g3 (eI_of _) ?_
      refine Ru.kI (q := (.ldc 59, 2)) (c := 32768) (by decide +kernel) rfl (by decide) ?_
      by_cases b4 : (S.A 32 v2) < 32768
      · replace h := if_t b4 h
        refine Ru.br2 (k := .ge) (off := 15) (bb := false) (tg := 29) (by decide +kernel) (by decide +kernel) (ci_ge0 (inR_to _) (by decide) b4) rfl ?_
        refine Ru.op (q := (.aload_n 0, 1)) (by decide +kernel) rfl ?_
        refine Ru.get (i := 20) (v := .ref 34) (by decide +kernel) (by rfl) (hp30 _) (by decide) rfl ?_
        refine Ru.op (q := (.aload_n 1, 1)) (by decide +kernel) rfl ?_
        refine Ru.op (q := (.iload_n 2, 1)) (by decide +kernel) rfl ?_
        refine Ru.ildI (i := v2) (z := (S.A 32 v2)) (by decide +kernel) (hp32 _) g3 (eI_of _) ?_
        refine Ru.kI (q := (.bipush 8, 2)) (c := 8) (by decide +kernel) rfl (by decide) ?_
        refine Ru.ar2 (i := .ishr) (z := ((S.A 32 v2) / 256)) (by decide +kernel) rfl (ar_shr (inR_to _)) ?_
        refine Ru.kI (q := (.iconst (-1), 1)) (c := (-1)) (by decide +kernel) rfl (by decide) ?_
        obtain ⟨g5, h⟩ := gd_some h
        refine Ru.istI (i := ((S.A 32 v2) / 256)) (x := (-1)) (by decide +kernel) (hp34 _) g5 (ps_34 _ _ _) ?_
        refine Ru.inc (x := v2) (z := (v2 + 1)) (xs' := [some (.ref 30), some (.ref 32), some (vI (v2 + 1)), d3, d4]) (by decide +kernel) rfl rfl rfl ?_
        refine Ru.op (q := (.goto (-34), 3)) (by decide +kernel) rfl ?_
        exact ih _ _ _ _ _ h r hk
      · replace h := if_f b4 h
        refine Ru.br2 (k := .ge) (off := 15) (bb := true) (tg := 41) (by decide +kernel) (by decide +kernel) (ci_ge1 (inR_to _) (by decide) b4) rfl ?_
        refine Ru.inc (x := v2) (z := (v2 + 1)) (xs' := [some (.ref 30), some (.ref 32), some (vI (v2 + 1)), d3, d4]) (by decide +kernel) rfl rfl rfl ?_
        refine Ru.op (q := (.goto (-34), 3)) (by decide +kernel) rfl ?_
        exact ih _ _ _ _ _ h r hk
    · replace h := if_f b2 h
      refine Ru.br2 (k := .ge) (off := 29) (bb := true) (tg := 47) (by decide +kernel) (by decide +kernel) (ci_ge1 g1 (inR_to _) b2) rfl ?_
      cases h
      exact hk _ _ _
def g48_30L51  : Nat → Int → Int → St → Option (St)
  | 0, _, _, _ => none
  | n + 1, v2, v3, S => gd (inR v3) (if v3 < (S.F 31 3) then gd (ixR v3 80) (if (S.A 32 v3) < 32768 then gd (ixR ((S.A 32 v3) / 256) 128) (if (S.A 34 ((S.A 32 v3) / 256)) = (-1) then g48_30L51 n (v2 + 1) (v3 + 1) ((S.a 34 ((S.A 32 v3) / 256) v2).a 32 v3 (((S.a 34 ((S.A 32 v3) / 256) v2).A 34 ((S.A 32 v3) / 256)) * 256)) else g48_30L51 n v2 (v3 + 1) (S.a 32 v3 ((S.A 34 ((S.A 32 v3) / 256)) * 256))) else g48_30L51 n v2 (v3 + 1) S) else some S)
set_option maxRecDepth 100000 in
set_option maxHeartbeats 4000000 in
theorem g48_30L51_ok : ∀ (n : Nat) (v2 : Int) (v3 : Int) (S : St) (d4 : Option Value) (out : St), g48_30L51 n v2 v3 S = some out → ∀ r, (∀ (e0 e1 e2 e3 e4 : Option Value), Ru none 10 200 48 (119, [e0, e1, e2, e3, e4], [], out.ns, Hp out) r) → Ru none 10 200 48 (51, [some (.ref 30), some (.ref 32), some (vI v2), some (vI v3), d4], [], S.ns, Hp S) r := by
  intro n
  induction n with
  | zero => intro v2 v3 S d4 out h; cases h
  | succ n ih =>
    intro v2 v3 S d4 out h r hk
    unfold g48_30L51 at h
    refine Ru.op (q := (.iload_n 3, 1)) (by decide +kernel) rfl ?_
    refine Ru.op (q := (.aload_n 0, 1)) (by decide +kernel) rfl ?_
    refine Ru.get (i := 14) (v := .ref 31) (by decide +kernel) (by rfl) (hp30 _) (by decide) rfl ?_
    refine Ru.getI (i := 28) (x := (S.F 31 3)) (by decide +kernel) (by rfl) (hp31 _) (by decide) rfl (eI_of _) ?_
    obtain ⟨g11, h⟩ := gd_some h
    by_cases b12 : v3 < (S.F 31 3)
    · replace h := if_t b12 h
      refine Ru.br2 (k := .ge) (off := 60) (bb := false) (tg := 62) (by decide +kernel) (by decide +kernel) (ci_ge0 g11 (inR_to _) b12) rfl ?_
      refine Ru.op (q := (.aload_n 1, 1)) (by decide +kernel) rfl ?_
      refine Ru.op (q := (.iload_n 3, 1)) (by decide +kernel) rfl ?_
      obtain ⟨g13, h⟩ := gd_some h
      refine Ru.ildI (i := v3) (z := (S.A 32 v3)) (by decide +kernel) (hp32 _) g13 (eI_of _) ?_
      refine Ru.kI (q := (.ldc 59, 2)) (c := 32768) (by decide +kernel) rfl (by decide) ?_
      by_cases b14 : (S.A 32 v3) < 32768
      · replace h := if_t b14 h
        refine Ru.br2 (k := .ge) (off := 46) (bb := false) (tg := 70) (by decide +kernel) (by decide +kernel) (ci_ge0 (inR_to _) (by decide) b14) rfl ?_
        refine Ru.op (q := (.aload_n 1, 1)) (by decide +kernel) rfl ?_
        refine Ru.op (q := (.iload_n 3, 1)) (by decide +kernel) rfl ?_
        refine Ru.ildI (i := v3) (z := (S.A 32 v3)) (by decide +kernel) (hp32 _) g13 (eI_of _) ?_
        refine Ru.kI (q := (.bipush 8, 2)) (c := 8) (by decide +kernel) rfl (by decide) ?_
        refine Ru.ar2 (i := .ishr) (z := ((S.A 32 v3) / 256)) (by decide +kernel) rfl (ar_shr (inR_to _)) ?_
        refine Ru.op (q := (.istore 4, 2)) (S' := (78, [some (.ref 30), some (.ref 32), some (vI v2), some (vI v3), some (vI ((S.A 32 v3) / 256))], [], _, _)) (by decide +kernel) rfl ?_
        refine Ru.op (q := (.aload_n 0, 1)) (by decide +kernel) rfl ?_
        refine Ru.get (i := 20) (v := .ref 34) (by decide +kernel) (by rfl) (hp30 _) (by decide) rfl ?_
        refine Ru.op (q := (.iload 4, 2)) (by decide +kernel) rfl ?_
        obtain ⟨g15, h⟩ := gd_some h
        refine Ru.ildI (i := ((S.A 32 v3) / 256)) (z := (S.A 34 ((S.A 32 v3) / 256))) (by decide +kernel) (hp34 _) g15 (eI_of _) ?_
        refine Ru.kI (q := (.iconst (-1), 1)) (c := (-1)) (by decide +kernel) rfl (by decide) ?_
        by_cases b16 : (S.A 34 ((S.A 32 v3) / 256)) = (-1)
        · replace h := if_t b16 h
          refine Ru.br2 (k := .ne) (off := 14) (bb := false) (tg := 89) (by decide +kernel) (by decide +kernel) (ci_ne0 (inR_to _) (by decide) b16) rfl ?_
          refine Ru.op (q := (.aload_n 0, 1)) (by decide +kernel) rfl ?_
          refine Ru.get (i := 20) (v := .ref 34) (by decide +kernel) (by rfl) (hp30 _) (by decide) rfl ?_
          refine Ru.op (q := (.iload 4, 2)) (by decide +kernel) rfl ?_
          refine Ru.op (q := (.iload_n 2, 1)) (by decide +kernel) rfl ?_
          refine Ru.istI (i := ((S.A 32 v3) / 256)) (x := v2) (by decide +kernel) (hp34 _) g15 (ps_34 _ _ _) ?_
          refine Ru.inc (x := v2) (z := (v2 + 1)) (xs' := [some (.ref 30), some (.ref 32), some (vI (v2 + 1)), some (vI v3), some (vI ((S.A 32 v3) / 256))]) (by decide +kernel) rfl rfl rfl ?_
          refine Ru.op (q := (.aload_n 1, 1)) (by decide +kernel) rfl ?_
          refine Ru.op (q := (.iload_n 3, 1)) (by decide +kernel) rfl ?_
          refine Ru.op (q := (.aload_n 0, 1)) (by decide +kernel) rfl ?_
          refine Ru.get (i := 20) (v := .ref 34) (by decide +kernel) (by rfl) (hp30 _) (by decide) rfl ?_
          refine Ru.op (q := (.iload 4, 2)) (by decide +kernel) rfl ?_
          refine Ru.ildI (i := ((S.A 32 v3) / 256)) (z := ((S.a 34 ((S.A 32 v3) / 256) v2).A 34 ((S.A 32 v3) / 256))) (by decide +kernel) (hp34 _) g15 (eI_of _) ?_
          refine Ru.kI (q := (.bipush 8, 2)) (c := 8) (by decide +kernel) rfl (by decide) ?_
          refine Ru.ar2 (i := .ishl) (z := (((S.a 34 ((S.A 32 v3) / 256) v2).A 34 ((S.A 32 v3) / 256)) * 256)) (by decide +kernel) rfl (ar_shl _) ?_
          refine Ru.istI (i := v3) (x := (((S.a 34 ((S.A 32 v3) / 256) v2).A 34 ((S.A 32 v3) / 256)) * 256)) (by decide +kernel) (hp32 _) g13 (ps_32 _ _ _) ?_
          refine Ru.inc (x := v3) (z := (v3 + 1)) (xs' := [some (.ref 30), some (.ref 32), some (vI (v2 + 1)), some (vI (v3 + 1)), some (vI ((S.A 32 v3) / 256))]) (by decide +kernel) rfl rfl rfl ?_
          refine Ru.op (q := (.goto (-65), 3)) (by decide +kernel) rfl ?_
          exact ih _ _ _ _ _ h r hk
        · replace h := if_f b16 h
          refine Ru.br2 (k := .ne) (off := 14) (bb := true) (tg := 100) (by decide +kernel) (by decide +kernel) (ci_ne1 (inR_to _) (by decide) b16) rfl ?_
          refine Ru.op (q := (.aload_n 1, 1)) (by decide +kernel) rfl ?_
          refine Ru.op (q := (.iload_n 3, 1)) (by decide +kernel) rfl ?_
          refine Ru.op (q := (.aload_n 0, 1)) (by decide +kernel) rfl ?_
          refine Ru.get (i := 20) (v := .ref 34) (by decide +kernel) (by rfl) (hp30 _) (by decide) rfl ?_
          refine Ru.op (q := (.iload 4, 2)) (by decide +kernel) rfl ?_
          refine Ru.ildI (i := ((S.A 32 v3) / 256)) (z := (S.A 34 ((S.A 32 v3) / 256))) (by decide +kernel) (hp34 _) g15 (eI_of _) ?_
          refine Ru.kI (q := (.bipush 8, 2)) (c := 8) (by decide +kernel) rfl (by decide) ?_
          refine Ru.ar2 (i := .ishl) (z := ((S.A 34 ((S.A 32 v3) / 256)) * 256)) (by decide +kernel) rfl (ar_shl _) ?_
          refine Ru.istI (i := v3) (x := ((S.A 34 ((S.A 32 v3) / 256)) * 256)) (by decide +kernel) (hp32 _) g13 (ps_32 _ _ _) ?_
          refine Ru.inc (x := v3) (z := (v3 + 1)) (xs' := [some (.ref 30), some (.ref 32), some (vI v2), some (vI (v3 + 1)), some (vI ((S.A 32 v3) / 256))]) (by decide +kernel) rfl rfl rfl ?_
          refine Ru.op (q := (.goto (-65), 3)) (by decide +kernel) rfl ?_
          exact ih _ _ _ _ _ h r hk
      · replace h := if_f b14 h
        refine Ru.br2 (k := .ge) (off := 46) (bb := true) (tg := 113) (by decide +kernel) (by decide +kernel) (ci_ge1 (inR_to _) (by decide) b14) rfl ?_
        refine Ru.inc (x := v3) (z := (v3 + 1)) (xs' := [some (.ref 30), some (.ref 32), some (vI v2), some (vI (v3 + 1)), d4]) (by decide +kernel) rfl rfl rfl ?_
        refine Ru.op (q := (.goto (-65), 3)) (by decide +kernel) rfl ?_
        exact ih _ _ _ _ _ h r hk
    · replace h := if_f b12 h
      refine Ru.br2 (k := .ge) (off := 60) (bb := true) (tg := 119) (by decide +kernel) (by decide +kernel) (ci_ge1 g11 (inR_to _) b12) rfl ?_
      cases h
      exact hk _ _ _ _ _
def g48_30 (S : St) : Option (St) := ob (g48_30L10 FU 0 S) (fun o6 => ob (g48_30L51 FU 0 0 o6) (fun o17 => some o17))
set_option maxRecDepth 100000 in
set_option maxHeartbeats 4000000 in
theorem g48_30_ok {S : St} {o : St} (h : g48_30 S  = some o) : Ru none 10 200 48 (0, mn_pad (mn_ent [.ref 30]) 5, [], S.ns, Hp S) ((0, none), o.ns, Hp o) := by
  unfold g48_30 at h
  show Ru none 10 200 48 (0, [some (.ref 30), none, none, none, none], [], S.ns, Hp S) _
  refine Ru.op (q := (.aload_n 0, 1)) (by decide +kernel) rfl ?_
  refine Ru.get (i := 14) (v := .ref 31) (by decide +kernel) (by rfl) (hp30 _) (by decide) rfl ?_
  refine Ru.get (i := 41) (v := .ref 32) (by decide +kernel) (by rfl) (hp31 _) (by decide) rfl ?_
  refine Ru.op (q := (.astore_n 1, 1)) (S' := (8, [some (.ref 30), some (.ref 32), none, none, none], [], _, _)) (by decide +kernel) rfl ?_
  refine Ru.kI (q := (.iconst 0, 1)) (c := 0) (by decide +kernel) rfl (by decide) ?_
  refine Ru.op (q := (.istore_n 2, 1)) (S' := (10, [some (.ref 30), some (.ref 32), some (vI 0), none, none], [], _, _)) (by decide +kernel) rfl ?_
  obtain ⟨o6, e10, h⟩ := ob_some h
  refine g48_30L10_ok FU _ _ _ _ _ e10 _ ?_
  intro d7 d8 d9
  refine Ru.kI (q := (.iconst 0, 1)) (c := 0) (by decide +kernel) rfl (by decide) ?_
  refine Ru.op (q := (.istore_n 2, 1)) (S' := (49, [some (.ref 30), some (.ref 32), some (vI 0), d8, d9], [], _, _)) (by decide +kernel) rfl ?_
  refine Ru.kI (q := (.iconst 0, 1)) (c := 0) (by decide +kernel) rfl (by decide) ?_
  refine Ru.op (q := (.istore_n 3, 1)) (S' := (51, [some (.ref 30), some (.ref 32), some (vI 0), some (vI 0), d9], [], _, _)) (by decide +kernel) rfl ?_
  obtain ⟨o17, e23, h⟩ := ob_some h
  refine g48_30L51_ok FU _ _ _ _ _ e23 _ ?_
  intro d18 d19 d20 d21 d22
  cases h
  exact Ru.end (q := (.return_, 1)) (by decide +kernel) rfl rfl
def g44_30 (S : St) (v1 : Int) : Option (St) := gd (inR ((S.F 30 2) - (S.F 31 3))) (if ((S.F 30 2) - (S.F 31 3)) < 16 then gd (ixR (S.F 30 2) 80) (some ((S.a 32 (S.F 30 2) v1).f 30 2 ((S.F 30 2) + 1))) else some (S.f 30 3 1))
set_option maxRecDepth 100000 in
set_option maxHeartbeats 4000000 in
theorem g44_30_ok {S : St} {v1 : Int} {o : St} (h : g44_30 S v1 = some o) : Ru none 10 200 44 (0, mn_pad (mn_ent [.ref 30, vI v1]) 2, [], S.ns, Hp S) ((0, none), o.ns, Hp o) := by
  unfold g44_30 at h
  show Ru none 10 200 44 (0, [some (.ref 30), some (vI v1)], [], S.ns, Hp S) _
  refine Ru.op (q := (.aload_n 0, 1)) (by decide +kernel) rfl ?_
  refine Ru.getI (i := 34) (x := (S.F 30 2)) (by decide +kernel) (by rfl) (hp30 _) (by decide) rfl (eI_of _) ?_
  refine Ru.op (q := (.aload_n 0, 1)) (by decide +kernel) rfl ?_
  refine Ru.get (i := 14) (v := .ref 31) (by decide +kernel) (by rfl) (hp30 _) (by decide) rfl ?_
  refine Ru.getI (i := 28) (x := (S.F 31 3)) (by decide +kernel) (by rfl) (hp31 _) (by decide) rfl (eI_of _) ?_
  refine Ru.ar2 (i := .isub) (z := ((S.F 30 2) - (S.F 31 3))) (by decide +kernel) rfl (ar_sub _ _) ?_
  refine Ru.kI (q := (.bipush 16, 2)) (c := 16) (by decide +kernel) rfl (by decide) ?_
  obtain ⟨g1, h⟩ := gd_some h
  by_cases b2 : ((S.F 30 2) - (S.F 31 3)) < 16
  · replace h := if_t b2 h
    refine Ru.br2 (k := .lt) (off := 11) (bb := true) (tg := 25) (by decide +kernel) (by decide +kernel) (ci_lt1 g1 (by decide) b2) rfl ?_
    refine Ru.op (q := (.aload_n 0, 1)) (by decide +kernel) rfl ?_
    refine Ru.get (i := 14) (v := .ref 31) (by decide +kernel) (by rfl) (hp30 _) (by decide) rfl ?_
    refine Ru.get (i := 41) (v := .ref 32) (by decide +kernel) (by rfl) (hp31 _) (by decide) rfl ?_
    refine Ru.op (q := (.aload_n 0, 1)) (by decide +kernel) rfl ?_
    refine Ru.getI (i := 34) (x := (S.F 30 2)) (by decide +kernel) (by rfl) (hp30 _) (by decide) rfl (eI_of _) ?_
    refine Ru.op (q := (.iload_n 1, 1)) (by decide +kernel) rfl ?_
    obtain ⟨g3, h⟩ := gd_some h
    refine Ru.istI (i := (S.F 30 2)) (x := v1) (by decide +kernel) (hp32 _) g3 (ps_32 _ _ _) ?_
    refine Ru.op (q := (.aload_n 0, 1)) (by decide +kernel) rfl ?_
    refine Ru.op (q := (.dup, 1)) (by decide +kernel) rfl ?_
    refine Ru.getI (i := 34) (x := (S.F 30 2)) (by decide +kernel) (by rfl) (hp30 _) (by decide) rfl (eI_of _) ?_
    refine Ru.kI (q := (.iconst 1, 1)) (c := 1) (by decide +kernel) rfl (by decide) ?_
    refine Ru.ar2 (i := .iadd) (z := ((S.F 30 2) + 1)) (by decide +kernel) rfl (ar_add _ _) ?_
    refine Ru.putH (i := 34) (by decide +kernel) (by rfl) (hp30 _) (by decide) (Nat.le_of_ble_eq_true rfl) rfl (by decide +kernel) (pf_30_2 _ _) ?_
    cases h
    exact Ru.end (q := (.return_, 1)) (by decide +kernel) rfl rfl
  · replace h := if_f b2 h
    refine Ru.br2 (k := .lt) (off := 11) (bb := false) (tg := 17) (by decide +kernel) (by decide +kernel) (ci_lt0 g1 (by decide) b2) rfl ?_
    refine Ru.op (q := (.aload_n 0, 1)) (by decide +kernel) rfl ?_
    refine Ru.kI (q := (.iconst 1, 1)) (c := 1) (by decide +kernel) rfl (by decide) ?_
    refine Ru.putH (i := 37) (by decide +kernel) (by rfl) (hp30 _) (by decide) (Nat.le_of_ble_eq_true rfl) (fk_b (by decide)) (by decide +kernel) (pf_30_3 _ _) ?_
    refine Ru.op (q := (.goto 26, 3)) (by decide +kernel) rfl ?_
    cases h
    exact Ru.end (q := (.return_, 1)) (by decide +kernel) rfl rfl
def g46_30L15 (S : St) (v1 : Int) : Nat → Int → Option (Sum (Unit) (Int))
  | 0, _ => none
  | n + 1, v2 => gd (inR v2) (if v2 < (S.F 31 2) then gd (ixR v2 5) (gd (ixR (v2 + 1) 5) (gd (inR ((S.A 33 (v2 + 1)) - (S.A 33 v2))) (gd (inR v1) (if ((S.A 33 (v2 + 1)) - (S.A 33 v2)) = v1 then ob (g47 S 32 (S.A 33 v2) (S.F 31 3) v1) (fun o19 => gd (inR o19) (if o19 = 0 then g46_30L15 S v1 n (v2 + 1) else some (.inr 1))) else g46_30L15 S v1 n (v2 + 1))))) else some (.inl ()))
set_option maxRecDepth 100000 in
set_option maxHeartbeats 4000000 in
theorem g46_30L15_ok {S : St} {v1 : Int} : ∀ (n : Nat) (v2 : Int) (d3 : Option Value) (out : Sum (Unit) (Int)), g46_30L15 S v1 n v2 = some out → ∀ r, (∀ o, out = .inl o → ∀ (e0 e1 e2 e3 : Option Value), Ru none 11 224 46 (83, [e0, e1, e2, e3], [], S.ns, Hp S) r) → (∀ o, out = .inr o → r = ((0, some (vI o)), S.ns, Hp S)) → Ru none 11 224 46 (15, [some (.ref 30), some (vI v1), some (vI v2), d3], [], S.ns, Hp S) r := by
  intro n
  induction n with
  | zero => intro v2 d3 out h; cases h
  | succ n ih =>
    intro v2 d3 out h r hk hr
    unfold g46_30L15 at h
    refine Ru.op (q := (.iload_n 2, 1)) (by decide +kernel) rfl ?_
    refine Ru.op (q := (.aload_n 0, 1)) (by decide +kernel) rfl ?_
    refine Ru.get (i := 14) (v := .ref 31) (by decide +kernel) (by rfl) (hp30 _) (by decide) rfl ?_
    refine Ru.getI (i := 24) (x := (S.F 31 2)) (by decide +kernel) (by rfl) (hp31 _) (by decide) rfl (eI_of _) ?_
    obtain ⟨g12, h⟩ := gd_some h
    by_cases b13 : v2 < (S.F 31 2)
    · replace h := if_t b13 h
      refine Ru.br2 (k := .ge) (off := 60) (bb := false) (tg := 26) (by decide +kernel) (by decide +kernel) (ci_ge0 g12 (inR_to _) b13) rfl ?_
      refine Ru.op (q := (.aload_n 0, 1)) (by decide +kernel) rfl ?_
      refine Ru.get (i := 14) (v := .ref 31) (by decide +kernel) (by rfl) (hp30 _) (by decide) rfl ?_
      refine Ru.get (i := 31) (v := .ref 33) (by decide +kernel) (by rfl) (hp31 _) (by decide) rfl ?_
      refine Ru.op (q := (.iload_n 2, 1)) (by decide +kernel) rfl ?_
      obtain ⟨g14, h⟩ := gd_some h
      refine Ru.ildI (i := v2) (z := (S.A 33 v2)) (by decide +kernel) (hp33 _) g14 (eI_of _) ?_
      refine Ru.op (q := (.istore_n 3, 1)) (S' := (36, [some (.ref 30), some (vI v1), some (vI v2), some (vI (S.A 33 v2))], [], _, _)) (by decide +kernel) rfl ?_
      refine Ru.op (q := (.aload_n 0, 1)) (by decide +kernel) rfl ?_
      refine Ru.get (i := 14) (v := .ref 31) (by decide +kernel) (by rfl) (hp30 _) (by decide) rfl ?_
      refine Ru.get (i := 31) (v := .ref 33) (by decide +kernel) (by rfl) (hp31 _) (by decide) rfl ?_
      refine Ru.op (q := (.iload_n 2, 1)) (by decide +kernel) rfl ?_
      refine Ru.kI (q := (.iconst 1, 1)) (c := 1) (by decide +kernel) rfl (by decide) ?_
      refine Ru.ar2 (i := .iadd) (z := (v2 + 1)) (by decide +kernel) rfl (ar_add _ _) ?_
      obtain ⟨g15, h⟩ := gd_some h
      refine Ru.ildI (i := (v2 + 1)) (z := (S.A 33 (v2 + 1))) (by decide +kernel) (hp33 _) g15 (eI_of _) ?_
      refine Ru.op (q := (.iload_n 3, 1)) (by decide +kernel) rfl ?_
      refine Ru.ar2 (i := .isub) (z := ((S.A 33 (v2 + 1)) - (S.A 33 v2))) (by decide +kernel) rfl (ar_sub _ _) ?_
      refine Ru.op (q := (.iload_n 1, 1)) (by decide +kernel) rfl ?_
      obtain ⟨g16, h⟩ := gd_some h
      obtain ⟨g17, h⟩ := gd_some h
      by_cases b18 : ((S.A 33 (v2 + 1)) - (S.A 33 v2)) = v1
      · replace h := if_t b18 h
        refine Ru.br2 (k := .ne) (off := 27) (bb := false) (tg := 53) (by decide +kernel) (by decide +kernel) (ci_ne0 g16 g17 b18) rfl ?_
        refine Ru.op (q := (.aload_n 0, 1)) (by decide +kernel) rfl ?_
        refine Ru.get (i := 14) (v := .ref 31) (by decide +kernel) (by rfl) (hp30 _) (by decide) rfl ?_
        refine Ru.get (i := 41) (v := .ref 32) (by decide +kernel) (by rfl) (hp31 _) (by decide) rfl ?_
        refine Ru.op (q := (.iload_n 3, 1)) (by decide +kernel) rfl ?_
        refine Ru.op (q := (.aload_n 0, 1)) (by decide +kernel) rfl ?_
        refine Ru.get (i := 14) (v := .ref 31) (by decide +kernel) (by rfl) (hp30 _) (by decide) rfl ?_
        refine Ru.getI (i := 28) (x := (S.F 31 3)) (by decide +kernel) (by rfl) (hp31 _) (by decide) rfl (eI_of _) ?_
        refine Ru.op (q := (.iload_n 1, 1)) (by decide +kernel) rfl ?_
        obtain ⟨o19, e20, h⟩ := ob_some h
        refine Ru.call (q := (.invokestatic 55, 3)) (j2 := 47) (as := [.ref 32, vI (S.A 33 v2), vI (S.F 31 3), vI v1]) (by decide +kernel) rfl rfl rfl rfl ⟨(Nat.le_of_ble_eq_true rfl), (by show 19 + 5 ≤ 224; exact Nat.le_of_ble_eq_true rfl), Nat.le_of_ble_eq_true rfl, Nat.le_of_ble_eq_true rfl⟩ ((g47_ok e20).up (Nat.le_of_ble_eq_true rfl) (Nat.le_of_ble_eq_true rfl)) ?_
        obtain ⟨g21, h⟩ := gd_some h
        by_cases b22 : o19 = 0
        · replace h := if_t b22 h
          refine Ru.br (k := .eq) (off := 5) (bb := true) (tg := 77) (by decide +kernel) (by decide +kernel) (cz (ci_eq1 g21 (by decide) b22)) rfl ?_
          refine Ru.inc (x := v2) (z := (v2 + 1)) (xs' := [some (.ref 30), some (vI v1), some (vI (v2 + 1)), some (vI (S.A 33 v2))]) (by decide +kernel) rfl rfl rfl ?_
          refine Ru.op (q := (.goto (-65), 3)) (by decide +kernel) rfl ?_
          exact ih _ _ _ h r hk hr
        · replace h := if_f b22 h
          refine Ru.br (k := .eq) (off := 5) (bb := false) (tg := 75) (by decide +kernel) (by decide +kernel) (cz (ci_eq0 g21 (by decide) b22)) rfl ?_
          refine Ru.kI (q := (.iconst 1, 1)) (c := 1) (by decide +kernel) rfl (by decide) ?_
          cases h
          have h9 := hr _ rfl
          subst h9
          exact Ru.iret (by decide +kernel) rfl (nar_b1 (by decide))
      · replace h := if_f b18 h
        refine Ru.br2 (k := .ne) (off := 27) (bb := true) (tg := 77) (by decide +kernel) (by decide +kernel) (ci_ne1 g16 g17 b18) rfl ?_
        refine Ru.inc (x := v2) (z := (v2 + 1)) (xs' := [some (.ref 30), some (vI v1), some (vI (v2 + 1)), some (vI (S.A 33 v2))]) (by decide +kernel) rfl rfl rfl ?_
        refine Ru.op (q := (.goto (-65), 3)) (by decide +kernel) rfl ?_
        exact ih _ _ _ h r hk hr
    · replace h := if_f b13 h
      refine Ru.br2 (k := .ge) (off := 60) (bb := true) (tg := 83) (by decide +kernel) (by decide +kernel) (ci_ge1 g12 (inR_to _) b13) rfl ?_
      cases h
      exact hk _ rfl _ _ _ _
def g46_30 (S : St) : Option (Int) := obr (g46_30L15 S ((S.F 30 2) - (S.F 31 3)) FU 0) (fun o23 => some 0)
set_option maxRecDepth 100000 in
set_option maxHeartbeats 4000000 in
theorem g46_30_ok {S : St} {o : Int} (h : g46_30 S  = some o) : Ru none 11 224 46 (0, mn_pad (mn_ent [.ref 30]) 4, [], S.ns, Hp S) ((0, some (vI o)), S.ns, Hp S) := by
  unfold g46_30 at h
  show Ru none 11 224 46 (0, [some (.ref 30), none, none, none], [], S.ns, Hp S) _
  refine Ru.op (q := (.aload_n 0, 1)) (by decide +kernel) rfl ?_
  refine Ru.getI (i := 34) (x := (S.F 30 2)) (by decide +kernel) (by rfl) (hp30 _) (by decide) rfl (eI_of _) ?_
  refine Ru.op (q := (.aload_n 0, 1)) (by decide +kernel) rfl ?_
  refine Ru.get (i := 14) (v := .ref 31) (by decide +kernel) (by rfl) (hp30 _) (by decide) rfl ?_
  refine Ru.getI (i := 28) (x := (S.F 31 3)) (by decide +kernel) (by rfl) (hp31 _) (by decide) rfl (eI_of _) ?_
  refine Ru.ar2 (i := .isub) (z := ((S.F 30 2) - (S.F 31 3))) (by decide +kernel) rfl (ar_sub _ _) ?_
  refine Ru.op (q := (.istore_n 1, 1)) (S' := (13, [some (.ref 30), some (vI ((S.F 30 2) - (S.F 31 3))), none, none], [], _, _)) (by decide +kernel) rfl ?_
  refine Ru.kI (q := (.iconst 0, 1)) (c := 0) (by decide +kernel) rfl (by decide) ?_
  refine Ru.op (q := (.istore_n 2, 1)) (S' := (15, [some (.ref 30), some (vI ((S.F 30 2) - (S.F 31 3))), some (vI 0), none], [], _, _)) (by decide +kernel) rfl ?_
  rcases obr_some h with ⟨o23, e28, h⟩ | e28
  · refine g46_30L15_ok FU _ _ _ e28 _ (fun o' e' => ?_) (fun o' e' => by cases e')
    cases e'
    intro d24 d25 d26 d27
    refine Ru.kI (q := (.iconst 0, 1)) (c := 0) (by decide +kernel) rfl (by decide) ?_
    cases h
    exact Ru.iret (by decide +kernel) rfl (nar_b1 (by decide))
  · exact g46_30L15_ok FU _ _ _ e28 _ (fun o' e' => by cases e') (fun o' e' => by cases e'; rfl)
def g45_30 (S : St) : Option (St) := ob (g46_30 S) (fun o1 => gd (inR o1) (if o1 = 0 then if (S.F 31 2) < 4 then gd (ixR ((S.F 31 2) + 1) 5) (some (((S.f 31 2 ((S.F 31 2) + 1)).a 33 ((S.F 31 2) + 1) (S.F 30 2)).f 31 3 (S.F 30 2))) else some ((S.f 30 3 1).f 30 2 (S.F 31 3)) else some (S.f 30 2 (S.F 31 3))))
set_option maxRecDepth 100000 in
set_option maxHeartbeats 4000000 in
theorem g45_30_ok {S : St} {o : St} (h : g45_30 S  = some o) : Ru none 12 247 45 (0, mn_pad (mn_ent [.ref 30]) 1, [], S.ns, Hp S) ((0, none), o.ns, Hp o) := by
  unfold g45_30 at h
  show Ru none 12 247 45 (0, [some (.ref 30)], [], S.ns, Hp S) _
  refine Ru.op (q := (.aload_n 0, 1)) (by decide +kernel) rfl ?_
  obtain ⟨o1, e2, h⟩ := ob_some h
  refine Ru.vcall (i := 44) (j2 := 46) (as := []) (by decide +kernel) (by rfl) rfl rfl (hp30 _) (by decide) ⟨(Nat.le_of_ble_eq_true rfl), (by show 19 + 4 ≤ 247; exact Nat.le_of_ble_eq_true rfl), Nat.le_of_ble_eq_true rfl, Nat.le_of_ble_eq_true rfl⟩ ((g46_30_ok e2).up (Nat.le_of_ble_eq_true rfl) (Nat.le_of_ble_eq_true rfl)) ?_
  obtain ⟨g3, h⟩ := gd_some h
  by_cases b4 : o1 = 0
  · replace h := if_t b4 h
    refine Ru.br (k := .eq) (off := 17) (bb := true) (tg := 21) (by decide +kernel) (by decide +kernel) (cz (ci_eq1 g3 (by decide) b4)) rfl ?_
    refine Ru.op (q := (.aload_n 0, 1)) (by decide +kernel) rfl ?_
    refine Ru.get (i := 14) (v := .ref 31) (by decide +kernel) (by rfl) (hp30 _) (by decide) rfl ?_
    refine Ru.getI (i := 24) (x := (S.F 31 2)) (by decide +kernel) (by rfl) (hp31 _) (by decide) rfl (eI_of _) ?_
    refine Ru.kI (q := (.iconst 4, 1)) (c := 4) (by decide +kernel) rfl (by decide) ?_
    by_cases b5 : (S.F 31 2) < 4
    · replace h := if_t b5 h
      refine Ru.br2 (k := .lt) (off := 22) (bb := true) (tg := 51) (by decide +kernel) (by decide +kernel) (ci_lt1 (inR_to _) (by decide) b5) rfl ?_
      refine Ru.op (q := (.aload_n 0, 1)) (by decide +kernel) rfl ?_
      refine Ru.get (i := 14) (v := .ref 31) (by decide +kernel) (by rfl) (hp30 _) (by decide) rfl ?_
      refine Ru.op (q := (.dup, 1)) (by decide +kernel) rfl ?_
      refine Ru.getI (i := 24) (x := (S.F 31 2)) (by decide +kernel) (by rfl) (hp31 _) (by decide) rfl (eI_of _) ?_
      refine Ru.kI (q := (.iconst 1, 1)) (c := 1) (by decide +kernel) rfl (by decide) ?_
      refine Ru.ar2 (i := .iadd) (z := ((S.F 31 2) + 1)) (by decide +kernel) rfl (ar_add _ _) ?_
      refine Ru.putH (i := 24) (by decide +kernel) (by rfl) (hp31 _) (by decide) (Nat.le_of_ble_eq_true rfl) rfl (by decide +kernel) (pf_31_2 _ _) ?_
      refine Ru.op (q := (.aload_n 0, 1)) (by decide +kernel) rfl ?_
      refine Ru.get (i := 14) (v := .ref 31) (by decide +kernel) (by rfl) (hp30 _) (by decide) rfl ?_
      refine Ru.get (i := 31) (v := .ref 33) (by decide +kernel) (by rfl) (hp31 _) (by decide) rfl ?_
      refine Ru.op (q := (.aload_n 0, 1)) (by decide +kernel) rfl ?_
      refine Ru.get (i := 14) (v := .ref 31) (by decide +kernel) (by rfl) (hp30 _) (by decide) rfl ?_
      refine Ru.getI (i := 24) (x := ((S.F 31 2) + 1)) (by decide +kernel) (by rfl) (hp31 _) (by decide) rfl rfl ?_
      refine Ru.op (q := (.aload_n 0, 1)) (by decide +kernel) rfl ?_
      refine Ru.getI (i := 34) (x := (S.F 30 2)) (by decide +kernel) (by rfl) (hp30 _) (by decide) rfl (eI_of _) ?_
      obtain ⟨g6, h⟩ := gd_some h
      refine Ru.istI (i := ((S.F 31 2) + 1)) (x := (S.F 30 2)) (by decide +kernel) (hp33 _) g6 (ps_33 _ _ _) ?_
      refine Ru.op (q := (.aload_n 0, 1)) (by decide +kernel) rfl ?_
      refine Ru.get (i := 14) (v := .ref 31) (by decide +kernel) (by rfl) (hp30 _) (by decide) rfl ?_
      refine Ru.op (q := (.aload_n 0, 1)) (by decide +kernel) rfl ?_
      refine Ru.getI (i := 34) (x := (S.F 30 2)) (by decide +kernel) (by rfl) (hp30 _) (by decide) rfl (eI_of _) ?_
      refine Ru.putH (i := 28) (by decide +kernel) (by rfl) (hp31 _) (by decide) (Nat.le_of_ble_eq_true rfl) rfl (by decide +kernel) (pf_31_3 _ _) ?_
      cases h
      exact Ru.end (q := (.return_, 1)) (by decide +kernel) rfl rfl
    · replace h := if_f b5 h
      refine Ru.br2 (k := .lt) (off := 22) (bb := false) (tg := 32) (by decide +kernel) (by decide +kernel) (ci_lt0 (inR_to _) (by decide) b5) rfl ?_
      refine Ru.op (q := (.aload_n 0, 1)) (by decide +kernel) rfl ?_
      refine Ru.kI (q := (.iconst 1, 1)) (c := 1) (by decide +kernel) rfl (by decide) ?_
      refine Ru.putH (i := 37) (by decide +kernel) (by rfl) (hp30 _) (by decide) (Nat.le_of_ble_eq_true rfl) (fk_b (by decide)) (by decide +kernel) (pf_30_3 _ _) ?_
      refine Ru.op (q := (.aload_n 0, 1)) (by decide +kernel) rfl ?_
      refine Ru.op (q := (.aload_n 0, 1)) (by decide +kernel) rfl ?_
      refine Ru.get (i := 14) (v := .ref 31) (by decide +kernel) (by rfl) (hp30 _) (by decide) rfl ?_
      refine Ru.getI (i := 28) (x := (S.F 31 3)) (by decide +kernel) (by rfl) (hp31 _) (by decide) rfl (eI_of _) ?_
      refine Ru.putH (i := 34) (by decide +kernel) (by rfl) (hp30 _) (by decide) (Nat.le_of_ble_eq_true rfl) rfl (by decide +kernel) (pf_30_2 _ _) ?_
      refine Ru.op (q := (.goto 46, 3)) (by decide +kernel) rfl ?_
      cases h
      exact Ru.end (q := (.return_, 1)) (by decide +kernel) rfl rfl
  · replace h := if_f b4 h
    refine Ru.br (k := .eq) (off := 17) (bb := false) (tg := 7) (by decide +kernel) (by decide +kernel) (cz (ci_eq0 g3 (by decide) b4)) rfl ?_
    refine Ru.op (q := (.aload_n 0, 1)) (by decide +kernel) rfl ?_
    refine Ru.op (q := (.aload_n 0, 1)) (by decide +kernel) rfl ?_
    refine Ru.get (i := 14) (v := .ref 31) (by decide +kernel) (by rfl) (hp30 _) (by decide) rfl ?_
    refine Ru.getI (i := 28) (x := (S.F 31 3)) (by decide +kernel) (by rfl) (hp31 _) (by decide) rfl (eI_of _) ?_
    refine Ru.putH (i := 34) (by decide +kernel) (by rfl) (hp30 _) (by decide) (Nat.le_of_ble_eq_true rfl) rfl (by decide +kernel) (pf_30_2 _ _) ?_
    refine Ru.op (q := (.goto 76, 3)) (by decide +kernel) rfl ?_
    cases h
    exact Ru.end (q := (.return_, 1)) (by decide +kernel) rfl rfl
def g43_30L15 (v1 : Nat) (v2 : Int) (v3 : Int) : Nat → Int → St → Option (St)
  | 0, _, _ => none
  | n + 1, v4, S => gd (inR v4) (gd (inR v3) (if v4 < v3 then gA S v1 (fun N6 f7 => gd (ixR (v2 + v4) N6) (ob (g44_30 S (f7 (v2 + v4))) (fun o11 => g43_30L15 v1 v2 v3 n (v4 + 1) o11))) else some S))
set_option maxRecDepth 100000 in
set_option maxHeartbeats 4000000 in
theorem g43_30L15_ok {v1 : Nat} {v2 : Int} {v3 : Int} : ∀ (n : Nat) (v4 : Int) (S : St) (out : St), g43_30L15 v1 v2 v3 n v4 S = some out → ∀ r, (∀ (e1 e2 e3 e4 : Option Value), Ru none 13 267 43 (37, [some (.ref 30), e1, e2, e3, e4], [], out.ns, Hp out) r) → Ru none 13 267 43 (15, [some (.ref 30), some (.ref v1), some (vI v2), some (vI v3), some (vI v4)], [], S.ns, Hp S) r := by
  intro n
  induction n with
  | zero => intro v4 S out h; cases h
  | succ n ih =>
    intro v4 S out h r hk
    unfold g43_30L15 at h
    refine Ru.op (q := (.iload 4, 2)) (by decide +kernel) rfl ?_
    refine Ru.op (q := (.iload_n 3, 1)) (by decide +kernel) rfl ?_
    obtain ⟨g3, h⟩ := gd_some h
    obtain ⟨g4, h⟩ := gd_some h
    by_cases b5 : v4 < v3
    · replace h := if_t b5 h
      refine Ru.br2 (k := .ge) (off := 19) (bb := false) (tg := 21) (by decide +kernel) (by decide +kernel) (ci_ge0 g3 g4 b5) rfl ?_
      refine Ru.op (q := (.aload_n 0, 1)) (by decide +kernel) rfl ?_
      refine Ru.op (q := (.aload_n 1, 1)) (by decide +kernel) rfl ?_
      refine Ru.op (q := (.iload_n 2, 1)) (by decide +kernel) rfl ?_
      refine Ru.op (q := (.iload 4, 2)) (by decide +kernel) rfl ?_
      refine Ru.ar2 (i := .iadd) (z := (v2 + v4)) (by decide +kernel) rfl (ar_add _ _) ?_
      obtain ⟨N6, f7, e8, q9, h⟩ := gA_some h
      obtain ⟨g10, h⟩ := gd_some h
      refine Ru.ildI (i := (v2 + v4)) (z := (f7 (v2 + v4))) (by decide +kernel) q9 g10 rfl ?_
      obtain ⟨o11, e12, h⟩ := ob_some h
      refine Ru.vcall (i := 48) (j2 := 44) (as := [vI (f7 (v2 + v4))]) (by decide +kernel) (by rfl) rfl rfl (hp30 _) (by decide) ⟨(Nat.le_of_ble_eq_true rfl), (by show 19 + 2 ≤ 267; exact Nat.le_of_ble_eq_true rfl), Nat.le_of_ble_eq_true rfl, Nat.le_of_ble_eq_true rfl⟩ ((g44_30_ok e12).up (Nat.le_of_ble_eq_true rfl) (Nat.le_of_ble_eq_true rfl)) ?_
      refine Ru.inc (x := v4) (z := (v4 + 1)) (xs' := [some (.ref 30), some (.ref v1), some (vI v2), some (vI v3), some (vI (v4 + 1))]) (by decide +kernel) rfl rfl rfl ?_
      refine Ru.op (q := (.goto (-19), 3)) (by decide +kernel) rfl ?_
      exact ih _ _ _ h r hk
    · replace h := if_f b5 h
      refine Ru.br2 (k := .ge) (off := 19) (bb := true) (tg := 37) (by decide +kernel) (by decide +kernel) (ci_ge1 g3 g4 b5) rfl ?_
      cases h
      exact hk _ _ _ _
def g43_30 (S : St) (v1 : Nat) (v2 : Int) (v3 : Int) : Option (St) := gd (inR v3) (if 16 < v3 then some (S.f 30 3 1) else ob (g43_30L15 v1 v2 v3 FU 0 S) (fun o13 => ob (g45_30 o13) (fun o19 => some o19)))
set_option maxRecDepth 100000 in
set_option maxHeartbeats 4000000 in
theorem g43_30_ok {S : St} {v1 : Nat} {v2 : Int} {v3 : Int} {o : St} (h : g43_30 S v1 v2 v3 = some o) : Ru none 13 267 43 (0, mn_pad (mn_ent [.ref 30, .ref v1, vI v2, vI v3]) 5, [], S.ns, Hp S) ((0, none), o.ns, Hp o) := by
  unfold g43_30 at h
  show Ru none 13 267 43 (0, [some (.ref 30), some (.ref v1), some (vI v2), some (vI v3), none], [], S.ns, Hp S) _
  refine Ru.op (q := (.iload_n 3, 1)) (by decide +kernel) rfl ?_
  refine Ru.kI (q := (.bipush 16, 2)) (c := 16) (by decide +kernel) rfl (by decide) ?_
  obtain ⟨g1, h⟩ := gd_some h
  by_cases b2 : 16 < v3
  · replace h := if_t b2 h
    refine Ru.br2 (k := .le) (off := 9) (bb := false) (tg := 6) (by decide +kernel) (by decide +kernel) (ci_le0 g1 (by decide) b2) rfl ?_
    refine Ru.op (q := (.aload_n 0, 1)) (by decide +kernel) rfl ?_
    refine Ru.kI (q := (.iconst 1, 1)) (c := 1) (by decide +kernel) rfl (by decide) ?_
    refine Ru.putH (i := 37) (by decide +kernel) (by rfl) (hp30 _) (by decide) (Nat.le_of_ble_eq_true rfl) (fk_b (by decide)) (by decide +kernel) (pf_30_3 _ _) ?_
    cases h
    exact Ru.end (q := (.return_, 1)) (by decide +kernel) rfl rfl
  · replace h := if_f b2 h
    refine Ru.br2 (k := .le) (off := 9) (bb := true) (tg := 12) (by decide +kernel) (by decide +kernel) (ci_le1 g1 (by decide) b2) rfl ?_
    refine Ru.kI (q := (.iconst 0, 1)) (c := 0) (by decide +kernel) rfl (by decide) ?_
    refine Ru.op (q := (.istore 4, 2)) (S' := (15, [some (.ref 30), some (.ref v1), some (vI v2), some (vI v3), some (vI 0)], [], _, _)) (by decide +kernel) rfl ?_
    obtain ⟨o13, e18, h⟩ := ob_some h
    refine g43_30L15_ok FU _ _ _ e18 _ ?_
    intro d14 d15 d16 d17
    refine Ru.op (q := (.aload_n 0, 1)) (by decide +kernel) rfl ?_
    obtain ⟨o19, e20, h⟩ := ob_some h
    refine Ru.vcall (i := 52) (j2 := 45) (as := []) (by decide +kernel) (by rfl) rfl rfl (hp30 _) (by decide) ⟨(Nat.le_of_ble_eq_true rfl), (by show 19 + 1 ≤ 267; exact Nat.le_of_ble_eq_true rfl), Nat.le_of_ble_eq_true rfl, Nat.le_of_ble_eq_true rfl⟩ ((g45_30_ok e20).up (Nat.le_of_ble_eq_true rfl) (Nat.le_of_ble_eq_true rfl)) ?_
    cases h
    exact Ru.end (q := (.return_, 1)) (by decide +kernel) rfl rfl
