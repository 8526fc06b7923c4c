def g27L2 (rc : St → Int → Int → Option (St)) (v1 : Int) (v2 : Int) : Nat → Int → St → Option (Sum (St) (St))
  | 0, _, _ => none
  | n + 1, v3, S => gd (inR v3) (if 160 < v3 then some (.inl S) else ob (g28b rc (S.f 1 4 ((S.F 1 4) + 1)) v2) (fun o18 => if (o18.F 1 3) = (-1) then ob (g23 o18) (fun o21 => gd (inR o21) (if o21 = 41 then gd (inR v1) (if v1 < 16 then gd (ixR v1 16) (some (.inr ((o18.f 1 4 ((o18.F 1 4) + 1)).a 12 v1 ((o18.A 12 v1) + v3)))) else some (.inr (o18.f 1 4 ((o18.F 1 4) + 1)))) else if o21 = 44 then g27L2 rc v1 v2 n (v3 + 1) o18 else ob (g25 o18 (o18.F 1 4)) (fun o29 => some (.inr o29.2)))) else some (.inr o18)))
set_option maxRecDepth 100000 in
set_option maxHeartbeats 4000000 in
theorem g27L2_ok {FR LO : Nat} {rc : St → Int → Int → Option (St)} (hF : 12 ≤ FR) (hL : 245 ≤ LO) (hrc : ∀ {S : St} {v1 : Int} {v2 : Int} {o : St}, rc S v1 v2 = some o → Ru none FR LO 27 (0, mn_pad (mn_ent [.ref 1, vI v1, vI v2]) 5, [], S.ns, Hp S) ((0, none), o.ns, Hp o)) {v1 : Int} {v2 : Int} : ∀ (n : Nat) (v3 : Int) (S : St) (d4 : Option Value) (out : Sum (St) (St)), g27L2 rc v1 v2 n v3 S = some out → ∀ r, (∀ o, out = .inl o → ∀ (e0 e1 e2 e3 e4 : Option Value), Ru none (FR + 2) (LO + 49) 27 (96, [e0, e1, e2, e3, e4], [], o.ns, Hp o) r) → (∀ o, out = .inr o → r = ((0, none), o.ns, Hp o)) → Ru none (FR + 2) (LO + 49) 27 (2, [some (.ref 1), some (vI v1), some (vI v2), some (vI v3), d4], [], S.ns, Hp S) r := by
  intro n
  induction n with
  | zero => intro v3 S d4 out h; cases h
  | succ n ih =>
    intro v3 S d4 out h r hk hr
    unfold g27L2 at h
    refine Ru.op (q := (.iload_n 3, 1)) (by decide +kernel) rfl ?_
    refine Ru.kI (q := (.sipush 160, 3)) (c := 160) (by decide +kernel) rfl (by decide) ?_
    obtain ⟨g16, h⟩ := gd_some h
    by_cases b17 : 160 < v3
    · replace h := if_t b17 h
      refine Ru.br2 (k := .gt) (off := 90) (bb := true) (tg := 96) (by decide +kernel) (by decide +kernel) (ci_gt1 g16 (by decide) b17) rfl ?_
      cases h
      exact hk _ rfl _ _ _ _ _
    · replace h := if_f b17 h
      refine Ru.br2 (k := .gt) (off := 90) (bb := false) (tg := 9) (by decide +kernel) (by decide +kernel) (ci_gt0 g16 (by decide) b17) rfl ?_
      refine Ru.op (q := (.aload_n 0, 1)) (by decide +kernel) rfl ?_
      refine Ru.op (q := (.dup, 1)) (by decide +kernel) rfl ?_
      refine Ru.getI (i := 36) (x := (S.F 1 4)) (by decide +kernel) (by rfl) (hp1 _) (by decide) rfl (eI_of _) ?_
      refine Ru.kI (q := (.iconst 1, 1)) (c := 1) (by decide +kernel) rfl (by decide) ?_
      refine Ru.ar2 (i := .iadd) (z := ((S.F 1 4) + 1)) (by decide +kernel) rfl (ar_add _ _) ?_
      refine Ru.putH (i := 36) (by decide +kernel) (by rfl) (hp1 _) (by decide) (Nat.le_of_ble_eq_true rfl) rfl (by decide +kernel) (pf_1_4 _ _) ?_
      refine Ru.op (q := (.aload_n 0, 1)) (by decide +kernel) rfl ?_
      refine Ru.op (q := (.iload_n 2, 1)) (by decide +kernel) rfl ?_
      obtain ⟨o18, e19, h⟩ := ob_some h
      refine Ru.vcall (i := 126) (j2 := 28) (as := [vI v2]) (by decide +kernel) (by rfl) rfl rfl (hp1 _) (by decide) ⟨(by omega), (by show 19 + 6 ≤ (LO + 49); omega), Nat.le_of_ble_eq_true rfl, Nat.le_of_ble_eq_true rfl⟩ ((g28b_ok hF hL hrc e19).up (by omega) (by show _ ≤ (LO + 49) - (19 + 6); omega)) ?_
      refine Ru.op (q := (.aload_n 0, 1)) (by decide +kernel) rfl ?_
      refine Ru.getI (i := 40) (x := (o18.F 1 3)) (by decide +kernel) (by rfl) (hp1 _) (by decide) rfl (eI_of _) ?_
      refine Ru.kI (q := (.iconst (-1), 1)) (c := (-1)) (by decide +kernel) rfl (by decide) ?_
      by_cases b20 : (o18.F 1 3) = (-1)
      · replace h := if_t b20 h
        refine Ru.br2 (k := .eq) (off := 4) (bb := true) (tg := 33) (by decide +kernel) (by decide +kernel) (ci_eq1 (inR_to _) (by decide) b20) rfl ?_
        refine Ru.op (q := (.aload_n 0, 1)) (by decide +kernel) rfl ?_
        obtain ⟨o21, e22, h⟩ := ob_some h
        refine Ru.vcall (i := 69) (j2 := 23) (as := []) (by decide +kernel) (by rfl) rfl rfl (hp1 _) (by decide) ⟨(by omega), (by show 19 + 1 ≤ (LO + 49); omega), Nat.le_of_ble_eq_true rfl, Nat.le_of_ble_eq_true rfl⟩ ((g23_ok e22).up (by omega) (by show _ ≤ (LO + 49) - (19 + 1); omega)) ?_
        refine Ru.op (q := (.istore 4, 2)) (S' := (39, [some (.ref 1), some (vI v1), some (vI v2), some (vI v3), some (vI o21)], [], _, _)) (by decide +kernel) rfl ?_
        refine Ru.op (q := (.iload 4, 2)) (by decide +kernel) rfl ?_
        refine Ru.kI (q := (.bipush 41, 2)) (c := 41) (by decide +kernel) rfl (by decide) ?_
        obtain ⟨g23, h⟩ := gd_some h
        by_cases b24 : o21 = 41
        · replace h := if_t b24 h
          refine Ru.br2 (k := .ne) (off := 30) (bb := false) (tg := 46) (by decide +kernel) (by decide +kernel) (ci_ne0 g23 (by decide) b24) rfl ?_
          refine Ru.op (q := (.aload_n 0, 1)) (by decide +kernel) rfl ?_
          refine Ru.op (q := (.dup, 1)) (by decide +kernel) rfl ?_
          refine Ru.getI (i := 36) (x := (o18.F 1 4)) (by decide +kernel) (by rfl) (hp1 _) (by decide) rfl (eI_of _) ?_
          refine Ru.kI (q := (.iconst 1, 1)) (c := 1) (by decide +kernel) rfl (by decide) ?_
          refine Ru.ar2 (i := .iadd) (z := ((o18.F 1 4) + 1)) (by decide +kernel) rfl (ar_add _ _) ?_
          refine Ru.putH (i := 36) (by decide +kernel) (by rfl) (hp1 _) (by decide) (Nat.le_of_ble_eq_true rfl) rfl (by decide +kernel) (pf_1_4 _ _) ?_
          refine Ru.op (q := (.iload_n 1, 1)) (by decide +kernel) rfl ?_
          refine Ru.kI (q := (.bipush 16, 2)) (c := 16) (by decide +kernel) rfl (by decide) ?_
          obtain ⟨g25, h⟩ := gd_some h
          by_cases b26 : v1 < 16
          · replace h := if_t b26 h
            refine Ru.br2 (k := .ge) (off := 13) (bb := false) (tg := 62) (by decide +kernel) (by decide +kernel) (ci_ge0 g25 (by decide) b26) rfl ?_
            refine Ru.op (q := (.aload_n 0, 1)) (by decide +kernel) rfl ?_
            refine Ru.get (i := 29) (v := .ref 12) (by decide +kernel) (by rfl) (hp1 _) (by decide) rfl ?_
            refine Ru.op (q := (.iload_n 1, 1)) (by decide +kernel) rfl ?_
            refine Ru.op (q := (.dup2, 1)) (by decide +kernel) rfl ?_
            obtain ⟨g27, h⟩ := gd_some h
            refine Ru.ildI (i := v1) (z := (o18.A 12 v1)) (by decide +kernel) (hp12 _) g27 (eI_of _) ?_
            refine Ru.op (q := (.iload_n 3, 1)) (by decide +kernel) rfl ?_
            refine Ru.ar2 (i := .iadd) (z := ((o18.A 12 v1) + v3)) (by decide +kernel) rfl (ar_add _ _) ?_
            refine Ru.istI (i := v1) (x := ((o18.A 12 v1) + v3)) (by decide +kernel) (hp12 _) g27 (ps_12 _ _ _) ?_
            cases h
            have h9 := hr _ rfl
            subst h9
            exact Ru.end (q := (.return_, 1)) (by decide +kernel) rfl rfl
          · replace h := if_f b26 h
            refine Ru.br2 (k := .ge) (off := 13) (bb := true) (tg := 72) (by decide +kernel) (by decide +kernel) (ci_ge1 g25 (by decide) b26) rfl ?_
            cases h
            have h9 := hr _ rfl
            subst h9
            exact Ru.end (q := (.return_, 1)) (by decide +kernel) rfl rfl
        · replace h := if_f b24 h
          refine Ru.br2 (k := .ne) (off := 30) (bb := true) (tg := 73) (by decide +kernel) (by decide +kernel) (ci_ne1 g23 (by decide) b24) rfl ?_
          refine Ru.op (q := (.iload 4, 2)) (by decide +kernel) rfl ?_
          refine Ru.kI (q := (.bipush 44, 2)) (c := 44) (by decide +kernel) rfl (by decide) ?_
          by_cases b28 : o21 = 44
          · replace h := if_t b28 h
            refine Ru.br2 (k := .eq) (off := 13) (bb := true) (tg := 90) (by decide +kernel) (by decide +kernel) (ci_eq1 g23 (by decide) b28) rfl ?_
            refine Ru.inc (x := v3) (z := (v3 + 1)) (xs' := [some (.ref 1), some (vI v1), some (vI v2), some (vI (v3 + 1)), some (vI o21)]) (by decide +kernel) rfl rfl rfl ?_
            refine Ru.op (q := (.goto (-91), 3)) (by decide +kernel) rfl ?_
            exact ih _ _ _ _ h r hk hr
          · replace h := if_f b28 h
            refine Ru.br2 (k := .eq) (off := 13) (bb := false) (tg := 80) (by decide +kernel) (by decide +kernel) (ci_eq0 g23 (by decide) b28) rfl ?_
            refine Ru.op (q := (.aload_n 0, 1)) (by decide +kernel) rfl ?_
            refine Ru.op (q := (.aload_n 0, 1)) (by decide +kernel) rfl ?_
            refine Ru.getI (i := 36) (x := (o18.F 1 4)) (by decide +kernel) (by rfl) (hp1 _) (by decide) rfl (eI_of _) ?_
            obtain ⟨o29, e30, h⟩ := ob_some h
            refine Ru.vcall (i := 62) (j2 := 25) (as := [vI (o18.F 1 4)]) (by decide +kernel) (by rfl) rfl rfl (hp1 _) (by decide) ⟨(by omega), (by show 19 + 2 ≤ (LO + 49); omega), Nat.le_of_ble_eq_true rfl, Nat.le_of_ble_eq_true rfl⟩ ((g25_ok e30).up (by omega) (by show _ ≤ (LO + 49) - (19 + 2); omega)) ?_
            refine Ru.op (q := (.pop, 1)) (by decide +kernel) rfl ?_
            cases h
            have h9 := hr _ rfl
            subst h9
            exact Ru.end (q := (.return_, 1)) (by decide +kernel) rfl rfl
      · replace h := if_f b20 h
        refine Ru.br2 (k := .eq) (off := 4) (bb := false) (tg := 32) (by decide +kernel) (by decide +kernel) (ci_eq0 (inR_to _) (by decide) b20) rfl ?_
        cases h
        have h9 := hr _ rfl
        subst h9
        exact Ru.end (q := (.return_, 1)) (by decide +kernel) rfl rfl
def g27b (rc : St → Int → Int → Option (St)) (S : St) (v1 : Int) (v2 : Int) : Option (St) := obr (g27L2 rc v1 v2 FU 1 S) (fun o31 => some o31)
set_option maxRecDepth 100000 in
set_option maxHeartbeats 4000000 in
theorem g27b_ok {FR LO : Nat} {rc : St → Int → Int → Option (St)} (hF : 12 ≤ FR) (hL : 245 ≤ LO) (hrc : ∀ {S : St} {v1 : Int} {v2 : Int} {o : St}, rc S v1 v2 = some o → Ru none FR LO 27 (0, mn_pad (mn_ent [.ref 1, vI v1, vI v2]) 5, [], S.ns, Hp S) ((0, none), o.ns, Hp o)) {S : St} {v1 : Int} {v2 : Int} {o : St} (h : g27b rc S v1 v2 = some o) : Ru none (FR + 2) (LO + 49) 27 (0, mn_pad (mn_ent [.ref 1, vI v1, vI v2]) 5, [], S.ns, Hp S) ((0, none), o.ns, Hp o) := by
  unfold g27b at h
  show Ru none (FR + 2) (LO + 49) 27 (0, [some (.ref 1), some (vI v1), some (vI v2), none, none], [], S.ns, Hp S) _
  refine Ru.kI (q := (.iconst 1, 1)) (c := 1) (by decide +kernel) rfl (by decide) ?_
  refine Ru.op (q := (.istore_n 3, 1)) (S' := (2, [some (.ref 1), some (vI v1), some (vI v2), some (vI 1), none], [], _, _)) (by decide +kernel) rfl ?_
  rcases obr_some h with ⟨o31, e37, h⟩ | e37
  · refine g27L2_ok hF hL hrc FU _ _ _ _ e37 _ (fun o' e' => ?_) (fun o' e' => by cases e')
    cases e'
    intro d32 d33 d34 d35 d36
    cases h
    exact Ru.end (q := (.return_, 1)) (by decide +kernel) rfl rfl
  · exact g27L2_ok hF hL hrc FU _ _ _ _ e37 _ (fun o' e' => by cases e') (fun o' e' => by cases e'; rfl)
def g27 : Nat → St → Int → Int → Option (St)
  | 0, _, _, _ => none
  | n + 1, S, v1, v2 => g27b (g27 n) S v1 v2
theorem g27_ok : ∀ (n : Nat) {S : St} {v1 : Int} {v2 : Int} {o : St}, g27 n S v1 v2 = some o → Ru none (12 + 2 * n) (245 + 49 * n) 27 (0, mn_pad (mn_ent [.ref 1, vI v1, vI v2]) 5, [], S.ns, Hp S) ((0, none), o.ns, Hp o) := by
  intro n
  induction n with
  | zero => intro S v1 v2 o h; cases h
  | succ n ih => intro S v1 v2 o h; exact (g27b_ok (FR := 12 + 2 * n) (LO := 245 + 49 * n) (by omega) (by omega) ih h).up (by omega) (by omega)
def g24 (S : St) (v1 : Int) : Option (St) := ob (g23 S) (fun o1 => gd (inR o1) (if o1 < 65 then ob (g25 (S.f 1 12 0) (S.F 1 4)) (fun o5 => some o5.2) else if 90 < o1 then ob (g25 (S.f 1 12 0) (S.F 1 4)) (fun o8 => some o8.2) else gd (inR v1) (if v1 = 0 then ob (g26 ((S.f 1 12 0).f 1 4 ((S.F 1 4) + 1)) ((131072 + (((o1 - 65) * 2) * 256)) + 0)) (fun o12 => ob (g23 o12) (fun o14 => gd (inR o14) (if o14 = 40 then ob (g27 64 o12 0 0) (fun o18 => some o18) else some o12))) else ob (g26 ((S.f 1 12 0).f 1 4 ((S.F 1 4) + 1)) ((131072 + (((o1 - 65) * 2) * 256)) + 256)) (fun o20 => ob (g23 o20) (fun o22 => gd (inR o22) (if o22 = 40 then ob (g27 64 o20 0 0) (fun o26 => some o26) else some o20))))))
set_option maxRecDepth 100000 in
set_option maxHeartbeats 4000000 in
theorem g24_ok {S : St} {v1 : Int} {o : St} (h : g24 S v1 = some o) : Ru none 141 3405 24 (0, mn_pad (mn_ent [.ref 1, vI v1]) 3, [], S.ns, Hp S) ((0, none), o.ns, Hp o) := by
  unfold g24 at h
  show Ru none 141 3405 24 (0, [some (.ref 1), some (vI v1), none], [], S.ns, Hp S) _
  refine Ru.op (q := (.aload_n 0, 1)) (by decide +kernel) rfl ?_
  obtain ⟨o1, e2, h⟩ := ob_some h
  refine Ru.vcall (i := 69) (j2 := 23) (as := []) (by decide +kernel) (by rfl) rfl rfl (hp1 _) (by decide) ⟨(Nat.le_of_ble_eq_true rfl), (by show 19 + 1 ≤ 3405; exact Nat.le_of_ble_eq_true rfl), Nat.le_of_ble_eq_true rfl, Nat.le_of_ble_eq_true rfl⟩ ((g23_ok e2).up (Nat.le_of_ble_eq_true rfl) (Nat.le_of_ble_eq_true rfl)) ?_
  refine Ru.op (q := (.istore_n 2, 1)) (S' := (5, [some (.ref 1), some (vI v1), some (vI o1)], [], _, _)) (by decide +kernel) rfl ?_
  refine Ru.op (q := (.aload_n 0, 1)) (by decide +kernel) rfl ?_
  refine Ru.kI (q := (.iconst 0, 1)) (c := 0) (by decide +kernel) rfl (by decide) ?_
  refine Ru.putH (i := 84) (by decide +kernel) (by rfl) (hp1 _) (by decide) (Nat.le_of_ble_eq_true rfl) rfl (by decide +kernel) (pf_1_12 _ _) ?_
  refine Ru.op (q := (.iload_n 2, 1)) (by decide +kernel) rfl ?_
  refine Ru.kI (q := (.bipush 65, 2)) (c := 65) (by decide +kernel) rfl (by decide) ?_
  obtain ⟨g3, h⟩ := gd_some h
  by_cases b4 : o1 < 65
  · replace h := if_t b4 h
    refine Ru.br2 (k := .lt) (off := 9) (bb := true) (tg := 22) (by decide +kernel) (by decide +kernel) (ci_lt1 g3 (by decide) b4) rfl ?_
    refine Ru.op (q := (.aload_n 0, 1)) (by decide +kernel) rfl ?_
    refine Ru.op (q := (.aload_n 0, 1)) (by decide +kernel) rfl ?_
    refine Ru.getI (i := 36) (x := (S.F 1 4)) (by decide +kernel) (by rfl) (hp1 _) (by decide) rfl (eI_of _) ?_
    obtain ⟨o5, e6, h⟩ := ob_some h
    refine Ru.vcall (i := 62) (j2 := 25) (as := [vI (S.F 1 4)]) (by decide +kernel) (by rfl) rfl rfl (hp1 _) (by decide) ⟨(Nat.le_of_ble_eq_true rfl), (by show 19 + 2 ≤ 3405; exact Nat.le_of_ble_eq_true rfl), Nat.le_of_ble_eq_true rfl, Nat.le_of_ble_eq_true rfl⟩ ((g25_ok e6).up (Nat.le_of_ble_eq_true rfl) (Nat.le_of_ble_eq_true rfl)) ?_
    refine Ru.op (q := (.pop, 1)) (by decide +kernel) rfl ?_
    cases h
    exact Ru.end (q := (.return_, 1)) (by decide +kernel) rfl rfl
  · replace h := if_f b4 h
    refine Ru.br2 (k := .lt) (off := 9) (bb := false) (tg := 16) (by decide +kernel) (by decide +kernel) (ci_lt0 g3 (by decide) b4) rfl ?_
    refine Ru.op (q := (.iload_n 2, 1)) (by decide +kernel) rfl ?_
    refine Ru.kI (q := (.bipush 90, 2)) (c := 90) (by decide +kernel) rfl (by decide) ?_
    by_cases b7 : 90 < o1
    · replace h := if_t b7 h
      refine Ru.br2 (k := .le) (off := 13) (bb := false) (tg := 22) (by decide +kernel) (by decide +kernel) (ci_le0 g3 (by decide) b7) rfl ?_
      refine Ru.op (q := (.aload_n 0, 1)) (by decide +kernel) rfl ?_
      refine Ru.op (q := (.aload_n 0, 1)) (by decide +kernel) rfl ?_
      refine Ru.getI (i := 36) (x := (S.F 1 4)) (by decide +kernel) (by rfl) (hp1 _) (by decide) rfl (eI_of _) ?_
      obtain ⟨o8, e9, h⟩ := ob_some h
      refine Ru.vcall (i := 62) (j2 := 25) (as := [vI (S.F 1 4)]) (by decide +kernel) (by rfl) rfl rfl (hp1 _) (by decide) ⟨(Nat.le_of_ble_eq_true rfl), (by show 19 + 2 ≤ 3405; exact Nat.le_of_ble_eq_true rfl), Nat.le_of_ble_eq_true rfl, Nat.le_of_ble_eq_true rfl⟩ ((g25_ok e9).up (Nat.le_of_ble_eq_true rfl) (Nat.le_of_ble_eq_true rfl)) ?_
      refine Ru.op (q := (.pop, 1)) (by decide +kernel) rfl ?_
      cases h
      exact Ru.end (q := (.return_, 1)) (by decide +kernel) rfl rfl
    · replace h := if_f b7 h
      refine Ru.br2 (k := .le) (off := 13) (bb := true) (tg := 32) (by decide +kernel) (by decide +kernel) (ci_le1 g3 (by decide) b7) rfl ?_
      refine Ru.op (q := (.aload_n 0, 1)) (by decide +kernel) rfl ?_
      refine Ru.op (q := (.dup, 1)) (by decide +kernel) rfl ?_
      refine Ru.getI (i := 36) (x := (S.F 1 4)) (by decide +kernel) (by rfl) (hp1 _) (by decide) rfl (eI_of _) ?_
      refine Ru.kI (q := (.iconst 1, 1)) (c := 1) (by decide +kernel) rfl (by decide) ?_
      refine Ru.ar2 (i := .iadd) (z := ((S.F 1 4) + 1)) (by decide +kernel) rfl (ar_add _ _) ?_
      refine Ru.putH (i := 36) (by decide +kernel) (by rfl) (hp1 _) (by decide) (Nat.le_of_ble_eq_true rfl) rfl (by decide +kernel) (pf_1_4 _ _) ?_
      refine Ru.op (q := (.aload_n 0, 1)) (by decide +kernel) rfl ?_
      refine Ru.kI (q := (.ldc 117, 2)) (c := 131072) (by decide +kernel) rfl (by decide) ?_
      refine Ru.op (q := (.iload_n 2, 1)) (by decide +kernel) rfl ?_
      refine Ru.kI (q := (.bipush 65, 2)) (c := 65) (by decide +kernel) rfl (by decide) ?_
      refine Ru.ar2 (i := .isub) (z := (o1 - 65)) (by decide +kernel) rfl (ar_sub _ _) ?_
      refine Ru.kI (q := (.iconst 2, 1)) (c := 2) (by decide +kernel) rfl (by decide) ?_
      refine Ru.ar2 (i := .imul) (z := ((o1 - 65) * 2)) (by decide +kernel) rfl (ar_mul _ _) ?_
      refine Ru.kI (q := (.sipush 256, 3)) (c := 256) (by decide +kernel) rfl (by decide) ?_
      refine Ru.ar2 (i := .imul) (z := (((o1 - 65) * 2) * 256)) (by decide +kernel) rfl (ar_mul _ _) ?_
      refine Ru.ar2 (i := .iadd) (z := (131072 + (((o1 - 65) * 2) * 256))) (by decide +kernel) rfl (ar_add _ _) ?_
      refine Ru.op (q := (.iload_n 1, 1)) (by decide +kernel) rfl ?_
      obtain ⟨g10, h⟩ := gd_some h
      by_cases b11 : v1 = 0
      · replace h := if_t b11 h
        refine Ru.br (k := .eq) (off := 9) (bb := true) (tg := 66) (by decide +kernel) (by decide +kernel) (cz (ci_eq1 g10 (by decide) b11)) rfl ?_
        refine Ru.kI (q := (.iconst 0, 1)) (c := 0) (by decide +kernel) rfl (by decide) ?_
        refine Ru.ar2 (i := .iadd) (z := ((131072 + (((o1 - 65) * 2) * 256)) + 0)) (by decide +kernel) rfl (ar_add _ _) ?_
        obtain ⟨o12, e13, h⟩ := ob_some h
        refine Ru.vcall (i := 118) (j2 := 26) (as := [vI ((131072 + (((o1 - 65) * 2) * 256)) + 0)]) (by decide +kernel) (by rfl) rfl rfl (hp1 _) (by decide) ⟨(Nat.le_of_ble_eq_true rfl), (by show 19 + 2 ≤ 3405; exact Nat.le_of_ble_eq_true rfl), Nat.le_of_ble_eq_true rfl, Nat.le_of_ble_eq_true rfl⟩ ((g26_ok e13).up (Nat.le_of_ble_eq_true rfl) (Nat.le_of_ble_eq_true rfl)) ?_
        refine Ru.op (q := (.aload_n 0, 1)) (by decide +kernel) rfl ?_
        obtain ⟨o14, e15, h⟩ := ob_some h
        refine Ru.vcall (i := 69) (j2 := 23) (as := []) (by decide +kernel) (by rfl) rfl rfl (hp1 _) (by decide) ⟨(Nat.le_of_ble_eq_true rfl), (by show 19 + 1 ≤ 3405; exact Nat.le_of_ble_eq_true rfl), Nat.le_of_ble_eq_true rfl, Nat.le_of_ble_eq_true rfl⟩ ((g23_ok e15).up (Nat.le_of_ble_eq_true rfl) (Nat.le_of_ble_eq_true rfl)) ?_
        refine Ru.kI (q := (.bipush 40, 2)) (c := 40) (by decide +kernel) rfl (by decide) ?_
        obtain ⟨g16, h⟩ := gd_some h
        by_cases b17 : o14 = 40
        · replace h := if_t b17 h
          refine Ru.br2 (k := .ne) (off := 9) (bb := false) (tg := 80) (by decide +kernel) (by decide +kernel) (ci_ne0 g16 (by decide) b17) rfl ?_
          refine Ru.op (q := (.aload_n 0, 1)) (by decide +kernel) rfl ?_
          refine Ru.kI (q := (.iconst 0, 1)) (c := 0) (by decide +kernel) rfl (by decide) ?_
          refine Ru.kI (q := (.iconst 0, 1)) (c := 0) (by decide +kernel) rfl (by decide) ?_
          obtain ⟨o18, e19, h⟩ := ob_some h
          refine Ru.vcall (i := 122) (j2 := 27) (as := [vI 0, vI 0]) (by decide +kernel) (by rfl) rfl rfl (hp1 _) (by decide) ⟨(Nat.le_of_ble_eq_true rfl), (by show 19 + 5 ≤ 3405; exact Nat.le_of_ble_eq_true rfl), Nat.le_of_ble_eq_true rfl, Nat.le_of_ble_eq_true rfl⟩ ((g27_ok 64 e19).up (Nat.le_of_ble_eq_true rfl) (Nat.le_of_ble_eq_true rfl)) ?_
          cases h
          exact Ru.end (q := (.return_, 1)) (by decide +kernel) rfl rfl
        · replace h := if_f b17 h
          refine Ru.br2 (k := .ne) (off := 9) (bb := true) (tg := 86) (by decide +kernel) (by decide +kernel) (ci_ne1 g16 (by decide) b17) rfl ?_
          cases h
          exact Ru.end (q := (.return_, 1)) (by decide +kernel) rfl rfl
      · replace h := if_f b11 h
        refine Ru.br (k := .eq) (off := 9) (bb := false) (tg := 60) (by decide +kernel) (by decide +kernel) (cz (ci_eq0 g10 (by decide) b11)) rfl ?_
        refine Ru.kI (q := (.sipush 256, 3)) (c := 256) (by decide +kernel) rfl (by decide) ?_
        refine Ru.op (q := (.goto 4, 3)) (by decide +kernel) rfl ?_
        refine Ru.ar2 (i := .iadd) (z := ((131072 + (((o1 - 65) * 2) * 256)) + 256)) (by decide +kernel) rfl (ar_add _ _) ?_
        obtain ⟨o20, e21, h⟩ := ob_some h
        refine Ru.vcall (i := 118) (j2 := 26) (as := [vI ((131072 + (((o1 - 65) * 2) * 256)) + 256)]) (by decide +kernel) (by rfl) rfl rfl (hp1 _) (by decide) ⟨(Nat.le_of_ble_eq_true rfl), (by show 19 + 2 ≤ 3405; exact Nat.le_of_ble_eq_true rfl), Nat.le_of_ble_eq_true rfl, Nat.le_of_ble_eq_true rfl⟩ ((g26_ok e21).up (Nat.le_of_ble_eq_true rfl) (Nat.le_of_ble_eq_true rfl)) ?_
        refine Ru.op (q := (.aload_n 0, 1)) (by decide +kernel) rfl ?_
        obtain ⟨o22, e23, h⟩ := ob_some h
        refine Ru.vcall (i := 69) (j2 := 23) (as := []) (by decide +kernel) (by rfl) rfl rfl (hp1 _) (by decide) ⟨(Nat.le_of_ble_eq_true rfl), (by show 19 + 1 ≤ 3405; exact Nat.le_of_ble_eq_true rfl), Nat.le_of_ble_eq_true rfl, Nat.le_of_ble_eq_true rfl⟩ ((g23_ok e23).up (Nat.le_of_ble_eq_true rfl) (Nat.le_of_ble_eq_true rfl)) ?_
        refine Ru.kI (q := (.bipush 40, 2)) (c := 40) (by decide +kernel) rfl (by decide) ?_
        obtain ⟨g24, h⟩ := gd_some h
        by_cases b25 : o22 = 40
        · replace h := if_t b25 h
          refine Ru.br2 (k := .ne) (off := 9) (bb := false) (tg := 80) (by decide +kernel) (by decide +kernel) (ci_ne0 g24 (by decide) b25) rfl ?_
          refine Ru.op (q := (.aload_n 0, 1)) (by decide +kernel) rfl ?_
          refine Ru.kI (q := (.iconst 0, 1)) (c := 0) (by decide +kernel) rfl (by decide) ?_
          refine Ru.kI (q := (.iconst 0, 1)) (c := 0) (by decide +kernel) rfl (by decide) ?_
          obtain ⟨o26, e27, h⟩ := ob_some h
          refine Ru.vcall (i := 122) (j2 := 27) (as := [vI 0, vI 0]) (by decide +kernel) (by rfl) rfl rfl (hp1 _) (by decide) ⟨(Nat.le_of_ble_eq_true rfl), (by show 19 + 5 ≤ 3405; exact Nat.le_of_ble_eq_true rfl), Nat.le_of_ble_eq_true rfl, Nat.le_of_ble_eq_true rfl⟩ ((g27_ok 64 e27).up (Nat.le_of_ble_eq_true rfl) (Nat.le_of_ble_eq_true rfl)) ?_
          cases h
          exact Ru.end (q := (.return_, 1)) (by decide +kernel) rfl rfl
        · replace h := if_f b25 h
          refine Ru.br2 (k := .ne) (off := 9) (bb := true) (tg := 86) (by decide +kernel) (by decide +kernel) (ci_ne1 g24 (by decide) b25) rfl ?_
          cases h
          exact Ru.end (q := (.return_, 1)) (by decide +kernel) rfl rfl
def g32L33 (v1 : Nat) (v2 : Int) (v3 : Int) : Nat → Int → St → Option (St)
  | 0, _, _ => none
  | n + 1, v4, S => gd (inR v4) (gd (inR v2) (if v4 < v2 then if v4 < 16 then if (S.F 3 7) < 1280 then gA S v1 (fun N11 f12 => gd (ixR v4 N11) (gd (ixR (S.F 3 7) 1280) (g32L33 v1 v2 v3 n (v4 + 1) ((S.a 9 (S.F 3 7) (f12 v4)).f 3 7 ((S.F 3 7) + 1))))) else some S else some S else some S))
set_option maxRecDepth 100000 in
set_option maxHeartbeats 4000000 in
theorem g32L33_ok {v1 : Nat} {v2 : Int} {v3 : Int} : ∀ (n : Nat) (v4 : Int) (S : St) (out : St), g32L33 v1 v2 v3 n v4 S = some out → ∀ r, (∀ (e0 e1 e2 e4 : Option Value), Ru none 11 223 32 (87, [e0, e1, e2, some (vI v3), e4], [], out.ns, Hp out) r) → Ru none 11 223 32 (33, [some (.ref 3), some (.ref v1), some (vI v2), some (vI v3), some (vI v4)], [], S.ns, Hp S) r := by
  intro n
  induction n with
  | zero => intro v4 S out h; cases h
  | succ n ih =>
    intro v4 S out h r hk
    unfold g32L33 at h
    refine Ru.op (q := (.iload 4, 2)) (by decide +kernel) rfl ?_
    refine Ru.op (q := (.iload_n 2, 1)) (by decide +kernel) rfl ?_
    obtain ⟨g6, h⟩ := gd_some h
    obtain ⟨g7, h⟩ := gd_some h
    by_cases b8 : v4 < v2
    · replace h := if_t b8 h
      refine Ru.br2 (k := .ge) (off := 51) (bb := false) (tg := 39) (by decide +kernel) (by decide +kernel) (ci_ge0 g6 g7 b8) rfl ?_
      refine Ru.op (q := (.iload 4, 2)) (by decide +kernel) rfl ?_
      refine Ru.kI (q := (.bipush 16, 2)) (c := 16) (by decide +kernel) rfl (by decide) ?_
      by_cases b9 : v4 < 16
      · replace h := if_t b9 h
        refine Ru.br2 (k := .ge) (off := 44) (bb := false) (tg := 46) (by decide +kernel) (by decide +kernel) (ci_ge0 g6 (by decide) b9) rfl ?_
        refine Ru.op (q := (.aload_n 0, 1)) (by decide +kernel) rfl ?_
        refine Ru.getI (i := 34) (x := (S.F 3 7)) (by decide +kernel) (by rfl) (hp3 _) (by decide) rfl (eI_of _) ?_
        refine Ru.op (q := (.aload_n 0, 1)) (by decide +kernel) rfl ?_
        refine Ru.get (i := 27) (v := .ref 9) (by decide +kernel) (by rfl) (hp3 _) (by decide) rfl ?_
        refine Ru.lenI (N := 1280) (z := 1280) (by decide +kernel) (hp9 _) (by decide) (aI_len _ _) rfl ?_
        by_cases b10 : (S.F 3 7) < 1280
        · replace h := if_t b10 h
          refine Ru.br2 (k := .ge) (off := 32) (bb := false) (tg := 58) (by decide +kernel) (by decide +kernel) (ci_ge0 (inR_to _) (by decide) b10) rfl ?_
          refine Ru.op (q := (.aload_n 0, 1)) (by decide +kernel) rfl ?_
          refine Ru.get (i := 27) (v := .ref 9) (by decide +kernel) (by rfl) (hp3 _) (by decide) rfl ?_
          refine Ru.op (q := (.aload_n 0, 1)) (by decide +kernel) rfl ?_
          refine Ru.getI (i := 34) (x := (S.F 3 7)) (by decide +kernel) (by rfl) (hp3 _) (by decide) rfl (eI_of _) ?_
          refine Ru.op (q := (.aload_n 1, 1)) (by decide +kernel) rfl ?_
          refine Ru.op (q := (.iload 4, 2)) (by decide +kernel) rfl ?_
          obtain ⟨N11, f12, e13, q14, h⟩ := gA_some h
          obtain ⟨g15, h⟩ := gd_some h
          refine Ru.ildI (i := v4) (z := (f12 v4)) (by decide +kernel) q14 g15 rfl ?_
          obtain ⟨g16, h⟩ := gd_some h
          refine Ru.istI (i := (S.F 3 7)) (x := (f12 v4)) (by decide +kernel) (hp9 _) g16 (ps_9 _ _ _) ?_
          refine Ru.op (q := (.aload_n 0, 1)) (by decide +kernel) rfl ?_
          refine Ru.op (q := (.dup, 1)) (by decide +kernel) rfl ?_
          refine Ru.getI (i := 34) (x := (S.F 3 7)) (by decide +kernel) (by rfl) (hp3 _) (by decide) rfl (eI_of _) ?_
          refine Ru.kI (q := (.iconst 1, 1)) (c := 1) (by decide +kernel) rfl (by decide) ?_
          refine Ru.ar2 (i := .iadd) (z := ((S.F 3 7) + 1)) (by decide +kernel) rfl (ar_add _ _) ?_
          refine Ru.putH (i := 34) (by decide +kernel) (by rfl) (hp3 _) (by decide) (Nat.le_of_ble_eq_true rfl) rfl (by decide +kernel) (pf_3_7 _ _) ?_
          refine Ru.inc (x := v4) (z := (v4 + 1)) (xs' := [some (.ref 3), some (.ref v1), some (vI v2), some (vI v3), some (vI (v4 + 1))]) (by decide +kernel) rfl rfl rfl ?_
          refine Ru.op (q := (.goto (-51), 3)) (by decide +kernel) rfl ?_
          exact ih _ _ _ h r hk
        · replace h := if_f b10 h
          refine Ru.br2 (k := .ge) (off := 32) (bb := true) (tg := 87) (by decide +kernel) (by decide +kernel) (ci_ge1 (inR_to _) (by decide) b10) rfl ?_
          cases h
          exact hk _ _ _ _
      · replace h := if_f b9 h
        refine Ru.br2 (k := .ge) (off := 44) (bb := true) (tg := 87) (by decide +kernel) (by decide +kernel) (ci_ge1 g6 (by decide) b9) rfl ?_
        cases h
        exact hk _ _ _ _
    · replace h := if_f b8 h
      refine Ru.br2 (k := .ge) (off := 51) (bb := true) (tg := 87) (by decide +kernel) (by decide +kernel) (ci_ge1 g6 g7 b8) rfl ?_
      cases h
      exact hk _ _ _ _
def g32 (S : St) (v1 : Nat) (v2 : Int) : Option (Int × St) := ob (g33 S 0 (S.F 3 7) v2) (fun o1 => gd (inR o1.1) (if o1.1 = (-1) then some (o1.1, o1.2) else gd (ixR o1.1 160) (ob (g32L33 v1 v2 o1.1 FU 0 ((o1.2.a 7 o1.1 1).a 8 o1.1 1)) (fun o17 => some (o1.1, o17)))))
set_option maxRecDepth 100000 in
set_option maxHeartbeats 4000000 in
theorem g32_ok {S : St} {v1 : Nat} {v2 : Int} {o : Int × St} (h : g32 S v1 v2 = some o) : Ru none 11 223 32 (0, mn_pad (mn_ent [.ref 3, .ref v1, vI v2]) 5, [], S.ns, Hp S) ((0, some (vI o.1)), o.2.ns, Hp o.2) := by
  unfold g32 at h
  show Ru none 11 223 32 (0, [some (.ref 3), some (.ref v1), some (vI v2), none, none], [], S.ns, Hp S) _
  refine Ru.op (q := (.aload_n 0, 1)) (by decide +kernel) rfl ?_
  refine Ru.kI (q := (.iconst 0, 1)) (c := 0) (by decide +kernel) rfl (by decide) ?_
  refine Ru.op (q := (.aload_n 0, 1)) (by decide +kernel) rfl ?_
  refine Ru.getI (i := 34) (x := (S.F 3 7)) (by decide +kernel) (by rfl) (hp3 _) (by decide) rfl (eI_of _) ?_
  refine Ru.op (q := (.iload_n 2, 1)) (by decide +kernel) rfl ?_
  obtain ⟨o1, e2, h⟩ := ob_some h
  refine Ru.vcall (i := 37) (j2 := 33) (as := [vI 0, vI (S.F 3 7), vI v2]) (by decide +kernel) (by rfl) rfl rfl (hp3 _) (by decide) ⟨(Nat.le_of_ble_eq_true rfl), (by show 19 + 4 ≤ 223; exact Nat.le_of_ble_eq_true rfl), Nat.le_of_ble_eq_true rfl, Nat.le_of_ble_eq_true rfl⟩ ((g33_ok e2).up (Nat.le_of_ble_eq_true rfl) (Nat.le_of_ble_eq_true rfl)) ?_
  refine Ru.op (q := (.istore_n 3, 1)) (S' := (11, [some (.ref 3), some (.ref v1), some (vI v2), some (vI o1.1), none], [], _, _)) (by decide +kernel) rfl ?_
  refine Ru.op (q := (.iload_n 3, 1)) (by decide +kernel) rfl ?_
  refine Ru.kI (q := (.iconst (-1), 1)) (c := (-1)) (by decide +kernel) rfl (by decide) ?_
  obtain ⟨g3, h⟩ := gd_some h
  by_cases b4 : o1.1 = (-1)
  · replace h := if_t b4 h
    refine Ru.br2 (k := .eq) (off := 74) (bb := true) (tg := 87) (by decide +kernel) (by decide +kernel) (ci_eq1 g3 (by decide) b4) rfl ?_
    refine Ru.op (q := (.iload_n 3, 1)) (by decide +kernel) rfl ?_
    cases h
    exact Ru.iret (by decide +kernel) rfl rfl
  · replace h := if_f b4 h
    refine Ru.br2 (k := .eq) (off := 74) (bb := false) (tg := 16) (by decide +kernel) (by decide +kernel) (ci_eq0 g3 (by decide) b4) rfl ?_
    refine Ru.op (q := (.aload_n 0, 1)) (by decide +kernel) rfl ?_
    refine Ru.get (i := 21) (v := .ref 7) (by decide +kernel) (by rfl) (hp3 _) (by decide) rfl ?_
    refine Ru.op (q := (.iload_n 3, 1)) (by decide +kernel) rfl ?_
    refine Ru.kI (q := (.iconst 1, 1)) (c := 1) (by decide +kernel) rfl (by decide) ?_
    obtain ⟨g5, h⟩ := gd_some h
    refine Ru.istI (i := o1.1) (x := 1) (by decide +kernel) (hp7 _) g5 (ps_7 _ _ _) ?_
    refine Ru.op (q := (.aload_n 0, 1)) (by decide +kernel) rfl ?_
    refine Ru.get (i := 24) (v := .ref 8) (by decide +kernel) (by rfl) (hp3 _) (by decide) rfl ?_
    refine Ru.op (q := (.iload_n 3, 1)) (by decide +kernel) rfl ?_
    refine Ru.kI (q := (.iconst 1, 1)) (c := 1) (by decide +kernel) rfl (by decide) ?_
    refine Ru.istI (i := o1.1) (x := 1) (by decide +kernel) (hp8 _) g5 (ps_8 _ _ _) ?_
    refine Ru.kI (q := (.iconst 0, 1)) (c := 0) (by decide +kernel) rfl (by decide) ?_
    refine Ru.op (q := (.istore 4, 2)) (S' := (33, [some (.ref 3), some (.ref v1), some (vI v2), some (vI o1.1), some (vI 0)], [], _, _)) (by decide +kernel) rfl ?_
    obtain ⟨o17, e22, h⟩ := ob_some h
    refine g32L33_ok FU _ _ _ e22 _ ?_
    intro d18 d19 d20 d21
    refine Ru.op (q := (.iload_n 3, 1)) (by decide +kernel) rfl ?_
    cases h
    exact Ru.iret (by decide +kernel) rfl rfl
def g22b (rc : St → Int → Int → Option (Int × St)) (S : St) (v1 : Int) (v2 : Int) : Option (Int × St) := ob (g23 S) (fun o1 => gd (inR o1) (if o1 < 65 then gd (inR v2) (if v2 < 10 then if o1 = 33 then if o1 = 63 then gd (inR v1) (if 1 = v1 then ob (g37b rc (S.f 1 4 ((S.F 1 4) + 1)) 0 v1 v2) (fun o11 => some (o11.1, o11.2)) else ob (g37b rc (S.f 1 4 ((S.F 1 4) + 1)) 1 v1 v2) (fun o13 => some (o13.1, o13.2))) else gd (inR v1) (if 0 = v1 then ob (g37b rc (S.f 1 4 ((S.F 1 4) + 1)) 0 v1 v2) (fun o17 => some (o17.1, o17.2)) else ob (g37b rc (S.f 1 4 ((S.F 1 4) + 1)) 1 v1 v2) (fun o19 => some (o19.1, o19.2))) else if o1 = 38 then ob (g34b rc (S.f 1 4 ((S.F 1 4) + 1)) o1 v1 v2) (fun o22 => some (o22.1, o22.2)) else if o1 = 62 then ob (g34b rc (S.f 1 4 ((S.F 1 4) + 1)) o1 v1 v2) (fun o25 => some (o25.1, o25.2)) else if o1 = 63 then gd (inR v1) (if 1 = v1 then ob (g37b rc (S.f 1 4 ((S.F 1 4) + 1)) 0 v1 v2) (fun o30 => some (o30.1, o30.2)) else ob (g37b rc (S.f 1 4 ((S.F 1 4) + 1)) 1 v1 v2) (fun o32 => some (o32.1, o32.2))) else if o1 = 124 then ob (g34b rc (S.f 1 4 ((S.F 1 4) + 1)) o1 v1 v2) (fun o35 => some (o35.1, o35.2)) else if o1 = 126 then gd (inR v1) (if v1 = 0 then ob (rc (S.f 1 4 ((S.F 1 4) + 1)) 1 (v2 + 1)) (fun o40 => some (o40.1, o40.2)) else ob (rc (S.f 1 4 ((S.F 1 4) + 1)) 0 (v2 + 1)) (fun o42 => some (o42.1, o42.2))) else ob (g25 S (S.F 1 4)) (fun o44 => some (o44.1, o44.2)) else ob (g25 S (S.F 1 4)) (fun o46 => some (o46.1, o46.2))) else if 90 < o1 then gd (inR v2) (if v2 < 10 then if o1 = 33 then if o1 = 63 then gd (inR v1) (if 1 = v1 then ob (g37b rc (S.f 1 4 ((S.F 1 4) + 1)) 0 v1 v2) (fun o55 => some (o55.1, o55.2)) else ob (g37b rc (S.f 1 4 ((S.F 1 4) + 1)) 1 v1 v2) (fun o57 => some (o57.1, o57.2))) else gd (inR v1) (if 0 = v1 then ob (g37b rc (S.f 1 4 ((S.F 1 4) + 1)) 0 v1 v2) (fun o61 => some (o61.1, o61.2)) else ob (g37b rc (S.f 1 4 ((S.F 1 4) + 1)) 1 v1 v2) (fun o63 => some (o63.1, o63.2))) else if o1 = 38 then ob (g34b rc (S.f 1 4 ((S.F 1 4) + 1)) o1 v1 v2) (fun o66 => some (o66.1, o66.2)) else if o1 = 62 then ob (g34b rc (S.f 1 4 ((S.F 1 4) + 1)) o1 v1 v2) (fun o69 => some (o69.1, o69.2)) else if o1 = 63 then gd (inR v1) (if 1 = v1 then ob (g37b rc (S.f 1 4 ((S.F 1 4) + 1)) 0 v1 v2) (fun o74 => some (o74.1, o74.2)) else ob (g37b rc (S.f 1 4 ((S.F 1 4) + 1)) 1 v1 v2) (fun o76 => some (o76.1, o76.2))) else if o1 = 124 then ob (g34b rc (S.f 1 4 ((S.F 1 4) + 1)) o1 v1 v2) (fun o79 => some (o79.1, o79.2)) else if o1 = 126 then gd (inR v1) (if v1 = 0 then ob (rc (S.f 1 4 ((S.F 1 4) + 1)) 1 (v2 + 1)) (fun o84 => some (o84.1, o84.2)) else ob (rc (S.f 1 4 ((S.F 1 4) + 1)) 0 (v2 + 1)) (fun o86 => some (o86.1, o86.2))) else ob (g25 S (S.F 1 4)) (fun o88 => some (o88.1, o88.2)) else ob (g25 S (S.F 1 4)) (fun o90 => some (o90.1, o90.2))) else ob (g24 S v1) (fun o92 => if (o92.F 1 3) = (-1) then ob (g32 o92 12 (o92.F 1 12)) (fun o95 => some (o95.1, o95.2)) else some ((-1), o92))))
set_option maxRecDepth 100000 in
set_option maxHeartbeats 4000000 in
theorem g22b_ok {FR LO : Nat} {rc : St → Int → Int → Option (Int × St)} (hF : 142 ≤ FR) (hL : 3427 ≤ LO) (hrc : ∀ {S : St} {v1 : Int} {v2 : Int} {o : Int × St}, rc S v1 v2 = some o → Ru none FR LO 22 (0, mn_pad (mn_ent [.ref 1, vI v1, vI v2]) 4, [], S.ns, Hp S) ((0, some (vI o.1)), o.2.ns, Hp o.2)) {S : St} {v1 : Int} {v2 : Int} {o : Int × St} (h : g22b rc S v1 v2 = some o) : Ru none (FR + 2) (LO + 48) 22 (0, mn_pad (mn_ent [.ref 1, vI v1, vI v2]) 4, [], S.ns, Hp S) ((0, some (vI o.1)), o.2.ns, Hp o.2) := by
  unfold g22b at h
  show Ru none (FR + 2) (LO + 48) 22 (0, [some (.ref 1), some (vI v1), some (vI v2), none], [], S.ns, Hp S) _
  refine Ru.op (q := (.aload_n 0, 1)) (by decide +kernel) rfl ?_
  obtain ⟨o1, e2, h⟩ := ob_some h
  refine Ru.vcall (i := 69) (j2 := 23) (as := []) (by decide +kernel) (by rfl) rfl rfl (hp1 _) (by decide) ⟨(by omega), (by show 19 + 1 ≤ (LO + 48); omega), Nat.le_of_ble_eq_true rfl, Nat.le_of_ble_eq_true rfl⟩ ((g23_ok e2).up (by omega) (by show _ ≤ (LO + 48) - (19 + 1); omega)) ?_
  refine Ru.op (q := (.istore_n 3, 1)) (S' := (5, [some (.ref 1), some (vI v1), some (vI v2), some (vI o1)], [], _, _)) (by decide +kernel) rfl ?_
  refine Ru.op (q := (.iload_n 3, 1)) (by decide +kernel) rfl ?_
  refine Ru.kI (q := (.bipush 65, 2)) (c := 65) (by decide +kernel) rfl (by decide) ?_
  obtain ⟨g3, h⟩ := gd_some h
  by_cases b4 : o1 < 65
  · replace h := if_t b4 h
    refine Ru.br2 (k := .lt) (off := 42) (bb := true) (tg := 50) (by decide +kernel) (by decide +kernel) (ci_lt1 g3 (by decide) b4) rfl ?_
    refine Ru.op (q := (.iload_n 2, 1)) (by decide +kernel) rfl ?_
    refine Ru.kI (q := (.bipush 10, 2)) (c := 10) (by decide +kernel) rfl (by decide) ?_
    obtain ⟨g5, h⟩ := gd_some h
    by_cases b6 : v2 < 10
    · replace h := if_t b6 h
      refine Ru.br2 (k := .lt) (off := 12) (bb := true) (tg := 65) (by decide +kernel) (by decide +kernel) (ci_lt1 g5 (by decide) b6) rfl ?_
      refine Ru.op (q := (.iload_n 3, 1)) (by decide +kernel) rfl ?_
      by_cases b7 : o1 = 33
      · replace h := if_t b7 h
        refine Ru.lsw (d := 140) (ps := #[(33, 103), (38, 85), (62, 85), (63, 103), (124, 85), (126, 58)]) (len := 58) (tg := 169) (by decide +kernel) (by rw [b7]; decide +kernel) ?_
        refine Ru.op (q := (.aload_n 0, 1)) (by decide +kernel) rfl ?_
        refine Ru.op (q := (.dup, 1)) (by decide +kernel) rfl ?_
        refine Ru.getI (i := 36) (x := (S.F 1 4)) (by decide +kernel) (by rfl) (hp1 _) (by decide) rfl (eI_of _) ?_
        refine Ru.kI (q := (.iconst 1, 1)) (c := 1) (by decide +kernel) rfl (by decide) ?_
        refine Ru.ar2 (i := .iadd) (z := ((S.F 1 4) + 1)) (by decide +kernel) rfl (ar_add _ _) ?_
        refine Ru.putH (i := 36) (by decide +kernel) (by rfl) (hp1 _) (by decide) (Nat.le_of_ble_eq_true rfl) rfl (by decide +kernel) (pf_1_4 _ _) ?_
        refine Ru.op (q := (.aload_n 0, 1)) (by decide +kernel) rfl ?_
        refine Ru.op (q := (.iload_n 3, 1)) (by decide +kernel) rfl ?_
        refine Ru.kI (q := (.bipush 63, 2)) (c := 63) (by decide +kernel) rfl (by decide) ?_
        by_cases b8 : o1 = 63
        · replace h := if_t b8 h
          refine Ru.br2 (k := .ne) (off := 7) (bb := false) (tg := 186) (by decide +kernel) (by decide +kernel) (ci_ne0 g3 (by decide) b8) rfl ?_
          refine Ru.kI (q := (.iconst 1, 1)) (c := 1) (by decide +kernel) rfl (by decide) ?_
          refine Ru.op (q := (.goto 4, 3)) (by decide +kernel) rfl ?_
          refine Ru.op (q := (.iload_n 1, 1)) (by decide +kernel) rfl ?_
          obtain ⟨g9, h⟩ := gd_some h
          by_cases b10 : 1 = v1
          · replace h := if_t b10 h
            refine Ru.br2 (k := .eq) (off := 7) (bb := true) (tg := 199) (by decide +kernel) (by decide +kernel) (ci_eq1 (by decide) g9 b10) rfl ?_
            refine Ru.kI (q := (.iconst 0, 1)) (c := 0) (by decide +kernel) rfl (by decide) ?_
            refine Ru.op (q := (.iload_n 1, 1)) (by decide +kernel) rfl ?_
            refine Ru.op (q := (.iload_n 2, 1)) (by decide +kernel) rfl ?_
            obtain ⟨o11, e12, h⟩ := ob_some h
            refine Ru.vcall (i := 95) (j2 := 37) (as := [vI 0, vI v1, vI v2]) (by decide +kernel) (by rfl) rfl rfl (hp1 _) (by decide) ⟨(by omega), (by show 19 + 6 ≤ (LO + 48); omega), Nat.le_of_ble_eq_true rfl, Nat.le_of_ble_eq_true rfl⟩ ((g37b_ok hF hL hrc e12).up (by omega) (by show _ ≤ (LO + 48) - (19 + 6); omega)) ?_
            cases h
            exact Ru.iret (by decide +kernel) rfl rfl
          · replace h := if_f b10 h
            refine Ru.br2 (k := .eq) (off := 7) (bb := false) (tg := 195) (by decide +kernel) (by decide +kernel) (ci_eq0 (by decide) g9 b10) rfl ?_
            refine Ru.kI (q := (.iconst 1, 1)) (c := 1) (by decide +kernel) rfl (by decide) ?_
            refine Ru.op (q := (.goto 4, 3)) (by decide +kernel) rfl ?_
            refine Ru.op (q := (.iload_n 1, 1)) (by decide +kernel) rfl ?_
            refine Ru.op (q := (.iload_n 2, 1)) (by decide +kernel) rfl ?_
            obtain ⟨o13, e14, h⟩ := ob_some h
            refine Ru.vcall (i := 95) (j2 := 37) (as := [vI 1, vI v1, vI v2]) (by decide +kernel) (by rfl) rfl rfl (hp1 _) (by decide) ⟨(by omega), (by show 19 + 6 ≤ (LO + 48); omega), Nat.le_of_ble_eq_true rfl, Nat.le_of_ble_eq_true rfl⟩ ((g37b_ok hF hL hrc e14).up (by omega) (by show _ ≤ (LO + 48) - (19 + 6); omega)) ?_
            cases h
            exact Ru.iret (by decide +kernel) rfl rfl
        · replace h := if_f b8 h
          refine Ru.br2 (k := .ne) (off := 7) (bb := true) (tg := 190) (by decide +kernel) (by decide +kernel) (ci_ne1 g3 (by decide) b8) rfl ?_
          refine Ru.kI (q := (.iconst 0, 1)) (c := 0) (by decide +kernel) rfl (by decide) ?_
          refine Ru.op (q := (.iload_n 1, 1)) (by decide +kernel) rfl ?_
          obtain ⟨g15, h⟩ := gd_some h
          by_cases b16 : 0 = v1
          · replace h := if_t b16 h
            refine Ru.br2 (k := .eq) (off := 7) (bb := true) (tg := 199) (by decide +kernel) (by decide +kernel) (ci_eq1 (by decide) g15 b16) rfl ?_
            refine Ru.kI (q := (.iconst 0, 1)) (c := 0) (by decide +kernel) rfl (by decide) ?_
            refine Ru.op (q := (.iload_n 1, 1)) (by decide +kernel) rfl ?_
            refine Ru.op (q := (.iload_n 2, 1)) (by decide +kernel) rfl ?_
            obtain ⟨o17, e18, h⟩ := ob_some h
            refine Ru.vcall (i := 95) (j2 := 37) (as := [vI 0, vI v1, vI v2]) (by decide +kernel) (by rfl) rfl rfl (hp1 _) (by decide) ⟨(by omega), (by show 19 + 6 ≤ (LO + 48); omega), Nat.le_of_ble_eq_true rfl, Nat.le_of_ble_eq_true rfl⟩ ((g37b_ok hF hL hrc e18).up (by omega) (by show _ ≤ (LO + 48) - (19 + 6); omega)) ?_
            cases h
            exact Ru.iret (by decide +kernel) rfl rfl
          · replace h := if_f b16 h
            refine Ru.br2 (k := .eq) (off := 7) (bb := false) (tg := 195) (by decide +kernel) (by decide +kernel) (ci_eq0 (by decide) g15 b16) rfl ?_
            refine Ru.kI (q := (.iconst 1, 1)) (c := 1) (by decide +kernel) rfl (by decide) ?_
            refine Ru.op (q := (.goto 4, 3)) (by decide +kernel) rfl ?_
            refine Ru.op (q := (.iload_n 1, 1)) (by decide +kernel) rfl ?_
            refine Ru.op (q := (.iload_n 2, 1)) (by decide +kernel) rfl ?_
            obtain ⟨o19, e20, h⟩ := ob_some h
            refine Ru.vcall (i := 95) (j2 := 37) (as := [vI 1, vI v1, vI v2]) (by decide +kernel) (by rfl) rfl rfl (hp1 _) (by decide) ⟨(by omega), (by show 19 + 6 ≤ (LO + 48); omega), Nat.le_of_ble_eq_true rfl, Nat.le_of_ble_eq_true rfl⟩ ((g37b_ok hF hL hrc e20).up (by omega) (by show _ ≤ (LO + 48) - (19 + 6); omega)) ?_
            cases h
            exact Ru.iret (by decide +kernel) rfl rfl
      · replace h := if_f b7 h
        by_cases b21 : o1 = 38
        · replace h := if_t b21 h
          refine Ru.lsw (d := 140) (ps := #[(33, 103), (38, 85), (62, 85), (63, 103), (124, 85), (126, 58)]) (len := 58) (tg := 151) (by decide +kernel) (by rw [b21]; decide +kernel) ?_
          refine Ru.op (q := (.aload_n 0, 1)) (by decide +kernel) rfl ?_
          refine Ru.op (q := (.dup, 1)) (by decide +kernel) rfl ?_
          refine Ru.getI (i := 36) (x := (S.F 1 4)) (by decide +kernel) (by rfl) (hp1 _) (by decide) rfl (eI_of _) ?_
          refine Ru.kI (q := (.iconst 1, 1)) (c := 1) (by decide +kernel) rfl (by decide) ?_
          refine Ru.ar2 (i := .iadd) (z := ((S.F 1 4) + 1)) (by decide +kernel) rfl (ar_add _ _) ?_
          refine Ru.putH (i := 36) (by decide +kernel) (by rfl) (hp1 _) (by decide) (Nat.le_of_ble_eq_true rfl) rfl (by decide +kernel) (pf_1_4 _ _) ?_
          refine Ru.op (q := (.aload_n 0, 1)) (by decide +kernel) rfl ?_
          refine Ru.op (q := (.iload_n 3, 1)) (by decide +kernel) rfl ?_
          refine Ru.op (q := (.iload_n 1, 1)) (by decide +kernel) rfl ?_
          refine Ru.op (q := (.iload_n 2, 1)) (by decide +kernel) rfl ?_
          obtain ⟨o22, e23, h⟩ := ob_some h
          refine Ru.vcall (i := 91) (j2 := 34) (as := [vI o1, vI v1, vI v2]) (by decide +kernel) (by rfl) rfl rfl (hp1 _) (by decide) ⟨(by omega), (by show 19 + 6 ≤ (LO + 48); omega), Nat.le_of_ble_eq_true rfl, Nat.le_of_ble_eq_true rfl⟩ ((g34b_ok hF hL hrc e23).up (by omega) (by show _ ≤ (LO + 48) - (19 + 6); omega)) ?_
          cases h
          exact Ru.iret (by decide +kernel) rfl rfl
        · replace h := if_f b21 h
          by_cases b24 : o1 = 62
          · replace h := if_t b24 h
            refine Ru.lsw (d := 140) (ps := #[(33, 103), (38, 85), (62, 85), (63, 103), (124, 85), (126, 58)]) (len := 58) (tg := 151) (by decide +kernel) (by rw [b24]; decide +kernel) ?_
            refine Ru.op (q := (.aload_n 0, 1)) (by decide +kernel) rfl ?_
            refine Ru.op (q := (.dup, 1)) (by decide +kernel) rfl ?_
            refine Ru.getI (i := 36) (x := (S.F 1 4)) (by decide +kernel) (by rfl) (hp1 _) (by decide) rfl (eI_of _) ?_
            refine Ru.kI (q := (.iconst 1, 1)) (c := 1) (by decide +kernel) rfl (by decide) ?_
            refine Ru.ar2 (i := .iadd) (z := ((S.F 1 4) + 1)) (by decide +kernel) rfl (ar_add _ _) ?_
            refine Ru.putH (i := 36) (by decide +kernel) (by rfl) (hp1 _) (by decide) (Nat.le_of_ble_eq_true rfl) rfl (by decide +kernel) (pf_1_4 _ _) ?_
            refine Ru.op (q := (.aload_n 0, 1)) (by decide +kernel) rfl ?_
            refine Ru.op (q := (.iload_n 3, 1)) (by decide +kernel) rfl ?_
            refine Ru.op (q := (.iload_n 1, 1)) (by decide +kernel) rfl ?_
            refine Ru.op (q := (.iload_n 2, 1)) (by decide +kernel) rfl ?_
            obtain ⟨o25, e26, h⟩ := ob_some h
            refine Ru.vcall (i := 91) (j2 := 34) (as := [vI o1, vI v1, vI v2]) (by decide +kernel) (by rfl) rfl rfl (hp1 _) (by decide) ⟨(by omega), (by show 19 + 6 ≤ (LO + 48); omega), Nat.le_of_ble_eq_true rfl, Nat.le_of_ble_eq_true rfl⟩ ((g34b_ok hF hL hrc e26).up (by omega) (by show _ ≤ (LO + 48) - (19 + 6); omega)) ?_
            cases h
            exact Ru.iret (by decide +kernel) rfl rfl
          · replace h := if_f b24 h
            by_cases b27 : o1 = 63
            · replace h := if_t b27 h
              refine Ru.lsw (d := 140) (ps := #[(33, 103), (38, 85), (62, 85), (63, 103), (124, 85), (126, 58)]) (len := 58) (tg := 169) (by decide +kernel) (by rw [b27]; decide +kernel) ?_
              refine Ru.op (q := (.aload_n 0, 1)) (by decide +kernel) rfl ?_
              refine Ru.op (q := (.dup, 1)) (by decide +kernel) rfl ?_
              refine Ru.getI (i := 36) (x := (S.F 1 4)) (by decide +kernel) (by rfl) (hp1 _) (by decide) rfl (eI_of _) ?_
              refine Ru.kI (q := (.iconst 1, 1)) (c := 1) (by decide +kernel) rfl (by decide) ?_
              refine Ru.ar2 (i := .iadd) (z := ((S.F 1 4) + 1)) (by decide +kernel) rfl (ar_add _ _) ?_
              refine Ru.putH (i := 36) (by decide +kernel) (by rfl) (hp1 _) (by decide) (Nat.le_of_ble_eq_true rfl) rfl (by decide +kernel) (pf_1_4 _ _) ?_
              refine Ru.op (q := (.aload_n 0, 1)) (by decide +kernel) rfl ?_
              refine Ru.op (q := (.iload_n 3, 1)) (by decide +kernel) rfl ?_
              refine Ru.kI (q := (.bipush 63, 2)) (c := 63) (by decide +kernel) rfl (by decide) ?_
              refine Ru.br2 (k := .ne) (off := 7) (bb := false) (tg := 186) (by decide +kernel) (by decide +kernel) (ci_ne0 g3 (by decide) b27) rfl ?_
              refine Ru.kI (q := (.iconst 1, 1)) (c := 1) (by decide +kernel) rfl (by decide) ?_
              refine Ru.op (q := (.goto 4, 3)) (by decide +kernel) rfl ?_
              refine Ru.op (q := (.iload_n 1, 1)) (by decide +kernel) rfl ?_
              obtain ⟨g28, h⟩ := gd_some h
              by_cases b29 : 1 = v1
              · replace h := if_t b29 h
                refine Ru.br2 (k := .eq) (off := 7) (bb := true) (tg := 199) (by decide +kernel) (by decide +kernel) (ci_eq1 (by decide) g28 b29) rfl ?_
                refine Ru.kI (q := (.iconst 0, 1)) (c := 0) (by decide +kernel) rfl (by decide) ?_
                refine Ru.op (q := (.iload_n 1, 1)) (by decide +kernel) rfl ?_
                refine Ru.op (q := (.iload_n 2, 1)) (by decide +kernel) rfl ?_
                obtain ⟨o30, e31, h⟩ := ob_some h
                refine Ru.vcall (i := 95) (j2 := 37) (as := [vI 0, vI v1, vI v2]) (by decide +kernel) (by rfl) rfl rfl (hp1 _) (by decide) ⟨(by omega), (by show 19 + 6 ≤ (LO + 48); omega), Nat.le_of_ble_eq_true rfl, Nat.le_of_ble_eq_true rfl⟩ ((g37b_ok hF hL hrc e31).up (by omega) (by show _ ≤ (LO + 48) - (19 + 6); omega)) ?_
                cases h
                exact Ru.iret (by decide +kernel) rfl rfl
              · replace h := if_f b29 h
                refine Ru.br2 (k := .eq) (off := 7) (bb := false) (tg := 195) (by decide +kernel) (by decide +kernel) (ci_eq0 (by decide) g28 b29) rfl ?_
                refine Ru.kI (q := (.iconst 1, 1)) (c := 1) (by decide +kernel) rfl (by decide) ?_
                refine Ru.op (q := (.goto 4, 3)) (by decide +kernel) rfl ?_
                refine Ru.op (q := (.iload_n 1, 1)) (by decide +kernel) rfl ?_
                refine Ru.op (q := (.iload_n 2, 1)) (by decide +kernel) rfl ?_
                obtain ⟨o32, e33, h⟩ := ob_some h
                refine Ru.vcall (i := 95) (j2 := 37) (as := [vI 1, vI v1, vI v2]) (by decide +kernel) (by rfl) rfl rfl (hp1 _) (by decide) ⟨(by omega), (by show 19 + 6 ≤ (LO + 48); omega), Nat.le_of_ble_eq_true rfl, Nat.le_of_ble_eq_true rfl⟩ ((g37b_ok hF hL hrc e33).up (by omega) (by show _ ≤ (LO + 48) - (19 + 6); omega)) ?_
                cases h
                exact Ru.iret (by decide +kernel) rfl rfl
            · replace h := if_f b27 h
              by_cases b34 : o1 = 124
              · replace h := if_t b34 h
                refine Ru.lsw (d := 140) (ps := #[(33, 103), (38, 85), (62, 85), (63, 103), (124, 85), (126, 58)]) (len := 58) (tg := 151) (by decide +kernel) (by rw [b34]; decide +kernel) ?_
                refine Ru.op (q := (.aload_n 0, 1)) (by decide +kernel) rfl ?_
                refine Ru.op (q := (.dup, 1)) (by decide +kernel) rfl ?_
                refine Ru.getI (i := 36) (x := (S.F 1 4)) (by decide +kernel) (by rfl) (hp1 _) (by decide) rfl (eI_of _) ?_
                refine Ru.kI (q := (.iconst 1, 1)) (c := 1) (by decide +kernel) rfl (by decide) ?_
                refine Ru.ar2 (i := .iadd) (z := ((S.F 1 4) + 1)) (by decide +kernel) rfl (ar_add _ _) ?_
                refine Ru.putH (i := 36) (by decide +kernel) (by rfl) (hp1 _) (by decide) (Nat.le_of_ble_eq_true rfl) rfl (by decide +kernel) (pf_1_4 _ _) ?_
                refine Ru.op (q := (.aload_n 0, 1)) (by decide +kernel) rfl ?_
                refine Ru.op (q := (.iload_n 3, 1)) (by decide +kernel) rfl ?_
                refine Ru.op (q := (.iload_n 1, 1)) (by decide +kernel) rfl ?_
                refine Ru.op (q := (.iload_n 2, 1)) (by decide +kernel) rfl ?_
                obtain ⟨o35, e36, h⟩ := ob_some h
                refine Ru.vcall (i := 91) (j2 := 34) (as := [vI o1, vI v1, vI v2]) (by decide +kernel) (by rfl) rfl rfl (hp1 _) (by decide) ⟨(by omega), (by show 19 + 6 ≤ (LO + 48); omega), Nat.le_of_ble_eq_true rfl, Nat.le_of_ble_eq_true rfl⟩ ((g34b_ok hF hL hrc e36).up (by omega) (by show _ ≤ (LO + 48) - (19 + 6); omega)) ?_
                cases h
                exact Ru.iret (by decide +kernel) rfl rfl
              · replace h := if_f b34 h
                by_cases b37 : o1 = 126
                · replace h := if_t b37 h
                  refine Ru.lsw (d := 140) (ps := #[(33, 103), (38, 85), (62, 85), (63, 103), (124, 85), (126, 58)]) (len := 58) (tg := 124) (by decide +kernel) (by rw [b37]; decide +kernel) ?_
                  refine Ru.op (q := (.aload_n 0, 1)) (by decide +kernel) rfl ?_
                  refine Ru.op (q := (.dup, 1)) (by decide +kernel) rfl ?_
                  refine Ru.getI (i := 36) (x := (S.F 1 4)) (by decide +kernel) (by rfl) (hp1 _) (by decide) rfl (eI_of _) ?_
                  refine Ru.kI (q := (.iconst 1, 1)) (c := 1) (by decide +kernel) rfl (by decide) ?_
                  refine Ru.ar2 (i := .iadd) (z := ((S.F 1 4) + 1)) (by decide +kernel) rfl (ar_add _ _) ?_
                  refine Ru.putH (i := 36) (by decide +kernel) (by rfl) (hp1 _) (by decide) (Nat.le_of_ble_eq_true rfl) rfl (by decide +kernel) (pf_1_4 _ _) ?_
                  refine Ru.op (q := (.aload_n 0, 1)) (by decide +kernel) rfl ?_
                  refine Ru.op (q := (.iload_n 1, 1)) (by decide +kernel) rfl ?_
                  obtain ⟨g38, h⟩ := gd_some h
                  by_cases b39 : v1 = 0
                  · replace h := if_t b39 h
                    refine Ru.br (k := .ne) (off := 7) (bb := false) (tg := 139) (by decide +kernel) (by decide +kernel) (cz (ci_ne0 g38 (by decide) b39)) rfl ?_
                    refine Ru.kI (q := (.iconst 1, 1)) (c := 1) (by decide +kernel) rfl (by decide) ?_
                    refine Ru.op (q := (.goto 4, 3)) (by decide +kernel) rfl ?_
                    refine Ru.op (q := (.iload_n 2, 1)) (by decide +kernel) rfl ?_
                    refine Ru.kI (q := (.iconst 1, 1)) (c := 1) (by decide +kernel) rfl (by decide) ?_
                    refine Ru.ar2 (i := .iadd) (z := (v2 + 1)) (by decide +kernel) rfl (ar_add _ _) ?_
                    obtain ⟨o40, e41, h⟩ := ob_some h
                    refine Ru.vcall (i := 55) (j2 := 22) (as := [vI 1, vI (v2 + 1)]) (by decide +kernel) (by rfl) rfl rfl (hp1 _) (by decide) ⟨(by omega), (by show 19 + 4 ≤ (LO + 48); omega), Nat.le_of_ble_eq_true rfl, Nat.le_of_ble_eq_true rfl⟩ ((hrc e41).up (by omega) (by show _ ≤ (LO + 48) - (19 + 4); omega)) ?_
                    cases h
                    exact Ru.iret (by decide +kernel) rfl rfl
                  · replace h := if_f b39 h
                    refine Ru.br (k := .ne) (off := 7) (bb := true) (tg := 143) (by decide +kernel) (by decide +kernel) (cz (ci_ne1 g38 (by decide) b39)) rfl ?_
                    refine Ru.kI (q := (.iconst 0, 1)) (c := 0) (by decide +kernel) rfl (by decide) ?_
                    refine Ru.op (q := (.iload_n 2, 1)) (by decide +kernel) rfl ?_
                    refine Ru.kI (q := (.iconst 1, 1)) (c := 1) (by decide +kernel) rfl (by decide) ?_
                    refine Ru.ar2 (i := .iadd) (z := (v2 + 1)) (by decide +kernel) rfl (ar_add _ _) ?_
                    obtain ⟨o42, e43, h⟩ := ob_some h
                    refine Ru.vcall (i := 55) (j2 := 22) (as := [vI 0, vI (v2 + 1)]) (by decide +kernel) (by rfl) rfl rfl (hp1 _) (by decide) ⟨(by omega), (by show 19 + 4 ≤ (LO + 48); omega), Nat.le_of_ble_eq_true rfl, Nat.le_of_ble_eq_true rfl⟩ ((hrc e43).up (by omega) (by show _ ≤ (LO + 48) - (19 + 4); omega)) ?_
                    cases h
                    exact Ru.iret (by decide +kernel) rfl rfl
                · replace h := if_f b37 h
                  refine Ru.lsw (d := 140) (ps := #[(33, 103), (38, 85), (62, 85), (63, 103), (124, 85), (126, 58)]) (len := 58) (tg := 206) (by decide +kernel) (lsw_d g3 rfl (by decide) (by decide +kernel) rfl (List.forall_mem_cons.mpr ⟨fun e => b7 e.symm, List.forall_mem_cons.mpr ⟨fun e => b21 e.symm, List.forall_mem_cons.mpr ⟨fun e => b24 e.symm, List.forall_mem_cons.mpr ⟨fun e => b27 e.symm, List.forall_mem_cons.mpr ⟨fun e => b34 e.symm, List.forall_mem_cons.mpr ⟨fun e => b37 e.symm, List.forall_mem_nil _⟩⟩⟩⟩⟩⟩)) ?_
                  refine Ru.op (q := (.aload_n 0, 1)) (by decide +kernel) rfl ?_
                  refine Ru.op (q := (.aload_n 0, 1)) (by decide +kernel) rfl ?_
                  refine Ru.getI (i := 36) (x := (S.F 1 4)) (by decide +kernel) (by rfl) (hp1 _) (by decide) rfl (eI_of _) ?_
                  obtain ⟨o44, e45, h⟩ := ob_some h
                  refine Ru.vcall (i := 62) (j2 := 25) (as := [vI (S.F 1 4)]) (by decide +kernel) (by rfl) rfl rfl (hp1 _) (by decide) ⟨(by omega), (by show 19 + 2 ≤ (LO + 48); omega), Nat.le_of_ble_eq_true rfl, Nat.le_of_ble_eq_true rfl⟩ ((g25_ok e45).up (by omega) (by show _ ≤ (LO + 48) - (19 + 2); omega)) ?_
                  cases h
                  exact Ru.iret (by decide +kernel) rfl rfl
    · replace h := if_f b6 h
      refine Ru.br2 (k := .lt) (off := 12) (bb := false) (tg := 56) (by decide +kernel) (by decide +kernel) (ci_lt0 g5 (by decide) b6) rfl ?_
      refine Ru.op (q := (.aload_n 0, 1)) (by decide +kernel) rfl ?_
      refine Ru.op (q := (.aload_n 0, 1)) (by decide +kernel) rfl ?_
      refine Ru.getI (i := 36) (x := (S.F 1 4)) (by decide +kernel) (by rfl) (hp1 _) (by decide) rfl (eI_of _) ?_
      obtain ⟨o46, e47, h⟩ := ob_some h
      refine Ru.vcall (i := 62) (j2 := 25) (as := [vI (S.F 1 4)]) (by decide +kernel) (by rfl) rfl rfl (hp1 _) (by decide) ⟨(by omega), (by show 19 + 2 ≤ (LO + 48); omega), Nat.le_of_ble_eq_true rfl, Nat.le_of_ble_eq_true rfl⟩ ((g25_ok e47).up (by omega) (by show _ ≤ (LO + 48) - (19 + 2); omega)) ?_
      cases h
      exact Ru.iret (by decide +kernel) rfl rfl
  · replace h := if_f b4 h
    refine Ru.br2 (k := .lt) (off := 42) (bb := false) (tg := 11) (by decide +kernel) (by decide +kernel) (ci_lt0 g3 (by decide) b4) rfl ?_
    refine Ru.op (q := (.iload_n 3, 1)) (by decide +kernel) rfl ?_
    refine Ru.kI (q := (.bipush 90, 2)) (c := 90) (by decide +kernel) rfl (by decide) ?_
    by_cases b48 : 90 < o1
    · replace h := if_t b48 h
      refine Ru.br2 (k := .gt) (off := 36) (bb := true) (tg := 50) (by decide +kernel) (by decide +kernel) (ci_gt1 g3 (by decide) b48) rfl ?_
      refine Ru.op (q := (.iload_n 2, 1)) (by decide +kernel) rfl ?_
      refine Ru.kI (q := (.bipush 10, 2)) (c := 10) (by decide +kernel) rfl (by decide) ?_
      obtain ⟨g49, h⟩ := gd_some h
      by_cases b50 : v2 < 10
      · replace h := if_t b50 h
        refine Ru.br2 (k := .lt) (off := 12) (bb := true) (tg := 65) (by decide +kernel) (by decide +kernel) (ci_lt1 g49 (by decide) b50) rfl ?_
        refine Ru.op (q := (.iload_n 3, 1)) (by decide +kernel) rfl ?_
        by_cases b51 : o1 = 33
        · replace h := if_t b51 h
          refine Ru.lsw (d := 140) (ps := #[(33, 103), (38, 85), (62, 85), (63, 103), (124, 85), (126, 58)]) (len := 58) (tg := 169) (by decide +kernel) (by rw [b51]; decide +kernel) ?_
          refine Ru.op (q := (.aload_n 0, 1)) (by decide +kernel) rfl ?_
          refine Ru.op (q := (.dup, 1)) (by decide +kernel) rfl ?_
          refine Ru.getI (i := 36) (x := (S.F 1 4)) (by decide +kernel) (by rfl) (hp1 _) (by decide) rfl (eI_of _) ?_
          refine Ru.kI (q := (.iconst 1, 1)) (c := 1) (by decide +kernel) rfl (by decide) ?_
          refine Ru.ar2 (i := .iadd) (z := ((S.F 1 4) + 1)) (by decide +kernel) rfl (ar_add _ _) ?_
          refine Ru.putH (i := 36) (by decide +kernel) (by rfl) (hp1 _) (by decide) (Nat.le_of_ble_eq_true rfl) rfl (by decide +kernel) (pf_1_4 _ _) ?_
          refine Ru.op (q := (.aload_n 0, 1)) (by decide +kernel) rfl ?_
          refine Ru.op (q := (.iload_n 3, 1)) (by decide +kernel) rfl ?_
          refine Ru.kI (q := (.bipush 63, 2)) (c := 63) (by decide +kernel) rfl (by decide) ?_
          by_cases b52 : o1 = 63
          · replace h := if_t b52 h
            refine Ru.br2 (k := .ne) (off := 7) (bb := false) (tg := 186) (by decide +kernel) (by decide +kernel) (ci_ne0 g3 (by decide) b52) rfl ?_
            refine Ru.kI (q := (.iconst 1, 1)) (c := 1) (by decide +kernel) rfl (by decide) ?_
            refine Ru.op (q := (.goto 4, 3)) (by decide +kernel) rfl ?_
            refine Ru.op (q := (.iload_n 1, 1)) (by decide +kernel) rfl ?_
            obtain ⟨g53, h⟩ := gd_some h
            by_cases b54 : 1 = v1
            · replace h := if_t b54 h
              refine Ru.br2 (k := .eq) (off := 7) (bb := true) (tg := 199) (by decide +kernel) (by decide +kernel) (ci_eq1 (by decide) g53 b54) rfl ?_
              refine Ru.kI (q := (.iconst 0, 1)) (c := 0) (by decide +kernel) rfl (by decide) ?_
              refine Ru.op (q := (.iload_n 1, 1)) (by decide +kernel) rfl ?_
              refine Ru.op (q := (.iload_n 2, 1)) (by decide +kernel) rfl ?_
              obtain ⟨o55, e56, h⟩ := ob_some h
              refine Ru.vcall (i := 95) (j2 := 37) (as := [vI 0, vI v1, vI v2]) (by decide +kernel) (by rfl) rfl rfl (hp1 _) (by decide) ⟨(by omega), (by show 19 + 6 ≤ (LO + 48); omega), Nat.le_of_ble_eq_true rfl, Nat.le_of_ble_eq_true rfl⟩ ((g37b_ok hF hL hrc e56).up (by omega) (by show _ ≤ (LO + 48) - (19 + 6); omega)) ?_
              cases h
              exact Ru.iret (by decide +kernel) rfl rfl
            · replace h := if_f b54 h
              refine Ru.br2 (k := .eq) (off := 7) (bb := false) (tg := 195) (by decide +kernel) (by decide +kernel) (ci_eq0 (by decide) g53 b54) rfl ?_
              refine Ru.kI (q := (.iconst 1, 1)) (c := 1) (by decide +kernel) rfl (by decide) ?_
              refine Ru.op (q := (.goto 4, 3)) (by decide +kernel) rfl ?_
              refine Ru.op (q := (.iload_n 1, 1)) (by decide +kernel) rfl ?_
              refine Ru.op (q := (.iload_n 2, 1)) (by decide +kernel) rfl ?_
              obtain ⟨o57, e58, h⟩ := ob_some h
              refine Ru.vcall (i := 95) (j2 := 37) (as := [vI 1, vI v1, vI v2]) (by decide +kernel) (by rfl) rfl rfl (hp1 _) (by decide) ⟨(by omega), (by show 19 + 6 ≤ (LO + 48); omega), Nat.le_of_ble_eq_true rfl, Nat.le_of_ble_eq_true rfl⟩ ((g37b_ok hF hL hrc e58).up (by omega) (by show _ ≤ (LO + 48) - (19 + 6); omega)) ?_
              cases h
              exact Ru.iret (by decide +kernel) rfl rfl
          · replace h := if_f b52 h
            refine Ru.br2 (k := .ne) (off := 7) (bb := true) (tg := 190) (by decide +kernel) (by decide +kernel) (ci_ne1 g3 (by decide) b52) rfl ?_
            refine Ru.kI (q := (.iconst 0, 1)) (c := 0) (by decide +kernel) rfl (by decide) ?_
            refine Ru.op (q := (.iload_n 1, 1)) (by decide +kernel) rfl ?_
            obtain ⟨g59, h⟩ := gd_some h
            by_cases b60 : 0 = v1
            · replace h := if_t b60 h
              refine Ru.br2 (k := .eq) (off := 7) (bb := true) (tg := 199) (by decide +kernel) (by decide +kernel) (ci_eq1 (by decide) g59 b60) rfl ?_
              refine Ru.kI (q := (.iconst 0, 1)) (c := 0) (by decide +kernel) rfl (by decide) ?_
              refine Ru.op (q := (.iload_n 1, 1)) (by decide +kernel) rfl ?_
              refine Ru.op (q := (.iload_n 2, 1)) (by decide +kernel) rfl ?_
              obtain ⟨o61, e62, h⟩ := ob_some h
              refine Ru.vcall (i := 95) (j2 := 37) (as := [vI 0, vI v1, vI v2]) (by decide +kernel) (by rfl) rfl rfl (hp1 _) (by decide) ⟨(by omega), (by show 19 + 6 ≤ (LO + 48); omega), Nat.le_of_ble_eq_true rfl, Nat.le_of_ble_eq_true rfl⟩ ((g37b_ok hF hL hrc e62).up (by omega) (by show _ ≤ (LO + 48) - (19 + 6); omega)) ?_
              cases h
              exact Ru.iret (by decide +kernel) rfl rfl
            · replace h := if_f b60 h
              refine Ru.br2 (k := .eq) (off := 7) (bb := false) (tg := 195) (by decide +kernel) (by decide +kernel) (ci_eq0 (by decide) g59 b60) rfl ?_
              refine Ru.kI (q := (.iconst 1, 1)) (c := 1) (by decide +kernel) rfl (by decide) ?_
              refine Ru.op (q := (.goto 4, 3)) (by decide +kernel) rfl ?_
              refine Ru.op (q := (.iload_n 1, 1)) (by decide +kernel) rfl ?_
              refine Ru.op (q := (.iload_n 2, 1)) (by decide +kernel) rfl ?_
              obtain ⟨o63, e64, h⟩ := ob_some h
              refine Ru.vcall (i := 95) (j2 := 37) (as := [vI 1, vI v1, vI v2]) (by decide +kernel) (by rfl) rfl rfl (hp1 _) (by decide) ⟨(by omega), (by show 19 + 6 ≤ (LO + 48); omega), Nat.le_of_ble_eq_true rfl, Nat.le_of_ble_eq_true rfl⟩ ((g37b_ok hF hL hrc e64).up (by omega) (by show _ ≤ (LO + 48) - (19 + 6); omega)) ?_
              cases h
              exact Ru.iret (by decide +kernel) rfl rfl
        · replace h := if_f b51 h
          by_cases b65 : o1 = 38
          · replace h := if_t b65 h
            refine Ru.lsw (d := 140) (ps := #[(33, 103), (38, 85), (62, 85), (63, 103), (124, 85), (126, 58)]) (len := 58) (tg := 151) (by decide +kernel) (by rw [b65]; decide +kernel) ?_
            refine Ru.op (q := (.aload_n 0, 1)) (by decide +kernel) rfl ?_
            refine Ru.op (q := (.dup, 1)) (by decide +kernel) rfl ?_
            refine Ru.getI (i := 36) (x := (S.F 1 4)) (by decide +kernel) (by rfl) (hp1 _) (by decide) rfl (eI_of _) ?_
            refine Ru.kI (q := (.iconst 1, 1)) (c := 1) (by decide +kernel) rfl (by decide) ?_
            refine Ru.ar2 (i := .iadd) (z := ((S.F 1 4) + 1)) (by decide +kernel) rfl (ar_add _ _) ?_
            refine Ru.putH (i := 36) (by decide +kernel) (by rfl) (hp1 _) (by decide) (Nat.le_of_ble_eq_true rfl) rfl (by decide +kernel) (pf_1_4 _ _) ?_
            refine Ru.op (q := (.aload_n 0, 1)) (by decide +kernel) rfl ?_
            refine Ru.op (q := (.iload_n 3, 1)) (by decide +kernel) rfl ?_
            refine Ru.op (q := (.iload_n 1, 1)) (by decide +kernel) rfl ?_
            refine Ru.op (q := (.iload_n 2, 1)) (by decide +kernel) rfl ?_
            obtain ⟨o66, e67, h⟩ := ob_some h
            refine Ru.vcall (i := 91) (j2 := 34) (as := [vI o1, vI v1, vI v2]) (by decide +kernel) (by rfl) rfl rfl (hp1 _) (by decide) ⟨(by omega), (by show 19 + 6 ≤ (LO + 48); omega), Nat.le_of_ble_eq_true rfl, Nat.le_of_ble_eq_true rfl⟩ ((g34b_ok hF hL hrc e67).up (by omega) (by show _ ≤ (LO + 48) - (19 + 6); omega)) ?_
            cases h
            exact Ru.iret (by decide +kernel) rfl rfl
          · replace h := if_f b65 h
            by_cases b68 : o1 = 62
            · replace h := if_t b68 h
              refine Ru.lsw (d := 140) (ps := #[(33, 103), (38, 85), (62, 85), (63, 103), (124, 85), (126, 58)]) (len := 58) (tg := 151) (by decide +kernel) (by rw [b68]; decide +kernel) ?_
              refine Ru.op (q := (.aload_n 0, 1)) (by decide +kernel) rfl ?_
              refine Ru.op (q := (.dup, 1)) (by decide +kernel) rfl ?_
              refine Ru.getI (i := 36) (x := (S.F 1 4)) (by decide +kernel) (by rfl) (hp1 _) (by decide) rfl (eI_of _) ?_
              refine Ru.kI (q := (.iconst 1, 1)) (c := 1) (by decide +kernel) rfl (by decide) ?_
              refine Ru.ar2 (i := .iadd) (z := ((S.F 1 4) + 1)) (by decide +kernel) rfl (ar_add _ _) ?_
              refine Ru.putH (i := 36) (by decide +kernel) (by rfl) (hp1 _) (by decide) (Nat.le_of_ble_eq_true rfl) rfl (by decide +kernel) (pf_1_4 _ _) ?_
              refine Ru.op (q := (.aload_n 0, 1)) (by decide +kernel) rfl ?_
              refine Ru.op (q := (.iload_n 3, 1)) (by decide +kernel) rfl ?_
              refine Ru.op (q := (.iload_n 1, 1)) (by decide +kernel) rfl ?_
              refine Ru.op (q := (.iload_n 2, 1)) (by decide +kernel) rfl ?_
              obtain ⟨o69, e70, h⟩ := ob_some h
              refine Ru.vcall (i := 91) (j2 := 34) (as := [vI o1, vI v1, vI v2]) (by decide +kernel) (by rfl) rfl rfl (hp1 _) (by decide) ⟨(by omega), (by show 19 + 6 ≤ (LO + 48); omega), Nat.le_of_ble_eq_true rfl, Nat.le_of_ble_eq_true rfl⟩ ((g34b_ok hF hL hrc e70).up (by omega) (by show _ ≤ (LO + 48) - (19 + 6); omega)) ?_
              cases h
              exact Ru.iret (by decide +kernel) rfl rfl
            · replace h := if_f b68 h
              by_cases b71 : o1 = 63
              · replace h := if_t b71 h
                refine Ru.lsw (d := 140) (ps := #[(33, 103), (38, 85), (62, 85), (63, 103), (124, 85), (126, 58)]) (len := 58) (tg := 169) (by decide +kernel) (by rw [b71]; decide +kernel) ?_
                refine Ru.op (q := (.aload_n 0, 1)) (by decide +kernel) rfl ?_
                refine Ru.op (q := (.dup, 1)) (by decide +kernel) rfl ?_
                refine Ru.getI (i := 36) (x := (S.F 1 4)) (by decide +kernel) (by rfl) (hp1 _) (by decide) rfl (eI_of _) ?_
                refine Ru.kI (q := (.iconst 1, 1)) (c := 1) (by decide +kernel) rfl (by decide) ?_
                refine Ru.ar2 (i := .iadd) (z := ((S.F 1 4) + 1)) (by decide +kernel) rfl (ar_add _ _) ?_
                refine Ru.putH (i := 36) (by decide +kernel) (by rfl) (hp1 _) (by decide) (Nat.le_of_ble_eq_true rfl) rfl (by decide +kernel) (pf_1_4 _ _) ?_
                refine Ru.op (q := (.aload_n 0, 1)) (by decide +kernel) rfl ?_
                refine Ru.op (q := (.iload_n 3, 1)) (by decide +kernel) rfl ?_
                refine Ru.kI (q := (.bipush 63, 2)) (c := 63) (by decide +kernel) rfl (by decide) ?_
                refine Ru.br2 (k := .ne) (off := 7) (bb := false) (tg := 186) (by decide +kernel) (by decide +kernel) (ci_ne0 g3 (by decide) b71) rfl ?_
                refine Ru.kI (q := (.iconst 1, 1)) (c := 1) (by decide +kernel) rfl (by decide) ?_
                refine Ru.op (q := (.goto 4, 3)) (by decide +kernel) rfl ?_
                refine Ru.op (q := (.iload_n 1, 1)) (by decide +kernel) rfl ?_
                obtain ⟨g72, h⟩ := gd_some h
                by_cases b73 : 1 = v1
                · replace h := if_t b73 h
                  refine Ru.br2 (k := .eq) (off := 7) (bb := true) (tg := 199) (by decide +kernel) (by decide +kernel) (ci_eq1 (by decide) g72 b73) rfl ?_
                  refine Ru.kI (q := (.iconst 0, 1)) (c := 0) (by decide +kernel) rfl (by decide) ?_
                  refine Ru.op (q := (.iload_n 1, 1)) (by decide +kernel) rfl ?_
                  refine Ru.op (q := (.iload_n 2, 1)) (by decide +kernel) rfl ?_
                  obtain ⟨o74, e75, h⟩ := ob_some h
                  refine Ru.vcall (i := 95) (j2 := 37) (as := [vI 0, vI v1, vI v2]) (by decide +kernel) (by rfl) rfl rfl (hp1 _) (by decide) ⟨(by omega), (by show 19 + 6 ≤ (LO + 48); omega), Nat.le_of_ble_eq_true rfl, Nat.le_of_ble_eq_true rfl⟩ ((g37b_ok hF hL hrc e75).up (by omega) (by show _ ≤ (LO + 48) - (19 + 6); omega)) ?_
                  cases h
                  exact Ru.iret (by decide +kernel) rfl rfl
                · replace h := if_f b73 h
                  refine Ru.br2 (k := .eq) (off := 7) (bb := false) (tg := 195) (by decide +kernel) (by decide +kernel) (ci_eq0 (by decide) g72 b73) rfl ?_
                  refine Ru.kI (q := (.iconst 1, 1)) (c := 1) (by decide +kernel) rfl (by decide) ?_
                  refine Ru.op (q := (.goto 4, 3)) (by decide +kernel) rfl ?_
                  refine Ru.op (q := (.iload_n 1, 1)) (by decide +kernel) rfl ?_
                  refine Ru.op (q := (.iload_n 2, 1)) (by decide +kernel) rfl ?_
                  obtain ⟨o76, e77, h⟩ := ob_some h
                  refine Ru.vcall (i := 95) (j2 := 37) (as := [vI 1, vI v1, vI v2]) (by decide +kernel) (by rfl) rfl rfl (hp1 _) (by decide) ⟨(by omega), (by show 19 + 6 ≤ (LO + 48); omega), Nat.le_of_ble_eq_true rfl, Nat.le_of_ble_eq_true rfl⟩ ((g37b_ok hF hL hrc e77).up (by omega) (by show _ ≤ (LO + 48) - (19 + 6); omega)) ?_
                  cases h
                  exact Ru.iret (by decide +kernel) rfl rfl
              · replace h := if_f b71 h
                by_cases b78 : o1 = 124
                · replace h := if_t b78 h
                  refine Ru.lsw (d := 140) (ps := #[(33, 103), (38, 85), (62, 85), (63, 103), (124, 85), (126, 58)]) (len := 58) (tg := 151) (by decide +kernel) (by rw [b78]; decide +kernel) ?_
                  refine Ru.op (q := (.aload_n 0, 1)) (by decide +kernel) rfl ?_
                  refine Ru.op (q := (.dup, 1)) (by decide +kernel) rfl ?_
                  refine Ru.getI (i := 36) (x := (S.F 1 4)) (by decide +kernel) (by rfl) (hp1 _) (by decide) rfl (eI_of _) ?_
                  refine Ru.kI (q := (.iconst 1, 1)) (c := 1) (by decide +kernel) rfl (by decide) ?_
                  refine Ru.ar2 (i := .iadd) (z := ((S.F 1 4) + 1)) (by decide +kernel) rfl (ar_add _ _) ?_
                  refine Ru.putH (i := 36) (by decide +kernel) (by rfl) (hp1 _) (by decide) (Nat.le_of_ble_eq_true rfl) rfl (by decide +kernel) (pf_1_4 _ _) ?_
                  refine Ru.op (q := (.aload_n 0, 1)) (by decide +kernel) rfl ?_
                  refine Ru.op (q := (.iload_n 3, 1)) (by decide +kernel) rfl ?_
                  refine Ru.op (q := (.iload_n 1, 1)) (by decide +kernel) rfl ?_
                  refine Ru.op (q := (.iload_n 2, 1)) (by decide +kernel) rfl ?_
                  obtain ⟨o79, e80, h⟩ := ob_some h
                  refine Ru.vcall (i := 91) (j2 := 34) (as := [vI o1, vI v1, vI v2]) (by decide +kernel) (by rfl) rfl rfl (hp1 _) (by decide) ⟨(by omega), (by show 19 + 6 ≤ (LO + 48); omega), Nat.le_of_ble_eq_true rfl, Nat.le_of_ble_eq_true rfl⟩ ((g34b_ok hF hL hrc e80).up (by omega) (by show _ ≤ (LO + 48) - (19 + 6); omega)) ?_
                  cases h
                  exact Ru.iret (by decide +kernel) rfl rfl
                · replace h := if_f b78 h
                  by_cases b81 : o1 = 126
                  · replace h := if_t b81 h
                    refine Ru.lsw (d := 140) (ps := #[(33, 103), (38, 85), (62, 85), (63, 103), (124, 85), (126, 58)]) (len := 58) (tg := 124) (by decide +kernel) (by rw [b81]; decide +kernel) ?_
                    refine Ru.op (q := (.aload_n 0, 1)) (by decide +kernel) rfl ?_
                    refine Ru.op (q := (.dup, 1)) (by decide +kernel) rfl ?_
                    refine Ru.getI (i := 36) (x := (S.F 1 4)) (by decide +kernel) (by rfl) (hp1 _) (by decide) rfl (eI_of _) ?_
                    refine Ru.kI (q := (.iconst 1, 1)) (c := 1) (by decide +kernel) rfl (by decide) ?_
                    refine Ru.ar2 (i := .iadd) (z := ((S.F 1 4) + 1)) (by decide +kernel) rfl (ar_add _ _) ?_
                    refine Ru.putH (i := 36) (by decide +kernel) (by rfl) (hp1 _) (by decide) (Nat.le_of_ble_eq_true rfl) rfl (by decide +kernel) (pf_1_4 _ _) ?_
                    refine Ru.op (q := (.aload_n 0, 1)) (by decide +kernel) rfl ?_
                    refine Ru.op (q := (.iload_n 1, 1)) (by decide +kernel) rfl ?_
                    obtain ⟨g82, h⟩ := gd_some h
                    by_cases b83 : v1 = 0
                    · replace h := if_t b83 h
                      refine Ru.br (k := .ne) (off := 7) (bb := false) (tg := 139) (by decide +kernel) (by decide +kernel) (cz (ci_ne0 g82 (by decide) b83)) rfl ?_
                      refine Ru.kI (q := (.iconst 1, 1)) (c := 1) (by decide +kernel) rfl (by decide) ?_
                      refine Ru.op (q := (.goto 4, 3)) (by decide +kernel) rfl ?_
                      refine Ru.op (q := (.iload_n 2, 1)) (by decide +kernel) rfl ?_
                      refine Ru.kI (q := (.iconst 1, 1)) (c := 1) (by decide +kernel) rfl (by decide) ?_
                      refine Ru.ar2 (i := .iadd) (z := (v2 + 1)) (by decide +kernel) rfl (ar_add _ _) ?_
                      obtain ⟨o84, e85, h⟩ := ob_some h
                      refine Ru.vcall (i := 55) (j2 := 22) (as := [vI 1, vI (v2 + 1)]) (by decide +kernel) (by rfl) rfl rfl (hp1 _) (by decide) ⟨(by omega), (by show 19 + 4 ≤ (LO + 48); omega), Nat.le_of_ble_eq_true rfl, Nat.le_of_ble_eq_true rfl⟩ ((hrc e85).up (by omega) (by show _ ≤ (LO + 48) - (19 + 4); omega)) ?_
                      cases h
                      exact Ru.iret (by decide +kernel) rfl rfl
                    · replace h := if_f b83 h
                      refine Ru.br (k := .ne) (off := 7) (bb := true) (tg := 143) (by decide +kernel) (by decide +kernel) (cz (ci_ne1 g82 (by decide) b83)) rfl ?_
                      refine Ru.kI (q := (.iconst 0, 1)) (c := 0) (by decide +kernel) rfl (by decide) ?_
                      refine Ru.op (q := (.iload_n 2, 1)) (by decide +kernel) rfl ?_
                      refine Ru.kI (q := (.iconst 1, 1)) (c := 1) (by decide +kernel) rfl (by decide) ?_
                      refine Ru.ar2 (i := .iadd) (z := (v2 + 1)) (by decide +kernel) rfl (ar_add _ _) ?_
                      obtain ⟨o86, e87, h⟩ := ob_some h
                      refine Ru.vcall (i := 55) (j2 := 22) (as := [vI 0, vI (v2 + 1)]) (by decide +kernel) (by rfl) rfl rfl (hp1 _) (by decide) ⟨(by omega), (by show 19 + 4 ≤ (LO + 48); omega), Nat.le_of_ble_eq_true rfl, Nat.le_of_ble_eq_true rfl⟩ ((hrc e87).up (by omega) (by show _ ≤ (LO + 48) - (19 + 4); omega)) ?_
                      cases h
                      exact Ru.iret (by decide +kernel) rfl rfl
                  · replace h := if_f b81 h
                    refine Ru.lsw (d := 140) (ps := #[(33, 103), (38, 85), (62, 85), (63, 103), (124, 85), (126, 58)]) (len := 58) (tg := 206) (by decide +kernel) (lsw_d g3 rfl (by decide) (by decide +kernel) rfl (List.forall_mem_cons.mpr ⟨fun e => b51 e.symm, List.forall_mem_cons.mpr ⟨fun e => b65 e.symm, List.forall_mem_cons.mpr ⟨fun e => b68 e.symm, List.forall_mem_cons.mpr ⟨fun e => b71 e.symm, List.forall_mem_cons.mpr ⟨fun e => b78 e.symm, List.forall_mem_cons.mpr ⟨fun e => b81 e.symm, List.forall_mem_nil _⟩⟩⟩⟩⟩⟩)) ?_
                    refine Ru.op (q := (.aload_n 0, 1)) (by decide +kernel) rfl ?_
                    refine Ru.op (q := (.aload_n 0, 1)) (by decide +kernel) rfl ?_
                    refine Ru.getI (i := 36) (x := (S.F 1 4)) (by decide +kernel) (by rfl) (hp1 _) (by decide) rfl (eI_of _) ?_
                    obtain ⟨o88, e89, h⟩ := ob_some h
                    refine Ru.vcall (i := 62) (j2 := 25) (as := [vI (S.F 1 4)]) (by decide +kernel) (by rfl) rfl rfl (hp1 _) (by decide) ⟨(by omega), (by show 19 + 2 ≤ (LO + 48); omega), Nat.le_of_ble_eq_true rfl, Nat.le_of_ble_eq_true rfl⟩ ((g25_ok e89).up (by omega) (by show _ ≤ (LO + 48) - (19 + 2); omega)) ?_
                    cases h
                    exact Ru.iret (by decide +kernel) rfl rfl
      · replace h := if_f b50 h
        refine Ru.br2 (k := .lt) (off := 12) (bb := false) (tg := 56) (by decide +kernel) (by decide +kernel) (ci_lt0 g49 (by decide) b50) rfl ?_
        refine Ru.op (q := (.aload_n 0, 1)) (by decide +kernel) rfl ?_
        refine Ru.op (q := (.aload_n 0, 1)) (by decide +kernel) rfl ?_
        refine Ru.getI (i := 36) (x := (S.F 1 4)) (by decide +kernel) (by rfl) (hp1 _) (by decide) rfl (eI_of _) ?_
        obtain ⟨o90, e91, h⟩ := ob_some h
        refine Ru.vcall (i := 62) (j2 := 25) (as := [vI (S.F 1 4)]) (by decide +kernel) (by rfl) rfl rfl (hp1 _) (by decide) ⟨(by omega), (by show 19 + 2 ≤ (LO + 48); omega), Nat.le_of_ble_eq_true rfl, Nat.le_of_ble_eq_true rfl⟩ ((g25_ok e91).up (by omega) (by show _ ≤ (LO + 48) - (19 + 2); omega)) ?_
        cases h
        exact Ru.iret (by decide +kernel) rfl rfl
    · replace h := if_f b48 h
      refine Ru.br2 (k := .gt) (off := 36) (bb := false) (tg := 17) (by decide +kernel) (by decide +kernel) (ci_gt0 g3 (by decide) b48) rfl ?_
      refine Ru.op (q := (.aload_n 0, 1)) (by decide +kernel) rfl ?_
      refine Ru.op (q := (.iload_n 1, 1)) (by decide +kernel) rfl ?_
      obtain ⟨o92, e93, h⟩ := ob_some h
      refine Ru.vcall (i := 80) (j2 := 24) (as := [vI v1]) (by decide +kernel) (by rfl) rfl rfl (hp1 _) (by decide) ⟨(by omega), (by show 19 + 3 ≤ (LO + 48); omega), Nat.le_of_ble_eq_true rfl, Nat.le_of_ble_eq_true rfl⟩ ((g24_ok e93).up (by omega) (by show _ ≤ (LO + 48) - (19 + 3); omega)) ?_
      refine Ru.op (q := (.aload_n 0, 1)) (by decide +kernel) rfl ?_
      refine Ru.getI (i := 40) (x := (o92.F 1 3)) (by decide +kernel) (by rfl) (hp1 _) (by decide) rfl (eI_of _) ?_
      refine Ru.kI (q := (.iconst (-1), 1)) (c := (-1)) (by decide +kernel) rfl (by decide) ?_
      by_cases b94 : (o92.F 1 3) = (-1)
      · replace h := if_t b94 h
        refine Ru.br2 (k := .ne) (off := 21) (bb := false) (tg := 30) (by decide +kernel) (by decide +kernel) (ci_ne0 (inR_to _) (by decide) b94) rfl ?_
        refine Ru.op (q := (.aload_n 0, 1)) (by decide +kernel) rfl ?_
        refine Ru.get (i := 18) (v := .ref 3) (by decide +kernel) (by rfl) (hp1 _) (by decide) rfl ?_
        refine Ru.op (q := (.aload_n 0, 1)) (by decide +kernel) rfl ?_
        refine Ru.get (i := 29) (v := .ref 12) (by decide +kernel) (by rfl) (hp1 _) (by decide) rfl ?_
        refine Ru.op (q := (.aload_n 0, 1)) (by decide +kernel) rfl ?_
        refine Ru.getI (i := 84) (x := (o92.F 1 12)) (by decide +kernel) (by rfl) (hp1 _) (by decide) rfl (eI_of _) ?_
        obtain ⟨o95, e96, h⟩ := ob_some h
        refine Ru.vcall (i := 87) (j2 := 32) (as := [.ref 12, vI (o92.F 1 12)]) (by decide +kernel) (by rfl) rfl rfl (hp3 _) (by decide) ⟨(by omega), (by show 19 + 5 ≤ (LO + 48); omega), Nat.le_of_ble_eq_true rfl, Nat.le_of_ble_eq_true rfl⟩ ((g32_ok e96).up (by omega) (by show _ ≤ (LO + 48) - (19 + 5); omega)) ?_
        refine Ru.op (q := (.goto 4, 3)) (by decide +kernel) rfl ?_
        cases h
        exact Ru.iret (by decide +kernel) rfl rfl
      · replace h := if_f b94 h
        refine Ru.br2 (k := .ne) (off := 21) (bb := true) (tg := 48) (by decide +kernel) (by decide +kernel) (ci_ne1 (inR_to _) (by decide) b94) rfl ?_
        refine Ru.kI (q := (.iconst (-1), 1)) (c := (-1)) (by decide +kernel) rfl (by decide) ?_
        cases h
        exact Ru.iret (by decide +kernel) rfl rfl
def g22 : Nat → St → Int → Int → Option (Int × St)
  | 0, _, _, _ => none
  | n + 1, S, v1, v2 => g22b (g22 n) S v1 v2
theorem g22_ok : ∀ (n : Nat) {S : St} {v1 : Int} {v2 : Int} {o : Int × St}, g22 n S v1 v2 = some o → Ru none (142 + 2 * n) (3427 + 48 * n) 22 (0, mn_pad (mn_ent [.ref 1, vI v1, vI v2]) 4, [], S.ns, Hp S) ((0, some (vI o.1)), o.2.ns, Hp o.2) := by
  intro n
  induction n with
  | zero => intro S v1 v2 o h; cases h
  | succ n ih => intro S v1 v2 o h; exact (g22b_ok (FR := 142 + 2 * n) (LO := 3427 + 48 * n) (by omega) (by omega) ih h).up (by omega) (by omega)
def g20 (S : St) (v1 : Int) (v2 : Int) : Option (Int × St) := ob (g21 (((S.f 1 5 0).f 1 4 0).f 1 3 (-1))) (fun o1 => ob (g22 64 (((o1.f 1 8 0).f 1 9 0).f 1 10 v2) v1 0) (fun o3 => gd (inR o3.1) (if o3.1 = (-1) then some (o3.1, o3.2) else if (o3.2.F 1 4) < (o3.2.F 1 1) then ob (g25 o3.2 (o3.2.F 1 4)) (fun o8 => some (o8.1, o8.2)) else some (o3.1, o3.2))))
set_option maxRecDepth 100000 in
set_option maxHeartbeats 4000000 in
theorem g20_ok {S : St} {v1 : Int} {v2 : Int} {o : Int × St} (h : g20 S v1 v2 = some o) : Ru none 271 6522 20 (0, mn_pad (mn_ent [.ref 1, vI v1, vI v2]) 4, [], S.ns, Hp S) ((0, some (vI o.1)), o.2.ns, Hp o.2) := by
  unfold g20 at h
  show Ru none 271 6522 20 (0, [some (.ref 1), some (vI v1), some (vI v2), none], [], S.ns, Hp S) _
  refine Ru.op (q := (.aload_n 0, 1)) (by decide +kernel) rfl ?_
  refine Ru.kI (q := (.iconst 0, 1)) (c := 0) (by decide +kernel) rfl (by decide) ?_
  refine Ru.putH (i := 32) (by decide +kernel) (by rfl) (hp1 _) (by decide) (Nat.le_of_ble_eq_true rfl) (fk_b (by decide)) (by decide +kernel) (pf_1_5 _ _) ?_
  refine Ru.op (q := (.aload_n 0, 1)) (by decide +kernel) rfl ?_
  refine Ru.kI (q := (.iconst 0, 1)) (c := 0) (by decide +kernel) rfl (by decide) ?_
  refine Ru.putH (i := 36) (by decide +kernel) (by rfl) (hp1 _) (by decide) (Nat.le_of_ble_eq_true rfl) rfl (by decide +kernel) (pf_1_4 _ _) ?_
  refine Ru.op (q := (.aload_n 0, 1)) (by decide +kernel) rfl ?_
  refine Ru.kI (q := (.iconst (-1), 1)) (c := (-1)) (by decide +kernel) rfl (by decide) ?_
  refine Ru.putH (i := 40) (by decide +kernel) (by rfl) (hp1 _) (by decide) (Nat.le_of_ble_eq_true rfl) rfl (by decide +kernel) (pf_1_3 _ _) ?_
  refine Ru.op (q := (.aload_n 0, 1)) (by decide +kernel) rfl ?_
  refine Ru.get (i := 18) (v := .ref 3) (by decide +kernel) (by rfl) (hp1 _) (by decide) rfl ?_
  obtain ⟨o1, e2, h⟩ := ob_some h
  refine Ru.vcall (i := 43) (j2 := 21) (as := []) (by decide +kernel) (by rfl) rfl rfl (hp3 _) (by decide) ⟨(Nat.le_of_ble_eq_true rfl), (by show 19 + 1 ≤ 6522; exact Nat.le_of_ble_eq_true rfl), Nat.le_of_ble_eq_true rfl, Nat.le_of_ble_eq_true rfl⟩ ((g21_ok e2).up (Nat.le_of_ble_eq_true rfl) (Nat.le_of_ble_eq_true rfl)) ?_
  refine Ru.op (q := (.aload_n 0, 1)) (by decide +kernel) rfl ?_
  refine Ru.kI (q := (.iconst 0, 1)) (c := 0) (by decide +kernel) rfl (by decide) ?_
  refine Ru.putH (i := 46) (by decide +kernel) (by rfl) (hp1 _) (by decide) (Nat.le_of_ble_eq_true rfl) rfl (by decide +kernel) (pf_1_8 _ _) ?_
  refine Ru.op (q := (.aload_n 0, 1)) (by decide +kernel) rfl ?_
  refine Ru.kI (q := (.iconst 0, 1)) (c := 0) (by decide +kernel) rfl (by decide) ?_
  refine Ru.putH (i := 49) (by decide +kernel) (by rfl) (hp1 _) (by decide) (Nat.le_of_ble_eq_true rfl) rfl (by decide +kernel) (pf_1_9 _ _) ?_
  refine Ru.op (q := (.aload_n 0, 1)) (by decide +kernel) rfl ?_
  refine Ru.op (q := (.iload_n 2, 1)) (by decide +kernel) rfl ?_
  refine Ru.putH (i := 52) (by decide +kernel) (by rfl) (hp1 _) (by decide) (Nat.le_of_ble_eq_true rfl) rfl (by decide +kernel) (pf_1_10 _ _) ?_
  refine Ru.op (q := (.aload_n 0, 1)) (by decide +kernel) rfl ?_
  refine Ru.op (q := (.iload_n 1, 1)) (by decide +kernel) rfl ?_
  refine Ru.kI (q := (.iconst 0, 1)) (c := 0) (by decide +kernel) rfl (by decide) ?_
  obtain ⟨o3, e4, h⟩ := ob_some h
  refine Ru.vcall (i := 55) (j2 := 22) (as := [vI v1, vI 0]) (by decide +kernel) (by rfl) rfl rfl (hp1 _) (by decide) ⟨(Nat.le_of_ble_eq_true rfl), (by show 19 + 4 ≤ 6522; exact Nat.le_of_ble_eq_true rfl), Nat.le_of_ble_eq_true rfl, Nat.le_of_ble_eq_true rfl⟩ ((g22_ok 64 e4).up (Nat.le_of_ble_eq_true rfl) (Nat.le_of_ble_eq_true rfl)) ?_
  refine Ru.op (q := (.istore_n 3, 1)) (S' := (44, [some (.ref 1), some (vI v1), some (vI v2), some (vI o3.1)], [], _, _)) (by decide +kernel) rfl ?_
  refine Ru.op (q := (.iload_n 3, 1)) (by decide +kernel) rfl ?_
  refine Ru.kI (q := (.iconst (-1), 1)) (c := (-1)) (by decide +kernel) rfl (by decide) ?_
  obtain ⟨g5, h⟩ := gd_some h
  by_cases b6 : o3.1 = (-1)
  · replace h := if_t b6 h
    refine Ru.br2 (k := .eq) (off := 23) (bb := true) (tg := 69) (by decide +kernel) (by decide +kernel) (ci_eq1 g5 (by decide) b6) rfl ?_
    refine Ru.op (q := (.iload_n 3, 1)) (by decide +kernel) rfl ?_
    cases h
    exact Ru.iret (by decide +kernel) rfl rfl
  · replace h := if_f b6 h
    refine Ru.br2 (k := .eq) (off := 23) (bb := false) (tg := 49) (by decide +kernel) (by decide +kernel) (ci_eq0 g5 (by decide) b6) rfl ?_
    refine Ru.op (q := (.aload_n 0, 1)) (by decide +kernel) rfl ?_
    refine Ru.getI (i := 36) (x := (o3.2.F 1 4)) (by decide +kernel) (by rfl) (hp1 _) (by decide) rfl (eI_of _) ?_
    refine Ru.op (q := (.aload_n 0, 1)) (by decide +kernel) rfl ?_
    refine Ru.getI (i := 59) (x := (o3.2.F 1 1)) (by decide +kernel) (by rfl) (hp1 _) (by decide) rfl (eI_of _) ?_
    by_cases b7 : (o3.2.F 1 4) < (o3.2.F 1 1)
    · replace h := if_t b7 h
      refine Ru.br2 (k := .ge) (off := 12) (bb := false) (tg := 60) (by decide +kernel) (by decide +kernel) (ci_ge0 (inR_to _) (inR_to _) b7) rfl ?_
      refine Ru.op (q := (.aload_n 0, 1)) (by decide +kernel) rfl ?_
      refine Ru.op (q := (.aload_n 0, 1)) (by decide +kernel) rfl ?_
      refine Ru.getI (i := 36) (x := (o3.2.F 1 4)) (by decide +kernel) (by rfl) (hp1 _) (by decide) rfl (eI_of _) ?_
      obtain ⟨o8, e9, h⟩ := ob_some h
      refine Ru.vcall (i := 62) (j2 := 25) (as := [vI (o3.2.F 1 4)]) (by decide +kernel) (by rfl) rfl rfl (hp1 _) (by decide) ⟨(Nat.le_of_ble_eq_true rfl), (by show 19 + 2 ≤ 6522; exact Nat.le_of_ble_eq_true rfl), Nat.le_of_ble_eq_true rfl, Nat.le_of_ble_eq_true rfl⟩ ((g25_ok e9).up (Nat.le_of_ble_eq_true rfl) (Nat.le_of_ble_eq_true rfl)) ?_
      cases h
      exact Ru.iret (by decide +kernel) rfl rfl
    · replace h := if_f b7 h
      refine Ru.br2 (k := .ge) (off := 12) (bb := true) (tg := 69) (by decide +kernel) (by decide +kernel) (ci_ge1 (inR_to _) (inR_to _) b7) rfl ?_
      refine Ru.op (q := (.iload_n 3, 1)) (by decide +kernel) rfl ?_
      cases h
      exact Ru.iret (by decide +kernel) rfl rfl
def g41_15 (S : St) : Option (St) := some (((((S.f 16 2 0).f 16 3 0).a 18 0 0).f 15 2 0).f 15 3 0)
set_option maxRecDepth 100000 in
set_option maxHeartbeats 4000000 in
theorem g41_15_ok {S : St} {o : St} (h : g41_15 S  = some o) : Ru none 10 200 41 (0, mn_pad (mn_ent [.ref 15]) 1, [], S.ns, Hp S) ((0, none), o.ns, Hp o) := by
  unfold g41_15 at h
  show Ru none 10 200 41 (0, [some (.ref 15)], [], S.ns, Hp S) _
  refine Ru.op (q := (.aload_n 0, 1)) (by decide +kernel) rfl ?_
  refine Ru.get (i := 14) (v := .ref 16) (by decide +kernel) (by rfl) (hp15 _) (by decide) rfl ?_
  refine Ru.kI (q := (.iconst 0, 1)) (c := 0) (by decide +kernel) rfl (by decide) ?_
  refine Ru.putH (i := 24) (by decide +kernel) (by rfl) (hp16 _) (by decide) (Nat.le_of_ble_eq_true rfl) rfl (by decide +kernel) (pf_16_2 _ _) ?_
  refine Ru.op (q := (.aload_n 0, 1)) (by decide +kernel) rfl ?_
  refine Ru.get (i := 14) (v := .ref 16) (by decide +kernel) (by rfl) (hp15 _) (by decide) rfl ?_
  refine Ru.kI (q := (.iconst 0, 1)) (c := 0) (by decide +kernel) rfl (by decide) ?_
  refine Ru.putH (i := 28) (by decide +kernel) (by rfl) (hp16 _) (by decide) (Nat.le_of_ble_eq_true rfl) rfl (by decide +kernel) (pf_16_3 _ _) ?_
  refine Ru.op (q := (.aload_n 0, 1)) (by decide +kernel) rfl ?_
  refine Ru.get (i := 14) (v := .ref 16) (by decide +kernel) (by rfl) (hp15 _) (by decide) rfl ?_
  refine Ru.get (i := 31) (v := .ref 18) (by decide +kernel) (by rfl) (hp16 _) (by decide) rfl ?_
  refine Ru.kI (q := (.iconst 0, 1)) (c := 0) (by decide +kernel) rfl (by decide) ?_
  refine Ru.kI (q := (.iconst 0, 1)) (c := 0) (by decide +kernel) rfl (by decide) ?_
  refine Ru.istI (i := 0) (x := 0) (by decide +kernel) (hp18 _) (by decide) (ps_18 _ _ _) ?_
  refine Ru.op (q := (.aload_n 0, 1)) (by decide +kernel) rfl ?_
  refine Ru.kI (q := (.iconst 0, 1)) (c := 0) (by decide +kernel) rfl (by decide) ?_
  refine Ru.putH (i := 34) (by decide +kernel) (by rfl) (hp15 _) (by decide) (Nat.le_of_ble_eq_true rfl) rfl (by decide +kernel) (pf_15_2 _ _) ?_
  refine Ru.op (q := (.aload_n 0, 1)) (by decide +kernel) rfl ?_
  refine Ru.kI (q := (.iconst 0, 1)) (c := 0) (by decide +kernel) rfl (by decide) ?_
  refine Ru.putH (i := 37) (by decide +kernel) (by rfl) (hp15 _) (by decide) (Nat.le_of_ble_eq_true rfl) (fk_b (by decide)) (by decide +kernel) (pf_15_3 _ _) ?_
  cases h
  exact Ru.end (q := (.return_, 1)) (by decide +kernel) rfl rfl
