set_option maxRecDepth 100000 in
set_option maxHeartbeats 4000000 in
theorem g22b_ok {FR LO : Nat} {rc : St → Int → Int → Option (Int × St)} (hF : 142 ≤ FR) (hL : 3427 ≤ LO) (hrc : ∀ {S : St} {v1 : Int} {v2 : Int} {o : Int × St}, rc S v1 v2 = some o → Ru none FR LO 22 (0, mn_pad (mn_ent [.ref 1, vI v1, vI v2]) 4, [], S.ns, Hp S) ((0, some (vI o.1)), o.2.ns, Hp o.2)) {S : St} {v1 : Int} {v2 : Int} {o : Int × St} (h : g22b rc S v1 v2 = some o) : Ru none (FR + 2) (LO + 48) 22 (0, mn_pad (mn_ent [.ref 1, vI v1, vI v2]) 4, [], S.ns, Hp S) ((0, some (vI o.1)), o.2.ns, Hp o.2) := by
  unfold g22b at h
  show Ru none (FR + 2) (LO + 48) 22 (0, [some (.ref 1), some (vI v1), some (vI v2), none], [], S.ns, Hp S) _
  refine Ru.op (q := (.aload_n 0, 1)) (S' := (1, _, _, _, _)) (by decide +kernel) rfl ?_
  obtain ⟨o1, e2, h⟩ := ob_some h
  refine Ru.vcallI (pc' := 4) (st' := [vI o1]) (i := 69) (j2 := 23) (ci := 1) (k := 0) (z := 0) (as := []) (by decide +kernel) (by decide +kernel) rfl rfl (hp1 _) (by decide) ⟨(by omega), (by show 19 + 1 ≤ (LO + 48); omega), Nat.le_of_ble_eq_true rfl, Nat.le_of_ble_eq_true rfl⟩ ((g23_ok e2).up (by omega) (by show _ ≤ (LO + 48) - (19 + 1); omega)) rfl rfl ?_
  refine Ru.op (q := (.istore_n 3, 1)) (S' := (5, [some (.ref 1), some (vI v1), some (vI v2), some (vI o1)], [], _, _)) (by decide +kernel) rfl ?_
  refine Ru.op (q := (.iload_n 3, 1)) (S' := (6, _, _, _, _)) (by decide +kernel) rfl ?_
  refine Ru.kI (q := (.bipush 65, 2)) (c := 65) (pc' := 8) (by decide +kernel) rfl (by decide) rfl ?_
  obtain ⟨g3, h⟩ := gd_some h
  by_cases b4 : o1 < 65
  · replace h := if_t b4 h
    refine Ru.br2 (k := .lt) (off := 42) (bb := true) (tg := 50) (by decide +kernel) (by decide +kernel) (ci_lt1 g3 (by decide) b4) rfl ?_
    refine Ru.op (q := (.iload_n 2, 1)) (S' := (51, _, _, _, _)) (by decide +kernel) rfl ?_
    refine Ru.kI (q := (.bipush 10, 2)) (c := 10) (pc' := 53) (by decide +kernel) rfl (by decide) rfl ?_
    obtain ⟨g5, h⟩ := gd_some h
    by_cases b6 : v2 < 10
    · replace h := if_t b6 h
      refine Ru.br2 (k := .lt) (off := 12) (bb := true) (tg := 65) (by decide +kernel) (by decide +kernel) (ci_lt1 g5 (by decide) b6) rfl ?_
      refine Ru.op (q := (.iload_n 3, 1)) (S' := (66, _, _, _, _)) (by decide +kernel) rfl ?_
      by_cases b7 : o1 = 33
      · replace h := if_t b7 h
        refine Ru.lsw (d := 140) (ps := #[(33, 103), (38, 85), (62, 85), (63, 103), (124, 85), (126, 58)]) (len := 58) (tg := 169) (by decide +kernel) (by rw [b7]; rfl) ?_
        refine Ru.op (q := (.aload_n 0, 1)) (S' := (170, _, _, _, _)) (by decide +kernel) rfl ?_
        refine Ru.op (q := (.dup, 1)) (S' := (171, _, _, _, _)) (by decide +kernel) rfl ?_
        refine Ru.getI (pc' := 174) (i := 36) (ci := 1) (k := 4) (nn := 0) (z := 0) (x := (S.F 1 4)) (by decide +kernel) (by decide +kernel) (hp1 _) (by decide) rfl (eI_of _) rfl ?_
        refine Ru.kI (q := (.iconst 1, 1)) (c := 1) (pc' := 175) (by decide +kernel) rfl (by decide) rfl ?_
        refine Ru.ar2 (i := .iadd) (z := ((S.F 1 4) + 1)) (pc' := 176) (by decide +kernel) rfl (ar_add _ _) rfl ?_
        refine Ru.putH (pc' := 179) (i := 36) (ci := 1) (k := 4) (nn := 0) (z := 0) (by decide +kernel) (by decide +kernel) (hp1 _) (by decide) (Nat.le_of_ble_eq_true rfl) rfl (by decide +kernel) (pf_1_4 _ _) rfl ?_
        refine Ru.op (q := (.aload_n 0, 1)) (S' := (180, _, _, _, _)) (by decide +kernel) rfl ?_
        refine Ru.op (q := (.iload_n 3, 1)) (S' := (181, _, _, _, _)) (by decide +kernel) rfl ?_
        refine Ru.kI (q := (.bipush 63, 2)) (c := 63) (pc' := 183) (by decide +kernel) rfl (by decide) rfl ?_
        by_cases b8 : o1 = 63
        · replace h := if_t b8 h
          refine Ru.br2 (k := .ne) (off := 7) (bb := false) (tg := 186) (by decide +kernel) (by decide +kernel) (ci_ne0 g3 (by decide) b8) rfl ?_
          refine Ru.kI (q := (.iconst 1, 1)) (c := 1) (pc' := 187) (by decide +kernel) rfl (by decide) rfl ?_
          refine Ru.op (q := (.goto 4, 3)) (S' := (191, _, _, _, _)) (by decide +kernel) rfl ?_
          refine Ru.op (q := (.iload_n 1, 1)) (S' := (192, _, _, _, _)) (by decide +kernel) rfl ?_
          obtain ⟨g9, h⟩ := gd_some h
          by_cases b10 : 1 = v1
          · replace h := if_t b10 h
            refine Ru.br2 (k := .eq) (off := 7) (bb := true) (tg := 199) (by decide +kernel) (by decide +kernel) (ci_eq1 (by decide) g9 b10) rfl ?_
            refine Ru.kI (q := (.iconst 0, 1)) (c := 0) (pc' := 200) (by decide +kernel) rfl (by decide) rfl ?_
            refine Ru.op (q := (.iload_n 1, 1)) (S' := (201, _, _, _, _)) (by decide +kernel) rfl ?_
            refine Ru.op (q := (.iload_n 2, 1)) (S' := (202, _, _, _, _)) (by decide +kernel) rfl ?_
            obtain ⟨o11, e12, h⟩ := ob_some h
            refine Ru.vcallI (pc' := 205) (st' := [vI o11.1]) (i := 95) (j2 := 37) (ci := 1) (k := 0) (z := 0) (as := [vI 0, vI v1, vI v2]) (by decide +kernel) (by decide +kernel) rfl rfl (hp1 _) (by decide) ⟨(by omega), (by show 19 + 6 ≤ (LO + 48); omega), Nat.le_of_ble_eq_true rfl, Nat.le_of_ble_eq_true rfl⟩ ((g37b_ok (by omega) (by omega) hrc e12).up (by omega) (by show _ ≤ (LO + 48) - (19 + 6); omega)) rfl rfl ?_
            cases h
            exact Ru.iret (by decide +kernel) rfl rfl
          · replace h := if_f b10 h
            refine Ru.br2 (k := .eq) (off := 7) (bb := false) (tg := 195) (by decide +kernel) (by decide +kernel) (ci_eq0 (by decide) g9 b10) rfl ?_
            refine Ru.kI (q := (.iconst 1, 1)) (c := 1) (pc' := 196) (by decide +kernel) rfl (by decide) rfl ?_
            refine Ru.op (q := (.goto 4, 3)) (S' := (200, _, _, _, _)) (by decide +kernel) rfl ?_
            refine Ru.op (q := (.iload_n 1, 1)) (S' := (201, _, _, _, _)) (by decide +kernel) rfl ?_
            refine Ru.op (q := (.iload_n 2, 1)) (S' := (202, _, _, _, _)) (by decide +kernel) rfl ?_
            obtain ⟨o13, e14, h⟩ := ob_some h
            refine Ru.vcallI (pc' := 205) (st' := [vI o13.1]) (i := 95) (j2 := 37) (ci := 1) (k := 0) (z := 0) (as := [vI 1, vI v1, vI v2]) (by decide +kernel) (by decide +kernel) rfl rfl (hp1 _) (by decide) ⟨(by omega), (by show 19 + 6 ≤ (LO + 48); omega), Nat.le_of_ble_eq_true rfl, Nat.le_of_ble_eq_true rfl⟩ ((g37b_ok (by omega) (by omega) hrc e14).up (by omega) (by show _ ≤ (LO + 48) - (19 + 6); omega)) rfl rfl ?_
            cases h
            exact Ru.iret (by decide +kernel) rfl rfl
        · replace h := if_f b8 h
          refine Ru.br2 (k := .ne) (off := 7) (bb := true) (tg := 190) (by decide +kernel) (by decide +kernel) (ci_ne1 g3 (by decide) b8) rfl ?_
          refine Ru.kI (q := (.iconst 0, 1)) (c := 0) (pc' := 191) (by decide +kernel) rfl (by decide) rfl ?_
          refine Ru.op (q := (.iload_n 1, 1)) (S' := (192, _, _, _, _)) (by decide +kernel) rfl ?_
          obtain ⟨g15, h⟩ := gd_some h
          by_cases b16 : 0 = v1
          · replace h := if_t b16 h
            refine Ru.br2 (k := .eq) (off := 7) (bb := true) (tg := 199) (by decide +kernel) (by decide +kernel) (ci_eq1 (by decide) g15 b16) rfl ?_
            refine Ru.kI (q := (.iconst 0, 1)) (c := 0) (pc' := 200) (by decide +kernel) rfl (by decide) rfl ?_
            refine Ru.op (q := (.iload_n 1, 1)) (S' := (201, _, _, _, _)) (by decide +kernel) rfl ?_
            refine Ru.op (q := (.iload_n 2, 1)) (S' := (202, _, _, _, _)) (by decide +kernel) rfl ?_
            obtain ⟨o17, e18, h⟩ := ob_some h
            refine Ru.vcallI (pc' := 205) (st' := [vI o17.1]) (i := 95) (j2 := 37) (ci := 1) (k := 0) (z := 0) (as := [vI 0, vI v1, vI v2]) (by decide +kernel) (by decide +kernel) rfl rfl (hp1 _) (by decide) ⟨(by omega), (by show 19 + 6 ≤ (LO + 48); omega), Nat.le_of_ble_eq_true rfl, Nat.le_of_ble_eq_true rfl⟩ ((g37b_ok (by omega) (by omega) hrc e18).up (by omega) (by show _ ≤ (LO + 48) - (19 + 6); omega)) rfl rfl ?_
            cases h
            exact Ru.iret (by decide +kernel) rfl rfl
          · replace h := if_f b16 h
            refine Ru.br2 (k := .eq) (off := 7) (bb := false) (tg := 195) (by decide +kernel) (by decide +kernel) (ci_eq0 (by decide) g15 b16) rfl ?_
            refine Ru.kI (q := (.iconst 1, 1)) (c := 1) (pc' := 196) (by decide +kernel) rfl (by decide) rfl ?_
            refine Ru.op (q := (.goto 4, 3)) (S' := (200, _, _, _, _)) (by decide +kernel) rfl ?_
            refine Ru.op (q := (.iload_n 1, 1)) (S' := (201, _, _, _, _)) (by decide +kernel) rfl ?_
            refine Ru.op (q := (.iload_n 2, 1)) (S' := (202, _, _, _, _)) (by decide +kernel) rfl ?_
            obtain ⟨o19, e20, h⟩ := ob_some h
            refine Ru.vcallI (pc' := 205) (st' := [vI o19.1]) (i := 95) (j2 := 37) (ci := 1) (k := 0) (z := 0) (as := [vI 1, vI v1, vI v2]) (by decide +kernel) (by decide +kernel) rfl rfl (hp1 _) (by decide) ⟨(by omega), (by show 19 + 6 ≤ (LO + 48); omega), Nat.le_of_ble_eq_true rfl, Nat.le_of_ble_eq_true rfl⟩ ((g37b_ok (by omega) (by omega) hrc e20).up (by omega) (by show _ ≤ (LO + 48) - (19 + 6); omega)) rfl rfl ?_
            cases h
            exact Ru.iret (by decide +kernel) rfl rfl
      · replace h := if_f b7 h
        by_cases b21 : o1 = 38
        · replace h := if_t b21 h
          refine Ru.lsw (d := 140) (ps := #[(33, 103), (38, 85), (62, 85), (63, 103), (124, 85), (126, 58)]) (len := 58) (tg := 151) (by decide +kernel) (by rw [b21]; rfl) ?_
          refine Ru.op (q := (.aload_n 0, 1)) (S' := (152, _, _, _, _)) (by decide +kernel) rfl ?_
          refine Ru.op (q := (.dup, 1)) (S' := (153, _, _, _, _)) (by decide +kernel) rfl ?_
          refine Ru.getI (pc' := 156) (i := 36) (ci := 1) (k := 4) (nn := 0) (z := 0) (x := (S.F 1 4)) (by decide +kernel) (by decide +kernel) (hp1 _) (by decide) rfl (eI_of _) rfl ?_
          refine Ru.kI (q := (.iconst 1, 1)) (c := 1) (pc' := 157) (by decide +kernel) rfl (by decide) rfl ?_
          refine Ru.ar2 (i := .iadd) (z := ((S.F 1 4) + 1)) (pc' := 158) (by decide +kernel) rfl (ar_add _ _) rfl ?_
          refine Ru.putH (pc' := 161) (i := 36) (ci := 1) (k := 4) (nn := 0) (z := 0) (by decide +kernel) (by decide +kernel) (hp1 _) (by decide) (Nat.le_of_ble_eq_true rfl) rfl (by decide +kernel) (pf_1_4 _ _) rfl ?_
          refine Ru.op (q := (.aload_n 0, 1)) (S' := (162, _, _, _, _)) (by decide +kernel) rfl ?_
          refine Ru.op (q := (.iload_n 3, 1)) (S' := (163, _, _, _, _)) (by decide +kernel) rfl ?_
          refine Ru.op (q := (.iload_n 1, 1)) (S' := (164, _, _, _, _)) (by decide +kernel) rfl ?_
          refine Ru.op (q := (.iload_n 2, 1)) (S' := (165, _, _, _, _)) (by decide +kernel) rfl ?_
          obtain ⟨o22, e23, h⟩ := ob_some h
          refine Ru.vcallI (pc' := 168) (st' := [vI o22.1]) (i := 91) (j2 := 34) (ci := 1) (k := 0) (z := 0) (as := [vI o1, vI v1, vI v2]) (by decide +kernel) (by decide +kernel) rfl rfl (hp1 _) (by decide) ⟨(by omega), (by show 19 + 6 ≤ (LO + 48); omega), Nat.le_of_ble_eq_true rfl, Nat.le_of_ble_eq_true rfl⟩ ((g34b_ok (by omega) (by omega) hrc e23).up (by omega) (by show _ ≤ (LO + 48) - (19 + 6); omega)) rfl rfl ?_
          cases h
          exact Ru.iret (by decide +kernel) rfl rfl
        · replace h := if_f b21 h
          by_cases b24 : o1 = 62
          · replace h := if_t b24 h
            refine Ru.lsw (d := 140) (ps := #[(33, 103), (38, 85), (62, 85), (63, 103), (124, 85), (126, 58)]) (len := 58) (tg := 151) (by decide +kernel) (by rw [b24]; rfl) ?_
            refine Ru.op (q := (.aload_n 0, 1)) (S' := (152, _, _, _, _)) (by decide +kernel) rfl ?_
            refine Ru.op (q := (.dup, 1)) (S' := (153, _, _, _, _)) (by decide +kernel) rfl ?_
            refine Ru.getI (pc' := 156) (i := 36) (ci := 1) (k := 4) (nn := 0) (z := 0) (x := (S.F 1 4)) (by decide +kernel) (by decide +kernel) (hp1 _) (by decide) rfl (eI_of _) rfl ?_
            refine Ru.kI (q := (.iconst 1, 1)) (c := 1) (pc' := 157) (by decide +kernel) rfl (by decide) rfl ?_
            refine Ru.ar2 (i := .iadd) (z := ((S.F 1 4) + 1)) (pc' := 158) (by decide +kernel) rfl (ar_add _ _) rfl ?_
            refine Ru.putH (pc' := 161) (i := 36) (ci := 1) (k := 4) (nn := 0) (z := 0) (by decide +kernel) (by decide +kernel) (hp1 _) (by decide) (Nat.le_of_ble_eq_true rfl) rfl (by decide +kernel) (pf_1_4 _ _) rfl ?_
            refine Ru.op (q := (.aload_n 0, 1)) (S' := (162, _, _, _, _)) (by decide +kernel) rfl ?_
            refine Ru.op (q := (.iload_n 3, 1)) (S' := (163, _, _, _, _)) (by decide +kernel) rfl ?_
            refine Ru.op (q := (.iload_n 1, 1)) (S' := (164, _, _, _, _)) (by decide +kernel) rfl ?_
            refine Ru.op (q := (.iload_n 2, 1)) (S' := (165, _, _, _, _)) (by decide +kernel) rfl ?_
            obtain ⟨o25, e26, h⟩ := ob_some h
            refine Ru.vcallI (pc' := 168) (st' := [vI o25.1]) (i := 91) (j2 := 34) (ci := 1) (k := 0) (z := 0) (as := [vI o1, vI v1, vI v2]) (by decide +kernel) (by decide +kernel) rfl rfl (hp1 _) (by decide) ⟨(by omega), (by show 19 + 6 ≤ (LO + 48); omega), Nat.le_of_ble_eq_true rfl, Nat.le_of_ble_eq_true rfl⟩ ((g34b_ok (by omega) (by omega) hrc e26).up (by omega) (by show _ ≤ (LO + 48) - (19 + 6); omega)) rfl rfl ?_
            cases h
            exact Ru.iret (by decide +kernel) rfl rfl
          · replace h := if_f b24 h
            by_cases b27 : o1 = 63
            · replace h := if_t b27 h
              refine Ru.lsw (d := 140) (ps := #[(33, 103), (38, 85), (62, 85), (63, 103), (124, 85), (126, 58)]) (len := 58) (tg := 169) (by decide +kernel) (by rw [b27]; rfl) ?_
              refine Ru.op (q := (.aload_n 0, 1)) (S' := (170, _, _, _, _)) (by decide +kernel) rfl ?_
              refine Ru.op (q := (.dup, 1)) (S' := (171, _, _, _, _)) (by decide +kernel) rfl ?_
              refine Ru.getI (pc' := 174) (i := 36) (ci := 1) (k := 4) (nn := 0) (z := 0) (x := (S.F 1 4)) (by decide +kernel) (by decide +kernel) (hp1 _) (by decide) rfl (eI_of _) rfl ?_
              refine Ru.kI (q := (.iconst 1, 1)) (c := 1) (pc' := 175) (by decide +kernel) rfl (by decide) rfl ?_
              refine Ru.ar2 (i := .iadd) (z := ((S.F 1 4) + 1)) (pc' := 176) (by decide +kernel) rfl (ar_add _ _) rfl ?_
              refine Ru.putH (pc' := 179) (i := 36) (ci := 1) (k := 4) (nn := 0) (z := 0) (by decide +kernel) (by decide +kernel) (hp1 _) (by decide) (Nat.le_of_ble_eq_true rfl) rfl (by decide +kernel) (pf_1_4 _ _) rfl ?_
              refine Ru.op (q := (.aload_n 0, 1)) (S' := (180, _, _, _, _)) (by decide +kernel) rfl ?_
              refine Ru.op (q := (.iload_n 3, 1)) (S' := (181, _, _, _, _)) (by decide +kernel) rfl ?_
              refine Ru.kI (q := (.bipush 63, 2)) (c := 63) (pc' := 183) (by decide +kernel) rfl (by decide) rfl ?_
              refine Ru.br2 (k := .ne) (off := 7) (bb := false) (tg := 186) (by decide +kernel) (by decide +kernel) (ci_ne0 g3 (by decide) b27) rfl ?_
              refine Ru.kI (q := (.iconst 1, 1)) (c := 1) (pc' := 187) (by decide +kernel) rfl (by decide) rfl ?_
              refine Ru.op (q := (.goto 4, 3)) (S' := (191, _, _, _, _)) (by decide +kernel) rfl ?_
              refine Ru.op (q := (.iload_n 1, 1)) (S' := (192, _, _, _, _)) (by decide +kernel) rfl ?_
              obtain ⟨g28, h⟩ := gd_some h
              by_cases b29 : 1 = v1
              · replace h := if_t b29 h
                refine Ru.br2 (k := .eq) (off := 7) (bb := true) (tg := 199) (by decide +kernel) (by decide +kernel) (ci_eq1 (by decide) g28 b29) rfl ?_
                refine Ru.kI (q := (.iconst 0, 1)) (c := 0) (pc' := 200) (by decide +kernel) rfl (by decide) rfl ?_
                refine Ru.op (q := (.iload_n 1, 1)) (S' := (201, _, _, _, _)) (by decide +kernel) rfl ?_
                refine Ru.op (q := (.iload_n 2, 1)) (S' := (202, _, _, _, _)) (by decide +kernel) rfl ?_
                obtain ⟨o30, e31, h⟩ := ob_some h
                refine Ru.vcallI (pc' := 205) (st' := [vI o30.1]) (i := 95) (j2 := 37) (ci := 1) (k := 0) (z := 0) (as := [vI 0, vI v1, vI v2]) (by decide +kernel) (by decide +kernel) rfl rfl (hp1 _) (by decide) ⟨(by omega), (by show 19 + 6 ≤ (LO + 48); omega), Nat.le_of_ble_eq_true rfl, Nat.le_of_ble_eq_true rfl⟩ ((g37b_ok (by omega) (by omega) hrc e31).up (by omega) (by show _ ≤ (LO + 48) - (19 + 6); omega)) rfl rfl ?_
                cases h
                exact Ru.iret (by decide +kernel) rfl rfl
              · replace h := if_f b29 h
                refine Ru.br2 (k := .eq) (off := 7) (bb := false) (tg := 195) (by decide +kernel) (by decide +kernel) (ci_eq0 (by decide) g28 b29) rfl ?_
                refine Ru.kI (q := (.iconst 1, 1)) (c := 1) (pc' := 196) (by decide +kernel) rfl (by decide) rfl ?_
                refine Ru.op (q := (.goto 4, 3)) (S' := (200, _, _, _, _)) (by decide +kernel) rfl ?_
                refine Ru.op (q := (.iload_n 1, 1)) (S' := (201, _, _, _, _)) (by decide +kernel) rfl ?_
                refine Ru.op (q := (.iload_n 2, 1)) (S' := (202, _, _, _, _)) (by decide +kernel) rfl ?_
                obtain ⟨o32, e33, h⟩ := ob_some h
                refine Ru.vcallI (pc' := 205) (st' := [vI o32.1]) (i := 95) (j2 := 37) (ci := 1) (k := 0) (z := 0) (as := [vI 1, vI v1, vI v2]) (by decide +kernel) (by decide +kernel) rfl rfl (hp1 _) (by decide) ⟨(by omega), (by show 19 + 6 ≤ (LO + 48); omega), Nat.le_of_ble_eq_true rfl, Nat.le_of_ble_eq_true rfl⟩ ((g37b_ok (by omega) (by omega) hrc e33).up (by omega) (by show _ ≤ (LO + 48) - (19 + 6); omega)) rfl rfl ?_
                cases h
                exact Ru.iret (by decide +kernel) rfl rfl
            · replace h := if_f b27 h
              by_cases b34 : o1 = 124
              · replace h := if_t b34 h
                refine Ru.lsw (d := 140) (ps := #[(33, 103), (38, 85), (62, 85), (63, 103), (124, 85), (126, 58)]) (len := 58) (tg := 151) (by decide +kernel) (by rw [b34]; rfl) ?_
                refine Ru.op (q := (.aload_n 0, 1)) (S' := (152, _, _, _, _)) (by decide +kernel) rfl ?_
                refine Ru.op (q := (.dup, 1)) (S' := (153, _, _, _, _)) (by decide +kernel) rfl ?_
                refine Ru.getI (pc' := 156) (i := 36) (ci := 1) (k := 4) (nn := 0) (z := 0) (x := (S.F 1 4)) (by decide +kernel) (by decide +kernel) (hp1 _) (by decide) rfl (eI_of _) rfl ?_
                refine Ru.kI (q := (.iconst 1, 1)) (c := 1) (pc' := 157) (by decide +kernel) rfl (by decide) rfl ?_
                refine Ru.ar2 (i := .iadd) (z := ((S.F 1 4) + 1)) (pc' := 158) (by decide +kernel) rfl (ar_add _ _) rfl ?_
                refine Ru.putH (pc' := 161) (i := 36) (ci := 1) (k := 4) (nn := 0) (z := 0) (by decide +kernel) (by decide +kernel) (hp1 _) (by decide) (Nat.le_of_ble_eq_true rfl) rfl (by decide +kernel) (pf_1_4 _ _) rfl ?_
                refine Ru.op (q := (.aload_n 0, 1)) (S' := (162, _, _, _, _)) (by decide +kernel) rfl ?_
                refine Ru.op (q := (.iload_n 3, 1)) (S' := (163, _, _, _, _)) (by decide +kernel) rfl ?_
                refine Ru.op (q := (.iload_n 1, 1)) (S' := (164, _, _, _, _)) (by decide +kernel) rfl ?_
                refine Ru.op (q := (.iload_n 2, 1)) (S' := (165, _, _, _, _)) (by decide +kernel) rfl ?_
                obtain ⟨o35, e36, h⟩ := ob_some h
                refine Ru.vcallI (pc' := 168) (st' := [vI o35.1]) (i := 91) (j2 := 34) (ci := 1) (k := 0) (z := 0) (as := [vI o1, vI v1, vI v2]) (by decide +kernel) (by decide +kernel) rfl rfl (hp1 _) (by decide) ⟨(by omega), (by show 19 + 6 ≤ (LO + 48); omega), Nat.le_of_ble_eq_true rfl, Nat.le_of_ble_eq_true rfl⟩ ((g34b_ok (by omega) (by omega) hrc e36).up (by omega) (by show _ ≤ (LO + 48) - (19 + 6); omega)) rfl rfl ?_
                cases h
                exact Ru.iret (by decide +kernel) rfl rfl
              · replace h := if_f b34 h
                by_cases b37 : o1 = 126
                · replace h := if_t b37 h
                  refine Ru.lsw (d := 140) (ps := #[(33, 103), (38, 85), (62, 85), (63, 103), (124, 85), (126, 58)]) (len := 58) (tg := 124) (by decide +kernel) (by rw [b37]; rfl) ?_
                  refine Ru.op (q := (.aload_n 0, 1)) (S' := (125, _, _, _, _)) (by decide +kernel) rfl ?_
                  refine Ru.op (q := (.dup, 1)) (S' := (126, _, _, _, _)) (by decide +kernel) rfl ?_
                  refine Ru.getI (pc' := 129) (i := 36) (ci := 1) (k := 4) (nn := 0) (z := 0) (x := (S.F 1 4)) (by decide +kernel) (by decide +kernel) (hp1 _) (by decide) rfl (eI_of _) rfl ?_
                  refine Ru.kI (q := (.iconst 1, 1)) (c := 1) (pc' := 130) (by decide +kernel) rfl (by decide) rfl ?_
                  refine Ru.ar2 (i := .iadd) (z := ((S.F 1 4) + 1)) (pc' := 131) (by decide +kernel) rfl (ar_add _ _) rfl ?_
                  refine Ru.putH (pc' := 134) (i := 36) (ci := 1) (k := 4) (nn := 0) (z := 0) (by decide +kernel) (by decide +kernel) (hp1 _) (by decide) (Nat.le_of_ble_eq_true rfl) rfl (by decide +kernel) (pf_1_4 _ _) rfl ?_
                  refine Ru.op (q := (.aload_n 0, 1)) (S' := (135, _, _, _, _)) (by decide +kernel) rfl ?_
                  refine Ru.op (q := (.iload_n 1, 1)) (S' := (136, _, _, _, _)) (by decide +kernel) rfl ?_
                  obtain ⟨g38, h⟩ := gd_some h
                  by_cases b39 : v1 = 0
                  · replace h := if_t b39 h
                    refine Ru.br (k := .ne) (off := 7) (bb := false) (tg := 139) (by decide +kernel) (by decide +kernel) (cz (ci_ne0 g38 (by decide) b39)) rfl ?_
                    refine Ru.kI (q := (.iconst 1, 1)) (c := 1) (pc' := 140) (by decide +kernel) rfl (by decide) rfl ?_
                    refine Ru.op (q := (.goto 4, 3)) (S' := (144, _, _, _, _)) (by decide +kernel) rfl ?_
                    refine Ru.op (q := (.iload_n 2, 1)) (S' := (145, _, _, _, _)) (by decide +kernel) rfl ?_
                    refine Ru.kI (q := (.iconst 1, 1)) (c := 1) (pc' := 146) (by decide +kernel) rfl (by decide) rfl ?_
                    refine Ru.ar2 (i := .iadd) (z := (v2 + 1)) (pc' := 147) (by decide +kernel) rfl (ar_add _ _) rfl ?_
                    obtain ⟨o40, e41, h⟩ := ob_some h
                    refine Ru.vcallI (pc' := 150) (st' := [vI o40.1]) (i := 55) (j2 := 22) (ci := 1) (k := 0) (z := 0) (as := [vI 1, vI (v2 + 1)]) (by decide +kernel) (by decide +kernel) rfl rfl (hp1 _) (by decide) ⟨(by omega), (by show 19 + 4 ≤ (LO + 48); omega), Nat.le_of_ble_eq_true rfl, Nat.le_of_ble_eq_true rfl⟩ ((hrc e41).up (by omega) (by show _ ≤ (LO + 48) - (19 + 4); omega)) rfl rfl ?_
                    cases h
                    exact Ru.iret (by decide +kernel) rfl rfl
                  · replace h := if_f b39 h
                    refine Ru.br (k := .ne) (off := 7) (bb := true) (tg := 143) (by decide +kernel) (by decide +kernel) (cz (ci_ne1 g38 (by decide) b39)) rfl ?_
                    refine Ru.kI (q := (.iconst 0, 1)) (c := 0) (pc' := 144) (by decide +kernel) rfl (by decide) rfl ?_
                    refine Ru.op (q := (.iload_n 2, 1)) (S' := (145, _, _, _, _)) (by decide +kernel) rfl ?_
                    refine Ru.kI (q := (.iconst 1, 1)) (c := 1) (pc' := 146) (by decide +kernel) rfl (by decide) rfl ?_
                    refine Ru.ar2 (i := .iadd) (z := (v2 + 1)) (pc' := 147) (by decide +kernel) rfl (ar_add _ _) rfl ?_
                    obtain ⟨o42, e43, h⟩ := ob_some h
                    refine Ru.vcallI (pc' := 150) (st' := [vI o42.1]) (i := 55) (j2 := 22) (ci := 1) (k := 0) (z := 0) (as := [vI 0, vI (v2 + 1)]) (by decide +kernel) (by decide +kernel) rfl rfl (hp1 _) (by decide) ⟨(by omega), (by show 19 + 4 ≤ (LO + 48); omega), Nat.le_of_ble_eq_true rfl, Nat.le_of_ble_eq_true rfl⟩ ((hrc e43).up (by omega) (by show _ ≤ (LO + 48) - (19 + 4); omega)) rfl rfl ?_
                    cases h
                    exact Ru.iret (by decide +kernel) rfl rfl
                · replace h := if_f b37 h
                  refine Ru.lsw (d := 140) (ps := #[(33, 103), (38, 85), (62, 85), (63, 103), (124, 85), (126, 58)]) (len := 58) (tg := 206) (by decide +kernel) (lsw_d g3 rfl (by decide) (by decide +kernel) rfl (List.forall_mem_cons.mpr ⟨fun e => b7 e.symm, List.forall_mem_cons.mpr ⟨fun e => b21 e.symm, List.forall_mem_cons.mpr ⟨fun e => b24 e.symm, List.forall_mem_cons.mpr ⟨fun e => b27 e.symm, List.forall_mem_cons.mpr ⟨fun e => b34 e.symm, List.forall_mem_cons.mpr ⟨fun e => b37 e.symm, List.forall_mem_nil _⟩⟩⟩⟩⟩⟩)) ?_
                  refine Ru.op (q := (.aload_n 0, 1)) (S' := (207, _, _, _, _)) (by decide +kernel) rfl ?_
                  refine Ru.op (q := (.aload_n 0, 1)) (S' := (208, _, _, _, _)) (by decide +kernel) rfl ?_
                  refine Ru.getI (pc' := 211) (i := 36) (ci := 1) (k := 4) (nn := 0) (z := 0) (x := (S.F 1 4)) (by decide +kernel) (by decide +kernel) (hp1 _) (by decide) rfl (eI_of _) rfl ?_
                  obtain ⟨o44, e45, h⟩ := ob_some h
                  refine Ru.vcallI (pc' := 214) (st' := [vI o44.1]) (i := 62) (j2 := 25) (ci := 1) (k := 0) (z := 0) (as := [vI (S.F 1 4)]) (by decide +kernel) (by decide +kernel) rfl rfl (hp1 _) (by decide) ⟨(by omega), (by show 19 + 2 ≤ (LO + 48); omega), Nat.le_of_ble_eq_true rfl, Nat.le_of_ble_eq_true rfl⟩ ((g25_ok e45).up (by omega) (by show _ ≤ (LO + 48) - (19 + 2); omega)) rfl rfl ?_
                  cases h
                  exact Ru.iret (by decide +kernel) rfl rfl
    · replace h := if_f b6 h
      refine Ru.br2 (k := .lt) (off := 12) (bb := false) (tg := 56) (by decide +kernel) (by decide +kernel) (ci_lt0 g5 (by decide) b6) rfl ?_
      refine Ru.op (q := (.aload_n 0, 1)) (S' := (57, _, _, _, _)) (by decide +kernel) rfl ?_
      refine Ru.op (q := (.aload_n 0, 1)) (S' := (58, _, _, _, _)) (by decide +kernel) rfl ?_
      refine Ru.getI (pc' := 61) (i := 36) (ci := 1) (k := 4) (nn := 0) (z := 0) (x := (S.F 1 4)) (by decide +kernel) (by decide +kernel) (hp1 _) (by decide) rfl (eI_of _) rfl ?_
      obtain ⟨o46, e47, h⟩ := ob_some h
      refine Ru.vcallI (pc' := 64) (st' := [vI o46.1]) (i := 62) (j2 := 25) (ci := 1) (k := 0) (z := 0) (as := [vI (S.F 1 4)]) (by decide +kernel) (by decide +kernel) rfl rfl (hp1 _) (by decide) ⟨(by omega), (by show 19 + 2 ≤ (LO + 48); omega), Nat.le_of_ble_eq_true rfl, Nat.le_of_ble_eq_true rfl⟩ ((g25_ok e47).up (by omega) (by show _ ≤ (LO + 48) - (19 + 2); omega)) rfl rfl ?_
      cases h
      exact Ru.iret (by decide +kernel) rfl rfl
  · replace h := if_f b4 h
    refine Ru.br2 (k := .lt) (off := 42) (bb := false) (tg := 11) (by decide +kernel) (by decide +kernel) (ci_lt0 g3 (by decide) b4) rfl ?_
    refine Ru.op (q := (.iload_n 3, 1)) (S' := (12, _, _, _, _)) (by decide +kernel) rfl ?_
    refine Ru.kI (q := (.bipush 90, 2)) (c := 90) (pc' := 14) (by decide +kernel) rfl (by decide) rfl ?_
    by_cases b48 : 90 < o1
    · replace h := if_t b48 h
      refine Ru.br2 (k := .gt) (off := 36) (bb := true) (tg := 50) (by decide +kernel) (by decide +kernel) (ci_gt1 g3 (by decide) b48) rfl ?_
      refine Ru.op (q := (.iload_n 2, 1)) (S' := (51, _, _, _, _)) (by decide +kernel) rfl ?_
      refine Ru.kI (q := (.bipush 10, 2)) (c := 10) (pc' := 53) (by decide +kernel) rfl (by decide) rfl ?_
      obtain ⟨g49, h⟩ := gd_some h
      by_cases b50 : v2 < 10
      · replace h := if_t b50 h
        refine Ru.br2 (k := .lt) (off := 12) (bb := true) (tg := 65) (by decide +kernel) (by decide +kernel) (ci_lt1 g49 (by decide) b50) rfl ?_
        refine Ru.op (q := (.iload_n 3, 1)) (S' := (66, _, _, _, _)) (by decide +kernel) rfl ?_
        by_cases b51 : o1 = 33
        · replace h := if_t b51 h
          refine Ru.lsw (d := 140) (ps := #[(33, 103), (38, 85), (62, 85), (63, 103), (124, 85), (126, 58)]) (len := 58) (tg := 169) (by decide +kernel) (by rw [b51]; rfl) ?_
          refine Ru.op (q := (.aload_n 0, 1)) (S' := (170, _, _, _, _)) (by decide +kernel) rfl ?_
          refine Ru.op (q := (.dup, 1)) (S' := (171, _, _, _, _)) (by decide +kernel) rfl ?_
          refine Ru.getI (pc' := 174) (i := 36) (ci := 1) (k := 4) (nn := 0) (z := 0) (x := (S.F 1 4)) (by decide +kernel) (by decide +kernel) (hp1 _) (by decide) rfl (eI_of _) rfl ?_
          refine Ru.kI (q := (.iconst 1, 1)) (c := 1) (pc' := 175) (by decide +kernel) rfl (by decide) rfl ?_
          refine Ru.ar2 (i := .iadd) (z := ((S.F 1 4) + 1)) (pc' := 176) (by decide +kernel) rfl (ar_add _ _) rfl ?_
          refine Ru.putH (pc' := 179) (i := 36) (ci := 1) (k := 4) (nn := 0) (z := 0) (by decide +kernel) (by decide +kernel) (hp1 _) (by decide) (Nat.le_of_ble_eq_true rfl) rfl (by decide +kernel) (pf_1_4 _ _) rfl ?_
          refine Ru.op (q := (.aload_n 0, 1)) (S' := (180, _, _, _, _)) (by decide +kernel) rfl ?_
          refine Ru.op (q := (.iload_n 3, 1)) (S' := (181, _, _, _, _)) (by decide +kernel) rfl ?_
          refine Ru.kI (q := (.bipush 63, 2)) (c := 63) (pc' := 183) (by decide +kernel) rfl (by decide) rfl ?_
          by_cases b52 : o1 = 63
          · replace h := if_t b52 h
            refine Ru.br2 (k := .ne) (off := 7) (bb := false) (tg := 186) (by decide +kernel) (by decide +kernel) (ci_ne0 g3 (by decide) b52) rfl ?_
            refine Ru.kI (q := (.iconst 1, 1)) (c := 1) (pc' := 187) (by decide +kernel) rfl (by decide) rfl ?_
            refine Ru.op (q := (.goto 4, 3)) (S' := (191, _, _, _, _)) (by decide +kernel) rfl ?_
            refine Ru.op (q := (.iload_n 1, 1)) (S' := (192, _, _, _, _)) (by decide +kernel) rfl ?_
            obtain ⟨g53, h⟩ := gd_some h
            by_cases b54 : 1 = v1
            · replace h := if_t b54 h
              refine Ru.br2 (k := .eq) (off := 7) (bb := true) (tg := 199) (by decide +kernel) (by decide +kernel) (ci_eq1 (by decide) g53 b54) rfl ?_
              refine Ru.kI (q := (.iconst 0, 1)) (c := 0) (pc' := 200) (by decide +kernel) rfl (by decide) rfl ?_
              refine Ru.op (q := (.iload_n 1, 1)) (S' := (201, _, _, _, _)) (by decide +kernel) rfl ?_
              refine Ru.op (q := (.iload_n 2, 1)) (S' := (202, _, _, _, _)) (by decide +kernel) rfl ?_
              obtain ⟨o55, e56, h⟩ := ob_some h
              refine Ru.vcallI (pc' := 205) (st' := [vI o55.1]) (i := 95) (j2 := 37) (ci := 1) (k := 0) (z := 0) (as := [vI 0, vI v1, vI v2]) (by decide +kernel) (by decide +kernel) rfl rfl (hp1 _) (by decide) ⟨(by omega), (by show 19 + 6 ≤ (LO + 48); omega), Nat.le_of_ble_eq_true rfl, Nat.le_of_ble_eq_true rfl⟩ ((g37b_ok (by omega) (by omega) hrc e56).up (by omega) (by show _ ≤ (LO + 48) - (19 + 6); omega)) rfl rfl ?_
              cases h
              exact Ru.iret (by decide +kernel) rfl rfl
            · replace h := if_f b54 h
              refine Ru.br2 (k := .eq) (off := 7) (bb := false) (tg := 195) (by decide +kernel) (by decide +kernel) (ci_eq0 (by decide) g53 b54) rfl ?_
              refine Ru.kI (q := (.iconst 1, 1)) (c := 1) (pc' := 196) (by decide +kernel) rfl (by decide) rfl ?_
              refine Ru.op (q := (.goto 4, 3)) (S' := (200, _, _, _, _)) (by decide +kernel) rfl ?_
              refine Ru.op (q := (.iload_n 1, 1)) (S' := (201, _, _, _, _)) (by decide +kernel) rfl ?_
              refine Ru.op (q := (.iload_n 2, 1)) (S' := (202, _, _, _, _)) (by decide +kernel) rfl ?_
              obtain ⟨o57, e58, h⟩ := ob_some h
              refine Ru.vcallI (pc' := 205) (st' := [vI o57.1]) (i := 95) (j2 := 37) (ci := 1) (k := 0) (z := 0) (as := [vI 1, vI v1, vI v2]) (by decide +kernel) (by decide +kernel) rfl rfl (hp1 _) (by decide) ⟨(by omega), (by show 19 + 6 ≤ (LO + 48); omega), Nat.le_of_ble_eq_true rfl, Nat.le_of_ble_eq_true rfl⟩ ((g37b_ok (by omega) (by omega) hrc e58).up (by omega) (by show _ ≤ (LO + 48) - (19 + 6); omega)) rfl rfl ?_
              cases h
              exact Ru.iret (by decide +kernel) rfl rfl
          · replace h := if_f b52 h
            refine Ru.br2 (k := .ne) (off := 7) (bb := true) (tg := 190) (by decide +kernel) (by decide +kernel) (ci_ne1 g3 (by decide) b52) rfl ?_
            refine Ru.kI (q := (.iconst 0, 1)) (c := 0) (pc' := 191) (by decide +kernel) rfl (by decide) rfl ?_
            refine Ru.op (q := (.iload_n 1, 1)) (S' := (192, _, _, _, _)) (by decide +kernel) rfl ?_
            obtain ⟨g59, h⟩ := gd_some h
            by_cases b60 : 0 = v1
            · replace h := if_t b60 h
              refine Ru.br2 (k := .eq) (off := 7) (bb := true) (tg := 199) (by decide +kernel) (by decide +kernel) (ci_eq1 (by decide) g59 b60) rfl ?_
              refine Ru.kI (q := (.iconst 0, 1)) (c := 0) (pc' := 200) (by decide +kernel) rfl (by decide) rfl ?_
              refine Ru.op (q := (.iload_n 1, 1)) (S' := (201, _, _, _, _)) (by decide +kernel) rfl ?_
              refine Ru.op (q := (.iload_n 2, 1)) (S' := (202, _, _, _, _)) (by decide +kernel) rfl ?_
              obtain ⟨o61, e62, h⟩ := ob_some h
              refine Ru.vcallI (pc' := 205) (st' := [vI o61.1]) (i := 95) (j2 := 37) (ci := 1) (k := 0) (z := 0) (as := [vI 0, vI v1, vI v2]) (by decide +kernel) (by decide +kernel) rfl rfl (hp1 _) (by decide) ⟨(by omega), (by show 19 + 6 ≤ (LO + 48); omega), Nat.le_of_ble_eq_true rfl, Nat.le_of_ble_eq_true rfl⟩ ((g37b_ok (by omega) (by omega) hrc e62).up (by omega) (by show _ ≤ (LO + 48) - (19 + 6); omega)) rfl rfl ?_
              cases h
              exact Ru.iret (by decide +kernel) rfl rfl
            · replace h := if_f b60 h
              refine Ru.br2 (k := .eq) (off := 7) (bb := false) (tg := 195) (by decide +kernel) (by decide +kernel) (ci_eq0 (by decide) g59 b60) rfl ?_
              refine Ru.kI (q := (.iconst 1, 1)) (c := 1) (pc' := 196) (by decide +kernel) rfl (by decide) rfl ?_
              refine Ru.op (q := (.goto 4, 3)) (S' := (200, _, _, _, _)) (by decide +kernel) rfl ?_
              refine Ru.op (q := (.iload_n 1, 1)) (S' := (201, _, _, _, _)) (by decide +kernel) rfl ?_
              refine Ru.op (q := (.iload_n 2, 1)) (S' := (202, _, _, _, _)) (by decide +kernel) rfl ?_
              obtain ⟨o63, e64, h⟩ := ob_some h
              refine Ru.vcallI (pc' := 205) (st' := [vI o63.1]) (i := 95) (j2 := 37) (ci := 1) (k := 0) (z := 0) (as := [vI 1, vI v1, vI v2]) (by decide +kernel) (by decide +kernel) rfl rfl (hp1 _) (by decide) ⟨(by omega), (by show 19 + 6 ≤ (LO + 48); omega), Nat.le_of_ble_eq_true rfl, Nat.le_of_ble_eq_true rfl⟩ ((g37b_ok (by omega) (by omega) hrc e64).up (by omega) (by show _ ≤ (LO + 48) - (19 + 6); omega)) rfl rfl ?_
              cases h
              exact Ru.iret (by decide +kernel) rfl rfl
        · replace h := if_f b51 h
          by_cases b65 : o1 = 38
          · replace h := if_t b65 h
            refine Ru.lsw (d := 140) (ps := #[(33, 103), (38, 85), (62, 85), (63, 103), (124, 85), (126, 58)]) (len := 58) (tg := 151) (by decide +kernel) (by rw [b65]; rfl) ?_
            refine Ru.op (q := (.aload_n 0, 1)) (S' := (152, _, _, _, _)) (by decide +kernel) rfl ?_
            refine Ru.op (q := (.dup, 1)) (S' := (153, _, _, _, _)) (by decide +kernel) rfl ?_
            refine Ru.getI (pc' := 156) (i := 36) (ci := 1) (k := 4) (nn := 0) (z := 0) (x := (S.F 1 4)) (by decide +kernel) (by decide +kernel) (hp1 _) (by decide) rfl (eI_of _) rfl ?_
            refine Ru.kI (q := (.iconst 1, 1)) (c := 1) (pc' := 157) (by decide +kernel) rfl (by decide) rfl ?_
            refine Ru.ar2 (i := .iadd) (z := ((S.F 1 4) + 1)) (pc' := 158) (by decide +kernel) rfl (ar_add _ _) rfl ?_
            refine Ru.putH (pc' := 161) (i := 36) (ci := 1) (k := 4) (nn := 0) (z := 0) (by decide +kernel) (by decide +kernel) (hp1 _) (by decide) (Nat.le_of_ble_eq_true rfl) rfl (by decide +kernel) (pf_1_4 _ _) rfl ?_
            refine Ru.op (q := (.aload_n 0, 1)) (S' := (162, _, _, _, _)) (by decide +kernel) rfl ?_
            refine Ru.op (q := (.iload_n 3, 1)) (S' := (163, _, _, _, _)) (by decide +kernel) rfl ?_
            refine Ru.op (q := (.iload_n 1, 1)) (S' := (164, _, _, _, _)) (by decide +kernel) rfl ?_
            refine Ru.op (q := (.iload_n 2, 1)) (S' := (165, _, _, _, _)) (by decide +kernel) rfl ?_
            obtain ⟨o66, e67, h⟩ := ob_some h
            refine Ru.vcallI (pc' := 168) (st' := [vI o66.1]) (i := 91) (j2 := 34) (ci := 1) (k := 0) (z := 0) (as := [vI o1, vI v1, vI v2]) (by decide +kernel) (by decide +kernel) rfl rfl (hp1 _) (by decide) ⟨(by omega), (by show 19 + 6 ≤ (LO + 48); omega), Nat.le_of_ble_eq_true rfl, Nat.le_of_ble_eq_true rfl⟩ ((g34b_ok (by omega) (by omega) hrc e67).up (by omega) (by show _ ≤ (LO + 48) - (19 + 6); omega)) rfl rfl ?_
            cases h
            exact Ru.iret (by decide +kernel) rfl rfl
          · replace h := if_f b65 h
            by_cases b68 : o1 = 62
            · replace h := if_t b68 h
              refine Ru.lsw (d := 140) (ps := #[(33, 103), (38, 85), (62, 85), (63, 103), (124, 85), (126, 58)]) (len := 58) (tg := 151) (by decide +kernel) (by rw [b68]; rfl) ?_
              refine Ru.op (q := (.aload_n 0, 1)) (S' := (152, _, _, _, _)) (by decide +kernel) rfl ?_
              refine Ru.op (q := (.dup, 1)) (S' := (153, _, _, _, _)) (by decide +kernel) rfl ?_
              refine Ru.getI (pc' := 156) (i := 36) (ci := 1) (k := 4) (nn := 0) (z := 0) (x := (S.F 1 4)) (by decide +kernel) (by decide +kernel) (hp1 _) (by decide) rfl (eI_of _) rfl ?_
              refine Ru.kI (q := (.iconst 1, 1)) (c := 1) (pc' := 157) (by decide +kernel) rfl (by decide) rfl ?_
              refine Ru.ar2 (i := .iadd) (z := ((S.F 1 4) + 1)) (pc' := 158) (by decide +kernel) rfl (ar_add _ _) rfl ?_
              refine Ru.putH (pc' := 161) (i := 36) (ci := 1) (k := 4) (nn := 0) (z := 0) (by decide +kernel) (by decide +kernel) (hp1 _) (by decide) (Nat.le_of_ble_eq_true rfl) rfl (by decide +kernel) (pf_1_4 _ _) rfl ?_
              refine Ru.op (q := (.aload_n 0, 1)) (S' := (162, _, _, _, _)) (by decide +kernel) rfl ?_
              refine Ru.op (q := (.iload_n 3, 1)) (S' := (163, _, _, _, _)) (by decide +kernel) rfl ?_
              refine Ru.op (q := (.iload_n 1, 1)) (S' := (164, _, _, _, _)) (by decide +kernel) rfl ?_
              refine Ru.op (q := (.iload_n 2, 1)) (S' := (165, _, _, _, _)) (by decide +kernel) rfl ?_
              obtain ⟨o69, e70, h⟩ := ob_some h
              refine Ru.vcallI (pc' := 168) (st' := [vI o69.1]) (i := 91) (j2 := 34) (ci := 1) (k := 0) (z := 0) (as := [vI o1, vI v1, vI v2]) (by decide +kernel) (by decide +kernel) rfl rfl (hp1 _) (by decide) ⟨(by omega), (by show 19 + 6 ≤ (LO + 48); omega), Nat.le_of_ble_eq_true rfl, Nat.le_of_ble_eq_true rfl⟩ ((g34b_ok (by omega) (by omega) hrc e70).up (by omega) (by show _ ≤ (LO + 48) - (19 + 6); omega)) rfl rfl ?_
              cases h
              exact Ru.iret (by decide +kernel) rfl rfl
            · replace h := if_f b68 h
              by_cases b71 : o1 = 63
              · replace h := if_t b71 h
                refine Ru.lsw (d := 140) (ps := #[(33, 103), (38, 85), (62, 85), (63, 103), (124, 85), (126, 58)]) (len := 58) (tg := 169) (by decide +kernel) (by rw [b71]; rfl) ?_
                refine Ru.op (q := (.aload_n 0, 1)) (S' := (170, _, _, _, _)) (by decide +kernel) rfl ?_
                refine Ru.op (q := (.dup, 1)) (S' := (171, _, _, _, _)) (by decide +kernel) rfl ?_
                refine Ru.getI (pc' := 174) (i := 36) (ci := 1) (k := 4) (nn := 0) (z := 0) (x := (S.F 1 4)) (by decide +kernel) (by decide +kernel) (hp1 _) (by decide) rfl (eI_of _) rfl ?_
                refine Ru.kI (q := (.iconst 1, 1)) (c := 1) (pc' := 175) (by decide +kernel) rfl (by decide) rfl ?_
                refine Ru.ar2 (i := .iadd) (z := ((S.F 1 4) + 1)) (pc' := 176) (by decide +kernel) rfl (ar_add _ _) rfl ?_
                refine Ru.putH (pc' := 179) (i := 36) (ci := 1) (k := 4) (nn := 0) (z := 0) (by decide +kernel) (by decide +kernel) (hp1 _) (by decide) (Nat.le_of_ble_eq_true rfl) rfl (by decide +kernel) (pf_1_4 _ _) rfl ?_
                refine Ru.op (q := (.aload_n 0, 1)) (S' := (180, _, _, _, _)) (by decide +kernel) rfl ?_
                refine Ru.op (q := (.iload_n 3, 1)) (S' := (181, _, _, _, _)) (by decide +kernel) rfl ?_
                refine Ru.kI (q := (.bipush 63, 2)) (c := 63) (pc' := 183) (by decide +kernel) rfl (by decide) rfl ?_
                refine Ru.br2 (k := .ne) (off := 7) (bb := false) (tg := 186) (by decide +kernel) (by decide +kernel) (ci_ne0 g3 (by decide) b71) rfl ?_
                refine Ru.kI (q := (.iconst 1, 1)) (c := 1) (pc' := 187) (by decide +kernel) rfl (by decide) rfl ?_
                refine Ru.op (q := (.goto 4, 3)) (S' := (191, _, _, _, _)) (by decide +kernel) rfl ?_
                refine Ru.op (q := (.iload_n 1, 1)) (S' := (192, _, _, _, _)) (by decide +kernel) rfl ?_
                obtain ⟨g72, h⟩ := gd_some h
                by_cases b73 : 1 = v1
                · replace h := if_t b73 h
                  refine Ru.br2 (k := .eq) (off := 7) (bb := true) (tg := 199) (by decide +kernel) (by decide +kernel) (ci_eq1 (by decide) g72 b73) rfl ?_
                  refine Ru.kI (q := (.iconst 0, 1)) (c := 0) (pc' := 200) (by decide +kernel) rfl (by decide) rfl ?_
                  refine Ru.op (q := (.iload_n 1, 1)) (S' := (201, _, _, _, _)) (by decide +kernel) rfl ?_
                  refine Ru.op (q := (.iload_n 2, 1)) (S' := (202, _, _, _, _)) (by decide +kernel) rfl ?_
                  obtain ⟨o74, e75, h⟩ := ob_some h
                  refine Ru.vcallI (pc' := 205) (st' := [vI o74.1]) (i := 95) (j2 := 37) (ci := 1) (k := 0) (z := 0) (as := [vI 0, vI v1, vI v2]) (by decide +kernel) (by decide +kernel) rfl rfl (hp1 _) (by decide) ⟨(by omega), (by show 19 + 6 ≤ (LO + 48); omega), Nat.le_of_ble_eq_true rfl, Nat.le_of_ble_eq_true rfl⟩ ((g37b_ok (by omega) (by omega) hrc e75).up (by omega) (by show _ ≤ (LO + 48) - (19 + 6); omega)) rfl rfl ?_
                  cases h
                  exact Ru.iret (by decide +kernel) rfl rfl
                · replace h := if_f b73 h
                  refine Ru.br2 (k := .eq) (off := 7) (bb := false) (tg := 195) (by decide +kernel) (by decide +kernel) (ci_eq0 (by decide) g72 b73) rfl ?_
                  refine Ru.kI (q := (.iconst 1, 1)) (c := 1) (pc' := 196) (by decide +kernel) rfl (by decide) rfl ?_
                  refine Ru.op (q := (.goto 4, 3)) (S' := (200, _, _, _, _)) (by decide +kernel) rfl ?_
                  refine Ru.op (q := (.iload_n 1, 1)) (S' := (201, _, _, _, _)) (by decide +kernel) rfl ?_
                  refine Ru.op (q := (.iload_n 2, 1)) (S' := (202, _, _, _, _)) (by decide +kernel) rfl ?_
                  obtain ⟨o76, e77, h⟩ := ob_some h
                  refine Ru.vcallI (pc' := 205) (st' := [vI o76.1]) (i := 95) (j2 := 37) (ci := 1) (k := 0) (z := 0) (as := [vI 1, vI v1, vI v2]) (by decide +kernel) (by decide +kernel) rfl rfl (hp1 _) (by decide) ⟨(by omega), (by show 19 + 6 ≤ (LO + 48); omega), Nat.le_of_ble_eq_true rfl, Nat.le_of_ble_eq_true rfl⟩ ((g37b_ok (by omega) (by omega) hrc e77).up (by omega) (by show _ ≤ (LO + 48) - (19 + 6); omega)) rfl rfl ?_
                  cases h
                  exact Ru.iret (by decide +kernel) rfl rfl
              · replace h := if_f b71 h
                by_cases b78 : o1 = 124
                · replace h := if_t b78 h
                  refine Ru.lsw (d := 140) (ps := #[(33, 103), (38, 85), (62, 85), (63, 103), (124, 85), (126, 58)]) (len := 58) (tg := 151) (by decide +kernel) (by rw [b78]; rfl) ?_
                  refine Ru.op (q := (.aload_n 0, 1)) (S' := (152, _, _, _, _)) (by decide +kernel) rfl ?_
                  refine Ru.op (q := (.dup, 1)) (S' := (153, _, _, _, _)) (by decide +kernel) rfl ?_
                  refine Ru.getI (pc' := 156) (i := 36) (ci := 1) (k := 4) (nn := 0) (z := 0) (x := (S.F 1 4)) (by decide +kernel) (by decide +kernel) (hp1 _) (by decide) rfl (eI_of _) rfl ?_
                  refine Ru.kI (q := (.iconst 1, 1)) (c := 1) (pc' := 157) (by decide +kernel) rfl (by decide) rfl ?_
                  refine Ru.ar2 (i := .iadd) (z := ((S.F 1 4) + 1)) (pc' := 158) (by decide +kernel) rfl (ar_add _ _) rfl ?_
                  refine Ru.putH (pc' := 161) (i := 36) (ci := 1) (k := 4) (nn := 0) (z := 0) (by decide +kernel) (by decide +kernel) (hp1 _) (by decide) (Nat.le_of_ble_eq_true rfl) rfl (by decide +kernel) (pf_1_4 _ _) rfl ?_
                  refine Ru.op (q := (.aload_n 0, 1)) (S' := (162, _, _, _, _)) (by decide +kernel) rfl ?_
                  refine Ru.op (q := (.iload_n 3, 1)) (S' := (163, _, _, _, _)) (by decide +kernel) rfl ?_
                  refine Ru.op (q := (.iload_n 1, 1)) (S' := (164, _, _, _, _)) (by decide +kernel) rfl ?_
                  refine Ru.op (q := (.iload_n 2, 1)) (S' := (165, _, _, _, _)) (by decide +kernel) rfl ?_
                  obtain ⟨o79, e80, h⟩ := ob_some h
                  refine Ru.vcallI (pc' := 168) (st' := [vI o79.1]) (i := 91) (j2 := 34) (ci := 1) (k := 0) (z := 0) (as := [vI o1, vI v1, vI v2]) (by decide +kernel) (by decide +kernel) rfl rfl (hp1 _) (by decide) ⟨(by omega), (by show 19 + 6 ≤ (LO + 48); omega), Nat.le_of_ble_eq_true rfl, Nat.le_of_ble_eq_true rfl⟩ ((g34b_ok (by omega) (by omega) hrc e80).up (by omega) (by show _ ≤ (LO + 48) - (19 + 6); omega)) rfl rfl ?_
                  cases h
                  exact Ru.iret (by decide +kernel) rfl rfl
                · replace h := if_f b78 h
                  by_cases b81 : o1 = 126
                  · replace h := if_t b81 h
                    refine Ru.lsw (d := 140) (ps := #[(33, 103), (38, 85), (62, 85), (63, 103), (124, 85), (126, 58)]) (len := 58) (tg := 124) (by decide +kernel) (by rw [b81]; rfl) ?_
                    refine Ru.op (q := (.aload_n 0, 1)) (S' := (125, _, _, _, _)) (by decide +kernel) rfl ?_
                    refine Ru.op (q := (.dup, 1)) (S' := (126, _, _, _, _)) (by decide +kernel) rfl ?_
                    refine Ru.getI (pc' := 129) (i := 36) (ci := 1) (k := 4) (nn := 0) (z := 0) (x := (S.F 1 4)) (by decide +kernel) (by decide +kernel) (hp1 _) (by decide) rfl (eI_of _) rfl ?_
                    refine Ru.kI (q := (.iconst 1, 1)) (c := 1) (pc' := 130) (by decide +kernel) rfl (by decide) rfl ?_
                    refine Ru.ar2 (i := .iadd) (z := ((S.F 1 4) + 1)) (pc' := 131) (by decide +kernel) rfl (ar_add _ _) rfl ?_
                    refine Ru.putH (pc' := 134) (i := 36) (ci := 1) (k := 4) (nn := 0) (z := 0) (by decide +kernel) (by decide +kernel) (hp1 _) (by decide) (Nat.le_of_ble_eq_true rfl) rfl (by decide +kernel) (pf_1_4 _ _) rfl ?_
                    refine Ru.op (q := (.aload_n 0, 1)) (S' := (135, _, _, _, _)) (by decide +kernel) rfl ?_
                    refine Ru.op (q := (.iload_n 1, 1)) (S' := (136, _, _, _, _)) (by decide +kernel) rfl ?_
                    obtain ⟨g82, h⟩ := gd_some h
                    by_cases b83 : v1 = 0
                    · replace h := if_t b83 h
                      refine Ru.br (k := .ne) (off := 7) (bb := false) (tg := 139) (by decide +kernel) (by decide +kernel) (cz (ci_ne0 g82 (by decide) b83)) rfl ?_
                      refine Ru.kI (q := (.iconst 1, 1)) (c := 1) (pc' := 140) (by decide +kernel) rfl (by decide) rfl ?_
                      refine Ru.op (q := (.goto 4, 3)) (S' := (144, _, _, _, _)) (by decide +kernel) rfl ?_
                      refine Ru.op (q := (.iload_n 2, 1)) (S' := (145, _, _, _, _)) (by decide +kernel) rfl ?_
                      refine Ru.kI (q := (.iconst 1, 1)) (c := 1) (pc' := 146) (by decide +kernel) rfl (by decide) rfl ?_
                      refine Ru.ar2 (i := .iadd) (z := (v2 + 1)) (pc' := 147) (by decide +kernel) rfl (ar_add _ _) rfl ?_
                      obtain ⟨o84, e85, h⟩ := ob_some h
                      refine Ru.vcallI (pc' := 150) (st' := [vI o84.1]) (i := 55) (j2 := 22) (ci := 1) (k := 0) (z := 0) (as := [vI 1, vI (v2 + 1)]) (by decide +kernel) (by decide +kernel) rfl rfl (hp1 _) (by decide) ⟨(by omega), (by show 19 + 4 ≤ (LO + 48); omega), Nat.le_of_ble_eq_true rfl, Nat.le_of_ble_eq_true rfl⟩ ((hrc e85).up (by omega) (by show _ ≤ (LO + 48) - (19 + 4); omega)) rfl rfl ?_
                      cases h
                      exact Ru.iret (by decide +kernel) rfl rfl
                    · replace h := if_f b83 h
                      refine Ru.br (k := .ne) (off := 7) (bb := true) (tg := 143) (by decide +kernel) (by decide +kernel) (cz (ci_ne1 g82 (by decide) b83)) rfl ?_
                      refine Ru.kI (q := (.iconst 0, 1)) (c := 0) (pc' := 144) (by decide +kernel) rfl (by decide) rfl ?_
                      refine Ru.op (q := (.iload_n 2, 1)) (S' := (145, _, _, _, _)) (by decide +kernel) rfl ?_
                      refine Ru.kI (q := (.iconst 1, 1)) (c := 1) (pc' := 146) (by decide +kernel) rfl (by decide) rfl ?_
                      refine Ru.ar2 (i := .iadd) (z := (v2 + 1)) (pc' := 147) (by decide +kernel) rfl (ar_add _ _) rfl ?_
                      obtain ⟨o86, e87, h⟩ := ob_some h
                      refine Ru.vcallI (pc' := 150) (st' := [vI o86.1]) (i := 55) (j2 := 22) (ci := 1) (k := 0) (z := 0) (as := [vI 0, vI (v2 + 1)]) (by decide +kernel) (by decide +kernel) rfl rfl (hp1 _) (by decide) ⟨(by omega), (by show 19 + 4 ≤ (LO + 48); omega), Nat.le_of_ble_eq_true rfl, Nat.le_of_ble_eq_true rfl⟩ ((hrc e87).up (by omega) (by show _ ≤ (LO + 48) - (19 + 4); omega)) rfl rfl ?_
                      cases h
                      exact Ru.iret (by decide +kernel) rfl rfl
                  · replace h := if_f b81 h
                    refine Ru.lsw (d := 140) (ps := #[(33, 103), (38, 85), (62, 85), (63, 103), (124, 85), (126, 58)]) (len := 58) (tg := 206) (by decide +kernel) (lsw_d g3 rfl (by decide) (by decide +kernel) rfl (List.forall_mem_cons.mpr ⟨fun e => b51 e.symm, List.forall_mem_cons.mpr ⟨fun e => b65 e.symm, List.forall_mem_cons.mpr ⟨fun e => b68 e.symm, List.forall_mem_cons.mpr ⟨fun e => b71 e.symm, List.forall_mem_cons.mpr ⟨fun e => b78 e.symm, List.forall_mem_cons.mpr ⟨fun e => b81 e.symm, List.forall_mem_nil _⟩⟩⟩⟩⟩⟩)) ?_
                    refine Ru.op (q := (.aload_n 0, 1)) (S' := (207, _, _, _, _)) (by decide +kernel) rfl ?_
                    refine Ru.op (q := (.aload_n 0, 1)) (S' := (208, _, _, _, _)) (by decide +kernel) rfl ?_
                    refine Ru.getI (pc' := 211) (i := 36) (ci := 1) (k := 4) (nn := 0) (z := 0) (x := (S.F 1 4)) (by decide +kernel) (by decide +kernel) (hp1 _) (by decide) rfl (eI_of _) rfl ?_
                    obtain ⟨o88, e89, h⟩ := ob_some h
                    refine Ru.vcallI (pc' := 214) (st' := [vI o88.1]) (i := 62) (j2 := 25) (ci := 1) (k := 0) (z := 0) (as := [vI (S.F 1 4)]) (by decide +kernel) (by decide +kernel) rfl rfl (hp1 _) (by decide) ⟨(by omega), (by show 19 + 2 ≤ (LO + 48); omega), Nat.le_of_ble_eq_true rfl, Nat.le_of_ble_eq_true rfl⟩ ((g25_ok e89).up (by omega) (by show _ ≤ (LO + 48) - (19 + 2); omega)) rfl rfl ?_
                    cases h
                    exact Ru.iret (by decide +kernel) rfl rfl
      · replace h := if_f b50 h
        refine Ru.br2 (k := .lt) (off := 12) (bb := false) (tg := 56) (by decide +kernel) (by decide +kernel) (ci_lt0 g49 (by decide) b50) rfl ?_
        refine Ru.op (q := (.aload_n 0, 1)) (S' := (57, _, _, _, _)) (by decide +kernel) rfl ?_
        refine Ru.op (q := (.aload_n 0, 1)) (S' := (58, _, _, _, _)) (by decide +kernel) rfl ?_
        refine Ru.getI (pc' := 61) (i := 36) (ci := 1) (k := 4) (nn := 0) (z := 0) (x := (S.F 1 4)) (by decide +kernel) (by decide +kernel) (hp1 _) (by decide) rfl (eI_of _) rfl ?_
        obtain ⟨o90, e91, h⟩ := ob_some h
        refine Ru.vcallI (pc' := 64) (st' := [vI o90.1]) (i := 62) (j2 := 25) (ci := 1) (k := 0) (z := 0) (as := [vI (S.F 1 4)]) (by decide +kernel) (by decide +kernel) rfl rfl (hp1 _) (by decide) ⟨(by omega), (by show 19 + 2 ≤ (LO + 48); omega), Nat.le_of_ble_eq_true rfl, Nat.le_of_ble_eq_true rfl⟩ ((g25_ok e91).up (by omega) (by show _ ≤ (LO + 48) - (19 + 2); omega)) rfl rfl ?_
        cases h
        exact Ru.iret (by decide +kernel) rfl rfl
    · replace h := if_f b48 h
      refine Ru.br2 (k := .gt) (off := 36) (bb := false) (tg := 17) (by decide +kernel) (by decide +kernel) (ci_gt0 g3 (by decide) b48) rfl ?_
      refine Ru.op (q := (.aload_n 0, 1)) (S' := (18, _, _, _, _)) (by decide +kernel) rfl ?_
      refine Ru.op (q := (.iload_n 1, 1)) (S' := (19, _, _, _, _)) (by decide +kernel) rfl ?_
      obtain ⟨o92, e93, h⟩ := ob_some h
      refine Ru.vcallI (pc' := 22) (st' := []) (i := 80) (j2 := 24) (ci := 1) (k := 0) (z := 0) (as := [vI v1]) (by decide +kernel) (by decide +kernel) rfl rfl (hp1 _) (by decide) ⟨(by omega), (by show 19 + 3 ≤ (LO + 48); omega), Nat.le_of_ble_eq_true rfl, Nat.le_of_ble_eq_true rfl⟩ ((g24_ok e93).up (by omega) (by show _ ≤ (LO + 48) - (19 + 3); omega)) rfl rfl ?_
      refine Ru.op (q := (.aload_n 0, 1)) (S' := (23, _, _, _, _)) (by decide +kernel) rfl ?_
      refine Ru.getI (pc' := 26) (i := 40) (ci := 1) (k := 3) (nn := 0) (z := 0) (x := (o92.F 1 3)) (by decide +kernel) (by decide +kernel) (hp1 _) (by decide) rfl (eI_of _) rfl ?_
      refine Ru.kI (q := (.iconst (-1), 1)) (c := (-1)) (pc' := 27) (by decide +kernel) rfl (by decide) rfl ?_
      by_cases b94 : (o92.F 1 3) = (-1)
      · replace h := if_t b94 h
        refine Ru.br2 (k := .ne) (off := 21) (bb := false) (tg := 30) (by decide +kernel) (by decide +kernel) (ci_ne0 (inR_to _) (by decide) b94) rfl ?_
        refine Ru.op (q := (.aload_n 0, 1)) (S' := (31, _, _, _, _)) (by decide +kernel) rfl ?_
        refine Ru.getR (pc' := 34) (i := 18) (ci := 1) (k := 2) (nn := 0) (z := 0) (v := .ref 3) (by decide +kernel) (by decide +kernel) (hp1 _) (by decide) rfl rfl ?_
        refine Ru.op (q := (.aload_n 0, 1)) (S' := (35, _, _, _, _)) (by decide +kernel) rfl ?_
        refine Ru.getR (pc' := 38) (i := 29) (ci := 1) (k := 11) (nn := 0) (z := 0) (v := .ref 12) (by decide +kernel) (by decide +kernel) (hp1 _) (by decide) rfl rfl ?_
        refine Ru.op (q := (.aload_n 0, 1)) (S' := (39, _, _, _, _)) (by decide +kernel) rfl ?_
        refine Ru.getI (pc' := 42) (i := 84) (ci := 1) (k := 12) (nn := 0) (z := 0) (x := (o92.F 1 12)) (by decide +kernel) (by decide +kernel) (hp1 _) (by decide) rfl (eI_of _) rfl ?_
        obtain ⟨o95, e96, h⟩ := ob_some h
        refine Ru.vcallI (pc' := 45) (st' := [vI o95.1]) (i := 87) (j2 := 32) (ci := 2) (k := 0) (z := 0) (as := [.ref 12, vI (o92.F 1 12)]) (by decide +kernel) (by decide +kernel) rfl rfl (hp3 _) (by decide) ⟨(by omega), (by show 19 + 5 ≤ (LO + 48); omega), Nat.le_of_ble_eq_true rfl, Nat.le_of_ble_eq_true rfl⟩ ((g32_ok e96).up (by omega) (by show _ ≤ (LO + 48) - (19 + 5); omega)) rfl rfl ?_
        refine Ru.op (q := (.goto 4, 3)) (S' := (49, _, _, _, _)) (by decide +kernel) rfl ?_
        cases h
        exact Ru.iret (by decide +kernel) rfl rfl
      · replace h := if_f b94 h
        refine Ru.br2 (k := .ne) (off := 21) (bb := true) (tg := 48) (by decide +kernel) (by decide +kernel) (ci_ne1 (inR_to _) (by decide) b94) rfl ?_
        refine Ru.kI (q := (.iconst (-1), 1)) (c := (-1)) (pc' := 49) (by decide +kernel) rfl (by decide) rfl ?_
        cases h
        exact Ru.iret (by decide +kernel) rfl rfl
theorem g22_ok : ∀ (n : Nat) {S : St} {v1 : Int} {v2 : Int} {o : Int × St}, g22 n S v1 v2 = some o → Ru none (142 + 2 * n) (3427 + 48 * n) 22 (0, mn_pad (mn_ent [.ref 1, vI v1, vI v2]) 4, [], S.ns, Hp S) ((0, some (vI o.1)), o.2.ns, Hp o.2) := by
  intro n
  induction n with
  | zero => intro S v1 v2 o h; cases h
  | succ n ih => intro S v1 v2 o h; exact (g22b_ok (FR := 142 + 2 * n) (LO := 3427 + 48 * n) (by omega) (by omega) ih h).up (by omega) (by omega)
set_option maxRecDepth 100000 in
set_option maxHeartbeats 4000000 in
theorem g20_ok {S : St} {v1 : Int} {v2 : Int} {o : Int × St} (h : g20 S v1 v2 = some o) : Ru none 271 6522 20 (0, mn_pad (mn_ent [.ref 1, vI v1, vI v2]) 4, [], S.ns, Hp S) ((0, some (vI o.1)), o.2.ns, Hp o.2) := by
  unfold g20 at h
  show Ru none 271 6522 20 (0, [some (.ref 1), some (vI v1), some (vI v2), none], [], S.ns, Hp S) _
  refine Ru.op (q := (.aload_n 0, 1)) (S' := (1, _, _, _, _)) (by decide +kernel) rfl ?_
  refine Ru.kI (q := (.iconst 0, 1)) (c := 0) (pc' := 2) (by decide +kernel) rfl (by decide) rfl ?_
  refine Ru.putH (pc' := 5) (i := 32) (ci := 1) (k := 5) (nn := 0) (z := 0) (by decide +kernel) (by decide +kernel) (hp1 _) (by decide) (Nat.le_of_ble_eq_true rfl) (fk_b (by decide)) (by decide +kernel) (pf_1_5 _ _) rfl ?_
  refine Ru.op (q := (.aload_n 0, 1)) (S' := (6, _, _, _, _)) (by decide +kernel) rfl ?_
  refine Ru.kI (q := (.iconst 0, 1)) (c := 0) (pc' := 7) (by decide +kernel) rfl (by decide) rfl ?_
  refine Ru.putH (pc' := 10) (i := 36) (ci := 1) (k := 4) (nn := 0) (z := 0) (by decide +kernel) (by decide +kernel) (hp1 _) (by decide) (Nat.le_of_ble_eq_true rfl) rfl (by decide +kernel) (pf_1_4 _ _) rfl ?_
  refine Ru.op (q := (.aload_n 0, 1)) (S' := (11, _, _, _, _)) (by decide +kernel) rfl ?_
  refine Ru.kI (q := (.iconst (-1), 1)) (c := (-1)) (pc' := 12) (by decide +kernel) rfl (by decide) rfl ?_
  refine Ru.putH (pc' := 15) (i := 40) (ci := 1) (k := 3) (nn := 0) (z := 0) (by decide +kernel) (by decide +kernel) (hp1 _) (by decide) (Nat.le_of_ble_eq_true rfl) rfl (by decide +kernel) (pf_1_3 _ _) rfl ?_
  refine Ru.op (q := (.aload_n 0, 1)) (S' := (16, _, _, _, _)) (by decide +kernel) rfl ?_
  refine Ru.getR (pc' := 19) (i := 18) (ci := 1) (k := 2) (nn := 0) (z := 0) (v := .ref 3) (by decide +kernel) (by decide +kernel) (hp1 _) (by decide) rfl rfl ?_
  obtain ⟨o1, e2, h⟩ := ob_some h
  refine Ru.vcallI (pc' := 22) (st' := []) (i := 43) (j2 := 21) (ci := 2) (k := 0) (z := 0) (as := []) (by decide +kernel) (by decide +kernel) rfl rfl (hp3 _) (by decide) ⟨(Nat.le_of_ble_eq_true rfl), (by show 19 + 1 ≤ 6522; exact Nat.le_of_ble_eq_true rfl), Nat.le_of_ble_eq_true rfl, Nat.le_of_ble_eq_true rfl⟩ ((g21_ok e2).up (Nat.le_of_ble_eq_true rfl) (Nat.le_of_ble_eq_true rfl)) rfl rfl ?_
  refine Ru.op (q := (.aload_n 0, 1)) (S' := (23, _, _, _, _)) (by decide +kernel) rfl ?_
  refine Ru.kI (q := (.iconst 0, 1)) (c := 0) (pc' := 24) (by decide +kernel) rfl (by decide) rfl ?_
  refine Ru.putH (pc' := 27) (i := 46) (ci := 1) (k := 8) (nn := 0) (z := 0) (by decide +kernel) (by decide +kernel) (hp1 _) (by decide) (Nat.le_of_ble_eq_true rfl) rfl (by decide +kernel) (pf_1_8 _ _) rfl ?_
  refine Ru.op (q := (.aload_n 0, 1)) (S' := (28, _, _, _, _)) (by decide +kernel) rfl ?_
  refine Ru.kI (q := (.iconst 0, 1)) (c := 0) (pc' := 29) (by decide +kernel) rfl (by decide) rfl ?_
  refine Ru.putH (pc' := 32) (i := 49) (ci := 1) (k := 9) (nn := 0) (z := 0) (by decide +kernel) (by decide +kernel) (hp1 _) (by decide) (Nat.le_of_ble_eq_true rfl) rfl (by decide +kernel) (pf_1_9 _ _) rfl ?_
  refine Ru.op (q := (.aload_n 0, 1)) (S' := (33, _, _, _, _)) (by decide +kernel) rfl ?_
  refine Ru.op (q := (.iload_n 2, 1)) (S' := (34, _, _, _, _)) (by decide +kernel) rfl ?_
  refine Ru.putH (pc' := 37) (i := 52) (ci := 1) (k := 10) (nn := 0) (z := 0) (by decide +kernel) (by decide +kernel) (hp1 _) (by decide) (Nat.le_of_ble_eq_true rfl) rfl (by decide +kernel) (pf_1_10 _ _) rfl ?_
  refine Ru.op (q := (.aload_n 0, 1)) (S' := (38, _, _, _, _)) (by decide +kernel) rfl ?_
  refine Ru.op (q := (.iload_n 1, 1)) (S' := (39, _, _, _, _)) (by decide +kernel) rfl ?_
  refine Ru.kI (q := (.iconst 0, 1)) (c := 0) (pc' := 40) (by decide +kernel) rfl (by decide) rfl ?_
  obtain ⟨o3, e4, h⟩ := ob_some h
  refine Ru.vcallI (pc' := 43) (st' := [vI o3.1]) (i := 55) (j2 := 22) (ci := 1) (k := 0) (z := 0) (as := [vI v1, vI 0]) (by decide +kernel) (by decide +kernel) rfl rfl (hp1 _) (by decide) ⟨(Nat.le_of_ble_eq_true rfl), (by show 19 + 4 ≤ 6522; exact Nat.le_of_ble_eq_true rfl), Nat.le_of_ble_eq_true rfl, Nat.le_of_ble_eq_true rfl⟩ ((g22_ok 64 e4).up (Nat.le_of_ble_eq_true rfl) (Nat.le_of_ble_eq_true rfl)) rfl rfl ?_
  refine Ru.op (q := (.istore_n 3, 1)) (S' := (44, [some (.ref 1), some (vI v1), some (vI v2), some (vI o3.1)], [], _, _)) (by decide +kernel) rfl ?_
  refine Ru.op (q := (.iload_n 3, 1)) (S' := (45, _, _, _, _)) (by decide +kernel) rfl ?_
  refine Ru.kI (q := (.iconst (-1), 1)) (c := (-1)) (pc' := 46) (by decide +kernel) rfl (by decide) rfl ?_
  obtain ⟨g5, h⟩ := gd_some h
  by_cases b6 : o3.1 = (-1)
  · replace h := if_t b6 h
    refine Ru.br2 (k := .eq) (off := 23) (bb := true) (tg := 69) (by decide +kernel) (by decide +kernel) (ci_eq1 g5 (by decide) b6) rfl ?_
    refine Ru.op (q := (.iload_n 3, 1)) (S' := (70, _, _, _, _)) (by decide +kernel) rfl ?_
    cases h
    exact Ru.iret (by decide +kernel) rfl rfl
  · replace h := if_f b6 h
    refine Ru.br2 (k := .eq) (off := 23) (bb := false) (tg := 49) (by decide +kernel) (by decide +kernel) (ci_eq0 g5 (by decide) b6) rfl ?_
    refine Ru.op (q := (.aload_n 0, 1)) (S' := (50, _, _, _, _)) (by decide +kernel) rfl ?_
    refine Ru.getI (pc' := 53) (i := 36) (ci := 1) (k := 4) (nn := 0) (z := 0) (x := (o3.2.F 1 4)) (by decide +kernel) (by decide +kernel) (hp1 _) (by decide) rfl (eI_of _) rfl ?_
    refine Ru.op (q := (.aload_n 0, 1)) (S' := (54, _, _, _, _)) (by decide +kernel) rfl ?_
    refine Ru.getI (pc' := 57) (i := 59) (ci := 1) (k := 1) (nn := 0) (z := 0) (x := (o3.2.F 1 1)) (by decide +kernel) (by decide +kernel) (hp1 _) (by decide) rfl (eI_of _) rfl ?_
    by_cases b7 : (o3.2.F 1 4) < (o3.2.F 1 1)
    · replace h := if_t b7 h
      refine Ru.br2 (k := .ge) (off := 12) (bb := false) (tg := 60) (by decide +kernel) (by decide +kernel) (ci_ge0 (inR_to _) (inR_to _) b7) rfl ?_
      refine Ru.op (q := (.aload_n 0, 1)) (S' := (61, _, _, _, _)) (by decide +kernel) rfl ?_
      refine Ru.op (q := (.aload_n 0, 1)) (S' := (62, _, _, _, _)) (by decide +kernel) rfl ?_
      refine Ru.getI (pc' := 65) (i := 36) (ci := 1) (k := 4) (nn := 0) (z := 0) (x := (o3.2.F 1 4)) (by decide +kernel) (by decide +kernel) (hp1 _) (by decide) rfl (eI_of _) rfl ?_
      obtain ⟨o8, e9, h⟩ := ob_some h
      refine Ru.vcallI (pc' := 68) (st' := [vI o8.1]) (i := 62) (j2 := 25) (ci := 1) (k := 0) (z := 0) (as := [vI (o3.2.F 1 4)]) (by decide +kernel) (by decide +kernel) rfl rfl (hp1 _) (by decide) ⟨(Nat.le_of_ble_eq_true rfl), (by show 19 + 2 ≤ 6522; exact Nat.le_of_ble_eq_true rfl), Nat.le_of_ble_eq_true rfl, Nat.le_of_ble_eq_true rfl⟩ ((g25_ok e9).up (Nat.le_of_ble_eq_true rfl) (Nat.le_of_ble_eq_true rfl)) rfl rfl ?_
      cases h
      exact Ru.iret (by decide +kernel) rfl rfl
    · replace h := if_f b7 h
      refine Ru.br2 (k := .ge) (off := 12) (bb := true) (tg := 69) (by decide +kernel) (by decide +kernel) (ci_ge1 (inR_to _) (inR_to _) b7) rfl ?_
      refine Ru.op (q := (.iload_n 3, 1)) (S' := (70, _, _, _, _)) (by decide +kernel) rfl ?_
      cases h
      exact Ru.iret (by decide +kernel) rfl rfl
set_option maxRecDepth 100000 in
set_option maxHeartbeats 4000000 in
theorem g41_15_ok {S : St} {o : St} (h : g41_15 S  = some o) : Ru none 10 200 41 (0, mn_pad (mn_ent [.ref 15]) 1, [], S.ns, Hp S) ((0, none), o.ns, Hp o) := by
  unfold g41_15 at h
  show Ru none 10 200 41 (0, [some (.ref 15)], [], S.ns, Hp S) _
  refine Ru.op (q := (.aload_n 0, 1)) (S' := (1, _, _, _, _)) (by decide +kernel) rfl ?_
  refine Ru.getR (pc' := 4) (i := 14) (ci := 4) (k := 0) (nn := 0) (z := 0) (v := .ref 16) (by decide +kernel) (by decide +kernel) (hp15 _) (by decide) rfl rfl ?_
  refine Ru.kI (q := (.iconst 0, 1)) (c := 0) (pc' := 5) (by decide +kernel) rfl (by decide) rfl ?_
  refine Ru.putH (pc' := 8) (i := 24) (ci := 5) (k := 2) (nn := 0) (z := 0) (by decide +kernel) (by decide +kernel) (hp16 _) (by decide) (Nat.le_of_ble_eq_true rfl) rfl (by decide +kernel) (pf_16_2 _ _) rfl ?_
  refine Ru.op (q := (.aload_n 0, 1)) (S' := (9, _, _, _, _)) (by decide +kernel) rfl ?_
  refine Ru.getR (pc' := 12) (i := 14) (ci := 4) (k := 0) (nn := 0) (z := 0) (v := .ref 16) (by decide +kernel) (by decide +kernel) (hp15 _) (by decide) rfl rfl ?_
  refine Ru.kI (q := (.iconst 0, 1)) (c := 0) (pc' := 13) (by decide +kernel) rfl (by decide) rfl ?_
  refine Ru.putH (pc' := 16) (i := 28) (ci := 5) (k := 3) (nn := 0) (z := 0) (by decide +kernel) (by decide +kernel) (hp16 _) (by decide) (Nat.le_of_ble_eq_true rfl) rfl (by decide +kernel) (pf_16_3 _ _) rfl ?_
  refine Ru.op (q := (.aload_n 0, 1)) (S' := (17, _, _, _, _)) (by decide +kernel) rfl ?_
  refine Ru.getR (pc' := 20) (i := 14) (ci := 4) (k := 0) (nn := 0) (z := 0) (v := .ref 16) (by decide +kernel) (by decide +kernel) (hp15 _) (by decide) rfl rfl ?_
  refine Ru.getR (pc' := 23) (i := 31) (ci := 5) (k := 1) (nn := 0) (z := 0) (v := .ref 18) (by decide +kernel) (by decide +kernel) (hp16 _) (by decide) rfl rfl ?_
  refine Ru.kI (q := (.iconst 0, 1)) (c := 0) (pc' := 24) (by decide +kernel) rfl (by decide) rfl ?_
  refine Ru.kI (q := (.iconst 0, 1)) (c := 0) (pc' := 25) (by decide +kernel) rfl (by decide) rfl ?_
  refine Ru.istI (pc' := 26) (i := 0) (x := 0) (by decide +kernel) (hp18 _) (by decide) (ps_18 _ _ _) rfl ?_
  refine Ru.op (q := (.aload_n 0, 1)) (S' := (27, _, _, _, _)) (by decide +kernel) rfl ?_
  refine Ru.kI (q := (.iconst 0, 1)) (c := 0) (pc' := 28) (by decide +kernel) rfl (by decide) rfl ?_
  refine Ru.putH (pc' := 31) (i := 34) (ci := 4) (k := 2) (nn := 0) (z := 0) (by decide +kernel) (by decide +kernel) (hp15 _) (by decide) (Nat.le_of_ble_eq_true rfl) rfl (by decide +kernel) (pf_15_2 _ _) rfl ?_
  refine Ru.op (q := (.aload_n 0, 1)) (S' := (32, _, _, _, _)) (by decide +kernel) rfl ?_
  refine Ru.kI (q := (.iconst 0, 1)) (c := 0) (pc' := 33) (by decide +kernel) rfl (by decide) rfl ?_
  refine Ru.putH (pc' := 36) (i := 37) (ci := 4) (k := 3) (nn := 0) (z := 0) (by decide +kernel) (by decide +kernel) (hp15 _) (by decide) (Nat.le_of_ble_eq_true rfl) (fk_b (by decide)) (by decide +kernel) (pf_15_3 _ _) rfl ?_
  cases h
  exact Ru.end (q := (.return_, 1)) (by decide +kernel) rfl rfl
set_option maxRecDepth 100000 in
set_option maxHeartbeats 4000000 in
theorem g44_15_ok {S : St} {v1 : Int} {o : St} (h : g44_15 S v1 = some o) : Ru none 10 200 44 (0, mn_pad (mn_ent [.ref 15, vI v1]) 2, [], S.ns, Hp S) ((0, none), o.ns, Hp o) := by
  unfold g44_15 at h
  show Ru none 10 200 44 (0, [some (.ref 15), some (vI v1)], [], S.ns, Hp S) _
  refine Ru.op (q := (.aload_n 0, 1)) (S' := (1, _, _, _, _)) (by decide +kernel) rfl ?_
  refine Ru.getI (pc' := 4) (i := 34) (ci := 4) (k := 2) (nn := 0) (z := 0) (x := (S.F 15 2)) (by decide +kernel) (by decide +kernel) (hp15 _) (by decide) rfl (eI_of _) rfl ?_
  refine Ru.op (q := (.aload_n 0, 1)) (S' := (5, _, _, _, _)) (by decide +kernel) rfl ?_
  refine Ru.getR (pc' := 8) (i := 14) (ci := 4) (k := 0) (nn := 0) (z := 0) (v := .ref 16) (by decide +kernel) (by decide +kernel) (hp15 _) (by decide) rfl rfl ?_
  refine Ru.getI (pc' := 11) (i := 28) (ci := 5) (k := 3) (nn := 0) (z := 0) (x := (S.F 16 3)) (by decide +kernel) (by decide +kernel) (hp16 _) (by decide) rfl (eI_of _) rfl ?_
  refine Ru.ar2 (i := .isub) (z := ((S.F 15 2) - (S.F 16 3))) (pc' := 12) (by decide +kernel) rfl (ar_sub _ _) rfl ?_
  refine Ru.kI (q := (.bipush 16, 2)) (c := 16) (pc' := 14) (by decide +kernel) rfl (by decide) rfl ?_
  obtain ⟨g1, h⟩ := gd_some h
  by_cases b2 : ((S.F 15 2) - (S.F 16 3)) < 16
  · replace h := if_t b2 h
    refine Ru.br2 (k := .lt) (off := 11) (bb := true) (tg := 25) (by decide +kernel) (by decide +kernel) (ci_lt1 g1 (by decide) b2) rfl ?_
    refine Ru.op (q := (.aload_n 0, 1)) (S' := (26, _, _, _, _)) (by decide +kernel) rfl ?_
    refine Ru.getR (pc' := 29) (i := 14) (ci := 4) (k := 0) (nn := 0) (z := 0) (v := .ref 16) (by decide +kernel) (by decide +kernel) (hp15 _) (by decide) rfl rfl ?_
    refine Ru.getR (pc' := 32) (i := 41) (ci := 5) (k := 0) (nn := 0) (z := 0) (v := .ref 17) (by decide +kernel) (by decide +kernel) (hp16 _) (by decide) rfl rfl ?_
    refine Ru.op (q := (.aload_n 0, 1)) (S' := (33, _, _, _, _)) (by decide +kernel) rfl ?_
    refine Ru.getI (pc' := 36) (i := 34) (ci := 4) (k := 2) (nn := 0) (z := 0) (x := (S.F 15 2)) (by decide +kernel) (by decide +kernel) (hp15 _) (by decide) rfl (eI_of _) rfl ?_
    refine Ru.op (q := (.iload_n 1, 1)) (S' := (37, _, _, _, _)) (by decide +kernel) rfl ?_
    obtain ⟨g3, h⟩ := gd_some h
    refine Ru.istI (pc' := 38) (i := (S.F 15 2)) (x := v1) (by decide +kernel) (hp17 _) g3 (ps_17 _ _ _) rfl ?_
    refine Ru.op (q := (.aload_n 0, 1)) (S' := (39, _, _, _, _)) (by decide +kernel) rfl ?_
    refine Ru.op (q := (.dup, 1)) (S' := (40, _, _, _, _)) (by decide +kernel) rfl ?_
    refine Ru.getI (pc' := 43) (i := 34) (ci := 4) (k := 2) (nn := 0) (z := 0) (x := (S.F 15 2)) (by decide +kernel) (by decide +kernel) (hp15 _) (by decide) rfl (eI_of _) rfl ?_
    refine Ru.kI (q := (.iconst 1, 1)) (c := 1) (pc' := 44) (by decide +kernel) rfl (by decide) rfl ?_
    refine Ru.ar2 (i := .iadd) (z := ((S.F 15 2) + 1)) (pc' := 45) (by decide +kernel) rfl (ar_add _ _) rfl ?_
    refine Ru.putH (pc' := 48) (i := 34) (ci := 4) (k := 2) (nn := 0) (z := 0) (by decide +kernel) (by decide +kernel) (hp15 _) (by decide) (Nat.le_of_ble_eq_true rfl) rfl (by decide +kernel) (pf_15_2 _ _) rfl ?_
    cases h
    exact Ru.end (q := (.return_, 1)) (by decide +kernel) rfl rfl
  · replace h := if_f b2 h
    refine Ru.br2 (k := .lt) (off := 11) (bb := false) (tg := 17) (by decide +kernel) (by decide +kernel) (ci_lt0 g1 (by decide) b2) rfl ?_
    refine Ru.op (q := (.aload_n 0, 1)) (S' := (18, _, _, _, _)) (by decide +kernel) rfl ?_
    refine Ru.kI (q := (.iconst 1, 1)) (c := 1) (pc' := 19) (by decide +kernel) rfl (by decide) rfl ?_
    refine Ru.putH (pc' := 22) (i := 37) (ci := 4) (k := 3) (nn := 0) (z := 0) (by decide +kernel) (by decide +kernel) (hp15 _) (by decide) (Nat.le_of_ble_eq_true rfl) (fk_b (by decide)) (by decide +kernel) (pf_15_3 _ _) rfl ?_
    refine Ru.op (q := (.goto 26, 3)) (S' := (48, _, _, _, _)) (by decide +kernel) rfl ?_
    cases h
    exact Ru.end (q := (.return_, 1)) (by decide +kernel) rfl rfl
set_option maxRecDepth 100000 in
set_option maxHeartbeats 4000000 in
theorem g47L21_ok {S : St} {v0 : Nat} {v1 : Int} {v2 : Int} {v3 : Int} : ∀ (n : Nat) (v4 : Int) (_ : DD []) (out : Sum (Unit) (Int)), g47L21 S v0 v1 v2 v3 n v4 = some out → ∀ r, (∀ o, out = .inl o → ∀ (e0 e1 e2 e3 e4 : Option Value), DD [e0, e1, e2, e3, e4] → Ru none 10 200 47 (50, [e0, e1, e2, e3, e4], [], S.ns, Hp S) r) → (∀ o, out = .inr o → r = ((0, some (vI o)), S.ns, Hp S)) → Ru none 10 200 47 (21, [some (.ref v0), some (vI v1), some (vI v2), some (vI v3), some (vI v4)], [], S.ns, Hp S) r := by
  intro n
  induction n with
  | zero => intro v4 hdd out h; cases h
  | succ n ih =>
    intro v4 hdd out h r hk hr
    unfold g47L21 at h
    refine Ru.op (q := (.iload 4, 2)) (S' := (23, _, _, _, _)) (by decide +kernel) rfl ?_
    refine Ru.op (q := (.iload_n 3, 1)) (S' := (24, _, _, _, _)) (by decide +kernel) rfl ?_
    obtain ⟨g20, h⟩ := gd_some h
    obtain ⟨g21, h⟩ := gd_some h
    by_cases b22 : v4 < v3
    · replace h := if_t b22 h
      refine Ru.br2 (k := .ge) (off := 26) (bb := false) (tg := 27) (by decide +kernel) (by decide +kernel) (ci_ge0 g20 g21 b22) rfl ?_
      refine Ru.op (q := (.aload_n 0, 1)) (S' := (28, _, _, _, _)) (by decide +kernel) rfl ?_
      refine Ru.op (q := (.iload_n 1, 1)) (S' := (29, _, _, _, _)) (by decide +kernel) rfl ?_
      refine Ru.op (q := (.iload 4, 2)) (S' := (31, _, _, _, _)) (by decide +kernel) rfl ?_
      refine Ru.ar2 (i := .iadd) (z := (v1 + v4)) (pc' := 32) (by decide +kernel) rfl (ar_add _ _) rfl ?_
      obtain ⟨N23, f24, e25, q26, h⟩ := gA_some h
      obtain ⟨g27, h⟩ := gd_some h
      refine Ru.ildI (pc' := 33) (i := (v1 + v4)) (z := (f24 (v1 + v4))) (by decide +kernel) q26 g27 rfl rfl ?_
      refine Ru.op (q := (.aload_n 0, 1)) (S' := (34, _, _, _, _)) (by decide +kernel) rfl ?_
      refine Ru.op (q := (.iload_n 2, 1)) (S' := (35, _, _, _, _)) (by decide +kernel) rfl ?_
      refine Ru.op (q := (.iload 4, 2)) (S' := (37, _, _, _, _)) (by decide +kernel) rfl ?_
      refine Ru.ar2 (i := .iadd) (z := (v2 + v4)) (pc' := 38) (by decide +kernel) rfl (ar_add _ _) rfl ?_
      obtain ⟨g28, h⟩ := gd_some h
      refine Ru.ildI (pc' := 39) (i := (v2 + v4)) (z := (f24 (v2 + v4))) (by decide +kernel) q26 g28 rfl rfl ?_
      by_cases b29 : (f24 (v1 + v4)) = (f24 (v2 + v4))
      · replace h := if_t b29 h
        refine Ru.br2 (k := .eq) (off := 5) (bb := true) (tg := 44) (by decide +kernel) (by decide +kernel) (ci_eq1 (e25 _) (e25 _) b29) rfl ?_
        refine Ru.inc (k := 4) (n := 1) (x := v4) (z := (v4 + 1)) (xs' := [some (.ref v0), some (vI v1), some (vI v2), some (vI v3), some (vI (v4 + 1))]) (pc' := 47) (by decide +kernel) rfl rfl rfl rfl ?_
        refine Ru.op (q := (.goto (-26), 3)) (S' := (21, _, _, _, _)) (by decide +kernel) rfl ?_
        exact ih _ trivial _ h r hk hr
      · replace h := if_f b29 h
        refine Ru.br2 (k := .eq) (off := 5) (bb := false) (tg := 42) (by decide +kernel) (by decide +kernel) (ci_eq0 (e25 _) (e25 _) b29) rfl ?_
        refine Ru.kI (q := (.iconst 0, 1)) (c := 0) (pc' := 43) (by decide +kernel) rfl (by decide) rfl ?_
        cases h
        have h9 := hr _ rfl
        subst h9
        exact Ru.iret (by decide +kernel) rfl (nar_b1 (by decide))
    · replace h := if_f b22 h
      refine Ru.br2 (k := .ge) (off := 26) (bb := true) (tg := 50) (by decide +kernel) (by decide +kernel) (ci_ge1 g20 g21 b22) rfl ?_
      cases h
      exact hk _ rfl _ _ _ _ _ ⟨rfl, rfl, rfl, rfl, rfl, trivial⟩
set_option maxRecDepth 100000 in
set_option maxHeartbeats 4000000 in
theorem g47_ok {S : St} {v0 : Nat} {v1 : Int} {v2 : Int} {v3 : Int} {o : Int} (h : g47 S v0 v1 v2 v3 = some o) : Ru none 10 200 47 (0, mn_pad (mn_ent [.ref v0, vI v1, vI v2, vI v3]) 5, [], S.ns, Hp S) ((0, some (vI o)), S.ns, Hp S) := by
  unfold g47 at h
  show Ru none 10 200 47 (0, [some (.ref v0), some (vI v1), some (vI v2), some (vI v3), none], [], S.ns, Hp S) _
  refine Ru.op (q := (.iload_n 1, 1)) (S' := (1, _, _, _, _)) (by decide +kernel) rfl ?_
  refine Ru.op (q := (.iload_n 3, 1)) (S' := (2, _, _, _, _)) (by decide +kernel) rfl ?_
  refine Ru.ar2 (i := .iadd) (z := (v1 + v3)) (pc' := 3) (by decide +kernel) rfl (ar_add _ _) rfl ?_
  refine Ru.op (q := (.aload_n 0, 1)) (S' := (4, _, _, _, _)) (by decide +kernel) rfl ?_
  obtain ⟨N1, f2, e3, q4, h⟩ := gA_some h
  refine Ru.lenI (pc' := 5) (N := N1) (z := (N1 : Int)) (by decide +kernel) q4 (by decide) (aI_len _ _) rfl rfl ?_
  obtain ⟨g5, h⟩ := gd_some h
  obtain ⟨g6, h⟩ := gd_some h
  by_cases b7 : (N1 : Int) < (v1 + v3)
  · replace h := if_t b7 h
    refine Ru.br2 (k := .gt) (off := 11) (bb := true) (tg := 16) (by decide +kernel) (by decide +kernel) (ci_gt1 g5 g6 b7) rfl ?_
    refine Ru.kI (q := (.iconst 0, 1)) (c := 0) (pc' := 17) (by decide +kernel) rfl (by decide) rfl ?_
    cases h
    exact Ru.iret (by decide +kernel) rfl (nar_b1 (by decide))
  · replace h := if_f b7 h
    refine Ru.br2 (k := .gt) (off := 11) (bb := false) (tg := 8) (by decide +kernel) (by decide +kernel) (ci_gt0 g5 g6 b7) rfl ?_
    refine Ru.op (q := (.iload_n 2, 1)) (S' := (9, _, _, _, _)) (by decide +kernel) rfl ?_
    refine Ru.op (q := (.iload_n 3, 1)) (S' := (10, _, _, _, _)) (by decide +kernel) rfl ?_
    refine Ru.ar2 (i := .iadd) (z := (v2 + v3)) (pc' := 11) (by decide +kernel) rfl (ar_add _ _) rfl ?_
    refine Ru.op (q := (.aload_n 0, 1)) (S' := (12, _, _, _, _)) (by decide +kernel) rfl ?_
    refine Ru.lenI (pc' := 13) (N := N1) (z := (N1 : Int)) (by decide +kernel) q4 (by decide) (aI_len _ _) rfl rfl ?_
    obtain ⟨g8, h⟩ := gd_some h
    by_cases b9 : (N1 : Int) < (v2 + v3)
    · replace h := if_t b9 h
      refine Ru.br2 (k := .le) (off := 5) (bb := false) (tg := 16) (by decide +kernel) (by decide +kernel) (ci_le0 g8 g6 b9) rfl ?_
      refine Ru.kI (q := (.iconst 0, 1)) (c := 0) (pc' := 17) (by decide +kernel) rfl (by decide) rfl ?_
      cases h
      exact Ru.iret (by decide +kernel) rfl (nar_b1 (by decide))
    · replace h := if_f b9 h
      refine Ru.br2 (k := .le) (off := 5) (bb := true) (tg := 18) (by decide +kernel) (by decide +kernel) (ci_le1 g8 g6 b9) rfl ?_
      refine Ru.kI (q := (.iconst 0, 1)) (c := 0) (pc' := 19) (by decide +kernel) rfl (by decide) rfl ?_
      refine Ru.op (q := (.istore 4, 2)) (S' := (21, [some (.ref v0), some (vI v1), some (vI v2), some (vI v3), some (vI 0)], [], _, _)) (by decide +kernel) rfl ?_
      rcases obr_some h with ⟨o30, e36, h⟩ | e36
      · refine g47L21_ok FU _ trivial _ e36 _ (fun o' e' => ?_) (fun o' e' => by cases e')
        cases e'
        intro d31 d32 d33 d34 d35 hd37
        refine Ru.kI (q := (.iconst 1, 1)) (c := 1) (pc' := 51) (by decide +kernel) rfl (by decide) rfl ?_
        cases h
        exact Ru.iret (by decide +kernel) rfl (nar_b1 (by decide))
      · exact g47L21_ok FU _ trivial _ e36 _ (fun o' e' => by cases e') (fun o' e' => by cases e'; rfl)
set_option maxRecDepth 100000 in
set_option maxHeartbeats 4000000 in
theorem g46_15L15_ok {S : St} {v1 : Int} : ∀ (n : Nat) (v2 : Int) (d3 : Option Value) (_ : DD [d3]) (out : Sum (Unit) (Int)), g46_15L15 S v1 n v2 = some out → ∀ r, (∀ o, out = .inl o → ∀ (e0 e1 e2 e3 : Option Value), DD [e0, e1, e2, e3] → Ru none 11 224 46 (83, [e0, e1, e2, e3], [], S.ns, Hp S) r) → (∀ o, out = .inr o → r = ((0, some (vI o)), S.ns, Hp S)) → Ru none 11 224 46 (15, [some (.ref 15), some (vI v1), some (vI v2), d3], [], S.ns, Hp S) r := by
  intro n
  induction n with
  | zero => intro v2 d3 hdd out h; cases h
  | succ n ih =>
    intro v2 d3 hdd out h r hk hr
    unfold g46_15L15 at h
    refine Ru.op (q := (.iload_n 2, 1)) (S' := (16, _, _, _, _)) (by decide +kernel) rfl ?_
    refine Ru.op (q := (.aload_n 0, 1)) (S' := (17, _, _, _, _)) (by decide +kernel) rfl ?_
    refine Ru.getR (pc' := 20) (i := 14) (ci := 4) (k := 0) (nn := 0) (z := 0) (v := .ref 16) (by decide +kernel) (by decide +kernel) (hp15 _) (by decide) rfl rfl ?_
    refine Ru.getI (pc' := 23) (i := 24) (ci := 5) (k := 2) (nn := 0) (z := 0) (x := (S.F 16 2)) (by decide +kernel) (by decide +kernel) (hp16 _) (by decide) rfl (eI_of _) rfl ?_
    obtain ⟨g12, h⟩ := gd_some h
    by_cases b13 : v2 < (S.F 16 2)
    · replace h := if_t b13 h
      refine Ru.br2 (k := .ge) (off := 60) (bb := false) (tg := 26) (by decide +kernel) (by decide +kernel) (ci_ge0 g12 (inR_to _) b13) rfl ?_
      refine Ru.op (q := (.aload_n 0, 1)) (S' := (27, _, _, _, _)) (by decide +kernel) rfl ?_
      refine Ru.getR (pc' := 30) (i := 14) (ci := 4) (k := 0) (nn := 0) (z := 0) (v := .ref 16) (by decide +kernel) (by decide +kernel) (hp15 _) (by decide) rfl rfl ?_
      refine Ru.getR (pc' := 33) (i := 31) (ci := 5) (k := 1) (nn := 0) (z := 0) (v := .ref 18) (by decide +kernel) (by decide +kernel) (hp16 _) (by decide) rfl rfl ?_
      refine Ru.op (q := (.iload_n 2, 1)) (S' := (34, _, _, _, _)) (by decide +kernel) rfl ?_
      obtain ⟨g14, h⟩ := gd_some h
      refine Ru.ildI (pc' := 35) (i := v2) (z := (S.A 18 v2)) (by decide +kernel) (hp18 _) g14 (eI_of _) rfl ?_
      refine Ru.op (q := (.istore_n 3, 1)) (S' := (36, [some (.ref 15), some (vI v1), some (vI v2), some (vI (S.A 18 v2))], [], _, _)) (by decide +kernel) rfl ?_
      refine Ru.op (q := (.aload_n 0, 1)) (S' := (37, _, _, _, _)) (by decide +kernel) rfl ?_
      refine Ru.getR (pc' := 40) (i := 14) (ci := 4) (k := 0) (nn := 0) (z := 0) (v := .ref 16) (by decide +kernel) (by decide +kernel) (hp15 _) (by decide) rfl rfl ?_
      refine Ru.getR (pc' := 43) (i := 31) (ci := 5) (k := 1) (nn := 0) (z := 0) (v := .ref 18) (by decide +kernel) (by decide +kernel) (hp16 _) (by decide) rfl rfl ?_
      refine Ru.op (q := (.iload_n 2, 1)) (S' := (44, _, _, _, _)) (by decide +kernel) rfl ?_
      refine Ru.kI (q := (.iconst 1, 1)) (c := 1) (pc' := 45) (by decide +kernel) rfl (by decide) rfl ?_
      refine Ru.ar2 (i := .iadd) (z := (v2 + 1)) (pc' := 46) (by decide +kernel) rfl (ar_add _ _) rfl ?_
      obtain ⟨g15, h⟩ := gd_some h
      refine Ru.ildI (pc' := 47) (i := (v2 + 1)) (z := (S.A 18 (v2 + 1))) (by decide +kernel) (hp18 _) g15 (eI_of _) rfl ?_
      refine Ru.op (q := (.iload_n 3, 1)) (S' := (48, _, _, _, _)) (by decide +kernel) rfl ?_
      refine Ru.ar2 (i := .isub) (z := ((S.A 18 (v2 + 1)) - (S.A 18 v2))) (pc' := 49) (by decide +kernel) rfl (ar_sub _ _) rfl ?_
      refine Ru.op (q := (.iload_n 1, 1)) (S' := (50, _, _, _, _)) (by decide +kernel) rfl ?_
      obtain ⟨g16, h⟩ := gd_some h
      obtain ⟨g17, h⟩ := gd_some h
      by_cases b18 : ((S.A 18 (v2 + 1)) - (S.A 18 v2)) = v1
      · replace h := if_t b18 h
        refine Ru.br2 (k := .ne) (off := 27) (bb := false) (tg := 53) (by decide +kernel) (by decide +kernel) (ci_ne0 g16 g17 b18) rfl ?_
        refine Ru.op (q := (.aload_n 0, 1)) (S' := (54, _, _, _, _)) (by decide +kernel) rfl ?_
        refine Ru.getR (pc' := 57) (i := 14) (ci := 4) (k := 0) (nn := 0) (z := 0) (v := .ref 16) (by decide +kernel) (by decide +kernel) (hp15 _) (by decide) rfl rfl ?_
        refine Ru.getR (pc' := 60) (i := 41) (ci := 5) (k := 0) (nn := 0) (z := 0) (v := .ref 17) (by decide +kernel) (by decide +kernel) (hp16 _) (by decide) rfl rfl ?_
        refine Ru.op (q := (.iload_n 3, 1)) (S' := (61, _, _, _, _)) (by decide +kernel) rfl ?_
        refine Ru.op (q := (.aload_n 0, 1)) (S' := (62, _, _, _, _)) (by decide +kernel) rfl ?_
        refine Ru.getR (pc' := 65) (i := 14) (ci := 4) (k := 0) (nn := 0) (z := 0) (v := .ref 16) (by decide +kernel) (by decide +kernel) (hp15 _) (by decide) rfl rfl ?_
        refine Ru.getI (pc' := 68) (i := 28) (ci := 5) (k := 3) (nn := 0) (z := 0) (x := (S.F 16 3)) (by decide +kernel) (by decide +kernel) (hp16 _) (by decide) rfl (eI_of _) rfl ?_
        refine Ru.op (q := (.iload_n 1, 1)) (S' := (69, _, _, _, _)) (by decide +kernel) rfl ?_
        obtain ⟨o19, e20, h⟩ := ob_some h
        refine Ru.callI (pc' := 72) (q := (.invokestatic 55, 3)) (j2 := 47) (as := [.ref 17, vI (S.A 18 v2), vI (S.F 16 3), vI v1]) (st' := [vI o19]) (by decide +kernel) rfl rfl rfl rfl ⟨(Nat.le_of_ble_eq_true rfl), (by show 19 + 5 ≤ 224; exact Nat.le_of_ble_eq_true rfl), Nat.le_of_ble_eq_true rfl, Nat.le_of_ble_eq_true rfl⟩ ((g47_ok e20).up (Nat.le_of_ble_eq_true rfl) (Nat.le_of_ble_eq_true rfl)) rfl rfl ?_
        obtain ⟨g21, h⟩ := gd_some h
        by_cases b22 : o19 = 0
        · replace h := if_t b22 h
          refine Ru.br (k := .eq) (off := 5) (bb := true) (tg := 77) (by decide +kernel) (by decide +kernel) (cz (ci_eq1 g21 (by decide) b22)) rfl ?_
          refine Ru.inc (k := 2) (n := 1) (x := v2) (z := (v2 + 1)) (xs' := [some (.ref 15), some (vI v1), some (vI (v2 + 1)), some (vI (S.A 18 v2))]) (pc' := 80) (by decide +kernel) rfl rfl rfl rfl ?_
          refine Ru.op (q := (.goto (-65), 3)) (S' := (15, _, _, _, _)) (by decide +kernel) rfl ?_
          exact ih _ _ ⟨rfl, trivial⟩ _ h r hk hr
        · replace h := if_f b22 h
          refine Ru.br (k := .eq) (off := 5) (bb := false) (tg := 75) (by decide +kernel) (by decide +kernel) (cz (ci_eq0 g21 (by decide) b22)) rfl ?_
          refine Ru.kI (q := (.iconst 1, 1)) (c := 1) (pc' := 76) (by decide +kernel) rfl (by decide) rfl ?_
          cases h
          have h9 := hr _ rfl
          subst h9
          exact Ru.iret (by decide +kernel) rfl (nar_b1 (by decide))
      · replace h := if_f b18 h
        refine Ru.br2 (k := .ne) (off := 27) (bb := true) (tg := 77) (by decide +kernel) (by decide +kernel) (ci_ne1 g16 g17 b18) rfl ?_
        refine Ru.inc (k := 2) (n := 1) (x := v2) (z := (v2 + 1)) (xs' := [some (.ref 15), some (vI v1), some (vI (v2 + 1)), some (vI (S.A 18 v2))]) (pc' := 80) (by decide +kernel) rfl rfl rfl rfl ?_
        refine Ru.op (q := (.goto (-65), 3)) (S' := (15, _, _, _, _)) (by decide +kernel) rfl ?_
        exact ih _ _ ⟨rfl, trivial⟩ _ h r hk hr
    · replace h := if_f b13 h
      refine Ru.br2 (k := .ge) (off := 60) (bb := true) (tg := 83) (by decide +kernel) (by decide +kernel) (ci_ge1 g12 (inR_to _) b13) rfl ?_
      cases h
      exact hk _ rfl _ _ _ _ ⟨rfl, rfl, rfl, hdd.1, trivial⟩
set_option maxRecDepth 100000 in
set_option maxHeartbeats 4000000 in
theorem g46_15_ok {S : St} {o : Int} (h : g46_15 S  = some o) : Ru none 11 224 46 (0, mn_pad (mn_ent [.ref 15]) 4, [], S.ns, Hp S) ((0, some (vI o)), S.ns, Hp S) := by
  unfold g46_15 at h
  show Ru none 11 224 46 (0, [some (.ref 15), none, none, none], [], S.ns, Hp S) _
  refine Ru.op (q := (.aload_n 0, 1)) (S' := (1, _, _, _, _)) (by decide +kernel) rfl ?_
  refine Ru.getI (pc' := 4) (i := 34) (ci := 4) (k := 2) (nn := 0) (z := 0) (x := (S.F 15 2)) (by decide +kernel) (by decide +kernel) (hp15 _) (by decide) rfl (eI_of _) rfl ?_
  refine Ru.op (q := (.aload_n 0, 1)) (S' := (5, _, _, _, _)) (by decide +kernel) rfl ?_
  refine Ru.getR (pc' := 8) (i := 14) (ci := 4) (k := 0) (nn := 0) (z := 0) (v := .ref 16) (by decide +kernel) (by decide +kernel) (hp15 _) (by decide) rfl rfl ?_
  refine Ru.getI (pc' := 11) (i := 28) (ci := 5) (k := 3) (nn := 0) (z := 0) (x := (S.F 16 3)) (by decide +kernel) (by decide +kernel) (hp16 _) (by decide) rfl (eI_of _) rfl ?_
  refine Ru.ar2 (i := .isub) (z := ((S.F 15 2) - (S.F 16 3))) (pc' := 12) (by decide +kernel) rfl (ar_sub _ _) rfl ?_
  refine Ru.op (q := (.istore_n 1, 1)) (S' := (13, [some (.ref 15), some (vI ((S.F 15 2) - (S.F 16 3))), none, none], [], _, _)) (by decide +kernel) rfl ?_
  refine Ru.kI (q := (.iconst 0, 1)) (c := 0) (pc' := 14) (by decide +kernel) rfl (by decide) rfl ?_
  refine Ru.op (q := (.istore_n 2, 1)) (S' := (15, [some (.ref 15), some (vI ((S.F 15 2) - (S.F 16 3))), some (vI 0), none], [], _, _)) (by decide +kernel) rfl ?_
  rcases obr_some h with ⟨o23, e28, h⟩ | e28
  · refine g46_15L15_ok FU _ _ ⟨rfl, trivial⟩ _ e28 _ (fun o' e' => ?_) (fun o' e' => by cases e')
    cases e'
    intro d24 d25 d26 d27 hd29
    refine Ru.kI (q := (.iconst 0, 1)) (c := 0) (pc' := 84) (by decide +kernel) rfl (by decide) rfl ?_
    cases h
    exact Ru.iret (by decide +kernel) rfl (nar_b1 (by decide))
  · exact g46_15L15_ok FU _ _ ⟨rfl, trivial⟩ _ e28 _ (fun o' e' => by cases e') (fun o' e' => by cases e'; rfl)
