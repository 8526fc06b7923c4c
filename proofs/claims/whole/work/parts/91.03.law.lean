def g172L23 (l : List Int32)  : Nat → Int → St → Option (Sum (St) (Int × St))
  | 0, _, _ => none
  | n + 1, v4, S => gd (inR v4) (gd (inR ((l.length : Int) - 5)) (if ((l.length : Int) - 5) < v4 then some (.inl S) else gd (ixR v4 l.length) (gd (inR ((l.getD v4.toNat 0).toInt % 16)) (if ((l.getD v4.toNat 0).toInt % 16) = 0 then ob (gTy l S v4) (fun o199 => g172L23 l n (v4 + 5) o199) else if ((l.getD v4.toNat 0).toInt % 16) = 1 then ob (g9 S) (fun o204 => ob (g96 o204.2) (fun o206 => gd (inR o204.1) (gd (inR o206.1) (if o204.1 = o206.1 then g172L23 l n (v4 + 5) o206.2 else some (.inr (0, o206.2)))))) else if ((l.getD v4.toNat 0).toInt % 16) = 2 then gd (ixR (v4 + 1) l.length) (if (l.getD (v4 + 1).toNat 0).toInt = 0 then ob (g163 S 0) (fun o214 => ob (g98 o214.2 0) (fun o216 => ob (g94 o216.2) (fun o218 => gd (inR o218) (gd (inR o214.1) (if o218 = o214.1 then if o214.1 = 0 then if (o216.2.O) = (lI o216.1) then g172L23 l n (v4 + 5) o216.2 else some (.inr (0, o216.2)) else g172L23 l n (v4 + 5) o216.2 else some (.inr (0, o216.2))))))) else ob (g163 S 1) (fun o225 => ob (g98 o225.2 1) (fun o227 => ob (g94 o227.2) (fun o229 => gd (inR o229) (gd (inR o225.1) (if o229 = o225.1 then if o225.1 = 0 then if (o227.2.O) = (lI o227.1) then g172L23 l n (v4 + 5) o227.2 else some (.inr (0, o227.2)) else g172L23 l n (v4 + 5) o227.2 else some (.inr (0, o227.2)))))))) else if ((l.getD v4.toNat 0).toInt % 16) = 3 then ob (g10 S) (fun o237 => ob (g97 S) (fun o239 => gd (inR o237) (gd (inR o239.1) (if o237 = o239.1 then g172L23 l n (v4 + 5) o239.2 else some (.inr (0, o239.2)))))) else if ((l.getD v4.toNat 0).toInt % 16) = 4 then ob (g11 S) (fun o245 => ob (g133 S) (fun o247 => gd (inR o245) (gd (inR o247.1) (if o245 = o247.1 then g172L23 l n (v4 + 5) o247.2 else some (.inr (0, o247.2)))))) else if ((l.getD v4.toNat 0).toInt % 16) = 5 then ob (g164 S) (fun o253 => ob (g136 o253.2) (fun o255 => ob (g94 o255.2) (fun o257 => gd (inR o257) (gd (inR o253.1) (if o257 = o253.1 then if o253.1 = 0 then if (o255.2.O) = (lI o255.1) then g172L23 l n (v4 + 5) o255.2 else some (.inr (0, o255.2)) else g172L23 l n (v4 + 5) o255.2 else some (.inr (0, o255.2))))))) else if ((l.getD v4.toNat 0).toInt % 16) = 6 then gd (ixR (v4 + 1) l.length) (ob (g165 S ((l.getD (v4 + 1).toNat 0).toInt)) (fun o266 => ob (g147 o266.2 ((l.getD (v4 + 1).toNat 0).toInt)) (fun o268 => ob (g94 o268.2) (fun o270 => gd (inR o270) (gd (inR o266.1) (if o270 = o266.1 then if o266.1 = 0 then if (o268.2.O) = (lI o268.1) then g172L23 l n (v4 + 5) o268.2 else some (.inr (0, o268.2)) else g172L23 l n (v4 + 5) o268.2 else some (.inr (0, o268.2)))))))) else if ((l.getD v4.toNat 0).toInt % 16) = 7 then gd (ixR (v4 + 1) l.length) (if (l.getD (v4 + 1).toNat 0).toInt = 0 then gd (ixR (v4 + 2) l.length) (ob (g166 S 0 ((l.getD (v4 + 2).toNat 0).toInt)) (fun o281 => ob (g148 o281.2 0 ((l.getD (v4 + 2).toNat 0).toInt)) (fun o283 => ob (g94 o283.2) (fun o285 => gd (inR o285) (gd (inR o281.1) (if o285 = o281.1 then if o281.1 = 0 then if (o283.2.O) = (lI o283.1) then g172L23 l n (v4 + 5) o283.2 else some (.inr (0, o283.2)) else g172L23 l n (v4 + 5) o283.2 else some (.inr (0, o283.2)))))))) else gd (ixR (v4 + 2) l.length) (ob (g166 S 1 ((l.getD (v4 + 2).toNat 0).toInt)) (fun o293 => ob (g148 o293.2 1 ((l.getD (v4 + 2).toNat 0).toInt)) (fun o295 => ob (g94 o295.2) (fun o297 => gd (inR o297) (gd (inR o293.1) (if o297 = o293.1 then if o293.1 = 0 then if (o295.2.O) = (lI o295.1) then g172L23 l n (v4 + 5) o295.2 else some (.inr (0, o295.2)) else g172L23 l n (v4 + 5) o295.2 else some (.inr (0, o295.2))))))))) else if ((l.getD v4.toNat 0).toInt % 16) = 8 then gd (ixR (v4 + 1) l.length) (ob (g167 S ((l.getD (v4 + 1).toNat 0).toInt)) (fun o306 => ob (g153 o306.2 ((l.getD (v4 + 1).toNat 0).toInt)) (fun o308 => ob (g94 o308.2) (fun o310 => gd (inR o310) (gd (inR o306.1) (if o310 = o306.1 then if o306.1 = 0 then if (o308.2.O) = (lI o308.1) then g172L23 l n (v4 + 5) o308.2 else some (.inr (0, o308.2)) else g172L23 l n (v4 + 5) o308.2 else some (.inr (0, o308.2)))))))) else if ((l.getD v4.toNat 0).toInt % 16) = 9 then gd (ixR (v4 + 1) l.length) (gd (ixR (v4 + 2) l.length) (ob (g168 S ((l.getD (v4 + 1).toNat 0).toInt) ((l.getD (v4 + 2).toNat 0).toInt)) (fun o320 => ob (g154 o320.2 ((l.getD (v4 + 1).toNat 0).toInt) ((l.getD (v4 + 2).toNat 0).toInt)) (fun o322 => ob (g94 o322.2) (fun o324 => gd (inR o324) (gd (inR o320.1) (if o324 = o320.1 then if o320.1 = 0 then if (o322.2.O) = (lI o322.1) then g172L23 l n (v4 + 5) o322.2 else some (.inr (0, o322.2)) else g172L23 l n (v4 + 5) o322.2 else some (.inr (0, o322.2))))))))) else if ((l.getD v4.toNat 0).toInt % 16) = 10 then gd (ixR (v4 + 1) l.length) (gd (ixR (v4 + 2) l.length) (ob (g169 S ((l.getD (v4 + 1).toNat 0).toInt) ((l.getD (v4 + 2).toNat 0).toInt)) (fun o334 => ob (g155 o334.2 ((l.getD (v4 + 1).toNat 0).toInt) ((l.getD (v4 + 2).toNat 0).toInt)) (fun o336 => ob (g94 o336.2) (fun o338 => gd (inR o338) (gd (inR o334.1) (if o338 = o334.1 then if o334.1 = 0 then gd (inR o336.1) (if o336.1 = 0 then if (o336.2.O) = 0 then g172L23 l n (v4 + 5) o336.2 else some (.inr (0, o336.2)) else if (o336.2.O) = 1 then g172L23 l n (v4 + 5) o336.2 else some (.inr (0, o336.2))) else g172L23 l n (v4 + 5) o336.2 else some (.inr (0, o336.2))))))))) else if ((l.getD v4.toNat 0).toInt % 16) = 11 then ob (g14 S) (fun o349 => ob (g156 o349.2) (fun o351 => gd (inR o349.1) (gd (inR o351.1) (if o349.1 = o351.1 then g172L23 l n (v4 + 5) o351.2 else some (.inr (0, o351.2)))))) else if ((l.getD v4.toNat 0).toInt % 16) = 12 then gd (ixR (v4 + 1) l.length) (gd (ixR (v4 + 2) l.length) (gd (ixR (v4 + 3) l.length) (gd (ixR (v4 + 4) l.length) (ob (g170 S ((l.getD (v4 + 1).toNat 0).toInt) ((l.getD (v4 + 2).toNat 0).toInt) ((l.getD (v4 + 3).toNat 0).toInt) ((l.getD (v4 + 4).toNat 0).toInt)) (fun o361 => ob (g158 o361.2 ((l.getD (v4 + 1).toNat 0).toInt) ((l.getD (v4 + 2).toNat 0).toInt) ((l.getD (v4 + 3).toNat 0).toInt) ((l.getD (v4 + 4).toNat 0).toInt)) (fun o363 => ob (g94 o363.2) (fun o365 => gd (inR o365) (gd (inR o361.1) (if o365 = o361.1 then if o361.1 = 0 then if (o363.2.O) = (lI o363.1) then g172L23 l n (v4 + 5) o363.2 else some (.inr (0, o363.2)) else g172L23 l n (v4 + 5) o363.2 else some (.inr (0, o363.2))))))))))) else if ((l.getD v4.toNat 0).toInt % 16) = 13 then gd (ixR (v4 + 1) l.length) (ob (g171 S ((l.getD (v4 + 1).toNat 0).toInt)) (fun o374 => ob (g157 o374.2 ((l.getD (v4 + 1).toNat 0).toInt)) (fun o376 => ob (g94 o376.2) (fun o378 => gd (inR o378) (gd (inR o374.1) (if o378 = o374.1 then if o374.1 = 0 then if (o376.2.O) = (lI o376.1) then g172L23 l n (v4 + 5) o376.2 else some (.inr (0, o376.2)) else g172L23 l n (v4 + 5) o376.2 else some (.inr (0, o376.2)))))))) else g172L23 l n (v4 + 5) S))))
set_option maxRecDepth 100000 in
set_option maxHeartbeats 4000000 in
theorem g172L23_ok {l : List Int32} (hl : l.length < 2147483648) : ∀ (n : Nat) (v4 : Int) (S : St) (d5 d6 : Option Value) (_ : DD []) (out : Sum (St) (Int × St)), g172L23 l n v4 S = some out → ∀ r, (∀ o, out = .inl o → ∀ (e0 e1 e2 e3 e4 e5 e6 : Option Value), DD [] → Ru (some l) 2048 84000 172 (857, [e0, e1, e2, e3, e4, e5, e6], [], o.ns, Hp o) r) → (∀ o, out = .inr o → r = ((0, some (vI o.1)), o.2.ns, Hp o.2)) → Ru (some l) 2048 84000 172 (23, [some (.retAddr 0), some (.ref 0), some (.ref 36), some (.ref 71), some (vI v4), d5, d6], [], S.ns, Hp S) r := by
  intro n
  induction n with
  | zero => intro v4 S d5 d6 hdd out h; cases h
  | succ n ih =>
    intro v4 S d5 d6 hdd out h r hk hr
    unfold g172L23 at h
    refine Ru.op (q := (.iload 4, 2)) (S' := (25, _, _, _, _)) (by decide +kernel) rfl ?_
    refine Ru.op (q := (.aload_n 0, 1)) (S' := (26, _, _, _, _)) (by decide +kernel) rfl ?_
    refine Ru.slnI (pc' := 27) (z := (l.length : Int)) (by decide +kernel) rfl rfl ?_
    refine Ru.kI (q := (.iconst 5, 1)) (c := 5) (pc' := 28) (by decide +kernel) rfl (by decide) rfl ?_
    refine Ru.ar2 (i := .isub) (z := ((l.length : Int) - 5)) (pc' := 29) (by decide +kernel) rfl (ar_sub _ _) rfl ?_
    obtain ⟨g193, h⟩ := gd_some h
    obtain ⟨g194, h⟩ := gd_some h
    by_cases b195 : ((l.length : Int) - 5) < v4
    · replace h := if_t b195 h
      refine Ru.br2 (k := .gt) (off := 828) (bb := true) (tg := 857) (by decide +kernel) (by decide +kernel) (ci_gt1 g193 g194 b195) rfl ?_
      cases h
      exact hk _ rfl _ _ _ _ _ _ _ trivial
    · replace h := if_f b195 h
      refine Ru.br2 (k := .gt) (off := 828) (bb := false) (tg := 32) (by decide +kernel) (by decide +kernel) (ci_gt0 g193 g194 b195) rfl ?_
      refine Ru.op (q := (.aload_n 0, 1)) (S' := (33, _, _, _, _)) (by decide +kernel) rfl ?_
      refine Ru.op (q := (.iload 4, 2)) (S' := (35, _, _, _, _)) (by decide +kernel) rfl ?_
      obtain ⟨g196, h⟩ := gd_some h
      refine Ru.sldI (pc' := 36) (i := v4) (z := (l.getD v4.toNat 0).toInt) (by decide +kernel) g196 hl rfl rfl ?_
      refine Ru.kI (q := (.bipush 15, 2)) (c := 15) (pc' := 38) (by decide +kernel) rfl (by decide) rfl ?_
      refine Ru.ar2 (i := .iand) (z := ((l.getD v4.toNat 0).toInt % 16)) (pc' := 39) (by decide +kernel) rfl (ar_and15 _) rfl ?_
      obtain ⟨g197, h⟩ := gd_some h
      by_cases b198 : ((l.getD v4.toNat 0).toInt % 16) = 0
      · replace h := if_t b198 h
        refine Ru.sw (d := 812) (lo2 := 0) (hi := 13) (offs := #[69, 157, 170, 242, 255, 268, 312, 368, 452, 508, 576, 651, 664, 756]) (len := 69) (tg := 108) (by decide +kernel) (by rw [b198]; rfl) ?_
        obtain ⟨o199, e200, h⟩ := ob_some h
        refine gTy_ok hl e200 ?_
        intro d201 d202
        refine Ru.inc (k := 4) (n := 5) (x := v4) (z := (v4 + 5)) (xs' := [some (.retAddr 0), some (.ref 0), some (.ref 36), some (.ref 71), some (vI (v4 + 5)), d201, d202]) (pc' := 854) (by decide +kernel) rfl rfl rfl rfl ?_
        refine Ru.op (q := (.goto (-831), 3)) (S' := (23, _, _, _, _)) (by decide +kernel) rfl ?_
        exact ih _ _ _ _ trivial _ h r hk hr
      · replace h := if_f b198 h
        by_cases b203 : ((l.getD v4.toNat 0).toInt % 16) = 1
        · replace h := if_t b203 h
          refine Ru.sw (d := 812) (lo2 := 0) (hi := 13) (offs := #[69, 157, 170, 242, 255, 268, 312, 368, 452, 508, 576, 651, 664, 756]) (len := 69) (tg := 196) (by decide +kernel) (by rw [b203]; rfl) ?_
          refine Ru.op (q := (.aload_n 1, 1)) (S' := (197, _, _, _, _)) (by decide +kernel) rfl ?_
          obtain ⟨o204, e205, h⟩ := ob_some h
          refine Ru.vcallI (pc' := 200) (st' := [vI o204.1]) (i := 71) (j2 := 9) (ci := 0) (k := 0) (z := 0) (as := []) (by decide +kernel) (by decide +kernel) rfl rfl (hp0 _) (by decide) ⟨(Nat.le_of_ble_eq_true rfl), (by show 19 + 2 ≤ 84000; exact Nat.le_of_ble_eq_true rfl), Nat.le_of_ble_eq_true rfl, Nat.le_of_ble_eq_true rfl⟩ ((g9_ok e205).up (Nat.le_of_ble_eq_true rfl) (Nat.le_of_ble_eq_true rfl)) rfl rfl ?_
          refine Ru.op (q := (.aload_n 2, 1)) (S' := (201, _, _, _, _)) (by decide +kernel) rfl ?_
          obtain ⟨o206, e207, h⟩ := ob_some h
          refine Ru.vcallI (pc' := 204) (st' := [vI o206.1, vI o204.1]) (i := 74) (j2 := 96) (ci := 10) (k := 0) (z := 0) (as := []) (by decide +kernel) (by decide +kernel) rfl rfl (hp36 _) (by decide) ⟨(Nat.le_of_ble_eq_true rfl), (by show 19 + 2 ≤ 84000; exact Nat.le_of_ble_eq_true rfl), Nat.le_of_ble_eq_true rfl, Nat.le_of_ble_eq_true rfl⟩ ((g96_ok e207).up (Nat.le_of_ble_eq_true rfl) (Nat.le_of_ble_eq_true rfl)) rfl rfl ?_
          obtain ⟨g208, h⟩ := gd_some h
          obtain ⟨g209, h⟩ := gd_some h
          by_cases b210 : o204.1 = o206.1
          · replace h := if_t b210 h
            refine Ru.br2 (k := .eq) (off := 647) (bb := true) (tg := 851) (by decide +kernel) (by decide +kernel) (ci_eq1 g208 g209 b210) rfl ?_
            refine Ru.inc (k := 4) (n := 5) (x := v4) (z := (v4 + 5)) (xs' := [some (.retAddr 0), some (.ref 0), some (.ref 36), some (.ref 71), some (vI (v4 + 5)), d5, d6]) (pc' := 854) (by decide +kernel) rfl rfl rfl rfl ?_
            refine Ru.op (q := (.goto (-831), 3)) (S' := (23, _, _, _, _)) (by decide +kernel) rfl ?_
            exact ih _ _ _ _ trivial _ h r hk hr
          · replace h := if_f b210 h
            refine Ru.br2 (k := .eq) (off := 647) (bb := false) (tg := 207) (by decide +kernel) (by decide +kernel) (ci_eq0 g208 g209 b210) rfl ?_
            refine Ru.kI (q := (.iconst 0, 1)) (c := 0) (pc' := 208) (by decide +kernel) rfl (by decide) rfl ?_
            cases h
            have h9 := hr _ rfl
            subst h9
            exact Ru.iret (by decide +kernel) rfl (nar_b1 (by decide))
        · replace h := if_f b203 h
          by_cases b211 : ((l.getD v4.toNat 0).toInt % 16) = 2
          · replace h := if_t b211 h
            refine Ru.sw (d := 812) (lo2 := 0) (hi := 13) (offs := #[69, 157, 170, 242, 255, 268, 312, 368, 452, 508, 576, 651, 664, 756]) (len := 69) (tg := 209) (by decide +kernel) (by rw [b211]; rfl) ?_
            refine Ru.op (q := (.aload_n 1, 1)) (S' := (210, _, _, _, _)) (by decide +kernel) rfl ?_
            refine Ru.op (q := (.aload_n 0, 1)) (S' := (211, _, _, _, _)) (by decide +kernel) rfl ?_
            refine Ru.op (q := (.iload 4, 2)) (S' := (213, _, _, _, _)) (by decide +kernel) rfl ?_
            refine Ru.kI (q := (.iconst 1, 1)) (c := 1) (pc' := 214) (by decide +kernel) rfl (by decide) rfl ?_
            refine Ru.ar2 (i := .iadd) (z := (v4 + 1)) (pc' := 215) (by decide +kernel) rfl (ar_add _ _) rfl ?_
            obtain ⟨g212, h⟩ := gd_some h
            refine Ru.sldI (pc' := 216) (i := (v4 + 1)) (z := (l.getD (v4 + 1).toNat 0).toInt) (by decide +kernel) g212 hl rfl rfl ?_
            by_cases b213 : (l.getD (v4 + 1).toNat 0).toInt = 0
            · replace h := if_t b213 h
              refine Ru.br (k := .eq) (off := 7) (bb := true) (tg := 223) (by decide +kernel) (by decide +kernel) (cz (ci_eq1 (inR_to _) (by decide) b213)) rfl ?_
              refine Ru.kI (q := (.iconst 0, 1)) (c := 0) (pc' := 224) (by decide +kernel) rfl (by decide) rfl ?_
              refine Ru.op (q := (.aload_n 3, 1)) (S' := (225, _, _, _, _)) (by decide +kernel) rfl ?_
              obtain ⟨o214, e215, h⟩ := ob_some h
              refine Ru.callI (pc' := 228) (q := (.invokestatic 75, 3)) (j2 := 163) (as := [.ref 0, vI 0, .ref 71]) (st' := [vI o214.1]) (by decide +kernel) rfl rfl rfl rfl ⟨(Nat.le_of_ble_eq_true rfl), (by show 19 + 4 ≤ 84000; exact Nat.le_of_ble_eq_true rfl), Nat.le_of_ble_eq_true rfl, Nat.le_of_ble_eq_true rfl⟩ ((g163_ok e215).up (Nat.le_of_ble_eq_true rfl) (Nat.le_of_ble_eq_true rfl)) rfl rfl ?_
              refine Ru.op (q := (.istore 5, 2)) (S' := (230, [some (.retAddr 0), some (.ref 0), some (.ref 36), some (.ref 71), some (vI v4), some (vI o214.1), d6], [], _, _)) (by decide +kernel) rfl ?_
              refine Ru.op (q := (.aload_n 2, 1)) (S' := (231, _, _, _, _)) (by decide +kernel) rfl ?_
              refine Ru.op (q := (.aload_n 0, 1)) (S' := (232, _, _, _, _)) (by decide +kernel) rfl ?_
              refine Ru.op (q := (.iload 4, 2)) (S' := (234, _, _, _, _)) (by decide +kernel) rfl ?_
              refine Ru.kI (q := (.iconst 1, 1)) (c := 1) (pc' := 235) (by decide +kernel) rfl (by decide) rfl ?_
              refine Ru.ar2 (i := .iadd) (z := (v4 + 1)) (pc' := 236) (by decide +kernel) rfl (ar_add _ _) rfl ?_
              refine Ru.sldI (pc' := 237) (i := (v4 + 1)) (z := (l.getD (v4 + 1).toNat 0).toInt) (by decide +kernel) g212 hl rfl rfl ?_
              refine Ru.br (k := .eq) (off := 7) (bb := true) (tg := 244) (by decide +kernel) (by decide +kernel) (cz (ci_eq1 (inR_to _) (by decide) b213)) rfl ?_
              refine Ru.kI (q := (.iconst 0, 1)) (c := 0) (pc' := 245) (by decide +kernel) rfl (by decide) rfl ?_
              obtain ⟨o216, e217, h⟩ := ob_some h
              refine Ru.vcallI (pc' := 248) (st' := [vI o216.1]) (i := 78) (j2 := 98) (ci := 10) (k := 0) (z := 0) (as := [vI 0]) (by decide +kernel) (by decide +kernel) rfl rfl (hp36 _) (by decide) ⟨(Nat.le_of_ble_eq_true rfl), (by show 19 + 6 ≤ 84000; exact Nat.le_of_ble_eq_true rfl), Nat.le_of_ble_eq_true rfl, Nat.le_of_ble_eq_true rfl⟩ ((g98_ok e217).up (Nat.le_of_ble_eq_true rfl) (Nat.le_of_ble_eq_true rfl)) rfl rfl ?_
              refine Ru.op (q := (.istore 6, 2)) (S' := (250, [some (.retAddr 0), some (.ref 0), some (.ref 36), some (.ref 71), some (vI v4), some (vI o214.1), some (vI o216.1)], [], _, _)) (by decide +kernel) rfl ?_
              refine Ru.op (q := (.aload_n 2, 1)) (S' := (251, _, _, _, _)) (by decide +kernel) rfl ?_
              obtain ⟨o218, e219, h⟩ := ob_some h
              refine Ru.vcallI (pc' := 254) (st' := [vI o218]) (i := 68) (j2 := 94) (ci := 10) (k := 0) (z := 0) (as := []) (by decide +kernel) (by decide +kernel) rfl rfl (hp36 _) (by decide) ⟨(Nat.le_of_ble_eq_true rfl), (by show 19 + 1 ≤ 84000; exact Nat.le_of_ble_eq_true rfl), Nat.le_of_ble_eq_true rfl, Nat.le_of_ble_eq_true rfl⟩ ((g94_ok e219).up (Nat.le_of_ble_eq_true rfl) (Nat.le_of_ble_eq_true rfl)) rfl rfl ?_
              refine Ru.op (q := (.iload 5, 2)) (S' := (256, _, _, _, _)) (by decide +kernel) rfl ?_
              obtain ⟨g220, h⟩ := gd_some h
              obtain ⟨g221, h⟩ := gd_some h
              by_cases b222 : o218 = o214.1
              · replace h := if_t b222 h
                refine Ru.br2 (k := .eq) (off := 5) (bb := true) (tg := 261) (by decide +kernel) (by decide +kernel) (ci_eq1 g220 g221 b222) rfl ?_
                refine Ru.op (q := (.iload 5, 2)) (S' := (263, _, _, _, _)) (by decide +kernel) rfl ?_
                by_cases b223 : o214.1 = 0
                · replace h := if_t b223 h
                  refine Ru.br (k := .ne) (off := 15) (bb := false) (tg := 266) (by decide +kernel) (by decide +kernel) (cz (ci_ne0 g221 (by decide) b223)) rfl ?_
                  refine Ru.op (q := (.aload_n 3, 1)) (S' := (267, _, _, _, _)) (by decide +kernel) rfl ?_
                  refine Ru.kI (q := (.iconst 0, 1)) (c := 0) (pc' := 268) (by decide +kernel) rfl (by decide) rfl ?_
                  refine Ru.lld (S := o216.2) (pc' := 269) (by decide +kernel) rfl ?_
                  refine Ru.op (q := (.iload 6, 2)) (S' := (271, _, _, _, _)) (by decide +kernel) rfl ?_
                  refine Ru.i2l (x := o216.1) (pc' := 272) (by decide +kernel) rfl ?_
                  refine Ru.lcm (pc' := 273) (by decide +kernel) rfl ?_
                  by_cases b224 : (o216.2.O) = (lI o216.1)
                  · replace h := if_t b224 h
                    refine Ru.br (k := .eq) (off := 5) (bb := true) (tg := 278) (by decide +kernel) (by decide +kernel) (lg_1 b224) rfl ?_
                    refine Ru.op (q := (.goto 573, 3)) (S' := (851, _, _, _, _)) (by decide +kernel) rfl ?_
                    refine Ru.inc (k := 4) (n := 5) (x := v4) (z := (v4 + 5)) (xs' := [some (.retAddr 0), some (.ref 0), some (.ref 36), some (.ref 71), some (vI (v4 + 5)), some (vI o214.1), some (vI o216.1)]) (pc' := 854) (by decide +kernel) rfl rfl rfl rfl ?_
                    refine Ru.op (q := (.goto (-831), 3)) (S' := (23, _, _, _, _)) (by decide +kernel) rfl ?_
                    exact ih _ _ _ _ trivial _ h r hk hr
                  · replace h := if_f b224 h
                    refine Ru.br (k := .eq) (off := 5) (bb := false) (tg := 276) (by decide +kernel) (by decide +kernel) (lg_0 b224) rfl ?_
                    refine Ru.kI (q := (.iconst 0, 1)) (c := 0) (pc' := 277) (by decide +kernel) rfl (by decide) rfl ?_
                    cases h
                    have h9 := hr _ rfl
                    subst h9
                    exact Ru.iret (by decide +kernel) rfl (nar_b1 (by decide))
                · replace h := if_f b223 h
                  refine Ru.br (k := .ne) (off := 15) (bb := true) (tg := 278) (by decide +kernel) (by decide +kernel) (cz (ci_ne1 g221 (by decide) b223)) rfl ?_
                  refine Ru.op (q := (.goto 573, 3)) (S' := (851, _, _, _, _)) (by decide +kernel) rfl ?_
                  refine Ru.inc (k := 4) (n := 5) (x := v4) (z := (v4 + 5)) (xs' := [some (.retAddr 0), some (.ref 0), some (.ref 36), some (.ref 71), some (vI (v4 + 5)), some (vI o214.1), some (vI o216.1)]) (pc' := 854) (by decide +kernel) rfl rfl rfl rfl ?_
                  refine Ru.op (q := (.goto (-831), 3)) (S' := (23, _, _, _, _)) (by decide +kernel) rfl ?_
                  exact ih _ _ _ _ trivial _ h r hk hr
              · replace h := if_f b222 h
                refine Ru.br2 (k := .eq) (off := 5) (bb := false) (tg := 259) (by decide +kernel) (by decide +kernel) (ci_eq0 g220 g221 b222) rfl ?_
                refine Ru.kI (q := (.iconst 0, 1)) (c := 0) (pc' := 260) (by decide +kernel) rfl (by decide) rfl ?_
                cases h
                have h9 := hr _ rfl
                subst h9
                exact Ru.iret (by decide +kernel) rfl (nar_b1 (by decide))
            · replace h := if_f b213 h
              refine Ru.br (k := .eq) (off := 7) (bb := false) (tg := 219) (by decide +kernel) (by decide +kernel) (cz (ci_eq0 (inR_to _) (by decide) b213)) rfl ?_
              refine Ru.kI (q := (.iconst 1, 1)) (c := 1) (pc' := 220) (by decide +kernel) rfl (by decide) rfl ?_
              refine Ru.op (q := (.goto 4, 3)) (S' := (224, _, _, _, _)) (by decide +kernel) rfl ?_
              refine Ru.op (q := (.aload_n 3, 1)) (S' := (225, _, _, _, _)) (by decide +kernel) rfl ?_
              obtain ⟨o225, e226, h⟩ := ob_some h
              refine Ru.callI (pc' := 228) (q := (.invokestatic 75, 3)) (j2 := 163) (as := [.ref 0, vI 1, .ref 71]) (st' := [vI o225.1]) (by decide +kernel) rfl rfl rfl rfl ⟨(Nat.le_of_ble_eq_true rfl), (by show 19 + 4 ≤ 84000; exact Nat.le_of_ble_eq_true rfl), Nat.le_of_ble_eq_true rfl, Nat.le_of_ble_eq_true rfl⟩ ((g163_ok e226).up (Nat.le_of_ble_eq_true rfl) (Nat.le_of_ble_eq_true rfl)) rfl rfl ?_
              refine Ru.op (q := (.istore 5, 2)) (S' := (230, [some (.retAddr 0), some (.ref 0), some (.ref 36), some (.ref 71), some (vI v4), some (vI o225.1), d6], [], _, _)) (by decide +kernel) rfl ?_
              refine Ru.op (q := (.aload_n 2, 1)) (S' := (231, _, _, _, _)) (by decide +kernel) rfl ?_
              refine Ru.op (q := (.aload_n 0, 1)) (S' := (232, _, _, _, _)) (by decide +kernel) rfl ?_
              refine Ru.op (q := (.iload 4, 2)) (S' := (234, _, _, _, _)) (by decide +kernel) rfl ?_
              refine Ru.kI (q := (.iconst 1, 1)) (c := 1) (pc' := 235) (by decide +kernel) rfl (by decide) rfl ?_
              refine Ru.ar2 (i := .iadd) (z := (v4 + 1)) (pc' := 236) (by decide +kernel) rfl (ar_add _ _) rfl ?_
              refine Ru.sldI (pc' := 237) (i := (v4 + 1)) (z := (l.getD (v4 + 1).toNat 0).toInt) (by decide +kernel) g212 hl rfl rfl ?_
              refine Ru.br (k := .eq) (off := 7) (bb := false) (tg := 240) (by decide +kernel) (by decide +kernel) (cz (ci_eq0 (inR_to _) (by decide) b213)) rfl ?_
              refine Ru.kI (q := (.iconst 1, 1)) (c := 1) (pc' := 241) (by decide +kernel) rfl (by decide) rfl ?_
              refine Ru.op (q := (.goto 4, 3)) (S' := (245, _, _, _, _)) (by decide +kernel) rfl ?_
              obtain ⟨o227, e228, h⟩ := ob_some h
              refine Ru.vcallI (pc' := 248) (st' := [vI o227.1]) (i := 78) (j2 := 98) (ci := 10) (k := 0) (z := 0) (as := [vI 1]) (by decide +kernel) (by decide +kernel) rfl rfl (hp36 _) (by decide) ⟨(Nat.le_of_ble_eq_true rfl), (by show 19 + 6 ≤ 84000; exact Nat.le_of_ble_eq_true rfl), Nat.le_of_ble_eq_true rfl, Nat.le_of_ble_eq_true rfl⟩ ((g98_ok e228).up (Nat.le_of_ble_eq_true rfl) (Nat.le_of_ble_eq_true rfl)) rfl rfl ?_
              refine Ru.op (q := (.istore 6, 2)) (S' := (250, [some (.retAddr 0), some (.ref 0), some (.ref 36), some (.ref 71), some (vI v4), some (vI o225.1), some (vI o227.1)], [], _, _)) (by decide +kernel) rfl ?_
              refine Ru.op (q := (.aload_n 2, 1)) (S' := (251, _, _, _, _)) (by decide +kernel) rfl ?_
              obtain ⟨o229, e230, h⟩ := ob_some h
              refine Ru.vcallI (pc' := 254) (st' := [vI o229]) (i := 68) (j2 := 94) (ci := 10) (k := 0) (z := 0) (as := []) (by decide +kernel) (by decide +kernel) rfl rfl (hp36 _) (by decide) ⟨(Nat.le_of_ble_eq_true rfl), (by show 19 + 1 ≤ 84000; exact Nat.le_of_ble_eq_true rfl), Nat.le_of_ble_eq_true rfl, Nat.le_of_ble_eq_true rfl⟩ ((g94_ok e230).up (Nat.le_of_ble_eq_true rfl) (Nat.le_of_ble_eq_true rfl)) rfl rfl ?_
              refine Ru.op (q := (.iload 5, 2)) (S' := (256, _, _, _, _)) (by decide +kernel) rfl ?_
              obtain ⟨g231, h⟩ := gd_some h
              obtain ⟨g232, h⟩ := gd_some h
              by_cases b233 : o229 = o225.1
              · replace h := if_t b233 h
                refine Ru.br2 (k := .eq) (off := 5) (bb := true) (tg := 261) (by decide +kernel) (by decide +kernel) (ci_eq1 g231 g232 b233) rfl ?_
                refine Ru.op (q := (.iload 5, 2)) (S' := (263, _, _, _, _)) (by decide +kernel) rfl ?_
                by_cases b234 : o225.1 = 0
                · replace h := if_t b234 h
                  refine Ru.br (k := .ne) (off := 15) (bb := false) (tg := 266) (by decide +kernel) (by decide +kernel) (cz (ci_ne0 g232 (by decide) b234)) rfl ?_
                  refine Ru.op (q := (.aload_n 3, 1)) (S' := (267, _, _, _, _)) (by decide +kernel) rfl ?_
                  refine Ru.kI (q := (.iconst 0, 1)) (c := 0) (pc' := 268) (by decide +kernel) rfl (by decide) rfl ?_
                  refine Ru.lld (S := o227.2) (pc' := 269) (by decide +kernel) rfl ?_
                  refine Ru.op (q := (.iload 6, 2)) (S' := (271, _, _, _, _)) (by decide +kernel) rfl ?_
                  refine Ru.i2l (x := o227.1) (pc' := 272) (by decide +kernel) rfl ?_
                  refine Ru.lcm (pc' := 273) (by decide +kernel) rfl ?_
                  by_cases b235 : (o227.2.O) = (lI o227.1)
                  · replace h := if_t b235 h
                    refine Ru.br (k := .eq) (off := 5) (bb := true) (tg := 278) (by decide +kernel) (by decide +kernel) (lg_1 b235) rfl ?_
                    refine Ru.op (q := (.goto 573, 3)) (S' := (851, _, _, _, _)) (by decide +kernel) rfl ?_
                    refine Ru.inc (k := 4) (n := 5) (x := v4) (z := (v4 + 5)) (xs' := [some (.retAddr 0), some (.ref 0), some (.ref 36), some (.ref 71), some (vI (v4 + 5)), some (vI o225.1), some (vI o227.1)]) (pc' := 854) (by decide +kernel) rfl rfl rfl rfl ?_
                    refine Ru.op (q := (.goto (-831), 3)) (S' := (23, _, _, _, _)) (by decide +kernel) rfl ?_
                    exact ih _ _ _ _ trivial _ h r hk hr
                  · replace h := if_f b235 h
                    refine Ru.br (k := .eq) (off := 5) (bb := false) (tg := 276) (by decide +kernel) (by decide +kernel) (lg_0 b235) rfl ?_
                    refine Ru.kI (q := (.iconst 0, 1)) (c := 0) (pc' := 277) (by decide +kernel) rfl (by decide) rfl ?_
                    cases h
                    have h9 := hr _ rfl
                    subst h9
                    exact Ru.iret (by decide +kernel) rfl (nar_b1 (by decide))
                · replace h := if_f b234 h
                  refine Ru.br (k := .ne) (off := 15) (bb := true) (tg := 278) (by decide +kernel) (by decide +kernel) (cz (ci_ne1 g232 (by decide) b234)) rfl ?_
                  refine Ru.op (q := (.goto 573, 3)) (S' := (851, _, _, _, _)) (by decide +kernel) rfl ?_
                  refine Ru.inc (k := 4) (n := 5) (x := v4) (z := (v4 + 5)) (xs' := [some (.retAddr 0), some (.ref 0), some (.ref 36), some (.ref 71), some (vI (v4 + 5)), some (vI o225.1), some (vI o227.1)]) (pc' := 854) (by decide +kernel) rfl rfl rfl rfl ?_
                  refine Ru.op (q := (.goto (-831), 3)) (S' := (23, _, _, _, _)) (by decide +kernel) rfl ?_
                  exact ih _ _ _ _ trivial _ h r hk hr
              · replace h := if_f b233 h
                refine Ru.br2 (k := .eq) (off := 5) (bb := false) (tg := 259) (by decide +kernel) (by decide +kernel) (ci_eq0 g231 g232 b233) rfl ?_
                refine Ru.kI (q := (.iconst 0, 1)) (c := 0) (pc' := 260) (by decide +kernel) rfl (by decide) rfl ?_
                cases h
                have h9 := hr _ rfl
                subst h9
                exact Ru.iret (by decide +kernel) rfl (nar_b1 (by decide))
          · replace h := if_f b211 h
            by_cases b236 : ((l.getD v4.toNat 0).toInt % 16) = 3
            · replace h := if_t b236 h
              refine Ru.sw (d := 812) (lo2 := 0) (hi := 13) (offs := #[69, 157, 170, 242, 255, 268, 312, 368, 452, 508, 576, 651, 664, 756]) (len := 69) (tg := 281) (by decide +kernel) (by rw [b236]; rfl) ?_
              refine Ru.op (q := (.aload_n 1, 1)) (S' := (282, _, _, _, _)) (by decide +kernel) rfl ?_
              obtain ⟨o237, e238, h⟩ := ob_some h
              refine Ru.vcallI (pc' := 285) (st' := [vI o237]) (i := 79) (j2 := 10) (ci := 0) (k := 0) (z := 0) (as := []) (by decide +kernel) (by decide +kernel) rfl rfl (hp0 _) (by decide) ⟨(Nat.le_of_ble_eq_true rfl), (by show 19 + 1 ≤ 84000; exact Nat.le_of_ble_eq_true rfl), Nat.le_of_ble_eq_true rfl, Nat.le_of_ble_eq_true rfl⟩ ((g10_ok e238).up (Nat.le_of_ble_eq_true rfl) (Nat.le_of_ble_eq_true rfl)) rfl rfl ?_
              refine Ru.op (q := (.aload_n 2, 1)) (S' := (286, _, _, _, _)) (by decide +kernel) rfl ?_
              obtain ⟨o239, e240, h⟩ := ob_some h
              refine Ru.vcallI (pc' := 289) (st' := [vI o239.1, vI o237]) (i := 82) (j2 := 97) (ci := 10) (k := 0) (z := 0) (as := []) (by decide +kernel) (by decide +kernel) rfl rfl (hp36 _) (by decide) ⟨(Nat.le_of_ble_eq_true rfl), (by show 19 + 1 ≤ 84000; exact Nat.le_of_ble_eq_true rfl), Nat.le_of_ble_eq_true rfl, Nat.le_of_ble_eq_true rfl⟩ ((g97_ok e240).up (Nat.le_of_ble_eq_true rfl) (Nat.le_of_ble_eq_true rfl)) rfl rfl ?_
              obtain ⟨g241, h⟩ := gd_some h
              obtain ⟨g242, h⟩ := gd_some h
              by_cases b243 : o237 = o239.1
              · replace h := if_t b243 h
                refine Ru.br2 (k := .eq) (off := 562) (bb := true) (tg := 851) (by decide +kernel) (by decide +kernel) (ci_eq1 g241 g242 b243) rfl ?_
                refine Ru.inc (k := 4) (n := 5) (x := v4) (z := (v4 + 5)) (xs' := [some (.retAddr 0), some (.ref 0), some (.ref 36), some (.ref 71), some (vI (v4 + 5)), d5, d6]) (pc' := 854) (by decide +kernel) rfl rfl rfl rfl ?_
                refine Ru.op (q := (.goto (-831), 3)) (S' := (23, _, _, _, _)) (by decide +kernel) rfl ?_
                exact ih _ _ _ _ trivial _ h r hk hr
              · replace h := if_f b243 h
                refine Ru.br2 (k := .eq) (off := 562) (bb := false) (tg := 292) (by decide +kernel) (by decide +kernel) (ci_eq0 g241 g242 b243) rfl ?_
                refine Ru.kI (q := (.iconst 0, 1)) (c := 0) (pc' := 293) (by decide +kernel) rfl (by decide) rfl ?_
                cases h
                have h9 := hr _ rfl
                subst h9
                exact Ru.iret (by decide +kernel) rfl (nar_b1 (by decide))
            · replace h := if_f b236 h
              by_cases b244 : ((l.getD v4.toNat 0).toInt % 16) = 4
              · replace h := if_t b244 h
                refine Ru.sw (d := 812) (lo2 := 0) (hi := 13) (offs := #[69, 157, 170, 242, 255, 268, 312, 368, 452, 508, 576, 651, 664, 756]) (len := 69) (tg := 294) (by decide +kernel) (by rw [b244]; rfl) ?_
                refine Ru.op (q := (.aload_n 1, 1)) (S' := (295, _, _, _, _)) (by decide +kernel) rfl ?_
                obtain ⟨o245, e246, h⟩ := ob_some h
                refine Ru.vcallI (pc' := 298) (st' := [vI o245]) (i := 83) (j2 := 11) (ci := 0) (k := 0) (z := 0) (as := []) (by decide +kernel) (by decide +kernel) rfl rfl (hp0 _) (by decide) ⟨(Nat.le_of_ble_eq_true rfl), (by show 19 + 1 ≤ 84000; exact Nat.le_of_ble_eq_true rfl), Nat.le_of_ble_eq_true rfl, Nat.le_of_ble_eq_true rfl⟩ ((g11_ok e246).up (Nat.le_of_ble_eq_true rfl) (Nat.le_of_ble_eq_true rfl)) rfl rfl ?_
                refine Ru.op (q := (.aload_n 2, 1)) (S' := (299, _, _, _, _)) (by decide +kernel) rfl ?_
                obtain ⟨o247, e248, h⟩ := ob_some h
                refine Ru.vcallI (pc' := 302) (st' := [vI o247.1, vI o245]) (i := 86) (j2 := 133) (ci := 10) (k := 0) (z := 0) (as := []) (by decide +kernel) (by decide +kernel) rfl rfl (hp36 _) (by decide) ⟨(Nat.le_of_ble_eq_true rfl), (by show 19 + 1 ≤ 84000; exact Nat.le_of_ble_eq_true rfl), Nat.le_of_ble_eq_true rfl, Nat.le_of_ble_eq_true rfl⟩ ((g133_ok e248).up (Nat.le_of_ble_eq_true rfl) (Nat.le_of_ble_eq_true rfl)) rfl rfl ?_
                obtain ⟨g249, h⟩ := gd_some h
                obtain ⟨g250, h⟩ := gd_some h
                by_cases b251 : o245 = o247.1
                · replace h := if_t b251 h
                  refine Ru.br2 (k := .eq) (off := 549) (bb := true) (tg := 851) (by decide +kernel) (by decide +kernel) (ci_eq1 g249 g250 b251) rfl ?_
                  refine Ru.inc (k := 4) (n := 5) (x := v4) (z := (v4 + 5)) (xs' := [some (.retAddr 0), some (.ref 0), some (.ref 36), some (.ref 71), some (vI (v4 + 5)), d5, d6]) (pc' := 854) (by decide +kernel) rfl rfl rfl rfl ?_
                  refine Ru.op (q := (.goto (-831), 3)) (S' := (23, _, _, _, _)) (by decide +kernel) rfl ?_
                  exact ih _ _ _ _ trivial _ h r hk hr
                · replace h := if_f b251 h
                  refine Ru.br2 (k := .eq) (off := 549) (bb := false) (tg := 305) (by decide +kernel) (by decide +kernel) (ci_eq0 g249 g250 b251) rfl ?_
                  refine Ru.kI (q := (.iconst 0, 1)) (c := 0) (pc' := 306) (by decide +kernel) rfl (by decide) rfl ?_
                  cases h
                  have h9 := hr _ rfl
                  subst h9
                  exact Ru.iret (by decide +kernel) rfl (nar_b1 (by decide))
              · replace h := if_f b244 h
                by_cases b252 : ((l.getD v4.toNat 0).toInt % 16) = 5
                · replace h := if_t b252 h
                  refine Ru.sw (d := 812) (lo2 := 0) (hi := 13) (offs := #[69, 157, 170, 242, 255, 268, 312, 368, 452, 508, 576, 651, 664, 756]) (len := 69) (tg := 307) (by decide +kernel) (by rw [b252]; rfl) ?_
                  refine Ru.op (q := (.aload_n 1, 1)) (S' := (308, _, _, _, _)) (by decide +kernel) rfl ?_
                  refine Ru.op (q := (.aload_n 3, 1)) (S' := (309, _, _, _, _)) (by decide +kernel) rfl ?_
                  obtain ⟨o253, e254, h⟩ := ob_some h
                  refine Ru.callI (pc' := 312) (q := (.invokestatic 87, 3)) (j2 := 164) (as := [.ref 0, .ref 71]) (st' := [vI o253.1]) (by decide +kernel) rfl rfl rfl rfl ⟨(Nat.le_of_ble_eq_true rfl), (by show 19 + 3 ≤ 84000; exact Nat.le_of_ble_eq_true rfl), Nat.le_of_ble_eq_true rfl, Nat.le_of_ble_eq_true rfl⟩ ((g164_ok e254).up (Nat.le_of_ble_eq_true rfl) (Nat.le_of_ble_eq_true rfl)) rfl rfl ?_
                  refine Ru.op (q := (.istore 5, 2)) (S' := (314, [some (.retAddr 0), some (.ref 0), some (.ref 36), some (.ref 71), some (vI v4), some (vI o253.1), d6], [], _, _)) (by decide +kernel) rfl ?_
                  refine Ru.op (q := (.aload_n 2, 1)) (S' := (315, _, _, _, _)) (by decide +kernel) rfl ?_
                  obtain ⟨o255, e256, h⟩ := ob_some h
                  refine Ru.vcallI (pc' := 318) (st' := [vI o255.1]) (i := 90) (j2 := 136) (ci := 10) (k := 0) (z := 0) (as := []) (by decide +kernel) (by decide +kernel) rfl rfl (hp36 _) (by decide) ⟨(Nat.le_of_ble_eq_true rfl), (by show 19 + 1 ≤ 84000; exact Nat.le_of_ble_eq_true rfl), Nat.le_of_ble_eq_true rfl, Nat.le_of_ble_eq_true rfl⟩ ((g136_ok e256).up (Nat.le_of_ble_eq_true rfl) (Nat.le_of_ble_eq_true rfl)) rfl rfl ?_
                  refine Ru.op (q := (.istore 6, 2)) (S' := (320, [some (.retAddr 0), some (.ref 0), some (.ref 36), some (.ref 71), some (vI v4), some (vI o253.1), some (vI o255.1)], [], _, _)) (by decide +kernel) rfl ?_
                  refine Ru.op (q := (.aload_n 2, 1)) (S' := (321, _, _, _, _)) (by decide +kernel) rfl ?_
                  obtain ⟨o257, e258, h⟩ := ob_some h
                  refine Ru.vcallI (pc' := 324) (st' := [vI o257]) (i := 68) (j2 := 94) (ci := 10) (k := 0) (z := 0) (as := []) (by decide +kernel) (by decide +kernel) rfl rfl (hp36 _) (by decide) ⟨(Nat.le_of_ble_eq_true rfl), (by show 19 + 1 ≤ 84000; exact Nat.le_of_ble_eq_true rfl), Nat.le_of_ble_eq_true rfl, Nat.le_of_ble_eq_true rfl⟩ ((g94_ok e258).up (Nat.le_of_ble_eq_true rfl) (Nat.le_of_ble_eq_true rfl)) rfl rfl ?_
                  refine Ru.op (q := (.iload 5, 2)) (S' := (326, _, _, _, _)) (by decide +kernel) rfl ?_
                  obtain ⟨g259, h⟩ := gd_some h
                  obtain ⟨g260, h⟩ := gd_some h
                  by_cases b261 : o257 = o253.1
                  · replace h := if_t b261 h
                    refine Ru.br2 (k := .eq) (off := 5) (bb := true) (tg := 331) (by decide +kernel) (by decide +kernel) (ci_eq1 g259 g260 b261) rfl ?_
                    refine Ru.op (q := (.iload 5, 2)) (S' := (333, _, _, _, _)) (by decide +kernel) rfl ?_
                    by_cases b262 : o253.1 = 0
                    · replace h := if_t b262 h
                      refine Ru.br (k := .ne) (off := 15) (bb := false) (tg := 336) (by decide +kernel) (by decide +kernel) (cz (ci_ne0 g260 (by decide) b262)) rfl ?_
                      refine Ru.op (q := (.aload_n 3, 1)) (S' := (337, _, _, _, _)) (by decide +kernel) rfl ?_
                      refine Ru.kI (q := (.iconst 0, 1)) (c := 0) (pc' := 338) (by decide +kernel) rfl (by decide) rfl ?_
                      refine Ru.lld (S := o255.2) (pc' := 339) (by decide +kernel) rfl ?_
                      refine Ru.op (q := (.iload 6, 2)) (S' := (341, _, _, _, _)) (by decide +kernel) rfl ?_
                      refine Ru.i2l (x := o255.1) (pc' := 342) (by decide +kernel) rfl ?_
                      refine Ru.lcm (pc' := 343) (by decide +kernel) rfl ?_
                      by_cases b263 : (o255.2.O) = (lI o255.1)
                      · replace h := if_t b263 h
                        refine Ru.br (k := .eq) (off := 5) (bb := true) (tg := 348) (by decide +kernel) (by decide +kernel) (lg_1 b263) rfl ?_
                        refine Ru.op (q := (.goto 503, 3)) (S' := (851, _, _, _, _)) (by decide +kernel) rfl ?_
                        refine Ru.inc (k := 4) (n := 5) (x := v4) (z := (v4 + 5)) (xs' := [some (.retAddr 0), some (.ref 0), some (.ref 36), some (.ref 71), some (vI (v4 + 5)), some (vI o253.1), some (vI o255.1)]) (pc' := 854) (by decide +kernel) rfl rfl rfl rfl ?_
                        refine Ru.op (q := (.goto (-831), 3)) (S' := (23, _, _, _, _)) (by decide +kernel) rfl ?_
                        exact ih _ _ _ _ trivial _ h r hk hr
                      · replace h := if_f b263 h
                        refine Ru.br (k := .eq) (off := 5) (bb := false) (tg := 346) (by decide +kernel) (by decide +kernel) (lg_0 b263) rfl ?_
                        refine Ru.kI (q := (.iconst 0, 1)) (c := 0) (pc' := 347) (by decide +kernel) rfl (by decide) rfl ?_
                        cases h
                        have h9 := hr _ rfl
                        subst h9
                        exact Ru.iret (by decide +kernel) rfl (nar_b1 (by decide))
                    · replace h := if_f b262 h
                      refine Ru.br (k := .ne) (off := 15) (bb := true) (tg := 348) (by decide +kernel) (by decide +kernel) (cz (ci_ne1 g260 (by decide) b262)) rfl ?_
                      refine Ru.op (q := (.goto 503, 3)) (S' := (851, _, _, _, _)) (by decide +kernel) rfl ?_
                      refine Ru.inc (k := 4) (n := 5) (x := v4) (z := (v4 + 5)) (xs' := [some (.retAddr 0), some (.ref 0), some (.ref 36), some (.ref 71), some (vI (v4 + 5)), some (vI o253.1), some (vI o255.1)]) (pc' := 854) (by decide +kernel) rfl rfl rfl rfl ?_
                      refine Ru.op (q := (.goto (-831), 3)) (S' := (23, _, _, _, _)) (by decide +kernel) rfl ?_
                      exact ih _ _ _ _ trivial _ h r hk hr
                  · replace h := if_f b261 h
                    refine Ru.br2 (k := .eq) (off := 5) (bb := false) (tg := 329) (by decide +kernel) (by decide +kernel) (ci_eq0 g259 g260 b261) rfl ?_
                    refine Ru.kI (q := (.iconst 0, 1)) (c := 0) (pc' := 330) (by decide +kernel) rfl (by decide) rfl ?_
                    cases h
                    have h9 := hr _ rfl
                    subst h9
                    exact Ru.iret (by decide +kernel) rfl (nar_b1 (by decide))
                · replace h := if_f b252 h
                  by_cases b264 : ((l.getD v4.toNat 0).toInt % 16) = 6
                  · replace h := if_t b264 h
                    refine Ru.sw (d := 812) (lo2 := 0) (hi := 13) (offs := #[69, 157, 170, 242, 255, 268, 312, 368, 452, 508, 576, 651, 664, 756]) (len := 69) (tg := 351) (by decide +kernel) (by rw [b264]; rfl) ?_
                    refine Ru.op (q := (.aload_n 1, 1)) (S' := (352, _, _, _, _)) (by decide +kernel) rfl ?_
                    refine Ru.op (q := (.aload_n 0, 1)) (S' := (353, _, _, _, _)) (by decide +kernel) rfl ?_
                    refine Ru.op (q := (.iload 4, 2)) (S' := (355, _, _, _, _)) (by decide +kernel) rfl ?_
                    refine Ru.kI (q := (.iconst 1, 1)) (c := 1) (pc' := 356) (by decide +kernel) rfl (by decide) rfl ?_
                    refine Ru.ar2 (i := .iadd) (z := (v4 + 1)) (pc' := 357) (by decide +kernel) rfl (ar_add _ _) rfl ?_
                    obtain ⟨g265, h⟩ := gd_some h
                    refine Ru.sldI (pc' := 358) (i := (v4 + 1)) (z := (l.getD (v4 + 1).toNat 0).toInt) (by decide +kernel) g265 hl rfl rfl ?_
                    refine Ru.op (q := (.aload_n 3, 1)) (S' := (359, _, _, _, _)) (by decide +kernel) rfl ?_
                    obtain ⟨o266, e267, h⟩ := ob_some h
                    refine Ru.callI (pc' := 362) (q := (.invokestatic 91, 3)) (j2 := 165) (as := [.ref 0, vI ((l.getD (v4 + 1).toNat 0).toInt), .ref 71]) (st' := [vI o266.1]) (by decide +kernel) rfl rfl rfl rfl ⟨(Nat.le_of_ble_eq_true rfl), (by show 19 + 4 ≤ 84000; exact Nat.le_of_ble_eq_true rfl), Nat.le_of_ble_eq_true rfl, Nat.le_of_ble_eq_true rfl⟩ ((g165_ok e267).up (Nat.le_of_ble_eq_true rfl) (Nat.le_of_ble_eq_true rfl)) rfl rfl ?_
                    refine Ru.op (q := (.istore 5, 2)) (S' := (364, [some (.retAddr 0), some (.ref 0), some (.ref 36), some (.ref 71), some (vI v4), some (vI o266.1), d6], [], _, _)) (by decide +kernel) rfl ?_
                    refine Ru.op (q := (.aload_n 2, 1)) (S' := (365, _, _, _, _)) (by decide +kernel) rfl ?_
                    refine Ru.op (q := (.aload_n 0, 1)) (S' := (366, _, _, _, _)) (by decide +kernel) rfl ?_
                    refine Ru.op (q := (.iload 4, 2)) (S' := (368, _, _, _, _)) (by decide +kernel) rfl ?_
                    refine Ru.kI (q := (.iconst 1, 1)) (c := 1) (pc' := 369) (by decide +kernel) rfl (by decide) rfl ?_
                    refine Ru.ar2 (i := .iadd) (z := (v4 + 1)) (pc' := 370) (by decide +kernel) rfl (ar_add _ _) rfl ?_
                    refine Ru.sldI (pc' := 371) (i := (v4 + 1)) (z := (l.getD (v4 + 1).toNat 0).toInt) (by decide +kernel) g265 hl rfl rfl ?_
                    obtain ⟨o268, e269, h⟩ := ob_some h
                    refine Ru.vcallI (pc' := 374) (st' := [vI o268.1]) (i := 94) (j2 := 147) (ci := 10) (k := 0) (z := 0) (as := [vI ((l.getD (v4 + 1).toNat 0).toInt)]) (by decide +kernel) (by decide +kernel) rfl rfl (hp36 _) (by decide) ⟨(Nat.le_of_ble_eq_true rfl), (by show 19 + 4 ≤ 84000; exact Nat.le_of_ble_eq_true rfl), Nat.le_of_ble_eq_true rfl, Nat.le_of_ble_eq_true rfl⟩ ((g147_ok e269).up (Nat.le_of_ble_eq_true rfl) (Nat.le_of_ble_eq_true rfl)) rfl rfl ?_
                    refine Ru.op (q := (.istore 6, 2)) (S' := (376, [some (.retAddr 0), some (.ref 0), some (.ref 36), some (.ref 71), some (vI v4), some (vI o266.1), some (vI o268.1)], [], _, _)) (by decide +kernel) rfl ?_
                    refine Ru.op (q := (.aload_n 2, 1)) (S' := (377, _, _, _, _)) (by decide +kernel) rfl ?_
                    obtain ⟨o270, e271, h⟩ := ob_some h
                    refine Ru.vcallI (pc' := 380) (st' := [vI o270]) (i := 68) (j2 := 94) (ci := 10) (k := 0) (z := 0) (as := []) (by decide +kernel) (by decide +kernel) rfl rfl (hp36 _) (by decide) ⟨(Nat.le_of_ble_eq_true rfl), (by show 19 + 1 ≤ 84000; exact Nat.le_of_ble_eq_true rfl), Nat.le_of_ble_eq_true rfl, Nat.le_of_ble_eq_true rfl⟩ ((g94_ok e271).up (Nat.le_of_ble_eq_true rfl) (Nat.le_of_ble_eq_true rfl)) rfl rfl ?_
                    refine Ru.op (q := (.iload 5, 2)) (S' := (382, _, _, _, _)) (by decide +kernel) rfl ?_
                    obtain ⟨g272, h⟩ := gd_some h
                    obtain ⟨g273, h⟩ := gd_some h
                    by_cases b274 : o270 = o266.1
                    · replace h := if_t b274 h
                      refine Ru.br2 (k := .eq) (off := 5) (bb := true) (tg := 387) (by decide +kernel) (by decide +kernel) (ci_eq1 g272 g273 b274) rfl ?_
                      refine Ru.op (q := (.iload 5, 2)) (S' := (389, _, _, _, _)) (by decide +kernel) rfl ?_
                      by_cases b275 : o266.1 = 0
                      · replace h := if_t b275 h
                        refine Ru.br (k := .ne) (off := 15) (bb := false) (tg := 392) (by decide +kernel) (by decide +kernel) (cz (ci_ne0 g273 (by decide) b275)) rfl ?_
                        refine Ru.op (q := (.aload_n 3, 1)) (S' := (393, _, _, _, _)) (by decide +kernel) rfl ?_
                        refine Ru.kI (q := (.iconst 0, 1)) (c := 0) (pc' := 394) (by decide +kernel) rfl (by decide) rfl ?_
                        refine Ru.lld (S := o268.2) (pc' := 395) (by decide +kernel) rfl ?_
                        refine Ru.op (q := (.iload 6, 2)) (S' := (397, _, _, _, _)) (by decide +kernel) rfl ?_
                        refine Ru.i2l (x := o268.1) (pc' := 398) (by decide +kernel) rfl ?_
                        refine Ru.lcm (pc' := 399) (by decide +kernel) rfl ?_
                        by_cases b276 : (o268.2.O) = (lI o268.1)
                        · replace h := if_t b276 h
                          refine Ru.br (k := .eq) (off := 5) (bb := true) (tg := 404) (by decide +kernel) (by decide +kernel) (lg_1 b276) rfl ?_
                          refine Ru.op (q := (.goto 447, 3)) (S' := (851, _, _, _, _)) (by decide +kernel) rfl ?_
                          refine Ru.inc (k := 4) (n := 5) (x := v4) (z := (v4 + 5)) (xs' := [some (.retAddr 0), some (.ref 0), some (.ref 36), some (.ref 71), some (vI (v4 + 5)), some (vI o266.1), some (vI o268.1)]) (pc' := 854) (by decide +kernel) rfl rfl rfl rfl ?_
                          refine Ru.op (q := (.goto (-831), 3)) (S' := (23, _, _, _, _)) (by decide +kernel) rfl ?_
                          exact ih _ _ _ _ trivial _ h r hk hr
                        · replace h := if_f b276 h
                          refine Ru.br (k := .eq) (off := 5) (bb := false) (tg := 402) (by decide +kernel) (by decide +kernel) (lg_0 b276) rfl ?_
                          refine Ru.kI (q := (.iconst 0, 1)) (c := 0) (pc' := 403) (by decide +kernel) rfl (by decide) rfl ?_
                          cases h
                          have h9 := hr _ rfl
                          subst h9
                          exact Ru.iret (by decide +kernel) rfl (nar_b1 (by decide))
                      · replace h := if_f b275 h
                        refine Ru.br (k := .ne) (off := 15) (bb := true) (tg := 404) (by decide +kernel) (by decide +kernel) (cz (ci_ne1 g273 (by decide) b275)) rfl ?_
                        refine Ru.op (q := (.goto 447, 3)) (S' := (851, _, _, _, _)) (by decide +kernel) rfl ?_
                        refine Ru.inc (k := 4) (n := 5) (x := v4) (z := (v4 + 5)) (xs' := [some (.retAddr 0), some (.ref 0), some (.ref 36), some (.ref 71), some (vI (v4 + 5)), some (vI o266.1), some (vI o268.1)]) (pc' := 854) (by decide +kernel) rfl rfl rfl rfl ?_
                        refine Ru.op (q := (.goto (-831), 3)) (S' := (23, _, _, _, _)) (by decide +kernel) rfl ?_
                        exact ih _ _ _ _ trivial _ h r hk hr
                    · replace h := if_f b274 h
                      refine Ru.br2 (k := .eq) (off := 5) (bb := false) (tg := 385) (by decide +kernel) (by decide +kernel) (ci_eq0 g272 g273 b274) rfl ?_
                      refine Ru.kI (q := (.iconst 0, 1)) (c := 0) (pc' := 386) (by decide +kernel) rfl (by decide) rfl ?_
                      cases h
                      have h9 := hr _ rfl
                      subst h9
                      exact Ru.iret (by decide +kernel) rfl (nar_b1 (by decide))
                  · replace h := if_f b264 h
                    by_cases b277 : ((l.getD v4.toNat 0).toInt % 16) = 7
                    · replace h := if_t b277 h
                      refine Ru.sw (d := 812) (lo2 := 0) (hi := 13) (offs := #[69, 157, 170, 242, 255, 268, 312, 368, 452, 508, 576, 651, 664, 756]) (len := 69) (tg := 407) (by decide +kernel) (by rw [b277]; rfl) ?_
                      refine Ru.op (q := (.aload_n 1, 1)) (S' := (408, _, _, _, _)) (by decide +kernel) rfl ?_
                      refine Ru.op (q := (.aload_n 0, 1)) (S' := (409, _, _, _, _)) (by decide +kernel) rfl ?_
                      refine Ru.op (q := (.iload 4, 2)) (S' := (411, _, _, _, _)) (by decide +kernel) rfl ?_
                      refine Ru.kI (q := (.iconst 1, 1)) (c := 1) (pc' := 412) (by decide +kernel) rfl (by decide) rfl ?_
                      refine Ru.ar2 (i := .iadd) (z := (v4 + 1)) (pc' := 413) (by decide +kernel) rfl (ar_add _ _) rfl ?_
                      obtain ⟨g278, h⟩ := gd_some h
                      refine Ru.sldI (pc' := 414) (i := (v4 + 1)) (z := (l.getD (v4 + 1).toNat 0).toInt) (by decide +kernel) g278 hl rfl rfl ?_
                      by_cases b279 : (l.getD (v4 + 1).toNat 0).toInt = 0
                      · replace h := if_t b279 h
                        refine Ru.br (k := .eq) (off := 7) (bb := true) (tg := 421) (by decide +kernel) (by decide +kernel) (cz (ci_eq1 (inR_to _) (by decide) b279)) rfl ?_
                        refine Ru.kI (q := (.iconst 0, 1)) (c := 0) (pc' := 422) (by decide +kernel) rfl (by decide) rfl ?_
                        refine Ru.op (q := (.aload_n 0, 1)) (S' := (423, _, _, _, _)) (by decide +kernel) rfl ?_
                        refine Ru.op (q := (.iload 4, 2)) (S' := (425, _, _, _, _)) (by decide +kernel) rfl ?_
                        refine Ru.kI (q := (.iconst 2, 1)) (c := 2) (pc' := 426) (by decide +kernel) rfl (by decide) rfl ?_
                        refine Ru.ar2 (i := .iadd) (z := (v4 + 2)) (pc' := 427) (by decide +kernel) rfl (ar_add _ _) rfl ?_
                        obtain ⟨g280, h⟩ := gd_some h
                        refine Ru.sldI (pc' := 428) (i := (v4 + 2)) (z := (l.getD (v4 + 2).toNat 0).toInt) (by decide +kernel) g280 hl rfl rfl ?_
                        refine Ru.op (q := (.aload_n 3, 1)) (S' := (429, _, _, _, _)) (by decide +kernel) rfl ?_
                        obtain ⟨o281, e282, h⟩ := ob_some h
                        refine Ru.callI (pc' := 432) (q := (.invokestatic 95, 3)) (j2 := 166) (as := [.ref 0, vI 0, vI ((l.getD (v4 + 2).toNat 0).toInt), .ref 71]) (st' := [vI o281.1]) (by decide +kernel) rfl rfl rfl rfl ⟨(Nat.le_of_ble_eq_true rfl), (by show 19 + 5 ≤ 84000; exact Nat.le_of_ble_eq_true rfl), Nat.le_of_ble_eq_true rfl, Nat.le_of_ble_eq_true rfl⟩ ((g166_ok e282).up (Nat.le_of_ble_eq_true rfl) (Nat.le_of_ble_eq_true rfl)) rfl rfl ?_
                        refine Ru.op (q := (.istore 5, 2)) (S' := (434, [some (.retAddr 0), some (.ref 0), some (.ref 36), some (.ref 71), some (vI v4), some (vI o281.1), d6], [], _, _)) (by decide +kernel) rfl ?_
                        refine Ru.op (q := (.aload_n 2, 1)) (S' := (435, _, _, _, _)) (by decide +kernel) rfl ?_
                        refine Ru.op (q := (.aload_n 0, 1)) (S' := (436, _, _, _, _)) (by decide +kernel) rfl ?_
                        refine Ru.op (q := (.iload 4, 2)) (S' := (438, _, _, _, _)) (by decide +kernel) rfl ?_
                        refine Ru.kI (q := (.iconst 1, 1)) (c := 1) (pc' := 439) (by decide +kernel) rfl (by decide) rfl ?_
                        refine Ru.ar2 (i := .iadd) (z := (v4 + 1)) (pc' := 440) (by decide +kernel) rfl (ar_add _ _) rfl ?_
                        refine Ru.sldI (pc' := 441) (i := (v4 + 1)) (z := (l.getD (v4 + 1).toNat 0).toInt) (by decide +kernel) g278 hl rfl rfl ?_
                        refine Ru.br (k := .eq) (off := 7) (bb := true) (tg := 448) (by decide +kernel) (by decide +kernel) (cz (ci_eq1 (inR_to _) (by decide) b279)) rfl ?_
                        refine Ru.kI (q := (.iconst 0, 1)) (c := 0) (pc' := 449) (by decide +kernel) rfl (by decide) rfl ?_
                        refine Ru.op (q := (.aload_n 0, 1)) (S' := (450, _, _, _, _)) (by decide +kernel) rfl ?_
                        refine Ru.op (q := (.iload 4, 2)) (S' := (452, _, _, _, _)) (by decide +kernel) rfl ?_
                        refine Ru.kI (q := (.iconst 2, 1)) (c := 2) (pc' := 453) (by decide +kernel) rfl (by decide) rfl ?_
                        refine Ru.ar2 (i := .iadd) (z := (v4 + 2)) (pc' := 454) (by decide +kernel) rfl (ar_add _ _) rfl ?_
                        refine Ru.sldI (pc' := 455) (i := (v4 + 2)) (z := (l.getD (v4 + 2).toNat 0).toInt) (by decide +kernel) g280 hl rfl rfl ?_
                        obtain ⟨o283, e284, h⟩ := ob_some h
                        refine Ru.vcallI (pc' := 458) (st' := [vI o283.1]) (i := 98) (j2 := 148) (ci := 10) (k := 0) (z := 0) (as := [vI 0, vI ((l.getD (v4 + 2).toNat 0).toInt)]) (by decide +kernel) (by decide +kernel) rfl rfl (hp36 _) (by decide) ⟨(Nat.le_of_ble_eq_true rfl), (by show 19 + 5 ≤ 84000; exact Nat.le_of_ble_eq_true rfl), Nat.le_of_ble_eq_true rfl, Nat.le_of_ble_eq_true rfl⟩ ((g148_ok e284).up (Nat.le_of_ble_eq_true rfl) (Nat.le_of_ble_eq_true rfl)) rfl rfl ?_
                        refine Ru.op (q := (.istore 6, 2)) (S' := (460, [some (.retAddr 0), some (.ref 0), some (.ref 36), some (.ref 71), some (vI v4), some (vI o281.1), some (vI o283.1)], [], _, _)) (by decide +kernel) rfl ?_
                        refine Ru.op (q := (.aload_n 2, 1)) (S' := (461, _, _, _, _)) (by decide +kernel) rfl ?_
                        obtain ⟨o285, e286, h⟩ := ob_some h
                        refine Ru.vcallI (pc' := 464) (st' := [vI o285]) (i := 68) (j2 := 94) (ci := 10) (k := 0) (z := 0) (as := []) (by decide +kernel) (by decide +kernel) rfl rfl (hp36 _) (by decide) ⟨(Nat.le_of_ble_eq_true rfl), (by show 19 + 1 ≤ 84000; exact Nat.le_of_ble_eq_true rfl), Nat.le_of_ble_eq_true rfl, Nat.le_of_ble_eq_true rfl⟩ ((g94_ok e286).up (Nat.le_of_ble_eq_true rfl) (Nat.le_of_ble_eq_true rfl)) rfl rfl ?_
                        refine Ru.op (q := (.iload 5, 2)) (S' := (466, _, _, _, _)) (by decide +kernel) rfl ?_
                        obtain ⟨g287, h⟩ := gd_some h
                        obtain ⟨g288, h⟩ := gd_some h
                        by_cases b289 : o285 = o281.1
                        · replace h := if_t b289 h
                          refine Ru.br2 (k := .eq) (off := 5) (bb := true) (tg := 471) (by decide +kernel) (by decide +kernel) (ci_eq1 g287 g288 b289) rfl ?_
                          refine Ru.op (q := (.iload 5, 2)) (S' := (473, _, _, _, _)) (by decide +kernel) rfl ?_
                          by_cases b290 : o281.1 = 0
                          · replace h := if_t b290 h
                            refine Ru.br (k := .ne) (off := 15) (bb := false) (tg := 476) (by decide +kernel) (by decide +kernel) (cz (ci_ne0 g288 (by decide) b290)) rfl ?_
                            refine Ru.op (q := (.aload_n 3, 1)) (S' := (477, _, _, _, _)) (by decide +kernel) rfl ?_
                            refine Ru.kI (q := (.iconst 0, 1)) (c := 0) (pc' := 478) (by decide +kernel) rfl (by decide) rfl ?_
                            refine Ru.lld (S := o283.2) (pc' := 479) (by decide +kernel) rfl ?_
                            refine Ru.op (q := (.iload 6, 2)) (S' := (481, _, _, _, _)) (by decide +kernel) rfl ?_
                            refine Ru.i2l (x := o283.1) (pc' := 482) (by decide +kernel) rfl ?_
                            refine Ru.lcm (pc' := 483) (by decide +kernel) rfl ?_
                            by_cases b291 : (o283.2.O) = (lI o283.1)
                            · replace h := if_t b291 h
                              refine Ru.br (k := .eq) (off := 5) (bb := true) (tg := 488) (by decide +kernel) (by decide +kernel) (lg_1 b291) rfl ?_
                              refine Ru.op (q := (.goto 363, 3)) (S' := (851, _, _, _, _)) (by decide +kernel) rfl ?_
                              refine Ru.inc (k := 4) (n := 5) (x := v4) (z := (v4 + 5)) (xs' := [some (.retAddr 0), some (.ref 0), some (.ref 36), some (.ref 71), some (vI (v4 + 5)), some (vI o281.1), some (vI o283.1)]) (pc' := 854) (by decide +kernel) rfl rfl rfl rfl ?_
                              refine Ru.op (q := (.goto (-831), 3)) (S' := (23, _, _, _, _)) (by decide +kernel) rfl ?_
                              exact ih _ _ _ _ trivial _ h r hk hr
                            · replace h := if_f b291 h
                              refine Ru.br (k := .eq) (off := 5) (bb := false) (tg := 486) (by decide +kernel) (by decide +kernel) (lg_0 b291) rfl ?_
                              refine Ru.kI (q := (.iconst 0, 1)) (c := 0) (pc' := 487) (by decide +kernel) rfl (by decide) rfl ?_
                              cases h
                              have h9 := hr _ rfl
                              subst h9
                              exact Ru.iret (by decide +kernel) rfl (nar_b1 (by decide))
                          · replace h := if_f b290 h
                            refine Ru.br (k := .ne) (off := 15) (bb := true) (tg := 488) (by decide +kernel) (by decide +kernel) (cz (ci_ne1 g288 (by decide) b290)) rfl ?_
                            refine Ru.op (q := (.goto 363, 3)) (S' := (851, _, _, _, _)) (by decide +kernel) rfl ?_
                            refine Ru.inc (k := 4) (n := 5) (x := v4) (z := (v4 + 5)) (xs' := [some (.retAddr 0), some (.ref 0), some (.ref 36), some (.ref 71), some (vI (v4 + 5)), some (vI o281.1), some (vI o283.1)]) (pc' := 854) (by decide +kernel) rfl rfl rfl rfl ?_
                            refine Ru.op (q := (.goto (-831), 3)) (S' := (23, _, _, _, _)) (by decide +kernel) rfl ?_
                            exact ih _ _ _ _ trivial _ h r hk hr
                        · replace h := if_f b289 h
                          refine Ru.br2 (k := .eq) (off := 5) (bb := false) (tg := 469) (by decide +kernel) (by decide +kernel) (ci_eq0 g287 g288 b289) rfl ?_
                          refine Ru.kI (q := (.iconst 0, 1)) (c := 0) (pc' := 470) (by decide +kernel) rfl (by decide) rfl ?_
                          cases h
                          have h9 := hr _ rfl
                          subst h9
                          exact Ru.iret (by decide +kernel) rfl (nar_b1 (by decide))
                      · replace h := if_f b279 h
                        refine Ru.br (k := .eq) (off := 7) (bb := false) (tg := 417) (by decide +kernel) (by decide +kernel) (cz (ci_eq0 (inR_to _) (by decide) b279)) rfl ?_
                        refine Ru.kI (q := (.iconst 1, 1)) (c := 1) (pc' := 418) (by decide +kernel) rfl (by decide) rfl ?_
                        refine Ru.op (q := (.goto 4, 3)) (S' := (422, _, _, _, _)) (by decide +kernel) rfl ?_
                        refine Ru.op (q := (.aload_n 0, 1)) (S' := (423, _, _, _, _)) (by decide +kernel) rfl ?_
                        refine Ru.op (q := (.iload 4, 2)) (S' := (425, _, _, _, _)) (by decide +kernel) rfl ?_
                        refine Ru.kI (q := (.iconst 2, 1)) (c := 2) (pc' := 426) (by decide +kernel) rfl (by decide) rfl ?_
                        refine Ru.ar2 (i := .iadd) (z := (v4 + 2)) (pc' := 427) (by decide +kernel) rfl (ar_add _ _) rfl ?_
                        obtain ⟨g292, h⟩ := gd_some h
                        refine Ru.sldI (pc' := 428) (i := (v4 + 2)) (z := (l.getD (v4 + 2).toNat 0).toInt) (by decide +kernel) g292 hl rfl rfl ?_
                        refine Ru.op (q := (.aload_n 3, 1)) (S' := (429, _, _, _, _)) (by decide +kernel) rfl ?_
                        obtain ⟨o293, e294, h⟩ := ob_some h
                        refine Ru.callI (pc' := 432) (q := (.invokestatic 95, 3)) (j2 := 166) (as := [.ref 0, vI 1, vI ((l.getD (v4 + 2).toNat 0).toInt), .ref 71]) (st' := [vI o293.1]) (by decide +kernel) rfl rfl rfl rfl ⟨(Nat.le_of_ble_eq_true rfl), (by show 19 + 5 ≤ 84000; exact Nat.le_of_ble_eq_true rfl), Nat.le_of_ble_eq_true rfl, Nat.le_of_ble_eq_true rfl⟩ ((g166_ok e294).up (Nat.le_of_ble_eq_true rfl) (Nat.le_of_ble_eq_true rfl)) rfl rfl ?_
                        refine Ru.op (q := (.istore 5, 2)) (S' := (434, [some (.retAddr 0), some (.ref 0), some (.ref 36), some (.ref 71), some (vI v4), some (vI o293.1), d6], [], _, _)) (by decide +kernel) rfl ?_
                        refine Ru.op (q := (.aload_n 2, 1)) (S' := (435, _, _, _, _)) (by decide +kernel) rfl ?_
                        refine Ru.op (q := (.aload_n 0, 1)) (S' := (436, _, _, _, _)) (by decide +kernel) rfl ?_
                        refine Ru.op (q := (.iload 4, 2)) (S' := (438, _, _, _, _)) (by decide +kernel) rfl ?_
                        refine Ru.kI (q := (.iconst 1, 1)) (c := 1) (pc' := 439) (by decide +kernel) rfl (by decide) rfl ?_
                        refine Ru.ar2 (i := .iadd) (z := (v4 + 1)) (pc' := 440) (by decide +kernel) rfl (ar_add _ _) rfl ?_
                        refine Ru.sldI (pc' := 441) (i := (v4 + 1)) (z := (l.getD (v4 + 1).toNat 0).toInt) (by decide +kernel) g278 hl rfl rfl ?_
                        refine Ru.br (k := .eq) (off := 7) (bb := false) (tg := 444) (by decide +kernel) (by decide +kernel) (cz (ci_eq0 (inR_to _) (by decide) b279)) rfl ?_
                        refine Ru.kI (q := (.iconst 1, 1)) (c := 1) (pc' := 445) (by decide +kernel) rfl (by decide) rfl ?_
                        refine Ru.op (q := (.goto 4, 3)) (S' := (449, _, _, _, _)) (by decide +kernel) rfl ?_
                        refine Ru.op (q := (.aload_n 0, 1)) (S' := (450, _, _, _, _)) (by decide +kernel) rfl ?_
                        refine Ru.op (q := (.iload 4, 2)) (S' := (452, _, _, _, _)) (by decide +kernel) rfl ?_
                        refine Ru.kI (q := (.iconst 2, 1)) (c := 2) (pc' := 453) (by decide +kernel) rfl (by decide) rfl ?_
                        refine Ru.ar2 (i := .iadd) (z := (v4 + 2)) (pc' := 454) (by decide +kernel) rfl (ar_add _ _) rfl ?_
                        refine Ru.sldI (pc' := 455) (i := (v4 + 2)) (z := (l.getD (v4 + 2).toNat 0).toInt) (by decide +kernel) g292 hl rfl rfl ?_
                        obtain ⟨o295, e296, h⟩ := ob_some h
                        refine Ru.vcallI (pc' := 458) (st' := [vI o295.1]) (i := 98) (j2 := 148) (ci := 10) (k := 0) (z := 0) (as := [vI 1, vI ((l.getD (v4 + 2).toNat 0).toInt)]) (by decide +kernel) (by decide +kernel) rfl rfl (hp36 _) (by decide) ⟨(Nat.le_of_ble_eq_true rfl), (by show 19 + 5 ≤ 84000; exact Nat.le_of_ble_eq_true rfl), Nat.le_of_ble_eq_true rfl, Nat.le_of_ble_eq_true rfl⟩ ((g148_ok e296).up (Nat.le_of_ble_eq_true rfl) (Nat.le_of_ble_eq_true rfl)) rfl rfl ?_
                        refine Ru.op (q := (.istore 6, 2)) (S' := (460, [some (.retAddr 0), some (.ref 0), some (.ref 36), some (.ref 71), some (vI v4), some (vI o293.1), some (vI o295.1)], [], _, _)) (by decide +kernel) rfl ?_
                        refine Ru.op (q := (.aload_n 2, 1)) (S' := (461, _, _, _, _)) (by decide +kernel) rfl ?_
                        obtain ⟨o297, e298, h⟩ := ob_some h
                        refine Ru.vcallI (pc' := 464) (st' := [vI o297]) (i := 68) (j2 := 94) (ci := 10) (k := 0) (z := 0) (as := []) (by decide +kernel) (by decide +kernel) rfl rfl (hp36 _) (by decide) ⟨(Nat.le_of_ble_eq_true rfl), (by show 19 + 1 ≤ 84000; exact Nat.le_of_ble_eq_true rfl), Nat.le_of_ble_eq_true rfl, Nat.le_of_ble_eq_true rfl⟩ ((g94_ok e298).up (Nat.le_of_ble_eq_true rfl) (Nat.le_of_ble_eq_true rfl)) rfl rfl ?_
                        refine Ru.op (q := (.iload 5, 2)) (S' := (466, _, _, _, _)) (by decide +kernel) rfl ?_
                        obtain ⟨g299, h⟩ := gd_some h
                        obtain ⟨g300, h⟩ := gd_some h
                        by_cases b301 : o297 = o293.1
                        · replace h := if_t b301 h
                          refine Ru.br2 (k := .eq) (off := 5) (bb := true) (tg := 471) (by decide +kernel) (by decide +kernel) (ci_eq1 g299 g300 b301) rfl ?_
                          refine Ru.op (q := (.iload 5, 2)) (S' := (473, _, _, _, _)) (by decide +kernel) rfl ?_
                          by_cases b302 : o293.1 = 0
                          · replace h := if_t b302 h
                            refine Ru.br (k := .ne) (off := 15) (bb := false) (tg := 476) (by decide +kernel) (by decide +kernel) (cz (ci_ne0 g300 (by decide) b302)) rfl ?_
                            refine Ru.op (q := (.aload_n 3, 1)) (S' := (477, _, _, _, _)) (by decide +kernel) rfl ?_
                            refine Ru.kI (q := (.iconst 0, 1)) (c := 0) (pc' := 478) (by decide +kernel) rfl (by decide) rfl ?_
                            refine Ru.lld (S := o295.2) (pc' := 479) (by decide +kernel) rfl ?_
                            refine Ru.op (q := (.iload 6, 2)) (S' := (481, _, _, _, _)) (by decide +kernel) rfl ?_
                            refine Ru.i2l (x := o295.1) (pc' := 482) (by decide +kernel) rfl ?_
                            refine Ru.lcm (pc' := 483) (by decide +kernel) rfl ?_
                            by_cases b303 : (o295.2.O) = (lI o295.1)
                            · replace h := if_t b303 h
                              refine Ru.br (k := .eq) (off := 5) (bb := true) (tg := 488) (by decide +kernel) (by decide +kernel) (lg_1 b303) rfl ?_
                              refine Ru.op (q := (.goto 363, 3)) (S' := (851, _, _, _, _)) (by decide +kernel) rfl ?_
                              refine Ru.inc (k := 4) (n := 5) (x := v4) (z := (v4 + 5)) (xs' := [some (.retAddr 0), some (.ref 0), some (.ref 36), some (.ref 71), some (vI (v4 + 5)), some (vI o293.1), some (vI o295.1)]) (pc' := 854) (by decide +kernel) rfl rfl rfl rfl ?_
                              refine Ru.op (q := (.goto (-831), 3)) (S' := (23, _, _, _, _)) (by decide +kernel) rfl ?_
                              exact ih _ _ _ _ trivial _ h r hk hr
                            · replace h := if_f b303 h
                              refine Ru.br (k := .eq) (off := 5) (bb := false) (tg := 486) (by decide +kernel) (by decide +kernel) (lg_0 b303) rfl ?_
                              refine Ru.kI (q := (.iconst 0, 1)) (c := 0) (pc' := 487) (by decide +kernel) rfl (by decide) rfl ?_
                              cases h
                              have h9 := hr _ rfl
                              subst h9
                              exact Ru.iret (by decide +kernel) rfl (nar_b1 (by decide))
                          · replace h := if_f b302 h
                            refine Ru.br (k := .ne) (off := 15) (bb := true) (tg := 488) (by decide +kernel) (by decide +kernel) (cz (ci_ne1 g300 (by decide) b302)) rfl ?_
                            refine Ru.op (q := (.goto 363, 3)) (S' := (851, _, _, _, _)) (by decide +kernel) rfl ?_
                            refine Ru.inc (k := 4) (n := 5) (x := v4) (z := (v4 + 5)) (xs' := [some (.retAddr 0), some (.ref 0), some (.ref 36), some (.ref 71), some (vI (v4 + 5)), some (vI o293.1), some (vI o295.1)]) (pc' := 854) (by decide +kernel) rfl rfl rfl rfl ?_
                            refine Ru.op (q := (.goto (-831), 3)) (S' := (23, _, _, _, _)) (by decide +kernel) rfl ?_
                            exact ih _ _ _ _ trivial _ h r hk hr
                        · replace h := if_f b301 h
                          refine Ru.br2 (k := .eq) (off := 5) (bb := false) (tg := 469) (by decide +kernel) (by decide +kernel) (ci_eq0 g299 g300 b301) rfl ?_
                          refine Ru.kI (q := (.iconst 0, 1)) (c := 0) (pc' := 470) (by decide +kernel) rfl (by decide) rfl ?_
                          cases h
                          have h9 := hr _ rfl
                          subst h9
                          exact Ru.iret (by decide +kernel) rfl (nar_b1 (by decide))
                    · replace h := if_f b277 h
                      by_cases b304 : ((l.getD v4.toNat 0).toInt % 16) = 8
                      · replace h := if_t b304 h
                        refine Ru.sw (d := 812) (lo2 := 0) (hi := 13) (offs := #[69, 157, 170, 242, 255, 268, 312, 368, 452, 508, 576, 651, 664, 756]) (len := 69) (tg := 491) (by decide +kernel) (by rw [b304]; rfl) ?_
                        refine Ru.op (q := (.aload_n 1, 1)) (S' := (492, _, _, _, _)) (by decide +kernel) rfl ?_
                        refine Ru.op (q := (.aload_n 0, 1)) (S' := (493, _, _, _, _)) (by decide +kernel) rfl ?_
                        refine Ru.op (q := (.iload 4, 2)) (S' := (495, _, _, _, _)) (by decide +kernel) rfl ?_
                        refine Ru.kI (q := (.iconst 1, 1)) (c := 1) (pc' := 496) (by decide +kernel) rfl (by decide) rfl ?_
                        refine Ru.ar2 (i := .iadd) (z := (v4 + 1)) (pc' := 497) (by decide +kernel) rfl (ar_add _ _) rfl ?_
                        obtain ⟨g305, h⟩ := gd_some h
                        refine Ru.sldI (pc' := 498) (i := (v4 + 1)) (z := (l.getD (v4 + 1).toNat 0).toInt) (by decide +kernel) g305 hl rfl rfl ?_
                        refine Ru.op (q := (.aload_n 3, 1)) (S' := (499, _, _, _, _)) (by decide +kernel) rfl ?_
                        obtain ⟨o306, e307, h⟩ := ob_some h
                        refine Ru.callI (pc' := 502) (q := (.invokestatic 99, 3)) (j2 := 167) (as := [.ref 0, vI ((l.getD (v4 + 1).toNat 0).toInt), .ref 71]) (st' := [vI o306.1]) (by decide +kernel) rfl rfl rfl rfl ⟨(Nat.le_of_ble_eq_true rfl), (by show 19 + 4 ≤ 84000; exact Nat.le_of_ble_eq_true rfl), Nat.le_of_ble_eq_true rfl, Nat.le_of_ble_eq_true rfl⟩ ((g167_ok e307).up (Nat.le_of_ble_eq_true rfl) (Nat.le_of_ble_eq_true rfl)) rfl rfl ?_
                        refine Ru.op (q := (.istore 5, 2)) (S' := (504, [some (.retAddr 0), some (.ref 0), some (.ref 36), some (.ref 71), some (vI v4), some (vI o306.1), d6], [], _, _)) (by decide +kernel) rfl ?_
                        refine Ru.op (q := (.aload_n 2, 1)) (S' := (505, _, _, _, _)) (by decide +kernel) rfl ?_
                        refine Ru.op (q := (.aload_n 0, 1)) (S' := (506, _, _, _, _)) (by decide +kernel) rfl ?_
                        refine Ru.op (q := (.iload 4, 2)) (S' := (508, _, _, _, _)) (by decide +kernel) rfl ?_
                        refine Ru.kI (q := (.iconst 1, 1)) (c := 1) (pc' := 509) (by decide +kernel) rfl (by decide) rfl ?_
                        refine Ru.ar2 (i := .iadd) (z := (v4 + 1)) (pc' := 510) (by decide +kernel) rfl (ar_add _ _) rfl ?_
                        refine Ru.sldI (pc' := 511) (i := (v4 + 1)) (z := (l.getD (v4 + 1).toNat 0).toInt) (by decide +kernel) g305 hl rfl rfl ?_
                        obtain ⟨o308, e309, h⟩ := ob_some h
                        refine Ru.vcallI (pc' := 514) (st' := [vI o308.1]) (i := 101) (j2 := 153) (ci := 10) (k := 0) (z := 0) (as := [vI ((l.getD (v4 + 1).toNat 0).toInt)]) (by decide +kernel) (by decide +kernel) rfl rfl (hp36 _) (by decide) ⟨(Nat.le_of_ble_eq_true rfl), (by show 19 + 2 ≤ 84000; exact Nat.le_of_ble_eq_true rfl), Nat.le_of_ble_eq_true rfl, Nat.le_of_ble_eq_true rfl⟩ ((g153_ok e309).up (Nat.le_of_ble_eq_true rfl) (Nat.le_of_ble_eq_true rfl)) rfl rfl ?_
                        refine Ru.op (q := (.istore 6, 2)) (S' := (516, [some (.retAddr 0), some (.ref 0), some (.ref 36), some (.ref 71), some (vI v4), some (vI o306.1), some (vI o308.1)], [], _, _)) (by decide +kernel) rfl ?_
                        refine Ru.op (q := (.aload_n 2, 1)) (S' := (517, _, _, _, _)) (by decide +kernel) rfl ?_
                        obtain ⟨o310, e311, h⟩ := ob_some h
                        refine Ru.vcallI (pc' := 520) (st' := [vI o310]) (i := 68) (j2 := 94) (ci := 10) (k := 0) (z := 0) (as := []) (by decide +kernel) (by decide +kernel) rfl rfl (hp36 _) (by decide) ⟨(Nat.le_of_ble_eq_true rfl), (by show 19 + 1 ≤ 84000; exact Nat.le_of_ble_eq_true rfl), Nat.le_of_ble_eq_true rfl, Nat.le_of_ble_eq_true rfl⟩ ((g94_ok e311).up (Nat.le_of_ble_eq_true rfl) (Nat.le_of_ble_eq_true rfl)) rfl rfl ?_
                        refine Ru.op (q := (.iload 5, 2)) (S' := (522, _, _, _, _)) (by decide +kernel) rfl ?_
                        obtain ⟨g312, h⟩ := gd_some h
                        obtain ⟨g313, h⟩ := gd_some h
                        by_cases b314 : o310 = o306.1
                        · replace h := if_t b314 h
                          refine Ru.br2 (k := .eq) (off := 5) (bb := true) (tg := 527) (by decide +kernel) (by decide +kernel) (ci_eq1 g312 g313 b314) rfl ?_
                          refine Ru.op (q := (.iload 5, 2)) (S' := (529, _, _, _, _)) (by decide +kernel) rfl ?_
                          by_cases b315 : o306.1 = 0
                          · replace h := if_t b315 h
                            refine Ru.br (k := .ne) (off := 15) (bb := false) (tg := 532) (by decide +kernel) (by decide +kernel) (cz (ci_ne0 g313 (by decide) b315)) rfl ?_
                            refine Ru.op (q := (.aload_n 3, 1)) (S' := (533, _, _, _, _)) (by decide +kernel) rfl ?_
                            refine Ru.kI (q := (.iconst 0, 1)) (c := 0) (pc' := 534) (by decide +kernel) rfl (by decide) rfl ?_
                            refine Ru.lld (S := o308.2) (pc' := 535) (by decide +kernel) rfl ?_
                            refine Ru.op (q := (.iload 6, 2)) (S' := (537, _, _, _, _)) (by decide +kernel) rfl ?_
                            refine Ru.i2l (x := o308.1) (pc' := 538) (by decide +kernel) rfl ?_
                            refine Ru.lcm (pc' := 539) (by decide +kernel) rfl ?_
                            by_cases b316 : (o308.2.O) = (lI o308.1)
                            · replace h := if_t b316 h
                              refine Ru.br (k := .eq) (off := 5) (bb := true) (tg := 544) (by decide +kernel) (by decide +kernel) (lg_1 b316) rfl ?_
                              refine Ru.op (q := (.goto 307, 3)) (S' := (851, _, _, _, _)) (by decide +kernel) rfl ?_
                              refine Ru.inc (k := 4) (n := 5) (x := v4) (z := (v4 + 5)) (xs' := [some (.retAddr 0), some (.ref 0), some (.ref 36), some (.ref 71), some (vI (v4 + 5)), some (vI o306.1), some (vI o308.1)]) (pc' := 854) (by decide +kernel) rfl rfl rfl rfl ?_
                              refine Ru.op (q := (.goto (-831), 3)) (S' := (23, _, _, _, _)) (by decide +kernel) rfl ?_
                              exact ih _ _ _ _ trivial _ h r hk hr
                            · replace h := if_f b316 h
                              refine Ru.br (k := .eq) (off := 5) (bb := false) (tg := 542) (by decide +kernel) (by decide +kernel) (lg_0 b316) rfl ?_
                              refine Ru.kI (q := (.iconst 0, 1)) (c := 0) (pc' := 543) (by decide +kernel) rfl (by decide) rfl ?_
                              cases h
                              have h9 := hr _ rfl
                              subst h9
                              exact Ru.iret (by decide +kernel) rfl (nar_b1 (by decide))
                          · replace h := if_f b315 h
                            refine Ru.br (k := .ne) (off := 15) (bb := true) (tg := 544) (by decide +kernel) (by decide +kernel) (cz (ci_ne1 g313 (by decide) b315)) rfl ?_
                            refine Ru.op (q := (.goto 307, 3)) (S' := (851, _, _, _, _)) (by decide +kernel) rfl ?_
                            refine Ru.inc (k := 4) (n := 5) (x := v4) (z := (v4 + 5)) (xs' := [some (.retAddr 0), some (.ref 0), some (.ref 36), some (.ref 71), some (vI (v4 + 5)), some (vI o306.1), some (vI o308.1)]) (pc' := 854) (by decide +kernel) rfl rfl rfl rfl ?_
                            refine Ru.op (q := (.goto (-831), 3)) (S' := (23, _, _, _, _)) (by decide +kernel) rfl ?_
                            exact ih _ _ _ _ trivial _ h r hk hr
                        · replace h := if_f b314 h
                          refine Ru.br2 (k := .eq) (off := 5) (bb := false) (tg := 525) (by decide +kernel) (by decide +kernel) (ci_eq0 g312 g313 b314) rfl ?_
                          refine Ru.kI (q := (.iconst 0, 1)) (c := 0) (pc' := 526) (by decide +kernel) rfl (by decide) rfl ?_
                          cases h
                          have h9 := hr _ rfl
                          subst h9
                          exact Ru.iret (by decide +kernel) rfl (nar_b1 (by decide))
                      · replace h := if_f b304 h
                        by_cases b317 : ((l.getD v4.toNat 0).toInt % 16) = 9
                        · replace h := if_t b317 h
                          refine Ru.sw (d := 812) (lo2 := 0) (hi := 13) (offs := #[69, 157, 170, 242, 255, 268, 312, 368, 452, 508, 576, 651, 664, 756]) (len := 69) (tg := 547) (by decide +kernel) (by rw [b317]; rfl) ?_
                          refine Ru.op (q := (.aload_n 1, 1)) (S' := (548, _, _, _, _)) (by decide +kernel) rfl ?_
                          refine Ru.op (q := (.aload_n 0, 1)) (S' := (549, _, _, _, _)) (by decide +kernel) rfl ?_
                          refine Ru.op (q := (.iload 4, 2)) (S' := (551, _, _, _, _)) (by decide +kernel) rfl ?_
                          refine Ru.kI (q := (.iconst 1, 1)) (c := 1) (pc' := 552) (by decide +kernel) rfl (by decide) rfl ?_
                          refine Ru.ar2 (i := .iadd) (z := (v4 + 1)) (pc' := 553) (by decide +kernel) rfl (ar_add _ _) rfl ?_
                          obtain ⟨g318, h⟩ := gd_some h
                          refine Ru.sldI (pc' := 554) (i := (v4 + 1)) (z := (l.getD (v4 + 1).toNat 0).toInt) (by decide +kernel) g318 hl rfl rfl ?_
                          refine Ru.op (q := (.aload_n 0, 1)) (S' := (555, _, _, _, _)) (by decide +kernel) rfl ?_
                          refine Ru.op (q := (.iload 4, 2)) (S' := (557, _, _, _, _)) (by decide +kernel) rfl ?_
                          refine Ru.kI (q := (.iconst 2, 1)) (c := 2) (pc' := 558) (by decide +kernel) rfl (by decide) rfl ?_
                          refine Ru.ar2 (i := .iadd) (z := (v4 + 2)) (pc' := 559) (by decide +kernel) rfl (ar_add _ _) rfl ?_
                          obtain ⟨g319, h⟩ := gd_some h
                          refine Ru.sldI (pc' := 560) (i := (v4 + 2)) (z := (l.getD (v4 + 2).toNat 0).toInt) (by decide +kernel) g319 hl rfl rfl ?_
                          refine Ru.op (q := (.aload_n 3, 1)) (S' := (561, _, _, _, _)) (by decide +kernel) rfl ?_
                          obtain ⟨o320, e321, h⟩ := ob_some h
                          refine Ru.callI (pc' := 564) (q := (.invokestatic 102, 3)) (j2 := 168) (as := [.ref 0, vI ((l.getD (v4 + 1).toNat 0).toInt), vI ((l.getD (v4 + 2).toNat 0).toInt), .ref 71]) (st' := [vI o320.1]) (by decide +kernel) rfl rfl rfl rfl ⟨(Nat.le_of_ble_eq_true rfl), (by show 19 + 5 ≤ 84000; exact Nat.le_of_ble_eq_true rfl), Nat.le_of_ble_eq_true rfl, Nat.le_of_ble_eq_true rfl⟩ ((g168_ok e321).up (Nat.le_of_ble_eq_true rfl) (Nat.le_of_ble_eq_true rfl)) rfl rfl ?_
                          refine Ru.op (q := (.istore 5, 2)) (S' := (566, [some (.retAddr 0), some (.ref 0), some (.ref 36), some (.ref 71), some (vI v4), some (vI o320.1), d6], [], _, _)) (by decide +kernel) rfl ?_
                          refine Ru.op (q := (.aload_n 2, 1)) (S' := (567, _, _, _, _)) (by decide +kernel) rfl ?_
                          refine Ru.op (q := (.aload_n 0, 1)) (S' := (568, _, _, _, _)) (by decide +kernel) rfl ?_
                          refine Ru.op (q := (.iload 4, 2)) (S' := (570, _, _, _, _)) (by decide +kernel) rfl ?_
                          refine Ru.kI (q := (.iconst 1, 1)) (c := 1) (pc' := 571) (by decide +kernel) rfl (by decide) rfl ?_
                          refine Ru.ar2 (i := .iadd) (z := (v4 + 1)) (pc' := 572) (by decide +kernel) rfl (ar_add _ _) rfl ?_
                          refine Ru.sldI (pc' := 573) (i := (v4 + 1)) (z := (l.getD (v4 + 1).toNat 0).toInt) (by decide +kernel) g318 hl rfl rfl ?_
                          refine Ru.op (q := (.aload_n 0, 1)) (S' := (574, _, _, _, _)) (by decide +kernel) rfl ?_
                          refine Ru.op (q := (.iload 4, 2)) (S' := (576, _, _, _, _)) (by decide +kernel) rfl ?_
                          refine Ru.kI (q := (.iconst 2, 1)) (c := 2) (pc' := 577) (by decide +kernel) rfl (by decide) rfl ?_
                          refine Ru.ar2 (i := .iadd) (z := (v4 + 2)) (pc' := 578) (by decide +kernel) rfl (ar_add _ _) rfl ?_
                          refine Ru.sldI (pc' := 579) (i := (v4 + 2)) (z := (l.getD (v4 + 2).toNat 0).toInt) (by decide +kernel) g319 hl rfl rfl ?_
                          obtain ⟨o322, e323, h⟩ := ob_some h
                          refine Ru.vcallI (pc' := 582) (st' := [vI o322.1]) (i := 105) (j2 := 154) (ci := 10) (k := 0) (z := 0) (as := [vI ((l.getD (v4 + 1).toNat 0).toInt), vI ((l.getD (v4 + 2).toNat 0).toInt)]) (by decide +kernel) (by decide +kernel) rfl rfl (hp36 _) (by decide) ⟨(Nat.le_of_ble_eq_true rfl), (by show 19 + 3 ≤ 84000; exact Nat.le_of_ble_eq_true rfl), Nat.le_of_ble_eq_true rfl, Nat.le_of_ble_eq_true rfl⟩ ((g154_ok e323).up (Nat.le_of_ble_eq_true rfl) (Nat.le_of_ble_eq_true rfl)) rfl rfl ?_
                          refine Ru.op (q := (.istore 6, 2)) (S' := (584, [some (.retAddr 0), some (.ref 0), some (.ref 36), some (.ref 71), some (vI v4), some (vI o320.1), some (vI o322.1)], [], _, _)) (by decide +kernel) rfl ?_
                          refine Ru.op (q := (.aload_n 2, 1)) (S' := (585, _, _, _, _)) (by decide +kernel) rfl ?_
                          obtain ⟨o324, e325, h⟩ := ob_some h
                          refine Ru.vcallI (pc' := 588) (st' := [vI o324]) (i := 68) (j2 := 94) (ci := 10) (k := 0) (z := 0) (as := []) (by decide +kernel) (by decide +kernel) rfl rfl (hp36 _) (by decide) ⟨(Nat.le_of_ble_eq_true rfl), (by show 19 + 1 ≤ 84000; exact Nat.le_of_ble_eq_true rfl), Nat.le_of_ble_eq_true rfl, Nat.le_of_ble_eq_true rfl⟩ ((g94_ok e325).up (Nat.le_of_ble_eq_true rfl) (Nat.le_of_ble_eq_true rfl)) rfl rfl ?_
                          refine Ru.op (q := (.iload 5, 2)) (S' := (590, _, _, _, _)) (by decide +kernel) rfl ?_
                          obtain ⟨g326, h⟩ := gd_some h
                          obtain ⟨g327, h⟩ := gd_some h
                          by_cases b328 : o324 = o320.1
                          · replace h := if_t b328 h
                            refine Ru.br2 (k := .eq) (off := 5) (bb := true) (tg := 595) (by decide +kernel) (by decide +kernel) (ci_eq1 g326 g327 b328) rfl ?_
                            refine Ru.op (q := (.iload 5, 2)) (S' := (597, _, _, _, _)) (by decide +kernel) rfl ?_
                            by_cases b329 : o320.1 = 0
                            · replace h := if_t b329 h
                              refine Ru.br (k := .ne) (off := 15) (bb := false) (tg := 600) (by decide +kernel) (by decide +kernel) (cz (ci_ne0 g327 (by decide) b329)) rfl ?_
                              refine Ru.op (q := (.aload_n 3, 1)) (S' := (601, _, _, _, _)) (by decide +kernel) rfl ?_
                              refine Ru.kI (q := (.iconst 0, 1)) (c := 0) (pc' := 602) (by decide +kernel) rfl (by decide) rfl ?_
                              refine Ru.lld (S := o322.2) (pc' := 603) (by decide +kernel) rfl ?_
                              refine Ru.op (q := (.iload 6, 2)) (S' := (605, _, _, _, _)) (by decide +kernel) rfl ?_
                              refine Ru.i2l (x := o322.1) (pc' := 606) (by decide +kernel) rfl ?_
                              refine Ru.lcm (pc' := 607) (by decide +kernel) rfl ?_
                              by_cases b330 : (o322.2.O) = (lI o322.1)
                              · replace h := if_t b330 h
                                refine Ru.br (k := .eq) (off := 5) (bb := true) (tg := 612) (by decide +kernel) (by decide +kernel) (lg_1 b330) rfl ?_
                                refine Ru.op (q := (.goto 239, 3)) (S' := (851, _, _, _, _)) (by decide +kernel) rfl ?_
                                refine Ru.inc (k := 4) (n := 5) (x := v4) (z := (v4 + 5)) (xs' := [some (.retAddr 0), some (.ref 0), some (.ref 36), some (.ref 71), some (vI (v4 + 5)), some (vI o320.1), some (vI o322.1)]) (pc' := 854) (by decide +kernel) rfl rfl rfl rfl ?_
                                refine Ru.op (q := (.goto (-831), 3)) (S' := (23, _, _, _, _)) (by decide +kernel) rfl ?_
                                exact ih _ _ _ _ trivial _ h r hk hr
                              · replace h := if_f b330 h
                                refine Ru.br (k := .eq) (off := 5) (bb := false) (tg := 610) (by decide +kernel) (by decide +kernel) (lg_0 b330) rfl ?_
                                refine Ru.kI (q := (.iconst 0, 1)) (c := 0) (pc' := 611) (by decide +kernel) rfl (by decide) rfl ?_
                                cases h
                                have h9 := hr _ rfl
                                subst h9
                                exact Ru.iret (by decide +kernel) rfl (nar_b1 (by decide))
                            · replace h := if_f b329 h
                              refine Ru.br (k := .ne) (off := 15) (bb := true) (tg := 612) (by decide +kernel) (by decide +kernel) (cz (ci_ne1 g327 (by decide) b329)) rfl ?_
                              refine Ru.op (q := (.goto 239, 3)) (S' := (851, _, _, _, _)) (by decide +kernel) rfl ?_
                              refine Ru.inc (k := 4) (n := 5) (x := v4) (z := (v4 + 5)) (xs' := [some (.retAddr 0), some (.ref 0), some (.ref 36), some (.ref 71), some (vI (v4 + 5)), some (vI o320.1), some (vI o322.1)]) (pc' := 854) (by decide +kernel) rfl rfl rfl rfl ?_
                              refine Ru.op (q := (.goto (-831), 3)) (S' := (23, _, _, _, _)) (by decide +kernel) rfl ?_
                              exact ih _ _ _ _ trivial _ h r hk hr
                          · replace h := if_f b328 h
                            refine Ru.br2 (k := .eq) (off := 5) (bb := false) (tg := 593) (by decide +kernel) (by decide +kernel) (ci_eq0 g326 g327 b328) rfl ?_
                            refine Ru.kI (q := (.iconst 0, 1)) (c := 0) (pc' := 594) (by decide +kernel) rfl (by decide) rfl ?_
                            cases h
                            have h9 := hr _ rfl
                            subst h9
                            exact Ru.iret (by decide +kernel) rfl (nar_b1 (by decide))
                        · replace h := if_f b317 h
                          by_cases b331 : ((l.getD v4.toNat 0).toInt % 16) = 10
                          · replace h := if_t b331 h
                            refine Ru.sw (d := 812) (lo2 := 0) (hi := 13) (offs := #[69, 157, 170, 242, 255, 268, 312, 368, 452, 508, 576, 651, 664, 756]) (len := 69) (tg := 615) (by decide +kernel) (by rw [b331]; rfl) ?_
                            refine Ru.op (q := (.aload_n 1, 1)) (S' := (616, _, _, _, _)) (by decide +kernel) rfl ?_
                            refine Ru.op (q := (.aload_n 0, 1)) (S' := (617, _, _, _, _)) (by decide +kernel) rfl ?_
                            refine Ru.op (q := (.iload 4, 2)) (S' := (619, _, _, _, _)) (by decide +kernel) rfl ?_
                            refine Ru.kI (q := (.iconst 1, 1)) (c := 1) (pc' := 620) (by decide +kernel) rfl (by decide) rfl ?_
                            refine Ru.ar2 (i := .iadd) (z := (v4 + 1)) (pc' := 621) (by decide +kernel) rfl (ar_add _ _) rfl ?_
                            obtain ⟨g332, h⟩ := gd_some h
                            refine Ru.sldI (pc' := 622) (i := (v4 + 1)) (z := (l.getD (v4 + 1).toNat 0).toInt) (by decide +kernel) g332 hl rfl rfl ?_
                            refine Ru.op (q := (.aload_n 0, 1)) (S' := (623, _, _, _, _)) (by decide +kernel) rfl ?_
                            refine Ru.op (q := (.iload 4, 2)) (S' := (625, _, _, _, _)) (by decide +kernel) rfl ?_
                            refine Ru.kI (q := (.iconst 2, 1)) (c := 2) (pc' := 626) (by decide +kernel) rfl (by decide) rfl ?_
                            refine Ru.ar2 (i := .iadd) (z := (v4 + 2)) (pc' := 627) (by decide +kernel) rfl (ar_add _ _) rfl ?_
                            obtain ⟨g333, h⟩ := gd_some h
                            refine Ru.sldI (pc' := 628) (i := (v4 + 2)) (z := (l.getD (v4 + 2).toNat 0).toInt) (by decide +kernel) g333 hl rfl rfl ?_
                            refine Ru.op (q := (.aload_n 3, 1)) (S' := (629, _, _, _, _)) (by decide +kernel) rfl ?_
                            obtain ⟨o334, e335, h⟩ := ob_some h
                            refine Ru.callI (pc' := 632) (q := (.invokestatic 106, 3)) (j2 := 169) (as := [.ref 0, vI ((l.getD (v4 + 1).toNat 0).toInt), vI ((l.getD (v4 + 2).toNat 0).toInt), .ref 71]) (st' := [vI o334.1]) (by decide +kernel) rfl rfl rfl rfl ⟨(Nat.le_of_ble_eq_true rfl), (by show 19 + 5 ≤ 84000; exact Nat.le_of_ble_eq_true rfl), Nat.le_of_ble_eq_true rfl, Nat.le_of_ble_eq_true rfl⟩ ((g169_ok e335).up (Nat.le_of_ble_eq_true rfl) (Nat.le_of_ble_eq_true rfl)) rfl rfl ?_
                            refine Ru.op (q := (.istore 5, 2)) (S' := (634, [some (.retAddr 0), some (.ref 0), some (.ref 36), some (.ref 71), some (vI v4), some (vI o334.1), d6], [], _, _)) (by decide +kernel) rfl ?_
                            refine Ru.op (q := (.aload_n 2, 1)) (S' := (635, _, _, _, _)) (by decide +kernel) rfl ?_
                            refine Ru.op (q := (.aload_n 0, 1)) (S' := (636, _, _, _, _)) (by decide +kernel) rfl ?_
                            refine Ru.op (q := (.iload 4, 2)) (S' := (638, _, _, _, _)) (by decide +kernel) rfl ?_
                            refine Ru.kI (q := (.iconst 1, 1)) (c := 1) (pc' := 639) (by decide +kernel) rfl (by decide) rfl ?_
                            refine Ru.ar2 (i := .iadd) (z := (v4 + 1)) (pc' := 640) (by decide +kernel) rfl (ar_add _ _) rfl ?_
                            refine Ru.sldI (pc' := 641) (i := (v4 + 1)) (z := (l.getD (v4 + 1).toNat 0).toInt) (by decide +kernel) g332 hl rfl rfl ?_
                            refine Ru.op (q := (.aload_n 0, 1)) (S' := (642, _, _, _, _)) (by decide +kernel) rfl ?_
                            refine Ru.op (q := (.iload 4, 2)) (S' := (644, _, _, _, _)) (by decide +kernel) rfl ?_
                            refine Ru.kI (q := (.iconst 2, 1)) (c := 2) (pc' := 645) (by decide +kernel) rfl (by decide) rfl ?_
                            refine Ru.ar2 (i := .iadd) (z := (v4 + 2)) (pc' := 646) (by decide +kernel) rfl (ar_add _ _) rfl ?_
                            refine Ru.sldI (pc' := 647) (i := (v4 + 2)) (z := (l.getD (v4 + 2).toNat 0).toInt) (by decide +kernel) g333 hl rfl rfl ?_
                            obtain ⟨o336, e337, h⟩ := ob_some h
                            refine Ru.vcallI (pc' := 650) (st' := [vI o336.1]) (i := 108) (j2 := 155) (ci := 10) (k := 0) (z := 0) (as := [vI ((l.getD (v4 + 1).toNat 0).toInt), vI ((l.getD (v4 + 2).toNat 0).toInt)]) (by decide +kernel) (by decide +kernel) rfl rfl (hp36 _) (by decide) ⟨(Nat.le_of_ble_eq_true rfl), (by show 19 + 3 ≤ 84000; exact Nat.le_of_ble_eq_true rfl), Nat.le_of_ble_eq_true rfl, Nat.le_of_ble_eq_true rfl⟩ ((g155_ok e337).up (Nat.le_of_ble_eq_true rfl) (Nat.le_of_ble_eq_true rfl)) rfl rfl ?_
                            refine Ru.op (q := (.istore 6, 2)) (S' := (652, [some (.retAddr 0), some (.ref 0), some (.ref 36), some (.ref 71), some (vI v4), some (vI o334.1), some (vI o336.1)], [], _, _)) (by decide +kernel) rfl ?_
                            refine Ru.op (q := (.aload_n 2, 1)) (S' := (653, _, _, _, _)) (by decide +kernel) rfl ?_
                            obtain ⟨o338, e339, h⟩ := ob_some h
                            refine Ru.vcallI (pc' := 656) (st' := [vI o338]) (i := 68) (j2 := 94) (ci := 10) (k := 0) (z := 0) (as := []) (by decide +kernel) (by decide +kernel) rfl rfl (hp36 _) (by decide) ⟨(Nat.le_of_ble_eq_true rfl), (by show 19 + 1 ≤ 84000; exact Nat.le_of_ble_eq_true rfl), Nat.le_of_ble_eq_true rfl, Nat.le_of_ble_eq_true rfl⟩ ((g94_ok e339).up (Nat.le_of_ble_eq_true rfl) (Nat.le_of_ble_eq_true rfl)) rfl rfl ?_
                            refine Ru.op (q := (.iload 5, 2)) (S' := (658, _, _, _, _)) (by decide +kernel) rfl ?_
                            obtain ⟨g340, h⟩ := gd_some h
                            obtain ⟨g341, h⟩ := gd_some h
                            by_cases b342 : o338 = o334.1
                            · replace h := if_t b342 h
                              refine Ru.br2 (k := .eq) (off := 5) (bb := true) (tg := 663) (by decide +kernel) (by decide +kernel) (ci_eq1 g340 g341 b342) rfl ?_
                              refine Ru.op (q := (.iload 5, 2)) (S' := (665, _, _, _, _)) (by decide +kernel) rfl ?_
                              by_cases b343 : o334.1 = 0
                              · replace h := if_t b343 h
                                refine Ru.br (k := .ne) (off := 22) (bb := false) (tg := 668) (by decide +kernel) (by decide +kernel) (cz (ci_ne0 g341 (by decide) b343)) rfl ?_
                                refine Ru.op (q := (.aload_n 3, 1)) (S' := (669, _, _, _, _)) (by decide +kernel) rfl ?_
                                refine Ru.kI (q := (.iconst 0, 1)) (c := 0) (pc' := 670) (by decide +kernel) rfl (by decide) rfl ?_
                                refine Ru.lld (S := o336.2) (pc' := 671) (by decide +kernel) rfl ?_
                                refine Ru.op (q := (.iload 6, 2)) (S' := (673, _, _, _, _)) (by decide +kernel) rfl ?_
                                obtain ⟨g344, h⟩ := gd_some h
                                by_cases b345 : o336.1 = 0
                                · replace h := if_t b345 h
                                  refine Ru.br (k := .eq) (off := 7) (bb := true) (tg := 680) (by decide +kernel) (by decide +kernel) (cz (ci_eq1 g344 (by decide) b345)) rfl ?_
                                  refine Ru.op (q := (.lconst 0, 1)) (S' := (681, _, _, _, _)) (by decide +kernel) rfl ?_
                                  refine Ru.lcm (pc' := 682) (by decide +kernel) rfl ?_
                                  by_cases b346 : (o336.2.O) = 0
                                  · replace h := if_t b346 h
                                    refine Ru.br (k := .eq) (off := 5) (bb := true) (tg := 687) (by decide +kernel) (by decide +kernel) (lg_1 b346) rfl ?_
                                    refine Ru.op (q := (.goto 164, 3)) (S' := (851, _, _, _, _)) (by decide +kernel) rfl ?_
                                    refine Ru.inc (k := 4) (n := 5) (x := v4) (z := (v4 + 5)) (xs' := [some (.retAddr 0), some (.ref 0), some (.ref 36), some (.ref 71), some (vI (v4 + 5)), some (vI o334.1), some (vI o336.1)]) (pc' := 854) (by decide +kernel) rfl rfl rfl rfl ?_
                                    refine Ru.op (q := (.goto (-831), 3)) (S' := (23, _, _, _, _)) (by decide +kernel) rfl ?_
                                    exact ih _ _ _ _ trivial _ h r hk hr
                                  · replace h := if_f b346 h
                                    refine Ru.br (k := .eq) (off := 5) (bb := false) (tg := 685) (by decide +kernel) (by decide +kernel) (lg_0 b346) rfl ?_
                                    refine Ru.kI (q := (.iconst 0, 1)) (c := 0) (pc' := 686) (by decide +kernel) rfl (by decide) rfl ?_
                                    cases h
                                    have h9 := hr _ rfl
                                    subst h9
                                    exact Ru.iret (by decide +kernel) rfl (nar_b1 (by decide))
                                · replace h := if_f b345 h
                                  refine Ru.br (k := .eq) (off := 7) (bb := false) (tg := 676) (by decide +kernel) (by decide +kernel) (cz (ci_eq0 g344 (by decide) b345)) rfl ?_
                                  refine Ru.op (q := (.lconst 1, 1)) (S' := (677, _, _, _, _)) (by decide +kernel) rfl ?_
                                  refine Ru.op (q := (.goto 4, 3)) (S' := (681, _, _, _, _)) (by decide +kernel) rfl ?_
                                  refine Ru.lcm (pc' := 682) (by decide +kernel) rfl ?_
                                  by_cases b347 : (o336.2.O) = 1
                                  · replace h := if_t b347 h
                                    refine Ru.br (k := .eq) (off := 5) (bb := true) (tg := 687) (by decide +kernel) (by decide +kernel) (lg_1 b347) rfl ?_
                                    refine Ru.op (q := (.goto 164, 3)) (S' := (851, _, _, _, _)) (by decide +kernel) rfl ?_
                                    refine Ru.inc (k := 4) (n := 5) (x := v4) (z := (v4 + 5)) (xs' := [some (.retAddr 0), some (.ref 0), some (.ref 36), some (.ref 71), some (vI (v4 + 5)), some (vI o334.1), some (vI o336.1)]) (pc' := 854) (by decide +kernel) rfl rfl rfl rfl ?_
                                    refine Ru.op (q := (.goto (-831), 3)) (S' := (23, _, _, _, _)) (by decide +kernel) rfl ?_
                                    exact ih _ _ _ _ trivial _ h r hk hr
                                  · replace h := if_f b347 h
                                    refine Ru.br (k := .eq) (off := 5) (bb := false) (tg := 685) (by decide +kernel) (by decide +kernel) (lg_0 b347) rfl ?_
                                    refine Ru.kI (q := (.iconst 0, 1)) (c := 0) (pc' := 686) (by decide +kernel) rfl (by decide) rfl ?_
                                    cases h
                                    have h9 := hr _ rfl
                                    subst h9
                                    exact Ru.iret (by decide +kernel) rfl (nar_b1 (by decide))
                              · replace h := if_f b343 h
                                refine Ru.br (k := .ne) (off := 22) (bb := true) (tg := 687) (by decide +kernel) (by decide +kernel) (cz (ci_ne1 g341 (by decide) b343)) rfl ?_
                                refine Ru.op (q := (.goto 164, 3)) (S' := (851, _, _, _, _)) (by decide +kernel) rfl ?_
                                refine Ru.inc (k := 4) (n := 5) (x := v4) (z := (v4 + 5)) (xs' := [some (.retAddr 0), some (.ref 0), some (.ref 36), some (.ref 71), some (vI (v4 + 5)), some (vI o334.1), some (vI o336.1)]) (pc' := 854) (by decide +kernel) rfl rfl rfl rfl ?_
                                refine Ru.op (q := (.goto (-831), 3)) (S' := (23, _, _, _, _)) (by decide +kernel) rfl ?_
                                exact ih _ _ _ _ trivial _ h r hk hr
                            · replace h := if_f b342 h
                              refine Ru.br2 (k := .eq) (off := 5) (bb := false) (tg := 661) (by decide +kernel) (by decide +kernel) (ci_eq0 g340 g341 b342) rfl ?_
                              refine Ru.kI (q := (.iconst 0, 1)) (c := 0) (pc' := 662) (by decide +kernel) rfl (by decide) rfl ?_
                              cases h
                              have h9 := hr _ rfl
                              subst h9
                              exact Ru.iret (by decide +kernel) rfl (nar_b1 (by decide))
                          · replace h := if_f b331 h
                            by_cases b348 : ((l.getD v4.toNat 0).toInt % 16) = 11
                            · replace h := if_t b348 h
                              refine Ru.sw (d := 812) (lo2 := 0) (hi := 13) (offs := #[69, 157, 170, 242, 255, 268, 312, 368, 452, 508, 576, 651, 664, 756]) (len := 69) (tg := 690) (by decide +kernel) (by rw [b348]; rfl) ?_
                              refine Ru.op (q := (.aload_n 1, 1)) (S' := (691, _, _, _, _)) (by decide +kernel) rfl ?_
                              obtain ⟨o349, e350, h⟩ := ob_some h
                              refine Ru.vcallI (pc' := 694) (st' := [vI o349.1]) (i := 109) (j2 := 14) (ci := 0) (k := 0) (z := 0) (as := []) (by decide +kernel) (by decide +kernel) rfl rfl (hp0 _) (by decide) ⟨(Nat.le_of_ble_eq_true rfl), (by show 19 + 1 ≤ 84000; exact Nat.le_of_ble_eq_true rfl), Nat.le_of_ble_eq_true rfl, Nat.le_of_ble_eq_true rfl⟩ ((g14_ok e350).up (Nat.le_of_ble_eq_true rfl) (Nat.le_of_ble_eq_true rfl)) rfl rfl ?_
                              refine Ru.op (q := (.aload_n 2, 1)) (S' := (695, _, _, _, _)) (by decide +kernel) rfl ?_
                              obtain ⟨o351, e352, h⟩ := ob_some h
                              refine Ru.vcallI (pc' := 698) (st' := [vI o351.1, vI o349.1]) (i := 112) (j2 := 156) (ci := 10) (k := 0) (z := 0) (as := []) (by decide +kernel) (by decide +kernel) rfl rfl (hp36 _) (by decide) ⟨(Nat.le_of_ble_eq_true rfl), (by show 19 + 3 ≤ 84000; exact Nat.le_of_ble_eq_true rfl), Nat.le_of_ble_eq_true rfl, Nat.le_of_ble_eq_true rfl⟩ ((g156_ok e352).up (Nat.le_of_ble_eq_true rfl) (Nat.le_of_ble_eq_true rfl)) rfl rfl ?_
                              obtain ⟨g353, h⟩ := gd_some h
                              obtain ⟨g354, h⟩ := gd_some h
                              by_cases b355 : o349.1 = o351.1
                              · replace h := if_t b355 h
                                refine Ru.br2 (k := .eq) (off := 153) (bb := true) (tg := 851) (by decide +kernel) (by decide +kernel) (ci_eq1 g353 g354 b355) rfl ?_
                                refine Ru.inc (k := 4) (n := 5) (x := v4) (z := (v4 + 5)) (xs' := [some (.retAddr 0), some (.ref 0), some (.ref 36), some (.ref 71), some (vI (v4 + 5)), d5, d6]) (pc' := 854) (by decide +kernel) rfl rfl rfl rfl ?_
                                refine Ru.op (q := (.goto (-831), 3)) (S' := (23, _, _, _, _)) (by decide +kernel) rfl ?_
                                exact ih _ _ _ _ trivial _ h r hk hr
                              · replace h := if_f b355 h
                                refine Ru.br2 (k := .eq) (off := 153) (bb := false) (tg := 701) (by decide +kernel) (by decide +kernel) (ci_eq0 g353 g354 b355) rfl ?_
                                refine Ru.kI (q := (.iconst 0, 1)) (c := 0) (pc' := 702) (by decide +kernel) rfl (by decide) rfl ?_
                                cases h
                                have h9 := hr _ rfl
                                subst h9
                                exact Ru.iret (by decide +kernel) rfl (nar_b1 (by decide))
                            · replace h := if_f b348 h
                              by_cases b356 : ((l.getD v4.toNat 0).toInt % 16) = 12
                              · replace h := if_t b356 h
                                refine Ru.sw (d := 812) (lo2 := 0) (hi := 13) (offs := #[69, 157, 170, 242, 255, 268, 312, 368, 452, 508, 576, 651, 664, 756]) (len := 69) (tg := 703) (by decide +kernel) (by rw [b356]; rfl) ?_
                                refine Ru.op (q := (.aload_n 1, 1)) (S' := (704, _, _, _, _)) (by decide +kernel) rfl ?_
                                refine Ru.op (q := (.aload_n 0, 1)) (S' := (705, _, _, _, _)) (by decide +kernel) rfl ?_
                                refine Ru.op (q := (.iload 4, 2)) (S' := (707, _, _, _, _)) (by decide +kernel) rfl ?_
                                refine Ru.kI (q := (.iconst 1, 1)) (c := 1) (pc' := 708) (by decide +kernel) rfl (by decide) rfl ?_
                                refine Ru.ar2 (i := .iadd) (z := (v4 + 1)) (pc' := 709) (by decide +kernel) rfl (ar_add _ _) rfl ?_
                                obtain ⟨g357, h⟩ := gd_some h
                                refine Ru.sldI (pc' := 710) (i := (v4 + 1)) (z := (l.getD (v4 + 1).toNat 0).toInt) (by decide +kernel) g357 hl rfl rfl ?_
                                refine Ru.op (q := (.aload_n 0, 1)) (S' := (711, _, _, _, _)) (by decide +kernel) rfl ?_
                                refine Ru.op (q := (.iload 4, 2)) (S' := (713, _, _, _, _)) (by decide +kernel) rfl ?_
                                refine Ru.kI (q := (.iconst 2, 1)) (c := 2) (pc' := 714) (by decide +kernel) rfl (by decide) rfl ?_
                                refine Ru.ar2 (i := .iadd) (z := (v4 + 2)) (pc' := 715) (by decide +kernel) rfl (ar_add _ _) rfl ?_
                                obtain ⟨g358, h⟩ := gd_some h
                                refine Ru.sldI (pc' := 716) (i := (v4 + 2)) (z := (l.getD (v4 + 2).toNat 0).toInt) (by decide +kernel) g358 hl rfl rfl ?_
                                refine Ru.op (q := (.aload_n 0, 1)) (S' := (717, _, _, _, _)) (by decide +kernel) rfl ?_
                                refine Ru.op (q := (.iload 4, 2)) (S' := (719, _, _, _, _)) (by decide +kernel) rfl ?_
                                refine Ru.kI (q := (.iconst 3, 1)) (c := 3) (pc' := 720) (by decide +kernel) rfl (by decide) rfl ?_
                                refine Ru.ar2 (i := .iadd) (z := (v4 + 3)) (pc' := 721) (by decide +kernel) rfl (ar_add _ _) rfl ?_
                                obtain ⟨g359, h⟩ := gd_some h
                                refine Ru.sldI (pc' := 722) (i := (v4 + 3)) (z := (l.getD (v4 + 3).toNat 0).toInt) (by decide +kernel) g359 hl rfl rfl ?_
                                refine Ru.op (q := (.aload_n 0, 1)) (S' := (723, _, _, _, _)) (by decide +kernel) rfl ?_
                                refine Ru.op (q := (.iload 4, 2)) (S' := (725, _, _, _, _)) (by decide +kernel) rfl ?_
                                refine Ru.kI (q := (.iconst 4, 1)) (c := 4) (pc' := 726) (by decide +kernel) rfl (by decide) rfl ?_
                                refine Ru.ar2 (i := .iadd) (z := (v4 + 4)) (pc' := 727) (by decide +kernel) rfl (ar_add _ _) rfl ?_
                                obtain ⟨g360, h⟩ := gd_some h
                                refine Ru.sldI (pc' := 728) (i := (v4 + 4)) (z := (l.getD (v4 + 4).toNat 0).toInt) (by decide +kernel) g360 hl rfl rfl ?_
                                refine Ru.op (q := (.aload_n 3, 1)) (S' := (729, _, _, _, _)) (by decide +kernel) rfl ?_
                                obtain ⟨o361, e362, h⟩ := ob_some h
                                refine Ru.callI (pc' := 732) (q := (.invokestatic 113, 3)) (j2 := 170) (as := [.ref 0, vI ((l.getD (v4 + 1).toNat 0).toInt), vI ((l.getD (v4 + 2).toNat 0).toInt), vI ((l.getD (v4 + 3).toNat 0).toInt), vI ((l.getD (v4 + 4).toNat 0).toInt), .ref 71]) (st' := [vI o361.1]) (by decide +kernel) rfl rfl rfl rfl ⟨(Nat.le_of_ble_eq_true rfl), (by show 19 + 7 ≤ 84000; exact Nat.le_of_ble_eq_true rfl), Nat.le_of_ble_eq_true rfl, Nat.le_of_ble_eq_true rfl⟩ ((g170_ok e362).up (Nat.le_of_ble_eq_true rfl) (Nat.le_of_ble_eq_true rfl)) rfl rfl ?_
                                refine Ru.op (q := (.istore 5, 2)) (S' := (734, [some (.retAddr 0), some (.ref 0), some (.ref 36), some (.ref 71), some (vI v4), some (vI o361.1), d6], [], _, _)) (by decide +kernel) rfl ?_
                                refine Ru.op (q := (.aload_n 2, 1)) (S' := (735, _, _, _, _)) (by decide +kernel) rfl ?_
                                refine Ru.op (q := (.aload_n 0, 1)) (S' := (736, _, _, _, _)) (by decide +kernel) rfl ?_
                                refine Ru.op (q := (.iload 4, 2)) (S' := (738, _, _, _, _)) (by decide +kernel) rfl ?_
                                refine Ru.kI (q := (.iconst 1, 1)) (c := 1) (pc' := 739) (by decide +kernel) rfl (by decide) rfl ?_
                                refine Ru.ar2 (i := .iadd) (z := (v4 + 1)) (pc' := 740) (by decide +kernel) rfl (ar_add _ _) rfl ?_
                                refine Ru.sldI (pc' := 741) (i := (v4 + 1)) (z := (l.getD (v4 + 1).toNat 0).toInt) (by decide +kernel) g357 hl rfl rfl ?_
                                refine Ru.op (q := (.aload_n 0, 1)) (S' := (742, _, _, _, _)) (by decide +kernel) rfl ?_
                                refine Ru.op (q := (.iload 4, 2)) (S' := (744, _, _, _, _)) (by decide +kernel) rfl ?_
                                refine Ru.kI (q := (.iconst 2, 1)) (c := 2) (pc' := 745) (by decide +kernel) rfl (by decide) rfl ?_
                                refine Ru.ar2 (i := .iadd) (z := (v4 + 2)) (pc' := 746) (by decide +kernel) rfl (ar_add _ _) rfl ?_
                                refine Ru.sldI (pc' := 747) (i := (v4 + 2)) (z := (l.getD (v4 + 2).toNat 0).toInt) (by decide +kernel) g358 hl rfl rfl ?_
                                refine Ru.op (q := (.aload_n 0, 1)) (S' := (748, _, _, _, _)) (by decide +kernel) rfl ?_
                                refine Ru.op (q := (.iload 4, 2)) (S' := (750, _, _, _, _)) (by decide +kernel) rfl ?_
                                refine Ru.kI (q := (.iconst 3, 1)) (c := 3) (pc' := 751) (by decide +kernel) rfl (by decide) rfl ?_
                                refine Ru.ar2 (i := .iadd) (z := (v4 + 3)) (pc' := 752) (by decide +kernel) rfl (ar_add _ _) rfl ?_
                                refine Ru.sldI (pc' := 753) (i := (v4 + 3)) (z := (l.getD (v4 + 3).toNat 0).toInt) (by decide +kernel) g359 hl rfl rfl ?_
                                refine Ru.op (q := (.aload_n 0, 1)) (S' := (754, _, _, _, _)) (by decide +kernel) rfl ?_
                                refine Ru.op (q := (.iload 4, 2)) (S' := (756, _, _, _, _)) (by decide +kernel) rfl ?_
                                refine Ru.kI (q := (.iconst 4, 1)) (c := 4) (pc' := 757) (by decide +kernel) rfl (by decide) rfl ?_
                                refine Ru.ar2 (i := .iadd) (z := (v4 + 4)) (pc' := 758) (by decide +kernel) rfl (ar_add _ _) rfl ?_
                                refine Ru.sldI (pc' := 759) (i := (v4 + 4)) (z := (l.getD (v4 + 4).toNat 0).toInt) (by decide +kernel) g360 hl rfl rfl ?_
                                obtain ⟨o363, e364, h⟩ := ob_some h
                                refine Ru.vcallI (pc' := 762) (st' := [vI o363.1]) (i := 116) (j2 := 158) (ci := 10) (k := 0) (z := 0) (as := [vI ((l.getD (v4 + 1).toNat 0).toInt), vI ((l.getD (v4 + 2).toNat 0).toInt), vI ((l.getD (v4 + 3).toNat 0).toInt), vI ((l.getD (v4 + 4).toNat 0).toInt)]) (by decide +kernel) (by decide +kernel) rfl rfl (hp36 _) (by decide) ⟨(Nat.le_of_ble_eq_true rfl), (by show 19 + 7 ≤ 84000; exact Nat.le_of_ble_eq_true rfl), Nat.le_of_ble_eq_true rfl, Nat.le_of_ble_eq_true rfl⟩ ((g158_ok e364).up (Nat.le_of_ble_eq_true rfl) (Nat.le_of_ble_eq_true rfl)) rfl rfl ?_
                                refine Ru.op (q := (.istore 6, 2)) (S' := (764, [some (.retAddr 0), some (.ref 0), some (.ref 36), some (.ref 71), some (vI v4), some (vI o361.1), some (vI o363.1)], [], _, _)) (by decide +kernel) rfl ?_
                                refine Ru.op (q := (.aload_n 2, 1)) (S' := (765, _, _, _, _)) (by decide +kernel) rfl ?_
                                obtain ⟨o365, e366, h⟩ := ob_some h
                                refine Ru.vcallI (pc' := 768) (st' := [vI o365]) (i := 68) (j2 := 94) (ci := 10) (k := 0) (z := 0) (as := []) (by decide +kernel) (by decide +kernel) rfl rfl (hp36 _) (by decide) ⟨(Nat.le_of_ble_eq_true rfl), (by show 19 + 1 ≤ 84000; exact Nat.le_of_ble_eq_true rfl), Nat.le_of_ble_eq_true rfl, Nat.le_of_ble_eq_true rfl⟩ ((g94_ok e366).up (Nat.le_of_ble_eq_true rfl) (Nat.le_of_ble_eq_true rfl)) rfl rfl ?_
                                refine Ru.op (q := (.iload 5, 2)) (S' := (770, _, _, _, _)) (by decide +kernel) rfl ?_
                                obtain ⟨g367, h⟩ := gd_some h
                                obtain ⟨g368, h⟩ := gd_some h
                                by_cases b369 : o365 = o361.1
                                · replace h := if_t b369 h
                                  refine Ru.br2 (k := .eq) (off := 5) (bb := true) (tg := 775) (by decide +kernel) (by decide +kernel) (ci_eq1 g367 g368 b369) rfl ?_
                                  refine Ru.op (q := (.iload 5, 2)) (S' := (777, _, _, _, _)) (by decide +kernel) rfl ?_
                                  by_cases b370 : o361.1 = 0
                                  · replace h := if_t b370 h
                                    refine Ru.br (k := .ne) (off := 15) (bb := false) (tg := 780) (by decide +kernel) (by decide +kernel) (cz (ci_ne0 g368 (by decide) b370)) rfl ?_
                                    refine Ru.op (q := (.aload_n 3, 1)) (S' := (781, _, _, _, _)) (by decide +kernel) rfl ?_
                                    refine Ru.kI (q := (.iconst 0, 1)) (c := 0) (pc' := 782) (by decide +kernel) rfl (by decide) rfl ?_
                                    refine Ru.lld (S := o363.2) (pc' := 783) (by decide +kernel) rfl ?_
                                    refine Ru.op (q := (.iload 6, 2)) (S' := (785, _, _, _, _)) (by decide +kernel) rfl ?_
                                    refine Ru.i2l (x := o363.1) (pc' := 786) (by decide +kernel) rfl ?_
                                    refine Ru.lcm (pc' := 787) (by decide +kernel) rfl ?_
                                    by_cases b371 : (o363.2.O) = (lI o363.1)
                                    · replace h := if_t b371 h
                                      refine Ru.br (k := .eq) (off := 5) (bb := true) (tg := 792) (by decide +kernel) (by decide +kernel) (lg_1 b371) rfl ?_
                                      refine Ru.op (q := (.goto 59, 3)) (S' := (851, _, _, _, _)) (by decide +kernel) rfl ?_
                                      refine Ru.inc (k := 4) (n := 5) (x := v4) (z := (v4 + 5)) (xs' := [some (.retAddr 0), some (.ref 0), some (.ref 36), some (.ref 71), some (vI (v4 + 5)), some (vI o361.1), some (vI o363.1)]) (pc' := 854) (by decide +kernel) rfl rfl rfl rfl ?_
                                      refine Ru.op (q := (.goto (-831), 3)) (S' := (23, _, _, _, _)) (by decide +kernel) rfl ?_
                                      exact ih _ _ _ _ trivial _ h r hk hr
                                    · replace h := if_f b371 h
                                      refine Ru.br (k := .eq) (off := 5) (bb := false) (tg := 790) (by decide +kernel) (by decide +kernel) (lg_0 b371) rfl ?_
                                      refine Ru.kI (q := (.iconst 0, 1)) (c := 0) (pc' := 791) (by decide +kernel) rfl (by decide) rfl ?_
                                      cases h
                                      have h9 := hr _ rfl
                                      subst h9
                                      exact Ru.iret (by decide +kernel) rfl (nar_b1 (by decide))
                                  · replace h := if_f b370 h
                                    refine Ru.br (k := .ne) (off := 15) (bb := true) (tg := 792) (by decide +kernel) (by decide +kernel) (cz (ci_ne1 g368 (by decide) b370)) rfl ?_
                                    refine Ru.op (q := (.goto 59, 3)) (S' := (851, _, _, _, _)) (by decide +kernel) rfl ?_
                                    refine Ru.inc (k := 4) (n := 5) (x := v4) (z := (v4 + 5)) (xs' := [some (.retAddr 0), some (.ref 0), some (.ref 36), some (.ref 71), some (vI (v4 + 5)), some (vI o361.1), some (vI o363.1)]) (pc' := 854) (by decide +kernel) rfl rfl rfl rfl ?_
                                    refine Ru.op (q := (.goto (-831), 3)) (S' := (23, _, _, _, _)) (by decide +kernel) rfl ?_
                                    exact ih _ _ _ _ trivial _ h r hk hr
                                · replace h := if_f b369 h
                                  refine Ru.br2 (k := .eq) (off := 5) (bb := false) (tg := 773) (by decide +kernel) (by decide +kernel) (ci_eq0 g367 g368 b369) rfl ?_
                                  refine Ru.kI (q := (.iconst 0, 1)) (c := 0) (pc' := 774) (by decide +kernel) rfl (by decide) rfl ?_
                                  cases h
                                  have h9 := hr _ rfl
                                  subst h9
                                  exact Ru.iret (by decide +kernel) rfl (nar_b1 (by decide))
                              · replace h := if_f b356 h
                                by_cases b372 : ((l.getD v4.toNat 0).toInt % 16) = 13
                                · replace h := if_t b372 h
                                  refine Ru.sw (d := 812) (lo2 := 0) (hi := 13) (offs := #[69, 157, 170, 242, 255, 268, 312, 368, 452, 508, 576, 651, 664, 756]) (len := 69) (tg := 795) (by decide +kernel) (by rw [b372]; rfl) ?_
                                  refine Ru.op (q := (.aload_n 1, 1)) (S' := (796, _, _, _, _)) (by decide +kernel) rfl ?_
                                  refine Ru.op (q := (.aload_n 0, 1)) (S' := (797, _, _, _, _)) (by decide +kernel) rfl ?_
                                  refine Ru.op (q := (.iload 4, 2)) (S' := (799, _, _, _, _)) (by decide +kernel) rfl ?_
                                  refine Ru.kI (q := (.iconst 1, 1)) (c := 1) (pc' := 800) (by decide +kernel) rfl (by decide) rfl ?_
                                  refine Ru.ar2 (i := .iadd) (z := (v4 + 1)) (pc' := 801) (by decide +kernel) rfl (ar_add _ _) rfl ?_
                                  obtain ⟨g373, h⟩ := gd_some h
                                  refine Ru.sldI (pc' := 802) (i := (v4 + 1)) (z := (l.getD (v4 + 1).toNat 0).toInt) (by decide +kernel) g373 hl rfl rfl ?_
                                  refine Ru.op (q := (.aload_n 3, 1)) (S' := (803, _, _, _, _)) (by decide +kernel) rfl ?_
                                  obtain ⟨o374, e375, h⟩ := ob_some h
                                  refine Ru.callI (pc' := 806) (q := (.invokestatic 117, 3)) (j2 := 171) (as := [.ref 0, vI ((l.getD (v4 + 1).toNat 0).toInt), .ref 71]) (st' := [vI o374.1]) (by decide +kernel) rfl rfl rfl rfl ⟨(Nat.le_of_ble_eq_true rfl), (by show 19 + 4 ≤ 84000; exact Nat.le_of_ble_eq_true rfl), Nat.le_of_ble_eq_true rfl, Nat.le_of_ble_eq_true rfl⟩ ((g171_ok e375).up (Nat.le_of_ble_eq_true rfl) (Nat.le_of_ble_eq_true rfl)) rfl rfl ?_
                                  refine Ru.op (q := (.istore 5, 2)) (S' := (808, [some (.retAddr 0), some (.ref 0), some (.ref 36), some (.ref 71), some (vI v4), some (vI o374.1), d6], [], _, _)) (by decide +kernel) rfl ?_
                                  refine Ru.op (q := (.aload_n 2, 1)) (S' := (809, _, _, _, _)) (by decide +kernel) rfl ?_
                                  refine Ru.op (q := (.aload_n 0, 1)) (S' := (810, _, _, _, _)) (by decide +kernel) rfl ?_
                                  refine Ru.op (q := (.iload 4, 2)) (S' := (812, _, _, _, _)) (by decide +kernel) rfl ?_
                                  refine Ru.kI (q := (.iconst 1, 1)) (c := 1) (pc' := 813) (by decide +kernel) rfl (by decide) rfl ?_
                                  refine Ru.ar2 (i := .iadd) (z := (v4 + 1)) (pc' := 814) (by decide +kernel) rfl (ar_add _ _) rfl ?_
                                  refine Ru.sldI (pc' := 815) (i := (v4 + 1)) (z := (l.getD (v4 + 1).toNat 0).toInt) (by decide +kernel) g373 hl rfl rfl ?_
                                  obtain ⟨o376, e377, h⟩ := ob_some h
                                  refine Ru.vcallI (pc' := 818) (st' := [vI o376.1]) (i := 119) (j2 := 157) (ci := 10) (k := 0) (z := 0) (as := [vI ((l.getD (v4 + 1).toNat 0).toInt)]) (by decide +kernel) (by decide +kernel) rfl rfl (hp36 _) (by decide) ⟨(Nat.le_of_ble_eq_true rfl), (by show 19 + 2 ≤ 84000; exact Nat.le_of_ble_eq_true rfl), Nat.le_of_ble_eq_true rfl, Nat.le_of_ble_eq_true rfl⟩ ((g157_ok e377).up (Nat.le_of_ble_eq_true rfl) (Nat.le_of_ble_eq_true rfl)) rfl rfl ?_
                                  refine Ru.op (q := (.istore 6, 2)) (S' := (820, [some (.retAddr 0), some (.ref 0), some (.ref 36), some (.ref 71), some (vI v4), some (vI o374.1), some (vI o376.1)], [], _, _)) (by decide +kernel) rfl ?_
                                  refine Ru.op (q := (.aload_n 2, 1)) (S' := (821, _, _, _, _)) (by decide +kernel) rfl ?_
                                  obtain ⟨o378, e379, h⟩ := ob_some h
                                  refine Ru.vcallI (pc' := 824) (st' := [vI o378]) (i := 68) (j2 := 94) (ci := 10) (k := 0) (z := 0) (as := []) (by decide +kernel) (by decide +kernel) rfl rfl (hp36 _) (by decide) ⟨(Nat.le_of_ble_eq_true rfl), (by show 19 + 1 ≤ 84000; exact Nat.le_of_ble_eq_true rfl), Nat.le_of_ble_eq_true rfl, Nat.le_of_ble_eq_true rfl⟩ ((g94_ok e379).up (Nat.le_of_ble_eq_true rfl) (Nat.le_of_ble_eq_true rfl)) rfl rfl ?_
                                  refine Ru.op (q := (.iload 5, 2)) (S' := (826, _, _, _, _)) (by decide +kernel) rfl ?_
                                  obtain ⟨g380, h⟩ := gd_some h
                                  obtain ⟨g381, h⟩ := gd_some h
                                  by_cases b382 : o378 = o374.1
                                  · replace h := if_t b382 h
                                    refine Ru.br2 (k := .eq) (off := 5) (bb := true) (tg := 831) (by decide +kernel) (by decide +kernel) (ci_eq1 g380 g381 b382) rfl ?_
                                    refine Ru.op (q := (.iload 5, 2)) (S' := (833, _, _, _, _)) (by decide +kernel) rfl ?_
                                    by_cases b383 : o374.1 = 0
                                    · replace h := if_t b383 h
                                      refine Ru.br (k := .ne) (off := 15) (bb := false) (tg := 836) (by decide +kernel) (by decide +kernel) (cz (ci_ne0 g381 (by decide) b383)) rfl ?_
                                      refine Ru.op (q := (.aload_n 3, 1)) (S' := (837, _, _, _, _)) (by decide +kernel) rfl ?_
                                      refine Ru.kI (q := (.iconst 0, 1)) (c := 0) (pc' := 838) (by decide +kernel) rfl (by decide) rfl ?_
                                      refine Ru.lld (S := o376.2) (pc' := 839) (by decide +kernel) rfl ?_
                                      refine Ru.op (q := (.iload 6, 2)) (S' := (841, _, _, _, _)) (by decide +kernel) rfl ?_
                                      refine Ru.i2l (x := o376.1) (pc' := 842) (by decide +kernel) rfl ?_
                                      refine Ru.lcm (pc' := 843) (by decide +kernel) rfl ?_
                                      by_cases b384 : (o376.2.O) = (lI o376.1)
                                      · replace h := if_t b384 h
                                        refine Ru.br (k := .eq) (off := 5) (bb := true) (tg := 848) (by decide +kernel) (by decide +kernel) (lg_1 b384) rfl ?_
                                        refine Ru.op (q := (.goto 3, 3)) (S' := (851, _, _, _, _)) (by decide +kernel) rfl ?_
                                        refine Ru.inc (k := 4) (n := 5) (x := v4) (z := (v4 + 5)) (xs' := [some (.retAddr 0), some (.ref 0), some (.ref 36), some (.ref 71), some (vI (v4 + 5)), some (vI o374.1), some (vI o376.1)]) (pc' := 854) (by decide +kernel) rfl rfl rfl rfl ?_
                                        refine Ru.op (q := (.goto (-831), 3)) (S' := (23, _, _, _, _)) (by decide +kernel) rfl ?_
                                        exact ih _ _ _ _ trivial _ h r hk hr
                                      · replace h := if_f b384 h
                                        refine Ru.br (k := .eq) (off := 5) (bb := false) (tg := 846) (by decide +kernel) (by decide +kernel) (lg_0 b384) rfl ?_
                                        refine Ru.kI (q := (.iconst 0, 1)) (c := 0) (pc' := 847) (by decide +kernel) rfl (by decide) rfl ?_
                                        cases h
                                        have h9 := hr _ rfl
                                        subst h9
                                        exact Ru.iret (by decide +kernel) rfl (nar_b1 (by decide))
                                    · replace h := if_f b383 h
                                      refine Ru.br (k := .ne) (off := 15) (bb := true) (tg := 848) (by decide +kernel) (by decide +kernel) (cz (ci_ne1 g381 (by decide) b383)) rfl ?_
                                      refine Ru.op (q := (.goto 3, 3)) (S' := (851, _, _, _, _)) (by decide +kernel) rfl ?_
                                      refine Ru.inc (k := 4) (n := 5) (x := v4) (z := (v4 + 5)) (xs' := [some (.retAddr 0), some (.ref 0), some (.ref 36), some (.ref 71), some (vI (v4 + 5)), some (vI o374.1), some (vI o376.1)]) (pc' := 854) (by decide +kernel) rfl rfl rfl rfl ?_
                                      refine Ru.op (q := (.goto (-831), 3)) (S' := (23, _, _, _, _)) (by decide +kernel) rfl ?_
                                      exact ih _ _ _ _ trivial _ h r hk hr
                                  · replace h := if_f b382 h
                                    refine Ru.br2 (k := .eq) (off := 5) (bb := false) (tg := 829) (by decide +kernel) (by decide +kernel) (ci_eq0 g380 g381 b382) rfl ?_
                                    refine Ru.kI (q := (.iconst 0, 1)) (c := 0) (pc' := 830) (by decide +kernel) rfl (by decide) rfl ?_
                                    cases h
                                    have h9 := hr _ rfl
                                    subst h9
                                    exact Ru.iret (by decide +kernel) rfl (nar_b1 (by decide))
                                · replace h := if_f b372 h
                                  refine Ru.sw (d := 812) (lo2 := 0) (hi := 13) (offs := #[69, 157, 170, 242, 255, 268, 312, 368, 452, 508, 576, 651, 664, 756]) (len := 69) (tg := 851) (by decide +kernel) (by simp only [mn_opC]; rw [eI_to g197, if_pos (by omega)]; rfl) ?_
                                  refine Ru.inc (k := 4) (n := 5) (x := v4) (z := (v4 + 5)) (xs' := [some (.retAddr 0), some (.ref 0), some (.ref 36), some (.ref 71), some (vI (v4 + 5)), d5, d6]) (pc' := 854) (by decide +kernel) rfl rfl rfl rfl ?_
                                  refine Ru.op (q := (.goto (-831), 3)) (S' := (23, _, _, _, _)) (by decide +kernel) rfl ?_
                                  exact ih _ _ _ _ trivial _ h r hk hr
