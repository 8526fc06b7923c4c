/-! the law's loop -/
theorem ty_f_ok {b : Nat → Nat} : ∀ m i n, ty_f b m i = some n → ∀ k, i ≤ k → k < n → 33 ≤ b k ∧ b k ≤ 126 := by
  intro m
  induction m with
  | zero => intro i n h k h1 h2; cases h; omega
  | succ m ih =>
    intro i n h k h1 h2
    unfold ty_f at h
    by_cases c0 : b i = 0
    · rw [if_pos c0] at h
      cases h
      omega
    · rw [if_neg c0] at h
      by_cases c1 : ty_bad (b i) = true
      · rw [if_pos c1] at h
        cases h
      · rw [if_neg c1] at h
        by_cases e : k = i
        · rw [e]
          exact ⟨Nat.le_of_not_lt (fun q => c1 (by unfold ty_bad; rw [decide_eq_true q]; rfl)), Nat.le_of_not_lt (fun q => c1 (by unfold ty_bad; rw [decide_eq_true q]; exact Bool.or_true _))⟩
        · exact ih _ _ h k (by omega) h2
theorem nI_to {k : Nat} (h : k < 2147483648) : (nI k).toInt = k := by
  have e := eI_nI (Int.natCast_nonneg k)
  rw [Int.toNat_natCast] at e
  rw [← e]
  exact eI_to ⟨by omega, by omega⟩
set_option maxHeartbeats 1000000 in
theorem type_ok {l : List Int32} {S : St} {j : Nat} {p : Int} (i0 : 0 ≤ p) (i5 : p + 5 ≤ l.length) (h : Rel S) (hr : Room j S) : ∃ U, gTy l S p = some U ∧ Rel U ∧ Room (j + 1) U := by
  have hR := h
  obtain ⟨⟨a1, a2, a3, a4⟩, h2, h3, h4, h5, h6, h7, h8⟩ := h
  unfold gTy
  cases hf : ty_f (ty_b (ty_v l p.toNat)) 8 0 with
  | none => exact ⟨S.ho.f 36 0 1, (gd_t ⟨i0, i5⟩).trans ((gd_t ⟨a3, a1, a2⟩).trans rfl), hR.hole.code 1, hr.hole.code 1⟩
  | some n =>
    by_cases hn : 160 < S.F 1 1 + n
    · exact ⟨S.ho.f 36 0 2, (gd_t ⟨i0, i5⟩).trans ((gd_t ⟨a3, a1, a2⟩).trans (if_pos hn)), hR.hole.code 2, hr.hole.code 2⟩
    · refine ⟨S.ty (S.F 1 1).toNat (ty_v l p.toNat) n, (gd_t ⟨i0, i5⟩).trans ((gd_t ⟨a3, a1, a2⟩).trans (if_neg hn)), ?_, hr.next⟩
      refine ⟨?_, h2, h3, h4, h5, h6, h7, h8⟩
      have e1 : (S.ty (S.F 1 1).toNat (ty_v l p.toNat) n).F 1 1 = (((S.F 1 1).toNat + n : Nat) : Int) := show (eI (((S.F 1 1).toNat + n : Nat) : Int)).toInt = _ from eI_to ⟨by omega, by omega⟩
      have e2 : (S.ty (S.F 1 1).toNat (ty_v l p.toNat) n).F 36 2 = (((S.F 1 1).toNat + n : Nat) : Int) := show (eI (((S.F 1 1).toNat + n : Nat) : Int)).toInt = _ from eI_to ⟨by omega, by omega⟩
      unfold RT
      rw [e1, e2]
      refine ⟨by omega, by omega, rfl, fun i z0 z1 => ?_⟩
      show (tyA (S.A0 37) (S.F 1 1).toNat (ty_v l p.toNat) n i).toInt = (tyA (S.A0 2) (S.F 1 1).toNat (ty_v l p.toNat) n i).toInt ∧ 33 ≤ (tyA (S.A0 2) (S.F 1 1).toNat (ty_v l p.toNat) n i).toInt ∧ (tyA (S.A0 2) (S.F 1 1).toNat (ty_v l p.toNat) n i).toInt ≤ 126
      unfold tyA
      by_cases hi : (((S.F 1 1).toNat : Nat) : Int) ≤ i ∧ i < ((S.F 1 1).toNat : Nat) + n
      · rw [if_pos hi, if_pos hi]
        have b := ty_f_ok 8 0 n hf (i.toNat - (S.F 1 1).toNat) (by omega) (by omega)
        rw [nI_to (by have := b.2; omega)]
        exact ⟨rfl, by omega, by omega⟩
      · rw [if_neg hi, if_neg hi]
        exact a4 i z0 (by omega)
theorem ex_t {α : Type} {a b : α} {K : St → α} {P : St → Prop} (e : a = b) (h : ∃ U, b = K U ∧ P U) : ∃ U, a = K U ∧ P U := by
  subst e
  exact h
theorem lw_t {β : Type} {j : Nat} {cw : Option (Int × St)} {mf : St → Option (Int × St)} {K E : St → Option β} (h : LW j cw mf) : ∃ U, ob cw (fun o => ob (mf o.2) (fun o2 => ob (g94 o2.2) (fun o3 => gd (inR o3) (gd (inR o.1) (if o3 = o.1 then if o.1 = 0 then if (o2.2.O) = (lI o2.1) then K o2.2 else E o2.2 else K o2.2 else E o2.2))))) = K U ∧ Rel U ∧ Room (j + 1) U := by
  obtain ⟨k, S1, w, S2, h1, h2, h3, h4, h5, h6, h7⟩ := h
  refine ⟨S2, ?_, h6, h7⟩
  have e94 : g94 S2 = some k := by rw [← h4]; rfl
  rw [h1]
  refine (ob_t rfl).trans ?_
  show ob (mf S1) _ = _
  rw [h2]
  refine (ob_t rfl).trans ?_
  show ob (g94 S2) _ = _
  rw [e94]
  refine (ob_t rfl).trans ((gd_t h3).trans ((gd_t h3).trans ((if_pos rfl).trans ?_)))
  show (if k = 0 then if S2.O = lI w then K S2 else E S2 else K S2) = K S2
  by_cases hk : k = 0
  · rw [if_pos hk, if_pos (h5 hk)]
  · rw [if_neg hk]
theorem lb_t {β : Type} {j : Nat} {cw : Option (Int × St)} {mf : St → Option (Int × St)} {K E : St → Option β} (h : LB j cw mf) : ∃ U, ob cw (fun o => ob (mf o.2) (fun o2 => ob (g94 o2.2) (fun o3 => gd (inR o3) (gd (inR o.1) (if o3 = o.1 then if o.1 = 0 then gd (inR o2.1) (if o2.1 = 0 then if (o2.2.O) = 0 then K o2.2 else E o2.2 else if (o2.2.O) = 1 then K o2.2 else E o2.2) else K o2.2 else E o2.2))))) = K U ∧ Rel U ∧ Room (j + 1) U := by
  obtain ⟨k, S1, w, S2, h1, h2, h3, hw, h4, h5, h6, h7⟩ := h
  refine ⟨S2, ?_, h6, h7⟩
  have e94 : g94 S2 = some k := by rw [← h4]; rfl
  rw [h1]
  refine (ob_t rfl).trans ?_
  show ob (mf S1) _ = _
  rw [h2]
  refine (ob_t rfl).trans ?_
  show ob (g94 S2) _ = _
  rw [e94]
  refine (ob_t rfl).trans ((gd_t h3).trans ((gd_t h3).trans ((if_pos rfl).trans ?_)))
  show (if k = 0 then gd (inR w) (if w = 0 then if S2.O = 0 then K S2 else E S2 else if S2.O = 1 then K S2 else E S2) else K S2) = K S2
  by_cases hk : k = 0
  · have e := h5 hk
    rw [if_pos hk]
    refine (gd_t hw).trans ?_
    by_cases hz : w = 0
    · rw [if_pos hz] at e
      rw [if_pos hz, if_pos e]
    · rw [if_neg hz] at e
      rw [if_neg hz, if_pos e]
  · rw [if_neg hk]
set_option maxHeartbeats 2000000 in
theorem turn_ok {l : List Int32} (hl : l.length ≤ 2560) {n j : Nat} {v4 : Int} {S : St} (v0 : 0 ≤ v4) (h5 : v4 + 5 ≤ l.length) (h : Rel S) (hr : Room j S) : ∃ U, g172L23 l (n + 1) v4 S = g172L23 l n (v4 + 5) U ∧ Rel U ∧ Room (j + 1) U := by
  have ix : ∀ k : Int, 0 ≤ k → k ≤ 4 → ixR (v4 + k) l.length := fun k k0 k1 => ⟨by omega, by omega⟩
  rw [g172L23]
  refine ex_t (gd_t ⟨by omega, by omega⟩) ?_
  refine ex_t (gd_t ⟨by omega, by omega⟩) ?_
  refine ex_t (if_neg (by omega)) ?_
  refine ex_t (gd_t ⟨by omega, by omega⟩) ?_
  refine ex_t (gd_t ⟨by omega, by omega⟩) ?_
  by_cases c0 : (l.getD v4.toNat 0).toInt % 16 = 0
  · refine ex_t (if_pos c0) ?_
    obtain ⟨U, t1, t2, t3⟩ := type_ok v0 h5 h hr
    exact ⟨U, ob_t t1, t2, t3⟩
  refine ex_t (if_neg c0) ?_
  by_cases c1 : (l.getD v4.toNat 0).toInt % 16 = 1
  · refine ex_t (if_pos c1) ?_
    obtain ⟨x, T, U, t1, t2, t3, t4, t5⟩ := wipe_ok h hr
    exact ⟨U, (ob_t t1).trans ((ob_t t2).trans ((gd_t t3).trans ((gd_t t3).trans (if_pos rfl)))), t4, t5⟩
  refine ex_t (if_neg c1) ?_
  by_cases c2 : (l.getD v4.toNat 0).toInt % 16 = 2
  · refine ex_t (if_pos c2) ?_
    refine ex_t (gd_t (ix 1 (by decide) (by decide))) ?_
    by_cases d : (l.getD (v4 + 1).toNat 0).toInt = 0
    · refine ex_t (if_pos d) ?_
      have q := assume_ok (v := 0) (Or.inl rfl) h hr
      exact lw_t (β := Sum St (Int × St)) (cw := g163 S 0) (mf := fun T => g98 T 0) (K := fun U => g172L23 l n (v4 + 5) U) (E := fun U => some (.inr (0, U))) q
    · refine ex_t (if_neg d) ?_
      have q := assume_ok (v := 1) (Or.inr rfl) h hr
      exact lw_t (β := Sum St (Int × St)) (cw := g163 S 1) (mf := fun T => g98 T 1) (K := fun U => g172L23 l n (v4 + 5) U) (E := fun U => some (.inr (0, U))) q
  refine ex_t (if_neg c2) ?_
  by_cases c3 : (l.getD v4.toNat 0).toInt % 16 = 3
  · refine ex_t (if_pos c3) ?_
    obtain ⟨x, U, t1, t2, t3, t4, t5⟩ := at_ok h hr
    exact ⟨U, (ob_t t1).trans ((ob_t t2).trans ((gd_t t3).trans ((gd_t t3).trans (if_pos rfl)))), t4, t5⟩
  refine ex_t (if_neg c3) ?_
  by_cases c4 : (l.getD v4.toNat 0).toInt % 16 = 4
  · refine ex_t (if_pos c4) ?_
    obtain ⟨x, U, t1, t2, t3, t4, t5⟩ := state_ok h hr
    exact ⟨U, (ob_t t1).trans ((ob_t t2).trans ((gd_t t3).trans ((gd_t t3).trans (if_pos rfl)))), t4, t5⟩
  refine ex_t (if_neg c4) ?_
  by_cases c5 : (l.getD v4.toNat 0).toInt % 16 = 5
  · refine ex_t (if_pos c5) ?_
    exact lw_t (β := Sum St (Int × St)) (K := fun U => g172L23 l n (v4 + 5) U) (E := fun U => some (.inr (0, U))) (step_ok h hr)
  refine ex_t (if_neg c5) ?_
  by_cases c6 : (l.getD v4.toNat 0).toInt % 16 = 6
  · refine ex_t (if_pos c6) ?_
    refine ex_t (gd_t (ix 1 (by decide) (by decide))) ?_
    exact lw_t (β := Sum St (Int × St)) (K := fun U => g172L23 l n (v4 + 5) U) (E := fun U => some (.inr (0, U))) (run_ok (inR_to _) h hr)
  refine ex_t (if_neg c6) ?_
  by_cases c7 : (l.getD v4.toNat 0).toInt % 16 = 7
  · refine ex_t (if_pos c7) ?_
    refine ex_t (gd_t (ix 1 (by decide) (by decide))) ?_
    by_cases d : (l.getD (v4 + 1).toNat 0).toInt = 0
    · refine ex_t (if_pos d) ?_
      refine ex_t (gd_t (ix 2 (by decide) (by decide))) ?_
      exact lw_t (β := Sum St (Int × St)) (K := fun U => g172L23 l n (v4 + 5) U) (E := fun U => some (.inr (0, U))) (print_ok (by decide) (inR_to _) h hr)
    · refine ex_t (if_neg d) ?_
      refine ex_t (gd_t (ix 2 (by decide) (by decide))) ?_
      exact lw_t (β := Sum St (Int × St)) (K := fun U => g172L23 l n (v4 + 5) U) (E := fun U => some (.inr (0, U))) (print_ok (by decide) (inR_to _) h hr)
  refine ex_t (if_neg c7) ?_
  by_cases c8 : (l.getD v4.toNat 0).toInt % 16 = 8
  · refine ex_t (if_pos c8) ?_
    refine ex_t (gd_t (ix 1 (by decide) (by decide))) ?_
    exact lw_t (β := Sum St (Int × St)) (K := fun U => g172L23 l n (v4 + 5) U) (E := fun U => some (.inr (0, U))) (out_ok (inR_to _) h hr)
  refine ex_t (if_neg c8) ?_
  by_cases c9 : (l.getD v4.toNat 0).toInt % 16 = 9
  · refine ex_t (if_pos c9) ?_
    refine ex_t (gd_t (ix 1 (by decide) (by decide))) ?_
    refine ex_t (gd_t (ix 2 (by decide) (by decide))) ?_
    exact lw_t (β := Sum St (Int × St)) (K := fun U => g172L23 l n (v4 + 5) U) (E := fun U => some (.inr (0, U))) (clause_ok (inR_to _) (inR_to _) h hr)
  refine ex_t (if_neg c9) ?_
  by_cases c10 : (l.getD v4.toNat 0).toInt % 16 = 10
  · refine ex_t (if_pos c10) ?_
    refine ex_t (gd_t (ix 1 (by decide) (by decide))) ?_
    refine ex_t (gd_t (ix 2 (by decide) (by decide))) ?_
    exact lb_t (β := Sum St (Int × St)) (K := fun U => g172L23 l n (v4 + 5) U) (E := fun U => some (.inr (0, U))) (subsumes_ok (inR_to _) (inR_to _) h hr)
  refine ex_t (if_neg c10) ?_
  by_cases c11 : (l.getD v4.toNat 0).toInt % 16 = 11
  · refine ex_t (if_pos c11) ?_
    obtain ⟨x, T, U, t1, t2, t3, t4, t5⟩ := proof_ok h hr
    exact ⟨U, (ob_t t1).trans ((ob_t t2).trans ((gd_t t3).trans ((gd_t t3).trans (if_pos rfl)))), t4, t5⟩
  refine ex_t (if_neg c11) ?_
  by_cases c12 : (l.getD v4.toNat 0).toInt % 16 = 12
  · refine ex_t (if_pos c12) ?_
    refine ex_t (gd_t (ix 1 (by decide) (by decide))) ?_
    refine ex_t (gd_t (ix 2 (by decide) (by decide))) ?_
    refine ex_t (gd_t (ix 3 (by decide) (by decide))) ?_
    refine ex_t (gd_t (ix 4 (by decide) (by decide))) ?_
    have q := claim_ok (v1 := (l.getD (v4 + 1).toNat 0).toInt) (v2 := (l.getD (v4 + 2).toNat 0).toInt) (v3 := (l.getD (v4 + 3).toNat 0).toInt) (v4 := (l.getD (v4 + 4).toNat 0).toInt) (inR_to _) (inR_to _) (inR_to _) (inR_to _) h hr
    exact lw_t (β := Sum St (Int × St)) (cw := g170 S ((l.getD (v4 + 1).toNat 0).toInt) ((l.getD (v4 + 2).toNat 0).toInt) ((l.getD (v4 + 3).toNat 0).toInt) ((l.getD (v4 + 4).toNat 0).toInt)) (mf := fun T => g158 T ((l.getD (v4 + 1).toNat 0).toInt) ((l.getD (v4 + 2).toNat 0).toInt) ((l.getD (v4 + 3).toNat 0).toInt) ((l.getD (v4 + 4).toNat 0).toInt)) (K := fun U => g172L23 l n (v4 + 5) U) (E := fun U => some (.inr (0, U))) q
  refine ex_t (if_neg c12) ?_
  by_cases c13 : (l.getD v4.toNat 0).toInt % 16 = 13
  · refine ex_t (if_pos c13) ?_
    refine ex_t (gd_t (ix 1 (by decide) (by decide))) ?_
    exact lw_t (β := Sum St (Int × St)) (K := fun U => g172L23 l n (v4 + 5) U) (E := fun U => some (.inr (0, U))) (figure_ok (inR_to _) h hr)
  refine ex_t (if_neg c13) ?_
  exact ⟨S, rfl, h, hr.next⟩
theorem loop_ok {l : List Int32} (hl : l.length ≤ 2560) : ∀ (n j : Nat) (S : St), l.length < n + 5 * j → 5 * j ≤ l.length → Rel S → Room j S → ∃ U, g172L23 l n ((5 * j : Nat) : Int) S = some (.inl U) ∧ ∃ j' : Nat, 5 * j' ≤ l.length ∧ Rel U ∧ Room j' U := by
  intro n
  induction n with
  | zero => intro j S h1 h2; omega
  | succ n ih =>
    intro j S h1 h2 h hr
    by_cases h5 : 5 * j + 5 ≤ l.length
    · obtain ⟨U, t1, t2, t3⟩ := turn_ok (n := n) (v4 := ((5 * j : Nat) : Int)) hl (by omega) (by omega) h hr
      obtain ⟨V, q1, q2⟩ := ih (j + 1) U (by omega) (by omega) t2 t3
      refine ⟨V, ?_, q2⟩
      rw [t1, show ((5 * j : Nat) : Int) + 5 = ((5 * (j + 1) : Nat) : Int) by omega]
      exact q1
    · refine ⟨S, ?_, j, h2, h, hr⟩
      rw [g172L23]
      refine (gd_t ⟨by omega, by omega⟩).trans ?_
      refine (gd_t ⟨by omega, by omega⟩).trans ?_
      exact if_pos (by omega)
