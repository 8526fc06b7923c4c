theorem g114L267_t {v1 v2 b t v4 : Int} (b0 : 0 ≤ b + v4) (bt : b < t) (t1 : t + v4 < 300) : ∀ (r n : Nat) (v5 : Int) (T : St), 0 ≤ v5 → v5 + r = 8 → T.F 36 43 = t → r < n → ∃ T', g114L267 v1 v2 b v4 n v5 T = some T' ∧ Fr [59] T T' ∧ ∀ q : Int, T'.A 59 q = if 8 * (b + v4) + v5 ≤ q ∧ q < 8 * (b + v4) + 8 then T.A 59 (q + 8 * (t - b)) else T.A 59 q := by
  intro r
  induction r with
  | zero =>
    intro n v5 T z0 hz h43 hn
    obtain ⟨n, rfl⟩ : ∃ k, n = k + 1 := ⟨n - 1, by omega⟩
    refine ⟨T, ?_, Fr.refl _ _, fun q => by rw [if_neg (by omega)]⟩
    unfold g114L267
    refine (gd_t (by first | exact ⟨by omega, by omega⟩ | exact ⟨by omega, by omega, by omega⟩ | exact ⟨by omega, by omega, by omega, by omega⟩ | omega | exact inR_to _ | assumption | decide)).trans ?_
    rw [if_neg (by omega)]
  | succ r ih =>
    intro n v5 T z0 hz h43 hn
    obtain ⟨n, rfl⟩ : ∃ k, n = k + 1 := ⟨n - 1, by omega⟩
    have d59 : (T.a 59 (8 * (b + v4) + v5) (T.A 59 (8 * (t + v4) + v5))).A 59 = upI (T.A 59) (8 * (b + v4) + v5) (T.A 59 (8 * (t + v4) + v5)) := aA_up (inR_to _)
    obtain ⟨T', q1, q2, q3⟩ := ih n (v5 + 1) (T.a 59 (8 * (b + v4) + v5) (T.A 59 (8 * (t + v4) + v5))) (by omega) (by omega) h43 (by omega)
    refine ⟨T', ?_, (Fr.a (by decide)).trans q2, fun q => ?_⟩
    · rw [g114L267]
      refine (gd_t (by first | exact ⟨by omega, by omega⟩ | exact ⟨by omega, by omega, by omega⟩ | exact ⟨by omega, by omega, by omega, by omega⟩ | omega | exact inR_to _ | assumption | decide)).trans ?_
      rw [if_pos (by omega), h43]
      refine (gd_t (by first | exact ⟨by omega, by omega⟩ | exact ⟨by omega, by omega, by omega⟩ | exact ⟨by omega, by omega, by omega, by omega⟩ | omega | exact inR_to _ | assumption | decide)).trans ?_
      refine (gd_t (by first | exact ⟨by omega, by omega⟩ | exact ⟨by omega, by omega, by omega⟩ | exact ⟨by omega, by omega, by omega, by omega⟩ | omega | exact inR_to _ | assumption | decide)).trans ?_
      exact q1
    · rw [q3 q, d59]
      by_cases hq : q = 8 * (b + v4) + v5
      · rw [hq, upI_e, if_neg (by omega), if_pos (by omega), show 8 * (b + v4) + v5 + 8 * (t - b) = 8 * (t + v4) + v5 by omega]
      · rw [upI_n hq]
        by_cases h1 : 8 * (b + v4) + (v5 + 1) ≤ q ∧ q < 8 * (b + v4) + 8
        · rw [if_pos h1, if_pos (by omega), upI_n (by omega)]
        · rw [if_neg h1, if_neg (by omega)]
theorem g114L228_t {R : List (List Int)} {v1 v2 b t : Int} (hs : sml R) (b0 : 0 ≤ b) (bt : b < t) (t1 : t ≤ 280) (hP : v1 * v2 = R.length) : ∀ (r n : Nat) (v4 : Int) (T : St), 0 ≤ v4 → v4 + r = R.length → T.F 36 36 = 0 → T.F 36 43 = t → (∀ i : Int, 0 ≤ i → i < R.length → rowAt (T.A 58) (T.A 59) (if i < v4 then b + i else t + i) (lt R i)) → r < n → ∃ T', g114L228 v1 v2 b n v4 T = some T' ∧ Fr [58, 59] T T' ∧ RLo b T T' ∧ MR (T'.A 58) (T'.A 59) b R := by
  have l16 := hs.1
  intro r
  induction r with
  | zero =>
    intro n v4 T z0 hz hf h43 hd hn
    obtain ⟨n, rfl⟩ : ∃ k, n = k + 1 := ⟨n - 1, by omega⟩
    refine ⟨T, ?_, Fr.refl _ _, RLo.refl _ _, fun i i0 i1 => ?_⟩
    · unfold g114L228
      refine (gd_t (by first | exact ⟨by omega, by omega⟩ | exact ⟨by omega, by omega, by omega⟩ | exact ⟨by omega, by omega, by omega, by omega⟩ | omega | exact inR_to _ | assumption | decide)).trans ?_
      rw [hP]
      refine (gd_t (by first | exact ⟨by omega, by omega⟩ | exact ⟨by omega, by omega, by omega⟩ | exact ⟨by omega, by omega, by omega, by omega⟩ | omega | exact inR_to _ | assumption | decide)).trans ?_
      rw [if_neg (by omega)]
    · have := hd i i0 i1
      rw [if_pos (by omega)] at this
      exact this
  | succ r ih =>
    intro n v4 T z0 hz hf h43 hd hn
    obtain ⟨n, rfl⟩ : ∃ k, n = k + 1 := ⟨n - 1, by omega⟩
    have l8 := hs.2 v4 z0 (by omega)
    have d58 : (T.a 58 (b + v4) (T.A 58 (t + v4))).A 58 = upI (T.A 58) (b + v4) (T.A 58 (t + v4)) := aA_up (inR_to _)
    have d59 : (T.a 58 (b + v4) (T.A 58 (t + v4))).A 59 = T.A 59 := aA_ne (by decide)
    obtain ⟨T1, q1, q2, q3⟩ := g114L267_t (v1 := v1) (v2 := v2) (b := b) (t := t) (v4 := v4) (by omega) bt (by omega) 8 FU 0 (T.a 58 (b + v4) (T.A 58 (t + v4))) (by omega) (by omega) h43 (FU_gt (by decide))
    rw [d59] at q3
    have t58 : T1.A 58 = upI (T.A 58) (b + v4) (T.A 58 (t + v4)) := (q2.A (by decide)).trans d58
    have fr : Fr [58, 59] T T1 := (Fr.a (by decide)).trans (q2.mono (by decide))
    have lo : RLo b T T1 := ⟨fun i hi => by rw [t58, upI_n (by omega)], fun q hq => by rw [q3 q, if_neg (by omega)]⟩
    obtain ⟨T2, p1, p2, p3, p4⟩ := ih n (v4 + 1) T1 (by omega) (by omega) (by rw [fr.F (by decide)]; exact hf) (by rw [fr.F (by decide)]; exact h43) (fun i i0 i1 => by
      have hi8 := hs.2 i i0 i1
      have h := hd i i0 i1
      by_cases hi : i < v4
      · rw [if_pos hi] at h
        rw [if_pos (by omega)]
        exact ⟨by rw [t58, upI_n (by omega)]; exact h.1, fun j j0 j1 => by rw [q3, if_neg (by omega)]; exact h.2 j j0 j1⟩
      · rw [if_neg hi] at h
        by_cases hi2 : i = v4
        · rw [if_pos (by omega), hi2]
          rw [hi2] at h
          refine ⟨by rw [t58, upI_e]; exact h.1, fun j j0 j1 => ?_⟩
          rw [q3, if_pos (by omega), show 8 * (b + v4) + j + 8 * (t - b) = 8 * (t + v4) + j by omega]
          exact h.2 j j0 j1
        · rw [if_neg (by omega)]
          exact ⟨by rw [t58, upI_n (by omega)]; exact h.1, fun j j0 j1 => by rw [q3, if_neg (by omega)]; exact h.2 j j0 j1⟩) (by omega)
    refine ⟨T2, ?_, fr.trans p2, lo.trans p3 (Int.le_refl _), p4⟩
    rw [g114L228]
    refine (gd_t (by first | exact ⟨by omega, by omega⟩ | exact ⟨by omega, by omega, by omega⟩ | exact ⟨by omega, by omega, by omega, by omega⟩ | omega | exact inR_to _ | assumption | decide)).trans ?_
    rw [hP]
    refine (gd_t (by first | exact ⟨by omega, by omega⟩ | exact ⟨by omega, by omega, by omega⟩ | exact ⟨by omega, by omega, by omega, by omega⟩ | omega | exact inR_to _ | assumption | decide)).trans ?_
    rw [if_pos (by omega), if_pos hf, h43]
    refine (gd_t (by first | exact ⟨by omega, by omega⟩ | exact ⟨by omega, by omega, by omega⟩ | exact ⟨by omega, by omega, by omega, by omega⟩ | omega | exact inR_to _ | assumption | decide)).trans ?_
    refine (gd_t (by first | exact ⟨by omega, by omega⟩ | exact ⟨by omega, by omega, by omega⟩ | exact ⟨by omega, by omega, by omega, by omega⟩ | omega | exact inR_to _ | assumption | decide)).trans ?_
    rw [q1]
    exact p1
/-- what is left of rows when two parts are multiplied -/
theorem g114_t {R1 R2 : List (List Int)} {b : Int} {T : St} (s1 : sml R1) (s2 : sml R2) (b0 : 0 ≤ b) (hf : T.F 36 36 = 0) (h43 : T.F 36 43 = b + R1.length + R2.length) (t1 : T.F 36 43 ≤ 280) (m1 : MR (T.A 58) (T.A 59) b R1) (m2 : MR (T.A 58) (T.A 59) (b + R1.length) R2) : ∃ T', g114 T R1.length R2.length = some (((R1.length * R2.length : Nat) : Int), T') ∧ Fx [58, 59] [36, 43] T T' ∧ RLo b T T' ∧ ((T'.F 36 36 = 1 ∧ ¬ sml (prd R1 R2)) ∨ (T'.F 36 36 = 0 ∧ sml (prd R1 R2) ∧ T'.F 36 43 = b + (R1.length * R2.length : Nat) ∧ MR (T'.A 58) (T'.A 59) b (prd R1 R2))) := by
  have eP : ((R1.length : Int) * R2.length) = (R1.length * R2.length : Nat) := by rw [Int.natCast_mul]
  have l1 := s1.1
  have l2 := s2.1
  have l256 : R1.length * R2.length ≤ 256 := Nat.mul_le_mul l1 l2
  have eb : T.F 36 43 - (R1.length : Int) - R2.length = b := by omega
  have iP : inR (b + ((R1.length * R2.length : Nat) : Int)) := ⟨by omega, by omega⟩
  by_cases h16 : 16 < R1.length * R2.length
  · have ef : (T.f 36 36 1).F 36 36 = 1 := by rw [f_F (by decide), if_pos rfl, if_pos rfl]
    obtain ⟨q, hq⟩ := FU_ge (n := 0) (by decide)
    rw [Nat.zero_add] at hq
    have e1 : g114L36 R1.length R2.length b FU 0 (T.f 36 36 1) = some (T.f 36 36 1) := by
      rw [hq, g114L36]
      refine (gd_t (by first | exact ⟨by omega, by omega⟩ | exact ⟨by omega, by omega, by omega⟩ | exact ⟨by omega, by omega, by omega, by omega⟩ | omega | exact inR_to _ | assumption | decide)).trans ?_
      rw [eP]
      refine (gd_t (by first | exact ⟨by omega, by omega⟩ | exact ⟨by omega, by omega, by omega⟩ | exact ⟨by omega, by omega, by omega, by omega⟩ | omega | exact inR_to _ | assumption | decide)).trans ?_
      rw [if_pos (by omega), if_neg (by rw [ef]; decide)]
    have e2 : g114L228 R1.length R2.length b FU 0 (T.f 36 36 1) = some (T.f 36 36 1) := by
      rw [hq, g114L228]
      refine (gd_t (by first | exact ⟨by omega, by omega⟩ | exact ⟨by omega, by omega, by omega⟩ | exact ⟨by omega, by omega, by omega, by omega⟩ | omega | exact inR_to _ | assumption | decide)).trans ?_
      rw [eP]
      refine (gd_t (by first | exact ⟨by omega, by omega⟩ | exact ⟨by omega, by omega, by omega⟩ | exact ⟨by omega, by omega, by omega, by omega⟩ | omega | exact inR_to _ | assumption | decide)).trans ?_
      rw [if_pos (by omega), if_neg (by rw [ef]; decide)]
    refine ⟨(T.f 36 36 1).f 36 43 (b + ((R1.length * R2.length : Nat) : Int)), ?_, (Fx.f T (by decide) 1).trans (Fx.f _ (by decide) _), ⟨fun _ _ => rfl, fun _ _ => rfl⟩, Or.inl ⟨?_, fun hs => ?_⟩⟩
    · unfold g114
      rw [if_pos hf, eP]
      refine (gd_t (by first | exact ⟨by omega, by omega⟩ | exact ⟨by omega, by omega, by omega⟩ | exact ⟨by omega, by omega, by omega, by omega⟩ | omega | exact inR_to _ | assumption | decide)).trans ?_
      rw [if_pos (by omega), eb, e1]
      refine (ob_t rfl).trans ?_
      rw [e2]
      refine (ob_t rfl).trans ?_
      rfl
    · rw [f_F iP, if_pos rfl, if_neg (by decide)]
      exact ef
    · have := hs.1
      rw [prd_len] at this
      omega
  · have ef : (T.f 36 36 0).F 36 36 = 0 := by rw [f_F (by decide), if_pos rfl, if_pos rfl]
    have ef43 : (T.f 36 36 0).F 36 43 = b + R1.length + R2.length := by rw [f_F (by decide), if_pos rfl, if_neg (by decide)]; exact h43
    obtain ⟨T1, q1, q2, q3, q4⟩ := g114L36_t (t := b + R1.length + R2.length) s1 s2 b0 rfl (by omega) (by omega) (R1.length * R2.length) FU 0 (T.f 36 36 0) (by omega) (by omega) ef ef43 m1 m2 (fun i i0 i1 => absurd i1 (by omega)) (FU_gt (by omega))
    have e43 : T1.F 36 43 = b + R1.length + R2.length := by rw [q2.F (by decide)]; exact ef43
    have fx1 : Fx [58, 59] [36, 43] T T1 := (Fx.f T (by decide) 0).trans (q2.mono (by decide) (by decide))
    have lo1 : RLo b T T1 := ⟨fun i hi => q3.1 i (by omega), fun q hq => q3.2 q (by omega)⟩
    have hd : ∀ T2, g114L228 R1.length R2.length b FU 0 T1 = some T2 → g114 T R1.length R2.length = some (((R1.length * R2.length : Nat) : Int), T2.f 36 43 (b + ((R1.length * R2.length : Nat) : Int))) := fun T2 e2 => by
      unfold g114
      rw [if_pos hf, eP]
      refine (gd_t (by first | exact ⟨by omega, by omega⟩ | exact ⟨by omega, by omega, by omega⟩ | exact ⟨by omega, by omega, by omega, by omega⟩ | omega | exact inR_to _ | assumption | decide)).trans ?_
      rw [if_neg (by omega), eb, q1]
      refine (ob_t rfl).trans ?_
      rw [e2]
      refine (ob_t rfl).trans ?_
      rfl
    rcases q4 with ⟨f1, f2⟩ | ⟨f1, f2, f3⟩
    · have hpos : 0 < R1.length * R2.length := by
        by_cases hz : R1.length * R2.length = 0
        · exact absurd ⟨by rw [prd_len]; omega, fun i i0 i1 => absurd i1 (by rw [prd_len]; omega)⟩ f2
        · omega
      have e2 : g114L228 R1.length R2.length b FU 0 T1 = some T1 := by
        obtain ⟨q, hq⟩ := FU_ge (n := 0) (by decide)
        rw [hq, Nat.zero_add, g114L228]
        refine (gd_t (by first | exact ⟨by omega, by omega⟩ | exact ⟨by omega, by omega, by omega⟩ | exact ⟨by omega, by omega, by omega, by omega⟩ | omega | exact inR_to _ | assumption | decide)).trans ?_
        rw [eP]
        refine (gd_t (by first | exact ⟨by omega, by omega⟩ | exact ⟨by omega, by omega, by omega⟩ | exact ⟨by omega, by omega, by omega, by omega⟩ | omega | exact inR_to _ | assumption | decide)).trans ?_
        rw [if_pos (by omega), if_neg (by rw [f1]; decide)]
      exact ⟨_, hd T1 e2, fx1.trans (Fx.f _ (by decide) _), lo1, Or.inl ⟨by rw [f_F iP, if_pos rfl, if_neg (by decide)]; exact f1, f2⟩⟩
    · by_cases hz : R1.length = 0 ∧ R2.length = 0
      · have e2 : g114L228 R1.length R2.length b FU 0 T1 = some T1 := by
          obtain ⟨q, hq⟩ := FU_ge (n := 0) (by decide)
          rw [hq, Nat.zero_add, g114L228]
          refine (gd_t (by first | exact ⟨by omega, by omega⟩ | exact ⟨by omega, by omega, by omega⟩ | exact ⟨by omega, by omega, by omega, by omega⟩ | omega | exact inR_to _ | assumption | decide)).trans ?_
          rw [eP, hz.1, Nat.zero_mul]
          refine (gd_t (by first | exact ⟨by omega, by omega⟩ | exact ⟨by omega, by omega, by omega⟩ | exact ⟨by omega, by omega, by omega, by omega⟩ | omega | exact inR_to _ | assumption | decide)).trans ?_
          rw [if_neg (by omega)]
        have ez : (prd R1 R2).length = 0 := by rw [prd_len, hz.1, Nat.zero_mul]
        exact ⟨_, hd T1 e2, fx1.trans (Fx.f _ (by decide) _), lo1, Or.inr ⟨by rw [f_F iP, if_pos rfl, if_neg (by decide)]; exact f1, f2, by rw [f_F iP, if_pos rfl, if_pos rfl], fun i i0 i1 => absurd i1 (by rw [ez]; omega)⟩⟩
      · obtain ⟨T2, p1, p2, p3, p4⟩ := g114L228_t (v1 := R1.length) (v2 := R2.length) (b := b) (t := b + R1.length + R2.length) f2 b0 (by omega) (by omega) (by rw [prd_len]; exact eP) (R1.length * R2.length) FU 0 T1 (by omega) (by rw [prd_len]; omega) f1 e43 (fun i i0 i1 => by rw [if_neg (by omega)]; exact f3 i i0 i1) (FU_gt (by omega))
        exact ⟨_, hd T2 p1, (fx1.trans (p2.Fx (by decide))).trans (Fx.f _ (by decide) _), ⟨fun i hi => (p3.1 i hi).trans (lo1.1 i hi), fun q hq => (p3.2 q hq).trans (lo1.2 q hq)⟩, Or.inr ⟨by rw [f_F iP, if_pos rfl, if_neg (by decide), p2.F (by decide)]; exact f1, f2, by rw [f_F iP, if_pos rfl, if_pos rfl], p4⟩⟩
