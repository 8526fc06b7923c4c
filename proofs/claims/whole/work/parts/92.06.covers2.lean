theorem li_c {u1 u2 : Int → Int} {l W : Int} : ∀ (n : Nat) (p q : Int) (t t' s : Int → Int), (∀ k : Int, p ≤ k → k < p + n → 0 ≤ u1 k ∧ (u1 k < 32768 → u1 k / 256 < W)) → (∀ v, 0 ≤ v → v < W → t v = t' v) → (li u1 u2 l n p q t s).1 = (li u1 u2 l n p q t' s).1 ∧ ∀ v, 0 ≤ v → v < W → (li u1 u2 l n p q t s).2.1 v = (li u1 u2 l n p q t' s).2.1 v := by
  intro n
  induction n with
  | zero => intro p q t t' s _ h; exact ⟨rfl, h⟩
  | succ n ih =>
    intro p q t t' s hW h
    have hW' : ∀ k : Int, p + 1 ≤ k → k < p + 1 + n → 0 ≤ u1 k ∧ (u1 k < 32768 → u1 k / 256 < W) := fun k h1 h2 => hW k (by omega) (by omega)
    have hp := hW p (by omega) (by omega)
    unfold li
    by_cases hv : u1 p < 32768
    · rw [if_pos hv, if_pos hv]
      have e := h (u1 p / 256) (Int.ediv_nonneg hp.1 (by decide)) (hp.2 hv)
      rw [e]
      by_cases h4 : t' (u1 p / 256) = -1
      · rw [if_pos h4, if_pos h4]
        refine ih _ _ _ _ _ hW' (fun v h1 h2 => ?_)
        unfold upI
        split
        · rfl
        · exact h v h1 h2
      · rw [if_neg h4, if_neg h4]
        split
        · exact ih _ _ _ _ _ hW' h
        · exact ⟨rfl, h⟩
    · rw [if_neg hv, if_neg hv]
      split
      · exact ih _ _ _ _ _ hW' h
      · exact ⟨rfl, h⟩
theorem sv_c {n1 : Int} {o1 u1 o2 u2 : Int → Int} {n2 : Nat} (hW1 : WK n1 o1 u1) : ∀ (r : Nat) (l : Int) (t t' : Int → Int), 0 ≤ l → l + r = n1 → (∀ v, 0 ≤ v → v < o1 n1 → t v = t' v) → sv o1 u1 o2 u2 n2 r l t = sv o1 u1 o2 u2 n2 r l t' := by
  obtain ⟨w1, w2, w3, w4, w5, w6, w7⟩ := hW1
  intro r
  induction r with
  | zero => intro l t t' _ _ _; rfl
  | succ r ih =>
    intro l t t' hl he h
    have ol := w5 l hl (by omega)
    have o6 := w6 l hl (by omega)
    have o7 := w6 (l + 1) (by omega) (by omega)
    have hW : ∀ k : Int, o1 l ≤ k → k < o1 l + (o1 (l + 1) - o1 l).toNat → 0 ≤ u1 k ∧ (u1 k < 32768 → u1 k / 256 < o1 n1) := fun k h1 h2 => ⟨(w7 k (by omega) (by omega)).1, fun h => ((w7 k (by omega) (by omega)).2 h).1⟩
    show ((List.range n2).any fun k => (lk o1 u1 o2 u2 l k t).1 && sv o1 u1 o2 u2 n2 r (l + 1) (lk o1 u1 o2 u2 l k t).2) = ((List.range n2).any fun k => (lk o1 u1 o2 u2 l k t').1 && sv o1 u1 o2 u2 n2 r (l + 1) (lk o1 u1 o2 u2 l k t').2)
    congr 1
    funext k
    have hc := li_c (u2 := u2) (l := l) (o1 (l + 1) - o1 l).toNat (o1 l) (o2 k) t t' (fun _ => 0) hW h
    have e1 : (lk o1 u1 o2 u2 l k t).1 = (lk o1 u1 o2 u2 l k t').1 := hc.1
    rw [e1, ih (l + 1) (lk o1 u1 o2 u2 l k t).2 (lk o1 u1 o2 u2 l k t').2 (by omega) (by omega) hc.2]
theorem g54_t {S : St} {c d : Nat} {n1 n2 : Int} {o1 u1 o2 u2 : Int → Int} (hc : KC S c n1 o1 u1) (hd : KC S d n2 o2 u2) (hW1 : WK n1 o1 u1) (hW2 : WK n2 o2 u2) (h25 : ∀ v : Int, 0 ≤ v → v < 64 → 0 ≤ S.A 25 v) : ∃ T, g54 S c d = some ((if sub n1 n2 o1 u1 o2 u2 = true then 1 else 0), T) ∧ Fr [24, 25, 26] S T ∧ (∀ v : Int, 0 ≤ v → v < 64 → 0 ≤ T.A 25 v) := by
  have hc' := hc
  have hd' := hd
  have hWW := hW1
  obtain ⟨w1, w2, w3, w4, w5, w6, w7⟩ := hWW
  have hZZ := hW2
  obtain ⟨z1, z2, z3, z4, z5, z6, z7⟩ := hZZ
  have oW := w6 n1 w1 (by omega)
  obtain ⟨b, s, N, M, f, g, x, w, c1, c2, c3, c4, c5, c6, c7, c8, c9, c10, c11⟩ := hc
  obtain ⟨b2, s2, N2, M2, f2, g2, x2, y2, d1, d2, d3, d4, d5, d6, d7, d8, d9, d10, d11⟩ := hd
  by_cases h12 : n2 < n1
  · refine ⟨S, ?_, Fr.refl _ _, h25⟩
    have e : sub n1 n2 o1 u1 o2 u2 = false := by
      unfold sub
      rw [decide_eq_false (by omega)]
      rfl
    rw [e]
    unfold g54
    refine (gC_t c1).trans ?_
    refine (gC_t d1).trans ?_
    refine (if_pos (by omega)).trans ?_
    rfl
  · have fr1 : Fr [24, 25, 26] S (S.a 26 0 (-1)) := Fr.a (by decide)
    obtain ⟨T, t1, t2, t3⟩ := g55_t (l := 0) (by decide) w4 oW.1 (hc'.fr fr1 cvX)
    rw [aA_ne (by decide), aA_ne (by decide)] at t3
    have fr2 : Fr [24, 25, 26] S T := fr1.trans (t2.mono (by decide))
    have T25 : T.A 25 = S.A 25 := by rw [t2.A (by decide), aA_ne (by decide)]
    have T24 : ∀ v, 0 ≤ v → v < o1 n1 → T.A 24 v = -1 := by
      intro v h1 h2
      rw [t3]
      exact if_pos ⟨h1, h2, h25 v h1 (by omega)⟩
    have hI : cvI c d n1 n2 o1 u1 o2 u2 0 T := ⟨hc'.fr fr2 cvX, hd'.fr fr2 cvX, fun v h1 h2 => Or.inl (T24 v h1 h2), fun v h1 h2 h3 => absurd (T24 v h1 h2) h3, by rw [T25]; exact h25⟩
    obtain ⟨m, hm⟩ := FU_ge (n := 2000) (by decide)
    have hcs : cs n1.toNat 4 ≤ 681 := by
      have : n1.toNat = 0 ∨ n1.toNat = 1 ∨ n1.toNat = 2 ∨ n1.toNat = 3 ∨ n1.toNat = 4 := by omega
      rcases this with e | e | e | e | e <;> rw [e] <;> decide
    have h := cv_D hW1 hW2 n1.toNat 0 (by omega) (by omega) FU 0 T hI (fun _ => by rw [t2.A (by decide), a_A (by decide), if_pos rfl, if_pos rfl]) (by omega) (by omega) (by omega)
    rw [sv_c hW1 n1.toNat 0 (T.A 24) (fun _ => -1) (by omega) (by omega) (fun v h1 h2 => T24 v h1 h2)] at h
    have e : g54 S c d = obr (g54L31 c d FU 0 0 T) (fun o => some (0, o)) := by
      unfold g54
      refine (gC_t c1).trans ?_
      refine (gC_t d1).trans ?_
      refine (if_neg (by omega)).trans ?_
      rw [t1]
      rfl
    have es : sub n1 n2 o1 u1 o2 u2 = sv o1 u1 o2 u2 n2.toNat n1.toNat 0 (fun _ => -1) := by
      unfold sub
      rw [decide_eq_true (by omega), Bool.true_and]
    rw [e, es]
    cases hs : sv o1 u1 o2 u2 n2.toNat n1.toNat 0 (fun _ => -1)
    · obtain ⟨m3, v3, U, x1, x2, x3, x4, x5, x6, x7, x8, x9⟩ := h.2 hs
      refine ⟨U, ?_, fr2.trans x2, x9⟩
      rw [x1]
      obtain ⟨m4, rfl⟩ : ∃ k, m3 = k + 1 := ⟨m3 - 1, by omega⟩
      have e2 : g54L31 c d (m4 + 1) (0 - 1) v3 U = some (.inl U) := by
        unfold g54L31
        refine (gd_t (by first | exact ⟨by omega, by omega⟩ | exact ⟨by omega, by omega, by omega⟩ | exact ⟨by omega, by omega, by omega, by omega⟩ | omega | exact inR_to _ | assumption | decide)).trans ?_
        refine (if_pos (by omega)).trans ?_
        refine (gd_t (by first | exact ⟨by omega, by omega⟩ | exact ⟨by omega, by omega, by omega⟩ | exact ⟨by omega, by omega, by omega, by omega⟩ | omega | exact inR_to _ | assumption | decide)).trans ?_
        exact if_pos (by omega)
      rw [e2]
      rfl
    · obtain ⟨U, x1, x2, x3⟩ := h.1 hs
      refine ⟨U, ?_, fr2.trans x2, x3⟩
      rw [x1]
      rfl
