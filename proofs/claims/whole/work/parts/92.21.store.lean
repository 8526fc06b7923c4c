/-! the second object stores its draft -/
theorem g132L2_t {v W : Int} (v0 : 0 ≤ v) (v1 : v < 124) (hW : W ≤ 64) : ∀ (r m : Nat) (i : Int) (S : St), 0 ≤ i → i + r = W → S.A 42 124 = W → r < m → ∃ T, g132L2 v m i S = some T ∧ Fr [38] S T ∧ ∀ p : Int, T.A 38 p = if 64 * v + i ≤ p ∧ p < 64 * v + W then S.A 38 (7936 + (p - 64 * v)) else S.A 38 p := by
  intro r
  induction r with
  | zero =>
    intro m i S hi hr hw hm
    obtain ⟨m, rfl⟩ : ∃ k, m = k + 1 := ⟨m - 1, by omega⟩
    refine ⟨S, ?_, Fr.refl _ _, fun p => (if_neg (by omega)).symm⟩
    unfold g132L2
    refine (gd_t (by first | exact ⟨by omega, by omega⟩ | exact ⟨by omega, by omega, by omega⟩ | exact ⟨by omega, by omega, by omega, by omega⟩ | omega | exact inR_to _ | assumption | decide)).trans ?_
    exact if_neg (by omega)
  | succ r ih =>
    intro m i S hi hr hw hm
    obtain ⟨m, rfl⟩ : ∃ k, m = k + 1 := ⟨m - 1, by omega⟩
    have hR : inR (S.A 38 (7936 + i)) := inR_to _
    obtain ⟨T, t1, t2, t3⟩ := ih m (i + 1) (S.a 38 (64 * v + i) (S.A 38 (7936 + i))) (by omega) (by omega) (by rw [aA_ne (by decide)]; exact hw) (by omega)
    refine ⟨T, ?_, (Fr.a (by decide)).trans t2, fun p => ?_⟩
    · unfold g132L2
      refine (gd_t (by first | exact ⟨by omega, by omega⟩ | exact ⟨by omega, by omega, by omega⟩ | exact ⟨by omega, by omega, by omega, by omega⟩ | omega | exact inR_to _ | assumption | decide)).trans ?_
      rw [if_pos (by omega)]
      refine (gd_t (by first | exact ⟨by omega, by omega⟩ | exact ⟨by omega, by omega, by omega⟩ | exact ⟨by omega, by omega, by omega, by omega⟩ | omega | exact inR_to _ | assumption | decide)).trans ?_; refine (gd_t (by first | exact ⟨by omega, by omega⟩ | exact ⟨by omega, by omega, by omega⟩ | exact ⟨by omega, by omega, by omega, by omega⟩ | omega | exact inR_to _ | assumption | decide)).trans ?_
      exact t1
    · rw [t3 p, a_A hR, if_pos rfl, a_A hR, if_pos rfl]
      by_cases h1 : 64 * v + (i + 1) ≤ p ∧ p < 64 * v + W
      · rw [if_pos h1, if_neg (by omega), if_pos (by omega)]
      · rw [if_neg h1]
        by_cases h2 : p = 64 * v + i
        · rw [if_pos h2, if_pos (by omega), h2, show 7936 + (64 * v + i - 64 * v) = 7936 + i by omega]
        · rw [if_neg h2, if_neg (by omega)]
theorem g132L42_t {v n : Int} (v0 : 0 ≤ v) (v1 : v < 124) (hn : n ≤ 4) : ∀ (r m : Nat) (i : Int) (S : St), 0 ≤ i → i + r = n → S.A 41 124 = n → (∀ k : Int, 0 ≤ k → k < n → b1R (S.A 40 (496 + k)) ∧ 0 ≤ S.A 39 (496 + k) ∧ S.A 39 (496 + k) < 10000) → r < m → ∃ T, g132L42 v m i S = some T ∧ Fr [39, 40] S T ∧ ∀ p : Int, T.A 39 p = (if 4 * v + i ≤ p ∧ p < 4 * v + n then S.A 39 (496 + (p - 4 * v)) - 7936 + 64 * v else S.A 39 p) ∧ T.A 40 p = (if 4 * v + i ≤ p ∧ p < 4 * v + n then S.A 40 (496 + (p - 4 * v)) else S.A 40 p) := by
  intro r
  induction r with
  | zero =>
    intro m i S hi hr hs hb hm
    obtain ⟨m, rfl⟩ : ∃ k, m = k + 1 := ⟨m - 1, by omega⟩
    refine ⟨S, ?_, Fr.refl _ _, fun p => ⟨(if_neg (by omega)).symm, (if_neg (by omega)).symm⟩⟩
    unfold g132L42
    refine (gd_t (by first | exact ⟨by omega, by omega⟩ | exact ⟨by omega, by omega, by omega⟩ | exact ⟨by omega, by omega, by omega, by omega⟩ | omega | exact inR_to _ | assumption | decide)).trans ?_
    exact if_neg (by omega)
  | succ r ih =>
    intro m i S hi hr hs hb hm
    obtain ⟨m, rfl⟩ : ∃ k, m = k + 1 := ⟨m - 1, by omega⟩
    obtain ⟨p1, p2, p3⟩ := hb i hi (by omega)
    have hR : inR (S.A 39 (496 + i) - 7936 + 64 * v) := ⟨by omega, by omega⟩
    have hR2 : inR (S.A 40 (496 + i)) := inR_to _
    have q39 : ∀ p, ((S.a 39 (4 * v + i) (S.A 39 (496 + i) - 7936 + 64 * v)).a 40 (4 * v + i) (S.A 40 (496 + i))).A 39 p = if p = 4 * v + i then S.A 39 (496 + i) - 7936 + 64 * v else S.A 39 p := fun p => by rw [aA_ne (by decide), a_A hR, if_pos rfl]
    have q40 : ∀ p, ((S.a 39 (4 * v + i) (S.A 39 (496 + i) - 7936 + 64 * v)).a 40 (4 * v + i) (S.A 40 (496 + i))).A 40 p = if p = 4 * v + i then S.A 40 (496 + i) else S.A 40 p := fun p => by rw [a_A hR2, if_pos rfl, aA_ne (by decide)]
    obtain ⟨T, t1, t2, t3⟩ := ih m (i + 1) ((S.a 39 (4 * v + i) (S.A 39 (496 + i) - 7936 + 64 * v)).a 40 (4 * v + i) (S.A 40 (496 + i))) (by omega) (by omega) (by rw [aA_ne (by decide), aA_ne (by decide)]; exact hs) (fun k k0 k1 => by
      rw [q39, q40, if_neg (by omega), if_neg (by omega)]
      exact hb k k0 k1) (by omega)
    refine ⟨T, ?_, ((Fr.a (by decide)).trans (Fr.a (by decide))).trans t2, fun p => ?_⟩
    · unfold g132L42
      refine (gd_t (by first | exact ⟨by omega, by omega⟩ | exact ⟨by omega, by omega, by omega⟩ | exact ⟨by omega, by omega, by omega, by omega⟩ | omega | exact inR_to _ | assumption | decide)).trans ?_
      rw [if_pos (by omega)]
      refine (gd_t (by first | exact ⟨by omega, by omega⟩ | exact ⟨by omega, by omega, by omega⟩ | exact ⟨by omega, by omega, by omega, by omega⟩ | omega | exact inR_to _ | assumption | decide)).trans ?_; refine (gd_t (by first | exact ⟨by omega, by omega⟩ | exact ⟨by omega, by omega, by omega⟩ | exact ⟨by omega, by omega, by omega, by omega⟩ | omega | exact inR_to _ | assumption | decide)).trans ?_
      refine (gd_t p1).trans ?_
      exact t1
    · refine ⟨?_, ?_⟩
      · rw [(t3 p).1, q39, q39]
        by_cases h1 : 4 * v + (i + 1) ≤ p ∧ p < 4 * v + n
        · rw [if_pos h1, if_neg (by omega), if_pos (by omega)]
        · rw [if_neg h1]
          by_cases h2 : p = 4 * v + i
          · rw [if_pos h2, if_pos (by omega), h2, show 496 + (4 * v + i - 4 * v) = 496 + i by omega]
          · rw [if_neg h2, if_neg (by omega)]
      · rw [(t3 p).2, q40, q40]
        by_cases h1 : 4 * v + (i + 1) ≤ p ∧ p < 4 * v + n
        · rw [if_pos h1, if_neg (by omega), if_pos (by omega)]
        · rw [if_neg h1]
          by_cases h2 : p = 4 * v + i
          · rw [if_pos h2, if_pos (by omega), h2, show 496 + (4 * v + i - 4 * v) = 496 + i by omega]
          · rw [if_neg h2, if_neg (by omega)]
theorem dn_b (x : Int) : b1R (dn x) := by
  unfold dn b1R
  omega
theorem store_t {S : St} {v n : Int} {o u : Int → Int} (v0 : 0 ≤ v) (v1 : v < 124) (h : KM S 124 n o u) (hW : WK n o u) : ∃ T, g132 S v = some T ∧ Fr [38, 39, 40, 41, 42] S T ∧ KM T v n o u ∧ (∀ (s n' : Int) (o' u' : Int → Int), s ≠ v → s < 124 → WK n' o' u' → KM S s n' o' u' → KM T s n' o' u') ∧ T.A 41 v = n := by
  have h' := h
  obtain ⟨c1, c2, c3, c4, c5, c6⟩ := h
  obtain ⟨w1, w2, w3, w4, w5, w6, w7⟩ := hW
  have wn := w6 n w1 (by omega)
  obtain ⟨m9, hm9⟩ := FU_ge (n := 200) (by decide)
  obtain ⟨U, u1, u2, u3⟩ := g132L2_t v0 v1 w4 (o n).toNat FU 0 S (by omega) (by omega) c4 (by omega)
  have U41 : U.A 41 = S.A 41 := u2.A (by decide)
  have U42 : U.A 42 = S.A 42 := u2.A (by decide)
  have U39 : U.A 39 = S.A 39 := u2.A (by decide)
  have U40 : U.A 40 = S.A 40 := u2.A (by decide)
  obtain ⟨V, q1, q2, q3⟩ := g132L42_t v0 v1 w2 n.toNat FU 0 U (by omega) (by omega) (by rw [U41]; exact c3) (fun k k0 k1 => by
    have a := c5 k k0 k1
    have a1 : S.A 39 (496 + k) = 64 * 124 + o k := a.1
    have a2 : S.A 40 (496 + k) = dn (u (o k)) := a.2
    have b := w6 k k0 (by omega)
    rw [U39, U40, a1, a2]
    exact ⟨dn_b _, by omega, by omega⟩) (by omega)
  rw [U39, U40] at q3
  have V38 : V.A 38 = U.A 38 := q2.A (by decide)
  have V41 : V.A 41 = S.A 41 := (q2.A (by decide)).trans U41
  have V42 : V.A 42 = S.A 42 := (q2.A (by decide)).trans U42
  have eV1 : V.A 41 124 = n := by rw [V41]; exact c3
  have eV2 : V.A 42 124 = o n := by rw [V42]; exact c4
  have hn : inR n := ⟨by omega, by omega⟩
  have ho : inR (o n) := ⟨by omega, by omega⟩
  have eT : g132 S v = some ((V.a 41 v n).a 42 v (o n)) := by
    unfold g132
    rw [u1]
    show ob (g132L42 v FU 0 U) _ = _
    rw [q1]
    show gd (ixR v 125) (some ((V.a 41 v (V.A 41 124)).a 42 v (V.A 42 124))) = _
    refine (gd_t (by first | exact ⟨by omega, by omega⟩ | exact ⟨by omega, by omega, by omega⟩ | exact ⟨by omega, by omega, by omega, by omega⟩ | omega | exact inR_to _ | assumption | decide)).trans ?_
    rw [eV1, eV2]
  have T38 : ∀ p, ((V.a 41 v n).a 42 v (o n)).A 38 p = if 64 * v + 0 ≤ p ∧ p < 64 * v + o n then S.A 38 (7936 + (p - 64 * v)) else S.A 38 p := fun p => by rw [aA_ne (by decide), aA_ne (by decide), V38, u3]
  have T39 : ((V.a 41 v n).a 42 v (o n)).A 39 = V.A 39 := by rw [aA_ne (by decide), aA_ne (by decide)]
  have T40 : ((V.a 41 v n).a 42 v (o n)).A 40 = V.A 40 := by rw [aA_ne (by decide), aA_ne (by decide)]
  have T41 : ∀ p, ((V.a 41 v n).a 42 v (o n)).A 41 p = if p = v then n else S.A 41 p := fun p => by rw [aA_ne (by decide), a_A hn, if_pos rfl, V41]
  have T42 : ∀ p, ((V.a 41 v n).a 42 v (o n)).A 42 p = if p = v then o n else S.A 42 p := fun p => by rw [a_A ho, if_pos rfl, aA_ne (by decide), V42]
  refine ⟨_, eT, (((u2.mono (by decide)).trans (q2.mono (by decide))).trans (Fr.a (by decide))).trans (Fr.a (by decide)), ⟨v0, by omega, ?_, ?_, fun k k0 k1 => ?_, fun p p0 p1 => ?_⟩, ?_, ?_⟩
  · rw [T41, if_pos rfl]
  · rw [T42, if_pos rfl]
  · have a := c5 k k0 k1
    have a1 : S.A 39 (496 + k) = 64 * 124 + o k := a.1
    have a2 : S.A 40 (496 + k) = dn (u (o k)) := a.2
    rw [T39, T40, (q3 _).1, (q3 _).2, if_pos (by omega), if_pos (by omega), show 496 + (4 * v + k - 4 * v) = 496 + k by omega, a1, a2]
    exact ⟨by omega, rfl⟩
  · rw [T38, if_pos (by omega), show 7936 + (64 * v + p - 64 * v) = 64 * 124 + p by omega]
    exact c6 p p0 p1
  · intro s n' o' u' hs hs2 hW' hk
    obtain ⟨d1, d2, d3, d4, d5, d6⟩ := hk
    obtain ⟨x1, x2, x3, x4, x5, x6, x7⟩ := hW'
    refine ⟨d1, d2, ?_, ?_, fun k k0 k1 => ?_, fun p p0 p1 => ?_⟩
    · rw [T41, if_neg hs]; exact d3
    · rw [T42, if_neg hs]; exact d4
    · rw [T39, T40, (q3 _).1, (q3 _).2, if_neg (by omega), if_neg (by omega)]
      exact d5 k k0 k1
    · rw [T38, if_neg (by omega)]
      exact d6 p p0 p1
  · rw [T41, if_pos rfl]
