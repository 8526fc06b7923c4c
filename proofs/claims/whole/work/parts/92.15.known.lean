theorem X2.mf {S T V : St} (h : X2 S T) (f : Fr [62, 63] T V) : X2 S V := by
  unfold X2 XN XB XK XK1 XL KM at h ⊢
  rw [f.F (show 36 ∉ [62, 63] by decide), f.A (show 38 ∉ [62, 63] by decide), f.A (show 39 ∉ [62, 63] by decide), f.A (show 40 ∉ [62, 63] by decide), f.A (show 41 ∉ [62, 63] by decide), f.A (show 42 ∉ [62, 63] by decide), f.A (show 43 ∉ [62, 63] by decide), f.A (show 44 ∉ [62, 63] by decide), f.A (show 45 ∉ [62, 63] by decide)]
  exact h
theorem KCX : ∀ c ∈ [24, 25, 26], c ∉ [9, 12, 17, 18, 21, 32, 33, 38, 46, 16, 31] := cvX
theorem g129L4_1 {m : Nat} {i : Int} {T : St} (hi : inR i) : g129L4 (m + 1) 1 i T = some (1, T) := by
  unfold g129L4
  refine (gd_t (by first | exact ⟨by omega, by omega⟩ | exact ⟨by omega, by omega, by omega⟩ | exact ⟨by omega, by omega, by omega, by omega⟩ | omega | exact inR_to _ | assumption | decide)).trans ?_
  by_cases h : i < T.F 36 9
  · rw [if_pos h]
    refine (gd_t (by first | exact ⟨by omega, by omega⟩ | exact ⟨by omega, by omega, by omega⟩ | exact ⟨by omega, by omega, by omega, by omega⟩ | omega | exact inR_to _ | assumption | decide)).trans ?_
    rfl
  · rw [if_neg h]
/-- is the draft known -/
theorem known_L {n : Int} {o u : Int → Int} (hW : WV n o u) : ∀ (r m m' : Nat) (i : Int) (S T : St), X2 S T → KC S 16 n o u → KM T 124 n o u → 0 ≤ i → i + r = S.F 13 1 → r + 1 < m → r + 1 < m' → ∃ S' T', Fr [24, 25, 26] S S' ∧ Fr [62, 63] T T' ∧ X2 S' T' ∧ ((g53L2 m i S = some (.inl S') ∧ g129L4 m' 0 i T = some (0, T')) ∨ (g53L2 m i S = some (.inr (1, S')) ∧ g129L4 m' 0 i T = some (1, T'))) := by
  intro r
  induction r with
  | zero =>
    intro m m' i S T h hc hm hi hr h1 h2
    obtain ⟨m, rfl⟩ : ∃ k, m = k + 1 := ⟨m - 1, by omega⟩
    obtain ⟨m', rfl⟩ : ∃ k, m' = k + 1 := ⟨m' - 1, by omega⟩
    have n9 : T.F 36 9 = S.F 13 1 := h.1.2.1
    have b2 := h.2.1.2.1
    refine ⟨S, T, Fr.refl _ _, Fr.refl _ _, h, Or.inl ⟨?_, ?_⟩⟩
    · unfold g53L2
      refine (gd_t (by first | exact ⟨by omega, by omega⟩ | exact ⟨by omega, by omega, by omega⟩ | exact ⟨by omega, by omega, by omega, by omega⟩ | omega | exact inR_to _ | assumption | decide)).trans ?_
      exact if_neg (by omega)
    · unfold g129L4
      refine (gd_t (by first | exact ⟨by omega, by omega⟩ | exact ⟨by omega, by omega, by omega⟩ | exact ⟨by omega, by omega, by omega, by omega⟩ | omega | exact inR_to _ | assumption | decide)).trans ?_
      exact if_neg (by omega)
  | succ r ih =>
    intro m m' i S T h hc hm hi hr h1 h2
    obtain ⟨m, rfl⟩ : ∃ k, m = k + 1 := ⟨m - 1, by omega⟩
    obtain ⟨m', rfl⟩ : ∃ k, m' = k + 1 := ⟨m' - 1, by omega⟩
    have n9 : T.F 36 9 = S.F 13 1 := h.1.2.1
    have b2 := h.2.1.2.1
    obtain ⟨a, c, x0, x1, x2, x3, x4, x5, nn, oo, uu, r1, r2, r3, r4, r5, r6, r7, r8, r9, r10, r11⟩ := h.2.2.1 i hi (by omega)
    by_cases hx : x0.toInt = 2
    · obtain ⟨S', T', a1, a2, a3, a4⟩ := ih m m' (i + 1) S T h hc hm (by omega) (by omega) (by omega) (by omega)
      refine ⟨S', T', a1, a2, a3, ?_⟩
      have e1 : g53L2 (m + 1) i S = g53L2 m (i + 1) S := by
        conv => lhs; unfold g53L2
        refine (gd_t (by first | exact ⟨by omega, by omega⟩ | exact ⟨by omega, by omega, by omega⟩ | exact ⟨by omega, by omega, by omega, by omega⟩ | omega | exact inR_to _ | assumption | decide)).trans ?_
        rw [if_pos (by omega)]
        refine (gd_t (by first | exact ⟨by omega, by omega⟩ | exact ⟨by omega, by omega, by omega⟩ | exact ⟨by omega, by omega, by omega, by omega⟩ | omega | exact inR_to _ | assumption | decide)).trans ?_
        refine (ob_t r1).trans ?_
        refine (gK_t ((cl_tl r2).trans r3)).trans ?_
        exact if_pos hx
      have e2 : g129L4 (m' + 1) 0 i T = g129L4 m' 0 (i + 1) T := by
        conv => lhs; unfold g129L4
        refine (gd_t (by first | exact ⟨by omega, by omega⟩ | exact ⟨by omega, by omega, by omega⟩ | exact ⟨by omega, by omega, by omega, by omega⟩ | omega | exact inR_to _ | assumption | decide)).trans ?_
        rw [if_pos (by omega)]
        refine (gd_t (by first | exact ⟨by omega, by omega⟩ | exact ⟨by omega, by omega, by omega⟩ | exact ⟨by omega, by omega, by omega, by omega⟩ | omega | exact inR_to _ | assumption | decide)).trans ?_
        rw [if_pos rfl]
        refine (gd_t (by first | exact ⟨by omega, by omega⟩ | exact ⟨by omega, by omega, by omega⟩ | exact ⟨by omega, by omega, by omega, by omega⟩ | omega | exact inR_to _ | assumption | decide)).trans ?_
        exact if_neg (by omega)
      rw [e1, e2]
      exact a4
    · obtain ⟨V, v1, v2, v3⟩ := g54_t r4.KC hc r6.1 hW.1 h.2.2.2.2.2.1
      obtain ⟨U, u1, u2⟩ := g130_t r5 hm r6 hW
      have hV := (h.cov v2 v3).mf u2
      have e1 : g53L2 (m + 1) i S = (if (if sub nn n oo uu o u = true then (1 : Int) else 0) = 0 then g53L2 m (i + 1) V else some (.inr (1, V))) := by
        conv => lhs; unfold g53L2
        refine (gd_t (by first | exact ⟨by omega, by omega⟩ | exact ⟨by omega, by omega, by omega⟩ | exact ⟨by omega, by omega, by omega, by omega⟩ | omega | exact inR_to _ | assumption | decide)).trans ?_
        rw [if_pos (by omega)]
        refine (gd_t (by first | exact ⟨by omega, by omega⟩ | exact ⟨by omega, by omega, by omega⟩ | exact ⟨by omega, by omega, by omega, by omega⟩ | omega | exact inR_to _ | assumption | decide)).trans ?_
        refine (ob_t r1).trans ?_
        refine (gK_t ((cl_tl r2).trans r3)).trans ?_
        refine (if_neg hx).trans ?_
        rw [v1]
        show gd (inR (if sub nn n oo uu o u = true then 1 else 0)) _ = _
        refine (gd_t (by split <;> decide)).trans ?_
        rfl
      have e2 : g129L4 (m' + 1) 0 i T = (if (if sub nn n oo uu o u = true then (1 : Int) else 0) = 0 then g129L4 m' 0 (i + 1) U else g129L4 m' 1 (i + 1) U) := by
        conv => lhs; unfold g129L4
        refine (gd_t (by first | exact ⟨by omega, by omega⟩ | exact ⟨by omega, by omega, by omega⟩ | exact ⟨by omega, by omega, by omega, by omega⟩ | omega | exact inR_to _ | assumption | decide)).trans ?_
        rw [if_pos (by omega)]
        refine (gd_t (by first | exact ⟨by omega, by omega⟩ | exact ⟨by omega, by omega, by omega⟩ | exact ⟨by omega, by omega, by omega, by omega⟩ | omega | exact inR_to _ | assumption | decide)).trans ?_
        rw [if_pos rfl]
        refine (gd_t (by first | exact ⟨by omega, by omega⟩ | exact ⟨by omega, by omega, by omega⟩ | exact ⟨by omega, by omega, by omega, by omega⟩ | omega | exact inR_to _ | assumption | decide)).trans ?_
        refine (if_pos (by omega)).trans ?_
        rw [u1]
        show gd (inR (if sub nn n oo uu o u = true then 1 else 0)) _ = _
        refine (gd_t (by split <;> decide)).trans ?_
        rfl
      rw [e1, e2]
      cases sub nn n oo uu o u
      · obtain ⟨S', T', a1, a2, a3, a4⟩ := ih m m' (i + 1) V U hV (hc.fr v2 KCX) (hm.fr u2 (by decide)) (by omega) (show i + 1 + r = V.F 13 1 by rw [v2.F (by decide)]; omega) (by omega) (by omega)
        exact ⟨S', T', v2.trans a1, u2.trans a2, a3, a4⟩
      · obtain ⟨m', rfl⟩ : ∃ k, m' = k + 1 := ⟨m' - 1, by omega⟩
        exact ⟨V, U, v2, u2, hV, Or.inr ⟨rfl, g129L4_1 ⟨by omega, by omega⟩⟩⟩
theorem known_sim {S T : St} {n : Int} {o u : Int → Int} (hW : WV n o u) (h : X2 S T) (hc : KC S 16 n o u) (hm : KM T 124 n o u) : ∃ b S' T', g53 S = some (b, S') ∧ g129 T = some (b, T') ∧ b1R b ∧ X2 S' T' ∧ Fr [24, 25, 26] S S' ∧ Fr [62, 63] T T' := by
  have b1 := h.2.1.1
  have b2 := h.2.1.2.1
  obtain ⟨m9, hm9⟩ := FU_ge (n := 200) (by decide)
  obtain ⟨S', T', a1, a2, a3, a4⟩ := known_L hW (S.F 13 1).toNat FU FU 0 S T h hc hm (by omega) (by omega) (by omega) (by omega)
  rcases a4 with ⟨c1, c2⟩ | ⟨c1, c2⟩
  · refine ⟨0, S', T', ?_, ?_, Or.inl rfl, a3, a1, a2⟩
    · unfold g53; rw [c1]; rfl
    · unfold g129; rw [c2]; rfl
  · refine ⟨1, S', T', ?_, ?_, Or.inr rfl, a3, a1, a2⟩
    · unfold g53; rw [c1]; rfl
    · unfold g129; rw [c2]; rfl
/-- is the given clause covered by an active one -/
theorem old_L {g : Int} : ∀ (r m m' : Nat) (i : Int) (S T : St), X2 S T → 0 ≤ g → g < S.F 13 1 → 0 ≤ i → i + r = S.F 13 1 → r + 1 < m → r + 1 < m' → ∃ S' T', Fr [24, 25, 26] S S' ∧ Fr [62, 63] T T' ∧ X2 S' T' ∧ ((g63L2 g m i S = some (.inl S') ∧ g137L19 g m' 0 i T = some (0, T')) ∨ (g63L2 g m i S = some (.inr (1, S')) ∧ g137L19 g m' 0 i T = some (1, T'))) := by
  have one : ∀ (r m : Nat) (i : Int) (T : St), 0 ≤ i → i + r = T.F 36 9 → T.F 36 9 ≤ 100 → r < m → g137L19 g m 1 i T = some (1, T) := by
    intro r
    induction r with
    | zero =>
      intro m i T hi hr h1 h2
      obtain ⟨m, rfl⟩ : ∃ k, m = k + 1 := ⟨m - 1, by omega⟩
      unfold g137L19
      refine (gd_t (by first | exact ⟨by omega, by omega⟩ | exact ⟨by omega, by omega, by omega⟩ | exact ⟨by omega, by omega, by omega, by omega⟩ | omega | exact inR_to _ | assumption | decide)).trans ?_
      exact if_neg (by omega)
    | succ r ih =>
      intro m i T hi hr h1 h2
      obtain ⟨m, rfl⟩ : ∃ k, m = k + 1 := ⟨m - 1, by omega⟩
      unfold g137L19
      refine (gd_t (by first | exact ⟨by omega, by omega⟩ | exact ⟨by omega, by omega, by omega⟩ | exact ⟨by omega, by omega, by omega, by omega⟩ | omega | exact inR_to _ | assumption | decide)).trans ?_
      rw [if_pos (by omega)]
      refine (gd_t (by first | exact ⟨by omega, by omega⟩ | exact ⟨by omega, by omega, by omega⟩ | exact ⟨by omega, by omega, by omega, by omega⟩ | omega | exact inR_to _ | assumption | decide)).trans ?_
      rw [if_neg (by decide)]
      exact ih m (i + 1) T (by omega) (by omega) h1 (by omega)
  intro r
  induction r with
  | zero =>
    intro m m' i S T h hg hg1 hi hr h1 h2
    obtain ⟨m, rfl⟩ : ∃ k, m = k + 1 := ⟨m - 1, by omega⟩
    obtain ⟨m', rfl⟩ : ∃ k, m' = k + 1 := ⟨m' - 1, by omega⟩
    have n9 : T.F 36 9 = S.F 13 1 := h.1.2.1
    have b2 := h.2.1.2.1
    refine ⟨S, T, Fr.refl _ _, Fr.refl _ _, h, Or.inl ⟨?_, ?_⟩⟩
    · unfold g63L2
      refine (gd_t (by first | exact ⟨by omega, by omega⟩ | exact ⟨by omega, by omega, by omega⟩ | exact ⟨by omega, by omega, by omega, by omega⟩ | omega | exact inR_to _ | assumption | decide)).trans ?_
      exact if_neg (by omega)
    · unfold g137L19
      refine (gd_t (by first | exact ⟨by omega, by omega⟩ | exact ⟨by omega, by omega, by omega⟩ | exact ⟨by omega, by omega, by omega, by omega⟩ | omega | exact inR_to _ | assumption | decide)).trans ?_
      exact if_neg (by omega)
  | succ r ih =>
    intro m m' i S T h hg hg1 hi hr h1 h2
    obtain ⟨m, rfl⟩ : ∃ k, m = k + 1 := ⟨m - 1, by omega⟩
    obtain ⟨m', rfl⟩ : ∃ k, m' = k + 1 := ⟨m' - 1, by omega⟩
    have n9 : T.F 36 9 = S.F 13 1 := h.1.2.1
    have b2 := h.2.1.2.1
    obtain ⟨a, c, x0, x1, x2, x3, x4, x5, nn, oo, uu, r1, r2, r3, r4, r5, r6, r7, r8, r9, r10, r11⟩ := h.2.2.1 i hi (by omega)
    obtain ⟨a', c', y0, y1, y2, y3, y4, y5, n, o, u, q1, q2, q3, q4, q5, q6, q7, q8, q9, q10, q11⟩ := h.2.2.1 g hg hg1
    by_cases hx : x0.toInt = 1
    · obtain ⟨V, v1, v2, v3⟩ := g54_t r4.KC q4.KC r6.1 q6.1 h.2.2.2.2.2.1
      obtain ⟨U, u1, u2⟩ := g130_t r5 q5 r6 q6
      have hV := (h.cov v2 v3).mf u2
      have e1 : g63L2 g (m + 1) i S = (if (if sub nn n oo uu o u = true then (1 : Int) else 0) = 0 then g63L2 g m (i + 1) V else some (.inr (1, V))) := by
        conv => lhs; unfold g63L2
        refine (gd_t (by first | exact ⟨by omega, by omega⟩ | exact ⟨by omega, by omega, by omega⟩ | exact ⟨by omega, by omega, by omega, by omega⟩ | omega | exact inR_to _ | assumption | decide)).trans ?_
        rw [if_pos (by omega)]
        refine (gd_t (by first | exact ⟨by omega, by omega⟩ | exact ⟨by omega, by omega, by omega⟩ | exact ⟨by omega, by omega, by omega, by omega⟩ | omega | exact inR_to _ | assumption | decide)).trans ?_
        refine (ob_t r1).trans ?_
        refine (gK_t ((cl_tl r2).trans r3)).trans ?_
        refine (if_pos hx).trans ?_
        refine (gd_t (by first | exact ⟨by omega, by omega⟩ | exact ⟨by omega, by omega, by omega⟩ | exact ⟨by omega, by omega, by omega, by omega⟩ | omega | exact inR_to _ | assumption | decide)).trans ?_
        refine (ob_t q1).trans ?_
        refine (gK_t ((cl_tl q2).trans q3)).trans ?_
        rw [v1]
        show gd (inR (if sub nn n oo uu o u = true then 1 else 0)) _ = _
        refine (gd_t (by split <;> decide)).trans ?_
        rfl
      have e2 : g137L19 g (m' + 1) 0 i T = (if (if sub nn n oo uu o u = true then (1 : Int) else 0) = 0 then g137L19 g m' 0 (i + 1) U else g137L19 g m' 1 (i + 1) U) := by
        conv => lhs; unfold g137L19
        refine (gd_t (by first | exact ⟨by omega, by omega⟩ | exact ⟨by omega, by omega, by omega⟩ | exact ⟨by omega, by omega, by omega, by omega⟩ | omega | exact inR_to _ | assumption | decide)).trans ?_
        rw [if_pos (by omega)]
        refine (gd_t (by first | exact ⟨by omega, by omega⟩ | exact ⟨by omega, by omega, by omega⟩ | exact ⟨by omega, by omega, by omega, by omega⟩ | omega | exact inR_to _ | assumption | decide)).trans ?_
        rw [if_pos rfl]
        refine (gd_t (by first | exact ⟨by omega, by omega⟩ | exact ⟨by omega, by omega, by omega⟩ | exact ⟨by omega, by omega, by omega, by omega⟩ | omega | exact inR_to _ | assumption | decide)).trans ?_
        refine (if_pos (by omega)).trans ?_
        rw [u1]
        show gd (inR (if sub nn n oo uu o u = true then 1 else 0)) _ = _
        refine (gd_t (by split <;> decide)).trans ?_
        rfl
      have f1 : V.F 13 1 = S.F 13 1 := by rw [v2.F (by decide)]
      have f2 : U.F 36 9 = S.F 13 1 := by rw [u2.F (by decide), n9]
      rw [e1, e2]
      cases sub nn n oo uu o u
      · obtain ⟨S', T', a1, a2, a3, a4⟩ := ih m m' (i + 1) V U hV hg (by omega) (by omega) (by omega) (by omega) (by omega)
        exact ⟨S', T', v2.trans a1, u2.trans a2, a3, a4⟩
      · exact ⟨V, U, v2, u2, hV, Or.inr ⟨rfl, one r m' (i + 1) U (by omega) (by omega) (by omega) (by omega)⟩⟩
    · obtain ⟨S', T', a1, a2, a3, a4⟩ := ih m m' (i + 1) S T h hg hg1 (by omega) (by omega) (by omega) (by omega)
      refine ⟨S', T', a1, a2, a3, ?_⟩
      have e1 : g63L2 g (m + 1) i S = g63L2 g m (i + 1) S := by
        conv => lhs; unfold g63L2
        refine (gd_t (by first | exact ⟨by omega, by omega⟩ | exact ⟨by omega, by omega, by omega⟩ | exact ⟨by omega, by omega, by omega, by omega⟩ | omega | exact inR_to _ | assumption | decide)).trans ?_
        rw [if_pos (by omega)]
        refine (gd_t (by first | exact ⟨by omega, by omega⟩ | exact ⟨by omega, by omega, by omega⟩ | exact ⟨by omega, by omega, by omega, by omega⟩ | omega | exact inR_to _ | assumption | decide)).trans ?_
        refine (ob_t r1).trans ?_
        refine (gK_t ((cl_tl r2).trans r3)).trans ?_
        exact if_neg hx
      have e2 : g137L19 g (m' + 1) 0 i T = g137L19 g m' 0 (i + 1) T := by
        conv => lhs; unfold g137L19
        refine (gd_t (by first | exact ⟨by omega, by omega⟩ | exact ⟨by omega, by omega, by omega⟩ | exact ⟨by omega, by omega, by omega, by omega⟩ | omega | exact inR_to _ | assumption | decide)).trans ?_
        rw [if_pos (by omega)]
        refine (gd_t (by first | exact ⟨by omega, by omega⟩ | exact ⟨by omega, by omega, by omega⟩ | exact ⟨by omega, by omega, by omega, by omega⟩ | omega | exact inR_to _ | assumption | decide)).trans ?_
        rw [if_pos rfl]
        refine (gd_t (by first | exact ⟨by omega, by omega⟩ | exact ⟨by omega, by omega, by omega⟩ | exact ⟨by omega, by omega, by omega, by omega⟩ | omega | exact inR_to _ | assumption | decide)).trans ?_
        exact if_neg (by omega)
      rw [e1, e2]
      exact a4
