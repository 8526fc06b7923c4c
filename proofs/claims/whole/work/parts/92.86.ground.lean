/-! the ground of a line -/
theorem b1_in {b : Int} (h : b1R b) : inR b := by rcases h with e | e <;> (rw [e]; decide)
theorem g90_t {S T : St} {v w : Int} (h : X2 S T) (hv : inR v) (hw : inR w) : ∃ b, g90 S v w = some b ∧ b1R b ∧ (b = 1 ↔ 0 ≤ v ∧ v < S.F 0 5 ∧ 0 ≤ w ∧ w < T.A 41 (100 + v)) := by
  have b4 := h.2.1.2.2.2.1
  unfold g90
  by_cases h1 : v < 0
  · refine ⟨0, (gd_t hv).trans (if_pos h1), Or.inl rfl, ⟨fun e => absurd e (by decide), fun e => by omega⟩⟩
  · by_cases h2 : v < S.F 0 5
    · by_cases h3 : w < 0
      · exact ⟨0, (gd_t hv).trans ((if_neg h1).trans ((if_pos h2).trans ((gd_t hw).trans (if_pos h3)))), Or.inl rfl, ⟨fun e => absurd e (by decide), fun e => by omega⟩⟩
      · obtain ⟨c, n, o, u, r1, r2, r3, r4, r5⟩ := h.2.2.2.2.1 v (by omega) h2
        obtain ⟨k0, bb, s, N, M, f, g, x, y, k1, k2, k3, k4, k5, k6, k7, _⟩ := r2
        have e41 := r3.2.2.1
        refine ⟨if w < n then 1 else 0, (gd_t hv).trans ((if_neg h1).trans ((if_pos h2).trans ((gd_t hw).trans ((if_neg h3).trans ((gd_t ⟨by omega, by omega⟩).trans ((ob_t r1).trans ((gC_t ((cl_tl k0).trans k3)).trans ?_))))))), ?_, ?_⟩
        · rw [k4]
          split <;> rfl
        · split
          · exact Or.inr rfl
          · exact Or.inl rfl
        · rw [e41]
          split
          · exact ⟨fun _ => by omega, fun _ => rfl⟩
          · exact ⟨fun e => absurd e (by decide), fun e => by omega⟩
    · exact ⟨0, (gd_t hv).trans ((if_neg h1).trans (if_neg h2)), Or.inl rfl, ⟨fun e => absurd e (by decide), fun e => by omega⟩⟩
theorem g160_t {T : St} {v : Int} (hv : inR v) : g160 T v = some (if 0 ≤ v ∧ v < T.F 36 10 then 1 else 0) := by
  unfold g160
  refine (gd_t hv).trans ?_
  by_cases h1 : v < 0
  · rw [if_pos h1, if_neg (by omega)]
  · rw [if_neg h1]
    by_cases h2 : v < T.F 36 10
    · rw [if_pos h2, if_pos (by omega)]
    · rw [if_neg h2, if_neg (by omega)]
def GH (S T : St) (v1 v2 v3 v4 : Int) : Prop := (v1 = -1 ∧ 0 ≤ v2 ∧ v2 < S.F 13 1) ∨ (v1 ≠ -1 ∧ v3 = -1 ∧ (0 ≤ v1 ∧ v1 < S.F 0 5) ∧ (0 ≤ v2 ∧ v2 < T.A 41 (100 + v1)) ∧ 0 ≤ v4 ∧ v4 < T.A 41 (100 + v1)) ∨ (v1 ≠ -1 ∧ v3 ≠ -1 ∧ (0 ≤ v1 ∧ v1 < S.F 0 5) ∧ (0 ≤ v3 ∧ v3 < S.F 0 5) ∧ (0 ≤ v2 ∧ v2 < T.A 41 (100 + v1)) ∧ 0 ≤ v4 ∧ v4 < T.A 41 (100 + v3))
set_option maxHeartbeats 1000000 in
theorem found_sim {S T : St} {v1 v2 v3 v4 : Int} (h : X2 S T) (i1 : inR v1) (i2 : inR v2) (i3 : inR v3) (i4 : inR v4) : ∃ b, g89 S v1 v2 v3 v4 = some b ∧ g159 T v1 v2 v3 v4 = some b ∧ b1R b ∧ (b = 1 → GH S T v1 v2 v3 v4) := by
  have n1 := h.1.1
  have n2 := h.1.2.1
  obtain ⟨b1, b2, b3, b4, _⟩ := h.2.1
  by_cases h1 : v1 = -1
  · have c0 : ∀ x, g89 S v1 v2 v3 v4 = some x ↔ (gd (inR v2) (if v2 < 0 then some 0 else if v2 < (S.F 13 1) then gd (ixR v2 100) (ob (S.R 14 v2) (fun c7 => gK S c7 (fun c9 n10 n11 n12 n13 n14 n15 => if n11 = 0 then some 1 else some 0))) else some 0) : Option Int) = some x := fun x => by
      unfold g89
      rw [show ∀ z : Option Int, gd (inR v1) z = z from fun z => gd_t i1, if_pos h1]
    have m0 : ∀ x, g159 T v1 v2 v3 v4 = some x ↔ (gd (inR v2) (if v2 < 0 then some 0 else if v2 < (T.F 36 9) then gd (ixR v2 100) (if (T.A 44 v2) = 0 then some 1 else some 0) else some 0) : Option Int) = some x := fun x => by
      unfold g159
      rw [show ∀ z : Option Int, gd (inR v1) z = z from fun z => gd_t i1, if_pos h1]
    by_cases h2 : v2 < 0
    · exact ⟨0, (c0 0).mpr ((gd_t i2).trans (if_pos h2)), (m0 0).mpr ((gd_t i2).trans (if_pos h2)), Or.inl rfl, fun e => absurd e (by decide)⟩
    · by_cases h3 : v2 < S.F 13 1
      · obtain ⟨a, c, x0, x1, x2, x3, x4, x5, n, o, u, r1, r2, r3, r4, r5, r6, r7, r8, r9, r10, r11, _⟩ := h.2.2.1 v2 (by omega) h3
        refine ⟨if x1.toInt = 0 then 1 else 0, (c0 _).mpr ((gd_t i2).trans ((if_neg h2).trans ((if_pos h3).trans ((gd_t ⟨by omega, by omega⟩).trans ((ob_t r1).trans ((gK_t ((cl_tl r2).trans r3)).trans ?_)))))), (m0 _).mpr ((gd_t i2).trans ((if_neg h2).trans ((if_pos (by omega)).trans ((gd_t ⟨by omega, by omega⟩).trans ?_)))), ?_, fun _ => Or.inl ⟨h1, by omega, h3⟩⟩
        · split <;> rfl
        · rw [r11]
          split <;> rfl
        · split
          · exact Or.inr rfl
          · exact Or.inl rfl
      · exact ⟨0, (c0 0).mpr ((gd_t i2).trans ((if_neg h2).trans (if_neg h3))), (m0 0).mpr ((gd_t i2).trans ((if_neg h2).trans (if_neg (by omega)))), Or.inl rfl, fun e => absurd e (by decide)⟩
  · by_cases h3 : v3 = -1
    · obtain ⟨p, p1, p2, p3⟩ := g90_t (v := v1) (w := v2) h i1 i2
      obtain ⟨q, q1, q2, q3⟩ := g90_t (v := v1) (w := v4) h i1 i4
      have e160 := g160_t (T := T) i1
      rw [n1] at e160
      refine ⟨if p = 1 ∧ q = 1 ∧ v2 ≠ v4 then 1 else 0, ?_, ?_, ?_, fun hb => ?_⟩
      · unfold g89
        refine (gd_t i1).trans ((if_neg h1).trans ((gd_t i3).trans ((if_pos h3).trans ?_)))
        rw [p1]
        refine (ob_t rfl).trans ((gd_t (b1_in p2)).trans ?_)
        rcases p2 with e | e
        · rw [if_pos e, if_neg (by omega)]
        · rw [if_neg (by omega), q1]
          refine (ob_t rfl).trans ((gd_t (b1_in q2)).trans ?_)
          rcases q2 with e' | e'
          · rw [if_pos e', if_neg (by omega)]
          · rw [if_neg (by omega)]
            refine (gd_t i2).trans ((gd_t i4).trans ?_)
            by_cases h24 : v2 = v4
            · rw [if_pos h24, if_neg (fun hh => hh.2.2 h24)]
            · rw [if_neg h24, if_pos ⟨e, e', h24⟩]
      · unfold g159
        refine (gd_t i1).trans ((if_neg h1).trans ((gd_t i3).trans ((if_pos h3).trans ?_)))
        rw [e160]
        by_cases hP : 0 ≤ v1 ∧ v1 < S.F 0 5
        · rw [if_pos hP]
          refine (ob_t rfl).trans ((gd_t (show inR 1 by decide)).trans ((if_neg (show ¬ (1 : Int) = 0 by decide)).trans ((ob_t rfl).trans ((gd_t (show inR 1 by decide)).trans ((if_neg (show ¬ (1 : Int) = 0 by decide)).trans ((gd_t i2).trans ?_))))))
          by_cases c2 : v2 < 0
          · rw [if_pos c2, if_neg (fun hh => by have := p3.mp hh.1; omega)]
          · rw [if_neg c2]
            refine (gd_t i4).trans ?_
            by_cases c4 : v4 < 0
            · rw [if_pos c4, if_neg (fun hh => by have := q3.mp hh.2.1; omega)]
            · rw [if_neg c4]
              refine (gd_t ⟨by omega, by omega⟩).trans ?_
              by_cases d2 : v2 < T.A 41 (100 + v1)
              · rw [if_pos d2]
                by_cases d4 : v4 < T.A 41 (100 + v1)
                · rw [if_pos d4]
                  have ep := p3.mpr ⟨hP.1, hP.2, by omega, d2⟩
                  have eq := q3.mpr ⟨hP.1, hP.2, by omega, d4⟩
                  by_cases h24 : v2 = v4
                  · rw [if_pos h24, if_neg (fun hh => hh.2.2 h24)]
                  · rw [if_neg h24, if_pos ⟨ep, eq, h24⟩]
                · rw [if_neg d4, if_neg (fun hh => by have := q3.mp hh.2.1; omega)]
              · rw [if_neg d2, if_neg (fun hh => by have := p3.mp hh.1; omega)]
        · rw [if_neg hP]
          refine (ob_t rfl).trans ((gd_t (show inR 0 by decide)).trans ((if_pos rfl).trans ?_))
          rw [if_neg (fun hh => by have := p3.mp hh.1; omega)]
      · split
        · exact Or.inr rfl
        · exact Or.inl rfl
      · by_cases hh : p = 1 ∧ q = 1 ∧ v2 ≠ v4
        · have a1 := p3.mp hh.1
          have a2 := q3.mp hh.2.1
          exact Or.inr (Or.inl ⟨h1, h3, ⟨a1.1, a1.2.1⟩, ⟨a1.2.2.1, a1.2.2.2⟩, a2.2.2.1, a2.2.2.2⟩)
        · rw [if_neg hh] at hb
          exact absurd hb (by decide)
    · obtain ⟨p, p1, p2, p3⟩ := g90_t (v := v1) (w := v2) h i1 i2
      obtain ⟨q, q1, q2, q3⟩ := g90_t (v := v3) (w := v4) h i3 i4
      have e160 := g160_t (T := T) i1
      have f160 := g160_t (T := T) i3
      rw [n1] at e160 f160
      refine ⟨if p = 1 ∧ q = 1 then 1 else 0, ?_, ?_, ?_, fun hb => ?_⟩
      · unfold g89
        refine (gd_t i1).trans ((if_neg h1).trans ((gd_t i3).trans ((if_neg h3).trans ?_)))
        rw [p1]
        refine (ob_t rfl).trans ((gd_t (b1_in p2)).trans ?_)
        rcases p2 with e | e
        · rw [if_pos e, if_neg (by omega)]
        · rw [if_neg (by omega), q1]
          refine (ob_t rfl).trans ((gd_t (b1_in q2)).trans ?_)
          rcases q2 with e' | e'
          · rw [if_pos e', if_neg (by omega)]
          · rw [if_neg (by omega), if_pos ⟨e, e'⟩]
      · unfold g159
        refine (gd_t i1).trans ((if_neg h1).trans ((gd_t i3).trans ((if_neg h3).trans ?_)))
        rw [e160]
        by_cases hP : 0 ≤ v1 ∧ v1 < S.F 0 5
        · rw [if_pos hP]
          refine (ob_t rfl).trans ((gd_t (show inR 1 by decide)).trans ((if_neg (show ¬ (1 : Int) = 0 by decide)).trans ?_))
          rw [f160]
          by_cases hP3 : 0 ≤ v3 ∧ v3 < S.F 0 5
          · rw [if_pos hP3]
            refine (ob_t rfl).trans ((gd_t (show inR 1 by decide)).trans ((if_neg (show ¬ (1 : Int) = 0 by decide)).trans ((gd_t i2).trans ?_)))
            by_cases c2 : v2 < 0
            · rw [if_pos c2, if_neg (fun hh => by have := p3.mp hh.1; omega)]
            · rw [if_neg c2]
              refine (gd_t i4).trans ?_
              by_cases c4 : v4 < 0
              · rw [if_pos c4, if_neg (fun hh => by have := q3.mp hh.2; omega)]
              · rw [if_neg c4]
                refine (gd_t ⟨by omega, by omega⟩).trans ?_
                by_cases d2 : v2 < T.A 41 (100 + v1)
                · rw [if_pos d2]
                  refine (gd_t ⟨by omega, by omega⟩).trans ?_
                  by_cases d4 : v4 < T.A 41 (100 + v3)
                  · rw [if_pos d4, if_pos ⟨p3.mpr ⟨hP.1, hP.2, by omega, d2⟩, q3.mpr ⟨hP3.1, hP3.2, by omega, d4⟩⟩]
                  · rw [if_neg d4, if_neg (fun hh => by have := q3.mp hh.2; omega)]
                · rw [if_neg d2, if_neg (fun hh => by have := p3.mp hh.1; omega)]
          · rw [if_neg hP3]
            refine (ob_t rfl).trans ((gd_t (show inR 0 by decide)).trans ((if_pos rfl).trans ?_))
            rw [if_neg (fun hh => by have := q3.mp hh.2; omega)]
        · rw [if_neg hP]
          refine (ob_t rfl).trans ((gd_t (show inR 0 by decide)).trans ((if_pos rfl).trans ?_))
          rw [if_neg (fun hh => by have := p3.mp hh.1; omega)]
      · split
        · exact Or.inr rfl
        · exact Or.inl rfl
      · by_cases hh : p = 1 ∧ q = 1
        · have a1 := p3.mp hh.1
          have a2 := q3.mp hh.2
          exact Or.inr (Or.inr ⟨h1, h3, ⟨a1.1, a1.2.1⟩, ⟨a2.1, a2.2.1⟩, ⟨a1.2.2.1, a1.2.2.2⟩, a2.2.2.1, a2.2.2.2⟩)
        · rw [if_neg hh] at hb
          exact absurd hb (by decide)
