theorem clause_ok {S : St} {j : Nat} {k w : Int} (hk : inR k) (hw : inR w) (h : Rel S) (hr : Room j S) : LW j (g168 S k w) (fun T => g154 T k w) := by
  obtain ⟨b1, b2, b3⟩ := h.2.2.1
  have n3 : S.F 36 9 = S.F 13 1 := h.2.1.2.2.1
  by_cases hk2 : 0 ≤ k ∧ k < S.F 13 1
  · obtain ⟨a, c, x0, x1, x2, x3, x4, x5, n, o, u, h1, h2, h3, h4, h5, h6, h7, h8, h9, h10, h11, h12, h13, h14, h15, h16⟩ := h.2.2.2.1 k hk2.1 hk2.2
    have e3 : S.cl a = some (.ob 9 [c] [x0, x1, x2, x3, x4, x5]) := (cl_tl h2).trans h3
    obtain ⟨b, s, N, M, f, g, y, z, d1, d2, d3, d4⟩ := h4.KC
    obtain ⟨m1, m2, m3, m4, m5, m6⟩ := h5
    have cls : ∀ r, (if w = 0 then gK S a (fun c9 n10 n11 n12 n13 n14 n15 => some (0, n10, S)) else if w = 1 then gK S a (fun c19 n20 n21 n22 n23 n24 n25 => gC S c19 (fun c28 c29 n30 n31 => some (0, n30, S))) else if w = 2 then gK S a (fun c35 n36 n37 n38 n39 n40 n41 => gC S c35 (fun c44 c45 n46 n47 => some (0, n47, S))) else if w = 3 then gK S a (fun c51 n52 n53 n54 n55 n56 n57 => some (0, n53, S)) else if w = 4 then gK S a (fun c61 n62 n63 n64 n65 n66 n67 => some (0, n64, S)) else if w = 5 then gK S a (fun c71 n72 n73 n74 n75 n76 n77 => some (0, n75, S)) else if w = 6 then gK S a (fun c81 n82 n83 n84 n85 n86 n87 => some (0, n86, S)) else if w = 7 then gK S a (fun c91 n92 n93 n94 n95 n96 n97 => some (0, n97, S)) else some (1, 0, S.ho)) = r → g84 S k w = r := by
      intro r hrr
      rw [← hrr]
      unfold g84
      refine (gd_t (by first | exact ⟨by omega, by omega⟩ | exact ⟨by omega, by omega, by omega⟩ | exact ⟨by omega, by omega, by omega, by omega⟩ | omega | exact inR_to _ | assumption | decide)).trans ?_
      rw [if_neg (by omega), if_pos hk2.2]
      refine (gd_t (by first | exact ⟨by omega, by omega⟩ | exact ⟨by omega, by omega, by omega⟩ | exact ⟨by omega, by omega, by omega, by omega⟩ | omega | exact inR_to _ | assumption | decide)).trans ?_
      refine (ob_t h1).trans ?_
      refine (gd_t (by first | exact ⟨by omega, by omega⟩ | exact ⟨by omega, by omega, by omega⟩ | exact ⟨by omega, by omega, by omega, by omega⟩ | omega | exact inR_to _ | assumption | decide)).trans ?_
      rfl
    rw [gK_t e3, gK_t e3, gK_t e3, gK_t e3, gK_t e3, gK_t e3, gK_t e3, gK_t e3, gC_t d1, gC_t d1] at cls
    have mdl : ∀ (T : St) r, T.F 36 9 = S.F 13 1 → (if w < 0 then some (0, (T.f 36 0 2)) else if 7 < w then some (0, (T.f 36 0 2)) else if 3 < w then gd (ixR (((4 * k) + w) - 4) 400) (some ((T.A 45 (((4 * k) + w) - 4)), (T.f 36 0 0))) else if w = 0 then gd (ixR k 100) (some ((T.A 43 k), (T.f 36 0 0))) else if w = 1 then gd (ixR k 125) (some ((T.A 41 k), (T.f 36 0 0))) else if w = 2 then gd (ixR k 125) (some ((T.A 42 k), (T.f 36 0 0))) else gd (ixR k 100) (some ((T.A 44 k), (T.f 36 0 0)))) = r → g154 T k w = r := by
      intro T r hT hrr
      rw [← hrr]
      unfold g154
      refine (gd_t (by first | exact ⟨by omega, by omega⟩ | exact ⟨by omega, by omega, by omega⟩ | exact ⟨by omega, by omega, by omega, by omega⟩ | omega | exact inR_to _ | assumption | decide)).trans ?_
      rw [if_neg (by omega), hT, if_pos hk2.2]
      refine (gd_t (by first | exact ⟨by omega, by omega⟩ | exact ⟨by omega, by omega, by omega⟩ | exact ⟨by omega, by omega, by omega, by omega⟩ | omega | exact inR_to _ | assumption | decide)).trans ?_
      rfl
    by_cases hw2 : 0 ≤ w ∧ w ≤ 7
    · have hc : w = 0 ∨ w = 1 ∨ w = 2 ∨ w = 3 ∨ w = 4 ∨ w = 5 ∨ w = 6 ∨ w = 7 := by omega
      have fin : ∀ x : Int, g84 S k w = some (0, x, S) → (g154 (S.o (lI x)) k w = some (x, (S.o (lI x)).f 36 0 0)) → LW j (g168 S k w) (fun T => g154 T k w) := by
        intro x e1 e2
        refine LW.mk (x := x) h hr ?_ e2
        unfold g168
        rw [e1]
        rfl
      rcases hc with e | e | e | e | e | e | e | e <;> subst e
      · refine fin x0.toInt (cls _ rfl) (mdl _ _ n3 ?_)
        rw [if_neg (by decide), if_neg (by decide), if_neg (by decide), if_pos rfl]
        refine (gd_t (by first | exact ⟨by omega, by omega⟩ | exact ⟨by omega, by omega, by omega⟩ | exact ⟨by omega, by omega, by omega, by omega⟩ | omega | exact inR_to _ | assumption | decide)).trans ?_
        show some (S.A 43 k, _) = _
        rw [h8]
      · refine fin y.toInt (cls _ rfl) (mdl _ _ n3 ?_)
        rw [if_neg (by decide), if_neg (by decide), if_neg (by decide), if_neg (by decide), if_pos rfl]
        refine (gd_t (by first | exact ⟨by omega, by omega⟩ | exact ⟨by omega, by omega, by omega⟩ | exact ⟨by omega, by omega, by omega, by omega⟩ | omega | exact inR_to _ | assumption | decide)).trans ?_
        show some (S.A 41 k, _) = _
        rw [m3, d2]
      · refine fin z.toInt (cls _ rfl) (mdl _ _ n3 ?_)
        rw [if_neg (by decide), if_neg (by decide), if_neg (by decide), if_neg (by decide), if_neg (by decide), if_pos rfl]
        refine (gd_t (by first | exact ⟨by omega, by omega⟩ | exact ⟨by omega, by omega, by omega⟩ | exact ⟨by omega, by omega, by omega, by omega⟩ | omega | exact inR_to _ | assumption | decide)).trans ?_
        show some (S.A 42 k, _) = _
        rw [m4, d3]
      · refine fin x1.toInt (cls _ rfl) (mdl _ _ n3 ?_)
        rw [if_neg (by decide), if_neg (by decide), if_neg (by decide), if_neg (by decide), if_neg (by decide), if_neg (by decide)]
        refine (gd_t (by first | exact ⟨by omega, by omega⟩ | exact ⟨by omega, by omega, by omega⟩ | exact ⟨by omega, by omega, by omega, by omega⟩ | omega | exact inR_to _ | assumption | decide)).trans ?_
        show some (S.A 44 k, _) = _
        rw [h11]
      · refine fin x2.toInt (cls _ rfl) (mdl _ _ n3 ?_)
        rw [if_neg (by decide), if_neg (by decide), if_pos (by decide), show 4 * k + 4 - 4 = 4 * k by omega]
        refine (gd_t (by first | exact ⟨by omega, by omega⟩ | exact ⟨by omega, by omega, by omega⟩ | exact ⟨by omega, by omega, by omega, by omega⟩ | omega | exact inR_to _ | assumption | decide)).trans ?_
        show some (S.A 45 (4 * k), _) = _
        rw [h12]
      · refine fin x3.toInt (cls _ rfl) (mdl _ _ n3 ?_)
        rw [if_neg (by decide), if_neg (by decide), if_pos (by decide), show 4 * k + 5 - 4 = 4 * k + 1 by omega]
        refine (gd_t (by first | exact ⟨by omega, by omega⟩ | exact ⟨by omega, by omega, by omega⟩ | exact ⟨by omega, by omega, by omega, by omega⟩ | omega | exact inR_to _ | assumption | decide)).trans ?_
        show some (S.A 45 (4 * k + 1), _) = _
        rw [h13]
      · refine fin x4.toInt (cls _ rfl) (mdl _ _ n3 ?_)
        rw [if_neg (by decide), if_neg (by decide), if_pos (by decide), show 4 * k + 6 - 4 = 4 * k + 2 by omega]
        refine (gd_t (by first | exact ⟨by omega, by omega⟩ | exact ⟨by omega, by omega, by omega⟩ | exact ⟨by omega, by omega, by omega, by omega⟩ | omega | exact inR_to _ | assumption | decide)).trans ?_
        show some (S.A 45 (4 * k + 2), _) = _
        rw [h14]
      · refine fin x5.toInt (cls _ rfl) (mdl _ _ n3 ?_)
        rw [if_neg (by decide), if_neg (by decide), if_pos (by decide), show 4 * k + 7 - 4 = 4 * k + 3 by omega]
        refine (gd_t (by first | exact ⟨by omega, by omega⟩ | exact ⟨by omega, by omega, by omega⟩ | exact ⟨by omega, by omega, by omega, by omega⟩ | omega | exact inR_to _ | assumption | decide)).trans ?_
        show some (S.A 45 (4 * k + 3), _) = _
        rw [h15]
    · refine LW.er (S := S) (c := 2) (w := 0) h hr (by decide) (by decide) ?_ (mdl _ _ n3 ?_)
      · unfold g168
        rw [cls (some (1, 0, S.ho)) (by rw [if_neg (by omega), if_neg (by omega), if_neg (by omega), if_neg (by omega), if_neg (by omega), if_neg (by omega), if_neg (by omega), if_neg (by omega)])]
        rfl
      · by_cases h0 : w < 0
        · rw [if_pos h0]
        · rw [if_neg h0, if_pos (by omega)]
  · have e1 : g84 S k w = some (3, 0, S.ho) := by
      unfold g84
      refine (gd_t (by first | exact ⟨by omega, by omega⟩ | exact ⟨by omega, by omega, by omega⟩ | exact ⟨by omega, by omega, by omega, by omega⟩ | omega | exact inR_to _ | assumption | decide)).trans ?_
      by_cases h0 : k < 0
      · rw [if_pos h0]
      · rw [if_neg h0, if_neg (by omega)]
    refine LW.er (S := S) (c := 1) (w := 0) h hr (by decide) (by decide) ?_ ?_
    · unfold g168
      rw [e1]
      rfl
    · show g154 S.ho k w = _
      unfold g154
      have f1 : S.ho.F 36 9 = S.F 13 1 := n3
      rw [f1]
      refine (gd_t (by first | exact ⟨by omega, by omega⟩ | exact ⟨by omega, by omega, by omega⟩ | exact ⟨by omega, by omega, by omega, by omega⟩ | omega | exact inR_to _ | assumption | decide)).trans ?_
      by_cases h0 : k < 0
      · rw [if_pos h0]
      · rw [if_neg h0, if_neg (by omega)]
/-- after a search of the matcher -/
theorem Rel.cov {S T : St} (hX : Fr [24, 25, 26] S T) (h25 : ∀ v : Int, 0 ≤ v → v < 64 → 0 ≤ T.A 25 v) (h : Rel S) : Rel T := by
  have ht := hX.1
  have hF : ∀ c, c ∉ [24, 25, 26] → T.F c = S.F c := fun c hc => hX.F hc
  have hA : ∀ c, c ∉ [24, 25, 26] → T.A c = S.A c := fun c hc => hX.A hc
  have hR : ∀ c, c ∉ [24, 25, 26] → T.R c = S.R c := fun c hc => (hX.2.2.2 c hc).2.2
  obtain ⟨h1, h2, h3, h4, h5, h6, h7, h8⟩ := h
  unfold Rel RT RN RB RK RK1 RJ RL RO RX KM at *
  rw [ht, hF 0 (by decide), hF 1 (by decide), hF 13 (by decide), hF 28 (by decide), hF 36 (by decide), hA 2 (by decide), hA 27 (by decide), hA 29 (by decide), hA 37 (by decide), hA 38 (by decide), hA 39 (by decide), hA 40 (by decide), hA 41 (by decide), hA 42 (by decide), hA 43 (by decide), hA 44 (by decide), hA 45 (by decide), hA 69 (by decide), hR 14 (by decide), hR 35 (by decide)]
  exact ⟨h1, h2, h3, h4, h5, h6, h7, h25, h8.2⟩
/-- the law's comparison of subsumes comes out true -/
def LB (j : Nat) (cw : Option (Int × St)) (mf : St → Option (Int × St)) : Prop := ∃ k S1 w S2, cw = some (k, S1) ∧ mf S1 = some (w, S2) ∧ inR k ∧ inR w ∧ S2.F 36 0 = k ∧ (k = 0 → S2.O = if w = 0 then 0 else 1) ∧ Rel S2 ∧ Room (j + 1) S2
theorem subsumes_ok {S : St} {j : Nat} {k m : Int} (hk : inR k) (hm : inR m) (h : Rel S) (hr : Room j S) : LB j (g169 S k m) (fun T => g155 T k m) := by
  obtain ⟨b1, b2, b3⟩ := h.2.2.1
  have n3 : S.F 36 9 = S.F 13 1 := h.2.1.2.2.1
  by_cases hc : (0 ≤ k ∧ k < S.F 13 1) ∧ 0 ≤ m ∧ m < S.F 13 1
  · obtain ⟨⟨k0, k1⟩, m0, m1⟩ := hc
    obtain ⟨a, c, x0, x1, x2, x3, x4, x5, n, o, u, h1, h2, h3, h4, h5, h6, h7, h8, h9⟩ := h.2.2.2.1 k k0 k1
    obtain ⟨a', c', y0, y1, y2, y3, y4, y5, n', o', u', i1, i2, i3, i4, i5, i6, i7, i8, i9⟩ := h.2.2.2.1 m m0 m1
    obtain ⟨T, t1, t2, t3⟩ := g54_t h4.KC i4.KC h6.1 i6.1 h.2.2.2.2.2.2.2.1
    have hT := h.cov t2 t3
    have e1 : g85 S k m = some (0, (if sub n n' o u o' u' = true then 1 else 0), T) := by
      unfold g85
      refine (gd_t (by first | exact ⟨by omega, by omega⟩ | exact ⟨by omega, by omega, by omega⟩ | exact ⟨by omega, by omega, by omega, by omega⟩ | omega | exact inR_to _ | assumption | decide)).trans ?_
      rw [if_neg (by omega), if_pos k1]
      refine (gd_t (by first | exact ⟨by omega, by omega⟩ | exact ⟨by omega, by omega, by omega⟩ | exact ⟨by omega, by omega, by omega, by omega⟩ | omega | exact inR_to _ | assumption | decide)).trans ?_
      rw [if_neg (by omega), if_pos m1]
      refine (gd_t (by first | exact ⟨by omega, by omega⟩ | exact ⟨by omega, by omega, by omega⟩ | exact ⟨by omega, by omega, by omega, by omega⟩ | omega | exact inR_to _ | assumption | decide)).trans ?_
      refine (ob_t h1).trans ?_
      refine (gK_t ((cl_tl h2).trans h3)).trans ?_
      refine (gd_t (by first | exact ⟨by omega, by omega⟩ | exact ⟨by omega, by omega, by omega⟩ | exact ⟨by omega, by omega, by omega, by omega⟩ | omega | exact inR_to _ | assumption | decide)).trans ?_
      refine (ob_t i1).trans ?_
      refine (gK_t ((cl_tl i2).trans i3)).trans ?_
      rw [t1]
      show gd (b1R (if sub n n' o u o' u' = true then 1 else 0)) _ = _
      refine (gd_t ?_).trans rfl
      split
      · exact Or.inr rfl
      · exact Or.inl rfl
    have mdl : ∀ z : Int64, ∃ U, g155 (T.o z) k m = some ((if sub n n' o u o' u' = true then 1 else 0), U) ∧ Fr [62, 63] ((T.o z).f 36 0 0) U := by
      intro z
      have q1 : KM ((T.o z).f 36 0 0) k n o u := h5.fr t2 (by decide)
      have q2 : KM ((T.o z).f 36 0 0) m n' o' u' := i5.fr t2 (by decide)
      obtain ⟨U, u1, u2⟩ := g130_t q1 q2 h6 i6
      refine ⟨U, ?_, u2⟩
      have f1 : (T.o z).F 36 9 = S.F 13 1 := by
        have : T.F 36 = S.F 36 := t2.F (by decide)
        show T.F 36 9 = _
        rw [this, n3]
      unfold g155
      rw [f1]
      refine (gd_t (by first | exact ⟨by omega, by omega⟩ | exact ⟨by omega, by omega, by omega⟩ | exact ⟨by omega, by omega, by omega, by omega⟩ | omega | exact inR_to _ | assumption | decide)).trans ?_
      rw [if_neg (by omega), if_pos k1]
      refine (gd_t (by first | exact ⟨by omega, by omega⟩ | exact ⟨by omega, by omega, by omega⟩ | exact ⟨by omega, by omega, by omega, by omega⟩ | omega | exact inR_to _ | assumption | decide)).trans ?_
      rw [if_neg (by omega), if_pos m1, u1]
      cases sub n n' o u o' u'
      · rfl
      · rfl
    have fin : ∀ (U : St) (z : Int64), Fr [62, 63] ((T.o z).f 36 0 0) U → U.F 36 0 = 0 ∧ U.O = z ∧ Rel U ∧ Room (j + 1) U := by
      intro U z hU
      refine ⟨?_, hU.2.2.1, ((hT.out z).code 0).fr hU (by decide), ?_⟩
      · have : U.F 36 = ((T.o z).f 36 0 0).F 36 := hU.F (by decide)
        rw [this]
        exact show (eI 0).toInt = 0 by decide
      · exact ((((hr.fr t2 (by decide) (by decide)).out z).code 0).fr hU (by decide) (by decide)).next
    cases hs : sub n n' o u o' u'
    · rw [hs] at e1
      obtain ⟨U, u1, u2⟩ := mdl 0
      rw [hs] at u1
      obtain ⟨v1, v2, v3, v4⟩ := fin U 0 u2
      refine ⟨0, T.o 0, 0, U, ?_, u1, by decide, by decide, v1, fun _ => v2, v3, v4⟩
      unfold g169
      rw [e1]
      rfl
    · rw [hs] at e1
      obtain ⟨U, u1, u2⟩ := mdl 1
      rw [hs] at u1
      obtain ⟨v1, v2, v3, v4⟩ := fin U 1 u2
      refine ⟨0, T.o 1, 1, U, ?_, u1, by decide, by decide, v1, fun _ => v2, v3, v4⟩
      unfold g169
      rw [e1]
      rfl
  · have e1 : g85 S k m = some (3, 0, S.ho) := by
      unfold g85
      refine (gd_t (by first | exact ⟨by omega, by omega⟩ | exact ⟨by omega, by omega, by omega⟩ | exact ⟨by omega, by omega, by omega, by omega⟩ | omega | exact inR_to _ | assumption | decide)).trans ?_
      by_cases h0 : k < 0
      · rw [if_pos h0]
      · rw [if_neg h0]
        by_cases h1 : k < S.F 13 1
        · rw [if_pos h1]
          refine (gd_t (by first | exact ⟨by omega, by omega⟩ | exact ⟨by omega, by omega, by omega⟩ | exact ⟨by omega, by omega, by omega, by omega⟩ | omega | exact inR_to _ | assumption | decide)).trans ?_
          by_cases h2 : m < 0
          · rw [if_pos h2]
          · rw [if_neg h2, if_neg (by omega)]
        · rw [if_neg h1]
    refine ⟨1, S.ho, 0, S.ho.f 36 0 1, ?_, ?_, by decide, by decide, show (eI 1).toInt = 1 by decide, fun h0 => absurd h0 (by decide), h.hole.code 1, hr.hole.code 1⟩
    · unfold g169
      rw [e1]
      rfl
    · show g155 S.ho k m = _
      unfold g155
      have f1 : S.ho.F 36 9 = S.F 13 1 := n3
      rw [f1]
      refine (gd_t (by first | exact ⟨by omega, by omega⟩ | exact ⟨by omega, by omega, by omega⟩ | exact ⟨by omega, by omega, by omega, by omega⟩ | omega | exact inR_to _ | assumption | decide)).trans ?_
      by_cases h0 : k < 0
      · rw [if_pos h0]
      · rw [if_neg h0]
        by_cases h1 : k < S.F 13 1
        · rw [if_pos h1]
          refine (gd_t (by first | exact ⟨by omega, by omega⟩ | exact ⟨by omega, by omega, by omega⟩ | exact ⟨by omega, by omega, by omega, by omega⟩ | omega | exact inR_to _ | assumption | decide)).trans ?_
          by_cases h2 : m < 0
          · rw [if_pos h2]
          · rw [if_neg h2, if_neg (by omega)]
        · rw [if_neg h1]
