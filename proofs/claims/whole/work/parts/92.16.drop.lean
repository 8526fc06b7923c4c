/-- the mark of a kept clause is changed in both -/
theorem TX.st {t : List Cl} {i : Nat} {r : List Nat} {v : List Int32} {y : Cl} (h : t[i]? = some (.ob 9 r v)) : TX t (t.set i y) := by
  intro j x hj hx
  rw [List.getElem?_set]
  by_cases e : i = j
  · subst e
    rw [h] at hj
    cases hj
    exact absurd rfl (hx r v)
  · rw [if_neg e]
    exact hj
theorem X2.st {S T : St} {k s : Int} {a c : Nat} {x0 x1 x2 x3 x4 x5 : Int32} (h : X2 S T) (k0 : 0 ≤ k) (k1 : k < S.F 13 1) (r1 : S.R 14 k = some a) (r2 : 72 ≤ a) (r3 : S.tl[a - 72]? = some (.ob 9 [c] [x0, x1, x2, x3, x4, x5])) (s0 : 0 ≤ s) (s2 : s ≤ 2) : X2 (S.t a (.ob 9 [c] [eI s, x1, x2, x3, x4, x5])) (T.a 43 k s) := by
  have hs : inR s := ⟨by omega, by omega⟩
  obtain ⟨h1, h2, h3, h4, h5, h6⟩ := h
  have tx : TX S.tl (S.tl.set (a - 72) (.ob 9 [c] [eI s, x1, x2, x3, x4, x5])) := TX.st r3
  have hl := (List.getElem?_eq_some_iff.mp r3).1
  refine ⟨h1, h2, fun i i0 i1 => ?_, h4, fun i i0 i1 => ?_, h6⟩
  · have i1 : i < S.F 13 1 := i1
    obtain ⟨a', c', y0, y1, y2, y3, y4, y5, n, o, u, q1, q2, q3, q4, q5, q6, q7, q8, q9, q10, q11, q12, q13, q14, q15, q16⟩ := h3 i i0 i1
    by_cases e : i = k
    · subst e
      rw [r1] at q1
      cases q1
      rw [r3] at q3
      cases q3
      refine ⟨a, c, eI s, x1, x2, x3, x4, x5, n, o, u, r1, r2, ?_, q4.ext tx, q5, q6, q7, ?_, ?_, ?_, q11, q12, q13, q14, q15, q16⟩
      · show (S.tl.set (a - 72) _)[a - 72]? = _
        rw [List.getElem?_set_self hl]
      · rw [a_A hs, if_pos rfl, if_pos rfl, eI_to hs]
      · rw [eI_to hs]; exact s0
      · rw [eI_to hs]; exact s2
    · have ne : a - 72 ≠ a' - 72 := by
        intro e2
        have : a = a' := by omega
        subst this
        exact e (h4 i k i0 i1 k0 k1 (q1.trans r1.symm))
      refine ⟨a', c', y0, y1, y2, y3, y4, y5, n, o, u, q1, q2, ?_, q4.ext tx, q5, q6, q7, ?_, q9, q10, q11, q12, q13, q14, q15, q16⟩
      · show (S.tl.set (a - 72) _)[a' - 72]? = _
        rw [List.getElem?_set_ne ne]
        exact q3
      · rw [a_A hs, if_pos rfl, if_neg e]
        exact q8
  · obtain ⟨c', n, o, u, q1, q2, q3, q4, q5⟩ := h5 i i0 i1
    exact ⟨c', n, o, u, q1, q2.ext tx, q3, q4, q5⟩
theorem a_self (T : St) (c : Nat) (k : Int) : (T.a c k (T.A c k)).A c = T.A c := by
  rw [aA_up (St.A_R T c k)]
  funext i
  unfold upI
  by_cases e : i = k
  · rw [if_pos e, e]
  · rw [if_neg e]
theorem X2.self {S T : St} {k : Int} (h : X2 S T) : X2 S (T.a 43 k (T.A 43 k)) := by
  have e := a_self T 43 k
  unfold X2 XN XB XK XK1 XL KM at h ⊢
  rw [e]
  exact h
theorem cnt_c {f g : Int → Int} {x : Int} : ∀ n : Nat, (∀ i : Int, 0 ≤ i → i < n → (f i = x ↔ g i = x)) → cnt f x n = cnt g x n := by
  intro n
  induction n with
  | zero => intro _; rfl
  | succ n ih =>
    intro h
    unfold cnt
    rw [ih (fun i i0 i1 => h i i0 (by omega))]
    have := h n (by omega) (by omega)
    by_cases e : f n = x
    · rw [if_pos e, if_pos (this.mp e)]
    · rw [if_neg e, if_neg (fun e2 => e (this.mpr e2))]
theorem cnt_u {f : Int → Int} {k s : Int} : ∀ n : Nat, 0 ≤ k → k < n → f k = 0 → s ≠ 0 → cnt (upI f k s) 0 n + 1 = cnt f 0 n := by
  intro n
  induction n with
  | zero => intro k0 k1; omega
  | succ n ih =>
    intro k0 k1 e s0
    unfold cnt
    by_cases hk : k = n
    · have e1 : upI f k s n = s := if_pos hk.symm
      have e2 : cnt (upI f k s) 0 n = cnt f 0 n := cnt_c n (fun i i0 i1 => by
        have : upI f k s i = f i := if_neg (by omega)
        rw [this])
      rw [e1, if_neg s0, e2, if_pos (by rw [← hk]; exact e)]
      omega
    · have e1 : upI f k s n = f n := if_neg (fun e => hk e.symm)
      rw [e1]
      have := ih k0 (by omega) e s0
      omega
/-- a step's frame: fields of the search and the marks' cells apart, nothing is touched -/
def FD (S S' : St) : Prop := (S'.O = S.O ∧ ∀ c, c ∉ [24, 25, 26] → S'.F0 c = S.F0 c ∧ S'.A0 c = S.A0 c ∧ S'.R c = S.R c) ∧ S'.tl.length = S.tl.length ∧ S'.ns = S.ns
theorem FD.refl (S : St) : FD S S := ⟨⟨rfl, fun _ _ => ⟨rfl, rfl, rfl⟩⟩, rfl, rfl⟩
theorem FD.trans {S T U : St} (h : FD S T) (g : FD T U) : FD S U := ⟨⟨g.1.1.trans h.1.1, fun c hc => ⟨(g.1.2 c hc).1.trans (h.1.2 c hc).1, (g.1.2 c hc).2.1.trans (h.1.2 c hc).2.1, (g.1.2 c hc).2.2.trans (h.1.2 c hc).2.2⟩⟩, g.2.1.trans h.2.1, g.2.2.trans h.2.2⟩
theorem Fr.FD {S T : St} (h : Fr [24, 25, 26] S T) : FD S T := ⟨⟨h.2.2.1, h.2.2.2⟩, by rw [h.1], h.2.1⟩
theorem t_FD (S : St) (a : Nat) (x : Cl) : FD S (S.t a x) := ⟨⟨rfl, fun _ _ => ⟨rfl, rfl, rfl⟩⟩, List.length_set .., rfl⟩
theorem fr_FM2 {T U : St} (h : Fr [62, 63] T U) : FM T U := h.FM (by
  intro c hc
  unfold MC
  simp at hc
  omega)
theorem a_FM (T : St) {c : Nat} (hc : MC c) (i x : Int) : FM T (T.a c i x) := (Fr.a (X := [c]) (List.mem_singleton.mpr rfl)).FM (fun d hd => by
  rw [List.mem_singleton.mp hd]
  exact hc)
set_option maxHeartbeats 1000000 in
theorem drop_L {g : Int} : ∀ (r m m' : Nat) (i : Int) (S T : St), X2 S T → 0 ≤ g → g < S.F 13 1 → 0 ≤ i → i + r = S.F 13 1 → r < m → r < m' → ∃ S' T', g64L2 g m i S = some S' ∧ g137L77 g m' i T = some T' ∧ X2 S' T' ∧ FD S S' ∧ Fr [43, 62, 63] T T' ∧ (∀ k : Int, T.A 43 k ≠ 1 → T'.A 43 k = T.A 43 k) ∧ (∀ k : Int, T.A 43 k = 1 → T'.A 43 k = 1 ∨ T'.A 43 k = 2) := by
  intro r
  induction r with
  | zero =>
    intro m m' i S T h hg hg1 hi hr h1 h2
    obtain ⟨m, rfl⟩ : ∃ k, m = k + 1 := ⟨m - 1, by omega⟩
    obtain ⟨m', rfl⟩ : ∃ k, m' = k + 1 := ⟨m' - 1, by omega⟩
    have n9 : T.F 36 9 = S.F 13 1 := h.1.2.1
    have b2 := h.2.1.2.1
    refine ⟨S, T, ?_, ?_, h, FD.refl S, Fr.refl _ _, fun _ _ => rfl, fun _ e => Or.inl e⟩
    · unfold g64L2
      refine (gd_t (by first | exact ⟨by omega, by omega⟩ | exact ⟨by omega, by omega, by omega⟩ | exact ⟨by omega, by omega, by omega, by omega⟩ | omega | exact inR_to _ | assumption | decide)).trans ?_
      exact if_neg (by omega)
    · unfold g137L77
      refine (gd_t (by first | exact ⟨by omega, by omega⟩ | exact ⟨by omega, by omega, by omega⟩ | exact ⟨by omega, by omega, by omega, by omega⟩ | omega | exact inR_to _ | assumption | decide)).trans ?_
      exact if_neg (by omega)
  | succ r ih =>
    intro m m' i S T h hg hg1 hi hr h1 h2
    obtain ⟨m, rfl⟩ : ∃ k, m = k + 1 := ⟨m - 1, by omega⟩
    obtain ⟨m', rfl⟩ : ∃ k, m' = k + 1 := ⟨m' - 1, by omega⟩
    have n9 : T.F 36 9 = S.F 13 1 := h.1.2.1
    have b2 := h.2.1.2.1
    obtain ⟨a, c, x0, x1, x2, x3, x4, x5, nn, oo, uu, r1, r2, r3, r4, r5, r6, r7, r8, r9, r10, r11⟩ := h.2.2.1 i hi (by omega)
    obtain ⟨a', c', y0, y1, y2, y3, y4, y5, n, o, u, q1, q2, q3, q4, q5, q6, q7, q8, q9, q10, q11⟩ := h.2.2.1 g hg hg1
    by_cases hx : x0.toInt = 1
    · obtain ⟨V, v1, v2, v3⟩ := g54_t q4.KC r4.KC q6.1 r6.1 h.2.2.2.2.2.1
      obtain ⟨U, u1, u2⟩ := g130_t q5 r5 q6 r6
      have hV := (h.cov v2 v3).mf u2
      have f1 : V.F 13 1 = S.F 13 1 := by rw [v2.F (by decide)]
      have f2 : U.A 43 = T.A 43 := u2.A (by decide)
      have g1 : V.R 14 i = some a := by rw [(v2.2.2.2 14 (by decide)).2.2]; exact r1
      have g2 : V.tl[a - 72]? = some (.ob 9 [c] [x0, x1, x2, x3, x4, x5]) := by rw [v2.1]; exact r3
      have e1 : g64L2 g (m + 1) i S = (if (if sub n nn o u oo uu = true then (1 : Int) else 0) = 0 then g64L2 g m (i + 1) V else g64L2 g m (i + 1) (V.t a (.ob 9 [c] [eI 2, x1, x2, x3, x4, x5]))) := by
        conv => lhs; unfold g64L2
        refine (gd_t (by first | exact ⟨by omega, by omega⟩ | exact ⟨by omega, by omega, by omega⟩ | exact ⟨by omega, by omega, by omega, by omega⟩ | omega | exact inR_to _ | assumption | decide)).trans ?_
        rw [if_pos (by omega)]
        refine (gd_t (by first | exact ⟨by omega, by omega⟩ | exact ⟨by omega, by omega, by omega⟩ | exact ⟨by omega, by omega, by omega, by omega⟩ | omega | exact inR_to _ | assumption | decide)).trans ?_
        refine (ob_t r1).trans ?_
        refine (gK_t ((cl_tl r2).trans r3)).trans ?_
        refine (if_pos hx).trans ?_
        refine (gd_t (by first | exact ⟨by omega, by omega⟩ | exact ⟨by omega, by omega, by omega⟩ | exact ⟨by omega, by omega, by omega, by omega⟩ | omega | exact inR_to _ | assumption | decide)).trans ?_
        refine (ob_t q1).trans ?_
        refine (gK_t ((cl_tl q2).trans q3)).trans ?_
        rw [v1]
        show gd (inR (if sub n nn o u oo uu = true then 1 else 0)) _ = _
        refine (gd_t (by split <;> decide)).trans ?_
        congr 1
        refine (ob_t g1).trans ?_
        refine (gK_t ((cl_tl r2).trans g2)).trans ?_
        refine (gd_t r2).trans ?_
        rw [eI_of, eI_of, eI_of, eI_of, eI_of]
      have e2 : g137L77 g (m' + 1) i T = (if (if sub n nn o u oo uu = true then (1 : Int) else 0) = 0 then g137L77 g m' (i + 1) (U.a 43 i (U.A 43 i)) else g137L77 g m' (i + 1) (U.a 43 i 2)) := by
        conv => lhs; unfold g137L77
        refine (gd_t (by first | exact ⟨by omega, by omega⟩ | exact ⟨by omega, by omega, by omega⟩ | exact ⟨by omega, by omega, by omega, by omega⟩ | omega | exact inR_to _ | assumption | decide)).trans ?_
        rw [if_pos (by omega)]
        refine (gd_t (by first | exact ⟨by omega, by omega⟩ | exact ⟨by omega, by omega, by omega⟩ | exact ⟨by omega, by omega, by omega, by omega⟩ | omega | exact inR_to _ | assumption | decide)).trans ?_
        refine (if_pos (by omega)).trans ?_
        rw [u1]
        show gd (inR (if sub n nn o u oo uu = true then 1 else 0)) _ = _
        refine (gd_t (by split <;> decide)).trans ?_
        rfl
      rw [e1, e2]
      cases sub n nn o u oo uu
      · obtain ⟨S', T', a1, a2, a3, a4, a5, a7, a8⟩ := ih m m' (i + 1) V (U.a 43 i (U.A 43 i)) hV.self hg (by omega) (by omega) (by omega) (by omega) (by omega)
        rw [a_self, f2] at a7 a8
        exact ⟨S', T', a1, a2, a3, v2.FD.trans a4, ((u2.mono (by decide)).trans (Fr.a (by decide))).trans a5, a7, a8⟩
      · have hS := hV.st hi (by omega) g1 r2 g2 (show (0 : Int) ≤ 2 by omega) (show (2 : Int) ≤ 2 by omega)
        obtain ⟨S', T', a1, a2, a3, a4, a5, a7, a8⟩ := ih m m' (i + 1) (V.t a (.ob 9 [c] [eI 2, x1, x2, x3, x4, x5])) (U.a 43 i 2) hS hg (show g < V.F 13 1 by omega) (by omega) (show i + 1 + r = V.F 13 1 by omega) (by omega) (by omega)
        rw [aA_up (by decide), f2] at a7 a8
        refine ⟨S', T', a1, a2, a3, (v2.FD.trans (t_FD _ _ _)).trans a4, ((u2.mono (by decide)).trans (Fr.a (by decide))).trans a5, fun k hk => ?_, fun k hk => ?_⟩
        · have ek : k ≠ i := fun e => hk (by rw [e, r8]; exact hx)
          have e3 : upI (T.A 43) i 2 k = T.A 43 k := if_neg ek
          have := a7 k
          rw [e3] at this
          exact this hk
        · by_cases ek : k = i
          · have e3 : upI (T.A 43) i 2 k = 2 := if_pos ek
            have := a7 k (by rw [e3]; decide)
            rw [e3] at this
            exact Or.inr this
          · have e3 : upI (T.A 43) i 2 k = T.A 43 k := if_neg ek
            have := a8 k
            rw [e3] at this
            exact this hk
    · have e1 : g64L2 g (m + 1) i S = g64L2 g m (i + 1) S := by
        conv => lhs; unfold g64L2
        refine (gd_t (by first | exact ⟨by omega, by omega⟩ | exact ⟨by omega, by omega, by omega⟩ | exact ⟨by omega, by omega, by omega, by omega⟩ | omega | exact inR_to _ | assumption | decide)).trans ?_
        rw [if_pos (by omega)]
        refine (gd_t (by first | exact ⟨by omega, by omega⟩ | exact ⟨by omega, by omega, by omega⟩ | exact ⟨by omega, by omega, by omega, by omega⟩ | omega | exact inR_to _ | assumption | decide)).trans ?_
        refine (ob_t r1).trans ?_
        refine (gK_t ((cl_tl r2).trans r3)).trans ?_
        exact if_neg hx
      have e2 : g137L77 g (m' + 1) i T = g137L77 g m' (i + 1) (T.a 43 i (T.A 43 i)) := by
        conv => lhs; unfold g137L77
        refine (gd_t (by first | exact ⟨by omega, by omega⟩ | exact ⟨by omega, by omega, by omega⟩ | exact ⟨by omega, by omega, by omega, by omega⟩ | omega | exact inR_to _ | assumption | decide)).trans ?_
        rw [if_pos (by omega)]
        refine (gd_t (by first | exact ⟨by omega, by omega⟩ | exact ⟨by omega, by omega, by omega⟩ | exact ⟨by omega, by omega, by omega, by omega⟩ | omega | exact inR_to _ | assumption | decide)).trans ?_
        exact if_neg (by omega)
      rw [e1, e2]
      obtain ⟨S', T', a1, a2, a3, a4, a5, a7, a8⟩ := ih m m' (i + 1) S (T.a 43 i (T.A 43 i)) h.self hg hg1 (by omega) (by omega) (by omega) (by omega)
      rw [a_self] at a7 a8
      exact ⟨S', T', a1, a2, a3, a4, (Fr.a (by decide)).trans a5, a7, a8⟩
