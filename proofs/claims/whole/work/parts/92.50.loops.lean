/-! factors of the given clause -/
theorem g65L25_t {g k n : Int} {c : Nat} {o u : Int → Int} (g0 : 0 ≤ g) (k0 : 0 ≤ k) (kn : k < n) (n4 : n ≤ 4) : ∀ (r m m' : Nat) (l : Int) (S T : St), X2 S T → CR S g c → KT S.tl c n o u → g < S.F 13 1 → 0 ≤ l → l + r = n → r < m → r < m' → ∃ S' T', g65L25 g c k m l S = some S' ∧ g137L150 g k m' l T = some T' ∧ TJ S T S' T' := by
  intro r
  induction r with
  | zero =>
    intro m m' l S T h hC hK g1 l0 hl hm hm'
    obtain ⟨m, rfl⟩ : ∃ k, m = k + 1 := ⟨m - 1, by omega⟩
    obtain ⟨m', rfl⟩ : ∃ k, m' = k + 1 := ⟨m' - 1, by omega⟩
    obtain ⟨o', u', r1, r2, r3, r4⟩ := CR_KT h g0 g1 hC hK
    obtain ⟨b, s', N', M, f, gg, x, w, c1, c2, c3, c4, c5, c6, c7, c8, c9, c10, c11⟩ := r1.KC
    refine ⟨S, T, ?_, ?_, TJ.refl h⟩
    · unfold g65L25
      refine (gC_t c1).trans ?_
      refine (gd_t (by first | exact ⟨by omega, by omega⟩ | exact ⟨by omega, by omega, by omega⟩ | exact ⟨by omega, by omega, by omega, by omega⟩ | omega | exact inR_to _ | assumption | decide)).trans ?_
      rw [if_neg (by omega)]
    · have := r2.2.1
      unfold g137L150
      refine (gd_t (by first | exact ⟨by omega, by omega⟩ | exact ⟨by omega, by omega, by omega⟩ | exact ⟨by omega, by omega, by omega, by omega⟩ | omega | exact inR_to _ | assumption | decide)).trans ?_
      refine (gd_t (by first | exact ⟨by omega, by omega⟩ | exact ⟨by omega, by omega, by omega⟩ | exact ⟨by omega, by omega, by omega, by omega⟩ | omega | exact inR_to _ | assumption | decide)).trans ?_
      rw [r2.2.2.1, if_neg (by omega)]
  | succ r ih =>
    intro m m' l S T h hC hK g1 l0 hl hm hm'
    obtain ⟨m, rfl⟩ : ∃ k, m = k + 1 := ⟨m - 1, by omega⟩
    obtain ⟨m', rfl⟩ : ∃ k, m' = k + 1 := ⟨m' - 1, by omega⟩
    obtain ⟨o', u', r1, r2, r3, r4⟩ := CR_KT h g0 g1 hC hK
    obtain ⟨b, s', N', M, f, gg, x, w, c1, c2, c3, c4, c5, c6, c7, c8, c9, c10, c11⟩ := r1.KC
    obtain ⟨y, y1, y2, y3⟩ := stop_sim h
    have g125 := r2.2.1
    have e1 : g65L25 g c k (m + 1) l S = if y = 0 then ob (g67_15 S c k l) (fun o33 => gd (inR o33.1) (if o33.1 = 0 then g65L25 g c k m (l + 1) o33.2 else ob (g49 o33.2 1 g k g l) (fun o37 => g65L25 g c k m (l + 1) o37))) else some S := by
      rw [g65L25]
      refine (gC_t c1).trans ?_
      refine (gd_t (by first | exact ⟨by omega, by omega⟩ | exact ⟨by omega, by omega, by omega⟩ | exact ⟨by omega, by omega, by omega, by omega⟩ | omega | exact inR_to _ | assumption | decide)).trans ?_
      rw [if_pos (by omega), y1]
      refine (ob_t rfl).trans ?_
      refine (gd_t (by rcases y3 with e | e <;> (rw [e]; decide))).trans ?_
      rfl
    have e2 : g137L150 g k (m' + 1) l T = if y = 0 then ob (g140 T g k l) (fun o47 => gd (inR o47.1) (if o47.1 = 0 then g137L150 g k m' (l + 1) o47.2 else ob (g118 o47.2 1 g k g l) (fun o51 => gd (inR o51.1) (if o51.1 = 0 then g137L150 g k m' (l + 1) o51.2 else g137L150 g k m' (l + 1) o51.2)))) else some T := by
      rw [g137L150]
      refine (gd_t (by first | exact ⟨by omega, by omega⟩ | exact ⟨by omega, by omega, by omega⟩ | exact ⟨by omega, by omega, by omega, by omega⟩ | omega | exact inR_to _ | assumption | decide)).trans ?_
      refine (gd_t (by first | exact ⟨by omega, by omega⟩ | exact ⟨by omega, by omega, by omega⟩ | exact ⟨by omega, by omega, by omega, by omega⟩ | omega | exact inR_to _ | assumption | decide)).trans ?_
      rw [r2.2.2.1, if_pos (by omega), y2]
      refine (ob_t rfl).trans ?_
      refine (gd_t (by rcases y3 with e | e <;> (rw [e]; decide))).trans ?_
      rfl
    rw [e1, e2]
    by_cases hy : y = 0
    · rw [if_pos hy, if_pos hy]
      obtain ⟨bb, S1, T1, d1, d2, d3⟩ := factor_sim (g := g) r1 r2 r3 r4 k0 kn l0 (by omega)
      rw [d1, d2]
      rcases d3.1 with hb | hb
      · subst hb
        have j0 := draw_0 h d3
        obtain ⟨S2, T2, q1, q2, q3⟩ := ih m m' (l + 1) S1 T1 j0.1 (j0.2.2.2.2.2.1 g c g0 g1 hC) (hK.ext j0.2.2.2.2.2.2.1) (by have := j0.2.2.2.1; omega) (by omega) (by omega) (by omega) (by omega)
        exact ⟨S2, T2, q1, q2, j0.trans q3⟩
      · subst hb
        obtain ⟨xx, S2, T2, t1, t2, t3, j1⟩ := draw_1 (k1 := 1) (k2 := g) (k3 := k) (k4 := g) (k5 := l) h d3 ⟨by decide, by decide, g0, g1, g0, g1⟩ ⟨by omega, by omega⟩ ⟨by omega, by omega⟩
        obtain ⟨S3, T3, q1, q2, q3⟩ := ih m m' (l + 1) S2 T2 j1.1 (j1.2.2.2.2.2.1 g c g0 g1 hC) (hK.ext j1.2.2.2.2.2.2.1) (by have := j1.2.2.2.1; omega) (by omega) (by omega) (by omega) (by omega)
        refine ⟨S3, T3, ?_, ?_, j1.trans q3⟩
        · refine (ob_t rfl).trans ?_
          show gd (inR 1) _ = _
          refine (gd_t (by first | exact ⟨by omega, by omega⟩ | exact ⟨by omega, by omega, by omega⟩ | exact ⟨by omega, by omega, by omega, by omega⟩ | omega | exact inR_to _ | assumption | decide)).trans ?_
          refine (if_neg (show ¬ (1 : Int) = 0 by decide)).trans ?_
          show ob (g49 S1 1 g k g l) _ = _
          rw [t1]
          exact q1
        · refine (ob_t rfl).trans ?_
          show gd (inR 1) _ = _
          refine (gd_t (by first | exact ⟨by omega, by omega⟩ | exact ⟨by omega, by omega, by omega⟩ | exact ⟨by omega, by omega, by omega, by omega⟩ | omega | exact inR_to _ | assumption | decide)).trans ?_
          refine (if_neg (show ¬ (1 : Int) = 0 by decide)).trans ?_
          show ob (g118 T1 1 g k g l) _ = _
          rw [t2]
          show gd (inR xx) _ = _
          refine (gd_t (by rcases t3 with e | e <;> (rw [e]; decide))).trans ?_
          show (if xx = 0 then g137L150 g k m' (l + 1) T2 else g137L150 g k m' (l + 1) T2) = _
          rw [q2]
          split <;> rfl
    · rw [if_neg hy, if_neg hy]
      exact ⟨S, T, rfl, rfl, TJ.refl h⟩
theorem g65L12_t {g n : Int} {c : Nat} {o u : Int → Int} (g0 : 0 ≤ g) (n4 : n ≤ 4) : ∀ (r m m' : Nat) (k : Int) (S T : St), X2 S T → CR S g c → KT S.tl c n o u → g < S.F 13 1 → 0 ≤ k → k + r = n → r < m → r < m' → ∃ S' T', g65L12 g c m k S = some S' ∧ g137L135 g m' k T = some T' ∧ TJ S T S' T' := by
  intro r
  induction r with
  | zero =>
    intro m m' k S T h hC hK g1 k0 hk hm hm'
    obtain ⟨m, rfl⟩ : ∃ k, m = k + 1 := ⟨m - 1, by omega⟩
    obtain ⟨m', rfl⟩ : ∃ k, m' = k + 1 := ⟨m' - 1, by omega⟩
    obtain ⟨o', u', r1, r2, r3, r4⟩ := CR_KT h g0 g1 hC hK
    obtain ⟨b, s', N', M, f, gg, x, w, c1, c2, c3, c4, c5, c6, c7, c8, c9, c10, c11⟩ := r1.KC
    refine ⟨S, T, ?_, ?_, TJ.refl h⟩
    · unfold g65L12
      refine (gC_t c1).trans ?_
      refine (gd_t (by first | exact ⟨by omega, by omega⟩ | exact ⟨by omega, by omega, by omega⟩ | exact ⟨by omega, by omega, by omega, by omega⟩ | omega | exact inR_to _ | assumption | decide)).trans ?_
      rw [if_neg (by omega)]
    · have := r2.2.1
      unfold g137L135
      refine (gd_t (by first | exact ⟨by omega, by omega⟩ | exact ⟨by omega, by omega, by omega⟩ | exact ⟨by omega, by omega, by omega, by omega⟩ | omega | exact inR_to _ | assumption | decide)).trans ?_
      refine (gd_t (by first | exact ⟨by omega, by omega⟩ | exact ⟨by omega, by omega, by omega⟩ | exact ⟨by omega, by omega, by omega, by omega⟩ | omega | exact inR_to _ | assumption | decide)).trans ?_
      rw [r2.2.2.1, if_neg (by omega)]
  | succ r ih =>
    intro m m' k S T h hC hK g1 k0 hk hm hm'
    obtain ⟨m, rfl⟩ : ∃ k, m = k + 1 := ⟨m - 1, by omega⟩
    obtain ⟨m', rfl⟩ : ∃ k, m' = k + 1 := ⟨m' - 1, by omega⟩
    obtain ⟨o', u', r1, r2, r3, r4⟩ := CR_KT h g0 g1 hC hK
    obtain ⟨b, s', N', M, f, gg, x, w, c1, c2, c3, c4, c5, c6, c7, c8, c9, c10, c11⟩ := r1.KC
    have g125 := r2.2.1
    obtain ⟨S1, T1, p1, p2, p3⟩ := g65L25_t (g := g) (k := k) (c := c) (n := n) (o := o) (u := u) g0 k0 (by omega) n4 (n - (k + 1)).toNat FU FU (k + 1) S T h hC hK g1 (by omega) (by omega) (FU_gt (by omega)) (FU_gt (by omega))
    obtain ⟨S2, T2, q1, q2, q3⟩ := ih m m' (k + 1) S1 T1 p3.1 (p3.2.2.2.2.2.1 g c g0 g1 hC) (hK.ext p3.2.2.2.2.2.2.1) (by have := p3.2.2.2.1; omega) (by omega) (by omega) (by omega) (by omega)
    refine ⟨S2, T2, ?_, ?_, p3.trans q3⟩
    · rw [g65L12]
      refine (gC_t c1).trans ?_
      refine (gd_t (by first | exact ⟨by omega, by omega⟩ | exact ⟨by omega, by omega, by omega⟩ | exact ⟨by omega, by omega, by omega, by omega⟩ | omega | exact inR_to _ | assumption | decide)).trans ?_
      rw [if_pos (by omega), p1]
      exact q1
    · rw [g137L135]
      refine (gd_t (by first | exact ⟨by omega, by omega⟩ | exact ⟨by omega, by omega, by omega⟩ | exact ⟨by omega, by omega, by omega, by omega⟩ | omega | exact inR_to _ | assumption | decide)).trans ?_
      refine (gd_t (by first | exact ⟨by omega, by omega⟩ | exact ⟨by omega, by omega, by omega⟩ | exact ⟨by omega, by omega, by omega, by omega⟩ | omega | exact inR_to _ | assumption | decide)).trans ?_
      rw [r2.2.2.1, if_pos (by omega), p2]
      exact q2
theorem factors_sim {g : Int} {S T : St} (g0 : 0 ≤ g) (h : X2 S T) (g1 : g < S.F 13 1) : ∃ S' T', g65 S g = some S' ∧ g137L135 g FU 0 T = some T' ∧ TJ S T S' T' := by
  obtain ⟨a, c, x0, x1, x2, x3, x4, x5, n, o, u, r1, r2, r3, r4, r5, r6, r7, r8⟩ := CR_ex h g0 g1
  have b2 := h.2.1.2.1
  obtain ⟨S', T', q1, q2, q3⟩ := g65L12_t (g := g) (c := c) (n := n) (o := o) (u := u) g0 r6.1.2.1 n.toNat FU FU 0 S T h r3 r4 g1 (by omega) (by have := r6.1.1; omega) (FU_gt (by have := r6.1.2.1; omega)) (FU_gt (by have := r6.1.2.1; omega))
  refine ⟨S', T', ?_, q2, q3⟩
  unfold g65
  refine (gd_t (by first | exact ⟨by omega, by omega⟩ | exact ⟨by omega, by omega, by omega⟩ | exact ⟨by omega, by omega, by omega, by omega⟩ | omega | exact inR_to _ | assumption | decide)).trans ?_
  refine (ob_t r1).trans ?_
  refine (gK_t r2).trans ?_
  rw [q1]
  rfl
/-! resolvents of the given clause with clause v -/
theorem g74L36_t {g v i n n2 : Int} {c d : Nat} {o u o2 u2 : Int → Int} (g0 : 0 ≤ g) (v0 : 0 ≤ v) (i0 : 0 ≤ i) (i1 : i < n) (n4 : n ≤ 4) (m0 : 0 ≤ n2) (m4 : n2 ≤ 4) : ∀ (r m m' : Nat) (l : Int) (S T : St), X2 S T → CR S g c → KT S.tl c n o u → g < S.F 13 1 → CR S v d → KT S.tl d n2 o2 u2 → v < S.F 13 1 → T.A 43 v = 1 → 0 ≤ l → l + r = n2 → r < m → r < m' → ∃ S' T', g74L36 g v c d i m l S = some S' ∧ TJ S T S' T' ∧ ((g66 S' = some 1 ∧ g137L231 g v m' (i * n2 + l) T = some T') ∨ ∃ m'', g137L231 g v m' (i * n2 + l) T = g137L231 g v m'' ((i + 1) * n2) T' ∧ m' ≤ m'' + r) := by
  intro r
  induction r with
  | zero =>
    intro m m' l S T h hC hK g1 hC2 hK2 v1 hv l0 hl hm hm'
    obtain ⟨m, rfl⟩ : ∃ k, m = k + 1 := ⟨m - 1, by omega⟩
    obtain ⟨o', u', r1, r2, r3, r4⟩ := CR_KT h v0 v1 hC2 hK2
    obtain ⟨b, s', N', M, f, gg, x, w, c1, c2, c3, c4, c5, c6, c7, c8, c9, c10, c11⟩ := r1.KC
    refine ⟨S, T, ?_, TJ.refl h, Or.inr ⟨m', ?_, by omega⟩⟩
    · unfold g74L36
      refine (gC_t c1).trans ?_
      refine (gd_t (by first | exact ⟨by omega, by omega⟩ | exact ⟨by omega, by omega, by omega⟩ | exact ⟨by omega, by omega, by omega, by omega⟩ | omega | exact inR_to _ | assumption | decide)).trans ?_
      rw [if_neg (by omega)]
    · rw [show i * n2 + l = (i + 1) * n2 by rw [Int.add_mul]; omega]
  | succ r ih =>
    intro m m' l S T h hC hK g1 hC2 hK2 v1 hv l0 hl hm hm'
    obtain ⟨m, rfl⟩ : ∃ k, m = k + 1 := ⟨m - 1, by omega⟩
    obtain ⟨m', rfl⟩ : ∃ k, m' = k + 1 := ⟨m' - 1, by omega⟩
    obtain ⟨oA, uA, a1, a2, a3, a4⟩ := CR_KT h g0 g1 hC hK
    obtain ⟨o', u', r1, r2, r3, r4⟩ := CR_KT h v0 v1 hC2 hK2
    obtain ⟨b, s', N', M, f, gg, x, w, c1, c2, c3, c4, c5, c6, c7, c8, c9, c10, c11⟩ := r1.KC
    obtain ⟨y, y1, y2, y3⟩ := stop_sim h
    have g125 := a2.2.1
    have v125 := r2.2.1
    have vb := h.2.1.2.1
    have hn : (n2 = 1 ∨ n2 = 2 ∨ n2 = 3 ∨ n2 = 4) := by omega
    have hnn : (n = 1 ∨ n = 2 ∨ n = 3 ∨ n = 4) := by omega
    have pos : 0 ≤ i * n2 + l ∧ i * n2 + l < n * n2 ∧ n * n2 ≤ 16 ∧ (i * n2 + l) / n2 = i ∧ (i * n2 + l) % n2 = l := by
      rcases hn with e | e | e | e <;> subst e <;> (rcases hnn with e | e | e | e <;> subst e <;> omega)
    have e1 : g74L36 g v c d i (m + 1) l S = if y = 0 then ob (g75_15 S c i d l) (fun o45 => gd (inR o45.1) (if o45.1 = 0 then g74L36 g v c d i m (l + 1) o45.2 else ob (g49 o45.2 2 g i v l) (fun o49 => g74L36 g v c d i m (l + 1) o49))) else some S := by
      rw [g74L36]
      refine (gC_t c1).trans ?_
      refine (gd_t (by first | exact ⟨by omega, by omega⟩ | exact ⟨by omega, by omega, by omega⟩ | exact ⟨by omega, by omega, by omega, by omega⟩ | omega | exact inR_to _ | assumption | decide)).trans ?_
      rw [if_pos (by omega), y1]
      refine (ob_t rfl).trans ?_
      refine (gd_t (by rcases y3 with e | e <;> (rw [e]; decide))).trans ?_
      rfl
    have e2 : g137L231 g v (m' + 1) (i * n2 + l) T = if y = 0 then ob (g146 T g i v l) (fun o86 => gd (inR o86.1) (if o86.1 = 0 then g137L231 g v m' (i * n2 + l + 1) o86.2 else gd (dvR (i * n2 + l) (o86.2.A 41 v)) (ob (g118 o86.2 2 g ((i * n2 + l) / (o86.2.A 41 v)) v ((i * n2 + l) % (o86.2.A 41 v))) (fun o91 => gd (inR o91.1) (if o91.1 = 0 then g137L231 g v m' (i * n2 + l + 1) o91.2 else g137L231 g v m' (i * n2 + l + 1) o91.2))))) else some T := by
      rw [g137L231]
      refine (gd_t (by first | exact ⟨by omega, by omega⟩ | exact ⟨by omega, by omega, by omega⟩ | exact ⟨by omega, by omega, by omega, by omega⟩ | omega | exact inR_to _ | assumption | decide)).trans ?_
      refine (gd_t (by first | exact ⟨by omega, by omega⟩ | exact ⟨by omega, by omega, by omega⟩ | exact ⟨by omega, by omega, by omega, by omega⟩ | omega | exact inR_to _ | assumption | decide)).trans ?_
      refine (gd_t (by first | exact ⟨by omega, by omega⟩ | exact ⟨by omega, by omega, by omega⟩ | exact ⟨by omega, by omega, by omega, by omega⟩ | omega | exact inR_to _ | assumption | decide)).trans ?_
      rw [a2.2.2.1, r2.2.2.1]
      refine (gd_t (by first | exact ⟨by omega, by omega⟩ | exact ⟨by omega, by omega, by omega⟩ | exact ⟨by omega, by omega, by omega, by omega⟩ | omega | exact inR_to _ | assumption | decide)).trans ?_
      rw [if_pos pos.2.1]
      refine (gd_t (by first | exact ⟨by omega, by omega⟩ | exact ⟨by omega, by omega, by omega⟩ | exact ⟨by omega, by omega, by omega, by omega⟩ | omega | exact inR_to _ | assumption | decide)).trans ?_
      rw [if_pos hv, y2]
      refine (ob_t rfl).trans ?_
      refine (gd_t (by rcases y3 with e | e <;> (rw [e]; decide))).trans ?_
      by_cases hy : y = 0
      · rw [if_pos hy, if_pos hy]
        refine (gd_t (by first | exact ⟨by omega, by omega⟩ | exact ⟨by omega, by omega, by omega⟩ | exact ⟨by omega, by omega, by omega, by omega⟩ | omega | exact inR_to _ | assumption | decide)).trans ?_
        rw [pos.2.2.2.1, pos.2.2.2.2]
      · rw [if_neg hy, if_neg hy]
    rw [e1]
    by_cases hy : y = 0
    · rw [if_pos hy]
      rw [if_pos hy] at e2
      obtain ⟨bb, S1, T1, d1, d2, d3⟩ := resolve_sim (g := g) (g2 := v) a1 a2 a3 a4 r1 r2 r3 r4 i0 i1 l0 (by omega)
      rw [d1]
      rw [d2] at e2
      rcases d3.1 with hb | hb
      · subst hb
        have j0 := draw_0 h d3
        obtain ⟨S2, T2, q1, q2, q3⟩ := ih m m' (l + 1) S1 T1 j0.1 (j0.2.2.2.2.2.1 g c g0 g1 hC) (hK.ext j0.2.2.2.2.2.2.1) (by have := j0.2.2.2.1; omega) (j0.2.2.2.2.2.1 v d v0 v1 hC2) (hK2.ext j0.2.2.2.2.2.2.1) (by have := j0.2.2.2.1; omega) ((j0.2.2.2.2.2.2.2.1 v v1).trans hv) (by omega) (by omega) (by omega) (by omega)
        have e2 : g137L231 g v (m' + 1) (i * n2 + l) T = g137L231 g v m' (i * n2 + (l + 1)) T1 := by rw [← Int.add_assoc]; exact e2
        refine ⟨S2, T2, q1, j0.trans q2, ?_⟩
        rcases q3 with ⟨p1, p2⟩ | ⟨m'', p1, p2⟩
        · exact Or.inl ⟨p1, e2.trans p2⟩
        · exact Or.inr ⟨m'', e2.trans p1, by omega⟩
      · subst hb
        obtain ⟨xx, S2, T2, t1, t2, t3, j1⟩ := draw_1 (k1 := 2) (k2 := g) (k3 := i) (k4 := v) (k5 := l) h d3 ⟨by decide, by decide, g0, g1, v0, v1⟩ ⟨by omega, by omega⟩ ⟨by omega, by omega⟩
        obtain ⟨S3, T3, q1, q2, q3⟩ := ih m m' (l + 1) S2 T2 j1.1 (j1.2.2.2.2.2.1 g c g0 g1 hC) (hK.ext j1.2.2.2.2.2.2.1) (by have := j1.2.2.2.1; omega) (j1.2.2.2.2.2.1 v d v0 v1 hC2) (hK2.ext j1.2.2.2.2.2.2.1) (by have := j1.2.2.2.1; omega) ((j1.2.2.2.2.2.2.2.1 v v1).trans hv) (by omega) (by omega) (by omega) (by omega)
        have e41 : T1.A 41 v = n2 := by rw [d3.2.2.1.A (by decide)]; exact r2.2.2.1
        have e2 : g137L231 g v (m' + 1) (i * n2 + l) T = g137L231 g v m' (i * n2 + (l + 1)) T2 := by
          rw [e2]
          refine (ob_t rfl).trans ?_
          show gd (inR 1) _ = _
          refine (gd_t (by first | exact ⟨by omega, by omega⟩ | exact ⟨by omega, by omega, by omega⟩ | exact ⟨by omega, by omega, by omega, by omega⟩ | omega | exact inR_to _ | assumption | decide)).trans ?_
          refine (if_neg (show ¬ (1 : Int) = 0 by decide)).trans ?_
          show gd (dvR (i * n2 + l) (T1.A 41 v)) (ob (g118 T1 2 g ((i * n2 + l) / (T1.A 41 v)) v ((i * n2 + l) % (T1.A 41 v))) _) = _
          rw [e41, pos.2.2.2.1, pos.2.2.2.2, t2]
          refine (gd_t (by first | exact ⟨by omega, by omega⟩ | exact ⟨by omega, by omega, by omega⟩ | exact ⟨by omega, by omega, by omega, by omega⟩ | omega | exact inR_to _ | assumption | decide)).trans ?_
          show gd (inR xx) _ = _
          refine (gd_t (by rcases t3 with e | e <;> (rw [e]; decide))).trans ?_
          rw [← Int.add_assoc]
          show (if xx = 0 then g137L231 g v m' (i * n2 + l + 1) T2 else g137L231 g v m' (i * n2 + l + 1) T2) = _
          split <;> rfl
        refine ⟨S3, T3, ?_, j1.trans q2, ?_⟩
        · refine (ob_t rfl).trans ?_
          show gd (inR 1) _ = _
          refine (gd_t (by first | exact ⟨by omega, by omega⟩ | exact ⟨by omega, by omega, by omega⟩ | exact ⟨by omega, by omega, by omega, by omega⟩ | omega | exact inR_to _ | assumption | decide)).trans ?_
          refine (if_neg (show ¬ (1 : Int) = 0 by decide)).trans ?_
          show ob (g49 S1 2 g i v l) _ = _
          rw [t1]
          exact q1
        · rcases q3 with ⟨p1, p2⟩ | ⟨m'', p1, p2⟩
          · exact Or.inl ⟨p1, e2.trans p2⟩
          · exact Or.inr ⟨m'', e2.trans p1, by omega⟩
    · rw [if_neg hy]
      rw [if_neg hy] at e2
      exact ⟨S, T, rfl, TJ.refl h, Or.inl ⟨by rw [y1, y3.resolve_left hy], e2⟩⟩
theorem g74_stop {g v n n2 : Int} {c d : Nat} {o u o2 u2 : Int → Int} {S : St} (hK : KT S.tl c n o u) (hK2 : KT S.tl d n2 o2 u2) (n4 : n ≤ 4) (m4 : n2 ≤ 4) (hs : g66 S = some 1) : ∀ (r m : Nat) (i : Int), 0 ≤ i → i + r = n → r < m → g74L24 g v c d m i S = some S := by
  obtain ⟨b, s', N', M, f, gg, x, w, c1, c2, c3, c4, c5, c6, c7, c8, c9, c10, c11⟩ := hK.KC
  obtain ⟨b', s2', N2', M2, f2, gg2, x2, w2, d1, d2, d3, d4, d5, d6, d7, d8, d9, d10, d11⟩ := hK2.KC
  intro r
  induction r with
  | zero =>
    intro m i i0 hi hm
    obtain ⟨m, rfl⟩ : ∃ k, m = k + 1 := ⟨m - 1, by omega⟩
    unfold g74L24
    refine (gC_t c1).trans ?_
    refine (gd_t (by first | exact ⟨by omega, by omega⟩ | exact ⟨by omega, by omega, by omega⟩ | exact ⟨by omega, by omega, by omega, by omega⟩ | omega | exact inR_to _ | assumption | decide)).trans ?_
    rw [if_neg (by omega)]
  | succ r ih =>
    intro m i i0 hi hm
    obtain ⟨m, rfl⟩ : ∃ k, m = k + 1 := ⟨m - 1, by omega⟩
    have e : g74L36 g v c d i FU 0 S = some S := by
      obtain ⟨q, hq⟩ := FU_ge (n := 0) (by decide)
      rw [hq, Nat.zero_add, g74L36]
      refine (gC_t d1).trans ?_
      refine (gd_t (by first | exact ⟨by omega, by omega⟩ | exact ⟨by omega, by omega, by omega⟩ | exact ⟨by omega, by omega, by omega, by omega⟩ | omega | exact inR_to _ | assumption | decide)).trans ?_
      by_cases h0 : 0 < x2.toInt
      · rw [if_pos h0, hs]
        rfl
      · rw [if_neg h0]
    rw [g74L24]
    refine (gC_t c1).trans ?_
    refine (gd_t (by first | exact ⟨by omega, by omega⟩ | exact ⟨by omega, by omega, by omega⟩ | exact ⟨by omega, by omega, by omega, by omega⟩ | omega | exact inR_to _ | assumption | decide)).trans ?_
    rw [if_pos (by omega), e]
    exact ih m (i + 1) (by omega) (by omega) (by omega)
theorem g74L24_t {g v n n2 : Int} {c d : Nat} {o u o2 u2 : Int → Int} (g0 : 0 ≤ g) (v0 : 0 ≤ v) (n4 : n ≤ 4) (m0 : 0 ≤ n2) (m4 : n2 ≤ 4) : ∀ (r m m' : Nat) (i : Int) (S T : St), X2 S T → CR S g c → KT S.tl c n o u → g < S.F 13 1 → CR S v d → KT S.tl d n2 o2 u2 → v < S.F 13 1 → T.A 43 v = 1 → 0 ≤ i → i + r = n → r < m → 5 * r < m' → ∃ S' T', g74L24 g v c d m i S = some S' ∧ g137L231 g v m' (i * n2) T = some T' ∧ TJ S T S' T' := by
  intro r
  induction r with
  | zero =>
    intro m m' i S T h hC hK g1 hC2 hK2 v1 hv i0 hi hm hm'
    obtain ⟨m, rfl⟩ : ∃ k, m = k + 1 := ⟨m - 1, by omega⟩
    obtain ⟨m', rfl⟩ : ∃ k, m' = k + 1 := ⟨m' - 1, by omega⟩
    obtain ⟨oA, uA, a1, a2, a3, a4⟩ := CR_KT h g0 g1 hC hK
    obtain ⟨o', u', r1, r2, r3, r4⟩ := CR_KT h v0 v1 hC2 hK2
    obtain ⟨b, s', N', M, f, gg, x, w, c1, c2, c3, c4, c5, c6, c7, c8, c9, c10, c11⟩ := a1.KC
    have g125 := a2.2.1
    have v125 := r2.2.1
    have e : i = n := by omega
    subst e
    have pos : 0 ≤ i * n2 ∧ i * n2 ≤ 16 := by
      have hn : (n2 = 0 ∨ n2 = 1 ∨ n2 = 2 ∨ n2 = 3 ∨ n2 = 4) := by omega
      rcases hn with e | e | e | e | e <;> subst e <;> omega
    refine ⟨S, T, ?_, ?_, TJ.refl h⟩
    · unfold g74L24
      refine (gC_t c1).trans ?_
      refine (gd_t (by first | exact ⟨by omega, by omega⟩ | exact ⟨by omega, by omega, by omega⟩ | exact ⟨by omega, by omega, by omega, by omega⟩ | omega | exact inR_to _ | assumption | decide)).trans ?_
      rw [if_neg (by omega)]
    · unfold g137L231
      refine (gd_t (by first | exact ⟨by omega, by omega⟩ | exact ⟨by omega, by omega, by omega⟩ | exact ⟨by omega, by omega, by omega, by omega⟩ | omega | exact inR_to _ | assumption | decide)).trans ?_
      refine (gd_t (by first | exact ⟨by omega, by omega⟩ | exact ⟨by omega, by omega, by omega⟩ | exact ⟨by omega, by omega, by omega, by omega⟩ | omega | exact inR_to _ | assumption | decide)).trans ?_
      refine (gd_t (by first | exact ⟨by omega, by omega⟩ | exact ⟨by omega, by omega, by omega⟩ | exact ⟨by omega, by omega, by omega, by omega⟩ | omega | exact inR_to _ | assumption | decide)).trans ?_
      rw [a2.2.2.1, r2.2.2.1]
      refine (gd_t (by first | exact ⟨by omega, by omega⟩ | exact ⟨by omega, by omega, by omega⟩ | exact ⟨by omega, by omega, by omega, by omega⟩ | omega | exact inR_to _ | assumption | decide)).trans ?_
      rw [if_neg (by omega)]
  | succ r ih =>
    intro m m' i S T h hC hK g1 hC2 hK2 v1 hv i0 hi hm hm'
    obtain ⟨m, rfl⟩ : ∃ k, m = k + 1 := ⟨m - 1, by omega⟩
    obtain ⟨oA, uA, a1, a2, a3, a4⟩ := CR_KT h g0 g1 hC hK
    obtain ⟨b, s', N', M, f, gg, x, w, c1, c2, c3, c4, c5, c6, c7, c8, c9, c10, c11⟩ := a1.KC
    obtain ⟨S1, T1, p1, p2, p3⟩ := g74L36_t (i := i) (o := o) (u := u) (o2 := o2) (u2 := u2) g0 v0 i0 (by omega) n4 m0 m4 n2.toNat FU m' 0 S T h hC hK g1 hC2 hK2 v1 hv (by omega) (by omega) (FU_gt (by omega)) (by omega)
    rw [Int.add_zero] at p3
    have k1 := hK.ext p2.2.2.2.2.2.2.1
    have k2 := hK2.ext p2.2.2.2.2.2.2.1
    have e1 : g74L24 g v c d (m + 1) i S = g74L24 g v c d m (i + 1) S1 := by
      rw [g74L24]
      refine (gC_t c1).trans ?_
      refine (gd_t (by first | exact ⟨by omega, by omega⟩ | exact ⟨by omega, by omega, by omega⟩ | exact ⟨by omega, by omega, by omega, by omega⟩ | omega | exact inR_to _ | assumption | decide)).trans ?_
      rw [if_pos (by omega), p1]
      rfl
    rcases p3 with ⟨s1, s2⟩ | ⟨m'', s1, s2⟩
    · exact ⟨S1, T1, e1.trans (g74_stop k1 k2 n4 m4 s1 r m (i + 1) (by omega) (by omega) (by omega)), s2, p2⟩
    · obtain ⟨S2, T2, q1, q2, q3⟩ := ih m m'' (i + 1) S1 T1 p2.1 (p2.2.2.2.2.2.1 g c g0 g1 hC) k1 (by have := p2.2.2.2.1; omega) (p2.2.2.2.2.2.1 v d v0 v1 hC2) k2 (by have := p2.2.2.2.1; omega) ((p2.2.2.2.2.2.2.2.1 v v1).trans hv) (by omega) (by omega) (by omega) (by omega)
      exact ⟨S2, T2, e1.trans q1, s1.trans q2, p2.trans q3⟩
/-! and with all of them -/
theorem g137L231_no {g v : Int} {T S : St} (h : X2 S T) (g0 : 0 ≤ g) (g1 : g < S.F 13 1) (v0 : 0 ≤ v) (v1 : v < S.F 13 1) (hv : T.A 43 v ≠ 1) : g137L231 g v FU 0 T = some T := by
  obtain ⟨a, c, x0, x1, x2, x3, x4, x5, n, o, u, r1, r2, r3, r4, r5, r6, r7, r8⟩ := CR_ex h g0 g1
  obtain ⟨a', c', y0, y1, y2, y3, y4, y5, n', o', u', s1, s2, s3, s4, s5, s6, s7, s8⟩ := CR_ex h v0 v1
  have b2 := h.2.1.2.1
  have hn : (n = 0 ∨ n = 1 ∨ n = 2 ∨ n = 3 ∨ n = 4) := by have := r6.1.1; have := r6.1.2.1; omega
  have hn' : 0 ≤ n' ∧ n' ≤ 4 := ⟨s6.1.1, s6.1.2.1⟩
  have pos : 0 ≤ n * n' ∧ n * n' ≤ 16 := by rcases hn with e | e | e | e | e <;> subst e <;> omega
  obtain ⟨q, hq⟩ := FU_ge (n := 0) (by decide)
  rw [hq, Nat.zero_add, g137L231]
  refine (gd_t (by first | exact ⟨by omega, by omega⟩ | exact ⟨by omega, by omega, by omega⟩ | exact ⟨by omega, by omega, by omega, by omega⟩ | omega | exact inR_to _ | assumption | decide)).trans ?_
  refine (gd_t (by first | exact ⟨by omega, by omega⟩ | exact ⟨by omega, by omega, by omega⟩ | exact ⟨by omega, by omega, by omega, by omega⟩ | omega | exact inR_to _ | assumption | decide)).trans ?_
  refine (gd_t (by first | exact ⟨by omega, by omega⟩ | exact ⟨by omega, by omega, by omega⟩ | exact ⟨by omega, by omega, by omega, by omega⟩ | omega | exact inR_to _ | assumption | decide)).trans ?_
  rw [r5.2.2.1, s5.2.2.1]
  refine (gd_t (by first | exact ⟨by omega, by omega⟩ | exact ⟨by omega, by omega, by omega⟩ | exact ⟨by omega, by omega, by omega, by omega⟩ | omega | exact inR_to _ | assumption | decide)).trans ?_
  by_cases h0 : 0 < n * n'
  · rw [if_pos h0]
    refine (gd_t (by first | exact ⟨by omega, by omega⟩ | exact ⟨by omega, by omega, by omega⟩ | exact ⟨by omega, by omega, by omega, by omega⟩ | omega | exact inR_to _ | assumption | decide)).trans ?_
    rw [if_neg hv]
  · rw [if_neg h0]
theorem g137L213_no {g : Int} {T S : St} (h : X2 S T) (g0 : 0 ≤ g) (g1 : g < S.F 13 1) : ∀ (r m : Nat) (v : Int), 0 ≤ v → v + r = S.F 13 1 → (∀ k : Int, v ≤ k → k < S.F 13 1 → T.A 43 k ≠ 1) → r < m → g137L213 g m v T = some T := by
  have n9 : T.F 36 9 = S.F 13 1 := h.1.2.1
  have b2 := h.2.1.2.1
  intro r
  induction r with
  | zero =>
    intro m v v0 hv hk hm
    obtain ⟨m, rfl⟩ : ∃ k, m = k + 1 := ⟨m - 1, by omega⟩
    unfold g137L213
    refine (gd_t (by first | exact ⟨by omega, by omega⟩ | exact ⟨by omega, by omega, by omega⟩ | exact ⟨by omega, by omega, by omega, by omega⟩ | omega | exact inR_to _ | assumption | decide)).trans ?_
    rw [if_neg (by omega)]
  | succ r ih =>
    intro m v v0 hv hk hm
    obtain ⟨m, rfl⟩ : ∃ k, m = k + 1 := ⟨m - 1, by omega⟩
    obtain ⟨y, y1, y2, y3⟩ := stop_sim h
    rw [g137L213]
    refine (gd_t (by first | exact ⟨by omega, by omega⟩ | exact ⟨by omega, by omega, by omega⟩ | exact ⟨by omega, by omega, by omega, by omega⟩ | omega | exact inR_to _ | assumption | decide)).trans ?_
    rw [if_pos (by omega), y2]
    refine (ob_t rfl).trans ?_
    refine (gd_t (by rcases y3 with e | e <;> (rw [e]; decide))).trans ?_
    by_cases hy : y = 0
    · rw [if_pos hy, g137L231_no h g0 g1 v0 (by omega) (hk v (by omega) (by omega))]
      exact ih m (v + 1) (by omega) (by omega) (fun k h1 h2 => hk k (by omega) h2) (by omega)
    · rw [if_neg hy]
theorem g61L85_t {g W n : Int} {c : Nat} {o u : Int → Int} (g0 : 0 ≤ g) (gW : g < W) : ∀ (r m m' : Nat) (v : Int) (S T : St), X2 S T → CR S g c → KT S.tl c n o u → W ≤ S.F 13 1 → (∀ k : Int, W ≤ k → k < S.F 13 1 → T.A 43 k = 0) → 0 ≤ v → v + r = W → r < m → r + 100 < m' → ∃ S' T', g61L85 g W m v S = some S' ∧ g137L213 g m' v T = some T' ∧ TJ S T S' T' := by
  intro r
  induction r with
  | zero =>
    intro m m' v S T h hC hK hW hz v0 hv hm hm'
    obtain ⟨m, rfl⟩ : ∃ k, m = k + 1 := ⟨m - 1, by omega⟩
    have b2 := h.2.1.2.1
    refine ⟨S, T, ?_, g137L213_no h g0 (by omega) (S.F 13 1 - v).toNat m' v v0 (by omega) (fun k h1 h2 => by rw [hz k (by omega) h2]; decide) (by omega), TJ.refl h⟩
    unfold g61L85
    refine (gd_t (by first | exact ⟨by omega, by omega⟩ | exact ⟨by omega, by omega, by omega⟩ | exact ⟨by omega, by omega, by omega, by omega⟩ | omega | exact inR_to _ | assumption | decide)).trans ?_
    refine (gd_t (by first | exact ⟨by omega, by omega⟩ | exact ⟨by omega, by omega, by omega⟩ | exact ⟨by omega, by omega, by omega, by omega⟩ | omega | exact inR_to _ | assumption | decide)).trans ?_
    rw [if_neg (by omega)]
  | succ r ih =>
    intro m m' v S T h hC hK hW hz v0 hv hm hm'
    obtain ⟨m, rfl⟩ : ∃ k, m = k + 1 := ⟨m - 1, by omega⟩
    obtain ⟨m', rfl⟩ : ∃ k, m' = k + 1 := ⟨m' - 1, by omega⟩
    have b2 := h.2.1.2.1
    have n9 : T.F 36 9 = S.F 13 1 := h.1.2.1
    obtain ⟨y, y1, y2, y3⟩ := stop_sim h
    obtain ⟨a', d, z0, z1, z2, z3, z4, z5, n', o', u', s1, s2, s3, s4, s5, s6, s7, s8⟩ := CR_ex h v0 (by omega)
    have e1 : g61L85 g W (m + 1) v S = if y = 0 then (if z0.toInt = 1 then ob (g74 S g v) (fun o49 => g61L85 g W m (v + 1) o49) else g61L85 g W m (v + 1) S) else some S := by
      rw [g61L85]
      refine (gd_t (by first | exact ⟨by omega, by omega⟩ | exact ⟨by omega, by omega, by omega⟩ | exact ⟨by omega, by omega, by omega, by omega⟩ | omega | exact inR_to _ | assumption | decide)).trans ?_
      refine (gd_t (by first | exact ⟨by omega, by omega⟩ | exact ⟨by omega, by omega, by omega⟩ | exact ⟨by omega, by omega, by omega, by omega⟩ | omega | exact inR_to _ | assumption | decide)).trans ?_
      rw [if_pos (by omega), y1]
      refine (ob_t rfl).trans ?_
      refine (gd_t (by rcases y3 with e | e <;> (rw [e]; decide))).trans ?_
      by_cases hy : y = 0
      · rw [if_pos hy, if_pos hy]
        refine (gd_t (by first | exact ⟨by omega, by omega⟩ | exact ⟨by omega, by omega, by omega⟩ | exact ⟨by omega, by omega, by omega, by omega⟩ | omega | exact inR_to _ | assumption | decide)).trans ?_
        refine (ob_t s1).trans ?_
        exact gK_t s2
      · rw [if_neg hy, if_neg hy]
    have e2 : g137L213 g (m' + 1) v T = if y = 0 then ob (g137L231 g v FU 0 T) (fun o95 => g137L213 g m' (v + 1) o95) else some T := by
      rw [g137L213]
      refine (gd_t (by first | exact ⟨by omega, by omega⟩ | exact ⟨by omega, by omega, by omega⟩ | exact ⟨by omega, by omega, by omega, by omega⟩ | omega | exact inR_to _ | assumption | decide)).trans ?_
      rw [if_pos (by omega), y2]
      refine (ob_t rfl).trans ?_
      refine (gd_t (by rcases y3 with e | e <;> (rw [e]; decide))).trans ?_
      rfl
    rw [e1, e2]
    by_cases hy : y = 0
    · rw [if_pos hy, if_pos hy]
      by_cases hz1 : z0.toInt = 1
      · rw [if_pos hz1]
        obtain ⟨oA, uA, a1, a2, a3, a4⟩ := CR_KT h g0 (by omega) hC hK
        have nn := a3.1.1
        have nn4 := a3.1.2.1
        obtain ⟨S1, T1, p1, p2, p3⟩ := g74L24_t (n2 := n') (o := o) (u := u) (o2 := o') (u2 := u') g0 v0 nn4 s6.1.1 s6.1.2.1 n.toNat FU FU 0 S T h hC hK (by omega) s3 s4 (by omega) (s8.trans hz1) (by omega) (by omega) (FU_gt (by omega)) (FU_gt (by omega))
        rw [Int.zero_mul] at p2
        obtain ⟨ag, cg, x0, x1, x2, x3, x4, x5, ng, og, ug, t1, t2, t3, t4, t5, t6, t7, t8⟩ := CR_ex h g0 (show g < S.F 13 1 by omega)
        have ecg : cg = c := by
          obtain ⟨b1, w1, q1, q2, q3⟩ := t3
          obtain ⟨b2, w2, q1', q2', q3'⟩ := hC
          rw [q1] at q1'
          cases q1'
          rw [q3] at q3'
          cases q3'
          rfl
        subst ecg
        have e74 : g74 S g v = some S1 := by
          unfold g74
          refine (gd_t (by first | exact ⟨by omega, by omega⟩ | exact ⟨by omega, by omega, by omega⟩ | exact ⟨by omega, by omega, by omega, by omega⟩ | omega | exact inR_to _ | assumption | decide)).trans ?_
          refine (ob_t t1).trans ?_
          refine (gK_t t2).trans ?_
          refine (gd_t (by first | exact ⟨by omega, by omega⟩ | exact ⟨by omega, by omega, by omega⟩ | exact ⟨by omega, by omega, by omega, by omega⟩ | omega | exact inR_to _ | assumption | decide)).trans ?_
          refine (ob_t s1).trans ?_
          refine (gK_t s2).trans ?_
          rw [p1]
          rfl
        rw [e74, p2]
        obtain ⟨S2, T2, q1, q2, q3⟩ := ih m m' (v + 1) S1 T1 p3.1 (p3.2.2.2.2.2.1 g cg g0 (by omega) hC) (hK.ext p3.2.2.2.2.2.2.1) (by have := p3.2.2.2.1; omega) (fun k h1 h2 => by
          by_cases h3 : k < S.F 13 1
          · rw [p3.2.2.2.2.2.2.2.1 k h3]; exact hz k h1 h3
          · exact p3.2.2.2.2.2.2.2.2.1 k (by omega) h2) (by omega) (by omega) (by omega) (by omega)
        exact ⟨S2, T2, q1, q2, p3.trans q3⟩
      · rw [if_neg hz1, g137L231_no h g0 (by omega) v0 (by omega) (by rw [s8]; exact hz1)]
        exact ih m m' (v + 1) S T h hC hK hW hz (by omega) (by omega) (by omega) (by omega)
    · rw [if_neg hy, if_neg hy]
      exact ⟨S, T, rfl, rfl, TJ.refl h⟩
