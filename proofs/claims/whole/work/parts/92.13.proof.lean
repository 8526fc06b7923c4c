/-! proof: the ancestors of the empty clause -/
theorem g16_t {S : St} {x : Int} (hx : inR x) (h0 : S.F 13 1 ≤ 100) (hc : x = -1 ∨ (0 ≤ x ∧ x < S.F 13 1)) : g16 S x = some (if x = -1 then S else S.a 27 x 1) := by
  unfold g16
  refine (gd_t (by first | exact ⟨by omega, by omega⟩ | exact ⟨by omega, by omega, by omega⟩ | exact ⟨by omega, by omega, by omega, by omega⟩ | omega | exact inR_to _ | assumption | decide)).trans ?_
  rcases hc with e | ⟨e1, e2⟩
  · rw [if_pos (by omega), if_pos e]
  · rw [if_neg (by omega), if_pos e2, if_neg (by omega)]
    refine (gd_t (by first | exact ⟨by omega, by omega⟩ | exact ⟨by omega, by omega, by omega⟩ | exact ⟨by omega, by omega, by omega, by omega⟩ | omega | exact inR_to _ | assumption | decide)).trans ?_
    rfl
/-- the marks of both, from k down -/
def PM (S T : St) (k : Int) : Prop := (∀ i : Int, 0 ≤ i → i ≤ k → S.A 27 i = T.A 70 i) ∧ ∀ i : Int, k < i → i < 100 → S.A 27 i = 0
set_option maxHeartbeats 1000000 in
theorem pr_L : ∀ (n m m' : Nat) (c k : Int) (S T : St), k + 1 = n → 0 ≤ S.F 13 1 → S.F 13 1 ≤ 100 → RK S → T.A 44 = S.A 44 → T.A 45 = S.A 45 → k < S.F 13 1 → PM S T k → 0 ≤ c → c + n ≤ 1000 → n < m → n < m' → ∃ d S' T', g15L27 m c k S = some (d, S') ∧ g156L58 m' c k T = some (d, T') ∧ Fr [27] S S' ∧ Fr [70] T T' ∧ (∀ i : Int, 0 ≤ i → i < 100 → S'.A 27 i = 0) ∧ inR d := by
  intro n
  induction n with
  | zero =>
    intro m m' c k S T hk h0 h1 hK e44 e45 hk1 hP hc hc2 hm hm'
    obtain ⟨m, rfl⟩ : ∃ k, m = k + 1 := ⟨m - 1, by omega⟩
    obtain ⟨m', rfl⟩ : ∃ k, m' = k + 1 := ⟨m' - 1, by omega⟩
    refine ⟨c, S, T, ?_, ?_, Fr.refl _ _, Fr.refl _ _, fun i i0 i1 => hP.2 i (by omega) i1, ⟨by omega, by omega⟩⟩
    · unfold g15L27
      refine (gd_t (by first | exact ⟨by omega, by omega⟩ | exact ⟨by omega, by omega, by omega⟩ | exact ⟨by omega, by omega, by omega, by omega⟩ | omega | exact inR_to _ | assumption | decide)).trans ?_
      exact if_pos (by omega)
    · unfold g156L58
      refine (gd_t (by first | exact ⟨by omega, by omega⟩ | exact ⟨by omega, by omega, by omega⟩ | exact ⟨by omega, by omega, by omega, by omega⟩ | omega | exact inR_to _ | assumption | decide)).trans ?_
      exact if_pos (by omega)
  | succ n ih =>
    intro m m' c k S T hk h0 h1 hK e44 e45 hk1 hP hc hc2 hm hm'
    obtain ⟨m, rfl⟩ : ∃ k, m = k + 1 := ⟨m - 1, by omega⟩
    obtain ⟨m', rfl⟩ : ∃ k, m' = k + 1 := ⟨m' - 1, by omega⟩
    have hPk := hP.1 k (by omega) (by omega)
    by_cases hz : S.A 27 k = 0
    · obtain ⟨d, S', T', a1, a2, a3, a4, a5, a6⟩ := ih m m' c (k + (-1)) S T (by omega) h0 h1 hK e44 e45 (by omega) ⟨fun i i0 i1 => hP.1 i i0 (by omega), fun i i0 i1 => by
        by_cases e : i = k
        · rw [e]; exact hz
        · exact hP.2 i (by omega) i1⟩ hc (by omega) (by omega) (by omega)
      refine ⟨d, S', T', ?_, ?_, a3, a4, a5, a6⟩
      · unfold g15L27
        refine (gd_t (by first | exact ⟨by omega, by omega⟩ | exact ⟨by omega, by omega, by omega⟩ | exact ⟨by omega, by omega, by omega, by omega⟩ | omega | exact inR_to _ | assumption | decide)).trans ?_
        rw [if_neg (by omega)]
        refine (gd_t (by first | exact ⟨by omega, by omega⟩ | exact ⟨by omega, by omega, by omega⟩ | exact ⟨by omega, by omega, by omega, by omega⟩ | omega | exact inR_to _ | assumption | decide)).trans ?_
        rw [if_pos hz]
        exact a1
      · unfold g156L58
        refine (gd_t (by first | exact ⟨by omega, by omega⟩ | exact ⟨by omega, by omega, by omega⟩ | exact ⟨by omega, by omega, by omega, by omega⟩ | omega | exact inR_to _ | assumption | decide)).trans ?_
        rw [if_neg (by omega)]
        refine (gd_t (by first | exact ⟨by omega, by omega⟩ | exact ⟨by omega, by omega, by omega⟩ | exact ⟨by omega, by omega, by omega, by omega⟩ | omega | exact inR_to _ | assumption | decide)).trans ?_
        rw [if_pos (by rw [← hPk]; exact hz)]
        exact a2
    · obtain ⟨a, cc, x0, x1, x2, x3, x4, x5, nn, o, u, r1, r2, r3, r4, r5, r6, r7, r8, r9, r10, r11, r12, r13, r14, r15, r16⟩ := hK k (by omega) hk1
      have e3 : S.cl a = some (.ob 9 [cc] [x0, x1, x2, x3, x4, x5]) := (cl_tl r2).trans r3
      have e3' : ∀ U : St, U.tl = S.tl → U.cl a = some (.ob 9 [cc] [x0, x1, x2, x3, x4, x5]) := fun U hU => by rw [cl_tl r2, hU]; exact r3
      -- the first
      have cls : ∀ (S2 S3 : St), g16 (S.a 27 k 0) x2.toInt = some S2 → S2.tl = S.tl → S2.R = S.R → g16 S2 x4.toInt = some S3 → g15L27 (m + 1) c k S = g15L27 m (c + 1) (k + (-1)) S3 := by
        intro S2 S3 q1 q2 q3 q4
        conv => lhs; unfold g15L27
        refine (gd_t (by first | exact ⟨by omega, by omega⟩ | exact ⟨by omega, by omega, by omega⟩ | exact ⟨by omega, by omega, by omega, by omega⟩ | omega | exact inR_to _ | assumption | decide)).trans ?_
        rw [if_neg (by omega)]
        refine (gd_t (by first | exact ⟨by omega, by omega⟩ | exact ⟨by omega, by omega, by omega⟩ | exact ⟨by omega, by omega, by omega, by omega⟩ | omega | exact inR_to _ | assumption | decide)).trans ?_
        rw [if_neg hz]
        refine (ob_t (show (S.a 27 k 0).R 14 k = some a from r1)).trans ?_
        refine (gK_t (e3' (S.a 27 k 0) rfl)).trans ?_
        refine (ob_t q1).trans ?_
        refine (ob_t (show S2.R 14 k = some a by rw [q3]; exact r1)).trans ?_
        refine (gK_t (e3' S2 q2)).trans ?_
        exact ob_t q4
      have hz2 : ¬ T.A 70 k = 0 := by rw [← hPk]; exact hz
      have ek : (S.a 27 k 0).F 13 1 = S.F 13 1 := rfl
      rcases r16 with ⟨y1, y2, y4⟩ | ⟨y1, y1', y2, y2', y4, y4'⟩
      · have q1 : g16 (S.a 27 k 0) x2.toInt = some (S.a 27 k 0) := by rw [g16_t (S := S.a 27 k 0) (inR_to _) h1 (Or.inl y2), if_pos y2]
        have q2 : g16 (S.a 27 k 0) x4.toInt = some (S.a 27 k 0) := by rw [g16_t (S := S.a 27 k 0) (inR_to _) h1 (Or.inl y4), if_pos y4]
        obtain ⟨d, S', T', a1, a2, a3, a4, a5, a6⟩ := ih m m' (c + 1) (k + (-1)) (S.a 27 k 0) T (by omega) h0 h1 hK e44 e45 (show k + (-1) < S.F 13 1 by omega) ⟨fun i i0 i1 => by
          rw [a_A (by decide), if_pos rfl, if_neg (by omega)]
          exact hP.1 i i0 (by omega), fun i i0 i1 => by
          rw [a_A (by decide), if_pos rfl]
          by_cases e : i = k
          · rw [if_pos e]
          · rw [if_neg e]; exact hP.2 i (by omega) i1⟩ (by omega) (by omega) (by omega) (by omega)
        refine ⟨d, S', T', (cls _ _ q1 rfl rfl q2).trans a1, ?_, (Fr.a (by decide)).trans a3, a4, a5, a6⟩
        unfold g156L58
        refine (gd_t (by first | exact ⟨by omega, by omega⟩ | exact ⟨by omega, by omega, by omega⟩ | exact ⟨by omega, by omega, by omega, by omega⟩ | omega | exact inR_to _ | assumption | decide)).trans ?_
        rw [if_neg (by omega)]
        refine (gd_t (by first | exact ⟨by omega, by omega⟩ | exact ⟨by omega, by omega, by omega⟩ | exact ⟨by omega, by omega, by omega, by omega⟩ | omega | exact inR_to _ | assumption | decide)).trans ?_
        rw [if_neg hz2, if_neg (by rw [e44, r11, y1]; omega)]
        exact a2
      · have q1 : g16 (S.a 27 k 0) x2.toInt = some ((S.a 27 k 0).a 27 x2.toInt 1) := by rw [g16_t (S := S.a 27 k 0) (inR_to _) h1 (Or.inr ⟨y2, by show x2.toInt < S.F 13 1; omega⟩), if_neg (by omega)]
        have q2 : g16 ((S.a 27 k 0).a 27 x2.toInt 1) x4.toInt = some (((S.a 27 k 0).a 27 x2.toInt 1).a 27 x4.toInt 1) := by rw [g16_t (S := (S.a 27 k 0).a 27 x2.toInt 1) (inR_to _) h1 (Or.inr ⟨y4, by show x4.toInt < S.F 13 1; omega⟩), if_neg (by omega)]
        obtain ⟨d, S', T', a1, a2, a3, a4, a5, a6⟩ := ih m m' (c + 1) (k + (-1)) (((S.a 27 k 0).a 27 x2.toInt 1).a 27 x4.toInt 1) ((T.a 70 x2.toInt 1).a 70 x4.toInt 1) (by omega) h0 h1 hK e44 e45 (show k + (-1) < S.F 13 1 by omega) ⟨fun i i0 i1 => by
          rw [a_A (by decide), if_pos rfl, a_A (by decide), if_pos rfl, a_A (by decide), if_pos rfl, a_A (by decide), if_pos rfl, a_A (by decide), if_pos rfl, if_neg (show ¬ i = k by omega), hP.1 i i0 (by omega)], fun i i0 i1 => by
          rw [a_A (by decide), if_pos rfl, a_A (by decide), if_pos rfl, a_A (by decide), if_pos rfl, if_neg (by omega), if_neg (by omega)]
          by_cases e : i = k
          · rw [if_pos e]
          · rw [if_neg e]; exact hP.2 i (by omega) i1⟩ (by omega) (by omega) (by omega) (by omega)
        refine ⟨d, S', T', (cls _ _ q1 rfl rfl q2).trans a1, ?_, (((Fr.a (by decide)).trans (Fr.a (by decide))).trans (Fr.a (by decide))).trans a3, ((Fr.a (by decide)).trans (Fr.a (by decide))).trans a4, a5, a6⟩
        unfold g156L58
        refine (gd_t (by first | exact ⟨by omega, by omega⟩ | exact ⟨by omega, by omega, by omega⟩ | exact ⟨by omega, by omega, by omega, by omega⟩ | omega | exact inR_to _ | assumption | decide)).trans ?_
        rw [if_neg (by omega)]
        refine (gd_t (by first | exact ⟨by omega, by omega⟩ | exact ⟨by omega, by omega, by omega⟩ | exact ⟨by omega, by omega, by omega, by omega⟩ | omega | exact inR_to _ | assumption | decide)).trans ?_
        rw [if_neg hz2, if_pos (by rw [e44, r11]; exact y1), e45, r12, r14]
        refine (gd_t (by first | exact ⟨by omega, by omega⟩ | exact ⟨by omega, by omega, by omega⟩ | exact ⟨by omega, by omega, by omega, by omega⟩ | omega | exact inR_to _ | assumption | decide)).trans ?_; refine (gd_t (by first | exact ⟨by omega, by omega⟩ | exact ⟨by omega, by omega, by omega⟩ | exact ⟨by omega, by omega, by omega, by omega⟩ | omega | exact inR_to _ | assumption | decide)).trans ?_; refine (gd_t (by first | exact ⟨by omega, by omega⟩ | exact ⟨by omega, by omega, by omega⟩ | exact ⟨by omega, by omega, by omega, by omega⟩ | omega | exact inR_to _ | assumption | decide)).trans ?_; refine (gd_t (by first | exact ⟨by omega, by omega⟩ | exact ⟨by omega, by omega, by omega⟩ | exact ⟨by omega, by omega, by omega, by omega⟩ | omega | exact inR_to _ | assumption | decide)).trans ?_
        exact a2
theorem g156L18_t {v1 : Int} : ∀ (n m : Nat) (i : Int) (S : St), 0 ≤ i → i + n = S.F 36 9 → S.F 36 9 ≤ 100 → n < m → ∃ T, g156L18 v1 m i S = some T ∧ Fr [70] S T ∧ ∀ k : Int, (i ≤ k → k < S.F 36 9 → T.A 70 k = if k = S.F 36 14 then 1 else 0) ∧ (k < i → T.A 70 k = S.A 70 k) := by
  intro n
  induction n with
  | zero =>
    intro m i S hi hk h1 hm
    obtain ⟨m, rfl⟩ : ∃ k, m = k + 1 := ⟨m - 1, by omega⟩
    refine ⟨S, ?_, Fr.refl _ _, fun k => ⟨fun a b => absurd a (by omega), fun _ => rfl⟩⟩
    unfold g156L18
    refine (gd_t (by first | exact ⟨by omega, by omega⟩ | exact ⟨by omega, by omega, by omega⟩ | exact ⟨by omega, by omega, by omega, by omega⟩ | omega | exact inR_to _ | assumption | decide)).trans ?_
    exact if_neg (by omega)
  | succ n ih =>
    intro m i S hi hk h1 hm
    obtain ⟨m, rfl⟩ : ∃ k, m = k + 1 := ⟨m - 1, by omega⟩
    have key : ∀ x : Int, inR x → x = (if i = S.F 36 14 then 1 else 0) → g156L18 v1 (m + 1) i S = g156L18 v1 m (i + 1) (S.a 70 i x) → ∃ T, g156L18 v1 (m + 1) i S = some T ∧ Fr [70] S T ∧ ∀ k : Int, (i ≤ k → k < S.F 36 9 → T.A 70 k = if k = S.F 36 14 then 1 else 0) ∧ (k < i → T.A 70 k = S.A 70 k) := by
      intro x hx ex e
      obtain ⟨T, t1, t2, t3⟩ := ih m (i + 1) (S.a 70 i x) (by omega) (show i + 1 + n = S.F 36 9 by omega) h1 (by omega)
      refine ⟨T, e.trans t1, (Fr.a (by decide)).trans t2, fun k => ⟨fun k0 k1 => ?_, fun k0 => ?_⟩⟩
      · by_cases ek : k = i
        · rw [(t3 k).2 (by omega), a_A hx, if_pos rfl, if_pos ek, ex, ek]
        · exact (t3 k).1 (by omega) k1
      · rw [(t3 k).2 (by omega), a_A hx, if_pos rfl, if_neg (by omega)]
    by_cases hc : i = S.F 36 14
    · refine key 1 (by decide) (if_pos hc).symm ?_
      conv => lhs; unfold g156L18
      refine (gd_t (by first | exact ⟨by omega, by omega⟩ | exact ⟨by omega, by omega, by omega⟩ | exact ⟨by omega, by omega, by omega, by omega⟩ | omega | exact inR_to _ | assumption | decide)).trans ?_
      rw [if_pos (by omega), if_pos hc]
      refine (gd_t (by first | exact ⟨by omega, by omega⟩ | exact ⟨by omega, by omega, by omega⟩ | exact ⟨by omega, by omega, by omega, by omega⟩ | omega | exact inR_to _ | assumption | decide)).trans ?_
      rfl
    · refine key 0 (by decide) (if_neg hc).symm ?_
      conv => lhs; unfold g156L18
      refine (gd_t (by first | exact ⟨by omega, by omega⟩ | exact ⟨by omega, by omega, by omega⟩ | exact ⟨by omega, by omega, by omega, by omega⟩ | omega | exact inR_to _ | assumption | decide)).trans ?_
      rw [if_pos (by omega), if_neg hc]
      refine (gd_t (by first | exact ⟨by omega, by omega⟩ | exact ⟨by omega, by omega, by omega⟩ | exact ⟨by omega, by omega, by omega, by omega⟩ | omega | exact inR_to _ | assumption | decide)).trans ?_
      rfl
/-- above the empty clause nothing is needed -/
theorem g156L58_up : ∀ (n m : Nat) (c k e : Int) (T : St), k = e + n → 0 ≤ e → k < 100 → (∀ i : Int, e < i → i ≤ k → T.A 70 i = 0) → n ≤ m → inR c → g156L58 m c k T = g156L58 (m - n) c e T := by
  intro n
  induction n with
  | zero => intro m c k e T hk he hk1 hz hm hc; rw [Nat.sub_zero, show k = e by omega]
  | succ n ih =>
    intro m c k e T hk he hk1 hz hm hc
    obtain ⟨m, rfl⟩ : ∃ k, m = k + 1 := ⟨m - 1, by omega⟩
    have e1 : g156L58 (m + 1) c k T = g156L58 m c (k + (-1)) T := by
      conv => lhs; unfold g156L58
      refine (gd_t (by first | exact ⟨by omega, by omega⟩ | exact ⟨by omega, by omega, by omega⟩ | exact ⟨by omega, by omega, by omega, by omega⟩ | omega | exact inR_to _ | assumption | decide)).trans ?_
      rw [if_neg (by omega)]
      refine (gd_t (by first | exact ⟨by omega, by omega⟩ | exact ⟨by omega, by omega, by omega⟩ | exact ⟨by omega, by omega, by omega, by omega⟩ | omega | exact inR_to _ | assumption | decide)).trans ?_
      rw [if_pos (hz k (by omega) (by omega))]
    rw [e1, ih m c (k + (-1)) e T (by omega) he (by omega) (fun i i0 i1 => hz i i0 (by omega)) (by omega) hc, show m + 1 - (n + 1) = m - n by omega]
theorem proof_ok {S : St} {j : Nat} (h : Rel S) (hr : Room j S) : ∃ x T U, g14 S = some (x, T) ∧ g156 T = some (x, U) ∧ inR x ∧ Rel U ∧ Room (j + 1) U := by
  have hx := h
  obtain ⟨h1, h2, h3, h4, h5, h6, h7, h8⟩ := h
  obtain ⟨b1, b2, b3, b4, b5, b6, b7, b8, b9, b10⟩ := h3
  obtain ⟨n1, n2, n3, n4, n5, n6, n7, n8, n9, n10⟩ := h2
  by_cases he : S.F 13 7 = -1
  · refine ⟨-1, S, S.f 36 0 0, ?_, ?_, by decide, hx.code 0, hr.next⟩
    · unfold g14 g15
      rw [if_pos he]
      rfl
    · unfold g156
      rw [if_pos (by omega)]
  · obtain ⟨e0, e1⟩ := b7.resolve_left he
    obtain ⟨m9, hm9⟩ := FU_ge (n := 2000) (by decide)
    have run : ∀ V : St, Fr [27] S V → ∃ T0 d S' T', g156L18 0 FU 0 (V.f 36 0 0) = some T0 ∧ Fr [70] (V.f 36 0 0) T0 ∧ (∀ i : Int, S.F 13 7 < i → i < S.F 13 1 → T0.A 70 i = 0) ∧ g15L27 FU 0 (S.F 13 7) (S.a 27 (S.F 13 7) 1) = some (d, S') ∧ g156L58 (FU - (S.F 13 1 - 1 - S.F 13 7).toNat) 0 (S.F 13 7) T0 = some (d, T') ∧ Fr [27] S S' ∧ Fr [70] T0 T' ∧ (∀ i : Int, 0 ≤ i → i < 100 → S'.A 27 i = 0) ∧ inR d := by
      intro V hV
      have v36 : V.F 36 = S.F 36 := hV.F (by decide)
      have w9 : (V.f 36 0 0).F 36 9 = S.F 36 9 := by show V.F 36 9 = _; rw [v36]
      have w14 : (V.f 36 0 0).F 36 14 = S.F 36 14 := by show V.F 36 14 = _; rw [v36]
      obtain ⟨T0, t1, t2, t3⟩ := g156L18_t (v1 := 0) (S.F 36 9).toNat FU 0 (V.f 36 0 0) (by omega) (by rw [w9]; omega) (by rw [w9]; omega) (by omega)
      rw [w9, w14] at t3
      have f44 : T0.A 44 = S.A 44 := (t2.A (by decide)).trans (hV.A (by decide))
      have f45 : T0.A 45 = S.A 45 := (t2.A (by decide)).trans (hV.A (by decide))
      obtain ⟨d, S', T', a1, a2, a3, a4, a5, a6⟩ := pr_L (S.F 13 7 + 1).toNat FU (FU - (S.F 13 1 - 1 - S.F 13 7).toNat) 0 (S.F 13 7) (S.a 27 (S.F 13 7) 1) T0 (by omega) b1 b2 h4 f44 f45 e1 ⟨fun i i0 i1 => by
        rw [a_A (by decide), if_pos rfl, (t3 i).1 i0 (by omega), n9, h8.2 i i0 (by omega)], fun i i0 i1 => by
        rw [a_A (by decide), if_pos rfl, if_neg (by omega)]
        exact h8.2 i (by omega) i1⟩ (by omega) (by omega) (by omega) (by omega)
      exact ⟨T0, d, S', T', t1, t2, fun i i0 i1 => by rw [(t3 i).1 (by omega) (by omega), if_neg (by omega)], a1, a2, (Fr.a (by decide)).trans a3, a4, a5, a6⟩
    obtain ⟨_, d, S', _, _, _, _, a1, _, a3, _, a5, a6⟩ := run S (Fr.refl _ _)
    obtain ⟨T0, d2, S2, T', t1, t2, tz, c1, c2, c3, c4, c5, c6⟩ := run S' a3
    rw [a1] at c1
    cases c1
    have v36 : S'.F 36 = S.F 36 := a3.F (by decide)
    have hS' : Rel S' := by
      have ht := a3.1
      have hF : ∀ c, c ∉ [27] → S'.F c = S.F c := fun c hc => a3.F hc
      have hA : ∀ c, c ∉ [27] → S'.A c = S.A c := fun c hc => a3.A hc
      have hR : ∀ c, c ∉ [27] → S'.R c = S.R c := fun c hc => (a3.2.2.2 c hc).2.2
      obtain ⟨k1, k2, k3, k4, k5, k6, k7, k8⟩ := hx
      unfold Rel RT RN RB RK RK1 RJ RL RO RX KM at *
      rw [ht, hF 0 (by decide), hF 1 (by decide), hF 13 (by decide), hF 28 (by decide), hF 36 (by decide), hA 2 (by decide), hA 25 (by decide), hA 29 (by decide), hA 37 (by decide), hA 38 (by decide), hA 39 (by decide), hA 40 (by decide), hA 41 (by decide), hA 42 (by decide), hA 43 (by decide), hA 44 (by decide), hA 45 (by decide), hA 69 (by decide), hR 14 (by decide), hR 35 (by decide)]
      exact ⟨k1, k2, k3, k4, k5, k6, k7, k8.1, a5⟩
    have fT : Fr [70] (S'.f 36 0 0) T' := t2.trans c4
    refine ⟨d, S', T', ?_, ?_, a6, (hS'.code 0).fr fT (by decide), (((hr.fr a3 (by decide) (by decide)).code 0).fr fT (by decide) (by decide)).next⟩
    · unfold g14 g15
      rw [if_neg he, gd_t (show ixR (S.F 13 7) 100 from ⟨e0, by omega, by omega⟩), a1]
      rfl
    · unfold g156
      rw [if_neg (by rw [v36]; omega), t1]
      show ob (g156L58 FU 0 (T0.F 36 9 - 1) T0) (fun o20 => some (o20.1, o20.2)) = _
      have f9 : T0.F 36 9 = S.F 13 1 := by
        have : T0.F 36 = (S'.f 36 0 0).F 36 := t2.F (by decide)
        rw [this]
        show S'.F 36 9 = _
        rw [v36, n3]
      rw [f9, g156L58_up (S.F 13 1 - 1 - S.F 13 7).toNat FU 0 (S.F 13 1 - 1) (S.F 13 7) T0 (by omega) e0 (by omega) (fun i i0 i1 => tz i i0 (by omega)) (by omega) (by decide), c2]
      rfl
