theorem choose_L {S T : St} {v : Int} (h : X2 S T) (hv : b1R v) : ∀ (r m m' : Nat) (b i : Int), 0 ≤ i → i + r = S.F 13 1 → (b = -1 ∨ (0 ≤ b ∧ b < S.F 13 1 ∧ T.A 43 b = 0)) → r < m → r < m' → ∃ d, g62L4 S v m b i = some d ∧ g138L20 T v m' b i = some d ∧ (d = -1 ∨ (0 ≤ d ∧ d < S.F 13 1 ∧ T.A 43 d = 0)) ∧ ((b ≠ -1 ∨ ∃ k : Int, i ≤ k ∧ k < S.F 13 1 ∧ T.A 43 k = 0) → d ≠ -1) := by
  have n9 : T.F 36 9 = S.F 13 1 := h.1.2.1
  have b2 := h.2.1.2.1
  have vR : inR v := by rcases hv with e | e <;> rw [e] <;> decide
  intro r
  induction r with
  | zero =>
    intro m m' b i hi hr hb h1 h2
    obtain ⟨m, rfl⟩ : ∃ k, m = k + 1 := ⟨m - 1, by omega⟩
    obtain ⟨m', rfl⟩ : ∃ k, m' = k + 1 := ⟨m' - 1, by omega⟩
    refine ⟨b, ?_, ?_, hb, fun hh => ?_⟩
    · unfold g62L4
      refine (gd_t (by first | exact ⟨by omega, by omega⟩ | exact ⟨by omega, by omega, by omega⟩ | exact ⟨by omega, by omega, by omega, by omega⟩ | omega | exact inR_to _ | assumption | decide)).trans ?_
      exact if_neg (by omega)
    · unfold g138L20
      refine (gd_t (by first | exact ⟨by omega, by omega⟩ | exact ⟨by omega, by omega, by omega⟩ | exact ⟨by omega, by omega, by omega, by omega⟩ | omega | exact inR_to _ | assumption | decide)).trans ?_
      exact if_neg (by omega)
    · rcases hh with e | ⟨k, k0, k1, _⟩
      · exact e
      · omega
  | succ r ih =>
    intro m m' b i hi hr hb h1 h2
    obtain ⟨m, rfl⟩ : ∃ k, m = k + 1 := ⟨m - 1, by omega⟩
    obtain ⟨m', rfl⟩ : ∃ k, m' = k + 1 := ⟨m' - 1, by omega⟩
    obtain ⟨a, c, x0, x1, x2, x3, x4, x5, nn, oo, uu, r1, r2, r3, r4, r5, r6, r7, r8, r9, r10, r11⟩ := h.2.2.1 i hi (by omega)
    have hbR : -1 ≤ b ∧ b < 100 := by rcases hb with e | e <;> omega
    -- both go on with the same number
    have fin : ∀ b2 : Int, (b2 = b ∧ (T.A 43 i = 0 → b ≠ -1) ∨ (b2 = i ∧ T.A 43 i = 0)) → g62L4 S v (m + 1) b i = g62L4 S v m b2 (i + 1) → g138L20 T v (m' + 1) b i = g138L20 T v m' b2 (i + 1) → ∃ d, g62L4 S v (m + 1) b i = some d ∧ g138L20 T v (m' + 1) b i = some d ∧ (d = -1 ∨ (0 ≤ d ∧ d < S.F 13 1 ∧ T.A 43 d = 0)) ∧ ((b ≠ -1 ∨ ∃ k : Int, i ≤ k ∧ k < S.F 13 1 ∧ T.A 43 k = 0) → d ≠ -1) := by
      intro b2 hb2 e1 e2
      have hb' : b2 = -1 ∨ (0 ≤ b2 ∧ b2 < S.F 13 1 ∧ T.A 43 b2 = 0) := by
        rcases hb2 with ⟨e, _⟩ | ⟨e, e0⟩
        · rw [e]; exact hb
        · rw [e]; exact Or.inr ⟨hi, by omega, e0⟩
      obtain ⟨d, d1, d2, d3, d4⟩ := ih m m' b2 (i + 1) (by omega) (by omega) hb' (by omega) (by omega)
      refine ⟨d, e1.trans d1, e2.trans d2, d3, fun hh => d4 ?_⟩
      rcases hb2 with ⟨e, e0⟩ | ⟨e, e0⟩
      · rcases hh with q | ⟨k, k0, k1, k2⟩
        · exact Or.inl (by rw [e]; exact q)
        · by_cases ek : k = i
          · exact Or.inl (by rw [e]; exact e0 (by rw [← ek]; exact k2))
          · exact Or.inr ⟨k, by omega, k1, k2⟩
      · exact Or.inl (by omega)
    have c0 : ∀ z, (if x0.toInt = 0 then gd (inR b) (if b = (-1) then g62L4 S v m i (i + 1) else gd (inR v) (if v = 0 then gC S c (fun c20 c21 n22 n23 => gd (ixR b 100) (ob (S.R 14 b) (fun c27 => gK S c27 (fun c29 n30 n31 n32 n33 n34 n35 => gC S c29 (fun c38 c39 n40 n41 => if n23 < n41 then g62L4 S v m i (i + 1) else g62L4 S v m b (i + 1)))))) else g62L4 S v m b (i + 1))) else g62L4 S v m b (i + 1)) = z → g62L4 S v (m + 1) b i = z := by
      intro z hz
      rw [← hz]
      conv => lhs; unfold g62L4
      refine (gd_t (by first | exact ⟨by omega, by omega⟩ | exact ⟨by omega, by omega, by omega⟩ | exact ⟨by omega, by omega, by omega, by omega⟩ | omega | exact inR_to _ | assumption | decide)).trans ?_
      rw [if_pos (by omega)]
      refine (gd_t (by first | exact ⟨by omega, by omega⟩ | exact ⟨by omega, by omega, by omega⟩ | exact ⟨by omega, by omega, by omega, by omega⟩ | omega | exact inR_to _ | assumption | decide)).trans ?_
      refine (ob_t r1).trans ?_
      exact gK_t ((cl_tl r2).trans r3)
    have m0 : ∀ z, (if b < 0 then (if (T.A 43 i) = 0 then g138L20 T v m' i (i + 1) else g138L20 T v m' b (i + 1)) else gd (inR v) (if v = 0 then gd (ixR i 125) (gd (ixR b 125) (if (T.A 42 i) < (T.A 42 b) then gd (ixR i 100) (if (T.A 43 i) = 0 then g138L20 T v m' i (i + 1) else g138L20 T v m' b (i + 1)) else gd (ixR i 100) (if (T.A 43 i) = 0 then g138L20 T v m' b (i + 1) else g138L20 T v m' b (i + 1)))) else gd (ixR i 100) (if (T.A 43 i) = 0 then g138L20 T v m' b (i + 1) else g138L20 T v m' b (i + 1)))) = z → g138L20 T v (m' + 1) b i = z := by
      intro z hz
      rw [← hz]
      conv => lhs; unfold g138L20
      refine (gd_t (by first | exact ⟨by omega, by omega⟩ | exact ⟨by omega, by omega, by omega⟩ | exact ⟨by omega, by omega, by omega, by omega⟩ | omega | exact inR_to _ | assumption | decide)).trans ?_
      rw [if_pos (by omega)]
      refine (gd_t (by first | exact ⟨by omega, by omega⟩ | exact ⟨by omega, by omega, by omega⟩ | exact ⟨by omega, by omega, by omega, by omega⟩ | omega | exact inR_to _ | assumption | decide)).trans ?_
      by_cases hb0 : b < 0
      · rw [if_pos hb0, if_pos hb0]
        refine (gd_t (by first | exact ⟨by omega, by omega⟩ | exact ⟨by omega, by omega, by omega⟩ | exact ⟨by omega, by omega, by omega, by omega⟩ | omega | exact inR_to _ | assumption | decide)).trans ?_
        rfl
      · rw [if_neg hb0, if_neg hb0]
    by_cases hx : x0.toInt = 0
    · rw [if_pos hx] at c0
      have hx2 : T.A 43 i = 0 := by rw [r8]; exact hx
      rw [hx2, if_pos rfl, if_pos rfl] at m0
      by_cases hb1 : b = -1
      · refine fin i (Or.inr ⟨rfl, hx2⟩) (c0 _ ?_) (m0 _ ?_)
        · refine (gd_t (by first | exact ⟨by omega, by omega⟩ | exact ⟨by omega, by omega, by omega⟩ | exact ⟨by omega, by omega, by omega, by omega⟩ | omega | exact inR_to _ | assumption | decide)).trans ?_
          exact if_pos hb1
        · exact if_pos (by omega)
      · obtain ⟨q0, q1, q2⟩ := hb.resolve_left hb1
        obtain ⟨a', c', y0, y1, y2, y3, y4, y5, n, o, u, s1, s2, s3, s4, s5, s6, s7, s8, s9⟩ := h.2.2.1 b q0 q1
        by_cases hv0 : v = 0
        · obtain ⟨k1, k2, k3, k4, k5, k6, k7, k8, l1, l2, l3, l4⟩ := r4.KC
          obtain ⟨j1, j2, j3, j4, j5, j6, j7, j8, p1, p2, p3, p4⟩ := s4.KC
          have w1 : T.A 42 i = k8.toInt := by rw [r5.2.2.2.1, l3]
          have w2 : T.A 42 b = j8.toInt := by rw [s5.2.2.2.1, p3]
          have e1 : g62L4 S v (m + 1) b i = if k8.toInt < j8.toInt then g62L4 S v m i (i + 1) else g62L4 S v m b (i + 1) := by
            refine c0 _ ?_
            refine (gd_t (by first | exact ⟨by omega, by omega⟩ | exact ⟨by omega, by omega, by omega⟩ | exact ⟨by omega, by omega, by omega, by omega⟩ | omega | exact inR_to _ | assumption | decide)).trans ?_
            rw [if_neg hb1]
            refine (gd_t vR).trans ?_
            rw [if_pos hv0]
            refine (gC_t l1).trans ?_
            refine (gd_t (by first | exact ⟨by omega, by omega⟩ | exact ⟨by omega, by omega, by omega⟩ | exact ⟨by omega, by omega, by omega, by omega⟩ | omega | exact inR_to _ | assumption | decide)).trans ?_
            refine (ob_t s1).trans ?_
            refine (gK_t ((cl_tl s2).trans s3)).trans ?_
            exact gC_t p1
          have e2 : g138L20 T v (m' + 1) b i = if k8.toInt < j8.toInt then g138L20 T v m' i (i + 1) else g138L20 T v m' b (i + 1) := by
            refine m0 _ ?_
            rw [if_neg (by omega)]
            refine (gd_t vR).trans ?_
            rw [if_pos hv0]
            refine (gd_t (by first | exact ⟨by omega, by omega⟩ | exact ⟨by omega, by omega, by omega⟩ | exact ⟨by omega, by omega, by omega, by omega⟩ | omega | exact inR_to _ | assumption | decide)).trans ?_; refine (gd_t (by first | exact ⟨by omega, by omega⟩ | exact ⟨by omega, by omega, by omega⟩ | exact ⟨by omega, by omega, by omega, by omega⟩ | omega | exact inR_to _ | assumption | decide)).trans ?_
            rw [w1, w2]
            split
            · refine (gd_t (by first | exact ⟨by omega, by omega⟩ | exact ⟨by omega, by omega, by omega⟩ | exact ⟨by omega, by omega, by omega, by omega⟩ | omega | exact inR_to _ | assumption | decide)).trans ?_
              rfl
            · refine (gd_t (by first | exact ⟨by omega, by omega⟩ | exact ⟨by omega, by omega, by omega⟩ | exact ⟨by omega, by omega, by omega, by omega⟩ | omega | exact inR_to _ | assumption | decide)).trans ?_
              rfl
          by_cases hw : k8.toInt < j8.toInt
          · rw [if_pos hw] at e1 e2
            exact fin i (Or.inr ⟨rfl, hx2⟩) e1 e2
          · rw [if_neg hw] at e1 e2
            exact fin b (Or.inl ⟨rfl, fun _ => hb1⟩) e1 e2
        · refine fin b (Or.inl ⟨rfl, fun _ => hb1⟩) (c0 _ ?_) (m0 _ ?_)
          · refine (gd_t (by first | exact ⟨by omega, by omega⟩ | exact ⟨by omega, by omega, by omega⟩ | exact ⟨by omega, by omega, by omega, by omega⟩ | omega | exact inR_to _ | assumption | decide)).trans ?_
            rw [if_neg hb1]
            refine (gd_t vR).trans ?_
            exact if_neg hv0
          · rw [if_neg (by omega)]
            refine (gd_t vR).trans ?_
            rw [if_neg hv0]
            refine (gd_t (by first | exact ⟨by omega, by omega⟩ | exact ⟨by omega, by omega, by omega⟩ | exact ⟨by omega, by omega, by omega, by omega⟩ | omega | exact inR_to _ | assumption | decide)).trans ?_
            rfl
    · rw [if_neg hx] at c0
      have hx2 : ¬ T.A 43 i = 0 := by rw [r8]; exact hx
      rw [if_neg hx2, if_neg hx2] at m0
      refine fin b (Or.inl ⟨rfl, fun e => absurd e hx2⟩) (c0 _ rfl) (m0 _ ?_)
      by_cases hb0 : b < 0
      · exact if_pos hb0
      · rw [if_neg hb0]
        refine (gd_t vR).trans ?_
        by_cases hv0 : v = 0
        · rw [if_pos hv0]
          have : b ≠ -1 := by omega
          obtain ⟨q0, q1, q2⟩ := hb.resolve_left this
          refine (gd_t (by first | exact ⟨by omega, by omega⟩ | exact ⟨by omega, by omega, by omega⟩ | exact ⟨by omega, by omega, by omega, by omega⟩ | omega | exact inR_to _ | assumption | decide)).trans ?_; refine (gd_t (by first | exact ⟨by omega, by omega⟩ | exact ⟨by omega, by omega, by omega⟩ | exact ⟨by omega, by omega, by omega, by omega⟩ | omega | exact inR_to _ | assumption | decide)).trans ?_
          split
          · refine (gd_t (by first | exact ⟨by omega, by omega⟩ | exact ⟨by omega, by omega, by omega⟩ | exact ⟨by omega, by omega, by omega, by omega⟩ | omega | exact inR_to _ | assumption | decide)).trans ?_
            rfl
          · refine (gd_t (by first | exact ⟨by omega, by omega⟩ | exact ⟨by omega, by omega, by omega⟩ | exact ⟨by omega, by omega, by omega, by omega⟩ | omega | exact inR_to _ | assumption | decide)).trans ?_
            rfl
        · rw [if_neg hv0]
          refine (gd_t (by first | exact ⟨by omega, by omega⟩ | exact ⟨by omega, by omega, by omega⟩ | exact ⟨by omega, by omega, by omega, by omega⟩ | omega | exact inR_to _ | assumption | decide)).trans ?_
          rfl
theorem cnt_ex {f : Int → Int} {x : Int} : ∀ n : Nat, 0 < cnt f x n → ∃ k : Int, 0 ≤ k ∧ k < n ∧ f k = x := by
  intro n
  induction n with
  | zero => intro h; exact absurd (show (0 : Int) < 0 from h) (by decide)
  | succ n ih =>
    intro h
    unfold cnt at h
    by_cases e : f n = x
    · exact ⟨n, by omega, by omega, e⟩
    · rw [if_neg e] at h
      obtain ⟨k, k0, k1, k2⟩ := ih (by omega)
      exact ⟨k, k0, by omega, k2⟩
/-- the clause that is given: the first object asks with steps before, both have not counted the step yet -/
theorem choose_sim {S T : St} (h : X2 S T) (hw : 0 < cnt (T.A 43) 0 (S.F 13 1).toNat) : ∃ d, g62 S (if (S.F 13 3 + 1) % 4 = 0 then 1 else 0) = some d ∧ g138 T = some d ∧ 0 ≤ d ∧ d < S.F 13 1 ∧ T.A 43 d = 0 := by
  have n16 : T.F 36 16 = S.F 13 3 := h.1.2.2.2.1
  obtain ⟨b1, b2, b3, b4, b5, b6, b7, b8, b9, b10⟩ := h.2.1
  obtain ⟨m9, hm9⟩ := FU_ge (n := 200) (by decide)
  obtain ⟨k, k0, k1, k2⟩ := cnt_ex _ hw
  have key : ∀ v : Int, b1R v → ∃ d, g62L4 S v FU (-1) 0 = some d ∧ g138L20 T v FU (-1) 0 = some d ∧ 0 ≤ d ∧ d < S.F 13 1 ∧ T.A 43 d = 0 := by
    intro v hv
    obtain ⟨d, d1, d2, d3, d4⟩ := choose_L h hv (S.F 13 1).toNat FU FU (-1) 0 (by omega) (by omega) (Or.inl rfl) (by omega) (by omega)
    have := d4 (Or.inr ⟨k, k0, by omega, k2⟩)
    obtain ⟨e0, e1, e2⟩ := d3.resolve_left this
    exact ⟨d, d1, d2, e0, e1, e2⟩
  by_cases hs : (S.F 13 3 + 1) % 4 = 0
  · obtain ⟨d, d1, d2, d3⟩ := key 1 (Or.inr rfl)
    refine ⟨d, ?_, ?_, d3⟩
    · rw [if_pos hs]
      unfold g62
      rw [d1]
      rfl
    · unfold g138
      rw [n16]
      refine (gd_t (by first | exact ⟨by omega, by omega⟩ | exact ⟨by omega, by omega, by omega⟩ | exact ⟨by omega, by omega, by omega, by omega⟩ | omega | exact inR_to _ | assumption | decide)).trans ?_; refine (gd_t (by first | exact ⟨by omega, by omega⟩ | exact ⟨by omega, by omega, by omega⟩ | exact ⟨by omega, by omega, by omega, by omega⟩ | omega | exact inR_to _ | assumption | decide)).trans ?_
      rw [if_pos (by omega), d2]
      rfl
  · obtain ⟨d, d1, d2, d3⟩ := key 0 (Or.inl rfl)
    refine ⟨d, ?_, ?_, d3⟩
    · rw [if_neg hs]
      unfold g62
      rw [d1]
      rfl
    · unfold g138
      rw [n16]
      refine (gd_t (by first | exact ⟨by omega, by omega⟩ | exact ⟨by omega, by omega, by omega⟩ | exact ⟨by omega, by omega, by omega, by omega⟩ | omega | exact inR_to _ | assumption | decide)).trans ?_; refine (gd_t (by first | exact ⟨by omega, by omega⟩ | exact ⟨by omega, by omega, by omega⟩ | exact ⟨by omega, by omega, by omega, by omega⟩ | omega | exact inR_to _ | assumption | decide)).trans ?_
      rw [if_neg (by omega), d2]
      rfl
