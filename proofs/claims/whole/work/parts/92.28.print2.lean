theorem KM.om {T T' : St} {l : List Int} (h : OM T l T') {s n : Int} {o u : Int → Int} (hk : KM T s n o u) : KM T' s n o u := by
  unfold KM at hk ⊢
  rw [h.A (show 38 ∉ [36, 68, 69] by decide), h.A (show 39 ∉ [36, 68, 69] by decide), h.A (show 40 ∉ [36, 68, 69] by decide), h.A (show 41 ∉ [36, 68, 69] by decide), h.A (show 42 ∉ [36, 68, 69] by decide)]
  exact hk
theorem g150_t {T : St} {sl n l : Int} {o u : Int → Int} (h : KM T sl n o u) (hW : WV n o u) (ho : o n ≤ 16) (l0 : 0 ≤ l) (l1 : l < n) (f0 : 0 ≤ T.F 36 56) (f1 : T.F 36 56 + 5 * (o (l + 1) - o l) ≤ 360) : ∃ T', g150 T (T.A 39 (4 * sl + l)) = some T' ∧ OM T (ps u (o (l + 1) - o l).toNat (o l) []) T' := by
  have h' := h
  obtain ⟨c1, c2, c3, c4, c5, c6⟩ := h
  obtain ⟨⟨w1, w2, w3, w4, w5, w6, w7⟩, wv, wh⟩ := hW
  have a1 := w5 l l0 l1
  have a2 := w6 l l0 (by omega)
  have a3 := w6 (l + 1) (by omega) (by omega)
  have h125 := g125_s h' wv w4 a2.1 a1.2 (by omega)
  obtain ⟨m9, hm9⟩ := FU_ge (n := 100) (by decide)
  obtain ⟨T', t1, t2⟩ := g150L14_t (P := o (l + 1)) c1 c2 (by omega) (o (l + 1) - o l).toNat FU (o l) [] T (by omega) a2.1 (fun i i0 i1 => ⟨c6 i (by omega) (by omega), wv i (by omega) (by omega)⟩) trivial (by show 0 + _ ≤ 16; omega) f0 (by show _ + ((0 : Nat) : Int) ≤ _; omega) (by omega)
  refine ⟨T', ?_, t2⟩
  unfold g150
  rw [(c5 l l0 l1).1, h125]
  show ob (g150L14 (64 * sl + o l + ((o (l + 1) - o l).toNat : Int)) FU 0 (64 * sl + o l) T) _ = _
  rw [show 64 * sl + o l + ((o (l + 1) - o l).toNat : Int) = 64 * sl + o (l + 1) by omega]
  have t1 : g150L14 (64 * sl + o (l + 1)) FU 0 (64 * sl + o l) T = some T' := t1
  rw [t1]
  rfl
theorem sg_dn {x : Int} (h : 131072 ≤ x) : sg x = if dn x = 0 then [] else [126] := by
  unfold sg
  rcases dn_b x with e | e
  · rw [if_neg (by omega), if_pos e]
  · rw [if_pos ⟨h, e⟩, if_neg (by omega)]
theorem g148L79_t {sl n : Int} {o u : Int → Int} (hW : WV n o u) (ho : o n ≤ 16) : ∀ (r m : Nat) (l : Int) (T : St), KM T sl n o u → 0 ≤ l → l + r = n → 0 ≤ T.F 36 56 → T.F 36 56 + 5 * (o n - o l) + r ≤ 350 → r < m → ∃ T', g148L79 sl m (4 * sl + l) T = some T' ∧ OM T (pl o u r l) T' := by
  have n4 := hW.1.2.1
  intro r
  induction r with
  | zero =>
    intro m l T h l0 hr f0 f1 hm
    obtain ⟨m, rfl⟩ : ∃ k, m = k + 1 := ⟨m - 1, by omega⟩
    obtain ⟨c1, c2, c3, c4, c5, c6⟩ := h
    refine ⟨T, ?_, OM.nil T⟩
    unfold g148L79
    rw [c3]
    refine (gd_t (by first | exact ⟨by omega, by omega⟩ | exact ⟨by omega, by omega, by omega⟩ | exact ⟨by omega, by omega, by omega, by omega⟩ | omega | exact inR_to _ | assumption | decide)).trans ?_; refine (gd_t (by first | exact ⟨by omega, by omega⟩ | exact ⟨by omega, by omega, by omega⟩ | exact ⟨by omega, by omega, by omega, by omega⟩ | omega | exact inR_to _ | assumption | decide)).trans ?_; refine (gd_t (by first | exact ⟨by omega, by omega⟩ | exact ⟨by omega, by omega, by omega⟩ | exact ⟨by omega, by omega, by omega, by omega⟩ | omega | exact inR_to _ | assumption | decide)).trans ?_
    exact if_neg (by omega)
  | succ r ih =>
    intro m l T h l0 hr f0 f1 hm
    obtain ⟨m, rfl⟩ : ∃ k, m = k + 1 := ⟨m - 1, by omega⟩
    have a1 := hW.1.2.2.2.2.1 l l0 (by omega)
    have a6 := hW.1.2.2.2.2.2.1 (l + 1) (by omega) (by omega)
    have at0 := (hW.2.2 l l0 (by omega)).1
    have ll := lit_len hW.1 l0 (show l < n by omega)
    -- the literal itself, from any state that holds the slots
    have lit : ∀ (T0 : St), KM T0 sl n o u → 0 ≤ T0.F 36 56 → T0.F 36 56 + 5 * (o n - o l) + r ≤ 350 → ∃ T', (if T0.A 40 (4 * sl + l) = 0 then ob (g150 T0 (T0.A 39 (4 * sl + l))) (fun o20 => g148L79 sl m (4 * sl + l + 1) o20) else ob (g149 T0 126) (fun o22 => ob (g150 o22 (o22.A 39 (4 * sl + l))) (fun o24 => g148L79 sl m (4 * sl + l + 1) o24))) = some T' ∧ OM T0 ((sg (u (o l)) ++ ps u (o (l + 1) - o l).toNat (o l) []) ++ pl o u r (l + 1)) T' := by
      intro T0 h0 g0 g1
      have d := (h0.2.2.2.2.1 l l0 (by omega)).2
      rw [sg_dn at0, d, show 4 * sl + l + 1 = 4 * sl + (l + 1) by omega]
      rw [sg_dn at0] at ll
      by_cases e : dn (u (o l)) = 0
      · rw [if_pos e] at ll ⊢
        rw [if_pos e]
        rw [List.nil_append] at ll ⊢
        obtain ⟨T1, t1, t2⟩ := g150_t h0 hW ho l0 (show l < n by omega) g0 (by omega)
        have e1 : T1.F 36 56 = T0.F 36 56 + (ps u (o (l + 1) - o l).toNat (o l) []).length := t2.2.1
        obtain ⟨T2, v1, v2⟩ := ih m (l + 1) T1 (h0.om t2) (by omega) (by omega) (by omega) (by omega) (by omega)
        refine ⟨T2, ?_, t2.app v2⟩
        rw [t1]
        exact v1
      · rw [if_neg e] at ll ⊢
        rw [if_neg e]
        obtain ⟨T1, t1, t2, _⟩ := g149_t (S := T0) (c := 126) g0 (by omega) (by decide)
        have e1 : T1.F 36 56 = T0.F 36 56 + 1 := t2.2.1
        obtain ⟨T2, q1, q2⟩ := g150_t (h0.om t2) hW ho l0 (show l < n by omega) (by omega) (by omega)
        have e2 : T2.F 36 56 = T1.F 36 56 + (ps u (o (l + 1) - o l).toNat (o l) []).length := q2.2.1
        rw [List.length_append] at ll
        have ll : (((1 : Nat) + (ps u (o (l + 1) - o l).toNat (o l) []).length : Nat) : Int) + 1 ≤ 5 * (o (l + 1) - o l) + 1 := ll
        obtain ⟨T3, v1, v2⟩ := ih m (l + 1) T2 ((h0.om t2).om q2) (by omega) (by omega) (by omega) (by omega) (by omega)
        refine ⟨T3, ?_, (t2.app q2).app v2⟩
        rw [t1]
        refine (ob_t rfl).trans ?_
        rw [q1]
        exact v1
    obtain ⟨c1, c2, c3, c4, c5, c6⟩ := h
    have h : KM T sl n o u := ⟨c1, c2, c3, c4, c5, c6⟩
    show ∃ T', _ ∧ OM T ((if 0 < l then [124] else []) ++ ((sg (u (o l)) ++ ps u (o (l + 1) - o l).toNat (o l) []) ++ pl o u r (l + 1))) T'
    by_cases hl : 0 < l
    · rw [if_pos hl]
      obtain ⟨T1, t1, t2, _⟩ := g149_t (S := T) (c := 124) f0 (by omega) (by decide)
      have e1 : T1.F 36 56 = T.F 36 56 + 1 := t2.2.1
      obtain ⟨T2, v1, v2⟩ := lit T1 (h.om t2) (by omega) (by omega)
      refine ⟨T2, ?_, t2.app v2⟩
      unfold g148L79
      rw [c3]
      refine (gd_t (by first | exact ⟨by omega, by omega⟩ | exact ⟨by omega, by omega, by omega⟩ | exact ⟨by omega, by omega, by omega, by omega⟩ | omega | exact inR_to _ | assumption | decide)).trans ?_; refine (gd_t (by first | exact ⟨by omega, by omega⟩ | exact ⟨by omega, by omega, by omega⟩ | exact ⟨by omega, by omega, by omega, by omega⟩ | omega | exact inR_to _ | assumption | decide)).trans ?_; refine (gd_t (by first | exact ⟨by omega, by omega⟩ | exact ⟨by omega, by omega, by omega⟩ | exact ⟨by omega, by omega, by omega, by omega⟩ | omega | exact inR_to _ | assumption | decide)).trans ?_
      rw [if_pos (by omega)]
      refine (gd_t (by first | exact ⟨by omega, by omega⟩ | exact ⟨by omega, by omega, by omega⟩ | exact ⟨by omega, by omega, by omega, by omega⟩ | omega | exact inR_to _ | assumption | decide)).trans ?_
      rw [if_pos (by omega), t1]
      show gd (ixR (4 * sl + l) 504) _ = _
      refine (gd_t (by first | exact ⟨by omega, by omega⟩ | exact ⟨by omega, by omega, by omega⟩ | exact ⟨by omega, by omega, by omega, by omega⟩ | omega | exact inR_to _ | assumption | decide)).trans ?_
      exact v1
    · rw [if_neg hl, List.nil_append]
      obtain ⟨T2, v1, v2⟩ := lit T h f0 (by omega)
      refine ⟨T2, ?_, v2⟩
      unfold g148L79
      rw [c3]
      refine (gd_t (by first | exact ⟨by omega, by omega⟩ | exact ⟨by omega, by omega, by omega⟩ | exact ⟨by omega, by omega, by omega, by omega⟩ | omega | exact inR_to _ | assumption | decide)).trans ?_; refine (gd_t (by first | exact ⟨by omega, by omega⟩ | exact ⟨by omega, by omega, by omega⟩ | exact ⟨by omega, by omega, by omega, by omega⟩ | omega | exact inR_to _ | assumption | decide)).trans ?_; refine (gd_t (by first | exact ⟨by omega, by omega⟩ | exact ⟨by omega, by omega, by omega⟩ | exact ⟨by omega, by omega, by omega, by omega⟩ | omega | exact inR_to _ | assumption | decide)).trans ?_
      rw [if_pos (by omega)]
      refine (gd_t (by first | exact ⟨by omega, by omega⟩ | exact ⟨by omega, by omega, by omega⟩ | exact ⟨by omega, by omega, by omega, by omega⟩ | omega | exact inR_to _ | assumption | decide)).trans ?_
      rw [if_neg (by omega)]
      refine (gd_t (by first | exact ⟨by omega, by omega⟩ | exact ⟨by omega, by omega, by omega⟩ | exact ⟨by omega, by omega, by omega, by omega⟩ | omega | exact inR_to _ | assumption | decide)).trans ?_
      exact v1
theorem g78L20_t {c : Nat} {n : Int} {o u : Int → Int} (hW : WV n o u) (ho : o n ≤ 16) : ∀ (r m : Nat) (l : Int) (S : St), KT S.tl c n o u → 0 ≤ l → l + r = n → 0 ≤ S.F 28 1 → S.F 28 1 + 5 * (o n - o l) + r ≤ 100 → r < m → ∃ S', g78L20 c m l S = some S' ∧ OC S (pl o u r l) S' := by
  have n4 := hW.1.2.1
  intro r
  induction r with
  | zero =>
    intro m l S h l0 hr f0 f1 hm
    obtain ⟨m, rfl⟩ : ∃ k, m = k + 1 := ⟨m - 1, by omega⟩
    obtain ⟨b, s, N, M, f, g, x, w, k1, k2, k3, k4⟩ := h.KC
    refine ⟨S, ?_, OC.nil S⟩
    unfold g78L20
    refine (gC_t k1).trans ?_
    refine (gd_t (by first | exact ⟨by omega, by omega⟩ | exact ⟨by omega, by omega, by omega⟩ | exact ⟨by omega, by omega, by omega, by omega⟩ | omega | exact inR_to _ | assumption | decide)).trans ?_
    exact if_neg (by omega)
  | succ r ih =>
    intro m l S h l0 hr f0 f1 hm
    obtain ⟨m, rfl⟩ : ∃ k, m = k + 1 := ⟨m - 1, by omega⟩
    have a1 := hW.1.2.2.2.2.1 l l0 (by omega)
    have a5 := hW.1.2.2.2.2.2.1 l l0 (by omega)
    have a6 := hW.1.2.2.2.2.2.1 (l + 1) (by omega) (by omega)
    have hh := hW.2.2 l l0 (by omega)
    have ll := lit_len hW.1 l0 (show l < n by omega)
    have lit : ∀ (S0 : St), KT S0.tl c n o u → 0 ≤ S0.F 28 1 → S0.F 28 1 + 5 * (o n - o l) + r ≤ 100 → ∀ (b s : Nat) (N M : Nat) (f g : Int → Int32), S0.cl b = some (.ar N f) → S0.cl s = some (.ar M g) → o n ≤ N → N < 1048576 → n < M → M < 1048576 → (∀ k : Int, 0 ≤ k → k ≤ n → (g k).toInt = o k) → (∀ p : Int, 0 ≤ p → p < o n → (f p).toInt = u p) → ∃ S', gA S0 s (fun N34 f35 => gd (ixR l N34) (ob (g80 64 S0 b (f35 l) 0) (fun o39 => g78L20 c m (l + 1) o39))) = some S' ∧ OC S0 ((sg (u (o l)) ++ ps u (o (l + 1) - o l).toNat (o l) []) ++ pl o u r (l + 1)) S' := by
      intro S0 h0 g0 g1 b s N M f g q1 q2 q3 q4 q5 q6 q7 q8
      obtain ⟨S1, t1, t2⟩ := show_T (b := b) (w := o n) q4 q3 (fun i i0 i1 => ⟨q8 i i0 i1, hW.2.1 i i0 i1⟩) 64 (o (l + 1) - o l).toNat (o l) 0 S0 q1 a1.2 a5.1 (by omega) (fun i i0 i1 => hh.2 i i0 (by omega)) (by omega) (by omega) (by omega) g0 (by omega)
      have e1 : S1.F 28 1 = S0.F 28 1 + (sg (u (o l)) ++ ps u (o (l + 1) - o l).toNat (o l) []).length := t2.2.1
      obtain ⟨S2, v1, v2⟩ := ih m (l + 1) S1 (by rw [t2.1.1]; exact h0) (by omega) (by omega) (by omega) (by omega) (by omega)
      refine ⟨S2, ?_, t2.app v2⟩
      refine (gA_t q2).trans ?_
      refine (gd_t (by first | exact ⟨by omega, by omega⟩ | exact ⟨by omega, by omega, by omega⟩ | exact ⟨by omega, by omega, by omega, by omega⟩ | omega | exact inR_to _ | assumption | decide)).trans ?_
      show ob (g80 64 S0 b (g l).toInt 0) _ = _
      rw [q7 l l0 (by omega), t1]
      exact v1
    obtain ⟨b, s, N, M, f, g, x, w, k1, k2, k3, k4, k5, k6, k7, k8, k9, k10, k11⟩ := h.KC
    show ∃ S', _ ∧ OC S ((if 0 < l then [124] else []) ++ ((sg (u (o l)) ++ ps u (o (l + 1) - o l).toNat (o l) []) ++ pl o u r (l + 1))) S'
    by_cases hl : 0 < l
    · rw [if_pos hl]
      obtain ⟨S1, t1, t2⟩ := g79_t (S := S) (c := 124) f0 (by omega) (by decide)
      have e1 : S1.F 28 1 = S.F 28 1 + 1 := t2.2.1
      obtain ⟨S2, v1, v2⟩ := lit S1 (by rw [t2.1.1]; exact h) (by omega) (by omega) b s N M f g ((t2.cl b).trans k4) ((t2.cl s).trans k5) k6 k7 k8 k9 k10 k11
      refine ⟨S2, ?_, t2.app v2⟩
      unfold g78L20
      refine (gC_t k1).trans ?_
      refine (gd_t (by first | exact ⟨by omega, by omega⟩ | exact ⟨by omega, by omega, by omega⟩ | exact ⟨by omega, by omega, by omega, by omega⟩ | omega | exact inR_to _ | assumption | decide)).trans ?_
      rw [if_pos (by omega), if_pos hl, t1]
      refine (ob_t rfl).trans ?_
      refine (gC_t ((t2.cl c).trans k1)).trans ?_
      exact v1
    · rw [if_neg hl, List.nil_append]
      obtain ⟨S2, v1, v2⟩ := lit S h f0 (by omega) b s N M f g k4 k5 k6 k7 k8 k9 k10 k11
      refine ⟨S2, ?_, v2⟩
      unfold g78L20
      refine (gC_t k1).trans ?_
      refine (gd_t (by first | exact ⟨by omega, by omega⟩ | exact ⟨by omega, by omega, by omega⟩ | exact ⟨by omega, by omega, by omega, by omega⟩ | omega | exact inR_to _ | assumption | decide)).trans ?_
      rw [if_pos (by omega), if_neg hl]
      exact v1
