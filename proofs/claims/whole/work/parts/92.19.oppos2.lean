theorem om_lt {n : Int} {o u : Int → Int} (hW : WK n o u) {l m : Int} (m0 : 0 ≤ m) (m1 : m < l) (l1 : l ≤ n) : o m < o l := by
  obtain ⟨w1, w2, w3, w4, w5, w6, w7⟩ := hW
  have a5 := w5 m m0 (by omega)
  have : ∀ (d : Nat), m + 1 + d ≤ n → o (m + 1) ≤ o (m + 1 + d) := by
    intro d
    induction d with
    | zero => intro _; rw [show m + 1 + ((0 : Nat) : Int) = m + 1 by omega]; exact Int.le_refl _
    | succ d ih =>
      intro hd
      have h5 := w5 (m + 1 + d) (by omega) (by omega)
      have h6 := ih (by omega)
      rw [show m + 1 + ((d + 1 : Nat) : Int) = m + 1 + d + 1 by omega]
      omega
  have := this (l - (m + 1)).toNat (by omega)
  rw [show m + 1 + ((l - (m + 1)).toNat : Int) = l by omega] at this
  omega
theorem g126_t {T : St} {n l m : Int} {o u : Int → Int} (h : KM T 124 n o u) (hW : WV n o u) (l0 : 0 ≤ l) (l1 : l < n) (m0 : 0 ≤ m) (m1 : m < l) : ((∀ k : Int, 0 ≤ k → k < o (l + 1) - o l → mo (u (o l + k)) = mo (u (o m + k))) → g126 T (496 + l) (496 + m) = some 1) ∧ ((¬ ∀ k : Int, 0 ≤ k → k < o (l + 1) - o l → mo (u (o l + k)) = mo (u (o m + k))) → g126 T (496 + l) (496 + m) = some 0) := by
  have hml := om_lt hW.1 m0 m1 (by omega)
  have h' := h
  obtain ⟨c1, c2, c3, c4, c5, c6⟩ := h
  obtain ⟨⟨w1, w2, w3, w4, w5, w6, w7⟩, wv, wh⟩ := hW
  have a1 := w5 l l0 l1
  have a2 := w6 l l0 (by omega)
  have a3 := w6 (l + 1) (by omega) (by omega)
  have a4 := w6 m m0 (by omega)
  have s1 := (c5 l l0 l1).1
  have s2 := (c5 m m0 (by omega)).1
  have h125 := g125_s h' wv w4 a2.1 a1.2 (by omega)
  obtain ⟨m9, hm9⟩ := FU_ge (n := 100) (by decide)
  have hl := g126L33_t (S := T) (a := 64 * 124 + o l) (b := 64 * 124 + o m) (n := o (l + 1) - o l) (by omega) (by omega) (by omega) (by omega) (o (l + 1) - o l).toNat FU 0 (by omega) (by omega) (by omega) (fun j j0 j1 => absurd j1 (by omega))
  have eq : (∀ j : Int, 0 ≤ j → j < o (l + 1) - o l → T.A 38 (64 * 124 + o l + j) = T.A 38 (64 * 124 + o m + j)) ↔ ∀ k : Int, 0 ≤ k → k < o (l + 1) - o l → mo (u (o l + k)) = mo (u (o m + k)) := by
    constructor
    · intro q k k0 k1
      have := q k k0 k1
      rw [show 64 * 124 + o l + k = 64 * 124 + (o l + k) by omega, show 64 * 124 + o m + k = 64 * 124 + (o m + k) by omega, c6 _ (by omega) (by omega), c6 _ (by omega) (by omega)] at this
      exact this
    · intro q k k0 k1
      rw [show 64 * 124 + o l + k = 64 * 124 + (o l + k) by omega, show 64 * 124 + o m + k = 64 * 124 + (o m + k) by omega, c6 _ (by omega) (by omega), c6 _ (by omega) (by omega)]
      exact q k k0 k1
  have e0 : g126 T (496 + l) (496 + m) = ob (g126L33 T (64 * 124 + o l) (64 * 124 + o m) (o (l + 1) - o l) FU 1 0) (fun o13 => gd (b1R o13) (some o13)) := by
    have s1' : T.A 39 (496 + l) = 64 * 124 + o l := s1
    have s2' : T.A 39 (496 + m) = 64 * 124 + o m := s2
    unfold g126
    refine (gd_t (by first | exact ⟨by omega, by omega⟩ | exact ⟨by omega, by omega, by omega⟩ | exact ⟨by omega, by omega, by omega, by omega⟩ | omega | exact inR_to _ | assumption | decide)).trans ?_; refine (gd_t (by first | exact ⟨by omega, by omega⟩ | exact ⟨by omega, by omega, by omega⟩ | exact ⟨by omega, by omega, by omega, by omega⟩ | omega | exact inR_to _ | assumption | decide)).trans ?_
    rw [s1', s2', h125]
    show ob (g126L33 T (64 * 124 + o l) (64 * 124 + o m) (64 * 124 + o l + ((o (l + 1) - o l).toNat : Int) - (64 * 124 + o l)) FU 1 0) _ = _
    rw [show 64 * 124 + o l + ((o (l + 1) - o l).toNat : Int) - (64 * 124 + o l) = o (l + 1) - o l by omega]
  rw [e0, ← eq]
  exact ⟨fun q => by rw [hl.1 q]; rfl, fun q => by rw [hl.2 q]; rfl⟩
theorem g128L25_t {T : St} {n l : Int} {o u : Int → Int} (h : KM T 124 n o u) (hW : WV n o u) (l0 : 0 ≤ l) (l1 : l < n) : ∀ (r m : Nat) (x j : Int), 0 ≤ j → j + r = l → b1R x → r < m → (((x = 1 ∨ ∃ i : Int, j ≤ i ∧ i < l ∧ opp o u l i)) → g128L25 T (496 + l) m x (496 + j) = some 1) ∧ ((¬ (x = 1 ∨ ∃ i : Int, j ≤ i ∧ i < l ∧ opp o u l i)) → g128L25 T (496 + l) m x (496 + j) = some 0) := by
  have n4 := hW.1.2.1
  intro r
  induction r with
  | zero =>
    intro m x j hj hr hx hm
    obtain ⟨m, rfl⟩ : ∃ k, m = k + 1 := ⟨m - 1, by omega⟩
    have e : g128L25 T (496 + l) (m + 1) x (496 + j) = some x := by
      unfold g128L25
      refine (gd_t (by first | exact ⟨by omega, by omega⟩ | exact ⟨by omega, by omega, by omega⟩ | exact ⟨by omega, by omega, by omega, by omega⟩ | omega | exact inR_to _ | assumption | decide)).trans ?_; refine (gd_t (by first | exact ⟨by omega, by omega⟩ | exact ⟨by omega, by omega, by omega⟩ | exact ⟨by omega, by omega, by omega, by omega⟩ | omega | exact inR_to _ | assumption | decide)).trans ?_
      exact if_neg (by omega)
    rw [e]
    refine ⟨fun q => ?_, fun q => ?_⟩
    · rcases q with q | ⟨i, i0, i1, _⟩
      · rw [q]
      · omega
    · rcases hx with e | e
      · rw [e]
      · exact absurd (Or.inl e) q
  | succ r ih =>
    intro m x j hj hr hx hm
    obtain ⟨m, rfl⟩ : ∃ k, m = k + 1 := ⟨m - 1, by omega⟩
    have d1 := (h.2.2.2.2.1 l l0 l1).2
    have d2 := (h.2.2.2.2.1 j hj (by omega)).2
    have d1' : T.A 40 (496 + l) = dn (u (o l)) := d1
    have d2' : T.A 40 (496 + j) = dn (u (o j)) := d2
    have fin : ∀ y : Int, b1R y → ((y = 1) ↔ (x = 1 ∨ opp o u l j)) → g128L25 T (496 + l) (m + 1) x (496 + j) = g128L25 T (496 + l) m y (496 + (j + 1)) → ((x = 1 ∨ ∃ i : Int, j ≤ i ∧ i < l ∧ opp o u l i) → g128L25 T (496 + l) (m + 1) x (496 + j) = some 1) ∧ ((¬ (x = 1 ∨ ∃ i : Int, j ≤ i ∧ i < l ∧ opp o u l i)) → g128L25 T (496 + l) (m + 1) x (496 + j) = some 0) := by
      intro y hy iy e
      have hh := ih m y (j + 1) (by omega) (by omega) hy (by omega)
      have eqv : (y = 1 ∨ ∃ i : Int, j + 1 ≤ i ∧ i < l ∧ opp o u l i) ↔ (x = 1 ∨ ∃ i : Int, j ≤ i ∧ i < l ∧ opp o u l i) := by
        rw [iy]
        constructor
        · rintro ((q | q) | ⟨i, i0, i1, i2⟩)
          · exact Or.inl q
          · exact Or.inr ⟨j, by omega, by omega, q⟩
          · exact Or.inr ⟨i, by omega, i1, i2⟩
        · rintro (q | ⟨i, i0, i1, i2⟩)
          · exact Or.inl (Or.inl q)
          · by_cases ei : i = j
            · exact Or.inl (Or.inr (by rw [← ei]; exact i2))
            · exact Or.inr ⟨i, by omega, i1, i2⟩
      rw [eqv] at hh
      rw [e]
      exact hh
    rcases hx with ex | ex
    · have e0 : ∀ z, (if dn (u (o l)) = dn (u (o j)) then g128L25 T (496 + l) m 0 (496 + j + 1) else ob (g126 T (496 + l) (496 + j)) (fun o12 => gd (inR o12) (if o12 = 0 then g128L25 T (496 + l) m 0 (496 + j + 1) else g128L25 T (496 + l) m 1 (496 + j + 1)))) = z → g128L25 T (496 + l) (m + 1) x (496 + j) = z := by
        intro z hz
        rw [← hz]
        conv => lhs; unfold g128L25
        refine (gd_t (by first | exact ⟨by omega, by omega⟩ | exact ⟨by omega, by omega, by omega⟩ | exact ⟨by omega, by omega, by omega, by omega⟩ | omega | exact inR_to _ | assumption | decide)).trans ?_; refine (gd_t (by first | exact ⟨by omega, by omega⟩ | exact ⟨by omega, by omega, by omega⟩ | exact ⟨by omega, by omega, by omega, by omega⟩ | omega | exact inR_to _ | assumption | decide)).trans ?_
        rw [if_pos (by omega), ex]
        refine (gd_t (by first | exact ⟨by omega, by omega⟩ | exact ⟨by omega, by omega, by omega⟩ | exact ⟨by omega, by omega, by omega, by omega⟩ | omega | exact inR_to _ | assumption | decide)).trans ?_
        rw [if_pos rfl]
        refine (gd_t (by first | exact ⟨by omega, by omega⟩ | exact ⟨by omega, by omega, by omega⟩ | exact ⟨by omega, by omega, by omega, by omega⟩ | omega | exact inR_to _ | assumption | decide)).trans ?_; refine (gd_t (by first | exact ⟨by omega, by omega⟩ | exact ⟨by omega, by omega, by omega⟩ | exact ⟨by omega, by omega, by omega, by omega⟩ | omega | exact inR_to _ | assumption | decide)).trans ?_
        rw [d1', d2']
      rw [show 496 + j + 1 = 496 + (j + 1) by omega] at e0
      by_cases hd : dn (u (o l)) = dn (u (o j))
      · refine fin 0 (Or.inl rfl) ⟨fun q => absurd q (by decide), fun q => ?_⟩ (e0 _ (if_pos hd))
        rcases q with q | q
        · omega
        · exact absurd hd q.1
      · have h126 := g126_t h hW l0 l1 hj (show j < l by omega)
        by_cases ha : ∀ k : Int, 0 ≤ k → k < o (l + 1) - o l → mo (u (o l + k)) = mo (u (o j + k))
        · refine fin 1 (Or.inr rfl) ⟨fun _ => Or.inr ⟨hd, ha⟩, fun _ => rfl⟩ (e0 _ ?_)
          rw [if_neg hd, h126.1 ha]
          rfl
        · refine fin 0 (Or.inl rfl) ⟨fun q => absurd q (by decide), fun q => ?_⟩ (e0 _ ?_)
          · rcases q with q | q
            · omega
            · exact absurd q.2 ha
          · rw [if_neg hd, h126.2 ha]
            rfl
    · refine fin 1 (Or.inr rfl) ⟨fun _ => Or.inl ex, fun _ => rfl⟩ ?_
      conv => lhs; unfold g128L25
      refine (gd_t (by first | exact ⟨by omega, by omega⟩ | exact ⟨by omega, by omega, by omega⟩ | exact ⟨by omega, by omega, by omega, by omega⟩ | omega | exact inR_to _ | assumption | decide)).trans ?_; refine (gd_t (by first | exact ⟨by omega, by omega⟩ | exact ⟨by omega, by omega, by omega⟩ | exact ⟨by omega, by omega, by omega, by omega⟩ | omega | exact inR_to _ | assumption | decide)).trans ?_
      rw [if_pos (by omega), ex]
      refine (gd_t (by first | exact ⟨by omega, by omega⟩ | exact ⟨by omega, by omega, by omega⟩ | exact ⟨by omega, by omega, by omega, by omega⟩ | omega | exact inR_to _ | assumption | decide)).trans ?_
      rw [if_neg (by decide), show 496 + j + 1 = 496 + (j + 1) by omega]
theorem g128L6_t {T : St} {n : Int} {o u : Int → Int} (h : KM T 124 n o u) (hW : WV n o u) : ∀ (r m : Nat) (x l : Int), 0 ≤ l → l + r = n → b1R x → r < m → (((x = 1 ∨ ∃ i j : Int, l ≤ i ∧ i < n ∧ 0 ≤ j ∧ j < i ∧ opp o u i j)) → g128L6 T m x (496 + l) = some 1) ∧ ((¬ (x = 1 ∨ ∃ i j : Int, l ≤ i ∧ i < n ∧ 0 ≤ j ∧ j < i ∧ opp o u i j)) → g128L6 T m x (496 + l) = some 0) := by
  have n4 := hW.1.2.1
  have c3 : T.A 41 124 = n := h.2.2.1
  intro r
  induction r with
  | zero =>
    intro m x l hl hr hx hm
    obtain ⟨m, rfl⟩ : ∃ k, m = k + 1 := ⟨m - 1, by omega⟩
    have e : g128L6 T (m + 1) x (496 + l) = some x := by
      unfold g128L6
      rw [c3]
      refine (gd_t (by first | exact ⟨by omega, by omega⟩ | exact ⟨by omega, by omega, by omega⟩ | exact ⟨by omega, by omega, by omega, by omega⟩ | omega | exact inR_to _ | assumption | decide)).trans ?_; refine (gd_t (by first | exact ⟨by omega, by omega⟩ | exact ⟨by omega, by omega, by omega⟩ | exact ⟨by omega, by omega, by omega, by omega⟩ | omega | exact inR_to _ | assumption | decide)).trans ?_
      exact if_neg (by omega)
    rw [e]
    refine ⟨fun q => ?_, fun q => ?_⟩
    · rcases q with q | ⟨i, j, i0, i1, _⟩
      · rw [q]
      · omega
    · rcases hx with e | e
      · rw [e]
      · exact absurd (Or.inl e) q
  | succ r ih =>
    intro m x l hl hr hx hm
    obtain ⟨m, rfl⟩ : ∃ k, m = k + 1 := ⟨m - 1, by omega⟩
    obtain ⟨m9, hm9⟩ := FU_ge (n := 100) (by decide)
    have h25 := g128L25_t h hW hl (show l < n by omega) l.toNat FU x 0 (by omega) (by omega) hx (by omega)
    rw [show (496 : Int) + 0 = 496 by omega] at h25
    have fin : ∀ y : Int, b1R y → ((y = 1) ↔ (x = 1 ∨ ∃ i : Int, 0 ≤ i ∧ i < l ∧ opp o u l i)) → g128L25 T (496 + l) FU x 496 = some y → (((x = 1 ∨ ∃ i j : Int, l ≤ i ∧ i < n ∧ 0 ≤ j ∧ j < i ∧ opp o u i j)) → g128L6 T (m + 1) x (496 + l) = some 1) ∧ ((¬ (x = 1 ∨ ∃ i j : Int, l ≤ i ∧ i < n ∧ 0 ≤ j ∧ j < i ∧ opp o u i j)) → g128L6 T (m + 1) x (496 + l) = some 0) := by
      intro y hy iy e
      have hh := ih m y (l + 1) (by omega) (by omega) hy (by omega)
      have eqv : (y = 1 ∨ ∃ i j : Int, l + 1 ≤ i ∧ i < n ∧ 0 ≤ j ∧ j < i ∧ opp o u i j) ↔ (x = 1 ∨ ∃ i j : Int, l ≤ i ∧ i < n ∧ 0 ≤ j ∧ j < i ∧ opp o u i j) := by
        rw [iy]
        constructor
        · rintro ((q | ⟨i, i0, i1, i2⟩) | ⟨i, j, i0, i1⟩)
          · exact Or.inl q
          · exact Or.inr ⟨l, i, by omega, by omega, i0, i1, i2⟩
          · exact Or.inr ⟨i, j, by omega, i1⟩
        · rintro (q | ⟨i, j, i0, i1, i2, i3, i4⟩)
          · exact Or.inl (Or.inl q)
          · by_cases ei : i = l
            · rw [ei] at i3 i4
              exact Or.inl (Or.inr ⟨j, i2, i3, i4⟩)
            · exact Or.inr ⟨i, j, by omega, i1, i2, i3, i4⟩
      have e6 : g128L6 T (m + 1) x (496 + l) = g128L6 T m y (496 + (l + 1)) := by
        conv => lhs; unfold g128L6
        rw [c3]
        refine (gd_t (by first | exact ⟨by omega, by omega⟩ | exact ⟨by omega, by omega, by omega⟩ | exact ⟨by omega, by omega, by omega, by omega⟩ | omega | exact inR_to _ | assumption | decide)).trans ?_; refine (gd_t (by first | exact ⟨by omega, by omega⟩ | exact ⟨by omega, by omega, by omega⟩ | exact ⟨by omega, by omega, by omega, by omega⟩ | omega | exact inR_to _ | assumption | decide)).trans ?_
        rw [if_pos (by omega), e, show 496 + (l + 1) = 496 + l + 1 by omega]
        rfl
      rw [eqv] at hh
      rw [e6]
      exact hh
    by_cases q : x = 1 ∨ ∃ i : Int, 0 ≤ i ∧ i < l ∧ opp o u l i
    · exact fin 1 (Or.inr rfl) ⟨fun _ => q, fun _ => rfl⟩ (h25.1 q)
    · exact fin 0 (Or.inl rfl) ⟨fun e => absurd e (by decide), fun e => absurd e q⟩ (h25.2 q)
theorem g51L15_t {S : St} {n l : Int} {o u : Int → Int} (h : KD S n o u) (hW : WV n o u) (l0 : 0 ≤ l) (l1 : l < n) : ∀ (r m : Nat) (j : Int), 0 ≤ j → j + r = l → r < m → ((∃ i : Int, j ≤ i ∧ i < l ∧ opp o u l i) → g51_15L15 S l m j = some (.inr 1)) ∧ ((¬ ∃ i : Int, j ≤ i ∧ i < l ∧ opp o u l i) → g51_15L15 S l m j = some (.inl ())) := by
  have n4 := hW.1.2.1
  intro r
  induction r with
  | zero =>
    intro m j hj hr hm
    obtain ⟨m, rfl⟩ : ∃ k, m = k + 1 := ⟨m - 1, by omega⟩
    refine ⟨fun ⟨i, i0, i1, _⟩ => absurd i1 (by omega), fun _ => ?_⟩
    unfold g51_15L15
    refine (gd_t (by first | exact ⟨by omega, by omega⟩ | exact ⟨by omega, by omega, by omega⟩ | exact ⟨by omega, by omega, by omega, by omega⟩ | omega | exact inR_to _ | assumption | decide)).trans ?_; refine (gd_t (by first | exact ⟨by omega, by omega⟩ | exact ⟨by omega, by omega, by omega⟩ | exact ⟨by omega, by omega, by omega, by omega⟩ | omega | exact inR_to _ | assumption | decide)).trans ?_
    exact if_neg (by omega)
  | succ r ih =>
    intro m j hj hr hm
    obtain ⟨m, rfl⟩ : ∃ k, m = k + 1 := ⟨m - 1, by omega⟩
    have h52 := g52_t h hW l0 l1 hj (show j < l by omega)
    have hh := ih m (j + 1) (by omega) (by omega) (by omega)
    have s1 := h.2.2.1 l l0 (by omega)
    have s2 := h.2.2.1 j hj (by omega)
    have s3 := h.2.2.1 (l + 1) (by omega) (by omega)
    have e0 : ∀ z, ob (g52_15 S (o l) (o j) (o (l + 1))) (fun o19 => gd (inR o19) (if o19 = 0 then g51_15L15 S l m (j + 1) else some (.inr 1))) = z → g51_15L15 S l (m + 1) j = z := by
      intro z hz
      rw [← hz]
      conv => lhs; unfold g51_15L15
      refine (gd_t (by first | exact ⟨by omega, by omega⟩ | exact ⟨by omega, by omega, by omega⟩ | exact ⟨by omega, by omega, by omega, by omega⟩ | omega | exact inR_to _ | assumption | decide)).trans ?_; refine (gd_t (by first | exact ⟨by omega, by omega⟩ | exact ⟨by omega, by omega, by omega⟩ | exact ⟨by omega, by omega, by omega, by omega⟩ | omega | exact inR_to _ | assumption | decide)).trans ?_
      rw [if_pos (by omega)]
      refine (gd_t (by first | exact ⟨by omega, by omega⟩ | exact ⟨by omega, by omega, by omega⟩ | exact ⟨by omega, by omega, by omega, by omega⟩ | omega | exact inR_to _ | assumption | decide)).trans ?_; refine (gd_t (by first | exact ⟨by omega, by omega⟩ | exact ⟨by omega, by omega, by omega⟩ | exact ⟨by omega, by omega, by omega, by omega⟩ | omega | exact inR_to _ | assumption | decide)).trans ?_; refine (gd_t (by first | exact ⟨by omega, by omega⟩ | exact ⟨by omega, by omega, by omega⟩ | exact ⟨by omega, by omega, by omega, by omega⟩ | omega | exact inR_to _ | assumption | decide)).trans ?_
      rw [s1, s2, s3]
    by_cases q : opp o u l j
    · refine ⟨fun _ => e0 _ (by rw [h52.1 q]; rfl), fun r => absurd ⟨j, by omega, by omega, q⟩ r⟩
    · have e1 : g51_15L15 S l (m + 1) j = g51_15L15 S l m (j + 1) := e0 _ (by rw [h52.2 q]; rfl)
      rw [e1]
      refine ⟨fun ⟨i, i0, i1, i2⟩ => hh.1 ⟨i, ?_, i1, i2⟩, fun r => hh.2 (fun ⟨i, i0, i1, i2⟩ => r ⟨i, by omega, i1, i2⟩)⟩
      by_cases ei : i = j
      · rw [ei] at i2; exact absurd i2 q
      · omega
theorem g51L2_t {S : St} {n : Int} {o u : Int → Int} (h : KD S n o u) (hW : WV n o u) : ∀ (r m : Nat) (l : Int), 0 ≤ l → l + r = n ∨ (n < l ∧ l ≤ 10) → r < m → ((∃ i j : Int, l ≤ i ∧ i < n ∧ 0 ≤ j ∧ j < i ∧ opp o u i j) → g51_15L2 S m l = some (.inr 1)) ∧ ((¬ ∃ i j : Int, l ≤ i ∧ i < n ∧ 0 ≤ j ∧ j < i ∧ opp o u i j) → g51_15L2 S m l = some (.inl ())) := by
  have n4 := hW.1.2.1
  have c1 : S.F 16 2 = n := h.1
  intro r
  induction r with
  | zero =>
    intro m l hl hr hm
    obtain ⟨m, rfl⟩ : ∃ k, m = k + 1 := ⟨m - 1, by omega⟩
    refine ⟨fun ⟨i, j, i0, i1, _⟩ => absurd i1 (by omega), fun _ => ?_⟩
    unfold g51_15L2
    rw [c1]
    refine (gd_t (by first | exact ⟨by omega, by omega⟩ | exact ⟨by omega, by omega, by omega⟩ | exact ⟨by omega, by omega, by omega, by omega⟩ | omega | exact inR_to _ | assumption | decide)).trans ?_
    exact if_neg (by omega)
  | succ r ih =>
    intro m l hl hr hm
    obtain ⟨m, rfl⟩ : ∃ k, m = k + 1 := ⟨m - 1, by omega⟩
    by_cases hln : l < n
    · obtain ⟨m9, hm9⟩ := FU_ge (n := 100) (by decide)
      have h15 := g51L15_t h hW hl hln l.toNat FU 0 (by omega) (by omega) (by omega)
      have hr2 : l + (r + 1 : Nat) = n := by rcases hr with e | e <;> omega
      have hh := ih m (l + 1) (by omega) (Or.inl (by omega)) (by omega)
      by_cases q : ∃ i : Int, 0 ≤ i ∧ i < l ∧ opp o u l i
      · refine ⟨fun _ => ?_, fun w => ?_⟩
        · unfold g51_15L2
          rw [c1]
          refine (gd_t (by first | exact ⟨by omega, by omega⟩ | exact ⟨by omega, by omega, by omega⟩ | exact ⟨by omega, by omega, by omega, by omega⟩ | omega | exact inR_to _ | assumption | decide)).trans ?_
          rw [if_pos hln, h15.1 q]
          rfl
        · obtain ⟨i, i0, i1, i2⟩ := q
          exact absurd ⟨l, i, by omega, hln, i0, i1, i2⟩ w
      · have e1 : g51_15L2 S (m + 1) l = g51_15L2 S m (l + 1) := by
          conv => lhs; unfold g51_15L2
          rw [c1]
          refine (gd_t (by first | exact ⟨by omega, by omega⟩ | exact ⟨by omega, by omega, by omega⟩ | exact ⟨by omega, by omega, by omega, by omega⟩ | omega | exact inR_to _ | assumption | decide)).trans ?_
          rw [if_pos hln, h15.2 q]
          rfl
        rw [e1]
        refine ⟨fun ⟨i, j, i0, i1, i2, i3, i4⟩ => hh.1 ⟨i, j, ?_, i1, i2, i3, i4⟩, fun w => hh.2 (fun ⟨i, j, i0, i1⟩ => w ⟨i, j, by omega, i1⟩)⟩
        by_cases ei : i = l
        · rw [ei] at i3 i4; exact absurd ⟨j, i2, i3, i4⟩ q
        · omega
    · refine ⟨fun ⟨i, j, i0, i1, _⟩ => absurd i1 (by omega), fun _ => ?_⟩
      unfold g51_15L2
      rw [c1]
      refine (gd_t (by first | exact ⟨by omega, by omega⟩ | exact ⟨by omega, by omega, by omega⟩ | exact ⟨by omega, by omega, by omega, by omega⟩ | omega | exact inR_to _ | assumption | decide)).trans ?_
      exact if_neg hln
theorem opp_sim {S T : St} {n : Int} {o u : Int → Int} (h : KD S n o u) (g : KM T 124 n o u) (hW : WV n o u) : ∃ b, g51_15 S = some b ∧ g128 T = some b ∧ b1R b := by
  have w1 := hW.1.1
  have n4 := hW.1.2.1
  obtain ⟨m9, hm9⟩ := FU_ge (n := 100) (by decide)
  have a := g51L2_t h hW (n - 1).toNat FU 1 (by omega) (by omega) (by omega)
  have b := g128L6_t g hW n.toNat FU 0 0 (by omega) (by omega) (Or.inl rfl) (by omega)
  rw [show (496 : Int) + 0 = 496 by omega] at b
  by_cases q : ∃ i j : Int, 0 ≤ i ∧ i < n ∧ 0 ≤ j ∧ j < i ∧ opp o u i j
  · refine ⟨1, ?_, ?_, Or.inr rfl⟩
    · obtain ⟨i, j, i0, i1, i2, i3, i4⟩ := q
      unfold g51_15
      rw [a.1 ⟨i, j, by omega, i1, i2, i3, i4⟩]
      rfl
    · unfold g128
      rw [b.1 (Or.inr q)]
      rfl
  · refine ⟨0, ?_, ?_, Or.inl rfl⟩
    · unfold g51_15
      rw [a.2 (fun ⟨i, j, i0, i1⟩ => q ⟨i, j, by omega, i1⟩)]
      rfl
    · unfold g128
      rw [b.2 (fun w => w.elim (fun e => absurd e (by decide)) q)]
      rfl
