/-- literal k of the draft is what was put since -/
def same_15 (S : St) (k : Int) : Prop := S.A 18 (k + 1) - S.A 18 k = S.F 15 2 - S.F 16 3 ∧ ∀ j : Int, 0 ≤ j → j < S.F 15 2 - S.F 16 3 → S.A 17 (S.A 18 k + j) = S.A 17 (S.F 16 3 + j)
theorem g46L_15 {S : St} (hS : SF_15 S) : ∀ (r m : Nat) (k : Int), 0 ≤ k → k + r = S.F 16 2 → r < m → ((∃ i : Int, k ≤ i ∧ i < S.F 16 2 ∧ same_15 S i) → g46_15L15 S (S.F 15 2 - S.F 16 3) m k = some (.inr 1)) ∧ ((¬ ∃ i : Int, k ≤ i ∧ i < S.F 16 2 ∧ same_15 S i) → g46_15L15 S (S.F 15 2 - S.F 16 3) m k = some (.inl ())) := by
  obtain ⟨s1, s2, s3, s4, s5, s6, s7, s8⟩ := hS
  intro r
  induction r with
  | zero =>
    intro m k k0 hr hm
    obtain ⟨m, rfl⟩ : ∃ i, m = i + 1 := ⟨m - 1, by omega⟩
    refine ⟨fun ⟨i, i0, i1, _⟩ => absurd i1 (by omega), fun _ => ?_⟩
    unfold g46_15L15
    refine (gd_t (by first | exact ⟨by omega, by omega⟩ | exact ⟨by omega, by omega, by omega⟩ | exact ⟨by omega, by omega, by omega, by omega⟩ | omega | exact inR_to _ | assumption | decide)).trans ?_
    exact if_neg (by omega)
  | succ r ih =>
    intro m k k0 hr hm
    obtain ⟨m, rfl⟩ : ∃ i, m = i + 1 := ⟨m - 1, by omega⟩
    have a1 := s7 k k0 (by omega)
    have a2 := s7 (k + 1) (by omega) (by omega)
    have ih := ih m (k + 1) (by omega) (by omega) (by omega)
    have q := g47_t (S := S) (b := 17) (N := 80) (f := S.A0 17) (x := S.A 18 k) (y := S.F 16 3) (n := S.F 15 2 - S.F 16 3) rfl (by decide) a1.1 s3 (by omega) (by omega) (by omega) (by omega)
    have e : g46_15L15 S (S.F 15 2 - S.F 16 3) (m + 1) k = if S.A 18 (k + 1) - S.A 18 k = S.F 15 2 - S.F 16 3 then ob (g47 S 17 (S.A 18 k) (S.F 16 3) (S.F 15 2 - S.F 16 3)) (fun o19 => gd (inR o19) (if o19 = 0 then g46_15L15 S (S.F 15 2 - S.F 16 3) m (k + 1) else some (.inr 1))) else g46_15L15 S (S.F 15 2 - S.F 16 3) m (k + 1) := by
      rw [g46_15L15]
      refine (gd_t (by first | exact ⟨by omega, by omega⟩ | exact ⟨by omega, by omega, by omega⟩ | exact ⟨by omega, by omega, by omega, by omega⟩ | omega | exact inR_to _ | assumption | decide)).trans ?_
      rw [if_pos (by omega)]
      refine (gd_t (by first | exact ⟨by omega, by omega⟩ | exact ⟨by omega, by omega, by omega⟩ | exact ⟨by omega, by omega, by omega, by omega⟩ | omega | exact inR_to _ | assumption | decide)).trans ?_; refine (gd_t (by first | exact ⟨by omega, by omega⟩ | exact ⟨by omega, by omega, by omega⟩ | exact ⟨by omega, by omega, by omega, by omega⟩ | omega | exact inR_to _ | assumption | decide)).trans ?_; refine (gd_t (by first | exact ⟨by omega, by omega⟩ | exact ⟨by omega, by omega, by omega⟩ | exact ⟨by omega, by omega, by omega, by omega⟩ | omega | exact inR_to _ | assumption | decide)).trans ?_; refine (gd_t (by first | exact ⟨by omega, by omega⟩ | exact ⟨by omega, by omega, by omega⟩ | exact ⟨by omega, by omega, by omega, by omega⟩ | omega | exact inR_to _ | assumption | decide)).trans ?_
      rfl
    rw [e]
    by_cases hk : same_15 S k
    · refine ⟨fun _ => ?_, fun h => absurd ⟨k, by omega, by omega, hk⟩ h⟩
      rw [if_pos hk.1, q.1 ⟨by omega, by omega, fun j j0 j1 => Int32.toInt_inj.mp (hk.2 j j0 j1)⟩]
      rfl
    · have iff1 : (∃ i : Int, k ≤ i ∧ i < S.F 16 2 ∧ same_15 S i) ↔ ∃ i : Int, k + 1 ≤ i ∧ i < S.F 16 2 ∧ same_15 S i := by
        constructor
        · rintro ⟨i, i0, i1, i2⟩
          refine ⟨i, ?_, i1, i2⟩
          by_cases hi : i = k
          · exact absurd (hi ▸ i2) hk
          · omega
        · rintro ⟨i, i0, i1, i2⟩
          exact ⟨i, by omega, i1, i2⟩
      rw [iff1]
      by_cases hz : S.A 18 (k + 1) - S.A 18 k = S.F 15 2 - S.F 16 3
      · rw [if_pos hz, q.2 (fun h => hk ⟨hz, fun j j0 j1 => congrArg Int32.toInt (h.2.2 j j0 j1)⟩)]
        exact ih
      · rw [if_neg hz]
        exact ih
theorem g46_15_t {S : St} (hS : SF_15 S) : ((∃ i : Int, 0 ≤ i ∧ i < S.F 16 2 ∧ same_15 S i) → g46_15 S = some 1) ∧ ((¬ ∃ i : Int, 0 ≤ i ∧ i < S.F 16 2 ∧ same_15 S i) → g46_15 S = some 0) := by
  obtain ⟨m9, hm9⟩ := FU_ge (n := 100) (by decide)
  have s1 := hS.1
  have s2 := hS.2.1
  have h := g46L_15 hS (S.F 16 2).toNat FU 0 (by omega) (by omega) (by omega)
  constructor
  · intro e
    unfold g46_15
    rw [h.1 e]
    rfl
  · intro e
    unfold g46_15
    rw [h.2 e]
    rfl
theorem close_15 {S : St} {a : Option (List (List Int))} {w : List Int} (h : CP_15 S a w) (hw0 : 0 < w.length) : ∃ T, g45_15 S = some T ∧ Fr [15, 16, 17, 18] S T ∧ CP_15 T (stp a w) [] := by
  obtain ⟨hS, h⟩ := h
  have q := g46_15_t hS
  obtain ⟨s1, s2, s3, s4, s5, s6, s7, s8⟩ := hS
  have c1 : (S.f 15 2 (S.F 16 3)).F 15 2 = S.F 16 3 := (f_F (St.F_R _ _ _)).trans (by rw [if_pos rfl, if_pos rfl])
  have c2 : (S.f 15 2 (S.F 16 3)).F 15 3 = S.F 15 3 := (f_F (St.F_R _ _ _)).trans (by rw [if_pos rfl, if_neg (by decide)])
  by_cases hb : ∃ i : Int, 0 ≤ i ∧ i < S.F 16 2 ∧ same_15 S i
  · have e : g45_15 S = some (S.f 15 2 (S.F 16 3)) := by
      unfold g45_15
      rw [q.1 hb]
      rfl
    refine ⟨_, e, Fr.f (by decide), ⟨s1, s2, s3, s4, by rw [c1]; exact Int.le_refl _, by rw [c1]; show S.F 16 3 ≤ S.F 16 3 + 16; omega, s7, fun p p0 p1 => s8 p p0 (by rw [c1] at p1; omega)⟩, ?_⟩
    match a, h with
    | none, h => exact c2.trans h
    | some b, h =>
      have h : if 16 < w.length then S.F 15 3 = 1 else S.F 15 3 = 0 ∧ KE_15 S b.length (os b) (gI b.flatten) ∧ S.F 15 2 = b.flatten.length + w.length ∧ ∀ i : Int, 0 ≤ i → i < w.length → S.A 17 (b.flatten.length + i) = gI w i := h
      show match (if 16 < w.length then none else if w ∈ b then some b else if b.length < 4 then some (b ++ [w]) else none) with | none => _ | some _ => _
      by_cases hw : 16 < w.length
      · rw [if_pos hw] at h
        rw [if_pos hw]
        exact c2.trans h
      · rw [if_neg hw] at h
        rw [if_neg hw]
        obtain ⟨q1, ⟨q2, q3, q4, q5⟩, q6, q7⟩ := h
        rw [os_n] at q3
        have hm : w ∈ b := by
          obtain ⟨i, i0, i1, i2, i3⟩ := hb
          rw [q4 i i0 (by omega), q4 (i + 1) (by omega) (by omega), os_s i0 (by omega)] at i2
          have : lt b i = w := by
            apply gI_ext (by omega)
            intro j j0 j1
            have i3 := i3 j j0 (by omega)
            have b1 := os_s i0 (show i < b.length by omega)
            have b2 := os_le (a := b) (k := i + 1) (by omega) (by omega)
            have b3 := os_le (a := b) (k := i) (by omega) (by omega)
            rw [q4 i i0 (by omega), q3, q5 _ (by omega) (by rw [os_n]; omega), q7 j j0 (by omega), lt_at i0 (by omega) j0 j1] at i3
            exact i3
          rw [← this]
          exact lt_mem i0 (by omega)
        rw [if_pos hm]
        refine ⟨c2.trans q1, ⟨q2, q3.trans (os_n b).symm, q4, q5⟩, c1.trans (q3.trans (by simp)), fun i i0 i1 => absurd i1 (by show ¬ i < ((0 : Nat) : Int); omega)⟩
  · have e0 : g45_15 S = if (S.F 16 2) < 4 then some (((S.f 16 2 ((S.F 16 2) + 1)).a 18 ((S.F 16 2) + 1) (S.F 15 2)).f 16 3 (S.F 15 2)) else some ((S.f 15 3 1).f 15 2 (S.F 16 3)) := by
      unfold g45_15
      rw [q.2 hb]
      refine (ob_t rfl).trans ?_
      refine (gd_t (by first | exact ⟨by omega, by omega⟩ | exact ⟨by omega, by omega, by omega⟩ | exact ⟨by omega, by omega, by omega, by omega⟩ | omega | exact inR_to _ | assumption | decide)).trans ?_
      rw [if_pos rfl]
      split
      · refine (gd_t (by first | exact ⟨by omega, by omega⟩ | exact ⟨by omega, by omega, by omega⟩ | exact ⟨by omega, by omega, by omega, by omega⟩ | omega | exact inR_to _ | assumption | decide)).trans ?_
        rfl
      · rfl
    by_cases h4 : S.F 16 2 < 4
    · rw [if_pos h4] at e0
      refine ⟨_, e0, ((Fr.f (by decide)).trans (Fr.a (by decide))).trans (Fr.f (by decide)), ?_⟩
      have d1 : (((S.f 16 2 ((S.F 16 2) + 1)).a 18 ((S.F 16 2) + 1) (S.F 15 2)).f 16 3 (S.F 15 2)).F 16 2 = S.F 16 2 + 1 := (f_F (St.F_R _ _ _)).trans (by rw [if_pos rfl, if_neg (by decide)]; exact (f_F (by omega)).trans (by rw [if_pos rfl, if_pos rfl]))
      have d2 : (((S.f 16 2 ((S.F 16 2) + 1)).a 18 ((S.F 16 2) + 1) (S.F 15 2)).f 16 3 (S.F 15 2)).F 16 3 = S.F 15 2 := (f_F (St.F_R _ _ _)).trans (by rw [if_pos rfl, if_pos rfl])
      have d3 : (((S.f 16 2 ((S.F 16 2) + 1)).a 18 ((S.F 16 2) + 1) (S.F 15 2)).f 16 3 (S.F 15 2)).A 18 = upI (S.A 18) (S.F 16 2 + 1) (S.F 15 2) := aA_up (inR_to _)
      have d4 : ∀ k : Int, upI (S.A 18) (S.F 16 2 + 1) (S.F 15 2) k = if k = S.F 16 2 + 1 then S.F 15 2 else S.A 18 k := fun k => rfl
      refine ⟨⟨by omega, by omega, by rw [d2]; omega, by rw [d1, d2]; omega, by rw [d2]; exact Int.le_refl _, by rw [d2]; show S.F 15 2 ≤ S.F 15 2 + 16; omega, fun k k0 k1 => ?_, s8⟩, ?_⟩
      · rw [d1] at k1
        rw [d3, d4]
        split
        · omega
        · exact s7 k k0 (by omega)
      · match a, h with
        | none, h => exact h
        | some b, h =>
          have h : if 16 < w.length then S.F 15 3 = 1 else S.F 15 3 = 0 ∧ KE_15 S b.length (os b) (gI b.flatten) ∧ S.F 15 2 = b.flatten.length + w.length ∧ ∀ i : Int, 0 ≤ i → i < w.length → S.A 17 (b.flatten.length + i) = gI w i := h
          show match (if 16 < w.length then none else if w ∈ b then some b else if b.length < 4 then some (b ++ [w]) else none) with | none => _ | some _ => _
          by_cases hw : 16 < w.length
          · rw [if_pos hw] at h
            rw [if_pos hw]
            exact h
          · rw [if_neg hw] at h
            rw [if_neg hw]
            obtain ⟨q1, ⟨q2, q3, q4, q5⟩, q6, q7⟩ := h
            rw [os_n] at q3 q5
            have hm : ¬ w ∈ b := by
              intro hm
              obtain ⟨i, i0, i1, i2⟩ := mem_lt hm
              have b1 := os_s i0 (show i < b.length by omega)
              have b2 := os_le (a := b) (k := i + 1) (by omega) (by omega)
              have b3 := os_le (a := b) (k := i) (by omega) (by omega)
              rw [i2] at b1
              refine hb ⟨i, i0, by omega, ?_, fun j j0 j1 => ?_⟩
              · rw [q4 i i0 (by omega), q4 (i + 1) (by omega) (by omega)]
                omega
              · rw [q4 i i0 (by omega), q3, q5 _ (by omega) (by omega), q7 j j0 (by omega), lt_at i0 (by omega) j0 (by rw [i2]; omega), i2]
            rw [if_neg hm, if_pos (by omega)]
            have f1 : ((b ++ [w]).length : Int) = b.length + 1 := by rw [List.length_append]; rfl
            have f2 : (((b ++ [w]).flatten).length : Int) = b.flatten.length + w.length := by rw [List.flatten_append, List.length_append]; simp
            refine ⟨q1, ⟨d1.trans (by omega), ?_, fun k k0 k1 => ?_, fun p p0 p1 => ?_⟩, ?_, fun i i0 i1 => absurd i1 (by show ¬ i < ((0 : Nat) : Int); omega)⟩
            · rw [d2, os_n]
              omega
            · rw [d3, d4]
              by_cases hk : k = b.length + 1
              · rw [if_pos (by omega), hk, os_app1]
                omega
              · rw [if_neg (by omega), os_app (by omega)]
                exact q4 k k0 (by omega)
            · rw [os_n] at p1
              show S.A 17 p = _
              rw [List.flatten_append, show [w].flatten = w by simp]
              by_cases hp : p < b.flatten.length
              · rw [gI_l hp p0]
                exact q5 p p0 hp
              · rw [gI_r (by omega)]
                have := q7 (p - b.flatten.length) (by omega) (by omega)
                rw [show (b.flatten.length : Int) + (p - b.flatten.length) = p by omega] at this
                exact this
            · show S.F 15 2 = (b ++ [w]).flatten.length + ((0 : Nat) : Int)
              omega
    · rw [if_neg h4] at e0
      have f1 : ((S.f 15 3 1).f 15 2 (S.F 16 3)).F 15 2 = S.F 16 3 := (f_F (St.F_R _ _ _)).trans (by rw [if_pos rfl, if_pos rfl])
      have f2 : ((S.f 15 3 1).f 15 2 (S.F 16 3)).F 15 3 = 1 := (f_F (St.F_R _ _ _)).trans (by rw [if_pos rfl, if_neg (by decide)]; exact (f_F (by decide)).trans (by rw [if_pos rfl, if_pos rfl]))
      refine ⟨_, e0, (Fr.f (by decide)).trans (Fr.f (by decide)), ⟨s1, s2, s3, s4, by rw [f1]; exact Int.le_refl _, by rw [f1]; show S.F 16 3 ≤ S.F 16 3 + 16; omega, s7, fun p p0 p1 => s8 p p0 (by rw [f1] at p1; omega)⟩, ?_⟩
      match a, h with
      | none, h => exact f2
      | some b, h =>
        have h : if 16 < w.length then S.F 15 3 = 1 else S.F 15 3 = 0 ∧ KE_15 S b.length (os b) (gI b.flatten) ∧ S.F 15 2 = b.flatten.length + w.length ∧ ∀ i : Int, 0 ≤ i → i < w.length → S.A 17 (b.flatten.length + i) = gI w i := h
        show match (if 16 < w.length then none else if w ∈ b then some b else if b.length < 4 then some (b ++ [w]) else none) with | none => _ | some _ => _
        by_cases hw : 16 < w.length
        · rw [if_pos hw]
          exact f2
        · rw [if_neg hw] at h
          rw [if_neg hw]
          obtain ⟨q1, ⟨q2, q3, q4, q5⟩, q6, q7⟩ := h
          rw [os_n] at q3 q5
          have hm : ¬ w ∈ b := by
            intro hm
            obtain ⟨i, i0, i1, i2⟩ := mem_lt hm
            have b1 := os_s i0 (show i < b.length by omega)
            have b2 := os_le (a := b) (k := i + 1) (by omega) (by omega)
            have b3 := os_le (a := b) (k := i) (by omega) (by omega)
            rw [i2] at b1
            refine hb ⟨i, i0, by omega, ?_, fun j j0 j1 => ?_⟩
            · rw [q4 i i0 (by omega), q4 (i + 1) (by omega) (by omega)]
              omega
            · rw [q4 i i0 (by omega), q3, q5 _ (by omega) (by omega), q7 j j0 (by omega), lt_at i0 (by omega) j0 (by rw [i2]; omega), i2]
          rw [if_neg hm, if_neg (by omega)]
          exact f2
/-- literal k of the draft is what was put since -/
def same_30 (S : St) (k : Int) : Prop := S.A 33 (k + 1) - S.A 33 k = S.F 30 2 - S.F 31 3 ∧ ∀ j : Int, 0 ≤ j → j < S.F 30 2 - S.F 31 3 → S.A 32 (S.A 33 k + j) = S.A 32 (S.F 31 3 + j)
theorem g46L_30 {S : St} (hS : SF_30 S) : ∀ (r m : Nat) (k : Int), 0 ≤ k → k + r = S.F 31 2 → r < m → ((∃ i : Int, k ≤ i ∧ i < S.F 31 2 ∧ same_30 S i) → g46_30L15 S (S.F 30 2 - S.F 31 3) m k = some (.inr 1)) ∧ ((¬ ∃ i : Int, k ≤ i ∧ i < S.F 31 2 ∧ same_30 S i) → g46_30L15 S (S.F 30 2 - S.F 31 3) m k = some (.inl ())) := by
  obtain ⟨s1, s2, s3, s4, s5, s6, s7, s8⟩ := hS
  intro r
  induction r with
  | zero =>
    intro m k k0 hr hm
    obtain ⟨m, rfl⟩ : ∃ i, m = i + 1 := ⟨m - 1, by omega⟩
    refine ⟨fun ⟨i, i0, i1, _⟩ => absurd i1 (by omega), fun _ => ?_⟩
    unfold g46_30L15
    refine (gd_t (by first | exact ⟨by omega, by omega⟩ | exact ⟨by omega, by omega, by omega⟩ | exact ⟨by omega, by omega, by omega, by omega⟩ | omega | exact inR_to _ | assumption | decide)).trans ?_
    exact if_neg (by omega)
  | succ r ih =>
    intro m k k0 hr hm
    obtain ⟨m, rfl⟩ : ∃ i, m = i + 1 := ⟨m - 1, by omega⟩
    have a1 := s7 k k0 (by omega)
    have a2 := s7 (k + 1) (by omega) (by omega)
    have ih := ih m (k + 1) (by omega) (by omega) (by omega)
    have q := g47_t (S := S) (b := 32) (N := 80) (f := S.A0 32) (x := S.A 33 k) (y := S.F 31 3) (n := S.F 30 2 - S.F 31 3) rfl (by decide) a1.1 s3 (by omega) (by omega) (by omega) (by omega)
    have e : g46_30L15 S (S.F 30 2 - S.F 31 3) (m + 1) k = if S.A 33 (k + 1) - S.A 33 k = S.F 30 2 - S.F 31 3 then ob (g47 S 32 (S.A 33 k) (S.F 31 3) (S.F 30 2 - S.F 31 3)) (fun o19 => gd (inR o19) (if o19 = 0 then g46_30L15 S (S.F 30 2 - S.F 31 3) m (k + 1) else some (.inr 1))) else g46_30L15 S (S.F 30 2 - S.F 31 3) m (k + 1) := by
      rw [g46_30L15]
      refine (gd_t (by first | exact ⟨by omega, by omega⟩ | exact ⟨by omega, by omega, by omega⟩ | exact ⟨by omega, by omega, by omega, by omega⟩ | omega | exact inR_to _ | assumption | decide)).trans ?_
      rw [if_pos (by omega)]
      refine (gd_t (by first | exact ⟨by omega, by omega⟩ | exact ⟨by omega, by omega, by omega⟩ | exact ⟨by omega, by omega, by omega, by omega⟩ | omega | exact inR_to _ | assumption | decide)).trans ?_; refine (gd_t (by first | exact ⟨by omega, by omega⟩ | exact ⟨by omega, by omega, by omega⟩ | exact ⟨by omega, by omega, by omega, by omega⟩ | omega | exact inR_to _ | assumption | decide)).trans ?_; refine (gd_t (by first | exact ⟨by omega, by omega⟩ | exact ⟨by omega, by omega, by omega⟩ | exact ⟨by omega, by omega, by omega, by omega⟩ | omega | exact inR_to _ | assumption | decide)).trans ?_; refine (gd_t (by first | exact ⟨by omega, by omega⟩ | exact ⟨by omega, by omega, by omega⟩ | exact ⟨by omega, by omega, by omega, by omega⟩ | omega | exact inR_to _ | assumption | decide)).trans ?_
      rfl
    rw [e]
    by_cases hk : same_30 S k
    · refine ⟨fun _ => ?_, fun h => absurd ⟨k, by omega, by omega, hk⟩ h⟩
      rw [if_pos hk.1, q.1 ⟨by omega, by omega, fun j j0 j1 => Int32.toInt_inj.mp (hk.2 j j0 j1)⟩]
      rfl
    · have iff1 : (∃ i : Int, k ≤ i ∧ i < S.F 31 2 ∧ same_30 S i) ↔ ∃ i : Int, k + 1 ≤ i ∧ i < S.F 31 2 ∧ same_30 S i := by
        constructor
        · rintro ⟨i, i0, i1, i2⟩
          refine ⟨i, ?_, i1, i2⟩
          by_cases hi : i = k
          · exact absurd (hi ▸ i2) hk
          · omega
        · rintro ⟨i, i0, i1, i2⟩
          exact ⟨i, by omega, i1, i2⟩
      rw [iff1]
      by_cases hz : S.A 33 (k + 1) - S.A 33 k = S.F 30 2 - S.F 31 3
      · rw [if_pos hz, q.2 (fun h => hk ⟨hz, fun j j0 j1 => congrArg Int32.toInt (h.2.2 j j0 j1)⟩)]
        exact ih
      · rw [if_neg hz]
        exact ih
theorem g46_30_t {S : St} (hS : SF_30 S) : ((∃ i : Int, 0 ≤ i ∧ i < S.F 31 2 ∧ same_30 S i) → g46_30 S = some 1) ∧ ((¬ ∃ i : Int, 0 ≤ i ∧ i < S.F 31 2 ∧ same_30 S i) → g46_30 S = some 0) := by
  obtain ⟨m9, hm9⟩ := FU_ge (n := 100) (by decide)
  have s1 := hS.1
  have s2 := hS.2.1
  have h := g46L_30 hS (S.F 31 2).toNat FU 0 (by omega) (by omega) (by omega)
  constructor
  · intro e
    unfold g46_30
    rw [h.1 e]
    rfl
  · intro e
    unfold g46_30
    rw [h.2 e]
    rfl
theorem close_30 {S : St} {a : Option (List (List Int))} {w : List Int} (h : CP_30 S a w) (hw0 : 0 < w.length) : ∃ T, g45_30 S = some T ∧ Fr [30, 31, 32, 33] S T ∧ CP_30 T (stp a w) [] := by
  obtain ⟨hS, h⟩ := h
  have q := g46_30_t hS
  obtain ⟨s1, s2, s3, s4, s5, s6, s7, s8⟩ := hS
  have c1 : (S.f 30 2 (S.F 31 3)).F 30 2 = S.F 31 3 := (f_F (St.F_R _ _ _)).trans (by rw [if_pos rfl, if_pos rfl])
  have c2 : (S.f 30 2 (S.F 31 3)).F 30 3 = S.F 30 3 := (f_F (St.F_R _ _ _)).trans (by rw [if_pos rfl, if_neg (by decide)])
  by_cases hb : ∃ i : Int, 0 ≤ i ∧ i < S.F 31 2 ∧ same_30 S i
  · have e : g45_30 S = some (S.f 30 2 (S.F 31 3)) := by
      unfold g45_30
      rw [q.1 hb]
      rfl
    refine ⟨_, e, Fr.f (by decide), ⟨s1, s2, s3, s4, by rw [c1]; exact Int.le_refl _, by rw [c1]; show S.F 31 3 ≤ S.F 31 3 + 16; omega, s7, fun p p0 p1 => s8 p p0 (by rw [c1] at p1; omega)⟩, ?_⟩
    match a, h with
    | none, h => exact c2.trans h
    | some b, h =>
      have h : if 16 < w.length then S.F 30 3 = 1 else S.F 30 3 = 0 ∧ KE_30 S b.length (os b) (gI b.flatten) ∧ S.F 30 2 = b.flatten.length + w.length ∧ ∀ i : Int, 0 ≤ i → i < w.length → S.A 32 (b.flatten.length + i) = gI w i := h
      show match (if 16 < w.length then none else if w ∈ b then some b else if b.length < 4 then some (b ++ [w]) else none) with | none => _ | some _ => _
      by_cases hw : 16 < w.length
      · rw [if_pos hw] at h
        rw [if_pos hw]
        exact c2.trans h
      · rw [if_neg hw] at h
        rw [if_neg hw]
        obtain ⟨q1, ⟨q2, q3, q4, q5⟩, q6, q7⟩ := h
        rw [os_n] at q3
        have hm : w ∈ b := by
          obtain ⟨i, i0, i1, i2, i3⟩ := hb
          rw [q4 i i0 (by omega), q4 (i + 1) (by omega) (by omega), os_s i0 (by omega)] at i2
          have : lt b i = w := by
            apply gI_ext (by omega)
            intro j j0 j1
            have i3 := i3 j j0 (by omega)
            have b1 := os_s i0 (show i < b.length by omega)
            have b2 := os_le (a := b) (k := i + 1) (by omega) (by omega)
            have b3 := os_le (a := b) (k := i) (by omega) (by omega)
            rw [q4 i i0 (by omega), q3, q5 _ (by omega) (by rw [os_n]; omega), q7 j j0 (by omega), lt_at i0 (by omega) j0 j1] at i3
            exact i3
          rw [← this]
          exact lt_mem i0 (by omega)
        rw [if_pos hm]
        refine ⟨c2.trans q1, ⟨q2, q3.trans (os_n b).symm, q4, q5⟩, c1.trans (q3.trans (by simp)), fun i i0 i1 => absurd i1 (by show ¬ i < ((0 : Nat) : Int); omega)⟩
  · have e0 : g45_30 S = if (S.F 31 2) < 4 then some (((S.f 31 2 ((S.F 31 2) + 1)).a 33 ((S.F 31 2) + 1) (S.F 30 2)).f 31 3 (S.F 30 2)) else some ((S.f 30 3 1).f 30 2 (S.F 31 3)) := by
      unfold g45_30
      rw [q.2 hb]
      refine (ob_t rfl).trans ?_
      refine (gd_t (by first | exact ⟨by omega, by omega⟩ | exact ⟨by omega, by omega, by omega⟩ | exact ⟨by omega, by omega, by omega, by omega⟩ | omega | exact inR_to _ | assumption | decide)).trans ?_
      rw [if_pos rfl]
      split
      · refine (gd_t (by first | exact ⟨by omega, by omega⟩ | exact ⟨by omega, by omega, by omega⟩ | exact ⟨by omega, by omega, by omega, by omega⟩ | omega | exact inR_to _ | assumption | decide)).trans ?_
        rfl
      · rfl
    by_cases h4 : S.F 31 2 < 4
    · rw [if_pos h4] at e0
      refine ⟨_, e0, ((Fr.f (by decide)).trans (Fr.a (by decide))).trans (Fr.f (by decide)), ?_⟩
      have d1 : (((S.f 31 2 ((S.F 31 2) + 1)).a 33 ((S.F 31 2) + 1) (S.F 30 2)).f 31 3 (S.F 30 2)).F 31 2 = S.F 31 2 + 1 := (f_F (St.F_R _ _ _)).trans (by rw [if_pos rfl, if_neg (by decide)]; exact (f_F (by omega)).trans (by rw [if_pos rfl, if_pos rfl]))
      have d2 : (((S.f 31 2 ((S.F 31 2) + 1)).a 33 ((S.F 31 2) + 1) (S.F 30 2)).f 31 3 (S.F 30 2)).F 31 3 = S.F 30 2 := (f_F (St.F_R _ _ _)).trans (by rw [if_pos rfl, if_pos rfl])
      have d3 : (((S.f 31 2 ((S.F 31 2) + 1)).a 33 ((S.F 31 2) + 1) (S.F 30 2)).f 31 3 (S.F 30 2)).A 33 = upI (S.A 33) (S.F 31 2 + 1) (S.F 30 2) := aA_up (inR_to _)
      have d4 : ∀ k : Int, upI (S.A 33) (S.F 31 2 + 1) (S.F 30 2) k = if k = S.F 31 2 + 1 then S.F 30 2 else S.A 33 k := fun k => rfl
      refine ⟨⟨by omega, by omega, by rw [d2]; omega, by rw [d1, d2]; omega, by rw [d2]; exact Int.le_refl _, by rw [d2]; show S.F 30 2 ≤ S.F 30 2 + 16; omega, fun k k0 k1 => ?_, s8⟩, ?_⟩
      · rw [d1] at k1
        rw [d3, d4]
        split
        · omega
        · exact s7 k k0 (by omega)
      · match a, h with
        | none, h => exact h
        | some b, h =>
          have h : if 16 < w.length then S.F 30 3 = 1 else S.F 30 3 = 0 ∧ KE_30 S b.length (os b) (gI b.flatten) ∧ S.F 30 2 = b.flatten.length + w.length ∧ ∀ i : Int, 0 ≤ i → i < w.length → S.A 32 (b.flatten.length + i) = gI w i := h
          show match (if 16 < w.length then none else if w ∈ b then some b else if b.length < 4 then some (b ++ [w]) else none) with | none => _ | some _ => _
          by_cases hw : 16 < w.length
          · rw [if_pos hw] at h
            rw [if_pos hw]
            exact h
          · rw [if_neg hw] at h
            rw [if_neg hw]
            obtain ⟨q1, ⟨q2, q3, q4, q5⟩, q6, q7⟩ := h
            rw [os_n] at q3 q5
            have hm : ¬ w ∈ b := by
              intro hm
              obtain ⟨i, i0, i1, i2⟩ := mem_lt hm
              have b1 := os_s i0 (show i < b.length by omega)
              have b2 := os_le (a := b) (k := i + 1) (by omega) (by omega)
              have b3 := os_le (a := b) (k := i) (by omega) (by omega)
              rw [i2] at b1
              refine hb ⟨i, i0, by omega, ?_, fun j j0 j1 => ?_⟩
              · rw [q4 i i0 (by omega), q4 (i + 1) (by omega) (by omega)]
                omega
              · rw [q4 i i0 (by omega), q3, q5 _ (by omega) (by omega), q7 j j0 (by omega), lt_at i0 (by omega) j0 (by rw [i2]; omega), i2]
            rw [if_neg hm, if_pos (by omega)]
            have f1 : ((b ++ [w]).length : Int) = b.length + 1 := by rw [List.length_append]; rfl
            have f2 : (((b ++ [w]).flatten).length : Int) = b.flatten.length + w.length := by rw [List.flatten_append, List.length_append]; simp
            refine ⟨q1, ⟨d1.trans (by omega), ?_, fun k k0 k1 => ?_, fun p p0 p1 => ?_⟩, ?_, fun i i0 i1 => absurd i1 (by show ¬ i < ((0 : Nat) : Int); omega)⟩
            · rw [d2, os_n]
              omega
            · rw [d3, d4]
              by_cases hk : k = b.length + 1
              · rw [if_pos (by omega), hk, os_app1]
                omega
              · rw [if_neg (by omega), os_app (by omega)]
                exact q4 k k0 (by omega)
            · rw [os_n] at p1
              show S.A 32 p = _
              rw [List.flatten_append, show [w].flatten = w by simp]
              by_cases hp : p < b.flatten.length
              · rw [gI_l hp p0]
                exact q5 p p0 hp
              · rw [gI_r (by omega)]
                have := q7 (p - b.flatten.length) (by omega) (by omega)
                rw [show (b.flatten.length : Int) + (p - b.flatten.length) = p by omega] at this
                exact this
            · show S.F 30 2 = (b ++ [w]).flatten.length + ((0 : Nat) : Int)
              omega
    · rw [if_neg h4] at e0
      have f1 : ((S.f 30 3 1).f 30 2 (S.F 31 3)).F 30 2 = S.F 31 3 := (f_F (St.F_R _ _ _)).trans (by rw [if_pos rfl, if_pos rfl])
      have f2 : ((S.f 30 3 1).f 30 2 (S.F 31 3)).F 30 3 = 1 := (f_F (St.F_R _ _ _)).trans (by rw [if_pos rfl, if_neg (by decide)]; exact (f_F (by decide)).trans (by rw [if_pos rfl, if_pos rfl]))
      refine ⟨_, e0, (Fr.f (by decide)).trans (Fr.f (by decide)), ⟨s1, s2, s3, s4, by rw [f1]; exact Int.le_refl _, by rw [f1]; show S.F 31 3 ≤ S.F 31 3 + 16; omega, s7, fun p p0 p1 => s8 p p0 (by rw [f1] at p1; omega)⟩, ?_⟩
      match a, h with
      | none, h => exact f2
      | some b, h =>
        have h : if 16 < w.length then S.F 30 3 = 1 else S.F 30 3 = 0 ∧ KE_30 S b.length (os b) (gI b.flatten) ∧ S.F 30 2 = b.flatten.length + w.length ∧ ∀ i : Int, 0 ≤ i → i < w.length → S.A 32 (b.flatten.length + i) = gI w i := h
        show match (if 16 < w.length then none else if w ∈ b then some b else if b.length < 4 then some (b ++ [w]) else none) with | none => _ | some _ => _
        by_cases hw : 16 < w.length
        · rw [if_pos hw]
          exact f2
        · rw [if_neg hw] at h
          rw [if_neg hw]
          obtain ⟨q1, ⟨q2, q3, q4, q5⟩, q6, q7⟩ := h
          rw [os_n] at q3 q5
          have hm : ¬ w ∈ b := by
            intro hm
            obtain ⟨i, i0, i1, i2⟩ := mem_lt hm
            have b1 := os_s i0 (show i < b.length by omega)
            have b2 := os_le (a := b) (k := i + 1) (by omega) (by omega)
            have b3 := os_le (a := b) (k := i) (by omega) (by omega)
            rw [i2] at b1
            refine hb ⟨i, i0, by omega, ?_, fun j j0 j1 => ?_⟩
            · rw [q4 i i0 (by omega), q4 (i + 1) (by omega) (by omega)]
              omega
            · rw [q4 i i0 (by omega), q3, q5 _ (by omega) (by omega), q7 j j0 (by omega), lt_at i0 (by omega) j0 (by rw [i2]; omega), i2]
          rw [if_neg hm, if_neg (by omega)]
          exact f2
