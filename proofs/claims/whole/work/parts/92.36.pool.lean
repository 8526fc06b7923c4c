/-! the pool of the unifier: places of one clause or two -/
def PC (w1 w2 p : Int) : Prop := (0 ≤ p ∧ p < w1) ∨ (16 ≤ p ∧ p < 16 + w2)
def TP (u : Int → Int) (w1 w2 p : Int) : Prop := ∃ n : Nat, Tm (ax u) n 1 p ∧ ((0 ≤ p ∧ p + n ≤ w1) ∨ (16 ≤ p ∧ p + n ≤ 16 + w2))
def PU (u : Int → Int) (w1 w2 : Int) : Prop := 0 ≤ w1 ∧ w1 ≤ 16 ∧ 0 ≤ w2 ∧ w2 ≤ 16 ∧ ∀ p, PC w1 w2 p → vx (u p) ∧ (u p < 32768 → u p / 256 < 32)
/-- the place of the j-th term of what stands at p -/
def ag (u : Int → Int) (p : Int) : Nat → Int
  | 0 => p + 1
  | j + 1 => ag u p j + tz u (ag u p j)
theorem TP.tz {u : Int → Int} {w1 w2 p : Int} (hU : PU u w1 w2) (h : TP u w1 w2 p) : Tm (ax u) (tz u p) 1 p ∧ ((0 ≤ p ∧ p + tz u p ≤ w1) ∨ (16 ≤ p ∧ p + tz u p ≤ 16 + w2)) ∧ 1 ≤ tz u p ∧ tz u p ≤ 16 := by
  obtain ⟨n, h1, h2⟩ := h
  obtain ⟨a1, a2, a3, a4, _⟩ := hU
  have hl := Tm_le (ax_0 u) n 1 p h1
  have e := tz_Tm h1 (by omega)
  rw [e]
  exact ⟨h1, h2, by omega, by omega⟩
theorem TP.pc {u : Int → Int} {w1 w2 p : Int} (hU : PU u w1 w2) (h : TP u w1 w2 p) : PC w1 w2 p := by
  obtain ⟨h1, h2, h3, h4⟩ := h.tz hU
  unfold PC
  omega
theorem PC.lt {u : Int → Int} {w1 w2 p : Int} (hU : PU u w1 w2) (h : PC w1 w2 p) : 0 ≤ p ∧ p < 32 := by
  obtain ⟨a1, a2, a3, a4, _⟩ := hU
  unfold PC at h
  omega
theorem ag_t {u : Int → Int} {w1 w2 p : Int} (hU : PU u w1 w2) (h : TP u w1 w2 p) : ∀ j : Nat, (j : Int) ≤ u p % 256 → ∃ m : Nat, Tm (ax u) m (u p % 256 - j) (ag u p j) ∧ ag u p j + m = p + tz u p ∧ p + 1 + j ≤ ag u p j := by
  obtain ⟨h1, h2, h3, h4⟩ := h.tz hU
  intro j
  induction j with
  | zero =>
    intro _
    obtain ⟨n, hn⟩ : ∃ n, tz u p = n + 1 := ⟨tz u p - 1, by omega⟩
    rw [hn] at h1
    have h1 : 0 < (1 : Int) ∧ Tm (ax u) n (1 - 1 + ax u p) (p + 1) := h1
    refine ⟨n, ?_, by show p + 1 + (n : Int) = _; omega, by show _ ≤ p + 1; omega⟩
    show Tm (ax u) n (u p % 256 - ((0 : Nat) : Int)) (p + 1)
    have e : (1 : Int) - 1 + ax u p = u p % 256 - ((0 : Nat) : Int) := by unfold ax; omega
    rw [← e]
    exact h1.2
  | succ j ih =>
    intro hj
    obtain ⟨m, m1, m2, m3⟩ := ih (by omega)
    rw [show u p % 256 - (j : Int) = 1 + (u p % 256 - ((j + 1 : Nat) : Int)) by omega] at m1
    obtain ⟨k, k1, k2, k3⟩ := Tm_split (ax_0 u) m 1 _ (ag u p j) (by omega) (by omega) m1
    have e := tz_Tm k2 (by omega)
    have hk := Tm_le (ax_0 u) k 1 _ k2
    refine ⟨m - k, ?_, ?_, ?_⟩
    · show Tm (ax u) (m - k) _ (ag u p j + tz u (ag u p j))
      rw [e]
      exact k3
    · show ag u p j + tz u (ag u p j) + ((m - k : Nat) : Int) = _
      rw [e]
      omega
    · show _ ≤ ag u p j + tz u (ag u p j)
      rw [e]
      omega
theorem ag_TP {u : Int → Int} {w1 w2 p : Int} (hU : PU u w1 w2) (h : TP u w1 w2 p) {j : Nat} (hj : (j : Int) < u p % 256) : TP u w1 w2 (ag u p j) ∧ p < ag u p j := by
  obtain ⟨m, m1, m2, m3⟩ := ag_t hU h j (by omega)
  obtain ⟨h1, h2, h3, h4⟩ := h.tz hU
  rw [show u p % 256 - (j : Int) = 1 + (u p % 256 - j - 1) by omega] at m1
  obtain ⟨k, k1, k2, k3⟩ := Tm_split (ax_0 u) m 1 _ (ag u p j) (by omega) (by omega) m1
  exact ⟨⟨k, k2, by omega⟩, by omega⟩
theorem ar_15 {u : Int → Int} {w1 w2 p : Int} (hU : PU u w1 w2) (h : TP u w1 w2 p) : 0 ≤ u p % 256 ∧ u p % 256 ≤ 15 := by
  obtain ⟨m, m1, m2, m3⟩ := ag_t hU h 0 (by omega)
  obtain ⟨h1, h2, h3, h4⟩ := h.tz hU
  have := Tm_le (ax_0 u) m _ _ m1
  have e : ag u p 0 = p + 1 := rfl
  rw [e] at m2
  omega
/-- the class's pool and the other's -/
def SC (u : Int → Int) (w1 w2 : Int) (S : St) : Prop := ∀ p, PC w1 w2 p → S.A 21 p = u p
def SM (u : Int → Int) (w1 w2 : Int) (T : St) : Prop := ∀ p, PC w1 w2 p → T.A 46 p = mo (u p)
theorem end_c {u : Int → Int} {w1 w2 p : Int} {S : St} (hU : PU u w1 w2) (hS : SC u w1 w2 S) (h : TP u w1 w2 p) : g57 S 21 p 32 = some (p + tz u p) := by
  obtain ⟨h1, h2, h3, h4⟩ := h.tz hU
  obtain ⟨a1, a2, a3, a4, _⟩ := hU
  refine g57_t (S := S) (b := 21) (N := 32) (f := S.A0 21) rfl (by omega) (by omega) ?_ (by omega) (by omega)
  have := Tm_ext (d := 0) (be := fun q => S.A 21 q % 256) (tz u p) 1 p (fun i i0 i1 => by
    show u (p + i) % 256 = S.A 21 (p + 0 + i) % 256
    rw [show p + 0 + i = p + i by omega, hS (p + i) (by unfold PC; omega)]) h1
  rw [show p + 0 = p by omega] at this
  exact this
theorem end_m {u : Int → Int} {w1 w2 p : Int} {T : St} (hU : PU u w1 w2) (hT : SM u w1 w2 T) (h : TP u w1 w2 p) : g125 T 46 p = some (p + tz u p) := by
  obtain ⟨h1, h2, h3, h4⟩ := h.tz hU
  obtain ⟨a1, a2, a3, a4, a5⟩ := hU
  refine g125_t (S := T) (b := 46) (N := 1024) (f := T.A0 46) rfl (by decide) ?_ (by omega) (by omega)
  have := Tm_ext (d := 0) (be := fun q => arM (T.A 46 q)) (tz u p) 1 p (fun i i0 i1 => by
    show u (p + i) % 256 = arM (T.A 46 (p + 0 + i))
    have hp : PC w1 w2 (p + i) := by unfold PC; omega
    rw [show p + 0 + i = p + i by omega, hT (p + i) hp, mo_ar (a5 _ hp).1]) h1
  rw [show p + 0 = p by omega] at this
  exact this
theorem g124L_t {u : Int → Int} {w1 w2 p : Int} {T : St} (hU : PU u w1 w2) (hT : SM u w1 w2 T) (h : TP u w1 w2 p) {j : Nat} (hj : (j : Int) < u p % 256) : ∀ (r n i : Nat), i + r = j → r < n → g124L7 T j n (ag u p i) i = some (ag u p j) := by
  have h15 := ar_15 hU h
  intro r
  induction r with
  | zero =>
    intro n i e hn
    obtain ⟨n, rfl⟩ : ∃ k, n = k + 1 := ⟨n - 1, by omega⟩
    have : i = j := by omega
    subst this
    unfold g124L7
    refine (gd_t (by first | exact ⟨by omega, by omega⟩ | exact ⟨by omega, by omega, by omega⟩ | exact ⟨by omega, by omega, by omega, by omega⟩ | omega | exact inR_to _ | assumption | decide)).trans ?_; refine (gd_t (by first | exact ⟨by omega, by omega⟩ | exact ⟨by omega, by omega, by omega⟩ | exact ⟨by omega, by omega, by omega, by omega⟩ | omega | exact inR_to _ | assumption | decide)).trans ?_
    exact if_neg (by omega)
  | succ r ih =>
    intro n i e hn
    obtain ⟨n, rfl⟩ : ∃ k, n = k + 1 := ⟨n - 1, by omega⟩
    rw [g124L7]
    refine (gd_t (by first | exact ⟨by omega, by omega⟩ | exact ⟨by omega, by omega, by omega⟩ | exact ⟨by omega, by omega, by omega, by omega⟩ | omega | exact inR_to _ | assumption | decide)).trans ?_; refine (gd_t (by first | exact ⟨by omega, by omega⟩ | exact ⟨by omega, by omega, by omega⟩ | exact ⟨by omega, by omega, by omega, by omega⟩ | omega | exact inR_to _ | assumption | decide)).trans ?_
    rw [if_pos (by omega), end_m hU hT (ag_TP hU h (j := i) (by omega)).1]
    exact ih n (i + 1) (by omega) (by omega)
theorem g124_t {u : Int → Int} {w1 w2 p : Int} {T : St} (hU : PU u w1 w2) (hT : SM u w1 w2 T) (h : TP u w1 w2 p) {j : Nat} (hj : (j : Int) < u p % 256) : g124 T p j = some (ag u p j) := by
  obtain ⟨m9, hm9⟩ := FU_ge (n := 300) (by decide)
  have h15 := ar_15 hU h
  have := g124L_t hU hT h hj j FU 0 (by omega) (by omega)
  unfold g124
  have this : g124L7 T j FU (p + 1) 0 = some (ag u p j) := this
  rw [this]
  rfl
theorem m122 {u : Int → Int} {w1 w2 p : Int} {T : St} (hU : PU u w1 w2) (hT : SM u w1 w2 T) (h : PC w1 w2 p) : g122 T (T.A 46 p) = some (if u p < 32768 then 1 else 0) := by
  have v := (hU.2.2.2.2 p h).1
  have e := hT p h
  have q := g122_t (S := T) (x := T.A 46 p) (St.A_R _ _ _)
  rw [q, e]
  have := mo_v v
  by_cases hx : u p < 32768
  · rw [if_pos hx, if_pos (this.mpr hx)]
  · rw [if_neg hx, if_neg (fun e => hx (this.mp e))]
theorem m123 {u : Int → Int} {w1 w2 p : Int} {T : St} (hU : PU u w1 w2) (hT : SM u w1 w2 T) (h : PC w1 w2 p) : g123 T (T.A 46 p) = some (u p % 256) := by
  have v := (hU.2.2.2.2 p h).1
  have q := g123_t (S := T) (x := T.A 46 p) (St.A_R _ _ _)
  rw [q, hT p h, mo_ar v]
