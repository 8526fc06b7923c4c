/-! a clause laid into the pool -/
def sh (z x : Int) : Int := if x < 32768 then x + z * 256 else x
/-- clause (n, o, u0) stands in the pool u from z on -/
def IN (u : Int → Int) (z n : Int) (o u0 : Int → Int) : Prop := ∀ p : Int, 0 ≤ p → p < o n → u (z + p) = sh z (u0 p)
theorem sh_ar {z x : Int} : sh z x % 256 = x % 256 := by
  unfold sh
  split <;> omega
theorem sh_big {z x : Int} (h : ¬ x < 32768) : sh z x = x := if_neg h
theorem Tm_mid {al : Int → Int} : ∀ (m : Nat) (o a : Int) (d : Nat), d < m → Tm al m o a → ∃ o', 0 < o' ∧ Tm al (m - d) o' (a + d) := by
  intro m
  induction m with
  | zero => intro o a d h; omega
  | succ m ih =>
    intro o a d hd h
    cases d with
    | zero =>
      have h' : 0 < o ∧ Tm al m (o - 1 + al a) (a + 1) := h
      refine ⟨o, h'.1, ?_⟩
      rw [show a + ((0 : Nat) : Int) = a by omega]
      exact h
    | succ d =>
      have h : 0 < o ∧ Tm al m (o - 1 + al a) (a + 1) := h
      obtain ⟨o', h1, h2⟩ := ih _ _ d (by omega) h.2
      refine ⟨o', h1, ?_⟩
      rw [show m + 1 - (d + 1) = m - d by omega, show a + ((d + 1 : Nat) : Int) = a + 1 + d by omega]
      exact h2
theorem in_lit {al : Int → Int} (ha : ∀ q, 0 ≤ al q) {m n : Nat} {a p : Int} (h : Tm al m 1 a) (h1 : a ≤ p) (h2 : p < a + m) (hn : Tm al n 1 p) : p + n ≤ a + m := by
  obtain ⟨d, hd⟩ : ∃ d : Nat, p = a + d := ⟨(p - a).toNat, by omega⟩
  obtain ⟨o', o1, o2⟩ := Tm_mid m 1 a d (by omega) h
  rw [show o' = 1 + (o' - 1) by omega] at o2
  obtain ⟨k, k1, k2, _⟩ := Tm_split ha _ 1 _ _ (by omega) (by omega) o2
  rw [← hd] at k2
  have := Tm_uniq _ _ _ _ hn k2
  omega
theorem AU_mk {u : Int → Int} {w1 w2 : Int} (hU : PU u w1 w2) (hl : ∀ p, PC w1 w2 p → ∃ (a : Int) (m : Nat), Tm (ax u) m 1 a ∧ a ≤ p ∧ p < a + m ∧ ∀ y, a < y → y < a + m → u y < 131072) : AU u w1 w2 := fun p hp j hj => by
  obtain ⟨a, m, h1, h2, h3, h4⟩ := hl p (hp.pc hU)
  obtain ⟨k, k1, k2, k3⟩ := ag_t hU hp j (by omega)
  have kl := Tm_le (ax_0 u) _ _ _ k1
  have h5 := in_lit (ax_0 u) h1 h2 h3 (hp.tz hU).1
  exact h4 _ (by omega) (by omega)
theorem lit_at {n : Int} {o : Int → Int} {p : Int} : ∀ (r : Nat) (k : Int), k + r = n → 0 ≤ k → o k ≤ p → p < o n → ∃ j : Int, 0 ≤ j ∧ j < n ∧ o j ≤ p ∧ p < o (j + 1) := by
  intro r
  induction r with
  | zero =>
    intro k hk k0 h1 h2
    have e : k = n := by omega
    rw [e] at h1
    omega
  | succ r ih =>
    intro k hk k0 h1 h2
    by_cases h : p < o (k + 1)
    · exact ⟨k, k0, by omega, h1, h⟩
    · exact ih (k + 1) (by omega) (by omega) (by omega) h2
theorem IN.v {u : Int → Int} {z n : Int} {o u0 : Int → Int} (h : IN u z n o u0) (hW : WV n o u0) (ho : o n ≤ 16) (hz : z = 0 ∨ z = 16) (p : Int) (h1 : z ≤ p) (h2 : p < z + o n) : vx (u p) ∧ (u p < 32768 → u p / 256 < 32) := by
  have e := h (p - z) (by omega) (by omega)
  rw [show z + (p - z) = p by omega] at e
  have v := hW.2.1 (p - z) (by omega) (by omega)
  have w := hW.1.2.2.2.2.2.2 (p - z) (by omega) (by omega)
  rw [e]
  unfold sh
  by_cases hx : u0 (p - z) < 32768
  · rw [if_pos hx]
    have w := w.2 hx
    unfold vx at v ⊢
    rcases hz with hz | hz <;> subst hz <;> omega
  · rw [if_neg hx]
    exact ⟨v, fun h3 => absurd h3 hx⟩
theorem IN.lt {u : Int → Int} {z n : Int} {o u0 : Int → Int} (h : IN u z n o u0) (hW : WV n o u0) (hz : z = 0 ∨ z = 16) {k : Int} (k0 : 0 ≤ k) (k1 : k < n) : Tm (ax u) (o (k + 1) - o k).toNat 1 (z + o k) ∧ 0 ≤ o k ∧ o k < o (k + 1) ∧ o (k + 1) ≤ o n ∧ u (z + o k) = u0 (o k) ∧ 131072 ≤ u0 (o k) ∧ ∀ y, z + o k < y → y < z + o (k + 1) → u y < 131072 := by
  have w5 := hW.1.2.2.2.2.1 k k0 k1
  have w6 := hW.1.2.2.2.2.2.1
  have a1 := w6 k k0 (by omega)
  have a2 := w6 (k + 1) (by omega) (by omega)
  have hh := hW.2.2 k k0 k1
  refine ⟨?_, a1.1, w5.1, a2.2, ?_, hh.1, fun y y1 y2 => ?_⟩
  · rw [Int.add_comm z]
    refine Tm_ext _ _ _ (fun i i0 i1 => ?_) w5.2
    show u0 (o k + i) % 256 = u (o k + z + i) % 256
    have e := h (o k + i) (by omega) (by omega)
    rw [show o k + z + i = z + (o k + i) by omega, e, sh_ar]
  · rw [h (o k) a1.1 (by omega), sh_big (by omega)]
  · have e := h (y - z) (by omega) (by omega)
    rw [show z + (y - z) = y by omega] at e
    have b := hh.2 (y - z) (by omega) (by omega)
    have v := hW.1.2.2.2.2.2.2 (y - z) (by omega) (by omega)
    rw [e]
    unfold sh
    by_cases hx : u0 (y - z) < 32768
    · rw [if_pos hx]
      rcases hz with hz | hz <;> subst hz <;> omega
    · rw [if_neg hx]
      exact b
theorem IN.lit {u : Int → Int} {z n : Int} {o u0 : Int → Int} (h : IN u z n o u0) (hW : WV n o u0) (hz : z = 0 ∨ z = 16) (p : Int) (h1 : z ≤ p) (h2 : p < z + o n) : ∃ (a : Int) (m : Nat), Tm (ax u) m 1 a ∧ a ≤ p ∧ p < a + m ∧ ∀ y, a < y → y < a + m → u y < 131072 := by
  obtain ⟨n', hn⟩ : ∃ k : Nat, (k : Int) = n := ⟨n.toNat, by have := hW.1.1; omega⟩
  obtain ⟨j, j0, j1, j2, j3⟩ := lit_at (n := n) (p := p - z) (o := o) n' 0 (by omega) (by omega) (by rw [hW.1.2.2.1]; omega) (by omega)
  have hl := h.lt hW hz j0 j1
  exact ⟨z + o j, _, hl.1, by omega, by omega, fun y y1 y2 => hl.2.2.2.2.2.2 y y1 (by omega)⟩
