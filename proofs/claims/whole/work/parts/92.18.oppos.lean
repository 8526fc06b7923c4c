/-! literals that deny each other -/
theorem xor1 (n : Nat) : (n ^^^ 1) / 2 = n / 2 ∧ (n ^^^ 1) % 2 = 1 - n % 2 := by
  have h1 := Nat.xor_div_two_pow (a := n) (b := 1) (n := 1)
  have h2 := Nat.xor_mod_two_pow (a := n) (b := 1) (n := 1)
  rw [Nat.pow_one] at h1 h2
  refine ⟨?_, ?_⟩
  · rw [h1]
    show n / 2 ^^^ 0 = _
    rw [Nat.xor_zero]
  · rw [h2]
    rcases Nat.mod_two_eq_zero_or_one n with e | e <;> rw [e] <;> rfl
theorem xor256 (x : Nat) : (x ^^^ 256) % 256 = x % 256 ∧ (x ^^^ 256) / 256 / 2 = x / 256 / 2 ∧ (x ^^^ 256) / 256 % 2 = 1 - x / 256 % 2 := by
  have h1 := Nat.xor_div_two_pow (a := x) (b := 256) (n := 8)
  have h2 := Nat.xor_mod_two_pow (a := x) (b := 256) (n := 8)
  have e1 : (2 : Nat) ^ 8 = 256 := by decide
  rw [e1] at h1 h2
  have h3 := xor1 (x / 256)
  refine ⟨?_, ?_, ?_⟩
  · rw [h2]
    show x % 256 ^^^ 0 = _
    rw [Nat.xor_zero]
  · rw [h1]
    exact h3.1
  · rw [h1]
    exact h3.2
theorem xr_256 {x y : Int} (hx : 0 ≤ x) (hy : 0 ≤ y) : xr x y = 256 ↔ x % 256 = y % 256 ∧ x / 256 / 2 = y / 256 / 2 ∧ x / 256 % 2 ≠ y / 256 % 2 := by
  have h := xor256 x.toNat
  have key : xr x y = 256 ↔ y.toNat = x.toNat ^^^ 256 := by
    unfold xr
    constructor
    · intro e
      have e : x.toNat ^^^ y.toNat = 256 := by omega
      rw [← e, ← Nat.xor_assoc, Nat.xor_self, Nat.zero_xor]
    · intro e
      rw [e, ← Nat.xor_assoc, Nat.xor_self, Nat.zero_xor]
      rfl
  rw [key]
  constructor
  · intro e
    rw [← e] at h
    omega
  · intro e
    omega
/-- the heads of two literals, one the other's denial -/
theorem xr_mo {x y : Int} (hx : vx x) (hy : vx y) (ax : 131072 ≤ x) (ay : 131072 ≤ y) : xr x y = 256 ↔ dn x ≠ dn y ∧ mo x = mo y := by
  rw [xr_256 (by omega) (by omega)]
  unfold vx at hx hy
  unfold dn mo
  rw [if_neg (by omega), if_neg (by omega), if_neg (by omega), if_neg (by omega), if_neg (by omega), if_neg (by omega)]
  constructor <;> intro h <;> omega
theorem mo_at {x y : Int} (hx : vx x) (hy : vx y) (ax : x < 131072) (ay : 131072 ≤ y) : mo x ≠ mo y := by
  intro e
  unfold vx at hx hy
  unfold mo at e
  rw [if_neg (show ¬ y < 32768 by omega), if_neg (show ¬ y < 65536 by omega), if_neg (show ¬ y < 131072 by omega)] at e
  rcases hx with h | h | h | h
  · rw [if_pos (by omega)] at e; omega
  · rw [if_neg (by omega), if_pos (by omega)] at e; omega
  · rw [if_neg (by omega), if_neg (by omega), if_pos (by omega)] at e; omega
  · omega
theorem mo_eq {x y : Int} (hx : vx x) (hy : vx y) (ax : x < 131072) : mo x = mo y ↔ x = y := by
  by_cases ay : 131072 ≤ y
  · exact ⟨fun e => absurd e (mo_at hx hy ax ay), fun e => by rw [e]⟩
  · exact mo_inj hx hy (by omega) (fun h => by omega)
/-- literal l denies literal m -/
def opp (o u : Int → Int) (l m : Int) : Prop := dn (u (o l)) ≠ dn (u (o m)) ∧ ∀ k : Int, 0 ≤ k → k < o (l + 1) - o l → mo (u (o l + k)) = mo (u (o m + k))
/-- the draft that stands at 15: its clause -/
def KD (S : St) (n : Int) (o u : Int → Int) : Prop := S.F 16 2 = n ∧ S.F 16 3 = o n ∧ (∀ k : Int, 0 ≤ k → k ≤ n → S.A 18 k = o k) ∧ ∀ p : Int, 0 ≤ p → p < o n → S.A 17 p = u p
theorem KD.KC {S : St} {n : Int} {o u : Int → Int} (h : KD S n o u) (hn : n ≤ 4) (ho : o n ≤ 64) : KC S 16 n o u := by
  obtain ⟨h1, h2, h3, h4⟩ := h
  exact ⟨17, 18, 80, 5, S.A0 17, S.A0 18, S.F0 16 2, S.F0 16 3, rfl, h1, h2, rfl, rfl, by omega, by decide, by omega, by decide, h3, h4⟩
theorem g52_t {S : St} {n l m : Int} {o u : Int → Int} (h : KD S n o u) (hW : WV n o u) (l0 : 0 ≤ l) (l1 : l < n) (m0 : 0 ≤ m) (m1 : m < l) : (opp o u l m → g52_15 S (o l) (o m) (o (l + 1)) = some 1) ∧ (¬ opp o u l m → g52_15 S (o l) (o m) (o (l + 1)) = some 0) := by
  obtain ⟨h1, h2, h3, h4⟩ := h
  obtain ⟨⟨w1, w2, w3, w4, w5, w6, w7⟩, wv, wh⟩ := hW
  have a1 := w5 l l0 l1
  have a2 := w6 l l0 (by omega)
  have a3 := w6 (l + 1) (by omega) (by omega)
  have a4 := w6 m m0 (by omega)
  have a5 := w5 m m0 (by omega)
  have a6 := w6 (m + 1) (by omega) (by omega)
  have b1 := wh l l0 l1
  have b2 := wh m m0 (by omega)
  have hml : o m < o l := by
    have : ∀ (d : Nat), m + 1 + d ≤ n → o (m + 1) ≤ o (m + 1 + d) := by
      intro d
      induction d with
      | zero => intro _; rw [show m + 1 + ((0 : Nat) : Int) = m + 1 by omega]; exact Int.le_refl _
      | succ d ih =>
        intro hd
        have h5 := w5 (m + 1 + d) (by omega) (by omega)
        have h6 := ih (by omega)
        rw [show m + 1 + ((d + 1 : Nat) : Int) = m + 1 + d + 1 by omega]
        omega
    have := this (l - (m + 1)).toNat (by omega)
    rw [show m + 1 + ((l - (m + 1)).toNat : Int) = l by omega] at this
    omega
  have c1 := h4 (o l) a2.1 (by omega)
  have c2 := h4 (o m) a4.1 (by omega)
  have x1 := wv (o l) a2.1 (by omega)
  have x2 := wv (o m) a4.1 (by omega)
  have y1 := w7 (o l) a2.1 (by omega)
  have y2 := w7 (o m) a4.1 (by omega)
  have z1 : u (o l) < 2147483648 := by unfold vx at x1; omega
  have z2 : u (o m) < 2147483648 := by unfold vx at x2; omega
  have nx : noR (u (o l)) ∧ noR (u (o m)) := ⟨⟨y1.1, z1⟩, y2.1, z2⟩
  have hxr := xr_R nx
  have hk := xr_mo x1 x2 b1.1 b2.1
  have q47 := g47_t (S := S) (b := 17) (N := 80) (f := S.A0 17) (x := o l + 1) (y := o m + 1) (n := o (l + 1) - o l - 1) rfl (by decide) (by omega) (by omega) (by omega) (by omega) (by omega) (by omega)
  have e0 : ∀ z, (if xr (u (o l)) (u (o m)) = 256 then ob (g47 S 17 (o l + 1) (o m + 1) (o (l + 1) - o l - 1)) (fun o6 => gd (inR o6) (if o6 = 0 then some 0 else some 1)) else some 0) = z → g52_15 S (o l) (o m) (o (l + 1)) = z := by
    intro z hz
    rw [← hz]
    unfold g52_15
    refine (gd_t (by first | exact ⟨by omega, by omega⟩ | exact ⟨by omega, by omega, by omega⟩ | exact ⟨by omega, by omega, by omega, by omega⟩ | omega | exact inR_to _ | assumption | decide)).trans ?_; refine (gd_t (by first | exact ⟨by omega, by omega⟩ | exact ⟨by omega, by omega, by omega⟩ | exact ⟨by omega, by omega, by omega, by omega⟩ | omega | exact inR_to _ | assumption | decide)).trans ?_
    rw [c1, c2]
    refine (gd_t nx).trans ?_
    refine (gd_t ⟨by have := hxr.1; omega, hxr.2⟩).trans ?_
    rfl
  have hh : opp o u l m ↔ xr (u (o l)) (u (o m)) = 256 ∧ ((o l + 1 + (o (l + 1) - o l - 1) ≤ ((80 : Nat) : Int)) ∧ (o m + 1 + (o (l + 1) - o l - 1) ≤ ((80 : Nat) : Int)) ∧ ∀ j : Int, 0 ≤ j → j < o (l + 1) - o l - 1 → S.A0 17 (o l + 1 + j) = S.A0 17 (o m + 1 + j)) := by
    have eq : ∀ j : Int, 0 ≤ j → j < o (l + 1) - o l - 1 → (S.A0 17 (o l + 1 + j) = S.A0 17 (o m + 1 + j) ↔ mo (u (o l + (j + 1))) = mo (u (o m + (j + 1)))) := by
      intro j j0 j1
      have d1 := h4 (o l + 1 + j) (by omega) (by omega)
      have d2 := h4 (o m + 1 + j) (by omega) (by omega)
      have d3 : S.A0 17 (o l + 1 + j) = S.A0 17 (o m + 1 + j) ↔ u (o l + 1 + j) = u (o m + 1 + j) := by
        rw [← d1, ← d2]
        exact Int32.toInt_inj.symm
      rw [d3, show o l + (j + 1) = o l + 1 + j by omega, show o m + (j + 1) = o m + 1 + j by omega]
      exact (mo_eq (wv _ (by omega) (by omega)) (wv _ (by omega) (by omega)) (b1.2 _ (by omega) (by omega))).symm
    rw [hk]
    constructor
    · rintro ⟨p1, p2⟩
      have p3 := p2 0 (by omega) (by omega)
      rw [Int.add_zero, Int.add_zero] at p3
      exact ⟨⟨p1, p3⟩, by omega, by omega, fun j j0 j1 => (eq j j0 j1).mpr (p2 (j + 1) (by omega) (by omega))⟩
    · rintro ⟨⟨p1, p2⟩, _, _, p3⟩
      refine ⟨p1, fun k k0 k1 => ?_⟩
      by_cases e : k = 0
      · rw [e, Int.add_zero, Int.add_zero]; exact p2
      · have := (eq (k - 1) (by omega) (by omega)).mp (p3 (k - 1) (by omega) (by omega))
        rw [show k - 1 + 1 = k by omega] at this
        exact this
  rw [hh]
  refine ⟨fun p => e0 _ ?_, fun p => e0 _ ?_⟩
  · rw [if_pos p.1, q47.1 p.2]
    rfl
  · by_cases q : xr (u (o l)) (u (o m)) = 256
    · rw [if_pos q, q47.2 (fun r => p ⟨q, r⟩)]
      rfl
    · rw [if_neg q]
theorem g126L33_0 {S : St} {v3 v4 v5 i : Int} {m : Nat} (h5 : inR v5) (hi : inR i) : g126L33 S v3 v4 v5 (m + 1) 0 i = some 0 := by
  unfold g126L33
  refine (gd_t (by first | exact ⟨by omega, by omega⟩ | exact ⟨by omega, by omega, by omega⟩ | exact ⟨by omega, by omega, by omega, by omega⟩ | omega | exact inR_to _ | assumption | decide)).trans ?_; refine (gd_t (by first | exact ⟨by omega, by omega⟩ | exact ⟨by omega, by omega, by omega⟩ | exact ⟨by omega, by omega, by omega, by omega⟩ | omega | exact inR_to _ | assumption | decide)).trans ?_
  by_cases h : i < v5
  · rw [if_pos h]
    refine (gd_t (by first | exact ⟨by omega, by omega⟩ | exact ⟨by omega, by omega, by omega⟩ | exact ⟨by omega, by omega, by omega, by omega⟩ | omega | exact inR_to _ | assumption | decide)).trans ?_
    rfl
  · rw [if_neg h]
theorem g126L33_t {S : St} {a b n : Int} (ha : 0 ≤ a) (ha2 : a + n ≤ 8032) (hb : 0 ≤ b) (hb2 : b + n ≤ 8032) : ∀ (k m : Nat) (i : Int), i + k = n → 0 ≤ i → k < m → (∀ j : Int, 0 ≤ j → j < i → S.A 38 (a + j) = S.A 38 (b + j)) → ((∀ j : Int, 0 ≤ j → j < n → S.A 38 (a + j) = S.A 38 (b + j)) → g126L33 S a b n m 1 i = some 1) ∧ ((¬ ∀ j : Int, 0 ≤ j → j < n → S.A 38 (a + j) = S.A 38 (b + j)) → g126L33 S a b n m 1 i = some 0) := by
  intro k
  induction k with
  | zero =>
    intro m i hk hi hm he
    obtain ⟨m, rfl⟩ : ∃ k, m = k + 1 := ⟨m - 1, by omega⟩
    refine ⟨fun _ => ?_, fun h => absurd (fun j h1 h2 => he j h1 (by omega)) h⟩
    unfold g126L33
    refine (gd_t (by first | exact ⟨by omega, by omega⟩ | exact ⟨by omega, by omega, by omega⟩ | exact ⟨by omega, by omega, by omega, by omega⟩ | omega | exact inR_to _ | assumption | decide)).trans ?_; refine (gd_t (by first | exact ⟨by omega, by omega⟩ | exact ⟨by omega, by omega, by omega⟩ | exact ⟨by omega, by omega, by omega, by omega⟩ | omega | exact inR_to _ | assumption | decide)).trans ?_
    exact if_neg (by omega)
  | succ k ih =>
    intro m i hk hi hm he
    obtain ⟨m, rfl⟩ : ∃ k, m = k + 1 := ⟨m - 1, by omega⟩
    have e : g126L33 S a b n (m + 1) 1 i = if S.A 38 (a + i) = S.A 38 (b + i) then g126L33 S a b n m 1 (i + 1) else g126L33 S a b n m 0 (i + 1) := by
      conv => lhs; unfold g126L33
      refine (gd_t (by first | exact ⟨by omega, by omega⟩ | exact ⟨by omega, by omega, by omega⟩ | exact ⟨by omega, by omega, by omega, by omega⟩ | omega | exact inR_to _ | assumption | decide)).trans ?_; refine (gd_t (by first | exact ⟨by omega, by omega⟩ | exact ⟨by omega, by omega, by omega⟩ | exact ⟨by omega, by omega, by omega, by omega⟩ | omega | exact inR_to _ | assumption | decide)).trans ?_
      refine (if_pos (by omega)).trans ?_
      refine (gd_t (by first | exact ⟨by omega, by omega⟩ | exact ⟨by omega, by omega, by omega⟩ | exact ⟨by omega, by omega, by omega, by omega⟩ | omega | exact inR_to _ | assumption | decide)).trans ?_
      refine (if_neg (by decide)).trans ?_
      refine (gd_t (by first | exact ⟨by omega, by omega⟩ | exact ⟨by omega, by omega, by omega⟩ | exact ⟨by omega, by omega, by omega, by omega⟩ | omega | exact inR_to _ | assumption | decide)).trans ?_; refine (gd_t (by first | exact ⟨by omega, by omega⟩ | exact ⟨by omega, by omega, by omega⟩ | exact ⟨by omega, by omega, by omega, by omega⟩ | omega | exact inR_to _ | assumption | decide)).trans ?_
      rfl
    rw [e]
    by_cases h0 : S.A 38 (a + i) = S.A 38 (b + i)
    · rw [if_pos h0]
      refine ih m (i + 1) (by omega) (by omega) (by omega) (fun j h1 h2 => ?_)
      by_cases hj : j = i
      · rw [hj]; exact h0
      · exact he j h1 (by omega)
    · rw [if_neg h0]
      obtain ⟨m, rfl⟩ : ∃ k, m = k + 1 := ⟨m - 1, by omega⟩
      exact ⟨fun h => absurd (h i hi (by omega)) h0, fun _ => g126L33_0 ⟨by omega, by omega⟩ ⟨by omega, by omega⟩⟩
