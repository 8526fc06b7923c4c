/-! terms as they lie in the second object's pool, and what they stand for -/
/-- n cells from p hold o terms, and these stand for E -/
def TD (a : Int → Int) (nu : Int → List Int) : Nat → Int → Int → List Int → Prop
  | 0, o, _, E => o = 0 ∧ E = []
  | n + 1, o, p, E => 0 < o ∧ ((0 ≤ a p ∧ a p < 128 ∧ ∃ E', E = nu (a p) ++ E' ∧ TD a nu n (o - 1) (p + 1) E') ∨ (∃ x E', a p = mo x ∧ vx x ∧ 32768 ≤ x ∧ x < 131072 ∧ E = x :: E' ∧ TD a nu n (o - 1 + x % 256) (p + 1) E'))
theorem TD_split {a : Int → Int} {nu : Int → List Int} : ∀ (n : Nat) (o o2 p : Int) (E : List Int), 0 ≤ o → 0 ≤ o2 → TD a nu n (o + o2) p E → ∃ (k : Nat) (E1 E2 : List Int), k ≤ n ∧ E = E1 ++ E2 ∧ TD a nu k o p E1 ∧ TD a nu (n - k) o2 (p + k) E2 := by
  intro n
  induction n with
  | zero =>
    intro o o2 p E h0 h2 h
    have h : o + o2 = 0 ∧ E = [] := h
    exact ⟨0, [], [], Nat.le_refl _, h.2, ⟨by omega, rfl⟩, ⟨by omega, rfl⟩⟩
  | succ n ih =>
    intro o o2 p E h0 h2 h
    by_cases ho : o = 0
    · subst ho
      rw [Int.zero_add] at h
      refine ⟨0, [], E, Nat.zero_le _, rfl, ⟨rfl, rfl⟩, ?_⟩
      rw [show p + ((0 : Nat) : Int) = p by omega]
      exact h
    · obtain ⟨h1, h⟩ := h
      rcases h with ⟨c1, c2, E', c3, c4⟩ | ⟨x, E', c1, c2, c3, c4, c5, c6⟩
      · rw [show o + o2 - 1 = (o - 1) + o2 by omega] at c4
        obtain ⟨k, E1, E2, k1, k2, k3, k4⟩ := ih (o - 1) o2 (p + 1) E' (by omega) h2 c4
        refine ⟨k + 1, nu (a p) ++ E1, E2, by omega, by rw [c3, k2, List.append_assoc], ⟨by omega, Or.inl ⟨c1, c2, E1, rfl, k3⟩⟩, ?_⟩
        rw [show n + 1 - (k + 1) = n - k by omega, show p + ((k + 1 : Nat) : Int) = p + 1 + k by omega]
        exact k4
      · rw [show o + o2 - 1 + x % 256 = (o - 1 + x % 256) + o2 by omega] at c6
        obtain ⟨k, E1, E2, k1, k2, k3, k4⟩ := ih (o - 1 + x % 256) o2 (p + 1) E' (by omega) h2 c6
        refine ⟨k + 1, x :: E1, E2, by omega, by rw [c5, k2]; rfl, ⟨by omega, Or.inr ⟨x, E1, c1, c2, c3, c4, rfl, k3⟩⟩, ?_⟩
        rw [show n + 1 - (k + 1) = n - k by omega, show p + ((k + 1 : Nat) : Int) = p + 1 + k by omega]
        exact k4
theorem TD_uniq {a : Int → Int} {nu : Int → List Int} : ∀ (n n' : Nat) (o p : Int) (E E' : List Int), TD a nu n o p E → TD a nu n' o p E' → n = n' ∧ E = E' := by
  intro n
  induction n with
  | zero =>
    intro n' o p E E' h h'
    have h : o = 0 ∧ E = [] := h
    cases n' with
    | zero =>
      have h' : o = 0 ∧ E' = [] := h'
      exact ⟨rfl, by rw [h.2, h'.2]⟩
    | succ n' =>
      have := h'.1
      omega
  | succ n ih =>
    intro n' o p E E' h h'
    cases n' with
    | zero =>
      have h' : o = 0 ∧ E' = [] := h'
      have := h.1
      omega
    | succ n' =>
      obtain ⟨_, h⟩ := h
      obtain ⟨_, h'⟩ := h'
      rcases h with ⟨c1, c2, F, c3, c4⟩ | ⟨x, F, c1, c2, c3, c4, c5, c6⟩
      · rcases h' with ⟨d1, d2, F', d3, d4⟩ | ⟨x', F', d1, d2, d3, d4, d5, d6⟩
        · obtain ⟨e1, e2⟩ := ih n' _ _ _ _ c4 d4
          exact ⟨by omega, by rw [c3, d3, e2]⟩
        · have := mo_big d2 (by omega)
          omega
      · rcases h' with ⟨d1, d2, F', d3, d4⟩ | ⟨x', F', d1, d2, d3, d4, d5, d6⟩
        · have := mo_big c2 (by omega)
          omega
        · have ex : x = x' := (mo_eq c2 d2 c4).mp (by rw [← c1, ← d1])
          subst ex
          obtain ⟨e1, e2⟩ := ih n' _ _ _ _ c6 d6
          exact ⟨by omega, by rw [c5, d5, e2]⟩
theorem TD_Tm {a : Int → Int} {nu : Int → List Int} : ∀ (n : Nat) (o p : Int) (E : List Int), TD a nu n o p E → Tm (fun q => arM (a q)) n o p := by
  intro n
  induction n with
  | zero => intro o p E h; exact h.1
  | succ n ih =>
    intro o p E h
    obtain ⟨h1, h⟩ := h
    refine ⟨h1, ?_⟩
    show Tm (fun q => arM (a q)) n (o - 1 + arM (a p)) (p + 1)
    rcases h with ⟨c1, c2, F, c3, c4⟩ | ⟨x, F, c1, c2, c3, c4, c5, c6⟩
    · have e : arM (a p) = 0 := by unfold arM; rw [if_pos (by omega)]
      rw [e, Int.add_zero]
      exact ih _ _ _ c4
    · rw [c1, mo_ar c2]
      exact ih _ _ _ c6
/-- the terms one after another -/
theorem TD_args {a : Int → Int} {nu : Int → List Int} : ∀ (o n : Nat) (p : Int) (E : List Int), TD a nu n o p E → ∃ (ags : Nat → Int) (Es : Nat → List Int), ags 0 = p ∧ (∀ j : Nat, j < o → ∃ m : Nat, TD a nu m 1 (ags j) (Es j) ∧ ags (j + 1) = ags j + m ∧ p ≤ ags j ∧ ags j + m ≤ p + n) ∧ ∀ (X : Int → List Int), (∀ j : Nat, j < o → X (ags j) = Es j) → E = xl X ags o 0 := by
  intro o
  induction o with
  | zero =>
    intro n p E h
    have hn : n = 0 ∧ E = [] := by
      cases n with
      | zero => exact ⟨rfl, h.2⟩
      | succ n => have := h.1; omega
    exact ⟨fun _ => p, fun _ => [], rfl, fun j hj => absurd hj (Nat.not_lt_zero _), fun X _ => hn.2⟩
  | succ o ih =>
    intro n p E h
    rw [show ((o + 1 : Nat) : Int) = 1 + (o : Int) by omega] at h
    obtain ⟨k, E1, E2, k1, k2, k3, k4⟩ := TD_split n 1 o p E (by omega) (by omega) h
    obtain ⟨ags, Es, g1, g2, g3⟩ := ih (n - k) (p + k) E2 k4
    have kk := Tm_le (fun q => arM_0 _) k 1 p (TD_Tm k 1 p E1 k3)
    refine ⟨fun j => match j with
      | 0 => p
      | j + 1 => ags j, fun j => match j with
      | 0 => E1
      | j + 1 => Es j, rfl, fun j hj => ?_, fun X hX => ?_⟩
    · cases j with
      | zero => exact ⟨k, k3, g1, Int.le_refl _, by show p + (k : Int) ≤ p + n; omega⟩
      | succ j =>
        obtain ⟨m, m1, m2, m3, m4⟩ := g2 j (by omega)
        exact ⟨m, m1, m2, by show p ≤ ags j; omega, by show ags j + (m : Int) ≤ p + n; omega⟩
    · have h0 : X p = E1 := hX 0 (by omega)
      have e2 := g3 X (fun j hj => hX (j + 1) (by omega))
      have sh : ∀ i z : Nat, xl X (fun j => match j with
        | 0 => p
        | j + 1 => ags j) i (z + 1) = xl X ags i z := by
        intro i
        induction i with
        | zero => intro z; rfl
        | succ i ih2 =>
          intro z
          show X (ags z) ++ _ = X (ags z) ++ _
          rw [ih2 (z + 1)]
      show E = X p ++ xl X _ o (0 + 1)
      rw [h0, sh o 0, k2, e2]
theorem end_g {T : St} {n : Nat} {p : Int} (h : Tm (fun q => arM (T.A 46 q)) n 1 p) (p0 : 0 ≤ p) (p1 : p + n ≤ 1024) : g125 T 46 p = some (p + n) := g125_t (S := T) (b := 46) (N := 1024) (f := T.A0 46) rfl (by decide) h p0 (by omega)
theorem g124_g {T : St} {q : Int} {ags : Nat → Int} {ar : Nat} (h0 : ags 0 = q + 1) (har : ar ≤ 127) (h : ∀ i : Nat, i < ar → ∃ m : Nat, Tm (fun q => arM (T.A 46 q)) m 1 (ags i) ∧ ags (i + 1) = ags i + m ∧ 0 ≤ ags i ∧ ags i + m ≤ 1024) {j : Nat} (hj : j < ar) : g124 T q j = some (ags j) := by
  have hl : ∀ (r n i : Nat), i + r = j → r < n → g124L7 T j n (ags i) i = some (ags j) := by
    intro r
    induction r with
    | zero =>
      intro n i e hn
      obtain ⟨n, rfl⟩ : ∃ k, n = k + 1 := ⟨n - 1, by omega⟩
      have : i = j := by omega
      subst this
      unfold g124L7
      refine (gd_t (by first | exact ⟨by omega, by omega⟩ | exact ⟨by omega, by omega, by omega⟩ | exact ⟨by omega, by omega, by omega, by omega⟩ | omega | exact inR_to _ | assumption | decide)).trans ?_; refine (gd_t (by first | exact ⟨by omega, by omega⟩ | exact ⟨by omega, by omega, by omega⟩ | exact ⟨by omega, by omega, by omega, by omega⟩ | omega | exact inR_to _ | assumption | decide)).trans ?_
      exact if_neg (by omega)
    | succ r ih =>
      intro n i e hn
      obtain ⟨n, rfl⟩ : ∃ k, n = k + 1 := ⟨n - 1, by omega⟩
      obtain ⟨m, m1, m2, m3, m4⟩ := h i (by omega)
      rw [g124L7]
      refine (gd_t (by first | exact ⟨by omega, by omega⟩ | exact ⟨by omega, by omega, by omega⟩ | exact ⟨by omega, by omega, by omega, by omega⟩ | omega | exact inR_to _ | assumption | decide)).trans ?_; refine (gd_t (by first | exact ⟨by omega, by omega⟩ | exact ⟨by omega, by omega, by omega⟩ | exact ⟨by omega, by omega, by omega, by omega⟩ | omega | exact inR_to _ | assumption | decide)).trans ?_
      rw [if_pos (by omega), end_g m1 m3 m4]
      have := ih n (i + 1) (by omega) (by omega)
      rw [m2] at this
      exact this
  have := hl j FU 0 (by omega) (FU_gt (by omega))
  unfold g124
  rw [h0] at this
  have this : g124L7 T j FU (q + 1) 0 = some (ags j) := this
  rw [this]
  rfl
/-- what the numbers of variables stand for -/
def NU (a b : Int → Int) (r : Int → Int) (nu : Int → List Int) : Prop := ∀ c : Int, 0 ≤ c → c < 128 → nu c ≠ [] → (b c < 0 ∧ ∃ x, nu c = [x] ∧ vx x ∧ x < 32768 ∧ r (x / 256) = c) ∨ (0 ≤ b c ∧ ∃ (x : Int) (us : List Int), nu c = x :: us ∧ vx x ∧ 32768 ≤ x ∧ x < 131072 ∧ a (b c) = mo x ∧ x % 256 = us.length ∧ b c + 1 + us.length ≤ 1024 ∧ ∀ j : Nat, j < us.length → 0 ≤ a (b c + 1 + j) ∧ a (b c + 1 + j) < 128 ∧ b (a (b c + 1 + j)) < 0 ∧ nu (a (b c + 1 + j)) = [gI us j])
/-- no variable stands for nothing -/
def NE (a : Int → Int) (nu : Int → List Int) : Nat → Int → Prop
  | 0, _ => True
  | n + 1, p => (a p < 4096 → nu (a p) ≠ []) ∧ NE a nu n (p + 1)
theorem NE.at {a : Int → Int} {nu : Int → List Int} : ∀ (n : Nat) (p : Int), NE a nu n p → ∀ q : Int, p ≤ q → q < p + n → a q < 4096 → nu (a q) ≠ []
  | 0, p, _, q, h1, h2 => by omega
  | n + 1, p, h, q, h1, h2 => by
    by_cases hq : q = p
    · rw [hq]; exact h.1
    · exact NE.at n (p + 1) h.2 q (by omega) (by omega)
theorem g121_f {T : St} {p x : Int} (p0 : 0 ≤ p) (p1 : p < 1024) (hx : vx x) (h3 : 32768 ≤ x) (e : T.A 46 p = mo x) : g121 T p = some p ∧ g123 T (T.A 46 p) = some (x % 256) := by
  have mR := mo_R hx
  have mb := mo_big hx (by omega)
  have e122 : g122 T (T.A 46 p) = some 0 := by rw [e, g122_t ⟨by omega, by omega⟩, if_neg (by omega)]
  obtain ⟨q, hq⟩ := FU_ge (n := 0) (by decide)
  refine ⟨?_, ?_⟩
  · unfold g121
    rw [hq, Nat.zero_add, g121L2]
    refine (ob_t ((gd_t ⟨p0, p1, by omega⟩).trans ?_)).trans rfl
    rw [e122]
    rfl
  · rw [e, g123_t ⟨by omega, by omega⟩, mo_ar hx]
theorem g121_v {T : St} {p c : Int} (p0 : 0 ≤ p) (p1 : p < 1024) (c0 : 0 ≤ c) (c1 : c < 128) (e : T.A 46 p = c) (hb : T.A 47 c < 0) : g121 T p = some p ∧ g123 T (T.A 46 p) = some 0 := by
  have e122 : g122 T (T.A 46 p) = some 1 := by rw [e, g122_t ⟨by omega, by omega⟩, if_pos (by omega)]
  obtain ⟨q, hq⟩ := FU_ge (n := 0) (by decide)
  refine ⟨?_, ?_⟩
  · unfold g121
    rw [hq, Nat.zero_add, g121L2]
    refine (ob_t ((gd_t ⟨p0, p1, by omega⟩).trans ?_)).trans rfl
    rw [e122]
    refine (ob_t rfl).trans ?_
    refine (gd_t (by first | exact ⟨by omega, by omega⟩ | exact ⟨by omega, by omega, by omega⟩ | exact ⟨by omega, by omega, by omega, by omega⟩ | omega | exact inR_to _ | assumption | decide)).trans ?_
    rw [if_neg (by decide), e]
    refine (gd_t (by first | exact ⟨by omega, by omega⟩ | exact ⟨by omega, by omega, by omega⟩ | exact ⟨by omega, by omega, by omega, by omega⟩ | omega | exact inR_to _ | assumption | decide)).trans ?_
    rw [if_pos hb]
  · rw [e, g123_t ⟨by omega, by omega⟩]
    unfold arM
    rw [if_pos (by omega)]
theorem g121_b {T : St} {p c x : Int} (p0 : 0 ≤ p) (p1 : p < 1024) (c0 : 0 ≤ c) (c1 : c < 128) (e : T.A 46 p = c) (hb : 0 ≤ T.A 47 c) (hb1 : T.A 47 c < 1024) (hx : vx x) (h3 : 32768 ≤ x) (e2 : T.A 46 (T.A 47 c) = mo x) : g121 T p = some (T.A 47 c) := by
  have mR := mo_R hx
  have mb := mo_big hx (by omega)
  have e122 : g122 T (T.A 46 p) = some 1 := by rw [e, g122_t ⟨by omega, by omega⟩, if_pos (by omega)]
  have e122' : g122 T (T.A 46 (T.A 47 c)) = some 0 := by rw [e2, g122_t ⟨by omega, by omega⟩, if_neg (by omega)]
  obtain ⟨q, hq⟩ := FU_ge (n := 1) (by decide)
  unfold g121
  rw [hq, show 1 + (q + 1) = (q + 1) + 1 by omega, g121L2]
  refine (ob_t ((gd_t ⟨p0, p1, by omega⟩).trans ?_)).trans rfl
  rw [e122]
  refine (ob_t rfl).trans ?_
  refine (gd_t (by first | exact ⟨by omega, by omega⟩ | exact ⟨by omega, by omega, by omega⟩ | exact ⟨by omega, by omega, by omega, by omega⟩ | omega | exact inR_to _ | assumption | decide)).trans ?_
  rw [if_neg (by decide), e]
  refine (gd_t (by first | exact ⟨by omega, by omega⟩ | exact ⟨by omega, by omega, by omega⟩ | exact ⟨by omega, by omega, by omega, by omega⟩ | omega | exact inR_to _ | assumption | decide)).trans ?_
  rw [if_neg (by omega), g121L2]
  refine (gd_t ⟨hb, hb1, by omega⟩).trans ?_
  rw [e122']
  rfl
