/-! Matcher.covers: first what li does to terms and marks -/
theorem li_s (g h : Nat → Nat) (E N l : Nat) : ∀ m p q t s s2, (li g h E N l m p q t s).1 = (li g h E N l m p q t s2).1 ∧ (li g h E N l m p q t s).2.1 = (li g h E N l m p q t s2).2.1 := by
  intro m
  induction m with
  | zero => intro p q t s s2; exact ⟨rfl, rfl⟩
  | succ m ih =>
    intro p q t s s2
    unfold li
    split
    · exact ⟨rfl, rfl⟩
    · split
      · split
        · exact ih _ _ _ _ _
        · exact ⟨rfl, rfl⟩
      · split
        · exact ih _ _ _ _ _
        · split
          · exact ih _ _ _ _ _
          · exact ⟨rfl, rfl⟩
/-- a variable that had a term keeps it and its mark; one that gets a term now is marked l; none at W or above is touched -/
theorem li_b (g h : Nat → Nat) (E N l W : Nat) : ∀ m p q t s, (∀ k, k < p + m → g k < 32768 → g k / 256 < W) → ∀ v, (t v ≠ 0 → (li g h E N l m p q t s).2.1 v = t v ∧ (li g h E N l m p q t s).2.2 v = s v) ∧ (t v = 0 → (li g h E N l m p q t s).2.1 v = 0 ∨ (v < W ∧ (li g h E N l m p q t s).2.2 v = l)) := by
  intro m
  induction m with
  | zero => intro p q t s _ v; exact ⟨fun _ => ⟨rfl, rfl⟩, fun h => Or.inl h⟩
  | succ m ih =>
    intro p q t s hW v
    have hW' : ∀ k, k < p + 1 + m → g k < 32768 → g k / 256 < W := fun k hk => hW k (by omega)
    unfold li
    split
    · exact ⟨fun _ => ⟨rfl, rfl⟩, fun h => Or.inl h⟩
    · split
      · split
        · exact ih _ _ _ _ hW' v
        · exact ⟨fun _ => ⟨rfl, rfl⟩, fun h => Or.inl h⟩
      · next h2 =>
        split
        · next h4 =>
          have hi := ih (p + 1) (ce h (E - q) 1 q) (un t (g p / 256) (q + 1)) (un s (g p / 256) l) hW' v
          by_cases hv : v = g p / 256
          · subst hv
            have e1 : un t (g p / 256) (q + 1) (g p / 256) = q + 1 := if_pos rfl
            have e2 : un s (g p / 256) l (g p / 256) = l := if_pos rfl
            refine ⟨fun h => absurd h4 h, fun _ => Or.inr ⟨hW p (by omega) (by omega), ?_⟩⟩
            rw [(hi.1 (by rw [e1]; omega)).2, e2]
          · have e1 : un t (g p / 256) (q + 1) v = t v := if_neg hv
            have e2 : un s (g p / 256) l v = s v := if_neg hv
            rw [e1, e2] at hi
            exact hi
        · split
          · exact ih _ _ _ _ hW' v
          · exact ⟨fun _ => ⟨rfl, rfl⟩, fun h => Or.inl h⟩
/-- forgetting: L is 1 + the literal -/
def fo (W L : Nat) (t s : Nat → Nat) : Nat → Nat := fun k => if k < W ∧ L ≤ s k + 1 then 0 else t k
theorem fo_li {g h : Nat → Nat} {E N l W m p q : Nat} {t s s2 : Nat → Nat} (hW : ∀ k, k < p + m → g k < 32768 → g k / 256 < W) (hJ : ∀ v, v < W → t v ≠ 0 → s v < l) (h2 : ∀ v, (li g h E N l m p q t s).2.1 v ≠ 0 → s2 v = (li g h E N l m p q t s).2.2 v) : fo W (l + 1) (li g h E N l m p q t s).2.1 s2 = t := by
  funext v
  have hb := li_b g h E N l W m p q t s hW v
  unfold fo
  by_cases h0 : t v = 0
  · rw [h0]
    rcases hb.2 h0 with h3 | ⟨h3, h4⟩
    · rw [h3]; split <;> rfl
    · by_cases h5 : (li g h E N l m p q t s).2.1 v = 0
      · rw [h5]; split <;> rfl
      · rw [if_pos ⟨h3, by rw [h2 v h5, h4]; omega⟩]
  · obtain ⟨h3, h4⟩ := hb.1 h0
    rw [if_neg, h3]
    rintro ⟨h5, h6⟩
    rw [h2 v (by rw [h3]; exact h0), h4] at h6
    have := hJ v h5 h0
    omega
theorem fgt_pI {t s : Nat → Nat} {W L : Nat} (hs : ∀ k, s k < 2 ^ 20) (hL : L < 2 ^ 20) : fgt (fun i => pI (t i)) (fun i => nI (s i)) (pI L) W = fun i => pI (fo W L t s i) := by
  funext k
  have e : nI (s k) < pI L ↔ s k + 1 < L := by
    cases L with
    | zero =>
      rw [pI_0]
      have h1 := nI_toInt (n := s k) (by have := hs k; omega)
      have h3 : (-1 : Int32).toInt = -1 := by decide
      rw [Int32.lt_iff_toInt_lt, h1, h3]
      omega
    | succ L =>
      rw [pI_s, nI_ltI (by have := hs k; omega) (by omega)]
      omega
  unfold fgt fo
  by_cases h1 : k < W ∧ L ≤ s k + 1
  · rw [if_pos ⟨h1.1, fun h => by have := e.mp h; omega⟩, if_pos h1, pI_0]
  · rw [if_neg (fun h => h1 ⟨h.1, by have := h.2; rw [e] at this; omega⟩), if_neg h1]
