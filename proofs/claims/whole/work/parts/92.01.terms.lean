theorem FU_ge {n : Nat} (h : n < 2 ^ 190) : ∃ m, FU = n + (m + 1) := by
  have e : FU = 2 ^ 200 := by unfold FU; rfl
  exact ⟨FU - n - 1, by rw [e]; omega⟩
/-- n symbols from p on are just the o terms that are due -/
def Tm (al : Int → Int) : Nat → Int → Int → Prop
  | 0, o, _ => o = 0
  | n + 1, o, p => 0 < o ∧ Tm al n (o - 1 + al p) (p + 1)
theorem Tm_le {al : Int → Int} (ha : ∀ q, 0 ≤ al q) : ∀ (n : Nat) (o p : Int), Tm al n o p → 0 ≤ o ∧ o ≤ n := by
  intro n
  induction n with
  | zero => intro o p h; have h : o = 0 := h; omega
  | succ n ih =>
    intro o p h
    obtain ⟨h1, h2⟩ := h
    have := ih _ _ h2
    have := ha p
    omega
theorem Tm_uniq {al : Int → Int} : ∀ (n m : Nat) (o p : Int), Tm al n o p → Tm al m o p → n = m := by
  intro n
  induction n with
  | zero =>
    intro m o p h1 h2
    have h1 : o = 0 := h1
    cases m with
    | zero => rfl
    | succ m => have := h2.1; omega
  | succ n ih =>
    intro m o p h1 h2
    cases m with
    | zero => have h2 : o = 0 := h2; have := h1.1; omega
    | succ m => rw [ih m _ _ h1.2 h2.2]
theorem Tm_ext {al be : Int → Int} {d : Int} : ∀ (n : Nat) (o p : Int), (∀ i : Int, 0 ≤ i → i < n → al (p + i) = be (p + d + i)) → Tm al n o p → Tm be n o (p + d) := by
  intro n
  induction n with
  | zero => intro o p _ h; exact h
  | succ n ih =>
    intro o p he h
    have e0 := he 0 (by omega) (by omega)
    rw [Int.add_zero, Int.add_zero] at e0
    refine ⟨h.1, ?_⟩
    rw [← e0, show p + d + 1 = p + 1 + d by omega]
    refine ih _ _ (fun i h1 h2 => ?_) h.2
    have := he (i + 1) (by omega) (by omega)
    rw [show p + 1 + i = p + (i + 1) by omega, this]
    congr 1
    omega
/-- the first of more than one term -/
theorem Tm_split {al : Int → Int} (ha : ∀ q, 0 ≤ al q) : ∀ (n : Nat) (o o2 p : Int), 0 ≤ o → 0 ≤ o2 → Tm al n (o + o2) p → ∃ k : Nat, k ≤ n ∧ Tm al k o p ∧ Tm al (n - k) o2 (p + k) := by
  intro n
  induction n with
  | zero =>
    intro o o2 p h1 h2 h
    have h : o + o2 = 0 := h
    exact ⟨0, Nat.le_refl _, (show o = 0 by omega), (show o2 = 0 by omega)⟩
  | succ n ih =>
    intro o o2 p h1 h2 h
    by_cases h0 : o = 0
    · refine ⟨0, Nat.zero_le _, h0, ?_⟩
      subst h0
      rw [Int.zero_add] at h
      rw [show p + ((0 : Nat) : Int) = p by omega]
      exact h
    · have := ha p
      obtain ⟨k, k1, k2, k3⟩ := ih (o - 1 + al p) o2 (p + 1) (by omega) h2 (by have := h.2; rw [show o + o2 - 1 + al p = o - 1 + al p + o2 by omega] at this; exact this)
      refine ⟨k + 1, by omega, ⟨by omega, k2⟩, ?_⟩
      rw [show n + 1 - (k + 1) = n - k by omega, show p + ((k + 1 : Nat) : Int) = p + 1 + k by omega]
      exact k3
theorem g57L5_t {S : St} {b N : Nat} {f : Int → Int32} {lim : Int} (hb : S.cl b = some (.ar N f)) (hl : lim ≤ N) (hl2 : lim < 2147483648) : ∀ (n m : Nat) (o p : Int), Tm (fun q => (f q).toInt % 256) n o p → 0 ≤ p → p + n ≤ lim → n < m → g57L5 S b lim m o p = some (p + n) := by
  intro n
  induction n with
  | zero =>
    intro m o p h hp hq hm
    obtain ⟨m, rfl⟩ : ∃ k, m = k + 1 := ⟨m - 1, by omega⟩
    have h : o = 0 := h
    subst h
    unfold g57L5
    refine (gd_t (by first | exact ⟨by omega, by omega⟩ | exact ⟨by omega, by omega, by omega⟩ | exact ⟨by omega, by omega, by omega, by omega⟩ | omega | exact inR_to _ | assumption | decide)).trans ?_; refine (gd_t (by first | exact ⟨by omega, by omega⟩ | exact ⟨by omega, by omega, by omega⟩ | exact ⟨by omega, by omega, by omega, by omega⟩ | omega | exact inR_to _ | assumption | decide)).trans ?_
    split
    · refine (gd_t (by first | exact ⟨by omega, by omega⟩ | exact ⟨by omega, by omega, by omega⟩ | exact ⟨by omega, by omega, by omega, by omega⟩ | omega | exact inR_to _ | assumption | decide)).trans ?_
      rw [if_neg (by omega)]
      congr 1; omega
    · congr 1; omega
  | succ n ih =>
    intro m o p h hp hq hm
    obtain ⟨m, rfl⟩ : ∃ k, m = k + 1 := ⟨m - 1, by omega⟩
    have hle := Tm_le (fun q => Int.emod_nonneg _ (by decide)) _ _ _ h
    unfold g57L5
    refine (gd_t (by first | exact ⟨by omega, by omega⟩ | exact ⟨by omega, by omega, by omega⟩ | exact ⟨by omega, by omega, by omega, by omega⟩ | omega | exact inR_to _ | assumption | decide)).trans ?_; refine (gd_t (by first | exact ⟨by omega, by omega⟩ | exact ⟨by omega, by omega, by omega⟩ | exact ⟨by omega, by omega, by omega, by omega⟩ | omega | exact inR_to _ | assumption | decide)).trans ?_
    rw [if_pos (by omega)]
    refine (gd_t (by first | exact ⟨by omega, by omega⟩ | exact ⟨by omega, by omega, by omega⟩ | exact ⟨by omega, by omega, by omega, by omega⟩ | omega | exact inR_to _ | assumption | decide)).trans ?_
    rw [if_pos h.1, gA_t hb]
    refine (gd_t (by first | exact ⟨by omega, by omega⟩ | exact ⟨by omega, by omega, by omega⟩ | exact ⟨by omega, by omega, by omega, by omega⟩ | omega | exact inR_to _ | assumption | decide)).trans ?_
    have e : o + ((f p).toInt % 256 - 1) = o - 1 + (f p).toInt % 256 := by omega
    simp only [e]
    rw [ih m _ _ h.2 (by omega) (by omega) (by omega)]
    congr 1; omega
theorem g57_t {S : St} {b N n : Nat} {f : Int → Int32} {lim p : Int} (hb : S.cl b = some (.ar N f)) (hl : lim ≤ N) (hl2 : lim < 2147483648) (h : Tm (fun q => (f q).toInt % 256) n 1 p) (hp : 0 ≤ p) (hq : p + n ≤ lim) : g57 S b p lim = some (p + n) := by
  unfold g57
  obtain ⟨m, hm⟩ := FU_ge (n := n) (by omega)
  rw [hm, g57L5_t hb hl hl2 n _ 1 p h hp hq (by omega)]
  rfl
def arM (x : Int) : Int := if x < 4096 then 0 else x % 128
theorem arM_0 (x : Int) : 0 ≤ arM x := by unfold arM; split <;> omega
theorem g122_t {S : St} {x : Int} (h : inR x) : g122 S x = some (if x < 4096 then 1 else 0) := by
  unfold g122
  refine (gd_t (by first | exact ⟨by omega, by omega⟩ | exact ⟨by omega, by omega, by omega⟩ | exact ⟨by omega, by omega, by omega, by omega⟩ | omega | exact inR_to _ | assumption | decide)).trans ?_
  split <;> rfl
theorem g123_t {S : St} {x : Int} (h : inR x) : g123 S x = some (arM x) := by
  have h1 := h.1
  have h2 := h.2
  unfold g123 arM
  rw [g122_t h]
  by_cases hx : x < 4096
  · rw [if_pos hx, if_pos hx]; rfl
  · rw [if_neg hx, if_neg hx]
    show gd (inR 0) _ = _
    refine (gd_t (by first | exact ⟨by omega, by omega⟩ | exact ⟨by omega, by omega, by omega⟩ | exact ⟨by omega, by omega, by omega, by omega⟩ | omega | exact inR_to _ | assumption | decide)).trans ?_
    rw [if_pos rfl]
    refine (gd_t (by first | exact ⟨by omega, by omega⟩ | exact ⟨by omega, by omega, by omega⟩ | exact ⟨by omega, by omega, by omega, by omega⟩ | omega | exact inR_to _ | assumption | decide)).trans ?_
    rfl
theorem g125L4_t {S : St} {b N : Nat} {f : Int → Int32} (hb : S.cl b = some (.ar N f)) (hN : N < 2147483648) : ∀ (n m : Nat) (o p : Int), Tm (fun q => arM (f q).toInt) n o p → 0 ≤ p → p + n ≤ N → n < m → g125L4 S b m o p = some (p + n) := by
  intro n
  induction n with
  | zero =>
    intro m o p h hp hq hm
    obtain ⟨m, rfl⟩ : ∃ k, m = k + 1 := ⟨m - 1, by omega⟩
    have h : o = 0 := h
    subst h
    unfold g125L4
    refine (gd_t (by first | exact ⟨by omega, by omega⟩ | exact ⟨by omega, by omega, by omega⟩ | exact ⟨by omega, by omega, by omega, by omega⟩ | omega | exact inR_to _ | assumption | decide)).trans ?_
    rw [if_neg (by omega)]
    congr 1; omega
  | succ n ih =>
    intro m o p h hp hq hm
    obtain ⟨m, rfl⟩ : ∃ k, m = k + 1 := ⟨m - 1, by omega⟩
    have hle := Tm_le (fun q => arM_0 _) _ _ _ h
    unfold g125L4
    refine (gd_t (by first | exact ⟨by omega, by omega⟩ | exact ⟨by omega, by omega, by omega⟩ | exact ⟨by omega, by omega, by omega, by omega⟩ | omega | exact inR_to _ | assumption | decide)).trans ?_
    rw [if_pos h.1, gA_t hb]
    refine (gd_t (by first | exact ⟨by omega, by omega⟩ | exact ⟨by omega, by omega, by omega⟩ | exact ⟨by omega, by omega, by omega, by omega⟩ | omega | exact inR_to _ | assumption | decide)).trans ?_
    rw [g123_t (inR_to _)]
    show g125L4 S b m (o - 1 + arM (f p).toInt) (p + 1) = _
    rw [ih m _ _ h.2 (by omega) (by omega) (by omega)]
    congr 1; omega
theorem g125_t {S : St} {b N n : Nat} {f : Int → Int32} {p : Int} (hb : S.cl b = some (.ar N f)) (hN : N < 2147483648) (h : Tm (fun q => arM (f q).toInt) n 1 p) (hp : 0 ≤ p) (hq : p + n ≤ N) : g125 S b p = some (p + n) := by
  unfold g125
  obtain ⟨m, hm⟩ := FU_ge (n := n) (by omega)
  rw [hm, g125L4_t hb hN n _ 1 p h hp hq (by omega)]
  rfl
