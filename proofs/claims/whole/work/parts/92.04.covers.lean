theorem g55L2_t {c : Nat} {l n : Int} {o u : Int → Int} (hl : inR l) (hw : o n ≤ 64) : ∀ (k m : Nat) (i : Int) (S : St), KC S c n o u → 0 ≤ i → i + k = o n → k < m → ∃ T, g55L2 l c m i S = some T ∧ Fr [24] S T ∧ T.A 24 = fun v => if i ≤ v ∧ v < o n ∧ l ≤ S.A 25 v then -1 else S.A 24 v := by
  intro k
  induction k with
  | zero =>
    intro m i S hc hi hk hm
    obtain ⟨m, rfl⟩ : ∃ k, m = k + 1 := ⟨m - 1, by omega⟩
    obtain ⟨b, s, N, M, f, g, x, w, c1, c2, c3, c4, c5, c6, c7, c8, c9, c10, c11⟩ := hc
    refine ⟨S, ?_, Fr.refl _ _, ?_⟩
    · unfold g55L2
      refine (gC_t c1).trans ?_
      refine (gd_t (by first | exact ⟨by omega, by omega⟩ | exact ⟨by omega, by omega, by omega⟩ | exact ⟨by omega, by omega, by omega, by omega⟩ | omega | exact inR_to _ | assumption | decide)).trans ?_
      exact if_neg (by omega)
    · funext v
      rw [if_neg (by omega)]
  | succ k ih =>
    intro m i S hc hi hk hm
    obtain ⟨m, rfl⟩ : ∃ k, m = k + 1 := ⟨m - 1, by omega⟩
    have hc' := hc
    obtain ⟨b, s, N, M, f, g, x, w, c1, c2, c3, c4, c5, c6, c7, c8, c9, c10, c11⟩ := hc
    have e : g55L2 l c (m + 1) i S = if S.A 25 i < l then g55L2 l c m (i + 1) S else g55L2 l c m (i + 1) (S.a 24 i (-1)) := by
      conv => lhs; unfold g55L2
      refine (gC_t c1).trans ?_
      refine (gd_t (by first | exact ⟨by omega, by omega⟩ | exact ⟨by omega, by omega, by omega⟩ | exact ⟨by omega, by omega, by omega, by omega⟩ | omega | exact inR_to _ | assumption | decide)).trans ?_
      refine (if_pos (by omega)).trans ?_
      refine (if_pos (by omega)).trans ?_
      refine (gd_t (by first | exact ⟨by omega, by omega⟩ | exact ⟨by omega, by omega, by omega⟩ | exact ⟨by omega, by omega, by omega, by omega⟩ | omega | exact inR_to _ | assumption | decide)).trans ?_; refine (gd_t (by first | exact ⟨by omega, by omega⟩ | exact ⟨by omega, by omega, by omega⟩ | exact ⟨by omega, by omega, by omega, by omega⟩ | omega | exact inR_to _ | assumption | decide)).trans ?_
      rfl
    rw [e]
    by_cases h0 : S.A 25 i < l
    · rw [if_pos h0]
      obtain ⟨T, t1, t2, t3⟩ := ih m (i + 1) S hc' (by omega) (by omega) (by omega)
      refine ⟨T, t1, t2, t3.trans ?_⟩
      funext v
      by_cases hv : v = i
      · subst hv
        rw [if_neg (by omega), if_neg (by omega)]
      · by_cases h1 : i + 1 ≤ v ∧ v < o n ∧ l ≤ S.A 25 v
        · rw [if_pos h1, if_pos (by omega)]
        · rw [if_neg h1, if_neg (by omega)]
    · rw [if_neg h0]
      have fr : Fr [24] S (S.a 24 i (-1)) := Fr.a (by decide)
      obtain ⟨T, t1, t2, t3⟩ := ih m (i + 1) (S.a 24 i (-1)) (hc'.fr fr (by decide)) (by omega) (by omega) (by omega)
      refine ⟨T, t1, fr.trans t2, t3.trans ?_⟩
      rw [aA_ne (show 25 ≠ 24 by decide), aA_up (by decide)]
      funext v
      unfold upI
      by_cases hv : v = i
      · subst hv
        rw [if_neg (by omega), if_pos rfl, if_pos (by omega)]
      · rw [if_neg hv]
        by_cases h1 : i + 1 ≤ v ∧ v < o n ∧ l ≤ S.A 25 v
        · rw [if_pos h1, if_pos (by omega)]
        · rw [if_neg h1, if_neg (by omega)]
/-- the terms put by literal l or a later one are taken back -/
def fo (W l : Int) (t s : Int → Int) : Int → Int := fun v => if 0 ≤ v ∧ v < W ∧ l ≤ s v then -1 else t v
theorem g55_t {S : St} {c : Nat} {l n : Int} {o u : Int → Int} (hl : inR l) (hw : o n ≤ 64) (hw0 : 0 ≤ o n) (hc : KC S c n o u) : ∃ T, g55 S l c = some T ∧ Fr [24] S T ∧ T.A 24 = fo (o n) l (S.A 24) (S.A 25) := by
  obtain ⟨m, hm⟩ := FU_ge (n := (o n).toNat) (by omega)
  obtain ⟨T, t1, t2, t3⟩ := g55L2_t hl hw (o n).toNat FU 0 S hc (by omega) (by omega) (by omega)
  refine ⟨T, ?_, t2, t3⟩
  unfold g55
  rw [t1]
  rfl
theorem g56_t {S : St} {c d : Nat} {l k n1 n2 : Int} {o1 u1 o2 u2 : Int → Int} (hc : KC S c n1 o1 u1) (hd : KC S d n2 o2 u2) (hW1 : WK n1 o1 u1) (hW2 : WK n2 o2 u2) (hl : 0 ≤ l) (hl2 : l < n1) (hk : 0 ≤ k) (hk2 : k < n2) (ht : ∀ v : Int, 0 ≤ v → v < o1 n1 → S.A 24 v = -1 ∨ Bd u2 (o2 n2) (S.A 24 v)) : ∃ T, g56 S c l d k = some ((if (li u1 u2 l (o1 (l + 1) - o1 l).toNat (o1 l) (o2 k) (S.A 24) (S.A 25)).1 = true then 1 else 0), T) ∧ Fr [24, 25] S T ∧ T.A 24 = (li u1 u2 l (o1 (l + 1) - o1 l).toNat (o1 l) (o2 k) (S.A 24) (S.A 25)).2.1 ∧ T.A 25 = (li u1 u2 l (o1 (l + 1) - o1 l).toNat (o1 l) (o2 k) (S.A 24) (S.A 25)).2.2 := by
  have hc' := hc
  have hd' := hd
  have hW1' := hW1
  obtain ⟨b, s, N, M, f, g, x, w, c1, c2, c3, c4, c5, c6, c7, c8, c9, c10, c11⟩ := hc
  obtain ⟨b2, s2, N2, M2, f2, g2, x2, y2, d1, d2, d3, d4, d5, d6, d7, d8, d9, d10, d11⟩ := hd
  obtain ⟨w1, w2, w3, w4, w5, w6, w7⟩ := hW1
  obtain ⟨z1, z2, z3, z4, z5, z6, z7⟩ := hW2
  have a1 := w5 l hl hl2
  have a2 := z5 k hk hk2
  have a3 := w6 l hl (by omega)
  have a4 := z6 k hk (by omega)
  have a5 := z6 (k + 1) (by omega) (by omega)
  have a6 := w6 (l + 1) (by omega) (by omega)
  obtain ⟨m, hm⟩ := FU_ge (n := (o1 (l + 1) - o1 l).toNat) (by omega)
  obtain ⟨T, t1, t2, t3, t4⟩ := g56L28_t (c := c) (d := d) (E := o2 (k + 1)) hl hl2 hW1' rfl a5.2 z4 (o1 (l + 1) - o1 l).toNat FU 1 (o1 l) (o2 k) S hc' hd' (by omega) a3.1 a4.1 (by omega) a1.2 a2.2 ht (by omega)
  refine ⟨T, ?_, t2, t3, t4⟩
  have e : g56 S c l d k = obr (g56L28 c l d (o2 (k + 1)) FU (o2 k) (o1 l) S) (fun o => some (1, o)) := by
    unfold g56
    refine (gC_t d1).trans ?_
    refine (gA_t d5).trans ?_
    refine (gd_t (by first | exact ⟨by omega, by omega⟩ | exact ⟨by omega, by omega, by omega⟩ | exact ⟨by omega, by omega, by omega, by omega⟩ | omega | exact inR_to _ | assumption | decide)).trans ?_; refine (gd_t (by first | exact ⟨by omega, by omega⟩ | exact ⟨by omega, by omega, by omega⟩ | exact ⟨by omega, by omega, by omega, by omega⟩ | omega | exact inR_to _ | assumption | decide)).trans ?_
    refine (gC_t c1).trans ?_
    refine (gA_t c5).trans ?_
    refine (gd_t (by first | exact ⟨by omega, by omega⟩ | exact ⟨by omega, by omega, by omega⟩ | exact ⟨by omega, by omega, by omega, by omega⟩ | omega | exact inR_to _ | assumption | decide)).trans ?_
    show obr (g56L28 c l d (g2 (k + 1)).toInt FU (g2 k).toInt (g l).toInt S) (fun o => some (1, o)) = _
    rw [d10 k hk (by omega), d10 (k + 1) (by omega) (by omega), c10 l hl (by omega)]
  rw [e, t1]
  cases (li u1 u2 l (o1 (l + 1) - o1 l).toNat (o1 l) (o2 k) (S.A 24) (S.A 25)).1
  · rfl
  · rfl
theorem li_s (u1 u2 : Int → Int) (l : Int) : ∀ (n : Nat) (p q : Int) (t s s2 : Int → Int), (li u1 u2 l n p q t s).1 = (li u1 u2 l n p q t s2).1 ∧ (li u1 u2 l n p q t s).2.1 = (li u1 u2 l n p q t s2).2.1 := by
  intro n
  induction n with
  | zero => intro p q t s s2; exact ⟨rfl, rfl⟩
  | succ n ih =>
    intro p q t s s2
    unfold li
    split
    · split
      · exact ih _ _ _ _ _
      · split
        · exact ih _ _ _ _ _
        · exact ⟨rfl, rfl⟩
    · split
      · exact ih _ _ _ _ _
      · exact ⟨rfl, rfl⟩
/-- a variable that had a term keeps it and its mark; one that gets a term now is marked l and lies below W -/
theorem li_b (u1 u2 : Int → Int) (l W : Int) : ∀ (n : Nat) (p q : Int) (t s : Int → Int), (∀ k : Int, p ≤ k → k < p + n → 0 ≤ u1 k ∧ (u1 k < 32768 → u1 k / 256 < W)) → 0 ≤ q → ∀ v, (t v ≠ -1 → (li u1 u2 l n p q t s).2.1 v = t v ∧ (li u1 u2 l n p q t s).2.2 v = s v) ∧ (t v = -1 → ((li u1 u2 l n p q t s).2.1 v = -1 ∧ (li u1 u2 l n p q t s).2.2 v = s v) ∨ (0 ≤ v ∧ v < W ∧ (li u1 u2 l n p q t s).2.2 v = l)) := by
  intro n
  induction n with
  | zero => intro p q t s _ _ v; exact ⟨fun _ => ⟨rfl, rfl⟩, fun h => Or.inl ⟨h, rfl⟩⟩
  | succ n ih =>
    intro p q t s hW hq v
    have hW' : ∀ k : Int, p + 1 ≤ k → k < p + 1 + n → 0 ≤ u1 k ∧ (u1 k < 32768 → u1 k / 256 < W) := fun k h1 h2 => hW k (by omega) (by omega)
    have hp := hW p (by omega) (by omega)
    unfold li
    split
    · next hv =>
      split
      · next h4 =>
        have hi := ih (p + 1) (q + tz u2 q) (upI t (u1 p / 256) q) (upI s (u1 p / 256) l) hW' (by omega) v
        by_cases e : v = u1 p / 256
        · have e1 : upI t (u1 p / 256) q v = q := if_pos e
          have e2 : upI s (u1 p / 256) l v = l := if_pos e
          rw [e1, e2] at hi
          have h5 : t v = -1 := by rw [e]; exact h4
          refine ⟨fun h => absurd h5 h, fun _ => Or.inr ⟨?_, ?_, (hi.1 (by omega)).2⟩⟩
          · rw [e]; exact Int.ediv_nonneg hp.1 (by decide)
          · rw [e]; exact hp.2 hv
        · have e1 : upI t (u1 p / 256) q v = t v := if_neg e
          have e2 : upI s (u1 p / 256) l v = s v := if_neg e
          rw [e1, e2] at hi
          exact hi
      · split
        · exact ih _ _ _ _ hW' (by omega) v
        · exact ⟨fun _ => ⟨rfl, rfl⟩, fun h => Or.inl ⟨h, rfl⟩⟩
    · split
      · exact ih _ _ _ _ hW' (by omega) v
      · exact ⟨fun _ => ⟨rfl, rfl⟩, fun h => Or.inl ⟨h, rfl⟩⟩
/-- forgetting what literal l has put gives back the terms of before -/
theorem fo_li {u1 u2 : Int → Int} {l W : Int} {n : Nat} {p q : Int} {t s s2 : Int → Int} (hW : ∀ k : Int, p ≤ k → k < p + n → 0 ≤ u1 k ∧ (u1 k < 32768 → u1 k / 256 < W)) (hq : 0 ≤ q) (hJ : ∀ v, 0 ≤ v → v < W → t v ≠ -1 → s v < l) (h2 : ∀ v, (li u1 u2 l n p q t s).2.1 v ≠ -1 → s2 v = (li u1 u2 l n p q t s).2.2 v) : fo W l (li u1 u2 l n p q t s).2.1 s2 = t := by
  funext v
  have hb := li_b u1 u2 l W n p q t s hW hq v
  unfold fo
  by_cases h0 : t v = -1
  · rcases hb.2 h0 with ⟨h3, _⟩ | ⟨h3, h4, h5⟩
    · rw [h3, h0]; split <;> rfl
    · by_cases h6 : (li u1 u2 l n p q t s).2.1 v = -1
      · rw [h6, h0]; split <;> rfl
      · rw [if_pos ⟨h3, h4, by rw [h2 v h6, h5]; omega⟩, h0]
  · obtain ⟨h3, h4⟩ := hb.1 h0
    rw [if_neg, h3]
    rintro ⟨h5, h6, h7⟩
    rw [h2 v (by rw [h3]; exact h0), h4] at h7
    have := hJ v h5 h6 h0
    omega
/-- the terms put are places of terms -/
theorem li_Bd {u1 u2 : Int → Int} {l w E W : Int} (hE : E ≤ w) (hw : w ≤ 64) : ∀ (n : Nat) (o p q : Int) (t s : Int → Int), (∀ k : Int, p ≤ k → k < p + n → u1 k < 32768 → u1 k % 256 = 0) → 0 ≤ q → q ≤ E → Tm (ax u1) n o p → Tm (ax u2) (E - q).toNat o q → (∀ v : Int, 0 ≤ v → v < W → t v = -1 ∨ Bd u2 w (t v)) → ∀ v : Int, 0 ≤ v → v < W → (li u1 u2 l n p q t s).2.1 v = -1 ∨ Bd u2 w ((li u1 u2 l n p q t s).2.1 v) := by
  intro n
  induction n with
  | zero => intro o p q t s _ _ _ _ _ ht; exact ht
  | succ n ih =>
    intro o p q t s hz hq hqE h1 h2 ht
    have hz' : ∀ k : Int, p + 1 ≤ k → k < p + 1 + n → u1 k < 32768 → u1 k % 256 = 0 := fun k k1 k2 => hz k (by omega) (by omega)
    have hqE2 : q < E := by
      have := h1.1
      by_cases hz : q < E
      · exact hz
      · rw [show (E - q).toNat = 0 by omega] at h2
        have h2 : o = 0 := h2
        omega
    unfold li
    by_cases hv : u1 p < 32768
    · rw [if_pos hv]
      have a0 : ax u1 p = 0 := hz p (by omega) (by omega) hv
      obtain ⟨k, k1, k2, k3⟩ := Tm_split (ax_0 u2) (E - q).toNat 1 (o - 1) q (by omega) (by have := h1.1; omega) (by rw [show 1 + (o - 1) = o by omega]; exact h2)
      have kz : tz u2 q = k := tz_Tm k2 (by omega)
      have h1' : Tm (ax u1) n (o - 1) (p + 1) := by have := h1.2; rw [a0, show o - 1 + 0 = o - 1 by omega] at this; exact this
      have h2' : Tm (ax u2) (E - (q + k)).toNat (o - 1) (q + k) := by rw [show (E - (q + k)).toNat = (E - q).toNat - k by omega]; exact k3
      rw [kz]
      by_cases ht1 : t (u1 p / 256) = -1
      · rw [if_pos ht1]
        refine ih (o - 1) (p + 1) (q + k) _ _ hz' (by omega) (by omega) h1' h2' (fun v v1 v2 => ?_)
        unfold upI
        by_cases hvv : v = u1 p / 256
        · rw [if_pos hvv]; exact Or.inr ⟨hq, k, k2, by omega⟩
        · rw [if_neg hvv]; exact ht v v1 v2
      · rw [if_neg ht1]
        split
        · exact ih (o - 1) (p + 1) (q + k) _ _ hz' (by omega) (by omega) h1' h2' ht
        · exact ht
    · rw [if_neg hv]
      split
      · next he =>
        have ea : ax u1 p = ax u2 q := by unfold ax; rw [he]
        refine ih _ (p + 1) (q + 1) _ _ hz' (by omega) (by omega) h1.2 ?_ ht
        rw [show (E - q).toNat = (E - (q + 1)).toNat + 1 by omega] at h2
        rw [ea]
        exact h2.2
      · exact ht
