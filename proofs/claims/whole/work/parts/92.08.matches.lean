/-- the second object's slot s holds that clause -/
def KM (S : St) (s n : Int) (o u : Int → Int) : Prop := 0 ≤ s ∧ s < 125 ∧ S.A 41 s = n ∧ S.A 42 s = o n ∧ (∀ k : Int, 0 ≤ k → k < n → S.A 39 (4 * s + k) = 64 * s + o k ∧ S.A 40 (4 * s + k) = dn (u (o k))) ∧ (∀ p : Int, 0 ≤ p → p < o n → S.A 38 (64 * s + p) = mo (u p))
/-- and its symbols are symbols, atoms at the heads alone -/
def WV (n : Int) (o u : Int → Int) : Prop := WK n o u ∧ (∀ p : Int, 0 ≤ p → p < o n → vx (u p)) ∧ (∀ k : Int, 0 ≤ k → k < n → 131072 ≤ u (o k) ∧ ∀ p : Int, o k < p → p < o (k + 1) → u p < 131072)
theorem KM.fr {X : List Nat} {S T : St} (h : Fr X S T) (hX : ∀ c ∈ X, c ∉ [38, 39, 40, 41, 42]) {s n : Int} {o u : Int → Int} (hk : KM S s n o u) : KM T s n o u := by
  obtain ⟨h1, h2, h3, h4, h5, h6⟩ := hk
  have g38 : T.A 38 = S.A 38 := h.A (fun e => hX _ e (by decide))
  have g39 : T.A 39 = S.A 39 := h.A (fun e => hX _ e (by decide))
  have g40 : T.A 40 = S.A 40 := h.A (fun e => hX _ e (by decide))
  have g41 : T.A 41 = S.A 41 := h.A (fun e => hX _ e (by decide))
  have g42 : T.A 42 = S.A 42 := h.A (fun e => hX _ e (by decide))
  unfold KM
  rw [g38, g39, g40, g41, g42]
  exact ⟨h1, h2, h3, h4, h5, h6⟩
theorem g131L154_0 {S : St} {v3 b v5 c n i : Int} {m : Nat} (hn : inR n) (hi : inR i) : g131L154 S v3 b v5 c n (m + 1) 0 i = some 0 := by
  unfold g131L154
  refine (gd_t (by first | exact ⟨by omega, by omega⟩ | exact ⟨by omega, by omega, by omega⟩ | exact ⟨by omega, by omega, by omega, by omega⟩ | omega | exact inR_to _ | assumption | decide)).trans ?_; refine (gd_t (by first | exact ⟨by omega, by omega⟩ | exact ⟨by omega, by omega, by omega⟩ | exact ⟨by omega, by omega, by omega, by omega⟩ | omega | exact inR_to _ | assumption | decide)).trans ?_
  by_cases h : i < n
  · refine (if_pos h).trans ?_
    refine (gd_t (by first | exact ⟨by omega, by omega⟩ | exact ⟨by omega, by omega, by omega⟩ | exact ⟨by omega, by omega, by omega, by omega⟩ | omega | exact inR_to _ | assumption | decide)).trans ?_
    exact if_pos rfl
  · exact if_neg h
theorem g131L154_t {S : St} {v3 b v5 c n : Int} (hc : 0 ≤ c) (hc2 : c < 64) (h6 : 0 ≤ S.A 62 c) (h7 : S.A 62 c + n ≤ 8032) (hb : 0 ≤ b) (hb2 : b + n ≤ 8032) : ∀ (k m : Nat) (i : Int), i + k = n → 0 ≤ i → k < m → (∀ j : Int, 0 ≤ j → j < i → S.A 38 (S.A 62 c + j) = S.A 38 (b + j)) → ((∀ j : Int, 0 ≤ j → j < n → S.A 38 (S.A 62 c + j) = S.A 38 (b + j)) → g131L154 S v3 b v5 c n m 1 i = some 1) ∧ ((¬ ∀ j : Int, 0 ≤ j → j < n → S.A 38 (S.A 62 c + j) = S.A 38 (b + j)) → g131L154 S v3 b v5 c n m 1 i = some 0) := by
  intro k
  induction k with
  | zero =>
    intro m i hk hi hm he
    obtain ⟨m, rfl⟩ : ∃ k, m = k + 1 := ⟨m - 1, by omega⟩
    refine ⟨fun _ => ?_, fun h => absurd (fun j h1 h2 => he j h1 (by omega)) h⟩
    unfold g131L154
    refine (gd_t (by first | exact ⟨by omega, by omega⟩ | exact ⟨by omega, by omega, by omega⟩ | exact ⟨by omega, by omega, by omega, by omega⟩ | omega | exact inR_to _ | assumption | decide)).trans ?_; refine (gd_t (by first | exact ⟨by omega, by omega⟩ | exact ⟨by omega, by omega, by omega⟩ | exact ⟨by omega, by omega, by omega, by omega⟩ | omega | exact inR_to _ | assumption | decide)).trans ?_
    exact if_neg (by omega)
  | succ k ih =>
    intro m i hk hi hm he
    obtain ⟨m, rfl⟩ : ∃ k, m = k + 1 := ⟨m - 1, by omega⟩
    have e : g131L154 S v3 b v5 c n (m + 1) 1 i = if S.A 38 (S.A 62 c + i) = S.A 38 (b + i) then g131L154 S v3 b v5 c n m 1 (i + 1) else g131L154 S v3 b v5 c n m 0 (i + 1) := by
      conv => lhs; unfold g131L154
      refine (gd_t (by first | exact ⟨by omega, by omega⟩ | exact ⟨by omega, by omega, by omega⟩ | exact ⟨by omega, by omega, by omega, by omega⟩ | omega | exact inR_to _ | assumption | decide)).trans ?_; refine (gd_t (by first | exact ⟨by omega, by omega⟩ | exact ⟨by omega, by omega, by omega⟩ | exact ⟨by omega, by omega, by omega, by omega⟩ | omega | exact inR_to _ | assumption | decide)).trans ?_
      refine (if_pos (by omega)).trans ?_
      refine (gd_t (by first | exact ⟨by omega, by omega⟩ | exact ⟨by omega, by omega, by omega⟩ | exact ⟨by omega, by omega, by omega, by omega⟩ | omega | exact inR_to _ | assumption | decide)).trans ?_
      refine (if_neg (by decide)).trans ?_
      refine (gd_t (by first | exact ⟨by omega, by omega⟩ | exact ⟨by omega, by omega, by omega⟩ | exact ⟨by omega, by omega, by omega, by omega⟩ | omega | exact inR_to _ | assumption | decide)).trans ?_; refine (gd_t (by first | exact ⟨by omega, by omega⟩ | exact ⟨by omega, by omega, by omega⟩ | exact ⟨by omega, by omega, by omega, by omega⟩ | omega | exact inR_to _ | assumption | decide)).trans ?_; refine (gd_t (by first | exact ⟨by omega, by omega⟩ | exact ⟨by omega, by omega, by omega⟩ | exact ⟨by omega, by omega, by omega, by omega⟩ | omega | exact inR_to _ | assumption | decide)).trans ?_
      rfl
    rw [e]
    by_cases h0 : S.A 38 (S.A 62 c + i) = S.A 38 (b + i)
    · rw [if_pos h0]
      refine ih m (i + 1) (by omega) (by omega) (by omega) (fun j h1 h2 => ?_)
      by_cases hj : j = i
      · rw [hj]; exact h0
      · exact he j h1 (by omega)
    · rw [if_neg h0]
      obtain ⟨m, rfl⟩ : ∃ k, m = k + 1 := ⟨m - 1, by omega⟩
      exact ⟨fun h => absurd (h i hi (by omega)) h0, fun _ => g131L154_0 ⟨by omega, by omega⟩ ⟨by omega, by omega⟩⟩
/-- a place where a term of u stands, not behind w, no atom in it -/
def Bq (u : Int → Int) (w r : Int) : Prop := 0 ≤ r ∧ ∃ k : Nat, Tm (ax u) k 1 r ∧ r + k ≤ w ∧ ∀ j : Int, 0 ≤ j → j < k → u (r + j) < 131072
/-- the second object's terms are t -/
def MB (S : St) (s w W : Int) (u t : Int → Int) : Prop := ∀ v : Int, 0 ≤ v → v < W → (t v = -1 ∧ S.A 62 v = -1) ∨ (Bq u w (t v) ∧ S.A 62 v = 64 * s + t v ∧ S.A 63 v = tz u (t v))
theorem g125_s {S : St} {s n : Int} {o u : Int → Int} {k : Nat} {q : Int} (hk : KM S s n o u) (hV : ∀ p : Int, 0 ≤ p → p < o n → vx (u p)) (hw : o n ≤ 64) (hq : 0 ≤ q) (h : Tm (ax u) k 1 q) (hq2 : q + k ≤ o n) : g125 S 38 (64 * s + q) = some (64 * s + q + k) := by
  obtain ⟨h1, h2, h3, h4, h5, h6⟩ := hk
  refine g125_t (N := 8032) (f := S.A0 38) rfl (by decide) ?_ (by omega) (by omega)
  have := Tm_ext (al := ax u) (be := fun q => arM (S.A0 38 q).toInt) (d := 64 * s) k 1 q (fun i i1 i2 => ?_) h
  · rw [show 64 * s + q = q + 64 * s by omega]; exact this
  · show u (q + i) % 256 = arM (S.A 38 (q + 64 * s + i))
    rw [show q + 64 * s + i = 64 * s + (q + i) by omega, h6 (q + i) (by omega) (by omega), mo_ar (hV _ (by omega) (by omega))]
set_option maxHeartbeats 4000000 in
theorem g131L47_t {s1 s2 n1 n2 l P E : Int} {o1 u1 o2 u2 : Int → Int} (hW1 : WV n1 o1 u1) (hW2 : WV n2 o2 u2) (hP : P ≤ o1 n1) (hE : E ≤ o2 n2) (hA2 : ∀ i : Int, 0 ≤ i → i < E → E ≤ i ∨ True) : ∀ (n m : Nat) (o p q : Int) (t s : Int → Int) (S : St), KM S s1 n1 o1 u1 → KM S s2 n2 o2 u2 → p + n = P → 0 ≤ p → 0 ≤ q → q ≤ E → Tm (ax u1) n o p → Tm (ax u2) (E - q).toNat o q → (∀ i : Int, p ≤ i → i < P → u1 i < 131072) → (∀ i : Int, q ≤ i → i < E → u2 i < 131072) → MB S s2 (o2 n2) (o1 n1) u2 t → n < m → ∃ T, g131L47 (64 * s1 + P) m (64 * s2 + q) (64 * s1 + p) S = some (if (li u1 u2 l n p q t s).1 = true then .inl T else .inr (0, T)) ∧ Fr [62, 63] S T ∧ ((li u1 u2 l n p q t s).1 = true → MB T s2 (o2 n2) (o1 n1) u2 (li u1 u2 l n p q t s).2.1) := by
  obtain ⟨⟨w1, w2, w3, w4, w5, w6, w7⟩, wv, wh⟩ := hW1
  obtain ⟨⟨z1, z2, z3, z4, z5, z6, z7⟩, zv, zh⟩ := hW2
  intro n
  induction n with
  | zero =>
    intro m o p q t s S hc hd hp hp0 hq0 hqE h1 h2 ha1 ha2 hB hm
    obtain ⟨m, rfl⟩ : ∃ k, m = k + 1 := ⟨m - 1, by omega⟩
    obtain ⟨c1, c2, c3, c4, c5, c6⟩ := hc
    refine ⟨S, ?_, Fr.refl _ _, fun _ => hB⟩
    unfold g131L47
    refine (gd_t (by first | exact ⟨by omega, by omega⟩ | exact ⟨by omega, by omega, by omega⟩ | exact ⟨by omega, by omega, by omega, by omega⟩ | omega | exact inR_to _ | assumption | decide)).trans ?_; refine (gd_t (by first | exact ⟨by omega, by omega⟩ | exact ⟨by omega, by omega, by omega⟩ | exact ⟨by omega, by omega, by omega, by omega⟩ | omega | exact inR_to _ | assumption | decide)).trans ?_
    exact (if_neg (by omega)).trans rfl
  | succ n ih =>
    intro m o p q t s S hc hd hp hp0 hq0 hqE h1 h2 ha1 ha2 hB hm
    obtain ⟨m, rfl⟩ : ∃ k, m = k + 1 := ⟨m - 1, by omega⟩
    have hc' := hc
    have hd' := hd
    obtain ⟨c1, c2, c3, c4, c5, c6⟩ := hc
    obtain ⟨d1, d2, d3, d4, d5, d6⟩ := hd
    have hqE2 : q < E := by
      have := h1.1
      by_cases hz : q < E
      · exact hz
      · rw [show (E - q).toNat = 0 by omega] at h2
        have h2 : o = 0 := h2
        omega
    have e1 := c6 p hp0 (by omega)
    have v1 := wv p hp0 (by omega)
    have r1 := mo_R v1
    have v7 := w7 p hp0 (by omega)
    have ha1' : ∀ i : Int, p + 1 ≤ i → i < P → u1 i < 131072 := fun i i1 i2 => ha1 i (by omega) i2
    have head : ∀ z, (if (if mo (u1 p) < 4096 then (1 : Int) else 0) = 0 then gd (ixR (64 * s2 + q) 8032) (if mo (u1 p) = S.A 38 (64 * s2 + q) then g131L47 (64 * s1 + P) m (64 * s2 + q + 1) (64 * s1 + p + 1) S else some (.inr (0, S))) else ob (g125 S 38 (64 * s2 + q)) (fun o75 => gd (ixR (mo (u1 p)) 64) (if (S.A 62 (mo (u1 p))) < 0 then gd (inR (o75 - (64 * s2 + q))) (if (o75 - (64 * s2 + q)) = (((S.a 62 (mo (u1 p)) (64 * s2 + q)).a 63 (mo (u1 p)) (o75 - (64 * s2 + q))).A 63 (mo (u1 p))) then ob (g131L154 ((S.a 62 (mo (u1 p)) (64 * s2 + q)).a 63 (mo (u1 p)) (o75 - (64 * s2 + q))) (64 * s1 + P) (64 * s2 + q) (64 * s1 + p) (mo (u1 p)) (o75 - (64 * s2 + q)) FU 1 0) (fun o81 => gd (inR o81) (if o81 = 0 then some (.inr (0, ((S.a 62 (mo (u1 p)) (64 * s2 + q)).a 63 (mo (u1 p)) (o75 - (64 * s2 + q))))) else g131L47 (64 * s1 + P) m (64 * s2 + q + (o75 - (64 * s2 + q))) (64 * s1 + p + 1) ((S.a 62 (mo (u1 p)) (64 * s2 + q)).a 63 (mo (u1 p)) (o75 - (64 * s2 + q))))) else ob (g131L154 ((S.a 62 (mo (u1 p)) (64 * s2 + q)).a 63 (mo (u1 p)) (o75 - (64 * s2 + q))) (64 * s1 + P) (64 * s2 + q) (64 * s1 + p) (mo (u1 p)) (o75 - (64 * s2 + q)) FU 0 0) (fun o89 => gd (inR o89) (if o89 = 0 then some (.inr (0, ((S.a 62 (mo (u1 p)) (64 * s2 + q)).a 63 (mo (u1 p)) (o75 - (64 * s2 + q))))) else g131L47 (64 * s1 + P) m (64 * s2 + q + (o75 - (64 * s2 + q))) (64 * s1 + p + 1) ((S.a 62 (mo (u1 p)) (64 * s2 + q)).a 63 (mo (u1 p)) (o75 - (64 * s2 + q)))))) else gd (inR (o75 - (64 * s2 + q))) (if (o75 - (64 * s2 + q)) = (S.A 63 (mo (u1 p))) then ob (g131L154 S (64 * s1 + P) (64 * s2 + q) (64 * s1 + p) (mo (u1 p)) (o75 - (64 * s2 + q)) FU 1 0) (fun o99 => gd (inR o99) (if o99 = 0 then some (.inr (0, S)) else g131L47 (64 * s1 + P) m (64 * s2 + q + (o75 - (64 * s2 + q))) (64 * s1 + p + 1) S)) else ob (g131L154 S (64 * s1 + P) (64 * s2 + q) (64 * s1 + p) (mo (u1 p)) (o75 - (64 * s2 + q)) FU 0 0) (fun o107 => gd (inR o107) (if o107 = 0 then some (.inr (0, S)) else g131L47 (64 * s1 + P) m (64 * s2 + q + (o75 - (64 * s2 + q))) (64 * s1 + p + 1) S)))))) = z → g131L47 (64 * s1 + P) (m + 1) (64 * s2 + q) (64 * s1 + p) S = z := by
      intro z hz
      rw [← hz]
      conv => lhs; unfold g131L47
      refine (gd_t (by first | exact ⟨by omega, by omega⟩ | exact ⟨by omega, by omega, by omega⟩ | exact ⟨by omega, by omega, by omega, by omega⟩ | omega | exact inR_to _ | assumption | decide)).trans ?_; refine (gd_t (by first | exact ⟨by omega, by omega⟩ | exact ⟨by omega, by omega, by omega⟩ | exact ⟨by omega, by omega, by omega, by omega⟩ | omega | exact inR_to _ | assumption | decide)).trans ?_
      refine (if_pos (by omega)).trans ?_
      refine (gd_t (by first | exact ⟨by omega, by omega⟩ | exact ⟨by omega, by omega, by omega⟩ | exact ⟨by omega, by omega, by omega, by omega⟩ | omega | exact inR_to _ | assumption | decide)).trans ?_
      rw [e1, g122_t ⟨by omega, by omega⟩]
      show gd (inR (if mo (u1 p) < 4096 then 1 else 0)) _ = _
      refine (gd_t (by split <;> decide)).trans ?_
      rfl
    have fx1 : 64 * s1 + p + 1 = 64 * s1 + (p + 1) := by omega
    unfold li
    by_cases hv : u1 p < 32768
    · rw [if_pos hv]
      have hv2 := v7.2 hv
      have hu0 : 0 ≤ u1 p / 256 := Int.ediv_nonneg v7.1 (by decide)
      have mv := mo_var hv
      have a0 : ax u1 p = 0 := by unfold ax; exact hv2.2
      obtain ⟨k, k1, k2, k3⟩ := Tm_split (ax_0 u2) (E - q).toNat 1 (o - 1) q (by omega) (by have := h1.1; omega) (by rw [show 1 + (o - 1) = o by omega]; exact h2)
      have kz : tz u2 q = k := tz_Tm k2 (by omega)
      have ek := g125_s hd' zv z4 hq0 k2 (by omega)
      have h1' : Tm (ax u1) n (o - 1) (p + 1) := by have := h1.2; rw [a0, show o - 1 + 0 = o - 1 by omega] at this; exact this
      have h2' : Tm (ax u2) (E - (q + k)).toNat (o - 1) (q + k) := by rw [show (E - (q + k)).toNat = (E - q).toNat - k by omega]; exact k3
      have ha2' : ∀ i : Int, q + k ≤ i → i < E → u2 i < 131072 := fun i i1 i2 => ha2 i (by omega) i2
      have bq : Bq u2 (o2 n2) q := ⟨hq0, k, k2, by omega, fun j j1 j2 => ha2 _ (by omega) (by omega)⟩
      have ed : 64 * s2 + q + k - (64 * s2 + q) = k := by omega
      have fx2 : 64 * s2 + q + (k : Int) = 64 * s2 + (q + k) := by omega
      rw [kz]
      rw [if_neg (by rw [if_pos ((mo_v v1).mpr hv)]; decide), ek] at head
      have head : ∀ z, gd (ixR (mo (u1 p)) 64) (if (S.A 62 (mo (u1 p))) < 0 then gd (inR (64 * s2 + q + k - (64 * s2 + q))) (if (64 * s2 + q + k - (64 * s2 + q)) = (((S.a 62 (mo (u1 p)) (64 * s2 + q)).a 63 (mo (u1 p)) (64 * s2 + q + k - (64 * s2 + q))).A 63 (mo (u1 p))) then ob (g131L154 ((S.a 62 (mo (u1 p)) (64 * s2 + q)).a 63 (mo (u1 p)) (64 * s2 + q + k - (64 * s2 + q))) (64 * s1 + P) (64 * s2 + q) (64 * s1 + p) (mo (u1 p)) (64 * s2 + q + k - (64 * s2 + q)) FU 1 0) (fun o81 => gd (inR o81) (if o81 = 0 then some (.inr (0, ((S.a 62 (mo (u1 p)) (64 * s2 + q)).a 63 (mo (u1 p)) (64 * s2 + q + k - (64 * s2 + q))))) else g131L47 (64 * s1 + P) m (64 * s2 + q + (64 * s2 + q + k - (64 * s2 + q))) (64 * s1 + p + 1) ((S.a 62 (mo (u1 p)) (64 * s2 + q)).a 63 (mo (u1 p)) (64 * s2 + q + k - (64 * s2 + q))))) else ob (g131L154 ((S.a 62 (mo (u1 p)) (64 * s2 + q)).a 63 (mo (u1 p)) (64 * s2 + q + k - (64 * s2 + q))) (64 * s1 + P) (64 * s2 + q) (64 * s1 + p) (mo (u1 p)) (64 * s2 + q + k - (64 * s2 + q)) FU 0 0) (fun o89 => gd (inR o89) (if o89 = 0 then some (.inr (0, ((S.a 62 (mo (u1 p)) (64 * s2 + q)).a 63 (mo (u1 p)) (64 * s2 + q + k - (64 * s2 + q))))) else g131L47 (64 * s1 + P) m (64 * s2 + q + (64 * s2 + q + k - (64 * s2 + q))) (64 * s1 + p + 1) ((S.a 62 (mo (u1 p)) (64 * s2 + q)).a 63 (mo (u1 p)) (64 * s2 + q + k - (64 * s2 + q)))))) else gd (inR (64 * s2 + q + k - (64 * s2 + q))) (if (64 * s2 + q + k - (64 * s2 + q)) = (S.A 63 (mo (u1 p))) then ob (g131L154 S (64 * s1 + P) (64 * s2 + q) (64 * s1 + p) (mo (u1 p)) (64 * s2 + q + k - (64 * s2 + q)) FU 1 0) (fun o99 => gd (inR o99) (if o99 = 0 then some (.inr (0, S)) else g131L47 (64 * s1 + P) m (64 * s2 + q + (64 * s2 + q + k - (64 * s2 + q))) (64 * s1 + p + 1) S)) else ob (g131L154 S (64 * s1 + P) (64 * s2 + q) (64 * s1 + p) (mo (u1 p)) (64 * s2 + q + k - (64 * s2 + q)) FU 0 0) (fun o107 => gd (inR o107) (if o107 = 0 then some (.inr (0, S)) else g131L47 (64 * s1 + P) m (64 * s2 + q + (64 * s2 + q + k - (64 * s2 + q))) (64 * s1 + p + 1) S)))) = z → g131L47 (64 * s1 + P) (m + 1) (64 * s2 + q) (64 * s1 + p) S = z := head
      rw [ed, mv, fx1, fx2] at head
      rcases hB (u1 p / 256) hu0 hv2.1 with ⟨t1, t2⟩ | ⟨t1, t2, t3⟩
      · rw [if_pos t1]
        have q62 : ((S.a 62 (u1 p / 256) (64 * s2 + q)).a 63 (u1 p / 256) k).A 62 = upI (S.A 62) (u1 p / 256) (64 * s2 + q) := by rw [aA_ne (by decide), aA_up ⟨by omega, by omega⟩]
        have q63 : ((S.a 62 (u1 p / 256) (64 * s2 + q)).a 63 (u1 p / 256) k).A 63 = upI (S.A 63) (u1 p / 256) k := by rw [aA_up ⟨by omega, by omega⟩, aA_ne (by decide)]
        have q38 : ((S.a 62 (u1 p / 256) (64 * s2 + q)).a 63 (u1 p / 256) k).A 38 = S.A 38 := by rw [aA_ne (by decide), aA_ne (by decide)]
        have fr : Fr [62, 63] S ((S.a 62 (u1 p / 256) (64 * s2 + q)).a 63 (u1 p / 256) k) := (Fr.a (by decide)).trans (Fr.a (by decide))
        have x62 : ((S.a 62 (u1 p / 256) (64 * s2 + q)).a 63 (u1 p / 256) k).A 62 (u1 p / 256) = 64 * s2 + q := by rw [q62]; exact if_pos rfl
        obtain ⟨T, y1, y2, y3⟩ := ih m (o - 1) (p + 1) (q + k) (upI t (u1 p / 256) q) (upI s (u1 p / 256) l) _ (hc'.fr fr (by decide)) (hd'.fr fr (by decide)) (by omega) (by omega) (by omega) (by omega) h1' h2' ha1' ha2' (fun v v1 v2 => by
          rw [q62, q63]
          unfold upI
          by_cases hvv : v = u1 p / 256
          · rw [if_pos hvv, if_pos hvv, if_pos hvv]; exact Or.inr ⟨bq, rfl, by rw [kz]⟩
          · rw [if_neg hvv, if_neg hvv, if_neg hvv]; exact hB v v1 v2) (by omega)
        refine ⟨T, head _ ?_, fr.trans y2, y3⟩
        refine (gd_t (by first | exact ⟨by omega, by omega⟩ | exact ⟨by omega, by omega, by omega⟩ | exact ⟨by omega, by omega, by omega, by omega⟩ | omega | exact inR_to _ | assumption | decide)).trans ?_
        rw [if_pos (by omega)]
        refine (gd_t (by first | exact ⟨by omega, by omega⟩ | exact ⟨by omega, by omega, by omega⟩ | exact ⟨by omega, by omega, by omega, by omega⟩ | omega | exact inR_to _ | assumption | decide)).trans ?_
        rw [if_pos (by rw [q63]; exact (if_pos rfl).symm)]
        obtain ⟨m9, hm9⟩ := FU_ge (n := k) (by omega)
        have hl := (g131L154_t (S := (S.a 62 (u1 p / 256) (64 * s2 + q)).a 63 (u1 p / 256) k) (v3 := 64 * s1 + P) (b := 64 * s2 + q) (v5 := 64 * s1 + p) (c := u1 p / 256) (n := k) hu0 (by omega) (by rw [x62]; omega) (by rw [x62]; omega) (by omega) (by omega) k FU 0 (by omega) (by omega) (by omega) (fun j j1 j2 => absurd j2 (by omega))).1 (fun j j1 j2 => by rw [x62])
        rw [hl]
        show gd (inR 1) _ = _
        refine (gd_t (by first | exact ⟨by omega, by omega⟩ | exact ⟨by omega, by omega, by omega⟩ | exact ⟨by omega, by omega, by omega, by omega⟩ | omega | exact inR_to _ | assumption | decide)).trans ?_
        exact y1
      · have tne : t (u1 p / 256) ≠ -1 := by have := t1.1; omega
        rw [if_neg tne]
        obtain ⟨r0, k9, k10, k11, k12⟩ := t1
        have tz9 : tz u2 (t (u1 p / 256)) = k9 := tz_Tm k10 (by omega)
        have key : (k9 = k ∧ ∀ j : Int, 0 ≤ j → j < k → S.A 38 (S.A 62 (u1 p / 256) + j) = S.A 38 (64 * s2 + q + j)) ↔ sm u2 (t (u1 p / 256)) q k = true := by
          rw [sm_iff, t2]
          have eq : k9 = k → ∀ j : Int, 0 ≤ j → j < k → (S.A 38 (64 * s2 + t (u1 p / 256) + j) = S.A 38 (64 * s2 + q + j) ↔ u2 (t (u1 p / 256) + j) = u2 (q + j)) := by
            intro hk j j1 j2
            have b1 := k12 j j1 (by omega)
            have b2 := ha2 (q + j) (by omega) (by omega)
            rw [show 64 * s2 + t (u1 p / 256) + j = 64 * s2 + (t (u1 p / 256) + j) by omega, show 64 * s2 + q + j = 64 * s2 + (q + j) by omega, d6 _ (by omega) (by omega), d6 _ (by omega) (by omega)]
            exact mo_inj (zv _ (by omega) (by omega)) (zv _ (by omega) (by omega)) (by omega) (by omega)
          constructor
          · rintro ⟨hk, h⟩ j j1 j2
            exact (eq hk j j1 j2).mp (h j j1 j2)
          · intro h
            have kk : k9 = k := Tm_pre k10 k2 (fun i i1 i2 i3 => h i i1 (by omega))
            exact ⟨kk, fun j j1 j2 => (eq kk j j1 j2).mpr (h j j1 j2)⟩
        obtain ⟨m9, hm9⟩ := FU_ge (n := k) (by omega)
        have fail : ¬ sm u2 (t (u1 p / 256)) q k = true → ∃ T, g131L47 (64 * s1 + P) (m + 1) (64 * s2 + q) (64 * s1 + p) S = some (.inr (0, T)) ∧ Fr [62, 63] S T := by
          intro hs
          refine ⟨S, head _ ?_, Fr.refl _ _⟩
          refine (gd_t (by first | exact ⟨by omega, by omega⟩ | exact ⟨by omega, by omega, by omega⟩ | exact ⟨by omega, by omega, by omega, by omega⟩ | omega | exact inR_to _ | assumption | decide)).trans ?_
          rw [if_neg (by omega)]
          refine (gd_t (by first | exact ⟨by omega, by omega⟩ | exact ⟨by omega, by omega, by omega⟩ | exact ⟨by omega, by omega, by omega, by omega⟩ | omega | exact inR_to _ | assumption | decide)).trans ?_
          by_cases hk : k9 = k
          · rw [if_pos (by rw [t3, tz9, hk])]
            have hl := (g131L154_t (S := S) (v3 := 64 * s1 + P) (b := 64 * s2 + q) (v5 := 64 * s1 + p) (c := u1 p / 256) (n := k) hu0 (by omega) (by omega) (by omega) (by omega) (by omega) k FU 0 (by omega) (by omega) (by omega) (fun j j1 j2 => absurd j2 (by omega))).2 (fun h => hs (key.mp ⟨hk, h⟩))
            rw [hl]
            rfl
          · rw [if_neg (by rw [t3, tz9]; omega), hm9, ← Nat.add_assoc, g131L154_0 ⟨by omega, by omega⟩ (by decide)]
            rfl
        by_cases hs : sm u2 (t (u1 p / 256)) q k = true
        · rw [if_pos hs]
          obtain ⟨hk, hall⟩ := key.mpr hs
          obtain ⟨T, y1, y2, y3⟩ := ih m (o - 1) (p + 1) (q + k) t s S hc' hd' (by omega) (by omega) (by omega) (by omega) h1' h2' ha1' ha2' hB (by omega)
          refine ⟨T, head _ ?_, y2, y3⟩
          refine (gd_t (by first | exact ⟨by omega, by omega⟩ | exact ⟨by omega, by omega, by omega⟩ | exact ⟨by omega, by omega, by omega, by omega⟩ | omega | exact inR_to _ | assumption | decide)).trans ?_
          rw [if_neg (by omega)]
          refine (gd_t (by first | exact ⟨by omega, by omega⟩ | exact ⟨by omega, by omega, by omega⟩ | exact ⟨by omega, by omega, by omega, by omega⟩ | omega | exact inR_to _ | assumption | decide)).trans ?_
          rw [if_pos (by rw [t3, tz9, hk])]
          have hl := (g131L154_t (S := S) (v3 := 64 * s1 + P) (b := 64 * s2 + q) (v5 := 64 * s1 + p) (c := u1 p / 256) (n := k) hu0 (by omega) (by omega) (by omega) (by omega) (by omega) k FU 0 (by omega) (by omega) (by omega) (fun j j1 j2 => absurd j2 (by omega))).1 hall
          rw [hl]
          show gd (inR 1) _ = _
          refine (gd_t (by first | exact ⟨by omega, by omega⟩ | exact ⟨by omega, by omega, by omega⟩ | exact ⟨by omega, by omega, by omega, by omega⟩ | omega | exact inR_to _ | assumption | decide)).trans ?_
          exact y1
        · rw [if_neg hs]
          obtain ⟨T, y1, y2⟩ := fail hs
          exact ⟨T, y1, y2, fun h => by cases h⟩
    · rw [if_neg hv]
      have e3 := d6 q hq0 (by omega)
      have v3 := zv q hq0 (by omega)
      rw [if_pos (by rw [if_neg (fun h => hv ((mo_v v1).mp h))]), e3, fx1, show 64 * s2 + q + 1 = 64 * s2 + (q + 1) by omega] at head
      have keq : mo (u1 p) = mo (u2 q) ↔ u1 p = u2 q := mo_inj v1 v3 (by have := ha1 p (by omega) (by omega); have := ha2 q (by omega) hqE2; omega) (fun h => by have := ha1 p (by omega) (by omega); omega)
      by_cases he : u1 p = u2 q
      · rw [if_pos he]
        have ea : ax u1 p = ax u2 q := by unfold ax; rw [he]
        have h2' : Tm (ax u2) (E - (q + 1)).toNat (o - 1 + ax u1 p) (q + 1) := by
          rw [show (E - q).toNat = (E - (q + 1)).toNat + 1 by omega] at h2
          rw [ea]
          exact h2.2
        obtain ⟨T, y1, y2, y3⟩ := ih m _ (p + 1) (q + 1) t s S hc' hd' (by omega) (by omega) (by omega) (by omega) h1.2 h2' ha1' (fun i i1 i2 => ha2 i (by omega) i2) hB (by omega)
        refine ⟨T, head _ ?_, y2, y3⟩
        refine (gd_t (by first | exact ⟨by omega, by omega⟩ | exact ⟨by omega, by omega, by omega⟩ | exact ⟨by omega, by omega, by omega, by omega⟩ | omega | exact inR_to _ | assumption | decide)).trans ?_
        rw [if_pos (keq.mpr he)]
        exact y1
      · rw [if_neg he]
        refine ⟨S, head _ ?_, Fr.refl _ _, fun h => by cases h⟩
        refine (gd_t (by first | exact ⟨by omega, by omega⟩ | exact ⟨by omega, by omega, by omega⟩ | exact ⟨by omega, by omega, by omega, by omega⟩ | omega | exact inR_to _ | assumption | decide)).trans ?_
        exact if_neg (fun h => he (keq.mp h))
