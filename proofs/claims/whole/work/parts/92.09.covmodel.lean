theorem g131L47_h {s1 s2 n1 n2 P p q : Int} {o1 u1 o2 u2 : Int → Int} {m : Nat} {S : St} (hc : KM S s1 n1 o1 u1) (hd : KM S s2 n2 o2 u2) (v1 : vx (u1 p)) (v2 : vx (u2 q)) (hp : 0 ≤ p) (hpP : p < P) (hP : P ≤ o1 n1) (hP2 : o1 n1 ≤ 64) (hq : 0 ≤ q) (hq2 : q < o2 n2) (hq3 : o2 n2 ≤ 64) (a1 : 131072 ≤ u1 p) (a2 : 131072 ≤ u2 q) (hdn : dn (u1 p) = dn (u2 q)) : g131L47 (64 * s1 + P) (m + 1) (64 * s2 + q) (64 * s1 + p) S = if u1 p = u2 q then g131L47 (64 * s1 + P) m (64 * s2 + (q + 1)) (64 * s1 + (p + 1)) S else some (.inr (0, S)) := by
  obtain ⟨c1, c2, c3, c4, c5, c6⟩ := hc
  obtain ⟨d1, d2, d3, d4, d5, d6⟩ := hd
  have e1 := c6 p hp (by omega)
  have e3 := d6 q hq hq2
  have r1 := mo_R v1
  have keq : mo (u1 p) = mo (u2 q) ↔ u1 p = u2 q := mo_inj v1 v2 (by omega) (fun _ => hdn)
  have nv : ¬ mo (u1 p) < 4096 := fun h => by have := (mo_v v1).mp h; omega
  conv => lhs; unfold g131L47
  refine (gd_t (by first | exact ⟨by omega, by omega⟩ | exact ⟨by omega, by omega, by omega⟩ | exact ⟨by omega, by omega, by omega, by omega⟩ | omega | exact inR_to _ | assumption | decide)).trans ?_; refine (gd_t (by first | exact ⟨by omega, by omega⟩ | exact ⟨by omega, by omega, by omega⟩ | exact ⟨by omega, by omega, by omega, by omega⟩ | omega | exact inR_to _ | assumption | decide)).trans ?_
  refine (if_pos (by omega)).trans ?_
  refine (gd_t (by first | exact ⟨by omega, by omega⟩ | exact ⟨by omega, by omega, by omega⟩ | exact ⟨by omega, by omega, by omega, by omega⟩ | omega | exact inR_to _ | assumption | decide)).trans ?_
  rw [e1, g122_t ⟨by omega, by omega⟩, if_neg nv]
  show gd (inR 0) _ = _
  refine (gd_t (by first | exact ⟨by omega, by omega⟩ | exact ⟨by omega, by omega, by omega⟩ | exact ⟨by omega, by omega, by omega, by omega⟩ | omega | exact inR_to _ | assumption | decide)).trans ?_
  refine (if_pos rfl).trans ?_
  refine (gd_t (by first | exact ⟨by omega, by omega⟩ | exact ⟨by omega, by omega, by omega⟩ | exact ⟨by omega, by omega, by omega, by omega⟩ | omega | exact inR_to _ | assumption | decide)).trans ?_
  rw [e3, show 64 * s1 + p + 1 = 64 * s1 + (p + 1) by omega, show 64 * s2 + q + 1 = 64 * s2 + (q + 1) by omega]
  by_cases he : u1 p = u2 q
  · rw [if_pos he, if_pos (keq.mpr he)]
  · rw [if_neg he, if_neg (fun h => he (keq.mp h))]
theorem g131_t {S : St} {s1 s2 n1 n2 k1 k2 : Int} {o1 u1 o2 u2 t : Int → Int} (hc : KM S s1 n1 o1 u1) (hd : KM S s2 n2 o2 u2) (hW1 : WV n1 o1 u1) (hW2 : WV n2 o2 u2) (hk : 0 ≤ k1) (hk1 : k1 < n1) (hk2 : 0 ≤ k2) (hk3 : k2 < n2) (hB : MB S s2 (o2 n2) (o1 n1) u2 t) : ∃ T, g131 S (4 * s1 + k1) (4 * s2 + k2) = some ((if (lk o1 u1 o2 u2 k1 k2 t).1 = true then 1 else 0), T) ∧ Fr [62, 63] S T ∧ ((lk o1 u1 o2 u2 k1 k2 t).1 = true → MB T s2 (o2 n2) (o1 n1) u2 (lk o1 u1 o2 u2 k1 k2 t).2) := by
  have hW1' := hW1
  have hW2' := hW2
  obtain ⟨⟨w1, w2, w3, w4, w5, w6, w7⟩, wv, wh⟩ := hW1
  obtain ⟨⟨z1, z2, z3, z4, z5, z6, z7⟩, zv, zh⟩ := hW2
  have hc' := hc
  have hd' := hd
  obtain ⟨c1, c2, c3, c4, c5, c6⟩ := hc
  obtain ⟨d1, d2, d3, d4, d5, d6⟩ := hd
  have a1 := w5 k1 hk hk1
  have a2 := z5 k2 hk2 hk3
  have a3 := w6 k1 hk (by omega)
  have a3' := w6 (k1 + 1) (by omega) (by omega)
  have a4 := z6 k2 hk2 (by omega)
  have a5 := z6 (k2 + 1) (by omega) (by omega)
  have b1 := wh k1 hk hk1
  have b2 := zh k2 hk2 hk3
  have x1 := c5 k1 hk hk1
  have x2 := d5 k2 hk2 hk3
  obtain ⟨n, hn⟩ : ∃ n, (o1 (k1 + 1) - o1 k1).toNat = n + 1 := ⟨(o1 (k1 + 1) - o1 k1).toNat - 1, by omega⟩
  have el : ∀ s, li u1 u2 k1 (o1 (k1 + 1) - o1 k1).toNat (o1 k1) (o2 k2) t s = if u1 (o1 k1) = u2 (o2 k2) then li u1 u2 k1 n (o1 k1 + 1) (o2 k2 + 1) t s else (false, t, s) := by
    intro s
    rw [hn]
    show (if u1 (o1 k1) < 32768 then _ else _) = _
    rw [if_neg (by omega)]
  have elk : lk o1 u1 o2 u2 k1 k2 t = if u1 (o1 k1) = u2 (o2 k2) then ((li u1 u2 k1 n (o1 k1 + 1) (o2 k2 + 1) t (fun _ => 0)).1, (li u1 u2 k1 n (o1 k1 + 1) (o2 k2 + 1) t (fun _ => 0)).2.1) else (false, t) := by
    unfold lk
    rw [el]
    split <;> rfl
  have e0 : ∀ z, (if dn (u1 (o1 k1)) = dn (u2 (o2 k2)) then obr (g131L47 (64 * s1 + o1 (k1 + 1)) FU (64 * s2 + o2 k2) (64 * s1 + o1 k1) S) (fun o115 => some (1, o115)) else some (0, S)) = z → g131 S (4 * s1 + k1) (4 * s2 + k2) = z := by
    intro z hz
    rw [← hz]
    unfold g131
    refine (gd_t (by first | exact ⟨by omega, by omega⟩ | exact ⟨by omega, by omega, by omega⟩ | exact ⟨by omega, by omega, by omega, by omega⟩ | omega | exact inR_to _ | assumption | decide)).trans ?_; refine (gd_t (by first | exact ⟨by omega, by omega⟩ | exact ⟨by omega, by omega, by omega⟩ | exact ⟨by omega, by omega, by omega, by omega⟩ | omega | exact inR_to _ | assumption | decide)).trans ?_
    rw [x1.1, x1.2, x2.1, x2.2]
    split
    · have h125 := g125_s hc' wv w4 a3.1 a1.2 (by omega)
      rw [h125]
      show obr (g131L47 (64 * s1 + o1 k1 + _) FU (64 * s2 + o2 k2) (64 * s1 + o1 k1) S) (fun o115 => some (1, o115)) = _
      rw [show 64 * s1 + o1 k1 + ((o1 (k1 + 1) - o1 k1).toNat : Int) = 64 * s1 + o1 (k1 + 1) by omega]
    · rfl
  by_cases hdn : dn (u1 (o1 k1)) = dn (u2 (o2 k2))
  · obtain ⟨m, hm⟩ := FU_ge (n := n + 1) (by omega)
    have hh := g131L47_h (P := o1 (k1 + 1)) (m := n + 1 + m) hc' hd' (wv (o1 k1) a3.1 (by omega)) (zv (o2 k2) a4.1 (by omega)) a3.1 (by omega) (by omega) w4 a4.1 (by omega) z4 b1.1 b2.1 hdn
    by_cases he : u1 (o1 k1) = u2 (o2 k2)
    · rw [if_pos he] at hh
      rw [elk, if_pos he]
      have t1 := a1.2
      rw [hn] at t1
      have t2 := a2.2
      obtain ⟨n', hn'⟩ : ∃ n', (o2 (k2 + 1) - o2 k2).toNat = n' + 1 := ⟨(o2 (k2 + 1) - o2 k2).toNat - 1, by omega⟩
      rw [hn'] at t2
      have ea : ax u1 (o1 k1) = ax u2 (o2 k2) := by unfold ax; rw [he]
      obtain ⟨T, y1, y2, y3⟩ := g131L47_t (l := k1) (P := o1 (k1 + 1)) (E := o2 (k2 + 1)) hW1' hW2' a3'.2 a5.2 (fun _ _ _ => Or.inr trivial) n (n + 1 + m) _ (o1 k1 + 1) (o2 k2 + 1) t (fun _ => 0) S hc' hd' (by omega) (by omega) (by omega) (by omega) t1.2 (by rw [show (o2 (k2 + 1) - (o2 k2 + 1)).toNat = n' by omega, ea]; exact t2.2) (fun i i1 i2 => b1.2 i (by omega) i2) (fun i i1 i2 => b2.2 i (by omega) i2) hB (by omega)
      refine ⟨T, e0 _ ?_, y2, y3⟩
      rw [if_pos hdn, show FU = n + 1 + m + 1 by omega, hh, y1]
      cases (li u1 u2 k1 n (o1 k1 + 1) (o2 k2 + 1) t (fun _ => 0)).1
      · rfl
      · rfl
    · rw [if_neg he] at hh
      rw [elk, if_neg he]
      refine ⟨S, e0 _ ?_, Fr.refl _ _, fun h => by cases h⟩
      rw [if_pos hdn, show FU = n + 1 + m + 1 by omega, hh]
      rfl
  · have he : ¬ u1 (o1 k1) = u2 (o2 k2) := fun h => hdn (by rw [h])
    rw [elk, if_neg he]
    exact ⟨S, e0 _ (if_neg hdn), Fr.refl _ _, fun h => by cases h⟩
/-- the r literals from l on laid as the digits of x say -/
def chn (o1 u1 o2 u2 : Int → Int) (n2 : Int) : Nat → Int → (Int → Int) → Int → Bool
  | 0, _, _, _ => true
  | r + 1, l, t, x => (lk o1 u1 o2 u2 l (x % n2) t).1 && chn o1 u1 o2 u2 n2 r (l + 1) (lk o1 u1 o2 u2 l (x % n2) t).2 (x / n2)
theorem chn_sv {o1 u1 o2 u2 : Int → Int} {n2 : Int} (h0 : 0 < n2) : ∀ (r : Nat) (l : Int) (t : Int → Int), (∃ x : Int, 0 ≤ x ∧ x < n2 ^ r ∧ chn o1 u1 o2 u2 n2 r l t x = true) ↔ sv o1 u1 o2 u2 n2.toNat r l t = true := by
  intro r
  induction r with
  | zero => intro l t; exact ⟨fun _ => rfl, fun _ => ⟨0, by omega, by rw [Int.pow_zero]; omega, rfl⟩⟩
  | succ r ih =>
    intro l t
    rw [sv_iff]
    constructor
    · rintro ⟨x, x0, x1, hx⟩
      have hx : ((lk o1 u1 o2 u2 l (x % n2) t).1 && chn o1 u1 o2 u2 n2 r (l + 1) (lk o1 u1 o2 u2 l (x % n2) t).2 (x / n2)) = true := hx
      rw [Bool.and_eq_true] at hx
      refine ⟨x % n2, Int.emod_nonneg _ (by omega), by have := Int.emod_lt_of_pos x h0; omega, ?_⟩
      rw [Bool.and_eq_true]
      refine ⟨hx.1, (ih _ _).mp ⟨x / n2, Int.ediv_nonneg x0 (by omega), ?_, hx.2⟩⟩
      rw [Int.pow_succ] at x1
      exact Int.ediv_lt_of_lt_mul h0 x1
    · rintro ⟨k, k0, k1, hk⟩
      rw [Bool.and_eq_true] at hk
      obtain ⟨x, x0, x1, hx⟩ := (ih _ _).mpr hk.2
      have em : (k + n2 * x) % n2 = k := by rw [Int.add_mul_emod_self_left, Int.emod_eq_of_lt k0 (by omega)]
      have ed : (k + n2 * x) / n2 = x := by rw [Int.add_mul_ediv_left _ _ (by omega), Int.ediv_eq_zero_of_lt k0 (by omega), Int.zero_add]
      refine ⟨k + n2 * x, ?_, ?_, ?_⟩
      · have := Int.mul_nonneg (show 0 ≤ n2 by omega) x0; omega
      · have h2 : n2 ^ (r + 1) = n2 * n2 ^ r := by rw [Int.pow_succ, Int.mul_comm]
        rw [h2]
        have h1 : n2 * (x + 1) ≤ n2 * n2 ^ r := Int.mul_le_mul_of_nonneg_left (by omega) (by omega)
        rw [Int.mul_add, Int.mul_one] at h1
        omega
      · show ((lk o1 u1 o2 u2 l ((k + n2 * x) % n2) t).1 && chn o1 u1 o2 u2 n2 r (l + 1) (lk o1 u1 o2 u2 l ((k + n2 * x) % n2) t).2 ((k + n2 * x) / n2)) = true
        rw [em, ed, Bool.and_eq_true]
        exact ⟨hk.1, hx⟩
theorem g130L22_t {S : St} {s1 s2 n1 n2 : Int} (h1 : 0 ≤ s1) (h2 : s1 < 125) (h3 : 0 ≤ s2) (h4 : s2 < 125) (e1 : S.A 41 s1 = n1) (e2 : S.A 41 s2 = n2) (hn : n1 ≤ 4) : ∀ (k m : Nat) (x i : Int), 0 ≤ i → i + k = n1 → k < m → g130L22 S s1 s2 m x i = some (x * n2 ^ k) := by
  intro k
  induction k with
  | zero =>
    intro m x i hi hk hm
    obtain ⟨m, rfl⟩ : ∃ k, m = k + 1 := ⟨m - 1, by omega⟩
    unfold g130L22
    refine (gd_t (by first | exact ⟨by omega, by omega⟩ | exact ⟨by omega, by omega, by omega⟩ | exact ⟨by omega, by omega, by omega, by omega⟩ | omega | exact inR_to _ | assumption | decide)).trans ?_; refine (gd_t (by first | exact ⟨by omega, by omega⟩ | exact ⟨by omega, by omega, by omega⟩ | exact ⟨by omega, by omega, by omega, by omega⟩ | omega | exact inR_to _ | assumption | decide)).trans ?_
    refine (if_neg (by omega)).trans ?_
    rw [Int.pow_zero, Int.mul_one]
  | succ k ih =>
    intro m x i hi hk hm
    obtain ⟨m, rfl⟩ : ∃ k, m = k + 1 := ⟨m - 1, by omega⟩
    unfold g130L22
    refine (gd_t (by first | exact ⟨by omega, by omega⟩ | exact ⟨by omega, by omega, by omega⟩ | exact ⟨by omega, by omega, by omega, by omega⟩ | omega | exact inR_to _ | assumption | decide)).trans ?_; refine (gd_t (by first | exact ⟨by omega, by omega⟩ | exact ⟨by omega, by omega, by omega⟩ | exact ⟨by omega, by omega, by omega, by omega⟩ | omega | exact inR_to _ | assumption | decide)).trans ?_
    refine (if_pos (by omega)).trans ?_
    refine (gd_t (by first | exact ⟨by omega, by omega⟩ | exact ⟨by omega, by omega, by omega⟩ | exact ⟨by omega, by omega, by omega, by omega⟩ | omega | exact inR_to _ | assumption | decide)).trans ?_
    rw [e2, ih m _ _ (by omega) (by omega) (by omega), Int.pow_succ, Int.mul_assoc, Int.mul_comm n2]
theorem g130L60_t {v1 v2 v3 v4 : Int} : ∀ (k m : Nat) (i : Int) (S : St), 0 ≤ i → i + k = 64 → k < m → ∃ T, g130L60 v1 v2 v3 v4 m i S = some T ∧ Fr [62] S T ∧ ∀ v, 0 ≤ v → v < 64 → (i ≤ v → T.A 62 v = -1) ∧ (v < i → T.A 62 v = S.A 62 v) := by
  intro k
  induction k with
  | zero =>
    intro m i S hi hk hm
    obtain ⟨m, rfl⟩ : ∃ k, m = k + 1 := ⟨m - 1, by omega⟩
    refine ⟨S, ?_, Fr.refl _ _, fun v h1 h2 => ⟨fun h => absurd h (by omega), fun _ => rfl⟩⟩
    unfold g130L60
    refine (gd_t (by first | exact ⟨by omega, by omega⟩ | exact ⟨by omega, by omega, by omega⟩ | exact ⟨by omega, by omega, by omega, by omega⟩ | omega | exact inR_to _ | assumption | decide)).trans ?_
    exact if_neg (by omega)
  | succ k ih =>
    intro m i S hi hk hm
    obtain ⟨m, rfl⟩ : ∃ k, m = k + 1 := ⟨m - 1, by omega⟩
    obtain ⟨T, t1, t2, t3⟩ := ih m (i + 1) (S.a 62 i (-1)) (by omega) (by omega) (by omega)
    refine ⟨T, ?_, (Fr.a (by decide)).trans t2, fun v h1 h2 => ?_⟩
    · unfold g130L60
      refine (gd_t (by first | exact ⟨by omega, by omega⟩ | exact ⟨by omega, by omega, by omega⟩ | exact ⟨by omega, by omega, by omega, by omega⟩ | omega | exact inR_to _ | assumption | decide)).trans ?_
      refine (if_pos (by omega)).trans ?_
      refine (gd_t (by first | exact ⟨by omega, by omega⟩ | exact ⟨by omega, by omega, by omega⟩ | exact ⟨by omega, by omega, by omega, by omega⟩ | omega | exact inR_to _ | assumption | decide)).trans ?_
      exact t1
    · have h3 := t3 v h1 h2
      refine ⟨fun h => ?_, fun h => ?_⟩
      · by_cases hv : v = i
        · rw [h3.2 (by omega), a_A (by decide), if_pos rfl, if_pos hv]
        · exact h3.1 (by omega)
      · rw [h3.2 (by omega), a_A (by decide), if_pos rfl, if_neg (by omega)]
theorem g130L91_t {s1 s2 n1 n2 v3 v4 : Int} {o1 u1 o2 u2 : Int → Int} (hW1 : WV n1 o1 u1) (hW2 : WV n2 o2 u2) (h12 : n1 ≤ n2) : ∀ (r m : Nat) (l x : Int) (t : Int → Int) (S : St), KM S s1 n1 o1 u1 → KM S s2 n2 o2 u2 → 0 ≤ l → l + r = n1 → MB S s2 (o2 n2) (o1 n1) u2 t → 0 ≤ x → x < 100000 → r + 1 < m → ∃ T, g130L91 s1 s2 v3 v4 m 1 x l S = some ((if chn o1 u1 o2 u2 n2 r l t x = true then 1 else 0), T) ∧ Fr [62, 63] S T := by
  have w2 := hW1.1.2.1
  have z2 := hW2.1.2.1
  intro r
  induction r with
  | zero =>
    intro m l x t S hc hd hl hr hB hx hx2 hm
    obtain ⟨m, rfl⟩ : ∃ k, m = k + 1 := ⟨m - 1, by omega⟩
    obtain ⟨c1, c2, c3, c4, c5, c6⟩ := hc
    refine ⟨S, ?_, Fr.refl _ _⟩
    unfold g130L91
    refine (gd_t (by first | exact ⟨by omega, by omega⟩ | exact ⟨by omega, by omega, by omega⟩ | exact ⟨by omega, by omega, by omega, by omega⟩ | omega | exact inR_to _ | assumption | decide)).trans ?_; refine (gd_t (by first | exact ⟨by omega, by omega⟩ | exact ⟨by omega, by omega, by omega⟩ | exact ⟨by omega, by omega, by omega, by omega⟩ | omega | exact inR_to _ | assumption | decide)).trans ?_
    exact (if_neg (by omega)).trans rfl
  | succ r ih =>
    intro m l x t S hc hd hl hr hB hx hx2 hm
    obtain ⟨m, rfl⟩ : ∃ k, m = k + 1 := ⟨m - 1, by omega⟩
    have hm0 := Int.emod_nonneg x (show n2 ≠ 0 by omega)
    have hm1 := Int.emod_lt_of_pos x (show 0 < n2 by omega)
    have hd0 := Int.ediv_nonneg hx (show 0 ≤ n2 by omega)
    have hd1 := Int.ediv_le_self n2 hx
    obtain ⟨T, t1, t2, t3⟩ := g131_t (k1 := l) (k2 := x % n2) hc hd hW1 hW2 hl (by omega) hm0 hm1 hB
    have hcT := hc.fr t2 (by decide)
    have hdT := hd.fr t2 (by decide)
    have hc' := hc
    have hd' := hd
    obtain ⟨c1, c2, c3, c4, c5, c6⟩ := hc
    obtain ⟨d1, d2, d3, d4, d5, d6⟩ := hd
    have eT : T.A 41 s2 = n2 := hdT.2.2.1
    have e : g130L91 s1 s2 v3 v4 (m + 1) 1 x l S = g130L91 s1 s2 v3 v4 m (if (lk o1 u1 o2 u2 l (x % n2) t).1 = true then 1 else 0) (x / n2) (l + 1) T := by
      conv => lhs; unfold g130L91
      refine (gd_t (by first | exact ⟨by omega, by omega⟩ | exact ⟨by omega, by omega, by omega⟩ | exact ⟨by omega, by omega, by omega, by omega⟩ | omega | exact inR_to _ | assumption | decide)).trans ?_; refine (gd_t (by first | exact ⟨by omega, by omega⟩ | exact ⟨by omega, by omega, by omega⟩ | exact ⟨by omega, by omega, by omega, by omega⟩ | omega | exact inR_to _ | assumption | decide)).trans ?_
      refine (if_pos (by omega)).trans ?_
      refine (gd_t (by first | exact ⟨by omega, by omega⟩ | exact ⟨by omega, by omega, by omega⟩ | exact ⟨by omega, by omega, by omega, by omega⟩ | omega | exact inR_to _ | assumption | decide)).trans ?_
      refine (if_neg (by decide)).trans ?_
      refine (gd_t (by first | exact ⟨by omega, by omega⟩ | exact ⟨by omega, by omega, by omega⟩ | exact ⟨by omega, by omega, by omega, by omega⟩ | omega | exact inR_to _ | assumption | decide)).trans ?_
      rw [d3]
      refine (gd_t (by first | exact ⟨by omega, by omega⟩ | exact ⟨by omega, by omega, by omega⟩ | exact ⟨by omega, by omega, by omega, by omega⟩ | omega | exact inR_to _ | assumption | decide)).trans ?_
      rw [t1]
      show gd (dvR x (T.A 41 s2)) _ = _
      rw [eT]
      refine (gd_t (by first | exact ⟨by omega, by omega⟩ | exact ⟨by omega, by omega, by omega⟩ | exact ⟨by omega, by omega, by omega, by omega⟩ | omega | exact inR_to _ | assumption | decide)).trans ?_
      rfl
    rw [e]
    show ∃ T', g130L91 s1 s2 v3 v4 m (if (lk o1 u1 o2 u2 l (x % n2) t).1 = true then 1 else 0) (x / n2) (l + 1) T = some ((if ((lk o1 u1 o2 u2 l (x % n2) t).1 && chn o1 u1 o2 u2 n2 r (l + 1) (lk o1 u1 o2 u2 l (x % n2) t).2 (x / n2)) = true then 1 else 0), T') ∧ Fr [62, 63] S T'
    cases h1 : (lk o1 u1 o2 u2 l (x % n2) t).1
    · refine ⟨T, ?_, t2⟩
      obtain ⟨m, rfl⟩ : ∃ k, m = k + 1 := ⟨m - 1, by omega⟩
      show g130L91 s1 s2 v3 v4 (m + 1) 0 (x / n2) (l + 1) T = some (0, T)
      unfold g130L91
      refine (gd_t (by first | exact ⟨by omega, by omega⟩ | exact ⟨by omega, by omega, by omega⟩ | exact ⟨by omega, by omega, by omega, by omega⟩ | omega | exact inR_to _ | assumption | decide)).trans ?_; refine (gd_t (by first | exact ⟨by omega, by omega⟩ | exact ⟨by omega, by omega, by omega⟩ | exact ⟨by omega, by omega, by omega, by omega⟩ | omega | exact inR_to _ | assumption | decide)).trans ?_
      by_cases h2 : l + 1 < T.A 41 s1
      · refine (if_pos h2).trans ?_
        refine (gd_t (by first | exact ⟨by omega, by omega⟩ | exact ⟨by omega, by omega, by omega⟩ | exact ⟨by omega, by omega, by omega, by omega⟩ | omega | exact inR_to _ | assumption | decide)).trans ?_
        exact if_pos rfl
      · exact if_neg h2
    · obtain ⟨U, x1, x2⟩ := ih m (l + 1) (x / n2) _ T hcT hdT (by omega) (by omega) (t3 h1) hd0 (by omega) (by omega)
      refine ⟨U, ?_, t2.trans x2⟩
      rw [Bool.true_and]
      exact x1
theorem g130L51_t {s1 s2 n1 n2 C : Int} {o1 u1 o2 u2 : Int → Int} (hW1 : WV n1 o1 u1) (hW2 : WV n2 o2 u2) (h12 : n1 ≤ n2) (hC : C < 100000) : ∀ (k m : Nat) (x : Int) (S : St), KM S s1 n1 o1 u1 → KM S s2 n2 o2 u2 → 0 ≤ x → x + k = C → k < m →
    ((∃ y : Int, x ≤ y ∧ y < C ∧ chn o1 u1 o2 u2 n2 n1.toNat 0 (fun _ => -1) y = true) → ∃ T, g130L51 s1 s2 C m x S = some (.inr (1, T)) ∧ Fr [62, 63] S T) ∧
    ((¬ ∃ y : Int, x ≤ y ∧ y < C ∧ chn o1 u1 o2 u2 n2 n1.toNat 0 (fun _ => -1) y = true) → ∃ T, g130L51 s1 s2 C m x S = some (.inl T) ∧ Fr [62, 63] S T) := by
  have w1 := hW1.1.1
  have w2 := hW1.1.2.1
  have w4 := hW1.1.2.2.2.1
  intro k
  induction k with
  | zero =>
    intro m x S hc hd hx hk hm
    obtain ⟨m, rfl⟩ : ∃ k, m = k + 1 := ⟨m - 1, by omega⟩
    refine ⟨fun ⟨y, y1, y2, _⟩ => absurd y2 (by omega), fun _ => ⟨S, ?_, Fr.refl _ _⟩⟩
    unfold g130L51
    refine (gd_t (by first | exact ⟨by omega, by omega⟩ | exact ⟨by omega, by omega, by omega⟩ | exact ⟨by omega, by omega, by omega, by omega⟩ | omega | exact inR_to _ | assumption | decide)).trans ?_; refine (gd_t (by first | exact ⟨by omega, by omega⟩ | exact ⟨by omega, by omega, by omega⟩ | exact ⟨by omega, by omega, by omega, by omega⟩ | omega | exact inR_to _ | assumption | decide)).trans ?_
    exact if_neg (by omega)
  | succ k ih =>
    intro m x S hc hd hx hk hm
    obtain ⟨m, rfl⟩ : ∃ k, m = k + 1 := ⟨m - 1, by omega⟩
    obtain ⟨m9, hm9⟩ := FU_ge (n := 70) (by decide)
    obtain ⟨T, t1, t2, t3⟩ := g130L60_t (v1 := s1) (v2 := s2) (v3 := C) (v4 := x) 64 FU 0 S (by omega) (by omega) (by omega)
    have fr : Fr [62, 63] S T := t2.mono (by decide)
    have hcT := hc.fr fr (by decide)
    have hdT := hd.fr fr (by decide)
    obtain ⟨U, u1', u2'⟩ := g130L91_t (v3 := C) (v4 := x) hW1 hW2 h12 n1.toNat FU 0 x (fun _ => -1) T hcT hdT (by omega) (by omega) (fun v h1 h2 => Or.inl ⟨rfl, (t3 v h1 (by omega)).1 h1⟩) hx (by omega) (by omega)
    have frU := fr.trans u2'
    have e : g130L51 s1 s2 C (m + 1) x S = gd (inR (if chn o1 u1 o2 u2 n2 n1.toNat 0 (fun _ => -1) x = true then 1 else 0)) (if (if chn o1 u1 o2 u2 n2 n1.toNat 0 (fun _ => -1) x = true then (1 : Int) else 0) = 0 then g130L51 s1 s2 C m (x + 1) U else some (.inr (1, U))) := by
      conv => lhs; unfold g130L51
      refine (gd_t (by first | exact ⟨by omega, by omega⟩ | exact ⟨by omega, by omega, by omega⟩ | exact ⟨by omega, by omega, by omega, by omega⟩ | omega | exact inR_to _ | assumption | decide)).trans ?_; refine (gd_t (by first | exact ⟨by omega, by omega⟩ | exact ⟨by omega, by omega, by omega⟩ | exact ⟨by omega, by omega, by omega, by omega⟩ | omega | exact inR_to _ | assumption | decide)).trans ?_
      refine (if_pos (by omega)).trans ?_
      rw [t1]
      show ob (g130L91 s1 s2 C x FU 1 x 0 T) _ = _
      rw [u1']
      rfl
    have h := ih m (x + 1) U (hc.fr frU (by decide)) (hd.fr frU (by decide)) (by omega) (by omega) (by omega)
    rw [e]
    cases hx1 : chn o1 u1 o2 u2 n2 n1.toNat 0 (fun _ => -1) x
    · have e2 : (gd (inR (if false = true then 1 else 0)) (if (if false = true then (1 : Int) else 0) = 0 then g130L51 s1 s2 C m (x + 1) U else some (.inr (1, U)))) = g130L51 s1 s2 C m (x + 1) U := rfl
      rw [e2]
      refine ⟨fun ⟨y, y1, y2, y3⟩ => ?_, fun hn => ?_⟩
      · have : x + 1 ≤ y := by
          by_cases hy : y = x
          · rw [hy, hx1] at y3; cases y3
          · omega
        obtain ⟨V, v1, v2⟩ := h.1 ⟨y, this, y2, y3⟩
        exact ⟨V, v1, frU.trans v2⟩
      · obtain ⟨V, v1, v2⟩ := h.2 (fun ⟨y, y1, y2, y3⟩ => hn ⟨y, by omega, y2, y3⟩)
        exact ⟨V, v1, frU.trans v2⟩
    · exact ⟨fun _ => ⟨U, rfl, frU⟩, fun hn => absurd ⟨x, by omega, by omega, hx1⟩ hn⟩
theorem g130_t {S : St} {s1 s2 n1 n2 : Int} {o1 u1 o2 u2 : Int → Int} (hc : KM S s1 n1 o1 u1) (hd : KM S s2 n2 o2 u2) (hW1 : WV n1 o1 u1) (hW2 : WV n2 o2 u2) : ∃ T, g130 S s1 s2 = some ((if sub n1 n2 o1 u1 o2 u2 = true then 1 else 0), T) ∧ Fr [62, 63] S T := by
  have w1 := hW1.1.1
  have w2 := hW1.1.2.1
  have z1 := hW2.1.1
  have z2 := hW2.1.2.1
  have hc' := hc
  have hd' := hd
  obtain ⟨c1, c2, c3, c4, c5, c6⟩ := hc
  obtain ⟨d1, d2, d3, d4, d5, d6⟩ := hd
  by_cases h12 : n2 < n1
  · refine ⟨S, ?_, Fr.refl _ _⟩
    have e : sub n1 n2 o1 u1 o2 u2 = false := by
      unfold sub
      rw [decide_eq_false (by omega)]
      rfl
    rw [e]
    unfold g130
    refine (gd_t (by first | exact ⟨by omega, by omega⟩ | exact ⟨by omega, by omega, by omega⟩ | exact ⟨by omega, by omega, by omega, by omega⟩ | omega | exact inR_to _ | assumption | decide)).trans ?_; refine (gd_t (by first | exact ⟨by omega, by omega⟩ | exact ⟨by omega, by omega, by omega⟩ | exact ⟨by omega, by omega, by omega, by omega⟩ | omega | exact inR_to _ | assumption | decide)).trans ?_
    rw [c3, d3]
    exact (if_pos h12).trans rfl
  · have es : sub n1 n2 o1 u1 o2 u2 = sv o1 u1 o2 u2 n2.toNat n1.toNat 0 (fun _ => -1) := by
      unfold sub
      rw [decide_eq_true (by omega), Bool.true_and]
    obtain ⟨m9, hm9⟩ := FU_ge (n := 1000) (by decide)
    have hp : (1 : Int) * n2 ^ n1.toNat < 1000 ∧ 0 ≤ (1 : Int) * n2 ^ n1.toNat := by
      have a1 : n1.toNat = 0 ∨ n1.toNat = 1 ∨ n1.toNat = 2 ∨ n1.toNat = 3 ∨ n1.toNat = 4 := by omega
      have a2 : n2 = 0 ∨ n2 = 1 ∨ n2 = 2 ∨ n2 = 3 ∨ n2 = 4 := by omega
      rcases a1 with e | e | e | e | e <;> rw [e] <;> rcases a2 with f | f | f | f | f <;> rw [f] <;> decide
    have e : g130 S s1 s2 = obr (g130L51 s1 s2 (1 * n2 ^ n1.toNat) FU 0 S) (fun o55 => some (0, o55)) := by
      unfold g130
      refine (gd_t (by first | exact ⟨by omega, by omega⟩ | exact ⟨by omega, by omega, by omega⟩ | exact ⟨by omega, by omega, by omega, by omega⟩ | omega | exact inR_to _ | assumption | decide)).trans ?_; refine (gd_t (by first | exact ⟨by omega, by omega⟩ | exact ⟨by omega, by omega, by omega⟩ | exact ⟨by omega, by omega, by omega, by omega⟩ | omega | exact inR_to _ | assumption | decide)).trans ?_
      rw [c3, d3]
      refine (if_neg h12).trans ?_
      rw [g130L22_t c1 c2 d1 d2 c3 d3 w2 n1.toNat FU 1 0 (by omega) (by omega) (by omega)]
      rfl
    have h := g130L51_t hW1 hW2 (show n1 ≤ n2 by omega) (show (1 : Int) * n2 ^ n1.toNat < 100000 by omega) ((1 : Int) * n2 ^ n1.toNat).toNat FU 0 S hc' hd' (by omega) (by omega) (by omega)
    have hiff : (∃ y : Int, 0 ≤ y ∧ y < 1 * n2 ^ n1.toNat ∧ chn o1 u1 o2 u2 n2 n1.toNat 0 (fun _ => -1) y = true) ↔ sv o1 u1 o2 u2 n2.toNat n1.toNat 0 (fun _ => -1) = true := by
      rw [Int.one_mul]
      by_cases h0 : 0 < n2
      · exact chn_sv h0 n1.toNat 0 (fun _ => -1)
      · have e0 : n1.toNat = 0 := by omega
        rw [e0]
        exact ⟨fun _ => rfl, fun _ => ⟨0, by omega, by rw [Int.pow_zero]; omega, rfl⟩⟩
    rw [e, es]
    cases hs : sv o1 u1 o2 u2 n2.toNat n1.toNat 0 (fun _ => -1)
    · obtain ⟨T, t1, t2⟩ := h.2 (fun hn => by rw [hiff.mp hn] at hs; cases hs)
      exact ⟨T, by rw [t1]; rfl, t2⟩
    · obtain ⟨T, t1, t2⟩ := h.1 (hiff.mpr hs)
      exact ⟨T, by rw [t1]; rfl, t2⟩
