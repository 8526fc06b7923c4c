/-- literal l laid on literal k -/
def lk (o1 u1 o2 u2 : Int → Int) (l k : Int) (t : Int → Int) : Bool × (Int → Int) := ((li u1 u2 l (o1 (l + 1) - o1 l).toNat (o1 l) (o2 k) t (fun _ => 0)).1, (li u1 u2 l (o1 (l + 1) - o1 l).toNat (o1 l) (o2 k) t (fun _ => 0)).2.1)
/-- can the r literals from l on be laid -/
def sv (o1 u1 o2 u2 : Int → Int) (n2 : Nat) : Nat → Int → (Int → Int) → Bool
  | 0, _, _ => true
  | r + 1, l, t => (List.range n2).any fun k => (lk o1 u1 o2 u2 l k t).1 && sv o1 u1 o2 u2 n2 r (l + 1) (lk o1 u1 o2 u2 l k t).2
def cs : Nat → Nat → Nat
  | 0, _ => 1
  | r + 1, j => j * (1 + cs r 4) + 1
/-- what holds at level l of the search -/
def cvI (c d : Nat) (n1 n2 : Int) (o1 u1 o2 u2 : Int → Int) (l : Int) (S : St) : Prop := KC S c n1 o1 u1 ∧ KC S d n2 o2 u2 ∧ (∀ v : Int, 0 ≤ v → v < o1 n1 → S.A 24 v = -1 ∨ Bd u2 (o2 n2) (S.A 24 v)) ∧ (∀ v : Int, 0 ≤ v → v < o1 n1 → S.A 24 v ≠ -1 → S.A 25 v < l) ∧ (∀ v : Int, 0 ≤ v → v < 64 → 0 ≤ S.A 25 v)
theorem cvX : ∀ c ∈ [24, 25, 26], c ∉ [9, 12, 17, 18, 21, 32, 33, 38, 46, 16, 31] := by decide
theorem cv_done {c d m : Nat} {n1 n2 l v : Int} {o1 u1 : Int → Int} {S : St} (hc : KC S c n1 o1 u1) (hl : 0 ≤ l) (hl2 : l < 100) (hn : ¬ l < n1) (hv : 0 ≤ v) (hv2 : v < 1000) : g54L31 c d (m + 1) l v S = some (.inr (1, S)) := by
  obtain ⟨b, s, N, M, f, g, x, w, c1, c2, c3, c4, c5, c6, c7, c8, c9, c10, c11⟩ := hc
  unfold g54L31
  refine (gd_t (by first | exact ⟨by omega, by omega⟩ | exact ⟨by omega, by omega, by omega⟩ | exact ⟨by omega, by omega, by omega, by omega⟩ | omega | exact inR_to _ | assumption | decide)).trans ?_
  refine (if_pos hv2).trans ?_
  refine (gd_t (by first | exact ⟨by omega, by omega⟩ | exact ⟨by omega, by omega, by omega⟩ | exact ⟨by omega, by omega, by omega, by omega⟩ | omega | exact inR_to _ | assumption | decide)).trans ?_
  refine (if_neg (by omega)).trans ?_
  refine (gC_t c1).trans ?_
  exact if_neg (by omega)
/-- one turn, a literal being there -/
theorem cv_turn {c d m : Nat} {n1 n2 l v : Int} {o1 u1 o2 u2 : Int → Int} {S : St} (hc : KC S c n1 o1 u1) (hd : KC S d n2 o2 u2) (hl : 0 ≤ l) (hl2 : l < 4) (hn : l < n1) (hv : 0 ≤ v) (hv2 : v < 1000) (hp : -1 ≤ S.A 26 l) (hp2 : S.A 26 l < 100) : g54L31 c d (m + 1) l v S = if S.A 26 l + 1 < n2 then ob (g56 (S.a 26 l (S.A 26 l + 1)) c l d (S.A 26 l + 1)) (fun o73 => gd (inR o73.1) (if o73.1 = 0 then ob (g55 o73.2 l c) (fun o77 => g54L31 c d m l (v + 1) o77) else gd (inR (l + 1)) (if (l + 1) < 4 then gd (ixR (l + 1) 4) (g54L31 c d m (l + 1) (v + 1) (o73.2.a 26 (l + 1) (-1))) else g54L31 c d m (l + 1) (v + 1) o73.2))) else ob (g55 (S.a 26 l (S.A 26 l + 1)) (l + (-1)) c) (fun o82 => g54L31 c d m (l + (-1)) (v + 1) o82) := by
  have hd2 := hd.fr (T := S.a 26 l (S.A 26 l + 1)) (X := [26]) (Fr.a (by decide)) (by decide)
  obtain ⟨b, s, N, M, f, g, x, w, c1, c2, c3, c4, c5, c6, c7, c8, c9, c10, c11⟩ := hc
  obtain ⟨b2, s2, N2, M2, f2, g2, x2, y2, d1, d2, d3, d4, d5, d6, d7, d8, d9, d10, d11⟩ := hd2
  have e : (S.a 26 l (S.A 26 l + 1)).A 26 l = S.A 26 l + 1 := by rw [a_A ⟨by omega, by omega⟩, if_pos rfl, if_pos rfl]
  conv => lhs; unfold g54L31
  refine (gd_t (by first | exact ⟨by omega, by omega⟩ | exact ⟨by omega, by omega, by omega⟩ | exact ⟨by omega, by omega, by omega, by omega⟩ | omega | exact inR_to _ | assumption | decide)).trans ?_
  refine (if_pos hv2).trans ?_
  refine (gd_t (by first | exact ⟨by omega, by omega⟩ | exact ⟨by omega, by omega, by omega⟩ | exact ⟨by omega, by omega, by omega, by omega⟩ | omega | exact inR_to _ | assumption | decide)).trans ?_
  refine (if_neg (by omega)).trans ?_
  refine (gC_t c1).trans ?_
  refine (if_pos (by omega)).trans ?_
  refine (gd_t (by first | exact ⟨by omega, by omega⟩ | exact ⟨by omega, by omega, by omega⟩ | exact ⟨by omega, by omega, by omega, by omega⟩ | omega | exact inR_to _ | assumption | decide)).trans ?_
  refine (gC_t d1).trans ?_
  rw [e, d2]
theorem li_J {u1 u2 : Int → Int} {l W : Int} {n : Nat} {p q : Int} {t s : Int → Int} (hW : ∀ k : Int, p ≤ k → k < p + n → 0 ≤ u1 k ∧ (u1 k < 32768 → u1 k / 256 < W)) (hq : 0 ≤ q) (hJ : ∀ v, 0 ≤ v → v < W → t v ≠ -1 → s v < l) : ∀ v, 0 ≤ v → v < W → (li u1 u2 l n p q t s).2.1 v ≠ -1 → (li u1 u2 l n p q t s).2.2 v < l + 1 := by
  intro v h1 h2 h3
  have hb := li_b u1 u2 l W n p q t s hW hq v
  by_cases h0 : t v = -1
  · rcases hb.2 h0 with ⟨h4, _⟩ | ⟨_, _, h5⟩
    · exact absurd h4 h3
    · omega
  · rw [(hb.1 h0).2]
    have := hJ v h1 h2 h0
    omega
def cvOK (c d m : Nat) (l v : Int) (S : St) : Prop := ∃ T, g54L31 c d m l v S = some (.inr (1, T)) ∧ Fr [24, 25, 26] S T ∧ (∀ v : Int, 0 ≤ v → v < 64 → 0 ≤ T.A 25 v)
def cvBK (c d m : Nat) (W l v : Int) (S : St) (C : Nat) : Prop := ∃ (m' : Nat) (v' : Int) (T : St), g54L31 c d m l v S = g54L31 c d m' (l - 1) v' T ∧ Fr [24, 25, 26] S T ∧ m ≤ m' + C ∧ v ≤ v' ∧ v' ≤ v + C ∧ T.A 24 = fo W (l - 1) (S.A 24) (T.A 25) ∧ (∀ v, S.A 24 v ≠ -1 → T.A 25 v = S.A 25 v) ∧ (∀ i, i < l → T.A 26 i = S.A 26 i) ∧ (∀ v : Int, 0 ≤ v → v < 64 → 0 ≤ T.A 25 v)
def cvD (c d : Nat) (n1 n2 : Int) (o1 u1 o2 u2 : Int → Int) (r : Nat) (l : Int) : Prop := ∀ (m : Nat) (v : Int) (S : St), cvI c d n1 n2 o1 u1 o2 u2 l S → (l < n1 → S.A 26 l = -1) → 0 ≤ v → v + cs r 4 ≤ 1000 → cs r 4 ≤ m → (sv o1 u1 o2 u2 n2.toNat r l (S.A 24) = true → cvOK c d m l v S) ∧ (sv o1 u1 o2 u2 n2.toNat r l (S.A 24) = false → cvBK c d m (o1 n1) l v S (cs r 4))
set_option maxHeartbeats 4000000 in
theorem cv_L {c d : Nat} {n1 n2 : Int} {o1 u1 o2 u2 : Int → Int} (hW1 : WK n1 o1 u1) (hW2 : WK n2 o2 u2) {r : Nat} {l : Int} (hD : cvD c d n1 n2 o1 u1 o2 u2 r (l + 1)) (hl : 0 ≤ l) (hln : l < n1) : ∀ (j m : Nat) (v : Int) (S : St), cvI c d n1 n2 o1 u1 o2 u2 l S → S.A 26 l + 1 + j = n2 → -1 ≤ S.A 26 l → 0 ≤ v → v + cs (r + 1) j ≤ 1000 → cs (r + 1) j ≤ m →
    ((∃ k : Int, S.A 26 l + 1 ≤ k ∧ k < n2 ∧ ((lk o1 u1 o2 u2 l k (S.A 24)).1 && sv o1 u1 o2 u2 n2.toNat r (l + 1) (lk o1 u1 o2 u2 l k (S.A 24)).2) = true) → cvOK c d m l v S) ∧
    ((¬ ∃ k : Int, S.A 26 l + 1 ≤ k ∧ k < n2 ∧ ((lk o1 u1 o2 u2 l k (S.A 24)).1 && sv o1 u1 o2 u2 n2.toNat r (l + 1) (lk o1 u1 o2 u2 l k (S.A 24)).2) = true) → cvBK c d m (o1 n1) l v S (cs (r + 1) j)) := by
  have hWW := hW1
  obtain ⟨w1, w2, w3, w4, w5, w6, w7⟩ := hWW
  have hZZ := hW2
  obtain ⟨z1, z2, z3, z4, z5, z6, z7⟩ := hZZ
  have oW := w6 n1 w1 (by omega)
  intro j
  induction j with
  | zero =>
    intro m v S hI hk hp hv hvc hm
    have e0 : cs (r + 1) 0 = 1 := by unfold cs; omega
    rw [e0] at hvc hm ⊢
    obtain ⟨i1, i2, i3, i4, i5⟩ := hI
    refine ⟨fun ⟨k, k1, k2, _⟩ => absurd k2 (by omega), fun _ => ?_⟩
    obtain ⟨m, rfl⟩ : ∃ k, m = k + 1 := ⟨m - 1, by omega⟩
    have fr1 : Fr [24, 25, 26] S (S.a 26 l (S.A 26 l + 1)) := Fr.a (by decide)
    obtain ⟨T, t1, t2, t3⟩ := g55_t (l := l + (-1)) ⟨by omega, by omega⟩ w4 oW.1 (i1.fr fr1 cvX)
    rw [aA_ne (by decide), aA_ne (by decide)] at t3
    have t25 : T.A 25 = S.A 25 := by rw [t2.A (by decide), aA_ne (by decide)]
    refine ⟨m, v + 1, T, ?_, fr1.trans (t2.mono (by decide)), by omega, by omega, by omega, ?_, ?_, ?_, ?_⟩
    · rw [cv_turn (n2 := n2) i1 i2 hl (by omega) hln hv (by omega) hp (by omega), if_neg (by omega), t1]
      rfl
    · rw [t3, t25]; rfl
    · intro v _; rw [t25]
    · intro i hi
      rw [t2.A (by decide), a_A ⟨by omega, by omega⟩, if_pos rfl, if_neg (by omega)]
    · intro v h1 h2; rw [t25]; exact i5 v h1 h2
  | succ j ih =>
    intro m v S hI hk hp hv hvc hm
    have e0 : cs (r + 1) (j + 1) = cs (r + 1) j + (1 + cs r 4) := by
      show (j + 1) * (1 + cs r 4) + 1 = j * (1 + cs r 4) + 1 + (1 + cs r 4)
      rw [Nat.add_mul]; omega
    rw [e0] at hvc hm
    have hI' := hI
    obtain ⟨i1, i2, i3, i4, i5⟩ := hI
    obtain ⟨m, rfl⟩ : ∃ k, m = k + 1 := ⟨m - 1, by omega⟩
    have fr1 : Fr [24, 25, 26] S (S.a 26 l (S.A 26 l + 1)) := Fr.a (by decide)
    have k0 : 0 ≤ S.A 26 l + 1 := by omega
    have k1 : S.A 26 l + 1 < n2 := by omega
    have ol := w5 l hl hln
    have o6 := w6 l hl (by omega)
    have o7 := w6 (l + 1) (by omega) (by omega)
    have p6 := z6 (S.A 26 l + 1) k0 (by omega)
    have p5 := z5 (S.A 26 l + 1) k0 k1
    have p7 := z6 (S.A 26 l + 1 + 1) (by omega) (by omega)
    have hW : ∀ k : Int, o1 l ≤ k → k < o1 l + (o1 (l + 1) - o1 l).toNat → 0 ≤ u1 k ∧ (u1 k < 32768 → u1 k / 256 < o1 n1) := fun k h1 h2 => ⟨(w7 k (by omega) (by omega)).1, fun h => ((w7 k (by omega) (by omega)).2 h).1⟩
    have hZ0 : ∀ k : Int, o1 l ≤ k → k < o1 l + (o1 (l + 1) - o1 l).toNat → u1 k < 32768 → u1 k % 256 = 0 := fun k h1 h2 h => ((w7 k (by omega) (by omega)).2 h).2
    obtain ⟨T, t1, t2, t3, t4⟩ := g56_t (S := S.a 26 l (S.A 26 l + 1)) (l := l) (k := S.A 26 l + 1) (i1.fr fr1 cvX) (i2.fr fr1 cvX) hW1 hW2 hl hln k0 k1 (by rw [aA_ne (by decide)]; exact i3)
    rw [aA_ne (show 24 ≠ 26 by decide), aA_ne (show 25 ≠ 26 by decide)] at t1 t3 t4
    have fr2 : Fr [24, 25, 26] S T := fr1.trans (t2.mono (by decide))
    have T26 : T.A 26 = upI (S.A 26) l (S.A 26 l + 1) := by rw [t2.A (by decide), aA_up ⟨by omega, by omega⟩]
    have ek1 : (lk o1 u1 o2 u2 l (S.A 26 l + 1) (S.A 24)).1 = (li u1 u2 l (o1 (l + 1) - o1 l).toNat (o1 l) (o2 (S.A 26 l + 1)) (S.A 24) (S.A 25)).1 := (li_s _ _ _ _ _ _ _ _ _).1
    have ek2 : (lk o1 u1 o2 u2 l (S.A 26 l + 1) (S.A 24)).2 = (li u1 u2 l (o1 (l + 1) - o1 l).toNat (o1 l) (o2 (S.A 26 l + 1)) (S.A 24) (S.A 25)).2.1 := (li_s _ _ _ _ _ _ _ _ _).2
    have hb := li_b u1 u2 l (o1 n1) (o1 (l + 1) - o1 l).toNat (o1 l) (o2 (S.A 26 l + 1)) (S.A 24) (S.A 25) hW p6.1
    have T25p : ∀ v : Int, 0 ≤ v → v < 64 → 0 ≤ T.A 25 v := by
      intro v h1 h2
      rw [t4]
      by_cases h0 : S.A 24 v = -1
      · rcases (hb v).2 h0 with ⟨_, h3⟩ | ⟨_, _, h3⟩
        · rw [h3]; exact i5 v h1 h2
        · rw [h3]; exact hl
      · rw [((hb v).1 h0).2]; exact i5 v h1 h2
    have turn := cv_turn (m := m) (n2 := n2) i1 i2 hl (show l < 4 by omega) hln hv (show v < 1000 by omega) hp (show S.A 26 l < 100 by omega)
    rw [if_pos k1, t1] at turn
    -- from a state that came back to this level with the terms of before
    have again : ∀ (m2 : Nat) (v2 : Int) (T2 : St), g54L31 c d (m + 1) l v S = g54L31 c d m2 l v2 T2 → Fr [24, 25, 26] S T2 → m + 1 ≤ m2 + (1 + cs r 4) → v ≤ v2 → v2 ≤ v + (1 + cs r 4 : Nat) → T2.A 24 = S.A 24 → (∀ v, S.A 24 v ≠ -1 → T2.A 25 v = S.A 25 v) → (∀ i, i < l → T2.A 26 i = S.A 26 i) → T2.A 26 l = S.A 26 l + 1 → (∀ v : Int, 0 ≤ v → v < 64 → 0 ≤ T2.A 25 v) → ((lk o1 u1 o2 u2 l (S.A 26 l + 1) (S.A 24)).1 && sv o1 u1 o2 u2 n2.toNat r (l + 1) (lk o1 u1 o2 u2 l (S.A 26 l + 1) (S.A 24)).2) = false →
        ((∃ k : Int, S.A 26 l + 1 ≤ k ∧ k < n2 ∧ ((lk o1 u1 o2 u2 l k (S.A 24)).1 && sv o1 u1 o2 u2 n2.toNat r (l + 1) (lk o1 u1 o2 u2 l k (S.A 24)).2) = true) → cvOK c d (m + 1) l v S) ∧
        ((¬ ∃ k : Int, S.A 26 l + 1 ≤ k ∧ k < n2 ∧ ((lk o1 u1 o2 u2 l k (S.A 24)).1 && sv o1 u1 o2 u2 n2.toNat r (l + 1) (lk o1 u1 o2 u2 l k (S.A 24)).2) = true) → cvBK c d (m + 1) (o1 n1) l v S (cs (r + 1) (j + 1))) := by
      intro m2 v2 T2 a1 a2 a3 a4 a5 a6 a7 a8 a9 a10 a11
      have hI2 : cvI c d n1 n2 o1 u1 o2 u2 l T2 := ⟨i1.fr a2 cvX, i2.fr a2 cvX, by rw [a6]; exact i3, fun v h1 h2 h3 => by rw [a6] at h3; rw [a7 v h3]; exact i4 v h1 h2 h3, a10⟩
      have h := ih m2 v2 T2 hI2 (by rw [a9]; omega) (by rw [a9]; omega) (by omega) (by omega) (by omega)
      rw [a6, a9] at h
      refine ⟨fun ⟨k, h1, h2, h3⟩ => ?_, fun hn => ?_⟩
      · have hk1 : S.A 26 l + 1 + 1 ≤ k := by
          by_cases e : k = S.A 26 l + 1
          · rw [e, a11] at h3; cases h3
          · omega
        obtain ⟨U, x1, x2, x3⟩ := h.1 ⟨k, hk1, h2, h3⟩
        exact ⟨U, a1.trans x1, a2.trans x2, x3⟩
      · obtain ⟨m3, v3, U, x1, x2, x3, x4, x5, x6, x7, x8, x9⟩ := h.2 (fun ⟨k, h1, h2, h3⟩ => hn ⟨k, by omega, h2, h3⟩)
        rw [a6] at x6 x7
        refine ⟨m3, v3, U, a1.trans x1, a2.trans x2, by omega, by omega, by omega, x6, fun v h0 => ?_, fun i hi => (x8 i hi).trans (a8 i hi), x9⟩
        rw [x7 v h0, a7 v h0]
    cases hc1 : (li u1 u2 l (o1 (l + 1) - o1 l).toNat (o1 l) (o2 (S.A 26 l + 1)) (S.A 24) (S.A 25)).1
    · -- it does not lie
      rw [hc1] at turn
      have turn : g54L31 c d (m + 1) l v S = ob (g55 T l c) (fun o77 => g54L31 c d m l (v + 1) o77) := turn
      obtain ⟨U, x1, x2, x3⟩ := g55_t (l := l) (S := T) ⟨by omega, by omega⟩ w4 oW.1 (i1.fr fr2 cvX)
      rw [x1] at turn
      have U25 : U.A 25 = T.A 25 := x2.A (by decide)
      refine again m (v + 1) U turn (fr2.trans (x2.mono (by decide))) (by omega) (by omega) (by omega) ?_ ?_ ?_ ?_ ?_ ?_
      · rw [x3, t3]
        exact fo_li hW p6.1 i4 (fun v _ => by rw [t4])
      · intro v h0
        rw [U25, t4, ((hb v).1 h0).2]
      · intro i hi
        rw [x2.A (by decide), T26]
        exact if_neg (by omega)
      · rw [x2.A (by decide), T26]
        exact if_pos rfl
      · rw [U25]; exact T25p
      · rw [ek1, hc1]; rfl
    · -- it lies
      rw [hc1] at turn
      have hJ2 := li_J (n := (o1 (l + 1) - o1 l).toNat) (p := o1 l) (u2 := u2) hW p6.1 i4
      have hB2 := li_Bd (u1 := u1) (u2 := u2) (l := l) (W := o1 n1) p7.2 z4 (o1 (l + 1) - o1 l).toNat 1 (o1 l) (o2 (S.A 26 l + 1)) (S.A 24) (S.A 25) hZ0 p6.1 (by omega) ol.2 p5.2 i3
      have next : ∃ T2, g54L31 c d (m + 1) l v S = g54L31 c d m (l + 1) (v + 1) T2 ∧ Fr [26] T T2 ∧ (l + 1 < n1 → T2.A 26 (l + 1) = -1) ∧ (∀ i, i ≤ l → T2.A 26 i = T.A 26 i) := by
        have turn : g54L31 c d (m + 1) l v S = gd (inR (l + 1)) (if (l + 1) < 4 then gd (ixR (l + 1) 4) (g54L31 c d m (l + 1) (v + 1) (T.a 26 (l + 1) (-1))) else g54L31 c d m (l + 1) (v + 1) T) := turn
        rw [gd_t (show inR (l + 1) from ⟨by omega, by omega⟩)] at turn
        by_cases h4 : l + 1 < 4
        · rw [if_pos h4, gd_t (show ixR (l + 1) 4 from ⟨by omega, by omega, by omega⟩)] at turn
          refine ⟨_, turn, Fr.a (by decide), fun _ => ?_, fun i hi => ?_⟩
          · rw [a_A (by decide), if_pos rfl, if_pos rfl]
          · rw [a_A (by decide), if_pos rfl, if_neg (by omega)]
        · rw [if_neg h4] at turn
          exact ⟨_, turn, Fr.refl _ _, fun h => absurd h (by omega), fun i _ => rfl⟩
      obtain ⟨T2, y1, y2, y3, y4⟩ := next
      have fr3 : Fr [24, 25, 26] S T2 := fr2.trans (y2.mono (by decide))
      have Y24 : T2.A 24 = (li u1 u2 l (o1 (l + 1) - o1 l).toNat (o1 l) (o2 (S.A 26 l + 1)) (S.A 24) (S.A 25)).2.1 := (y2.A (by decide)).trans t3
      have Y25 : T2.A 25 = (li u1 u2 l (o1 (l + 1) - o1 l).toNat (o1 l) (o2 (S.A 26 l + 1)) (S.A 24) (S.A 25)).2.2 := (y2.A (by decide)).trans t4
      have hI2 : cvI c d n1 n2 o1 u1 o2 u2 (l + 1) T2 := ⟨i1.fr fr3 cvX, i2.fr fr3 cvX, by rw [Y24]; exact hB2, by rw [Y24, Y25]; exact hJ2, by rw [y2.A (by decide)]; exact T25p⟩
      have h := hD m (v + 1) T2 hI2 y3 (by omega) (by omega) (by omega)
      rw [Y24, ← ek2] at h
      cases hsv : sv o1 u1 o2 u2 n2.toNat r (l + 1) (lk o1 u1 o2 u2 l (S.A 26 l + 1) (S.A 24)).2
      · obtain ⟨m3, v3, U, x1, x2, x3, x4, x5, x6, x7, x8, x9⟩ := h.2 hsv
        rw [show l + 1 - 1 = l by omega] at x1 x6
        rw [Y24] at x6 x7
        rw [Y25] at x7
        refine again m3 v3 U (y1.trans x1) (fr3.trans x2) (by omega) (by omega) (by omega) ?_ ?_ ?_ ?_ x9 ?_
        · rw [x6]
          exact fo_li hW p6.1 i4 x7
        · intro v h0
          have hbv := (hb v).1 h0
          rw [x7 v (by rw [hbv.1]; exact h0), hbv.2]
        · intro i hi
          rw [x8 i (by omega), y4 i (by omega), T26]
          exact if_neg (by omega)
        · rw [x8 l (by omega), y4 l (by omega), T26]
          exact if_pos rfl
        · rw [hsv, Bool.and_false]
      · obtain ⟨U, x1, x2, x3⟩ := h.1 hsv
        refine ⟨fun _ => ⟨U, y1.trans x1, fr3.trans x2, x3⟩, fun hn => absurd ⟨S.A 26 l + 1, by omega, k1, ?_⟩ hn⟩
        rw [ek1, hc1, hsv]
        rfl
theorem cv_0 {c d : Nat} {n1 n2 : Int} {o1 u1 o2 u2 : Int → Int} (h0 : 0 ≤ n1) (h4 : n1 ≤ 4) : cvD c d n1 n2 o1 u1 o2 u2 0 n1 := by
  intro m v S hI _ hv hvc hm
  have e0 : cs 0 4 = 1 := rfl
  rw [e0] at hvc hm
  obtain ⟨m, rfl⟩ : ∃ k, m = k + 1 := ⟨m - 1, by omega⟩
  refine ⟨fun _ => ⟨S, cv_done (n1 := n1) (n2 := n2) hI.1 h0 (by omega) (by omega) hv (by omega), Fr.refl _ _, hI.2.2.2.2⟩, fun h => ?_⟩
  cases h
theorem sv_iff {o1 u1 o2 u2 : Int → Int} {n2 r : Nat} {l : Int} {t : Int → Int} : sv o1 u1 o2 u2 n2 (r + 1) l t = true ↔ ∃ k : Int, 0 ≤ k ∧ k < n2 ∧ ((lk o1 u1 o2 u2 l k t).1 && sv o1 u1 o2 u2 n2 r (l + 1) (lk o1 u1 o2 u2 l k t).2) = true := by
  show ((List.range n2).any fun k => (lk o1 u1 o2 u2 l k t).1 && sv o1 u1 o2 u2 n2 r (l + 1) (lk o1 u1 o2 u2 l k t).2) = true ↔ _
  rw [List.any_eq_true]
  constructor
  · rintro ⟨k, hk, h⟩
    exact ⟨k, by omega, by have := List.mem_range.mp hk; omega, h⟩
  · rintro ⟨k, h0, h1, h⟩
    refine ⟨k.toNat, List.mem_range.mpr (by omega), ?_⟩
    rw [show ((k.toNat : Nat) : Int) = k by omega]
    exact h
theorem cs_mono (r : Nat) {i j : Nat} (h : i ≤ j) : cs (r + 1) i ≤ cs (r + 1) j := by
  show i * (1 + cs r 4) + 1 ≤ j * (1 + cs r 4) + 1
  exact Nat.add_le_add_right (Nat.mul_le_mul_right _ h) 1
theorem cv_D {c d : Nat} {n1 n2 : Int} {o1 u1 o2 u2 : Int → Int} (hW1 : WK n1 o1 u1) (hW2 : WK n2 o2 u2) : ∀ (r : Nat) (l : Int), 0 ≤ l → l + r = n1 → cvD c d n1 n2 o1 u1 o2 u2 r l := by
  intro r
  induction r with
  | zero =>
    intro l hl he
    have : l = n1 := by omega
    subst this
    exact cv_0 hW1.1 hW1.2.1
  | succ r ih =>
    intro l hl he m v S hI hp hv hvc hm
    have z1 := hW2.1
    have z2 := hW2.2.1
    have hp2 := hp (by omega)
    have hcs := cs_mono r (show n2.toNat ≤ 4 by omega)
    have h := cv_L hW1 hW2 (ih (l + 1) (by omega) (by omega)) hl (by omega) n2.toNat m v S hI (by rw [hp2]; omega) (by omega) hv (by omega) (by omega)
    rw [hp2, show (-1 : Int) + 1 = 0 by omega] at h
    refine ⟨fun hs => ?_, fun hs => ?_⟩
    · obtain ⟨k, k0, k1, k2⟩ := sv_iff.mp hs
      exact h.1 ⟨k, k0, by omega, k2⟩
    · have hn : ¬ ∃ k : Int, 0 ≤ k ∧ k < n2 ∧ ((lk o1 u1 o2 u2 l k (S.A 24)).1 && sv o1 u1 o2 u2 n2.toNat r (l + 1) (lk o1 u1 o2 u2 l k (S.A 24)).2) = true := by
        rintro ⟨k, k0, k1, k2⟩
        rw [sv_iff.mpr ⟨k, k0, by omega, k2⟩] at hs
        cases hs
      obtain ⟨m3, v3, U, x1, x2, x3, x4, x5, x6⟩ := h.2 hn
      exact ⟨m3, v3, U, x1, x2, by omega, x4, by omega, x6⟩
/-- does the first clause subsume the second -/
def sub (n1 n2 : Int) (o1 u1 o2 u2 : Int → Int) : Bool := decide (n1 ≤ n2) && sv o1 u1 o2 u2 n2.toNat n1.toNat 0 (fun _ => -1)
