/-! clauses are laid into the pools of both -/
theorem g68L2_t {c : Nat} {z : Int} (hz : z = 0 ∨ z = 16) : ∀ (r n : Nat) (i : Int) (S : St), 0 ≤ i → i + r = 16 → r < n → ∃ S', g68L2 c z n i S = some S' ∧ Fr [22] S S' ∧ ∀ v : Int, S'.A 22 v = if z + i ≤ v ∧ v < z + 16 then -1 else S.A 22 v := by
  intro r
  induction r with
  | zero =>
    intro n i S i0 hi hn
    obtain ⟨n, rfl⟩ : ∃ k, n = k + 1 := ⟨n - 1, by omega⟩
    refine ⟨S, ?_, Fr.refl _ _, fun v => by rw [if_neg (by omega)]⟩
    unfold g68L2
    refine (gd_t (by first | exact ⟨by omega, by omega⟩ | exact ⟨by omega, by omega, by omega⟩ | exact ⟨by omega, by omega, by omega, by omega⟩ | omega | exact inR_to _ | assumption | decide)).trans ?_
    rw [if_neg (by omega)]
  | succ r ih =>
    intro n i S i0 hi hn
    obtain ⟨n, rfl⟩ : ∃ k, n = k + 1 := ⟨n - 1, by omega⟩
    obtain ⟨S', q1, q2, q3⟩ := ih n (i + 1) (S.a 22 (z + i) (-1)) (by omega) (by omega) (by omega)
    refine ⟨S', ?_, (Fr.a (by decide)).trans q2, fun v => ?_⟩
    · rw [g68L2]
      refine (gd_t (by first | exact ⟨by omega, by omega⟩ | exact ⟨by omega, by omega, by omega⟩ | exact ⟨by omega, by omega, by omega, by omega⟩ | omega | exact inR_to _ | assumption | decide)).trans ?_
      rw [if_pos (by omega)]
      refine (gd_t (by first | exact ⟨by omega, by omega⟩ | exact ⟨by omega, by omega, by omega⟩ | exact ⟨by omega, by omega, by omega, by omega⟩ | omega | exact inR_to _ | assumption | decide)).trans ?_
      exact q1
    · rw [q3 v, aA_up (by decide)]
      by_cases hv : v = z + i
      · rw [hv, upI_e, if_neg (by omega), if_pos (by omega)]
      · rw [upI_n hv]
        by_cases h1 : z + (i + 1) ≤ v ∧ v < z + 16
        · rw [if_pos h1, if_pos (by omega)]
        · rw [if_neg h1, if_neg (by omega)]
theorem g68L25_t {c : Nat} {z N : Int} {o u0 : Int → Int} (hW : WV N o u0) (ho : o N ≤ 16) (hz : z = 0 ∨ z = 16) : ∀ (r n : Nat) (i : Int) (S : St), KT S.tl c N o u0 → 0 ≤ i → i + r = o N → r < n → ∃ S', g68L25 c z n i S = some S' ∧ Fr [21] S S' ∧ ∀ v : Int, S'.A 21 v = if z + i ≤ v ∧ v < z + o N then sh z (u0 (v - z)) else S.A 21 v := by
  intro r
  induction r with
  | zero =>
    intro n i S hK i0 hi hn
    obtain ⟨n, rfl⟩ : ∃ k, n = k + 1 := ⟨n - 1, by omega⟩
    obtain ⟨b, s', N', M, f, g, x, w, c1, c2, c3, c4, c5, c6, c7, c8, c9, c10, c11⟩ := hK.KC
    refine ⟨S, ?_, Fr.refl _ _, fun v => by rw [if_neg (by omega)]⟩
    unfold g68L25
    refine (gC_t c1).trans ?_
    refine (gd_t (by first | exact ⟨by omega, by omega⟩ | exact ⟨by omega, by omega, by omega⟩ | exact ⟨by omega, by omega, by omega, by omega⟩ | omega | exact inR_to _ | assumption | decide)).trans ?_
    rw [if_neg (by omega)]
  | succ r ih =>
    intro n i S hK i0 hi hn
    obtain ⟨n, rfl⟩ : ∃ k, n = k + 1 := ⟨n - 1, by omega⟩
    obtain ⟨b, s', N', M, f, g, x, w, c1, c2, c3, c4, c5, c6, c7, c8, c9, c10, c11⟩ := hK.KC
    have ei := c11 i i0 (by omega)
    have vi := hW.2.1 i i0 (by omega)
    have wi := hW.1.2.2.2.2.2.2 i i0 (by omega)
    have iR : inR (sh z (u0 i)) := by
      unfold sh
      unfold vx at vi
      split
      · have := wi.2 (by assumption)
        exact ⟨by omega, by omega⟩
      · exact ⟨by omega, by omega⟩
    have e : g68L25 c z (n + 1) i S = g68L25 c z n (i + 1) (S.a 21 (z + i) (sh z (u0 i))) := by
      rw [g68L25]
      refine (gC_t c1).trans ?_
      refine (gd_t (by first | exact ⟨by omega, by omega⟩ | exact ⟨by omega, by omega, by omega⟩ | exact ⟨by omega, by omega, by omega, by omega⟩ | omega | exact inR_to _ | assumption | decide)).trans ?_
      rw [if_pos (by omega), if_pos (by omega)]
      refine (gA_t c4).trans ?_
      try dsimp only
      refine (gd_t (by first | exact ⟨by omega, by omega⟩ | exact ⟨by omega, by omega, by omega⟩ | exact ⟨by omega, by omega, by omega, by omega⟩ | omega | exact inR_to _ | assumption | decide)).trans ?_
      by_cases hx : u0 i < 32768
      · have es : sh z (u0 i) = u0 i + z * 256 := if_pos hx
        refine (if_pos (show (f i).toInt < 32768 by omega)).trans ?_
        rw [ei, es]
        refine (gd_t (by first | exact ⟨by omega, by omega⟩ | exact ⟨by omega, by omega, by omega⟩ | exact ⟨by omega, by omega, by omega, by omega⟩ | omega | exact inR_to _ | assumption | decide)).trans ?_
        rfl
      · have es : sh z (u0 i) = u0 i := if_neg hx
        refine (if_neg (show ¬ (f i).toInt < 32768 by omega)).trans ?_
        rw [ei, es]
        refine (gd_t (by first | exact ⟨by omega, by omega⟩ | exact ⟨by omega, by omega, by omega⟩ | exact ⟨by omega, by omega, by omega, by omega⟩ | omega | exact inR_to _ | assumption | decide)).trans ?_
        rfl
    obtain ⟨S', q1, q2, q3⟩ := ih n (i + 1) (S.a 21 (z + i) (sh z (u0 i))) hK (by omega) (by omega) (by omega)
    refine ⟨S', e.trans q1, (Fr.a (by decide)).trans q2, fun v => ?_⟩
    rw [q3 v, aA_up iR]
    by_cases hv : v = z + i
    · rw [hv, upI_e, if_neg (by omega), if_pos (by omega), show z + i - z = i by omega]
    · rw [upI_n hv]
      by_cases h1 : z + (i + 1) ≤ v ∧ v < z + o N
      · rw [if_pos h1, if_pos (by omega)]
      · rw [if_neg h1, if_neg (by omega)]
theorem load_c {S : St} {c : Nat} {z N : Int} {o u0 : Int → Int} (hK : KT S.tl c N o u0) (hW : WV N o u0) (ho : o N ≤ 16) (hz : z = 0 ∨ z = 16) : ∃ S', g68 S c z = some S' ∧ Fr [21, 22] S S' ∧ (∀ v : Int, S'.A 22 v = if z ≤ v ∧ v < z + 16 then -1 else S.A 22 v) ∧ ∀ v : Int, S'.A 21 v = if z ≤ v ∧ v < z + o N then sh z (u0 (v - z)) else S.A 21 v := by
  have o0 := (hW.1.2.2.2.2.2.1 N hW.1.1 (Int.le_refl _)).1
  obtain ⟨S1, p1, p2, p3⟩ := g68L2_t (c := c) hz 16 FU 0 S (by omega) (by omega) (FU_gt (by decide))
  obtain ⟨S2, q1, q2, q3⟩ := g68L25_t (c := c) hW ho hz (o N).toNat FU 0 S1 (by rw [p2.1]; exact hK) (by omega) (by omega) (FU_gt (by omega))
  refine ⟨S2, ?_, (p2.mono (by decide)).trans (q2.mono (by decide)), fun v => ?_, fun v => ?_⟩
  · unfold g68
    rw [p1]
    refine (ob_t rfl).trans ?_
    rw [q1]
    rfl
  · rw [q2.A (by decide), p3 v, Int.add_zero]
  · rw [q3 v, Int.add_zero, p2.A (show 21 ∉ [22] by decide)]
theorem mo_sh {z x : Int} (hx : x < 32768) (h : x + z * 256 < 32768) : mo (sh z x) = mo x + z := by
  have e : sh z x = x + z * 256 := if_pos hx
  rw [e, mo_var h, mo_var hx]
  omega
theorem g141L_t {s z N : Int} {o u0 : Int → Int} (hW : WV N o u0) (ho : o N ≤ 16) (hz : z = 0 ∨ z = 16) : ∀ (r n : Nat) (i : Int) (T : St), KM T s N o u0 → 0 ≤ i → i + r = o N → r < n → ∃ T', g141L2 s z n i T = some T' ∧ Fr [46] T T' ∧ ∀ v : Int, T'.A 46 v = if z + i ≤ v ∧ v < z + o N then mo (sh z (u0 (v - z))) else T.A 46 v := by
  intro r
  induction r with
  | zero =>
    intro n i T hK i0 hi hn
    obtain ⟨n, rfl⟩ : ∃ k, n = k + 1 := ⟨n - 1, by omega⟩
    obtain ⟨k1, k2, k3, k4, k5, k6⟩ := hK
    refine ⟨T, ?_, Fr.refl _ _, fun v => by rw [if_neg (by omega)]⟩
    unfold g141L2
    refine (gd_t (by first | exact ⟨by omega, by omega⟩ | exact ⟨by omega, by omega, by omega⟩ | exact ⟨by omega, by omega, by omega, by omega⟩ | omega | exact inR_to _ | assumption | decide)).trans ?_
    refine (gd_t (by first | exact ⟨by omega, by omega⟩ | exact ⟨by omega, by omega, by omega⟩ | exact ⟨by omega, by omega, by omega, by omega⟩ | omega | exact inR_to _ | assumption | decide)).trans ?_
    rw [k4, if_neg (by omega)]
  | succ r ih =>
    intro n i T hK i0 hi hn
    obtain ⟨n, rfl⟩ : ∃ k, n = k + 1 := ⟨n - 1, by omega⟩
    have hK' := hK
    obtain ⟨k1, k2, k3, k4, k5, k6⟩ := hK
    have vi := hW.2.1 i i0 (by omega)
    have wi := hW.1.2.2.2.2.2.2 i i0 (by omega)
    have mR := mo_R vi
    have mv := mo_v vi
    have e : g141L2 s z (n + 1) i T = g141L2 s z n (i + 1) (T.a 46 (z + i) (mo (sh z (u0 i)))) := by
      rw [g141L2]
      refine (gd_t (by first | exact ⟨by omega, by omega⟩ | exact ⟨by omega, by omega, by omega⟩ | exact ⟨by omega, by omega, by omega, by omega⟩ | omega | exact inR_to _ | assumption | decide)).trans ?_
      refine (gd_t (by first | exact ⟨by omega, by omega⟩ | exact ⟨by omega, by omega, by omega⟩ | exact ⟨by omega, by omega, by omega, by omega⟩ | omega | exact inR_to _ | assumption | decide)).trans ?_
      rw [k4, if_pos (by omega)]
      refine (gd_t (by first | exact ⟨by omega, by omega⟩ | exact ⟨by omega, by omega, by omega⟩ | exact ⟨by omega, by omega, by omega, by omega⟩ | omega | exact inR_to _ | assumption | decide)).trans ?_
      rw [k6 i i0 (by omega), g122_t ⟨by omega, by omega⟩]
      refine (ob_t rfl).trans ?_
      by_cases hx : u0 i < 32768
      · have := wi.2 hx
        rw [if_pos (mv.mpr hx), mo_sh hx (by omega)]
        refine (gd_t (by first | exact ⟨by omega, by omega⟩ | exact ⟨by omega, by omega, by omega⟩ | exact ⟨by omega, by omega, by omega, by omega⟩ | omega | exact inR_to _ | assumption | decide)).trans ?_
        rw [if_neg (by decide)]
        refine (gd_t (by first | exact ⟨by omega, by omega⟩ | exact ⟨by omega, by omega, by omega⟩ | exact ⟨by omega, by omega, by omega, by omega⟩ | omega | exact inR_to _ | assumption | decide)).trans ?_
        rfl
      · rw [if_neg (fun h => hx (mv.mp h)), sh_big hx]
        refine (gd_t (by first | exact ⟨by omega, by omega⟩ | exact ⟨by omega, by omega, by omega⟩ | exact ⟨by omega, by omega, by omega, by omega⟩ | omega | exact inR_to _ | assumption | decide)).trans ?_
        rw [if_pos rfl]
        refine (gd_t (by first | exact ⟨by omega, by omega⟩ | exact ⟨by omega, by omega, by omega⟩ | exact ⟨by omega, by omega, by omega, by omega⟩ | omega | exact inR_to _ | assumption | decide)).trans ?_
        rfl
    have iR : inR (mo (sh z (u0 i))) := by
      by_cases hx : u0 i < 32768
      · have := wi.2 hx
        rw [mo_sh hx (by omega)]
        have := mv.mpr hx
        exact ⟨by omega, by omega⟩
      · rw [sh_big hx]
        exact ⟨by omega, by omega⟩
    obtain ⟨T', q1, q2, q3⟩ := ih n (i + 1) (T.a 46 (z + i) (mo (sh z (u0 i)))) (hK'.fr (Fr.a (X := [46]) (by decide)) (by decide)) (by omega) (by omega) (by omega)
    refine ⟨T', e.trans q1, (Fr.a (by decide)).trans q2, fun v => ?_⟩
    rw [q3 v, aA_up iR]
    by_cases hv : v = z + i
    · rw [hv, upI_e, if_neg (by omega), if_pos (by omega), show z + i - z = i by omega]
    · rw [upI_n hv]
      by_cases h1 : z + (i + 1) ≤ v ∧ v < z + o N
      · rw [if_pos h1, if_pos (by omega)]
      · rw [if_neg h1, if_neg (by omega)]
theorem load_m {T : St} {s z N : Int} {o u0 : Int → Int} (hK : KM T s N o u0) (hW : WV N o u0) (ho : o N ≤ 16) (hz : z = 0 ∨ z = 16) : ∃ T', g141 T s z = some T' ∧ Fr [46] T T' ∧ ∀ v : Int, T'.A 46 v = if z ≤ v ∧ v < z + o N then mo (sh z (u0 (v - z))) else T.A 46 v := by
  have o0 := (hW.1.2.2.2.2.2.1 N hW.1.1 (Int.le_refl _)).1
  obtain ⟨T', q1, q2, q3⟩ := g141L_t hW ho hz (o N).toNat FU 0 T hK (by omega) (by omega) (FU_gt (by omega))
  refine ⟨T', ?_, q2, fun v => by rw [q3 v, Int.add_zero]⟩
  unfold g141
  rw [q1]
  rfl
theorem g100L_t : ∀ (r n : Nat) (i : Int) (T : St), 0 ≤ i → i + r = 128 → r < n → ∃ T', g100L2 n i T = some T' ∧ Fr [47] T T' ∧ ∀ v : Int, T'.A 47 v = if i ≤ v ∧ v < 128 then -1 else T.A 47 v := by
  intro r
  induction r with
  | zero =>
    intro n i T i0 hi hn
    obtain ⟨n, rfl⟩ : ∃ k, n = k + 1 := ⟨n - 1, by omega⟩
    refine ⟨T, ?_, Fr.refl _ _, fun v => by rw [if_neg (by omega)]⟩
    unfold g100L2
    refine (gd_t (by first | exact ⟨by omega, by omega⟩ | exact ⟨by omega, by omega, by omega⟩ | exact ⟨by omega, by omega, by omega, by omega⟩ | omega | exact inR_to _ | assumption | decide)).trans ?_
    rw [if_neg (by omega)]
  | succ r ih =>
    intro n i T i0 hi hn
    obtain ⟨n, rfl⟩ : ∃ k, n = k + 1 := ⟨n - 1, by omega⟩
    obtain ⟨T', q1, q2, q3⟩ := ih n (i + 1) (T.a 47 i (-1)) (by omega) (by omega) (by omega)
    refine ⟨T', ?_, (Fr.a (by decide)).trans q2, fun v => ?_⟩
    · rw [g100L2]
      refine (gd_t (by first | exact ⟨by omega, by omega⟩ | exact ⟨by omega, by omega, by omega⟩ | exact ⟨by omega, by omega, by omega, by omega⟩ | omega | exact inR_to _ | assumption | decide)).trans ?_
      rw [if_pos (by omega)]
      refine (gd_t (by first | exact ⟨by omega, by omega⟩ | exact ⟨by omega, by omega, by omega⟩ | exact ⟨by omega, by omega, by omega, by omega⟩ | omega | exact inR_to _ | assumption | decide)).trans ?_
      exact q1
    · rw [q3 v, aA_up (by decide)]
      by_cases hv : v = i
      · rw [hv, upI_e, if_neg (by omega), if_pos (by omega)]
      · rw [upI_n hv]
        by_cases h1 : i + 1 ≤ v ∧ v < 128
        · rw [if_pos h1, if_pos (by omega)]
        · rw [if_neg h1, if_neg (by omega)]
theorem g100_t (T : St) : ∃ T', g100 T = some T' ∧ Fr [47] T T' ∧ ∀ v : Int, 0 ≤ v → v < 128 → T'.A 47 v = -1 := by
  obtain ⟨T', q1, q2, q3⟩ := g100L_t 128 FU 0 T (by omega) (by omega) (FU_gt (by decide))
  refine ⟨T', ?_, q2, fun v v0 v1 => by rw [q3 v, if_pos ⟨v0, v1⟩]⟩
  unfold g100
  rw [q1]
  rfl
/-- the second object's unifier alone has changed -/
def MU (T T' : St) : Prop := T'.tl = T.tl ∧ T'.ns = T.ns ∧ T'.O = T.O ∧ (∀ c, c ∉ [36, 46, 47, 48, 49, 65, 66, 67] → T'.F0 c = T.F0 c ∧ T'.A0 c = T.A0 c ∧ T'.R c = T.R c) ∧ (T'.A0 36 = T.A0 36 ∧ T'.R 36 = T.R 36) ∧ ∀ i, i ≠ 24 → T'.F0 36 i = T.F0 36 i
theorem MU.trans {T U W : St} (h : MU T U) (g : MU U W) : MU T W := ⟨g.1.trans h.1, g.2.1.trans h.2.1, g.2.2.1.trans h.2.2.1, fun c hc => ⟨(g.2.2.2.1 c hc).1.trans (h.2.2.2.1 c hc).1, (g.2.2.2.1 c hc).2.1.trans (h.2.2.2.1 c hc).2.1, (g.2.2.2.1 c hc).2.2.trans (h.2.2.2.1 c hc).2.2⟩, ⟨g.2.2.2.2.1.1.trans h.2.2.2.2.1.1, g.2.2.2.2.1.2.trans h.2.2.2.2.1.2⟩, fun i hi => (g.2.2.2.2.2 i hi).trans (h.2.2.2.2.2 i hi)⟩
theorem Fr.MU {X : List Nat} {T T' : St} (h : Fr X T T') (hX : ∀ c ∈ X, c ∈ [46, 47, 48, 49, 65, 66, 67]) : MU T T' := ⟨h.1, h.2.1, h.2.2.1, fun c hc => h.2.2.2 c (fun e => hc (List.mem_cons_of_mem _ (hX c e))), (h.2.2.2 36 (fun e => absurd (hX 36 e) (by decide))).2, fun i _ => by rw [(h.2.2.2 36 (fun e => absurd (hX 36 e) (by decide))).1]⟩
theorem MU.refl (T : St) : MU T T := (Fr.refl [] T).MU (fun _ h => absurd h List.not_mem_nil)
theorem f24_MU (T : St) (x : Int) : MU T (T.f 36 24 x) := by
  refine ⟨rfl, rfl, rfl, fun c hc => ⟨?_, rfl, rfl⟩, ⟨rfl, rfl⟩, fun i hi => ?_⟩
  · show (if c = 36 then _ else T.F0 c) = T.F0 c
    rw [if_neg (fun e => hc (by rw [e]; decide))]
  · show (if (36 : Nat) = 36 then (fun b => if b = 24 then eI x else T.F0 36 b) else T.F0 36) i = T.F0 36 i
    rw [if_pos rfl]
    exact if_neg hi
theorem MU.A {T T' : St} (h : MU T T') {c : Nat} (hc : c ∉ [36, 46, 47, 48, 49, 65, 66, 67]) : T'.A c = T.A c := by
  funext i
  show (T'.A0 c i).toInt = (T.A0 c i).toInt
  rw [(h.2.2.2.1 c hc).2.1]
theorem MU.F {T T' : St} (h : MU T T') {i : Nat} (hi : i ≠ 24) : T'.F 36 i = T.F 36 i := by
  show (T'.F0 36 i).toInt = (T.F0 36 i).toInt
  rw [h.2.2.2.2.2 i hi]
theorem KM.mu {T T' : St} (h : MU T T') {s n : Int} {o u : Int → Int} (hk : KM T s n o u) : KM T' s n o u := by
  unfold KM at hk ⊢
  rw [h.A (show 38 ∉ [36, 46, 47, 48, 49, 65, 66, 67] by decide), h.A (show 39 ∉ [36, 46, 47, 48, 49, 65, 66, 67] by decide), h.A (show 40 ∉ [36, 46, 47, 48, 49, 65, 66, 67] by decide), h.A (show 41 ∉ [36, 46, 47, 48, 49, 65, 66, 67] by decide), h.A (show 42 ∉ [36, 46, 47, 48, 49, 65, 66, 67] by decide)]
  exact hk
/-- the places of the literals but one -/
def ops (o : Int → Int) (s z : Int) : Nat → Int → List Int
  | 0, _ => []
  | r + 1, k => if k = s then ops o s z r (k + 1) else (z + o k) :: ops o s z r (k + 1)
theorem oth_ops (f : Int → List Int) (o : Int → Int) (s z : Int) : ∀ (r : Nat) (k : Int), oth f o s z r k = (ops o s z r k).map f
  | 0, _ => rfl
  | r + 1, k => by
    rw [oth, ops]
    split
    · exact oth_ops f o s z r (k + 1)
    · rw [List.map_cons, oth_ops f o s z r (k + 1)]
theorem ops_len (o : Int → Int) (s z : Int) : ∀ (r : Nat) (k : Int), (ops o s z r k).length ≤ r
  | 0, _ => Nat.le_refl _
  | r + 1, k => by
    have := ops_len o s z r (k + 1)
    rw [ops]
    split
    · omega
    · show (ops o s z r (k + 1)).length + 1 ≤ _
      omega
theorem ops_mem {o : Int → Int} {s z x : Int} : ∀ (r : Nat) (k : Int), x ∈ ops o s z r k → ∃ j : Int, k ≤ j ∧ j < k + r ∧ x = z + o j
  | 0, _, h => absurd h List.not_mem_nil
  | r + 1, k, h => by
    rw [ops] at h
    by_cases hk : k = s
    · rw [if_pos hk] at h
      obtain ⟨j, h1, h2, h3⟩ := ops_mem r (k + 1) h
      exact ⟨j, by omega, by omega, h3⟩
    · rw [if_neg hk] at h
      rcases List.mem_cons.mp h with h | h
      · exact ⟨k, Int.le_refl _, by omega, h⟩
      · obtain ⟨j, h1, h2, h3⟩ := ops_mem r (k + 1) h
        exact ⟨j, by omega, by omega, h3⟩
theorem g142L_t {s sk z N : Int} {o u0 u : Int → Int} (hW : WV N o u0) (ho : o N ≤ 16) (hz : z = 0 ∨ z = 16) (hs : inR sk) (hu : ∀ k : Int, 0 ≤ k → k < N → u (z + o k) = u0 (o k)) : ∀ (r n : Nat) (k : Int) (T : St), KM T s N o u0 → 0 ≤ k → k + r = N → 0 ≤ T.F 36 24 → T.F 36 24 + r ≤ 100 → r < n → ∃ T', g142L3 s sk z n k T = some T' ∧ MU T T' ∧ T'.A 46 = T.A 46 ∧ T'.A 47 = T.A 47 ∧ T'.F 36 24 = T.F 36 24 + (ops o sk z r k).length ∧ (∀ i : Int, i < T.F 36 24 → T'.A 48 i = T.A 48 i ∧ T'.A 49 i = T.A 49 i) ∧ ∀ j : Int, 0 ≤ j → j < (ops o sk z r k).length → T'.A 48 (T.F 36 24 + j) = gI (ops o sk z r k) j ∧ T'.A 49 (T.F 36 24 + j) = dn (u (gI (ops o sk z r k) j)) := by
  have n4 := hW.1.2.1
  intro r
  induction r with
  | zero =>
    intro n k T hK k0 hk f0 f1 hn
    obtain ⟨n, rfl⟩ : ∃ k, n = k + 1 := ⟨n - 1, by omega⟩
    obtain ⟨k1, k2, k3, k4, k5, k6⟩ := hK
    refine ⟨T, ?_, MU.refl _, rfl, rfl, (Int.add_zero _).symm, fun _ _ => ⟨rfl, rfl⟩, fun j j0 j1 => absurd j1 (by show ¬ j < ((0 : Nat) : Int); omega)⟩
    unfold g142L3
    refine (gd_t (by first | exact ⟨by omega, by omega⟩ | exact ⟨by omega, by omega, by omega⟩ | exact ⟨by omega, by omega, by omega, by omega⟩ | omega | exact inR_to _ | assumption | decide)).trans ?_
    refine (gd_t (by first | exact ⟨by omega, by omega⟩ | exact ⟨by omega, by omega, by omega⟩ | exact ⟨by omega, by omega, by omega, by omega⟩ | omega | exact inR_to _ | assumption | decide)).trans ?_
    rw [k3, if_neg (by omega)]
  | succ r ih =>
    intro n k T hK k0 hk f0 f1 hn
    obtain ⟨n, rfl⟩ : ∃ k, n = k + 1 := ⟨n - 1, by omega⟩
    have hK' := hK
    obtain ⟨k1, k2, k3, k4, k5, k6⟩ := hK
    by_cases hks : k = sk
    · have e : g142L3 s sk z (n + 1) k T = g142L3 s sk z n (k + 1) T := by
        rw [g142L3]
        refine (gd_t (by first | exact ⟨by omega, by omega⟩ | exact ⟨by omega, by omega, by omega⟩ | exact ⟨by omega, by omega, by omega, by omega⟩ | omega | exact inR_to _ | assumption | decide)).trans ?_
        refine (gd_t (by first | exact ⟨by omega, by omega⟩ | exact ⟨by omega, by omega, by omega⟩ | exact ⟨by omega, by omega, by omega, by omega⟩ | omega | exact inR_to _ | assumption | decide)).trans ?_
        rw [k3, if_pos (by omega)]
        refine (gd_t hs).trans ?_
        rw [if_pos hks]
      rw [e, ops, if_pos hks]
      exact ih n (k + 1) T hK' (by omega) (by omega) f0 (by omega) (by omega)
    · have e39 := (k5 k k0 (by omega)).1
      have e40 := (k5 k k0 (by omega)).2
      have ok := hW.1.2.2.2.2.2.1 k k0 (by omega)
      have db := dn_b (u0 (o k))
      have iD : inR (dn (u0 (o k))) := by rcases db with h | h <;> (rw [h]; decide)
      have iP : inR (o k + z) := ⟨by omega, by omega⟩
      have iF : inR (T.F 36 24 + 1) := ⟨by omega, by omega⟩
      have e : g142L3 s sk z (n + 1) k T = g142L3 s sk z n (k + 1) (((T.a 48 (T.F 36 24) (o k + z)).a 49 (T.F 36 24) (dn (u0 (o k)))).f 36 24 (T.F 36 24 + 1)) := by
        rw [g142L3]
        refine (gd_t (by first | exact ⟨by omega, by omega⟩ | exact ⟨by omega, by omega, by omega⟩ | exact ⟨by omega, by omega, by omega, by omega⟩ | omega | exact inR_to _ | assumption | decide)).trans ?_
        refine (gd_t (by first | exact ⟨by omega, by omega⟩ | exact ⟨by omega, by omega, by omega⟩ | exact ⟨by omega, by omega, by omega, by omega⟩ | omega | exact inR_to _ | assumption | decide)).trans ?_
        rw [k3, if_pos (by omega)]
        refine (gd_t hs).trans ?_
        rw [if_neg hks]
        have e143 : g143 T s k z = some (o k + z) := by
          unfold g143
          refine (gd_t (by first | exact ⟨by omega, by omega⟩ | exact ⟨by omega, by omega, by omega⟩ | exact ⟨by omega, by omega, by omega, by omega⟩ | omega | exact inR_to _ | assumption | decide)).trans ?_
          rw [e39, show 64 * s + o k - 64 * s + z = o k + z by omega]
        rw [e143]
        refine (ob_t rfl).trans ?_
        refine (gd_t (by first | exact ⟨by omega, by omega⟩ | exact ⟨by omega, by omega, by omega⟩ | exact ⟨by omega, by omega, by omega, by omega⟩ | omega | exact inR_to _ | assumption | decide)).trans ?_
        refine (gd_t (by first | exact ⟨by omega, by omega⟩ | exact ⟨by omega, by omega, by omega⟩ | exact ⟨by omega, by omega, by omega, by omega⟩ | omega | exact inR_to _ | assumption | decide)).trans ?_
        rw [e40]
        refine (gd_t db).trans ?_
        rfl
      have hM : MU T (((T.a 48 (T.F 36 24) (o k + z)).a 49 (T.F 36 24) (dn (u0 (o k)))).f 36 24 (T.F 36 24 + 1)) := (((Fr.a (X := [48]) (by decide)).MU (by decide)).trans ((Fr.a (X := [49]) (by decide)).MU (by decide))).trans (f24_MU _ _)
      have eF : (((T.a 48 (T.F 36 24) (o k + z)).a 49 (T.F 36 24) (dn (u0 (o k)))).f 36 24 (T.F 36 24 + 1)).F 36 24 = T.F 36 24 + 1 := by rw [f_F iF, if_pos rfl, if_pos rfl]
      have e48 : (((T.a 48 (T.F 36 24) (o k + z)).a 49 (T.F 36 24) (dn (u0 (o k)))).f 36 24 (T.F 36 24 + 1)).A 48 = upI (T.A 48) (T.F 36 24) (o k + z) := by rw [f_A, aA_ne (by decide), aA_up iP]
      have e49 : (((T.a 48 (T.F 36 24) (o k + z)).a 49 (T.F 36 24) (dn (u0 (o k)))).f 36 24 (T.F 36 24 + 1)).A 49 = upI (T.A 49) (T.F 36 24) (dn (u0 (o k))) := by rw [f_A, aA_up iD, aA_ne (by decide)]
      have e46 : (((T.a 48 (T.F 36 24) (o k + z)).a 49 (T.F 36 24) (dn (u0 (o k)))).f 36 24 (T.F 36 24 + 1)).A 46 = T.A 46 := by rw [f_A, aA_ne (by decide), aA_ne (by decide)]
      have e47 : (((T.a 48 (T.F 36 24) (o k + z)).a 49 (T.F 36 24) (dn (u0 (o k)))).f 36 24 (T.F 36 24 + 1)).A 47 = T.A 47 := by rw [f_A, aA_ne (by decide), aA_ne (by decide)]
      obtain ⟨T', q1, q2, q3, q4, q5, q6, q7⟩ := ih n (k + 1) (((T.a 48 (T.F 36 24) (o k + z)).a 49 (T.F 36 24) (dn (u0 (o k)))).f 36 24 (T.F 36 24 + 1)) (hK'.mu hM) (by omega) (by omega) (by rw [eF]; omega) (by rw [eF]; omega) (by omega)
      rw [eF] at q5 q6 q7
      rw [e48, e49] at q6
      rw [ops, if_neg hks]
      refine ⟨T', e.trans q1, hM.trans q2, q3.trans e46, q4.trans e47, ?_, fun i hi => ?_, fun j j0 j1 => ?_⟩
      · rw [q5]
        show _ = T.F 36 24 + (((ops o sk z r (k + 1)).length + 1 : Nat) : Int)
        omega
      · have := q6 i (by omega)
        rw [upI_n (by omega), upI_n (by omega)] at this
        exact this
      · have j1 : j < (((ops o sk z r (k + 1)).length + 1 : Nat) : Int) := j1
        by_cases hj : j = 0
        · subst hj
          have := q6 (T.F 36 24) (by omega)
          rw [upI_e, upI_e] at this
          rw [gI_c0, Int.add_zero, hu k k0 (by omega), this.1, this.2]
          exact ⟨by omega, rfl⟩
        · rw [gI_cp (by omega)]
          have := q7 (j - 1) (by omega) (by omega)
          rw [show T.F 36 24 + 1 + (j - 1) = T.F 36 24 + j by omega] at this
          exact this
theorem list_m {T : St} {s sk z N : Int} {o u0 u : Int → Int} (hW : WV N o u0) (ho : o N ≤ 16) (hz : z = 0 ∨ z = 16) (hs : inR sk) (hu : ∀ k : Int, 0 ≤ k → k < N → u (z + o k) = u0 (o k)) (hK : KM T s N o u0) (f0 : 0 ≤ T.F 36 24) (f1 : T.F 36 24 ≤ 10) : ∃ T', g142 T s sk z = some T' ∧ MU T T' ∧ T'.A 46 = T.A 46 ∧ T'.A 47 = T.A 47 ∧ T'.F 36 24 = T.F 36 24 + (ops o sk z N.toNat 0).length ∧ (∀ i : Int, i < T.F 36 24 → T'.A 48 i = T.A 48 i ∧ T'.A 49 i = T.A 49 i) ∧ ∀ j : Int, 0 ≤ j → j < (ops o sk z N.toNat 0).length → T'.A 48 (T.F 36 24 + j) = gI (ops o sk z N.toNat 0) j ∧ T'.A 49 (T.F 36 24 + j) = dn (u (gI (ops o sk z N.toNat 0) j)) := by
  have n0 := hW.1.1
  have n4 := hW.1.2.1
  obtain ⟨T', q1, q⟩ := g142L_t hW ho hz hs hu N.toNat FU 0 T hK (by omega) (by omega) f0 (by omega) (FU_gt (by omega))
  refine ⟨T', ?_, q⟩
  unfold g142
  rw [q1]
  rfl
