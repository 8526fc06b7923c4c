/-! the first object's tree -/
def MX (R : List (List Int)) (m : Int) : Prop := (∀ i : Int, 0 ≤ i → i < R.length → ((lt R i).length : Int) ≤ m) ∧ ∃ i : Int, 0 ≤ i ∧ i < R.length ∧ ((lt R i).length : Int) = m
theorem MX.app {R1 R2 : List (List Int)} {m1 m2 : Int} (h1 : MX R1 m1) (h2 : MX R2 m2) : MX (R1 ++ R2) (max m1 m2) := by
  refine ⟨fun i i0 i1 => ?_, ?_⟩
  · rw [List.length_append] at i1
    by_cases h : i < R1.length
    · rw [lt_l i0 h]
      have := h1.1 i i0 h
      omega
    · rw [lt_r (by omega)]
      have := h2.1 (i - R1.length) (by omega) (by omega)
      omega
  · obtain ⟨i, i0, i1, e1⟩ := h1.2
    obtain ⟨j, j0, j1, e2⟩ := h2.2
    by_cases h : m1 ≤ m2
    · refine ⟨R1.length + j, by omega, by rw [List.length_append]; omega, ?_⟩
      rw [lt_r (by omega), show (R1.length : Int) + j - R1.length = j by omega, e2]
      omega
    · refine ⟨i, i0, by rw [List.length_append]; omega, ?_⟩
      rw [lt_l i0 i1, e1]
      omega
theorem MX.prd {R1 R2 : List (List Int)} {m1 m2 : Int} (h1 : MX R1 m1) (h2 : MX R2 m2) : MX (prd R1 R2) (m1 + m2) := by
  have eP : ((R1.length : Int) * R2.length) = (R1.length * R2.length : Nat) := by rw [Int.natCast_mul]
  refine ⟨fun i i0 i1 => ?_, ?_⟩
  · rw [prd_len] at i1
    have dm := dm_lt (k := i) (n1 := R1.length) (n2 := R2.length) i0 (by rw [eP]; exact i1) (by omega) (by omega)
    rw [prd_at i0 i1, List.length_append]
    have a := h1.1 _ dm.2.1 dm.2.2.1
    have b := h2.1 _ dm.2.2.2.1 dm.2.2.2.2
    omega
  · obtain ⟨i, i0, i1, e1⟩ := h1.2
    obtain ⟨j, j0, j1, e2⟩ := h2.2
    have hk : i * R2.length + j < (R1.length * R2.length : Nat) := by
      rw [← eP]
      have : (i + 1) * (R2.length : Int) ≤ R1.length * R2.length := Int.mul_le_mul_of_nonneg_right (by omega) (by omega)
      rw [Int.add_mul] at this
      omega
    have hk0 : 0 ≤ i * (R2.length : Int) + j := by
      have := Int.mul_nonneg i0 (show (0 : Int) ≤ R2.length by omega)
      omega
    refine ⟨i * R2.length + j, hk0, by rw [prd_len]; exact hk, ?_⟩
    have d1 : (i * (R2.length : Int) + j) / R2.length = i := by
      rw [Int.add_comm, Int.add_mul_ediv_right _ _ (by omega), Int.ediv_eq_zero_of_lt j0 j1, Int.zero_add]
    have d2 : (i * (R2.length : Int) + j) % R2.length = j := by
      rw [Int.add_comm, Int.add_mul_emod_self_right, Int.emod_eq_of_lt j0 j1]
    rw [prd_at hk0 hk, d1, d2, List.length_append]
    omega
/-- a node of the tree and its rows -/
def ND (S : St) (L : List (List Int)) : Nat → Int → List (List Int) → Prop
  | 0, _, _ => False
  | f + 1, i, R => 0 ≤ i ∧ i < S.F 3 5 ∧ S.A 7 i = min (R.length : Int) 17 ∧ 0 < R.length ∧ MX R (S.A 8 i) ∧ ((S.A 4 i = 0 ∧ ∃ l : Int, 0 ≤ l ∧ l < L.length ∧ R = [[l]] ∧ S.A 6 i = (lt L l).length ∧ ((lt L l).length ≤ 16 → 0 ≤ S.A 5 i ∧ S.A 5 i + (lt L l).length ≤ S.F 3 7 ∧ ∀ j : Int, 0 ≤ j → j < (lt L l).length → S.A 9 (S.A 5 i + j) = gI (lt L l) j)) ∨ (∃ R1 R2, ND S L f (S.A 5 i) R1 ∧ ND S L f (S.A 6 i) R2 ∧ ((S.A 4 i = 2 ∧ R = prd R1 R2) ∨ (S.A 4 i = 1 ∧ R = R1 ++ R2))))
/-- the tree grows -/
def TG (S S' : St) : Prop := S.F 3 5 ≤ S'.F 3 5 ∧ S.F 3 7 ≤ S'.F 3 7 ∧ (∀ i : Int, i < S.F 3 5 → S'.A 4 i = S.A 4 i ∧ S'.A 5 i = S.A 5 i ∧ S'.A 6 i = S.A 6 i ∧ S'.A 7 i = S.A 7 i ∧ S'.A 8 i = S.A 8 i) ∧ ∀ q : Int, q < S.F 3 7 → S'.A 9 q = S.A 9 q
theorem TG.refl (S : St) : TG S S := ⟨Int.le_refl _, Int.le_refl _, fun _ _ => ⟨rfl, rfl, rfl, rfl, rfl⟩, fun _ _ => rfl⟩
theorem TG.trans {S T U : St} (h : TG S T) (g : TG T U) : TG S U := ⟨by have := h.1; have := g.1; omega, by have := h.2.1; have := g.2.1; omega, fun i hi => by
  have a := h.2.2.1 i hi
  have b := g.2.2.1 i (by have := h.1; omega)
  exact ⟨b.1.trans a.1, b.2.1.trans a.2.1, b.2.2.1.trans a.2.2.1, b.2.2.2.1.trans a.2.2.2.1, b.2.2.2.2.trans a.2.2.2.2⟩, fun q hq => (g.2.2.2 q (by have := h.2.1; omega)).trans (h.2.2.2 q hq)⟩
theorem TG.same {S S' : St} (h3 : S'.F 3 = S.F 3) (hA : ∀ c, 4 ≤ c → c ≤ 9 → S'.A c = S.A c) : TG S S' := ⟨by rw [h3]; exact Int.le_refl _, by rw [h3]; exact Int.le_refl _, fun i _ => by rw [hA 4 (by decide) (by decide), hA 5 (by decide) (by decide), hA 6 (by decide) (by decide), hA 7 (by decide) (by decide), hA 8 (by decide) (by decide)]; exact ⟨rfl, rfl, rfl, rfl, rfl⟩, fun q _ => by rw [hA 9 (by decide) (by decide)]⟩
theorem ND.mono {S S' : St} {L M : List (List Int)} (h : TG S S') : ∀ (f : Nat) (i : Int) (R : List (List Int)), ND S L f i R → ND S' (L ++ M) f i R
  | 0, _, _, g => g
  | f + 1, i, R, g => by
    obtain ⟨a1, a2, a3, a4, a5, a6⟩ := g
    obtain ⟨e4, e5, e6, e7, e8⟩ := h.2.2.1 i a2
    have h1 := h.1
    have h2 := h.2.1
    refine ⟨a1, by omega, by rw [e7]; exact a3, a4, by rw [e8]; exact a5, ?_⟩
    rw [e4, e5, e6]
    rcases a6 with ⟨b1, l, b2, b3, b4, b5, b6⟩ | ⟨R1, R2, b1, b2, b3⟩
    · refine Or.inl ⟨b1, l, b2, by rw [List.length_append]; omega, b4, ?_⟩
      rw [lt_l b2 b3]
      refine ⟨b5, fun h16 => ?_⟩
      obtain ⟨c1, c2, c3⟩ := b6 h16
      exact ⟨c1, by omega, fun j j0 j1 => by rw [h.2.2.2 _ (by omega)]; exact c3 j j0 j1⟩
    · exact Or.inr ⟨R1, R2, ND.mono h f _ _ b1, ND.mono h f _ _ b2, b3⟩
theorem ND.up {S : St} {L : List (List Int)} : ∀ (f : Nat) (i : Int) (R : List (List Int)), ND S L f i R → ND S L (f + 1) i R
  | 0, _, _, g => absurd g id
  | f + 1, i, R, g => by
    obtain ⟨a1, a2, a3, a4, a5, a6⟩ := g
    refine ⟨a1, a2, a3, a4, a5, ?_⟩
    rcases a6 with h | ⟨R1, R2, b1, b2, b3⟩
    · exact Or.inl h
    · exact Or.inr ⟨R1, R2, ND.up f _ _ b1, ND.up f _ _ b2, b3⟩
/-- what a part's reading may change in the first object -/
def pcl : List Nat := [1, 3, 4, 5, 6, 7, 8, 9, 10, 11, 12]
def FP (S S' : St) : Prop := S'.tl = S.tl ∧ S'.ns = S.ns ∧ S'.O = S.O ∧ (∀ c, c ∉ pcl → S'.F0 c = S.F0 c ∧ S'.A0 c = S.A0 c ∧ S'.R c = S.R c) ∧ ∀ i, i ∉ [3, 4, 8, 9, 10, 12] → S'.F0 1 i = S.F0 1 i
theorem FP.refl (S : St) : FP S S := ⟨rfl, rfl, rfl, fun _ _ => ⟨rfl, rfl, rfl⟩, fun _ _ => rfl⟩
theorem FP.trans {S T U : St} (h : FP S T) (g : FP T U) : FP S U := ⟨g.1.trans h.1, g.2.1.trans h.2.1, g.2.2.1.trans h.2.2.1, fun c hc => ⟨(g.2.2.2.1 c hc).1.trans (h.2.2.2.1 c hc).1, (g.2.2.2.1 c hc).2.1.trans (h.2.2.2.1 c hc).2.1, (g.2.2.2.1 c hc).2.2.trans (h.2.2.2.1 c hc).2.2⟩, fun i hi => (g.2.2.2.2 i hi).trans (h.2.2.2.2 i hi)⟩
theorem FT.FP {S S' : St} (h : FT S S') : FP S S' := ⟨h.1, h.2.1, h.2.2.1, fun c hc => h.2.2.2.1 c (fun e => hc (by
  have : ∀ d ∈ [1, 12], d ∈ pcl := by decide
  exact this c e)), fun i hi => h.2.2.2.2.2.2 i (fun e => hi (by
  have : ∀ d ∈ [3, 4, 12], d ∈ [3, 4, 8, 9, 10, 12] := by decide
  exact this i e))⟩
theorem Fr.FP {X : List Nat} {S S' : St} (h : Fr X S S') (hX : ∀ c ∈ X, c ∈ pcl ∧ c ≠ 1) : FP S S' := ⟨h.1, h.2.1, h.2.2.1, fun c hc => h.2.2.2 c (fun e => hc (hX c e).1), fun i _ => by rw [(h.2.2.2 1 (fun e => (hX 1 e).2 rfl)).1]⟩
theorem FP.f1 (S : St) {k : Nat} (hk : k ∈ [3, 4, 8, 9, 10, 12]) (x : Int) : FP S (S.f 1 k x) := by
  refine ⟨rfl, rfl, rfl, fun c hc => ⟨?_, rfl, rfl⟩, fun i hi => ?_⟩
  · show (if c = 1 then _ else S.F0 c) = S.F0 c
    rw [if_neg (fun e => hc (by rw [e]; decide))]
  · show (if (1 : Nat) = 1 then (fun b => if b = k then eI x else S.F0 1 b) else S.F0 1) i = S.F0 1 i
    rw [if_pos rfl]
    exact if_neg (fun e => hi (by rw [e]; exact hk))
theorem FP.F {S S' : St} (h : FP S S') {c : Nat} (hc : c ∉ pcl) : S'.F c = S.F c := by
  funext i
  show (S'.F0 c i).toInt = (S.F0 c i).toInt
  rw [(h.2.2.2.1 c hc).1]
theorem FP.A {S S' : St} (h : FP S S') {c : Nat} (hc : c ∉ pcl) : S'.A c = S.A c := by
  funext i
  show (S'.A0 c i).toInt = (S.A0 c i).toInt
  rw [(h.2.2.2.1 c hc).2.1]
theorem FP.F1 {S S' : St} (h : FP S S') {i : Nat} (hi : i ∉ [3, 4, 8, 9, 10, 12]) : S'.F 1 i = S.F 1 i := by
  show (S'.F0 1 i).toInt = (S.F0 1 i).toInt
  rw [h.2.2.2.2 i hi]
theorem g32L_t {E : List Int} {v3 : Int} : ∀ (r n : Nat) (v4 : Int) (S : St), 0 ≤ v4 → v4 + r = min (E.length : Int) 16 → (E.length : Int) ≤ 2000 → (∀ j : Int, 0 ≤ j → j < 16 → j < E.length → S.A 12 j = gI E j) → 0 ≤ S.F 3 7 → S.F 3 7 + r ≤ 1280 → r < n → ∃ S', g32L33 12 E.length v3 n v4 S = some S' ∧ Fr [3, 9] S S' ∧ S'.F 3 5 = S.F 3 5 ∧ S'.F 3 7 = S.F 3 7 + r ∧ ∀ q : Int, S'.A 9 q = if S.F 3 7 ≤ q ∧ q < S.F 3 7 + r then gI E (v4 + (q - S.F 3 7)) else S.A 9 q := by
  intro r
  induction r with
  | zero =>
    intro n v4 S z0 hz hl hE p0 p1 hn
    obtain ⟨n, rfl⟩ : ∃ k, n = k + 1 := ⟨n - 1, by omega⟩
    refine ⟨S, ?_, Fr.refl _ _, rfl, by omega, fun q => by rw [if_neg (by omega)]⟩
    unfold g32L33
    refine (gd_t (by first | exact ⟨by omega, by omega⟩ | exact ⟨by omega, by omega, by omega⟩ | exact ⟨by omega, by omega, by omega, by omega⟩ | omega | exact inR_to _ | assumption | decide)).trans ?_
    refine (gd_t (by first | exact ⟨by omega, by omega⟩ | exact ⟨by omega, by omega, by omega⟩ | exact ⟨by omega, by omega, by omega, by omega⟩ | omega | exact inR_to _ | assumption | decide)).trans ?_
    by_cases h : v4 < (E.length : Int)
    · rw [if_pos h, if_neg (by omega)]
    · rw [if_neg h]
  | succ r ih =>
    intro n v4 S z0 hz hl hE p0 p1 hn
    obtain ⟨n, rfl⟩ : ∃ k, n = k + 1 := ⟨n - 1, by omega⟩
    have ev := hE v4 z0 (by omega) (by omega)
    have i7 : inR (S.F 3 7 + 1) := ⟨by omega, by omega⟩
    have e : g32L33 12 E.length v3 (n + 1) v4 S = g32L33 12 E.length v3 n (v4 + 1) ((S.a 9 (S.F 3 7) (S.A 12 v4)).f 3 7 (S.F 3 7 + 1)) := by
      rw [g32L33]
      refine (gd_t (by first | exact ⟨by omega, by omega⟩ | exact ⟨by omega, by omega, by omega⟩ | exact ⟨by omega, by omega, by omega, by omega⟩ | omega | exact inR_to _ | assumption | decide)).trans ?_
      refine (gd_t (by first | exact ⟨by omega, by omega⟩ | exact ⟨by omega, by omega, by omega⟩ | exact ⟨by omega, by omega, by omega, by omega⟩ | omega | exact inR_to _ | assumption | decide)).trans ?_
      rw [if_pos (by omega), if_pos (by omega), if_pos (by omega)]
      refine (gA_t (show S.cl 12 = some (.ar 16 (S.A0 12)) from rfl)).trans ?_
      refine (gd_t (by first | exact ⟨by omega, by omega⟩ | exact ⟨by omega, by omega, by omega⟩ | exact ⟨by omega, by omega, by omega, by omega⟩ | omega | exact inR_to _ | assumption | decide)).trans ?_
      refine (gd_t (by first | exact ⟨by omega, by omega⟩ | exact ⟨by omega, by omega, by omega⟩ | exact ⟨by omega, by omega, by omega, by omega⟩ | omega | exact inR_to _ | assumption | decide)).trans ?_
      rfl
    have e7 : ((S.a 9 (S.F 3 7) (S.A 12 v4)).f 3 7 (S.F 3 7 + 1)).F 3 7 = S.F 3 7 + 1 := by rw [f_F i7, if_pos rfl, if_pos rfl]
    have e5 : ((S.a 9 (S.F 3 7) (S.A 12 v4)).f 3 7 (S.F 3 7 + 1)).F 3 5 = S.F 3 5 := by rw [f_F i7, if_pos rfl, if_neg (by decide), a_F]
    have e9 : ((S.a 9 (S.F 3 7) (S.A 12 v4)).f 3 7 (S.F 3 7 + 1)).A 9 = upI (S.A 9) (S.F 3 7) (S.A 12 v4) := by rw [f_A]; exact aA_up (inR_to _)
    have e12 : ((S.a 9 (S.F 3 7) (S.A 12 v4)).f 3 7 (S.F 3 7 + 1)).A 12 = S.A 12 := by rw [f_A, aA_ne (by decide)]
    obtain ⟨S', q1, q2, q3, q4, q5⟩ := ih n (v4 + 1) ((S.a 9 (S.F 3 7) (S.A 12 v4)).f 3 7 (S.F 3 7 + 1)) (by omega) (by omega) hl (by rw [e12]; exact hE) (by rw [e7]; omega) (by rw [e7]; omega) (by omega)
    rw [e7] at q4 q5
    refine ⟨S', e.trans q1, ((Fr.a (by decide)).trans (Fr.f (by decide))).trans q2, q3.trans e5, by omega, fun q => ?_⟩
    rw [q5 q, e9]
    by_cases hq : q = S.F 3 7
    · rw [hq, upI_e, if_neg (by omega), if_pos (by omega), ev, Int.sub_self, Int.add_zero]
    · rw [upI_n hq]
      by_cases h1 : S.F 3 7 + 1 ≤ q ∧ q < S.F 3 7 + 1 + r
      · rw [if_pos h1, if_pos (by omega), show v4 + 1 + (q - (S.F 3 7 + 1)) = v4 + (q - S.F 3 7) by omega]
      · rw [if_neg h1, if_neg (by omega)]
/-- a literal becomes a leaf -/
theorem leaf_t {tx : Int → Int} {len pos : Int} {S : St} {E : List Int} {L : List (List Int)} (h : RC tx len S pos E) (hl : len ≤ 160) (n0 : 0 ≤ S.F 3 5) (n1 : S.F 3 5 < 160) (p0 : 0 ≤ S.F 3 7) (p1 : S.F 3 7 ≤ 1264) : ∃ S', g32 S 12 (S.F 1 12) = some (S.F 3 5, S') ∧ Fr [3, 4, 5, 6, 7, 8, 9] S S' ∧ TG S S' ∧ S'.F 3 5 = S.F 3 5 + 1 ∧ S'.F 3 7 ≤ S.F 3 7 + 16 ∧ ND S' (L ++ [E]) 1 (S.F 3 5) [[(L.length : Int)]] := by
  obtain ⟨a1, a2, a3, a4, a5, a6, a7, a8, a9⟩ := h
  have i5 : inR (S.F 3 5 + 1) := ⟨by omega, by omega⟩
  have i7 : inR (S.F 3 7) := ⟨by omega, by omega⟩
  have iE : inR (E.length : Int) := ⟨by omega, by omega⟩
  rw [a7]
  have e33 : g33 S 0 (S.F 3 7) E.length = some (S.F 3 5, (((S.a 4 (S.F 3 5) 0).a 5 (S.F 3 5) (S.F 3 7)).a 6 (S.F 3 5) E.length).f 3 5 (S.F 3 5 + 1)) := by
    unfold g33
    rw [if_pos n1]
    refine (gd_t (by first | exact ⟨by omega, by omega⟩ | exact ⟨by omega, by omega, by omega⟩ | exact ⟨by omega, by omega, by omega, by omega⟩ | omega | exact inR_to _ | assumption | decide)).trans ?_
    rw [show S.F 3 5 + 1 - 1 = S.F 3 5 by omega]
  generalize hS0 : (((S.a 4 (S.F 3 5) 0).a 5 (S.F 3 5) (S.F 3 7)).a 6 (S.F 3 5) E.length).f 3 5 (S.F 3 5 + 1) = S0 at *
  have f0 : Fr [3, 4, 5, 6, 7, 8, 9] S S0 := by
    rw [← hS0]
    exact ((Fr.a (by decide)).trans ((Fr.a (by decide)).trans (Fr.a (by decide)))).trans (Fr.f (by decide))
  have s5 : S0.F 3 5 = S.F 3 5 + 1 := by rw [← hS0, f_F i5, if_pos rfl, if_pos rfl]
  have s7 : S0.F 3 7 = S.F 3 7 := by rw [← hS0, f_F i5, if_pos rfl, if_neg (by decide), a_F, a_F, a_F]
  have s4 : S0.A 4 = upI (S.A 4) (S.F 3 5) 0 := by rw [← hS0, f_A, aA_ne (by decide), aA_ne (by decide), aA_up (by decide)]
  have sa5 : S0.A 5 = upI (S.A 5) (S.F 3 5) (S.F 3 7) := by rw [← hS0, f_A, aA_ne (by decide), aA_up i7, aA_ne (by decide)]
  have s6 : S0.A 6 = upI (S.A 6) (S.F 3 5) E.length := by rw [← hS0, f_A, aA_up iE, aA_ne (by decide), aA_ne (by decide)]
  have sn : ∀ c, c ∉ [4, 5, 6] → S0.A c = S.A c := fun c hc => by rw [← hS0, f_A, aA_ne (fun e => hc (by rw [e]; decide)), aA_ne (fun e => hc (by rw [e]; decide)), aA_ne (fun e => hc (by rw [e]; decide))]
  have t12 : ((S0.a 7 (S.F 3 5) 1).a 8 (S.F 3 5) 1).A 12 = S.A 12 := by rw [aA_ne (by decide), aA_ne (by decide), sn 12 (by decide)]
  obtain ⟨r, hr⟩ : ∃ r : Nat, (r : Int) = min (E.length : Int) 16 := ⟨(min (E.length : Int) 16).toNat, by omega⟩
  obtain ⟨S', q1, q2, q3, q4, q5⟩ := g32L_t (E := E) (v3 := S.F 3 5) r FU 0 ((S0.a 7 (S.F 3 5) 1).a 8 (S.F 3 5) 1) (by omega) (by omega) (by omega) (by rw [t12]; exact a9) (by show 0 ≤ S0.F 3 7; omega) (by show S0.F 3 7 + r ≤ 1280; omega) (FU_gt (by omega))
  have fr : Fr [3, 4, 5, 6, 7, 8, 9] S S' := f0.trans (((Fr.a (by decide)).trans (Fr.a (by decide))).trans (q2.mono (by decide)))
  have q3 : S'.F 3 5 = S.F 3 5 + 1 := q3.trans s5
  have e7' : ((S0.a 7 (S.F 3 5) 1).a 8 (S.F 3 5) 1).F 3 7 = S.F 3 7 := s7
  rw [e7'] at q4 q5
  have x9 : ((S0.a 7 (S.F 3 5) 1).a 8 (S.F 3 5) 1).A 9 = S.A 9 := by rw [aA_ne (by decide), aA_ne (by decide), sn 9 (by decide)]
  rw [x9] at q5
  have x4 : S'.A 4 = upI (S.A 4) (S.F 3 5) 0 := by rw [q2.A (by decide), aA_ne (by decide), aA_ne (by decide), s4]
  have x5 : S'.A 5 = upI (S.A 5) (S.F 3 5) (S.F 3 7) := by rw [q2.A (by decide), aA_ne (by decide), aA_ne (by decide), sa5]
  have x6 : S'.A 6 = upI (S.A 6) (S.F 3 5) E.length := by rw [q2.A (by decide), aA_ne (by decide), aA_ne (by decide), s6]
  have x7 : S'.A 7 = upI (S.A 7) (S.F 3 5) 1 := by rw [q2.A (by decide), aA_ne (by decide), aA_up (by decide), sn 7 (by decide)]
  have x8 : S'.A 8 = upI (S.A 8) (S.F 3 5) 1 := by rw [q2.A (by decide), aA_up (by decide), aA_ne (by decide), sn 8 (by decide)]
  have lE : lt (L ++ [E]) L.length = E := by rw [lt_r (Int.le_refl _), Int.sub_self]; rfl
  refine ⟨S', ?_, fr, ⟨by omega, by omega, fun i hi => ?_, fun q hq => by rw [q5 q, if_neg (by omega)]⟩, q3, by omega, ⟨n0, by omega, ?_, Nat.succ_pos _, ?_, Or.inl ⟨?_, L.length, by omega, by rw [List.length_append]; show (L.length : Int) < ((L.length + 1 : Nat) : Int); omega, rfl, ?_, fun h16 => ?_⟩⟩⟩
  · unfold g32
    rw [e33]
    refine (ob_t rfl).trans ?_
    show gd (inR (S.F 3 5)) _ = _
    refine (gd_t (by first | exact ⟨by omega, by omega⟩ | exact ⟨by omega, by omega, by omega⟩ | exact ⟨by omega, by omega, by omega, by omega⟩ | omega | exact inR_to _ | assumption | decide)).trans ?_
    refine (if_neg (show ¬ S.F 3 5 = -1 by omega)).trans ?_
    show gd (ixR (S.F 3 5) 160) _ = _
    refine (gd_t (by first | exact ⟨by omega, by omega⟩ | exact ⟨by omega, by omega, by omega⟩ | exact ⟨by omega, by omega, by omega, by omega⟩ | omega | exact inR_to _ | assumption | decide)).trans ?_
    show ob (g32L33 12 E.length (S.F 3 5) FU 0 ((S0.a 7 (S.F 3 5) 1).a 8 (S.F 3 5) 1)) _ = _
    rw [q1]
    rfl
  · rw [x4, x5, x6, x7, x8, upI_n (by omega), upI_n (by omega), upI_n (by omega), upI_n (by omega), upI_n (by omega)]
    exact ⟨rfl, rfl, rfl, rfl, rfl⟩
  · rw [x7, upI_e]
    show (1 : Int) = min ((1 : Nat) : Int) 17
    decide
  · rw [x8, upI_e]
    refine ⟨fun i i0 i1 => ?_, 0, Int.le_refl _, by show (0 : Int) < ((1 : Nat) : Int); omega, rfl⟩
    have i1 : i < ((1 : Nat) : Int) := i1
    rw [show i = 0 by omega]
    show ((1 : Nat) : Int) ≤ 1
    omega
  · rw [x4, upI_e]
  · rw [x6, upI_e, lE]
  · rw [lE] at h16 ⊢
    rw [x5, upI_e]
    refine ⟨p0, by omega, fun j j0 j1 => ?_⟩
    rw [q5, if_pos (by omega), show (0 : Int) + (S.F 3 7 + j - S.F 3 7) = j by omega]
