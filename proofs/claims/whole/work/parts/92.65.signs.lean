/-! the signs that stand open in the second object's reading -/
theorem g113_fuel : ∀ (d m m' : Nat) (T : St), d < m → d < m' → g113L7 m d T = g113L7 m' d T := by
  intro d
  induction d with
  | zero =>
    intro m m' T h h'
    obtain ⟨m, rfl⟩ : ∃ k, m = k + 1 := ⟨m - 1, by omega⟩
    obtain ⟨m', rfl⟩ : ∃ k, m' = k + 1 := ⟨m' - 1, by omega⟩
    rw [g113L7, g113L7]
    rw [if_neg (show ¬ (0 : Int) < ((0 : Nat) : Int) by omega), if_neg (show ¬ (0 : Int) < ((0 : Nat) : Int) by omega)]
  | succ d ih =>
    intro m m' T h h'
    obtain ⟨m, rfl⟩ : ∃ k, m = k + 1 := ⟨m - 1, by omega⟩
    obtain ⟨m', rfl⟩ : ∃ k, m' = k + 1 := ⟨m' - 1, by omega⟩
    have e : ∀ U : St, g113L7 m (((d + 1 : Nat) : Int) + -1) U = g113L7 m' (((d + 1 : Nat) : Int) + -1) U := fun U => by
      rw [show ((d + 1 : Nat) : Int) + -1 = d by omega]
      exact ih m m' U (by omega) (by omega)
    rw [g113L7, g113L7]
    simp only [e]
def isB (c : Int) : Prop := c = 38 ∨ c = 124 ∨ c = 62
def isU (c : Int) : Prop := c = 33 ∨ c = 63 ∨ c = 126
/-- does the sign multiply rows -/
def isP (c dn : Int) : Bool := if c = 38 then decide (dn = 1) else decide (dn = 0)
def comb (p : Bool) (R1 R2 : List (List Int)) : List (List Int) := if p = true then prd R1 R2 else R1 ++ R2
theorem lt_l {A B : List (List Int)} {i : Int} (i0 : 0 ≤ i) (h : i < A.length) : lt (A ++ B) i = lt A i := by
  unfold lt
  rw [List.getD_eq_getElem?_getD, List.getD_eq_getElem?_getD, List.getElem?_append_left (by omega)]
theorem lt_r {A B : List (List Int)} {i : Int} (h : A.length ≤ i) : lt (A ++ B) i = lt B (i - A.length) := by
  unfold lt
  rw [List.getD_eq_getElem?_getD, List.getD_eq_getElem?_getD, List.getElem?_append_right (by omega), show (i - (A.length : Int)).toNat = i.toNat - A.length by omega]
theorem MR.app {a b : Int → Int} {base : Int} {R1 R2 : List (List Int)} (h1 : MR a b base R1) (h2 : MR a b (base + R1.length) R2) : MR a b base (R1 ++ R2) := fun i i0 i1 => by
  rw [List.length_append] at i1
  by_cases h : i < R1.length
  · rw [lt_l i0 h]; exact h1 i i0 h
  · rw [lt_r (by omega)]
    have := h2 (i - R1.length) (by omega) (by omega)
    rw [show base + (R1.length : Int) + (i - R1.length) = base + i by omega] at this
    exact this
theorem sml.app {R1 R2 : List (List Int)} (h1 : sml R1) (h2 : sml R2) (h : R1.length + R2.length ≤ 16) : sml (R1 ++ R2) := ⟨by rw [List.length_append]; exact h, fun i i0 i1 => by
  rw [List.length_append] at i1
  by_cases hi : i < R1.length
  · rw [lt_l i0 hi]; exact h1.2 i i0 hi
  · rw [lt_r (by omega)]; exact h2.2 _ (by omega) (by omega)⟩
/-- the rows of the part that has been read -/
def CU (T : St) (top : Int) (R : List (List Int)) : Prop := T.F 36 36 = 0 → sml R ∧ T.F 36 42 = R.length ∧ T.F 36 43 = top + R.length ∧ MR (T.A 58) (T.A 59) top R
/-- a sign with two parts is closed -/
theorem close_b {T : St} {j m : Nat} {c dn b : Int} {R1 R2 : List (List Int)} (hj : j < 10) (ec : T.A 54 j = c) (hc : isB c) (ed : T.A 55 j = dn) (hd : b1R dn) (e56 : T.A 56 j = 1) (b0 : 0 ≤ b) (b1 : b ≤ 200) (hfl : b1R (T.F 36 36)) (h57 : T.F 36 36 = 0 → T.A 57 j = R1.length ∧ sml R1 ∧ MR (T.A 58) (T.A 59) b R1) (hcu : CU T (b + R1.length) R2) : ∃ T', g113L7 (m + 1) ((j + 1 : Nat) : Int) T = g113L7 m j T' ∧ Fx [58, 59] [36, 42, 43] T T' ∧ RLo b T T' ∧ b1R (T'.F 36 36) ∧ CU T' b (comb (isP c dn) R1 R2) ∧ (T'.F 36 36 = 1 → T.F 36 36 = 1 ∨ ¬ sml (comb (isP c dn) R1 R2)) ∧ (T'.F 36 36 = 0 → T.F 36 36 = 0) := by
  have ji : (0 : Int) ≤ j ∧ (j : Int) < 10 := by omega
  have e1 : g113L7 (m + 1) ((j + 1 : Nat) : Int) T = if isP c dn = true then (if (T.F 36 36) = 0 then ob (g114 T (T.A 57 j) (T.F 36 42)) (fun o33 => g113L7 m j (o33.2.f 36 42 o33.1)) else g113L7 m j (T.f 36 42 0)) else if (T.F 36 36) = 0 then gd (inR ((T.A 57 j) + (T.F 36 42))) (if 16 < ((T.A 57 j) + (T.F 36 42)) then g113L7 m j ((T.f 36 42 ((T.A 57 j) + (T.F 36 42))).f 36 36 1) else g113L7 m j ((T.f 36 42 ((T.A 57 j) + (T.F 36 42))).f 36 36 0)) else g113L7 m j ((T.f 36 42 ((T.A 57 j) + (T.F 36 42))).f 36 36 1) := by
    rw [g113L7]
    refine (gd_t (by first | exact ⟨by omega, by omega⟩ | exact ⟨by omega, by omega, by omega⟩ | exact ⟨by omega, by omega, by omega, by omega⟩ | omega | exact inR_to _ | assumption | decide)).trans ?_
    rw [if_pos (by omega)]
    refine (gd_t (by first | exact ⟨by omega, by omega⟩ | exact ⟨by omega, by omega, by omega⟩ | exact ⟨by omega, by omega, by omega, by omega⟩ | omega | exact inR_to _ | assumption | decide)).trans ?_
    rw [show ((j + 1 : Nat) : Int) - 1 = j by omega, show ((j + 1 : Nat) : Int) + -1 = j by omega, ec, if_neg (by rcases hc with e | e | e <;> omega), if_neg (by rcases hc with e | e | e <;> omega), if_neg (by rcases hc with e | e | e <;> omega), if_neg (by rw [e56]; decide), ed]
    unfold isP
    by_cases h38 : c = 38
    · rw [if_pos h38, if_pos h38]
      by_cases h1 : dn = 1
      · rw [if_pos h1.symm, if_pos (decide_eq_true h1)]
      · rw [if_neg (fun e => h1 e.symm), if_neg (show ¬ decide (dn = 1) = true by rw [decide_eq_false h1]; decide)]
    · rw [if_neg h38, if_neg h38]
      by_cases h0 : dn = 0
      · rw [if_pos h0.symm, if_pos (decide_eq_true h0)]
      · rw [if_neg (fun e => h0 e.symm), if_neg (show ¬ decide (dn = 0) = true by rw [decide_eq_false h0]; decide)]
  rw [e1]
  rcases hfl with hf | hf
  · obtain ⟨c1, c2, c3, c4⟩ := hcu hf
    obtain ⟨d1, d2, d3⟩ := h57 hf
    have l1 := d2.1
    have l2 := c1.1
    cases hp : isP c dn with
    | true =>
      rw [if_pos rfl, if_pos hf, d1, c2]
      obtain ⟨T1, q1, q2, q3, q4⟩ := g114_t d2 c1 b0 hf c3 (by omega) d3 c4
      have iP : inR (((R1.length * R2.length : Nat) : Int)) := by
        have := Nat.mul_le_mul l1 l2
        exact ⟨by omega, by omega⟩
      rw [q1]
      have ec : comb true R1 R2 = prd R1 R2 := if_pos rfl
      refine ⟨T1.f 36 42 ((R1.length * R2.length : Nat) : Int), rfl, (q2.mono (by decide) (by decide)).trans (Fx.f _ (by decide) _), q3, ?_, ?_, ?_, fun _ => hf⟩
      · rw [f_F iP, if_pos rfl, if_neg (by decide)]
        rcases q4 with ⟨z, _⟩ | ⟨z, _⟩
        · exact Or.inr z
        · exact Or.inl z
      · intro h0
        rw [f_F iP, if_pos rfl, if_neg (by decide)] at h0
        rcases q4 with ⟨z, _⟩ | ⟨z1, z2, z3, z4⟩
        · omega
        · rw [ec]
          exact ⟨z2, by rw [f_F iP, if_pos rfl, if_pos rfl, prd_len], by rw [f_F iP, if_pos rfl, if_neg (by decide), z3, prd_len], z4⟩
      · intro h1
        rw [f_F iP, if_pos rfl, if_neg (by decide)] at h1
        rw [ec]
        rcases q4 with ⟨_, z⟩ | ⟨z, _⟩
        · exact Or.inr z
        · omega
    | false =>
      have ec : comb false R1 R2 = R1 ++ R2 := if_neg (by decide)
      have iS : inR ((R1.length : Int) + R2.length) := ⟨by omega, by omega⟩
      rw [if_neg (by decide), if_pos hf, d1, c2]
      refine ⟨if 16 < (R1.length : Int) + R2.length then (T.f 36 42 ((R1.length : Int) + R2.length)).f 36 36 1 else (T.f 36 42 ((R1.length : Int) + R2.length)).f 36 36 0, ?_, ?_, ?_, ?_, ?_, ?_, fun _ => hf⟩
      · refine (gd_t (by first | exact ⟨by omega, by omega⟩ | exact ⟨by omega, by omega, by omega⟩ | exact ⟨by omega, by omega, by omega, by omega⟩ | omega | exact inR_to _ | assumption | decide)).trans ?_
        split <;> rfl
      · split
        · exact (Fx.f T (by decide) _).trans (Fx.f _ (by decide) _)
        · exact (Fx.f T (by decide) _).trans (Fx.f _ (by decide) _)
      · split
        · exact ⟨fun _ _ => rfl, fun _ _ => rfl⟩
        · exact ⟨fun _ _ => rfl, fun _ _ => rfl⟩
      · split
        · exact Or.inr (by rw [f_F (by decide), if_pos rfl, if_pos rfl])
        · exact Or.inl (by rw [f_F (by decide), if_pos rfl, if_pos rfl])
      · by_cases h16 : 16 < (R1.length : Int) + R2.length
        · rw [if_pos h16]
          intro h0
          rw [f_F (by decide), if_pos rfl, if_pos rfl] at h0
          omega
        · rw [if_neg h16]
          intro _
          rw [ec]
          refine ⟨d2.app c1 (by omega), ?_, ?_, d3.app c4⟩
          · rw [f_F (by decide), if_pos rfl, if_neg (by decide), f_F iS, if_pos rfl, if_pos rfl, List.length_append]
            omega
          · rw [f_F (by decide), if_pos rfl, if_neg (by decide), f_F iS, if_pos rfl, if_neg (by decide), c3, List.length_append]
            omega
      · by_cases h16 : 16 < (R1.length : Int) + R2.length
        · rw [if_pos h16]
          intro _
          refine Or.inr (fun hs => ?_)
          have := hs.1
          rw [ec, List.length_append] at this
          omega
        · rw [if_neg h16]
          intro h1
          rw [f_F (by decide), if_pos rfl, if_pos rfl] at h1
          omega
  · have nf : ¬ T.F 36 36 = 0 := by rw [hf]; decide
    cases hp : isP c dn with
    | true =>
      rw [if_pos rfl, if_neg nf]
      have e36 : (T.f 36 42 0).F 36 36 = 1 := by rw [f_F (by decide), if_pos rfl, if_neg (by decide)]; exact hf
      exact ⟨T.f 36 42 0, rfl, Fx.f T (by decide) _, ⟨fun _ _ => rfl, fun _ _ => rfl⟩, Or.inr e36, fun h0 => absurd h0 (by rw [e36]; decide), fun _ => Or.inl hf, fun h0 => absurd h0 (by rw [e36]; decide)⟩
    | false =>
      rw [if_neg (by decide), if_neg nf]
      have e36 : ((T.f 36 42 (T.A 57 j + T.F 36 42)).f 36 36 1).F 36 36 = 1 := by rw [f_F (by decide), if_pos rfl, if_pos rfl]
      exact ⟨(T.f 36 42 (T.A 57 j + T.F 36 42)).f 36 36 1, rfl, (Fx.f T (by decide) _).trans (Fx.f _ (by decide) _), ⟨fun _ _ => rfl, fun _ _ => rfl⟩, Or.inr e36, fun h0 => absurd h0 (by rw [e36]; decide), fun _ => Or.inl hf, fun h0 => absurd h0 (by rw [e36]; decide)⟩
/-- a sign with one part is closed -/
theorem close_u {T : St} {j m : Nat} {c : Int} (hj : j < 10) (ec : T.A 54 j = c) (hc : isU c) : g113L7 (m + 1) ((j + 1 : Nat) : Int) T = g113L7 m j (if c = 126 then T else T.f 36 30 (T.F 36 30 - 1)) := by
  rw [g113L7]
  refine (gd_t (by first | exact ⟨by omega, by omega⟩ | exact ⟨by omega, by omega, by omega⟩ | exact ⟨by omega, by omega, by omega, by omega⟩ | omega | exact inR_to _ | assumption | decide)).trans ?_
  rw [if_pos (by omega)]
  refine (gd_t (by first | exact ⟨by omega, by omega⟩ | exact ⟨by omega, by omega, by omega⟩ | exact ⟨by omega, by omega, by omega, by omega⟩ | omega | exact inR_to _ | assumption | decide)).trans ?_
  rw [show ((j + 1 : Nat) : Int) - 1 = j by omega, show ((j + 1 : Nat) : Int) + -1 = j by omega, ec]
  rcases hc with e | e | e
  · rw [if_pos e, if_neg (by omega)]
  · rw [if_neg (by omega), if_pos e, if_neg (by omega)]
  · rw [if_neg (by omega), if_neg (by omega), if_pos e, if_pos e]
/-- the first of two parts has been read -/
theorem close_1 {T : St} {j m : Nat} {c : Int} (hj : j < 10) (ec : T.A 54 j = c) (hc : isB c) (e56 : T.A 56 j = 0) : g113L7 (m + 1) ((j + 1 : Nat) : Int) T = some (.inr (((j + 1 : Nat) : Int), (T.a 56 j 1).a 57 j (T.F 36 42))) := by
  rw [g113L7]
  refine (gd_t (by first | exact ⟨by omega, by omega⟩ | exact ⟨by omega, by omega, by omega⟩ | exact ⟨by omega, by omega, by omega, by omega⟩ | omega | exact inR_to _ | assumption | decide)).trans ?_
  rw [if_pos (by omega)]
  refine (gd_t (by first | exact ⟨by omega, by omega⟩ | exact ⟨by omega, by omega, by omega⟩ | exact ⟨by omega, by omega, by omega, by omega⟩ | omega | exact inR_to _ | assumption | decide)).trans ?_
  rw [show ((j + 1 : Nat) : Int) - 1 = j by omega, ec, if_neg (by rcases hc with e | e | e <;> omega), if_neg (by rcases hc with e | e | e <;> omega), if_neg (by rcases hc with e | e | e <;> omega), if_pos e56]
/-- the signs that stand open, and the rows of their first parts -/
def SI (T : St) : Nat → Int → Prop
  | 0, top => top = 0
  | j + 1, top => b1R (T.A 55 j) ∧ ((isU (T.A 54 j) ∧ SI T j top) ∨ (isB (T.A 54 j) ∧ T.A 56 j = 0 ∧ SI T j top) ∨ (isB (T.A 54 j) ∧ T.A 56 j = 1 ∧ ∃ R1 : List (List Int), sml R1 ∧ T.A 57 j = R1.length ∧ MR (T.A 58) (T.A 59) (top - R1.length) R1 ∧ SI T j (top - R1.length)))
theorem SI_le {T : St} : ∀ (j : Nat) (top : Int), SI T j top → 0 ≤ top ∧ top ≤ 16 * j
  | 0, top, h => by
    have h : top = 0 := h
    omega
  | j + 1, top, h => by
    rcases h.2 with ⟨_, h⟩ | ⟨_, _, h⟩ | ⟨_, _, R1, h1, h2, h3, h⟩
    · have := SI_le j top h; omega
    · have := SI_le j top h; omega
    · have := SI_le j _ h
      have := h1.1
      omega
theorem SI.fr {T T' : St} : ∀ (j : Nat) (top : Int), SI T j top → (∀ i : Int, i < j → T'.A 54 i = T.A 54 i ∧ T'.A 55 i = T.A 55 i ∧ T'.A 56 i = T.A 56 i ∧ T'.A 57 i = T.A 57 i) → RLo top T T' → SI T' j top
  | 0, top, h, _, _ => h
  | j + 1, top, h, ha, hr => by
    obtain ⟨e1, e2, e3, e4⟩ := ha j (by omega)
    have ha' : ∀ i : Int, i < j → T'.A 54 i = T.A 54 i ∧ T'.A 55 i = T.A 55 i ∧ T'.A 56 i = T.A 56 i ∧ T'.A 57 i = T.A 57 i := fun i hi => ha i (by omega)
    refine ⟨by rw [e2]; exact h.1, ?_⟩
    rw [e1, e3, e4]
    rcases h.2 with ⟨h1, h⟩ | ⟨h1, h2, h⟩ | ⟨h1, h2, R1, h3, h4, h5, h⟩
    · exact Or.inl ⟨h1, SI.fr j top h ha' hr⟩
    · exact Or.inr (Or.inl ⟨h1, h2, SI.fr j top h ha' hr⟩)
    · exact Or.inr (Or.inr ⟨h1, h2, R1, h3, h4, hr.MR h3 (by omega) h5, SI.fr j _ h ha' ⟨fun i hi => hr.1 i (by omega), fun q hq => hr.2 q (by omega)⟩⟩)
/-- a flagged state closes whatever stands open -/
theorem close_f : ∀ (j m : Nat) (T : St), j ≤ 10 → j < m → T.F 36 36 = 1 → ∃ (v : Int) (T' : St), (g113L7 m j T = some (.inl (v, T')) ∨ g113L7 m j T = some (.inr (v, T'))) ∧ 0 ≤ v ∧ v ≤ 10 ∧ Fx [56, 57, 58, 59] [30, 36, 42, 43] T T' := by
  intro j
  induction j with
  | zero =>
    intro m T _ hm hf
    obtain ⟨m, rfl⟩ : ∃ k, m = k + 1 := ⟨m - 1, by omega⟩
    refine ⟨0, T, Or.inl ?_, by omega, by omega, Fx.refl _ _ _⟩
    rw [g113L7]
    refine (gd_t (by first | exact ⟨by omega, by omega⟩ | exact ⟨by omega, by omega, by omega⟩ | exact ⟨by omega, by omega, by omega, by omega⟩ | omega | exact inR_to _ | assumption | decide)).trans ?_
    rw [if_neg (by omega)]
    rfl
  | succ j ih =>
    intro m T hj hm hf
    obtain ⟨m, rfl⟩ : ∃ k, m = k + 1 := ⟨m - 1, by omega⟩
    have nf : ¬ T.F 36 36 = 0 := by rw [hf]; decide
    have go : ∀ U : St, U.F 36 36 = 1 → Fx [56, 57, 58, 59] [30, 36, 42, 43] T U → g113L7 (m + 1) ((j + 1 : Nat) : Int) T = g113L7 m j U → ∃ (v : Int) (T' : St), (g113L7 (m + 1) ((j + 1 : Nat) : Int) T = some (.inl (v, T')) ∨ g113L7 (m + 1) ((j + 1 : Nat) : Int) T = some (.inr (v, T'))) ∧ 0 ≤ v ∧ v ≤ 10 ∧ Fx [56, 57, 58, 59] [30, 36, 42, 43] T T' := fun U hU fU e => by
      obtain ⟨v, T', h1, h2, h3, h4⟩ := ih m U (by omega) (by omega) hU
      rw [e]
      exact ⟨v, T', h1, h2, h3, fU.trans h4⟩
    have e30 : (T.f 36 30 (T.F 36 30 - 1)).F 36 36 = 1 := by
      show ((if (36 : Nat) = 36 then (fun b => if b = 30 then eI (T.F 36 30 - 1) else T.F0 36 b) else T.F0 36) 36).toInt = 1
      rw [if_pos rfl]
      exact hf
    have e42 : ∀ x, (T.f 36 42 x).F 36 36 = 1 := fun x => by
      show ((if (36 : Nat) = 36 then (fun b => if b = 42 then eI x else T.F0 36 b) else T.F0 36) 36).toInt = 1
      rw [if_pos rfl]
      exact hf
    have hu : g113L7 (m + 1) ((j + 1 : Nat) : Int) T = if T.A 54 j = 33 then g113L7 m j (T.f 36 30 (T.F 36 30 - 1)) else if T.A 54 j = 63 then g113L7 m j (T.f 36 30 (T.F 36 30 - 1)) else if T.A 54 j = 126 then g113L7 m j T else if T.A 56 j = 0 then some (.inr (((j + 1 : Nat) : Int), (T.a 56 j 1).a 57 j (T.F 36 42))) else if T.A 54 j = 38 then (if 1 = T.A 55 j then g113L7 m j (T.f 36 42 0) else g113L7 m j ((T.f 36 42 (T.A 57 j + T.F 36 42)).f 36 36 1)) else if 0 = T.A 55 j then g113L7 m j (T.f 36 42 0) else g113L7 m j ((T.f 36 42 (T.A 57 j + T.F 36 42)).f 36 36 1) := by
      rw [g113L7]
      refine (gd_t (by first | exact ⟨by omega, by omega⟩ | exact ⟨by omega, by omega, by omega⟩ | exact ⟨by omega, by omega, by omega, by omega⟩ | omega | exact inR_to _ | assumption | decide)).trans ?_
      rw [if_pos (by omega)]
      refine (gd_t (by first | exact ⟨by omega, by omega⟩ | exact ⟨by omega, by omega, by omega⟩ | exact ⟨by omega, by omega, by omega, by omega⟩ | omega | exact inR_to _ | assumption | decide)).trans ?_
      rw [show ((j + 1 : Nat) : Int) - 1 = j by omega, show ((j + 1 : Nat) : Int) + -1 = j by omega, if_neg nf, if_neg nf]
    have e36 : ((T.f 36 42 (T.A 57 j + T.F 36 42)).f 36 36 1).F 36 36 = 1 := by rw [f_F (by decide), if_pos rfl, if_pos rfl]
    have fs : Fx [56, 57, 58, 59] [30, 36, 42, 43] T ((T.f 36 42 (T.A 57 j + T.F 36 42)).f 36 36 1) := (Fx.f T (by decide) _).trans (Fx.f _ (by decide) _)
    by_cases h1 : T.A 54 j = 33
    · exact go _ e30 (Fx.f T (by decide) _) (by rw [hu, if_pos h1])
    · by_cases h2 : T.A 54 j = 63
      · exact go _ e30 (Fx.f T (by decide) _) (by rw [hu, if_neg h1, if_pos h2])
      · by_cases h3 : T.A 54 j = 126
        · exact go T hf (Fx.refl _ _ _) (by rw [hu, if_neg h1, if_neg h2, if_pos h3])
        · by_cases h4 : T.A 56 j = 0
          · exact ⟨((j + 1 : Nat) : Int), _, Or.inr (by rw [hu, if_neg h1, if_neg h2, if_neg h3, if_pos h4]), by omega, by omega, (Fx.a T (by decide) (by decide) _ _).trans (Fx.a _ (by decide) (by decide) _ _)⟩
          · by_cases h5 : T.A 54 j = 38
            · by_cases h6 : 1 = T.A 55 j
              · exact go _ (e42 0) (Fx.f T (by decide) _) (by rw [hu, if_neg h1, if_neg h2, if_neg h3, if_neg h4, if_pos h5, if_pos h6])
              · exact go _ e36 fs (by rw [hu, if_neg h1, if_neg h2, if_neg h3, if_neg h4, if_pos h5, if_neg h6])
            · by_cases h6 : 0 = T.A 55 j
              · exact go _ (e42 0) (Fx.f T (by decide) _) (by rw [hu, if_neg h1, if_neg h2, if_neg h3, if_neg h4, if_neg h5, if_pos h6])
              · exact go _ e36 fs (by rw [hu, if_neg h1, if_neg h2, if_neg h3, if_neg h4, if_neg h5, if_neg h6])
/-- whatever stands open can be closed, or goes on -/
theorem close_a : ∀ (j m : Nat) (T : St) (top : Int) (R : List (List Int)), j ≤ 10 → j < m → T.F 36 36 = 0 → SI T j top → CU T top R → ∃ (v : Int) (T' : St), (g113L7 m j T = some (.inl (v, T')) ∨ g113L7 m j T = some (.inr (v, T'))) ∧ 0 ≤ v ∧ v ≤ 10 ∧ Fx [56, 57, 58, 59] [30, 36, 42, 43] T T' := by
  intro j
  induction j with
  | zero =>
    intro m T top R _ hm hf hS hc
    obtain ⟨m, rfl⟩ : ∃ k, m = k + 1 := ⟨m - 1, by omega⟩
    refine ⟨0, T, Or.inl ?_, by omega, by omega, Fx.refl _ _ _⟩
    rw [g113L7]
    refine (gd_t (by first | exact ⟨by omega, by omega⟩ | exact ⟨by omega, by omega, by omega⟩ | exact ⟨by omega, by omega, by omega, by omega⟩ | omega | exact inR_to _ | assumption | decide)).trans ?_
    rw [if_neg (by omega)]
    rfl
  | succ j ih =>
    intro m T top R hj hm hf hS hc
    obtain ⟨m, rfl⟩ : ∃ k, m = k + 1 := ⟨m - 1, by omega⟩
    have hle := SI_le (j + 1) top hS
    rcases hS.2 with ⟨h1, h⟩ | ⟨h1, h2, h⟩ | ⟨h1, h2, R1, h3, h4, h5, h⟩
    · rw [close_u (by omega) rfl h1]
      have hh : ∀ U : St, U.A = T.A → (∀ i, i ≠ 30 → U.F 36 i = T.F 36 i) → Fx [56, 57, 58, 59] [30, 36, 42, 43] T U → ∃ (v : Int) (T' : St), (g113L7 m j U = some (.inl (v, T')) ∨ g113L7 m j U = some (.inr (v, T'))) ∧ 0 ≤ v ∧ v ≤ 10 ∧ Fx [56, 57, 58, 59] [30, 36, 42, 43] T T' := fun U hA hF fU => by
        obtain ⟨v, T', q1, q2, q3, q4⟩ := ih m U top R (by omega) (by omega) (by rw [hF 36 (by decide)]; exact hf) (SI.fr j top h (fun i _ => by rw [hA]; exact ⟨rfl, rfl, rfl, rfl⟩) ⟨fun i _ => by rw [hA], fun q _ => by rw [hA]⟩) (by
          intro h0
          rw [hF 36 (by decide)] at h0
          rw [hF 42 (by decide), hF 43 (by decide), hA]
          exact hc h0)
        exact ⟨v, T', q1, q2, q3, fU.trans q4⟩
      by_cases h126 : T.A 54 j = 126
      · rw [if_pos h126]
        exact hh T rfl (fun _ _ => rfl) (Fx.refl _ _ _)
      · rw [if_neg h126]
        refine hh (T.f 36 30 (T.F 36 30 - 1)) rfl (fun i hi => ?_) (Fx.f T (by decide) _)
        show ((if (36 : Nat) = 36 then (fun b => if b = 30 then eI (T.F 36 30 - 1) else T.F0 36 b) else T.F0 36) i).toInt = _
        rw [if_pos rfl]
        show (if i = 30 then _ else T.F0 36 i).toInt = _
        rw [if_neg hi]
        rfl
    · exact ⟨((j + 1 : Nat) : Int), _, Or.inr (close_1 (by omega) rfl h1 h2), by omega, by omega, (Fx.a T (by decide) (by decide) _ _).trans (Fx.a _ (by decide) (by decide) _ _)⟩
    · have hle2 := SI_le j _ h
      obtain ⟨T1, q1, q2, q3, q4, q5, q6, q7⟩ := close_b (T := T) (j := j) (m := m) (b := top - R1.length) (R1 := R1) (R2 := R) (by omega) rfl h1 rfl hS.1 h2 hle2.1 (by omega) (Or.inl hf) (fun _ => ⟨h4, h3, h5⟩) (by rw [show top - (R1.length : Int) + R1.length = top by omega]; exact hc)
      rw [q1]
      have fx : Fx [56, 57, 58, 59] [30, 36, 42, 43] T T1 := q2.mono (by decide) (by decide)
      rcases q4 with h0 | h0
      · obtain ⟨v, T', p1, p2, p3, p4⟩ := ih m T1 _ _ (by omega) (by omega) h0 (SI.fr j _ h (fun i _ => by rw [q2.A (by decide) (by decide), q2.A (show 55 ∉ [58, 59] by decide) (by decide), q2.A (show 56 ∉ [58, 59] by decide) (by decide), q2.A (show 57 ∉ [58, 59] by decide) (by decide)]; exact ⟨rfl, rfl, rfl, rfl⟩) q3) q5
        exact ⟨v, T', p1, p2, p3, fx.trans p4⟩
      · obtain ⟨v, T', p1, p2, p3, p4⟩ := close_f j m T1 (by omega) (by omega) h0
        exact ⟨v, T', p1, p2, p3, fx.trans p4⟩
