/-! literals as lists of codes -/
def gI (l : List Int) (p : Int) : Int := l.getD p.toNat 0
def os (a : List (List Int)) (k : Int) : Int := ((a.take k.toNat).flatten.length : Int)
/-- the k-th literal -/
def lt (a : List (List Int)) (k : Int) : List Int := a.getD k.toNat []
theorem gI_l {a b : List Int} {p : Int} (h : p < a.length) (h0 : 0 ≤ p) : gI (a ++ b) p = gI a p := gD_l (by omega)
theorem gI_r {a b : List Int} {p : Int} (h : a.length ≤ p) : gI (a ++ b) p = gI b (p - a.length) := by
  unfold gI
  rw [gD_r (by omega), show p.toNat - a.length = (p - a.length).toNat by omega]
theorem os_0 (a : List (List Int)) : os a 0 = 0 := rfl
theorem os_n (a : List (List Int)) : os a a.length = a.flatten.length := by
  unfold os
  rw [show ((a.length : Nat) : Int).toNat = a.length by omega, List.take_length]
theorem os_s {a : List (List Int)} {k : Int} (h0 : 0 ≤ k) (h1 : k < a.length) : os a (k + 1) = os a k + (lt a k).length := by
  unfold os lt
  rw [show (k + 1).toNat = k.toNat + 1 by omega, List.take_add_one, List.flatten_append, List.length_append, List.getElem?_eq_getElem (by omega : k.toNat < a.length), List.getD_eq_getElem?_getD, List.getElem?_eq_getElem (by omega : k.toNat < a.length)]
  simp
theorem os_m (a : List (List Int)) : ∀ (d : Nat) (k : Int), 0 ≤ k → k + d ≤ a.length → os a k ≤ os a (k + d)
  | 0, k, _, _ => by rw [show k + ((0 : Nat) : Int) = k by omega]; exact Int.le_refl _
  | d + 1, k, h0, h1 => by
    have e1 := os_m a d k h0 (by omega)
    have e2 := os_s (a := a) (k := k + d) (by omega) (by omega)
    rw [show k + ((d + 1 : Nat) : Int) = k + d + 1 by omega]
    omega
theorem os_le {a : List (List Int)} {k : Int} (h0 : 0 ≤ k) (h1 : k ≤ a.length) : 0 ≤ os a k ∧ os a k ≤ a.flatten.length := by
  have := os_m a (a.length - k.toNat) k h0 (by omega)
  rw [show k + ((a.length - k.toNat : Nat) : Int) = a.length by omega, os_n] at this
  exact ⟨by unfold os; omega, this⟩
theorem fl_at : ∀ (a : List (List Int)) (k j : Nat), k < a.length → j < (a.getD k []).length → a.flatten.getD ((a.take k).flatten.length + j) 0 = (a.getD k []).getD j 0
  | [], _, _, h, _ => absurd h (Nat.not_lt_zero _)
  | b :: a, 0, j, _, hj => by
    show (b ++ a.flatten).getD (0 + j) 0 = b.getD j 0
    rw [Nat.zero_add]
    exact gD_l hj
  | b :: a, k + 1, j, hk, hj => by
    have ih := fl_at a k j (by simpa using hk) hj
    show (b ++ a.flatten).getD ((b ++ (a.take k).flatten).length + j) 0 = (a.getD k []).getD j 0
    rw [← ih, List.length_append, gD_r (by omega), show b.length + (a.take k).flatten.length + j - b.length = (a.take k).flatten.length + j by omega]
theorem lt_at {a : List (List Int)} {k j : Int} (h0 : 0 ≤ k) (h1 : k < a.length) (j0 : 0 ≤ j) (j1 : j < (lt a k).length) : gI a.flatten (os a k + j) = gI (lt a k) j := by
  have := fl_at a k.toNat j.toNat (by omega) (by show j.toNat < (lt a k).length; omega)
  unfold gI os
  rw [show (((a.take k.toNat).flatten.length : Int) + j).toNat = (a.take k.toNat).flatten.length + j.toNat by omega]
  exact this
theorem os_app {a : List (List Int)} {w : List Int} {k : Int} (h1 : k ≤ a.length) : os (a ++ [w]) k = os a k := by
  unfold os
  rw [List.take_append_of_le_length (by omega)]
theorem os_app1 {a : List (List Int)} {w : List Int} : os (a ++ [w]) (a.length + 1) = a.flatten.length + w.length := by
  have e := os_n (a ++ [w])
  rw [show ((a ++ [w]).length : Int) = a.length + 1 by rw [List.length_append]; rfl, List.flatten_append, List.length_append] at e
  rw [e]
  simp
theorem lt_mem {a : List (List Int)} {k : Int} (h0 : 0 ≤ k) (h1 : k < a.length) : lt a k ∈ a := by
  unfold lt
  rw [List.getD_eq_getElem?_getD, List.getElem?_eq_getElem (by omega : k.toNat < a.length)]
  exact List.getElem_mem _
theorem mem_lt {a : List (List Int)} {w : List Int} (h : w ∈ a) : ∃ k : Int, 0 ≤ k ∧ k < a.length ∧ lt a k = w := by
  obtain ⟨i, hi, e⟩ := List.mem_iff_getElem.mp h
  refine ⟨i, by omega, by omega, ?_⟩
  unfold lt
  rw [List.getD_eq_getElem?_getD, show ((i : Nat) : Int).toNat = i by omega, List.getElem?_eq_getElem hi]
  exact e
theorem gI_ext {a b : List Int} (h : a.length = b.length) (hx : ∀ j : Int, 0 ≤ j → j < a.length → gI a j = gI b j) : a = b := by
  apply List.ext_getElem h
  intro i h1 h2
  have := hx i (by omega) (by omega)
  unfold gI at this
  rw [show ((i : Nat) : Int).toNat = i by omega, List.getD_eq_getElem?_getD, List.getD_eq_getElem?_getD, List.getElem?_eq_getElem h1, List.getElem?_eq_getElem h2] at this
  exact this
theorem gI_one (x : Int) : gI [x] 0 = x := rfl
/-- a literal more -/
def stp (a : Option (List (List Int))) (w : List Int) : Option (List (List Int)) := match a with
  | none => none
  | some a => if 16 < w.length then none else if w ∈ a then some a else if a.length < 4 then some (a ++ [w]) else none
/-- the draft: what keeps it safe -/
def SF_15 (S : St) : Prop := 0 ≤ S.F 16 2 ∧ S.F 16 2 ≤ 4 ∧ 0 ≤ S.F 16 3 ∧ S.F 16 3 ≤ 16 * S.F 16 2 ∧ S.F 16 3 ≤ S.F 15 2 ∧ S.F 15 2 ≤ S.F 16 3 + 16 ∧ (∀ k : Int, 0 ≤ k → k ≤ S.F 16 2 → 0 ≤ S.A 18 k ∧ S.A 18 k ≤ 64) ∧ ∀ p : Int, 0 ≤ p → p < S.F 15 2 → 0 ≤ S.A 17 p
def KE_15 (S : St) (n : Int) (o u : Int → Int) : Prop := S.F 16 2 = n ∧ S.F 16 3 = o n ∧ (∀ k : Int, 0 ≤ k → k ≤ n → S.A 18 k = o k) ∧ ∀ p : Int, 0 ≤ p → p < o n → S.A 17 p = u p
/-- what the draft holds: the literals a, and behind them the symbols w -/
def CP_15 (S : St) (a : Option (List (List Int))) (w : List Int) : Prop := SF_15 S ∧ match a with
  | none => S.F 15 3 = 1
  | some a => if 16 < w.length then S.F 15 3 = 1 else S.F 15 3 = 0 ∧ KE_15 S a.length (os a) (gI a.flatten) ∧ S.F 15 2 = a.flatten.length + w.length ∧ ∀ i : Int, 0 ≤ i → i < w.length → S.A 17 (a.flatten.length + i) = gI w i
theorem begin_15 (S : St) : ∃ T, g41_15 S = some T ∧ Fr [15, 16, 17, 18] S T ∧ CP_15 T (some []) [] := by
  refine ⟨_, rfl, ((((Fr.f (by decide)).trans (Fr.f (by decide))).trans (Fr.a (by decide))).trans (Fr.f (by decide))).trans (Fr.f (by decide)), ?_⟩
  have z : ∀ x : Int, inR x → (eI x).toInt = x := fun x h => eI_to h
  have e1 : (((((S.f 16 2 0).f 16 3 0).a 18 0 0).f 15 2 0).f 15 3 0).F 16 2 = 0 := show (eI 0).toInt = 0 from z 0 (by decide)
  have e2 : (((((S.f 16 2 0).f 16 3 0).a 18 0 0).f 15 2 0).f 15 3 0).F 16 3 = 0 := show (eI 0).toInt = 0 from z 0 (by decide)
  have e3 : (((((S.f 16 2 0).f 16 3 0).a 18 0 0).f 15 2 0).f 15 3 0).F 15 2 = 0 := show (eI 0).toInt = 0 from z 0 (by decide)
  have e4 : (((((S.f 16 2 0).f 16 3 0).a 18 0 0).f 15 2 0).f 15 3 0).F 15 3 = 0 := show (eI 0).toInt = 0 from z 0 (by decide)
  have e5 : (((((S.f 16 2 0).f 16 3 0).a 18 0 0).f 15 2 0).f 15 3 0).A 18 0 = 0 := show (eI 0).toInt = 0 from z 0 (by decide)
  refine ⟨⟨by omega, by omega, by omega, by omega, by omega, by omega, fun k k0 k1 => ?_, fun p p0 p1 => absurd p1 (by omega)⟩, ?_⟩
  · rw [show k = 0 by omega, e5]
    decide
  · refine ⟨e4, ⟨e1, e2, fun k k0 k1 => ?_, fun p p0 p1 => absurd p1 (by rw [show os [] ((List.length ([] : List (List Int)) : Nat) : Int) = 0 from rfl]; omega)⟩, e3, fun i i0 i1 => absurd i1 (by show ¬ i < ((0 : Nat) : Int); omega)⟩
    have : k = 0 := by
      have : k ≤ ((0 : Nat) : Int) := k1
      omega
    rw [this, e5]
    rfl
theorem put_15 {S : St} {a : Option (List (List Int))} {w : List Int} {x : Int} (h : CP_15 S a w) (hx : 0 ≤ x) (hx2 : inR x) : ∃ T, g44_15 S x = some T ∧ Fr [15, 16, 17, 18] S T ∧ CP_15 T a (w ++ [x]) := by
  obtain ⟨⟨s1, s2, s3, s4, s5, s6, s7, s8⟩, h⟩ := h
  have ew : (w ++ [x]).length = w.length + 1 := by rw [List.length_append]; rfl
  have lim : ∀ b, a = some b → ¬ 16 < w.length → S.F 15 2 - S.F 16 3 = w.length := by
    intro b hb hw
    subst hb
    have h : if 16 < w.length then S.F 15 3 = 1 else S.F 15 3 = 0 ∧ KE_15 S b.length (os b) (gI b.flatten) ∧ S.F 15 2 = b.flatten.length + w.length ∧ ∀ i : Int, 0 ≤ i → i < w.length → S.A 17 (b.flatten.length + i) = gI w i := h
    rw [if_neg hw] at h
    obtain ⟨q1, q2, q3, q4⟩ := h
    rw [q2.2.1, q3, os_n]
    omega
  by_cases hl : S.F 15 2 - S.F 16 3 < 16
  · have e : g44_15 S x = some ((S.a 17 (S.F 15 2) x).f 15 2 (S.F 15 2 + 1)) := by
      unfold g44_15
      refine (gd_t (by first | exact ⟨by omega, by omega⟩ | exact ⟨by omega, by omega, by omega⟩ | exact ⟨by omega, by omega, by omega, by omega⟩ | omega | exact inR_to _ | assumption | decide)).trans ?_
      rw [if_pos hl]
      refine (gd_t (by first | exact ⟨by omega, by omega⟩ | exact ⟨by omega, by omega, by omega⟩ | exact ⟨by omega, by omega, by omega, by omega⟩ | omega | exact inR_to _ | assumption | decide)).trans ?_
      rfl
    refine ⟨_, e, (Fr.a (by decide)).trans (Fr.f (by decide)), ?_⟩
    have e1 : ((S.a 17 (S.F 15 2) x).f 15 2 (S.F 15 2 + 1)).F 15 2 = S.F 15 2 + 1 := (f_F (by omega)).trans (by rw [if_pos rfl, if_pos rfl])
    have e2 : ((S.a 17 (S.F 15 2) x).f 15 2 (S.F 15 2 + 1)).A 17 = upI (S.A 17) (S.F 15 2) x := aA_up hx2
    refine ⟨⟨s1, s2, s3, s4, by rw [e1]; show S.F 16 3 ≤ _; omega, by rw [e1]; show _ ≤ S.F 16 3 + 16; omega, s7, fun p p0 p1 => ?_⟩, ?_⟩
    · rw [e1] at p1
      rw [e2]
      show 0 ≤ (if p = _ then x else S.A 17 p)
      split
      · exact hx
      · exact s8 p p0 (by omega)
    · match a, h, lim with
      | none, h, _ => exact h
      | some b, h, lim =>
        show if 16 < (w ++ [x]).length then S.F 15 3 = 1 else S.F 15 3 = 0 ∧ KE_15 ((S.a 17 (S.F 15 2) x).f 15 2 (S.F 15 2 + 1)) b.length (os b) (gI b.flatten) ∧ ((S.a 17 (S.F 15 2) x).f 15 2 (S.F 15 2 + 1)).F 15 2 = b.flatten.length + (w ++ [x]).length ∧ ∀ i : Int, 0 ≤ i → i < (w ++ [x]).length → ((S.a 17 (S.F 15 2) x).f 15 2 (S.F 15 2 + 1)).A 17 (b.flatten.length + i) = gI (w ++ [x]) i
        have h : if 16 < w.length then S.F 15 3 = 1 else S.F 15 3 = 0 ∧ KE_15 S b.length (os b) (gI b.flatten) ∧ S.F 15 2 = b.flatten.length + w.length ∧ ∀ i : Int, 0 ≤ i → i < w.length → S.A 17 (b.flatten.length + i) = gI w i := h
        by_cases hw : 16 < w.length
        · rw [if_pos hw] at h
          rw [if_pos (by omega)]
          exact h
        · have hm := lim b rfl hw
          rw [if_neg hw] at h
          rw [if_neg (by omega), e1, e2]
          obtain ⟨q1, ⟨q2, q3, q4, q5⟩, q6, q7⟩ := h
          refine ⟨q1, ⟨q2, q3, q4, fun p p0 p1 => ?_⟩, by omega, fun i i0 i1 => ?_⟩
          · rw [e2]
            rw [os_n] at p1
            show (if p = _ then x else S.A 17 p) = _
            rw [if_neg (by omega)]
            exact q5 p p0 (by rw [os_n]; exact p1)
          · show (if (b.flatten.length + i : Int) = _ then x else S.A 17 (b.flatten.length + i)) = _
            by_cases hi : i = w.length
            · rw [if_pos (by omega), hi, gI_r (by omega), show ((w.length : Int) - w.length) = 0 by omega]
              rfl
            · rw [if_neg (by omega), gI_l (by omega) i0]
              exact q7 i i0 (by omega)
  · have e : g44_15 S x = some (S.f 15 3 1) := by
      unfold g44_15
      refine (gd_t (by first | exact ⟨by omega, by omega⟩ | exact ⟨by omega, by omega, by omega⟩ | exact ⟨by omega, by omega, by omega, by omega⟩ | omega | exact inR_to _ | assumption | decide)).trans ?_
      rw [if_neg hl]
    refine ⟨_, e, Fr.f (by decide), ?_⟩
    have e1 : (S.f 15 3 1).F 15 3 = 1 := (f_F (by decide)).trans (by rw [if_pos rfl, if_pos rfl])
    have e2 : (S.f 15 3 1).F 15 2 = S.F 15 2 := (f_F (by decide)).trans (by rw [if_pos rfl, if_neg (by decide)])
    refine ⟨⟨s1, s2, s3, s4, by rw [e2]; exact s5, by rw [e2]; exact s6, s7, fun p p0 p1 => s8 p p0 (by rw [e2] at p1; exact p1)⟩, ?_⟩
    match a, h, lim with
    | none, h, _ => exact e1
    | some b, h, lim =>
      show if 16 < (w ++ [x]).length then (S.f 15 3 1).F 15 3 = 1 else _
      have : 16 ≤ w.length := by
        by_cases hw : 16 < w.length
        · omega
        · have := lim b rfl hw
          omega
      rw [if_pos (by omega)]
      exact e1
/-- the draft: what keeps it safe -/
def SF_30 (S : St) : Prop := 0 ≤ S.F 31 2 ∧ S.F 31 2 ≤ 4 ∧ 0 ≤ S.F 31 3 ∧ S.F 31 3 ≤ 16 * S.F 31 2 ∧ S.F 31 3 ≤ S.F 30 2 ∧ S.F 30 2 ≤ S.F 31 3 + 16 ∧ (∀ k : Int, 0 ≤ k → k ≤ S.F 31 2 → 0 ≤ S.A 33 k ∧ S.A 33 k ≤ 64) ∧ ∀ p : Int, 0 ≤ p → p < S.F 30 2 → 0 ≤ S.A 32 p
def KE_30 (S : St) (n : Int) (o u : Int → Int) : Prop := S.F 31 2 = n ∧ S.F 31 3 = o n ∧ (∀ k : Int, 0 ≤ k → k ≤ n → S.A 33 k = o k) ∧ ∀ p : Int, 0 ≤ p → p < o n → S.A 32 p = u p
/-- what the draft holds: the literals a, and behind them the symbols w -/
def CP_30 (S : St) (a : Option (List (List Int))) (w : List Int) : Prop := SF_30 S ∧ match a with
  | none => S.F 30 3 = 1
  | some a => if 16 < w.length then S.F 30 3 = 1 else S.F 30 3 = 0 ∧ KE_30 S a.length (os a) (gI a.flatten) ∧ S.F 30 2 = a.flatten.length + w.length ∧ ∀ i : Int, 0 ≤ i → i < w.length → S.A 32 (a.flatten.length + i) = gI w i
theorem begin_30 (S : St) : ∃ T, g41_30 S = some T ∧ Fr [30, 31, 32, 33] S T ∧ CP_30 T (some []) [] := by
  refine ⟨_, rfl, ((((Fr.f (by decide)).trans (Fr.f (by decide))).trans (Fr.a (by decide))).trans (Fr.f (by decide))).trans (Fr.f (by decide)), ?_⟩
  have z : ∀ x : Int, inR x → (eI x).toInt = x := fun x h => eI_to h
  have e1 : (((((S.f 31 2 0).f 31 3 0).a 33 0 0).f 30 2 0).f 30 3 0).F 31 2 = 0 := show (eI 0).toInt = 0 from z 0 (by decide)
  have e2 : (((((S.f 31 2 0).f 31 3 0).a 33 0 0).f 30 2 0).f 30 3 0).F 31 3 = 0 := show (eI 0).toInt = 0 from z 0 (by decide)
  have e3 : (((((S.f 31 2 0).f 31 3 0).a 33 0 0).f 30 2 0).f 30 3 0).F 30 2 = 0 := show (eI 0).toInt = 0 from z 0 (by decide)
  have e4 : (((((S.f 31 2 0).f 31 3 0).a 33 0 0).f 30 2 0).f 30 3 0).F 30 3 = 0 := show (eI 0).toInt = 0 from z 0 (by decide)
  have e5 : (((((S.f 31 2 0).f 31 3 0).a 33 0 0).f 30 2 0).f 30 3 0).A 33 0 = 0 := show (eI 0).toInt = 0 from z 0 (by decide)
  refine ⟨⟨by omega, by omega, by omega, by omega, by omega, by omega, fun k k0 k1 => ?_, fun p p0 p1 => absurd p1 (by omega)⟩, ?_⟩
  · rw [show k = 0 by omega, e5]
    decide
  · refine ⟨e4, ⟨e1, e2, fun k k0 k1 => ?_, fun p p0 p1 => absurd p1 (by rw [show os [] ((List.length ([] : List (List Int)) : Nat) : Int) = 0 from rfl]; omega)⟩, e3, fun i i0 i1 => absurd i1 (by show ¬ i < ((0 : Nat) : Int); omega)⟩
    have : k = 0 := by
      have : k ≤ ((0 : Nat) : Int) := k1
      omega
    rw [this, e5]
    rfl
theorem put_30 {S : St} {a : Option (List (List Int))} {w : List Int} {x : Int} (h : CP_30 S a w) (hx : 0 ≤ x) (hx2 : inR x) : ∃ T, g44_30 S x = some T ∧ Fr [30, 31, 32, 33] S T ∧ CP_30 T a (w ++ [x]) := by
  obtain ⟨⟨s1, s2, s3, s4, s5, s6, s7, s8⟩, h⟩ := h
  have ew : (w ++ [x]).length = w.length + 1 := by rw [List.length_append]; rfl
  have lim : ∀ b, a = some b → ¬ 16 < w.length → S.F 30 2 - S.F 31 3 = w.length := by
    intro b hb hw
    subst hb
    have h : if 16 < w.length then S.F 30 3 = 1 else S.F 30 3 = 0 ∧ KE_30 S b.length (os b) (gI b.flatten) ∧ S.F 30 2 = b.flatten.length + w.length ∧ ∀ i : Int, 0 ≤ i → i < w.length → S.A 32 (b.flatten.length + i) = gI w i := h
    rw [if_neg hw] at h
    obtain ⟨q1, q2, q3, q4⟩ := h
    rw [q2.2.1, q3, os_n]
    omega
  by_cases hl : S.F 30 2 - S.F 31 3 < 16
  · have e : g44_30 S x = some ((S.a 32 (S.F 30 2) x).f 30 2 (S.F 30 2 + 1)) := by
      unfold g44_30
      refine (gd_t (by first | exact ⟨by omega, by omega⟩ | exact ⟨by omega, by omega, by omega⟩ | exact ⟨by omega, by omega, by omega, by omega⟩ | omega | exact inR_to _ | assumption | decide)).trans ?_
      rw [if_pos hl]
      refine (gd_t (by first | exact ⟨by omega, by omega⟩ | exact ⟨by omega, by omega, by omega⟩ | exact ⟨by omega, by omega, by omega, by omega⟩ | omega | exact inR_to _ | assumption | decide)).trans ?_
      rfl
    refine ⟨_, e, (Fr.a (by decide)).trans (Fr.f (by decide)), ?_⟩
    have e1 : ((S.a 32 (S.F 30 2) x).f 30 2 (S.F 30 2 + 1)).F 30 2 = S.F 30 2 + 1 := (f_F (by omega)).trans (by rw [if_pos rfl, if_pos rfl])
    have e2 : ((S.a 32 (S.F 30 2) x).f 30 2 (S.F 30 2 + 1)).A 32 = upI (S.A 32) (S.F 30 2) x := aA_up hx2
    refine ⟨⟨s1, s2, s3, s4, by rw [e1]; show S.F 31 3 ≤ _; omega, by rw [e1]; show _ ≤ S.F 31 3 + 16; omega, s7, fun p p0 p1 => ?_⟩, ?_⟩
    · rw [e1] at p1
      rw [e2]
      show 0 ≤ (if p = _ then x else S.A 32 p)
      split
      · exact hx
      · exact s8 p p0 (by omega)
    · match a, h, lim with
      | none, h, _ => exact h
      | some b, h, lim =>
        show if 16 < (w ++ [x]).length then S.F 30 3 = 1 else S.F 30 3 = 0 ∧ KE_30 ((S.a 32 (S.F 30 2) x).f 30 2 (S.F 30 2 + 1)) b.length (os b) (gI b.flatten) ∧ ((S.a 32 (S.F 30 2) x).f 30 2 (S.F 30 2 + 1)).F 30 2 = b.flatten.length + (w ++ [x]).length ∧ ∀ i : Int, 0 ≤ i → i < (w ++ [x]).length → ((S.a 32 (S.F 30 2) x).f 30 2 (S.F 30 2 + 1)).A 32 (b.flatten.length + i) = gI (w ++ [x]) i
        have h : if 16 < w.length then S.F 30 3 = 1 else S.F 30 3 = 0 ∧ KE_30 S b.length (os b) (gI b.flatten) ∧ S.F 30 2 = b.flatten.length + w.length ∧ ∀ i : Int, 0 ≤ i → i < w.length → S.A 32 (b.flatten.length + i) = gI w i := h
        by_cases hw : 16 < w.length
        · rw [if_pos hw] at h
          rw [if_pos (by omega)]
          exact h
        · have hm := lim b rfl hw
          rw [if_neg hw] at h
          rw [if_neg (by omega), e1, e2]
          obtain ⟨q1, ⟨q2, q3, q4, q5⟩, q6, q7⟩ := h
          refine ⟨q1, ⟨q2, q3, q4, fun p p0 p1 => ?_⟩, by omega, fun i i0 i1 => ?_⟩
          · rw [e2]
            rw [os_n] at p1
            show (if p = _ then x else S.A 32 p) = _
            rw [if_neg (by omega)]
            exact q5 p p0 (by rw [os_n]; exact p1)
          · show (if (b.flatten.length + i : Int) = _ then x else S.A 32 (b.flatten.length + i)) = _
            by_cases hi : i = w.length
            · rw [if_pos (by omega), hi, gI_r (by omega), show ((w.length : Int) - w.length) = 0 by omega]
              rfl
            · rw [if_neg (by omega), gI_l (by omega) i0]
              exact q7 i i0 (by omega)
  · have e : g44_30 S x = some (S.f 30 3 1) := by
      unfold g44_30
      refine (gd_t (by first | exact ⟨by omega, by omega⟩ | exact ⟨by omega, by omega, by omega⟩ | exact ⟨by omega, by omega, by omega, by omega⟩ | omega | exact inR_to _ | assumption | decide)).trans ?_
      rw [if_neg hl]
    refine ⟨_, e, Fr.f (by decide), ?_⟩
    have e1 : (S.f 30 3 1).F 30 3 = 1 := (f_F (by decide)).trans (by rw [if_pos rfl, if_pos rfl])
    have e2 : (S.f 30 3 1).F 30 2 = S.F 30 2 := (f_F (by decide)).trans (by rw [if_pos rfl, if_neg (by decide)])
    refine ⟨⟨s1, s2, s3, s4, by rw [e2]; exact s5, by rw [e2]; exact s6, s7, fun p p0 p1 => s8 p p0 (by rw [e2] at p1; exact p1)⟩, ?_⟩
    match a, h, lim with
    | none, h, _ => exact e1
    | some b, h, lim =>
      show if 16 < (w ++ [x]).length then (S.f 30 3 1).F 30 3 = 1 else _
      have : 16 ≤ w.length := by
        by_cases hw : 16 < w.length
        · omega
        · have := lim b rfl hw
          omega
      rw [if_pos (by omega)]
      exact e1
