/-! what is printed: rows of characters -/
theorem gD_r {a b : List Int} {i : Nat} (h : a.length ≤ i) : (a ++ b).getD i 0 = b.getD (i - a.length) 0 := by
  rw [List.getD_eq_getElem?_getD, List.getElem?_append_right h, ← List.getD_eq_getElem?_getD]
theorem gD_l {a b : List Int} {i : Nat} (h : i < a.length) : (a ++ b).getD i 0 = a.getD i 0 := by
  rw [List.getD_eq_getElem?_getD, List.getElem?_append_left h, ← List.getD_eq_getElem?_getD]
/-- the first object has put the row l behind what was there -/
def OC (S : St) (l : List Int) (S' : St) : Prop := Fr [28, 29] S S' ∧ S'.F 28 1 = S.F 28 1 + l.length ∧ ∀ i : Int, S'.A 29 i = if S.F 28 1 ≤ i ∧ i < S.F 28 1 + l.length then l.getD (i - S.F 28 1).toNat 0 else S.A 29 i
theorem OC.nil (S : St) : OC S [] S := ⟨Fr.refl _ _, (Int.add_zero _).symm, fun i => by rw [if_neg (by show ¬ (S.F 28 1 ≤ i ∧ i < S.F 28 1 + ((0 : Nat) : Int)); omega)]⟩
theorem OC.app {S T U : St} {a b : List Int} (h : OC S a T) (g : OC T b U) : OC S (a ++ b) U := by
  obtain ⟨h1, h2, h3⟩ := h
  obtain ⟨g1, g2, g3⟩ := g
  have e : ((a ++ b).length : Int) = a.length + b.length := by rw [List.length_append]; omega
  refine ⟨h1.trans g1, by rw [g2, h2, e]; omega, fun i => ?_⟩
  rw [g3 i, h2, h3 i, e]
  by_cases c1 : S.F 28 1 + a.length ≤ i ∧ i < S.F 28 1 + a.length + b.length
  · rw [if_pos c1, if_pos (by omega), gD_r (by omega)]
    congr 1
    omega
  · rw [if_neg c1]
    by_cases c2 : S.F 28 1 ≤ i ∧ i < S.F 28 1 + a.length
    · rw [if_pos c2, if_pos (by omega), gD_l (by omega)]
    · rw [if_neg c2, if_neg (by omega)]
theorem g79_t {S : St} {c : Int} (h0 : 0 ≤ S.F 28 1) (h1 : S.F 28 1 < 128) (hc : chR c) : ∃ S', g79 S c = some S' ∧ OC S [c] S' := by
  have hR : inR c := ⟨by have := hc.1; omega, by have := hc.2; omega⟩
  have hR2 : inR (S.F 28 1 + 1) := ⟨by omega, by omega⟩
  refine ⟨(S.a 29 (S.F 28 1) c).f 28 1 (S.F 28 1 + 1), ?_, (Fr.a (by decide)).trans (Fr.f (by decide)), ?_, fun i => ?_⟩
  · unfold g79
    rw [if_pos h1]
    refine (gd_t (by first | exact ⟨by omega, by omega⟩ | exact ⟨by omega, by omega, by omega⟩ | exact ⟨by omega, by omega, by omega, by omega⟩ | omega | exact inR_to _ | assumption | decide)).trans ?_
    refine (gd_t hc).trans ?_
    rfl
  · rw [f_F hR2, if_pos rfl, if_pos rfl]
    rfl
  · rw [f_A, a_A hR, if_pos rfl]
    show _ = if S.F 28 1 ≤ i ∧ i < S.F 28 1 + ((1 : Nat) : Int) then _ else _
    by_cases e : i = S.F 28 1
    · rw [if_pos e, if_pos (by omega), e, show (S.F 28 1 - S.F 28 1).toNat = 0 by omega]
      rfl
    · rw [if_neg e, if_neg (by omega)]
/-- the second object's page -/
def OM (S : St) (l : List Int) (S' : St) : Prop := (S'.tl = S.tl ∧ S'.ns = S.ns ∧ S'.O = S.O ∧ (∀ c, c ∉ [36, 68, 69] → S'.F0 c = S.F0 c ∧ S'.A0 c = S.A0 c ∧ S'.R c = S.R c) ∧ ∀ i, i ≠ 56 → S'.F0 36 i = S.F0 36 i) ∧ S'.F 36 56 = S.F 36 56 + l.length ∧ ∀ i : Int, S'.A 69 i = if S.F 36 56 ≤ i ∧ i < S.F 36 56 + l.length then l.getD (i - S.F 36 56).toNat 0 else S.A 69 i
theorem OM.nil (S : St) : OM S [] S := ⟨⟨rfl, rfl, rfl, fun _ _ => ⟨rfl, rfl, rfl⟩, fun _ _ => rfl⟩, (Int.add_zero _).symm, fun i => by rw [if_neg (by show ¬ (S.F 36 56 ≤ i ∧ i < S.F 36 56 + ((0 : Nat) : Int)); omega)]⟩
theorem OM.app {S T U : St} {a b : List Int} (h : OM S a T) (g : OM T b U) : OM S (a ++ b) U := by
  obtain ⟨⟨p1, p2, p3, p4, p5⟩, h2, h3⟩ := h
  obtain ⟨⟨q1, q2, q3, q4, q5⟩, g2, g3⟩ := g
  have e : ((a ++ b).length : Int) = a.length + b.length := by rw [List.length_append]; omega
  refine ⟨⟨q1.trans p1, q2.trans p2, q3.trans p3, fun c hc => ⟨(q4 c hc).1.trans (p4 c hc).1, (q4 c hc).2.1.trans (p4 c hc).2.1, (q4 c hc).2.2.trans (p4 c hc).2.2⟩, fun i hi => (q5 i hi).trans (p5 i hi)⟩, by rw [g2, h2, e]; omega, fun i => ?_⟩
  rw [g3 i, h2, h3 i, e]
  by_cases c1 : S.F 36 56 + a.length ≤ i ∧ i < S.F 36 56 + a.length + b.length
  · rw [if_pos c1, if_pos (by omega), gD_r (by omega)]
    congr 1
    omega
  · rw [if_neg c1]
    by_cases c2 : S.F 36 56 ≤ i ∧ i < S.F 36 56 + a.length
    · rw [if_pos c2, if_pos (by omega), gD_l (by omega)]
    · rw [if_neg c2, if_neg (by omega)]
theorem OM.A {S T : St} {l : List Int} (h : OM S l T) {c : Nat} (hc : c ∉ [36, 68, 69]) : T.A c = S.A c := by
  funext i
  show (T.A0 c i).toInt = (S.A0 c i).toInt
  rw [(h.1.2.2.2.1 c hc).2.1]
theorem g149_t {S : St} {c : Int} (h0 : 0 ≤ S.F 36 56) (h1 : S.F 36 56 < 400) (hc : inR c) : ∃ S', g149 S c = some S' ∧ OM S [c] S' ∧ S'.A 68 = S.A 68 := by
  have hR2 : inR (S.F 36 56 + 1) := ⟨by omega, by omega⟩
  have fr : Fr [69] S (S.a 69 (S.F 36 56) c) := Fr.a (by decide)
  refine ⟨(S.a 69 (S.F 36 56) c).f 36 56 (S.F 36 56 + 1), ?_, ⟨⟨rfl, rfl, rfl, fun d hd => ?_, fun i hi => ?_⟩, ?_, fun i => ?_⟩, by rw [f_A, aA_ne (by decide)]⟩
  · unfold g149
    refine (gd_t (by first | exact ⟨by omega, by omega⟩ | exact ⟨by omega, by omega, by omega⟩ | exact ⟨by omega, by omega, by omega, by omega⟩ | omega | exact inR_to _ | assumption | decide)).trans ?_
    rfl
  · have h69 : d ∉ [69] := fun e => hd (by simp at e ⊢; omega)
    have h36 : d ≠ 36 := fun e => hd (by rw [e]; decide)
    refine ⟨?_, (fr.2.2.2 d h69).2.1, rfl⟩
    show (if d = 36 then _ else S.F0 d) = _
    rw [if_neg h36]
  · show (if i = 56 then eI (S.F 36 56 + 1) else S.F0 36 i) = _
    rw [if_neg hi]
  · rw [f_F hR2, if_pos rfl, if_pos rfl]
    rfl
  · rw [f_A, a_A hc, if_pos rfl]
    show _ = if S.F 36 56 ≤ i ∧ i < S.F 36 56 + ((1 : Nat) : Int) then _ else _
    by_cases e : i = S.F 36 56
    · rw [if_pos e, if_pos (by omega), e, show (S.F 36 56 - S.F 36 56).toNat = 0 by omega]
      rfl
    · rw [if_neg e, if_neg (by omega)]
/-- a number's digits -/
def nu (k : Int) : List Int := if k < 10 then [48 + k % 10] else [48 + k / 10, 48 + k % 10]
theorem nu_len (k : Int) : (nu k).length ≤ 2 := by
  unfold nu
  split
  · show (1 : Nat) ≤ 2; decide
  · show (2 : Nat) ≤ 2; decide
theorem g82_t {S : St} {k : Int} (h0 : 0 ≤ S.F 28 1) (h1 : S.F 28 1 < 126) (k0 : 0 ≤ k) (k1 : k < 200) : ∃ S', g82 S k = some S' ∧ OC S (nu k) S' := by
  unfold nu
  by_cases hk : k < 10
  · obtain ⟨T, t1, t2⟩ := g79_t (S := S) (c := 48 + k % 10) h0 (by omega) ⟨by omega, by omega⟩
    refine ⟨T, ?_, by rw [if_pos hk]; exact t2⟩
    unfold g82
    refine (gd_t (by first | exact ⟨by omega, by omega⟩ | exact ⟨by omega, by omega, by omega⟩ | exact ⟨by omega, by omega, by omega, by omega⟩ | omega | exact inR_to _ | assumption | decide)).trans ?_
    rw [if_pos hk]
    refine (gd_t (by first | exact ⟨by omega, by omega⟩ | exact ⟨by omega, by omega, by omega⟩ | exact ⟨by omega, by omega, by omega, by omega⟩ | omega | exact inR_to _ | assumption | decide)).trans ?_; refine (gd_t (by first | exact ⟨by omega, by omega⟩ | exact ⟨by omega, by omega, by omega⟩ | exact ⟨by omega, by omega, by omega, by omega⟩ | omega | exact inR_to _ | assumption | decide)).trans ?_
    rw [t1]
    rfl
  · obtain ⟨T, t1, t2⟩ := g79_t (S := S) (c := 48 + k / 10) h0 (by omega) ⟨by omega, by omega⟩
    have e : T.F 28 1 = S.F 28 1 + 1 := t2.2.1
    obtain ⟨U, u1, u2⟩ := g79_t (S := T) (c := 48 + k % 10) (by omega) (by omega) ⟨by omega, by omega⟩
    refine ⟨U, ?_, by rw [if_neg hk]; exact t2.app u2⟩
    unfold g82
    refine (gd_t (by first | exact ⟨by omega, by omega⟩ | exact ⟨by omega, by omega, by omega⟩ | exact ⟨by omega, by omega, by omega, by omega⟩ | omega | exact inR_to _ | assumption | decide)).trans ?_
    rw [if_neg hk]
    refine (gd_t (by first | exact ⟨by omega, by omega⟩ | exact ⟨by omega, by omega, by omega⟩ | exact ⟨by omega, by omega, by omega, by omega⟩ | omega | exact inR_to _ | assumption | decide)).trans ?_; refine (gd_t (by first | exact ⟨by omega, by omega⟩ | exact ⟨by omega, by omega, by omega⟩ | exact ⟨by omega, by omega, by omega, by omega⟩ | omega | exact inR_to _ | assumption | decide)).trans ?_
    rw [t1]
    show gd (chR (48 + k % 10)) _ = _
    refine (gd_t (by first | exact ⟨by omega, by omega⟩ | exact ⟨by omega, by omega, by omega⟩ | exact ⟨by omega, by omega, by omega, by omega⟩ | omega | exact inR_to _ | assumption | decide)).trans ?_
    rw [u1]
    rfl
theorem g152_t {S : St} {k : Int} (h0 : 0 ≤ S.F 36 56) (h1 : S.F 36 56 < 390) (k0 : 0 ≤ k) (k1 : k < 200) : ∃ S', g152 S k = some S' ∧ OM S (nu k) S' ∧ S'.A 68 = S.A 68 := by
  unfold nu
  by_cases hk : k < 10
  · obtain ⟨T, t1, t2, t3⟩ := g149_t (S := S) (c := 48 + k % 10) h0 (by omega) ⟨by omega, by omega⟩
    refine ⟨T, ?_, by rw [if_pos hk]; exact t2, t3⟩
    unfold g152
    refine (gd_t (by first | exact ⟨by omega, by omega⟩ | exact ⟨by omega, by omega, by omega⟩ | exact ⟨by omega, by omega, by omega, by omega⟩ | omega | exact inR_to _ | assumption | decide)).trans ?_
    rw [if_neg (by omega)]
    refine (gd_t (by first | exact ⟨by omega, by omega⟩ | exact ⟨by omega, by omega, by omega⟩ | exact ⟨by omega, by omega, by omega, by omega⟩ | omega | exact inR_to _ | assumption | decide)).trans ?_
    rw [t1]
    rfl
  · obtain ⟨T, t1, t2, t3⟩ := g149_t (S := S) (c := 48 + k / 10) h0 (by omega) ⟨by omega, by omega⟩
    have e : T.F 36 56 = S.F 36 56 + 1 := t2.2.1
    obtain ⟨U, u1, u2, u3⟩ := g149_t (S := T) (c := 48 + k % 10) (by omega) (by omega) ⟨by omega, by omega⟩
    refine ⟨U, ?_, by rw [if_neg hk]; exact t2.app u2, u3.trans t3⟩
    unfold g152
    refine (gd_t (by first | exact ⟨by omega, by omega⟩ | exact ⟨by omega, by omega, by omega⟩ | exact ⟨by omega, by omega, by omega, by omega⟩ | omega | exact inR_to _ | assumption | decide)).trans ?_
    rw [if_pos (by omega)]
    refine (gd_t (by first | exact ⟨by omega, by omega⟩ | exact ⟨by omega, by omega, by omega⟩ | exact ⟨by omega, by omega, by omega, by omega⟩ | omega | exact inR_to _ | assumption | decide)).trans ?_
    rw [t1]
    show ob (g149 T (48 + k % 10)) _ = _
    rw [u1]
    rfl
/-- a symbol's name, without the sign of denial -/
def nm (x : Int) : List Int :=
  if x < 32768 then (120 + (x / 256) % 3) :: (if x / 256 < 3 then [] else nu (x / 256 / 3))
  else if x < 65536 then (97 + ((x - 32768) / 256) / 11) :: (if 0 < ((x - 32768) / 256) % 11 then nu (((x - 32768) / 256) % 11 - 1) else [])
  else if x < 131072 then 36 :: nu ((x - 65536) / 256)
  else [65 + ((x - 131072) / 256) / 2]
/-- the sign of denial -/
def sg (x : Int) : List Int := if 131072 ≤ x ∧ dn x = 1 then [126] else []
theorem nm_len (x : Int) : (nm x).length ≤ 3 := by
  have h := nu_len
  unfold nm
  split
  · split
    · show (1 : Nat) ≤ 3; decide
    · have := h (x / 256 / 3); rw [List.length_cons]; omega
  · split
    · split
      · have := h (((x - 32768) / 256) % 11 - 1); rw [List.length_cons]; omega
      · show (1 : Nat) ≤ 3; decide
    · split
      · have := h ((x - 65536) / 256); rw [List.length_cons]; omega
      · show (1 : Nat) ≤ 3; decide
theorem g81_t {S : St} {x : Int} (h0 : 0 ≤ S.F 28 1) (h1 : S.F 28 1 < 120) (hx : vx x) : ∃ S', g81 S x = some S' ∧ OC S (sg x ++ nm x) S' := by
  unfold vx at hx
  rcases hx with q | q | q | q
  · have e0 : sg x = [] := if_neg (by omega)
    rw [e0, List.nil_append]
    obtain ⟨T, t1, t2⟩ := g79_t (S := S) (c := 120 + (x / 256) % 3) h0 (by omega) ⟨by omega, by omega⟩
    have e : T.F 28 1 = S.F 28 1 + 1 := t2.2.1
    unfold nm
    rw [if_pos (by omega)]
    by_cases c : x / 256 < 3
    · rw [if_pos c]
      refine ⟨T, ?_, t2⟩
      unfold g81
      refine (gd_t (by first | exact ⟨by omega, by omega⟩ | exact ⟨by omega, by omega, by omega⟩ | exact ⟨by omega, by omega, by omega, by omega⟩ | omega | exact inR_to _ | assumption | decide)).trans ?_
      rw [if_pos (by omega), if_pos (by omega), if_pos (by omega)]
      refine (gd_t (by first | exact ⟨by omega, by omega⟩ | exact ⟨by omega, by omega, by omega⟩ | exact ⟨by omega, by omega, by omega, by omega⟩ | omega | exact inR_to _ | assumption | decide)).trans ?_; refine (gd_t (by first | exact ⟨by omega, by omega⟩ | exact ⟨by omega, by omega, by omega⟩ | exact ⟨by omega, by omega, by omega, by omega⟩ | omega | exact inR_to _ | assumption | decide)).trans ?_
      rw [t1]
      show gd (inR (x / 256)) _ = _
      refine (gd_t (by first | exact ⟨by omega, by omega⟩ | exact ⟨by omega, by omega, by omega⟩ | exact ⟨by omega, by omega, by omega, by omega⟩ | omega | exact inR_to _ | assumption | decide)).trans ?_
      exact if_pos c
    · rw [if_neg c]
      obtain ⟨U, u1, u2⟩ := g82_t (S := T) (k := x / 256 / 3) (by omega) (by omega) (by omega) (by omega)
      refine ⟨U, ?_, t2.app u2⟩
      unfold g81
      refine (gd_t (by first | exact ⟨by omega, by omega⟩ | exact ⟨by omega, by omega, by omega⟩ | exact ⟨by omega, by omega, by omega, by omega⟩ | omega | exact inR_to _ | assumption | decide)).trans ?_
      rw [if_pos (by omega), if_pos (by omega), if_pos (by omega)]
      refine (gd_t (by first | exact ⟨by omega, by omega⟩ | exact ⟨by omega, by omega, by omega⟩ | exact ⟨by omega, by omega, by omega, by omega⟩ | omega | exact inR_to _ | assumption | decide)).trans ?_; refine (gd_t (by first | exact ⟨by omega, by omega⟩ | exact ⟨by omega, by omega, by omega⟩ | exact ⟨by omega, by omega, by omega, by omega⟩ | omega | exact inR_to _ | assumption | decide)).trans ?_
      rw [t1]
      show gd (inR (x / 256)) _ = _
      refine (gd_t (by first | exact ⟨by omega, by omega⟩ | exact ⟨by omega, by omega, by omega⟩ | exact ⟨by omega, by omega, by omega, by omega⟩ | omega | exact inR_to _ | assumption | decide)).trans ?_
      rw [if_neg c, u1]
      rfl
  · have e0 : sg x = [] := if_neg (by omega)
    rw [e0, List.nil_append]
    obtain ⟨T, t1, t2⟩ := g79_t (S := S) (c := 97 + ((x - 32768) / 256) / 11) h0 (by omega) ⟨by omega, by omega⟩
    have e : T.F 28 1 = S.F 28 1 + 1 := t2.2.1
    unfold nm
    rw [if_neg (by omega), if_pos (by omega)]
    by_cases c : 0 < ((x - 32768) / 256) % 11
    · rw [if_pos c]
      obtain ⟨U, u1, u2⟩ := g82_t (S := T) (k := ((x - 32768) / 256) % 11 - 1) (by omega) (by omega) (by omega) (by omega)
      refine ⟨U, ?_, t2.app u2⟩
      unfold g81
      refine (gd_t (by first | exact ⟨by omega, by omega⟩ | exact ⟨by omega, by omega, by omega⟩ | exact ⟨by omega, by omega, by omega, by omega⟩ | omega | exact inR_to _ | assumption | decide)).trans ?_
      rw [if_pos (by omega), if_pos (by omega), if_neg (by omega)]
      refine (gd_t (by first | exact ⟨by omega, by omega⟩ | exact ⟨by omega, by omega, by omega⟩ | exact ⟨by omega, by omega, by omega, by omega⟩ | omega | exact inR_to _ | assumption | decide)).trans ?_; refine (gd_t (by first | exact ⟨by omega, by omega⟩ | exact ⟨by omega, by omega, by omega⟩ | exact ⟨by omega, by omega, by omega, by omega⟩ | omega | exact inR_to _ | assumption | decide)).trans ?_; refine (gd_t (by first | exact ⟨by omega, by omega⟩ | exact ⟨by omega, by omega, by omega⟩ | exact ⟨by omega, by omega, by omega, by omega⟩ | omega | exact inR_to _ | assumption | decide)).trans ?_
      rw [t1]
      show gd (inR (((x - 32768) / 256) % 11)) _ = _
      refine (gd_t (by first | exact ⟨by omega, by omega⟩ | exact ⟨by omega, by omega, by omega⟩ | exact ⟨by omega, by omega, by omega, by omega⟩ | omega | exact inR_to _ | assumption | decide)).trans ?_
      rw [if_pos c, u1]
      rfl
    · rw [if_neg c]
      refine ⟨T, ?_, t2⟩
      unfold g81
      refine (gd_t (by first | exact ⟨by omega, by omega⟩ | exact ⟨by omega, by omega, by omega⟩ | exact ⟨by omega, by omega, by omega, by omega⟩ | omega | exact inR_to _ | assumption | decide)).trans ?_
      rw [if_pos (by omega), if_pos (by omega), if_neg (by omega)]
      refine (gd_t (by first | exact ⟨by omega, by omega⟩ | exact ⟨by omega, by omega, by omega⟩ | exact ⟨by omega, by omega, by omega, by omega⟩ | omega | exact inR_to _ | assumption | decide)).trans ?_; refine (gd_t (by first | exact ⟨by omega, by omega⟩ | exact ⟨by omega, by omega, by omega⟩ | exact ⟨by omega, by omega, by omega, by omega⟩ | omega | exact inR_to _ | assumption | decide)).trans ?_; refine (gd_t (by first | exact ⟨by omega, by omega⟩ | exact ⟨by omega, by omega, by omega⟩ | exact ⟨by omega, by omega, by omega, by omega⟩ | omega | exact inR_to _ | assumption | decide)).trans ?_
      rw [t1]
      show gd (inR (((x - 32768) / 256) % 11)) _ = _
      refine (gd_t (by first | exact ⟨by omega, by omega⟩ | exact ⟨by omega, by omega, by omega⟩ | exact ⟨by omega, by omega, by omega, by omega⟩ | omega | exact inR_to _ | assumption | decide)).trans ?_
      exact if_neg c
  · have e0 : sg x = [] := if_neg (by omega)
    rw [e0, List.nil_append]
    obtain ⟨T, t1, t2⟩ := g79_t (S := S) (c := 36) h0 (by omega) ⟨by omega, by omega⟩
    have e : T.F 28 1 = S.F 28 1 + 1 := t2.2.1
    unfold nm
    rw [if_neg (by omega), if_neg (by omega), if_pos (by omega)]
    obtain ⟨U, u1, u2⟩ := g82_t (S := T) (k := (x - 65536) / 256) (by omega) (by omega) (by omega) (by omega)
    refine ⟨U, ?_, t2.app u2⟩
    unfold g81
    refine (gd_t (by first | exact ⟨by omega, by omega⟩ | exact ⟨by omega, by omega, by omega⟩ | exact ⟨by omega, by omega, by omega, by omega⟩ | omega | exact inR_to _ | assumption | decide)).trans ?_
    rw [if_pos (by omega), if_neg (by omega), t1]
    show gd (inR (x - 65536)) _ = _
    refine (gd_t (by first | exact ⟨by omega, by omega⟩ | exact ⟨by omega, by omega, by omega⟩ | exact ⟨by omega, by omega, by omega, by omega⟩ | omega | exact inR_to _ | assumption | decide)).trans ?_
    rw [u1]
    rfl
  · unfold nm
    rw [if_neg (by omega), if_neg (by omega), if_neg (by omega)]
    by_cases c : ((x - 131072) / 256) % 2 = 1
    · have e0 : sg x = [126] := if_pos ⟨by omega, c⟩
      rw [e0]
      obtain ⟨T, t1, t2⟩ := g79_t (S := S) (c := 126) h0 (by omega) ⟨by omega, by omega⟩
      have e : T.F 28 1 = S.F 28 1 + 1 := t2.2.1
      obtain ⟨U, u1, u2⟩ := g79_t (S := T) (c := 65 + ((x - 131072) / 256) / 2) (by omega) (by omega) ⟨by omega, by omega⟩
      refine ⟨U, ?_, t2.app u2⟩
      unfold g81
      refine (gd_t (by first | exact ⟨by omega, by omega⟩ | exact ⟨by omega, by omega, by omega⟩ | exact ⟨by omega, by omega, by omega, by omega⟩ | omega | exact inR_to _ | assumption | decide)).trans ?_
      rw [if_neg (by omega)]
      refine (gd_t (by first | exact ⟨by omega, by omega⟩ | exact ⟨by omega, by omega, by omega⟩ | exact ⟨by omega, by omega, by omega, by omega⟩ | omega | exact inR_to _ | assumption | decide)).trans ?_; refine (gd_t (by first | exact ⟨by omega, by omega⟩ | exact ⟨by omega, by omega, by omega⟩ | exact ⟨by omega, by omega, by omega, by omega⟩ | omega | exact inR_to _ | assumption | decide)).trans ?_; refine (gd_t (by first | exact ⟨by omega, by omega⟩ | exact ⟨by omega, by omega, by omega⟩ | exact ⟨by omega, by omega, by omega, by omega⟩ | omega | exact inR_to _ | assumption | decide)).trans ?_
      rw [if_pos c, t1]
      show gd (chR (65 + ((x - 131072) / 256) / 2)) _ = _
      refine (gd_t (by first | exact ⟨by omega, by omega⟩ | exact ⟨by omega, by omega, by omega⟩ | exact ⟨by omega, by omega, by omega, by omega⟩ | omega | exact inR_to _ | assumption | decide)).trans ?_
      rw [u1]
      rfl
    · have e0 : sg x = [] := if_neg (fun h => c h.2)
      rw [e0, List.nil_append]
      obtain ⟨U, u1, u2⟩ := g79_t (S := S) (c := 65 + ((x - 131072) / 256) / 2) (by omega) (by omega) ⟨by omega, by omega⟩
      refine ⟨U, ?_, u2⟩
      unfold g81
      refine (gd_t (by first | exact ⟨by omega, by omega⟩ | exact ⟨by omega, by omega, by omega⟩ | exact ⟨by omega, by omega, by omega, by omega⟩ | omega | exact inR_to _ | assumption | decide)).trans ?_
      rw [if_neg (by omega)]
      refine (gd_t (by first | exact ⟨by omega, by omega⟩ | exact ⟨by omega, by omega, by omega⟩ | exact ⟨by omega, by omega, by omega, by omega⟩ | omega | exact inR_to _ | assumption | decide)).trans ?_; refine (gd_t (by first | exact ⟨by omega, by omega⟩ | exact ⟨by omega, by omega, by omega⟩ | exact ⟨by omega, by omega, by omega, by omega⟩ | omega | exact inR_to _ | assumption | decide)).trans ?_; refine (gd_t (by first | exact ⟨by omega, by omega⟩ | exact ⟨by omega, by omega, by omega⟩ | exact ⟨by omega, by omega, by omega, by omega⟩ | omega | exact inR_to _ | assumption | decide)).trans ?_
      rw [if_neg c]
      refine (gd_t (by first | exact ⟨by omega, by omega⟩ | exact ⟨by omega, by omega, by omega⟩ | exact ⟨by omega, by omega, by omega, by omega⟩ | omega | exact inR_to _ | assumption | decide)).trans ?_
      rw [u1]
      rfl
theorem g151_t {S : St} {x : Int} (h0 : 0 ≤ S.F 36 56) (h1 : S.F 36 56 < 380) (hx : vx x) : ∃ S', g151 S (mo x) = some S' ∧ OM S (nm x) S' ∧ S'.A 68 = S.A 68 := by
  have hR := mo_R hx
  have hv := mo_v hx
  unfold vx at hx
  have e122 := g122_t (S := S) (x := mo x) ⟨by omega, hR.2⟩
  rcases hx with q | q | q | q
  · have em : mo x = x / 256 := mo_var (by omega)
    obtain ⟨T, t1, t2, t3⟩ := g149_t (S := S) (c := 120 + (x / 256) % 3) h0 (by omega) ⟨by omega, by omega⟩
    have e : T.F 36 56 = S.F 36 56 + 1 := t2.2.1
    unfold nm
    rw [if_pos (by omega)]
    by_cases c : x / 256 < 3
    · rw [if_pos c]
      refine ⟨T, ?_, t2, t3⟩
      unfold g151
      rw [e122, if_pos (hv.mpr (by omega)), em]
      show gd (inR 1) (if (1 : Int) = 0 then _ else _) = _
      refine (gd_t (by first | exact ⟨by omega, by omega⟩ | exact ⟨by omega, by omega, by omega⟩ | exact ⟨by omega, by omega, by omega, by omega⟩ | omega | exact inR_to _ | assumption | decide)).trans ?_
      rw [if_neg (by decide)]
      refine (gd_t (by first | exact ⟨by omega, by omega⟩ | exact ⟨by omega, by omega, by omega⟩ | exact ⟨by omega, by omega, by omega, by omega⟩ | omega | exact inR_to _ | assumption | decide)).trans ?_
      rw [t1]
      show gd (inR (x / 256)) _ = _
      refine (gd_t (by first | exact ⟨by omega, by omega⟩ | exact ⟨by omega, by omega, by omega⟩ | exact ⟨by omega, by omega, by omega, by omega⟩ | omega | exact inR_to _ | assumption | decide)).trans ?_
      exact if_neg (by omega)
    · rw [if_neg c]
      obtain ⟨U, u1, u2, u3⟩ := g152_t (S := T) (k := x / 256 / 3) (by omega) (by omega) (by omega) (by omega)
      refine ⟨U, ?_, t2.app u2, u3.trans t3⟩
      unfold g151
      rw [e122, if_pos (hv.mpr (by omega)), em]
      show gd (inR 1) (if (1 : Int) = 0 then _ else _) = _
      refine (gd_t (by first | exact ⟨by omega, by omega⟩ | exact ⟨by omega, by omega, by omega⟩ | exact ⟨by omega, by omega, by omega, by omega⟩ | omega | exact inR_to _ | assumption | decide)).trans ?_
      rw [if_neg (by decide)]
      refine (gd_t (by first | exact ⟨by omega, by omega⟩ | exact ⟨by omega, by omega, by omega⟩ | exact ⟨by omega, by omega, by omega, by omega⟩ | omega | exact inR_to _ | assumption | decide)).trans ?_
      rw [t1]
      show gd (inR (x / 256)) _ = _
      refine (gd_t (by first | exact ⟨by omega, by omega⟩ | exact ⟨by omega, by omega, by omega⟩ | exact ⟨by omega, by omega, by omega, by omega⟩ | omega | exact inR_to _ | assumption | decide)).trans ?_
      rw [if_pos (by omega), u1]
      rfl
  · have em : mo x = 4096 + 128 * (97 + ((x - 32768) / 256) / 11 + 128 * (((x - 32768) / 256) % 11)) + x % 256 := by unfold mo; rw [if_neg (by omega), if_pos (by omega)]
    have d1 : (mo x - 4096) / 128 = 97 + ((x - 32768) / 256) / 11 + 128 * (((x - 32768) / 256) % 11) := by omega
    have d2 : (mo x - 4096) / 128 % 128 = 97 + ((x - 32768) / 256) / 11 := by omega
    have d3 : (mo x - 4096) / 128 / 128 = ((x - 32768) / 256) % 11 := by omega
    obtain ⟨T, t1, t2, t3⟩ := g149_t (S := S) (c := 97 + ((x - 32768) / 256) / 11) h0 (by omega) ⟨by omega, by omega⟩
    have e : T.F 36 56 = S.F 36 56 + 1 := t2.2.1
    have pre : ∀ z, (if (mo x - 4096) / 128 < 128 then some T else gd (inR ((mo x - 4096) / 128 % 128)) (if (mo x - 4096) / 128 % 128 = 36 then ob (g152 T ((mo x - 4096) / 128 / 128)) (fun o13 => some o13) else ob (g152 T ((mo x - 4096) / 128 / 128 - 1)) (fun o15 => some o15))) = z → g151 S (mo x) = z := by
      intro z hz
      rw [← hz]
      unfold g151
      rw [e122, if_neg (fun h => by have := hv.mp h; omega)]
      show gd (inR 0) (if (0 : Int) = 0 then _ else _) = _
      refine (gd_t (by first | exact ⟨by omega, by omega⟩ | exact ⟨by omega, by omega, by omega⟩ | exact ⟨by omega, by omega, by omega, by omega⟩ | omega | exact inR_to _ | assumption | decide)).trans ?_
      rw [if_pos rfl]
      refine (gd_t (by first | exact ⟨by omega, by omega⟩ | exact ⟨by omega, by omega, by omega⟩ | exact ⟨by omega, by omega, by omega, by omega⟩ | omega | exact inR_to _ | assumption | decide)).trans ?_; refine (gd_t (by first | exact ⟨by omega, by omega⟩ | exact ⟨by omega, by omega, by omega⟩ | exact ⟨by omega, by omega, by omega, by omega⟩ | omega | exact inR_to _ | assumption | decide)).trans ?_
      rw [d2, t1]
      show gd (inR ((mo x - 4096) / 128)) _ = _
      refine (gd_t (by first | exact ⟨by omega, by omega⟩ | exact ⟨by omega, by omega, by omega⟩ | exact ⟨by omega, by omega, by omega, by omega⟩ | omega | exact inR_to _ | assumption | decide)).trans ?_
      rfl
    unfold nm
    rw [if_neg (by omega), if_pos (by omega)]
    by_cases c : 0 < ((x - 32768) / 256) % 11
    · rw [if_pos c]
      obtain ⟨U, u1, u2, u3⟩ := g152_t (S := T) (k := ((x - 32768) / 256) % 11 - 1) (by omega) (by omega) (by omega) (by omega)
      refine ⟨U, pre _ ?_, t2.app u2, u3.trans t3⟩
      rw [if_neg (by omega)]
      refine (gd_t (by first | exact ⟨by omega, by omega⟩ | exact ⟨by omega, by omega, by omega⟩ | exact ⟨by omega, by omega, by omega, by omega⟩ | omega | exact inR_to _ | assumption | decide)).trans ?_
      rw [if_neg (by omega), d3, u1]
      rfl
    · rw [if_neg c]
      exact ⟨T, pre _ (if_pos (by omega)), t2, t3⟩
  · have em : mo x = 4096 + 128 * (36 + 128 * ((x - 65536) / 256)) + x % 256 := by unfold mo; rw [if_neg (by omega), if_neg (by omega), if_pos (by omega)]
    have d2 : (mo x - 4096) / 128 % 128 = 36 := by omega
    have d3 : (mo x - 4096) / 128 / 128 = (x - 65536) / 256 := by omega
    obtain ⟨T, t1, t2, t3⟩ := g149_t (S := S) (c := 36) h0 (by omega) ⟨by omega, by omega⟩
    have e : T.F 36 56 = S.F 36 56 + 1 := t2.2.1
    obtain ⟨U, u1, u2, u3⟩ := g152_t (S := T) (k := (x - 65536) / 256) (by omega) (by omega) (by omega) (by omega)
    unfold nm
    rw [if_neg (by omega), if_neg (by omega), if_pos (by omega)]
    refine ⟨U, ?_, t2.app u2, u3.trans t3⟩
    unfold g151
    rw [e122, if_neg (fun h => by have := hv.mp h; omega)]
    show gd (inR 0) (if (0 : Int) = 0 then _ else _) = _
    refine (gd_t (by first | exact ⟨by omega, by omega⟩ | exact ⟨by omega, by omega, by omega⟩ | exact ⟨by omega, by omega, by omega, by omega⟩ | omega | exact inR_to _ | assumption | decide)).trans ?_
    rw [if_pos rfl]
    refine (gd_t (by first | exact ⟨by omega, by omega⟩ | exact ⟨by omega, by omega, by omega⟩ | exact ⟨by omega, by omega, by omega, by omega⟩ | omega | exact inR_to _ | assumption | decide)).trans ?_; refine (gd_t (by first | exact ⟨by omega, by omega⟩ | exact ⟨by omega, by omega, by omega⟩ | exact ⟨by omega, by omega, by omega, by omega⟩ | omega | exact inR_to _ | assumption | decide)).trans ?_
    rw [d2, t1]
    show gd (inR ((mo x - 4096) / 128)) _ = _
    refine (gd_t (by first | exact ⟨by omega, by omega⟩ | exact ⟨by omega, by omega, by omega⟩ | exact ⟨by omega, by omega, by omega, by omega⟩ | omega | exact inR_to _ | assumption | decide)).trans ?_
    rw [if_neg (by omega)]
    refine (gd_t (by first | exact ⟨by omega, by omega⟩ | exact ⟨by omega, by omega, by omega⟩ | exact ⟨by omega, by omega, by omega, by omega⟩ | omega | exact inR_to _ | assumption | decide)).trans ?_
    rw [if_pos rfl, d3, u1]
    rfl
  · have em : mo x = 4096 + 128 * (65 + ((x - 131072) / 256) / 2) + x % 256 := by unfold mo; rw [if_neg (by omega), if_neg (by omega), if_neg (by omega)]
    have d1 : (mo x - 4096) / 128 = 65 + ((x - 131072) / 256) / 2 := by omega
    have d2 : (mo x - 4096) / 128 % 128 = 65 + ((x - 131072) / 256) / 2 := by omega
    obtain ⟨T, t1, t2, t3⟩ := g149_t (S := S) (c := 65 + ((x - 131072) / 256) / 2) h0 (by omega) ⟨by omega, by omega⟩
    unfold nm
    rw [if_neg (by omega), if_neg (by omega), if_neg (by omega)]
    refine ⟨T, ?_, t2, t3⟩
    unfold g151
    rw [e122, if_neg (fun h => by have := hv.mp h; omega)]
    show gd (inR 0) (if (0 : Int) = 0 then _ else _) = _
    refine (gd_t (by first | exact ⟨by omega, by omega⟩ | exact ⟨by omega, by omega, by omega⟩ | exact ⟨by omega, by omega, by omega, by omega⟩ | omega | exact inR_to _ | assumption | decide)).trans ?_
    rw [if_pos rfl]
    refine (gd_t (by first | exact ⟨by omega, by omega⟩ | exact ⟨by omega, by omega, by omega⟩ | exact ⟨by omega, by omega, by omega, by omega⟩ | omega | exact inR_to _ | assumption | decide)).trans ?_; refine (gd_t (by first | exact ⟨by omega, by omega⟩ | exact ⟨by omega, by omega, by omega⟩ | exact ⟨by omega, by omega, by omega, by omega⟩ | omega | exact inR_to _ | assumption | decide)).trans ?_
    rw [d2, t1]
    show gd (inR ((mo x - 4096) / 128)) _ = _
    refine (gd_t (by first | exact ⟨by omega, by omega⟩ | exact ⟨by omega, by omega, by omega⟩ | exact ⟨by omega, by omega, by omega, by omega⟩ | omega | exact inR_to _ | assumption | decide)).trans ?_
    exact if_pos (by omega)
