/-! a variable gets a term -/
theorem RE_q {u : Int → Int} {w1 w2 p x : Int} (hU : PU u w1 w2) (hp : TP u w1 w2 p) (h : u p < 32768) (hx : x % 256 = 0) : u p / 256 = x / 256 ↔ u p = x := by
  have := hp.v hU h
  omega
theorem PO.bind {u : Int → Int} {w1 w2 x q : Int} {t : Int → Int} (hU : PU u w1 w2) (hP : PO u w1 w2 t) (hx0 : 0 ≤ x) (hx3 : x < 32768) (hx256 : x % 256 = 0) (hx : ¬ 0 ≤ t (x / 256)) (hq : TP u w1 w2 q) (hR : ¬ RE u t x q) : PO u w1 w2 (upI t (x / 256) q) := by
  obtain ⟨hB, H, hH⟩ := hP
  have hB' : OB u w1 w2 (upI t (x / 256) q) := fun p hp hc => by
    by_cases hv : u p / 256 = x / 256
    · rw [hv, upI_e]; exact Or.inr hq
    · rw [upI_n hv]; exact hB p hp hc
  classical
  refine ⟨hB', crk (fun p => if RE u t x p then H p + 32 else H p), RV.mk hU hB' (fun p hp hc hb => ?_) (fun p hp hc j hj => ?_)⟩
  · by_cases hv : u p / 256 = x / 256
    · rw [hv, upI_e]
      have e := (RE_q hU hp hc hx256).mp hv
      have h1 := hH.1 q hq
      show (if RE u t x q then H q + 32 else H q) < if RE u t x p then H p + 32 else H p
      rw [if_neg hR, if_pos (RE.here e)]
      omega
    · rw [upI_n hv] at hb ⊢
      have h1 := hH.2.1 p hp hc hb
      show (if RE u t x (t (u p / 256)) then H (t (u p / 256)) + 32 else H (t (u p / 256))) < if RE u t x p then H p + 32 else H p
      by_cases h2 : RE u t x (t (u p / 256))
      · rw [if_pos h2, if_pos (h2.var hc hb)]; omega
      · rw [if_neg h2]; split <;> omega
  · have h1 := hH.2.2 p hp hc j hj
    show (if RE u t x (ag u p j) then H (ag u p j) + 32 else H (ag u p j)) < if RE u t x p then H p + 32 else H p
    by_cases h2 : RE u t x (ag u p j)
    · rw [if_pos h2, if_pos (h2.fn hc hj)]; omega
    · rw [if_neg h2]; split <;> omega
theorem st_bind {u : Int → Int} {w1 w2 x q : Int} {t : Int → Int} (hU : PU u w1 w2) (hP : PO u w1 w2 t) (hP' : PO u w1 w2 (upI t (x / 256) q)) (hx256 : x % 256 = 0) (hx : ¬ 0 ≤ t (x / 256)) (hx3 : x < 32768) (hq : TP u w1 w2 q) (hqs : ¬ (u q < 32768 ∧ 0 ≤ t (u q / 256))) (hqx : u q ≠ x) : ∀ p, TP u w1 w2 p → st u (upI t (x / 256) q) p = if u (st u t p) = x then q else st u t p := by
  have q0 := ((hq.pc hU).lt hU).1
  have qq : st u (upI t (x / 256) q) q = q := by
    refine st_self (fun h => ?_)
    have : u q / 256 ≠ x / 256 := fun e => hqx ((RE_q hU hq h.1 hx256).mp e)
    rw [upI_n this] at h
    exact hqs h
  refine st_ind hU hP (fun p hp hc => ?_) (fun p hp hc hb ih => ?_)
  · rw [st_self hc]
    by_cases hux : u p = x
    · rw [if_pos hux, st_step hU hP' hp (by omega) (by rw [hux, upI_e]; exact q0), hux, upI_e]
      exact qq
    · rw [if_neg hux]
      refine st_self (fun h => ?_)
      have : u p / 256 ≠ x / 256 := fun e => hux ((RE_q hU hp h.1 hx256).mp e)
      rw [upI_n this] at h
      exact hc h
  · have hv : u p / 256 ≠ x / 256 := fun e => hx (e ▸ hb)
    rw [st_step hU hP hp hc hb, st_step hU hP' hp hc (by rw [upI_n hv]; exact hb), upI_n hv]
    exact ih
/-- both bind alike -/
def CO (u : Int → Int) (w1 w2 : Int) (t b : Int → Int) : Prop := (∀ p, TP u w1 w2 p → (32768 ≤ u (st u t p) ∨ 32768 ≤ u (st u b p)) → st u t p = st u b p) ∧ ∀ p q, TP u w1 w2 p → TP u w1 w2 q → u (st u t p) < 32768 → u (st u t q) < 32768 → (u (st u t p) = u (st u t q) ↔ u (st u b p) = u (st u b q))
theorem CO.v {u : Int → Int} {w1 w2 p : Int} {t b : Int → Int} (h : CO u w1 w2 t b) (hp : TP u w1 w2 p) : u (st u t p) < 32768 ↔ u (st u b p) < 32768 := by
  constructor
  · intro h1
    by_cases h2 : u (st u b p) < 32768
    · exact h2
    · rw [h.1 p hp (Or.inr (by omega))] at h1
      exact h1
  · intro h1
    by_cases h2 : u (st u t p) < 32768
    · exact h2
    · rw [← h.1 p hp (Or.inl (by omega))] at h1
      exact h1
/-- the same variable is asked of both -/
theorem CO.e {u : Int → Int} {w1 w2 a p : Int} {t b : Int → Int} (h : CO u w1 w2 t b) (ha : TP u w1 w2 a) (hv : u (st u t a) < 32768) (hp : TP u w1 w2 p) : u (st u t p) = u (st u t a) ↔ u (st u b p) = u (st u b a) := by
  by_cases h1 : u (st u t p) < 32768
  · exact h.2 p a hp ha h1 hv
  · have h2 : ¬ u (st u b p) < 32768 := fun e => h1 ((h.v hp).mpr e)
    have h3 := (h.v ha).mp hv
    constructor <;> (intro e; omega)
theorem CO.re {u : Int → Int} {w1 w2 a : Int} {t b : Int → Int} (hU : PU u w1 w2) (hP : PO u w1 w2 t) (hQ : PO u w1 w2 b) (h : CO u w1 w2 t b) (ha : TP u w1 w2 a) (hv : u (st u t a) < 32768) : ∀ q, TP u w1 w2 q → (RE u t (u (st u t a)) q ↔ RE u b (u (st u b a)) q) := by
  have oa := st_ok hU hP a ha
  have ob := st_ok hU hQ a ha
  have hv2 := (h.v ha).mp hv
  have n1 : ¬ 0 ≤ t (u (st u t a) / 256) := fun e => oa.2.1 ⟨hv, e⟩
  have n2 : ¬ 0 ≤ b (u (st u b a) / 256) := fun e => ob.2.1 ⟨hv2, e⟩
  obtain ⟨H, hH⟩ := hP.2
  have : ∀ (k : Nat) (q : Int), TP u w1 w2 q → H q ≤ k → (RE u t (u (st u t a)) q ↔ RE u b (u (st u b a)) q) := by
    intro k
    induction k with
    | zero =>
      intro q hq hk
      have oq := st_ok hU hP q hq
      have oq2 := st_ok hU hQ q hq
      have hle := oq.2.2 H hH
      rw [RE_st hU hP n1 q hq, RE_st hU hQ n2 q hq, RE_end hv oq.2.1 (fun e => (oq.1.v hU e).2.2), RE_end hv2 oq2.2.1 (fun e => (oq2.1.v hU e).2.2), h.e ha hv hq]
      have z : ¬ ∃ j : Nat, (j : Int) < u (st u t q) % 256 := fun ⟨j, hj⟩ => by
        by_cases h3 : u (st u t q) < 32768
        · have := (oq.1.v hU h3).2.2; omega
        · have := hH.2.2 _ oq.1 (by omega) j hj; omega
      have z2 : ¬ ∃ j : Nat, (j : Int) < u (st u b q) % 256 := fun ⟨j, hj⟩ => by
        by_cases h3 : u (st u b q) < 32768
        · have := (oq2.1.v hU h3).2.2; omega
        · rw [← h.1 q hq (Or.inr (by omega))] at hj
          exact z ⟨j, hj⟩
      constructor
      · rintro (e | ⟨j, hj, _⟩)
        · exact Or.inl e
        · exact absurd ⟨j, hj⟩ z
      · rintro (e | ⟨j, hj, _⟩)
        · exact Or.inl e
        · exact absurd ⟨j, hj⟩ z2
    | succ k ih =>
      intro q hq hk
      have oq := st_ok hU hP q hq
      have oq2 := st_ok hU hQ q hq
      have hle := oq.2.2 H hH
      rw [RE_st hU hP n1 q hq, RE_st hU hQ n2 q hq, RE_end hv oq.2.1 (fun e => (oq.1.v hU e).2.2), RE_end hv2 oq2.2.1 (fun e => (oq2.1.v hU e).2.2), h.e ha hv hq]
      by_cases h3 : u (st u t q) < 32768
      · have h4 := (h.v hq).mp h3
        have z := (oq.1.v hU h3).2.2
        have z2 := (oq2.1.v hU h4).2.2
        constructor
        · rintro (e | ⟨j, hj, _⟩)
          · exact Or.inl e
          · omega
        · rintro (e | ⟨j, hj, _⟩)
          · exact Or.inl e
          · omega
      · have es := h.1 q hq (Or.inl (by omega))
        rw [← es]
        have ihj : ∀ j : Nat, (j : Int) < u (st u t q) % 256 → (RE u t (u (st u t a)) (ag u (st u t q) j) ↔ RE u b (u (st u b a)) (ag u (st u t q) j)) := fun j hj => by
          have hf := hH.2.2 _ oq.1 (by omega) j hj
          exact ih _ (ag_TP hU oq.1 hj).1 (by omega)
        constructor
        · rintro (e | ⟨j, hj, hr⟩)
          · exact Or.inl e
          · exact Or.inr ⟨j, hj, (ihj j hj).mp hr⟩
        · rintro (e | ⟨j, hj, hr⟩)
          · exact Or.inl e
          · exact Or.inr ⟨j, hj, (ihj j hj).mpr hr⟩
  exact fun q hq => this (H q) q hq (Nat.le_refl _)
/-- a variable and a term that is none -/
theorem CO.bf {u : Int → Int} {w1 w2 x y q : Int} {t b t' b' : Int → Int} (h : CO u w1 w2 t b) (hq : 32768 ≤ u q) (hxy : ∀ p, TP u w1 w2 p → (u (st u t p) = x ↔ u (st u b p) = y)) (h1 : ∀ p, TP u w1 w2 p → st u t' p = if u (st u t p) = x then q else st u t p) (h2 : ∀ p, TP u w1 w2 p → st u b' p = if u (st u b p) = y then q else st u b p) : CO u w1 w2 t' b' := by
  refine ⟨fun p hp hc => ?_, fun p p' hp hp' => ?_⟩
  · rw [h1 p hp, h2 p hp] at *
    by_cases e : u (st u t p) = x
    · rw [if_pos e, if_pos ((hxy p hp).mp e)]
    · rw [if_neg e, if_neg (fun e2 => e ((hxy p hp).mpr e2))] at *
      exact h.1 p hp hc
  · rw [h1 p hp, h2 p hp, h1 p' hp', h2 p' hp']
    by_cases e : u (st u t p) = x
    · rw [if_pos e]
      intro h3
      omega
    · rw [if_neg e, if_neg (fun e2 => e ((hxy p hp).mpr e2))]
      by_cases e' : u (st u t p') = x
      · rw [if_pos e']
        intro _ h3
        omega
      · rw [if_neg e', if_neg (fun e2 => e' ((hxy p' hp').mpr e2))]
        exact h.2 p p' hp hp'
/-- two variables -/
theorem CO.bv {u : Int → Int} {w1 w2 x y x' y' q q' z z' : Int} {t b t' b' : Int → Int} (h : CO u w1 w2 t b) (hx3 : x < 32768) (hy3 : y < 32768) (hx3' : x' < 32768) (hy3' : y' < 32768) (hq : u q = y) (hzz : (z = x' ∧ z' = y') ∨ (z = y' ∧ z' = x')) (hq' : u q' = z') (hx : ∀ p, TP u w1 w2 p → (u (st u t p) = x ↔ u (st u b p) = x')) (hy : ∀ p, TP u w1 w2 p → (u (st u t p) = y ↔ u (st u b p) = y')) (h1 : ∀ p, TP u w1 w2 p → st u t' p = if u (st u t p) = x then q else st u t p) (h2 : ∀ p, TP u w1 w2 p → st u b' p = if u (st u b p) = z then q' else st u b p) : CO u w1 w2 t' b' := by
  have f1 : ∀ p, TP u w1 w2 p → u (st u t' p) = if u (st u t p) = x then y else u (st u t p) := fun p hp => by
    rw [h1 p hp]
    split
    · exact hq
    · rfl
  have f2 : ∀ p, TP u w1 w2 p → u (st u b' p) = if u (st u b p) = z then z' else u (st u b p) := fun p hp => by
    rw [h2 p hp]
    split
    · exact hq'
    · rfl
  refine ⟨fun p hp hc => ?_, fun p p' hp hp' => ?_⟩
  · rw [f1 p hp, f2 p hp] at hc
    have vv := h.v hp
    have a1 := hx p hp
    have a2 := hy p hp
    have hc2 : ¬ u (st u t p) = x ∧ ¬ u (st u b p) = z ∧ 32768 ≤ u (st u t p) := by
      by_cases e1 : u (st u t p) = x
      · rw [if_pos e1] at hc
        by_cases e2 : u (st u b p) = z
        · rw [if_pos e2] at hc
          omega
        · rw [if_neg e2] at hc
          omega
      · rw [if_neg e1] at hc
        by_cases e2 : u (st u b p) = z
        · rw [if_pos e2] at hc
          omega
        · rw [if_neg e2] at hc
          omega
    rw [h1 p hp, h2 p hp, if_neg hc2.1, if_neg hc2.2.1]
    exact h.1 p hp (Or.inl hc2.2.2)
  · have a1 := hx p hp
    have a2 := hy p hp
    have a3 := hx p' hp'
    have a4 := hy p' hp'
    have v1 := h.v hp
    have v2 := h.v hp'
    have a5 := h.2 p p' hp hp'
    rw [f1 p hp, f2 p hp, f1 p' hp', f2 p' hp']
    by_cases e1 : u (st u t p) = x
    · by_cases e2 : u (st u t p') = x
      · rw [if_pos e1, if_pos e2]
        intro _ _
        have b1 := a1.mp e1
        have b2 := a3.mp e2
        rw [b1, b2]
        constructor
        · intro _; rfl
        · intro _; rfl
      · rw [if_pos e1, if_neg e2]
        intro _ h4
        have b1 := a1.mp e1
        by_cases e3 : u (st u b p) = z
        · rw [if_pos e3]
          by_cases e4 : u (st u b p') = z
          · rw [if_pos e4]; omega
          · rw [if_neg e4]; omega
        · rw [if_neg e3]
          by_cases e4 : u (st u b p') = z
          · rw [if_pos e4]; omega
          · rw [if_neg e4]; omega
    · by_cases e2 : u (st u t p') = x
      · rw [if_neg e1, if_pos e2]
        intro h3 _
        have b2 := a3.mp e2
        by_cases e3 : u (st u b p) = z
        · rw [if_pos e3]
          by_cases e4 : u (st u b p') = z
          · rw [if_pos e4]; omega
          · rw [if_neg e4]; omega
        · rw [if_neg e3]
          by_cases e4 : u (st u b p') = z
          · rw [if_pos e4]; omega
          · rw [if_neg e4]; omega
      · rw [if_neg e1, if_neg e2]
        intro h3 h4
        have a5 := a5 h3 h4
        by_cases e3 : u (st u b p) = z
        · rw [if_pos e3]
          by_cases e4 : u (st u b p') = z
          · rw [if_pos e4]; omega
          · rw [if_neg e4]; omega
        · rw [if_neg e3]
          by_cases e4 : u (st u b p') = z
          · rw [if_pos e4]; omega
          · rw [if_neg e4]; omega
/-- what is bound stays bound -/
def EX (u : Int → Int) (w1 w2 : Int) (t t' : Int → Int) : Prop := ∀ H, RV u w1 w2 t' H → RV u w1 w2 t H
theorem EX.bind {u : Int → Int} {w1 w2 : Int} {t : Int → Int} {v q : Int} (hx : ¬ 0 ≤ t v) : EX u w1 w2 t (upI t v q) := fun H hH => ⟨hH.1, fun p hp hc hb => by
  have : u p / 256 ≠ v := fun e => hx (e ▸ hb)
  have := hH.2.1 p hp hc (by rw [upI_n this]; exact hb)
  rw [upI_n (by assumption)] at this
  exact this, hH.2.2⟩
/-- no head stands for a variable -/
def NB (u : Int → Int) (w1 w2 : Int) (t : Int → Int) : Prop := ∀ p, TP u w1 w2 p → u p < 32768 → 0 ≤ t (u p / 256) → u (t (u p / 256)) < 131072
theorem st_nh {u : Int → Int} {w1 w2 : Int} {t : Int → Int} (hU : PU u w1 w2) (hP : PO u w1 w2 t) (hN : NB u w1 w2 t) : ∀ p, TP u w1 w2 p → u p < 131072 → u (st u t p) < 131072 := by
  refine st_ind hU hP (fun p hp hc h => ?_) (fun p hp hc hb ih h => ?_)
  · rw [st_self hc]; exact h
  · rw [st_step hU hP hp hc hb]
    exact ih (hN p hp hc hb)
