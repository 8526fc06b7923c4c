/-! where a place leads -/
def sl (u t : Int → Int) : Nat → Int → Int
  | 0, p => p
  | n + 1, p => if u p < 32768 ∧ 0 ≤ t (u p / 256) then sl u t n (t (u p / 256)) else p
def st (u t : Int → Int) (p : Int) : Int := sl u t 32 p
/-- a rank: it falls from a place to the places below it -/
def RV (u : Int → Int) (w1 w2 : Int) (t : Int → Int) (H : Int → Nat) : Prop := (∀ p, TP u w1 w2 p → H p < 32) ∧ (∀ p, TP u w1 w2 p → u p < 32768 → 0 ≤ t (u p / 256) → H (t (u p / 256)) < H p) ∧ ∀ p, TP u w1 w2 p → 32768 ≤ u p → ∀ j : Nat, (j : Int) < u p % 256 → H (ag u p j) < H p
def OB (u : Int → Int) (w1 w2 : Int) (t : Int → Int) : Prop := ∀ p, TP u w1 w2 p → u p < 32768 → t (u p / 256) = -1 ∨ TP u w1 w2 (t (u p / 256))
def PO (u : Int → Int) (w1 w2 : Int) (t : Int → Int) : Prop := OB u w1 w2 t ∧ ∃ H, RV u w1 w2 t H
theorem TP.v {u : Int → Int} {w1 w2 p : Int} (hU : PU u w1 w2) (h : TP u w1 w2 p) (hv : u p < 32768) : 0 ≤ u p / 256 ∧ u p / 256 < 32 ∧ u p % 256 = 0 := by
  have := hU.2.2.2.2 p (h.pc hU)
  have h2 := this.1
  have h3 := this.2 hv
  unfold vx at h2
  omega
theorem OB.tp {u : Int → Int} {w1 w2 p : Int} {t : Int → Int} (hU : PU u w1 w2) (hB : OB u w1 w2 t) (h : TP u w1 w2 p) (hv : u p < 32768) (hb : 0 ≤ t (u p / 256)) : TP u w1 w2 (t (u p / 256)) := by
  rcases hB p h hv with e | e
  · omega
  · exact e
theorem sl_s {u : Int → Int} {w1 w2 : Int} {t : Int → Int} {H : Int → Nat} (hU : PU u w1 w2) (hB : OB u w1 w2 t) (hH : RV u w1 w2 t H) : ∀ (n m : Nat) (p : Int), TP u w1 w2 p → H p ≤ n → H p ≤ m → sl u t n p = sl u t m p := by
  intro n
  induction n with
  | zero =>
    intro m p hp h1 h2
    cases m with
    | zero => rfl
    | succ m =>
      show p = if u p < 32768 ∧ 0 ≤ t (u p / 256) then _ else p
      rw [if_neg (fun hc => by have := hH.2.1 p hp hc.1 hc.2; omega)]
  | succ n ih =>
    intro m p hp h1 h2
    by_cases hc : u p < 32768 ∧ 0 ≤ t (u p / 256)
    · have hh := hH.2.1 p hp hc.1 hc.2
      cases m with
      | zero => omega
      | succ m =>
        show (if u p < 32768 ∧ 0 ≤ t (u p / 256) then sl u t n (t (u p / 256)) else p) = if u p < 32768 ∧ 0 ≤ t (u p / 256) then sl u t m (t (u p / 256)) else p
        rw [if_pos hc, if_pos hc]
        exact ih m _ (hB.tp hU hp hc.1 hc.2) (by omega) (by omega)
    · have e : sl u t (n + 1) p = p := if_neg hc
      rw [e]
      cases m with
      | zero => rfl
      | succ m => exact (if_neg hc).symm
theorem st_step {u : Int → Int} {w1 w2 p : Int} {t : Int → Int} (hU : PU u w1 w2) (hP : PO u w1 w2 t) (hp : TP u w1 w2 p) (hc : u p < 32768) (hb : 0 ≤ t (u p / 256)) : st u t p = st u t (t (u p / 256)) := by
  obtain ⟨hB, H, hH⟩ := hP
  have hh := hH.2.1 p hp hc hb
  have h3 := hH.1 p hp
  have e : st u t p = sl u t 31 (t (u p / 256)) := if_pos ⟨hc, hb⟩
  rw [e]
  exact sl_s hU hB hH _ _ _ (hB.tp hU hp hc hb) (by omega) (by omega)
theorem st_self {u t : Int → Int} {p : Int} (hc : ¬ (u p < 32768 ∧ 0 ≤ t (u p / 256))) : st u t p = p := if_neg hc
theorem st_ind {u : Int → Int} {w1 w2 : Int} {t : Int → Int} (hU : PU u w1 w2) (hP : PO u w1 w2 t) {P : Int → Prop} (h0 : ∀ p, TP u w1 w2 p → ¬ (u p < 32768 ∧ 0 ≤ t (u p / 256)) → P p) (h1 : ∀ p, TP u w1 w2 p → u p < 32768 → 0 ≤ t (u p / 256) → P (t (u p / 256)) → P p) : ∀ p, TP u w1 w2 p → P p := by
  obtain ⟨hB, H, hH⟩ := hP
  have : ∀ (k : Nat) (p : Int), TP u w1 w2 p → H p ≤ k → P p := by
    intro k
    induction k with
    | zero =>
      intro p hp hk
      exact h0 p hp (fun hc => by have := hH.2.1 p hp hc.1 hc.2; omega)
    | succ k ih =>
      intro p hp hk
      by_cases hc : u p < 32768 ∧ 0 ≤ t (u p / 256)
      · have hh := hH.2.1 p hp hc.1 hc.2
        exact h1 p hp hc.1 hc.2 (ih _ (hB.tp hU hp hc.1 hc.2) (by omega))
      · exact h0 p hp hc
  exact fun p hp => this (H p) p hp (Nat.le_refl _)
theorem st_ok {u : Int → Int} {w1 w2 : Int} {t : Int → Int} (hU : PU u w1 w2) (hP : PO u w1 w2 t) : ∀ p, TP u w1 w2 p → TP u w1 w2 (st u t p) ∧ ¬ (u (st u t p) < 32768 ∧ 0 ≤ t (u (st u t p) / 256)) ∧ ∀ H, RV u w1 w2 t H → H (st u t p) ≤ H p := by
  refine st_ind hU hP (fun p hp hc => ?_) (fun p hp hc hb ih => ?_)
  · rw [st_self hc]
    exact ⟨hp, hc, fun _ _ => Nat.le_refl _⟩
  · rw [st_step hU hP hp hc hb]
    exact ⟨ih.1, ih.2.1, fun H hH => by have := ih.2.2 H hH; have := hH.2.1 p hp hc hb; omega⟩
theorem st_fix {u : Int → Int} {w1 w2 p : Int} {t : Int → Int} (hU : PU u w1 w2) (hP : PO u w1 w2 t) (hp : TP u w1 w2 p) : st u t (st u t p) = st u t p := st_self (st_ok hU hP p hp).2.1
theorem g70L4_t {u : Int → Int} {w1 w2 : Int} {S : St} {H : Int → Nat} (hU : PU u w1 w2) (hS : SC u w1 w2 S) (hB : OB u w1 w2 (S.A 22)) (hH : RV u w1 w2 (S.A 22) H) : ∀ (n : Nat) (p v : Int), TP u w1 w2 p → 0 ≤ v → v + H p ≤ 31 → H p < n → g70L4 S n p v = some (.inr (st u (S.A 22) p)) := by
  have hP : PO u w1 w2 (S.A 22) := ⟨hB, H, hH⟩
  intro n
  induction n with
  | zero => intro p v _ _ _ h; omega
  | succ n ih =>
    intro p v hp v0 h1 h2
    have hl := (hp.pc hU).lt hU
    rw [g70L4]
    refine (gd_t (by first | exact ⟨by omega, by omega⟩ | exact ⟨by omega, by omega, by omega⟩ | exact ⟨by omega, by omega, by omega, by omega⟩ | omega | exact inR_to _ | assumption | decide)).trans ?_
    rw [if_pos (by omega)]
    refine (gd_t (by first | exact ⟨by omega, by omega⟩ | exact ⟨by omega, by omega, by omega⟩ | exact ⟨by omega, by omega, by omega, by omega⟩ | omega | exact inR_to _ | assumption | decide)).trans ?_
    rw [hS p (hp.pc hU)]
    by_cases hc : u p < 32768
    · have hv := hp.v hU hc
      rw [if_pos hc]
      refine (gd_t (by first | exact ⟨by omega, by omega⟩ | exact ⟨by omega, by omega, by omega⟩ | exact ⟨by omega, by omega, by omega, by omega⟩ | omega | exact inR_to _ | assumption | decide)).trans ?_
      by_cases hb : S.A 22 (u p / 256) = -1
      · rw [if_pos hb, st_self (fun h => by omega)]
      · rw [if_neg hb]
        have hb0 : 0 ≤ S.A 22 (u p / 256) := by
          rcases hB p hp hc with e | e
          · exact absurd e hb
          · exact ((e.pc hU).lt hU).1
        have hh := hH.2.1 p hp hc hb0
        rw [st_step hU hP hp hc hb0]
        exact ih _ _ (hB.tp hU hp hc hb0) (by omega) (by omega) (by omega)
    · rw [if_neg hc, st_self (fun h => hc h.1)]
theorem g70_t {u : Int → Int} {w1 w2 p : Int} {S : St} (hU : PU u w1 w2) (hS : SC u w1 w2 S) (hP : PO u w1 w2 (S.A 22)) (hp : TP u w1 w2 p) : g70 S p = some (st u (S.A 22) p) := by
  obtain ⟨hB, H, hH⟩ := hP
  obtain ⟨m9, hm9⟩ := FU_ge (n := 300) (by decide)
  have := hH.1 p hp
  unfold g70
  rw [g70L4_t hU hS hB hH FU p 0 hp (by omega) (by omega) (by omega)]
  rfl
theorem g121L2_t {u : Int → Int} {w1 w2 : Int} {T : St} {H : Int → Nat} (hU : PU u w1 w2) (hT : SM u w1 w2 T) (hB : OB u w1 w2 (T.A 47)) (hH : RV u w1 w2 (T.A 47) H) : ∀ (n : Nat) (p : Int), TP u w1 w2 p → H p < n → g121L2 T n p = some (st u (T.A 47) p) := by
  have hP : PO u w1 w2 (T.A 47) := ⟨hB, H, hH⟩
  intro n
  induction n with
  | zero => intro p _ h; omega
  | succ n ih =>
    intro p hp h2
    have hl := (hp.pc hU).lt hU
    rw [g121L2]
    refine (gd_t (by first | exact ⟨by omega, by omega⟩ | exact ⟨by omega, by omega, by omega⟩ | exact ⟨by omega, by omega, by omega, by omega⟩ | omega | exact inR_to _ | assumption | decide)).trans ?_
    rw [m122 hU hT (hp.pc hU)]
    by_cases hc : u p < 32768
    · have hv := hp.v hU hc
      rw [if_pos hc]
      refine (ob_t rfl).trans ?_
      refine (gd_t (by first | exact ⟨by omega, by omega⟩ | exact ⟨by omega, by omega, by omega⟩ | exact ⟨by omega, by omega, by omega, by omega⟩ | omega | exact inR_to _ | assumption | decide)).trans ?_
      rw [if_neg (by decide), hT p (hp.pc hU), mo_var hc]
      refine (gd_t (by first | exact ⟨by omega, by omega⟩ | exact ⟨by omega, by omega, by omega⟩ | exact ⟨by omega, by omega, by omega, by omega⟩ | omega | exact inR_to _ | assumption | decide)).trans ?_
      by_cases hb : T.A 47 (u p / 256) < 0
      · rw [if_pos hb, st_self (fun h => by omega)]
      · rw [if_neg hb]
        have hh := hH.2.1 p hp hc (by omega)
        rw [st_step hU hP hp hc (by omega)]
        exact ih _ (hB.tp hU hp hc (by omega)) (by omega)
    · rw [if_neg hc, st_self (fun h => hc h.1)]
      refine (ob_t rfl).trans ?_
      refine (gd_t (by first | exact ⟨by omega, by omega⟩ | exact ⟨by omega, by omega, by omega⟩ | exact ⟨by omega, by omega, by omega, by omega⟩ | omega | exact inR_to _ | assumption | decide)).trans ?_
      rw [if_pos rfl]
theorem g121_t {u : Int → Int} {w1 w2 p : Int} {T : St} (hU : PU u w1 w2) (hT : SM u w1 w2 T) (hP : PO u w1 w2 (T.A 47)) (hp : TP u w1 w2 p) : g121 T p = some (st u (T.A 47) p) := by
  obtain ⟨hB, H, hH⟩ := hP
  obtain ⟨m9, hm9⟩ := FU_ge (n := 300) (by decide)
  have := hH.1 p hp
  unfold g121
  rw [g121L2_t hU hT hB hH FU p hp (by omega)]
  rfl
/-! ranks that stay small -/
theorem cp_le {P Q : Nat → Bool} : ∀ l : List Nat, (∀ x ∈ l, P x = true → Q x = true) → l.countP P ≤ l.countP Q
  | [], _ => Nat.le_refl _
  | x :: l, h => by
    have ih := cp_le l (fun y hy => h y (List.mem_cons_of_mem _ hy))
    have hx := h x List.mem_cons_self
    rw [List.countP_cons, List.countP_cons]
    by_cases hp : P x = true
    · rw [if_pos hp, if_pos (hx hp)]; omega
    · rw [if_neg hp]; omega
theorem cp_lt {P Q : Nat → Bool} : ∀ l : List Nat, (∀ x ∈ l, P x = true → Q x = true) → (∃ x ∈ l, P x = false ∧ Q x = true) → l.countP P < l.countP Q
  | [], _, ⟨x, hx, _⟩ => absurd hx List.not_mem_nil
  | x :: l, h, ⟨z, hz, z1, z2⟩ => by
    have ih := cp_le l (fun y hy => h y (List.mem_cons_of_mem _ hy))
    have hx := h x List.mem_cons_self
    rw [List.countP_cons, List.countP_cons]
    rcases List.mem_cons.mp hz with e | e
    · subst e
      rw [if_neg (by rw [z1]; decide), if_pos z2]
      omega
    · have ih2 := cp_lt l (fun y hy => h y (List.mem_cons_of_mem _ hy)) ⟨z, e, z1, z2⟩
      by_cases hp : P x = true
      · rw [if_pos hp, if_pos (hx hp)]; omega
      · rw [if_neg hp]; omega
def crk (H : Int → Nat) (p : Int) : Nat := (List.range 32).countP (fun (z : Nat) => decide (H (z : Int) < H p))
theorem crk_lt {H : Int → Nat} {p q : Int} (h : H p < H q) (p0 : 0 ≤ p) (p1 : p < 32) : crk H p < crk H q := by
  unfold crk
  refine cp_lt _ (fun x _ hx => decide_eq_true (by have := of_decide_eq_true hx; omega)) ⟨p.toNat, List.mem_range.mpr (by omega), decide_eq_false ?_, decide_eq_true ?_⟩
  · rw [show (p.toNat : Int) = p by omega]; omega
  · rw [show (p.toNat : Int) = p by omega]; exact h
theorem crk_32 {H : Int → Nat} {p : Int} (p0 : 0 ≤ p) (p1 : p < 32) : crk H p < 32 := by
  have : crk H p < (List.range 32).countP (fun _ => true) := by
    unfold crk
    refine cp_lt _ (fun _ _ _ => rfl) ⟨p.toNat, List.mem_range.mpr (by omega), decide_eq_false ?_, rfl⟩
    rw [show (p.toNat : Int) = p by omega]; omega
  have e : (List.range 32).countP (fun _ => true) = 32 := by decide
  omega
theorem RV.mk {u : Int → Int} {w1 w2 : Int} {t : Int → Int} {H : Int → Nat} (hU : PU u w1 w2) (hB : OB u w1 w2 t) (h1 : ∀ p, TP u w1 w2 p → u p < 32768 → 0 ≤ t (u p / 256) → H (t (u p / 256)) < H p) (h2 : ∀ p, TP u w1 w2 p → 32768 ≤ u p → ∀ j : Nat, (j : Int) < u p % 256 → H (ag u p j) < H p) : RV u w1 w2 t (crk H) := by
  refine ⟨fun p hp => ?_, fun p hp hc hb => ?_, fun p hp hc j hj => ?_⟩
  · have := (hp.pc hU).lt hU
    exact crk_32 this.1 this.2
  · have := ((hB.tp hU hp hc hb).pc hU).lt hU
    exact crk_lt (h1 p hp hc hb) this.1 this.2
  · have := ((ag_TP hU hp hj).1.pc hU).lt hU
    exact crk_lt (h2 p hp hc j hj) this.1 this.2
theorem PO.none {u : Int → Int} {w1 w2 : Int} {t : Int → Int} (hU : PU u w1 w2) (h : ∀ p, TP u w1 w2 p → u p < 32768 → t (u p / 256) = -1) : PO u w1 w2 t := by
  have hB : OB u w1 w2 t := fun p hp hc => Or.inl (h p hp hc)
  refine ⟨hB, crk (fun p => (32 - p).toNat), RV.mk hU hB (fun p hp hc hb => ?_) (fun p hp hc j hj => ?_)⟩
  · rw [h p hp hc] at hb
    omega
  · have q := ag_TP hU hp hj
    have := (hp.pc hU).lt hU
    show (32 - ag u p j).toNat < (32 - p).toNat
    omega
