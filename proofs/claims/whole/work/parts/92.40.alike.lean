/-! two terms made alike, by both -/
def IV (u : Int → Int) (w1 w2 : Int) (S T : St) : Prop := PU u w1 w2 ∧ SC u w1 w2 S ∧ SM u w1 w2 T ∧ PO u w1 w2 (S.A 22) ∧ PO u w1 w2 (T.A 47) ∧ CO u w1 w2 (S.A 22) (T.A 47) ∧ NB u w1 w2 (S.A 22) ∧ NB u w1 w2 (T.A 47)
def AN (u : Int → Int) (w1 w2 : Int) (t : Int → Int) (d : Nat) (p : Int) : Prop := ∀ H, RV u w1 w2 t H → H p + d ≤ 31
theorem AN.ex {u : Int → Int} {w1 w2 p : Int} {t t' : Int → Int} {d : Nat} (h : AN u w1 w2 t d p) (e : EX u w1 w2 t t') : AN u w1 w2 t' d p := fun H hH => h H (e H hH)
theorem AN.ag {u : Int → Int} {w1 w2 p : Int} {t : Int → Int} {d j : Nat} (hU : PU u w1 w2) (hP : PO u w1 w2 t) (h : AN u w1 w2 t d p) (hp : TP u w1 w2 p) (hf : 32768 ≤ u (st u t p)) (hj : (j : Int) < u (st u t p) % 256) : AN u w1 w2 t (d + 1) (ag u (st u t p) j) := fun H hH => by
  have ok := st_ok hU hP p hp
  have h1 := ok.2.2 H hH
  have h2 := hH.2.2 _ ok.1 hf j hj
  have h3 := h H hH
  omega
theorem turn_m {u : Int → Int} {w1 w2 l r k : Int} {T : St} {m : Nat} (hU : PU u w1 w2) (hT : SM u w1 w2 T) (hP : PO u w1 w2 (T.A 47)) (hl : TP u w1 w2 l) (hr : TP u w1 w2 r) (k0 : 0 ≤ k) (k1 : k < 640) (e1 : T.A 66 k = l) (e2 : T.A 67 k = r) :
    g144L16 (m + 1) k T = if u (st u (T.A 47) l) < 32768 then (if mo (u (st u (T.A 47) l)) = mo (u (st u (T.A 47) r)) then g144L16 m (k - 1) T else ob (g145 T (mo (u (st u (T.A 47) l))) (st u (T.A 47) r)) (fun o87 => gd (inR o87.1) (if o87.1 = 0 then gd (ixR (mo (u (st u (T.A 47) l))) 128) (g144L16 m (k - 1) (o87.2.a 47 (mo (u (st u (T.A 47) l))) (st u (T.A 47) r))) else some (.inr (0, o87.2))))) else if u (st u (T.A 47) r) < 32768 then ob (g145 T (mo (u (st u (T.A 47) r))) (st u (T.A 47) l)) (fun o81 => gd (inR o81.1) (if o81.1 = 0 then gd (ixR (mo (u (st u (T.A 47) r))) 128) (g144L16 m (k - 1) (o81.2.a 47 (mo (u (st u (T.A 47) r))) (st u (T.A 47) l))) else some (.inr (0, o81.2)))) else if mo (u (st u (T.A 47) l)) = mo (u (st u (T.A 47) r)) then ob (g144L197 (st u (T.A 47) l) (st u (T.A 47) r) FU (k - 1) (u (st u (T.A 47) l) % 256 - 1) T) (fun o70 => g144L16 m o70.1 o70.2) else some (.inr (0, T)) := by
  have ol := st_ok hU hP l hl
  have or' := st_ok hU hP r hr
  have f1 := g121_t hU hT hP hl
  have f2 := g121_t hU hT hP hr
  generalize st u (T.A 47) l = a at *
  generalize st u (T.A 47) r = c at *
  have la := (ol.1.pc hU).lt hU
  have lc := (or'.1.pc hU).lt hU
  have m1 := m122 hU hT (ol.1.pc hU)
  have m2 := m122 hU hT (or'.1.pc hU)
  have m3 := m123 hU hT (ol.1.pc hU)
  have c1 := hT a (ol.1.pc hU)
  have c2 := hT c (or'.1.pc hU)
  rw [g144L16]
  refine (gd_t (by first | exact ⟨by omega, by omega⟩ | exact ⟨by omega, by omega, by omega⟩ | exact ⟨by omega, by omega, by omega, by omega⟩ | omega | exact inR_to _ | assumption | decide)).trans ?_
  rw [if_neg (by omega)]
  refine (gd_t (by first | exact ⟨by omega, by omega⟩ | exact ⟨by omega, by omega, by omega⟩ | exact ⟨by omega, by omega, by omega, by omega⟩ | omega | exact inR_to _ | assumption | decide)).trans ?_
  rw [e1, e2, f1]
  refine (ob_t rfl).trans ?_
  rw [f2]
  refine (ob_t rfl).trans ?_
  refine (gd_t (by first | exact ⟨by omega, by omega⟩ | exact ⟨by omega, by omega, by omega⟩ | exact ⟨by omega, by omega, by omega, by omega⟩ | omega | exact inR_to _ | assumption | decide)).trans ?_
  rw [m1]
  refine (ob_t rfl).trans ?_
  refine (gd_t (by first | exact ⟨by omega, by omega⟩ | exact ⟨by omega, by omega, by omega⟩ | exact ⟨by omega, by omega, by omega, by omega⟩ | omega | exact inR_to _ | assumption | decide)).trans ?_
  rw [m2]
  refine (ob_t rfl).trans ?_
  rw [c1] at m3
  rw [c1, c2, m3]
  by_cases h1 : u a < 32768
  · rw [if_pos h1, if_pos h1]
    refine (gd_t (by first | exact ⟨by omega, by omega⟩ | exact ⟨by omega, by omega, by omega⟩ | exact ⟨by omega, by omega, by omega, by omega⟩ | omega | exact inR_to _ | assumption | decide)).trans ?_
    rw [if_neg (by decide)]
    rfl
  · rw [if_neg h1, if_neg h1]
    refine (gd_t (by first | exact ⟨by omega, by omega⟩ | exact ⟨by omega, by omega, by omega⟩ | exact ⟨by omega, by omega, by omega, by omega⟩ | omega | exact inR_to _ | assumption | decide)).trans ?_
    rw [if_pos rfl]
    by_cases h2 : u c < 32768
    · rw [if_pos h2, if_pos h2]
      refine (gd_t (by first | exact ⟨by omega, by omega⟩ | exact ⟨by omega, by omega, by omega⟩ | exact ⟨by omega, by omega, by omega, by omega⟩ | omega | exact inR_to _ | assumption | decide)).trans ?_
      rw [if_neg (by decide)]
      rfl
    · rw [if_neg h2, if_neg h2]
      refine (gd_t (by first | exact ⟨by omega, by omega⟩ | exact ⟨by omega, by omega, by omega⟩ | exact ⟨by omega, by omega, by omega, by omega⟩ | omega | exact inR_to _ | assumption | decide)).trans ?_
      rw [if_pos rfl]
      rfl
theorem call_c {u : Int → Int} {w1 w2 p q : Int} {S : St} {f d : Nat} (hU : PU u w1 w2) (hS : SC u w1 w2 S) (hP : PO u w1 w2 (S.A 22)) (hp : TP u w1 w2 p) (hq : TP u w1 w2 q) (hd : d < 40) :
    g69 (f + 1) S p q d = if u (st u (S.A 22) p) < 32768 then (if u (st u (S.A 22) p) = u (st u (S.A 22) q) then some (1, S) else ob (g71 64 S (u (st u (S.A 22) p)) (st u (S.A 22) q) 0) (fun o11 => gd (inR o11) (if o11 = 0 then gd (ixR (u (st u (S.A 22) p) / 256) 32) (some (1, (S.a 22 (u (st u (S.A 22) p) / 256) (st u (S.A 22) q)))) else some (0, S)))) else if u (st u (S.A 22) q) < 32768 then ob (g71 64 S (u (st u (S.A 22) q)) (st u (S.A 22) p) 0) (fun o11 => gd (inR o11) (if o11 = 0 then gd (ixR (u (st u (S.A 22) q) / 256) 32) (some (1, (S.a 22 (u (st u (S.A 22) q) / 256) (st u (S.A 22) p)))) else some (0, S))) else if d = 0 ∨ u (st u (S.A 22) q) = u (st u (S.A 22) p) then obr (g69L183 (g69 f) d (u (st u (S.A 22) q) % 256) FU (st u (S.A 22) q + 1) (st u (S.A 22) p + 1) 0 S) (fun o => some (1, o)) else some (0, S) := by
  have ol := st_ok hU hP p hp
  have or' := st_ok hU hP q hq
  have f1 := g70_t hU hS hP hp
  have f2 := g70_t hU hS hP hq
  generalize st u (S.A 22) p = a at *
  generalize st u (S.A 22) q = c at *
  have la := (ol.1.pc hU).lt hU
  have lc := (or'.1.pc hU).lt hU
  have c1 := hS a (ol.1.pc hU)
  have c2 := hS c (or'.1.pc hU)
  show g69b (g69 f) S p q d = _
  unfold g69b
  rw [f1]
  refine (ob_t rfl).trans ?_
  rw [f2]
  refine (ob_t rfl).trans ?_
  refine (gd_t (by first | exact ⟨by omega, by omega⟩ | exact ⟨by omega, by omega, by omega⟩ | exact ⟨by omega, by omega, by omega, by omega⟩ | omega | exact inR_to _ | assumption | decide)).trans ?_
  rw [c1, c2]
  by_cases h1 : u a < 32768
  · rw [if_pos h1, if_pos h1]
    refine (gd_t (by first | exact ⟨by omega, by omega⟩ | exact ⟨by omega, by omega, by omega⟩ | exact ⟨by omega, by omega, by omega, by omega⟩ | omega | exact inR_to _ | assumption | decide)).trans ?_
    rw [if_pos rfl]
    refine (gd_t (by first | exact ⟨by omega, by omega⟩ | exact ⟨by omega, by omega, by omega⟩ | exact ⟨by omega, by omega, by omega, by omega⟩ | omega | exact inR_to _ | assumption | decide)).trans ?_
    rfl
  · rw [if_neg h1, if_neg h1]
    refine (gd_t (by first | exact ⟨by omega, by omega⟩ | exact ⟨by omega, by omega, by omega⟩ | exact ⟨by omega, by omega, by omega, by omega⟩ | omega | exact inR_to _ | assumption | decide)).trans ?_; refine (gd_t (by first | exact ⟨by omega, by omega⟩ | exact ⟨by omega, by omega, by omega⟩ | exact ⟨by omega, by omega, by omega, by omega⟩ | omega | exact inR_to _ | assumption | decide)).trans ?_
    by_cases he : c = a
    · rw [if_pos he]
      subst he
      refine (gd_t (by first | exact ⟨by omega, by omega⟩ | exact ⟨by omega, by omega, by omega⟩ | exact ⟨by omega, by omega, by omega, by omega⟩ | omega | exact inR_to _ | assumption | decide)).trans ?_
      rw [if_neg h1, if_neg h1]
      refine (gd_t (by first | exact ⟨by omega, by omega⟩ | exact ⟨by omega, by omega, by omega⟩ | exact ⟨by omega, by omega, by omega, by omega⟩ | omega | exact inR_to _ | assumption | decide)).trans ?_
      rw [if_pos (show d = 0 ∨ u c = u c from Or.inr rfl)]
      by_cases hd0 : (d : Int) = 0
      · rw [if_pos hd0, if_pos (by omega), if_pos rfl]
      · rw [if_neg hd0, if_pos (by omega), if_pos rfl]
    · rw [if_neg he]
      refine (gd_t (by first | exact ⟨by omega, by omega⟩ | exact ⟨by omega, by omega, by omega⟩ | exact ⟨by omega, by omega, by omega, by omega⟩ | omega | exact inR_to _ | assumption | decide)).trans ?_
      by_cases h2 : u c < 32768
      · rw [if_pos h2, if_pos h2, if_neg (by omega)]
      · rw [if_neg h2, if_neg h2]
        refine (gd_t (by first | exact ⟨by omega, by omega⟩ | exact ⟨by omega, by omega, by omega⟩ | exact ⟨by omega, by omega, by omega, by omega⟩ | omega | exact inR_to _ | assumption | decide)).trans ?_
        by_cases hd0 : d = 0
        · rw [if_pos (show d = 0 ∨ u c = u a from Or.inl hd0), if_pos (show (d : Int) = 0 by omega), if_pos (by omega)]
          split <;> rfl
        · rw [if_neg (show ¬ (d : Int) = 0 by omega), if_pos (by omega)]
          by_cases h3 : u c = u a
          · rw [if_pos h3, if_pos (Or.inr h3)]
          · rw [if_neg h3, if_neg (fun h => h.elim hd0 h3)]
/-- what stands below on the other's stacks -/
def LO (k : Int) (T T' : St) : Prop := ∀ i : Int, i < k → T'.A 66 i = T.A 66 i ∧ T'.A 67 i = T.A 67 i
theorem LO.refl (k : Int) (T : St) : LO k T T := fun _ _ => ⟨rfl, rfl⟩
theorem LO.trans {k k' : Int} {T U W : St} (h : LO k T U) (g : LO k' U W) (hk : k ≤ k') : LO k T W := fun i hi => ⟨(g i (by omega)).1.trans (h i hi).1, (g i (by omega)).2.trans (h i hi).2⟩
theorem Fr.lo {k : Int} {T U : St} {X : List Nat} (h : Fr X T U) (h1 : 66 ∉ X) (h2 : 67 ∉ X) : LO k T U := fun i _ => by rw [h.A h1, h.A h2]; exact ⟨rfl, rfl⟩
/-- how both go on -/
def AS (u : Int → Int) (w1 w2 : Int) (S T : St) (k k' : Int) (n c : Nat) (res : Option (Sum St (Int × St))) : Prop := ∃ S', Fr [22] S S' ∧ ((res = some (.inl S') ∧ ∃ T' n', g144L16 n k T = g144L16 n' k' T' ∧ n ≤ n' + c ∧ Fr [47, 65, 66, 67] T T' ∧ LO (k' + 1) T T' ∧ IV u w1 w2 S' T' ∧ EX u w1 w2 (S.A 22) (S'.A 22) ∧ EX u w1 w2 (T.A 47) (T'.A 47)) ∨ (res = some (.inr (0, S')) ∧ ∃ T', g144L16 n k T = some (.inr (0, T')) ∧ Fr [47, 65, 66, 67] T T'))
/-- an answer as the loop reads it -/
def rs (x : Option (Int × St)) : Option (Sum St (Int × St)) := match x with
  | some (a, S) => if a = 1 then some (.inl S) else if a = 0 then some (.inr (0, S)) else none
  | none => none
theorem rs_1 (S : St) : rs (some (1, S)) = some (.inl S) := rfl
theorem rs_0 (S : St) : rs (some (0, S)) = some (.inr (0, S)) := rfl
theorem rs_l {x : Option (Int × St)} {S : St} (h : rs x = some (.inl S)) : x = some (1, S) := by
  match x, h with
  | some (a, U), h =>
    unfold rs at h
    by_cases h1 : a = 1
    · subst h1
      have h : some (Sum.inl U) = (some (Sum.inl S) : Option (Sum St (Int × St))) := h
      injection h with h
      injection h with h
      rw [h]
    · have h : (if a = 1 then some (Sum.inl U) else if a = 0 then some (Sum.inr (0, U)) else none) = (some (Sum.inl S) : Option (Sum St (Int × St))) := h
      rw [if_neg h1] at h
      split at h <;> cases h
theorem rs_r {x : Option (Int × St)} {S : St} (h : rs x = some (.inr (0, S))) : x = some (0, S) := by
  match x, h with
  | some (a, U), h =>
    have h : (if a = 1 then some (Sum.inl U) else if a = 0 then some (Sum.inr (0, U)) else none) = (some (Sum.inr (0, S)) : Option (Sum St (Int × St))) := h
    by_cases h1 : a = 1
    · rw [if_pos h1] at h
      cases h
    · rw [if_neg h1] at h
      by_cases h0 : a = 0
      · rw [if_pos h0] at h
        injection h with h
        injection h with h
        injection h with _ h
        rw [h0, h]
      · rw [if_neg h0] at h
        cases h
theorem g144L197_t {u : Int → Int} {w1 w2 a c : Int} (hU : PU u w1 w2) (ha : TP u w1 w2 a) (hc : TP u w1 w2 c) (hac : u a % 256 = u c % 256) : ∀ (j n : Nat) (v : Int) (T : St), SM u w1 w2 T → (j : Int) ≤ u a % 256 → -1 ≤ v → v + j < 600 → j < n → ∃ T', g144L197 a c n v ((j : Int) - 1) T = some (v + j, T') ∧ Fr [66, 67] T T' ∧ LO (v + 1) T T' ∧ ∀ i : Nat, i < j → T'.A 66 (v + (j - i)) = ag u a i ∧ T'.A 67 (v + (j - i)) = ag u c i := by
  intro j
  induction j with
  | zero =>
    intro n v T hT hj v0 v1 hn
    obtain ⟨n, rfl⟩ : ∃ k, n = k + 1 := ⟨n - 1, by omega⟩
    refine ⟨T, ?_, Fr.refl _ _, LO.refl _ _, fun i hi => absurd hi (Nat.not_lt_zero _)⟩
    unfold g144L197
    refine (gd_t (by first | exact ⟨by omega, by omega⟩ | exact ⟨by omega, by omega, by omega⟩ | exact ⟨by omega, by omega, by omega, by omega⟩ | omega | exact inR_to _ | assumption | decide)).trans ?_
    rw [if_pos (by omega), show v + ((0 : Nat) : Int) = v by omega]
  | succ j ih =>
    intro n v T hT hj v0 v1 hn
    obtain ⟨n, rfl⟩ : ∃ k, n = k + 1 := ⟨n - 1, by omega⟩
    have ja : (j : Int) < u a % 256 := by omega
    have jc : (j : Int) < u c % 256 := by omega
    have la := ((ag_TP hU ha ja).1.pc hU).lt hU
    have lc := ((ag_TP hU hc jc).1.pc hU).lt hU
    have d66 : ((T.a 66 (v + 1) (ag u a j)).a 67 (v + 1) (ag u c j)).A 66 = upI (T.A 66) (v + 1) (ag u a j) := (aA_ne (by decide)).trans (aA_up (by omega))
    have d67 : ((T.a 66 (v + 1) (ag u a j)).a 67 (v + 1) (ag u c j)).A 67 = upI (T.A 67) (v + 1) (ag u c j) := (aA_up (by omega)).trans (by rw [aA_ne (by decide)])
    have hT1 : SM u w1 w2 (T.a 66 (v + 1) (ag u a j)) := fun p hp => hT p hp
    obtain ⟨T', t1, t2, t3, t4⟩ := ih n (v + 1) ((T.a 66 (v + 1) (ag u a j)).a 67 (v + 1) (ag u c j)) (fun p hp => hT p hp) (by omega) (by omega) (by omega) (by omega)
    refine ⟨T', ?_, ((Fr.a (by decide)).trans (Fr.a (by decide))).trans t2, fun i hi => ?_, fun i hi => ?_⟩
    · rw [g144L197]
      refine (gd_t (by first | exact ⟨by omega, by omega⟩ | exact ⟨by omega, by omega, by omega⟩ | exact ⟨by omega, by omega, by omega, by omega⟩ | omega | exact inR_to _ | assumption | decide)).trans ?_
      rw [if_neg (by omega), show ((j + 1 : Nat) : Int) - 1 = j by omega, g124_t hU hT ha ja]
      refine (ob_t rfl).trans ?_
      refine (gd_t (by first | exact ⟨by omega, by omega⟩ | exact ⟨by omega, by omega, by omega⟩ | exact ⟨by omega, by omega, by omega, by omega⟩ | omega | exact inR_to _ | assumption | decide)).trans ?_
      rw [g124_t hU hT1 hc jc]
      refine (ob_t rfl).trans ?_
      rw [show (v : Int) + ((j + 1 : Nat) : Int) = v + 1 + j by omega]
      exact t1
    · have := t3 i (by omega)
      rw [d66, d67, upI_n (by omega), upI_n (by omega)] at this
      exact this
    · by_cases hij : i = j
      · subst hij
        have := t3 (v + 1) (by omega)
        rw [d66, d67, upI_e, upI_e] at this
        rw [show v + (((i + 1 : Nat) : Int) - (i : Int)) = v + 1 by omega]
        exact this
      · have := t4 i (by omega)
        rw [show v + 1 + ((j : Int) - (i : Int)) = v + (((j + 1 : Nat) : Int) - (i : Int)) by omega] at this
        exact this
