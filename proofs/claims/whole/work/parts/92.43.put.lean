/-! the first object writes a term into its draft -/
theorem CP.big {S : St} {a : Option (List (List Int))} {w w' : List Int} (h : CP_15 S a w) (hb : S.F 15 3 ≠ 0) : CP_15 S a (w ++ w') := by
  refine ⟨h.1, ?_⟩
  match a, h with
  | none, h => exact h.2
  | some a, h =>
    have h2 : if 16 < w.length then S.F 15 3 = 1 else (S.F 15 3 = 0 ∧ _) := h.2
    by_cases hw : 16 < w.length
    · rw [if_pos hw] at h2
      show if 16 < (w ++ w').length then S.F 15 3 = 1 else _
      rw [if_pos (by rw [List.length_append]; omega)]
      exact h2
    · rw [if_neg hw] at h2
      exact absurd h2.1 hb
theorem g73L_t {u : Int → Int} {w1 w2 q d : Int} {t : Int → Int} {rc : St → Int → Int → Option St} {a : Option (List (List Int))} {ar : Nat} (hU : PU u w1 w2) (hq : TP u w1 w2 q) (har : (ar : Int) = u q % 256) (hrc : ∀ (j : Nat) (S : St) (w : List Int), (j : Int) < u q % 256 → SC u w1 w2 S → S.A 22 = t → CP_15 S a w → ∃ S', rc S (ag u q j) (d + 1) = some S' ∧ Fr [15, 16, 17, 18] S S' ∧ CP_15 S' a (w ++ XP u t (ag u q j))) : ∀ (i n j : Nat) (S : St) (w : List Int), j + i = ar → i < n → SC u w1 w2 S → S.A 22 = t → CP_15 S a w → ∃ S', g73_15L52 rc d (u q % 256) n (ag u q j) j S = some S' ∧ Fr [15, 16, 17, 18] S S' ∧ CP_15 S' a (w ++ xa (XP u t) u q i j) := by
  have a15 := ar_15 hU hq
  intro i
  induction i with
  | zero =>
    intro n j S w hj hn hS hA hC
    obtain ⟨n, rfl⟩ : ∃ k, n = k + 1 := ⟨n - 1, by omega⟩
    refine ⟨S, ?_, Fr.refl _ _, ?_⟩
    · unfold g73_15L52
      refine (gd_t (by first | exact ⟨by omega, by omega⟩ | exact ⟨by omega, by omega, by omega⟩ | exact ⟨by omega, by omega, by omega, by omega⟩ | omega | exact inR_to _ | assumption | decide)).trans ?_
      refine (gd_t (by first | exact ⟨by omega, by omega⟩ | exact ⟨by omega, by omega, by omega⟩ | exact ⟨by omega, by omega, by omega, by omega⟩ | omega | exact inR_to _ | assumption | decide)).trans ?_
      rw [if_neg (by omega)]
    · show CP_15 S a (w ++ [])
      rw [List.append_nil]
      exact hC
  | succ i ih =>
    intro n j S w hj hn hS hA hC
    obtain ⟨n, rfl⟩ : ∃ k, n = k + 1 := ⟨n - 1, by omega⟩
    have hjq : (j : Int) < u q % 256 := by omega
    by_cases hb : S.F 15 3 = 0
    · obtain ⟨S1, p1, p2, p3⟩ := hrc j S w hjq hS hA hC
      have hS1 := hS.fr p2 (by decide)
      obtain ⟨S2, q1, q2, q3⟩ := ih n (j + 1) S1 _ (by omega) (by omega) hS1 ((p2.A (by decide)).trans hA) p3
      refine ⟨S2, ?_, p2.trans q2, ?_⟩
      · rw [g73_15L52]
        refine (gd_t (by first | exact ⟨by omega, by omega⟩ | exact ⟨by omega, by omega, by omega⟩ | exact ⟨by omega, by omega, by omega, by omega⟩ | omega | exact inR_to _ | assumption | decide)).trans ?_
        refine (gd_t (by first | exact ⟨by omega, by omega⟩ | exact ⟨by omega, by omega, by omega⟩ | exact ⟨by omega, by omega, by omega, by omega⟩ | omega | exact inR_to _ | assumption | decide)).trans ?_
        rw [if_pos hjq, if_pos hb, p1]
        refine (ob_t rfl).trans ?_
        rw [end_c hU hS1 (ag_TP hU hq hjq).1]
        exact q1
      · rw [List.append_assoc] at q3
        exact q3
    · refine ⟨S, ?_, Fr.refl _ _, CP.big hC hb⟩
      rw [g73_15L52]
      refine (gd_t (by first | exact ⟨by omega, by omega⟩ | exact ⟨by omega, by omega, by omega⟩ | exact ⟨by omega, by omega, by omega, by omega⟩ | omega | exact inR_to _ | assumption | decide)).trans ?_
      refine (gd_t (by first | exact ⟨by omega, by omega⟩ | exact ⟨by omega, by omega, by omega⟩ | exact ⟨by omega, by omega, by omega, by omega⟩ | omega | exact inR_to _ | assumption | decide)).trans ?_
      rw [if_pos hjq, if_neg hb]
theorem g73_t {u : Int → Int} {w1 w2 : Int} {t : Int → Int} {H : Int → Nat} {a : Option (List (List Int))} (hU : PU u w1 w2) (hP : PO u w1 w2 t) (hH : RV u w1 w2 t H) : ∀ (e f : Nat) (d p : Int) (S : St) (w : List Int), TP u w1 w2 p → H p < e → e ≤ f → 0 ≤ d → d + H p ≤ 39 → SC u w1 w2 S → S.A 22 = t → CP_15 S a w → ∃ S', g73_15 f S p d = some S' ∧ Fr [15, 16, 17, 18] S S' ∧ CP_15 S' a (w ++ XP u t p) := by
  intro e
  induction e with
  | zero => intro f d p S w _ h; omega
  | succ e ih =>
    intro f d p S w hp he hf d0 d1 hS hA hC
    obtain ⟨f, rfl⟩ : ∃ k, f = k + 1 := ⟨f - 1, by omega⟩
    have ok := st_ok hU hP p hp
    have a15 := ar_15 hU ok.1
    have lq := (ok.1.pc hU).lt hU
    have vq := (hU.2.2.2.2 _ (ok.1.pc hU)).1
    have bq : 0 ≤ u (st u t p) ∧ u (st u t p) < 2147483648 := by
      unfold vx at vq
      omega
    have e21 := hS _ (ok.1.pc hU)
    have f70 := g70_t hU hS (by rw [hA]; exact hP) hp
    rw [hA] at f70
    obtain ⟨S1, p1, p2, p3⟩ := put_15 (x := u (st u t p)) hC bq.1 ⟨by omega, by omega⟩
    have hS1 := hS.fr p2 (by decide)
    have e21' := hS1 _ (ok.1.pc hU)
    have hag := fun (j : Nat) (hj : (j : Int) < u (st u t p) % 256) => ag_H hU hP hH hp hj
    have ex := XP_e hU hP hp
    generalize st u t p = q at *
    obtain ⟨ar, har⟩ : ∃ A : Nat, (A : Int) = u q % 256 := ⟨(u q % 256).toNat, by omega⟩
    obtain ⟨S2, l1, l2, l3⟩ := g73L_t (rc := g73_15 f) (d := d) (t := t) (a := a) hU ok.1 har (fun j W w' hj hW hA' hC' => ih f (d + 1) _ W w' (hag j hj).2.1 (by have := (hag j hj).2.2; omega) (by omega) (by omega) (by have := (hag j hj).2.2; omega) hW hA' hC') ar FU 0 S1 (w ++ [u q]) (by omega) (FU_gt (by omega)) hS1 ((p2.A (by decide)).trans hA) p3
    refine ⟨S2, ?_, p2.trans l2, ?_⟩
    · show g73_15b (g73_15 f) S p d = some S2
      unfold g73_15b
      refine (gd_t (by first | exact ⟨by omega, by omega⟩ | exact ⟨by omega, by omega, by omega⟩ | exact ⟨by omega, by omega, by omega, by omega⟩ | omega | exact inR_to _ | assumption | decide)).trans ?_
      rw [if_pos (by omega), f70]
      refine (ob_t rfl).trans ?_
      refine (gd_t (by first | exact ⟨by omega, by omega⟩ | exact ⟨by omega, by omega, by omega⟩ | exact ⟨by omega, by omega, by omega, by omega⟩ | omega | exact inR_to _ | assumption | decide)).trans ?_
      rw [e21, p1]
      refine (ob_t rfl).trans ?_
      rw [e21']
      have l1 : g73_15L52 (g73_15 f) d (u q % 256) FU (q + 1) 0 S1 = some S2 := l1
      rw [l1]
      rfl
    · rw [ex, show (u q % 256).toNat = ar by omega]
      rw [List.append_assoc] at l3
      exact l3
/-- the literals of a clause but one, as they are laid -/
def oth (f : Int → List Int) (o : Int → Int) (s z : Int) : Nat → Int → List (List Int)
  | 0, _ => []
  | r + 1, k => if k = s then oth f o s z r (k + 1) else f (z + o k) :: oth f o s z r (k + 1)
theorem g72L_t {u : Int → Int} {w1 w2 s z N : Int} {t o v : Int → Int} {c : Nat} (hU : PU u w1 w2) (hP : PO u w1 w2 t) (hN : N ≤ 4) (hs : inR s) (hpos : ∀ k : Int, 0 ≤ k → k < N → TP u w1 w2 (z + o k)) : ∀ (r n : Nat) (k : Int) (S : St) (a : Option (List (List Int))), 0 ≤ k → k + r = N → r < n → SC u w1 w2 S → S.A 22 = t → KT S.tl c N o v → CP_15 S a [] → ∃ S', g72_15L3 c s z n k S = some S' ∧ Fr [15, 16, 17, 18] S S' ∧ CP_15 S' ((oth (XP u t) o s z r k).foldl stp a) [] := by
  obtain ⟨H, hH⟩ := hP.2
  intro r
  induction r with
  | zero =>
    intro n k S a k0 hk hn hS hA hK hC
    obtain ⟨n, rfl⟩ : ∃ k, n = k + 1 := ⟨n - 1, by omega⟩
    obtain ⟨b, s', N', M, f, g, x, w, c1, c2, c3, c4, c5, c6, c7, c8, c9, c10, c11⟩ := hK.KC
    refine ⟨S, ?_, Fr.refl _ _, hC⟩
    unfold g72_15L3
    refine (gC_t c1).trans ?_
    refine (gd_t (by first | exact ⟨by omega, by omega⟩ | exact ⟨by omega, by omega, by omega⟩ | exact ⟨by omega, by omega, by omega, by omega⟩ | omega | exact inR_to _ | assumption | decide)).trans ?_
    rw [if_neg (by omega)]
  | succ r ih =>
    intro n k S a k0 hk hn hS hA hK hC
    obtain ⟨n, rfl⟩ : ∃ k, n = k + 1 := ⟨n - 1, by omega⟩
    obtain ⟨b, s', N', M, f, g, x, w, c1, c2, c3, c4, c5, c6, c7, c8, c9, c10, c11⟩ := hK.KC
    by_cases hks : k = s
    · obtain ⟨S', q1, q2, q3⟩ := ih n (k + 1) S a (by omega) (by omega) (by omega) hS hA hK hC
      refine ⟨S', ?_, q2, ?_⟩
      · rw [g72_15L3]
        refine (gC_t c1).trans ?_
        refine (gd_t (by first | exact ⟨by omega, by omega⟩ | exact ⟨by omega, by omega, by omega⟩ | exact ⟨by omega, by omega, by omega, by omega⟩ | omega | exact inR_to _ | assumption | decide)).trans ?_
        rw [if_pos (by omega)]
        refine (gd_t hs).trans ?_
        rw [if_pos hks]
        exact q1
      · rw [oth, if_pos hks]
        exact q3
    · have hp := hpos k k0 (by omega)
      have h32 := hH.1 _ hp
      have ek := c10 k k0 (by omega)
      obtain ⟨S1, p1, p2, p3⟩ := g73_t hU hP hH 64 64 0 (z + o k) S [] hp (by omega) (Nat.le_refl _) (by omega) (by omega) hS hA hC
      rw [List.nil_append] at p3
      obtain ⟨S2, l1, l2, l3⟩ := close_15 p3 (XP_len hU hP hp)
      have f2 := p2.trans l2
      obtain ⟨S', q1, q2, q3⟩ := ih n (k + 1) S2 _ (by omega) (by omega) (by omega) (hS.fr f2 (by decide)) ((f2.A (by decide)).trans hA) (by rw [f2.1]; exact hK) l3
      refine ⟨S', ?_, f2.trans q2, ?_⟩
      · rw [g72_15L3]
        refine (gC_t c1).trans ?_
        refine (gd_t (by first | exact ⟨by omega, by omega⟩ | exact ⟨by omega, by omega, by omega⟩ | exact ⟨by omega, by omega, by omega, by omega⟩ | omega | exact inR_to _ | assumption | decide)).trans ?_
        rw [if_pos (by omega)]
        refine (gd_t hs).trans ?_
        rw [if_neg hks]
        refine (gA_t c5).trans ?_
        try dsimp only
        refine (gd_t (by first | exact ⟨by omega, by omega⟩ | exact ⟨by omega, by omega, by omega⟩ | exact ⟨by omega, by omega, by omega, by omega⟩ | omega | exact inR_to _ | assumption | decide)).trans ?_
        rw [ek, p1]
        refine (ob_t rfl).trans ?_
        rw [l1]
        exact q1
      · rw [oth, if_neg hks]
        exact q3
