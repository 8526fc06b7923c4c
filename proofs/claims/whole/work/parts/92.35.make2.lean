theorem obr_l {α β : Type} {x : Option (Sum α β)} {k : α → Option β} {a : α} (h : x = some (.inl a)) : obr x k = k a := by subst h; rfl
/-- the literal w is what write lays down of the one at pos -/
def WR (r : Int → Int) (T0 : St) (pos : Int) (w : List Int) : Prop := ∀ (T : St) (v : Int), Fr [38, 39, 40, 65] T0 T → 7936 ≤ v → v ≤ 8000 → ∃ T', Fr [38, 65] T T' ∧ (∀ p : Int, p < v ∨ v + 16 ≤ p → T'.A 38 p = T.A 38 p) ∧ g120 T pos v (v + 16) = some ((if 16 < w.length then -1 else v + w.length), T') ∧ (¬ 16 < w.length → ∀ j : Int, 0 ≤ j → j < w.length → T'.A 38 (v + j) = mr r (gI w j))
theorem stp_none (ls : List (List Int)) : ls.foldl stp none = none := by
  induction ls with
  | nil => rfl
  | cons w ls ih => exact ih
theorem lt_c {w : List Int} {ls : List (List Int)} {k : Int} (h : 0 < k) : lt (w :: ls) k = lt ls (k - 1) := by
  unfold lt
  rw [show k.toNat = (k - 1).toNat + 1 by omega]
  rfl
/-- nothing below the last slot has changed -/
def LoS (T T' : St) : Prop := (∀ p : Int, p < 7936 → T'.A 38 p = T.A 38 p) ∧ ∀ p : Int, p < 496 → T'.A 39 p = T.A 39 p ∧ T'.A 40 p = T.A 40 p
theorem LoS.refl (T : St) : LoS T T := ⟨fun _ _ => rfl, fun _ _ => ⟨rfl, rfl⟩⟩
theorem LoS.trans {T U W : St} (h : LoS T U) (g : LoS U W) : LoS T W := ⟨fun p hp => (g.1 p hp).trans (h.1 p hp), fun p hp => ⟨(g.2 p hp).1.trans (h.2 p hp).1, (g.2 p hp).2.trans (h.2 p hp).2⟩⟩
theorem g119L11_t {V : Int → Prop} {r : Int → Int} (hr : RI V r) {T0 : St} : ∀ (ls : List (List Int)) (n : Nat) (i : Int) (a : List (List Int)) (T : St), Fr [38, 39, 40, 65] T0 T → 0 ≤ i → i + ls.length = T0.F 36 24 → T0.F 36 24 ≤ 100 → (∀ k : Int, 0 ≤ k → k < ls.length → WR r T0 (T0.A 48 (i + k)) (lt ls k) ∧ (¬ 16 < (lt ls k).length → LI V (lt ls k) ∧ T0.A 49 (i + k) = dn (gI (lt ls k) 0))) → ML V r T a → ls.length < n → ∃ T', Fr [38, 39, 40, 65] T0 T' ∧ LoS T T' ∧ match ls.foldl stp (some a) with
    | none => g119L11 7936 n (7936 + a.flatten.length) a.length i T = some (.inr (0, T'))
    | some b => g119L11 7936 n (7936 + a.flatten.length) a.length i T = some (.inl (7936 + b.flatten.length, b.length, T')) ∧ ML V r T' b := by
  intro ls
  induction ls with
  | nil =>
    intro n i a T hT i0 hi h100 hW hM hn
    obtain ⟨n, rfl⟩ : ∃ k, n = k + 1 := ⟨n - 1, by omega⟩
    refine ⟨T, hT, LoS.refl T, ?_, hM⟩
    have f24 : T.F 36 24 = T0.F 36 24 := by rw [hT.F (by decide)]
    have hi : i + ((0 : Nat) : Int) = T0.F 36 24 := hi
    unfold g119L11
    refine (gd_t (by first | exact ⟨by omega, by omega⟩ | exact ⟨by omega, by omega, by omega⟩ | exact ⟨by omega, by omega, by omega, by omega⟩ | omega | exact inR_to _ | assumption | decide)).trans ?_
    rw [if_neg (by omega)]
  | cons w ls ih =>
    intro n i a T hT i0 hi h100 hW hM hn
    have hl : ((w :: ls).length : Int) = ls.length + 1 := rfl
    have hn : ls.length + 1 < n := hn
    obtain ⟨n, rfl⟩ : ∃ k, n = k + 1 := ⟨n - 1, by omega⟩
    have f24 : T.F 36 24 = T0.F 36 24 := by rw [hT.F (by decide)]
    have f48 : T.A 48 = T0.A 48 := hT.A (by decide)
    have f49 : T.A 49 = T0.A 49 := hT.A (by decide)
    have hlen := hM.len
    have h4 := hM.1
    obtain ⟨hw1, hw2⟩ := hW 0 (by omega) (by omega)
    rw [show i + 0 = i by omega] at hw1 hw2
    have hw1 : WR r T0 (T0.A 48 i) w := hw1
    have hw2 : ¬ 16 < w.length → LI V w ∧ T0.A 49 i = dn (gI w 0) := hw2
    obtain ⟨T1, t1, t2, t3, t4⟩ := hw1 T (7936 + a.flatten.length) hT (by omega) (by omega)
    have hT1 : Fr [38, 39, 40, 65] T0 T1 := hT.trans (t1.mono (by decide))
    have ls1 : LoS T T1 := ⟨fun p hp => t2 p (by omega), fun p hp => by rw [t1.A (show 39 ∉ [38, 65] by decide), t1.A (show 40 ∉ [38, 65] by decide)]; exact ⟨rfl, rfl⟩⟩
    show ∃ T', _ ∧ _ ∧ match ls.foldl stp (stp (some a) w) with | none => _ | some b => _
    have hstp : stp (some a) w = if 16 < w.length then none else if w ∈ a then some a else if a.length < 4 then some (a ++ [w]) else none := rfl
    by_cases h16 : 16 < w.length
    · rw [hstp, if_pos h16, stp_none]
      refine ⟨T1, hT1, ls1, ?_⟩
      rw [if_pos h16] at t3
      show g119L11 7936 (n + 1) (7936 + a.flatten.length) a.length i T = some (.inr (0, T1))
      rw [g119L11]
      refine (gd_t (by first | exact ⟨by omega, by omega⟩ | exact ⟨by omega, by omega, by omega⟩ | exact ⟨by omega, by omega, by omega, by omega⟩ | omega | exact inR_to _ | assumption | decide)).trans ?_
      rw [if_pos (by omega)]
      refine (gd_t (by first | exact ⟨by omega, by omega⟩ | exact ⟨by omega, by omega, by omega⟩ | exact ⟨by omega, by omega, by omega, by omega⟩ | omega | exact inR_to _ | assumption | decide)).trans ?_
      rw [f48, t3]
      refine (ob_t rfl).trans ?_
      refine (gd_t (by first | exact ⟨by omega, by omega⟩ | exact ⟨by omega, by omega, by omega⟩ | exact ⟨by omega, by omega, by omega, by omega⟩ | omega | exact inR_to _ | assumption | decide)).trans ?_
      exact if_pos (show (-1 : Int) < 0 by decide)
    · rw [hstp, if_neg h16]
      rw [if_neg h16] at t3
      obtain ⟨hLI, h49⟩ := hw2 h16
      have t4 := t4 h16
      have hdb := dn_b (gI w 0)
      have dR : inR (dn (gI w 0)) := by rcases hdb with e | e <;> (rw [e]; decide)
      have e49 : T1.A 49 i = dn (gI w 0) := by rw [hT1.A (by decide)]; exact h49
      have d39 : ((T1.a 39 (496 + a.length) (7936 + a.flatten.length)).a 40 (496 + a.length) (dn (gI w 0))).A 39 = upI (T1.A 39) (496 + a.length) (7936 + a.flatten.length) := (aA_ne (by decide)).trans (aA_up (by omega))
      have d40 : ((T1.a 39 (496 + a.length) (7936 + a.flatten.length)).a 40 (496 + a.length) (dn (gI w 0))).A 40 = upI (T1.A 40) (496 + a.length) (dn (gI w 0)) := (aA_up dR).trans (by rw [aA_ne (by decide)])
      have d38 : ((T1.a 39 (496 + a.length) (7936 + a.flatten.length)).a 40 (496 + a.length) (dn (gI w 0))).A 38 = T1.A 38 := rfl
      have d49 : ((T1.a 39 (496 + a.length) (7936 + a.flatten.length)).a 40 (496 + a.length) (dn (gI w 0))).A 49 = T1.A 49 := rfl
      have hT2 : Fr [38, 39, 40, 65] T0 ((T1.a 39 (496 + a.length) (7936 + a.flatten.length)).a 40 (496 + a.length) (dn (gI w 0))) := (hT1.trans (Fr.a (by decide))).trans (Fr.a (by decide))
      have ls2 : LoS T ((T1.a 39 (496 + a.length) (7936 + a.flatten.length)).a 40 (496 + a.length) (dn (gI w 0))) := ⟨ls1.1, fun p hp => by
        rw [d39, d40, upI_n (by omega), upI_n (by omega)]
        exact ls1.2 p hp⟩
      generalize hU : (T1.a 39 (496 + a.length) (7936 + a.flatten.length)).a 40 (496 + a.length) (dn (gI w 0)) = U at d39 d40 d38 d49 hT2 ls2
      have hMU : ML V r U a := by
        refine ⟨h4, fun k k0 k1 => ?_, fun p p0 p1 => ?_, hM.2.2.2⟩
        · rw [d39, d40, upI_n (by omega), upI_n (by omega), t1.A (show 39 ∉ [38, 65] by decide), t1.A (show 40 ∉ [38, 65] by decide)]
          exact hM.2.1 k k0 k1
        · rw [d38, t2 _ (by omega)]
          exact hM.2.2.1 p p0 p1
      have hN : MN V r U a w := ⟨hMU, hLI, by omega, by rw [d39, upI_e], fun j j0 j1 => by rw [d38]; exact t4 j j0 j1⟩
      have q := g119L82_t hr (v1 := 7936) (v2 := 7936 + a.flatten.length) (v3 := a.length) (v4 := i) (v5 := 7936 + a.flatten.length + w.length) hN i0 (by omega) (by rw [d49]; exact e49) a.length FU 0 0 (by omega) (by omega) (Or.inl rfl) (by obtain ⟨m9, hm9⟩ := FU_ge (n := 100) (by decide); omega)
      have head : ∀ z, (ob (g119L82 U 7936 (7936 + a.flatten.length) a.length i (7936 + a.flatten.length + w.length) (496 + a.length) FU 0 496) (fun o42 => gd (inR o42) (if o42 = 0 then gd (inR ((a.length : Int) + 1)) (if 4 < (a.length : Int) + 1 then some (.inr (0, U)) else g119L11 7936 n (7936 + a.flatten.length + w.length) (a.length + 1) (i + 1) U) else gd (inR (a.length : Int)) (if 4 < (a.length : Int) then some (.inr (0, U)) else g119L11 7936 n (7936 + a.flatten.length) a.length (i + 1) U)))) = z → g119L11 7936 (n + 1) (7936 + a.flatten.length) a.length i T = z := by
        intro z hz
        rw [g119L11]
        refine (gd_t (by first | exact ⟨by omega, by omega⟩ | exact ⟨by omega, by omega, by omega⟩ | exact ⟨by omega, by omega, by omega, by omega⟩ | omega | exact inR_to _ | assumption | decide)).trans ?_
        rw [if_pos (by omega)]
        refine (gd_t (by first | exact ⟨by omega, by omega⟩ | exact ⟨by omega, by omega, by omega⟩ | exact ⟨by omega, by omega, by omega, by omega⟩ | omega | exact inR_to _ | assumption | decide)).trans ?_
        rw [f48, t3]
        refine (ob_t rfl).trans ?_
        refine (gd_t (by first | exact ⟨by omega, by omega⟩ | exact ⟨by omega, by omega, by omega⟩ | exact ⟨by omega, by omega, by omega, by omega⟩ | omega | exact inR_to _ | assumption | decide)).trans ?_
        rw [if_neg (by omega)]
        refine (gd_t (by first | exact ⟨by omega, by omega⟩ | exact ⟨by omega, by omega, by omega⟩ | exact ⟨by omega, by omega, by omega, by omega⟩ | omega | exact inR_to _ | assumption | decide)).trans ?_
        rw [e49]
        refine (gd_t hdb).trans ?_
        rw [hU]
        exact hz
      rw [show (496 : Int) + 0 = 496 by omega] at q
      have hW' : ∀ k : Int, 0 ≤ k → k < ls.length → WR r T0 (T0.A 48 (i + 1 + k)) (lt ls k) ∧ (¬ 16 < (lt ls k).length → LI V (lt ls k) ∧ T0.A 49 (i + 1 + k) = dn (gI (lt ls k) 0)) := fun k k0 k1 => by
        have := hW (k + 1) (by omega) (by omega)
        rw [lt_c (by omega), show k + 1 - 1 = k by omega, show i + (k + 1) = i + 1 + k by omega] at this
        exact this
      by_cases hm : w ∈ a
      · rw [if_pos hm]
        obtain ⟨k, k0, k1, k2⟩ := mem_lt hm
        have q := q.1 (Or.inr ⟨k, k0, k1, k2⟩)
        obtain ⟨T', u1, u2, u3⟩ := ih n (i + 1) a U hT2 (by omega) (by omega) h100 hW' hMU (by omega)
        refine ⟨T', u1, ls2.trans u2, ?_⟩
        have e : g119L11 7936 (n + 1) (7936 + a.flatten.length) a.length i T = g119L11 7936 n (7936 + a.flatten.length) a.length (i + 1) U := by
          refine head _ ?_
          rw [q]
          refine (ob_t rfl).trans ?_
          refine (gd_t (by first | exact ⟨by omega, by omega⟩ | exact ⟨by omega, by omega, by omega⟩ | exact ⟨by omega, by omega, by omega, by omega⟩ | omega | exact inR_to _ | assumption | decide)).trans ?_
          rw [if_neg (by decide)]
          refine (gd_t (by first | exact ⟨by omega, by omega⟩ | exact ⟨by omega, by omega, by omega⟩ | exact ⟨by omega, by omega, by omega, by omega⟩ | omega | exact inR_to _ | assumption | decide)).trans ?_
          exact if_neg (by omega)
        rw [e]
        exact u3
      · rw [if_neg hm]
        have q := q.2 (by
          rintro (h | ⟨k, k0, k1, k2⟩)
          · exact absurd h (by decide)
          · exact hm (k2 ▸ lt_mem k0 k1))
        by_cases hl4 : a.length < 4
        · rw [if_pos hl4]
          have f1 : ((a ++ [w]).length : Int) = a.length + 1 := by rw [List.length_append]; rfl
          have f2 : (((a ++ [w]).flatten).length : Int) = a.flatten.length + w.length := by rw [List.flatten_append, List.length_append]; simp
          have hM2 : ML V r U (a ++ [w]) := by
            refine ⟨by omega, fun k k0 k1 => ?_, fun p p0 p1 => ?_, fun x hx => ?_⟩
            · by_cases hk : k = a.length
              · rw [hk, d39, d40, upI_e, upI_e, os_app (by omega), os_n]
                refine ⟨rfl, ?_⟩
                have : lt (a ++ [w]) a.length = w := by
                  unfold lt
                  rw [show ((a.length : Nat) : Int).toNat = a.length by omega, List.getD_eq_getElem?_getD, List.getElem?_append_right (by omega), Nat.sub_self]
                  rfl
                rw [this]
              · have e2 : lt (a ++ [w]) k = lt a k := by
                  unfold lt
                  rw [List.getD_eq_getElem?_getD, List.getD_eq_getElem?_getD, List.getElem?_append_left (by omega)]
                rw [os_app (by omega), e2]
                exact hMU.2.1 k k0 (by omega)
            · rw [List.flatten_append, show [w].flatten = w by simp]
              by_cases hp : p < a.flatten.length
              · rw [gI_l hp p0]
                exact hMU.2.2.1 p p0 hp
              · rw [gI_r (by omega), d38]
                have := t4 (p - a.flatten.length) (by omega) (by omega)
                rw [show 7936 + (a.flatten.length : Int) + (p - a.flatten.length) = 7936 + p by omega] at this
                exact this
            · rcases List.mem_append.mp hx with hx | hx
              · exact hM.2.2.2 x hx
              · rw [List.mem_singleton.mp hx]
                exact ⟨by omega, hLI⟩
          obtain ⟨T', u1, u2, u3⟩ := ih n (i + 1) (a ++ [w]) U hT2 (by omega) (by omega) h100 hW' hM2 (by omega)
          refine ⟨T', u1, ls2.trans u2, ?_⟩
          have e : g119L11 7936 (n + 1) (7936 + a.flatten.length) a.length i T = g119L11 7936 n (7936 + (a ++ [w]).flatten.length) (a ++ [w]).length (i + 1) U := by
            refine head _ ?_
            rw [q]
            refine (ob_t rfl).trans ?_
            refine (gd_t (by first | exact ⟨by omega, by omega⟩ | exact ⟨by omega, by omega, by omega⟩ | exact ⟨by omega, by omega, by omega, by omega⟩ | omega | exact inR_to _ | assumption | decide)).trans ?_
            rw [if_pos rfl]
            refine (gd_t (by first | exact ⟨by omega, by omega⟩ | exact ⟨by omega, by omega, by omega⟩ | exact ⟨by omega, by omega, by omega, by omega⟩ | omega | exact inR_to _ | assumption | decide)).trans ?_
            rw [if_neg (by omega), f1, f2, show 7936 + ((a.flatten.length : Int) + w.length) = 7936 + a.flatten.length + w.length by omega]
          rw [e]
          exact u3
        · rw [if_neg hl4, stp_none]
          refine ⟨U, hT2, ls2, ?_⟩
          refine head _ ?_
          rw [q]
          refine (ob_t rfl).trans ?_
          refine (gd_t (by first | exact ⟨by omega, by omega⟩ | exact ⟨by omega, by omega, by omega⟩ | exact ⟨by omega, by omega, by omega, by omega⟩ | omega | exact inR_to _ | assumption | decide)).trans ?_
          rw [if_pos rfl]
          refine (gd_t (by first | exact ⟨by omega, by omega⟩ | exact ⟨by omega, by omega, by omega⟩ | exact ⟨by omega, by omega, by omega, by omega⟩ | omega | exact inR_to _ | assumption | decide)).trans ?_
          rw [if_pos (by omega)]
theorem KM.low {T T' : St} (h : LoS T T') (h41 : ∀ s : Int, s < 124 → T'.A 41 s = T.A 41 s ∧ T'.A 42 s = T.A 42 s) {s n : Int} {o u : Int → Int} (hs : s < 124) (hW : WK n o u) (hk : KM T s n o u) : KM T' s n o u := by
  obtain ⟨c1, c2, c3, c4, c5, c6⟩ := hk
  have n4 := hW.2.1
  have o64 := hW.2.2.2.1
  refine ⟨c1, c2, by rw [(h41 s hs).1]; exact c3, by rw [(h41 s hs).2]; exact c4, fun k k0 k1 => ?_, fun p p0 p1 => ?_⟩
  · rw [(h.2 _ (by omega)).1, (h.2 _ (by omega)).2]
    exact c5 k k0 k1
  · rw [h.1 _ (by omega)]
    exact c6 p p0 p1
/-- names anew of a row of literals -/
def ru (b : List (List Int)) : Int → Int := gI (rnf (fun _ => -1) 0 b.flatten)
theorem g119_t {V : Int → Prop} {r : Int → Int} (hr : RI V r) {T : St} {ls : List (List Int)} (hi : (ls.length : Int) = T.F 36 24) (h100 : T.F 36 24 ≤ 100) (hW : ∀ k : Int, 0 ≤ k → k < ls.length → WR r T (T.A 48 k) (lt ls k) ∧ (¬ 16 < (lt ls k).length → LI V (lt ls k) ∧ T.A 49 k = dn (gI (lt ls k) 0))) : ∃ T', Fr [38, 39, 40, 41, 42, 64, 65] T T' ∧ (∀ (s n : Int) (o u : Int → Int), s < 124 → WK n o u → KM T s n o u → KM T' s n o u) ∧ match ls.foldl stp (some []) with
    | none => g119 T = some (0, T')
    | some b => g119 T = some (1, T') ∧ KM T' 124 b.length (os b) (ru b) ∧ WV b.length (os b) (ru b) := by
  obtain ⟨m9, hm9⟩ := FU_ge (n := 300) (by decide)
  obtain ⟨T1, t1, t2, t3⟩ := g119L11_t hr ls FU 0 [] T (Fr.refl _ _) (by omega) (by omega) h100 (fun k k0 k1 => by rw [show 0 + k = k by omega]; exact hW k k0 k1) ⟨by decide, fun k k0 k1 => absurd k1 (by show ¬ k < ((0 : Nat) : Int); omega), fun k k0 k1 => absurd k1 (by show ¬ k < ((0 : Nat) : Int); omega), fun w hw => absurd hw List.not_mem_nil⟩ (by omega)
  have e0 : ((7936 : Int) + (([] : List (List Int)).flatten.length : Int)) = 7936 := rfl
  have e1 : ((([] : List (List Int)).length : Nat) : Int) = 0 := rfl
  rw [e0, e1] at t3
  cases hb : ls.foldl stp (some []) with
  | none =>
    rw [hb] at t3
    have t3 : g119L11 7936 FU 7936 0 0 T = some (.inr (0, T1)) := t3
    refine ⟨T1, t1.mono (by decide), fun s n o u hs hWK hk => hk.low t2 (fun s _ => by rw [t1.A (by decide), t1.A (by decide)]; exact ⟨rfl, rfl⟩) hs hWK, ?_⟩
    show g119 T = some (0, T1)
    unfold g119
    rw [t3]
    rfl
  | some b =>
    rw [hb] at t3
    have t3 : g119L11 7936 FU 7936 0 0 T = some (.inl (7936 + b.flatten.length, b.length, T1)) ∧ ML V r T1 b := t3
    obtain ⟨t3, hM⟩ := t3
    have hl := hM.len
    have h4 := hM.1
    have hflv := hM.fl
    have d41 : ((T1.a 41 124 b.length).a 42 124 b.flatten.length).A 41 = upI (T1.A 41) 124 b.length := (aA_ne (by decide)).trans (aA_up (by omega))
    have d42 : ((T1.a 41 124 b.length).a 42 124 b.flatten.length).A 42 = upI (T1.A 42) 124 b.flatten.length := (aA_up (by omega)).trans (by rw [aA_ne (by decide)])
    have fr2 : Fr [41, 42] T1 ((T1.a 41 124 b.length).a 42 124 b.flatten.length) := (Fr.a (by decide)).trans (Fr.a (by decide))
    generalize hU : (T1.a 41 124 b.length).a 42 124 b.flatten.length = U at d41 d42 fr2
    obtain ⟨T2, u1, u2, u3, u4⟩ := g127L2_t (v1 := 7936) (v2 := 7936 + b.flatten.length) 128 FU 0 U (by omega) (by omega) (by omega)
    obtain ⟨T3, w1, w2, w3, w4⟩ := g127L27_t (r := r) (v2 := 7936 + b.flatten.length) (by omega) b.flatten FU 0 7936 (fun _ => -1) T2 (by omega) (by omega) (fun i i0 i1 => by
      rw [u2.A (show 38 ∉ [64] by decide), fr2.A (show 38 ∉ [41, 42] by decide)]
      exact hM.2.2.1 i i0 i1) (fun x hx => by
      obtain ⟨i, i0, i1, e⟩ := mem_gI hx
      have := hflv i i0 i1
      rw [e] at this
      refine ⟨this.1, fun h3 => ?_⟩
      have q := hr.1 _ (this.2 h3)
      exact ⟨q.1, q.2, u4 _ q.1 q.2⟩) (fun x hx y hy hx3 hy3 e => by
      obtain ⟨i, i0, i1, e1⟩ := mem_gI hx
      obtain ⟨j, j0, j1, e2⟩ := mem_gI hy
      have a1 := hflv i i0 i1
      have a2 := hflv j j0 j1
      rw [e1] at a1
      rw [e2] at a2
      exact hr.2 _ _ (a1.2 hx3) (a2.2 hy3) e) (by omega) (by omega) (fun _ => Or.inl rfl) (by omega)
    have e127 : g127 U 7936 (7936 + b.flatten.length) = some T3 := by
      unfold g127
      rw [u1]
      refine (ob_t rfl).trans ?_
      rw [w1]
      rfl
    have eg : g119 T = some (1, T3) := by
      unfold g119
      refine (obr_l t3).trans ?_
      dsimp only
      rw [show (7936 : Int) + b.flatten.length - 7936 = b.flatten.length by omega, hU, e127]
      rfl
    have hLS : LoS T T3 := t2.trans ⟨fun p hp => by
      rw [w3 p (by omega), u2.A (show 38 ∉ [64] by decide), fr2.A (show 38 ∉ [41, 42] by decide)], fun p hp => by
      rw [w2.A (show 39 ∉ [38, 64] by decide), w2.A (show 40 ∉ [38, 64] by decide), u2.A (show 39 ∉ [64] by decide), u2.A (show 40 ∉ [64] by decide), fr2.A (show 39 ∉ [41, 42] by decide), fr2.A (show 40 ∉ [41, 42] by decide)]
      exact ⟨rfl, rfl⟩⟩
    have e41 : T3.A 41 = upI (T1.A 41) 124 b.length := by rw [w2.A (by decide), u2.A (by decide)]; exact d41
    have e42 : T3.A 42 = upI (T1.A 42) 124 b.flatten.length := by rw [w2.A (by decide), u2.A (by decide)]; exact d42
    have hWV := rn_WV h4 hM.2.2.2
    refine ⟨T3, ((t1.mono (by decide)).trans (fr2.mono (by decide))).trans ((u2.mono (by decide)).trans (w2.mono (by decide))), fun s n o u hs hWK hk => hk.low hLS (fun s hs => by
      rw [e41, e42, upI_n (by omega), upI_n (by omega), t1.A (by decide), t1.A (by decide)]
      exact ⟨rfl, rfl⟩) hs hWK, eg, ?_, hWV⟩
    refine ⟨by omega, by omega, by rw [e41, upI_e], by rw [e42, upI_e, os_n], fun k k0 k1 => ?_, fun p p0 p1 => ?_⟩
    · have m1 := hM.2.1 k k0 k1
      have hk := (hM.2.2.2 _ (lt_mem k0 k1)).2
      have b0 := os_le (a := b) (k := k) k0 (by omega)
      have b1 := os_le (a := b) (k := k + 1) (by omega) (by omega)
      have b2 := os_s k0 k1
      have hh := lt_at (j := 0) k0 k1 (by omega) (by have := hk.1; omega)
      rw [show os b k + 0 = os b k by omega] at hh
      have hr0 : ru b (os b k) = gI (lt b k) 0 := by
        unfold ru
        rw [(rnf_at b.flatten (fun _ => -1) 0 (os b k) (by omega) (fun _ => Or.inl rfl) b0.1 (by have := hk.1; omega)).1 (by rw [hh]; have := hk.2.1; omega), hh]
      rw [hr0, w2.A (show 39 ∉ [38, 64] by decide), w2.A (show 40 ∉ [38, 64] by decide), u2.A (show 39 ∉ [64] by decide), u2.A (show 40 ∉ [64] by decide), fr2.A (show 39 ∉ [41, 42] by decide), fr2.A (show 40 ∉ [41, 42] by decide)]
      exact m1
    · rw [os_n] at p1
      exact w4 p p0 p1
/-- both drafts: the class's is named anew, the other is made -/
theorem CP.DF {S S' T T' : St} {m : Option (List (List Int))} {x : Int} (h : CP_15 S m []) (e48 : g48_15 S = some S') (hm : match m with
    | none => x = 0
    | some b => x = 1 ∧ KM T' 124 b.length (os b) (ru b) ∧ WV b.length (os b) (ru b)) : DF S' T' x := by
  obtain ⟨⟨s1, s2, s3, s4, s5, s6, s7, s8⟩, h⟩ := h
  match m, h, hm with
  | none, h, hm =>
    have hLl : (((List.range (S.F 16 3).toNat).map (fun (i : Nat) => S.A 17 (i : Int))).length : Int) = S.F 16 3 := by
      rw [List.length_map, List.length_range]
      omega
    have hLe : ∀ i : Int, 0 ≤ i → i < ((List.range (S.F 16 3).toNat).map (fun (i : Nat) => S.A 17 (i : Int))).length → S.A 17 i = gI ((List.range (S.F 16 3).toNat).map (fun (i : Nat) => S.A 17 (i : Int))) i := fun i i0 i1 => by
      unfold gI
      rw [List.getD_eq_getElem?_getD, List.getElem?_map, List.getElem?_range (by omega)]
      show S.A 17 i = S.A 17 (i.toNat : Int)
      rw [show (i.toNat : Int) = i by omega]
    obtain ⟨U, u1, u2, u3⟩ := g48_15_t (S := S) hLl (by omega) hLe (fun x hx => by
      obtain ⟨i, i0, i1, e⟩ := mem_gI hx
      rw [← e, ← hLe i i0 i1]
      exact s8 i i0 (by omega))
    rw [u1] at e48
    cases e48
    refine Or.inl ⟨fun hh => ?_, Or.inl hm⟩
    have : S'.F 15 3 = 1 := by rw [u2.F (show 15 ∉ [17, 19] by decide)]; exact h
    omega
  | some b, h, hm =>
    have h : S.F 15 3 = 0 ∧ KE_15 S b.length (os b) (gI b.flatten) ∧ S.F 15 2 = b.flatten.length + (([] : List Int).length : Nat) ∧ ∀ i : Int, 0 ≤ i → i < ((([] : List Int).length : Nat) : Int) → S.A 17 (b.flatten.length + i) = gI [] i := h
    obtain ⟨q1, ⟨q2, q3, q4, q5⟩, q6, _⟩ := h
    obtain ⟨x1, hk, hW⟩ := hm
    rw [os_n] at q3 q5
    obtain ⟨U, u1, u2, u3⟩ := g48_15_t (S := S) (L := b.flatten) q3.symm (by omega) (fun i i0 i1 => q5 i i0 i1) (fun x hx => by
      obtain ⟨i, i0, i1, e⟩ := mem_gI hx
      rw [← e, ← q5 i i0 i1]
      exact s8 i i0 (by omega))
    rw [u1] at e48
    cases e48
    have f15 : S'.F 15 = S.F 15 := u2.F (by decide)
    have f16 : S'.F 16 = S.F 16 := u2.F (by decide)
    have f18 : S'.A 18 = S.A 18 := u2.A (by decide)
    by_cases ho : os b b.length ≤ 16
    · refine Or.inr ⟨by rw [f15]; exact q1, x1, b.length, os b, ru b, ⟨by rw [f16]; exact q2, by rw [f16, os_n]; exact q3, fun k k0 k1 => by rw [f18]; exact q4 k k0 k1, fun p p0 p1 => ?_⟩, hk, hW, ho⟩
      rw [os_n] at p1
      exact u3 p p0 p1
    · refine Or.inl ⟨fun hh => ?_, Or.inr ⟨x1, ?_⟩⟩
      · rw [os_n] at ho
        have := hh.2
        rw [f16] at this
        omega
      · rw [hk.2.2.2.1]
        omega
/-- the drafts of both, made, however long -/
def DF2_15 (S T : St) (r : Int) : Prop := (S.F 15 3 = 1 ∧ r = 0) ∨ (S.F 15 3 = 0 ∧ r = 1 ∧ ∃ (n : Int) (o u : Int → Int), KE_15 S n o u ∧ KM T 124 n o u ∧ WV n o u)
theorem df2_15 {S S' T T' : St} {m : Option (List (List Int))} {x : Int} (h : CP_15 S m []) (e48 : g48_15 S = some S') (hm : match m with
    | none => x = 0
    | some b => x = 1 ∧ KM T' 124 b.length (os b) (ru b) ∧ WV b.length (os b) (ru b)) : DF2_15 S' T' x := by
  obtain ⟨⟨s1, s2, s3, s4, s5, s6, s7, s8⟩, h⟩ := h
  match m, h, hm with
  | none, h, hm =>
    have hLl : (((List.range (S.F 16 3).toNat).map (fun (i : Nat) => S.A 17 (i : Int))).length : Int) = S.F 16 3 := by
      rw [List.length_map, List.length_range]
      omega
    have hLe : ∀ i : Int, 0 ≤ i → i < ((List.range (S.F 16 3).toNat).map (fun (i : Nat) => S.A 17 (i : Int))).length → S.A 17 i = gI ((List.range (S.F 16 3).toNat).map (fun (i : Nat) => S.A 17 (i : Int))) i := fun i i0 i1 => by
      unfold gI
      rw [List.getD_eq_getElem?_getD, List.getElem?_map, List.getElem?_range (by omega)]
      show S.A 17 i = S.A 17 (i.toNat : Int)
      rw [show (i.toNat : Int) = i by omega]
    obtain ⟨U, u1, u2, u3⟩ := g48_15_t (S := S) hLl (by omega) hLe (fun x hx => by
      obtain ⟨i, i0, i1, e⟩ := mem_gI hx
      rw [← e, ← hLe i i0 i1]
      exact s8 i i0 (by omega))
    rw [u1] at e48
    cases e48
    exact Or.inl ⟨by rw [u2.F (show 15 ∉ [17, 19] by decide)]; exact h, hm⟩
  | some b, h, hm =>
    have h : S.F 15 3 = 0 ∧ KE_15 S b.length (os b) (gI b.flatten) ∧ S.F 15 2 = b.flatten.length + (([] : List Int).length : Nat) ∧ ∀ i : Int, 0 ≤ i → i < ((([] : List Int).length : Nat) : Int) → S.A 17 (b.flatten.length + i) = gI [] i := h
    obtain ⟨q1, ⟨q2, q3, q4, q5⟩, q6, _⟩ := h
    obtain ⟨x1, hk, hW⟩ := hm
    rw [os_n] at q3 q5
    obtain ⟨U, u1, u2, u3⟩ := g48_15_t (S := S) (L := b.flatten) q3.symm (by omega) (fun i i0 i1 => q5 i i0 i1) (fun x hx => by
      obtain ⟨i, i0, i1, e⟩ := mem_gI hx
      rw [← e, ← q5 i i0 i1]
      exact s8 i i0 (by omega))
    rw [u1] at e48
    cases e48
    have f15 : S'.F 15 = S.F 15 := u2.F (by decide)
    have f16 : S'.F 16 = S.F 16 := u2.F (by decide)
    have f18 : S'.A 18 = S.A 18 := u2.A (by decide)
    refine Or.inr ⟨by rw [f15]; exact q1, x1, b.length, os b, ru b, ⟨by rw [f16]; exact q2, by rw [f16, os_n]; exact q3, fun k k0 k1 => by rw [f18]; exact q4 k k0 k1, fun p p0 p1 => ?_⟩, hk, hW⟩
    rw [os_n] at p1
    exact u3 p p0 p1
/-- the drafts of both, made, however long -/
def DF2_30 (S T : St) (r : Int) : Prop := (S.F 30 3 = 1 ∧ r = 0) ∨ (S.F 30 3 = 0 ∧ r = 1 ∧ ∃ (n : Int) (o u : Int → Int), KE_30 S n o u ∧ KM T 124 n o u ∧ WV n o u)
theorem df2_30 {S S' T T' : St} {m : Option (List (List Int))} {x : Int} (h : CP_30 S m []) (e48 : g48_30 S = some S') (hm : match m with
    | none => x = 0
    | some b => x = 1 ∧ KM T' 124 b.length (os b) (ru b) ∧ WV b.length (os b) (ru b)) : DF2_30 S' T' x := by
  obtain ⟨⟨s1, s2, s3, s4, s5, s6, s7, s8⟩, h⟩ := h
  match m, h, hm with
  | none, h, hm =>
    have hLl : (((List.range (S.F 31 3).toNat).map (fun (i : Nat) => S.A 32 (i : Int))).length : Int) = S.F 31 3 := by
      rw [List.length_map, List.length_range]
      omega
    have hLe : ∀ i : Int, 0 ≤ i → i < ((List.range (S.F 31 3).toNat).map (fun (i : Nat) => S.A 32 (i : Int))).length → S.A 32 i = gI ((List.range (S.F 31 3).toNat).map (fun (i : Nat) => S.A 32 (i : Int))) i := fun i i0 i1 => by
      unfold gI
      rw [List.getD_eq_getElem?_getD, List.getElem?_map, List.getElem?_range (by omega)]
      show S.A 32 i = S.A 32 (i.toNat : Int)
      rw [show (i.toNat : Int) = i by omega]
    obtain ⟨U, u1, u2, u3⟩ := g48_30_t (S := S) hLl (by omega) hLe (fun x hx => by
      obtain ⟨i, i0, i1, e⟩ := mem_gI hx
      rw [← e, ← hLe i i0 i1]
      exact s8 i i0 (by omega))
    rw [u1] at e48
    cases e48
    exact Or.inl ⟨by rw [u2.F (show 30 ∉ [32, 34] by decide)]; exact h, hm⟩
  | some b, h, hm =>
    have h : S.F 30 3 = 0 ∧ KE_30 S b.length (os b) (gI b.flatten) ∧ S.F 30 2 = b.flatten.length + (([] : List Int).length : Nat) ∧ ∀ i : Int, 0 ≤ i → i < ((([] : List Int).length : Nat) : Int) → S.A 32 (b.flatten.length + i) = gI [] i := h
    obtain ⟨q1, ⟨q2, q3, q4, q5⟩, q6, _⟩ := h
    obtain ⟨x1, hk, hW⟩ := hm
    rw [os_n] at q3 q5
    obtain ⟨U, u1, u2, u3⟩ := g48_30_t (S := S) (L := b.flatten) q3.symm (by omega) (fun i i0 i1 => q5 i i0 i1) (fun x hx => by
      obtain ⟨i, i0, i1, e⟩ := mem_gI hx
      rw [← e, ← q5 i i0 i1]
      exact s8 i i0 (by omega))
    rw [u1] at e48
    cases e48
    have f15 : S'.F 30 = S.F 30 := u2.F (by decide)
    have f16 : S'.F 31 = S.F 31 := u2.F (by decide)
    have f18 : S'.A 33 = S.A 33 := u2.A (by decide)
    refine Or.inr ⟨by rw [f15]; exact q1, x1, b.length, os b, ru b, ⟨by rw [f16]; exact q2, by rw [f16, os_n]; exact q3, fun k k0 k1 => by rw [f18]; exact q4 k k0 k1, fun p p0 p1 => ?_⟩, hk, hW⟩
    rw [os_n] at p1
    exact u3 p p0 p1
theorem df_of {S T : St} {r : Int} (h : DF2_15 S T r) : DF S T r := by
  rcases h with ⟨a, b⟩ | ⟨a, b, n, o, u, hk, hm, hW⟩
  · exact Or.inl ⟨fun hh => by omega, Or.inl b⟩
  · by_cases ho : o n ≤ 16
    · exact Or.inr ⟨a, b, n, o, u, hk, hm, hW, ho⟩
    · have e1 := hk.2.1
      have e2 := hm.2.2.2.1
      exact Or.inl ⟨fun hh => by omega, Or.inr ⟨b, by omega⟩⟩
