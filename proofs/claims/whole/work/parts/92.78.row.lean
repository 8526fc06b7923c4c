/-! the first object puts a row into its draft -/
theorem CP.none {S : St} (h : SF_15 S) (h1 : S.F 15 3 = 1) : CP_15 S none [] := ⟨h, h1⟩
theorem g43L_t {S0 : St} {st len : Int} {E : List Int} (hE : len = E.length) (h16 : E.length ≤ 16) (s0 : 0 ≤ st) (s1 : st + len ≤ 1280) : ∀ (r n : Nat) (v4 : Int) (S : St) (a : Option (List (List Int))), 0 ≤ v4 → v4 + r = len → (∀ j : Int, 0 ≤ j → j < len → S.A 9 (st + j) = gI E j) → (∀ x ∈ E, 0 ≤ x) → CP_15 S a (E.take v4.toNat) → r < n → ∃ S', g43_15L15 9 st len n v4 S = some S' ∧ Fr [15, 16, 17, 18] S S' ∧ CP_15 S' a E := by
  intro r
  induction r with
  | zero =>
    intro n v4 S a z0 hz h9 hx hC hn
    obtain ⟨n, rfl⟩ : ∃ k, n = k + 1 := ⟨n - 1, by omega⟩
    refine ⟨S, ?_, Fr.refl _ _, ?_⟩
    · unfold g43_15L15
      refine (gd_t (by first | exact ⟨by omega, by omega⟩ | exact ⟨by omega, by omega, by omega⟩ | exact ⟨by omega, by omega, by omega, by omega⟩ | omega | exact inR_to _ | assumption | decide)).trans ?_
      refine (gd_t (by first | exact ⟨by omega, by omega⟩ | exact ⟨by omega, by omega, by omega⟩ | exact ⟨by omega, by omega, by omega, by omega⟩ | omega | exact inR_to _ | assumption | decide)).trans ?_
      rw [if_neg (by omega)]
    · rw [List.take_of_length_le (by omega)] at hC
      exact hC
  | succ r ih =>
    intro n v4 S a z0 hz h9 hx hC hn
    obtain ⟨n, rfl⟩ : ∃ k, n = k + 1 := ⟨n - 1, by omega⟩
    have e9 := h9 v4 z0 (by omega)
    have hm := gI_mem (L := E) (i := v4) z0 (by omega)
    obtain ⟨S1, p1, p2, p3⟩ := put_15 (x := gI E v4) hC (hx _ hm) (by rw [← e9]; exact inR_to _)
    have et : E.take v4.toNat ++ [gI E v4] = E.take (v4 + 1).toNat := by
      have hlt : v4.toNat < E.length := by omega
      rw [show (v4 + 1).toNat = v4.toNat + 1 by omega, List.take_succ_eq_append_getElem hlt]
      congr 1
      unfold gI
      rw [List.getD_eq_getElem?_getD, List.getElem?_eq_getElem hlt]
      rfl
    rw [et] at p3
    obtain ⟨S2, q1, q2, q3⟩ := ih n (v4 + 1) S1 a (by omega) (by omega) (by rw [p2.A (by decide)]; exact h9) hx p3 (by omega)
    refine ⟨S2, ?_, p2.trans q2, q3⟩
    rw [g43_15L15]
    refine (gd_t (by first | exact ⟨by omega, by omega⟩ | exact ⟨by omega, by omega, by omega⟩ | exact ⟨by omega, by omega, by omega, by omega⟩ | omega | exact inR_to _ | assumption | decide)).trans ?_
    refine (gd_t (by first | exact ⟨by omega, by omega⟩ | exact ⟨by omega, by omega, by omega⟩ | exact ⟨by omega, by omega, by omega, by omega⟩ | omega | exact inR_to _ | assumption | decide)).trans ?_
    rw [if_pos (by omega)]
    refine (gA_t (show S.cl 9 = some (.ar 1280 (S.A0 9)) from rfl)).trans ?_
    refine (gd_t (by first | exact ⟨by omega, by omega⟩ | exact ⟨by omega, by omega, by omega⟩ | exact ⟨by omega, by omega, by omega, by omega⟩ | omega | exact inR_to _ | assumption | decide)).trans ?_
    have e : ((S.A0 9 (st + v4)).toInt) = gI E v4 := e9
    show ob (g44_15 S (S.A0 9 (st + v4)).toInt) _ = _
    rw [e, p1]
    exact q1
theorem g43_t {S : St} {st len : Int} {E : List Int} {a : Option (List (List Int))} (hE : len = E.length) (hl : inR len) (hpos : 0 < E.length) (h : E.length ≤ 16 → 0 ≤ st ∧ st + len ≤ 1280 ∧ ∀ j : Int, 0 ≤ j → j < len → S.A 9 (st + j) = gI E j) (hx : ∀ x ∈ E, 0 ≤ x) (hC : CP_15 S a []) : ∃ S', g43_15 S 9 st len = some S' ∧ Fr [15, 16, 17, 18] S S' ∧ CP_15 S' (stp a E) [] := by
  by_cases h16 : 16 < E.length
  · refine ⟨S.f 15 3 1, ?_, Fr.f (by decide), ?_⟩
    · unfold g43_15
      refine (gd_t hl).trans ?_
      rw [if_pos (by omega)]
    · have e : stp a E = none := by
        cases a with
        | none => rfl
        | some a =>
          show (if 16 < E.length then none else _) = none
          rw [if_pos h16]
      rw [e]
      refine CP.none ?_ (by rw [f_F (by decide), if_pos rfl, if_pos rfl])
      have := hC.1
      unfold SF_15 at this ⊢
      rw [fF_ne (show 16 ≠ 15 by decide), f_A, show (S.f 15 3 1).F 15 2 = S.F 15 2 by rw [f_F (by decide), if_pos rfl, if_neg (by decide)]]
      exact this
  · obtain ⟨s0, s1, h9⟩ := h (by omega)
    obtain ⟨S1, q1, q2, q3⟩ := g43L_t (S0 := S) hE (by omega) s0 s1 E.length FU 0 S a (by omega) (by omega) h9 hx (by rw [show ((0 : Int)).toNat = 0 by rfl, List.take_zero]; exact hC) (FU_gt (by omega))
    obtain ⟨S2, r1, r2, r3⟩ := close_15 q3 hpos
    refine ⟨S2, ?_, q2.trans r2, r3⟩
    unfold g43_15
    refine (gd_t hl).trans ?_
    rw [if_neg (by omega), q1]
    refine (ob_t rfl).trans ?_
    rw [r1]
    rfl
theorem ND_sub {S : St} {L : List (List Int)} {f : Nat} {i : Int} {R : List (List Int)} (h : ND S L f i R) : 0 < R.length := (ND_b h).2.2.2.1
theorem g42_t {L : List (List Int)} (hL : ∀ l : Int, 0 ≤ l → l < L.length → 0 < (lt L l).length ∧ ∀ x ∈ lt L l, 0 ≤ x) : ∀ (f fu : Nat) (i r d : Int) (S : St) (R : List (List Int)) (a : Option (List (List Int))), f < fu → 0 ≤ d → d + f ≤ 11 → ND S L f i R → sml R → 0 ≤ r → r < R.length → S.F 3 5 ≤ 160 → S.F 3 7 ≤ 1280 → CP_15 S a [] → ∃ S', g42_15 fu S i r d = some S' ∧ Fr [15, 16, 17, 18] S S' ∧ CP_15 S' (((lt R r).map (lt L)).foldl stp a) [] := by
  intro f
  induction f with
  | zero => intro fu i r d S R a _ _ _ h; exact absurd h id
  | succ f ih =>
    intro fu i r d S R a hfu d0 d1 h hs r0 r1 n5 n7 hC
    obtain ⟨fu, rfl⟩ : ∃ g, fu = g + 1 := ⟨fu - 1, by omega⟩
    obtain ⟨b1, b2, b3, b4, b5, b6⟩ := h
    show ∃ S', g42_15b (g42_15 fu) S i r d = some S' ∧ _
    rcases b6 with ⟨c1, l, c2, c3, c4, c5, c6⟩ | ⟨R1, R2, c1, c2, c3⟩
    · subst c4
      have r1 : r < ((1 : Nat) : Int) := r1
      obtain ⟨l1, l3⟩ := hL l c2 c3
      obtain ⟨S1, q1, q2, q3⟩ := g43_t (S := S) (st := S.A 5 i) (len := S.A 6 i) (E := lt L l) (a := a) c5 (inR_to _) l1 (fun h16 => by
        obtain ⟨k1, k2, k3⟩ := c6 h16
        exact ⟨k1, by omega, by rw [c5]; exact k3⟩) l3 hC
      have er : lt [[l]] r = [l] := by rw [show r = 0 by omega]; rfl
      refine ⟨S1, ?_, q2, ?_⟩
      · unfold g42_15b
        refine (gd_t (by first | exact ⟨by omega, by omega⟩ | exact ⟨by omega, by omega, by omega⟩ | exact ⟨by omega, by omega, by omega, by omega⟩ | omega | exact inR_to _ | assumption | decide)).trans ?_
        rw [if_neg (by omega)]
        refine (gd_t (by first | exact ⟨by omega, by omega⟩ | exact ⟨by omega, by omega, by omega⟩ | exact ⟨by omega, by omega, by omega, by omega⟩ | omega | exact inR_to _ | assumption | decide)).trans ?_
        rw [if_pos c1, q1]
        rfl
      · rw [er]
        exact q3
    · obtain ⟨x1, x2, x3, x4, x5⟩ := ND_b c1
      obtain ⟨y1, y2, y3, y4, y5⟩ := ND_b c2
      rcases c3 with ⟨k4, e⟩ | ⟨k4, e⟩
      · subst e
        obtain ⟨s1, s2⟩ := sml_prd hs x4 y4
        have l1 := s1.1
        have l2 := s2.1
        have e7 : S.A 7 (S.A 6 i) = R2.length := by rw [y3]; omega
        have emax : max 1 (S.A 7 (S.A 6 i)) = R2.length := by rw [e7]; omega
        rw [prd_len] at r1
        have dm := dm_lt (k := r) (n1 := R1.length) (n2 := R2.length) r0 (by rw [← Int.natCast_mul]; exact r1) (by omega) (by omega)
        obtain ⟨S1, q1, q2, q3⟩ := ih fu (S.A 5 i) (r / R2.length) (d + 1) S R1 a (by omega) (by omega) (by omega) c1 s1 dm.2.1 dm.2.2.1 n5 n7 hC
        have tg : TG S S1 := TG.same (q2.F (by decide)) (fun c h4 h9 => q2.A (fun hm => by
          have : ∀ d ∈ [15, 16, 17, 18], 9 < d := by decide
          have := this c hm
          omega))
        have nd2 := ND.mono (M := []) tg _ _ _ c2
        rw [List.append_nil] at nd2
        obtain ⟨S2, p1, p2, p3⟩ := ih fu (S.A 6 i) (r % R2.length) (d + 1) S1 R2 _ (by omega) (by omega) (by omega) nd2 s2 dm.2.2.2.1 dm.2.2.2.2 (by rw [q2.F (by decide)]; exact n5) (by rw [q2.F (by decide)]; exact n7) q3
        refine ⟨S2, ?_, q2.trans p2, ?_⟩
        · unfold g42_15b
          refine (gd_t (by first | exact ⟨by omega, by omega⟩ | exact ⟨by omega, by omega, by omega⟩ | exact ⟨by omega, by omega, by omega, by omega⟩ | omega | exact inR_to _ | assumption | decide)).trans ?_
          rw [if_neg (by omega)]
          refine (gd_t (by first | exact ⟨by omega, by omega⟩ | exact ⟨by omega, by omega, by omega⟩ | exact ⟨by omega, by omega, by omega, by omega⟩ | omega | exact inR_to _ | assumption | decide)).trans ?_
          rw [if_neg (by omega), if_pos k4]
          refine (gd_t (by first | exact ⟨by omega, by omega⟩ | exact ⟨by omega, by omega, by omega⟩ | exact ⟨by omega, by omega, by omega, by omega⟩ | omega | exact inR_to _ | assumption | decide)).trans ?_
          have hp256 := Nat.mul_le_mul l1 l2
          rw [emax]
          refine (gd_t (by first | exact ⟨by omega, by omega⟩ | exact ⟨by omega, by omega, by omega⟩ | exact ⟨by omega, by omega, by omega, by omega⟩ | omega | exact inR_to _ | assumption | decide)).trans ?_
          rw [q1]
          refine (ob_t rfl).trans ?_
          rw [p1]
          rfl
        · rw [prd_at r0 r1, List.map_append, List.foldl_append]
          exact p3
      · subst e
        obtain ⟨s1, s2⟩ := sml_app hs
        have l1 := s1.1
        have e7 : S.A 7 (S.A 5 i) = R1.length := by rw [x3]; omega
        rw [List.length_append] at r1
        by_cases hr : r < R1.length
        · obtain ⟨S1, q1, q2, q3⟩ := ih fu (S.A 5 i) r (d + 1) S R1 a (by omega) (by omega) (by omega) c1 s1 r0 hr n5 n7 hC
          refine ⟨S1, ?_, q2, by rw [lt_l r0 hr]; exact q3⟩
          unfold g42_15b
          refine (gd_t (by first | exact ⟨by omega, by omega⟩ | exact ⟨by omega, by omega, by omega⟩ | exact ⟨by omega, by omega, by omega, by omega⟩ | omega | exact inR_to _ | assumption | decide)).trans ?_
          rw [if_neg (by omega)]
          refine (gd_t (by first | exact ⟨by omega, by omega⟩ | exact ⟨by omega, by omega, by omega⟩ | exact ⟨by omega, by omega, by omega, by omega⟩ | omega | exact inR_to _ | assumption | decide)).trans ?_
          rw [if_neg (by omega), if_neg (by omega)]
          refine (gd_t (by first | exact ⟨by omega, by omega⟩ | exact ⟨by omega, by omega, by omega⟩ | exact ⟨by omega, by omega, by omega, by omega⟩ | omega | exact inR_to _ | assumption | decide)).trans ?_
          have h16 := hs.1
          rw [List.length_append] at h16
          refine (gd_t (by first | exact ⟨by omega, by omega⟩ | exact ⟨by omega, by omega, by omega⟩ | exact ⟨by omega, by omega, by omega, by omega⟩ | omega | exact inR_to _ | assumption | decide)).trans ?_
          rw [e7, if_pos hr, q1]
          rfl
        · obtain ⟨S1, q1, q2, q3⟩ := ih fu (S.A 6 i) (r - R1.length) (d + 1) S R2 a (by omega) (by omega) (by omega) c2 s2 (by omega) (by omega) n5 n7 hC
          refine ⟨S1, ?_, q2, by rw [lt_r (by omega)]; exact q3⟩
          unfold g42_15b
          refine (gd_t (by first | exact ⟨by omega, by omega⟩ | exact ⟨by omega, by omega, by omega⟩ | exact ⟨by omega, by omega, by omega, by omega⟩ | omega | exact inR_to _ | assumption | decide)).trans ?_
          rw [if_neg (by omega)]
          refine (gd_t (by first | exact ⟨by omega, by omega⟩ | exact ⟨by omega, by omega, by omega⟩ | exact ⟨by omega, by omega, by omega, by omega⟩ | omega | exact inR_to _ | assumption | decide)).trans ?_
          rw [if_neg (by omega), if_neg (by omega)]
          refine (gd_t (by first | exact ⟨by omega, by omega⟩ | exact ⟨by omega, by omega, by omega⟩ | exact ⟨by omega, by omega, by omega, by omega⟩ | omega | exact inR_to _ | assumption | decide)).trans ?_
          have h16 := hs.1
          rw [List.length_append] at h16
          refine (gd_t (by first | exact ⟨by omega, by omega⟩ | exact ⟨by omega, by omega, by omega⟩ | exact ⟨by omega, by omega, by omega, by omega⟩ | omega | exact inR_to _ | assumption | decide)).trans ?_
          rw [e7, if_neg hr, q1]
          rfl
