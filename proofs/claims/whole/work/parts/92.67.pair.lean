theorem min17 {a b x y : Int} (ha : x = min a 17) (hb : y = min b 17) (a1 : 1 ≤ a) (b1 : 1 ≤ b) : min (x * y) 17 = min (a * b) 17 ∧ 0 ≤ x * y ∧ x * y ≤ 289 := by
  have x1 : 1 ≤ x ∧ x ≤ 17 := by omega
  have y1 : 1 ≤ y ∧ y ≤ 17 := by omega
  have hxy : x * y ≤ 17 * 17 := Int.mul_le_mul x1.2 y1.2 (by omega) (by omega)
  have hx0 : 0 ≤ x * y := Int.mul_nonneg (by omega) (by omega)
  refine ⟨?_, hx0, by omega⟩
  by_cases h1 : a ≤ 17
  · by_cases h2 : b ≤ 17
    · rw [ha, hb, show min a 17 = a by omega, show min b 17 = b by omega]
    · have e : y = 17 := by omega
      have g1 : 17 ≤ x * y := by
        rw [e]
        omega
      have g2 : 17 ≤ a * b := by
        have : 1 * b ≤ a * b := Int.mul_le_mul_of_nonneg_right a1 (by omega)
        omega
      omega
  · have e : x = 17 := by omega
    have g1 : 17 ≤ x * y := by
      rw [e]
      omega
    have g2 : 17 ≤ a * b := by
      have : a * 1 ≤ a * b := Int.mul_le_mul_of_nonneg_left b1 (by omega)
      omega
    omega
theorem ND_b {S : St} {L : List (List Int)} {f : Nat} {i : Int} {R : List (List Int)} (h : ND S L f i R) : 0 ≤ i ∧ i < S.F 3 5 ∧ S.A 7 i = min (R.length : Int) 17 ∧ 0 < R.length ∧ MX R (S.A 8 i) := by
  cases f with
  | zero => exact absurd h id
  | succ f => exact ⟨h.1, h.2.1, h.2.2.1, h.2.2.2.1, h.2.2.2.2.1⟩
theorem MX.le {R : List (List Int)} {m : Int} (h : MX R m) : 0 ≤ m := by
  obtain ⟨_, i, i0, i1, e⟩ := h
  omega
/-- two parts become a node -/
theorem pair_t {S : St} {L : List (List Int)} {f : Nat} {i j : Int} {R1 R2 : List (List Int)} {p : Bool} (h1 : ND S L f i R1) (h2 : ND S L f j R2) (n1 : S.F 3 5 < 160) (m1 : S.A 8 i ≤ 1000000) (m2 : S.A 8 j ≤ 1000000) : ∃ S', g35 S (if p = true then 0 else 1) i j = some (S.F 3 5, S') ∧ Fr [3, 4, 5, 6, 7, 8] S S' ∧ TG S S' ∧ S'.F 3 5 = S.F 3 5 + 1 ∧ S'.F 3 7 = S.F 3 7 ∧ ND S' L (f + 1) (S.F 3 5) (comb p R1 R2) ∧ S'.A 8 (S.F 3 5) ≤ S.A 8 i + S.A 8 j := by
  obtain ⟨a1, a2, a3, a4, a5⟩ := ND_b h1
  obtain ⟨b1, b2, b3, b4, b5⟩ := ND_b h2
  have z1 := a5.le
  have z2 := b5.le
  have i5 : inR (S.F 3 5 + 1) := ⟨by omega, by omega⟩
  have ii : inR i := ⟨by omega, by omega⟩
  have ij : inR j := ⟨by omega, by omega⟩
  -- the kind, the rows, the longest
  obtain ⟨kd, rw', lg, hkd, hir, hil, hr, hm, hle, hg⟩ : ∃ kd rw' lg : Int, (kd = 2 ∨ kd = 1) ∧ inR rw' ∧ inR lg ∧ rw' = min ((comb p R1 R2).length : Int) 17 ∧ MX (comb p R1 R2) lg ∧ lg ≤ S.A 8 i + S.A 8 j ∧ ((kd = 2 ∧ p = true) ∨ (kd = 1 ∧ p = false)) ∧ ∀ S0 : St, S0.A 7 = S.A 7 → S0.A 8 = S.A 8 → g33 S kd i j = some (S.F 3 5, S0) → g35 S (if p = true then 0 else 1) i j = some (S.F 3 5, (S0.a 7 (S.F 3 5) rw').a 8 (S.F 3 5) lg) := by
    cases p with
    | true =>
      have mm := min17 a3 b3 (by omega) (by omega)
      refine ⟨2, min (S.A 7 i * S.A 7 j) 17, S.A 8 i + S.A 8 j, Or.inl rfl, ⟨by omega, by omega⟩, ⟨by omega, by omega⟩, ?_, ?_, Int.le_refl _, Or.inl ⟨rfl, rfl⟩, fun S0 e7 e8 e33 => ?_⟩
      · rw [mm.1]
        show _ = min (((prd R1 R2).length : Nat) : Int) 17
        rw [prd_len, Int.natCast_mul]
      · exact a5.prd b5
      · unfold g35
        rw [if_pos rfl]
        refine (gd_t (by first | exact ⟨by omega, by omega⟩ | exact ⟨by omega, by omega, by omega⟩ | exact ⟨by omega, by omega, by omega, by omega⟩ | omega | exact inR_to _ | assumption | decide)).trans ?_
        rw [if_pos rfl, e33]
        refine (ob_t rfl).trans ?_
        show gd (inR (S.F 3 5)) _ = _
        refine (gd_t (by first | exact ⟨by omega, by omega⟩ | exact ⟨by omega, by omega, by omega⟩ | exact ⟨by omega, by omega, by omega, by omega⟩ | omega | exact inR_to _ | assumption | decide)).trans ?_
        refine (if_neg (show ¬ S.F 3 5 = -1 by omega)).trans ?_
        show gd (ixR i 160) (gd (ixR j 160) (ob (g36 S0 (S0.A 7 i * S0.A 7 j)) _)) = _
        refine (gd_t (by first | exact ⟨by omega, by omega⟩ | exact ⟨by omega, by omega, by omega⟩ | exact ⟨by omega, by omega, by omega, by omega⟩ | omega | exact inR_to _ | assumption | decide)).trans ?_
        refine (gd_t (by first | exact ⟨by omega, by omega⟩ | exact ⟨by omega, by omega, by omega⟩ | exact ⟨by omega, by omega, by omega, by omega⟩ | omega | exact inR_to _ | assumption | decide)).trans ?_
        rw [e7]
        have e36 : g36 S0 (S.A 7 i * S.A 7 j) = some (min (S.A 7 i * S.A 7 j) 17) := by
          unfold g36
          refine (gd_t (by first | exact ⟨by omega, by omega⟩ | exact ⟨by omega, by omega, by omega⟩ | exact ⟨by omega, by omega, by omega, by omega⟩ | omega | exact inR_to _ | assumption | decide)).trans ?_
          rfl
        rw [e36]
        refine (ob_t rfl).trans ?_
        refine (gd_t (by first | exact ⟨by omega, by omega⟩ | exact ⟨by omega, by omega, by omega⟩ | exact ⟨by omega, by omega, by omega, by omega⟩ | omega | exact inR_to _ | assumption | decide)).trans ?_
        rw [e8]
    | false =>
      refine ⟨1, min (S.A 7 i + S.A 7 j) 17, max (S.A 8 i) (S.A 8 j), Or.inr rfl, ⟨by omega, by omega⟩, ⟨by omega, by omega⟩, ?_, ?_, by omega, Or.inr ⟨rfl, rfl⟩, fun S0 e7 e8 e33 => ?_⟩
      · show _ = min (((R1 ++ R2).length : Nat) : Int) 17
        rw [List.length_append]
        omega
      · exact a5.app b5
      · unfold g35
        rw [if_neg (by decide)]
        refine (gd_t (by first | exact ⟨by omega, by omega⟩ | exact ⟨by omega, by omega, by omega⟩ | exact ⟨by omega, by omega, by omega, by omega⟩ | omega | exact inR_to _ | assumption | decide)).trans ?_
        rw [if_neg (by decide), e33]
        refine (ob_t rfl).trans ?_
        show gd (inR (S.F 3 5)) _ = _
        refine (gd_t (by first | exact ⟨by omega, by omega⟩ | exact ⟨by omega, by omega, by omega⟩ | exact ⟨by omega, by omega, by omega, by omega⟩ | omega | exact inR_to _ | assumption | decide)).trans ?_
        refine (if_neg (show ¬ S.F 3 5 = -1 by omega)).trans ?_
        show gd (ixR i 160) (gd (ixR j 160) (ob (g36 S0 (S0.A 7 i + S0.A 7 j)) _)) = _
        refine (gd_t (by first | exact ⟨by omega, by omega⟩ | exact ⟨by omega, by omega, by omega⟩ | exact ⟨by omega, by omega, by omega, by omega⟩ | omega | exact inR_to _ | assumption | decide)).trans ?_
        refine (gd_t (by first | exact ⟨by omega, by omega⟩ | exact ⟨by omega, by omega, by omega⟩ | exact ⟨by omega, by omega, by omega, by omega⟩ | omega | exact inR_to _ | assumption | decide)).trans ?_
        rw [e7]
        have e36 : g36 S0 (S.A 7 i + S.A 7 j) = some (min (S.A 7 i + S.A 7 j) 17) := by
          unfold g36
          refine (gd_t (by first | exact ⟨by omega, by omega⟩ | exact ⟨by omega, by omega, by omega⟩ | exact ⟨by omega, by omega, by omega, by omega⟩ | omega | exact inR_to _ | assumption | decide)).trans ?_
          rfl
        rw [e36]
        refine (ob_t rfl).trans ?_
        refine (gd_t (by first | exact ⟨by omega, by omega⟩ | exact ⟨by omega, by omega, by omega⟩ | exact ⟨by omega, by omega, by omega, by omega⟩ | omega | exact inR_to _ | assumption | decide)).trans ?_
        rw [e8]
  have ik : inR kd := by rcases hkd with e | e <;> (rw [e]; decide)
  have e33 : g33 S kd i j = some (S.F 3 5, (((S.a 4 (S.F 3 5) kd).a 5 (S.F 3 5) i).a 6 (S.F 3 5) j).f 3 5 (S.F 3 5 + 1)) := by
    unfold g33
    rw [if_pos n1]
    refine (gd_t (by first | exact ⟨by omega, by omega⟩ | exact ⟨by omega, by omega, by omega⟩ | exact ⟨by omega, by omega, by omega, by omega⟩ | omega | exact inR_to _ | assumption | decide)).trans ?_
    rw [show S.F 3 5 + 1 - 1 = S.F 3 5 by omega]
  generalize hS0 : (((S.a 4 (S.F 3 5) kd).a 5 (S.F 3 5) i).a 6 (S.F 3 5) j).f 3 5 (S.F 3 5 + 1) = S0 at *
  have s4 : S0.A 4 = upI (S.A 4) (S.F 3 5) kd := by rw [← hS0, f_A, aA_ne (by decide), aA_ne (by decide), aA_up ik]
  have s5 : S0.A 5 = upI (S.A 5) (S.F 3 5) i := by rw [← hS0, f_A, aA_ne (by decide), aA_up ii, aA_ne (by decide)]
  have s6 : S0.A 6 = upI (S.A 6) (S.F 3 5) j := by rw [← hS0, f_A, aA_up ij, aA_ne (by decide), aA_ne (by decide)]
  have sn : ∀ c, c ∉ [4, 5, 6] → S0.A c = S.A c := fun c hc => by rw [← hS0, f_A, aA_ne (fun e => hc (by rw [e]; decide)), aA_ne (fun e => hc (by rw [e]; decide)), aA_ne (fun e => hc (by rw [e]; decide))]
  have sf5 : S0.F 3 5 = S.F 3 5 + 1 := by rw [← hS0, f_F i5, if_pos rfl, if_pos rfl]
  have sf7 : S0.F 3 7 = S.F 3 7 := by rw [← hS0, f_F i5, if_pos rfl, if_neg (by decide), a_F, a_F, a_F]
  have f0 : Fr [3, 4, 5, 6, 7, 8] S S0 := by
    rw [← hS0]
    exact ((Fr.a (by decide)).trans ((Fr.a (by decide)).trans (Fr.a (by decide)))).trans (Fr.f (by decide))
  have x4 : ((S0.a 7 (S.F 3 5) rw').a 8 (S.F 3 5) lg).A 4 = upI (S.A 4) (S.F 3 5) kd := by rw [aA_ne (by decide), aA_ne (by decide), s4]
  have x5 : ((S0.a 7 (S.F 3 5) rw').a 8 (S.F 3 5) lg).A 5 = upI (S.A 5) (S.F 3 5) i := by rw [aA_ne (by decide), aA_ne (by decide), s5]
  have x6 : ((S0.a 7 (S.F 3 5) rw').a 8 (S.F 3 5) lg).A 6 = upI (S.A 6) (S.F 3 5) j := by rw [aA_ne (by decide), aA_ne (by decide), s6]
  have x7 : ((S0.a 7 (S.F 3 5) rw').a 8 (S.F 3 5) lg).A 7 = upI (S.A 7) (S.F 3 5) rw' := by rw [aA_ne (by decide), aA_up hir, sn 7 (by decide)]
  have x8 : ((S0.a 7 (S.F 3 5) rw').a 8 (S.F 3 5) lg).A 8 = upI (S.A 8) (S.F 3 5) lg := by rw [aA_up hil, aA_ne (by decide), sn 8 (by decide)]
  have x9 : ((S0.a 7 (S.F 3 5) rw').a 8 (S.F 3 5) lg).A 9 = S.A 9 := by rw [aA_ne (by decide), aA_ne (by decide), sn 9 (by decide)]
  have xf5 : ((S0.a 7 (S.F 3 5) rw').a 8 (S.F 3 5) lg).F 3 5 = S.F 3 5 + 1 := sf5
  have xf7 : ((S0.a 7 (S.F 3 5) rw').a 8 (S.F 3 5) lg).F 3 7 = S.F 3 7 := sf7
  have tg : TG S ((S0.a 7 (S.F 3 5) rw').a 8 (S.F 3 5) lg) := ⟨by omega, by omega, fun q hq => by
    rw [x4, x5, x6, x7, x8, upI_n (by omega), upI_n (by omega), upI_n (by omega), upI_n (by omega), upI_n (by omega)]
    exact ⟨rfl, rfl, rfl, rfl, rfl⟩, fun q _ => by rw [x9]⟩
  have n1' := ND.mono (M := []) tg f _ _ h1
  have n2' := ND.mono (M := []) tg f _ _ h2
  rw [List.append_nil] at n1' n2'
  refine ⟨_, hg.2 S0 (sn 7 (by decide)) (sn 8 (by decide)) e33, f0.trans ((Fr.a (by decide)).trans (Fr.a (by decide))), tg, xf5, xf7, ⟨by omega, by omega, by rw [x7, upI_e]; exact hr, ?_, by rw [x8, upI_e]; exact hm, Or.inr ⟨R1, R2, by rw [x5, upI_e]; exact n1', by rw [x6, upI_e]; exact n2', ?_⟩⟩, by rw [x8, upI_e]; exact hle⟩
  · obtain ⟨_, q, q0, q1, _⟩ := hm
    omega
  · rw [x4, upI_e]
    rcases hg.1 with ⟨e1, e2⟩ | ⟨e1, e2⟩
    · subst e2
      exact Or.inl ⟨e1, rfl⟩
    · subst e2
      exact Or.inr ⟨e1, rfl⟩
