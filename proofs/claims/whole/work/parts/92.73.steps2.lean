def isS (c : Int) : Prop := c = 126 ∨ c = 38 ∨ c = 124 ∨ c = 62 ∨ c = 33 ∨ c = 63
theorem g115_t {T : St} {c : Int} (hc : inR c) : (isS c → g115 T c = some 1) ∧ (¬ isS c → g115 T c = some 0) := by
  refine ⟨fun h => ?_, fun h => ?_⟩
  · rcases h with e | e | e | e | e | e <;> (rw [e]; rfl)
  · unfold g115
    refine (gd_t hc).trans ?_
    rw [if_neg (fun e => h (Or.inl e)), if_neg (fun e => h (Or.inr (Or.inl e))), if_neg (fun e => h (Or.inr (Or.inr (Or.inl e)))), if_neg (fun e => h (Or.inr (Or.inr (Or.inr (Or.inl e))))), if_neg (fun e => h (Or.inr (Or.inr (Or.inr (Or.inr (Or.inl e)))))), if_neg (fun e => h (Or.inr (Or.inr (Or.inr (Or.inr (Or.inr e))))))]
theorem L10_w {T : St} {n : Nat} {v d v4 : Int} (h : T.F 36 28 = 1) : g101L10 (n + 1) v d v4 1 T = some (v4, T) := by
  rw [g101L10]
  refine (gd_t (by first | exact ⟨by omega, by omega⟩ | exact ⟨by omega, by omega, by omega⟩ | exact ⟨by omega, by omega, by omega, by omega⟩ | omega | exact inR_to _ | assumption | decide)).trans ?_
  rw [if_neg (by decide), if_neg (by rw [h]; decide)]
theorem L10_z {T : St} {n : Nat} {v d v4 : Int} : g101L10 (n + 1) v d v4 0 T = some (v4, T) := by
  rw [g101L10]
  refine (gd_t (by first | exact ⟨by omega, by omega⟩ | exact ⟨by omega, by omega, by omega⟩ | exact ⟨by omega, by omega, by omega, by omega⟩ | omega | exact inR_to _ | assumption | decide)).trans ?_
  rw [if_pos rfl]
theorem L10_bad {tx : Int → Int} {len pos d v v4 : Int} {T : St} {n : Nat} (hQ : QX tx len) (h : RM tx len T pos) (hl : ¬ (65 ≤ tx pos ∧ tx pos ≤ 90)) (hs : isS (tx pos) → 10 ≤ d) (d0 : 0 ≤ d) (d1 : d ≤ 10) : g101L10 (n + 2) v d v4 1 T = some (v4, T.f 36 28 1) := by
  have e0 := g102_t hQ h
  have q0 := hQ.r h.2.2.2.2.1
  have eb : (T.f 36 28 1).F 36 28 = 1 := by rw [f_F (by decide), if_pos rfl, if_pos rfl]
  have g := g115_t (T := T) (c := tx pos) ⟨by omega, by omega⟩
  have go : g101L10 (n + 1) v d v4 1 (T.f 36 28 1) = some (v4, T.f 36 28 1) := L10_w eb
  rw [g101L10]
  refine (gd_t (by first | exact ⟨by omega, by omega⟩ | exact ⟨by omega, by omega, by omega⟩ | exact ⟨by omega, by omega, by omega, by omega⟩ | omega | exact inR_to _ | assumption | decide)).trans ?_
  rw [if_neg (by decide), if_pos h.2.2.1, e0]
  refine (ob_t rfl).trans ?_
  refine (gd_t (by first | exact ⟨by omega, by omega⟩ | exact ⟨by omega, by omega, by omega⟩ | exact ⟨by omega, by omega, by omega, by omega⟩ | omega | exact inR_to _ | assumption | decide)).trans ?_
  by_cases h65 : tx pos < 65
  · rw [if_pos h65]
    by_cases hS : isS (tx pos)
    · have := hs hS
      rw [g.1 hS]
      refine (ob_t rfl).trans ?_
      refine (gd_t (by first | exact ⟨by omega, by omega⟩ | exact ⟨by omega, by omega, by omega⟩ | exact ⟨by omega, by omega, by omega, by omega⟩ | omega | exact inR_to _ | assumption | decide)).trans ?_
      rw [if_neg (by decide)]
      refine (gd_t (by first | exact ⟨by omega, by omega⟩ | exact ⟨by omega, by omega, by omega⟩ | exact ⟨by omega, by omega, by omega, by omega⟩ | omega | exact inR_to _ | assumption | decide)).trans ?_
      rw [if_neg (by omega)]
      exact go
    · rw [g.2 hS]
      refine (ob_t rfl).trans ?_
      refine (gd_t (by first | exact ⟨by omega, by omega⟩ | exact ⟨by omega, by omega, by omega⟩ | exact ⟨by omega, by omega, by omega, by omega⟩ | omega | exact inR_to _ | assumption | decide)).trans ?_
      rw [if_pos rfl]
      exact go
  · rw [if_neg h65, if_pos (by omega)]
    by_cases hS : isS (tx pos)
    · have := hs hS
      rw [g.1 hS]
      refine (ob_t rfl).trans ?_
      refine (gd_t (by first | exact ⟨by omega, by omega⟩ | exact ⟨by omega, by omega, by omega⟩ | exact ⟨by omega, by omega, by omega, by omega⟩ | omega | exact inR_to _ | assumption | decide)).trans ?_
      rw [if_neg (by decide)]
      refine (gd_t (by first | exact ⟨by omega, by omega⟩ | exact ⟨by omega, by omega, by omega⟩ | exact ⟨by omega, by omega, by omega, by omega⟩ | omega | exact inR_to _ | assumption | decide)).trans ?_
      rw [if_neg (by omega)]
      exact go
    · rw [g.2 hS]
      refine (ob_t rfl).trans ?_
      refine (gd_t (by first | exact ⟨by omega, by omega⟩ | exact ⟨by omega, by omega, by omega⟩ | exact ⟨by omega, by omega, by omega, by omega⟩ | omega | exact inR_to _ | assumption | decide)).trans ?_
      rw [if_pos rfl]
      exact go
theorem g22_bad {tx : Int → Int} {len pos d v : Int} {S : St} {rc : St → Int → Int → Option (Int × St)} (hQ : QX tx len) (h : RC0 tx len S pos) (hl : ¬ (65 ≤ tx pos ∧ tx pos ≤ 90)) (hs : isS (tx pos) → 10 ≤ d) (d0 : 0 ≤ d) (d1 : d ≤ 10) : g22b rc S v d = some (-1, S.f 1 3 pos) := by
  have e0 := g23_0 hQ h
  have q0 := hQ.r h.2.2.2.2.1
  have e25 : ob (g25 S pos) (fun o => some (o.1, o.2)) = some (-1, S.f 1 3 pos) := rfl
  have ns : d < 10 → ¬ tx pos = 33 ∧ ¬ tx pos = 38 ∧ ¬ tx pos = 62 ∧ ¬ tx pos = 63 ∧ ¬ tx pos = 124 ∧ ¬ tx pos = 126 := fun hd => by
    have : ¬ isS (tx pos) := fun hS => by have := hs hS; omega
    unfold isS at this
    omega
  unfold g22b
  rw [e0]
  refine (ob_t rfl).trans ?_
  refine (gd_t (by first | exact ⟨by omega, by omega⟩ | exact ⟨by omega, by omega, by omega⟩ | exact ⟨by omega, by omega, by omega, by omega⟩ | omega | exact inR_to _ | assumption | decide)).trans ?_
  rw [h.2.1]
  by_cases h65 : tx pos < 65
  · rw [if_pos h65]
    refine (gd_t (by first | exact ⟨by omega, by omega⟩ | exact ⟨by omega, by omega, by omega⟩ | exact ⟨by omega, by omega, by omega, by omega⟩ | omega | exact inR_to _ | assumption | decide)).trans ?_
    by_cases hd : d < 10
    · obtain ⟨n1, n2, n3, n4, n5, n6⟩ := ns hd
      rw [if_pos hd, if_neg n1, if_neg n2, if_neg n3, if_neg n4, if_neg n5, if_neg n6]
      exact e25
    · rw [if_neg hd]
      exact e25
  · rw [if_neg h65, if_pos (by omega)]
    refine (gd_t (by first | exact ⟨by omega, by omega⟩ | exact ⟨by omega, by omega, by omega⟩ | exact ⟨by omega, by omega, by omega, by omega⟩ | omega | exact inR_to _ | assumption | decide)).trans ?_
    by_cases hd : d < 10
    · obtain ⟨n1, n2, n3, n4, n5, n6⟩ := ns hd
      rw [if_pos hd, if_neg n1, if_neg n2, if_neg n3, if_neg n4, if_neg n5, if_neg n6]
      exact e25
    · rw [if_neg hd]
      exact e25
/-- what follows a part: signs are closed, and the reading goes on -/
def CLs (n : Nat) (d : Int) (T : St) : Option (Int × St) := ob (obr (g113L7 FU d T) (fun o45 => some (o45.1, o45.2))) (fun o115 => gd (inR o115.1) (if 0 < o115.1 then gd (ixR (o115.1 - 1) 10) (if (o115.2.A 55 (o115.1 - 1)) = 0 then g101L10 n 0 o115.1 (o115.2.F 36 42) 1 o115.2 else g101L10 n 1 o115.1 (o115.2.F 36 42) 1 o115.2) else g101L10 n 0 o115.1 (o115.2.F 36 42) 0 o115.2))
theorem L10_let {tx : Int → Int} {len pos d v v4 : Int} {T : St} {n : Nat} (hQ : QX tx len) (h : RM tx len T pos) (hl : 65 ≤ tx pos ∧ tx pos ≤ 90) : g101L10 (n + 1) v d v4 1 T = ob (g103 T v) (fun o109 => if (o109.F 36 36) = 0 then if (o109.F 36 28) = 0 then ob (g112 o109 ((o109.F 36 46) - 1)) (fun o113 => CLs n d (o113.2.f 36 42 o113.1)) else CLs n d (o109.f 36 42 0) else CLs n d (o109.f 36 42 0)) := by
  have e0 := g102_t hQ h
  rw [g101L10]
  refine (gd_t (by first | exact ⟨by omega, by omega⟩ | exact ⟨by omega, by omega, by omega⟩ | exact ⟨by omega, by omega, by omega, by omega⟩ | omega | exact inR_to _ | assumption | decide)).trans ?_
  rw [if_neg (by decide), if_pos h.2.2.1, e0]
  refine (ob_t rfl).trans ?_
  refine (gd_t (by first | exact ⟨by omega, by omega⟩ | exact ⟨by omega, by omega, by omega⟩ | exact ⟨by omega, by omega, by omega, by omega⟩ | omega | exact inR_to _ | assumption | decide)).trans ?_
  rw [if_neg (by omega), if_neg (by omega)]
  rfl
theorem g22_let {tx : Int → Int} {len pos d v : Int} {S : St} {rc : St → Int → Int → Option (Int × St)} (hQ : QX tx len) (h : RC0 tx len S pos) (hl : 65 ≤ tx pos ∧ tx pos ≤ 90) : g22b rc S v d = ob (g24 S v) (fun o92 => if (o92.F 1 3) = (-1) then g32 o92 12 (o92.F 1 12) else some ((-1), o92)) := by
  have e0 := g23_0 hQ h
  unfold g22b
  rw [e0]
  refine (ob_t rfl).trans ?_
  refine (gd_t (by first | exact ⟨by omega, by omega⟩ | exact ⟨by omega, by omega, by omega⟩ | exact ⟨by omega, by omega, by omega, by omega⟩ | omega | exact inR_to _ | assumption | decide)).trans ?_
  rw [if_neg (by omega), if_neg (by omega)]
  refine congrArg _ (funext fun o92 => ?_)
  split
  · exact ob_id _
  · rfl
theorem CLs_b {T T' : St} {j n : Nat} (h : ∀ m, g113L7 (m + 1) ((j + 1 : Nat) : Int) T = g113L7 m j T') (hj : j < 10) : CLs n ((j + 1 : Nat) : Int) T = CLs n j T' := by
  obtain ⟨q, hq⟩ := FU_ge (n := 20) (by decide)
  have e : g113L7 FU ((j + 1 : Nat) : Int) T = g113L7 FU j T' := by
    rw [hq, show 20 + (q + 1) = (20 + q) + 1 by omega, h]
    exact g113_fuel j (20 + q) (20 + q + 1) T' (by omega) (by omega)
  unfold CLs
  rw [e]
theorem CLs_1 {T : St} {j n : Nat} {c : Int} (hj : j < 10) (ec : T.A 54 j = c) (hc : isB c) (e56 : T.A 56 j = 0) (h55 : b1R (T.A 55 j)) : CLs n ((j + 1 : Nat) : Int) T = g101L10 n (T.A 55 j) ((j + 1 : Nat) : Int) (T.F 36 42) 1 ((T.a 56 j 1).a 57 j (T.F 36 42)) := by
  obtain ⟨q, hq⟩ := FU_ge (n := 20) (by decide)
  have e : g113L7 FU ((j + 1 : Nat) : Int) T = some (.inr (((j + 1 : Nat) : Int), (T.a 56 j 1).a 57 j (T.F 36 42))) := by
    rw [hq, show 20 + (q + 1) = (20 + q) + 1 by omega]
    exact close_1 hj ec hc e56
  unfold CLs
  rw [e]
  refine (ob_t rfl).trans ?_
  show gd (inR ((j + 1 : Nat) : Int)) (if (0 : Int) < ((j + 1 : Nat) : Int) then gd (ixR (((j + 1 : Nat) : Int) - 1) 10) (if (T.A 55 (((j + 1 : Nat) : Int) - 1)) = 0 then g101L10 n 0 ((j + 1 : Nat) : Int) (T.F 36 42) 1 ((T.a 56 j 1).a 57 j (T.F 36 42)) else g101L10 n 1 ((j + 1 : Nat) : Int) (T.F 36 42) 1 ((T.a 56 j 1).a 57 j (T.F 36 42))) else _) = _
  refine (gd_t (by first | exact ⟨by omega, by omega⟩ | exact ⟨by omega, by omega, by omega⟩ | exact ⟨by omega, by omega, by omega, by omega⟩ | omega | exact inR_to _ | assumption | decide)).trans ?_
  rw [if_pos (by omega)]
  refine (gd_t (by first | exact ⟨by omega, by omega⟩ | exact ⟨by omega, by omega, by omega⟩ | exact ⟨by omega, by omega, by omega, by omega⟩ | omega | exact inR_to _ | assumption | decide)).trans ?_
  rw [show ((j + 1 : Nat) : Int) - 1 = j by omega]
  rcases h55 with e | e
  · rw [e, if_pos rfl]
  · rw [e, if_neg (by decide)]
/-- closing when the text has gone wrong -/
theorem CLs_bad {T : St} {j : Nat} {top : Int} {R : List (List Int)} (hj : j ≤ 10) (hw : T.F 36 28 = 1) (hfl : b1R (T.F 36 36)) (hs : T.F 36 36 = 0 → SI T j top ∧ CU T top R) : ∃ (w : Int) (T' : St), (∀ n, CLs (n + 1) j T = some (w, T')) ∧ T'.F 36 28 = 1 ∧ T'.F 36 27 = T.F 36 27 ∧ Fx [56, 57, 58, 59] [30, 36, 42, 43] T T' := by
  have hh : ∃ (v : Int) (T' : St), (g113L7 FU j T = some (.inl (v, T')) ∨ g113L7 FU j T = some (.inr (v, T'))) ∧ 0 ≤ v ∧ v ≤ 10 ∧ Fx [56, 57, 58, 59] [30, 36, 42, 43] T T' := by
    rcases hfl with e | e
    · exact close_a j FU T top R hj (FU_gt (by omega)) e (hs e).1 (hs e).2
    · exact close_f j FU T hj (FU_gt (by omega)) e
  obtain ⟨v, T', h1, h2, h3, h4⟩ := hh
  have w' : T'.F 36 28 = 1 := by rw [h4.F (by decide)]; exact hw
  refine ⟨T'.F 36 42, T', fun n => ?_, w', h4.F (by decide), h4⟩
  have e : obr (g113L7 FU j T) (fun o45 => some (o45.1, o45.2)) = some (v, T') := by
    rcases h1 with e | e <;> (rw [e]; rfl)
  unfold CLs
  rw [e]
  refine (ob_t rfl).trans ?_
  show gd (inR v) (if 0 < v then gd (ixR (v - 1) 10) (if (T'.A 55 (v - 1)) = 0 then g101L10 (n + 1) 0 v (T'.F 36 42) 1 T' else g101L10 (n + 1) 1 v (T'.F 36 42) 1 T') else g101L10 (n + 1) 0 v (T'.F 36 42) 0 T') = _
  refine (gd_t (by first | exact ⟨by omega, by omega⟩ | exact ⟨by omega, by omega, by omega⟩ | exact ⟨by omega, by omega, by omega, by omega⟩ | omega | exact inR_to _ | assumption | decide)).trans ?_
  by_cases hv : 0 < v
  · rw [if_pos hv]
    refine (gd_t (by first | exact ⟨by omega, by omega⟩ | exact ⟨by omega, by omega, by omega⟩ | exact ⟨by omega, by omega, by omega, by omega⟩ | omega | exact inR_to _ | assumption | decide)).trans ?_
    rw [L10_w w', L10_w w']
    split <;> rfl
  · rw [if_neg hv, L10_z]
