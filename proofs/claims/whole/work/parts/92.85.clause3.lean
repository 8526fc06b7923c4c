theorem nd_inj {N : List Int} (h : N.Nodup) {i j : Nat} (hi : i < N.length) (hj : j < N.length) (e : gI N i = gI N j) : i = j := by
  have g : ∀ k : Nat, (hk : k < N.length) → gI N k = N[k] := fun k hk => by
    unfold gI
    rw [List.getD_eq_getElem?_getD, show ((k : Int)).toNat = k by omega, List.getElem?_eq_getElem hk]
    rfl
  have pw := List.pairwise_iff_getElem.mp h
  rcases Nat.lt_trichotomy i j with hl | hl | hl
  · have := pw i j hi hj hl
    rw [g i hi, g j hj] at e
    exact absurd e this
  · exact hl
  · have := pw j i hj hi hl
    rw [g i hi, g j hj] at e
    exact absurd e.symm this
/-- what is read can be written -/
theorem GQ_c {tx : Int → Int} {len pos : Int} {S T : St} {N : List Int} {Ls : List (List Int)} (hQ : QX tx len) (h : CI tx len S T pos N Ls) (h47 : ∀ v : Int, 0 ≤ v → v < 128 → T.A 47 v = -1) : ∃ (nu : Int → List Int) (uc nn top : Int) (k : Nat) (cd num : Int → Int), nn ≤ 128 ∧ top ≤ 1024 ∧ GQ (T.A 46) (T.A 47) (T.A 60) (T.A 61) nu uc nn top k cd num Ls := by
  obtain ⟨a1, a2, a3, ⟨e1, e2, e3, e4, e5, e6⟩, a5, a6, a7, a8, a9, a10⟩ := h
  have l160 := hQ.2.1
  have p1 := a1.2.2.2.2.2
  have hp := pigeon 33 N e4 (fun x hx => by have := e5 x hx; omega)
  have hnu : ∀ c, (if 0 ≤ c ∧ c < (N.length : Int) then [gI N c * 256] else ([] : List Int)) ≠ [] → 0 ≤ c ∧ c < (N.length : Int) := fun c hc => by
    by_cases hh : 0 ≤ c ∧ c < (N.length : Int)
    · exact hh
    · rw [if_neg hh] at hc
      exact absurd rfl hc
  refine ⟨fun c => if 0 ≤ c ∧ c < (N.length : Int) then [gI N c * 256] else [], 33, N.length, T.F 36 22, 0, fun _ => 0, fun _ => 0, by omega, by omega, fun c hc => ?_, fun c hc => hnu c hc, fun c c' x hc hc' _ => ?_, fun c hc hb => ?_, fun i hi => absurd hi (by omega), a10 _ ⟨e4, e5, fun i hi => if_pos ⟨by omega, by omega⟩⟩⟩
  · have hh := hnu c hc
    have m := e5 _ (gI_mem hh.1 hh.2)
    refine Or.inl ⟨by rw [h47 c hh.1 (by omega)]; decide, gI N c * 256, if_pos hh, ?_, by omega, ?_⟩
    · unfold vx
      omega
    · unfold VU
      omega
  · have h1 := hnu c (by rw [show (if 0 ≤ c ∧ c < (N.length : Int) then [gI N c * 256] else ([] : List Int)) = [x] from hc]; exact List.cons_ne_nil _ _)
    have h2 := hnu c' (by rw [show (if 0 ≤ c' ∧ c' < (N.length : Int) then [gI N c' * 256] else ([] : List Int)) = [x] from hc']; exact List.cons_ne_nil _ _)
    have hc : (if 0 ≤ c ∧ c < (N.length : Int) then [gI N c * 256] else ([] : List Int)) = [x] := hc
    have hc' : (if 0 ≤ c' ∧ c' < (N.length : Int) then [gI N c' * 256] else ([] : List Int)) = [x] := hc'
    rw [if_pos h1] at hc
    rw [if_pos h2] at hc'
    have i1 := (List.cons.inj hc).1
    have i2 := (List.cons.inj hc').1
    have := nd_inj e4 (i := c.toNat) (j := c'.toNat) (by omega) (by omega) (by
      rw [show (c.toNat : Int) = c by omega, show (c'.toNat : Int) = c' by omega]
      omega)
    omega
  · have hh := hnu c hc
    rw [h47 c hh.1 (by omega)] at hb
    exact absurd hb (by decide)
def RDo (S T : St) (v1 v2 v3 v4 : Int) (S1 T1 : St) : Prop := Fr [1, 12, 30, 31, 32, 33, 34] S S1 ∧ S1.F 1 1 = S.F 1 1 ∧ Fx mX mZ T T1 ∧ B61 T1 ∧ g158 T v1 v2 v3 v4 = g158C131 T1 v1 v2 v3 v4 ∧ ((g87_30 S = some (0, S1) ∧ S1.F 1 3 = T1.F 36 27 ∧ ¬ (T1.F 36 28 = 0 ∧ T1.F 36 27 = T1.F 36 2)) ∨ (g87_30 S = some (1, S1) ∧ T1.F 36 28 = 0 ∧ T1.F 36 27 = T1.F 36 2 ∧ ∃ (Ls : List (List Int)) (S0 : St), CP_30 S0 (Ls.foldl stp (some [])) [] ∧ g48_30 S0 = some S1 ∧ T1.F 36 46 = Ls.length ∧ ∃ (nu : Int → List Int) (uc nn top : Int) (k : Nat) (cd num : Int → Int), nn ≤ 128 ∧ top ≤ 1024 ∧ GQ (T1.A 46) (T1.A 47) (T1.A 60) (T1.A 61) nu uc nn top k cd num Ls))
def t87 (S : St) : Option (Int × St) := ob (g48_30 S) (fun o => if (o.F 1 3) = (-1) then some (1, o) else some (0, o))
theorem t87_0 {S : St} {m : Option (List (List Int))} {w : List Int} (h : CP_30 S m w) (h3 : S.F 1 3 ≠ -1) : ∃ S', t87 S = some (0, S') ∧ Fr [32, 34] S S' := by
  obtain ⟨S', q1, q2⟩ := CPan_30 h
  refine ⟨S', ?_, q2⟩
  unfold t87
  rw [q1]
  refine (ob_t rfl).trans ?_
  exact if_neg (by rw [q2.F (by decide)]; exact h3)
theorem t87_1 {S : St} {m : Option (List (List Int))} {w : List Int} (h : CP_30 S m w) (h3 : S.F 1 3 = -1) : ∃ S', t87 S = some (1, S') ∧ g48_30 S = some S' ∧ Fr [32, 34] S S' := by
  obtain ⟨S', q1, q2⟩ := CPan_30 h
  refine ⟨S', ?_, q1, q2⟩
  unfold t87
  rw [q1]
  refine (ob_t rfl).trans ?_
  exact if_pos (by rw [q2.F (by decide)]; exact h3)
theorem B61_CI {tx : Int → Int} {len pos : Int} {S T : St} {N : List Int} {Ls : List (List Int)} (hQ : QX tx len) (h : CI tx len S T pos N Ls) : B61 T := by
  obtain ⟨a1, a2, a3, a4, a5, a6, a7, a8, a9, a10⟩ := h
  have l160 := hQ.2.1
  have p1 := a1.2.2.2.2.2
  unfold B61
  rw [a6]
  exact ⟨by omega, by omega, a9⟩
set_option maxHeartbeats 1000000 in
theorem read_sim {S T : St} {v1 v2 v3 v4 : Int} (h : Rel S) (hT : FK S T) : ∃ S1 T1, RDo S T v1 v2 v3 v4 S1 T1 := by
  have hQ := QX_S h.1
  have l160 := hQ.2.1
  have l0 := hQ.1
  obtain ⟨T0, q1, q2, q3⟩ := g99_t T
  obtain ⟨S1, s1, s2, s3⟩ := begin_30 (((S.f 1 5 1).f 1 4 0).f 1 3 (-1))
  have i0 : inR 0 := by decide
  have i1 : inR 1 := by decide
  have im : inR (-1) := by decide
  have sF1 : S1.F 1 = (((S.f 1 5 1).f 1 4 0).f 1 3 (-1)).F 1 := s2.F (by decide)
  have f11 : S1.F 1 1 = S.F 1 1 := by rw [sF1]; simp [f_F i0, f_F i1, f_F im]
  have f14 : S1.F 1 4 = 0 := by rw [sF1]; simp [f_F i0, f_F i1, f_F im]
  have f13 : S1.F 1 3 = -1 := by rw [sF1]; simp [f_F i0, f_F i1, f_F im]
  have f15 : S1.F 1 5 = 1 := by rw [sF1]; simp [f_F i0, f_F i1, f_F im]
  have fS1 : CF S S1 := ⟨(((Fr.f (by decide)).trans (Fr.f (by decide))).trans (Fr.f (by decide))).trans (s2.mono (by decide)), f11⟩
  have a2 : S1.A 2 = S.A 2 := fS1.1.A (by decide)
  obtain ⟨m22, m27, m28, m29, m30, m34, m35, m36, m43, m46⟩ := iniT_F T
  have F0 : T0.F 36 = (iniT T).F 36 := q2.F (by decide)
  rw [← F0] at m22 m27 m28 m29 m30 m34 m35 m36 m43 m46
  have fT0 : Fx mX mZ T (T0.f 36 29 1) := ((iniT_f T).trans (q2.Fx (by decide))).trans (Fx.f _ (by decide) _)
  have tF : ∀ i, i ≠ 29 → (T0.f 36 29 1).F 36 i = T0.F 36 i := fun i hi => by rw [f_F i1, if_pos rfl, if_neg hi]
  have t29 : (T0.f 36 29 1).F 36 29 = 1 := by rw [f_F i1, if_pos rfl, if_pos rfl]
  have m2 : (T0.f 36 29 1).F 36 2 = S.F 1 1 := by
    rw [fT0.F (by decide), hT.F]
    exact h.1.2.2.1
  have m37 : (T0.f 36 29 1).A 37 = S.A 37 := by
    rw [fT0.A (by decide) (by decide), hT.A (mc rfl)]
  have ci : CI (txS S) (S.F 1 1) S1 (T0.f 36 29 1) 0 [] [] := by
    refine ⟨⟨f11, f14, f13, fun i i0 i1 => ?_, Int.le_refl _, l0⟩, ⟨m2, by rw [tF 27 (by decide)]; exact m27, by rw [tF 28 (by decide)]; exact m28, fun i i0 i1 => ?_, Int.le_refl _, l0, by rw [tF 22 (by decide), m22]; decide, by rw [tF 22 (by decide), m22]; omega⟩, f15, ⟨t29, by rw [tF 30 (by decide), m30]; rfl, by rw [tF 34 (by decide), m34]; rfl, List.nodup_nil, fun x hx => absurd hx (List.not_mem_nil), fun i hi => absurd hi (Nat.not_lt_zero _)⟩, s3, by rw [tF 46 (by decide), m46]; rfl, by decide, by rw [tF 22 (by decide), m22]; decide, fun l l0 l1 => absurd l1 (by show ¬ l < 0; omega), fun nu _ l l0 l1 => absurd l1 (by show ¬ l < 0; omega)⟩
    · rw [a2]
      unfold txS
      rw [if_pos ⟨i0, i1⟩]
    · rw [m37, (h.1.2.2.2 i i0 i1).1]
      unfold txS
      rw [if_pos ⟨i0, i1⟩]
  have h47 : ∀ v : Int, 0 ≤ v → v < 128 → (T0.f 36 29 1).A 47 v = -1 := q3
  have e23 := g23_0 hQ ci.1
  have e102 := g102_t hQ ci.2.1
  have r0 := hQ.r (p := 0) (Int.le_refl _)
  have eC : g87_30 S = if txS S 0 = 48 then (if 1 < S.F 1 1 then t87 ((S1.f 1 4 1).f 1 3 1) else t87 (S1.f 1 4 1)) else ob (g88_30 S1) (fun o => if (o.F 1 3) = (-1) then (if (o.F 1 4) < (o.F 1 1) then t87 (o.f 1 3 (o.F 1 4)) else t87 o) else t87 o) := by
    unfold g87_30
    rw [s1]
    refine (ob_t rfl).trans ?_
    rw [e23]
    refine (ob_t rfl).trans ?_
    refine (gd_t (by first | exact ⟨by omega, by omega⟩ | exact ⟨by omega, by omega, by omega⟩ | exact ⟨by omega, by omega, by omega, by omega⟩ | omega | exact inR_to _ | assumption | decide)).trans ?_
    rw [f13, f14, f11, if_pos rfl]
    by_cases h48 : txS S 0 = 48
    · rw [if_pos h48, if_pos h48]
      refine (gd_t (by first | exact ⟨by omega, by omega⟩ | exact ⟨by omega, by omega, by omega⟩ | exact ⟨by omega, by omega, by omega, by omega⟩ | omega | exact inR_to _ | assumption | decide)).trans ?_
      rfl
    · rw [if_neg h48, if_neg h48]
      rfl
  have eM : g158 T v1 v2 v3 v4 = if txS S 0 = 48 then g158C131 ((T0.f 36 29 1).f 36 27 1) v1 v2 v3 v4 else ob (g158L34 v1 v2 v3 v4 FU 1 (T0.f 36 29 1)) (fun o63 => g158C131 o63 v1 v2 v3 v4) := by
    unfold g158
    rw [q1]
    refine (ob_t rfl).trans ?_
    rw [e102]
    refine (ob_t rfl).trans ?_
    refine (gd_t (by first | exact ⟨by omega, by omega⟩ | exact ⟨by omega, by omega, by omega⟩ | exact ⟨by omega, by omega, by omega, by omega⟩ | omega | exact inR_to _ | assumption | decide)).trans ?_
    rw [m27]
    rfl
  -- both have read up to p
  have good : ∀ (p : Int) (N : List Int) (Ls : List (List Int)) (S' T' : St), CI (txS S) (S.F 1 1) S' T' p N Ls → CF S1 S' → FLM (T0.f 36 29 1) T' → g87_30 S = (if S'.F 1 4 < S'.F 1 1 then t87 (S'.f 1 3 (S'.F 1 4)) else t87 S') → g158 T v1 v2 v3 v4 = g158C131 T' v1 v2 v3 v4 → ∃ S1 T1, RDo S T v1 v2 v3 v4 S1 T1 := fun p N Ls S' T' hc cf fm g1 g2 => by
    have c1 := hc.1
    have c2 := hc.2.1
    have p0 := c1.2.2.2.2.1
    have p1 := c1.2.2.2.2.2
    have ip : inR p := ⟨by omega, by omega⟩
    have cf2 := fS1.trans cf
    rw [c1.2.1, c1.1] at g1
    by_cases hp : p < S.F 1 1
    · rw [if_pos hp] at g1
      have e3 : (S'.f 1 3 p).F 1 3 = p := by rw [f_F ip, if_pos rfl, if_pos rfl]
      obtain ⟨S2, u1, u2⟩ := t87_0 (cp30_fr hc.2.2.2.2.1 (S' := S'.f 1 3 p) (fF_ne (by decide)) (fF_ne (by decide)) rfl rfl) (by rw [e3]; omega)
      refine ⟨S2, T', ((cf2.1.mono (by decide)).trans (Fr.f (by decide))).trans (u2.mono (by decide)), ?_, fT0.trans (fm.mx.mono (fun _ hc => hc) (by decide)), B61_CI hQ hc, g2, Or.inl ⟨g1.trans u1, ?_, fun hh => ?_⟩⟩
      · rw [u2.F (by decide), f_F ip, if_pos rfl, if_neg (by decide)]
        exact cf2.2
      · rw [u2.F (by decide), e3, c2.2.1]
      · have := hh.2
        rw [c2.1, c2.2.1] at this
        omega
    · rw [if_neg hp] at g1
      obtain ⟨S2, u1, u0, u2⟩ := t87_1 hc.2.2.2.2.1 c1.2.2.1
      refine ⟨S2, T', (cf2.1.mono (by decide)).trans (u2.mono (by decide)), ?_, fT0.trans (fm.mx.mono (fun _ hc => hc) (by decide)), B61_CI hQ hc, g2, Or.inr ⟨g1.trans u1, c2.2.2.1, ?_, Ls, S', hc.2.2.2.2.1, u0, hc.2.2.2.2.2.1, GQ_c hQ hc (fun v v0 v1 => by rw [fm.A (by decide)]; exact h47 v v0 v1)⟩⟩
      · rw [u2.F (by decide)]
        exact cf2.2
      · rw [c2.1, c2.2.1]
        omega
  by_cases h48 : txS S 0 = 48
  · have pl := r0.2.2 (by omega)
    have hX := ci.adv hQ (show (0 : Int) ≤ 1 by omega) (by omega)
    rw [if_pos h48] at eC eM
    have e14 : (S1.f 1 4 1).F 1 4 = 1 := by rw [f_F i1, if_pos rfl, if_pos rfl]
    have e11 : (S1.f 1 4 1).F 1 1 = S.F 1 1 := by rw [f_F i1, if_pos rfl, if_neg (by decide)]; exact f11
    exact good 1 [] [] _ _ hX (f_FT S1 (by decide) _).CF (f27_FLM _ _) (by rw [e14, e11]; exact eC) eM
  · rw [if_neg h48] at eC eM
    rcases lits_sim (v1 := v1) (v2 := v2) (v3 := v3) (v4 := v4) hQ (S.F 1 1 + 1).toNat FU FU 0 S1 (T0.f 36 29 1) [] [] (by omega) (FU_gt (by omega)) (FU_gt (by omega)) ci (by decide) with ⟨e, S', T', b1, b2, b3, b4, b5, b6, b7, b8, b9, ⟨m, b10⟩, b11⟩ | ⟨p, N, Ls, S', T', b1, b2, b3, b4, b5⟩
    · have e88 : g88_30 S1 = some S' := by
        unfold g88_30
        have b1 : g88_30L2 FU 0 S1 = some (.inr S') := b1
        rw [b1]
        rfl
      rw [e88] at eC
      rw [b2] at eM
      have h3 : ¬ S'.F 1 3 = -1 := by rw [b5]; omega
      replace eC := eC.trans ((ob_t rfl).trans (if_neg h3))
      obtain ⟨S2, u1, u2⟩ := t87_0 b10 h3
      have cf2 := fS1.trans b8
      refine ⟨S2, T', (cf2.1.mono (by decide)).trans (u2.mono (by decide)), ?_, fT0.trans (b9.mx.mono (fun _ hc => hc) (by decide)), b11, eM, Or.inl ⟨eC.trans u1, ?_, fun hh => ?_⟩⟩
      · rw [u2.F (by decide)]
        exact cf2.2
      · rw [u2.F (by decide), b5, b7]
      · have := hh.1
        omega
    · have e88 : g88_30 S1 = some S' := by
        unfold g88_30
        have b1 : g88_30L2 FU 0 S1 = some (.inr S') := b1
        rw [b1]
        rfl
      rw [e88] at eC
      rw [b2] at eM
      exact good p N Ls S' T' b3 b4 b5 (eC.trans ((ob_t rfl).trans (if_pos b3.1.2.2.1))) eM
