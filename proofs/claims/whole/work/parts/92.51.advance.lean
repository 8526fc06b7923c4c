/-! one step of the search -/
def AJ (S T S' T' : St) : Prop := X2 S' T' ∧ XC S' T' ∧ CFr S S' ∧ MFr T T' ∧ S.F 13 1 ≤ S'.F 13 1 ∧ (S'.tl.length : Int) ≤ S.tl.length + 4 * (S'.F 13 1 - S.F 13 1) ∧ (S'.ns : Int) ≤ S.ns + 40 * (S'.F 13 1 - S.F 13 1)
theorem AJ.refl {S T : St} (h : X2 S T) (hC : XC S T) : AJ S T S T := ⟨h, hC, CFr.refl _, MFr.refl _, Int.le_refl _, by omega, by omega⟩
theorem AJ.trans {S T S1 T1 S2 T2 : St} (h : AJ S T S1 T1) (g : AJ S1 T1 S2 T2) : AJ S T S2 T2 := by
  obtain ⟨a1, a2, a3, a4, a5, a6, a7⟩ := h
  obtain ⟨b1, b2, b3, b4, b5, b6, b7⟩ := g
  exact ⟨b1, b2, a3.trans b3, a4.trans b4, by omega, by omega, by omega⟩
theorem cnt_z {f : Int → Int} {x : Int} {n : Nat} : ∀ m : Nat, (∀ k : Int, n ≤ k → k < n + m → f k = x) → cnt f x (n + m) = cnt f x n + m
  | 0, _ => (Int.add_zero _).symm
  | m + 1, h => by
    have ih := cnt_z m (fun k h1 h2 => h k h1 (by omega))
    show cnt f x (n + m) + (if f ((n + m : Nat) : Int) = x then 1 else 0) = _
    rw [ih, if_pos (h _ (by omega) (by omega))]
    omega
theorem XC.tj {S T S' T' : St} (h : XC S T) (b0 : 0 ≤ S.F 13 1) (j : TJ S T S' T') : XC S' T' := by
  obtain ⟨a1, a2, a3, a4, a5, a6, a7, a8, a9, a10, a11⟩ := j
  unfold XC at h ⊢
  have e1 : cnt (T'.A 43) 0 (S.F 13 1).toNat = cnt (T.A 43) 0 (S.F 13 1).toNat := cnt_c _ (fun i i0 i1 => by rw [a8 i (by omega)])
  have e2 := cnt_z (f := T'.A 43) (x := 0) (n := (S.F 13 1).toNat) (S'.F 13 1 - S.F 13 1).toNat (fun k h1 h2 => a9 k (by omega) (by omega))
  rw [show (S.F 13 1).toNat + (S'.F 13 1 - S.F 13 1).toNat = (S'.F 13 1).toNat by omega] at e2
  rw [a5, e2, e1]
  omega
theorem X2.steps {S T : St} (h : X2 S T) (h1 : S.F 13 3 ≤ 100) : X2 (S.f 13 3 (S.F 13 3 + 1)) (T.f 36 16 (S.F 13 3 + 1)) := by
  obtain ⟨⟨n1, n2, n3, n4, n5, n6, n7, n8, n9⟩, ⟨b1, b2, b3, b4, b5, b6, b7, b8, b9, b10⟩, h3, h4, h5, h6⟩ := h
  have iR : inR (S.F 13 3 + 1) := ⟨by omega, by omega⟩
  have e1 : (S.f 13 3 (S.F 13 3 + 1)).F 13 3 = S.F 13 3 + 1 := by rw [f_F iR, if_pos rfl, if_pos rfl]
  have e2 : (T.f 36 16 (S.F 13 3 + 1)).F 36 16 = S.F 13 3 + 1 := by rw [f_F iR, if_pos rfl, if_pos rfl]
  exact ⟨⟨n1, n2, n3, by rw [e1, e2], n5, n6, n7, n8, n9⟩, ⟨b1, b2, b3, b4, b5, b6, b7, b8, by rw [e1]; omega, by rw [e1]; omega⟩, h3, h4, h5, h6⟩
theorem FD.CFr {S S' : St} (h : FD S S') : CFr S S' := ⟨h.1.1, fun c hc => h.1.2 c (fun e => hc (by
  have : ∀ d ∈ [24, 25, 26], d ∈ cfl := by decide
  exact this c e))⟩
theorem FD.F {S S' : St} (h : FD S S') {c : Nat} (hc : c ∉ [24, 25, 26]) : S'.F c = S.F c := by
  funext i
  show (S'.F0 c i).toInt = (S.F0 c i).toInt
  rw [(h.1.2 c hc).1]
theorem f13_CFr (S : St) (k : Nat) (x : Int) : CFr S (S.f 13 k x) := (f_TF S k x).CFr
theorem f16_MFr (T : St) (x : Int) : MFr T (T.f 36 16 x) := by
  refine ⟨rfl, rfl, rfl, fun c hc => ⟨?_, rfl, rfl⟩, fun i hi => ?_⟩
  · show (if c = 36 then _ else T.F0 c) = T.F0 c
    rw [if_neg (fun e => hc (by rw [e]; decide))]
  · show (if (36 : Nat) = 36 then (fun b => if b = 16 then eI x else T.F0 36 b) else T.F0 36) i = T.F0 36 i
    rw [if_pos rfl]
    exact if_neg (fun e => hi (by rw [e]; decide))
set_option maxHeartbeats 1000000 in
theorem adv_sim {S T : St} (h : X2 S T) (hC : XC S T) (hw : 0 < cnt (T.A 43) 0 (S.F 13 1).toNat) : ∃ d S' T', g61 S = some (d, S') ∧ g137 T = some (d, T') ∧ 0 ≤ d ∧ d < 100 ∧ AJ S T S' T' := by
  obtain ⟨d, c1, c2, d0, d1, d2⟩ := choose_sim h hw
  have b1 := h.2.1.1
  have b2 := h.2.1.2.1
  have b9 := h.2.1.2.2.2.2.2.2.2.2.1
  have n4 : T.F 36 16 = S.F 13 3 := h.1.2.2.2.1
  have hle := cnt_le (T.A 43) 0 (S.F 13 1).toNat
  have hF3 : S.F 13 3 ≤ 99 := by unfold XC at hC; omega
  have hX1 := h.steps (by omega)
  have e61 : g61 S = ob (g63 (S.f 13 3 (S.F 13 3 + 1)) d) (fun o8 => gd (inR o8.1) (if o8.1 = 0 then ob (g64 o8.2 d) (fun o12 => gd (ixR d 100) (ob (o12.R 14 d) (fun c15 => gK o12 c15 (fun c17 n18 n19 n20 n21 n22 n23 => gd (72 ≤ c15) (ob (g65 (o12.t c15 (.ob 9 [c17] [eI 1, eI n19, eI n20, eI n21, eI n22, eI n23])) d) (fun o27 => ob (g61L85 d (o27.F 13 1) FU 0 o27) (fun o51 => some (d, o51)))))))) else gd (ixR d 100) (ob (o8.2.R 14 d) (fun c58 => gK o8.2 c58 (fun c60 n61 n62 n63 n64 n65 n66 => gd (72 ≤ c58) (some (d, (o8.2.t c58 (.ob 9 [c60] [eI 2, eI n62, eI n63, eI n64, eI n65, eI n66]))))))))) := by
    unfold g61
    refine (gd_t (by first | exact ⟨by omega, by omega⟩ | exact ⟨by omega, by omega, by omega⟩ | exact ⟨by omega, by omega, by omega, by omega⟩ | omega | exact inR_to _ | assumption | decide)).trans ?_
    refine (gd_t (by first | exact ⟨by omega, by omega⟩ | exact ⟨by omega, by omega, by omega⟩ | exact ⟨by omega, by omega, by omega, by omega⟩ | omega | exact inR_to _ | assumption | decide)).trans ?_
    by_cases h4 : (S.F 13 3 + 1) % 4 = 0
    · rw [if_pos h4] at c1 ⊢
      rw [c1]
      refine (ob_t rfl).trans ?_
      refine (gd_t (by first | exact ⟨by omega, by omega⟩ | exact ⟨by omega, by omega, by omega⟩ | exact ⟨by omega, by omega, by omega, by omega⟩ | omega | exact inR_to _ | assumption | decide)).trans ?_
      rw [if_neg (by omega)]
    · rw [if_neg h4] at c1 ⊢
      rw [c1]
      refine (ob_t rfl).trans ?_
      refine (gd_t (by first | exact ⟨by omega, by omega⟩ | exact ⟨by omega, by omega, by omega⟩ | exact ⟨by omega, by omega, by omega, by omega⟩ | omega | exact inR_to _ | assumption | decide)).trans ?_
      rw [if_neg (by omega)]
  have e137 : g137 T = ob (g137L19 d FU 0 0 (T.f 36 16 (S.F 13 3 + 1))) (fun o13 => gd (inR o13.1) (if o13.1 = 0 then ob (g137L77 d FU 0 o13.2) (fun o29 => gd (ixR d 100) (ob (g137L135 d FU 0 (o29.a 43 d 1)) (fun o61 => ob (g137L213 d FU 0 o61) (fun o101 => some (d, o101))))) else gd (ixR d 100) (some (d, (o13.2.a 43 d 2))))) := by
    unfold g137
    rw [c2]
    refine (ob_t rfl).trans ?_
    rw [n4]
  have h43 : (T.f 36 16 (S.F 13 3 + 1)).A 43 = T.A 43 := rfl
  have hf13 : (S.f 13 3 (S.F 13 3 + 1)).F 13 1 = S.F 13 1 := rfl
  obtain ⟨S2, T2, q1, q2, q3, q4⟩ := old_L (g := d) (S.F 13 1).toNat FU FU 0 _ _ hX1 d0 d1 (by omega) (by rw [hf13]; omega) (FU_gt (by omega)) (FU_gt (by omega))
  have cf2 : CFr S S2 := (f13_CFr S 3 _).trans (q1.CFr (by decide))
  have mf2 : MFr T T2 := (f16_MFr T _).trans (q2.MFr (by decide))
  have s13 : S2.F 13 = (S.f 13 3 (S.F 13 3 + 1)).F 13 := q1.F (by decide)
  have s131 : S2.F 13 1 = S.F 13 1 := by rw [s13]; rfl
  have s133 : S2.F 13 3 = S.F 13 3 + 1 := by rw [s13, f_F ⟨by omega, by omega⟩, if_pos rfl, if_pos rfl]
  have t43 : T2.A 43 = T.A 43 := (q2.A (by decide)).trans h43
  have tl2 : S2.tl = S.tl := q1.1
  have ns2 : S2.ns = S.ns := q1.2.1
  rcases q4 with ⟨p1, p2⟩ | ⟨p1, p2⟩
  · have e63 : g63 (S.f 13 3 (S.F 13 3 + 1)) d = some (0, S2) := by
      unfold g63
      rw [p1]
      rfl
    rw [e63] at e61
    rw [p2] at e137
    obtain ⟨S3, T3, w1, w2, w3, w4, w5, w6, w7⟩ := drop_L (g := d) (S.F 13 1).toNat FU FU 0 S2 T2 q3 d0 (by omega) (by omega) (by omega) (FU_gt (by omega)) (FU_gt (by omega))
    have s313 : S3.F 13 = S2.F 13 := w4.F (by decide)
    have d31 : d < S3.F 13 1 := by rw [s313]; omega
    obtain ⟨a, c, x0, x1, x2, x3, x4, x5, n, o, u, r1, r2, r3, r4, r5, r6, r7, r8, _⟩ := w3.2.2.1 d d0 d31
    have hX4 := w3.st (s := 1) d0 d31 r1 r2 r3 (by decide) (by decide)
    obtain ⟨S5, T5, y1, y2, y3⟩ := factors_sim d0 hX4 d31
    have k5 := y3.2.2.2.1
    have k5' : (S3.t a (.ob 9 [c] [eI 1, x1, x2, x3, x4, x5])).F 13 1 = S2.F 13 1 := by show S3.F 13 1 = _; rw [s313]
    obtain ⟨a', c', z0, z1, z2, z3, z4, z5, n', o', u', s1, s2, s3, s4, s5, s6, s7, s8⟩ := CR_ex y3.1 d0 (show d < S5.F 13 1 by omega)
    have b52 := y3.1.2.1.2.1
    obtain ⟨S6, T6, v1, v2, v3⟩ := g61L85_t (W := S5.F 13 1) d0 (by omega) (S5.F 13 1).toNat FU FU 0 S5 T5 y3.1 s3 s4 (Int.le_refl _) (fun k h1 h2 => absurd h2 (by omega)) (by omega) (by omega) (FU_gt (by omega)) (FU_gt (by omega))
    have jj := y3.trans v3
    have t3d : T3.A 43 d = 0 := by
      rw [w6 d (by rw [t43, d2]; decide), t43]
      exact d2
    have hC4 : XC (S3.t a (.ob 9 [c] [eI 1, x1, x2, x3, x4, x5])) (T3.a 43 d 1) := by
      unfold XC at hC ⊢
      have e3 : (S3.t a (.ob 9 [c] [eI 1, x1, x2, x3, x4, x5])).F 13 3 = S.F 13 3 + 1 := by show S3.F 13 3 = _; rw [s313, s133]
      rw [e3, k5', s131, aA_up (by decide)]
      have c4 := cnt_u (f := T3.A 43) (k := d) (s := 1) (S.F 13 1).toNat d0 (by omega) t3d (by decide)
      have c5 : cnt (T3.A 43) 0 (S.F 13 1).toNat = cnt (T.A 43) 0 (S.F 13 1).toNat := cnt_c _ (fun i i0 i1 => by
        by_cases h1 : T2.A 43 i = 1
        · have := w7 i h1
          rw [t43] at h1
          omega
        · rw [w6 i h1, t43])
      omega
    have hC6 := hC4.tj (by rw [k5', s131]; exact b1) jj
    refine ⟨d, S6, T6, ?_, ?_, d0, by omega, jj.1, hC6, ?_, ?_, ?_, ?_, ?_⟩
    · rw [e61]
      show ob (g64 S2 d) _ = _
      have e64 : g64 S2 d = some S3 := by
        unfold g64
        rw [w1]
        rfl
      rw [e64]
      refine (ob_t rfl).trans ?_
      refine (gd_t (by first | exact ⟨by omega, by omega⟩ | exact ⟨by omega, by omega, by omega⟩ | exact ⟨by omega, by omega, by omega, by omega⟩ | omega | exact inR_to _ | assumption | decide)).trans ?_
      refine (ob_t r1).trans ?_
      refine (gK_t ((cl_tl r2).trans r3)).trans ?_
      refine (gd_t r2).trans ?_
      rw [eI_of, eI_of, eI_of, eI_of, eI_of, y1]
      refine (ob_t rfl).trans ?_
      rw [v1]
      rfl
    · rw [e137]
      show ob (g137L77 d FU 0 T2) _ = _
      rw [w2]
      refine (ob_t rfl).trans ?_
      refine (gd_t (by first | exact ⟨by omega, by omega⟩ | exact ⟨by omega, by omega, by omega⟩ | exact ⟨by omega, by omega, by omega, by omega⟩ | omega | exact inR_to _ | assumption | decide)).trans ?_
      rw [y2]
      refine (ob_t rfl).trans ?_
      rw [v2]
      rfl
    · exact (cf2.trans (w4.CFr.trans (t_FD _ _ _).CFr)).trans jj.2.1
    · exact (mf2.trans (w5.MFr (by decide))).trans (((Fr.a (X := [43]) (by decide)).MFr (by decide)).trans jj.2.2.1)
    · have := jj.2.2.2.1
      omega
    · have l1 := jj.2.2.2.2.2.2.2.2.2.1
      rw [k5', s131, show (S3.t a (.ob 9 [c] [eI 1, x1, x2, x3, x4, x5])).tl.length = S.tl.length by rw [(t_FD S3 a _).2.1, w4.2.1, tl2]] at l1
      exact l1
    · have l1 := jj.2.2.2.2.2.2.2.2.2.2
      rw [k5', s131, show (S3.t a (.ob 9 [c] [eI 1, x1, x2, x3, x4, x5])).ns = S.ns by rw [(t_FD S3 a _).2.2, w4.2.2, ns2]] at l1
      exact l1
  · have e63 : g63 (S.f 13 3 (S.F 13 3 + 1)) d = some (1, S2) := by
      unfold g63
      rw [p1]
      rfl
    rw [e63] at e61
    rw [p2] at e137
    have d21 : d < S2.F 13 1 := by omega
    obtain ⟨a, c, x0, x1, x2, x3, x4, x5, n, o, u, r1, r2, r3, r4, r5, r6, r7, r8, _⟩ := q3.2.2.1 d d0 d21
    have hX4 := q3.st (s := 2) d0 d21 r1 r2 r3 (by decide) (by decide)
    have k5' : (S2.t a (.ob 9 [c] [eI 2, x1, x2, x3, x4, x5])).F 13 1 = S.F 13 1 := s131
    refine ⟨d, S2.t a (.ob 9 [c] [eI 2, x1, x2, x3, x4, x5]), T2.a 43 d 2, ?_, ?_, d0, by omega, hX4, ?_, ?_, ?_, ?_, ?_, ?_⟩
    · rw [e61]
      show gd (inR 1) _ = _
      refine (gd_t (by first | exact ⟨by omega, by omega⟩ | exact ⟨by omega, by omega, by omega⟩ | exact ⟨by omega, by omega, by omega, by omega⟩ | omega | exact inR_to _ | assumption | decide)).trans ?_
      refine (if_neg (show ¬ (1 : Int) = 0 by decide)).trans ?_
      refine (gd_t (by first | exact ⟨by omega, by omega⟩ | exact ⟨by omega, by omega, by omega⟩ | exact ⟨by omega, by omega, by omega, by omega⟩ | omega | exact inR_to _ | assumption | decide)).trans ?_
      refine (ob_t r1).trans ?_
      refine (gK_t ((cl_tl r2).trans r3)).trans ?_
      refine (gd_t r2).trans ?_
      rw [eI_of, eI_of, eI_of, eI_of, eI_of]
    · rw [e137]
      show gd (inR 1) _ = _
      refine (gd_t (by first | exact ⟨by omega, by omega⟩ | exact ⟨by omega, by omega, by omega⟩ | exact ⟨by omega, by omega, by omega, by omega⟩ | omega | exact inR_to _ | assumption | decide)).trans ?_
      refine (if_neg (show ¬ (1 : Int) = 0 by decide)).trans ?_
      refine (gd_t (by first | exact ⟨by omega, by omega⟩ | exact ⟨by omega, by omega, by omega⟩ | exact ⟨by omega, by omega, by omega, by omega⟩ | omega | exact inR_to _ | assumption | decide)).trans ?_
      rfl
    · unfold XC at hC ⊢
      have e3 : (S2.t a (.ob 9 [c] [eI 2, x1, x2, x3, x4, x5])).F 13 3 = S.F 13 3 + 1 := s133
      rw [e3, k5', aA_up (by decide), t43]
      have c4 := cnt_u (f := T.A 43) (k := d) (s := 2) (S.F 13 1).toNat d0 (by omega) d2 (by decide)
      omega
    · exact cf2.trans (t_FD _ _ _).CFr
    · exact mf2.trans ((Fr.a (X := [43]) (by decide)).MFr (by decide))
    · rw [k5']
      exact Int.le_refl _
    · rw [k5', (t_FD S2 a _).2.1, tl2]
      omega
    · rw [k5', (t_FD S2 a _).2.2, ns2]
      omega
