theorem EJ.err {S T S2 T' : St} {k : Int} (x2 : X2 S2 T') (xc : XC S2 T') (ca : CA S S2) (ma : MA T T') (k0 : T'.F 36 0 = k) (k1 : T'.F 36 1 = S2.F 0 6) (k2 : T'.F 36 2 = S2.F 1 1) (f11 : S2.F 1 1 = S.F 1 1) (ht : S2.tl = S.tl) (hn : S2.ns = S.ns) (f13 : S2.F 13 1 = S.F 13 1) (f05 : S2.F 0 5 = S.F 0 5) : EJ S T S2.ho T' k := by
  refine ⟨x2.hole, xc, ca.trans (CA.hole _), ma, k0, k1, k2, Or.inl f11, ?_, ?_⟩
  · have e1 : S2.ho.tl.length = S2.tl.length + 1 := by show (S2.tl ++ [Cl.ho]).length = _; rw [List.length_append]; rfl
    have e2 : S2.ho.F 13 1 = S2.F 13 1 := rfl
    have e3 : S2.ho.F 0 5 = S2.F 0 5 := rfl
    rw [e1, e2, e3, ht, f13, f05]
    omega
  · have e1 : S2.ho.ns = S2.ns + 6 := rfl
    have e2 : S2.ho.F 13 1 = S2.F 13 1 := rfl
    have e3 : S2.ho.F 0 5 = S2.F 0 5 := rfl
    rw [e1, e2, e3, hn, f13, f05]
    omega
def mV : List Nat := [0, 1, 22, 27, 28, 29, 30, 34, 35, 36, 42, 43, 46]
theorem XC.mm {S S' T T' : St} (h : XC S T) (f : S'.F 13 = S.F 13) (a : T'.A 43 = T.A 43) : XC S' T' := by
  unfold XC at h ⊢
  rw [f, a]
  exact h
theorem EJ.pcl {S T S2 T' : St} {k : Int} (h : Rel S) (hT : FK S T) (f : Fr (0 :: pcl) S S2) (f05 : S2.F 0 5 = S.F 0 5) (f11 : S2.F 1 1 = S.F 1 1) (g : Fx mX mV T T') (k0 : T'.F 36 0 = k) (k1 : T'.F 36 1 = S2.F 0 6) : EJ S T S2.ho T' k := by
  have hx : X2 S2 T := (hT.x2 h.X2).cc f.1 (f.2.2.2 14 (by decide)).2.2 (f.2.2.2 35 (by decide)).2.2 f05 (f.F (by decide)) (f.A (by decide)) (f.A (by decide))
  have f13 : S2.F 13 = S.F 13 := f.F (by decide)
  refine EJ.err (hx.mm (fun i hi => g.F (fun e => ?_)) (fun c hc => g.A (fun e => ?_) (fun e => ?_))) ((hT.xc h.XC).mm f13 (g.A (by decide) (by decide))) (f.CA (by decide)) (g.MA (fun c hc => ?_) (by decide)) k0 k1 ?_ f11 f.1 f.2.1 (by rw [f13]) f05
  · have : ∀ i ∈ [9, 10, 14, 15, 16, 17, 18, 19, 20], i ∉ mV := by decide
    exact this i hi e
  · have : ∀ i ∈ [38, 39, 40, 41, 42, 43, 44, 45], i ∉ mX := by decide
    exact this c hc e
  · rw [e] at hc
    exact absurd hc (by decide)
  · have : ∀ i ∈ mX, (36 ≤ i ∧ i ≤ 70) ∧ i ≠ 37 ∧ i ≠ 69 := by decide
    exact this c hc
  · rw [g.F (by decide), hT.F, f11]
    exact h.1.2.2.1
theorem CLs_0 {T : St} {n : Nat} : CLs (n + 1) ((0 : Nat) : Int) T = some (T.F 36 42, T) := by
  obtain ⟨m, hm⟩ := FU_ge (n := 0) (by decide)
  rw [Nat.zero_add] at hm
  unfold CLs
  have e : g113L7 FU ((0 : Nat) : Int) T = some (.inl (0, T)) := by
    rw [hm, g113L7]
    refine (gd_t (by decide)).trans ?_
    exact if_neg (by decide)
  rw [e]
  refine (ob_t (a := ((0 : Int), T)) rfl).trans ?_
  refine (gd_t (show inR 0 by decide)).trans ?_
  refine (if_neg (show ¬ (0 : Int) < 0 by decide)).trans ?_
  exact L10_z
set_option maxHeartbeats 1000000 in
theorem form_sim {S T : St} {v : Int} (h : Rel S) (hT : FK S T) (hv : b1R v) : FO 2 (fun k => (k : Int)) S T (g19 S v) (g98 T v) := by
  have hQ := QX_S h.1
  obtain ⟨T0, q1, q2, q3⟩ := g99_t T
  have fq := FQ_0 h hT q2 q3
  have fT0 : Fx mX mZ T T0 := (iniT_f T).trans (q2.Fx (by decide))
  have F0 : T0.F 36 = (iniT T).F 36 := q2.F (by decide)
  have F36 : T0.F 36 36 = 0 := by rw [F0]; exact (iniT_F T).2.2.2.2.2.2.2.1
  have F43 : T0.F 36 43 = 0 := by rw [F0]; exact (iniT_F T).2.2.2.2.2.2.2.2.1
  have s11 := (iniS_F S).1
  have s4 := (iniS_F S).2.2.1
  have l160 := hQ.2.1
  have e20 : ∀ o, g22 64 (iniS S) v 0 = some o → g20 S v (S.F 13 2) = gd (inR o.1) (if o.1 = (-1) then some (o.1, o.2) else if (o.2.F 1 4) < (o.2.F 1 1) then some ((-1), o.2.f 1 3 (o.2.F 1 4)) else some (o.1, o.2)) := fun o ho => by
    show ob (g22 64 (iniS S) v 0) _ = _
    rw [ho]
    rfl
  have e19 : ∀ o, g20 S v (S.F 13 2) = some o → g19 S v = gd (inR o.1) (if o.1 = (-1) then some (1, 0, (o.2.f 0 6 (o.2.F 1 3)).ho) else gd (ixR o.1 160) (if 16 < (o.2.A 7 o.1) then some (2, 0, o.2.ho) else if 8 < (o.2.A 8 o.1) then some (2, 0, o.2.ho) else if 99 < (o.2.F 1 10) then some (2, 0, o.2.ho) else ob (g39 (((o.2.f 13 2 (o.2.F 1 10)).f 1 1 0).f 0 6 (-1)) o.1) (fun o9 => some (0, o9.1, o9.2)))) := fun o ho => by
    unfold g19
    rw [ho]
    rfl
  have e98 : ∀ w T1, g101L10 FU v 0 0 1 T0 = some (w, T1) → g98 T v = if (T1.F 36 28) = 0 then if (T1.F 36 27) = (T1.F 36 2) then if (T1.F 36 36) = 0 then ob (g98L124 w FU 0 0 (((((T1.f 36 28 0).f 36 0 0).f 36 1 (-1)).f 36 20 (T1.F 36 35)).f 36 2 0)) (fun o28 => some (o28.1, o28.2)) else some (0, (((T1.f 36 28 0).f 36 0 2).f 36 1 (T1.F 36 1))) else some (0, (((T1.f 36 28 1).f 36 0 1).f 36 1 (T1.F 36 27))) else some (0, (((T1.f 36 28 1).f 36 0 1).f 36 1 (T1.F 36 27))) := fun w T1 ho => by
    unfold g98 g101
    rw [q1]
    refine (ob_t rfl).trans ?_
    rw [ho]
    rfl
  -- a wrong text
  have refuse : ∀ (S1 T1 : St), Fr pcl S S1 → S1.F 1 1 = S.F 1 1 → g20 S v (S.F 13 2) = some (-1, S1) → Fx mX mZ T T1 → S1.F 1 3 = T1.F 36 27 → g98 T v = some (0, (((T1.f 36 28 1).f 36 0 1).f 36 1 (T1.F 36 27))) → FO 2 (fun k => (k : Int)) S T (g19 S v) (g98 T v) := fun S1 T1 f1 f2 f3 f4 f5 f6 => by
    have i3 : inR (S1.F 1 3) := inR_to _
    have i27 : inR (T1.F 36 27) := inR_to _
    refine ⟨1, 0, 0, _, _, ?_, f6, fun e => absurd e (by decide), by decide, EJ.pcl (S2 := S1.f 0 6 (S1.F 1 3)) h hT ((f1.mono (fun c hc => List.mem_cons_of_mem _ hc)).trans (Fr.f (by decide))) ?_ ?_ (((f4.mono (fun _ hc => hc) (by decide)).trans (Fx.f _ (by decide) _)).trans ((Fx.f _ (by decide) _).trans (Fx.f _ (by decide) _))) ?_ ?_⟩
    · rw [e19 _ f3]
      refine (gd_t (show inR (-1) by decide)).trans ?_
      exact if_pos rfl
    · rw [f_F i3, if_pos rfl, if_neg (by decide), f1.F (by decide)]
    · rw [fF_ne (by decide), f2]
    · rw [f_F i27, if_pos rfl, if_neg (by decide), f_F (by decide), if_pos rfl, if_pos rfl]
      rfl
    · rw [f_F i27, if_pos rfl, if_pos rfl, f_F i3, if_pos rfl, if_pos rfl, f5]
  rcases part_sim hQ 10 64 0 (by decide) (by decide) v 0 (iniS S) T0 0 0 _ _ _ [] fq (by decide) (by decide) hv (fun _ => F43) with ⟨x, S', T', K, b1, b2, b3, b4, b5, b6, b7, b8, b9⟩ | ⟨i, S', T', pos', K, M, R, b1, b2, b3, b4, b5, b6, b7, b8, b9, b10, b11, b12, b13, b14, b15⟩
  · obtain ⟨m, hm⟩ := FU_ge (n := K) (by have := b4.2; omega)
    obtain ⟨w, hw⟩ := b6 (m + 1) 0
    rw [show m + 1 + K = FU by omega] at hw
    have e0 := e20 _ b1
    have e1 := e98 w T' hw
    rw [if_neg (by rw [b7]; decide)] at e1
    refine refuse S' T' ((iniS_f S).trans b5.Fr) ((b5.F1 (by decide)).trans s11) ?_ (fT0.trans (b9.mono (fun _ hc => hc) (by decide))) (by rw [b2, b8]) e1
    rw [e0]
    refine (gd_t (show inR (-1) by decide)).trans ?_
    exact if_pos rfl
  · obtain ⟨m, hm⟩ := FU_ge (n := K) (by have := b3.2; have := b4.1.1.2.2.2.2.2; omega)
    have hw := b2 (m + 1) 0
    rw [show m + 1 + K = FU by omega, CLs_0] at hw
    have e1 := e98 _ T' hw
    obtain ⟨nb1, nb2, nb3, nb4, nb5⟩ := ND_b b10
    obtain ⟨⟨c1, c2⟩, ⟨c3, c4, c5⟩, ⟨n1, n2, n3, n4, n5, n6, n7, n8⟩, ⟨l1, l2, l3⟩, ⟨t1, t2, t3, t4, t5⟩, ⟨g1, g2⟩, g3⟩ := b4
    have p0 := c1.2.2.2.2.1
    have p1 := c1.2.2.2.2.2
    have e0 := e20 _ b1
    have sc4 : S'.F 1 4 = pos' := c1.2.1
    have sc1 : S'.F 1 1 = S.F 1 1 := c1.1
    have fS : Fr pcl S S' := (iniS_f S).trans b6.Fr
    have fT : Fx mX mZ T T' := fT0.trans (b7.mono (fun _ hc => hc) (by decide))
    have t28 : T'.F 36 28 = 0 := c2.2.2.1
    have t27 : T'.F 36 27 = pos' := c2.2.1
    have t2' : T'.F 36 2 = S.F 1 1 := c2.1
    have iri : inR i := ⟨by omega, by omega⟩
    rw [if_pos t28] at e1
    replace e0 := e0.trans ((gd_t iri).trans (if_neg (show ¬ i = -1 by omega)))
    by_cases hp : pos' < S.F 1 1
    · have ip : inR pos' := ⟨by omega, by omega⟩
      rw [if_neg (by rw [t27, t2']; omega)] at e1
      replace e0 := e0.trans (if_pos (show S'.F 1 4 < S'.F 1 1 by omega))
      rw [sc4] at e0
      refine refuse (S'.f 1 3 pos') T' (fS.trans (Fr.f (by decide))) ?_ e0 fT ?_ e1
      · rw [f_F ip, if_pos rfl, if_neg (by decide)]
        exact sc1
      · rw [f_F ip, if_pos rfl, if_pos rfl, t27]
    · rw [if_pos (by rw [t27, t2']; omega)] at e1
      replace e0 := e0.trans (if_neg (show ¬ S'.F 1 4 < S'.F 1 1 by omega))
      have e19' := e19 _ e0
      replace e19' := e19'.trans ((gd_t iri).trans ((if_neg (show ¬ i = -1 by omega)).trans (gd_t (show ixR i 160 from ⟨by omega, by omega⟩))))
      have e19' : g19 S v = (if 16 < (S'.A 7 i) then some (2, 0, S'.ho) else if 8 < (S'.A 8 i) then some (2, 0, S'.ho) else if 99 < (S'.F 1 10) then some (2, 0, S'.ho) else ob (g39 (((S'.f 13 2 (S'.F 1 10)).f 1 1 0).f 0 6 (-1)) i) (fun o9 => some (0, o9.1, o9.2))) := e19'
      by_cases hf : T'.F 36 36 = 0
      · obtain ⟨u1, u2, u3, u4⟩ := b12 hf
        have u10 := l3 hf
        rw [if_pos hf] at e1
        rw [F43] at u4
        have a7 : ¬ 16 < S'.A 7 i := by
          have := u1.1
          omega
        have a8 : ¬ 8 < S'.A 8 i := by
          obtain ⟨r, r0, r1, r2⟩ := nb5.2
          have := u1.2 r r0 r1
          omega
        rw [if_neg a7, if_neg a8, if_neg (by omega)] at e19'
        rw [u2, n1] at e1
        have i10 : inR (S'.F 1 10) := inR_to _
        have hx0 : X2 S' T' := by
          refine ((hT.x2 h.X2).fp fS).mm (fun i hi => fT.F (fun e => ?_)) (fun c hc => fT.A (fun e => ?_) (fun e => ?_))
          · have : ∀ i ∈ [9, 10, 14, 15, 16, 17, 18, 19, 20], i ∉ mZ := by decide
            exact this i hi e
          · have : ∀ i ∈ [38, 39, 40, 41, 42, 43, 44, 45], i ∉ mX := by decide
            exact this c hc e
          · rw [e] at hc
            exact absurd hc (by decide)
        have hx1 : X2 (((S'.f 13 2 (S'.F 1 10)).f 1 1 0).f 0 6 (-1)) (((((T'.f 36 28 0).f 36 0 0).f 36 1 (-1)).f 36 20 (S'.F 1 10)).f 36 2 0) := by
          refine ((((hx0.mm (T' := ((T'.f 36 28 0).f 36 0 0).f 36 1 (-1)) ?_ (fun _ _ => rfl)).fn n2 u10).cc (S' := ((S'.f 13 2 (S'.F 1 10)).f 1 1 0).f 0 6 (-1)) rfl rfl rfl ?_ rfl rfl rfl)).mm ?_ (fun _ _ => rfl)
          · intro z hz
            have hz' : z ≠ 28 ∧ z ≠ 0 ∧ z ≠ 1 := by
              refine ⟨?_, ?_, ?_⟩ <;> (intro e; rw [e] at hz; exact absurd hz (by decide))
            rw [f_F (by decide), if_pos rfl, if_neg hz'.2.2, f_F (by decide), if_pos rfl, if_neg hz'.2.1, f_F (by decide), if_pos rfl, if_neg hz'.1]
          · rw [f_F (show inR (-1) by decide), if_pos rfl, if_neg (by decide)]
            rfl
          · intro z hz
            rw [f_F (by decide), if_pos rfl, if_neg (fun e => by rw [e] at hz; exact absurd hz (by decide))]
        have hS2 : ∀ c, c ≠ 13 → c ≠ 1 → c ≠ 0 → (((S'.f 13 2 (S'.F 1 10)).f 1 1 0).f 0 6 (-1)).F c = S'.F c := fun c z1 z2 z3 => by
          rw [fF_ne z3, fF_ne z2, fF_ne z1]
        have hxc : XC (((S'.f 13 2 (S'.F 1 10)).f 1 1 0).f 0 6 (-1)) (((((T'.f 36 28 0).f 36 0 0).f 36 1 (-1)).f 36 20 (S'.F 1 10)).f 36 2 0) := by
          have hxc0 : XC S' T' := (hT.xc h.XC).mm (fS.F (by decide)) (fT.A (by decide) (by decide))
          unfold XC at hxc0 ⊢
          have z1 : (((S'.f 13 2 (S'.F 1 10)).f 1 1 0).f 0 6 (-1)).F 13 1 = S'.F 13 1 := by
            rw [fF_ne (by decide), fF_ne (by decide), f_F i10, if_pos rfl, if_neg (by decide)]
          have z3 : (((S'.f 13 2 (S'.F 1 10)).f 1 1 0).f 0 6 (-1)).F 13 3 = S'.F 13 3 := by
            rw [fF_ne (by decide), fF_ne (by decide), f_F i10, if_pos rfl, if_neg (by decide)]
          rw [z1, z3]
          exact hxc0
        have hrf : RF (((S'.f 13 2 (S'.F 1 10)).f 1 1 0).f 0 6 (-1)) (((((T'.f 36 28 0).f 36 0 0).f 36 1 (-1)).f 36 20 (S'.F 1 10)).f 36 2 0) ([] ++ M) R i := by
          obtain ⟨nu, hG⟩ := g3 u10
          have tg : TG S' (((S'.f 13 2 (S'.F 1 10)).f 1 1 0).f 0 6 (-1)) := TG.same (hS2 3 (by decide) (by decide) (by decide)) (fun _ _ _ => rfl)
          have nd := ND.mono (M := []) tg _ _ _ b10
          rw [List.append_nil] at nd
          have f3 := hS2 3 (by decide) (by decide) (by decide)
          refine ⟨nd, u1, by rw [f3]; omega, by rw [f3]; omega, by omega, u4, nu, _, _, _, _, _, _, ?_, ?_, hG⟩
          · omega
          · omega
        have e13 : (((S'.f 13 2 (S'.F 1 10)).f 1 1 0).f 0 6 (-1)).F 13 1 = S'.F 13 1 := by
          rw [fF_ne (by decide), fF_ne (by decide), f_F i10, if_pos rfl, if_neg (by decide)]
        have e11 : (((S'.f 13 2 (S'.F 1 10)).f 1 1 0).f 0 6 (-1)).F 1 1 = 0 := by
          rw [fF_ne (by decide), f_F (by decide), if_pos rfl, if_pos rfl]
        have e06 : (((S'.f 13 2 (S'.F 1 10)).f 1 1 0).f 0 6 (-1)).F 0 6 = -1 := by
          rw [f_F (by decide), if_pos rfl, if_pos rfl]
        have e05 : (((S'.f 13 2 (S'.F 1 10)).f 1 1 0).f 0 6 (-1)).F 0 5 = S'.F 0 5 := by
          rw [f_F (by decide), if_pos rfl, if_neg (by decide), fF_ne (by decide), fF_ne (by decide)]
        have m0 : (((((T'.f 36 28 0).f 36 0 0).f 36 1 (-1)).f 36 20 (S'.F 1 10)).f 36 2 0).F 36 0 = 0 := by
          simp [f_F (show inR 0 by decide), f_F (show inR (-1) by decide), f_F i10]
        have m1 : (((((T'.f 36 28 0).f 36 0 0).f 36 1 (-1)).f 36 20 (S'.F 1 10)).f 36 2 0).F 36 1 = -1 := by
          simp [f_F (show inR 0 by decide), f_F (show inR (-1) by decide), f_F i10]
        have m2 : (((((T'.f 36 28 0).f 36 0 0).f 36 1 (-1)).f 36 20 (S'.F 1 10)).f 36 2 0).F 36 2 = 0 := by
          simp [f_F (show inR 0 by decide), f_F (show inR (-1) by decide), f_F i10]
        have fS2 : Fr [0, 1, 3, 4, 5, 6, 7, 8, 9, 10, 11, 12, 13] S (((S'.f 13 2 (S'.F 1 10)).f 1 1 0).f 0 6 (-1)) := (fS.mono (by decide)).trans (((Fr.f (by decide)).trans (Fr.f (by decide))).trans (Fr.f (by decide)))
        have fT2 : Fx mX [0, 1, 2, 20, 22, 27, 28, 29, 30, 34, 35, 36, 42, 43, 46] T (((((T'.f 36 28 0).f 36 0 0).f 36 1 (-1)).f 36 20 (S'.F 1 10)).f 36 2 0) := (fT.mono (fun _ hc => hc) (by decide)).trans (((((Fx.f _ (by decide) _).trans (Fx.f _ (by decide) _)).trans (Fx.f _ (by decide) _)).trans (Fx.f _ (by decide) _)).trans (Fx.f _ (by decide) _))
        generalize ((S'.f 13 2 (S'.F 1 10)).f 1 1 0).f 0 6 (-1) = S2 at *
        generalize ((((T'.f 36 28 0).f 36 0 0).f 36 1 (-1)).f 36 20 (S'.F 1 10)).f 36 2 0 = T2 at *
        have b0 := hx1.2.1.1
        obtain ⟨S3, T3, v1, v2, v3⟩ := rows_sim (S2.F 13 1) R.length FU FU 0 S2 T2 hx1 hrf (by omega) (by omega) (FU_gt (by have := u1.1; omega)) (FU_gt (by have := u1.1; omega)) (Int.le_refl _) b0
        rw [Int.sub_self] at v2
        rw [v2] at e1
        have e39 : g39 S2 i = some (S3.F 13 1 - S2.F 13 1, S3) := by
          unfold g39
          rw [v1]
          rfl
        rw [e39] at e19'
        have hxc3 := hxc.tj b0 v3
        obtain ⟨j1, j2, j3, j4, j5, j6, j7, j8, j9, j10, j11⟩ := v3
        have k05 : S3.F 0 5 = S.F 0 5 := by rw [j2.F (by decide), e05, fS.F (by decide)]
        have k13 : S2.F 13 1 = S.F 13 1 := by rw [e13, fS.F (by decide)]
        refine ⟨0, _, _, S3, T3, e19', e1, fun _ => rfl, by decide, j1, hxc3, (fS2.CA (by decide)).trans j2.CA, (fT2.MA (fun c hc => ?_) (by decide)).trans j3.MA, ?_, ?_, ?_, Or.inr ?_, ?_, ?_⟩
        · have : ∀ i ∈ mX, (36 ≤ i ∧ i ≤ 70) ∧ i ≠ 37 ∧ i ≠ 69 := by decide
          exact this c hc
        · rw [j3.F36 (by decide), m0]
          rfl
        · rw [j3.F36 (by decide), m1, j2.F (by decide), e06]
        · rw [j3.F36 (by decide), m2, j2.F (by decide), e11]
        · rw [j2.F (by decide), e11]
        · rw [fS2.1] at j10
          rw [k05]
          omega
        · rw [fS2.2.1] at j11
          rw [k05]
          omega
      · have hf1 : T'.F 36 36 = 1 := by
          rcases l2 with e | e
          · exact absurd e hf
          · exact e
        rw [if_neg hf] at e1
        have e19'' : g19 S v = some (2, 0, S'.ho) := by
          rw [e19']
          by_cases a7 : 16 < S'.A 7 i
          · rw [if_pos a7]
          · rw [if_neg a7]
            by_cases a8 : 8 < S'.A 8 i
            · rw [if_pos a8]
            · rw [if_neg a8]
              refine if_pos ?_
              rcases b13 hf1 with e | e | e
              · omega
              · exfalso
                refine e ⟨by omega, fun r r0 r1 => ?_⟩
                have := nb5.1 r r0 r1
                omega
              · exact e
        have i1 : inR (T'.F 36 1) := inR_to _
        refine ⟨2, 0, 0, _, _, e19'', e1, fun e => absurd e (by decide), by decide, EJ.pcl (S2 := S') h hT (fS.mono (fun c hc => List.mem_cons_of_mem _ hc)) ?_ sc1 (((fT.mono (fun _ hc => hc) (by decide)).trans (Fx.f _ (by decide) _)).trans ((Fx.f _ (by decide) _).trans (Fx.f _ (by decide) _))) ?_ ?_⟩
        · rw [fS.F (by decide)]
        · rw [f_F i1, if_pos rfl, if_neg (by decide), f_F (by decide), if_pos rfl, if_pos rfl]
          rfl
        · rw [f_F i1, if_pos rfl, if_pos rfl, fT.F (by decide), hT.F, fS.F (by decide)]
          exact h.2.1.1
theorem assume_ok {S : St} {j : Nat} {v : Int} (hv : b1R v) (h : Rel S) (hr : Room j S) : LW j (g163 S v) (fun T => g98 T v) := by
  refine LW.sim (cf := fun S => g19 S v) h hr (fun k w S' e hk => ?_) (fun k hk => ⟨⟨by omega, by omega⟩, fun h => by omega⟩) (fun T hT => form_sim h hT hv)
  have e : g19 S v = some (k, w, S') := e
  unfold g163
  rw [e]
  refine (ob_t rfl).trans ?_
  match k, hk with
  | 0, _ => rfl
  | 1, _ => rfl
  | 2, _ => rfl
