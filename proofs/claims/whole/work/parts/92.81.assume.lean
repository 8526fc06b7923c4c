/-! assume: both take in a formula -/
def FK (S T : St) : Prop := ∀ c, MC c → T.F0 c = S.F0 c ∧ T.A0 c = S.A0 c
theorem FK.A {S T : St} (h : FK S T) {c : Nat} (hc : MC c) : T.A c = S.A c := by
  funext i
  show (T.A0 c i).toInt = (S.A0 c i).toInt
  rw [(h c hc).2]
theorem FK.F {S T : St} (h : FK S T) : T.F 36 = S.F 36 := by
  funext i
  show (T.F0 36 i).toInt = (S.F0 36 i).toInt
  rw [(h 36 (mc rfl)).1]
theorem FK.x2 {S T : St} (h : FK S T) (x : X2 S S) : X2 S T := by
  unfold X2 XN XB XK XK1 XL KM at x ⊢
  rw [h.F, h.A (mc (c := 38) rfl), h.A (mc (c := 39) rfl), h.A (mc (c := 40) rfl), h.A (mc (c := 41) rfl), h.A (mc (c := 42) rfl), h.A (mc (c := 43) rfl), h.A (mc (c := 44) rfl), h.A (mc (c := 45) rfl)]
  exact x
theorem FK.xc {S T : St} (h : FK S T) (x : XC S S) : XC S T := by
  unfold XC at x ⊢
  rw [h.A (mc (c := 43) rfl)]
  exact x
theorem X2.hole {S T : St} (h : X2 S T) : X2 S.ho T := by
  obtain ⟨h1, h2, h3, h4, h5, h6⟩ := h
  refine ⟨h1, h2, fun k k0 k1 => ?_, h4, fun k k0 k1 => ?_, h6⟩
  · obtain ⟨a, c, x0, x1, x2, x3, x4, x5, n, o, u, r1, r2, r3, r4, r⟩ := h3 k k0 k1
    refine ⟨a, c, x0, x1, x2, x3, x4, x5, n, o, u, r1, r2, ?_, r4.ext (TX.app _ _), r⟩
    show (S.tl ++ [Cl.ho])[a - 72]? = _
    rw [List.getElem?_append_left (List.getElem?_eq_some_iff.mp r3).1]
    exact r3
  · obtain ⟨c, n, o, u, a1, a2, a3⟩ := h5 k k0 k1
    exact ⟨c, n, o, u, a1, a2.ext (TX.app _ _), a3⟩
/-- cells of which X2 does not speak -/
theorem X2.cc {S S' T : St} (h : X2 S T) (ht : S'.tl = S.tl) (r14 : S'.R 14 = S.R 14) (r35 : S'.R 35 = S.R 35) (f0 : S'.F 0 5 = S.F 0 5) (f13 : S'.F 13 = S.F 13) (a25 : S'.A 25 = S.A 25) (a27 : S'.A 27 = S.A 27) : X2 S' T := by
  unfold X2 XN XB XK XK1 XL RJ RX at *
  rw [ht, r14, r35, f0, f13, a25, a27]
  exact h
theorem X2.mm {S T T' : St} (h : X2 S T) (hF : ∀ i ∈ [9, 10, 14, 15, 16, 17, 18, 19, 20], T'.F 36 i = T.F 36 i) (hA : ∀ c ∈ [38, 39, 40, 41, 42, 43, 44, 45], T'.A c = T.A c) : X2 S T' := by
  unfold X2 XN XB XK XK1 XL KM at h ⊢
  rw [hF 9 (by decide), hF 10 (by decide), hF 14 (by decide), hF 15 (by decide), hF 16 (by decide), hF 17 (by decide), hF 18 (by decide), hF 19 (by decide), hF 20 (by decide), hA 38 (by decide), hA 39 (by decide), hA 40 (by decide), hA 41 (by decide), hA 42 (by decide), hA 43 (by decide), hA 44 (by decide), hA 45 (by decide)]
  exact h
theorem X2.fn {S T : St} {x : Int} (h : X2 S T) (x0 : 0 ≤ x) (x1 : x ≤ 99) : X2 (S.f 13 2 x) (T.f 36 20 x) := by
  obtain ⟨⟨n1, n2, n3, n4, n5, n6, n7, n8, n9⟩, ⟨b1, b2, b3, b4, b5, b6, b7, b8, b9, b10⟩, h3, h4, h5, h6⟩ := h
  have iR : inR x := ⟨by omega, by omega⟩
  have e1 : (S.f 13 2 x).F 13 2 = x := by rw [f_F iR, if_pos rfl, if_pos rfl]
  have e2 : (T.f 36 20 x).F 36 20 = x := by rw [f_F iR, if_pos rfl, if_pos rfl]
  exact ⟨⟨n1, n2, by rw [e1, e2], n4, n5, n6, n7, n8, n9⟩, ⟨b1, b2, b3, b4, by rw [e1]; exact x0, by rw [e1]; exact x1, b7, b8, b9, b10⟩, h3, h4, h5, h6⟩
theorem FP.Fr {S S' : St} (h : FP S S') : Fr pcl S S' := ⟨h.1, h.2.1, h.2.2.1, h.2.2.2.1⟩
theorem X2.fp {S S' T : St} (h : X2 S T) (f : Fr pcl S S') : X2 S' T := h.cc f.1 (f.2.2.2 14 (by decide)).2.2 (f.2.2.2 35 (by decide)).2.2 (by rw [f.F (by decide)]) (f.F (by decide)) (f.A (by decide)) (f.A (by decide))
/-- what a call may change of the first object -/
def CA (S S' : St) : Prop := S'.O = S.O ∧ (∀ c, 36 ≤ c → S'.F0 c = S.F0 c ∧ S'.A0 c = S.A0 c) ∧ S'.A 2 = S.A 2 ∧ S'.F 28 = S.F 28 ∧ S'.A 29 = S.A 29
theorem CA.trans {S T U : St} (h : CA S T) (g : CA T U) : CA S U := ⟨g.1.trans h.1, fun c hc => ⟨(g.2.1 c hc).1.trans (h.2.1 c hc).1, (g.2.1 c hc).2.trans (h.2.1 c hc).2⟩, g.2.2.1.trans h.2.2.1, g.2.2.2.1.trans h.2.2.2.1, g.2.2.2.2.trans h.2.2.2.2⟩
theorem Fr.CA {X : List Nat} {S S' : St} (h : Fr X S S') (hX : ∀ c ∈ X, c < 36 ∧ c ≠ 2 ∧ c ≠ 28 ∧ c ≠ 29) : CA S S' := ⟨h.2.2.1, fun c hc => by
  have := h.2.2.2 c (fun e => by have := (hX c e).1; omega)
  exact ⟨this.1, this.2.1⟩, h.A (fun e => (hX 2 e).2.1 rfl), h.F (fun e => (hX 28 e).2.2.1 rfl), h.A (fun e => (hX 29 e).2.2.2 rfl)⟩
theorem CFr.CA {S S' : St} (h : CFr S S') : CA S S' := ⟨h.1, fun c hc => by
  have := h.2 c (fun e => by
    have : ∀ d ∈ cfl, d < 36 := by decide
    have := this c e
    omega)
  exact ⟨this.1, this.2.1⟩, h.A (by decide), h.F (by decide), h.A (by decide)⟩
theorem CA.hole (S : St) : CA S S.ho := ⟨rfl, fun _ _ => ⟨rfl, rfl⟩, rfl, rfl, rfl⟩
def MA (T T' : St) : Prop := FM T T' ∧ T'.A 37 = T.A 37 ∧ T'.A 69 = T.A 69 ∧ T'.F 36 56 = T.F 36 56
theorem MA.trans {S T U : St} (h : MA S T) (g : MA T U) : MA S U := ⟨h.1.trans g.1, g.2.1.trans h.2.1, g.2.2.1.trans h.2.2.1, g.2.2.2.trans h.2.2.2⟩
theorem Fx.MA {X Y : List Nat} {T T' : St} (h : Fx X Y T T') (hX : ∀ c ∈ X, MC c ∧ c ≠ 37 ∧ c ≠ 69) (hY : 56 ∉ Y) : MA T T' := ⟨⟨h.1, h.2.1, h.2.2.1, fun c hc => h.2.2.2.1 c (fun e => hc (hX c e).1) (fun e => hc (by rw [e]; exact mc rfl))⟩, h.A (fun e => (hX 37 e).2.1 rfl) (by decide), h.A (fun e => (hX 69 e).2.2 rfl) (by decide), h.F hY⟩
theorem MFr.MA {T T' : St} (h : MFr T T') : MA T T' := ⟨h.FM, h.A (by decide), h.A (by decide), h.F36 (by decide)⟩
/-- both are through with a call -/
def EJ (S T S' T' : St) (k : Int) : Prop := X2 S' T' ∧ XC S' T' ∧ CA S S' ∧ MA T T' ∧ T'.F 36 0 = k ∧ T'.F 36 1 = S'.F 0 6 ∧ T'.F 36 2 = S'.F 1 1 ∧ (S'.F 1 1 = S.F 1 1 ∨ S'.F 1 1 = 0) ∧ (S'.tl.length : Int) ≤ S.tl.length + 4 * (S'.F 13 1 - S.F 13 1) + 3 * (S'.F 0 5 - S.F 0 5) + 1 ∧ (S'.ns : Int) ≤ S.ns + 40 * (S'.F 13 1 - S.F 13 1) + 40 * (S'.F 0 5 - S.F 0 5) + 6
def FO (m : Nat) (κ : Nat → Int) (S T : St) (cw : Option (Nat × Int × St)) (mw : Option (Int × St)) : Prop := ∃ (k : Nat) (w w' : Int) (S' T' : St), cw = some (k, w, S') ∧ mw = some (w', T') ∧ (k = 0 → w' = w) ∧ k ≤ m ∧ EJ S T S' T' (κ k)
theorem EJ.end {S S' V T : St} {j : Nat} {k : Int} (h : Rel S) (hr : Room j S) (e1 : V.tl = S'.tl) (e2 : V.ns = S'.ns) (e3 : ∀ c, V.F c = S'.F c) (e4 : ∀ c, V.A c = S'.A c) (e5 : V.R = S'.R) (e : EJ S V S' T k) : Rel T ∧ Room (j + 1) T ∧ T.O = V.O ∧ T.F 36 0 = k := by
  obtain ⟨a1, a2, a3, a4, a5, a6, a7, a8, a9, a10⟩ := e
  have F : ∀ c : Nat, ¬ MC c → T.F c = S'.F c := fun c hc => (a4.1.F hc).trans (e3 c)
  have A : ∀ c : Nat, ¬ MC c → T.A c = S'.A c := fun c hc => (a4.1.A hc).trans (e4 c)
  have R : ∀ c : Nat, ¬ MC c → T.R c = S'.R c := fun c hc => ((a4.1.2.2.2 c hc).2.2).trans (by rw [e5])
  have ht : T.tl = S'.tl := a4.1.1.trans e1
  have x1 : X2 T T := a1.cc ht (R 14 (nmc rfl)) (R 35 (nmc rfl)) (by rw [F 0 (nmc rfl)]) (F 13 (nmc rfl)) (A 25 (nmc rfl)) (A 27 (nmc rfl))
  have x2 : XC T T := by
    unfold XC at a2 ⊢
    rw [F 13 (nmc rfl)]
    exact a2
  have m36 : ∀ i, S'.F 36 i = S.F 36 i := fun i => by
    show (S'.F0 36 i).toInt = (S.F0 36 i).toInt
    rw [(a3.2.1 36 (by decide)).1]
  have mA : ∀ c, 36 ≤ c → S'.A c = S.A c := fun c hc => by
    funext i
    show (S'.A0 c i).toInt = (S.A0 c i).toInt
    rw [(a3.2.1 c hc).2]
  have A37 : T.A 37 = S.A 37 := by rw [a4.2.1, e4, mA 37 (by decide)]
  have A69 : T.A 69 = S.A 69 := by rw [a4.2.2.1, e4, mA 69 (by decide)]
  have F56 : T.F 36 56 = S.F 36 56 := by rw [a4.2.2.2, e3, m36]
  have A2 : T.A 2 = S.A 2 := (A 2 (nmc rfl)).trans a3.2.2.1
  have F28 : T.F 28 = S.F 28 := (F 28 (nmc rfl)).trans a3.2.2.2.1
  have A29 : T.A 29 = S.A 29 := (A 29 (nmc rfl)).trans a3.2.2.2.2
  obtain ⟨r1, r2, r3, r4, r5, r6, r7, r8⟩ := h
  refine ⟨X2.Rel x1 x2 ?_ ?_ ?_, ⟨?_, ?_⟩, a4.1.2.2.1, a5⟩
  · unfold RT at r1 ⊢
    rw [F 1 (nmc rfl), A2, A37, a7]
    rcases a8 with e | e
    · rw [e]
      exact ⟨r1.1, r1.2.1, rfl, r1.2.2.2⟩
    · rw [e]
      exact ⟨by omega, by omega, rfl, fun i h1 h2 => absurd h2 (by omega)⟩
  · rw [F 0 (nmc rfl), a6]
  · unfold RO at r7 ⊢
    rw [F28, A29, A69, F56]
    exact r7
  · have := hr.1
    rw [ht, F 13 (nmc rfl), F 0 (nmc rfl)]
    omega
  · have := hr.2
    rw [a4.1.2.1, e2, F 13 (nmc rfl), F 0 (nmc rfl)]
    omega
/-- from the two-state form to the law's -/
theorem LW.sim {S : St} {j m : Nat} {κ : Nat → Int} {cf : St → Option (Nat × Int × St)} {mf : St → Option (Int × St)} {cw : Option (Int × St)} (h : Rel S) (hr : Room j S) (hcw : ∀ (k : Nat) (w : Int) (S' : St), cf S = some (k, w, S') → k ≤ m → cw = some (κ k, if k = 0 then S'.o (lI w) else S')) (hκ : ∀ k, k ≤ m → inR (κ k) ∧ (k ≠ 0 → κ k ≠ 0)) (sim : ∀ T, FK S T → FO m κ S T (cf S) (mf T)) : LW j cw mf := by
  obtain ⟨k, w, w', S', T', a1, a2, a3, a4, a5⟩ := sim S (fun _ _ => ⟨rfl, rfl⟩)
  have ca := a5.2.2.1
  have hk := hcw k w S' a1 a4
  obtain ⟨k2, w2, w2', S2, T2, b1, b2, b3, b4, b5⟩ := sim (if k = 0 then S'.o (lI w) else S') (fun c hc => by
    split
    · exact ca.2.1 c hc.1
    · exact ca.2.1 c hc.1)
  rw [a1] at b1
  cases b1
  by_cases h0 : k = 0
  · rw [if_pos h0] at hk b2 b5
    obtain ⟨e1, e2, e3, e4⟩ := EJ.end (S' := S') (V := S'.o (lI w)) h hr rfl rfl (fun _ => rfl) (fun _ => rfl) rfl b5
    exact ⟨κ k, _, w2', T2, hk, b2, (hκ k a4).1, e4, fun _ => by rw [e3, b3 h0]; rfl, e1, e2⟩
  · rw [if_neg h0] at hk b2 b5
    obtain ⟨e1, e2, e3, e4⟩ := EJ.end (S' := S') (V := S') h hr rfl rfl (fun _ => rfl) (fun _ => rfl) rfl b5
    exact ⟨κ k, _, w2', T2, hk, b2, (hκ k a4).1, e4, fun e => absurd e ((hκ k a4).2 h0), e1, e2⟩
def txS (S : St) : Int → Int := fun i => if 0 ≤ i ∧ i < S.F 1 1 then S.A 2 i else 0
theorem QX_S {S : St} (h : RT S) : QX (txS S) (S.F 1 1) := by
  refine ⟨h.1, h.2.1, fun i i0 i1 => ?_, fun i hi => ?_⟩
  · unfold txS
    rw [if_pos ⟨i0, i1⟩]
    exact (h.2.2.2 i i0 i1).2
  · unfold txS
    rw [if_neg (by omega)]
def iniS (S : St) : St := (((((((S.f 1 5 0).f 1 4 0).f 1 3 (-1)).f 3 5 0).f 3 7 0).f 1 8 0).f 1 9 0).f 1 10 (S.F 13 2)
theorem iniS_f (S : St) : Fr pcl S (iniS S) := (((((((Fr.f (by decide)).trans (Fr.f (by decide))).trans (Fr.f (by decide))).trans (Fr.f (by decide))).trans (Fr.f (by decide))).trans (Fr.f (by decide))).trans (Fr.f (by decide))).trans (Fr.f (by decide))
theorem iniS_F (S : St) : (iniS S).F 1 1 = S.F 1 1 ∧ (iniS S).F 1 3 = -1 ∧ (iniS S).F 1 4 = 0 ∧ (iniS S).F 1 5 = 0 ∧ (iniS S).F 1 8 = 0 ∧ (iniS S).F 1 9 = 0 ∧ (iniS S).F 1 10 = S.F 13 2 ∧ (iniS S).F 3 5 = 0 ∧ (iniS S).F 3 7 = 0 := by
  have i0 : inR 0 := by decide
  have im : inR (-1) := by decide
  have i2 : inR (S.F 13 2) := inR_to _
  unfold iniS
  refine ⟨?_, ?_, ?_, ?_, ?_, ?_, ?_, ?_, ?_⟩ <;> simp [f_F i0, f_F im, f_F i2]
def mZ : List Nat := [22, 27, 28, 29, 30, 34, 35, 36, 42, 43, 46]
def iniT (T : St) : St := ((((((((((T.f 36 27 0).f 36 28 0).f 36 29 0).f 36 36 0).f 36 30 0).f 36 34 0).f 36 35 (T.F 36 20)).f 36 22 0).f 36 43 0).f 36 46 0)
theorem iniT_f (T : St) : Fx mX mZ T (iniT T) := (((((((((Fx.f _ (by decide) _).trans (Fx.f _ (by decide) _)).trans (Fx.f _ (by decide) _)).trans (Fx.f _ (by decide) _)).trans (Fx.f _ (by decide) _)).trans (Fx.f _ (by decide) _)).trans (Fx.f _ (by decide) _)).trans (Fx.f _ (by decide) _)).trans (Fx.f _ (by decide) _)).trans (Fx.f _ (by decide) _)
theorem iniT_F (T : St) : (iniT T).F 36 22 = 0 ∧ (iniT T).F 36 27 = 0 ∧ (iniT T).F 36 28 = 0 ∧ (iniT T).F 36 29 = 0 ∧ (iniT T).F 36 30 = 0 ∧ (iniT T).F 36 34 = 0 ∧ (iniT T).F 36 35 = T.F 36 20 ∧ (iniT T).F 36 36 = 0 ∧ (iniT T).F 36 43 = 0 ∧ (iniT T).F 36 46 = 0 := by
  have i0 : inR 0 := by decide
  have i2 : inR (T.F 36 20) := inR_to _
  unfold iniT
  refine ⟨?_, ?_, ?_, ?_, ?_, ?_, ?_, ?_, ?_, ?_⟩ <;> simp [f_F i0, f_F i2]
theorem g99_t (T : St) : ∃ T', g99 T = some T' ∧ Fr [47] (iniT T) T' ∧ ∀ v : Int, 0 ≤ v → v < 128 → T'.A 47 v = -1 := by
  obtain ⟨T', q1, q2, q3⟩ := g100_t (iniT T)
  refine ⟨T', ?_, q2, q3⟩
  have e : g99 T = ob (g100 (iniT T)) (fun o1 => some o1) := rfl
  rw [e, q1]
  rfl
/-- both stand at the start of a formula -/
theorem FQ_0 {S T T0 : St} (h : Rel S) (hT : FK S T) (f : Fr [47] (iniT T) T0) (h47 : ∀ v : Int, 0 ≤ v → v < 128 → T0.A 47 v = -1) : FQ (txS S) (S.F 1 1) (iniS S) T0 0 0 0 0 (fun _ => 0) (fun _ => 0) (fun _ => 0) [] := by
  obtain ⟨s1, s3, s4, s5, s8, s9, s10, t5, t7⟩ := iniS_F S
  obtain ⟨m22, m27, m28, m29, m30, m34, m35, m36, m43, m46⟩ := iniT_F T
  have F : T0.F 36 = (iniT T).F 36 := f.F (by decide)
  rw [← F] at m22 m27 m28 m29 m30 m34 m35 m36 m43 m46
  have m2 : T0.F 36 2 = S.F 36 2 := by
    rw [F, (iniT_f T).F (by decide), hT.F]
  have m37 : T0.A 37 = S.A 37 := by
    rw [f.A (by decide), (iniT_f T).A (by decide) (by decide), hT.A (mc rfl)]
  have a2 : (iniS S).A 2 = S.A 2 := (iniS_f S).A (by decide)
  obtain ⟨r1, r2, r3, r4, r5, r6, r7, r8⟩ := h
  obtain ⟨b1, b2, b3, b4, b5, b6, b7⟩ := r3
  obtain ⟨x1, x2, x3, x4⟩ := r1
  have e20 : T.F 36 20 = S.F 13 2 := by rw [hT.F]; exact r2.2.2.2.1
  refine ⟨⟨⟨s1, s4, s3, fun i i0 i1 => ?_, Int.le_refl _, x1⟩, ⟨m2.trans x3, m27, m28, fun i i0 i1 => ?_, Int.le_refl _, x1, by omega, by omega⟩⟩, ⟨⟨s5, s8, by decide, fun i i0 i1 => absurd i1 (by show ¬ i < 0; omega)⟩, ⟨m29, m30, by decide, fun i i0 i1 => absurd i1 (by show ¬ i < 0; omega)⟩, fun i i0 i1 => absurd i1 (by show ¬ i < 0; omega)⟩, ⟨by rw [m35, s10, e20], by omega, by omega, by omega, by omega, by omega, by omega, by omega⟩, ⟨m46, Or.inl m36, fun _ => by omega⟩, ⟨by omega, ?_, ?_, by omega, ?_⟩, ⟨fun i hi => absurd hi (by omega), fun c c0 c1 => by rw [h47 c (by omega) c1]; decide⟩, fun _ => ⟨fun _ => [], fun c hc => absurd rfl hc, fun c hc => absurd rfl hc, fun c c' x hc => absurd hc (by simp), fun c hc => absurd rfl hc, fun i hi => absurd hi (by omega), fun l l0 l1 => absurd l1 (by show ¬ l < 0; omega)⟩⟩
  · rw [a2]
    unfold txS
    rw [if_pos ⟨i0, i1⟩]
  · rw [m37, (x4 i i0 i1).1]
    unfold txS
    rw [if_pos ⟨i0, i1⟩]
  · show (iniS S).F 3 5 + 0 ≤ 0
    omega
  · show 2 * 0 = (iniS S).F 3 5 + 0
    omega
  · show (iniS S).F 3 7 ≤ 16 * 0
    omega
