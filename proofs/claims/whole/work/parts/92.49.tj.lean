/-! what a run of draws changes -/
def cfl : List Nat := [13, 14, 15, 16, 17, 18, 19, 21, 22, 24, 25, 26]
def CFr (S S' : St) : Prop := S'.O = S.O ∧ ∀ c, c ∉ cfl → S'.F0 c = S.F0 c ∧ S'.A0 c = S.A0 c ∧ S'.R c = S.R c
def mfl : List Nat := [36, 38, 39, 40, 41, 42, 43, 44, 45, 46, 47, 48, 49, 62, 63, 64, 65, 66, 67]
def MFr (T T' : St) : Prop := T'.tl = T.tl ∧ T'.ns = T.ns ∧ T'.O = T.O ∧ (∀ c, c ∉ mfl → T'.F0 c = T.F0 c ∧ T'.A0 c = T.A0 c ∧ T'.R c = T.R c) ∧ ∀ i, i ∉ [9, 14, 15, 16, 17, 18, 19, 24] → T'.F0 36 i = T.F0 36 i
theorem CFr.refl (S : St) : CFr S S := ⟨rfl, fun _ _ => ⟨rfl, rfl, rfl⟩⟩
theorem MFr.refl (T : St) : MFr T T := ⟨rfl, rfl, rfl, fun _ _ => ⟨rfl, rfl, rfl⟩, fun _ _ => rfl⟩
theorem CFr.trans {S T U : St} (h : CFr S T) (g : CFr T U) : CFr S U := ⟨g.1.trans h.1, fun c hc => ⟨(g.2 c hc).1.trans (h.2 c hc).1, (g.2 c hc).2.1.trans (h.2 c hc).2.1, (g.2 c hc).2.2.trans (h.2 c hc).2.2⟩⟩
theorem MFr.trans {S T U : St} (h : MFr S T) (g : MFr T U) : MFr S U := ⟨g.1.trans h.1, g.2.1.trans h.2.1, g.2.2.1.trans h.2.2.1, fun c hc => ⟨(g.2.2.2.1 c hc).1.trans (h.2.2.2.1 c hc).1, (g.2.2.2.1 c hc).2.1.trans (h.2.2.2.1 c hc).2.1, (g.2.2.2.1 c hc).2.2.trans (h.2.2.2.1 c hc).2.2⟩, fun i hi => (g.2.2.2.2 i hi).trans (h.2.2.2.2 i hi)⟩
theorem Fr.CFr {X : List Nat} {S S' : St} (h : Fr X S S') (hX : ∀ c ∈ X, c ∈ cfl) : CFr S S' := ⟨h.2.2.1, fun c hc => h.2.2.2 c (fun e => hc (hX c e))⟩
theorem TF.CFr {S S' : St} (h : TF S S') : CFr S S' := ⟨h.1, fun c hc => h.2 c (fun e => hc (by
  have : ∀ d ∈ [13, 14, 24, 25, 26], d ∈ cfl := by decide
  exact this c e))⟩
theorem MU.MFr {T T' : St} (h : MU T T') : MFr T T' := ⟨h.1, h.2.1, h.2.2.1, fun c hc => h.2.2.2.1 c (fun e => hc (by
  have : ∀ d ∈ [36, 46, 47, 48, 49, 65, 66, 67], d ∈ mfl := by decide
  exact this c e)), fun i hi => h.2.2.2.2.2 i (fun e => hi (by rw [e]; decide))⟩
theorem Fr.MFr {X : List Nat} {T T' : St} (h : Fr X T T') (hX : ∀ c ∈ X, c ∈ mfl ∧ c ≠ 36) : MFr T T' := ⟨h.1, h.2.1, h.2.2.1, fun c hc => h.2.2.2 c (fun e => hc (hX c e).1), fun i _ => by rw [(h.2.2.2 36 (fun e => (hX 36 e).2 rfl)).1]⟩
theorem TM.MFr {T T' : St} (h : TM T T') : MFr T T' := ⟨h.1, h.2.1, h.2.2.1, fun c hc => h.2.2.2.1 c (fun e => hc (by
  have : ∀ d ∈ [36, 38, 39, 40, 41, 42, 43, 44, 45, 62, 63], d ∈ mfl := by decide
  exact this c e)), fun i hi => h.2.2.2.2 i (fun e => hi (by
  have : ∀ d ∈ [9, 14, 15, 17, 18, 19], d ∈ [9, 14, 15, 16, 17, 18, 19, 24] := by decide
  exact this i e))⟩
theorem CFr.FC {S S' : St} (h : CFr S S') : FC S S' := ⟨h.1, fun c hc => by
  have := h.2 c (fun e => by
    have : ∀ d ∈ cfl, ¬ (36 ≤ d ∧ d ≤ 70) := by decide
    exact this c e hc)
  exact ⟨this.1, this.2.1⟩⟩
theorem MFr.FM {T T' : St} (h : MFr T T') : FM T T' := ⟨h.1, h.2.1, h.2.2.1, fun c hc => h.2.2.2.1 c (fun e => hc (by
  have : ∀ d ∈ mfl, 36 ≤ d ∧ d ≤ 70 := by decide
  exact this c e))⟩
theorem X2.frc {S T V : St} {X : List Nat} (h : X2 S T) (hX : Fr X S V) (hd : ∀ c ∈ [0, 13, 14, 25, 27, 35], c ∉ X) : X2 V T := by
  have r14 : V.R 14 = S.R 14 := (hX.2.2.2 14 (hd 14 (by decide))).2.2
  have r35 : V.R 35 = S.R 35 := (hX.2.2.2 35 (hd 35 (by decide))).2.2
  unfold X2 XN XB XK XK1 XL RJ RX at *
  rw [hX.1, r14, r35, hX.F (hd 0 (by decide)), hX.F (hd 13 (by decide)), hX.A (hd 25 (by decide)), hX.A (hd 27 (by decide))]
  exact h
theorem X2.mu {S T V : St} (h : X2 S T) (f : MU T V) : X2 S V := by
  unfold X2 XN XB XK XK1 XL KM at h ⊢
  rw [f.F (show 10 ≠ 24 by decide), f.F (show 9 ≠ 24 by decide), f.F (show 20 ≠ 24 by decide), f.F (show 16 ≠ 24 by decide), f.F (show 17 ≠ 24 by decide), f.F (show 18 ≠ 24 by decide), f.F (show 19 ≠ 24 by decide), f.F (show 14 ≠ 24 by decide), f.F (show 15 ≠ 24 by decide), f.A (show 38 ∉ [36, 46, 47, 48, 49, 65, 66, 67] by decide), f.A (show 39 ∉ [36, 46, 47, 48, 49, 65, 66, 67] by decide), f.A (show 40 ∉ [36, 46, 47, 48, 49, 65, 66, 67] by decide), f.A (show 41 ∉ [36, 46, 47, 48, 49, 65, 66, 67] by decide), f.A (show 42 ∉ [36, 46, 47, 48, 49, 65, 66, 67] by decide), f.A (show 43 ∉ [36, 46, 47, 48, 49, 65, 66, 67] by decide), f.A (show 44 ∉ [36, 46, 47, 48, 49, 65, 66, 67] by decide), f.A (show 45 ∉ [36, 46, 47, 48, 49, 65, 66, 67] by decide)]
  exact h
theorem X2.m119 {S T V : St} (h : X2 S T) (f : Fr [38, 39, 40, 41, 42, 64, 65] T V) (hk : ∀ (s n : Int) (o u : Int → Int), s < 124 → WK n o u → KM T s n o u → KM V s n o u) : X2 S V := by
  obtain ⟨h1, h2, h3, h4, h5, h6⟩ := h
  have b2 := h2.2.1
  have b4 := h2.2.2.2.1
  refine ⟨?_, h2, fun k k0 k1 => ?_, h4, fun k k0 k1 => ?_, h6⟩
  · unfold XN at h1 ⊢
    rw [f.F (show 36 ∉ [38, 39, 40, 41, 42, 64, 65] by decide)]
    exact h1
  · obtain ⟨a, c, x0, x1, x2, x3, x4, x5, n, o, u, r1, r2, r3, r4, r5, r6, r7, r8⟩ := h3 k k0 k1
    refine ⟨a, c, x0, x1, x2, x3, x4, x5, n, o, u, r1, r2, r3, r4, hk k n o u (by omega) r6.1 r5, r6, r7, ?_⟩
    rw [f.A (show 43 ∉ [38, 39, 40, 41, 42, 64, 65] by decide), f.A (show 44 ∉ [38, 39, 40, 41, 42, 64, 65] by decide), f.A (show 45 ∉ [38, 39, 40, 41, 42, 64, 65] by decide)]
    exact r8
  · obtain ⟨c, n, o, u, r1, r2, r3, r4⟩ := h5 k k0 k1
    exact ⟨c, n, o, u, r1, r2, hk (100 + k) n o u (by omega) r4.1.1 r3, r4⟩
/-- both have drawn and taken in -/
def TJ (S T S' T' : St) : Prop := X2 S' T' ∧ CFr S S' ∧ MFr T T' ∧ S.F 13 1 ≤ S'.F 13 1 ∧ S'.F 13 3 = S.F 13 3 ∧ (∀ (g : Int) (c : Nat), 0 ≤ g → g < S.F 13 1 → CR S g c → CR S' g c) ∧ TX S.tl S'.tl ∧ (∀ k : Int, k < S.F 13 1 → T'.A 43 k = T.A 43 k) ∧ (∀ k : Int, S.F 13 1 ≤ k → k < S'.F 13 1 → T'.A 43 k = 0) ∧ (S'.tl.length : Int) ≤ S.tl.length + 4 * (S'.F 13 1 - S.F 13 1) ∧ (S'.ns : Int) ≤ S.ns + 40 * (S'.F 13 1 - S.F 13 1)
theorem TJ.refl {S T : St} (h : X2 S T) : TJ S T S T := ⟨h, CFr.refl _, MFr.refl _, Int.le_refl _, rfl, fun _ _ _ _ q => q, TX.refl _, fun _ _ => rfl, fun k h1 h2 => absurd h2 (by omega), by omega, by omega⟩
theorem TJ.trans {S T S1 T1 S2 T2 : St} (h : TJ S T S1 T1) (g : TJ S1 T1 S2 T2) : TJ S T S2 T2 := by
  obtain ⟨a1, a2, a3, a4, a5, a6, a7, a8, a9, a10, a11⟩ := h
  obtain ⟨b1, b2, b3, b4, b5, b6, b7, b8, b9, b10, b11⟩ := g
  refine ⟨b1, a2.trans b2, a3.trans b3, by omega, b5.trans a5, fun g c g0 g1 q => b6 g c g0 (by omega) (a6 g c g0 g1 q), a7.trans b7, fun k hk => (b8 k (by omega)).trans (a8 k hk), fun k h1 h2 => ?_, by omega, by omega⟩
  by_cases h3 : k < S1.F 13 1
  · rw [b8 k h3]; exact a9 k h1 h3
  · exact b9 k (by omega) h2
theorem draw_0 {S T S1 T1 : St} {b : Int} (h : X2 S T) (d : DW S T S1 T1 b) : TJ S T S1 T1 := by
  obtain ⟨_, f1, f2, _⟩ := d
  have e13 : S1.F 13 = S.F 13 := f1.F (by decide)
  have e43 : T1.A 43 = T.A 43 := f2.A (by decide)
  refine ⟨(h.frc f1 (by decide)).mu f2, f1.CFr (by decide), f2.MFr, by rw [e13]; exact Int.le_refl _, by rw [e13], fun g c _ _ q => ?_, by rw [f1.1]; exact TX.refl _, fun k _ => by rw [e43], fun k h1 h2 => absurd h2 (by rw [e13]; omega), by rw [f1.1, e13]; omega, by rw [f1.2.1, e13]; omega⟩
  obtain ⟨a, v, q1, q2, q3⟩ := q
  exact ⟨a, v, by rw [(f1.2.2.2 14 (by decide)).2.2]; exact q1, q2, by rw [f1.1]; exact q3⟩
theorem draw_1 {S T S1 T1 : St} {k1 k2 k3 k4 k5 : Int} (h : X2 S T) (d : DW S T S1 T1 1) (hk : 0 < k1 ∧ k1 ≤ 2 ∧ 0 ≤ k2 ∧ k2 < S.F 13 1 ∧ 0 ≤ k4 ∧ k4 < S.F 13 1) (i3 : inR k3) (i5 : inR k5) : ∃ x S' T', g49 S1 k1 k2 k3 k4 k5 = some S' ∧ g118 T1 k1 k2 k3 k4 k5 = some (x, T') ∧ b1R x ∧ TJ S T S' T' := by
  have j0 := draw_0 h d
  obtain ⟨_, f1, f2, d3⟩ := d
  obtain ⟨r, T2, r1, r2, r3, r4⟩ := d3 rfl
  have e13 : S1.F 13 = S.F 13 := f1.F (by decide)
  obtain ⟨x, S', T', t1, t2, t3, t4, t5, t6, t7, t8, t9, t10, t11, t12, t13, t14⟩ := takeIn_sim (k1 := k1) (k2 := k2) (k3 := k3) (k4 := k4) (k5 := k5) r1 (j0.1.m119 r3 r4) (df_of r2) (Or.inr (by rw [e13]; exact hk)) i3 i5
  have e43 : T2.A 43 = T1.A 43 := r3.A (by decide)
  have jx : TJ S1 T1 S' T' := by
    refine ⟨t4, t5.CFr, (r3.MFr (by decide)).trans t6.MFr, ?_, t8, t9, t14, fun k hk => (t10 k hk).trans (by rw [e43]), fun k h1 h2 => ?_, ?_, ?_⟩
    · rcases t3 with e | e <;> omega
    · rcases t3 with e | e
      · omega
      · rw [show k = S1.F 13 1 by omega]
        exact t11 e
    · rw [t7]; omega
    · rw [t7]; omega
  exact ⟨x, S', T', t1, t2, t3, j0.trans jx⟩
theorem KT.n {t : List Cl} {c : Nat} {n n' : Int} {o u o' u' : Int → Int} (h : KT t c n o u) (g : KT t c n' o' u') : n = n' := by
  obtain ⟨_, b, s, N, M, f, gg, x, w, _, _, h1, h2, _⟩ := h
  obtain ⟨_, b', s', N', M', f', gg', x', w', _, _, g1, g2, _⟩ := g
  rw [h1] at g1
  cases g1
  omega
theorem CR_KT {S T : St} {g n : Int} {c : Nat} {o u : Int → Int} (h : X2 S T) (g0 : 0 ≤ g) (g1 : g < S.F 13 1) (hc : CR S g c) (hK : KT S.tl c n o u) : ∃ o' u', KT S.tl c n o' u' ∧ KM T g n o' u' ∧ WV n o' u' ∧ o' n ≤ 16 := by
  obtain ⟨a, v, q1, q2, q3⟩ := hc
  obtain ⟨a', c', x0, x1, x2, x3, x4, x5, n', o', u', r1, r2, r3, r4, r5, r6, r7, _⟩ := h.2.2.1 g g0 g1
  rw [q1] at r1
  cases r1
  rw [q3] at r3
  cases r3
  have en := hK.n r4
  subst en
  exact ⟨o', u', r4, r5, r6, r7⟩
theorem CR_ex {S T : St} {g : Int} (h : X2 S T) (g0 : 0 ≤ g) (g1 : g < S.F 13 1) : ∃ (a c : Nat) (x0 x1 x2 x3 x4 x5 : Int32) (n : Int) (o u : Int → Int), S.R 14 g = some a ∧ S.cl a = some (.ob 9 [c] [x0, x1, x2, x3, x4, x5]) ∧ CR S g c ∧ KT S.tl c n o u ∧ KM T g n o u ∧ WV n o u ∧ o n ≤ 16 ∧ T.A 43 g = x0.toInt := by
  obtain ⟨a, c, x0, x1, x2, x3, x4, x5, n, o, u, r1, r2, r3, r4, r5, r6, r7, r8, _⟩ := h.2.2.1 g g0 g1
  exact ⟨a, c, x0, x1, x2, x3, x4, x5, n, o, u, r1, (cl_tl r2).trans r3, ⟨a, _, r1, r2, r3⟩, r4, r5, r6, r7, r8⟩
theorem stop_sim {S T : St} (h : X2 S T) : ∃ b, g66 S = some b ∧ g139 T = some b ∧ b1R b := by
  obtain ⟨n1, n2, n3, n4, n5, n6, n7, n8, n9⟩ := h.1
  obtain ⟨b1, b2, b3, b4, b5, b6, b7, b8, _⟩ := h.2.1
  unfold g66 g139
  rw [n8, n9]
  by_cases h1 : S.F 13 7 = -1
  · rw [if_pos (show S.F 13 7 < 0 by omega), if_pos h1]
    by_cases h2 : S.F 13 8 = 0
    · rw [if_pos h2]; exact ⟨0, rfl, rfl, Or.inl rfl⟩
    · rw [if_neg h2]; exact ⟨1, rfl, rfl, Or.inr rfl⟩
  · rw [if_neg (show ¬ S.F 13 7 < 0 by omega), if_neg h1]
    by_cases h2 : S.F 13 8 = 0
    · rw [if_pos h2]; exact ⟨1, rfl, rfl, Or.inr rfl⟩
    · rw [if_neg h2]; exact ⟨1, rfl, rfl, Or.inr rfl⟩
