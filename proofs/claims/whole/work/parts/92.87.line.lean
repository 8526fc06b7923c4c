/-! the ground: what a line must follow from -/
theorem copy30_t {S : St} {n : Int} {o u : Int → Int} (h : KE_30 S n o u) (hW : WK n o u) : ∃ (f g : Int → Int32), g58_30 S = some (S.top, S.w [.ob 5 [S.top + 1, S.top + 2] [eI n, eI (o n)], .ar (o n).toNat f, .ar (n + 1).toNat g] (S.ns + 4 + (o n).toNat + (n + 1).toNat)) ∧ (∀ k : Int, 0 ≤ k → k ≤ n → (g k).toInt = o k) ∧ (∀ p : Int, 0 ≤ p → p < o n → (f p).toInt = u p) := by
  obtain ⟨h1, h2, h3, h4⟩ := h
  obtain ⟨w1, w2, w3, w4, w5, w6, w7⟩ := hW
  have wn := w6 n w1 (by omega)
  have top0 : 72 ≤ S.top := by unfold St.top; omega
  have sg : ∀ (l : List Cl) (k : Nat), (S.w l k).cl 32 = some (.ar 80 (S.A0 32)) := fun _ _ => rfl
  have sh : ∀ (l : List Cl) (k : Nat), (S.w l k).cl 33 = some (.ar 5 (S.A0 33)) := fun _ _ => rfl
  refine ⟨cpI (fun i => (S.A0 32 i).toInt) (fun i => ((fun _ => 0 : Int → Int32) i).toInt) 0 0 (o n), cpI (fun i => (S.A0 33 i).toInt) (fun i => ((fun _ => 0 : Int → Int32) i).toInt) 0 0 (n + 1), ?_, ?_, ?_⟩
  · unfold g58_30
    rw [h1, h2]
    refine (gN_t nw_cl top0).trans ?_
    refine (gd_t (by first | exact ⟨by omega, by omega⟩ | exact ⟨by omega, by omega, by omega⟩ | exact ⟨by omega, by omega, by omega, by omega⟩ | omega | exact inR_to _ | assumption | decide)).trans ?_
    rw [w_c5]
    refine (gC_t (show (S.w _ _).cl S.top = some (.ob 5 [S.top + 1, S.top + 2] [0, 0]) from w_cl (i := 0))).trans ?_
    refine (gA_t (sg _ _)).trans ?_
    refine (gA_t (show (S.w _ _).cl (S.top + 1) = some (.ar (o n).toNat (fun _ => 0)) from w_cl (i := 1))).trans ?_
    refine (gd_t (by omega)).trans ?_
    refine (gd_t ⟨by omega, by omega, by omega, by omega, by omega, by omega, by omega⟩).trans ?_
    rw [w_t (i := 1)]
    refine (gC_t (show (S.w _ _).cl S.top = some (.ob 5 [S.top + 1, S.top + 2] [0, 0]) from w_cl (i := 0))).trans ?_
    refine (gA_t (sh _ _)).trans ?_
    refine (gA_t (show (S.w _ _).cl (S.top + 2) = some (.ar (n + 1).toNat (fun _ => 0)) from w_cl (i := 2))).trans ?_
    refine (gd_t (by omega)).trans ?_
    refine (gd_t ⟨by omega, by omega, by omega, by omega, by omega, by omega, by omega⟩).trans ?_
    rw [w_t (i := 2)]
    refine (gC_t (show (S.w _ _).cl S.top = some (.ob 5 [S.top + 1, S.top + 2] [0, 0]) from w_cl (i := 0))).trans ?_
    refine (gd_t top0).trans ?_
    have e0 : ∀ (l : List Cl) (k : Nat) (x : Cl), (S.w l k).t S.top x = S.w (l.set 0 x) k := fun l k x => w_t (i := 0)
    rw [e0]
    refine (gC_t (show (S.w _ _).cl S.top = some (.ob 5 [S.top + 1, S.top + 2] [eI n, eI (Int32.toInt 0)]) from w_cl (i := 0))).trans ?_
    rw [e0]
    have e1 : eI (eI n).toInt = eI n := eI_of _
    rw [e1]
    rfl
  · intro k k0 k1
    unfold cpI
    rw [if_pos ⟨by omega, by omega⟩, eI_to (inR_to _), show k - 0 + 0 = k by omega]
    exact h3 k k0 k1
  · intro p p0 p1
    unfold cpI
    rw [if_pos ⟨by omega, by omega⟩, eI_to (inR_to _), show p - 0 + 0 = p by omega]
    exact h4 p p0 p1
theorem KE30.KC {S : St} {n : Int} {o u : Int → Int} (h : KE_30 S n o u) (hn : n ≤ 4) (ho : o n ≤ 64) : KC S 31 n o u := by
  obtain ⟨h1, h2, h3, h4⟩ := h
  exact ⟨32, 33, 80, 5, S.A0 32, S.A0 33, S.F0 31 2, S.F0 31 3, rfl, h1, h2, rfl, rfl, by omega, by decide, by omega, by decide, h3, h4⟩
def gfX : List Nat := [38, 39, 40, 41, 42, 46, 47, 48, 49, 62, 63, 64, 65, 66, 67]
theorem MU.gf {T T' : St} (h : MU T T') : Fx gfX [24] T T' := ⟨h.1, h.2.1, h.2.2.1, fun c hc h3 => h.2.2.2.1 c (fun e => by
  have : ∀ d ∈ [36, 46, 47, 48, 49, 65, 66, 67], d ∈ gfX ∨ d = 36 := by decide
  rcases this c e with q | q
  · exact hc q
  · exact h3 q), h.2.2.2.2.1, fun i hi => h.2.2.2.2.2 i (fun e => hi (by rw [e]; decide))⟩
/-- a ground that was drawn -/
theorem ground_tail {S T S' T1 : St} {n b : Int} {o u : Int → Int} (h : X2 S T) (hW : WV n o u) (hM : KM T (100 + S.F 0 5) n o u) (l0 : 0 ≤ S.F 0 5) (l24 : S.F 0 5 < 24) (d : DW S T S' T1 b) : ∃ (g : Option Nat) (b' : Int) (T' : St), (gd (inR b) (if b = 0 then some (none, S') else if (S'.F 15 3) = 0 then some ((some 16), S') else some (none, S')) : Option (Option Nat × St)) = some (g, S') ∧ (gd (inR b) (if b = 0 then some (0, T1) else ob (g119 T1) (fun o12 => gd (inR o12.1) (if o12.1 = 0 then some (0, o12.2) else ob (g130 o12.2 124 (100 + (T.F 36 10))) (fun o16 => gd (inR o16.1) (if o16.1 = 0 then some (0, o16.2) else some (1, o16.2)))))) : Option (Int × St)) = some (b', T') ∧ b1R b' ∧ Fx gfX [24] T T' ∧ X2 S' T' ∧ KM T' (100 + S.F 0 5) n o u ∧ ((g = none ∧ b' = 0) ∨ ∃ (c : Nat) (n1 : Int) (o1 u1 : Int → Int), g = some c ∧ KC ((S'.f 1 1 0).f 0 6 (-1)) c n1 o1 u1 ∧ WK n1 o1 u1 ∧ b' = if sub n1 n o1 u1 o u = true then 1 else 0) := by
  obtain ⟨hb, f1, f2, d3⟩ := d
  have x1 : X2 S' T1 := (h.frc f1 (by decide)).mu f2
  have k1 := hM.mu f2
  rcases hb with e | e
  · subst e
    exact ⟨none, 0, T1, (gd_t (by decide)).trans (if_pos rfl), (gd_t (by decide)).trans (if_pos rfl), Or.inl rfl, f2.gf, x1, k1, Or.inl ⟨rfl, rfl⟩⟩
  · subst e
    obtain ⟨r, T2, r1, r2, r3, r4⟩ := d3 rfl
    have x2 : X2 S' T2 := x1.m119 r3 r4
    have k2 := r4 _ _ _ _ (by omega) hW.1 k1
    have fx2 : Fx gfX [24] T T2 := f2.gf.trans (r3.Fx (by decide))
    rcases r2 with ⟨a1, a2⟩ | ⟨a1, a2, n1, o1, u1, a3, a4, a5⟩
    · subst a2
      refine ⟨none, 0, T2, (gd_t (by decide)).trans ((if_neg (by decide)).trans (if_neg (by omega))), (gd_t (by decide)).trans ((if_neg (by decide)).trans ?_), Or.inl rfl, fx2, x2, k2, Or.inl ⟨rfl, rfl⟩⟩
      rw [r1]
      refine (ob_t rfl).trans ?_
      exact (gd_t (show inR 0 by decide)).trans (if_pos rfl)
    · subst a2
      obtain ⟨T3, t1, t2⟩ := g130_t a4 k2 a5 hW
      have n10 : T.F 36 10 = S.F 0 5 := h.1.1
      refine ⟨some 16, if sub n1 n o1 u1 o u = true then 1 else 0, T3, (gd_t (by decide)).trans ((if_neg (by decide)).trans (if_pos a1)), (gd_t (by decide)).trans ((if_neg (by decide)).trans ?_), ?_, fx2.trans (t2.Fx (by decide)), x2.mf t2, k2.fr t2 (by decide), Or.inr ⟨16, n1, o1, u1, rfl, ?_, a5.1, rfl⟩⟩
      · rw [r1]
        refine (ob_t rfl).trans ?_
        refine (gd_t (show inR 1 by decide)).trans ((if_neg (show ¬ (1 : Int) = 0 by decide)).trans ?_)
        rw [n10, t1]
        cases sub n1 n o1 u1 o u
        · rfl
        · rfl
      · split
        · exact Or.inr rfl
        · exact Or.inl rfl
      · have hk : KD ((S'.f 1 1 0).f 0 6 (-1)) n1 o1 u1 := a3
        exact hk.KC a5.1.2.1 a5.1.2.2.2.1
set_option maxHeartbeats 1000000 in
theorem ground_sim {S T : St} {n v1 v2 v3 v4 : Int} {o u : Int → Int} (h : X2 S T) (hW : WV n o u) (hM : KM T (100 + S.F 0 5) n o u) (l24 : S.F 0 5 < 24) (i1 : inR v1) (i3 : inR v3) (hG : GH S T v1 v2 v3 v4) : ∃ (g : Option Nat) (S' : St) (b : Int) (T' : St), g91 S v1 v2 v3 v4 = some (g, S') ∧ Fr [15, 16, 17, 18, 19, 21, 22] S S' ∧ g161 T v1 v2 v3 v4 = some (b, T') ∧ b1R b ∧ Fx gfX [24] T T' ∧ X2 S' T' ∧ KM T' (100 + S.F 0 5) n o u ∧ ((g = none ∧ b = 0) ∨ ∃ (c : Nat) (n1 : Int) (o1 u1 : Int → Int), g = some c ∧ KC ((S'.f 1 1 0).f 0 6 (-1)) c n1 o1 u1 ∧ WK n1 o1 u1 ∧ b = if sub n1 n o1 u1 o u = true then 1 else 0) := by
  have n10 : T.F 36 10 = S.F 0 5 := h.1.1
  obtain ⟨b1, b2, b3, b4, _⟩ := h.2.1
  rcases hG with ⟨h1, h2, h3⟩ | ⟨h1, h3, hl, h2, h4⟩ | ⟨h1, h3, hl, hl3, h2, h4⟩
  · obtain ⟨a, c, x0, x1, x2, x3, x4, x5, n1, o1, u1, r1, r2, r3, r4, r5, r6, r7, _⟩ := h.2.2.1 v2 h2 h3
    obtain ⟨T1, t1, t2⟩ := g130_t r5 hM r6 hW
    refine ⟨some c, S, if sub n1 n o1 u1 o u = true then 1 else 0, T1, ?_, Fr.refl _ _, ?_, ?_, t2.Fx (by decide), h.mf t2, hM.fr t2 (by decide), Or.inr ⟨c, n1, o1, u1, rfl, ?_, r6.1, rfl⟩⟩
    · unfold g91
      exact (gd_t i1).trans ((if_pos h1).trans ((gd_t ⟨by omega, by omega⟩).trans ((ob_t r1).trans (gK_t ((cl_tl r2).trans r3)))))
    · unfold g161
      refine (gd_t i1).trans ((if_pos h1).trans ?_)
      rw [n10, t1]
      cases sub n1 n o1 u1 o u
      · exact (ob_t rfl).trans (gd_t (Or.inl rfl))
      · exact (ob_t rfl).trans (gd_t (Or.inr rfl))
    · split
      · exact Or.inr rfl
      · exact Or.inl rfl
    · exact KT.KC (S := (S.f 1 1 0).f 0 6 (-1)) r4
  · obtain ⟨c, N, o1, u1, r1, r2, r3, r4, r5⟩ := h.2.2.2.2.1 v1 hl.1 hl.2
    have e41 := r3.2.2.1
    obtain ⟨b, S', T1, e1, e2, e3⟩ := factor_sim (S := S) (T := T) (k := v2) (l := v4) r2 r3 r4 r5 h2.1 (by omega) h4.1 (by omega)
    obtain ⟨g, b', T', t1, t2, t3, t4, t5, t6, t7⟩ := ground_tail h hW hM b3 l24 e3
    refine ⟨g, S', b', T', ?_, e3.2.1, ?_, t3, t4, t5, t6, t7⟩
    · unfold g91
      refine (gd_t i1).trans ((if_neg h1).trans ((gd_t i3).trans ((if_pos h3).trans ((gd_t ⟨by omega, by omega⟩).trans ((ob_t r1).trans ?_)))))
      rw [e1]
      exact t1
    · unfold g161
      refine (gd_t i1).trans ((if_neg h1).trans ((gd_t i3).trans ((if_pos h3).trans ?_)))
      rw [e2]
      exact t2
  · obtain ⟨c, N, o1, u1, r1, r2, r3, r4, r5⟩ := h.2.2.2.2.1 v1 hl.1 hl.2
    obtain ⟨c', N', o2, u2, q1, q2, q3, q4, q5⟩ := h.2.2.2.2.1 v3 hl3.1 hl3.2
    have e41 := r3.2.2.1
    have f41 := q3.2.2.1
    obtain ⟨b, S', T1, e1, e2, e3⟩ := resolve_sim (S := S) (T := T) (k := v2) (l := v4) r2 r3 r4 r5 q2 q3 q4 q5 h2.1 (by omega) h4.1 (by omega)
    obtain ⟨g, b', T', t1, t2, t3, t4, t5, t6, t7⟩ := ground_tail h hW hM b3 l24 e3
    refine ⟨g, S', b', T', ?_, e3.2.1, ?_, t3, t4, t5, t6, t7⟩
    · unfold g91
      refine (gd_t i1).trans ((if_neg h1).trans ((gd_t i3).trans ((if_neg h3).trans ((gd_t ⟨by omega, by omega⟩).trans ((ob_t r1).trans ((gd_t ⟨by omega, by omega⟩).trans ((ob_t q1).trans ?_)))))))
      rw [e1]
      exact t1
    · unfold g161
      refine (gd_t i1).trans ((if_neg h1).trans ((gd_t i3).trans ((if_neg h3).trans ?_)))
      rw [e2]
      exact t2
/-- a line more: the relation goes on -/
theorem X2.line {V T S' T' : St} {n : Int} {o u : Int → Int} {f g : Int → Int32} {N : Nat} (h : X2 V T) (hW : WV n o u) (ho : o n ≤ 16) (l24 : V.F 0 5 < 24) (hf : ∀ k : Int, 0 ≤ k → k ≤ n → (g k).toInt = o k) (hg : ∀ p : Int, 0 ≤ p → p < o n → (f p).toInt = u p) (hM : KM T (100 + V.F 0 5) n o u) (hS : S' = (((V.w [.ob 5 [V.top + 1, V.top + 2] [eI n, eI (o n)], .ar (o n).toNat f, .ar (n + 1).toNat g] N).r 35 (V.F 0 5) (some V.top)).f 0 5 (V.F 0 5 + 1))) (hT : T' = T.f 36 10 (V.F 0 5 + 1)) : X2 S' T' := by
  obtain ⟨h1, h2, h3, h4, h5, h6⟩ := h
  obtain ⟨b1, b2, b3, b4, b5, b6, b7, b8, b9, b10⟩ := h2
  obtain ⟨n1, n2, n3, n4, n5, n6, n7, n8, n9⟩ := h1
  have hW' := hW
  obtain ⟨⟨w1, w2, w3, w4, w5, w6, w7⟩, wv, wh⟩ := hW
  have wn := w6 n w1 (by omega)
  have ic : inR (V.F 0 5 + 1) := ⟨by omega, by omega⟩
  have top0 : 72 ≤ V.top := by unfold St.top; omega
  have F13 : S'.F 13 = V.F 13 := by rw [hS, fF_ne (by decide), r_F, w_F]
  have F05 : S'.F 0 5 = V.F 0 5 + 1 := by rw [hS, f_F ic, if_pos rfl, if_pos rfl]
  have F36 : ∀ i, i ≠ 10 → T'.F 36 i = T.F 36 i := fun i hi => by rw [hT, f_F ic, if_pos rfl, if_neg hi]
  have F10 : T'.F 36 10 = V.F 0 5 + 1 := by rw [hT, f_F ic, if_pos rfl, if_pos rfl]
  have AT : T'.A = T.A := by rw [hT, f_A]
  have tl : S'.tl = V.tl ++ [.ob 5 [V.top + 1, V.top + 2] [eI n, eI (o n)], .ar (o n).toNat f, .ar (n + 1).toNat g] := by rw [hS, f_tl, r_tl, w_tl]
  have R14 : S'.R 14 = V.R 14 := by rw [hS, f_R, r_Rn (by decide), w_R]
  have R35 : ∀ i, S'.R 35 i = if i = V.F 0 5 then some V.top else V.R 35 i := by intro i; rw [hS, f_R, r_R, w_R]; rfl
  have A25 : S'.A 25 = V.A 25 := by rw [hS, f_A, r_A, w_A]
  have A27 : S'.A 27 = V.A 27 := by rw [hS, f_A, r_A, w_A]
  have tx : TX V.tl S'.tl := by rw [tl]; exact TX.app _ _
  have kml : ∀ (s n' : Int) (o' u' : Int → Int), KM T s n' o' u' → KM T' s n' o' u' := fun s n' o' u' q => by
    unfold KM at q ⊢
    rw [AT]
    exact q
  refine ⟨⟨?_, ?_, ?_, ?_, ?_, ?_, ?_, ?_, ?_⟩, ⟨?_, ?_, ?_, ?_, ?_, ?_, ?_, ?_, ?_, ?_⟩, fun k k0 k1' => ?_, ?_, fun k k0 k1' => ?_, ?_, ?_⟩
  · rw [F10, F05]
  · rw [F36 _ (by decide), F13]; exact n2
  · rw [F36 _ (by decide), F13]; exact n3
  · rw [F36 _ (by decide), F13]; exact n4
  · rw [F36 _ (by decide), F13]; exact n5
  · rw [F36 _ (by decide), F13]; exact n6
  · rw [F36 _ (by decide), F13]; exact n7
  · rw [F36 _ (by decide), F13]; exact n8
  · rw [F36 _ (by decide), F13]; exact n9
  · rw [F13]; exact b1
  · rw [F13]; exact b2
  · rw [F05]; omega
  · rw [F05]; omega
  · rw [F13]; exact b5
  · rw [F13]; exact b6
  · rw [F13]; exact b7
  · rw [F13]; exact b8
  · rw [F13]; exact b9
  · rw [F13]; exact b10
  · rw [F13] at k1'
    obtain ⟨a', c', y0, y1, y2, y3, y4, y5, nn, oo, uu, q1, q2, q3, q4, q5, q⟩ := h3 k k0 k1'
    refine ⟨a', c', y0, y1, y2, y3, y4, y5, nn, oo, uu, by rw [R14]; exact q1, q2, ?_, q4.ext tx, kml _ _ _ _ q5, by rw [AT]; exact q⟩
    rw [tl, List.getElem?_append_left (List.getElem?_eq_some_iff.mp q3).1]
    exact q3
  · intro x y x0 x1 y0 y1 e
    rw [F13] at x1 y1
    rw [R14] at e
    exact h4 x y x0 x1 y0 y1 e
  · rw [F05] at k1'
    by_cases ek : k = V.F 0 5
    · refine ⟨V.top, n, o, u, by rw [R35, if_pos ek], ⟨top0, V.top + 1, V.top + 2, (o n).toNat, (n + 1).toNat, f, g, eI n, eI (o n), by omega, by omega, ?_, eI_to ⟨by omega, by omega⟩, eI_to ⟨by omega, by omega⟩, ?_, ?_, by omega, by omega, by omega, by omega, hf, hg⟩, by rw [ek]; exact kml _ _ _ _ hM, hW', ho⟩
      · rw [tl, show V.top - 72 = V.tl.length + 0 by unfold St.top; omega, ap_g]; rfl
      · rw [tl, show V.top + 1 - 72 = V.tl.length + 1 by unfold St.top; omega, ap_g]; rfl
      · rw [tl, show V.top + 2 - 72 = V.tl.length + 2 by unfold St.top; omega, ap_g]; rfl
    · obtain ⟨c', nn, oo, uu, q1, q2, q3, q4, q5⟩ := h5 k k0 (by omega)
      exact ⟨c', nn, oo, uu, by rw [R35, if_neg ek]; exact q1, q2.ext tx, kml _ _ _ _ q3, q4, q5⟩
  · rw [A25]; exact h6.1
  · rw [A27]; exact h6.2
