/-! claim: both look at a line -/
def bX : List Nat := [38, 39, 40, 41, 42, 46, 47, 48, 49, 50, 51, 52, 53, 54, 55, 56, 57, 58, 59, 60, 61, 62, 63, 64, 65, 66, 67]
def bY : List Nat := [0, 1, 2, 10, 22, 24, 27, 28, 29, 30, 34, 35, 36, 42, 43, 46]
def kap (k : Nat) : Int := if k = 2 then 3 else if k = 3 then 2 else k
theorem bMA {T T' : St} (h : Fx bX bY T T') : MA T T' := h.MA (fun c hc => by
  have : ∀ i ∈ bX, (36 ≤ i ∧ i ≤ 70) ∧ i ≠ 37 ∧ i ≠ 69 := by decide
  exact this c hc) (by decide)
theorem X2.fx {S T T' : St} {X Y : List Nat} (h : X2 S T) (f : Fx X Y T T') (hX : ∀ c ∈ [38, 39, 40, 41, 42, 43, 44, 45], c ∉ X) (hY : ∀ i ∈ [9, 10, 14, 15, 16, 17, 18, 19, 20], i ∉ Y) : X2 S T' := h.mm (fun i hi => f.F (hY i hi)) (fun c hc => f.A (hX c hc) (fun e => by
  rw [e] at hc
  exact absurd hc (by decide)))
theorem B61.fx {T T' : St} (h : B61 T) (e46 : T'.F 36 46 = T.F 36 46) (e61 : T'.A 61 = T.A 61) : B61 T' := by
  unfold B61 at h ⊢
  rw [e46, e61]
  exact h
theorem g158L_t {v1 v2 v3 v4 m : Int} (m1 : m ≤ 100) : ∀ (r n : Nat) (v5 : Int) (T : St), 0 ≤ v5 → v5 + r = m → T.F 36 46 = m → (∀ j : Int, 0 ≤ j → j < m → b1R (T.A 61 j)) → r < n → ∃ T', g158L223 v1 v2 v3 v4 n v5 T = some T' ∧ Fr [48, 49] T T' ∧ (∀ j : Int, j < v5 → T'.A 48 j = T.A 48 j ∧ T'.A 49 j = T.A 49 j) ∧ ∀ j : Int, v5 ≤ j → j < m → T'.A 48 j = T.A 60 j ∧ T'.A 49 j = T.A 61 j := by
  intro r
  induction r with
  | zero =>
    intro n v5 T z0 hz h46 hw hn
    obtain ⟨n, rfl⟩ : ∃ k, n = k + 1 := ⟨n - 1, by omega⟩
    refine ⟨T, ?_, Fr.refl _ _, fun _ _ => ⟨rfl, rfl⟩, fun j h1 h2 => absurd h2 (by omega)⟩
    unfold g158L223
    refine (gd_t (by first | exact ⟨by omega, by omega⟩ | exact ⟨by omega, by omega, by omega⟩ | exact ⟨by omega, by omega, by omega, by omega⟩ | omega | exact inR_to _ | assumption | decide)).trans ?_
    rw [h46, if_neg (by omega)]
  | succ r ih =>
    intro n v5 T z0 hz h46 hw hn
    obtain ⟨n, rfl⟩ : ∃ k, n = k + 1 := ⟨n - 1, by omega⟩
    have e4 := hw v5 z0 (by omega)
    have i48 : inR (T.A 60 v5) := inR_to _
    have i49 : inR (T.A 61 v5) := inR_to _
    have d48 : ((T.a 48 v5 (T.A 60 v5)).a 49 v5 (T.A 61 v5)).A 48 = upI (T.A 48) v5 (T.A 60 v5) := by rw [aA_ne (by decide), aA_up i48]
    have d49 : ((T.a 48 v5 (T.A 60 v5)).a 49 v5 (T.A 61 v5)).A 49 = upI (T.A 49) v5 (T.A 61 v5) := by rw [aA_up i49, aA_ne (by decide)]
    have dn' : ∀ c, c ≠ 48 → c ≠ 49 → ((T.a 48 v5 (T.A 60 v5)).a 49 v5 (T.A 61 v5)).A c = T.A c := fun c h1 h2 => by rw [aA_ne h2, aA_ne h1]
    obtain ⟨T', q1, q2, q3, q4⟩ := ih n (v5 + 1) ((T.a 48 v5 (T.A 60 v5)).a 49 v5 (T.A 61 v5)) (by omega) (by omega) h46 (by rw [dn' 61 (by decide) (by decide)]; exact hw) (by omega)
    rw [dn' 60 (by decide) (by decide), dn' 61 (by decide) (by decide)] at q4
    refine ⟨T', ?_, ((Fr.a (by decide)).trans (Fr.a (by decide))).trans q2, fun j hj => ?_, fun j h1 h2 => ?_⟩
    · rw [g158L223]
      refine (gd_t (by first | exact ⟨by omega, by omega⟩ | exact ⟨by omega, by omega, by omega⟩ | exact ⟨by omega, by omega, by omega, by omega⟩ | omega | exact inR_to _ | assumption | decide)).trans ?_
      rw [h46, if_pos (by omega)]
      refine (gd_t (by first | exact ⟨by omega, by omega⟩ | exact ⟨by omega, by omega, by omega⟩ | exact ⟨by omega, by omega, by omega, by omega⟩ | omega | exact inR_to _ | assumption | decide)).trans ?_
      refine (gd_t e4).trans ?_
      exact q1
    · have := q3 j (by omega)
      rw [d48, d49, upI_n (by omega), upI_n (by omega)] at this
      exact this
    · by_cases hj : j = v5
      · have := q3 j (by omega)
        rw [d48, d49, hj, upI_e, upI_e] at this
        rw [hj]
        exact this
      · exact q4 j (by omega) h2
theorem XL_n {S T T' : St} (h : X2 S T) (h' : X2 S T') {k : Int} (k0 : 0 ≤ k) (k1 : k < S.F 0 5) : T'.A 41 (100 + k) = T.A 41 (100 + k) := by
  obtain ⟨c, n, o, u, r1, r2, r3, _⟩ := h.2.2.2.2.1 k k0 k1
  obtain ⟨c', n', o', u', q1, q2, q3, _⟩ := h'.2.2.2.2.1 k k0 k1
  rw [r1] at q1
  cases q1
  obtain ⟨_, b, s, N, M, f, g, x, y, _, _, a3, a4, _⟩ := r2
  obtain ⟨_, b', s', N', M', f', g', x', y', _, _, d3, d4, _⟩ := q2
  rw [a3] at d3
  cases d3
  rw [r3.2.2.1, q3.2.2.1, ← a4, ← d4]
theorem GH.m {S T T' : St} {v1 v2 v3 v4 : Int} (h : X2 S T) (h' : X2 S T') (g : GH S T v1 v2 v3 v4) : GH S T' v1 v2 v3 v4 := by
  rcases g with g | ⟨a1, a2, a3, a4, a5⟩ | ⟨a1, a2, a3, a4, a5, a6⟩
  · exact Or.inl g
  · refine Or.inr (Or.inl ⟨a1, a2, a3, ?_, ?_⟩)
    · rw [XL_n h h' a3.1 a3.2]; exact a4
    · rw [XL_n h h' a3.1 a3.2]; exact a5
  · refine Or.inr (Or.inr ⟨a1, a2, a3, a4, ?_, ?_⟩)
    · rw [XL_n h h' a3.1 a3.2]; exact a5
    · rw [XL_n h h' a4.1 a4.2]; exact a6
theorem X2.store {S T V : St} {v : Int} (h : X2 S T) (f : Fr [38, 39, 40, 41, 42] T V) (hv : v = 100 + S.F 0 5) (hk : ∀ (s n : Int) (o u : Int → Int), s ≠ v → s < 124 → WK n o u → KM T s n o u → KM V s n o u) : X2 S V := by
  obtain ⟨h1, h2, h3, h4, h5, h6⟩ := h
  have b2 := h2.2.1
  have b3 := h2.2.2.1
  have b4 := h2.2.2.2.1
  refine ⟨?_, h2, fun k k0 k1 => ?_, h4, fun k k0 k1 => ?_, h6⟩
  · unfold XN at h1 ⊢
    rw [f.F (show 36 ∉ [38, 39, 40, 41, 42] by decide)]
    exact h1
  · obtain ⟨a, c, x0, x1, x2, x3, x4, x5, n, o, u, r1, r2, r3, r4, r5, r6, r7, r8⟩ := h3 k k0 k1
    refine ⟨a, c, x0, x1, x2, x3, x4, x5, n, o, u, r1, r2, r3, r4, hk k n o u (by omega) (by omega) r6.1 r5, r6, r7, ?_⟩
    rw [f.A (show 43 ∉ [38, 39, 40, 41, 42] by decide), f.A (show 44 ∉ [38, 39, 40, 41, 42] by decide), f.A (show 45 ∉ [38, 39, 40, 41, 42] by decide)]
    exact r8
  · obtain ⟨c, n, o, u, r1, r2, r3, r4⟩ := h5 k k0 k1
    exact ⟨c, n, o, u, r1, r2, hk (100 + k) n o u (by omega) (by omega) r4.1.1 r3, r4⟩
/-- the clause read by both is made by the second -/
theorem made30 {S0 S1 T1 U1 : St} {Ls : List (List Int)} {nu : Int → List Int} {uc nn top : Int} {k : Nat} {cd num : Int → Int} (hC : CP_30 S0 (Ls.foldl stp (some [])) []) (e48 : g48_30 S0 = some S1) (n128 : nn ≤ 128) (t1 : top ≤ 1024) (hG : GQ (T1.A 46) (T1.A 47) (T1.A 60) (T1.A 61) nu uc nn top k cd num Ls) (a46 : U1.A 46 = T1.A 46) (a47 : U1.A 47 = T1.A 47) (h24 : U1.F 36 24 = Ls.length) (l100 : Ls.length ≤ 100) (h48 : ∀ j : Int, 0 ≤ j → j < Ls.length → U1.A 48 j = T1.A 60 j ∧ U1.A 49 j = T1.A 61 j) : ∃ r U2, g119 U1 = some (r, U2) ∧ DF2_30 S1 U2 r ∧ Fr [38, 39, 40, 41, 42, 64, 65] U1 U2 ∧ ∀ (s n : Int) (o u : Int → Int), s < 124 → WK n o u → KM U1 s n o u → KM U2 s n o u := by
  obtain ⟨rr, hri, hNU, hlit⟩ := hG.wr n128 t1
  obtain ⟨U2, m1, m2, m3⟩ := g119_t (V := VN nu) (T := U1) (ls := Ls) hri h24.symm (by rw [h24]; omega) (fun j j0 j1 => by
    obtain ⟨li, e61, x, E', n, q1, q2, q3, q4, q5, q6, q7, q8⟩ := hlit j j0 j1
    obtain ⟨e4, e5⟩ := h48 j j0 j1
    rw [e4, e5]
    refine ⟨?_, fun _ => ⟨li, e61⟩⟩
    rw [q1]
    exact WR_lit (T0 := U1) q2 q3 (by rw [a46]; exact q4) (by rw [a46]; exact q5) (by rw [a46]; exact q6) (by rw [a46, a47]; exact hNU) q7 q8)
  generalize Ls.foldl stp (some []) = m at *
  match m, hC, m3 with
  | none, hC, m3 => exact ⟨0, U2, m3, df2_30 (T := U1) hC e48 rfl, m1, m2⟩
  | some b, hC, m3 => exact ⟨1, U2, m3.1, df2_30 (T := U1) hC e48 ⟨rfl, m3.2⟩, m1, m2⟩
def cE (S1 : St) (v1 v2 v3 v4 : Int) : Option (Nat × Int × St) := ob (g91 S1 v1 v2 v3 v4) (fun o14 => on o14.1 (some (0, (-1), ((o14.2.f 1 1 0).f 0 6 (-1)))) (fun c16 => ob (g54 ((o14.2.f 1 1 0).f 0 6 (-1)) c16 31) (fun o18 => gd (inR o18.1) (if o18.1 = 0 then some (0, (-1), o18.2) else ob (g58_30 o18.2) (fun o22 => gd (ixR (o18.2.F 0 5) 24) (gC o22.2 o22.1 (fun c25 c26 n27 n28 => some (0, (((o22.2.F 0 5) + 1) - 1), ((o22.2.r 35 (o18.2.F 0 5) (some o22.1)).f 0 5 ((o22.2.F 0 5) + 1))))))))))
def mE (U2 : St) (v1 v2 v3 v4 : Int) : Option (Int × St) := ob (g132 ((U2.f 36 2 0).f 36 1 (-1)) (100 + (U2.F 36 10))) (fun o30 => ob (g161 o30 v1 v2 v3 v4) (fun o32 => gd (inR o32.1) (if o32.1 = 0 then some ((-1), o32.2) else some ((((o32.2.F 36 10) + 1) - 1), (o32.2.f 36 10 ((o32.2.F 36 10) + 1))))))
set_option maxHeartbeats 1000000 in
theorem line_sim {S1 U2 T0 : St} {n v1 v2 v3 v4 : Int} {o u : Int → Int} (x : X2 S1 U2) (hk : KE_30 S1 n o u) (hM : KM U2 124 n o u) (hW : WV n o u) (ho : o n ≤ 16) (l24 : S1.F 0 5 < 24) (i1 : inR v1) (i3 : inR v3) (x0 : X2 S1 T0) (hG : GH S1 T0 v1 v2 v3 v4) : ∃ (w : Int) (S' T' : St), cE S1 v1 v2 v3 v4 = some (0, w, S') ∧ mE U2 v1 v2 v3 v4 = some (w, T') ∧ X2 S' T' ∧ CA S1 S' ∧ Fx bX bY U2 T' ∧ T'.F 36 0 = U2.F 36 0 ∧ T'.F 36 1 = -1 ∧ T'.F 36 2 = 0 ∧ S'.F 0 6 = -1 ∧ S'.F 1 1 = 0 ∧ S'.F 13 = S1.F 13 ∧ T'.A 43 = U2.A 43 ∧ (S'.tl.length : Int) ≤ S1.tl.length + 3 * (S'.F 0 5 - S1.F 0 5) ∧ (S'.ns : Int) ≤ S1.ns + 40 * (S'.F 0 5 - S1.F 0 5) := by
  have n10 : U2.F 36 10 = S1.F 0 5 := x.1.1
  have l0 : 0 ≤ S1.F 0 5 := x.2.1.2.2.1
  have w1' := hW.1.1
  have w2' := hW.1.2.1
  have im : inR (-1) := by decide
  have i0 : inR 0 := by decide
  have fV0 : Fx [] [1, 2] U2 ((U2.f 36 2 0).f 36 1 (-1)) := (Fx.f _ (by decide) _).trans (Fx.f _ (by decide) _)
  have v1' : ((U2.f 36 2 0).f 36 1 (-1)).F 36 1 = -1 := by rw [f_F im, if_pos rfl, if_pos rfl]
  have v2' : ((U2.f 36 2 0).f 36 1 (-1)).F 36 2 = 0 := by rw [f_F im, if_pos rfl, if_neg (by decide), f_F i0, if_pos rfl, if_pos rfl]
  have v0' : ((U2.f 36 2 0).f 36 1 (-1)).F 36 0 = U2.F 36 0 := fV0.F (by decide)
  have v43 : ((U2.f 36 2 0).f 36 1 (-1)).A 43 = U2.A 43 := rfl
  have xV0 : X2 S1 ((U2.f 36 2 0).f 36 1 (-1)) := x.fx fV0 (by decide) (by decide)
  have kV0 : KM ((U2.f 36 2 0).f 36 1 (-1)) 124 n o u := hM
  unfold cE mE
  generalize (U2.f 36 2 0).f 36 1 (-1) = V0 at *
  obtain ⟨U3, s1, s2, s3, s4, s5⟩ := store_t (S := V0) (v := 100 + S1.F 0 5) (by omega) (by omega) kV0 hW.1
  have x3 : X2 S1 U3 := xV0.store s2 rfl s4
  obtain ⟨g, S', b, T', g1, g2, g3, g4, g5, g6, g7, g8⟩ := ground_sim x3 hW s3 l24 i1 i3 (hG.m x0 x3)
  have fT : Fx bX bY U2 T' := ((fV0.mono (by decide) (by decide)).trans (s2.Fx (by decide))).trans (g5.mono (by decide) (by decide))
  have w0 : T'.F 36 0 = U2.F 36 0 := by rw [g5.F (by decide), s2.F (by decide)]; exact v0'
  have w1 : T'.F 36 1 = -1 := by rw [g5.F (by decide), s2.F (by decide)]; exact v1'
  have w2 : T'.F 36 2 = 0 := by rw [g5.F (by decide), s2.F (by decide)]; exact v2'
  have a43 : T'.A 43 = U2.A 43 := by rw [g5.A (by decide) (by decide), s2.A (by decide)]; exact v43
  have e05 : S'.F 0 5 = S1.F 0 5 := by rw [g2.F (by decide)]
  have t10 : T'.F 36 10 = S1.F 0 5 := by rw [g6.1.1]; exact e05
  have V05 : ((S'.f 1 1 0).f 0 6 (-1)).F 0 5 = S1.F 0 5 := by rw [f_F im, if_pos rfl, if_neg (by decide), fF_ne (by decide)]; exact e05
  have V06 : ((S'.f 1 1 0).f 0 6 (-1)).F 0 6 = -1 := by rw [f_F im, if_pos rfl, if_pos rfl]
  have V11 : ((S'.f 1 1 0).f 0 6 (-1)).F 1 1 = 0 := by rw [fF_ne (by decide), f_F i0, if_pos rfl, if_pos rfl]
  have V13 : ((S'.f 1 1 0).f 0 6 (-1)).F 13 = S1.F 13 := by rw [fF_ne (by decide), fF_ne (by decide), g2.F (by decide)]
  have xV : X2 ((S'.f 1 1 0).f 0 6 (-1)) T' := g6.cc (S' := (S'.f 1 1 0).f 0 6 (-1)) rfl rfl rfl (by rw [V05, e05]) (by rw [V13, g2.F (by decide)]) rfl rfl
  have kV : KE_30 ((S'.f 1 1 0).f 0 6 (-1)) n o u := by
    unfold KE_30 at hk ⊢
    rw [fF_ne (show 31 ≠ 0 by decide), fF_ne (show 31 ≠ 1 by decide), f_A, f_A, g2.F (show 31 ∉ [15, 16, 17, 18, 19, 21, 22] by decide), g2.A (show 32 ∉ [15, 16, 17, 18, 19, 21, 22] by decide), g2.A (show 33 ∉ [15, 16, 17, 18, 19, 21, 22] by decide)]
    exact hk
  have fV : Fr [0, 1, 15, 16, 17, 18, 19, 21, 22] S1 ((S'.f 1 1 0).f 0 6 (-1)) := ((g2.mono (by decide)).trans (Fr.f (by decide))).trans (Fr.f (by decide))
  have h25 := xV.2.2.2.2.2.1
  have eM : (ob (g132 V0 (100 + (U2.F 36 10))) (fun o30 => ob (g161 o30 v1 v2 v3 v4) (fun o32 => gd (inR o32.1) (if o32.1 = 0 then some ((-1), o32.2) else some ((((o32.2.F 36 10) + 1) - 1), (o32.2.f 36 10 ((o32.2.F 36 10) + 1)))))) : Option (Int × St)) = if b = 0 then some (-1, T') else some (S1.F 0 5 + 1 - 1, T'.f 36 10 (S1.F 0 5 + 1)) := by
    rw [n10, s1]
    refine (ob_t rfl).trans ?_
    rw [g3]
    refine (ob_t rfl).trans ?_
    refine (gd_t (b1_in g4)).trans ?_
    show (if b = 0 then some ((-1 : Int), T') else some (T'.F 36 10 + 1 - 1, T'.f 36 10 (T'.F 36 10 + 1))) = _
    rw [t10]
  rw [eM, g1]
  rcases g8 with ⟨hg, hb⟩ | ⟨c, n1, o1, u1, hg, hc, hW1, hb⟩
  · subst hg
    subst hb
    refine ⟨-1, (S'.f 1 1 0).f 0 6 (-1), T', rfl, if_pos rfl, xV, fV.CA (by decide), fT, w0, w1, w2, V06, V11, V13, a43, ?_, ?_⟩
    · rw [fV.1, V05]; omega
    · rw [fV.2.1, V05]; omega
  · subst hg
    obtain ⟨V1, p1, p2, p3⟩ := g54_t hc (KE30.KC kV w2' (by omega)) hW1 hW.1 h25
    have xV1 : X2 V1 T' := xV.cov p2 p3
    have V105 : V1.F 0 5 = S1.F 0 5 := by rw [p2.F (by decide)]; exact V05
    have V106 : V1.F 0 6 = -1 := by rw [p2.F (by decide)]; exact V06
    have V111 : V1.F 1 1 = 0 := by rw [p2.F (by decide)]; exact V11
    have V113 : V1.F 13 = S1.F 13 := by rw [p2.F (by decide)]; exact V13
    have caV1 : CA S1 V1 := (fV.CA (by decide)).trans (p2.CA (by decide))
    have tV1 : V1.tl = S1.tl := p2.1.trans fV.1
    have nV1 : V1.ns = S1.ns := p2.2.1.trans fV.2.1
    by_cases hs : sub n1 n o1 u1 o u = true
    · rw [if_pos hs] at hb p1
      subst hb
      have k1 : KE_30 V1 n o u := by
        unfold KE_30 at kV ⊢
        rw [p2.F (show 31 ∉ [24, 25, 26] by decide), p2.A (show 32 ∉ [24, 25, 26] by decide), p2.A (show 33 ∉ [24, 25, 26] by decide)]
        exact kV
      obtain ⟨f, gg, c1, c2, c3⟩ := copy30_t k1 hW.1
      have ix : inR (V1.F 0 5 + 1) := ⟨by omega, by omega⟩
      rw [← V105]
      refine ⟨V1.F 0 5 + 1 - 1, ((V1.w [.ob 5 [V1.top + 1, V1.top + 2] [eI n, eI (o n)], .ar (o n).toNat f, .ar (n + 1).toNat gg] (V1.ns + 4 + (o n).toNat + (n + 1).toNat)).r 35 (V1.F 0 5) (some V1.top)).f 0 5 (V1.F 0 5 + 1), T'.f 36 10 (V1.F 0 5 + 1), ?_, if_neg (by decide), X2.line xV1 hW ho (by omega) c2 c3 (by rw [V105]; exact g7) rfl rfl, ?_, fT.trans (Fx.f _ (by decide) _), ?_, ?_, ?_, ?_, ?_, ?_, ?_, ?_, ?_⟩
      · show ob (g54 ((S'.f 1 1 0).f 0 6 (-1)) c 31) _ = _
        rw [p1]
        refine (ob_t rfl).trans ?_
        refine (gd_t (show inR 1 by decide)).trans ((if_neg (show ¬ (1 : Int) = 0 by decide)).trans ?_)
        show ob (g58_30 V1) _ = _
        rw [c1]
        refine (ob_t rfl).trans ?_
        refine (gd_t (show ixR (V1.F 0 5) 24 from ⟨by omega, by omega⟩)).trans ?_
        exact gC_t (show (V1.w _ _).cl V1.top = some (.ob 5 [V1.top + 1, V1.top + 2] [eI n, eI (o n)]) from w_cl (i := 0))
      · have cw : CA V1 ((V1.w [.ob 5 [V1.top + 1, V1.top + 2] [eI n, eI (o n)], .ar (o n).toNat f, .ar (n + 1).toNat gg] (V1.ns + 4 + (o n).toNat + (n + 1).toNat)).r 35 (V1.F 0 5) (some V1.top)) := ⟨rfl, fun _ _ => ⟨rfl, rfl⟩, rfl, rfl, rfl⟩
        exact (caV1.trans cw).trans ((Fr.f (X := [0]) (by decide)).CA (by decide))
      · rw [f_F ix, if_pos rfl, if_neg (by decide)]; exact w0
      · rw [f_F ix, if_pos rfl, if_neg (by decide)]; exact w1
      · rw [f_F ix, if_pos rfl, if_neg (by decide)]; exact w2
      · rw [f_F ix, if_pos rfl, if_neg (by decide), r_F, w_F]; exact V106
      · rw [fF_ne (by decide), r_F, w_F]; exact V111
      · rw [fF_ne (by decide), r_F, w_F]; exact V113
      · rw [f_A]; exact a43
      · rw [f_tl, r_tl, w_tl, List.length_append, tV1, f_F ix, if_pos rfl, if_pos rfl]
        show ((S1.tl.length + 3 : Nat) : Int) ≤ _
        omega
      · rw [f_F ix, if_pos rfl, if_pos rfl]
        show ((V1.ns + 4 + (o n).toNat + (n + 1).toNat : Nat) : Int) ≤ _
        rw [nV1]
        omega
    · rw [if_neg hs] at hb p1
      subst hb
      refine ⟨-1, V1, T', ?_, if_pos rfl, xV1, caV1, fT, w0, w1, w2, V106, V111, V113, a43, by rw [tV1, V105]; omega, by rw [nV1, V105]; omega⟩
      show ob (g54 ((S'.f 1 1 0).f 0 6 (-1)) c 31) _ = _
      rw [p1]
      refine (ob_t rfl).trans ?_
      exact (gd_t (show inR 0 by decide)).trans (if_pos rfl)
