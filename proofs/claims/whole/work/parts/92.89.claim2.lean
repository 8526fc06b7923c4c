/-- an error: nothing is changed but what reading left -/
theorem c212_err {S T Sx U : St} {v1 v2 v3 v4 : Int} {k : Nat} (hx : X2 Sx U) (hc : XC Sx U) (b : B61 U) (kk : 0 < kap k) (k0 : k ≠ 0) (k3 : k ≤ 3) (e86 : g86 S v1 v2 v3 v4 = some (k, 0, Sx.ho)) (e158 : g158 T v1 v2 v3 v4 = g158C212 U v1 v2 v3 v4) (u0 : U.F 36 0 = kap k) (u1 : U.F 36 1 = Sx.F 0 6) (u2 : U.F 36 2 = Sx.F 1 1) (ca : CA S Sx) (fx : Fx bX bY T U) (f11 : Sx.F 1 1 = S.F 1 1) (ht : Sx.tl = S.tl) (hn : Sx.ns = S.ns) (f13 : Sx.F 13 1 = S.F 13 1) (f05 : Sx.F 0 5 = S.F 0 5) : FO 3 kap S T (g86 S v1 v2 v3 v4) (g158 T v1 v2 v3 v4) := by
  have i46 : inR (U.F 36 46) := inR_to _
  obtain ⟨b1, b2, b3⟩ := b
  have e46 : (U.f 36 24 (U.F 36 46)).F 36 46 = U.F 36 46 := by rw [f_F i46, if_pos rfl, if_neg (by decide)]
  obtain ⟨U1, l1, l2, _, _⟩ := g158L_t (v1 := v1) (v2 := v2) (v3 := v3) (v4 := v4) b2 (U.F 36 46).toNat FU 0 (U.f 36 24 (U.F 36 46)) (by omega) (by omega) e46 b3 (FU_gt (by omega))
  have fU : Fx [48, 49] [24] U U1 := (Fx.f _ (by decide) _).trans (l2.Fx (by decide))
  have w0 : U1.F 36 0 = kap k := by rw [fU.F (by decide)]; exact u0
  refine ⟨k, 0, 0, _, U1, e86, ?_, fun e => absurd e k0, k3, EJ.err (hx.fx fU (by decide) (by decide)) (hc.mm rfl (fU.A (by decide) (by decide))) ca (bMA (fx.trans (fU.mono (by decide) (by decide)))) w0 (by rw [fU.F (by decide)]; exact u1) (by rw [fU.F (by decide)]; exact u2) f11 ht hn f13 f05⟩
  rw [e158]
  unfold g158C212
  rw [l1]
  refine (ob_t rfl).trans ?_
  exact (if_neg (show ¬ U1.F 36 0 = 0 by rw [w0]; omega)).trans (if_pos (show 0 < U1.F 36 0 by rw [w0]; omega))
theorem g50c_t {S : St} : ((S.F 30 3 = 0 ∧ S.F 31 3 ≤ 16) → g50_30 S = some 1) ∧ ((¬ (S.F 30 3 = 0 ∧ S.F 31 3 ≤ 16)) → g50_30 S = some 0) := by
  unfold g50_30
  by_cases h1 : S.F 30 3 = 0
  · rw [if_pos h1]
    by_cases h2 : 16 < S.F 31 3
    · rw [if_pos h2]
      exact ⟨fun q => absurd q.2 (by omega), fun _ => rfl⟩
    · rw [if_neg h2]
      exact ⟨fun _ => rfl, fun q => absurd ⟨h1, by omega⟩ q⟩
  · rw [if_neg h1]
    exact ⟨fun q => absurd q.1 h1, fun _ => rfl⟩
set_option maxHeartbeats 1000000 in
/-- the ground is there: is there room, and does the line follow -/
theorem claim_go {S T S0 S1 T0 T1 U : St} {v1 v2 v3 v4 uc nn top : Int} {Ls : List (List Int)} {nu : Int → List Int} {k : Nat} {cd num : Int → Int} (fS : Fr [1, 12, 30, 31, 32, 33, 34] S S1) (f11 : S1.F 1 1 = S.F 1 1) (x1 : X2 S1 T1) (f13 : S1.F 13 = S.F 13) (f0 : S1.F 0 = S.F 0) (c1 : XC S1 T1) (t2 : T1.F 36 2 = S1.F 1 1) (t1 : T1.F 36 1 = S1.F 0 6) (fTb : Fx bX bY T T1) (caS : CA S S1) (b61 : B61 T1) (r4 : CP_30 S0 (Ls.foldl stp (some [])) []) (r5 : g48_30 S0 = some S1) (r6 : T1.F 36 46 = Ls.length) (r7 : nn ≤ 128) (r8 : top ≤ 1024) (r9 : GQ (T1.A 46) (T1.A 47) (T1.A 60) (T1.A 61) nu uc nn top k cd num Ls) (xB : X2 S1 T0) (gh : GH S1 T0 v1 v2 v3 v4) (i1 : inR v1) (i3 : inR v3) (fU : Fx [] [0, 1, 28] T1 U) (u0 : U.F 36 0 = 0) (u1 : U.F 36 1 = T1.F 36 1) (e86 : g86 S v1 v2 v3 v4 = ob (g50_30 S1) (fun o9 => gd (inR o9) (if o9 = 0 then some (2, 0, S1.ho) else if (S1.F 0 5) < 24 then cE S1 v1 v2 v3 v4 else some (2, 0, S1.ho)))) (eM : g158 T v1 v2 v3 v4 = g158C212 U v1 v2 v3 v4) : FO 3 kap S T (g86 S v1 v2 v3 v4) (g158 T v1 v2 v3 v4) := by
  have uA : ∀ c, c ≠ 36 → U.A c = T1.A c := fun c hc => fU.A (List.not_mem_nil) hc
  obtain ⟨b1, b2, b3⟩ := b61.fx (fU.F (by decide)) (uA 61 (by decide))
  have i46 : inR (U.F 36 46) := inR_to _
  have e46 : (U.f 36 24 (U.F 36 46)).F 36 46 = U.F 36 46 := by rw [f_F i46, if_pos rfl, if_neg (by decide)]
  have e24 : (U.f 36 24 (U.F 36 46)).F 36 24 = U.F 36 46 := by rw [f_F i46, if_pos rfl, if_pos rfl]
  have u46 : U.F 36 46 = Ls.length := by rw [fU.F (by decide)]; exact r6
  obtain ⟨U1, l1, l2, _, l4⟩ := g158L_t (v1 := v1) (v2 := v2) (v3 := v3) (v4 := v4) b2 (U.F 36 46).toNat FU 0 (U.f 36 24 (U.F 36 46)) (by omega) (by omega) e46 b3 (FU_gt (by omega))
  have fU1 : Fx [48, 49] [0, 1, 24, 28] T1 U1 := ((fU.mono (by decide) (by decide)).trans (Fx.f _ (by decide) _)).trans (l2.Fx (by decide))
  have fUU : Fx [48, 49] [24] U U1 := (Fx.f _ (by decide) _).trans (l2.Fx (by decide))
  have w0 : U1.F 36 0 = 0 := by rw [fUU.F (by decide)]; exact u0
  have w1 : U1.F 36 1 = T1.F 36 1 := by rw [fUU.F (by decide)]; exact u1
  have w2 : U1.F 36 2 = T1.F 36 2 := fU1.F (by decide)
  have w43 : U1.A 43 = T1.A 43 := fU1.A (by decide) (by decide)
  have fTU1 : Fx bX bY T U1 := fTb.trans (fU1.mono (by decide) (by decide))
  have xU1 : X2 S1 U1 := x1.fx fU1 (by decide) (by decide)
  have n10 : U1.F 36 10 = S1.F 0 5 := xU1.1.1
  have l24 := xU1.2.1.2.2.2.1
  have eM : g158 T v1 v2 v3 v4 = if (U1.F 36 10) = 24 then some (0, (U1.f 36 0 3)) else ob (g119 U1) (fun o24 => gd (inR o24.1) (if o24.1 = 0 then some (0, (o24.2.f 36 0 3)) else if 16 < (o24.2.A 42 124) then some (0, (o24.2.f 36 0 3)) else if 0 < (o24.2.F 36 0) then some (0, o24.2) else mE o24.2 v1 v2 v3 v4)) := by
    rw [eM]
    unfold g158C212
    rw [l1]
    refine (ob_t rfl).trans ?_
    exact if_pos w0
  have full : ∀ Tx : St, X2 S1 Tx → Fx bX bY T Tx → Tx.A 43 = T1.A 43 → Tx.F 36 1 = T1.F 36 1 → Tx.F 36 2 = T1.F 36 2 → g86 S v1 v2 v3 v4 = some (2, 0, S1.ho) → g158 T v1 v2 v3 v4 = some (0, Tx.f 36 0 3) → FO 3 kap S T (g86 S v1 v2 v3 v4) (g158 T v1 v2 v3 v4) := fun Tx z1 z2 z3 z4 z5 z6 z7 => by
    have fz : Fx [] [0] Tx (Tx.f 36 0 3) := Fx.f _ (by decide) _
    refine ⟨2, 0, 0, _, _, z6, z7, fun e => absurd e (by decide), by decide, EJ.err (z1.fx fz (by decide) (by decide)) (c1.mm rfl z3) caS (bMA (z2.trans (fz.mono (by decide) (by decide)))) ?_ ?_ ?_ f11 fS.1 fS.2.1 (by rw [f13]) (by rw [f0])⟩
    · rw [f_F (by decide), if_pos rfl, if_pos rfl]
      rfl
    · rw [fz.F (by decide), z4, t1]
    · rw [fz.F (by decide), z5, t2]
  have e50 : ∀ x : Int, g50_30 S1 = some x → inR x → g86 S v1 v2 v3 v4 = if x = 0 then some (2, 0, S1.ho) else if (S1.F 0 5) < 24 then cE S1 v1 v2 v3 v4 else some (2, 0, S1.ho) := fun x hx hi => by
    rw [e86, hx]
    refine (ob_t rfl).trans ?_
    exact gd_t hi
  have no : ¬ (S1.F 30 3 = 0 ∧ S1.F 31 3 ≤ 16) → g86 S v1 v2 v3 v4 = some (2, 0, S1.ho) := fun hn => (e50 0 (g50c_t.2 hn) (by decide)).trans (if_pos rfl)
  by_cases hl : S1.F 0 5 < 24
  · rw [if_neg (by omega)] at eM
    obtain ⟨r, U2, m1, m2, m3, m4⟩ := made30 (U1 := U1) r4 r5 r7 r8 r9 (fU1.A (by decide) (by decide)) (fU1.A (by decide) (by decide)) (by rw [l2.F (by decide), e24]; exact u46) (by omega) (fun j j0 j1 => by
      have := l4 j j0 (by omega)
      have a60 : (U.f 36 24 (U.F 36 46)).A 60 = T1.A 60 := uA 60 (by decide)
      have a61 : (U.f 36 24 (U.F 36 46)).A 61 = T1.A 61 := uA 61 (by decide)
      rw [a60, a61] at this
      exact this)
    have xU2 : X2 S1 U2 := xU1.m119 m3 m4
    have fU2 : Fx bX bY T U2 := fTU1.trans (m3.Fx (by decide))
    have y1 : U2.F 36 1 = T1.F 36 1 := by rw [m3.F (by decide)]; exact w1
    have y2 : U2.F 36 2 = T1.F 36 2 := by rw [m3.F (by decide)]; exact w2
    have y0 : U2.F 36 0 = 0 := by rw [m3.F (by decide)]; exact w0
    have y43 : U2.A 43 = T1.A 43 := by rw [m3.A (by decide)]; exact w43
    rw [m1] at eM
    rcases m2 with ⟨d1, d2⟩ | ⟨d1, d2, n, o, u, d3, d4, d5⟩
    · subst d2
      exact full U2 xU2 fU2 y43 y1 y2 (no (fun hh => by omega)) (eM.trans ((ob_t rfl).trans ((gd_t (show inR 0 by decide)).trans (if_pos rfl))))
    · subst d2
      replace eM := eM.trans ((ob_t rfl).trans ((gd_t (show inR 1 by decide)).trans (if_neg (show ¬ (1 : Int) = 0 by decide))))
      have eM : g158 T v1 v2 v3 v4 = if 16 < (U2.A 42 124) then some (0, (U2.f 36 0 3)) else if 0 < (U2.F 36 0) then some (0, U2) else mE U2 v1 v2 v3 v4 := eM
      have a42 := d4.2.2.2.1
      have c31 := d3.2.1
      by_cases ho : o n ≤ 16
      · rw [if_neg (by omega), if_neg (by omega)] at eM
        have e86' := (e50 1 (g50c_t.1 ⟨d1, by omega⟩) (by decide)).trans ((if_neg (show ¬ (1 : Int) = 0 by decide)).trans (if_pos hl))
        obtain ⟨w, S', T', p1, p2, p3, p4, p5, p6, p7, p8, p9, p10, p11, p12, p13, p14⟩ := line_sim xU2 d3 d4 d5 ho hl i1 i3 xB gh
        have z13 : S'.F 13 = S.F 13 := p11.trans f13
        refine ⟨0, w, w, S', T', e86'.trans p1, eM.trans p2, fun _ => rfl, by decide, p3, c1.mm p11 (by rw [p12]; exact y43), caS.trans p4, bMA (fU2.trans p5), by rw [p6, y0]; rfl, by rw [p7, p9], by rw [p8, p10], Or.inr p10, ?_, ?_⟩
        · rw [fS.1, f0] at p13
          rw [z13]
          omega
        · rw [fS.2.1, f0] at p14
          rw [z13]
          omega
      · rw [if_pos (by omega)] at eM
        exact full U2 xU2 fU2 y43 y1 y2 (no (fun hh => by omega)) eM
  · rw [if_pos (by omega)] at eM
    refine full U1 xU1 fTU1 w43 w1 w2 ?_ eM
    by_cases hf : S1.F 30 3 = 0 ∧ S1.F 31 3 ≤ 16
    · exact (e50 1 (g50c_t.1 hf) (by decide)).trans ((if_neg (show ¬ (1 : Int) = 0 by decide)).trans (if_neg hl))
    · exact no hf
set_option maxHeartbeats 1000000 in
theorem claim_sim {S T : St} {v1 v2 v3 v4 : Int} (h : Rel S) (hT : FK S T) (i1 : inR v1) (i2 : inR v2) (i3 : inR v3) (i4 : inR v4) : FO 3 kap S T (g86 S v1 v2 v3 v4) (g158 T v1 v2 v3 v4) := by
  obtain ⟨S1, T1, fS, f11, fT, b61, e158, hD⟩ := read_sim (v1 := v1) (v2 := v2) (v3 := v3) (v4 := v4) h hT
  have x1 : X2 S1 T1 := ((hT.x2 h.X2).frc fS (by decide)).fx fT (by decide) (by decide)
  have f13 : S1.F 13 = S.F 13 := fS.F (by decide)
  have f0 : S1.F 0 = S.F 0 := fS.F (by decide)
  have c1 : XC S1 T1 := (hT.xc h.XC).mm f13 (fT.A (by decide) (by decide))
  have t2 : T1.F 36 2 = S1.F 1 1 := by
    rw [fT.F (by decide), hT.F, f11]
    exact h.1.2.2.1
  have t1 : T1.F 36 1 = S1.F 0 6 := by
    rw [fT.F (by decide), hT.F, f0]
    exact h.2.1.1
  have fTb : Fx bX bY T T1 := fT.mono (by decide) (by decide)
  have caS : CA S S1 := fS.CA (by decide)
  rcases hD with ⟨r1, r2, r3⟩ | ⟨r1, r2, r3, Ls, S0, r4, r5, r6, nu, uc, nn, top, k, cd, num, r7, r8, r9⟩
  · have i3' : inR (S1.F 1 3) := inR_to _
    have i27 : inR (T1.F 36 27) := inR_to _
    have e86 : g86 S v1 v2 v3 v4 = some (1, 0, (S1.f 0 6 (S1.F 1 3)).ho) := by
      unfold g86
      rw [r1]
      refine (ob_t rfl).trans ?_
      exact (gd_t (show inR 0 by decide)).trans (if_pos rfl)
    have eM : g158 T v1 v2 v3 v4 = g158C212 (((T1.f 36 28 1).f 36 0 1).f 36 1 (T1.F 36 27)) v1 v2 v3 v4 := by
      rw [e158]
      unfold g158C131
      by_cases h28 : T1.F 36 28 = 0
      · rw [if_pos h28, if_neg (fun hh => r3 ⟨h28, hh⟩)]
      · rw [if_neg h28]
    have fU : Fx [] [0, 1, 28] T1 (((T1.f 36 28 1).f 36 0 1).f 36 1 (T1.F 36 27)) := ((Fx.f _ (by decide) _).trans (Fx.f _ (by decide) _)).trans (Fx.f _ (by decide) _)
    refine c212_err (Sx := S1.f 0 6 (S1.F 1 3)) (k := 1) ((x1.fx fU (by decide) (by decide)).cc rfl rfl rfl ?_ (fF_ne (by decide)) rfl rfl) (c1.mm (fF_ne (by decide)) rfl) (b61.fx (fU.F (by decide)) rfl) (by decide) (by decide) (by decide) e86 eM ?_ ?_ ?_ (caS.trans ((Fr.f (X := [0]) (by decide)).CA (by decide))) (fTb.trans (fU.mono (by decide) (by decide))) ?_ fS.1 fS.2.1 ?_ ?_
    · rw [f_F i3', if_pos rfl, if_neg (by decide)]
    · rw [f_F i27, if_pos rfl, if_neg (by decide), f_F (by decide), if_pos rfl, if_pos rfl]
      rfl
    · rw [f_F i27, if_pos rfl, if_pos rfl, f_F i3', if_pos rfl, if_pos rfl, r2]
    · rw [fU.F (by decide), t2, fF_ne (by decide)]
    · rw [fF_ne (by decide)]
      exact f11
    · rw [fF_ne (by decide), f13]
    · rw [f_F i3', if_pos rfl, if_neg (by decide), f0]
  · have xB : X2 S1 (T1.f 36 28 0) := x1.fx (Fx.f (X := []) (Y := [28]) T1 (by decide) 0) (by decide) (by decide)
    obtain ⟨b, q1, q2, q3, q4⟩ := found_sim xB i1 i2 i3 i4
    have it1 : inR (T1.F 36 1) := inR_to _
    have e86 : g86 S v1 v2 v3 v4 = if b = 0 then some (3, 0, S1.ho) else ob (g50_30 S1) (fun o9 => gd (inR o9) (if o9 = 0 then some (2, 0, S1.ho) else if (S1.F 0 5) < 24 then cE S1 v1 v2 v3 v4 else some (2, 0, S1.ho))) := by
      unfold g86
      rw [r1]
      refine (ob_t rfl).trans ?_
      refine (gd_t (show inR 1 by decide)).trans ((if_neg (show ¬ (1 : Int) = 0 by decide)).trans ?_)
      show ob (g89 S1 v1 v2 v3 v4) _ = _
      rw [q1]
      refine (ob_t rfl).trans ?_
      exact gd_t (b1_in q3)
    have eM : g158 T v1 v2 v3 v4 = if b = 0 then g158C212 (((T1.f 36 28 0).f 36 0 2).f 36 1 (T1.F 36 1)) v1 v2 v3 v4 else g158C212 (((T1.f 36 28 0).f 36 0 0).f 36 1 (T1.F 36 1)) v1 v2 v3 v4 := by
      rw [e158]
      unfold g158C131
      rw [if_pos r2, if_pos r3, q2]
      refine (ob_t rfl).trans ?_
      exact gd_t (b1_in q3)
    by_cases hb : b = 0
    · rw [if_pos hb] at e86 eM
      have fU : Fx [] [0, 1, 28] T1 (((T1.f 36 28 0).f 36 0 2).f 36 1 (T1.F 36 1)) := ((Fx.f _ (by decide) _).trans (Fx.f _ (by decide) _)).trans (Fx.f _ (by decide) _)
      refine c212_err (Sx := S1) (k := 3) (x1.fx fU (by decide) (by decide)) (c1.mm rfl rfl) (b61.fx (fU.F (by decide)) rfl) (by decide) (by decide) (by decide) e86 eM ?_ ?_ ?_ caS (fTb.trans (fU.mono (by decide) (by decide))) f11 fS.1 fS.2.1 (by rw [f13]) (by rw [f0])
      · rw [f_F it1, if_pos rfl, if_neg (by decide), f_F (by decide), if_pos rfl, if_pos rfl]
        rfl
      · rw [f_F it1, if_pos rfl, if_pos rfl, t1]
      · rw [fU.F (by decide), t2]
    · have gh := q4 (q3.resolve_left hb)
      rw [if_neg hb] at e86 eM
      have fU : Fx [] [0, 1, 28] T1 (((T1.f 36 28 0).f 36 0 0).f 36 1 (T1.F 36 1)) := ((Fx.f _ (by decide) _).trans (Fx.f _ (by decide) _)).trans (Fx.f _ (by decide) _)
      have u0 : (((T1.f 36 28 0).f 36 0 0).f 36 1 (T1.F 36 1)).F 36 0 = 0 := by rw [f_F it1, if_pos rfl, if_neg (by decide), f_F (by decide), if_pos rfl, if_pos rfl]
      have u1 : (((T1.f 36 28 0).f 36 0 0).f 36 1 (T1.F 36 1)).F 36 1 = T1.F 36 1 := by rw [f_F it1, if_pos rfl, if_pos rfl]
      exact claim_go fS f11 x1 f13 f0 c1 t2 t1 fTb caS b61 r4 r5 r6 r7 r8 r9 xB gh i1 i3 fU u0 u1 e86 eM
theorem claim_ok {S : St} {j : Nat} {v1 v2 v3 v4 : Int} (i1 : inR v1) (i2 : inR v2) (i3 : inR v3) (i4 : inR v4) (h : Rel S) (hr : Room j S) : LW j (g170 S v1 v2 v3 v4) (fun T => g158 T v1 v2 v3 v4) := by
  refine LW.sim (m := 3) (κ := kap) (cf := fun S => g86 S v1 v2 v3 v4) h hr (fun k w S' e hk => ?_) (fun k hk => ?_) (fun T hT => claim_sim h hT i1 i2 i3 i4)
  · have e : g86 S v1 v2 v3 v4 = some (k, w, S') := e
    unfold g170
    rw [e]
    refine (ob_t rfl).trans ?_
    match k, hk with
    | 0, _ => rfl
    | 1, _ => rfl
    | 2, _ => rfl
    | 3, _ => rfl
  · match k, hk with
    | 0, _ => exact ⟨by decide, fun e => absurd rfl e⟩
    | 1, _ => exact ⟨by decide, fun _ => by decide⟩
    | 2, _ => exact ⟨by decide, fun _ => by decide⟩
    | 3, _ => exact ⟨by decide, fun _ => by decide⟩
