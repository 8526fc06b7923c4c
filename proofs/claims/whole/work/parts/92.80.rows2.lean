theorem ND_in {S : St} {L : List (List Int)} : ∀ (f : Nat) (i : Int) (R : List (List Int)), ND S L f i R → ∀ r : Int, 0 ≤ r → r < R.length → ∀ x ∈ lt R r, 0 ≤ x ∧ x < L.length
  | 0, _, _, h => absurd h id
  | f + 1, i, R, h => by
    intro r r0 r1 x hx
    obtain ⟨b1, b2, b3, b4, b5, b6⟩ := h
    rcases b6 with ⟨c1, l, c2, c3, c4, c5, c6⟩ | ⟨R1, R2, c1, c2, c3⟩
    · subst c4
      have r1 : r < ((1 : Nat) : Int) := r1
      rw [show r = 0 by omega] at hx
      have hx : x ∈ [l] := hx
      rw [List.mem_singleton.mp hx]
      exact ⟨c2, c3⟩
    · rcases c3 with ⟨_, e⟩ | ⟨_, e⟩
      · subst e
        rw [prd_len] at r1
        have dm := dm_lt (k := r) (n1 := R1.length) (n2 := R2.length) r0 (by rw [← Int.natCast_mul]; exact r1) (by omega) (by omega)
        rw [prd_at r0 r1] at hx
        rcases List.mem_append.mp hx with hx | hx
        · exact ND_in f _ _ c1 _ dm.2.1 dm.2.2.1 x hx
        · exact ND_in f _ _ c2 _ dm.2.2.2.1 dm.2.2.2.2 x hx
      · subst e
        rw [List.length_append] at r1
        by_cases hr : r < R1.length
        · rw [lt_l r0 hr] at hx
          exact ND_in f _ _ c1 r r0 hr x hx
        · rw [lt_r (by omega)] at hx
          exact ND_in f _ _ c2 _ (by omega) (by omega) x hx
/-- a clause made is taken in -/
theorem draw_k {S T S1 T1 : St} {k1 k2 k3 k4 k5 : Int} (h : X2 S T) (d : DW S T S1 T1 1) (hk : (k1 = 0 ∧ k2 = -1 ∧ k4 = -1) ∨ (0 < k1 ∧ k1 ≤ 2 ∧ 0 ≤ k2 ∧ k2 < S.F 13 1 ∧ 0 ≤ k4 ∧ k4 < S.F 13 1)) (i3 : inR k3) (i5 : inR k5) : ∃ x S' T', g49 S1 k1 k2 k3 k4 k5 = some S' ∧ g118 T1 k1 k2 k3 k4 k5 = some (x, T') ∧ b1R x ∧ TJ S T S' T' ∧ S'.F 13 1 = S.F 13 1 + x ∧ ∀ c ∈ [46, 47, 58, 59, 60, 61], T'.A c = T1.A c := by
  have j0 := draw_0 h d
  obtain ⟨_, f1, f2, d3⟩ := d
  obtain ⟨r, T2, r1, r2, r3, r4⟩ := d3 rfl
  have e13 : S1.F 13 = S.F 13 := f1.F (by decide)
  obtain ⟨x, S', T', t1, t2, t3, t4, t5, t6, t7, t8, t9, t10, t11, t12, t13, t14⟩ := takeIn_sim (k1 := k1) (k2 := k2) (k3 := k3) (k4 := k4) (k5 := k5) r1 (j0.1.m119 r3 r4) (df_of r2) (by rw [e13]; exact hk) i3 i5
  have e43 : T2.A 43 = T1.A 43 := r3.A (by decide)
  have jx : TJ S1 T1 S' T' := by
    refine ⟨t4, t5.CFr, (r3.MFr (by decide)).trans t6.MFr, ?_, t8, t9, t14, fun k hk => (t10 k hk).trans (by rw [e43]), fun k h1 h2 => ?_, ?_, ?_⟩
    · rcases t3 with e | e <;> omega
    · rcases t3 with e | e
      · omega
      · rw [show k = S1.F 13 1 by omega]
        exact t11 e
    · rw [t7]; omega
    · rw [t7]; omega
  refine ⟨x, S', T', t1, t2, t3, j0.trans jx, by rw [t7, e13], fun c hc => ?_⟩
  have ec : T'.A c = T2.A c := by
    funext i
    show (T'.A0 c i).toInt = (T2.A0 c i).toInt
    rw [(t6.2.2.2.1 c (fun e => by
      have : ∀ d ∈ [46, 47, 58, 59, 60, 61], d ∉ [36, 38, 39, 40, 41, 42, 43, 44, 45, 62, 63] := by decide
      exact this c hc e)).2.1]
  rw [ec]
  exact r3.A (fun e => by
    have : ∀ d ∈ [46, 47, 58, 59, 60, 61], d ∉ [38, 39, 40, 41, 42, 64, 65] := by decide
    exact this c hc e)
/-- what the rows are read from -/
def RF (S T : St) (L R : List (List Int)) (root : Int) : Prop := ND S L 11 root R ∧ sml R ∧ S.F 3 5 ≤ 160 ∧ S.F 3 7 ≤ 1280 ∧ L.length ≤ 100 ∧ MR (T.A 58) (T.A 59) 0 R ∧ ∃ (nu : Int → List Int) (uc nn top : Int) (k : Nat) (cd num : Int → Int), nn ≤ 128 ∧ top ≤ 1024 ∧ GQ (T.A 46) (T.A 47) (T.A 60) (T.A 61) nu uc nn top k cd num L
theorem RF.next {S T S' T' : St} {L R : List (List Int)} {root : Int} (h : RF S T L R root) (hc : CFr S S') (hA : ∀ c ∈ [46, 47, 58, 59, 60, 61], T'.A c = T.A c) : RF S' T' L R root := by
  obtain ⟨h1, h2, h3, h4, h5, h6, h7⟩ := h
  have f3 : S'.F 3 = S.F 3 := hc.F (by decide)
  have tg : TG S S' := TG.same f3 (fun c c4 c9 => hc.A (fun hm => by
    have : ∀ d ∈ cfl, 9 < d := by decide
    have := this c hm
    omega))
  have nd := ND.mono (M := []) tg _ _ _ h1
  rw [List.append_nil] at nd
  refine ⟨nd, h2, by rw [f3]; exact h3, by rw [f3]; exact h4, h5, by rw [hA 58 (by decide), hA 59 (by decide)]; exact h6, ?_⟩
  rw [hA 46 (by decide), hA 47 (by decide), hA 60 (by decide), hA 61 (by decide)]
  exact h7
set_option maxHeartbeats 1000000 in
theorem row_step {S T : St} {L R : List (List Int)} {root r v2 v3 : Int} (h : X2 S T) (hR : RF S T L R root) (r0 : 0 ≤ r) (r1 : r < R.length) : ∃ S3 S4 T1 T3 x, g40_15 S root r = some S3 ∧ g49 S3 0 (-1) (-1) (-1) (-1) = some S4 ∧ g98L151 v2 v3 r FU 0 (T.f 36 24 (T.A 58 r)) = some T1 ∧ g118 T1 0 (-1) (-1) (-1) (-1) = some (x, T3) ∧ b1R x ∧ S4.F 13 1 = S.F 13 1 + x ∧ TJ S T S4 T3 ∧ RF S4 T3 L R root := by
  have hR' := hR
  obtain ⟨nd, hs, n5, n7, lL, hMR, nu, uc, nn, top, k, cd, num, hn, ht, hG⟩ := hR
  obtain ⟨rr, hri, hNU, hlit⟩ := hG.wr hn ht
  have hrow := hMR r r0 r1
  rw [Int.zero_add] at hrow
  have l16 := hs.1
  have l8 := hs.2 r r0 r1
  have hin := ND_in 11 _ _ nd r r0 r1
  -- the first object
  obtain ⟨S1, a1, a2, a3⟩ := begin_15 S
  have tg : TG S S1 := TG.same (a2.F (by decide)) (fun c h4 h9 => a2.A (fun hm => by
    have : ∀ d ∈ [15, 16, 17, 18], 9 < d := by decide
    have := this c hm
    omega))
  have nd1 := ND.mono (M := []) tg _ _ _ nd
  rw [List.append_nil] at nd1
  obtain ⟨S2, b1, b2, b3⟩ := g42_t (L := L) (fun l l0 l1 => by
    obtain ⟨li, _⟩ := hlit l l0 l1
    refine ⟨li.1, fun x hx => ?_⟩
    obtain ⟨i, i0, i1, e⟩ := mem_gI hx
    have := (li.2.2.2.1 i i0 i1).1
    rw [e] at this
    unfold vx at this
    omega) 11 64 root r 0 S1 R (some []) (by decide) (by decide) (by decide) nd1 hs r0 r1 (by rw [a2.F (by decide)]; exact n5) (by rw [a2.F (by decide)]; exact n7) a3
  obtain ⟨S3, c1, c2⟩ := CPan_15 b3
  have fS : Fr [15, 16, 17, 18, 19, 21, 22] S S3 := ((a2.trans b2).mono (by decide)).trans (c2.mono (by decide))
  have e40 : g40_15 S root r = some S3 := by
    unfold g40_15
    rw [a1]
    refine (ob_t rfl).trans ?_
    rw [b1]
    refine (ob_t rfl).trans ?_
    rw [c1]
    rfl
  -- the second
  have i24 : inR (T.A 58 r) := inR_to _
  have f24 : (T.f 36 24 (T.A 58 r)).F 36 24 = (lt R r).length := by rw [f_F i24, if_pos rfl, if_pos rfl]; exact hrow.1
  obtain ⟨T1, d1, d2, d3, d4⟩ := g98L_t (v2 := v2) (v3 := v3) (v4 := r) (w := lt R r) r0 (by omega) l8 (lt R r).length FU 0 (T.f 36 24 (T.A 58 r)) (by omega) (by omega) f24 (fun j j0 j1 => by
    have m := hin _ (gI_mem j0 j1)
    refine ⟨hrow.2 j j0 j1, m.1, by omega, ?_⟩
    show b1R (T.A 61 (gI (lt R r) j))
    rw [(hlit _ m.1 m.2).2.1]
    exact dn_b _) (FU_gt (by omega))
  have mu : MU T T1 := (f24_MU T _).trans (d2.MU (by decide))
  have A1 : ∀ c, c ∉ [48, 49] → T1.A c = T.A c := fun c hc => by rw [d2.A hc, f_A]
  have F24 : T1.F 36 24 = (lt R r).length := by rw [d2.F (by decide)]; exact f24
  have ml : ((lt R r).map (lt L)).length = (lt R r).length := List.length_map ..
  obtain ⟨T2, m1, m2, m3⟩ := g119_t (V := VN nu) (T := T1) (ls := (lt R r).map (lt L)) hri (by rw [ml, F24]) (by rw [F24]; omega) (fun j j0 j1 => by
    rw [ml] at j1
    have m := hin _ (gI_mem j0 j1)
    obtain ⟨li, e61, x, E', n, q1, q2, q3, q4, q5, q6, q7, q8⟩ := hlit _ m.1 m.2
    have eL : lt ((lt R r).map (lt L)) j = lt L (gI (lt R r) j) := by
      unfold lt
      rw [List.getD_eq_getElem?_getD, List.getElem?_map, List.getElem?_eq_getElem (show j.toNat < (List.getD R r.toNat []).length by have : j < ((lt R r).length : Int) := j1; unfold lt at this; omega)]
      unfold gI
      rw [List.getD_eq_getElem?_getD (l := List.getD R r.toNat []), List.getElem?_eq_getElem (show j.toNat < (List.getD R r.toNat []).length by have : j < ((lt R r).length : Int) := j1; unfold lt at this; omega)]
      rfl
    have e4 := d4 j j0 j1
    rw [eL, e4.1, e4.2]
    have e60 : (T.f 36 24 (T.A 58 r)).A 60 = T.A 60 := rfl
    have e61' : (T.f 36 24 (T.A 58 r)).A 61 = T.A 61 := rfl
    rw [e60, e61']
    refine ⟨?_, fun _ => ⟨li, e61⟩⟩
    rw [q1]
    exact WR_lit (T0 := T1) q2 q3 (by rw [A1 46 (by decide)]; exact q4) (by rw [A1 46 (by decide)]; exact q5) (by rw [A1 46 (by decide)]; exact q6) (by rw [A1 46 (by decide), A1 47 (by decide)]; exact hNU) q7 q8)
  have dw : DW S T S3 T1 1 := by
    refine ⟨Or.inr rfl, fS, mu, fun _ => ?_⟩
    generalize ((lt R r).map (lt L)).foldl stp (some []) = m at *
    match m, b3, m3 with
    | none, b3, m3 => exact ⟨0, T2, m3, df2_15 (T := T1) b3 c1 rfl, m1, m2⟩
    | some b, b3, m3 => exact ⟨1, T2, m3.1, df2_15 (T := T1) b3 c1 ⟨rfl, m3.2⟩, m1, m2⟩
  obtain ⟨x, S4, T3, t1, t2, t3, t4, t5, t6⟩ := draw_k (k1 := 0) (k2 := -1) (k3 := -1) (k4 := -1) (k5 := -1) h dw (Or.inl ⟨rfl, rfl, rfl⟩) (by decide) (by decide)
  exact ⟨S3, S4, T1, T3, x, e40, t1, d1, t2, t3, t5, t4, hR'.next t4.2.1 (fun c hc => (t6 c hc).trans (A1 c (fun e => by
    have : ∀ d ∈ [46, 47, 58, 59, 60, 61], d ∉ [48, 49] := by decide
    exact this c hc e)))⟩
theorem rows_sim {L R : List (List Int)} {root : Int} (b0 : Int) : ∀ (r m m' : Nat) (v4 : Int) (S T : St), X2 S T → RF S T L R root → 0 ≤ v4 → v4 + r = R.length → r < m → r < m' → b0 ≤ S.F 13 1 → 0 ≤ b0 → ∃ S' T', g39L8 root b0 m v4 S = some S' ∧ g98L124 R.length m' (S.F 13 1 - b0) v4 T = some (S'.F 13 1 - b0, T') ∧ TJ S T S' T' := by
  intro r
  induction r with
  | zero =>
    intro m m' v4 S T h hR z0 hz hm hm' hb hb0
    obtain ⟨m, rfl⟩ : ∃ k, m = k + 1 := ⟨m - 1, by omega⟩
    obtain ⟨m', rfl⟩ : ∃ k, m' = k + 1 := ⟨m' - 1, by omega⟩
    obtain ⟨n1, n2, n3, n4, n5⟩ := ND_b hR.1
    have l16 := hR.2.1.1
    have n160 := hR.2.2.1
    refine ⟨S, T, ?_, ?_, TJ.refl h⟩
    · unfold g39L8
      refine (gd_t (by first | exact ⟨by omega, by omega⟩ | exact ⟨by omega, by omega, by omega⟩ | exact ⟨by omega, by omega, by omega, by omega⟩ | omega | exact inR_to _ | assumption | decide)).trans ?_
      refine (gd_t (by first | exact ⟨by omega, by omega⟩ | exact ⟨by omega, by omega, by omega⟩ | exact ⟨by omega, by omega, by omega, by omega⟩ | omega | exact inR_to _ | assumption | decide)).trans ?_
      rw [n3, if_neg (by omega)]
    · unfold g98L124
      refine (gd_t (by first | exact ⟨by omega, by omega⟩ | exact ⟨by omega, by omega, by omega⟩ | exact ⟨by omega, by omega, by omega, by omega⟩ | omega | exact inR_to _ | assumption | decide)).trans ?_
      refine (gd_t (by first | exact ⟨by omega, by omega⟩ | exact ⟨by omega, by omega, by omega⟩ | exact ⟨by omega, by omega, by omega, by omega⟩ | omega | exact inR_to _ | assumption | decide)).trans ?_
      rw [if_neg (by omega)]
  | succ r ih =>
    intro m m' v4 S T h hR z0 hz hm hm' hb hb0
    obtain ⟨m, rfl⟩ : ∃ k, m = k + 1 := ⟨m - 1, by omega⟩
    obtain ⟨m', rfl⟩ : ∃ k, m' = k + 1 := ⟨m' - 1, by omega⟩
    obtain ⟨n1, n2, n3, n4, n5⟩ := ND_b hR.1
    have l16 := hR.2.1.1
    have n160 := hR.2.2.1
    have b2 := h.2.1.2.1
    have x9 : T.F 36 15 = S.F 13 8 := h.1.2.2.2.2.2.2.2.2
    obtain ⟨S3, S4, T1, T3, x, a1, a2, a3, a4, a5, a6, a7, a8⟩ := row_step (v2 := R.length) (v3 := S.F 13 1 - b0) h hR z0 (by omega)
    by_cases hf : S.F 13 8 = 0
    · obtain ⟨S5, T5, q1, q2, q3⟩ := ih m m' (v4 + 1) S4 T3 a7.1 a8 (by omega) (by omega) (by omega) (by omega) (by have := a7.2.2.2.1; omega) hb0
      refine ⟨S5, T5, ?_, ?_, a7.trans q3⟩
      · rw [g39L8]
        refine (gd_t (by first | exact ⟨by omega, by omega⟩ | exact ⟨by omega, by omega, by omega⟩ | exact ⟨by omega, by omega, by omega, by omega⟩ | omega | exact inR_to _ | assumption | decide)).trans ?_
        refine (gd_t (by first | exact ⟨by omega, by omega⟩ | exact ⟨by omega, by omega, by omega⟩ | exact ⟨by omega, by omega, by omega, by omega⟩ | omega | exact inR_to _ | assumption | decide)).trans ?_
        rw [n3, if_pos (by omega), if_pos hf, a1]
        refine (ob_t rfl).trans ?_
        rw [a2]
        exact q1
      · rw [g98L124]
        refine (gd_t (by first | exact ⟨by omega, by omega⟩ | exact ⟨by omega, by omega, by omega⟩ | exact ⟨by omega, by omega, by omega, by omega⟩ | omega | exact inR_to _ | assumption | decide)).trans ?_
        refine (gd_t (by first | exact ⟨by omega, by omega⟩ | exact ⟨by omega, by omega, by omega⟩ | exact ⟨by omega, by omega, by omega, by omega⟩ | omega | exact inR_to _ | assumption | decide)).trans ?_
        rw [if_pos (by omega), if_pos (by rw [x9]; exact hf)]
        refine (gd_t (by first | exact ⟨by omega, by omega⟩ | exact ⟨by omega, by omega, by omega⟩ | exact ⟨by omega, by omega, by omega, by omega⟩ | omega | exact inR_to _ | assumption | decide)).trans ?_
        rw [a3]
        refine (ob_t rfl).trans ?_
        rw [a4]
        refine (ob_t rfl).trans ?_
        show gd (inR x) _ = _
        refine (gd_t (by rcases a5 with e | e <;> (rw [e]; decide))).trans ?_
        show (if x = 0 then g98L124 R.length m' (S.F 13 1 - b0) (v4 + 1) T3 else g98L124 R.length m' (S.F 13 1 - b0 + 1) (v4 + 1) T3) = _
        rcases a5 with e | e
        · rw [if_pos e]
          rw [a6, e, Int.add_zero] at q2
          exact q2
        · rw [if_neg (by omega)]
          rw [a6, e, show S.F 13 1 + 1 - b0 = S.F 13 1 - b0 + 1 by omega] at q2
          exact q2
    · refine ⟨S, T, ?_, ?_, TJ.refl h⟩
      · rw [g39L8]
        refine (gd_t (by first | exact ⟨by omega, by omega⟩ | exact ⟨by omega, by omega, by omega⟩ | exact ⟨by omega, by omega, by omega, by omega⟩ | omega | exact inR_to _ | assumption | decide)).trans ?_
        refine (gd_t (by first | exact ⟨by omega, by omega⟩ | exact ⟨by omega, by omega, by omega⟩ | exact ⟨by omega, by omega, by omega, by omega⟩ | omega | exact inR_to _ | assumption | decide)).trans ?_
        rw [n3, if_pos (by omega), if_neg hf]
      · rw [g98L124]
        refine (gd_t (by first | exact ⟨by omega, by omega⟩ | exact ⟨by omega, by omega, by omega⟩ | exact ⟨by omega, by omega, by omega, by omega⟩ | omega | exact inR_to _ | assumption | decide)).trans ?_
        refine (gd_t (by first | exact ⟨by omega, by omega⟩ | exact ⟨by omega, by omega, by omega⟩ | exact ⟨by omega, by omega, by omega, by omega⟩ | omega | exact inR_to _ | assumption | decide)).trans ?_
        rw [if_pos (by omega), if_neg (by rw [x9]; exact hf)]
