/-- the names of a formula, and that none is made -/
def EMg (k : Nat) (nm nu : Int → Int) (n34 : Int) (a52 : Int → Int) (T : St) (N : List Int) : Prop := EMf k nm nu T N ∧ T.F 36 34 = n34 ∧ T.A 52 = a52
theorem HEM_g {k : Nat} {nm nu : Int → Int} {n34 : Int} {a52 : Int → Int} : HEM (EMg k nm nu n34 a52) := by
  intro T T' N hA hF h
  refine ⟨HEM_f T T' N hA hF h.1, by rw [hF.2.2]; exact h.2.1, by rw [hA.2.2]; exact h.2.2⟩
theorem HVm_g {tx : Int → Int} {len : Int} {k : Nat} {nm cd nu : Int → Int} {n34 : Int} {a52 : Int → Int} (hQ : QX tx len) : HVm tx len (vrF k nm cd nu) (EMg k nm nu n34 a52) := by
  intro T pos n p N h hE hn
  have l160 := hQ.2.1
  have a5 := h.2.2.2.2.1
  have a8 := h.2.2.2.2.2.2.2
  have np := nmr_p hQ a5 (by decide) hn
  obtain ⟨T1, t1, t2, t3⟩ := g109_t hQ h (by decide) hn
  have hE1 : EMg k nm nu n34 a52 T1 N := HEM_g.p t3 hE
  have hE1' := hE1
  obtain ⟨⟨m1, m2, m3, m4⟩, _, _⟩ := hE1
  have f22 : T1.F 36 22 = T.F 36 22 := t3.2.2 22 (by decide)
  have iname : inR (nmq 120 n) := by unfold nmq; exact ⟨by omega, by omega⟩
  have eli : lix (T1.A 50) (nmq 120 n) k = lix nm n k := lix_c _ (fun i hi => by
    obtain ⟨c1, c2, c3, c4, c5, c6⟩ := m4 i (by omega) (by omega)
    rw [c1]
    exact nmq_inj c3 c4 (by omega) (by omega))
  have lr := lix_r nm n k
  have el : g108L15 T1 (T.F 36 27) (nmq 120 n) FU (-1) 0 = some (lv (T1.A 50) (T1.A 51) (nmq 120 n) k) := by
    have := g108L15_t (T := T1) (v1 := T.F 36 27) (n := nmq 120 n) iname (K := k) m2 (by omega) k FU 0 (by omega) (FU_gt (by omega))
    exact this
  have e0 : g108 T = ob (some (lv (T1.A 50) (T1.A 51) (nmq 120 n) k)) (fun o8 => gd (inR o8) (if o8 < 0 then if (T1.F 36 29) = 0 then some ((T1.f 36 28 1).f 36 27 (T.F 36 27)) else ob (g110 T1 (nmq 120 n)) (fun o15 => ob (g105 o15.2 o15.1) (fun o17 => some o17)) else ob (g105 T1 o8) (fun o19 => some o19))) := by
    unfold g108
    rw [t1]
    refine (ob_t rfl).trans ?_
    rw [el]
  show match (if lix nm n k < 0 then none else some (cds cd (lix nm n k).toNat, nu (lix nm n k), N) : Option (List Int × Int × List Int)) with
    | some (_, c, N') => ∃ T', g108 T = some T' ∧ RM tx len T' p ∧ T'.F 36 22 = T.F 36 22 + 1 ∧ T'.A 46 = lay (T.A 46) (T.F 36 22) [c] ∧ EMg k nm nu n34 a52 T' N' ∧ FTM T T' ∧ T'.A 53 = T.A 53
    | none => ∃ T', g108 T = some T' ∧ T'.F 36 28 = 1 ∧ T'.F 36 27 = pos ∧ FTM T T'
  by_cases hl : lix nm n k < 0
  · rw [if_pos hl]
    have elv : lv (T1.A 50) (T1.A 51) (nmq 120 n) k = -1 := by
      unfold lv
      rw [eli, if_pos hl]
    have iP : inR (T.F 36 27) := inR_to _
    refine ⟨(T1.f 36 28 1).f 36 27 (T.F 36 27), ?_, ?_, ?_, t3.2.1.trans ((f_FTM _ (by decide) _).trans (f_FTM _ (by decide) _))⟩
    · rw [e0, elv]
      refine (ob_t rfl).trans ?_
      refine (gd_t (by first | exact ⟨by omega, by omega⟩ | exact ⟨by omega, by omega, by omega⟩ | exact ⟨by omega, by omega, by omega, by omega⟩ | omega | exact inR_to _ | assumption | decide)).trans ?_
      rw [if_pos (by decide), if_pos m1]
    · rw [f_F iP, if_pos rfl, if_neg (by decide), f_F (by decide), if_pos rfl, if_pos rfl]
    · rw [f_F iP, if_pos rfl, if_pos rfl]
      exact h.2.1
  · rw [if_neg hl]
    obtain ⟨i, hi⟩ : ∃ i : Nat, lix nm n k = i := ⟨(lix nm n k).toNat, by omega⟩
    rw [hi] at eli lr ⊢
    obtain ⟨c1, c2, c3, c4, c5, c6⟩ := m4 i (by omega) (by omega)
    have elv : lv (T1.A 50) (T1.A 51) (nmq 120 n) k = nu i := by
      unfold lv
      rw [eli, if_neg (by omega), c2]
    obtain ⟨T3, u1, u2, u3, u4, u5, u6, u7⟩ := g105_t (c := nu i) t2 ⟨by omega, by omega⟩ (by rw [f22]; omega) l160
    refine ⟨T3, ?_, u2, u3.trans (by rw [f22]), ?_, HEM_g T1 T3 N ⟨u6 50 (by decide), u6 51 (by decide), u6 52 (by decide)⟩ ⟨u7 29 (by decide), u7 30 (by decide), u7 34 (by decide)⟩ hE1', t3.2.1.trans u5, ?_⟩
    · rw [e0, elv]
      refine (ob_t rfl).trans ?_
      refine (gd_t (by first | exact ⟨by omega, by omega⟩ | exact ⟨by omega, by omega, by omega⟩ | exact ⟨by omega, by omega, by omega, by omega⟩ | omega | exact inR_to _ | assumption | decide)).trans ?_
      rw [if_neg (by omega), u1]
      rfl
    · rw [u4, f22, t3.1]
    · rw [u6 53 (by decide), t3.1]
/-- both have gone wrong -/
def PB (len : Int) (S T : St) (v d : Int) (g : Option (Int × St)) : Prop := ∃ (x : Int) (S' T' : St) (K : Nat), g = some (-1, S') ∧ S'.F 1 3 = x ∧ 0 ≤ x ∧ (x ≤ len ∧ (K : Int) + S.F 1 4 ≤ len + 2) ∧ FP S S' ∧ (∀ (n : Nat) (v4 : Int), ∃ w, g101L10 (n + K) v d v4 1 T = some (w, T')) ∧ T'.F 36 28 = 1 ∧ T'.F 36 27 = x ∧ Fx mX mY T T'
/-- both have read a part -/
def PG (tx : Int → Int) (len : Int) (S T : St) (pos v : Int) (d q k e : Nat) (nm cd num : Int → Int) (L : List (List Int)) (g : Option (Int × St)) : Prop := ∃ (i : Int) (S' T' : St) (pos' : Int) (K : Nat) (M R : List (List Int)), g = some (i, S') ∧ (∀ (n : Nat) (v4 : Int), g101L10 (n + K) v d v4 1 T = CLs n d T') ∧ (pos < pos' ∧ (K : Int) + pos ≤ pos') ∧ FQ tx len S' T' pos' d (q + 1) k nm cd num (L ++ M) ∧ TG S S' ∧ FP S S' ∧ Fx mX mY T T' ∧ (∀ z : Int, z < d → T'.A 54 z = T.A 54 z ∧ T'.A 55 z = T.A 55 z ∧ T'.A 56 z = T.A 56 z ∧ T'.A 57 z = T.A 57 z) ∧ (T'.F 36 36 = 0 → RLo (T.F 36 43) T T') ∧ ND S' (L ++ M) (e + 1) i R ∧ S'.A 8 i ≤ M.length ∧ CU T' (T.F 36 43) R ∧ (T'.F 36 36 = 1 → T.F 36 36 = 1 ∨ ¬ sml R ∨ 99 < S'.F 1 10) ∧ (T'.F 36 36 = 0 → T.F 36 36 = 0) ∧ S.F 1 10 ≤ S'.F 1 10
theorem ND_le {S : St} {L : List (List Int)} {f : Nat} {i : Int} {R : List (List Int)} (h : ND S L f i R) : ∀ m : Nat, ND S L (f + m) i R
  | 0 => h
  | m + 1 => ND.up _ _ _ (ND_le h m)
theorem FLM.mx {T T' : St} (h : FLM T T') : Fx mX mY T T' := ⟨h.1, h.2.1, h.2.2.1, fun c hc h3 => h.2.2.2.1 c (fun e => by
  have : ∀ d ∈ [36, 46, 50, 51, 52, 53, 60, 61], d ∈ mX ∨ d = 36 := by decide
  rcases this c e with e | e
  · exact hc e
  · exact h3 e), h.2.2.2.2.1, fun i hi => h.2.2.2.2.2 i (fun e => hi (by
  have : ∀ d ∈ [22, 27, 28, 30, 34, 46], d ∈ mY := by decide
  exact this i e))⟩
set_option maxHeartbeats 2000000 in
theorem leaf_sim {tx : Int → Int} {len pos v : Int} {S T : St} {d q k e : Nat} {nm cd num : Int → Int} {L : List (List Int)} {rc : St → Int → Int → Option (Int × St)} (hQ : QX tx len) (h : FQ tx len S T pos d q k nm cd num L) (hq : q ≤ d) (hd : d ≤ 10) (hv : b1R v) (hS : T.F 36 36 = 0 → SI T d (T.F 36 43)) (hl : 65 ≤ tx pos ∧ tx pos ≤ 90) : PB len S T v d (g22b rc S v d) ∨ PG tx len S T pos v d q k e nm cd num L (g22b rc S v d) := by
  obtain ⟨⟨h1, h2⟩, ⟨h3, h4, h5⟩, ⟨n1, n2, n3, n4, n5, n6, n7, n8⟩, ⟨l1, l2, l3⟩, ⟨t1, t2, t3, t4, t5⟩, ⟨g1, g2⟩, g3⟩ := h
  have l160 := hQ.2.1
  have p0 := h1.2.2.2.2.1
  have p1 := h1.2.2.2.2.2
  have pl := (hQ.r p0).2.2 (by omega)
  have top0 := h2.2.2.2.2.2.2.1
  have hc := g24_t (vr := vrF k nm cd num) (cl := false) (N := []) hQ (HV_f hQ) (fun S S' f h => ECf.ft f h) (fun S h => h.1) h1 h3 hv
  have hm := g103_t (vr := vrF k nm cd num) (cl := false) (N := []) hQ (HVm_g (n34 := T.F 36 34) (a52 := T.A 52) hQ) HEM_g (fun T N h => h.1.1) h2 ⟨h4, rfl, rfl⟩ hv (by omega) (by omega) (by omega)
  have hcc := sA_c (cl := false) (vr := vrF k nm cd num) (v := v) (N := []) hQ p0
  rw [g22_let hQ h1 hl]
  have eL := fun n v4 => L10_let (v := v) (d := (d : Int)) (v4 := v4) (n := n) hQ h2 hl
  cases er : sA tx false (vrF k nm cd num) v pos [] with
  | inl x =>
    rw [er] at hc hm
    obtain ⟨c1, c2, S1, c3, c4, c5⟩ := hc
    obtain ⟨T1, m1, m2, m3, m4, _⟩ := hm
    have f36 : T1.F 36 36 = T.F 36 36 := m4.F (by decide)
    have f43 : T1.F 36 43 = T.F 36 43 := m4.F (by decide)
    have w28 : (T1.f 36 42 0).F 36 28 = 1 := by rw [f_F (by decide), if_pos rfl, if_neg (by decide)]; exact m2
    have w36 : (T1.f 36 42 0).F 36 36 = T.F 36 36 := by rw [f_F (by decide), if_pos rfl, if_neg (by decide)]; exact f36
    obtain ⟨w, T2, q1, q2, q3, q4⟩ := CLs_bad (T := T1.f 36 42 0) (j := d) (top := T.F 36 43) (R := []) hd w28 (by rw [w36]; exact l2) (fun h0 => by
      rw [w36] at h0
      refine ⟨SI.fr d _ (hS h0) (fun i _ => by rw [f_A, m4.A (by decide), m4.A (show 55 ∉ [36, 46, 50, 51, 52, 53, 60, 61] by decide), m4.A (show 56 ∉ [36, 46, 50, 51, 52, 53, 60, 61] by decide), m4.A (show 57 ∉ [36, 46, 50, 51, 52, 53, 60, 61] by decide)]; exact ⟨rfl, rfl, rfl, rfl⟩) ⟨fun i _ => by rw [f_A, m4.A (by decide)], fun i _ => by rw [f_A, m4.A (by decide)]⟩, fun _ => ⟨⟨by show 0 ≤ 16; omega, fun i i0 i1 => absurd i1 (by show ¬ i < ((0 : Nat) : Int); omega)⟩, by rw [f_F (by decide), if_pos rfl, if_pos rfl]; rfl, by rw [f_F (by decide), if_pos rfl, if_neg (by decide), f43]; exact (Int.add_zero _).symm, fun i i0 i1 => absurd i1 (by show ¬ i < ((0 : Nat) : Int); omega)⟩⟩)
    refine Or.inl ⟨x, S1, T2, 2, ?_, c4, c1, ⟨c2, by have := h1.2.1; omega⟩, c5.FP, fun n v4 => ⟨w, ?_⟩, q2, ?_, (m4.mx.trans (Fx.f _ (by decide) _)).trans (q4.mono (by decide) (by decide))⟩
    · rw [c3]
      refine (ob_t rfl).trans ?_
      exact if_neg (by rw [c4]; omega)
    · rw [eL (n + 1) v4, m1]
      refine (ob_t rfl).trans ?_
      rw [if_neg (show ¬ T1.F 36 28 = 0 by rw [m2]; decide)]
      rw [q1 n]
      split <;> rfl
    · rw [q3, f_F (by decide), if_pos rfl, if_neg (by decide)]
      exact m3
  | inr a =>
    obtain ⟨p, E, C, N'⟩ := a
    rw [er] at hc hm hcc
    obtain ⟨c1, c2, S1, c3, c4, c5⟩ := hc
    obtain ⟨T1, m1, m2, m3, m4, m5, m6, m7, m8, m9⟩ := hm
    have hcc : (C.length : Int) ≤ p - pos := hcc
    have s35 : S1.F 3 = S.F 3 := by
      funext i
      show (S1.F0 3 i).toInt = (S.F0 3 i).toInt
      rw [(c5.2.2.2.1 3 (by decide)).1]
    have sF1 : ∀ i, i ∉ [3, 4, 12] → S1.F 1 i = S.F 1 i := fun i hi => c5.F hi
    have lL : (L.length : Int) ≤ 79 := by omega
    obtain ⟨S2, u1, u2, u3, u4, u5, u6⟩ := leaf_t (L := L) c4 l160 (by rw [s35]; exact t1) (by rw [s35]; omega) (by rw [s35]; exact t4) (by rw [s35]; omega)
    rw [s35] at u1 u4 u5 u6
    have x1 : ∀ i, S2.F 1 i = S1.F 1 i := fun i => by rw [u2.F (by decide)]
    have tg : TG S S2 := (TG.same s35 (fun c c4' c9 => c5.A (fun hm => by
      have h9 : ∀ d ∈ [1, 12], d < 4 ∨ 9 < d := by decide
      have := h9 c hm
      omega))).trans u3
    have f36 : T1.F 36 36 = T.F 36 36 := m9.F (by decide)
    have f43 : T1.F 36 43 = T.F 36 43 := m9.F (by decide)
    have f34 : T1.F 36 34 = T.F 36 34 := m5.2.1
    have f52 : T1.A 52 = T.A 52 := m5.2.2
    have f35 : T1.F 36 35 = T.F 36 35 := m9.F (by decide)
    have f47 : T1.A 47 = T.A 47 := m9.A (by decide)
    rw [l1] at m6 m7 m8
    -- the world behind
    have fq : FQ tx len S2 T1 p d (q + 1) k nm cd num (L ++ [E]) := by
      have lE : ((L ++ [E]).length : Int) = L.length + 1 := by rw [List.length_append]; rfl
      unfold FQ
      rw [f35, f34, m3, m6, f36, f47, x1 10, x1 9, sF1 10 (by decide), sF1 9 (by decide), u4, lE]
      refine ⟨⟨⟨by rw [x1 1]; exact c4.1, by rw [x1 4]; exact c4.2.1, by rw [x1 3]; exact c4.2.2.1, by rw [u2.A (by decide)]; exact c4.2.2.2.1, c4.2.2.2.2.1, c4.2.2.2.2.2.1⟩, m2⟩, ⟨?_, m5.1, fun i i0 i1 => by rw [f52]; exact h5 i i0 i1⟩, ⟨n1, n2, by omega, n4, by omega, n6, by omega, by omega⟩, ⟨rfl, l2, l3⟩, ⟨by omega, by omega, by omega, by have := u3.2.1; rw [s35] at this; omega, by omega⟩, ⟨g1, g2⟩, fun hf => ?_⟩
      · have := ECf.ft c5 h3
        unfold ECf at this ⊢
        rw [x1 5, x1 8, u2.A (by decide), u2.A (show 11 ∉ [3, 4, 5, 6, 7, 8, 9] by decide)]
        exact this
      · obtain ⟨nu, hG⟩ := g3 hf
        have hg := sA_g (cl := false) (v := v) (N := []) hQ (hG.HG (nm := nm) (fun i hi => by
          have := h4.2.2.2 i (by omega) (by omega)
          exact ⟨this.2.2.2.2.1, this.2.2.2.2.2⟩)) p0 p1 hv
        rw [er] at hg
        obtain ⟨_, hg⟩ := hg
        obtain ⟨_, hLG⟩ := hg trivial
        have hdn : dn (gI E 0) = v := by
          have hA : ∃ k E', E = (ph (tx pos) v + k) :: E' ∧ 0 ≤ k ∧ k < 128 := by
            unfold sA at er
            rw [if_pos hl] at er
            by_cases h40 : tx (pos + 1) = 40
            · rw [if_pos h40] at er
              have pl1 := (hQ.r (p := pos + 1) (by omega)).2.2 (by omega)
              have hp := sB_p (cl := false) (vr := vrF k nm cd num) hQ 15 0 (pos + 1) [] (by decide) (by decide) (by omega) pl1
              cases eb : sB tx false (vrF k nm cd num) 15 0 (pos + 1) [] with
              | inl z => rw [eb] at er; cases er
              | inr b =>
                obtain ⟨p', k', E', C', N2⟩ := b
                rw [eb] at er hp
                obtain ⟨r1, r2, r3⟩ := hp
                cases er
                exact ⟨k', E', rfl, by omega, by omega⟩
            · rw [if_neg h40] at er
              cases er
              exact ⟨0, [], by rw [Int.add_zero], by omega, by omega⟩
          obtain ⟨kk, E', eE, k0, k1⟩ := hA
          rw [eE, gI_c0]
          unfold dn ph
          rcases hv with e | e <;> (rw [e]; omega)
        exact ⟨nu, hG.lit m4 m7 (by rw [m8, hdn]) rfl top0 hLG⟩
    have hcl : ob (g24 S v) (fun o92 => if (o92.F 1 3) = (-1) then g32 o92 12 (o92.F 1 12) else some ((-1), o92)) = some (S.F 3 5, S2) := by
      rw [c3]
      refine (ob_t rfl).trans ?_
      rw [if_pos c4.2.2.1]
      exact u1
    rw [hcl]
    have fp : FP S S2 := c5.FP.trans (u2.FP (by decide))
    have nd := ND_le u6 e
    rw [Nat.add_comm 1 e] at nd
    have a8 : S2.A 8 (S.F 3 5) ≤ 1 := by
      obtain ⟨_, _, _, _, mx⟩ := ND_b u6
      obtain ⟨_, i, i0, i1, ei⟩ := mx
      have i1 : i < ((1 : Nat) : Int) := i1
      rw [show i = 0 by omega] at ei
      have ei : ((1 : Nat) : Int) = S2.A 8 (S.F 3 5) := ei
      omega
    have sm : sml [[(L.length : Int)]] := ⟨by show 1 ≤ 16; omega, fun i i0 i1 => by
      have i1 : i < ((1 : Nat) : Int) := i1
      rw [show i = 0 by omega]
      show 1 ≤ 8
      omega⟩
    refine Or.inr ?_
    by_cases hf : T.F 36 36 = 0
    · have sle := SI_le d _ (hS hf)
      have e112 : g112 T1 (T1.F 36 46 - 1) = some (1, ((T1.a 58 (T.F 36 43) 1).a 59 (8 * T.F 36 43) (L.length : Int)).f 36 43 (T.F 36 43 + 1)) := by
        unfold g112
        rw [f43, m6]
        refine (gd_t (by first | exact ⟨by omega, by omega⟩ | exact ⟨by omega, by omega, by omega⟩ | exact ⟨by omega, by omega, by omega, by omega⟩ | omega | exact inR_to _ | assumption | decide)).trans ?_
        refine (gd_t (by first | exact ⟨by omega, by omega⟩ | exact ⟨by omega, by omega, by omega⟩ | exact ⟨by omega, by omega, by omega, by omega⟩ | omega | exact inR_to _ | assumption | decide)).trans ?_
        rw [show (L.length : Int) + 1 - 1 = L.length by omega]
      have i43 : inR (T.F 36 43 + 1) := ⟨by omega, by omega⟩
      have iL : inR (L.length : Int) := ⟨by omega, by omega⟩
      have eF : ∀ i, i ≠ 42 → i ≠ 43 → ((((T1.a 58 (T.F 36 43) 1).a 59 (8 * T.F 36 43) (L.length : Int)).f 36 43 (T.F 36 43 + 1)).f 36 42 1).F 36 i = T1.F 36 i := fun i h1 h2 => by rw [f_F (by decide), if_pos rfl, if_neg h1, f_F i43, if_pos rfl, if_neg h2, a_F, a_F]
      have eA : ∀ c, c ≠ 58 → c ≠ 59 → ((((T1.a 58 (T.F 36 43) 1).a 59 (8 * T.F 36 43) (L.length : Int)).f 36 43 (T.F 36 43 + 1)).f 36 42 1).A c = T1.A c := fun c h1 h2 => by rw [f_A, f_A, aA_ne h2, aA_ne h1]
      have e58 : ((((T1.a 58 (T.F 36 43) 1).a 59 (8 * T.F 36 43) (L.length : Int)).f 36 43 (T.F 36 43 + 1)).f 36 42 1).A 58 = upI (T.A 58) (T.F 36 43) 1 := by rw [f_A, f_A, aA_ne (by decide), aA_up (by decide), m9.A (by decide)]
      have e59 : ((((T1.a 58 (T.F 36 43) 1).a 59 (8 * T.F 36 43) (L.length : Int)).f 36 43 (T.F 36 43 + 1)).f 36 42 1).A 59 = upI (T.A 59) (8 * T.F 36 43) (L.length : Int) := by rw [f_A, f_A, aA_up iL, aA_ne (by decide), m9.A (by decide)]
      refine ⟨S.F 3 5, S2, (((T1.a 58 (T.F 36 43) 1).a 59 (8 * T.F 36 43) (L.length : Int)).f 36 43 (T.F 36 43 + 1)).f 36 42 1, p, 1, [E], [[(L.length : Int)]], rfl, fun n v4 => ?_, ⟨c1, by omega⟩, fq.m (fun c hc => ?_) (fun i hi => ?_), tg, fp, ?_, fun z _ => ?_, fun _ => ⟨fun i hi => by rw [e58, upI_n (by omega)], fun i hi => by rw [e59, upI_n (by omega)]⟩, nd, a8, fun _ => ⟨sm, ?_, ?_, ?_⟩, fun h1 => ?_, fun _ => hf, ?_⟩
      · rw [eL n v4, m1]
        refine (ob_t rfl).trans ?_
        rw [if_pos (by rw [f36]; exact hf), if_pos m2.2.2.1, e112]
        exact ob_t (a := ((1 : Int), ((T1.a 58 (T.F 36 43) 1).a 59 (8 * T.F 36 43) (L.length : Int)).f 36 43 (T.F 36 43 + 1))) rfl
      · exact eA c (fun e => by rw [e] at hc; exact absurd hc (by decide)) (fun e => by rw [e] at hc; exact absurd hc (by decide))
      · exact eF i (fun e => by rw [e] at hi; exact absurd hi (by decide)) (fun e => by rw [e] at hi; exact absurd hi (by decide))
      · exact (m9.mx.trans ((Fx.a _ (by decide) (by decide) _ _).trans (Fx.a _ (by decide) (by decide) _ _))).trans ((Fx.f _ (by decide) _).trans (Fx.f _ (by decide) _))
      · rw [eA 54 (by decide) (by decide), eA 55 (by decide) (by decide), eA 56 (by decide) (by decide), eA 57 (by decide) (by decide), m9.A (by decide), m9.A (show 55 ∉ [36, 46, 50, 51, 52, 53, 60, 61] by decide), m9.A (show 56 ∉ [36, 46, 50, 51, 52, 53, 60, 61] by decide), m9.A (show 57 ∉ [36, 46, 50, 51, 52, 53, 60, 61] by decide)]
        exact ⟨rfl, rfl, rfl, rfl⟩
      · rw [f_F (by decide), if_pos rfl, if_pos rfl]
        rfl
      · rw [f_F (by decide), if_pos rfl, if_neg (by decide), f_F i43, if_pos rfl, if_pos rfl]
        rfl
      · intro i i0 i1
        have i1 : i < ((1 : Nat) : Int) := i1
        rw [show i = 0 by omega, Int.add_zero]
        refine ⟨by rw [e58, upI_e]; rfl, fun j j0 j1 => ?_⟩
        have j1 : j < ((1 : Nat) : Int) := j1
        rw [show j = 0 by omega, Int.add_zero, e59, upI_e]
        rfl
      · rw [eF 36 (by decide) (by decide), f36] at h1
        omega
      · rw [x1 10, sF1 10 (by decide)]
        exact Int.le_refl _
    · have hf1 : T.F 36 36 = 1 := by rcases l2 with e | e; exact absurd e hf; exact e
      have eF : ∀ i, i ≠ 42 → (T1.f 36 42 0).F 36 i = T1.F 36 i := fun i h1 => by rw [f_F (by decide), if_pos rfl, if_neg h1]
      refine ⟨S.F 3 5, S2, T1.f 36 42 0, p, 1, [E], [[(L.length : Int)]], rfl, fun n v4 => ?_, ⟨c1, by omega⟩, fq.m (fun c _ => by rw [f_A]) (fun i hi => eF i (fun e => by rw [e] at hi; exact absurd hi (by decide))), tg, fp, m9.mx.trans (Fx.f _ (by decide) _), fun z _ => ?_, fun h0 => absurd h0 (by rw [eF 36 (by decide), f36]; exact hf), nd, a8, fun h0 => absurd h0 (by rw [eF 36 (by decide), f36]; exact hf), fun _ => Or.inl hf1, fun h0 => absurd h0 (by rw [eF 36 (by decide), f36]; exact hf), ?_⟩
      · rw [eL n v4, m1]
        refine (ob_t rfl).trans ?_
        rw [if_neg (by rw [f36]; exact hf)]
      · rw [f_A, m9.A (by decide), m9.A (show 55 ∉ [36, 46, 50, 51, 52, 53, 60, 61] by decide), m9.A (show 56 ∉ [36, 46, 50, 51, 52, 53, 60, 61] by decide), m9.A (show 57 ∉ [36, 46, 50, 51, 52, 53, 60, 61] by decide)]
        exact ⟨rfl, rfl, rfl, rfl⟩
      · rw [x1 10, sF1 10 (by decide)]
        exact Int.le_refl _
