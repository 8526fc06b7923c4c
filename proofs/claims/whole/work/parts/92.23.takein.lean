/-- the drafts of both, made -/
def DF (S T : St) (r : Int) : Prop := ((¬ (S.F 15 3 = 0 ∧ S.F 16 3 ≤ 16)) ∧ (r = 0 ∨ (r = 1 ∧ 16 < T.A 42 124))) ∨ (S.F 15 3 = 0 ∧ r = 1 ∧ ∃ (n : Int) (o u : Int → Int), KD S n o u ∧ KM T 124 n o u ∧ WV n o u ∧ o n ≤ 16)
def TF (S S' : St) : Prop := S'.O = S.O ∧ ∀ c, c ∉ [13, 14, 24, 25, 26] → S'.F0 c = S.F0 c ∧ S'.A0 c = S.A0 c ∧ S'.R c = S.R c
def TM (T T' : St) : Prop := T'.tl = T.tl ∧ T'.ns = T.ns ∧ T'.O = T.O ∧ (∀ c, c ∉ [36, 38, 39, 40, 41, 42, 43, 44, 45, 62, 63] → T'.F0 c = T.F0 c ∧ T'.A0 c = T.A0 c ∧ T'.R c = T.R c) ∧ ∀ i, i ∉ [9, 14, 15, 17, 18, 19] → T'.F0 36 i = T.F0 36 i
theorem TF.trans {a b c : St} (h : TF a b) (g : TF b c) : TF a c := ⟨g.1.trans h.1, fun d hd => ⟨(g.2 d hd).1.trans (h.2 d hd).1, (g.2 d hd).2.1.trans (h.2 d hd).2.1, (g.2 d hd).2.2.trans (h.2 d hd).2.2⟩⟩
theorem TM.trans {a b c : St} (h : TM a b) (g : TM b c) : TM a c := ⟨g.1.trans h.1, g.2.1.trans h.2.1, g.2.2.1.trans h.2.2.1, fun d hd => ⟨(g.2.2.2.1 d hd).1.trans (h.2.2.2.1 d hd).1, (g.2.2.2.1 d hd).2.1.trans (h.2.2.2.1 d hd).2.1, (g.2.2.2.1 d hd).2.2.trans (h.2.2.2.1 d hd).2.2⟩, fun i hi => (g.2.2.2.2 i hi).trans (h.2.2.2.2 i hi)⟩
theorem Fr.TF {S T : St} (h : Fr [24, 25, 26] S T) : TF S T := ⟨h.2.2.1, fun c hc => h.2.2.2 c (fun e => hc (by
  simp at e ⊢
  omega))⟩
theorem Fr.TM {X : List Nat} {S T : St} (h : Fr X S T) (hX : ∀ c ∈ X, c ∈ [38, 39, 40, 41, 42, 43, 44, 45, 62, 63]) : TM S T := ⟨h.1, h.2.1, h.2.2.1, fun c hc => h.2.2.2 c (fun e => hc (List.mem_cons_of_mem _ (hX c e))), fun i _ => by
  rw [(h.2.2.2 36 (fun e => by have := hX 36 e; revert this; decide)).1]⟩
theorem f_TF (S : St) (k : Nat) (x : Int) : TF S (S.f 13 k x) := ⟨rfl, fun c hc => ⟨if_neg (by intro e; subst e; exact hc (by decide)), rfl, rfl⟩⟩
theorem r_TF (S : St) (i : Int) (x : Option Nat) : TF S (S.r 14 i x) := ⟨rfl, fun c hc => ⟨rfl, rfl, if_neg (by intro e; subst e; exact hc (by decide))⟩⟩
theorem w_TF (S : St) (l : List Cl) (n : Nat) : TF S (S.w l n) := ⟨rfl, fun _ _ => ⟨rfl, rfl, rfl⟩⟩
theorem f_TM (T : St) {k : Nat} (hk : k ∈ [9, 14, 15, 17, 18, 19]) (x : Int) : TM T (T.f 36 k x) := ⟨rfl, rfl, rfl, fun c hc => ⟨if_neg (by intro e; subst e; exact hc (by decide)), rfl, rfl⟩, fun i hi => by
  show (if i = k then eI x else T.F0 36 i) = _
  rw [if_neg (by intro e; subst e; exact hi hk)]⟩
theorem a_TM (T : St) {c : Nat} (hc : c ∈ [38, 39, 40, 41, 42, 43, 44, 45, 62, 63]) (i x : Int) : TM T (T.a c i x) := (Fr.a (X := [c]) (List.mem_singleton.mpr rfl)).TM (fun d hd => by rw [List.mem_singleton.mp hd]; exact hc)
theorem TF.FC {S S' : St} (h : TF S S') : FC S S' := ⟨h.1, fun c hc => ⟨(h.2 c (fun e => by unfold MC at hc; simp at e; omega)).1, (h.2 c (fun e => by unfold MC at hc; simp at e; omega)).2.1⟩⟩
theorem TM.FM {T T' : St} (h : TM T T') : FM T T' := ⟨h.1, h.2.1, h.2.2.1, fun c hc => h.2.2.2.1 c (fun e => hc (by unfold MC; simp at e; omega))⟩
theorem g50_t {S : St} : ((S.F 15 3 = 0 ∧ S.F 16 3 ≤ 16) → g50_15 S = some 1) ∧ ((¬ (S.F 15 3 = 0 ∧ S.F 16 3 ≤ 16)) → g50_15 S = some 0) := by
  unfold g50_15
  by_cases h1 : S.F 15 3 = 0
  · rw [if_pos h1]
    by_cases h2 : 16 < S.F 16 3
    · rw [if_pos h2]
      exact ⟨fun q => absurd q.2 (by omega), fun _ => rfl⟩
    · rw [if_neg h2]
      exact ⟨fun _ => rfl, fun q => absurd ⟨h1, by omega⟩ q⟩
  · rw [if_neg h1]
    exact ⟨fun q => absurd q.1 h1, fun _ => rfl⟩
theorem X2.leftOut {S T : St} (h : X2 S T) : X2 (S.f 13 4 (S.F 13 4 + 1)) (T.f 36 17 (T.F 36 17 + 1)) := by
  obtain ⟨⟨n1, n2, n3, n4, n5, n6, n7, n8, n9⟩, h2, h3, h4, h5, h6⟩ := h
  rw [n5]
  exact ⟨⟨n1, n2, n3, n4, rfl, n6, n7, n8, n9⟩, h2, h3, h4, h5, h6⟩
theorem X2.trueOnes {S T : St} (h : X2 S T) : X2 (S.f 13 5 (S.F 13 5 + 1)) (T.f 36 18 (T.F 36 18 + 1)) := by
  obtain ⟨⟨n1, n2, n3, n4, n5, n6, n7, n8, n9⟩, h2, h3, h4, h5, h6⟩ := h
  rw [n6]
  exact ⟨⟨n1, n2, n3, n4, n5, rfl, n7, n8, n9⟩, h2, h3, h4, h5, h6⟩
theorem X2.knowns {S T : St} (h : X2 S T) : X2 (S.f 13 6 (S.F 13 6 + 1)) (T.f 36 19 (T.F 36 19 + 1)) := by
  obtain ⟨⟨n1, n2, n3, n4, n5, n6, n7, n8, n9⟩, h2, h3, h4, h5, h6⟩ := h
  rw [n7]
  exact ⟨⟨n1, n2, n3, n4, n5, n6, rfl, n8, n9⟩, h2, h3, h4, h5, h6⟩
theorem X2.fulls {S T : St} (h : X2 S T) : X2 (S.f 13 8 1) (T.f 36 15 1) := by
  obtain ⟨⟨n1, n2, n3, n4, n5, n6, n7, n8, n9⟩, ⟨b1, b2, b3, b4, b5, b6, b7, b8, b9⟩, h3, h4, h5, h6⟩ := h
  exact ⟨⟨n1, n2, n3, n4, n5, n6, n7, n8, rfl⟩, ⟨b1, b2, b3, b4, b5, b6, b7, Or.inr (show (eI 1).toInt = 1 by decide), b9⟩, h3, h4, h5, h6⟩
theorem f_self (S : St) (c k : Nat) : S.f c k (S.F c k) = S := by
  have e : (fun a => if a = c then (fun b => if b = k then eI (S.F c k) else S.F0 a b) else S.F0 a) = S.F0 := by
    funext a
    by_cases ha : a = c
    · rw [if_pos ha]
      funext b
      by_cases hb : b = k
      · rw [if_pos hb, ha, hb]
        exact eI_of _
      · rw [if_neg hb]
    · rw [if_neg ha]
  unfold St.f
  rw [e]
  rfl
/-- what a taking in leaves: x more kept -/
def TK (S T S' T' : St) (x : Int) : Prop := b1R x ∧ X2 S' T' ∧ TF S S' ∧ TM T T' ∧ S'.F 13 1 = S.F 13 1 + x ∧ S'.F 13 3 = S.F 13 3 ∧ (∀ (g : Int) (c : Nat), 0 ≤ g → g < S.F 13 1 → CR S g c → CR S' g c) ∧ (∀ k : Int, k < S.F 13 1 → T'.A 43 k = T.A 43 k) ∧ (x = 1 → T'.A 43 (S.F 13 1) = 0) ∧ (S'.tl.length : Int) ≤ S.tl.length + 4 * x ∧ (S'.ns : Int) ≤ S.ns + 40 * x ∧ TX S.tl S'.tl
theorem takeIn_sim {S T T1 : St} {r k1 k2 k3 k4 k5 : Int} (e119 : g119 T = some (r, T1)) (h : X2 S T1) (hD : DF S T1 r) (hk : (k1 = 0 ∧ k2 = -1 ∧ k4 = -1) ∨ (0 < k1 ∧ k1 ≤ 2 ∧ 0 ≤ k2 ∧ k2 < S.F 13 1 ∧ 0 ≤ k4 ∧ k4 < S.F 13 1)) (i3 : inR k3) (i5 : inR k5) : ∃ x S' T', g49 S k1 k2 k3 k4 k5 = some S' ∧ g118 T k1 k2 k3 k4 k5 = some (x, T') ∧ TK S T1 S' T' x := by
  rcases hD with ⟨d1, d2⟩ | ⟨d1, d2, n, o, u, d3, d4, d5, d6⟩
  · refine ⟨0, S.f 13 4 (S.F 13 4 + 1), T1.f 36 17 (T1.F 36 17 + 1), ?_, ?_, Or.inl rfl, h.leftOut, f_TF _ _ _, f_TM _ (by decide) _, (Int.add_zero _).symm, rfl, fun g c _ _ q => q, fun _ _ => rfl, fun e => absurd e (by decide), by show (S.tl.length : Int) ≤ _; omega, by show (S.ns : Int) ≤ _; omega, TX.refl _⟩
    · unfold g49
      rw [g50_t.2 d1]
      rfl
    · unfold g118
      rw [e119]
      rcases d2 with e | ⟨e, q⟩
      · rw [e]
        rfl
      · rw [e]
        show gd (inR 1) (if (1 : Int) = 0 then _ else if 16 < T1.A 42 124 then _ else _) = _
        refine (gd_t (by first | exact ⟨by omega, by omega⟩ | exact ⟨by omega, by omega, by omega⟩ | exact ⟨by omega, by omega, by omega, by omega⟩ | omega | exact inR_to _ | assumption | decide)).trans ?_
        rw [if_neg (by decide), if_pos q]
  · have hw : o n = S.F 16 3 := d3.2.1.symm
    obtain ⟨b, o1, o2, o3⟩ := opp_sim d3 d4 d5
    have w4 : T1.A 42 124 = o n := d4.2.2.2.1
    have c49 : ∀ z, (if b = 0 then ob (g53 S) (fun o9 => gd (inR o9.1) (if o9.1 = 0 then if (o9.2.F 13 1) < 100 then ob (g58_15 (o9.2.nw 9 7)) (fun o14 => gN o14.2 o9.2.top 9 (gd (ixR (o9.2.F 13 1) 100) (gK (o14.2.t o9.2.top (.ob 9 [o14.1] [0, eI k1, eI k2, eI k3, eI k4, eI k5])) o9.2.top (fun c19 n20 n21 n22 n23 n24 n25 => if (o14.2.F 16 2) = 0 then some ((((o14.2.t o9.2.top (.ob 9 [o14.1] [0, eI k1, eI k2, eI k3, eI k4, eI k5])).r 14 (o9.2.F 13 1) (some o9.2.top)).f 13 7 (o14.2.F 13 1)).f 13 1 ((o14.2.F 13 1) + 1)) else some (((o14.2.t o9.2.top (.ob 9 [o14.1] [0, eI k1, eI k2, eI k3, eI k4, eI k5])).r 14 (o9.2.F 13 1) (some o9.2.top)).f 13 1 ((o14.2.F 13 1) + 1)))))) else some (o9.2.f 13 8 1) else some (o9.2.f 13 6 ((o9.2.F 13 6) + 1)))) else some (S.f 13 5 ((S.F 13 5) + 1))) = z → g49 S k1 k2 k3 k4 k5 = z := by
      intro z hz
      rw [← hz]
      unfold g49
      rw [g50_t.1 ⟨d1, by omega⟩]
      show gd (inR 1) (if (1 : Int) = 0 then _ else ob (g51_15 S) _) = _
      refine (gd_t (by first | exact ⟨by omega, by omega⟩ | exact ⟨by omega, by omega, by omega⟩ | exact ⟨by omega, by omega, by omega, by omega⟩ | omega | exact inR_to _ | assumption | decide)).trans ?_
      rw [if_neg (by decide), o1]
      show gd (inR b) _ = _
      refine (gd_t (by rcases o3 with e | e <;> rw [e] <;> decide)).trans ?_
      rfl
    have m118 : ∀ z, (if b = 0 then ob (g129 T1) (fun o10 => gd (inR o10.1) (if o10.1 = 0 then if (o10.2.F 36 9) = 100 then some (0, (o10.2.f 36 15 1)) else ob (g132 o10.2 (o10.2.F 36 9)) (fun o15 => gd (ixR (o15.F 36 9) 100) (gd (ixR (4 * (o15.F 36 9)) 400) (gd (ixR ((4 * (o15.F 36 9)) + 1) 400) (gd (ixR ((4 * (o15.F 36 9)) + 2) 400) (gd (ixR ((4 * (o15.F 36 9)) + 3) 400) (gd (ixR (o15.F 36 9) 125) (if (o15.A 41 (o15.F 36 9)) = 0 then some (1, ((((((((o15.a 43 (o15.F 36 9) 0).a 44 (o15.F 36 9) k1).a 45 (4 * (o15.F 36 9)) k2).a 45 ((4 * (o15.F 36 9)) + 1) k3).a 45 ((4 * (o15.F 36 9)) + 2) k4).a 45 ((4 * (o15.F 36 9)) + 3) k5).f 36 14 (o15.F 36 9)).f 36 9 ((o15.F 36 9) + 1))) else some (1, ((((((((o15.a 43 (o15.F 36 9) 0).a 44 (o15.F 36 9) k1).a 45 (4 * (o15.F 36 9)) k2).a 45 ((4 * (o15.F 36 9)) + 1) k3).a 45 ((4 * (o15.F 36 9)) + 2) k4).a 45 ((4 * (o15.F 36 9)) + 3) k5).f 36 14 (o15.F 36 14)).f 36 9 ((o15.F 36 9) + 1)))))))))) else some (0, (o10.2.f 36 19 ((o10.2.F 36 19) + 1))))) else some (0, (T1.f 36 18 ((T1.F 36 18) + 1)))) = z → g118 T k1 k2 k3 k4 k5 = z := by
      intro z hz
      rw [← hz]
      unfold g118
      rw [e119, d2]
      show gd (inR 1) (if (1 : Int) = 0 then _ else if 16 < T1.A 42 124 then _ else ob (g128 T1) _) = _
      refine (gd_t (by first | exact ⟨by omega, by omega⟩ | exact ⟨by omega, by omega, by omega⟩ | exact ⟨by omega, by omega, by omega, by omega⟩ | omega | exact inR_to _ | assumption | decide)).trans ?_
      rw [if_neg (by decide), if_neg (by omega), o2]
      show gd (inR b) _ = _
      refine (gd_t (by rcases o3 with e | e <;> rw [e] <;> decide)).trans ?_
      rfl
    by_cases hb : b = 0
    · rw [if_pos hb] at c49 m118
      obtain ⟨x, V, U, v1, v2, v3, v4, v5, v6⟩ := known_sim d5 h (d3.KC d5.1.2.1 (by omega)) d4
      have hV13 : V.F 13 = S.F 13 := v5.F (by decide)
      have hU36 : U.F 36 = T1.F 36 := v6.F (by decide)
      have cr : ∀ (g : Int) (c : Nat), CR S g c → CR V g c := by
        rintro g c ⟨a, v, q1, q2, q3⟩
        exact ⟨a, v, by rw [(v5.2.2.2 14 (by decide)).2.2]; exact q1, q2, by rw [v5.1]; exact q3⟩
      have tfV : TF S V := v5.TF
      have tmU : TM T1 U := v6.TM (by decide)
      have U43 : U.A 43 = T1.A 43 := v6.A (by decide)
      rw [v1] at c49
      rw [v2] at m118
      by_cases hx : x = 0
      · subst hx
        by_cases hc : V.F 13 1 < 100
        · obtain ⟨n1, n2, n3, n4, n5, n6, n7, n8, n9⟩ := v4.1
          obtain ⟨b1, b2, b3⟩ := v4.2.1
          have dV := d3.fr v5
          obtain ⟨f, g, N, kc, kg, kf, kN⟩ := keep_c (k1 := k1) (k2 := k2) (k3 := k3) (k4 := k4) (k5 := k5) dV d5.1 b1 hc
          obtain ⟨U1, s1, s2, s3, s4, s5⟩ := store_t (S := U) (v := V.F 13 1) b1 (by omega) (d4.fr v6 (by decide)) d5.1
          have q9 : U1.F 36 9 = V.F 13 1 := by rw [s2.F (by decide)]; exact n2
          have q14 : U1.F 36 14 = V.F 13 7 := by rw [s2.F (by decide)]; exact n8
          have w1 := d5.1.1
          have w2 := d5.1.2.1
          have wn := d5.1.2.2.2.2.2.1 n w1 (by omega)
          have ic : inR (V.F 13 1 + 1) := ⟨by omega, by omega⟩
          have ie : inR (if n = 0 then V.F 13 1 else V.F 13 7) := by split; exact inR_to _; exact inR_to _
          have hk' : (k1 = 0 ∧ k2 = -1 ∧ k4 = -1) ∨ (0 < k1 ∧ k1 ≤ 2 ∧ 0 ≤ k2 ∧ k2 < V.F 13 1 ∧ 0 ≤ k4 ∧ k4 < V.F 13 1) := by rw [hV13]; exact hk
          have eS : g49 S k1 k2 k3 k4 k5 = some ((((V.w [.ob 9 [V.top + 1] [0, eI k1, eI k2, eI k3, eI k4, eI k5], .ob 5 [V.top + 2, V.top + 3] [eI n, eI (o n)], .ar (o n).toNat f, .ar (n + 1).toNat g] N).r 14 (V.F 13 1) (some V.top)).f 13 7 (if n = 0 then V.F 13 1 else V.F 13 7)).f 13 1 (V.F 13 1 + 1)) := by
            refine c49 _ ?_
            show gd (inR 0) (if (0 : Int) = 0 then if V.F 13 1 < 100 then _ else some (V.f 13 8 1) else _) = _
            refine (gd_t (by first | exact ⟨by omega, by omega⟩ | exact ⟨by omega, by omega, by omega⟩ | exact ⟨by omega, by omega, by omega, by omega⟩ | omega | exact inR_to _ | assumption | decide)).trans ?_
            rw [if_pos rfl, if_pos hc]
            refine kc.trans ?_
            by_cases hn : n = 0
            · rw [if_pos hn, if_pos hn]
            · rw [if_neg hn, if_neg hn]
              have := f_self ((V.w [.ob 9 [V.top + 1] [0, eI k1, eI k2, eI k3, eI k4, eI k5], .ob 5 [V.top + 2, V.top + 3] [eI n, eI (o n)], .ar (o n).toNat f, .ar (n + 1).toNat g] N).r 14 (V.F 13 1) (some V.top)) 13 7
              rw [r_F, w_F] at this
              rw [this]
          have eT : g118 T k1 k2 k3 k4 k5 = some (1, ((((((((U1.a 43 (V.F 13 1) 0).a 44 (V.F 13 1) k1).a 45 (4 * V.F 13 1) k2).a 45 (4 * V.F 13 1 + 1) k3).a 45 (4 * V.F 13 1 + 2) k4).a 45 (4 * V.F 13 1 + 3) k5).f 36 14 (if n = 0 then V.F 13 1 else V.F 13 7)).f 36 9 (V.F 13 1 + 1))) := by
            refine m118 _ ?_
            show gd (inR 0) (if (0 : Int) = 0 then if U.F 36 9 = 100 then some (0, U.f 36 15 1) else ob (g132 U (U.F 36 9)) _ else _) = _
            refine (gd_t (by first | exact ⟨by omega, by omega⟩ | exact ⟨by omega, by omega, by omega⟩ | exact ⟨by omega, by omega, by omega, by omega⟩ | omega | exact inR_to _ | assumption | decide)).trans ?_
            rw [if_pos rfl, n2, if_neg (by omega), s1]
            show gd (ixR (U1.F 36 9) 100) _ = _
            rw [q9, s5, q14]
            refine (gd_t (by first | exact ⟨by omega, by omega⟩ | exact ⟨by omega, by omega, by omega⟩ | exact ⟨by omega, by omega, by omega, by omega⟩ | omega | exact inR_to _ | assumption | decide)).trans ?_; refine (gd_t (by first | exact ⟨by omega, by omega⟩ | exact ⟨by omega, by omega, by omega⟩ | exact ⟨by omega, by omega, by omega, by omega⟩ | omega | exact inR_to _ | assumption | decide)).trans ?_; refine (gd_t (by first | exact ⟨by omega, by omega⟩ | exact ⟨by omega, by omega, by omega⟩ | exact ⟨by omega, by omega, by omega, by omega⟩ | omega | exact inR_to _ | assumption | decide)).trans ?_; refine (gd_t (by first | exact ⟨by omega, by omega⟩ | exact ⟨by omega, by omega, by omega⟩ | exact ⟨by omega, by omega, by omega, by omega⟩ | omega | exact inR_to _ | assumption | decide)).trans ?_; refine (gd_t (by first | exact ⟨by omega, by omega⟩ | exact ⟨by omega, by omega, by omega⟩ | exact ⟨by omega, by omega, by omega, by omega⟩ | omega | exact inR_to _ | assumption | decide)).trans ?_; refine (gd_t (by first | exact ⟨by omega, by omega⟩ | exact ⟨by omega, by omega, by omega⟩ | exact ⟨by omega, by omega, by omega, by omega⟩ | omega | exact inR_to _ | assumption | decide)).trans ?_
            by_cases hn : n = 0
            · rw [if_pos hn, if_pos hn]
            · rw [if_neg hn, if_neg hn]
          have hX := X2.keep (f := f) (g := g) (N := N) v4 d5 d6 hc kg kf hk' i3 i5 s3 s4 s2 rfl rfl rfl
          refine ⟨1, _, _, eS, eT, Or.inr rfl, hX, ((tfV.trans (w_TF _ _ _)).trans (r_TF _ _ _)).trans ((f_TF _ _ _).trans (f_TF _ _ _)), ((tmU.trans (s2.TM (by decide))).trans (((a_TM _ (by decide) _ _).trans (a_TM _ (by decide) _ _)).trans (((a_TM _ (by decide) _ _).trans (a_TM _ (by decide) _ _)).trans ((a_TM _ (by decide) _ _).trans (a_TM _ (by decide) _ _))))).trans ((f_TM _ (by decide) _).trans (f_TM _ (by decide) _)), ?_, ?_, fun g' c' g0 g1 q => ?_, fun k hk9 => ?_, fun _ => ?_, ?_, ?_, ?_⟩
          · rw [f_F ic, if_pos rfl, if_pos rfl, hV13]
          · rw [f_F ic, if_pos rfl, if_neg (by decide), f_F ie, if_pos rfl, if_neg (by decide), r_F, w_F, hV13]
          · obtain ⟨a, v, p1, p2, p3⟩ := cr g' c' q
            refine ⟨a, v, ?_, p2, ?_⟩
            · rw [f_R, f_R, r_R, w_R]
              show (if g' = V.F 13 1 then some V.top else V.R 14 g') = _
              rw [if_neg (by rw [hV13]; omega)]
              exact p1
            · rw [f_tl, f_tl, r_tl, w_tl, List.getElem?_append_left (List.getElem?_eq_some_iff.mp p3).1]
              exact p3
          · rw [f_A, f_A, aA_ne (by decide), aA_ne (by decide), aA_ne (by decide), aA_ne (by decide), aA_ne (by decide), a_A (by decide), if_pos rfl, if_neg (by rw [hV13]; omega), s2.A (by decide), U43]
          · rw [f_A, f_A, aA_ne (by decide), aA_ne (by decide), aA_ne (by decide), aA_ne (by decide), aA_ne (by decide), a_A (by decide), if_pos rfl, if_pos (by rw [hV13])]
          · rw [f_tl, f_tl, r_tl, w_tl, List.length_append, v5.1]
            show ((S.tl.length + 4 : Nat) : Int) ≤ _
            omega
          · show (N : Int) ≤ _
            rw [kN, v5.2.1]
            omega
          · rw [f_tl, f_tl, r_tl, w_tl, v5.1]
            exact TX.app _ _
        · refine ⟨0, V.f 13 8 1, U.f 36 15 1, c49 _ ?_, m118 _ ?_, Or.inl rfl, v4.fulls, tfV.trans (f_TF _ _ _), tmU.trans (f_TM _ (by decide) _), ?_, ?_, fun g c _ _ q => cr g c q, fun k _ => by show U.A 43 k = _; rw [U43], fun e => absurd e (by decide), ?_, ?_, by rw [f_tl, v5.1]; exact TX.refl _⟩
          · show gd (inR 0) (if (0 : Int) = 0 then if V.F 13 1 < 100 then _ else some (V.f 13 8 1) else _) = _
            refine (gd_t (by first | exact ⟨by omega, by omega⟩ | exact ⟨by omega, by omega, by omega⟩ | exact ⟨by omega, by omega, by omega, by omega⟩ | omega | exact inR_to _ | assumption | decide)).trans ?_
            rw [if_pos rfl, if_neg hc]
          · have q9 : U.F 36 9 = 100 := by
              have := v4.1.2.1
              have := v4.2.1.2.1
              omega
            show gd (inR 0) (if (0 : Int) = 0 then if U.F 36 9 = 100 then some (0, U.f 36 15 1) else _ else _) = _
            refine (gd_t (by first | exact ⟨by omega, by omega⟩ | exact ⟨by omega, by omega, by omega⟩ | exact ⟨by omega, by omega, by omega, by omega⟩ | omega | exact inR_to _ | assumption | decide)).trans ?_
            rw [if_pos rfl, if_pos q9]
          · show V.F 13 1 = _
            rw [hV13]; omega
          · show V.F 13 3 = _
            rw [hV13]
          · show (V.tl.length : Int) ≤ _
            rw [v5.1]; omega
          · show (V.ns : Int) ≤ _
            rw [v5.2.1]; omega
      · have hx1 : x = 1 := v3.resolve_left hx
        subst hx1
        refine ⟨0, V.f 13 6 (V.F 13 6 + 1), U.f 36 19 (U.F 36 19 + 1), c49 _ rfl, m118 _ rfl, Or.inl rfl, v4.knowns, tfV.trans (f_TF _ _ _), tmU.trans (f_TM _ (by decide) _), ?_, ?_, fun g c _ _ q => cr g c q, fun k _ => by show U.A 43 k = _; rw [U43], fun e => absurd e (by decide), ?_, ?_, by rw [f_tl, v5.1]; exact TX.refl _⟩
        · show V.F 13 1 = _
          rw [hV13]; omega
        · show V.F 13 3 = _
          rw [hV13]
        · show (V.tl.length : Int) ≤ _
          rw [v5.1]; omega
        · show (V.ns : Int) ≤ _
          rw [v5.2.1]; omega
    · rw [if_neg hb] at c49 m118
      exact ⟨0, S.f 13 5 (S.F 13 5 + 1), T1.f 36 18 (T1.F 36 18 + 1), c49 _ rfl, m118 _ rfl, Or.inl rfl, h.trueOnes, f_TF _ _ _, f_TM _ (by decide) _, (Int.add_zero _).symm, rfl, fun g c _ _ q => q, fun _ _ => rfl, fun e => absurd e (by decide), by show (S.tl.length : Int) ≤ _; omega, by show (S.ns : Int) ≤ _; omega, TX.refl _⟩
