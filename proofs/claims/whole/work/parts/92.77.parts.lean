theorem CLs_b2 {T T' : St} {j n m : Nat} (hm : FU = m + 1) (h : g113L7 (m + 1) ((j + 1 : Nat) : Int) T = g113L7 m j T') (hj : j < 10) : CLs n ((j + 1 : Nat) : Int) T = CLs n j T' := by
  have e : g113L7 FU ((j + 1 : Nat) : Int) T = g113L7 FU j T' := by
    have h20 := FU_gt (n := 20) (by decide)
    rw [hm, h]
    exact g113_fuel j m (m + 1) T' (by omega) (by omega)
  unfold CLs
  rw [e]
theorem psh_stack {T : St} {pos c v : Int} {d : Nat} (ic : inR c) (iv : inR v) {T' : St} (h : ∀ z : Int, z < ((d + 1 : Nat) : Int) → T'.A 54 z = (psh T pos d c v).A 54 z ∧ T'.A 55 z = (psh T pos d c v).A 55 z ∧ T'.A 56 z = (psh T pos d c v).A 56 z ∧ T'.A 57 z = (psh T pos d c v).A 57 z) : (∀ z : Int, z < d → T'.A 54 z = T.A 54 z ∧ T'.A 55 z = T.A 55 z ∧ T'.A 56 z = T.A 56 z ∧ T'.A 57 z = T.A 57 z) ∧ T'.A 54 d = c ∧ T'.A 55 d = v ∧ T'.A 56 d = 0 := by
  obtain ⟨pA, p54, p55, p56⟩ := psh_A (T := T) (pos := pos) (d := d) ic iv
  refine ⟨fun z hz => ?_, ?_, ?_, ?_⟩
  · obtain ⟨a, b, c, e⟩ := h z (by omega)
    rw [a, b, c, e, p54, p55, p56, pA 57 (by decide), upI_n (by omega), upI_n (by omega), upI_n (by omega)]
    exact ⟨rfl, rfl, rfl, rfl⟩
  · rw [(h d (by omega)).1, p54, upI_e]
  · rw [(h d (by omega)).2.1, p55, upI_e]
  · rw [(h d (by omega)).2.2.1, p56, upI_e]
set_option maxHeartbeats 4000000 in
theorem part_sim {tx : Int → Int} {len : Int} (hQ : QX tx len) : ∀ (e f d : Nat), d + e = 10 → e < f → ∀ (v pos : Int) (S T : St) (q k : Nat) (nm cd num : Int → Int) (L : List (List Int)), FQ tx len S T pos d q k nm cd num L → q ≤ d → k ≤ d → b1R v → (T.F 36 36 = 0 → SI T d (T.F 36 43)) → PB len S T v d (g22 f S v d) ∨ PG tx len S T pos v d q k e nm cd num L (g22 f S v d) := by
  have l160 := hQ.2.1
  intro e
  induction e with
  | zero =>
    intro f d hde hf v pos S T q k nm cd num L h hq hk hv hS
    obtain ⟨f, rfl⟩ : ∃ g, f = g + 1 := ⟨f - 1, by omega⟩
    by_cases hl : 65 ≤ tx pos ∧ tx pos ≤ 90
    · exact leaf_sim hQ h hq (by omega) hv hS hl
    · exact Or.inl (bad_sim hQ h (by omega) hl (fun _ => by omega))
  | succ e ih =>
    intro f d hde hf v pos S T q k nm cd num L h hq hk hv hS
    obtain ⟨f, rfl⟩ : ∃ g, f = g + 1 := ⟨f - 1, by omega⟩
    by_cases hl : 65 ≤ tx pos ∧ tx pos ≤ 90
    · exact leaf_sim hQ h hq (by omega) hv hS hl
    · by_cases hs : isS (tx pos)
      · have ih := ih f (d + 1) (by omega) (by omega)
        have ed : ((d + 1 : Nat) : Int) = (d : Int) + 1 := by omega
        rw [ed] at ih
        have h1 := h.1.1
        have h2 := h.1.2
        have p0 := h1.2.2.2.2.1
        have s4 := h1.2.1
        have pl : pos < len := (hQ.r p0).2.2 (by unfold isS at hs; omega)
        have iR : inR (pos + 1) := ⟨by omega, by omega⟩
        have iv : inR v := by rcases hv with e | e <;> (rw [e]; decide)
        have ic : inR (tx pos) := by unfold isS at hs; exact ⟨by omega, by omega⟩
        have hsg := h.sign hQ pl ic iv
        have hU : isU (tx pos) ∨ isB (tx pos) := by
          unfold isS at hs
          unfold isU isB
          omega
        obtain ⟨pF, pF27⟩ := psh_F (T := T) (pos := pos) (d := d) (c := tx pos) (v := v) iR
        obtain ⟨pA, p54, p55, p56⟩ := psh_A (T := T) (pos := pos) (d := d) (c := tx pos) (v := v) ic iv
        have hSI : (psh T pos d (tx pos) v).F 36 36 = 0 → SI (psh T pos d (tx pos) v) (d + 1) ((psh T pos d (tx pos) v).F 36 43) := fun h0 => by
          rw [pF 36 (by decide)] at h0
          rw [pF 43 (by decide)]
          exact SI_psh iR hU hv (hS h0)
        have tg1 : TG S (S.f 1 4 (pos + 1)) := TG.same (fF_ne (by decide)) (fun _ _ _ => rfl)
        have fp1 : FP S (S.f 1 4 (pos + 1)) := FP.f1 S (by decide) _
        have s10 : (S.f 1 4 (pos + 1)).F 1 10 = S.F 1 10 := by rw [f_F iR, if_pos rfl, if_neg (by decide)]
        show PB len S T v d (g22b (g22 f) S v d) ∨ PG tx len S T pos v d q k (e + 1) nm cd num L (g22b (g22 f) S v d)
        by_cases h126 : tx pos = 126
        · -- not
          obtain ⟨st1, st2⟩ := not_steps (rc := g22 f) (v := v) (d := (d : Int)) hQ h1 h2 h126 hv (by omega) (by omega)
          rw [st2]
          rw [h126] at hsg hSI pF p54 p55 p56 pA
          rcases ih (1 - v) (pos + 1) (S.f 1 4 (pos + 1)) (psh T pos d 126 v) q k nm cd num L hsg (by omega) (by omega) (by rcases hv with e | e <;> (rw [e]; first | exact Or.inr rfl | exact Or.inl rfl)) hSI with ⟨x, S', T', K, b1, b2, b3, b4, b5, b6, b7, b8, b9⟩ | ⟨i, S', T', pos', K, M, R, b1, b2, b3, b4, b5, b6, b7, b8, b9, b10, b11, b12, b13, b14, b15⟩
          · refine Or.inl ⟨x, S', T', K + 1, b1, b2, b3, ⟨b4.1, by have := b4.2; have := hsg.1.1.2.1; omega⟩, fp1.trans b5, fun n v4 => ?_, b7, b8, (psh_x T pos d 126 v).trans b9⟩
            obtain ⟨w, hw⟩ := b6 n v4
            exact ⟨w, by rw [← Nat.add_assoc, st1]; exact hw⟩
          · rw [pF 43 (by decide)] at b9 b12
            rw [pF 36 (by decide)] at b13 b14
            have stk := psh_stack (c := 126) (by decide) iv b8
            refine Or.inr ⟨i, S', T', pos', K + 1, M, R, b1, fun n v4 => ?_, by omega, b4.d, tg1.trans b5, fp1.trans b6, (psh_x T pos d 126 v).trans b7, stk.1, fun h0 => ?_, ND.up _ _ _ b10, b11, b12, b13, b14, by rw [s10] at b15; exact b15⟩
            · rw [← Nat.add_assoc, st1, ← ed, b2 n v4]
              have := CLs_b (T := T') (T' := if (126 : Int) = 126 then T' else T'.f 36 30 (T'.F 36 30 - 1)) (j := d) (n := n) (fun m => close_u (by omega) stk.2.1 (Or.inr (Or.inr rfl))) (by omega)
              rw [if_pos rfl] at this
              exact this
            · have r := b9 h0
              exact ⟨fun z hz => by rw [r.1 z hz, pA 58 (by decide)], fun z hz => by rw [r.2 z hz, pA 59 (by decide)]⟩
        · by_cases hq2 : tx pos = 33 ∨ tx pos = 63
          · -- a name is bound
            obtain ⟨st1, st2⟩ := qnt_steps (rc := g22 f) (v := v) (d := (d : Int)) hQ h1 h2 rfl hq2 hv (by omega) (by omega)
            rw [st2]
            cases hn : nmr tx 120 122 (pos + 1) with
            | none =>
              obtain ⟨⟨k1, k2⟩, ⟨k3, k4, k5⟩, ⟨m1, m2, m3, m4, m5, m6, m7, m8⟩, _⟩ := hsg
              have bc := bound_c (ex := isX (tx pos) v) (rc := g22 f) (d := (d : Int)) (v := v) hQ k1 k3 (by omega) (by omega) (by omega) m2 (by omega)
              rw [hn] at bc
              obtain ⟨S', b1, b2, b3⟩ := bc
              have e28 : ((psh T pos d (tx pos) v).f 36 28 1).F 36 28 = 1 := by rw [f_F (by decide), if_pos rfl, if_pos rfl]
              refine Or.inl ⟨pos + 1, S', (psh T pos d (tx pos) v).f 36 28 1, 2, b1, b2, by omega, by omega, fp1.trans b3, fun n v4 => ⟨v4, ?_⟩, e28, ?_, (psh_x T pos d (tx pos) v).trans (Fx.f _ (by decide) _)⟩
              · rw [show n + 2 = (n + 1) + 1 by omega, st1, g116_0 hQ k2 hn]
                exact (ob_t rfl).trans (L10_w e28)
              · rw [f_F (by decide), if_pos rfl, if_neg (by decide)]
                exact pF27
            | some a =>
              obtain ⟨nn, p⟩ := a
              obtain ⟨S2, T2, x, b1, b2, b3, b4, b5, b6, b7, b8, b9, b10, b11⟩ := h.bind (ex := isX (tx pos) v) (rc := g22 f) (c := tx pos) (v := v) hQ pl ic iv (by omega) hn (d : Int)
              rw [b1]
              have t43 : T2.F 36 43 = T.F 36 43 := by rw [b7.F (by decide)]; exact pF 43 (by decide)
              have tA : ∀ c, c ∉ qX → c ≠ 36 → T2.A c = (psh T pos d (tx pos) v).A c := fun c h1 h2 => b7.A h1 h2
              have hSI2 : T2.F 36 36 = 0 → SI T2 (d + 1) (T2.F 36 43) := fun h0 => by
                have h00 := b8 h0
                have := hSI (by rw [pF 36 (by decide)]; exact h00)
                rw [pF 43 (by decide)] at this
                rw [t43]
                exact SI.fr (d + 1) _ this (fun z _ => by rw [tA 54 (by decide) (by decide), tA 55 (by decide) (by decide), tA 56 (by decide) (by decide), tA 57 (by decide) (by decide)]; exact ⟨rfl, rfl, rfl, rfl⟩) ⟨fun z _ => by rw [tA 58 (by decide) (by decide)], fun z _ => by rw [tA 59 (by decide) (by decide)]⟩
              have go : ∀ (n : Nat) (v4 : Int), g101L10 (n + 1) v d v4 1 T = g101L10 n v ((d : Int) + 1) v4 1 T2 := fun n v4 => by
                rw [st1, b2]
                rfl
              rcases ih v p S2 T2 q (k + 1) _ _ _ L b3 (by omega) (by omega) hv hSI2 with ⟨x', S', T', K, c1, c2, c3, c4, c5, c6, c7, c8, c9⟩ | ⟨i, S', T', pos', K, M, R, c1, c2, c3, c4, c5, c6, c7, c8, c9, c10, c11, c12, c13, c14, c15⟩
              · have i8 : FP S' (S'.f 1 8 (S'.F 1 8 - 1)) := FP.f1 S' (by decide) _
                refine Or.inl ⟨x', S'.f 1 8 (S'.F 1 8 - 1), T', K + 1, ?_, ?_, c3, ⟨c4.1, by have := c4.2; have := b3.1.1.2.1; omega⟩, (b4.trans c5).trans i8, fun n v4 => ?_, c7, c8, b6.trans c9⟩
                · rw [c1]
                  rfl
                · show ((if (1 : Nat) = 1 then (fun b => if b = 8 then eI (S'.F 1 8 - 1) else S'.F0 1 b) else S'.F0 1) 3).toInt = x'
                  rw [if_pos rfl]
                  exact c2
                · obtain ⟨w, hw⟩ := c6 n v4
                  exact ⟨w, by rw [← Nat.add_assoc, go]; exact hw⟩
              · have c4' := FQ.pop (nm := nm) (cd := cd) (num := num) c4 (fun z hz => by rw [upI_n (by omega), upI_n (by omega), upI_n (by omega)]; exact ⟨rfl, rfl, rfl⟩)
                have e8 := c4.2.1.1.2.1
                have k10 := c4.2.1.1.2.2.1
                have e30 := c4.2.1.2.1.2.1
                have i8r : inR (S'.F 1 8 - 1) := ⟨by omega, by omega⟩
                have i30r : inR (T'.F 36 30 - 1) := ⟨by omega, by omega⟩
                have tF : ∀ i, i ≠ 30 → (T'.f 36 30 (T'.F 36 30 - 1)).F 36 i = T'.F 36 i := fun i hi => by rw [f_F i30r, if_pos rfl, if_neg hi]
                have tg2 : TG S' (S'.f 1 8 (S'.F 1 8 - 1)) := TG.same (fF_ne (by decide)) (fun _ _ _ => rfl)
                have nd := ND.mono (M := []) tg2 _ _ _ (ND.up _ _ _ c10)
                rw [List.append_nil] at nd
                have stk := psh_stack (T := T) (pos := pos) (c := tx pos) (v := v) (d := d) ic iv (T' := T') (fun z hz => by
                  obtain ⟨a1, a2, a3, a4⟩ := c8 z (by omega)
                  rw [a1, a2, a3, a4, tA 54 (by decide) (by decide), tA 55 (by decide) (by decide), tA 56 (by decide) (by decide), tA 57 (by decide) (by decide)]
                  exact ⟨rfl, rfl, rfl, rfl⟩)
                rw [t43] at c9 c12
                refine Or.inr ⟨i, S'.f 1 8 (S'.F 1 8 - 1), T'.f 36 30 (T'.F 36 30 - 1), pos', K + 1, M, R, ?_, fun n v4 => ?_, by omega, c4', (b5.trans c5).trans tg2, (b4.trans c6).trans (FP.f1 S' (by decide) _), (b6.trans c7).trans (Fx.f _ (by decide) _), stk.1, fun h0 => ?_, nd, c11, fun h0 => ?_, fun h0 => ?_, fun h0 => ?_, ?_⟩
                · rw [c1]
                  rfl
                · rw [← Nat.add_assoc, go, ← ed, c2 n v4]
                  have hUU : isU (tx pos) := by
                    unfold isU
                    omega
                  have := CLs_b (T := T') (T' := if tx pos = 126 then T' else T'.f 36 30 (T'.F 36 30 - 1)) (j := d) (n := n) (fun m => close_u (by omega) stk.2.1 hUU) (by omega)
                  rw [if_neg h126] at this
                  exact this
                · rw [tF 36 (by decide)] at h0
                  have r := c9 h0
                  exact ⟨fun z hz => by rw [f_A, r.1 z hz, tA 58 (by decide) (by decide), pA 58 (by decide)], fun z hz => by rw [f_A, r.2 z hz, tA 59 (by decide) (by decide), pA 59 (by decide)]⟩
                · rw [tF 36 (by decide)] at h0
                  rw [tF 42 (by decide), tF 43 (by decide), f_A]
                  exact c12 h0
                · rw [tF 36 (by decide)] at h0
                  have e10 : (S'.f 1 8 (S'.F 1 8 - 1)).F 1 10 = S'.F 1 10 := by rw [f_F i8r, if_pos rfl, if_neg (by decide)]
                  rw [e10]
                  rcases c13 h0 with z | z | z
                  · rcases b9 z with y | y
                    · exact Or.inl y
                    · exact Or.inr (Or.inr (by omega))
                  · exact Or.inr (Or.inl z)
                  · exact Or.inr (Or.inr z)
                · rw [tF 36 (by decide)] at h0
                  exact b8 (c14 h0)
                · have e10 : (S'.f 1 8 (S'.F 1 8 - 1)).F 1 10 = S'.F 1 10 := by rw [f_F i8r, if_pos rfl, if_neg (by decide)]
                  rw [e10]
                  omega
          · -- two parts
            have hB : isB (tx pos) := by
              unfold isS at hs
              unfold isB
              omega
            obtain ⟨st1, st2⟩ := bin_steps (rc := g22 f) (v := v) (d := (d : Int)) hQ h1 h2 rfl hB hv (by omega) (by omega)
            obtain ⟨w, hw, hwb⟩ : ∃ w, (if tx pos = 62 then 1 - v else v) = w ∧ b1R w := ⟨_, rfl, by
              split
              · rcases hv with e | e
                · rw [e]; exact Or.inr rfl
                · rw [e]; exact Or.inl rfl
              · exact hv⟩
            rw [hw] at st1 st2
            rw [st2]
            rcases ih w (pos + 1) (S.f 1 4 (pos + 1)) (psh T pos d (tx pos) v) q k nm cd num L hsg (by omega) (by omega) hwb hSI with ⟨x, S', T', K, b1, b2, b3, b4, b5, b6, b7, b8, b9⟩ | ⟨i1, S2, T2, pos2, K1, M1, R1, a1, a2, a3, a4, a5, a6, a7, a8, a9, a10, a11, a12, a13, a14, a15⟩
            · refine Or.inl ⟨x, S', T', K + 1, ?_, b2, b3, ⟨b4.1, by have := b4.2; have := hsg.1.1.2.1; omega⟩, fp1.trans b5, fun n v4 => ?_, b7, b8, (psh_x T pos d (tx pos) v).trans b9⟩
              · unfold g34p
                rw [b1]
                rfl
              · obtain ⟨w', hw'⟩ := b6 n v4
                exact ⟨w', by rw [← Nat.add_assoc, st1]; exact hw'⟩
            · rw [pF 43 (by decide)] at a9 a12
              rw [pF 36 (by decide)] at a13 a14
              rw [s10] at a15
              obtain ⟨nb1, nb2, nb3, nb4, nb5⟩ := ND_b a10
              have stk := psh_stack ic iv a8
              have t5 := a4.2.2.2.2.1.2.1
              have p2 := a4.1.1.2.2.2.2.2
              have lM1 : (M1.length : Int) ≤ 160 := by
                have := a4.2.2.2.2.1.2.2.1
                rw [List.length_append] at this
                omega
              -- the first part is noted
              have i42 : inR (T2.F 36 42) := inR_to _
              have e56 : ((T2.a 56 d 1).a 57 d (T2.F 36 42)).A 56 = upI (T2.A 56) d 1 := by rw [aA_ne (by decide), aA_up (by decide)]
              have e57 : ((T2.a 56 d 1).a 57 d (T2.F 36 42)).A 57 = upI (T2.A 57) d (T2.F 36 42) := by rw [aA_up i42, aA_ne (by decide)]
              have eA3 : ∀ c, c ≠ 56 → c ≠ 57 → ((T2.a 56 d 1).a 57 d (T2.F 36 42)).A c = T2.A c := fun c h1 h2 => by rw [aA_ne h2, aA_ne h1]
              have eF3 : ∀ i, ((T2.a 56 d 1).a 57 d (T2.F 36 42)).F 36 i = T2.F 36 i := fun i => by rw [a_F, a_F]
              have fx3 : Fx mX mY T2 ((T2.a 56 d 1).a 57 d (T2.F 36 42)) := (Fx.a _ (by decide) (by decide) _ _).trans (Fx.a _ (by decide) (by decide) _ _)
              have cl1 : ∀ n, CLs n ((d + 1 : Nat) : Int) T2 = g101L10 n v ((d + 1 : Nat) : Int) (T2.F 36 42) 1 ((T2.a 56 d 1).a 57 d (T2.F 36 42)) := fun n => by
                have := CLs_1 (n := n) (by omega) stk.2.1 hB stk.2.2.2 (by rw [stk.2.2.1]; exact hv)
                rw [stk.2.2.1] at this
                exact this
              generalize (T2.a 56 d 1).a 57 d (T2.F 36 42) = T3 at *
              have fq3 : FQ tx len S2 T3 pos2 (d + 1) (q + 1) k nm cd num (L ++ M1) := a4.m (fun c hc => eA3 c (fun e => by rw [e] at hc; exact absurd hc (by decide)) (fun e => by rw [e] at hc; exact absurd hc (by decide))) (fun i _ => eF3 i)
              have rl03 : T2.F 36 36 = 0 → RLo (T.F 36 43) T T3 := fun h0 => by
                have r := a9 h0
                exact ⟨fun z hz => by rw [eA3 58 (by decide) (by decide), r.1 z hz, pA 58 (by decide)], fun z hz => by rw [eA3 59 (by decide) (by decide), r.2 z hz, pA 59 (by decide)]⟩
              have stk3 : ∀ z : Int, z < d → T3.A 54 z = T.A 54 z ∧ T3.A 55 z = T.A 55 z ∧ T3.A 56 z = T.A 56 z ∧ T3.A 57 z = T.A 57 z := fun z hz => by
                rw [eA3 54 (by decide) (by decide), eA3 55 (by decide) (by decide), e56, e57, upI_n (by omega), upI_n (by omega)]
                exact stk.1 z hz
              have hSI3 : T3.F 36 36 = 0 → SI T3 (d + 1) (T3.F 36 43) := fun h0 => by
                rw [eF3 36] at h0
                obtain ⟨c1, c2, c3, c4⟩ := a12 h0
                rw [eF3 43]
                have et : T2.F 36 43 - (R1.length : Int) = T.F 36 43 := by omega
                refine ⟨by rw [eA3 55 (by decide) (by decide), stk.2.2.1]; exact hv, Or.inr (Or.inr ⟨by rw [eA3 54 (by decide) (by decide), stk.2.1]; exact hB, by rw [e56, upI_e], R1, c1, by rw [e57, upI_e]; exact c2, ?_, ?_⟩)⟩
                · rw [et, eA3 58 (by decide) (by decide), eA3 59 (by decide) (by decide)]
                  exact c4
                · rw [et]
                  exact SI.fr d _ (hS (a14 h0)) stk3 (rl03 h0)
              rcases ih v pos2 S2 T3 (q + 1) k nm cd num (L ++ M1) fq3 (by omega) (by omega) hv hSI3 with ⟨x, S', T', K, b1, b2, b3, b4, b5, b6, b7, b8, b9⟩ | ⟨i2, S3, T4, pos3, K2, M2, R2, c1, c2, c3, c4, c5, c6, c7, c8, c9, c10, c11, c12, c13, c14, c15⟩
              · refine Or.inl ⟨x, S', T', K + K1 + 1, ?_, b2, b3, ⟨b4.1, by have := b4.2; have := a4.1.1.2.1; omega⟩, (fp1.trans a6).trans b5, fun n v4 => ?_, b7, b8, ((psh_x T pos d (tx pos) v).trans a7).trans (fx3.trans b9)⟩
                · unfold g34p
                  rw [a1]
                  refine (ob_t rfl).trans ?_
                  show gd (inR i1) _ = _
                  refine (gd_t (by first | exact ⟨by omega, by omega⟩ | exact ⟨by omega, by omega, by omega⟩ | exact ⟨by omega, by omega, by omega, by omega⟩ | omega | exact inR_to _ | assumption | decide)).trans ?_
                  refine (if_neg (show ¬ i1 = -1 by omega)).trans ?_
                  show ob (g22 f S2 v ((d : Int) + 1)) _ = _
                  rw [b1]
                  rfl
                · obtain ⟨w', hw'⟩ := b6 n (T2.F 36 42)
                  refine ⟨w', ?_⟩
                  rw [show n + (K + K1 + 1) = (n + K + K1) + 1 by omega, st1, ← ed, a2 (n + K) v4, cl1, ed]
                  exact hw'
              · obtain ⟨mb1, mb2, mb3, mb4, mb5⟩ := ND_b c10
                have q3 := c4.1.1.2.2.2.2.2
                have u5 := c4.2.2.2.2.1.2.1
                have lM2 : (M2.length : Int) ≤ 160 := by
                  have := c4.2.2.2.2.1.2.2.1
                  rw [List.length_append] at this
                  omega
                have nd1 := ND.mono (M := M2) c5 _ _ _ a10
                have e8 : S3.A 8 i1 = S2.A 8 i1 := (c5.2.2.1 i1 nb2).2.2.2.2
                obtain ⟨S4, y1, y2, y3, y4, y5, y6, y7⟩ := pair_t (p := isP (tx pos) v) nd1 c10 (by omega) (by omega) (by omega)
                -- the sign is closed
                obtain ⟨m, hm⟩ := FU_ge (n := 0) (by decide)
                rw [Nat.zero_add] at hm
                have z4 := c8 d (by omega)
                have hb0 : 0 ≤ (if T.F 36 36 = 0 then T.F 36 43 else 0) ∧ (if T.F 36 36 = 0 then T.F 36 43 else 0) ≤ 200 := by
                  split
                  · next h0 =>
                    have := SI_le d _ (hS h0)
                    omega
                  · omega
                have back : T4.F 36 36 = 0 → T2.F 36 36 = 0 ∧ T.F 36 36 = 0 := fun h0 => by
                  have h3 := c14 h0
                  rw [eF3 36] at h3
                  exact ⟨h3, a14 h3⟩
                obtain ⟨T5, x1, x2, x3, x4, x5, x6, x7⟩ := close_b (T := T4) (j := d) (m := m) (c := tx pos) (dn := v) (b := if T.F 36 36 = 0 then T.F 36 43 else 0) (R1 := R1) (R2 := R2) (by omega) (by rw [z4.1, eA3 54 (by decide) (by decide)]; exact stk.2.1) hB (by rw [z4.2.1, eA3 55 (by decide) (by decide)]; exact stk.2.2.1) hv (by rw [z4.2.2.1, e56, upI_e]) hb0.1 hb0.2 c4.2.2.2.1.2.1 (fun h0 => by
                  obtain ⟨k2, k0⟩ := back h0
                  obtain ⟨w1, w2, w3, w4⟩ := a12 k2
                  rw [if_pos k0]
                  refine ⟨by rw [z4.2.2.2, e57, upI_e]; exact w2, w1, (c9 h0).MR w1 (by rw [eF3 43]; omega) ?_⟩
                  rw [eA3 58 (by decide) (by decide), eA3 59 (by decide) (by decide)]
                  exact w4) (fun h0 => by
                  obtain ⟨k2, k0⟩ := back h0
                  obtain ⟨w1, w2, w3, w4⟩ := a12 k2
                  have := c12 h0
                  rw [eF3 43, w3] at this
                  rw [if_pos k0]
                  exact this)
                have xA : ∀ c, c ∉ [58, 59] → c ≠ 36 → T5.A c = T4.A c := fun c h1 h2 => x2.A h1 h2
                have fq5 : FQ tx len S4 T5 pos3 d (q + 1) k nm cd num (L ++ (M1 ++ M2)) := by
                  have z := (FQ.pair (q := q) c4 y2 y4 y5).m2 (T' := T5) (fun c hc => xA c (fun e => by
                    have : ∀ d ∈ [37, 46, 47, 50, 51, 52, 60, 61], d ∉ [58, 59] := by decide
                    exact this c hc e) (fun e => by rw [e] at hc; exact absurd hc (by decide))) (fun i hi => x2.F (fun e => by
                    have : ∀ d ∈ [2, 22, 27, 28, 29, 30, 34, 35, 46], d ∉ [36, 42, 43] := by decide
                    exact this i hi e)) x4 x7
                  rw [List.append_assoc] at z
                  exact z
                have s410 : S4.F 1 10 = S3.F 1 10 := by rw [y2.F (by decide)]
                rw [List.append_assoc] at y6
                refine Or.inr ⟨S3.F 3 5, S4, T5, pos3, K2 + K1 + 1, M1 ++ M2, comb (isP (tx pos) v) R1 R2, ?_, fun n v4 => ?_, by omega, fq5, ((tg1.trans a5).trans c5).trans y3, ((fp1.trans a6).trans c6).trans (y2.FP (by decide)), (((psh_x T pos d (tx pos) v).trans a7).trans (fx3.trans c7)).trans (x2.mono (by decide) (by decide)), fun z hz => ?_, fun h0 => ?_, y6, ?_, fun h0 => ?_, fun h0 => ?_, fun h0 => (back (x7 h0)).2, ?_⟩
                · unfold g34p
                  rw [a1]
                  refine (ob_t rfl).trans ?_
                  show gd (inR i1) _ = _
                  refine (gd_t (by first | exact ⟨by omega, by omega⟩ | exact ⟨by omega, by omega, by omega⟩ | exact ⟨by omega, by omega, by omega, by omega⟩ | omega | exact inR_to _ | assumption | decide)).trans ?_
                  refine (if_neg (show ¬ i1 = -1 by omega)).trans ?_
                  show ob (g22 f S2 v ((d : Int) + 1)) _ = _
                  rw [c1]
                  refine (ob_t rfl).trans ?_
                  show gd (inR i2) _ = _
                  refine (gd_t (by first | exact ⟨by omega, by omega⟩ | exact ⟨by omega, by omega, by omega⟩ | exact ⟨by omega, by omega, by omega, by omega⟩ | omega | exact inR_to _ | assumption | decide)).trans ?_
                  refine (if_neg (show ¬ i2 = -1 by omega)).trans ?_
                  exact y1
                · rw [show n + (K2 + K1 + 1) = (n + K2 + K1) + 1 by omega, st1, ← ed, a2 (n + K2) v4, cl1, c2 n]
                  exact CLs_b2 hm x1 (by omega)
                · obtain ⟨r1, r2, r3, r4⟩ := c8 z (by omega)
                  rw [xA 54 (by decide) (by decide), xA 55 (by decide) (by decide), xA 56 (by decide) (by decide), xA 57 (by decide) (by decide), r1, r2, r3, r4]
                  exact stk3 z hz
                · obtain ⟨k2, k0⟩ := back (x7 h0)
                  obtain ⟨w1, w2, w3, w4⟩ := a12 k2
                  have r1 := rl03 k2
                  have r2 := c9 (x7 h0)
                  rw [if_pos k0] at x3
                  rw [eF3 43] at r2
                  exact ⟨fun z hz => by rw [x3.1 z hz, r2.1 z (by omega), r1.1 z hz], fun z hz => by rw [x3.2 z hz, r2.2 z (by omega), r1.2 z hz]⟩
                · rw [List.length_append]
                  omega
                · have k0 := (back (x7 h0)).2
                  have := x5 h0
                  rw [if_pos k0] at this
                  exact this
                · have up1 : ¬ sml R1 → ¬ sml (comb (isP (tx pos) v) R1 R2) := fun h1 h2 => h1 (sml_comb h2 nb4 mb4).1
                  have up2 : ¬ sml R2 → ¬ sml (comb (isP (tx pos) v) R1 R2) := fun h1 h2 => h1 (sml_comb h2 nb4 mb4).2
                  rw [s410]
                  rcases x6 h0 with z | z
                  · rcases c13 z with z | z | z
                    · rw [eF3 36] at z
                      rcases a13 z with z | z | z
                      · exact Or.inl z
                      · exact Or.inr (Or.inl (up1 z))
                      · exact Or.inr (Or.inr (by omega))
                    · exact Or.inr (Or.inl (up2 z))
                    · exact Or.inr (Or.inr z)
                  · exact Or.inr (Or.inl z)
                · rw [s410]
                  omega
      · exact Or.inl (bad_sim hQ h (by omega) hl (fun h => absurd h hs))
