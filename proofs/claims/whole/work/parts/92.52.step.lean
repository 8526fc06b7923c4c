/-! step and run -/
theorem g13_x {S T : St} (h : X2 S T) : ∀ (k m i : Nat) (c : Int), (i + k : Int) = S.F 13 1 → k < m → g13L4 S 0 m c i = some (c + cnt (T.A 43) 0 (i + k) - cnt (T.A 43) 0 i) := by
  have h0 := h.2.1.2.1
  intro k
  induction k with
  | zero =>
    intro m i c hk hm
    obtain ⟨m, rfl⟩ : ∃ k, m = k + 1 := ⟨m - 1, by omega⟩
    unfold g13L4
    refine (gd_t (by first | exact ⟨by omega, by omega⟩ | exact ⟨by omega, by omega, by omega⟩ | exact ⟨by omega, by omega, by omega, by omega⟩ | omega | exact inR_to _ | assumption | decide)).trans ?_
    refine (if_neg (by omega)).trans ?_
    rw [Nat.add_zero]
    congr 1
    omega
  | succ k ih =>
    intro m i c hk hm
    obtain ⟨m, rfl⟩ : ∃ k, m = k + 1 := ⟨m - 1, by omega⟩
    obtain ⟨a, cc, x0, x1, x2, x3, x4, x5, n, o, u, h1, h2, h3, h4, h5, h6, h7, h8, h9⟩ := h.2.2.1 i (by omega) (by omega)
    unfold g13L4
    refine (gd_t (by first | exact ⟨by omega, by omega⟩ | exact ⟨by omega, by omega, by omega⟩ | exact ⟨by omega, by omega, by omega, by omega⟩ | omega | exact inR_to _ | assumption | decide)).trans ?_
    refine (if_pos (by omega)).trans ?_
    refine (gd_t (by first | exact ⟨by omega, by omega⟩ | exact ⟨by omega, by omega, by omega⟩ | exact ⟨by omega, by omega, by omega, by omega⟩ | omega | exact inR_to _ | assumption | decide)).trans ?_
    refine (ob_t h1).trans ?_
    refine (gK_t ((cl_tl h2).trans h3)).trans ?_
    refine (gd_t (by first | exact ⟨by omega, by omega⟩ | exact ⟨by omega, by omega, by omega⟩ | exact ⟨by omega, by omega, by omega, by omega⟩ | omega | exact inR_to _ | assumption | decide)).trans ?_
    have e1 : ((i : Int) + 1) = ((i + 1 : Nat) : Int) := by omega
    have e2 : i + (k + 1) = i + 1 + k := by omega
    have e3 : cnt (T.A 43) 0 (i + 1) = cnt (T.A 43) 0 i + (if T.A 43 i = 0 then 1 else 0) := rfl
    rw [e1, ← h8, e2]
    by_cases hh : T.A 43 i = 0
    · rw [if_pos hh, ih m (i + 1) (c + 1) (by omega) (by omega), e3, if_pos hh]
      congr 1
      omega
    · rw [if_neg hh, ih m (i + 1) c (by omega) (by omega), e3, if_neg hh]
      congr 1
      omega
/-- where the search stands, in both -/
def stn2 (S T : St) : Int := if S.F 13 7 = -1 then (if S.F 13 8 = 0 then (if 0 < cnt (T.A 43) 0 (S.F 13 1).toNat then 0 else if S.F 13 4 = 0 then 3 else 4) else 2) else 1
theorem fin_sim {S T : St} (h : X2 S T) : g12 S = some (stn2 S T) ∧ g134 T = some (stn2 S T) ∧ inR (stn2 S T) ∧ (stn2 S T = 0 → 0 < cnt (T.A 43) 0 (S.F 13 1).toNat) := by
  have hc := cnt_le (T.A 43) 0 (S.F 13 1).toNat
  obtain ⟨b1, b2, b3, b4, b5, b6, b7, b8, b9, b10⟩ := h.2.1
  obtain ⟨n1, n2, n3, n4, n5, n6, n7, n8, n9⟩ := h.1
  have e13 : g13 S 0 = some (cnt (T.A 43) 0 (S.F 13 1).toNat) := by
    have e := g13_x h (S.F 13 1).toNat FU 0 0 (by omega) (FU_gt (by omega))
    unfold g13
    have e0 : ((0 : Nat) : Int) = 0 := rfl
    rw [e0] at e
    rw [e]
    show some (0 + cnt (T.A 43) 0 (0 + (S.F 13 1).toNat) - 0) = _
    rw [Nat.zero_add]
    congr 1
    omega
  have e135 : g135 T 0 = some (cnt (T.A 43) 0 (S.F 13 1).toNat) := by
    rw [g135_t (by decide) (by omega) (by omega), n2]
  unfold g12 g134 stn2
  rw [e13, e135, n8, n9, n5]
  by_cases h1 : S.F 13 7 = -1
  · rw [if_pos h1, if_pos (show S.F 13 7 < 0 by omega), if_pos h1]
    by_cases h2 : S.F 13 8 = 0
    · rw [if_pos h2, if_pos h2]
      refine ⟨?_, ?_, ?_, ?_⟩
      · show gd (inR (cnt (T.A 43) 0 (S.F 13 1).toNat)) _ = _
        refine (gd_t (by first | exact ⟨by omega, by omega⟩ | exact ⟨by omega, by omega, by omega⟩ | exact ⟨by omega, by omega, by omega, by omega⟩ | omega | exact inR_to _ | assumption | decide)).trans ?_
        split
        · rfl
        · split <;> rfl
      · show gd (inR (cnt (T.A 43) 0 (S.F 13 1).toNat)) _ = _
        refine (gd_t (by first | exact ⟨by omega, by omega⟩ | exact ⟨by omega, by omega, by omega⟩ | exact ⟨by omega, by omega, by omega, by omega⟩ | omega | exact inR_to _ | assumption | decide)).trans ?_
        split
        · rfl
        · split <;> rfl
      · split
        · decide
        · split <;> decide
      · split
        · intro _; assumption
        · split
          · intro e; omega
          · intro e; omega
    · rw [if_neg h2, if_neg h2]
      exact ⟨rfl, rfl, by decide, fun e => by omega⟩
  · rw [if_neg h1, if_neg (show ¬ S.F 13 7 < 0 by omega), if_neg h1]
    exact ⟨rfl, rfl, by decide, fun e => by omega⟩
theorem CFr.F {S S' : St} (h : CFr S S') {c : Nat} (hc : c ∉ cfl) : S'.F c = S.F c := by
  funext i
  show (S'.F0 c i).toInt = (S.F0 c i).toInt
  rw [(h.2 c hc).1]
theorem CFr.A {S S' : St} (h : CFr S S') {c : Nat} (hc : c ∉ cfl) : S'.A c = S.A c := by
  funext i
  show (S'.A0 c i).toInt = (S.A0 c i).toInt
  rw [(h.2 c hc).2.1]
theorem MFr.F {T T' : St} (h : MFr T T') {c : Nat} (hc : c ∉ mfl) : T'.F c = T.F c := by
  funext i
  show (T'.F0 c i).toInt = (T.F0 c i).toInt
  rw [(h.2.2.2.1 c hc).1]
theorem MFr.A {T T' : St} (h : MFr T T') {c : Nat} (hc : c ∉ mfl) : T'.A c = T.A c := by
  funext i
  show (T'.A0 c i).toInt = (T.A0 c i).toInt
  rw [(h.2.2.2.1 c hc).2.1]
theorem MFr.F36 {T T' : St} (h : MFr T T') {i : Nat} (hi : i ∉ [9, 14, 15, 16, 17, 18, 19, 24]) : T'.F 36 i = T.F 36 i := by
  show (T'.F0 36 i).toInt = (T.F0 36 i).toInt
  rw [h.2.2.2.2 i hi]
/-- the second object is asked behind the first -/
theorem next_X2 {S S' : St} (x : Int64) (h : Rel S) (hc : CFr S S') : X2 S ((S'.o x).f 36 0 0) ∧ XC S ((S'.o x).f 36 0 0) ∧ ((S'.o x).f 36 0 0).F 36 0 = 0 := by
  have h1 : X2 S S' := h.X2.m hc.FC
  have h2 : XC S S' := h.XC.m hc.FC
  exact ⟨h1, h2, by rw [f_F (by decide), if_pos rfl, if_pos rfl]⟩
theorem AJ.end {S S' T : St} {x : Int64} {j : Nat} (h : Rel S) (hr : Room j S) (a : AJ S ((S'.o x).f 36 0 0) S' T) : Rel T ∧ Room (j + 1) T ∧ T.O = x ∧ T.F 36 0 = 0 := by
  obtain ⟨a1, a2, a3, a4, a5, a6, a7⟩ := a
  have fm0 : FM (S'.o x) ((S'.o x).f 36 0 0) := ⟨rfl, rfl, rfl, fun c hc => ⟨by
    show (if c = 36 then _ else (S'.o x).F0 c) = _
    rw [if_neg (fun e => hc (by rw [e]; exact mc rfl))], rfl, rfl⟩⟩
  have fm : FM (S'.o x) T := fm0.trans a4.FM
  have x1 : X2 (S'.o x) T := a1
  have x2 : XC (S'.o x) T := a2
  have F : ∀ c : Nat, ¬ MC c → T.F c = S'.F c := fun c hc => fm.F hc
  have A : ∀ c : Nat, ¬ MC c → T.A c = S'.A c := fun c hc => fm.A hc
  have F0 := (F 0 (nmc rfl)).trans (a3.F (show 0 ∉ cfl by decide))
  have F1 := (F 1 (nmc rfl)).trans (a3.F (show 1 ∉ cfl by decide))
  have F13 := F 13 (nmc rfl)
  have F28 := (F 28 (nmc rfl)).trans (a3.F (show 28 ∉ cfl by decide))
  have A2 := (A 2 (nmc rfl)).trans (a3.A (show 2 ∉ cfl by decide))
  have A29 := (A 29 (nmc rfl)).trans (a3.A (show 29 ∉ cfl by decide))
  have M36 : ∀ i, i ≠ 0 → i ∉ [9, 14, 15, 16, 17, 18, 19, 24] → T.F 36 i = S.F 36 i := fun i i0 hi => by
    rw [a4.F36 hi]
    have e1 : ((S'.o x).f 36 0 0).F 36 i = S'.F 36 i := by
      rw [f_F (by decide), if_pos rfl, if_neg i0]
      rfl
    rw [e1, a3.F (show 36 ∉ cfl by decide)]
  have A37 : T.A 37 = S.A 37 := (a4.A (show 37 ∉ mfl by decide)).trans (a3.A (show 37 ∉ cfl by decide))
  have A69 : T.A 69 = S.A 69 := (a4.A (show 69 ∉ mfl by decide)).trans (a3.A (show 69 ∉ cfl by decide))
  obtain ⟨r1, r2, r3, r4, r5, r6, r7, r8⟩ := h
  refine ⟨X2.Rel (x1.c fm) (x2.c fm) ?_ ?_ ?_, ⟨?_, ?_⟩, a4.2.2.1, ?_⟩
  · unfold RT at r1 ⊢
    rw [F1, A2, A37, M36 2 (by decide) (by decide)]
    exact r1
  · rw [F0, M36 1 (by decide) (by decide)]
    exact r2.1
  · unfold RO at r7 ⊢
    rw [F28, A29, A69, M36 56 (by decide) (by decide)]
    exact r7
  · have := hr.1
    rw [fm.1, F13, F0]
    show (S'.tl.length : Int) ≤ _
    omega
  · have := hr.2
    rw [fm.2.1, F13, F0]
    show (S'.ns : Int) ≤ _
    omega
  · rw [a4.F36 (by decide), f_F (by decide), if_pos rfl, if_pos rfl]
theorem step_ok {S : St} {j : Nat} (h : Rel S) (hr : Room j S) : LW j (g164 S) (fun T => g136 T) := by
  obtain ⟨f1, f2, f3, f4⟩ := fin_sim h.X2
  by_cases hx : stn2 S S = 0
  · obtain ⟨d, S', T', a1, a2, a3, a4, a5⟩ := adv_sim h.X2 h.XC (f4 hx)
    obtain ⟨n1, n2, n3⟩ := next_X2 (lI d) h a5.2.2.1
    have hcnt : 0 < cnt (((S'.o (lI d)).f 36 0 0).A 43) 0 (S.F 13 1).toNat := by
      have e : ((S'.o (lI d)).f 36 0 0).A 43 = S.A 43 := a5.2.2.1.A (show 43 ∉ cfl by decide)
      rw [e]
      exact f4 hx
    obtain ⟨d', S2, T2, b1, b2, b3, b4, b5⟩ := adv_sim n1 n2 hcnt
    rw [a1] at b1
    cases b1
    obtain ⟨e1, e2, e3, e4⟩ := AJ.end h hr b5
    have hX1 : X2 S S' := h.X2.m a5.2.2.1.FC
    have hX0 : X2 S (S'.o (lI d)) := hX1
    obtain ⟨_, g2, _, _⟩ := fin_sim hX0
    have es : stn2 S (S'.o (lI d)) = 0 := by
      have e : (S'.o (lI d)).A 43 = S.A 43 := a5.2.2.1.A (show 43 ∉ cfl by decide)
      unfold stn2 at hx ⊢
      rw [e]
      exact hx
    refine ⟨0, S'.o (lI d), d, T2, ?_, ?_, by decide, e4, fun _ => e3, e1, e2⟩
    · unfold g164 g60
      rw [f1, hx]
      show ob (ob (g61 S) _) _ = _
      rw [a1]
      rfl
    · show g136 (S'.o (lI d)) = _
      unfold g136
      rw [g2, es]
      show ob (g137 ((S'.o (lI d)).f 36 0 0)) _ = _
      rw [b2]
      rfl
  · have hX0 : X2 S.ho S.ho := h.hole.X2
    obtain ⟨_, g2, g3, _⟩ := fin_sim hX0
    have es : stn2 S.ho S.ho = stn2 S S := rfl
    rw [es] at g2
    refine LW.er (S := S) (c := 1) (w := 0) h hr (by decide) (by decide) ?_ ?_
    · unfold g164 g60
      rw [f1]
      refine (ob_t ((ob_t rfl).trans ((gd_t f3).trans (if_neg hx)))).trans ?_
      rfl
    · show g136 S.ho = _
      unfold g136
      rw [g2]
      exact (ob_t rfl).trans ((gd_t f3).trans (if_neg hx))
theorem run_L {v : Int} (v1 : v ≤ 50) : ∀ (r m m' : Nat) (k : Int) (S T : St), X2 S T → XC S T → T.F 36 0 = 0 → 0 ≤ k → k + r = v → r < m → r < m' → ∃ c S' T', g76L20 v m k S = some (c, S') ∧ g147L21 v m' k T = some (c, T') ∧ inR c ∧ AJ S T S' T' := by
  intro r
  induction r with
  | zero =>
    intro m m' k S T h hC h0 k0 hk hm hm'
    obtain ⟨m, rfl⟩ : ∃ k, m = k + 1 := ⟨m - 1, by omega⟩
    obtain ⟨m', rfl⟩ : ∃ k, m' = k + 1 := ⟨m' - 1, by omega⟩
    refine ⟨k, S, T, ?_, ?_, ⟨by omega, by omega⟩, AJ.refl h hC⟩
    · unfold g76L20
      refine (gd_t (by first | exact ⟨by omega, by omega⟩ | exact ⟨by omega, by omega, by omega⟩ | exact ⟨by omega, by omega, by omega, by omega⟩ | omega | exact inR_to _ | assumption | decide)).trans ?_
      refine (gd_t (by first | exact ⟨by omega, by omega⟩ | exact ⟨by omega, by omega, by omega⟩ | exact ⟨by omega, by omega, by omega, by omega⟩ | omega | exact inR_to _ | assumption | decide)).trans ?_
      rw [if_neg (by omega)]
    · unfold g147L21
      rw [if_pos h0]
      refine (gd_t (by first | exact ⟨by omega, by omega⟩ | exact ⟨by omega, by omega, by omega⟩ | exact ⟨by omega, by omega, by omega, by omega⟩ | omega | exact inR_to _ | assumption | decide)).trans ?_
      refine (gd_t (by first | exact ⟨by omega, by omega⟩ | exact ⟨by omega, by omega, by omega⟩ | exact ⟨by omega, by omega, by omega, by omega⟩ | omega | exact inR_to _ | assumption | decide)).trans ?_
      rw [if_neg (by omega)]
  | succ r ih =>
    intro m m' k S T h hC h0 k0 hk hm hm'
    obtain ⟨m, rfl⟩ : ∃ k, m = k + 1 := ⟨m - 1, by omega⟩
    obtain ⟨m', rfl⟩ : ∃ k, m' = k + 1 := ⟨m' - 1, by omega⟩
    obtain ⟨f1, f2, f3, f4⟩ := fin_sim h
    have e1 : g76L20 v (m + 1) k S = if stn2 S T = 0 then ob (g61 S) (fun o11 => g76L20 v m (k + 1) o11.2) else some (k, S) := by
      rw [g76L20]
      refine (gd_t (by first | exact ⟨by omega, by omega⟩ | exact ⟨by omega, by omega, by omega⟩ | exact ⟨by omega, by omega, by omega, by omega⟩ | omega | exact inR_to _ | assumption | decide)).trans ?_
      refine (gd_t (by first | exact ⟨by omega, by omega⟩ | exact ⟨by omega, by omega, by omega⟩ | exact ⟨by omega, by omega, by omega, by omega⟩ | omega | exact inR_to _ | assumption | decide)).trans ?_
      rw [if_pos (by omega), f1]
      exact (ob_t rfl).trans (gd_t f3)
    have e2 : g147L21 v (m' + 1) k T = if stn2 S T = 0 then ob (g137 T) (fun o11 => gd (inR o11.1) (if o11.1 < 0 then g147L21 v m' k o11.2 else g147L21 v m' (k + 1) o11.2)) else some (k, T) := by
      rw [g147L21, if_pos h0]
      refine (gd_t (by first | exact ⟨by omega, by omega⟩ | exact ⟨by omega, by omega, by omega⟩ | exact ⟨by omega, by omega, by omega, by omega⟩ | omega | exact inR_to _ | assumption | decide)).trans ?_
      refine (gd_t (by first | exact ⟨by omega, by omega⟩ | exact ⟨by omega, by omega, by omega⟩ | exact ⟨by omega, by omega, by omega, by omega⟩ | omega | exact inR_to _ | assumption | decide)).trans ?_
      rw [if_pos (by omega), f2]
      exact (ob_t rfl).trans (gd_t f3)
    rw [e1, e2]
    by_cases hx : stn2 S T = 0
    · rw [if_pos hx, if_pos hx]
      obtain ⟨d, S1, T1, a1, a2, a3, a4, a5⟩ := adv_sim h hC (f4 hx)
      rw [a1, a2]
      obtain ⟨c, S2, T2, q1, q2, q3, q4⟩ := ih m m' (k + 1) S1 T1 a5.1 a5.2.1 (by rw [a5.2.2.2.1.F36 (by decide)]; exact h0) (by omega) (by omega) (by omega) (by omega)
      refine ⟨c, S2, T2, q1, ?_, q3, a5.trans q4⟩
      show gd (inR d) _ = _
      refine (gd_t (by first | exact ⟨by omega, by omega⟩ | exact ⟨by omega, by omega, by omega⟩ | exact ⟨by omega, by omega, by omega, by omega⟩ | omega | exact inR_to _ | assumption | decide)).trans ?_
      refine (if_neg (by show ¬ d < 0; omega)).trans ?_
      exact q2
    · rw [if_neg hx, if_neg hx]
      exact ⟨k, S, T, rfl, rfl, ⟨by omega, by omega⟩, AJ.refl h hC⟩
theorem run_ok {S : St} {j : Nat} {v : Int} (hv : inR v) (h : Rel S) (hr : Room j S) : LW j (g165 S v) (fun T => g147 T v) := by
  by_cases hv2 : 0 ≤ v ∧ v ≤ 50
  · obtain ⟨n1, n2, n3⟩ := next_X2 0 h (CFr.refl S)
    obtain ⟨c, S', T', a1, a2, a3, a4⟩ := run_L hv2.2 v.toNat FU FU 0 S _ n1 n2 n3 (by omega) (by omega) (FU_gt (by omega)) (FU_gt (by omega))
    obtain ⟨m1, m2, m3⟩ := next_X2 (lI c) h a4.2.2.1
    obtain ⟨c', S2, T2, b1, b2, b3, b4⟩ := run_L hv2.2 v.toNat FU FU 0 S _ m1 m2 m3 (by omega) (by omega) (FU_gt (by omega)) (FU_gt (by omega))
    rw [a1] at b1
    cases b1
    obtain ⟨e1, e2, e3, e4⟩ := AJ.end h hr b4
    refine ⟨0, S'.o (lI c), c, T2, ?_, ?_, by decide, e4, fun _ => e3, e1, e2⟩
    · unfold g165 g76
      have e76 : (gd (inR v) (if v < 0 then some (1, 0, S.ho) else if 50 < v then some (1, 0, S.ho) else ob (g76L20 v FU 0 S) (fun o13 => some (0, o13.1, o13.2))) : Option (Nat × Int × St)) = some (0, c, S') := by
        refine (gd_t hv).trans ?_
        rw [if_neg (by omega), if_neg (by omega), a1]
        rfl
      rw [e76]
      rfl
    · show g147 (S'.o (lI c)) v = _
      unfold g147
      refine (gd_t hv).trans ?_
      rw [if_neg (by omega), if_neg (by omega), b2]
      rfl
  · refine LW.er (S := S) (c := 1) (w := 0) h hr (by decide) (by decide) ?_ ?_
    · have e76 : g76 S v = some (1, 0, S.ho) := by
        unfold g76
        refine (gd_t hv).trans ?_
        by_cases h0 : v < 0
        · rw [if_pos h0]
        · rw [if_neg h0, if_pos (by omega)]
      unfold g165
      rw [e76]
      rfl
    · show g147 S.ho v = _
      have eL : ∀ n, g147L21 v (n + 1) 0 (S.ho.f 36 0 1) = some (0, S.ho.f 36 0 1) := fun n => by
        rw [g147L21, if_neg (by rw [f_F (by decide), if_pos rfl, if_pos rfl]; decide)]
      obtain ⟨q, hq⟩ := FU_ge (n := 0) (by decide)
      rw [Nat.zero_add] at hq
      unfold g147
      refine (gd_t hv).trans ?_
      by_cases h0 : v < 0
      · rw [if_pos h0, hq, eL]
        rfl
      · rw [if_neg h0, if_pos (by omega), hq, eL]
        rfl
