theorem g13L4_t {S : St} {x : Int} (hx : inR x) (h0 : S.F 13 1 ≤ 100) (h : RK S) : ∀ (k m i : Nat) (c : Int), (i + k : Int) = S.F 13 1 → k < m → g13L4 S x m c i = some (c + cnt (S.A 43) x (i + k) - cnt (S.A 43) x i) := by
  intro k
  induction k with
  | zero =>
    intro m i c hk hm
    obtain ⟨m, rfl⟩ : ∃ k, m = k + 1 := ⟨m - 1, by omega⟩
    unfold g13L4
    refine (gd_t (by first | exact ⟨by omega, by omega⟩ | exact ⟨by omega, by omega, by omega⟩ | exact ⟨by omega, by omega, by omega, by omega⟩ | omega | exact inR_to _ | assumption | decide)).trans ?_
    refine (if_neg (by omega)).trans ?_
    rw [Nat.add_zero]
    congr 1
    omega
  | succ k ih =>
    intro m i c hk hm
    obtain ⟨m, rfl⟩ : ∃ k, m = k + 1 := ⟨m - 1, by omega⟩
    obtain ⟨a, cc, x0, x1, x2, x3, x4, x5, n, o, u, h1, h2, h3, h4, h5, h6, h7, h8, h9⟩ := h i (by omega) (by omega)
    unfold g13L4
    refine (gd_t (by first | exact ⟨by omega, by omega⟩ | exact ⟨by omega, by omega, by omega⟩ | exact ⟨by omega, by omega, by omega, by omega⟩ | omega | exact inR_to _ | assumption | decide)).trans ?_
    refine (if_pos (by omega)).trans ?_
    refine (gd_t (by first | exact ⟨by omega, by omega⟩ | exact ⟨by omega, by omega, by omega⟩ | exact ⟨by omega, by omega, by omega, by omega⟩ | omega | exact inR_to _ | assumption | decide)).trans ?_
    refine (ob_t h1).trans ?_
    refine (gK_t ((cl_tl h2).trans h3)).trans ?_
    refine (gd_t (by first | exact ⟨by omega, by omega⟩ | exact ⟨by omega, by omega, by omega⟩ | exact ⟨by omega, by omega, by omega, by omega⟩ | omega | exact inR_to _ | assumption | decide)).trans ?_
    have e1 : ((i : Int) + 1) = ((i + 1 : Nat) : Int) := by omega
    have e2 : i + (k + 1) = i + 1 + k := by omega
    have e3 : cnt (S.A 43) x (i + 1) = cnt (S.A 43) x i + (if S.A 43 i = x then 1 else 0) := rfl
    rw [e1, ← h8, e2]
    by_cases hh : S.A 43 i = x
    · rw [if_pos hh, ih m (i + 1) (c + 1) (by omega) (by omega), e3, if_pos hh]
      congr 1
      omega
    · rw [if_neg hh, ih m (i + 1) c (by omega) (by omega), e3, if_neg hh]
      congr 1
      omega
theorem g13_t {S : St} {x : Int} (hx : inR x) (hb : RB S) (h : RK S) : g13 S x = some (cnt (S.A 43) x (S.F 13 1).toNat) := by
  obtain ⟨m, hm⟩ := FU_ge (n := 200) (by decide)
  have b1 := hb.1
  have b2 := hb.2.1
  have e := g13L4_t hx b2 h (S.F 13 1).toNat FU 0 0 (by omega) (by omega)
  unfold g13
  have e0 : ((0 : Nat) : Int) = 0 := rfl
  rw [e0] at e
  rw [e]
  show some (0 + cnt (S.A 43) x (0 + (S.F 13 1).toNat) - 0) = _
  rw [Nat.zero_add]
  congr 1
  omega
theorem g135L4_t {S : St} {x : Int} (hx : inR x) (h0 : S.F 36 9 ≤ 100) : ∀ (k m i : Nat) (c : Int), (i + k : Int) = S.F 36 9 → k < m → g135L4 S x m c i = some (c + cnt (S.A 43) x (i + k) - cnt (S.A 43) x i) := by
  intro k
  induction k with
  | zero =>
    intro m i c hk hm
    obtain ⟨m, rfl⟩ : ∃ k, m = k + 1 := ⟨m - 1, by omega⟩
    unfold g135L4
    refine (gd_t (by first | exact ⟨by omega, by omega⟩ | exact ⟨by omega, by omega, by omega⟩ | exact ⟨by omega, by omega, by omega, by omega⟩ | omega | exact inR_to _ | assumption | decide)).trans ?_
    refine (if_neg (by omega)).trans ?_
    rw [Nat.add_zero]
    congr 1
    omega
  | succ k ih =>
    intro m i c hk hm
    obtain ⟨m, rfl⟩ : ∃ k, m = k + 1 := ⟨m - 1, by omega⟩
    unfold g135L4
    refine (gd_t (by first | exact ⟨by omega, by omega⟩ | exact ⟨by omega, by omega, by omega⟩ | exact ⟨by omega, by omega, by omega, by omega⟩ | omega | exact inR_to _ | assumption | decide)).trans ?_
    refine (if_pos (by omega)).trans ?_
    refine (gd_t (by first | exact ⟨by omega, by omega⟩ | exact ⟨by omega, by omega, by omega⟩ | exact ⟨by omega, by omega, by omega, by omega⟩ | omega | exact inR_to _ | assumption | decide)).trans ?_; refine (gd_t (by first | exact ⟨by omega, by omega⟩ | exact ⟨by omega, by omega, by omega⟩ | exact ⟨by omega, by omega, by omega, by omega⟩ | omega | exact inR_to _ | assumption | decide)).trans ?_
    have e1 : ((i : Int) + 1) = ((i + 1 : Nat) : Int) := by omega
    have e2 : i + (k + 1) = i + 1 + k := by omega
    have e3 : cnt (S.A 43) x (i + 1) = cnt (S.A 43) x i + (if S.A 43 i = x then 1 else 0) := rfl
    rw [e1, e2]
    by_cases hh : S.A 43 i = x
    · rw [if_pos hh, ih m (i + 1) (c + 1) (by omega) (by omega), e3, if_pos hh]
      congr 1
      omega
    · rw [if_neg hh, ih m (i + 1) c (by omega) (by omega), e3, if_neg hh]
      congr 1
      omega
theorem g135_t {S : St} {x : Int} (hx : inR x) (h0 : 0 ≤ S.F 36 9) (h1 : S.F 36 9 ≤ 100) : g135 S x = some (cnt (S.A 43) x (S.F 36 9).toNat) := by
  obtain ⟨m, hm⟩ := FU_ge (n := 200) (by decide)
  have e := g135L4_t (S := S) hx h1 (S.F 36 9).toNat FU 0 0 (by omega) (by omega)
  unfold g135
  have e0 : ((0 : Nat) : Int) = 0 := rfl
  rw [e0] at e
  rw [e]
  show some (0 + cnt (S.A 43) x (0 + (S.F 36 9).toNat) - 0) = _
  rw [Nat.zero_add]
  congr 1
  omega
/-- where the search stands -/
def stn (S : St) : Int := if S.F 13 7 = -1 then (if S.F 13 8 = 0 then (if 0 < cnt (S.A 43) 0 (S.F 13 1).toNat then 0 else if S.F 13 4 = 0 then 3 else 4) else 2) else 1
theorem stn_R (S : St) : 0 ≤ stn S ∧ stn S ≤ 4 := by
  unfold stn
  split
  · split
    · split
      · omega
      · split <;> omega
    · omega
  · omega
theorem g12_t {S : St} (hb : RB S) (h : RK S) : g12 S = some (stn S) := by
  have hc := cnt_le (S.A 43) 0 (S.F 13 1).toNat
  have b1 := hb.1
  have b2 := hb.2.1
  unfold g12 stn
  rw [g13_t (by decide) hb h]
  by_cases h1 : S.F 13 7 = -1
  · rw [if_pos h1, if_pos h1]
    by_cases h2 : S.F 13 8 = 0
    · rw [if_pos h2, if_pos h2]
      show gd (inR (cnt (S.A 43) 0 (S.F 13 1).toNat)) _ = _
      refine (gd_t (by first | exact ⟨by omega, by omega⟩ | exact ⟨by omega, by omega, by omega⟩ | exact ⟨by omega, by omega, by omega, by omega⟩ | omega | exact inR_to _ | assumption | decide)).trans ?_
      by_cases h3 : 0 < cnt (S.A 43) 0 (S.F 13 1).toNat
      · rw [if_pos h3, if_pos h3]
      · rw [if_neg h3, if_neg h3]
        split <;> rfl
    · rw [if_neg h2, if_neg h2]
  · rw [if_neg h1, if_neg h1]
theorem g134_t {S : St} (hn : RN S) (hb : RB S) : g134 S = some (stn S) := by
  have hc := cnt_le (S.A 43) 0 (S.F 13 1).toNat
  obtain ⟨b1, b2, b3, b4, b5, b6, b7, b8, b9, b10⟩ := hb
  obtain ⟨n1, n2, n3, n4, n5, n6, n7, n8, n9, n10⟩ := hn
  unfold g134 stn
  rw [g135_t (by decide) (by omega) (by omega), n3, n6, n9, n10]
  by_cases h1 : S.F 13 7 = -1
  · rw [if_pos h1, if_pos (by omega)]
    by_cases h2 : S.F 13 8 = 0
    · rw [if_pos h2, if_pos h2]
      show gd (inR (cnt (S.A 43) 0 (S.F 13 1).toNat)) _ = _
      refine (gd_t (by first | exact ⟨by omega, by omega⟩ | exact ⟨by omega, by omega, by omega⟩ | exact ⟨by omega, by omega, by omega, by omega⟩ | omega | exact inR_to _ | assumption | decide)).trans ?_
      by_cases h3 : 0 < cnt (S.A 43) 0 (S.F 13 1).toNat
      · rw [if_pos h3, if_pos h3]
      · rw [if_neg h3, if_neg h3]
        split <;> rfl
    · rw [if_neg h2, if_neg h2]
  · rw [if_neg h1, if_neg (by omega)]
theorem state_ok {S : St} {j : Nat} (h : Rel S) (hr : Room j S) : ∃ x U, g11 S = some x ∧ g133 S = some (x, U) ∧ inR x ∧ Rel U ∧ Room (j + 1) U := by
  have hs := stn_R S
  refine ⟨stn S, S.f 36 0 0, ?_, ?_, ⟨by omega, by omega⟩, h.code 0, hr.next⟩
  · unfold g11
    rw [g12_t h.2.2.1 h.2.2.2.1]
    rfl
  · unfold g133
    rw [g134_t (h.code 0).2.1 (h.code 0).2.2.1]
    rfl
/-- the law's comparison of a call that may throw comes out true -/
def LW (j : Nat) (cw : Option (Int × St)) (mf : St → Option (Int × St)) : Prop := ∃ k S1 w S2, cw = some (k, S1) ∧ mf S1 = some (w, S2) ∧ inR k ∧ S2.F 36 0 = k ∧ (k = 0 → S2.O = lI w) ∧ Rel S2 ∧ Room (j + 1) S2
theorem LW.mk {j : Nat} {S : St} {cw : Option (Int × St)} {mf : St → Option (Int × St)} {x : Int} (h : Rel S) (hr : Room j S) (e1 : cw = some (0, S.o (lI x))) (e2 : mf (S.o (lI x)) = some (x, (S.o (lI x)).f 36 0 0)) : LW j cw mf := ⟨0, S.o (lI x), x, (S.o (lI x)).f 36 0 0, e1, e2, by decide, show (eI 0).toInt = 0 by decide, fun _ => rfl, (h.out _).code 0, hr.next⟩
theorem LW.er {j : Nat} {S : St} {cw : Option (Int × St)} {mf : St → Option (Int × St)} {c w : Int} (h : Rel S) (hr : Room j S) (hc : inR c) (hc0 : c ≠ 0) (e1 : cw = some (c, S.ho)) (e2 : mf S.ho = some (w, S.ho.f 36 0 c)) : LW j cw mf := ⟨c, S.ho, w, S.ho.f 36 0 c, e1, e2, hc, eI_to hc, fun h0 => absurd h0 hc0, h.hole.code c, hr.hole.code c⟩
theorem figure_ok {S : St} {j : Nat} {v : Int} (hv : inR v) (h : Rel S) (hr : Room j S) : LW j (g171 S v) (fun T => g157 T v) := by
  obtain ⟨b1, b2, b3, b4, b5, b6, b7, b8, b9, b10⟩ := h.2.2.1
  obtain ⟨n1, n2, n3, n4, n5, n6, n7, n8, n9, n10⟩ := h.2.1
  by_cases hv2 : 0 ≤ v ∧ v ≤ 8
  · have hc : v = 0 ∨ v = 1 ∨ v = 2 ∨ v = 3 ∨ v = 4 ∨ v = 5 ∨ v = 6 ∨ v = 7 ∨ v = 8 := by omega
    have gm : ∀ (T : St) (x : Int), T.A 43 = S.A 43 → T.F 36 9 = S.F 36 9 → inR x → g135 T x = some (cnt (S.A 43) x (S.F 13 1).toNat) := by
      intro T x e1 e2 hx
      rw [g135_t hx (by rw [e2, n3]; omega) (by rw [e2, n3]; omega), e1, e2, n3]
    rcases hc with e | e | e | e | e | e | e | e | e <;> subst e
    · exact LW.mk (x := S.F 13 1) h hr rfl (by show some (S.F 36 9, _) = _; rw [n3])
    · refine LW.mk (x := cnt (S.A 43) 0 (S.F 13 1).toNat) h hr ?_ ?_
      · show ob (ob (g13 S 0) (fun o4 => some (0, o4, S))) _ = _
        rw [g13_t (by decide) h.2.2.1 h.2.2.2.1]
        rfl
      · show ob (g135 ((S.o _).f 36 0 0) 0) (fun o => some (o, _)) = _
        rw [gm ((S.o (lI (cnt (S.A 43) 0 (S.F 13 1).toNat))).f 36 0 0) 0 rfl rfl (by decide)]
        rfl
    · refine LW.mk (x := cnt (S.A 43) 1 (S.F 13 1).toNat) h hr ?_ ?_
      · show ob (ob (g13 S 1) (fun o4 => some (0, o4, S))) _ = _
        rw [g13_t (by decide) h.2.2.1 h.2.2.2.1]
        rfl
      · show ob (g135 ((S.o _).f 36 0 0) 1) (fun o => some (o, _)) = _
        rw [gm ((S.o (lI (cnt (S.A 43) 1 (S.F 13 1).toNat))).f 36 0 0) 1 rfl rfl (by decide)]
        rfl
    · exact LW.mk (x := S.F 13 3) h hr rfl (by show some (S.F 36 16, _) = _; rw [n5])
    · exact LW.mk (x := S.F 13 4) h hr rfl (by show some (S.F 36 17, _) = _; rw [n6])
    · exact LW.mk (x := S.F 13 5) h hr rfl (by show some (S.F 36 18, _) = _; rw [n7])
    · exact LW.mk (x := S.F 13 6) h hr rfl (by show some (S.F 36 19, _) = _; rw [n8])
    · exact LW.mk (x := S.F 13 2) h hr rfl (by show some (S.F 36 20, _) = _; rw [n4])
    · exact LW.mk (x := S.F 0 5) h hr rfl (by show some (S.F 36 10, _) = _; rw [n2])
  · have e1 : g92 S v = some (1, 0, S.ho) := by
      unfold g92
      refine (gd_t (by first | exact ⟨by omega, by omega⟩ | exact ⟨by omega, by omega, by omega⟩ | exact ⟨by omega, by omega, by omega, by omega⟩ | omega | exact inR_to _ | assumption | decide)).trans ?_
      rw [if_neg (by omega), if_neg (by omega), if_neg (by omega), if_neg (by omega), if_neg (by omega), if_neg (by omega), if_neg (by omega), if_neg (by omega), if_neg (by omega)]
    refine LW.er (S := S) (c := 1) (w := 0) h hr (by decide) (by decide) ?_ ?_
    · unfold g171
      rw [e1]
      rfl
    · show g157 S.ho v = _
      unfold g157
      refine (gd_t (by first | exact ⟨by omega, by omega⟩ | exact ⟨by omega, by omega, by omega⟩ | exact ⟨by omega, by omega, by omega, by omega⟩ | omega | exact inR_to _ | assumption | decide)).trans ?_
      by_cases h0 : v < 0
      · rw [if_pos h0, if_neg (by omega), if_neg (by omega), if_neg (by omega), if_neg (by omega), if_neg (by omega), if_neg (by omega), if_neg (by omega), if_neg (by omega), if_neg (by omega)]
      · rw [if_neg h0, if_pos (by omega), if_neg (by omega), if_neg (by omega), if_neg (by omega), if_neg (by omega), if_neg (by omega), if_neg (by omega), if_neg (by omega), if_neg (by omega), if_neg (by omega)]
theorem out_ok {S : St} {j : Nat} {v : Int} (hv : inR v) (h : Rel S) (hr : Room j S) : LW j (g167 S v) (fun T => g153 T v) := by
  obtain ⟨o1, o2, o3, o4⟩ := h.2.2.2.2.2.2.1
  by_cases hv2 : 0 ≤ v ∧ v < S.F 28 1
  · obtain ⟨p1, p2, p3⟩ := o4 v hv2.1 hv2.2
    have e1 : g83 S v = some (0, S.A 29 v, S) := by
      unfold g83
      refine (gd_t (by first | exact ⟨by omega, by omega⟩ | exact ⟨by omega, by omega, by omega⟩ | exact ⟨by omega, by omega, by omega, by omega⟩ | omega | exact inR_to _ | assumption | decide)).trans ?_
      rw [if_neg (by omega), if_pos hv2.2]
      refine (gd_t (by first | exact ⟨by omega, by omega⟩ | exact ⟨by omega, by omega, by omega⟩ | exact ⟨by omega, by omega, by omega, by omega⟩ | omega | exact inR_to _ | assumption | decide)).trans ?_; refine (gd_t (by first | exact ⟨by omega, by omega⟩ | exact ⟨by omega, by omega, by omega⟩ | exact ⟨by omega, by omega, by omega, by omega⟩ | omega | exact inR_to _ | assumption | decide)).trans ?_
      rfl
    refine LW.mk (x := S.A 29 v) h hr ?_ ?_
    · unfold g167
      rw [e1]
      rfl
    · show g153 (S.o _) v = _
      unfold g153
      have f1 : (S.o (lI (S.A 29 v))).F 36 56 = S.F 28 1 := o1
      have f2 : (S.o (lI (S.A 29 v))).A 69 v = S.A 29 v := p1
      rw [f1, f2]
      refine (gd_t (by first | exact ⟨by omega, by omega⟩ | exact ⟨by omega, by omega, by omega⟩ | exact ⟨by omega, by omega, by omega, by omega⟩ | omega | exact inR_to _ | assumption | decide)).trans ?_
      rw [if_neg (by omega), if_pos hv2.2]
      refine (gd_t (by first | exact ⟨by omega, by omega⟩ | exact ⟨by omega, by omega, by omega⟩ | exact ⟨by omega, by omega, by omega, by omega⟩ | omega | exact inR_to _ | assumption | decide)).trans ?_; refine (gd_t (by first | exact ⟨by omega, by omega⟩ | exact ⟨by omega, by omega, by omega⟩ | exact ⟨by omega, by omega, by omega, by omega⟩ | omega | exact inR_to _ | assumption | decide)).trans ?_
      rfl
  · have e1 : g83 S v = some (3, 0, S.ho) := by
      unfold g83
      refine (gd_t (by first | exact ⟨by omega, by omega⟩ | exact ⟨by omega, by omega, by omega⟩ | exact ⟨by omega, by omega, by omega, by omega⟩ | omega | exact inR_to _ | assumption | decide)).trans ?_
      by_cases h0 : v < 0
      · rw [if_pos h0]
      · rw [if_neg h0, if_neg (by omega)]
    refine LW.er (S := S) (c := 1) (w := 0) h hr (by decide) (by decide) ?_ ?_
    · unfold g167
      rw [e1]
      rfl
    · show g153 S.ho v = _
      unfold g153
      have f1 : S.ho.F 36 56 = S.F 28 1 := o1
      rw [f1]
      refine (gd_t (by first | exact ⟨by omega, by omega⟩ | exact ⟨by omega, by omega, by omega⟩ | exact ⟨by omega, by omega, by omega, by omega⟩ | omega | exact inR_to _ | assumption | decide)).trans ?_
      by_cases h0 : v < 0
      · rw [if_pos h0]
      · rw [if_neg h0, if_neg (by omega)]
