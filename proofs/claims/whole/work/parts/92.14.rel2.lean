/-! the relation between the first object in S and the second in T -/
def MC (c : Nat) : Prop := 36 ≤ c ∧ c ≤ 70
def XN (S T : St) : Prop := T.F 36 10 = S.F 0 5 ∧ T.F 36 9 = S.F 13 1 ∧ T.F 36 20 = S.F 13 2 ∧ T.F 36 16 = S.F 13 3 ∧ T.F 36 17 = S.F 13 4 ∧ T.F 36 18 = S.F 13 5 ∧ T.F 36 19 = S.F 13 6 ∧ T.F 36 14 = S.F 13 7 ∧ T.F 36 15 = S.F 13 8
def XB (S : St) : Prop := 0 ≤ S.F 13 1 ∧ S.F 13 1 ≤ 100 ∧ 0 ≤ S.F 0 5 ∧ S.F 0 5 ≤ 24 ∧ 0 ≤ S.F 13 2 ∧ S.F 13 2 ≤ 99 ∧ (S.F 13 7 = -1 ∨ (0 ≤ S.F 13 7 ∧ S.F 13 7 < S.F 13 1)) ∧ b1R (S.F 13 8) ∧ 0 ≤ S.F 13 3 ∧ S.F 13 3 ≤ 101
/-- every step has given one clause -/
def XC (S T : St) : Prop := S.F 13 3 + cnt (T.A 43) 0 (S.F 13 1).toNat = S.F 13 1
def XK1 (S T : St) (k : Int) : Prop := ∃ (a c : Nat) (x0 x1 x2 x3 x4 x5 : Int32) (n : Int) (o u : Int → Int), S.R 14 k = some a ∧ 72 ≤ a ∧ S.tl[a - 72]? = some (.ob 9 [c] [x0, x1, x2, x3, x4, x5]) ∧ KT S.tl c n o u ∧ KM T k n o u ∧ WV n o u ∧ o n ≤ 16 ∧ T.A 43 k = x0.toInt ∧ 0 ≤ x0.toInt ∧ x0.toInt ≤ 2 ∧ T.A 44 k = x1.toInt ∧ T.A 45 (4 * k) = x2.toInt ∧ T.A 45 (4 * k + 1) = x3.toInt ∧ T.A 45 (4 * k + 2) = x4.toInt ∧ T.A 45 (4 * k + 3) = x5.toInt ∧ ((x1.toInt = 0 ∧ x2.toInt = -1 ∧ x4.toInt = -1) ∨ (0 < x1.toInt ∧ x1.toInt ≤ 2 ∧ 0 ≤ x2.toInt ∧ x2.toInt < k ∧ 0 ≤ x4.toInt ∧ x4.toInt < k))
def XK (S T : St) : Prop := ∀ k : Int, 0 ≤ k → k < S.F 13 1 → XK1 S T k
def XL (S T : St) : Prop := ∀ k : Int, 0 ≤ k → k < S.F 0 5 → ∃ (c : Nat) (n : Int) (o u : Int → Int), S.R 35 k = some c ∧ KT S.tl c n o u ∧ KM T (100 + k) n o u ∧ WV n o u ∧ o n ≤ 16
/-- what the search keeps: numbers, kept clauses, lines -/
def X2 (S T : St) : Prop := XN S T ∧ XB S ∧ XK S T ∧ RJ S ∧ XL S T ∧ RX S
theorem Rel.XC {S : St} (h : Rel S) : XC S S := h.2.2.1.2.2.2.2.2.2.2.2.2
theorem Rel.X2 {S : St} (h : Rel S) : X2 S S := ⟨h.2.1.2, (by
  obtain ⟨b1, b2, b3, b4, b5, b6, b7, b8, b9, b10⟩ := h.2.2.1
  have := cnt_le (S.A 43) 0 (S.F 13 1).toNat
  exact ⟨b1, b2, b3, b4, b5, b6, b7, b8, b9, by omega⟩), h.2.2.2.1, h.2.2.2.2.1, h.2.2.2.2.2.1, h.2.2.2.2.2.2.2⟩
theorem X2.Rel {S : St} (h : X2 S S) (hC : XC S S) (h1 : RT S) (h2 : S.F 36 1 = S.F 0 6) (h3 : RO S) : Rel S := ⟨h1, ⟨h2, h.1⟩, (by
  obtain ⟨b1, b2, b3, b4, b5, b6, b7, b8, b9, b10⟩ := h.2.1
  exact ⟨b1, b2, b3, b4, b5, b6, b7, b8, b9, hC⟩), h.2.2.1, h.2.2.2.1, h.2.2.2.2.1, h3, h.2.2.2.2.2⟩
/-- the second object is untouched -/
def FC (S S' : St) : Prop := S'.O = S.O ∧ ∀ c, MC c → S'.F0 c = S.F0 c ∧ S'.A0 c = S.A0 c
/-- the first object is untouched -/
def FM (T T' : St) : Prop := T'.tl = T.tl ∧ T'.ns = T.ns ∧ T'.O = T.O ∧ ∀ c, ¬ MC c → T'.F0 c = T.F0 c ∧ T'.A0 c = T.A0 c ∧ T'.R c = T.R c
theorem FC.refl (S : St) : FC S S := ⟨rfl, fun _ _ => ⟨rfl, rfl⟩⟩
theorem FM.refl (S : St) : FM S S := ⟨rfl, rfl, rfl, fun _ _ => ⟨rfl, rfl, rfl⟩⟩
theorem FC.trans {S T U : St} (h : FC S T) (g : FC T U) : FC S U := ⟨g.1.trans h.1, fun c hc => ⟨(g.2 c hc).1.trans (h.2 c hc).1, (g.2 c hc).2.trans (h.2 c hc).2⟩⟩
theorem FM.trans {S T U : St} (h : FM S T) (g : FM T U) : FM S U := ⟨g.1.trans h.1, g.2.1.trans h.2.1, g.2.2.1.trans h.2.2.1, fun c hc => ⟨(g.2.2.2 c hc).1.trans (h.2.2.2 c hc).1, (g.2.2.2 c hc).2.1.trans (h.2.2.2 c hc).2.1, (g.2.2.2 c hc).2.2.trans (h.2.2.2 c hc).2.2⟩⟩
theorem Fr.FC {X : List Nat} {S T : St} (h : Fr X S T) (hX : ∀ c ∈ X, ¬ MC c) : FC S T := ⟨h.2.2.1, fun c hc => ⟨(h.2.2.2 c (fun e => hX c e hc)).1, (h.2.2.2 c (fun e => hX c e hc)).2.1⟩⟩
theorem Fr.FM {X : List Nat} {S T : St} (h : Fr X S T) (hX : ∀ c ∈ X, MC c) : FM S T := ⟨h.1, h.2.1, h.2.2.1, fun c hc => h.2.2.2 c (fun e => hc (hX c e))⟩
theorem FC.A {S T : St} (h : FC S T) {c : Nat} (hc : MC c) : T.A c = S.A c := by
  funext i
  show (T.A0 c i).toInt = (S.A0 c i).toInt
  rw [(h.2 c hc).2]
theorem FC.F {S T : St} (h : FC S T) : T.F 36 = S.F 36 := by
  funext i
  show (T.F0 36 i).toInt = (S.F0 36 i).toInt
  rw [(h.2 36 ⟨by decide, by decide⟩).1]
theorem FM.A {S T : St} (h : FM S T) {c : Nat} (hc : ¬ MC c) : T.A c = S.A c := by
  funext i
  show (T.A0 c i).toInt = (S.A0 c i).toInt
  rw [(h.2.2.2 c hc).2.1]
theorem FM.F {S T : St} (h : FM S T) {c : Nat} (hc : ¬ MC c) : T.F c = S.F c := by
  funext i
  show (T.F0 c i).toInt = (S.F0 c i).toInt
  rw [(h.2.2.2 c hc).1]
theorem mc {c : Nat} (h : (36 ≤ c && c ≤ 70) = true) : MC c := by
  rw [Bool.and_eq_true, decide_eq_true_eq, decide_eq_true_eq] at h
  exact h
theorem nmc {c : Nat} (h : (36 ≤ c && c ≤ 70) = false) : ¬ MC c := by
  intro hc
  rw [show (decide (36 ≤ c) && decide (c ≤ 70)) = true by rw [decide_eq_true hc.1, decide_eq_true hc.2]; rfl] at h
  cases h
/-- the second object may be read in another state that holds it -/
theorem X2.m {S T V : St} (h : X2 S T) (f : FC T V) : X2 S V := by
  unfold X2 XN XB XK XK1 XL KM at h ⊢
  rw [f.F, f.A (mc (c := 38) rfl), f.A (mc (c := 39) rfl), f.A (mc (c := 40) rfl), f.A (mc (c := 41) rfl), f.A (mc (c := 42) rfl), f.A (mc (c := 43) rfl), f.A (mc (c := 44) rfl), f.A (mc (c := 45) rfl)]
  exact h
/-- and so the first -/
theorem X2.c {S T V : St} (h : X2 S T) (f : FM S V) : X2 V T := by
  unfold X2 XN XB XK XK1 XL RJ RX at h ⊢
  rw [f.1, (f.2.2.2 14 (nmc rfl)).2.2, (f.2.2.2 35 (nmc rfl)).2.2, f.F (nmc (c := 0) rfl), f.F (nmc (c := 13) rfl), f.A (nmc (c := 25) rfl), f.A (nmc (c := 27) rfl)]
  exact h
theorem X2.cov {S T V : St} (h : X2 S T) (hX : Fr [24, 25, 26] S V) (h25 : ∀ v : Int, 0 ≤ v → v < 64 → 0 ≤ V.A 25 v) : X2 V T := by
  obtain ⟨h1, h2, h3, h4, h5, h6⟩ := h
  have r14 : V.R 14 = S.R 14 := (hX.2.2.2 14 (by decide)).2.2
  have r35 : V.R 35 = S.R 35 := (hX.2.2.2 35 (by decide)).2.2
  unfold X2 XN XB XK XK1 XL RJ RX at *
  rw [hX.1, r14, r35, hX.F (show 0 ∉ [24, 25, 26] by decide), hX.F (show 13 ∉ [24, 25, 26] by decide), hX.A (show 27 ∉ [24, 25, 26] by decide)]
  exact ⟨h1, h2, h3, h4, h5, h25, h6.2⟩
theorem XC.m {S T V : St} (h : XC S T) (f : FC T V) : XC S V := by
  unfold XC at h ⊢
  rw [f.A (mc (c := 43) rfl)]
  exact h
theorem XC.c {S T V : St} (h : XC S T) (f : FM S V) : XC V T := by
  unfold XC at h ⊢
  rw [f.F (nmc (c := 13) rfl)]
  exact h
/-- a call of both: the second runs in the state that the first leaves -/
theorem twice {α : Type} {cf : St → Option (α × St)} {mf : St → Option (α × St)} {S : St} (h : X2 S S) (hC : XC S S) (sim : ∀ T, X2 S T → XC S T → FC S T → ∃ x S' T', cf S = some (x, S') ∧ mf T = some (x, T') ∧ X2 S' T' ∧ XC S' T' ∧ FC S S' ∧ FM T T') : ∃ x S' T', cf S = some (x, S') ∧ mf S' = some (x, T') ∧ X2 T' T' ∧ XC T' T' ∧ FC S S' ∧ FM S' T' := by
  obtain ⟨x, S', T', a1, a2, a3, a4, a5, a6⟩ := sim S h hC (FC.refl S)
  obtain ⟨y, S2, T2, b1, b2, b3, b4, b5, b6⟩ := sim S' (h.m a5) (hC.m a5) a5
  rw [a1] at b1
  cases b1
  exact ⟨x, S', T2, a1, b2, b3.c b6, b4.c b6, a5, b6⟩
