/-! the relation that the law's loop keeps -/
/-- a clause that stands behind the fixed cells -/
def KT (tl : List Cl) (c : Nat) (n : Int) (o u : Int → Int) : Prop := 72 ≤ c ∧ ∃ (b s N M : Nat) (f g : Int → Int32) (x w : Int32), 72 ≤ b ∧ 72 ≤ s ∧ tl[c - 72]? = some (.ob 5 [b, s] [x, w]) ∧ x.toInt = n ∧ w.toInt = o n ∧ tl[b - 72]? = some (.ar N f) ∧ tl[s - 72]? = some (.ar M g) ∧ o n ≤ N ∧ N < 1048576 ∧ n < M ∧ M < 1048576 ∧ (∀ k : Int, 0 ≤ k → k ≤ n → (g k).toInt = o k) ∧ (∀ p : Int, 0 ≤ p → p < o n → (f p).toInt = u p)
theorem cl_tl {S : St} {c : Nat} (h : 72 ≤ c) : S.cl c = S.tl[c - 72]? := if_pos h
theorem KT.KC {S : St} {c : Nat} {n : Int} {o u : Int → Int} (h : KT S.tl c n o u) : KC S c n o u := by
  obtain ⟨h0, b, s, N, M, f, g, x, w, hb, hs, h1, h2, h3, h4, h5, h6⟩ := h
  exact ⟨b, s, N, M, f, g, x, w, (cl_tl h0).trans h1, h2, h3, (cl_tl hb).trans h4, (cl_tl hs).trans h5, h6⟩
/-- what stood there stands there still, but for the marks of kept clauses -/
def TX (t t' : List Cl) : Prop := ∀ (i : Nat) (x : Cl), t[i]? = some x → (∀ r v, x ≠ .ob 9 r v) → t'[i]? = some x
theorem KT.ext {t t' : List Cl} (hx : TX t t') {c : Nat} {n : Int} {o u : Int → Int} (h : KT t c n o u) : KT t' c n o u := by
  obtain ⟨h0, b, s, N, M, f, g, x, w, hb, hs, h1, h2, h3, h4, h5, h6⟩ := h
  refine ⟨h0, b, s, N, M, f, g, x, w, hb, hs, hx _ _ h1 ?_, h2, h3, hx _ _ h4 ?_, hx _ _ h5 ?_, h6⟩
  · intro r v e; cases e
  · intro r v e; cases e
  · intro r v e; cases e
theorem TX.app (t s : List Cl) : TX t (t ++ s) := fun i x h _ => by rw [List.getElem?_append_left (List.getElem?_eq_some_iff.mp h).1]; exact h
theorem TX.refl (t : List Cl) : TX t t := fun _ _ h _ => h
theorem TX.trans {a b c : List Cl} (h : TX a b) (g : TX b c) : TX a c := fun i x e n => g i x (h i x e n) n
def cnt (f : Int → Int) (x : Int) : Nat → Int
  | 0 => 0
  | n + 1 => cnt f x n + (if f n = x then 1 else 0)
theorem cnt_le (f : Int → Int) (x : Int) : ∀ n : Nat, 0 ≤ cnt f x n ∧ cnt f x n ≤ n := by
  intro n
  induction n with
  | zero => exact ⟨Int.le_refl _, Int.le_refl _⟩
  | succ n ih =>
    unfold cnt
    split <;> omega
def RT (S : St) : Prop := 0 ≤ S.F 1 1 ∧ S.F 1 1 ≤ 160 ∧ S.F 36 2 = S.F 1 1 ∧ ∀ i : Int, 0 ≤ i → i < S.F 1 1 → S.A 37 i = S.A 2 i ∧ 33 ≤ S.A 2 i ∧ S.A 2 i ≤ 126
def RN (S : St) : Prop := S.F 36 1 = S.F 0 6 ∧ S.F 36 10 = S.F 0 5 ∧ S.F 36 9 = S.F 13 1 ∧ S.F 36 20 = S.F 13 2 ∧ S.F 36 16 = S.F 13 3 ∧ S.F 36 17 = S.F 13 4 ∧ S.F 36 18 = S.F 13 5 ∧ S.F 36 19 = S.F 13 6 ∧ S.F 36 14 = S.F 13 7 ∧ S.F 36 15 = S.F 13 8
def RB (S : St) : Prop := 0 ≤ S.F 13 1 ∧ S.F 13 1 ≤ 100 ∧ 0 ≤ S.F 0 5 ∧ S.F 0 5 ≤ 24 ∧ 0 ≤ S.F 13 2 ∧ S.F 13 2 ≤ 99 ∧ (S.F 13 7 = -1 ∨ (0 ≤ S.F 13 7 ∧ S.F 13 7 < S.F 13 1)) ∧ b1R (S.F 13 8) ∧ 0 ≤ S.F 13 3 ∧ S.F 13 3 + cnt (S.A 43) 0 (S.F 13 1).toNat = S.F 13 1
/-- kept clause k -/
def RK1 (S : St) (k : Int) : Prop := ∃ (a c : Nat) (x0 x1 x2 x3 x4 x5 : Int32) (n : Int) (o u : Int → Int), S.R 14 k = some a ∧ 72 ≤ a ∧ S.tl[a - 72]? = some (.ob 9 [c] [x0, x1, x2, x3, x4, x5]) ∧ KT S.tl c n o u ∧ KM S k n o u ∧ WV n o u ∧ o n ≤ 16 ∧ S.A 43 k = x0.toInt ∧ 0 ≤ x0.toInt ∧ x0.toInt ≤ 2 ∧ S.A 44 k = x1.toInt ∧ S.A 45 (4 * k) = x2.toInt ∧ S.A 45 (4 * k + 1) = x3.toInt ∧ S.A 45 (4 * k + 2) = x4.toInt ∧ S.A 45 (4 * k + 3) = x5.toInt ∧ ((x1.toInt = 0 ∧ x2.toInt = -1 ∧ x4.toInt = -1) ∨ (0 < x1.toInt ∧ x1.toInt ≤ 2 ∧ 0 ≤ x2.toInt ∧ x2.toInt < k ∧ 0 ≤ x4.toInt ∧ x4.toInt < k))
def RK (S : St) : Prop := ∀ k : Int, 0 ≤ k → k < S.F 13 1 → RK1 S k
def RJ (S : St) : Prop := ∀ j k : Int, 0 ≤ j → j < S.F 13 1 → 0 ≤ k → k < S.F 13 1 → S.R 14 j = S.R 14 k → j = k
def RL (S : St) : Prop := ∀ k : Int, 0 ≤ k → k < S.F 0 5 → ∃ (c : Nat) (n : Int) (o u : Int → Int), S.R 35 k = some c ∧ KT S.tl c n o u ∧ KM S (100 + k) n o u ∧ WV n o u ∧ o n ≤ 16
def RO (S : St) : Prop := S.F 36 56 = S.F 28 1 ∧ 0 ≤ S.F 28 1 ∧ S.F 28 1 ≤ 128 ∧ ∀ i : Int, 0 ≤ i → i < S.F 28 1 → S.A 69 i = S.A 29 i ∧ 0 ≤ S.A 29 i ∧ S.A 29 i < 65536
def RX (S : St) : Prop := (∀ v : Int, 0 ≤ v → v < 64 → 0 ≤ S.A 25 v) ∧ ∀ k : Int, 0 ≤ k → k < 100 → S.A 27 k = 0
def Rel (S : St) : Prop := RT S ∧ RN S ∧ RB S ∧ RK S ∧ RJ S ∧ RL S ∧ RO S ∧ RX S
/-- room taken, after j calls -/
def Room (j : Nat) (S : St) : Prop := (S.tl.length : Int) ≤ 4 * S.F 13 1 + 3 * S.F 0 5 + j ∧ (S.ns : Int) ≤ 20574 + 40 * S.F 13 1 + 40 * S.F 0 5 + 6 * j
theorem RK1.ext {S T : St} {k : Int} (hx : TX S.tl T.tl) (hA : ∀ c, c ∈ [38, 39, 40, 41, 42, 43, 44, 45] → T.A c = S.A c) (hR : T.R 14 k = S.R 14 k) (ha : ∀ (a c : Nat) (v : List Int32), S.R 14 k = some a → S.tl[a - 72]? = some (.ob 9 [c] v) → T.tl[a - 72]? = some (.ob 9 [c] v)) (h : RK1 S k) : RK1 T k := by
  obtain ⟨a, c, x0, x1, x2, x3, x4, x5, n, o, u, h1, h2, h3, h4, h5, h6, h7, h8, h9, h10, h11, h12, h13, h14, h15, h16⟩ := h
  refine ⟨a, c, x0, x1, x2, x3, x4, x5, n, o, u, hR.trans h1, h2, ha a c _ h1 h3, h4.ext hx, ?_, h6, h7, ?_, h9, h10, ?_, ?_, ?_, ?_, ?_, h16⟩
  · unfold KM
    rw [hA 38 (by decide), hA 39 (by decide), hA 40 (by decide), hA 41 (by decide), hA 42 (by decide)]
    exact h5
  · rw [hA 43 (by decide)]; exact h8
  · rw [hA 44 (by decide)]; exact h11
  · rw [hA 45 (by decide)]; exact h12
  · rw [hA 45 (by decide)]; exact h13
  · rw [hA 45 (by decide)]; exact h14
  · rw [hA 45 (by decide)]; exact h15
/-- cells of which Rel speaks -/
def relC : List Nat := [0, 1, 2, 13, 14, 25, 27, 28, 29, 35, 36, 37, 38, 39, 40, 41, 42, 43, 44, 45, 69]
theorem Rel.same {S T : St} (ht : T.tl = S.tl) (hF : ∀ c ∈ relC, T.F c = S.F c) (hA : ∀ c ∈ relC, T.A c = S.A c) (hR : ∀ c ∈ relC, T.R c = S.R c) (h : Rel S) : Rel T := by
  unfold Rel RT RN RB RK RK1 RJ RL RO RX KM at h ⊢
  rw [ht, hF 0 (by decide), hF 1 (by decide), hF 13 (by decide), hF 28 (by decide), hF 36 (by decide), hA 2 (by decide), hA 25 (by decide), hA 27 (by decide), hA 29 (by decide), hA 37 (by decide), hA 38 (by decide), hA 39 (by decide), hA 40 (by decide), hA 41 (by decide), hA 42 (by decide), hA 43 (by decide), hA 44 (by decide), hA 45 (by decide), hA 69 (by decide), hR 14 (by decide), hR 35 (by decide)]
  exact h
theorem Rel.fr {X : List Nat} {S T : St} (hX : Fr X S T) (hd : ∀ c ∈ relC, c ∉ X) (h : Rel S) : Rel T :=
  Rel.same hX.1 (fun c hc => hX.F (hd c hc)) (fun c hc => hX.A (hd c hc)) (fun c hc => (hX.2.2.2 c (hd c hc)).2.2) h
theorem Room.fr {X : List Nat} {S T : St} {j : Nat} (hX : Fr X S T) (h13 : 13 ∉ X) (h0 : 0 ∉ X) (h : Room j S) : Room j T := by
  unfold Room at h ⊢
  rw [hX.1, hX.2.1, hX.F h13, hX.F h0]
  exact h
/-- the answer's code, out[0] and holes are not spoken of -/
theorem Rel.code {S : St} (x : Int) (h : Rel S) : Rel (S.f 36 0 x) := h
theorem Rel.out {S : St} (x : Int64) (h : Rel S) : Rel (S.o x) := h
theorem Rel.hole {S : St} (h : Rel S) : Rel S.ho := by
  obtain ⟨h1, h2, h3, h4, h5, h6, h7, h8⟩ := h
  refine ⟨h1, h2, h3, fun k k0 k1 => ?_, h5, fun k k0 k1 => ?_, h7, h8⟩
  · refine RK1.ext (S := S) (TX.app _ _) (fun c _ => rfl) rfl (fun a c v _ e => ?_) (h4 k k0 k1)
    show (S.tl ++ [Cl.ho])[a - 72]? = _
    rw [List.getElem?_append_left (List.getElem?_eq_some_iff.mp e).1]
    exact e
  · obtain ⟨c, n, o, u, a1, a2, a3, a4, a5⟩ := h6 k k0 k1
    exact ⟨c, n, o, u, a1, a2.ext (TX.app _ _), a3, a4, a5⟩
theorem Room.code {S : St} {j : Nat} (x : Int) (h : Room j S) : Room j (S.f 36 0 x) := h
theorem Room.out {S : St} {j : Nat} (x : Int64) (h : Room j S) : Room j (S.o x) := h
theorem Room.next {S : St} {j : Nat} (h : Room j S) : Room (j + 1) S := ⟨by have := h.1; omega, by have := h.2; omega⟩
theorem Room.hole {S : St} {j : Nat} (h : Room j S) : Room (j + 1) S.ho := by
  obtain ⟨h1, h2⟩ := h
  have e1 : S.ho.tl.length = S.tl.length + 1 := by show (S.tl ++ [Cl.ho]).length = _; rw [List.length_append]; rfl
  have e2 : S.ho.ns = S.ns + 6 := rfl
  have e3 : S.ho.F 13 1 = S.F 13 1 := rfl
  have e4 : S.ho.F 0 5 = S.F 0 5 := rfl
  unfold Room
  rw [e1, e2, e3, e4]
  constructor <;> omega
/-! wipe, at -/
theorem wipe_ok {S : St} {j : Nat} (h : Rel S) (hr : Room j S) : ∃ x T U, g9 S = some (x, T) ∧ g96 T = some (x, U) ∧ inR x ∧ Rel U ∧ Room (j + 1) U := by
  have hx := h
  obtain ⟨h1, h2, h3, h4, h5, h6, h7, h8⟩ := h
  refine ⟨S.F 1 1, S.f 1 1 0, ((S.f 1 1 0).f 36 0 0).f 36 2 0, rfl, ?_, inR_to _, ?_, hr.next⟩
  · show some (S.F 36 2, _) = _
    rw [h1.2.2.1]
  · refine ⟨?_, h2, h3, h4, h5, h6, h7, h8⟩
    unfold RT
    have e1 : (((S.f 1 1 0).f 36 0 0).f 36 2 0).F 1 1 = 0 := show (eI 0).toInt = 0 by decide
    have e2 : (((S.f 1 1 0).f 36 0 0).f 36 2 0).F 36 2 = 0 := show (eI 0).toInt = 0 by decide
    rw [e1, e2]
    exact ⟨by omega, by omega, rfl, fun i i0 i1 => absurd i1 (by omega)⟩
theorem at_ok {S : St} {j : Nat} (h : Rel S) (hr : Room j S) : ∃ x U, g10 S = some x ∧ g97 S = some (x, U) ∧ inR x ∧ Rel U ∧ Room (j + 1) U := by
  refine ⟨S.F 0 6, S.f 36 0 0, rfl, ?_, inR_to _, h.code 0, hr.next⟩
  show some (S.F 36 1, _) = _
  rw [h.2.1.1]
