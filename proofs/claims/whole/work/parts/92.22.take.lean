/-! taking in: what stands in the drafts of both -/
theorem w_F (S : St) (l : List Cl) (n : Nat) : (S.w l n).F = S.F := rfl
theorem w_A (S : St) (l : List Cl) (n : Nat) : (S.w l n).A = S.A := rfl
theorem w_R (S : St) (l : List Cl) (n : Nat) : (S.w l n).R = S.R := rfl
theorem w_tl (S : St) (l : List Cl) (n : Nat) : (S.w l n).tl = S.tl ++ l := rfl
theorem f_R (S : St) (c k : Nat) (x : Int) : (S.f c k x).R = S.R := rfl
theorem a_R (S : St) (c : Nat) (i x : Int) : (S.a c i x).R = S.R := rfl
theorem r_F (S : St) (c : Nat) (i : Int) (x : Option Nat) : (S.r c i x).F = S.F := rfl
theorem r_A (S : St) (c : Nat) (i : Int) (x : Option Nat) : (S.r c i x).A = S.A := rfl
theorem r_tl (S : St) (c : Nat) (i : Int) (x : Option Nat) : (S.r c i x).tl = S.tl := rfl
theorem r_R (S : St) (c : Nat) (i : Int) (x : Option Nat) : (S.r c i x).R c = upI (S.R c) i x := if_pos rfl
theorem r_Rn {S : St} {c d : Nat} {i : Int} {x : Option Nat} (h : d ≠ c) : (S.r c i x).R d = S.R d := if_neg h
theorem fF_ne {S : St} {c d k : Nat} {x : Int} (h : d ≠ c) : (S.f c k x).F d = S.F d := by
  funext i
  show (((if d = c then (fun b => if b = k then eI x else S.F0 d b) else S.F0 d) i)).toInt = _
  rw [if_neg h]
  rfl
theorem KD.fr {S T : St} {n : Int} {o u : Int → Int} (h : KD S n o u) (hX : Fr [24, 25, 26] S T) : KD T n o u := by
  unfold KD at h ⊢
  rw [hX.F (show 16 ∉ [24, 25, 26] by decide), hX.A (show 17 ∉ [24, 25, 26] by decide), hX.A (show 18 ∉ [24, 25, 26] by decide)]
  exact h
/-- the clause of kept clause g stands at c -/
def CR (S : St) (g : Int) (c : Nat) : Prop := ∃ (a : Nat) (v : List Int32), S.R 14 g = some a ∧ 72 ≤ a ∧ S.tl[a - 72]? = some (.ob 9 [c] v)
/-- the first object keeps its draft's copy -/
theorem keep_c {V : St} {n k1 k2 k3 k4 k5 : Int} {o u : Int → Int} (h : KD V n o u) (hW : WK n o u) (c0 : 0 ≤ V.F 13 1) (c1 : V.F 13 1 < 100) : ∃ (f g : Int → Int32) (N : Nat), ob (g58_15 (V.nw 9 7)) (fun o14 => gN o14.2 V.top 9 (gd (ixR (V.F 13 1) 100) (gK (o14.2.t V.top (.ob 9 [o14.1] [0, eI k1, eI k2, eI k3, eI k4, eI k5])) V.top (fun c19 n20 n21 n22 n23 n24 n25 => if (o14.2.F 16 2) = 0 then some ((((o14.2.t V.top (.ob 9 [o14.1] [0, eI k1, eI k2, eI k3, eI k4, eI k5])).r 14 (V.F 13 1) (some V.top)).f 13 7 (o14.2.F 13 1)).f 13 1 ((o14.2.F 13 1) + 1)) else some (((o14.2.t V.top (.ob 9 [o14.1] [0, eI k1, eI k2, eI k3, eI k4, eI k5])).r 14 (V.F 13 1) (some V.top)).f 13 1 ((o14.2.F 13 1) + 1)))))) = some (if n = 0 then ((((V.w [.ob 9 [V.top + 1] [0, eI k1, eI k2, eI k3, eI k4, eI k5], .ob 5 [V.top + 2, V.top + 3] [eI n, eI (o n)], .ar (o n).toNat f, .ar (n + 1).toNat g] N).r 14 (V.F 13 1) (some V.top)).f 13 7 (V.F 13 1)).f 13 1 (V.F 13 1 + 1)) else (((V.w [.ob 9 [V.top + 1] [0, eI k1, eI k2, eI k3, eI k4, eI k5], .ob 5 [V.top + 2, V.top + 3] [eI n, eI (o n)], .ar (o n).toNat f, .ar (n + 1).toNat g] N).r 14 (V.F 13 1) (some V.top)).f 13 1 (V.F 13 1 + 1))) ∧ (∀ k : Int, 0 ≤ k → k ≤ n → (g k).toInt = o k) ∧ (∀ p : Int, 0 ≤ p → p < o n → (f p).toInt = u p) ∧ N = V.ns + 7 + 4 + (o n).toNat + (n + 1).toNat := by
  have top0 : 72 ≤ V.top := by unfold St.top; omega
  have hD : KD (V.nw 9 7) n o u := h
  obtain ⟨f, g, e1, e2, e3⟩ := copy_t hD hW
  have et : (V.nw 9 7).top = V.top + 1 := by
    show 72 + (V.tl ++ [Cl.nw 9]).length = _
    rw [List.length_append]
    unfold St.top
    rfl
  rw [et] at e1
  have ew : (V.nw 9 7).w [.ob 5 [V.top + 1 + 1, V.top + 1 + 2] [eI n, eI (o n)], .ar (o n).toNat f, .ar (n + 1).toNat g] ((V.nw 9 7).ns + 4 + (o n).toNat + (n + 1).toNat) = V.w [.nw 9, .ob 5 [V.top + 2, V.top + 3] [eI n, eI (o n)], .ar (o n).toNat f, .ar (n + 1).toNat g] (V.ns + 7 + 4 + (o n).toNat + (n + 1).toNat) := by
    unfold St.w
    show St.mk V.F0 V.A0 V.R ((V.tl ++ [Cl.nw 9]) ++ _) _ V.O = _
    rw [List.append_assoc]
    rfl
  rw [ew] at e1
  refine ⟨f, g, V.ns + 7 + 4 + (o n).toNat + (n + 1).toNat, ?_, e2, e3, rfl⟩
  rw [e1]
  show gN (V.w _ _) V.top 9 _ = _
  refine (gN_t (show (V.w _ _).cl V.top = some (.nw 9) from w_cl (i := 0)) top0).trans ?_
  refine (gd_t (by first | exact ⟨by omega, by omega⟩ | exact ⟨by omega, by omega, by omega⟩ | exact ⟨by omega, by omega, by omega, by omega⟩ | omega | exact inR_to _ | assumption | decide)).trans ?_
  have e0 : ∀ (l : List Cl) (k : Nat) (x : Cl), (V.w l k).t V.top x = V.w (l.set 0 x) k := fun l k x => w_t (i := 0)
  show gK ((V.w _ _).t V.top (.ob 9 [V.top + 1] [0, eI k1, eI k2, eI k3, eI k4, eI k5])) V.top _ = _
  rw [e0]
  refine (gK_t (show (V.w _ _).cl V.top = some (.ob 9 [V.top + 1] [0, eI k1, eI k2, eI k3, eI k4, eI k5]) from w_cl (i := 0))).trans ?_
  show (if V.F 16 2 = 0 then _ else _) = _
  rw [h.1]
  by_cases hn : n = 0
  · rw [if_pos hn, if_pos hn]
    rfl
  · rw [if_neg hn, if_neg hn]
    rfl
set_option maxRecDepth 1000000 in
/-- a kept clause more: the relation goes on -/
theorem X2.keep {V U U1 S' T' : St} {n k1 k2 k3 k4 k5 e : Int} {o u : Int → Int} {f g : Int → Int32} {N : Nat} (h : X2 V U) (hW : WV n o u) (ho : o n ≤ 16) (cc : V.F 13 1 < 100) (hf : ∀ k : Int, 0 ≤ k → k ≤ n → (g k).toInt = o k) (hg : ∀ p : Int, 0 ≤ p → p < o n → (f p).toInt = u p)
    (hk : (k1 = 0 ∧ k2 = -1 ∧ k4 = -1) ∨ (0 < k1 ∧ k1 ≤ 2 ∧ 0 ≤ k2 ∧ k2 < V.F 13 1 ∧ 0 ≤ k4 ∧ k4 < V.F 13 1)) (i3 : inR k3) (i5 : inR k5)
    (s1 : KM U1 (V.F 13 1) n o u) (s2 : ∀ (s n' : Int) (o' u' : Int → Int), s ≠ V.F 13 1 → s < 124 → WK n' o' u' → KM U s n' o' u' → KM U1 s n' o' u') (s3 : Fr [38, 39, 40, 41, 42] U U1)
    (he : e = if n = 0 then V.F 13 1 else V.F 13 7)
    (hS : S' = (((V.w [.ob 9 [V.top + 1] [0, eI k1, eI k2, eI k3, eI k4, eI k5], .ob 5 [V.top + 2, V.top + 3] [eI n, eI (o n)], .ar (o n).toNat f, .ar (n + 1).toNat g] N).r 14 (V.F 13 1) (some V.top)).f 13 7 e).f 13 1 (V.F 13 1 + 1))
    (hT : T' = ((((((((U1.a 43 (V.F 13 1) 0).a 44 (V.F 13 1) k1).a 45 (4 * V.F 13 1) k2).a 45 (4 * V.F 13 1 + 1) k3).a 45 (4 * V.F 13 1 + 2) k4).a 45 (4 * V.F 13 1 + 3) k5).f 36 14 e).f 36 9 (V.F 13 1 + 1))) : X2 S' T' := by
  have hX := h
  obtain ⟨h1, h2, h3, h4, h5, h6⟩ := h
  obtain ⟨b1, b2, b3, b4, b5, b6, b7, b8, b9, b10⟩ := h2
  obtain ⟨n1, n2, n3, n4, n5, n6, n7, n8, n9⟩ := h1
  have hW' := hW
  obtain ⟨⟨w1, w2, w3, w4, w5, w6, w7⟩, wv, wh⟩ := hW
  have wn := w6 n w1 (by omega)
  have i1 : inR k1 := by rcases hk with q | q <;> exact ⟨by omega, by omega⟩
  have i2 : inR k2 := by rcases hk with q | q <;> exact ⟨by omega, by omega⟩
  have i4 : inR k4 := by rcases hk with q | q <;> exact ⟨by omega, by omega⟩
  have ie : inR e := by rw [he]; split; exact inR_to _; exact inR_to _
  have ic : inR (V.F 13 1 + 1) := ⟨by omega, by omega⟩
  have top0 : 72 ≤ V.top := by unfold St.top; omega
  have F13 : ∀ i, S'.F 13 i = if i = 1 then V.F 13 1 + 1 else if i = 7 then e else V.F 13 i := by
    intro i
    rw [hS, f_F ic, if_pos rfl, f_F ie, if_pos rfl, r_F, w_F]
  have F36 : ∀ i, T'.F 36 i = if i = 9 then V.F 13 1 + 1 else if i = 14 then e else U.F 36 i := by
    intro i
    rw [hT, f_F ic, if_pos rfl, f_F ie, if_pos rfl, a_F, a_F, a_F, a_F, a_F, a_F, s3.F (show 36 ∉ [38, 39, 40, 41, 42] by decide)]
  have F0 : S'.F 0 = V.F 0 := by rw [hS, fF_ne (by decide), fF_ne (by decide), r_F, w_F]
  have tl : S'.tl = V.tl ++ [.ob 9 [V.top + 1] [0, eI k1, eI k2, eI k3, eI k4, eI k5], .ob 5 [V.top + 2, V.top + 3] [eI n, eI (o n)], .ar (o n).toNat f, .ar (n + 1).toNat g] := by rw [hS, f_tl, f_tl, r_tl, w_tl]
  have R14 : ∀ i, S'.R 14 i = if i = V.F 13 1 then some V.top else V.R 14 i := by intro i; rw [hS, f_R, f_R, r_R, w_R]; rfl
  have R35 : S'.R 35 = V.R 35 := by rw [hS, f_R, f_R, r_Rn (by decide), w_R]
  have A25 : S'.A 25 = V.A 25 := by rw [hS, f_A, f_A, r_A, w_A]
  have A27 : S'.A 27 = V.A 27 := by rw [hS, f_A, f_A, r_A, w_A]
  have tx : TX V.tl S'.tl := by rw [tl]; exact TX.app _ _
  have kml : ∀ (s n' : Int) (o' u' : Int → Int), KM U1 s n' o' u' → KM T' s n' o' u' := by
    intro s n' o' u' q
    have ee : ∀ c : Nat, c ∉ [43, 44, 45] → T'.A c = U1.A c := by
      intro c hc
      have h43 : c ≠ 43 := fun e => hc (by rw [e]; decide)
      have h44 : c ≠ 44 := fun e => hc (by rw [e]; decide)
      have h45 : c ≠ 45 := fun e => hc (by rw [e]; decide)
      rw [hT, f_A, f_A, aA_ne h45, aA_ne h45, aA_ne h45, aA_ne h45, aA_ne h44, aA_ne h43]
    unfold KM at q ⊢
    rw [ee 38 (by decide), ee 39 (by decide), ee 40 (by decide), ee 41 (by decide), ee 42 (by decide)]
    exact q
  have T43 : ∀ p, T'.A 43 p = if p = V.F 13 1 then 0 else U.A 43 p := by
    intro p
    rw [hT, f_A, f_A, aA_ne (by decide), aA_ne (by decide), aA_ne (by decide), aA_ne (by decide), aA_ne (by decide), a_A (by decide), if_pos rfl, s3.A (show 43 ∉ [38, 39, 40, 41, 42] by decide)]
  have T44 : ∀ p, T'.A 44 p = if p = V.F 13 1 then k1 else U.A 44 p := by
    intro p
    rw [hT, f_A, f_A, aA_ne (by decide), aA_ne (by decide), aA_ne (by decide), aA_ne (by decide), a_A i1, if_pos rfl, aA_ne (by decide), s3.A (show 44 ∉ [38, 39, 40, 41, 42] by decide)]
  have T45 : ∀ p, T'.A 45 p = if p = 4 * V.F 13 1 + 3 then k5 else if p = 4 * V.F 13 1 + 2 then k4 else if p = 4 * V.F 13 1 + 1 then k3 else if p = 4 * V.F 13 1 then k2 else U.A 45 p := by
    intro p
    rw [hT, f_A, f_A, a_A i5, if_pos rfl, a_A i4, if_pos rfl, a_A i3, if_pos rfl, a_A i2, if_pos rfl, aA_ne (by decide), aA_ne (by decide), s3.A (show 45 ∉ [38, 39, 40, 41, 42] by decide)]
  have e00 : (0 : Int) = Int32.toInt 0 := by decide
  have c13 : S'.F 13 1 = V.F 13 1 + 1 := by rw [F13, if_pos rfl]
  refine ⟨⟨?_, ?_, ?_, ?_, ?_, ?_, ?_, ?_, ?_⟩, ⟨?_, ?_, ?_, ?_, ?_, ?_, ?_, ?_, ?_, ?_⟩, fun k k0 k1' => ?_, fun x y x0 x1 y0 y1 e2 => ?_, fun k k0 k1' => ?_, ?_, ?_⟩
  · rw [F36, F0, if_neg (by decide), if_neg (by decide)]; exact n1
  · rw [F36, F13, if_pos rfl, if_pos rfl]
  · rw [F36, F13, if_neg (by decide), if_neg (by decide), if_neg (by decide), if_neg (by decide)]; exact n3
  · rw [F36, F13, if_neg (by decide), if_neg (by decide), if_neg (by decide), if_neg (by decide)]; exact n4
  · rw [F36, F13, if_neg (by decide), if_neg (by decide), if_neg (by decide), if_neg (by decide)]; exact n5
  · rw [F36, F13, if_neg (by decide), if_neg (by decide), if_neg (by decide), if_neg (by decide)]; exact n6
  · rw [F36, F13, if_neg (by decide), if_neg (by decide), if_neg (by decide), if_neg (by decide)]; exact n7
  · rw [F36, F13, if_neg (by decide), if_pos rfl, if_neg (by decide), if_pos rfl]
  · rw [F36, F13, if_neg (by decide), if_neg (by decide), if_neg (by decide), if_neg (by decide)]; exact n9
  · rw [c13]; omega
  · rw [c13]; omega
  · rw [F0]; exact b3
  · rw [F0]; exact b4
  · rw [F13, if_neg (by decide), if_neg (by decide)]; exact b5
  · rw [F13, if_neg (by decide), if_neg (by decide)]; exact b6
  · rw [c13, F13, if_neg (by decide), if_pos rfl, he]
    split
    · exact Or.inr ⟨b1, by omega⟩
    · rcases b7 with q | q
      · exact Or.inl q
      · exact Or.inr ⟨q.1, by omega⟩
  · rw [F13, if_neg (by decide), if_neg (by decide)]; exact b8
  · rw [F13, if_neg (by decide), if_neg (by decide)]; exact b9
  · rw [F13, if_neg (by decide), if_neg (by decide)]; exact b10
  · rw [c13] at k1'
    by_cases ek : k = V.F 13 1
    · refine ⟨V.top, V.top + 1, 0, eI k1, eI k2, eI k3, eI k4, eI k5, n, o, u, ?_, top0, ?_, ⟨by omega, V.top + 2, V.top + 3, (o n).toNat, (n + 1).toNat, f, g, eI n, eI (o n), by omega, by omega, ?_, eI_to ⟨by omega, by omega⟩, eI_to ⟨by omega, by omega⟩, ?_, ?_, by omega, by omega, by omega, by omega, hf, hg⟩, ?_, hW', ho, ?_, by rw [← e00]; omega, by rw [← e00]; omega, ?_, ?_, ?_, ?_, ?_, ?_⟩
      · rw [R14, if_pos ek]
      · rw [tl, show V.top - 72 = V.tl.length + 0 by unfold St.top; omega, ap_g]; rfl
      · rw [tl, show V.top + 1 - 72 = V.tl.length + 1 by unfold St.top; omega, ap_g]; rfl
      · rw [tl, show V.top + 2 - 72 = V.tl.length + 2 by unfold St.top; omega, ap_g]; rfl
      · rw [tl, show V.top + 3 - 72 = V.tl.length + 3 by unfold St.top; omega, ap_g]; rfl
      · rw [ek]; exact kml _ _ _ _ s1
      · rw [T43, if_pos ek]; exact e00
      · rw [T44, if_pos ek, eI_to i1]
      · rw [T45, ek, if_neg (by omega), if_neg (by omega), if_neg (by omega), if_pos rfl, eI_to i2]
      · rw [T45, ek, if_neg (by omega), if_neg (by omega), if_pos rfl, eI_to i3]
      · rw [T45, ek, if_neg (by omega), if_pos rfl, eI_to i4]
      · rw [T45, ek, if_pos rfl, eI_to i5]
      · rw [eI_to i1, eI_to i2, eI_to i4, ek]; exact hk
    · obtain ⟨a', c', y0, y1, y2, y3, y4, y5, nn, oo, uu, q1, q2, q3, q4, q5, q6, q7, q8, q9, q10, q11, q12, q13, q14, q15, q16⟩ := h3 k k0 (by omega)
      refine ⟨a', c', y0, y1, y2, y3, y4, y5, nn, oo, uu, ?_, q2, ?_, q4.ext tx, kml _ _ _ _ (s2 k nn oo uu ek (by omega) q6.1 q5), q6, q7, ?_, q9, q10, ?_, ?_, ?_, ?_, ?_, q16⟩
      · rw [R14, if_neg ek]; exact q1
      · rw [tl, List.getElem?_append_left (List.getElem?_eq_some_iff.mp q3).1]; exact q3
      · rw [T43, if_neg ek]; exact q8
      · rw [T44, if_neg ek]; exact q11
      · rw [T45, if_neg (by omega), if_neg (by omega), if_neg (by omega), if_neg (by omega)]; exact q12
      · rw [T45, if_neg (by omega), if_neg (by omega), if_neg (by omega), if_neg (by omega)]; exact q13
      · rw [T45, if_neg (by omega), if_neg (by omega), if_neg (by omega), if_neg (by omega)]; exact q14
      · rw [T45, if_neg (by omega), if_neg (by omega), if_neg (by omega), if_neg (by omega)]; exact q15
  · rw [c13] at x1 y1
    rw [R14, R14] at e2
    have old : ∀ z : Int, 0 ≤ z → z < V.F 13 1 → V.R 14 z ≠ some V.top := by
      intro z z0 z1 ez
      obtain ⟨a', c', _, _, _, _, _, _, _, _, _, q1, q2, q3, _⟩ := h3 z z0 z1
      rw [q1] at ez
      cases ez
      have := (List.getElem?_eq_some_iff.mp q3).1
      unfold St.top at this
      omega
    by_cases ex : x = V.F 13 1
    · by_cases ey : y = V.F 13 1
      · omega
      · rw [if_pos ex, if_neg ey] at e2
        exact absurd e2.symm (old y y0 (by omega))
    · by_cases ey : y = V.F 13 1
      · rw [if_neg ex, if_pos ey] at e2
        exact absurd e2 (old x x0 (by omega))
      · rw [if_neg ex, if_neg ey] at e2
        exact h4 x y x0 (by omega) y0 (by omega) e2
  · rw [F0] at k1'
    obtain ⟨c', nn, oo, uu, q1, q2, q3, q4, q5⟩ := h5 k k0 k1'
    exact ⟨c', nn, oo, uu, by rw [R35]; exact q1, q2.ext tx, kml _ _ _ _ (s2 (100 + k) nn oo uu (by omega) (by omega) q4.1 q3), q4, q5⟩
  · rw [A25]; exact h6.1
  · rw [A27]; exact h6.2
