theorem bin_steps {tx : Int → Int} {len pos c v : Int} {S T : St} {d : Int} {rc : St → Int → Int → Option (Int × St)} (hQ : QX tx len) (h1 : RC0 tx len S pos) (h2 : RM tx len T pos) (hc : tx pos = c) (hB : isB c) (hv : b1R v) (d0 : 0 ≤ d) (d1 : d < 10) : (∀ (n : Nat) (v4 : Int), g101L10 (n + 1) v d v4 1 T = g101L10 n (if c = 62 then 1 - v else v) (d + 1) v4 1 (psh T pos d c v)) ∧ g22b rc S v d = g34p rc (S.f 1 4 (pos + 1)) (if c = 62 then 1 - v else v) v (if isP c v = true then 0 else 1) d := by
  rcases hB with e | e | e <;> subst e <;> rcases hv with e | e <;> subst e
  · exact ⟨fun n v4 => L10_38_0 hQ h2 hc d0 d1, (g22_38_0 hQ h1 hc d0 d1).trans g34_38_0⟩
  · exact ⟨fun n v4 => L10_38_1 hQ h2 hc d0 d1, (g22_38_1 hQ h1 hc d0 d1).trans g34_38_1⟩
  · exact ⟨fun n v4 => L10_124_0 hQ h2 hc d0 d1, (g22_124_0 hQ h1 hc d0 d1).trans g34_124_0⟩
  · exact ⟨fun n v4 => L10_124_1 hQ h2 hc d0 d1, (g22_124_1 hQ h1 hc d0 d1).trans g34_124_1⟩
  · exact ⟨fun n v4 => L10_62_0 hQ h2 hc d0 d1, (g22_62_0 hQ h1 hc d0 d1).trans g34_62_0⟩
  · exact ⟨fun n v4 => L10_62_1 hQ h2 hc d0 d1, (g22_62_1 hQ h1 hc d0 d1).trans g34_62_1⟩
theorem not_steps {tx : Int → Int} {len pos v : Int} {S T : St} {d : Int} {rc : St → Int → Int → Option (Int × St)} (hQ : QX tx len) (h1 : RC0 tx len S pos) (h2 : RM tx len T pos) (hc : tx pos = 126) (hv : b1R v) (d0 : 0 ≤ d) (d1 : d < 10) : (∀ (n : Nat) (v4 : Int), g101L10 (n + 1) v d v4 1 T = g101L10 n (1 - v) (d + 1) v4 1 (psh T pos d 126 v)) ∧ g22b rc S v d = rc (S.f 1 4 (pos + 1)) (1 - v) (d + 1) := by
  rcases hv with e | e <;> subst e
  · exact ⟨fun n v4 => L10_126_0 hQ h2 hc d0 d1, g22_126_0 hQ h1 hc d0 d1⟩
  · exact ⟨fun n v4 => L10_126_1 hQ h2 hc d0 d1, g22_126_1 hQ h1 hc d0 d1⟩
/-- does the sign make a function -/
def isX (c v : Int) : Bool := if c = 63 then decide (v = 0) else decide (v = 1)
theorem qnt_steps {tx : Int → Int} {len pos c v : Int} {S T : St} {d : Int} {rc : St → Int → Int → Option (Int × St)} (hQ : QX tx len) (h1 : RC0 tx len S pos) (h2 : RM tx len T pos) (hc : tx pos = c) (hq : c = 33 ∨ c = 63) (hv : b1R v) (d0 : 0 ≤ d) (d1 : d < 10) : (∀ (n : Nat) (v4 : Int), g101L10 (n + 1) v d v4 1 T = ob (g116 (psh T pos d c v) (if isX c v = true then 0 else 1)) (fun o => g101L10 n v (d + 1) v4 1 o)) ∧ g22b rc S v d = g37b rc (S.f 1 4 (pos + 1)) (if isX c v = true then 1 else 0) v d := by
  rcases hq with e | e <;> subst e <;> rcases hv with e | e <;> subst e
  · exact ⟨fun n v4 => L10_33_0 hQ h2 hc d0 d1, g22_33_0 hQ h1 hc d0 d1⟩
  · exact ⟨fun n v4 => L10_33_1 hQ h2 hc d0 d1, g22_33_1 hQ h1 hc d0 d1⟩
  · exact ⟨fun n v4 => L10_63_0 hQ h2 hc d0 d1, g22_63_0 hQ h1 hc d0 d1⟩
  · exact ⟨fun n v4 => L10_63_1 hQ h2 hc d0 d1, g22_63_1 hQ h1 hc d0 d1⟩
theorem sml_app {R1 R2 : List (List Int)} (h : sml (R1 ++ R2)) : sml R1 ∧ sml R2 := by
  obtain ⟨h1, h2⟩ := h
  rw [List.length_append] at h1 h2
  refine ⟨⟨by omega, fun i i0 i1 => ?_⟩, ⟨by omega, fun i i0 i1 => ?_⟩⟩
  · have := h2 i i0 (by omega)
    rw [lt_l i0 i1] at this
    exact this
  · have := h2 (R1.length + i) (by omega) (by omega)
    rw [lt_r (by omega), show (R1.length : Int) + i - R1.length = i by omega] at this
    exact this
theorem sml_prd {R1 R2 : List (List Int)} (h : sml (prd R1 R2)) (p1 : 0 < R1.length) (p2 : 0 < R2.length) : sml R1 ∧ sml R2 := by
  obtain ⟨h1, h2⟩ := h
  rw [prd_len] at h1 h2
  have eP : ((R1.length : Int) * R2.length) = (R1.length * R2.length : Nat) := by rw [Int.natCast_mul]
  have a1 : R1.length ≤ R1.length * R2.length := Nat.le_mul_of_pos_right _ p2
  have a2 : R2.length ≤ R1.length * R2.length := Nat.le_mul_of_pos_left _ p1
  refine ⟨⟨by omega, fun i i0 i1 => ?_⟩, ⟨by omega, fun i i0 i1 => ?_⟩⟩
  · have k0 : 0 ≤ i * (R2.length : Int) := Int.mul_nonneg i0 (by omega)
    have k1 : i * (R2.length : Int) < (R1.length * R2.length : Nat) := by
      rw [← eP]
      exact Int.mul_lt_mul_of_pos_right i1 (by omega)
    have := h2 (i * R2.length) k0 k1
    rw [prd_at k0 k1, Int.mul_ediv_cancel _ (by omega), List.length_append] at this
    omega
  · have k1 : i < (R1.length * R2.length : Nat) := by omega
    have := h2 i i0 k1
    rw [prd_at i0 k1, Int.emod_eq_of_lt i0 i1, List.length_append] at this
    omega
theorem sml_comb {p : Bool} {R1 R2 : List (List Int)} (h : sml (comb p R1 R2)) (p1 : 0 < R1.length) (p2 : 0 < R2.length) : sml R1 ∧ sml R2 := by
  cases p with
  | true => exact sml_prd h p1 p2
  | false => exact sml_app h
theorem FQ.m2 {tx : Int → Int} {len pos : Int} {S T T' : St} {d q k : Nat} {nm cd num : Int → Int} {L : List (List Int)} (h : FQ tx len S T pos d q k nm cd num L) (hA : ∀ c ∈ [37, 46, 47, 50, 51, 52, 60, 61], T'.A c = T.A c) (hF : ∀ i ∈ [2, 22, 27, 28, 29, 30, 34, 35, 46], T'.F 36 i = T.F 36 i) (hb : b1R (T'.F 36 36)) (h0 : T'.F 36 36 = 0 → T.F 36 36 = 0) : FQ tx len S T' pos d q k nm cd num L := by
  obtain ⟨⟨h1, h2⟩, ⟨h3, h4, h5⟩, ⟨n1, n2, n3, n4, n5, n6, n7, n8⟩, ⟨l1, l2, l3⟩, ht, ⟨g1, g2⟩, g3⟩ := h
  unfold FQ
  rw [hF 35 (by decide), hF 34 (by decide), hF 22 (by decide), hF 46 (by decide), hA 46 (by decide), hA 47 (by decide), hA 60 (by decide), hA 61 (by decide)]
  refine ⟨⟨h1, ?_⟩, ⟨h3, ?_, ?_⟩, ⟨n1, n2, n3, n4, n5, n6, n7, n8⟩, ⟨l1, hb, fun h => l3 (h0 h)⟩, ht, ⟨g1, g2⟩, g3⟩
  · unfold RM at h2 ⊢
    rw [hF 2 (by decide), hF 27 (by decide), hF 28 (by decide), hF 22 (by decide), hA 37 (by decide)]
    exact h2
  · unfold EMf at h4 ⊢
    rw [hF 29 (by decide), hF 30 (by decide), hA 50 (by decide), hA 51 (by decide)]
    exact h4
  · unfold UF at h5 ⊢
    rw [hA 52 (by decide)]
    exact h5
theorem FQ.pair {tx : Int → Int} {len pos : Int} {S S' T : St} {d q k : Nat} {nm cd num : Int → Int} {L : List (List Int)} (h : FQ tx len S T pos (d + 1) (q + 2) k nm cd num L) (f : Fr [3, 4, 5, 6, 7, 8] S S') (e5 : S'.F 3 5 = S.F 3 5 + 1) (e7 : S'.F 3 7 = S.F 3 7) : FQ tx len S' T pos d (q + 1) k nm cd num L := by
  obtain ⟨⟨h1, h2⟩, ⟨h3, h4, h5⟩, ⟨n1, n2, n3, n4, n5, n6, n7, n8⟩, hl, ⟨t1, t2, t3, t4, t5⟩, hg, g3⟩ := h
  have f1 : S'.F 1 = S.F 1 := f.F (by decide)
  unfold FQ RC0 ECf
  rw [f1, f.A (show 2 ∉ [3, 4, 5, 6, 7, 8] by decide), f.A (show 10 ∉ [3, 4, 5, 6, 7, 8] by decide), f.A (show 11 ∉ [3, 4, 5, 6, 7, 8] by decide), e5, e7]
  exact ⟨⟨h1, h2⟩, ⟨h3, h4, h5⟩, ⟨n1, n2, n3, n4, n5, n6, n7, n8⟩, hl, ⟨by omega, by omega, by omega, t4, t5⟩, hg, g3⟩
theorem FQ.d {tx : Int → Int} {len pos : Int} {S T : St} {d q k : Nat} {nm cd num : Int → Int} {L : List (List Int)} (h : FQ tx len S T pos (d + 1) q k nm cd num L) : FQ tx len S T pos d q k nm cd num L := by
  obtain ⟨h1, h2, h3, h4, ⟨t1, t2, t3, t4, t5⟩, h6, h7⟩ := h
  exact ⟨h1, h2, h3, h4, ⟨t1, by omega, t3, t4, t5⟩, h6, h7⟩
theorem bad_sim {tx : Int → Int} {len pos v : Int} {S T : St} {d q k : Nat} {nm cd num : Int → Int} {L : List (List Int)} {rc : St → Int → Int → Option (Int × St)} (hQ : QX tx len) (h : FQ tx len S T pos d q k nm cd num L) (hd : d ≤ 10) (hl : ¬ (65 ≤ tx pos ∧ tx pos ≤ 90)) (hs : isS (tx pos) → 10 ≤ d) : PB len S T v d (g22b rc S v d) := by
  obtain ⟨⟨h1, h2⟩, _⟩ := h
  have l160 := hQ.2.1
  have p0 := h1.2.2.2.2.1
  have p1 := h1.2.2.2.2.2
  have iR : inR pos := ⟨by omega, by omega⟩
  refine ⟨pos, S.f 1 3 pos, T.f 36 28 1, 2, g22_bad hQ h1 hl (fun h => by have := hs h; omega) (by omega) (by omega), by rw [f_F iR, if_pos rfl, if_pos rfl], p0, ⟨p1, by have := h1.2.1; omega⟩, FP.f1 S (by decide) _, fun n v4 => ⟨v4, L10_bad hQ h2 hl (fun h => by have := hs h; omega) (by omega) (by omega)⟩, by rw [f_F (by decide), if_pos rfl, if_pos rfl], by rw [f_F (by decide), if_pos rfl, if_neg (by decide)]; exact h2.2.1, Fx.f T (by decide) _⟩
