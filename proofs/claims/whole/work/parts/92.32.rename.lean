/-! names anew -/
def rnf : (Int → Int) → Int → List Int → List Int
  | _, _, [] => []
  | m, c, x :: xs => if x < 32768 then (if m (x / 256) = -1 then c * 256 :: rnf (upI m (x / 256) c) (c + 1) xs else m (x / 256) * 256 :: rnf m c xs) else x :: rnf m c xs
theorem upI_e (m : Int → Int) (i x : Int) : upI m i x i = x := if_pos rfl
theorem upI_n {m : Int → Int} {i j x : Int} (h : j ≠ i) : upI m i x j = m j := if_neg h
theorem rnf_len : ∀ (L : List Int) (m : Int → Int) (c : Int), (rnf m c L).length = L.length
  | [], _, _ => rfl
  | x :: xs, m, c => by
    show (if x < 32768 then (if m (x / 256) = -1 then c * 256 :: rnf (upI m (x / 256) c) (c + 1) xs else m (x / 256) * 256 :: rnf m c xs) else x :: rnf m c xs).length = _
    split
    · split
      · exact congrArg Nat.succ (rnf_len xs _ _)
      · exact congrArg Nat.succ (rnf_len xs _ _)
    · exact congrArg Nat.succ (rnf_len xs _ _)
theorem gI_c0 (x : Int) (l : List Int) : gI (x :: l) 0 = x := rfl
theorem gI_cs {x i : Int} {l : List Int} (h : 0 ≤ i) : gI (x :: l) (i + 1) = gI l i := by
  unfold gI
  rw [show (i + 1).toNat = i.toNat + 1 by omega]
  rfl
theorem gI_cp {x i : Int} {l : List Int} (h : 0 < i) : gI (x :: l) i = gI l (i - 1) := by
  have := gI_cs (x := x) (l := l) (i := i - 1) (by omega)
  rw [show i - 1 + 1 = i by omega] at this
  exact this
theorem rnf_at : ∀ (L : List Int) (m : Int → Int) (c i : Int), 0 ≤ c → (∀ v, m v = -1 ∨ (0 ≤ m v ∧ m v < c)) → 0 ≤ i → i < L.length → (32768 ≤ gI L i → gI (rnf m c L) i = gI L i) ∧ (gI L i < 32768 → ∃ j : Int, 0 ≤ j ∧ j ≤ c + i ∧ gI (rnf m c L) i = j * 256)
  | [], _, _, i, _, _, i0, i1 => absurd i1 (by show ¬ i < ((0 : Nat) : Int); omega)
  | x :: xs, m, c, i, c0, hm, i0, i1 => by
    have i1 : i < ((xs.length + 1 : Nat) : Int) := i1
    show (_ → gI (if x < 32768 then (if m (x / 256) = -1 then c * 256 :: rnf (upI m (x / 256) c) (c + 1) xs else m (x / 256) * 256 :: rnf m c xs) else x :: rnf m c xs) i = _) ∧ (_ → ∃ j : Int, 0 ≤ j ∧ j ≤ c + i ∧ gI (if x < 32768 then (if m (x / 256) = -1 then c * 256 :: rnf (upI m (x / 256) c) (c + 1) xs else m (x / 256) * 256 :: rnf m c xs) else x :: rnf m c xs) i = _)
    by_cases hi : i = 0
    · subst hi
      rw [gI_c0]
      constructor
      · intro h
        rw [if_neg (by omega)]
        rfl
      · intro h
        rw [if_pos h]
        split
        · exact ⟨c, c0, by omega, rfl⟩
        · next hn => exact ⟨m (x / 256), by rcases hm (x / 256) with e | e <;> omega, by rcases hm (x / 256) with e | e <;> omega, rfl⟩
    · rw [gI_cp (x := x) (by omega)]
      have k1 : i - 1 < xs.length := by omega
      by_cases hx : x < 32768
      · rw [if_pos hx]
        by_cases hn : m (x / 256) = -1
        · rw [if_pos hn, gI_cp (by omega)]
          have := rnf_at xs (upI m (x / 256) c) (c + 1) (i - 1) (by omega) (fun v => by
            by_cases hv : v = x / 256
            · rw [hv, upI_e]; omega
            · rw [upI_n hv]; rcases hm v with e | e <;> omega) (by omega) k1
          refine ⟨this.1, fun h => ?_⟩
          obtain ⟨j, j0, j1, j2⟩ := this.2 h
          exact ⟨j, j0, by omega, j2⟩
        · rw [if_neg hn, gI_cp (by omega)]
          have := rnf_at xs m c (i - 1) c0 hm (by omega) k1
          refine ⟨this.1, fun h => ?_⟩
          obtain ⟨j, j0, j1, j2⟩ := this.2 h
          exact ⟨j, j0, by omega, j2⟩
      · rw [if_neg hx, gI_cp (by omega)]
        have := rnf_at xs m c (i - 1) c0 hm (by omega) k1
        refine ⟨this.1, fun h => ?_⟩
        obtain ⟨j, j0, j1, j2⟩ := this.2 h
        exact ⟨j, j0, by omega, j2⟩
theorem g48L10_15 : ∀ (r n : Nat) (i : Int) (S : St), 0 ≤ i → i + r = S.F 16 3 → S.F 16 3 ≤ 80 → (∀ p : Int, 0 ≤ p → p < S.F 16 3 → 0 ≤ S.A 17 p) → r < n → ∃ T, g48_15L10 n i S = some T ∧ Fr [17, 19] S T ∧ T.A 17 = S.A 17 ∧ (∀ p : Int, i ≤ p → p < S.F 16 3 → S.A 17 p < 32768 → T.A 19 (S.A 17 p / 256) = -1) ∧ ∀ v, T.A 19 v = S.A 19 v ∨ T.A 19 v = -1 := by
  intro r
  induction r with
  | zero =>
    intro n i S i0 hr h8 hp hn
    obtain ⟨n, rfl⟩ : ∃ k, n = k + 1 := ⟨n - 1, by omega⟩
    refine ⟨S, ?_, Fr.refl _ _, rfl, fun p p0 p1 => absurd p1 (by omega), fun v => Or.inl rfl⟩
    unfold g48_15L10
    refine (gd_t (by first | exact ⟨by omega, by omega⟩ | exact ⟨by omega, by omega, by omega⟩ | exact ⟨by omega, by omega, by omega, by omega⟩ | omega | exact inR_to _ | assumption | decide)).trans ?_
    exact if_neg (by omega)
  | succ r ih =>
    intro n i S i0 hr h8 hp hn
    obtain ⟨n, rfl⟩ : ∃ k, n = k + 1 := ⟨n - 1, by omega⟩
    have h0 := hp i i0 (by omega)
    by_cases hx : S.A 17 i < 32768
    · have e4 : (S.a 19 (S.A 17 i / 256) (-1)).A 19 = upI (S.A 19) (S.A 17 i / 256) (-1) := aA_up (by decide)
      obtain ⟨T, t1, t2, t3, t4, t5⟩ := ih n (i + 1) (S.a 19 (S.A 17 i / 256) (-1)) (by omega) (show i + 1 + (r : Int) = S.F 16 3 by omega) h8 hp (by omega)
      refine ⟨T, ?_, (Fr.a (by decide)).trans t2, t3, fun p p0 p1 p2 => ?_, fun v => ?_⟩
      · rw [g48_15L10]
        refine (gd_t (by first | exact ⟨by omega, by omega⟩ | exact ⟨by omega, by omega, by omega⟩ | exact ⟨by omega, by omega, by omega, by omega⟩ | omega | exact inR_to _ | assumption | decide)).trans ?_
        rw [if_pos (by omega)]
        refine (gd_t (by first | exact ⟨by omega, by omega⟩ | exact ⟨by omega, by omega, by omega⟩ | exact ⟨by omega, by omega, by omega, by omega⟩ | omega | exact inR_to _ | assumption | decide)).trans ?_
        rw [if_pos hx]
        refine (gd_t (by first | exact ⟨by omega, by omega⟩ | exact ⟨by omega, by omega, by omega⟩ | exact ⟨by omega, by omega, by omega, by omega⟩ | omega | exact inR_to _ | assumption | decide)).trans ?_
        exact t1
      · by_cases hpi : p = i
        · rcases t5 (S.A 17 p / 256) with e | e
          · rw [e, e4, hpi, upI_e]
          · exact e
        · exact t4 p (by omega) p1 p2
      · rcases t5 v with e | e
        · rw [e4] at e
          by_cases hv : v = S.A 17 i / 256
          · rw [hv, upI_e] at e
            rw [hv]
            exact Or.inr e
          · rw [upI_n hv] at e
            exact Or.inl e
        · exact Or.inr e
    · obtain ⟨T, t1, t2, t3, t4, t5⟩ := ih n (i + 1) S (by omega) (by omega) h8 hp (by omega)
      refine ⟨T, ?_, t2, t3, fun p p0 p1 p2 => ?_, t5⟩
      · rw [g48_15L10]
        refine (gd_t (by first | exact ⟨by omega, by omega⟩ | exact ⟨by omega, by omega, by omega⟩ | exact ⟨by omega, by omega, by omega, by omega⟩ | omega | exact inR_to _ | assumption | decide)).trans ?_
        rw [if_pos (by omega)]
        refine (gd_t (by first | exact ⟨by omega, by omega⟩ | exact ⟨by omega, by omega, by omega⟩ | exact ⟨by omega, by omega, by omega, by omega⟩ | omega | exact inR_to _ | assumption | decide)).trans ?_
        rw [if_neg hx]
        exact t1
      · exact t4 p (by have : p ≠ i := fun e => hx (e ▸ p2); omega) p1 p2
theorem g48L51_15 : ∀ (xs : List Int) (n : Nat) (c p : Int) (m : Int → Int) (S : St), 0 ≤ p → p + xs.length = S.F 16 3 → S.F 16 3 ≤ 80 → (∀ i : Int, 0 ≤ i → i < xs.length → S.A 17 (p + i) = gI xs i) → (∀ x ∈ xs, 0 ≤ x ∧ (x < 32768 → S.A 19 (x / 256) = m (x / 256))) → 0 ≤ c → c + xs.length ≤ 200 → (∀ v, m v = -1 ∨ (0 ≤ m v ∧ m v < c)) → xs.length < n → ∃ T, g48_15L51 n c p S = some T ∧ Fr [17, 19] S T ∧ (∀ i : Int, i < p → T.A 17 i = S.A 17 i) ∧ (∀ i : Int, 0 ≤ i → i < xs.length → T.A 17 (p + i) = gI (rnf m c xs) i) := by
  intro xs
  induction xs with
  | nil =>
    intro n c p m S p0 hp h8 hx hm c0 c1 mv hn
    obtain ⟨n, rfl⟩ : ∃ k, n = k + 1 := ⟨n - 1, by omega⟩
    have hp : p + ((0 : Nat) : Int) = S.F 16 3 := hp
    refine ⟨S, ?_, Fr.refl _ _, fun _ _ => rfl, fun i i0 i1 => absurd i1 (by show ¬ i < ((0 : Nat) : Int); omega)⟩
    unfold g48_15L51
    refine (gd_t (by first | exact ⟨by omega, by omega⟩ | exact ⟨by omega, by omega, by omega⟩ | exact ⟨by omega, by omega, by omega, by omega⟩ | omega | exact inR_to _ | assumption | decide)).trans ?_
    exact if_neg (by omega)
  | cons x xs ih =>
    intro n c p m S p0 hp h8 hx hm c0 c1 mv hn
    have hl : ((x :: xs).length : Int) = xs.length + 1 := rfl
    have hn : xs.length + 1 < n := hn
    obtain ⟨n, rfl⟩ : ∃ k, n = k + 1 := ⟨n - 1, by omega⟩
    have e0 : S.A 17 p = x := by
      have := hx 0 (by omega) (by omega)
      rw [show p + 0 = p by omega] at this
      exact this
    have h0 := hm x (List.mem_cons_self)
    have rest : ∀ i : Int, 0 ≤ i → i < xs.length → S.A 17 (p + 1 + i) = gI xs i := fun i i0 i1 => by
      have := hx (i + 1) (by omega) (by omega)
      rw [gI_cs i0] at this
      rw [show p + 1 + i = p + (i + 1) by omega]
      exact this
    by_cases h3 : x < 32768
    · have hv := h0.2 h3
      by_cases hf : m (x / 256) = -1
      · have e1 : rnf m c (x :: xs) = c * 256 :: rnf (upI m (x / 256) c) (c + 1) xs := by
          rw [rnf, if_pos h3, if_pos hf]
        have cR : inR c := ⟨by omega, by omega⟩
        have cR2 : inR (c * 256) := ⟨by omega, by omega⟩
        have e4 : ((S.a 19 (x / 256) c).a 17 p (c * 256)).A 19 = upI (S.A 19) (x / 256) c := (aA_ne (by decide)).trans (aA_up cR)
        have e2 : ((S.a 19 (x / 256) c).a 17 p (c * 256)).A 17 = upI (S.A 17) p (c * 256) := (aA_up cR2).trans (by rw [aA_ne (by decide)])
        obtain ⟨T, t1, t2, t3, t4⟩ := ih n (c + 1) (p + 1) (upI m (x / 256) c) ((S.a 19 (x / 256) c).a 17 p (c * 256)) (by omega) (show p + 1 + (xs.length : Int) = S.F 16 3 by omega) h8 (fun i i0 i1 => by rw [e2, upI_n (by omega)]; exact rest i i0 i1) (fun y hy => ⟨(hm y (List.mem_cons_of_mem _ hy)).1, fun hy3 => by
          rw [e4]
          by_cases hyx : y / 256 = x / 256
          · rw [hyx, upI_e, upI_e]
          · rw [upI_n hyx, upI_n hyx]
            exact (hm y (List.mem_cons_of_mem _ hy)).2 hy3⟩) (by omega) (by omega) (fun v => by
          by_cases hvx : v = x / 256
          · rw [hvx, upI_e]; omega
          · rw [upI_n hvx]; rcases mv v with e | e <;> omega) (by omega)
        refine ⟨T, ?_, ((Fr.a (by decide)).trans (Fr.a (by decide))).trans t2, fun i hi => ?_, fun i i0 i1 => ?_⟩
        · rw [g48_15L51]
          refine (gd_t (by first | exact ⟨by omega, by omega⟩ | exact ⟨by omega, by omega, by omega⟩ | exact ⟨by omega, by omega, by omega, by omega⟩ | omega | exact inR_to _ | assumption | decide)).trans ?_
          rw [if_pos (by omega)]
          refine (gd_t (by first | exact ⟨by omega, by omega⟩ | exact ⟨by omega, by omega, by omega⟩ | exact ⟨by omega, by omega, by omega, by omega⟩ | omega | exact inR_to _ | assumption | decide)).trans ?_
          rw [e0, if_pos h3]
          refine (gd_t (by first | exact ⟨by omega, by omega⟩ | exact ⟨by omega, by omega, by omega⟩ | exact ⟨by omega, by omega, by omega, by omega⟩ | omega | exact inR_to _ | assumption | decide)).trans ?_
          rw [hv, if_pos hf, show (S.a 19 (x / 256) c).A 19 (x / 256) = c from by rw [aA_up cR, upI_e]]
          exact t1
        · rw [t3 i (by omega), e2, upI_n (by omega)]
        · rw [e1]
          by_cases hi : i = 0
          · rw [hi, t3 (p + 0) (by omega), e2, show p + 0 = p by omega, upI_e]
            rfl
          · have := t4 (i - 1) (by omega) (by omega)
            rw [show p + 1 + (i - 1) = p + i by omega] at this
            rw [this, gI_cp (by omega)]
      · have e1 : rnf m c (x :: xs) = m (x / 256) * 256 :: rnf m c xs := by
          rw [rnf, if_pos h3, if_neg hf]
        have mb : 0 ≤ m (x / 256) ∧ m (x / 256) < c := by rcases mv (x / 256) with e | e; exact absurd e hf; exact e
        have cR2 : inR (m (x / 256) * 256) := ⟨by omega, by omega⟩
        have e2 : (S.a 17 p (m (x / 256) * 256)).A 17 = upI (S.A 17) p (m (x / 256) * 256) := aA_up cR2
        obtain ⟨T, t1, t2, t3, t4⟩ := ih n c (p + 1) m (S.a 17 p (m (x / 256) * 256)) (by omega) (show p + 1 + (xs.length : Int) = S.F 16 3 by omega) h8 (fun i i0 i1 => by rw [e2, upI_n (by omega)]; exact rest i i0 i1) (fun y hy => ⟨(hm y (List.mem_cons_of_mem _ hy)).1, fun hy3 => by
          rw [aA_ne (by decide)]
          exact (hm y (List.mem_cons_of_mem _ hy)).2 hy3⟩) c0 (by omega) mv (by omega)
        refine ⟨T, ?_, (Fr.a (by decide)).trans t2, fun i hi => ?_, fun i i0 i1 => ?_⟩
        · rw [g48_15L51]
          refine (gd_t (by first | exact ⟨by omega, by omega⟩ | exact ⟨by omega, by omega, by omega⟩ | exact ⟨by omega, by omega, by omega, by omega⟩ | omega | exact inR_to _ | assumption | decide)).trans ?_
          rw [if_pos (by omega)]
          refine (gd_t (by first | exact ⟨by omega, by omega⟩ | exact ⟨by omega, by omega, by omega⟩ | exact ⟨by omega, by omega, by omega, by omega⟩ | omega | exact inR_to _ | assumption | decide)).trans ?_
          rw [e0, if_pos h3]
          refine (gd_t (by first | exact ⟨by omega, by omega⟩ | exact ⟨by omega, by omega, by omega⟩ | exact ⟨by omega, by omega, by omega, by omega⟩ | omega | exact inR_to _ | assumption | decide)).trans ?_
          rw [hv, if_neg hf]
          exact t1
        · rw [t3 i (by omega), e2, upI_n (by omega)]
        · rw [e1]
          by_cases hi : i = 0
          · rw [hi, t3 (p + 0) (by omega), e2, show p + 0 = p by omega, upI_e]
            rfl
          · have := t4 (i - 1) (by omega) (by omega)
            rw [show p + 1 + (i - 1) = p + i by omega] at this
            rw [this, gI_cp (by omega)]
    · have e1 : rnf m c (x :: xs) = x :: rnf m c xs := by
        rw [rnf, if_neg h3]
      obtain ⟨T, t1, t2, t3, t4⟩ := ih n c (p + 1) m S (by omega) (by omega) h8 rest (fun y hy => hm y (List.mem_cons_of_mem _ hy)) c0 (by omega) mv (by omega)
      refine ⟨T, ?_, t2, fun i hi => t3 i (by omega), fun i i0 i1 => ?_⟩
      · rw [g48_15L51]
        refine (gd_t (by first | exact ⟨by omega, by omega⟩ | exact ⟨by omega, by omega, by omega⟩ | exact ⟨by omega, by omega, by omega, by omega⟩ | omega | exact inR_to _ | assumption | decide)).trans ?_
        rw [if_pos (by omega)]
        refine (gd_t (by first | exact ⟨by omega, by omega⟩ | exact ⟨by omega, by omega, by omega⟩ | exact ⟨by omega, by omega, by omega, by omega⟩ | omega | exact inR_to _ | assumption | decide)).trans ?_
        rw [e0, if_neg h3]
        exact t1
      · rw [e1]
        by_cases hi : i = 0
        · rw [hi, t3 (p + 0) (by omega), show p + 0 = p by omega, e0]
          rfl
        · have := t4 (i - 1) (by omega) (by omega)
          rw [show p + 1 + (i - 1) = p + i by omega] at this
          rw [this, gI_cp (by omega)]
theorem g48_15_t {S : St} {L : List Int} (hl : (L.length : Int) = S.F 16 3) (h8 : S.F 16 3 ≤ 80) (hx : ∀ i : Int, 0 ≤ i → i < L.length → S.A 17 i = gI L i) (h0 : ∀ x ∈ L, 0 ≤ x) : ∃ T, g48_15 S = some T ∧ Fr [17, 19] S T ∧ ∀ i : Int, 0 ≤ i → i < L.length → T.A 17 i = gI (rnf (fun _ => -1) 0 L) i := by
  obtain ⟨m9, hm9⟩ := FU_ge (n := 100) (by decide)
  have hmem : ∀ i : Int, 0 ≤ i → i < L.length → gI L i ∈ L := fun i i0 i1 => by
    unfold gI
    rw [List.getD_eq_getElem?_getD, List.getElem?_eq_getElem (by omega : i.toNat < L.length)]
    exact List.getElem_mem _
  obtain ⟨T, t1, t2, t3, t4, t5⟩ := g48L10_15 L.length FU 0 S (by omega) (by omega) h8 (fun p p0 p1 => by rw [hx p p0 (by omega)]; exact h0 _ (hmem p p0 (by omega))) (by omega)
  have f3 : T.F 16 3 = S.F 16 3 := by rw [t2.F (show 16 ∉ [17, 19] by decide)]
  obtain ⟨U, u1, u2, u3, u4⟩ := g48L51_15 L FU 0 0 (fun _ => -1) T (by omega) (by omega) (by omega) (fun i i0 i1 => by rw [show 0 + i = i by omega, t3]; exact hx i i0 i1) (fun x hx2 => ⟨h0 x hx2, fun h3 => by
    obtain ⟨i, hi, e⟩ := List.mem_iff_getElem.mp hx2
    have e2 : gI L i = x := by
      unfold gI
      rw [List.getD_eq_getElem?_getD, show ((i : Nat) : Int).toNat = i by omega, List.getElem?_eq_getElem hi]
      exact e
    have e3 := hx i (by omega) (by omega)
    rw [e2] at e3
    have := t4 i (by omega) (by omega) (by rw [e3]; exact h3)
    rw [e3] at this
    exact this⟩) (by omega) (by omega) (fun _ => Or.inl rfl) (by omega)
  refine ⟨U, ?_, t2.trans u2, fun i i0 i1 => by have := u4 i i0 i1; rw [show 0 + i = i by omega] at this; exact this⟩
  unfold g48_15
  rw [t1]
  refine (ob_t rfl).trans ?_
  rw [u1]
  rfl
theorem g48L10_30 : ∀ (r n : Nat) (i : Int) (S : St), 0 ≤ i → i + r = S.F 31 3 → S.F 31 3 ≤ 80 → (∀ p : Int, 0 ≤ p → p < S.F 31 3 → 0 ≤ S.A 32 p) → r < n → ∃ T, g48_30L10 n i S = some T ∧ Fr [32, 34] S T ∧ T.A 32 = S.A 32 ∧ (∀ p : Int, i ≤ p → p < S.F 31 3 → S.A 32 p < 32768 → T.A 34 (S.A 32 p / 256) = -1) ∧ ∀ v, T.A 34 v = S.A 34 v ∨ T.A 34 v = -1 := by
  intro r
  induction r with
  | zero =>
    intro n i S i0 hr h8 hp hn
    obtain ⟨n, rfl⟩ : ∃ k, n = k + 1 := ⟨n - 1, by omega⟩
    refine ⟨S, ?_, Fr.refl _ _, rfl, fun p p0 p1 => absurd p1 (by omega), fun v => Or.inl rfl⟩
    unfold g48_30L10
    refine (gd_t (by first | exact ⟨by omega, by omega⟩ | exact ⟨by omega, by omega, by omega⟩ | exact ⟨by omega, by omega, by omega, by omega⟩ | omega | exact inR_to _ | assumption | decide)).trans ?_
    exact if_neg (by omega)
  | succ r ih =>
    intro n i S i0 hr h8 hp hn
    obtain ⟨n, rfl⟩ : ∃ k, n = k + 1 := ⟨n - 1, by omega⟩
    have h0 := hp i i0 (by omega)
    by_cases hx : S.A 32 i < 32768
    · have e4 : (S.a 34 (S.A 32 i / 256) (-1)).A 34 = upI (S.A 34) (S.A 32 i / 256) (-1) := aA_up (by decide)
      obtain ⟨T, t1, t2, t3, t4, t5⟩ := ih n (i + 1) (S.a 34 (S.A 32 i / 256) (-1)) (by omega) (show i + 1 + (r : Int) = S.F 31 3 by omega) h8 hp (by omega)
      refine ⟨T, ?_, (Fr.a (by decide)).trans t2, t3, fun p p0 p1 p2 => ?_, fun v => ?_⟩
      · rw [g48_30L10]
        refine (gd_t (by first | exact ⟨by omega, by omega⟩ | exact ⟨by omega, by omega, by omega⟩ | exact ⟨by omega, by omega, by omega, by omega⟩ | omega | exact inR_to _ | assumption | decide)).trans ?_
        rw [if_pos (by omega)]
        refine (gd_t (by first | exact ⟨by omega, by omega⟩ | exact ⟨by omega, by omega, by omega⟩ | exact ⟨by omega, by omega, by omega, by omega⟩ | omega | exact inR_to _ | assumption | decide)).trans ?_
        rw [if_pos hx]
        refine (gd_t (by first | exact ⟨by omega, by omega⟩ | exact ⟨by omega, by omega, by omega⟩ | exact ⟨by omega, by omega, by omega, by omega⟩ | omega | exact inR_to _ | assumption | decide)).trans ?_
        exact t1
      · by_cases hpi : p = i
        · rcases t5 (S.A 32 p / 256) with e | e
          · rw [e, e4, hpi, upI_e]
          · exact e
        · exact t4 p (by omega) p1 p2
      · rcases t5 v with e | e
        · rw [e4] at e
          by_cases hv : v = S.A 32 i / 256
          · rw [hv, upI_e] at e
            rw [hv]
            exact Or.inr e
          · rw [upI_n hv] at e
            exact Or.inl e
        · exact Or.inr e
    · obtain ⟨T, t1, t2, t3, t4, t5⟩ := ih n (i + 1) S (by omega) (by omega) h8 hp (by omega)
      refine ⟨T, ?_, t2, t3, fun p p0 p1 p2 => ?_, t5⟩
      · rw [g48_30L10]
        refine (gd_t (by first | exact ⟨by omega, by omega⟩ | exact ⟨by omega, by omega, by omega⟩ | exact ⟨by omega, by omega, by omega, by omega⟩ | omega | exact inR_to _ | assumption | decide)).trans ?_
        rw [if_pos (by omega)]
        refine (gd_t (by first | exact ⟨by omega, by omega⟩ | exact ⟨by omega, by omega, by omega⟩ | exact ⟨by omega, by omega, by omega, by omega⟩ | omega | exact inR_to _ | assumption | decide)).trans ?_
        rw [if_neg hx]
        exact t1
      · exact t4 p (by have : p ≠ i := fun e => hx (e ▸ p2); omega) p1 p2
theorem g48L51_30 : ∀ (xs : List Int) (n : Nat) (c p : Int) (m : Int → Int) (S : St), 0 ≤ p → p + xs.length = S.F 31 3 → S.F 31 3 ≤ 80 → (∀ i : Int, 0 ≤ i → i < xs.length → S.A 32 (p + i) = gI xs i) → (∀ x ∈ xs, 0 ≤ x ∧ (x < 32768 → S.A 34 (x / 256) = m (x / 256))) → 0 ≤ c → c + xs.length ≤ 200 → (∀ v, m v = -1 ∨ (0 ≤ m v ∧ m v < c)) → xs.length < n → ∃ T, g48_30L51 n c p S = some T ∧ Fr [32, 34] S T ∧ (∀ i : Int, i < p → T.A 32 i = S.A 32 i) ∧ (∀ i : Int, 0 ≤ i → i < xs.length → T.A 32 (p + i) = gI (rnf m c xs) i) := by
  intro xs
  induction xs with
  | nil =>
    intro n c p m S p0 hp h8 hx hm c0 c1 mv hn
    obtain ⟨n, rfl⟩ : ∃ k, n = k + 1 := ⟨n - 1, by omega⟩
    have hp : p + ((0 : Nat) : Int) = S.F 31 3 := hp
    refine ⟨S, ?_, Fr.refl _ _, fun _ _ => rfl, fun i i0 i1 => absurd i1 (by show ¬ i < ((0 : Nat) : Int); omega)⟩
    unfold g48_30L51
    refine (gd_t (by first | exact ⟨by omega, by omega⟩ | exact ⟨by omega, by omega, by omega⟩ | exact ⟨by omega, by omega, by omega, by omega⟩ | omega | exact inR_to _ | assumption | decide)).trans ?_
    exact if_neg (by omega)
  | cons x xs ih =>
    intro n c p m S p0 hp h8 hx hm c0 c1 mv hn
    have hl : ((x :: xs).length : Int) = xs.length + 1 := rfl
    have hn : xs.length + 1 < n := hn
    obtain ⟨n, rfl⟩ : ∃ k, n = k + 1 := ⟨n - 1, by omega⟩
    have e0 : S.A 32 p = x := by
      have := hx 0 (by omega) (by omega)
      rw [show p + 0 = p by omega] at this
      exact this
    have h0 := hm x (List.mem_cons_self)
    have rest : ∀ i : Int, 0 ≤ i → i < xs.length → S.A 32 (p + 1 + i) = gI xs i := fun i i0 i1 => by
      have := hx (i + 1) (by omega) (by omega)
      rw [gI_cs i0] at this
      rw [show p + 1 + i = p + (i + 1) by omega]
      exact this
    by_cases h3 : x < 32768
    · have hv := h0.2 h3
      by_cases hf : m (x / 256) = -1
      · have e1 : rnf m c (x :: xs) = c * 256 :: rnf (upI m (x / 256) c) (c + 1) xs := by
          rw [rnf, if_pos h3, if_pos hf]
        have cR : inR c := ⟨by omega, by omega⟩
        have cR2 : inR (c * 256) := ⟨by omega, by omega⟩
        have e4 : ((S.a 34 (x / 256) c).a 32 p (c * 256)).A 34 = upI (S.A 34) (x / 256) c := (aA_ne (by decide)).trans (aA_up cR)
        have e2 : ((S.a 34 (x / 256) c).a 32 p (c * 256)).A 32 = upI (S.A 32) p (c * 256) := (aA_up cR2).trans (by rw [aA_ne (by decide)])
        obtain ⟨T, t1, t2, t3, t4⟩ := ih n (c + 1) (p + 1) (upI m (x / 256) c) ((S.a 34 (x / 256) c).a 32 p (c * 256)) (by omega) (show p + 1 + (xs.length : Int) = S.F 31 3 by omega) h8 (fun i i0 i1 => by rw [e2, upI_n (by omega)]; exact rest i i0 i1) (fun y hy => ⟨(hm y (List.mem_cons_of_mem _ hy)).1, fun hy3 => by
          rw [e4]
          by_cases hyx : y / 256 = x / 256
          · rw [hyx, upI_e, upI_e]
          · rw [upI_n hyx, upI_n hyx]
            exact (hm y (List.mem_cons_of_mem _ hy)).2 hy3⟩) (by omega) (by omega) (fun v => by
          by_cases hvx : v = x / 256
          · rw [hvx, upI_e]; omega
          · rw [upI_n hvx]; rcases mv v with e | e <;> omega) (by omega)
        refine ⟨T, ?_, ((Fr.a (by decide)).trans (Fr.a (by decide))).trans t2, fun i hi => ?_, fun i i0 i1 => ?_⟩
        · rw [g48_30L51]
          refine (gd_t (by first | exact ⟨by omega, by omega⟩ | exact ⟨by omega, by omega, by omega⟩ | exact ⟨by omega, by omega, by omega, by omega⟩ | omega | exact inR_to _ | assumption | decide)).trans ?_
          rw [if_pos (by omega)]
          refine (gd_t (by first | exact ⟨by omega, by omega⟩ | exact ⟨by omega, by omega, by omega⟩ | exact ⟨by omega, by omega, by omega, by omega⟩ | omega | exact inR_to _ | assumption | decide)).trans ?_
          rw [e0, if_pos h3]
          refine (gd_t (by first | exact ⟨by omega, by omega⟩ | exact ⟨by omega, by omega, by omega⟩ | exact ⟨by omega, by omega, by omega, by omega⟩ | omega | exact inR_to _ | assumption | decide)).trans ?_
          rw [hv, if_pos hf, show (S.a 34 (x / 256) c).A 34 (x / 256) = c from by rw [aA_up cR, upI_e]]
          exact t1
        · rw [t3 i (by omega), e2, upI_n (by omega)]
        · rw [e1]
          by_cases hi : i = 0
          · rw [hi, t3 (p + 0) (by omega), e2, show p + 0 = p by omega, upI_e]
            rfl
          · have := t4 (i - 1) (by omega) (by omega)
            rw [show p + 1 + (i - 1) = p + i by omega] at this
            rw [this, gI_cp (by omega)]
      · have e1 : rnf m c (x :: xs) = m (x / 256) * 256 :: rnf m c xs := by
          rw [rnf, if_pos h3, if_neg hf]
        have mb : 0 ≤ m (x / 256) ∧ m (x / 256) < c := by rcases mv (x / 256) with e | e; exact absurd e hf; exact e
        have cR2 : inR (m (x / 256) * 256) := ⟨by omega, by omega⟩
        have e2 : (S.a 32 p (m (x / 256) * 256)).A 32 = upI (S.A 32) p (m (x / 256) * 256) := aA_up cR2
        obtain ⟨T, t1, t2, t3, t4⟩ := ih n c (p + 1) m (S.a 32 p (m (x / 256) * 256)) (by omega) (show p + 1 + (xs.length : Int) = S.F 31 3 by omega) h8 (fun i i0 i1 => by rw [e2, upI_n (by omega)]; exact rest i i0 i1) (fun y hy => ⟨(hm y (List.mem_cons_of_mem _ hy)).1, fun hy3 => by
          rw [aA_ne (by decide)]
          exact (hm y (List.mem_cons_of_mem _ hy)).2 hy3⟩) c0 (by omega) mv (by omega)
        refine ⟨T, ?_, (Fr.a (by decide)).trans t2, fun i hi => ?_, fun i i0 i1 => ?_⟩
        · rw [g48_30L51]
          refine (gd_t (by first | exact ⟨by omega, by omega⟩ | exact ⟨by omega, by omega, by omega⟩ | exact ⟨by omega, by omega, by omega, by omega⟩ | omega | exact inR_to _ | assumption | decide)).trans ?_
          rw [if_pos (by omega)]
          refine (gd_t (by first | exact ⟨by omega, by omega⟩ | exact ⟨by omega, by omega, by omega⟩ | exact ⟨by omega, by omega, by omega, by omega⟩ | omega | exact inR_to _ | assumption | decide)).trans ?_
          rw [e0, if_pos h3]
          refine (gd_t (by first | exact ⟨by omega, by omega⟩ | exact ⟨by omega, by omega, by omega⟩ | exact ⟨by omega, by omega, by omega, by omega⟩ | omega | exact inR_to _ | assumption | decide)).trans ?_
          rw [hv, if_neg hf]
          exact t1
        · rw [t3 i (by omega), e2, upI_n (by omega)]
        · rw [e1]
          by_cases hi : i = 0
          · rw [hi, t3 (p + 0) (by omega), e2, show p + 0 = p by omega, upI_e]
            rfl
          · have := t4 (i - 1) (by omega) (by omega)
            rw [show p + 1 + (i - 1) = p + i by omega] at this
            rw [this, gI_cp (by omega)]
    · have e1 : rnf m c (x :: xs) = x :: rnf m c xs := by
        rw [rnf, if_neg h3]
      obtain ⟨T, t1, t2, t3, t4⟩ := ih n c (p + 1) m S (by omega) (by omega) h8 rest (fun y hy => hm y (List.mem_cons_of_mem _ hy)) c0 (by omega) mv (by omega)
      refine ⟨T, ?_, t2, fun i hi => t3 i (by omega), fun i i0 i1 => ?_⟩
      · rw [g48_30L51]
        refine (gd_t (by first | exact ⟨by omega, by omega⟩ | exact ⟨by omega, by omega, by omega⟩ | exact ⟨by omega, by omega, by omega, by omega⟩ | omega | exact inR_to _ | assumption | decide)).trans ?_
        rw [if_pos (by omega)]
        refine (gd_t (by first | exact ⟨by omega, by omega⟩ | exact ⟨by omega, by omega, by omega⟩ | exact ⟨by omega, by omega, by omega, by omega⟩ | omega | exact inR_to _ | assumption | decide)).trans ?_
        rw [e0, if_neg h3]
        exact t1
      · rw [e1]
        by_cases hi : i = 0
        · rw [hi, t3 (p + 0) (by omega), show p + 0 = p by omega, e0]
          rfl
        · have := t4 (i - 1) (by omega) (by omega)
          rw [show p + 1 + (i - 1) = p + i by omega] at this
          rw [this, gI_cp (by omega)]
theorem g48_30_t {S : St} {L : List Int} (hl : (L.length : Int) = S.F 31 3) (h8 : S.F 31 3 ≤ 80) (hx : ∀ i : Int, 0 ≤ i → i < L.length → S.A 32 i = gI L i) (h0 : ∀ x ∈ L, 0 ≤ x) : ∃ T, g48_30 S = some T ∧ Fr [32, 34] S T ∧ ∀ i : Int, 0 ≤ i → i < L.length → T.A 32 i = gI (rnf (fun _ => -1) 0 L) i := by
  obtain ⟨m9, hm9⟩ := FU_ge (n := 100) (by decide)
  have hmem : ∀ i : Int, 0 ≤ i → i < L.length → gI L i ∈ L := fun i i0 i1 => by
    unfold gI
    rw [List.getD_eq_getElem?_getD, List.getElem?_eq_getElem (by omega : i.toNat < L.length)]
    exact List.getElem_mem _
  obtain ⟨T, t1, t2, t3, t4, t5⟩ := g48L10_30 L.length FU 0 S (by omega) (by omega) h8 (fun p p0 p1 => by rw [hx p p0 (by omega)]; exact h0 _ (hmem p p0 (by omega))) (by omega)
  have f3 : T.F 31 3 = S.F 31 3 := by rw [t2.F (show 31 ∉ [32, 34] by decide)]
  obtain ⟨U, u1, u2, u3, u4⟩ := g48L51_30 L FU 0 0 (fun _ => -1) T (by omega) (by omega) (by omega) (fun i i0 i1 => by rw [show 0 + i = i by omega, t3]; exact hx i i0 i1) (fun x hx2 => ⟨h0 x hx2, fun h3 => by
    obtain ⟨i, hi, e⟩ := List.mem_iff_getElem.mp hx2
    have e2 : gI L i = x := by
      unfold gI
      rw [List.getD_eq_getElem?_getD, show ((i : Nat) : Int).toNat = i by omega, List.getElem?_eq_getElem hi]
      exact e
    have e3 := hx i (by omega) (by omega)
    rw [e2] at e3
    have := t4 i (by omega) (by omega) (by rw [e3]; exact h3)
    rw [e3] at this
    exact this⟩) (by omega) (by omega) (fun _ => Or.inl rfl) (by omega)
  refine ⟨U, ?_, t2.trans u2, fun i i0 i1 => by have := u4 i i0 i1; rw [show 0 + i = i by omega] at this; exact this⟩
  unfold g48_30
  rw [t1]
  refine (ob_t rfl).trans ?_
  rw [u1]
  rfl
