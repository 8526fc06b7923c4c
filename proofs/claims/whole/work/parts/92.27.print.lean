theorem g150L14_t {sl P : Int} {u : Int → Int} (s0 : 0 ≤ sl) (s1 : sl < 125) (hP : P ≤ 64) : ∀ (m n : Nat) (p : Int) (s : List Int) (T : St), p + m = P → 0 ≤ p → (∀ i : Int, p ≤ i → i < P → T.A 38 (64 * sl + i) = mo (u i) ∧ vx (u i)) → DS T s → s.length + m ≤ 16 → 0 ≤ T.F 36 56 → T.F 36 56 + 5 * m + s.length ≤ 370 → m < n → ∃ T', g150L14 (64 * sl + P) n s.length (64 * sl + p) T = some T' ∧ OM T (ps u m p s) T' := by
  intro m
  induction m with
  | zero =>
    intro n p s T hp p0 hc hD hl f0 f1 hn
    obtain ⟨n, rfl⟩ : ∃ k, n = k + 1 := ⟨n - 1, by omega⟩
    refine ⟨T, ?_, OM.nil T⟩
    unfold g150L14
    refine (gd_t (by first | exact ⟨by omega, by omega⟩ | exact ⟨by omega, by omega, by omega⟩ | exact ⟨by omega, by omega, by omega, by omega⟩ | omega | exact inR_to _ | assumption | decide)).trans ?_; refine (gd_t (by first | exact ⟨by omega, by omega⟩ | exact ⟨by omega, by omega, by omega⟩ | exact ⟨by omega, by omega, by omega, by omega⟩ | omega | exact inR_to _ | assumption | decide)).trans ?_
    exact if_neg (by omega)
  | succ m ih =>
    intro n p s T hp p0 hc hD hl f0 f1 hn
    obtain ⟨n, rfl⟩ : ∃ k, n = k + 1 := ⟨n - 1, by omega⟩
    obtain ⟨c1, c2⟩ := hc p (by omega) (by omega)
    obtain ⟨T1, t1, t2, t3⟩ := g151_t (S := T) (x := u p) f0 (by omega) c2
    have e1 : T1.F 36 56 = T.F 36 56 + (nm (u p)).length := t2.2.1
    have hn3 := nm_len (u p)
    have a38 : T1.A 38 = T.A 38 := t2.A (by decide)
    have hR := mo_R c2
    have e123 : g123 T1 (mo (u p)) = some (ax u p) := by
      rw [g123_t ⟨by omega, hR.2⟩, mo_ar c2]
      rfl
    have a0 := ax_0 u p
    have a256 : ax u p < 256 := Int.emod_lt_of_pos _ (by decide)
    have pre : ∀ z, (if 0 < ax u p then ob (g149 T1 40) (fun o13 => gd (ixR s.length 16) (if ax u p = 0 then ob (g150L77 (64 * sl + P) (64 * sl + p) FU (s.length + 1) 1 (o13.a 68 s.length (ax u p))) (fun o27 => g150L14 (64 * sl + P) n o27.1 (64 * sl + p + 1) o27.2) else ob (g150L77 (64 * sl + P) (64 * sl + p) FU (s.length + 1) 0 (o13.a 68 s.length (ax u p))) (fun o33 => g150L14 (64 * sl + P) n o33.1 (64 * sl + p + 1) o33.2))) else if ax u p = 0 then ob (g150L77 (64 * sl + P) (64 * sl + p) FU s.length 1 T1) (fun o40 => g150L14 (64 * sl + P) n o40.1 (64 * sl + p + 1) o40.2) else ob (g150L77 (64 * sl + P) (64 * sl + p) FU s.length 0 T1) (fun o46 => g150L14 (64 * sl + P) n o46.1 (64 * sl + p + 1) o46.2)) = z → g150L14 (64 * sl + P) (n + 1) s.length (64 * sl + p) T = z := by
      intro z hz
      rw [← hz]
      conv => lhs; unfold g150L14
      refine (gd_t (by first | exact ⟨by omega, by omega⟩ | exact ⟨by omega, by omega, by omega⟩ | exact ⟨by omega, by omega, by omega, by omega⟩ | omega | exact inR_to _ | assumption | decide)).trans ?_; refine (gd_t (by first | exact ⟨by omega, by omega⟩ | exact ⟨by omega, by omega, by omega⟩ | exact ⟨by omega, by omega, by omega, by omega⟩ | omega | exact inR_to _ | assumption | decide)).trans ?_
      rw [if_pos (by omega)]
      refine (gd_t (by first | exact ⟨by omega, by omega⟩ | exact ⟨by omega, by omega, by omega⟩ | exact ⟨by omega, by omega, by omega, by omega⟩ | omega | exact inR_to _ | assumption | decide)).trans ?_
      rw [c1, t1]
      show ob (g123 T1 (T1.A 38 (64 * sl + p))) _ = _
      rw [a38, c1, e123]
      show gd (inR (ax u p)) _ = _
      refine (gd_t (by first | exact ⟨by omega, by omega⟩ | exact ⟨by omega, by omega, by omega⟩ | exact ⟨by omega, by omega, by omega, by omega⟩ | omega | exact inR_to _ | assumption | decide)).trans ?_
      rfl
    rw [show 64 * sl + p + 1 = 64 * sl + (p + 1) by omega] at pre
    obtain ⟨m9, hm9⟩ := FU_ge (n := 100) (by decide)
    show ∃ T', _ ∧ OM T (nm (u p) ++ (if 0 < ax u p then 40 :: ps u m (p + 1) (ax u p :: s) else (clo s).1 ++ ps u m (p + 1) (clo s).2)) T'
    by_cases ha : 0 < ax u p
    · rw [if_pos ha] at pre ⊢
      obtain ⟨T2, v1, v2, v3⟩ := g149_t (S := T1) (c := 40) (by omega) (by omega) (by decide)
      have e2 : T2.F 36 56 = T1.F 36 56 + 1 := v2.2.1
      have hRa : inR (ax u p) := ⟨by omega, by omega⟩
      have b38 : (T2.a 68 s.length (ax u p)).A 38 = T.A 38 := by rw [aA_ne (by decide), v2.A (by decide), a38]
      have hD2 : DS (T2.a 68 s.length (ax u p)) (ax u p :: s) := ⟨by rw [a_A hRa, if_pos rfl, if_pos rfl], by omega, by omega, DS.up s (Int.le_refl _) hRa (DS.c (v3.trans t3) s hD)⟩
      obtain ⟨T3, w1, w2⟩ := ih n (p + 1) (ax u p :: s) (T2.a 68 s.length (ax u p)) (by omega) (by omega) (fun i i0 i1 => by rw [b38]; exact hc i (by omega) i1) hD2 (by rw [List.length_cons]; omega) (show 0 ≤ T2.F 36 56 by omega) (by rw [List.length_cons]; show T2.F 36 56 + _ + _ ≤ _; omega) (by omega)
      refine ⟨T3, pre _ ?_, t2.app (v2.app ((a_OM T2 _ _).app w2))⟩
      rw [v1]
      show gd (ixR s.length 16) _ = _
      refine (gd_t (by first | exact ⟨by omega, by omega⟩ | exact ⟨by omega, by omega, by omega⟩ | exact ⟨by omega, by omega, by omega, by omega⟩ | omega | exact inR_to _ | assumption | decide)).trans ?_
      rw [if_neg (by omega), hm9, ← Nat.add_assoc, g150L77_0]
      exact w1
    · rw [if_neg ha] at pre ⊢
      have ea : ax u p = 0 := by omega
      rw [if_pos ea] at pre
      have cl := clo_len s
      obtain ⟨T2, v1, v2, v3⟩ := g150L77_t (v2 := 64 * sl + P) (v4 := 64 * sl + p) s FU T1 (DS.c t3 s hD) (by omega) (by omega) (by omega) (by omega)
      have e2 : T2.F 36 56 = T1.F 36 56 + (clo s).1.length := v2.2.1
      have b38 : T2.A 38 = T.A 38 := by rw [v2.A (by decide), a38]
      obtain ⟨T3, w1, w2⟩ := ih n (p + 1) (clo s).2 T2 (by omega) (by omega) (fun i i0 i1 => by rw [b38]; exact hc i (by omega) i1) v3 (by omega) (by omega) (by omega) (by omega)
      refine ⟨T3, pre _ ?_, t2.app (v2.app w2)⟩
      rw [v1]
      exact w1
/-- the row of the literals from l on -/
def pl (o u : Int → Int) : Nat → Int → List Int
  | 0, _ => []
  | r + 1, l => (if 0 < l then [124] else []) ++ ((sg (u (o l)) ++ ps u (o (l + 1) - o l).toNat (o l) []) ++ pl o u r (l + 1))
theorem lit_len {n : Int} {o u : Int → Int} (hW : WK n o u) {l : Int} (l0 : 0 ≤ l) (l1 : l < n) : ((sg (u (o l)) ++ ps u (o (l + 1) - o l).toNat (o l) []).length : Int) + 1 ≤ 5 * (o (l + 1) - o l) + 1 := by
  have a := hW.2.2.2.2.1 l l0 l1
  have q := ps_len1 u (o (l + 1) - o l).toNat (o l) [] (fun d hd => absurd hd List.not_mem_nil) (by show Tm (ax u) _ (1 + 0) _; rw [Int.add_zero]; exact a.2)
  have q : (ps u (o (l + 1) - o l).toNat (o l) []).length + 1 ≤ 5 * (o (l + 1) - o l).toNat + 0 := q
  have : (sg (u (o l))).length ≤ 1 := by unfold sg; split; exact Nat.le_refl _; exact Nat.zero_le _
  rw [List.length_append]
  omega
