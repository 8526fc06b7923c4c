/-! a sign that binds a variable -/
theorem g38_t {S : St} {k : Nat} {cd : Int → Int} (h8 : S.F 1 8 = k) (h10 : k ≤ 10) (hc : ∀ i : Int, 0 ≤ i → i < k → S.A 11 i = cd i) : g38 S = some ((ubs cd k).length : Int) := by
  have hl : ∀ (r n j : Nat), j + r = k → r < n → g38L4 S n ((ubs cd j).length : Int) j = some ((ubs cd k).length : Int) := by
    intro r
    induction r with
    | zero =>
      intro n j hj hn
      obtain ⟨n, rfl⟩ : ∃ q, n = q + 1 := ⟨n - 1, by omega⟩
      unfold g38L4
      refine (gd_t (by first | exact ⟨by omega, by omega⟩ | exact ⟨by omega, by omega, by omega⟩ | exact ⟨by omega, by omega, by omega, by omega⟩ | omega | exact inR_to _ | assumption | decide)).trans ?_
      rw [h8, if_neg (by omega), show j = k by omega]
    | succ r ih =>
      intro n j hj hn
      obtain ⟨n, rfl⟩ : ∃ q, n = q + 1 := ⟨n - 1, by omega⟩
      have := ih n (j + 1) (by omega) (by omega)
      rw [g38L4]
      refine (gd_t (by first | exact ⟨by omega, by omega⟩ | exact ⟨by omega, by omega, by omega⟩ | exact ⟨by omega, by omega, by omega, by omega⟩ | omega | exact inR_to _ | assumption | decide)).trans ?_
      rw [h8, if_pos (by omega)]
      refine (gd_t (by first | exact ⟨by omega, by omega⟩ | exact ⟨by omega, by omega, by omega⟩ | exact ⟨by omega, by omega, by omega, by omega⟩ | omega | exact inR_to _ | assumption | decide)).trans ?_
      rw [hc j (by omega) (by omega)]
      by_cases hv : cd j < 32768
      · rw [if_pos hv]
        have eu : ((ubs cd (j + 1)).length : Int) = (ubs cd j).length + 1 := by
          show ((ubs cd j ++ (if cd j < 32768 then [cd j] else [])).length : Int) = _
          rw [if_pos hv, List.length_append]
          rfl
        rw [eu] at this
        exact this
      · rw [if_neg hv]
        have eu : (ubs cd (j + 1)).length = (ubs cd j).length := by
          show (ubs cd j ++ (if cd j < 32768 then [cd j] else [])).length = _
          rw [if_neg hv, List.append_nil]
        rw [eu] at this
        exact this
  have := hl k FU 0 (by omega) (FU_gt (by omega))
  unfold g38
  have this : g38L4 S FU 0 0 = some ((ubs cd k).length : Int) := this
  rw [this]
  rfl
theorem ubs_c {cd cd' : Int → Int} : ∀ k : Nat, (∀ i : Nat, i < k → cd' i = cd i) → ubs cd' k = ubs cd k
  | 0, _ => rfl
  | k + 1, h => by
    show ubs cd' k ++ (if cd' k < 32768 then [cd' k] else []) = ubs cd k ++ (if cd k < 32768 then [cd k] else [])
    rw [ubs_c k (fun i hi => h i (by omega)), h k (by omega)]
theorem cds_c {cd cd' : Int → Int} {i : Nat} (h : ∀ j : Nat, j ≤ i → cd' j = cd j) : cds cd' i = cds cd i := by
  unfold cds
  rw [h i (Nat.le_refl _), ubs_c i (fun j hj => h j (by omega))]
/-- the code of what is bound: a variable, or a made function -/
def bcd (ex : Bool) (uc fc : Int) (cd : Int → Int) (k : Nat) : Int := if ex = true then 65536 + (fc + 1) * 256 + (ubs cd k).length else uc * 256
/-- the first object binds -/
theorem bound_c {tx : Int → Int} {len pos d v : Int} {k : Nat} {nm cd : Int → Int} {S : St} {ex : Bool} {rc : St → Int → Int → Option (Int × St)} (hQ : QX tx len) (h : RC0 tx len S pos) (hE : ECf k nm cd S) (hk : k < 10) (u0 : 0 ≤ S.F 1 9) (u1 : S.F 1 9 ≤ 100) (f0 : 0 ≤ S.F 1 10) (f1 : S.F 1 10 ≤ 300) : match nmr tx 120 122 pos with
    | none => ∃ S', g37b rc S (if ex = true then 1 else 0) v d = some (-1, S') ∧ S'.F 1 3 = pos ∧ FP S S'
    | some (n, p) => ∃ S', g37b rc S (if ex = true then 1 else 0) v d = ob (rc S' v (d + 1)) (fun o => some (o.1, o.2.f 1 8 (o.2.F 1 8 - 1))) ∧ RC0 tx len S' p ∧ ECf (k + 1) (upI nm k n) (upI cd k (bcd ex (S.F 1 9) (S.F 1 10) cd k)) S' ∧ S'.F 1 9 = S.F 1 9 + (if ex = true then 0 else 1) ∧ S'.F 1 10 = S.F 1 10 + (if ex = true then 1 else 0) ∧ FP S S' ∧ S'.F 3 = S.F 3 ∧ ∀ c, 4 ≤ c → c ≤ 9 → S'.A c = S.A c := by
  obtain ⟨e1, e2, e3, e4⟩ := hE
  have l160 := hQ.2.1
  have h0 := h.z hQ
  have hn := g29_t hQ h0 (lo := 120) (hi := 122) (by decide) (by decide) (by decide)
  -- the reading of the name does not look at the literal
  have hw : ∃ W, RC tx len S pos W ∨ True := ⟨[], Or.inr trivial⟩
  have e0 := g23_0 hQ h
  have a2 := h.2.1
  have a5 := h.2.2.2.2.1
  have a6 := h.2.2.2.2.2
  have q0 := hQ.r a5
  have q1 := hQ.r (p := pos + 1) (by omega)
  have adv : ∀ (U : St) (q p : Int), RC0 tx len U q → q ≤ p → p ≤ len → RC0 tx len (U.f 1 4 p) p := fun U q p hU h1 h2 => by
    obtain ⟨b1, b2, b3, b4, b5, b6⟩ := hU
    have iR : inR p := ⟨by omega, by omega⟩
    exact ⟨by rw [f_F iR, if_pos rfl, if_neg (by decide)]; exact b1, by rw [f_F iR, if_pos rfl, if_pos rfl], by rw [f_F iR, if_pos rfl, if_neg (by decide)]; exact b3, b4, by omega, h2⟩
  have g29' : match nmr tx 120 122 pos with
      | none => g29 S 120 122 = some (-1, S)
      | some (n, p) => ∃ S', g29 S 120 122 = some (n, S') ∧ RC0 tx len S' p ∧ FT S S' := by
    by_cases h1 : 120 ≤ tx pos ∧ tx pos ≤ 122
    · have pl := q0.2.2 (by omega)
      have hS := adv S pos (pos + 1) h (by omega) (by omega)
      have e1 := g23_0 hQ hS
      by_cases h2 : 48 ≤ tx (pos + 1) ∧ tx (pos + 1) ≤ 57
      · have en : nmr tx 120 122 pos = some ((tx pos - 120) * 11 + 1 + tx (pos + 1) - 48, pos + 2) := by unfold nmr; rw [if_pos h1, if_pos h2]
        have pl1 := q1.2.2 (by omega)
        rw [en]
        have hS2 := adv _ _ (pos + 1 + 1) hS (by omega) (by omega)
        refine ⟨_, ?_, by rw [show pos + 2 = pos + 1 + 1 by omega]; exact hS2, (f_FT _ (by decide) _).trans (f_FT _ (by decide) _)⟩
        unfold g29
        rw [e0]
        refine (ob_t rfl).trans ?_
        refine (gd_t (by first | exact ⟨by omega, by omega⟩ | exact ⟨by omega, by omega, by omega⟩ | exact ⟨by omega, by omega, by omega, by omega⟩ | omega | exact inR_to _ | assumption | decide)).trans ?_
        refine (gd_t (by first | exact ⟨by omega, by omega⟩ | exact ⟨by omega, by omega, by omega⟩ | exact ⟨by omega, by omega, by omega, by omega⟩ | omega | exact inR_to _ | assumption | decide)).trans ?_
        rw [if_neg (by omega)]
        refine (gd_t (by first | exact ⟨by omega, by omega⟩ | exact ⟨by omega, by omega, by omega⟩ | exact ⟨by omega, by omega, by omega, by omega⟩ | omega | exact inR_to _ | assumption | decide)).trans ?_
        rw [if_neg (by omega), a2, e1]
        refine (ob_t rfl).trans ?_
        refine (gd_t (by first | exact ⟨by omega, by omega⟩ | exact ⟨by omega, by omega, by omega⟩ | exact ⟨by omega, by omega, by omega, by omega⟩ | omega | exact inR_to _ | assumption | decide)).trans ?_
        rw [if_neg (by omega), if_neg (by omega)]
      · have en : nmr tx 120 122 pos = some ((tx pos - 120) * 11, pos + 1) := by unfold nmr; rw [if_pos h1, if_neg h2]
        rw [en]
        refine ⟨_, ?_, hS, f_FT _ (by decide) _⟩
        unfold g29
        rw [e0]
        refine (ob_t rfl).trans ?_
        refine (gd_t (by first | exact ⟨by omega, by omega⟩ | exact ⟨by omega, by omega, by omega⟩ | exact ⟨by omega, by omega, by omega, by omega⟩ | omega | exact inR_to _ | assumption | decide)).trans ?_
        refine (gd_t (by first | exact ⟨by omega, by omega⟩ | exact ⟨by omega, by omega, by omega⟩ | exact ⟨by omega, by omega, by omega, by omega⟩ | omega | exact inR_to _ | assumption | decide)).trans ?_
        rw [if_neg (by omega)]
        refine (gd_t (by first | exact ⟨by omega, by omega⟩ | exact ⟨by omega, by omega, by omega⟩ | exact ⟨by omega, by omega, by omega, by omega⟩ | omega | exact inR_to _ | assumption | decide)).trans ?_
        rw [if_neg (by omega), a2, e1]
        refine (ob_t rfl).trans ?_
        refine (gd_t (by first | exact ⟨by omega, by omega⟩ | exact ⟨by omega, by omega, by omega⟩ | exact ⟨by omega, by omega, by omega, by omega⟩ | omega | exact inR_to _ | assumption | decide)).trans ?_
        by_cases h3 : tx (pos + 1) < 48
        · rw [if_pos h3]
        · rw [if_neg h3, if_pos (by omega)]
    · have en : nmr tx 120 122 pos = none := by unfold nmr; rw [if_neg h1]
      rw [en]
      show g29 S 120 122 = some (-1, S)
      unfold g29
      rw [e0]
      refine (ob_t rfl).trans ?_
      refine (gd_t (by first | exact ⟨by omega, by omega⟩ | exact ⟨by omega, by omega, by omega⟩ | exact ⟨by omega, by omega, by omega, by omega⟩ | omega | exact inR_to _ | assumption | decide)).trans ?_
      refine (gd_t (by first | exact ⟨by omega, by omega⟩ | exact ⟨by omega, by omega, by omega⟩ | exact ⟨by omega, by omega, by omega, by omega⟩ | omega | exact inR_to _ | assumption | decide)).trans ?_
      by_cases h3 : tx pos < 120
      · rw [if_pos h3]
      · rw [if_neg h3]
        refine (gd_t (by first | exact ⟨by omega, by omega⟩ | exact ⟨by omega, by omega, by omega⟩ | exact ⟨by omega, by omega, by omega, by omega⟩ | omega | exact inR_to _ | assumption | decide)).trans ?_
        rw [if_pos (by omega)]
  cases en : nmr tx 120 122 pos with
  | none =>
    rw [en] at g29'
    have g29' : g29 S 120 122 = some (-1, S) := g29'
    have hg := g25_t S (p := pos) ⟨by omega, by omega⟩
    refine ⟨S.f 1 3 pos, ?_, hg.2.1, hg.2.2.FP⟩
    unfold g37b
    rw [g29']
    refine (ob_t rfl).trans ?_
    show gd (inR (-1)) _ = _
    refine (gd_t (by first | exact ⟨by omega, by omega⟩ | exact ⟨by omega, by omega, by omega⟩ | exact ⟨by omega, by omega, by omega, by omega⟩ | omega | exact inR_to _ | assumption | decide)).trans ?_
    refine (if_pos rfl).trans ?_
    show ob (g25 S (S.F 1 4)) _ = _
    rw [a2]
    rfl
  | some a =>
    obtain ⟨n, p⟩ := a
    rw [en] at g29'
    have np := nmr_p hQ a5 (by decide) en
    obtain ⟨S1, s1, s2, s3⟩ := g29'
    have x8 : S1.F 1 8 = k := by rw [s3.F (by decide)]; exact e2
    have x9 : S1.F 1 9 = S.F 1 9 := s3.F (by decide)
    have x10 : S1.F 1 10 = S.F 1 10 := s3.F (by decide)
    have x5 : S1.F 1 5 = 0 := by rw [s3.F (by decide)]; exact e1
    have y10 : S1.A 10 = S.A 10 := s3.A (by decide)
    have y11 : S1.A 11 = S.A 11 := s3.A (by decide)
    have i_n : inR n := ⟨by omega, by omega⟩
    have i_k1 : inR ((k : Int) + 1) := ⟨by omega, by omega⟩
    have ul := ubs_len cd k
    have e37 : g37b rc S (if ex = true then 1 else 0) v d = gd (inR (if ex = true then (1 : Int) else 0)) (if (if ex = true then (1 : Int) else 0) = 0 then g37C112 rc (((S1.a 10 k n).a 11 k (S.F 1 9 * 256)).f 1 9 (S.F 1 9 + 1)) v d else ob (g38 ((S1.a 10 k n).f 1 10 (S.F 1 10 + 1))) (fun o13 => g37C112 rc (((S1.a 10 k n).f 1 10 (S.F 1 10 + 1)).a 11 k ((65536 + ((S.F 1 10 + 1) * 256)) + o13)) v d)) := by
      unfold g37b
      rw [s1]
      refine (ob_t rfl).trans ?_
      show gd (inR n) _ = _
      refine (gd_t (by first | exact ⟨by omega, by omega⟩ | exact ⟨by omega, by omega, by omega⟩ | exact ⟨by omega, by omega, by omega, by omega⟩ | omega | exact inR_to _ | assumption | decide)).trans ?_
      refine (if_neg (show ¬ n = -1 by omega)).trans ?_
      show (if S1.F 1 8 < 10 then _ else _) = _
      rw [x8, if_pos (by omega)]
      refine (gd_t (by first | exact ⟨by omega, by omega⟩ | exact ⟨by omega, by omega, by omega⟩ | exact ⟨by omega, by omega, by omega, by omega⟩ | omega | exact inR_to _ | assumption | decide)).trans ?_
      rw [x9, x10]
    -- the state behind, for any code
    have fin : ∀ (S2 : St) (x : Int), inR x → (∀ i : Int, i ≠ 8 → i ≠ 9 → i ≠ 10 → True) → S2.A = ((S1.a 10 k n).a 11 k x).A → (∀ i, i ≠ 9 → i ≠ 10 → S2.F 1 i = S1.F 1 i) → FP S1 S2 → 0 ≤ x → x < 1000000 → S2.F 3 = S1.F 3 → RC0 tx len (S2.f 1 8 ((k : Int) + 1)) p ∧ ECf (k + 1) (upI nm k n) (upI cd k x) (S2.f 1 8 ((k : Int) + 1)) ∧ FP S (S2.f 1 8 ((k : Int) + 1)) ∧ (S2.f 1 8 ((k : Int) + 1)).F 3 = S.F 3 ∧ ∀ c, 4 ≤ c → c ≤ 9 → (S2.f 1 8 ((k : Int) + 1)).A c = S.A c := fun S2 x ix _ hA hF hfp xx0 xx1 h3 => by
      have f8 : ∀ i, i ≠ 8 → (S2.f 1 8 ((k : Int) + 1)).F 1 i = S2.F 1 i := fun i hi => by rw [f_F i_k1, if_pos rfl, if_neg hi]
      obtain ⟨b1, b2, b3, b4, b5, b6⟩ := s2
      have A10 : (S2.f 1 8 ((k : Int) + 1)).A 10 = upI (S.A 10) k n := by rw [f_A, hA, aA_ne (by decide), aA_up i_n, y10]
      have A11 : (S2.f 1 8 ((k : Int) + 1)).A 11 = upI (S.A 11) k x := by rw [f_A, hA, aA_up ix, aA_ne (by decide), y11]
      have An : ∀ c, c ≠ 10 → c ≠ 11 → (S2.f 1 8 ((k : Int) + 1)).A c = S1.A c := fun c h1 h2 => by rw [f_A, hA, aA_ne h2, aA_ne h1]
      refine ⟨⟨?_, ?_, ?_, ?_, b5, b6⟩, ⟨?_, ?_, by omega, fun i i0 i1 => ?_⟩, s3.FP.trans (hfp.trans (FP.f1 _ (by decide) _)), ?_, fun c c4 c9 => ?_⟩
      · rw [f8 1 (by decide), hF 1 (by decide) (by decide)]; exact b1
      · rw [f8 4 (by decide), hF 4 (by decide) (by decide)]; exact b2
      · rw [f8 3 (by decide), hF 3 (by decide) (by decide)]; exact b3
      · rw [An 2 (by decide) (by decide)]; exact b4
      · rw [f8 5 (by decide), hF 5 (by decide) (by decide)]; exact x5
      · rw [f_F i_k1, if_pos rfl, if_pos rfl]; omega
      · rw [A10, A11]
        by_cases hi : i = k
        · rw [hi, upI_e, upI_e, upI_e, upI_e]
          exact ⟨rfl, rfl, xx0, xx1⟩
        · rw [upI_n hi, upI_n hi, upI_n hi, upI_n hi]
          exact e4 i i0 (by omega)
      · rw [fF_ne (by decide), h3]
        funext i
        show (S1.F0 3 i).toInt = (S.F0 3 i).toInt
        rw [(s3.2.2.2.1 3 (by decide)).1]
      · have hcm : c ∉ [1, 12] := fun hm => by
          have h9 : ∀ d ∈ [1, 12], d < 4 ∨ 9 < d := by decide
          have := h9 c hm
          omega
        rw [An c (by omega) (by omega), s3.A hcm]
    cases ex with
    | false =>
      have ix : inR (S.F 1 9 * 256) := ⟨by omega, by omega⟩
      have i9 : inR (S.F 1 9 + 1) := ⟨by omega, by omega⟩
      have fp1 : FP S1 (((S1.a 10 k n).a 11 k (S.F 1 9 * 256)).f 1 9 (S.F 1 9 + 1)) := ((Fr.a (X := [10]) (by decide)).FP (by decide)).trans (((Fr.a (X := [11]) (by decide)).FP (by decide)).trans (FP.f1 _ (by decide) _))
      obtain ⟨r1, r2, r3, r4, r5⟩ := fin (((S1.a 10 k n).a 11 k (S.F 1 9 * 256)).f 1 9 (S.F 1 9 + 1)) (S.F 1 9 * 256) ix (fun _ _ _ _ => trivial) rfl (fun i h1 _ => by rw [f_F i9, if_pos rfl, if_neg h1, a_F, a_F]) fp1 (by omega) (by omega) (by rw [fF_ne (by decide)]; rfl)
      have z8 : (((S1.a 10 k n).a 11 k (S.F 1 9 * 256)).f 1 9 (S.F 1 9 + 1)).F 1 8 = k := by rw [f_F i9, if_pos rfl, if_neg (by decide)]; exact x8
      refine ⟨_, ?_, r1, r2, ?_, ?_, r3, r4, r5⟩
      · rw [e37]
        show gd (inR (0 : Int)) (if (0 : Int) = 0 then _ else _) = _
        refine (gd_t (by first | exact ⟨by omega, by omega⟩ | exact ⟨by omega, by omega, by omega⟩ | exact ⟨by omega, by omega, by omega, by omega⟩ | omega | exact inR_to _ | assumption | decide)).trans ?_
        rw [if_pos rfl]
        unfold g37C112
        rw [z8]
      · rw [f_F i_k1, if_pos rfl, if_neg (by decide), f_F i9, if_pos rfl, if_pos rfl]
        rfl
      · rw [f_F i_k1, if_pos rfl, if_neg (by decide), f_F i9, if_pos rfl, if_neg (by decide), a_F, a_F, x10]
        exact (Int.add_zero _).symm
    | true =>
      have ix : inR (65536 + (S.F 1 10 + 1) * 256 + ((ubs cd k).length : Int)) := ⟨by omega, by omega⟩
      have i10 : inR (S.F 1 10 + 1) := ⟨by omega, by omega⟩
      have g8 : ((S1.a 10 k n).f 1 10 (S.F 1 10 + 1)).F 1 8 = k := by rw [f_F i10, if_pos rfl, if_neg (by decide)]; exact x8
      have e38 : g38 ((S1.a 10 k n).f 1 10 (S.F 1 10 + 1)) = some ((ubs cd k).length : Int) := g38_t g8 (by omega) (fun i i0 i1 => by rw [f_A, aA_ne (by decide), y11]; exact (e4 i i0 i1).2.1)
      have fp1 : FP S1 (((S1.a 10 k n).f 1 10 (S.F 1 10 + 1)).a 11 k (65536 + (S.F 1 10 + 1) * 256 + ((ubs cd k).length : Int))) := ((Fr.a (X := [10]) (by decide)).FP (by decide)).trans ((FP.f1 _ (by decide) _).trans ((Fr.a (X := [11]) (by decide)).FP (by decide)))
      obtain ⟨r1, r2, r3, r4, r5⟩ := fin (((S1.a 10 k n).f 1 10 (S.F 1 10 + 1)).a 11 k (65536 + (S.F 1 10 + 1) * 256 + ((ubs cd k).length : Int))) (65536 + (S.F 1 10 + 1) * 256 + ((ubs cd k).length : Int)) ix (fun _ _ _ _ => trivial) rfl (fun i _ h2 => by rw [a_F, f_F i10, if_pos rfl, if_neg h2, a_F]) fp1 (by omega) (by omega) (by rw [a_F, fF_ne (by decide)]; rfl)
      have z8 : (((S1.a 10 k n).f 1 10 (S.F 1 10 + 1)).a 11 k (65536 + (S.F 1 10 + 1) * 256 + ((ubs cd k).length : Int))).F 1 8 = k := g8
      refine ⟨_, ?_, r1, r2, ?_, ?_, r3, r4, r5⟩
      · rw [e37]
        show gd (inR (1 : Int)) (if (1 : Int) = 0 then _ else _) = _
        refine (gd_t (by first | exact ⟨by omega, by omega⟩ | exact ⟨by omega, by omega, by omega⟩ | exact ⟨by omega, by omega, by omega, by omega⟩ | omega | exact inR_to _ | assumption | decide)).trans ?_
        rw [if_neg (by decide), e38]
        refine (ob_t rfl).trans ?_
        show g37C112 rc (((S1.a 10 k n).f 1 10 (S.F 1 10 + 1)).a 11 k (65536 + (S.F 1 10 + 1) * 256 + ((ubs cd k).length : Int))) v d = _
        unfold g37C112
        rw [z8]
      · rw [f_F i_k1, if_pos rfl, if_neg (by decide), a_F, f_F i10, if_pos rfl, if_neg (by decide), a_F, x9]
        exact (Int.add_zero _).symm
      · rw [f_F i_k1, if_pos rfl, if_neg (by decide), a_F, f_F i10, if_pos rfl, if_pos rfl]
        rfl
