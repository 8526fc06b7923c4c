/-! in a formula: the names that are bound around -/
/-- the variables among the first i codes -/
def ubs (cd : Int → Int) : Nat → List Int
  | 0 => []
  | j + 1 => ubs cd j ++ (if cd j < 32768 then [cd j] else [])
def cds (cd : Int → Int) (i : Nat) : List Int := if cd i < 32768 then [cd i] else cd i :: ubs cd i
def vrF (k : Nat) (nm cd nu : Int → Int) : Vr := fun N n => if lix nm n k < 0 then none else some (cds cd (lix nm n k).toNat, nu (lix nm n k), N)
theorem ubs_len (cd : Int → Int) : ∀ i : Nat, (ubs cd i).length ≤ i
  | 0 => Nat.le_refl _
  | i + 1 => by
    have := ubs_len cd i
    unfold ubs
    rw [List.length_append]
    split
    · show _ + 1 ≤ _; omega
    · show _ + 0 ≤ _; omega
def ECf (k : Nat) (nm cd : Int → Int) (S : St) : Prop := S.F 1 5 = 0 ∧ S.F 1 8 = k ∧ k ≤ 10 ∧ ∀ i : Int, 0 ≤ i → i < k → S.A 10 i = nm i ∧ S.A 11 i = cd i ∧ 0 ≤ cd i ∧ cd i < 1000000
theorem ECf.ft {k : Nat} {nm cd : Int → Int} {S S' : St} (f : FT S S') (h : ECf k nm cd S) : ECf k nm cd S' := by
  unfold ECf at h ⊢
  rw [f.F (show 5 ∉ [3, 4, 12] by decide), f.F (show 8 ∉ [3, 4, 12] by decide), f.A (show 10 ∉ [1, 12] by decide), f.A (show 11 ∉ [1, 12] by decide)]
  exact h
theorem g30L78_t {tx : Int → Int} {len p : Int} {k : Nat} {nm cd : Int → Int} {i : Nat} {W : List Int} (hQ : QX tx len) (hik : i ≤ k) (hb : (W.length : Int) + 10 + 11 * (len - p) ≤ 1800) : ∀ (r m j : Nat) (S : St), j + r = i → r < m → ECf k nm cd S → RC tx len S p (W ++ ubs cd j) → ∃ S', g30L78 i m j S = some S' ∧ RC tx len S' p (W ++ ubs cd i) ∧ FT S S' := by
  intro r
  induction r with
  | zero =>
    intro m j S hj hm hE h
    obtain ⟨m, rfl⟩ : ∃ q, m = q + 1 := ⟨m - 1, by omega⟩
    have h10 := hE.2.2.1
    have e : j = i := by omega
    subst e
    refine ⟨S, ?_, h, FT.refl S⟩
    unfold g30L78
    refine (gd_t (by first | exact ⟨by omega, by omega⟩ | exact ⟨by omega, by omega, by omega⟩ | exact ⟨by omega, by omega, by omega, by omega⟩ | omega | exact inR_to _ | assumption | decide)).trans ?_
    refine (gd_t (by first | exact ⟨by omega, by omega⟩ | exact ⟨by omega, by omega, by omega⟩ | exact ⟨by omega, by omega, by omega, by omega⟩ | omega | exact inR_to _ | assumption | decide)).trans ?_
    rw [if_neg (by omega)]
  | succ r ih =>
    intro m j S hj hm hE h
    obtain ⟨m, rfl⟩ : ∃ q, m = q + 1 := ⟨m - 1, by omega⟩
    have h10 := hE.2.2.1
    obtain ⟨c1, c2, c3, c4⟩ := hE.2.2.2 j (by omega) (by omega)
    have ul := ubs_len cd j
    by_cases hv : cd j < 32768
    · have eu : ubs cd (j + 1) = ubs cd j ++ [cd j] := by show ubs cd j ++ (if cd j < 32768 then [cd j] else []) = _; rw [if_pos hv]
      obtain ⟨S1, t1, t2, t3⟩ := g26_t (x := cd j) hQ h ⟨by omega, by omega⟩ (by rw [List.length_append]; omega)
      rw [List.append_assoc, ← eu] at t2
      obtain ⟨S2, q1, q2, q3⟩ := ih m (j + 1) S1 (by omega) (by omega) (hE.ft t3) t2
      refine ⟨S2, ?_, q2, t3.trans q3⟩
      rw [g30L78]
      refine (gd_t (by first | exact ⟨by omega, by omega⟩ | exact ⟨by omega, by omega, by omega⟩ | exact ⟨by omega, by omega, by omega, by omega⟩ | omega | exact inR_to _ | assumption | decide)).trans ?_
      refine (gd_t (by first | exact ⟨by omega, by omega⟩ | exact ⟨by omega, by omega, by omega⟩ | exact ⟨by omega, by omega, by omega, by omega⟩ | omega | exact inR_to _ | assumption | decide)).trans ?_
      rw [if_pos (by omega)]
      refine (gd_t (by first | exact ⟨by omega, by omega⟩ | exact ⟨by omega, by omega, by omega⟩ | exact ⟨by omega, by omega, by omega, by omega⟩ | omega | exact inR_to _ | assumption | decide)).trans ?_
      rw [c2, if_pos hv, t1]
      exact q1
    · have eu : ubs cd (j + 1) = ubs cd j := by show ubs cd j ++ (if cd j < 32768 then [cd j] else []) = _; rw [if_neg hv, List.append_nil]
      rw [← eu] at h
      obtain ⟨S2, q1, q2, q3⟩ := ih m (j + 1) S (by omega) (by omega) hE h
      refine ⟨S2, ?_, q2, q3⟩
      rw [g30L78]
      refine (gd_t (by first | exact ⟨by omega, by omega⟩ | exact ⟨by omega, by omega, by omega⟩ | exact ⟨by omega, by omega, by omega, by omega⟩ | omega | exact inR_to _ | assumption | decide)).trans ?_
      refine (gd_t (by first | exact ⟨by omega, by omega⟩ | exact ⟨by omega, by omega, by omega⟩ | exact ⟨by omega, by omega, by omega, by omega⟩ | omega | exact inR_to _ | assumption | decide)).trans ?_
      rw [if_pos (by omega)]
      refine (gd_t (by first | exact ⟨by omega, by omega⟩ | exact ⟨by omega, by omega, by omega⟩ | exact ⟨by omega, by omega, by omega, by omega⟩ | omega | exact inR_to _ | assumption | decide)).trans ?_
      rw [c2, if_neg hv]
      exact q1
theorem HV_f {tx : Int → Int} {len : Int} {k : Nat} {nm cd nu : Int → Int} (hQ : QX tx len) : HV tx len (vrF k nm cd nu) (ECf k nm cd) := by
  intro S n q p N W h hE n0 n1 q0 q1 hb
  have l160 := hQ.2.1
  obtain ⟨e1, e2, e3, e4⟩ := hE
  have hE : ECf k nm cd S := ⟨e1, e2, e3, e4⟩
  have lr := lix_r nm n k
  have el : g30L23 S n q FU (S.F 1 8 - 1) = some (lix nm n k) := by
    rw [e2, g30L23_t ⟨by omega, by omega⟩ k FU e3 (FU_gt (by omega))]
    rw [lix_c (nm' := nm) (n' := n) k (fun i hi => by rw [(e4 i (by omega) (by omega)).1])]
  have e0 : g30 S n q = if lix nm n k < 0 then ob (g25 S q) (fun o14 => some o14.2) else gd (ixR (lix nm n k) 10) (ob (g26 S (S.A 11 (lix nm n k))) (fun o17 => if (o17.A 11 (lix nm n k)) < 32768 then some o17 else ob (g30L78 (lix nm n k) FU 0 o17) (fun o27 => some o27))) := by
    unfold g30
    rw [if_pos e1, el]
    refine (ob_t rfl).trans ?_
    refine (gd_t (by first | exact ⟨by omega, by omega⟩ | exact ⟨by omega, by omega, by omega⟩ | exact ⟨by omega, by omega, by omega, by omega⟩ | omega | exact inR_to _ | assumption | decide)).trans ?_
    rfl
  show match (if lix nm n k < 0 then none else some (cds cd (lix nm n k).toNat, nu (lix nm n k), N) : Option (List Int × Int × List Int)) with
    | some (e, _, _) => ∃ S', g30 S n q = some S' ∧ RC tx len S' p (W ++ e) ∧ FT S S'
    | none => ∃ S', g30 S n q = some S' ∧ S'.F 1 3 = q ∧ FT S S'
  by_cases hl : lix nm n k < 0
  · rw [if_pos hl] at e0 ⊢
    have hg := g25_t S (p := q) ⟨by omega, by omega⟩
    exact ⟨S.f 1 3 q, e0, hg.2.1, hg.2.2⟩
  · rw [if_neg hl] at e0 ⊢
    obtain ⟨i, hi⟩ : ∃ i : Nat, lix nm n k = i := ⟨(lix nm n k).toNat, by omega⟩
    rw [hi] at e0 lr ⊢
    have hik : i < k := by omega
    obtain ⟨c1, c2, c3, c4⟩ := e4 i (by omega) (by omega)
    rw [show ((i : Int)).toNat = i by omega]
    obtain ⟨S1, t1, t2, t3⟩ := g26_t (x := cd i) hQ h ⟨by omega, by omega⟩ (by omega)
    have e1' : g30 S n q = if cd i < 32768 then some S1 else ob (g30L78 i FU 0 S1) (fun o27 => some o27) := by
      rw [e0]
      refine (gd_t (by first | exact ⟨by omega, by omega⟩ | exact ⟨by omega, by omega, by omega⟩ | exact ⟨by omega, by omega, by omega, by omega⟩ | omega | exact inR_to _ | assumption | decide)).trans ?_
      rw [c2, t1]
      refine (ob_t rfl).trans ?_
      rw [t3.A (show 11 ∉ [1, 12] by decide), c2]
    unfold cds
    by_cases hv : cd i < 32768
    · rw [if_pos hv] at e1' ⊢
      exact ⟨S1, e1', t2, t3⟩
    · rw [if_neg hv] at e1' ⊢
      obtain ⟨S2, q1, q2, q3⟩ := g30L78_t (W := W ++ [cd i]) (i := i) (p := p) hQ (by omega) (by rw [List.length_append]; show ((W.length + 1 : Nat) : Int) + _ + _ ≤ _; omega) i FU 0 S1 (by omega) (FU_gt (by omega)) (hE.ft t3) (by show RC tx len S1 p (W ++ [cd i] ++ []); rw [List.append_nil]; exact t2)
      have q1 : g30L78 i FU 0 S1 = some S2 := q1
      refine ⟨S2, ?_, ?_, t3.trans q3⟩
      · rw [e1', q1]
        rfl
      · rw [List.append_assoc] at q2
        exact q2
def EMf (k : Nat) (nm nu : Int → Int) (T : St) (_ : List Int) : Prop := T.F 36 29 = 0 ∧ T.F 36 30 = k ∧ k ≤ 10 ∧ ∀ i : Int, 0 ≤ i → i < k → T.A 50 i = nmq 120 (nm i) ∧ T.A 51 i = nu i ∧ 0 ≤ nm i ∧ nm i ≤ 32 ∧ 0 ≤ nu i ∧ nu i < 128
theorem HEM_f {k : Nat} {nm nu : Int → Int} : HEM (EMf k nm nu) := by
  intro T T' N hA hF h
  unfold EMf at h ⊢
  rw [hA.1, hA.2.1, hF.1, hF.2.1]
  exact h
theorem HVm_f {tx : Int → Int} {len : Int} {k : Nat} {nm cd nu : Int → Int} (hQ : QX tx len) : HVm tx len (vrF k nm cd nu) (EMf k nm nu) := by
  intro T pos n p N h hE hn
  have l160 := hQ.2.1
  have a5 := h.2.2.2.2.1
  have a8 := h.2.2.2.2.2.2.2
  have np := nmr_p hQ a5 (by decide) hn
  obtain ⟨T1, t1, t2, t3⟩ := g109_t hQ h (by decide) hn
  have hE1 : EMf k nm nu T1 N := HEM_f.p t3 hE
  have hE1' := hE1
  obtain ⟨m1, m2, m3, m4⟩ := hE1
  have f22 : T1.F 36 22 = T.F 36 22 := t3.2.2 22 (by decide)
  have iname : inR (nmq 120 n) := by unfold nmq; exact ⟨by omega, by omega⟩
  have eli : lix (T1.A 50) (nmq 120 n) k = lix nm n k := lix_c _ (fun i hi => by
    obtain ⟨c1, c2, c3, c4, c5, c6⟩ := m4 i (by omega) (by omega)
    rw [c1]
    exact nmq_inj c3 c4 (by omega) (by omega))
  have lr := lix_r nm n k
  have el : g108L15 T1 (T.F 36 27) (nmq 120 n) FU (-1) 0 = some (lv (T1.A 50) (T1.A 51) (nmq 120 n) k) := by
    have := g108L15_t (T := T1) (v1 := T.F 36 27) (n := nmq 120 n) iname (K := k) m2 (by omega) k FU 0 (by omega) (FU_gt (by omega))
    exact this
  have e0 : g108 T = ob (some (lv (T1.A 50) (T1.A 51) (nmq 120 n) k)) (fun o8 => gd (inR o8) (if o8 < 0 then if (T1.F 36 29) = 0 then some ((T1.f 36 28 1).f 36 27 (T.F 36 27)) else ob (g110 T1 (nmq 120 n)) (fun o15 => ob (g105 o15.2 o15.1) (fun o17 => some o17)) else ob (g105 T1 o8) (fun o19 => some o19))) := by
    unfold g108
    rw [t1]
    refine (ob_t rfl).trans ?_
    rw [el]
  show match (if lix nm n k < 0 then none else some (cds cd (lix nm n k).toNat, nu (lix nm n k), N) : Option (List Int × Int × List Int)) with
    | some (_, c, N') => ∃ T', g108 T = some T' ∧ RM tx len T' p ∧ T'.F 36 22 = T.F 36 22 + 1 ∧ T'.A 46 = lay (T.A 46) (T.F 36 22) [c] ∧ EMf k nm nu T' N' ∧ FTM T T' ∧ T'.A 53 = T.A 53
    | none => ∃ T', g108 T = some T' ∧ T'.F 36 28 = 1 ∧ T'.F 36 27 = pos ∧ FTM T T'
  by_cases hl : lix nm n k < 0
  · rw [if_pos hl]
    have elv : lv (T1.A 50) (T1.A 51) (nmq 120 n) k = -1 := by
      unfold lv
      rw [eli, if_pos hl]
    have iP : inR (T.F 36 27) := inR_to _
    refine ⟨(T1.f 36 28 1).f 36 27 (T.F 36 27), ?_, ?_, ?_, t3.2.1.trans ((f_FTM _ (by decide) _).trans (f_FTM _ (by decide) _))⟩
    · rw [e0, elv]
      refine (ob_t rfl).trans ?_
      refine (gd_t (by first | exact ⟨by omega, by omega⟩ | exact ⟨by omega, by omega, by omega⟩ | exact ⟨by omega, by omega, by omega, by omega⟩ | omega | exact inR_to _ | assumption | decide)).trans ?_
      rw [if_pos (by decide), if_pos m1]
    · rw [f_F iP, if_pos rfl, if_neg (by decide), f_F (by decide), if_pos rfl, if_pos rfl]
    · rw [f_F iP, if_pos rfl, if_pos rfl]
      exact h.2.1
  · rw [if_neg hl]
    obtain ⟨i, hi⟩ : ∃ i : Nat, lix nm n k = i := ⟨(lix nm n k).toNat, by omega⟩
    rw [hi] at eli lr ⊢
    obtain ⟨c1, c2, c3, c4, c5, c6⟩ := m4 i (by omega) (by omega)
    have elv : lv (T1.A 50) (T1.A 51) (nmq 120 n) k = nu i := by
      unfold lv
      rw [eli, if_neg (by omega), c2]
    obtain ⟨T3, u1, u2, u3, u4, u5, u6, u7⟩ := g105_t (c := nu i) t2 ⟨by omega, by omega⟩ (by rw [f22]; omega) l160
    refine ⟨T3, ?_, u2, u3.trans (by rw [f22]), ?_, HEM_f T1 T3 N ⟨u6 50 (by decide), u6 51 (by decide), u6 52 (by decide)⟩ ⟨u7 29 (by decide), u7 30 (by decide), u7 34 (by decide)⟩ hE1', t3.2.1.trans u5, ?_⟩
    · rw [e0, elv]
      refine (ob_t rfl).trans ?_
      refine (gd_t (by first | exact ⟨by omega, by omega⟩ | exact ⟨by omega, by omega, by omega⟩ | exact ⟨by omega, by omega, by omega, by omega⟩ | omega | exact inR_to _ | assumption | decide)).trans ?_
      rw [if_neg (by omega), u1]
      rfl
    · rw [u4, f22, t3.1]
    · rw [u6 53 (by decide), t3.1]
