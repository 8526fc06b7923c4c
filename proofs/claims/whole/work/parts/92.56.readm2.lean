/-- the variables of the second object's reader -/
def HVm (tx : Int → Int) (len : Int) (vr : Vr) (EM : St → List Int → Prop) : Prop := ∀ (T : St) (pos n p : Int) (N : List Int), RM tx len T pos → EM T N → nmr tx 120 122 pos = some (n, p) → match vr N n with
    | some (_, c, N') => ∃ T', g108 T = some T' ∧ RM tx len T' p ∧ T'.F 36 22 = T.F 36 22 + 1 ∧ T'.A 46 = lay (T.A 46) (T.F 36 22) [c] ∧ EM T' N' ∧ FTM T T' ∧ T'.A 53 = T.A 53
    | none => ∃ T', g108 T = some T' ∧ T'.F 36 28 = 1 ∧ T'.F 36 27 = pos ∧ FTM T T'
/-- the names hold on -/
def HEM (EM : St → List Int → Prop) : Prop := ∀ (T T' : St) (N : List Int), (T'.A 50 = T.A 50 ∧ T'.A 51 = T.A 51 ∧ T'.A 52 = T.A 52) → (T'.F 36 29 = T.F 36 29 ∧ T'.F 36 30 = T.F 36 30 ∧ T'.F 36 34 = T.F 36 34) → EM T N → EM T' N
theorem HEM.p {EM : St → List Int → Prop} (h : HEM EM) {T T' : St} {N : List Int} (f : PMv T T') (e : EM T N) : EM T' N := h T T' N ⟨by rw [f.1], by rw [f.1], by rw [f.1]⟩ ⟨f.2.2 29 (by decide), f.2.2 30 (by decide), f.2.2 34 (by decide)⟩ e
theorem HEM.a {EM : St → List Int → Prop} (h : HEM EM) {T : St} {N : List Int} {c : Nat} {i x : Int} (hc : c = 46 ∨ c = 53) (e : EM T N) : EM (T.a c i x) N := h T _ N ⟨aA_ne (by rcases hc with h | h <;> (rw [h]; decide)), aA_ne (by rcases hc with h | h <;> (rw [h]; decide)), aA_ne (by rcases hc with h | h <;> (rw [h]; decide))⟩ ⟨rfl, rfl, rfl⟩ e
/-- the second object has gone wrong at e -/
def BM (T T' : St) (e : Int) : Prop := T'.F 36 28 = 1 ∧ T'.F 36 27 = e ∧ FTM T T'
theorem g106_bad {T : St} {n : Nat} {v1 v2 : Int} (h : T.F 36 28 = 1) : g106L6 (n + 1) v1 v2 1 T = some T := by
  rw [g106L6]
  refine (gd_t (by first | exact ⟨by omega, by omega⟩ | exact ⟨by omega, by omega, by omega⟩ | exact ⟨by omega, by omega, by omega, by omega⟩ | omega | exact inR_to _ | assumption | decide)).trans ?_
  rw [if_neg (by decide), if_neg (by rw [h]; decide)]
theorem g106_end {T : St} {n : Nat} {v1 v2 : Int} : g106L6 (n + 1) v1 v2 0 T = some T := by
  rw [g106L6]
  refine (gd_t (by first | exact ⟨by omega, by omega⟩ | exact ⟨by omega, by omega, by omega⟩ | exact ⟨by omega, by omega, by omega, by omega⟩ | omega | exact inR_to _ | assumption | decide)).trans ?_
  rw [if_pos rfl]
/-- the loop where a term has ended -/
theorem g106_0 {tx : Int → Int} {len pos v1 : Int} {T : St} {n : Nat} (hQ : QX tx len) (h : RM tx len T pos) (v0 : 0 ≤ v1) (v16 : v1 ≤ 15) : g106L6 (n + 2) v1 0 1 T = if v1 = 0 then some T else if tx pos = 44 then ob (g107 (T.f 36 27 (pos + 1)) (T.A 53 (v1 - 1))) (fun o13 => g106L6 (n + 1) v1 o13.1 1 o13.2) else if tx pos = 41 then g106L6 (n + 1) (v1 - 1) 0 1 (T.f 36 27 (pos + 1)) else some (T.f 36 28 1) := by
  have e0 := g102_t hQ h
  have q0 := hQ.r h.2.2.2.2.1
  have eb : (T.f 36 28 1).F 36 28 = 1 := by rw [f_F (by decide), if_pos rfl, if_pos rfl]
  rw [g106L6]
  refine (gd_t (by first | exact ⟨by omega, by omega⟩ | exact ⟨by omega, by omega, by omega⟩ | exact ⟨by omega, by omega, by omega, by omega⟩ | omega | exact inR_to _ | assumption | decide)).trans ?_
  rw [if_neg (by decide), if_pos h.2.2.1]
  refine (gd_t (by first | exact ⟨by omega, by omega⟩ | exact ⟨by omega, by omega, by omega⟩ | exact ⟨by omega, by omega, by omega, by omega⟩ | omega | exact inR_to _ | assumption | decide)).trans ?_
  rw [if_pos rfl]
  refine (gd_t (by first | exact ⟨by omega, by omega⟩ | exact ⟨by omega, by omega, by omega⟩ | exact ⟨by omega, by omega, by omega, by omega⟩ | omega | exact inR_to _ | assumption | decide)).trans ?_
  by_cases hv : v1 = 0
  · rw [if_pos hv, if_pos hv, g106_end]
  · rw [if_neg hv, if_neg hv, e0]
    refine (ob_t rfl).trans ?_
    refine (gd_t (by first | exact ⟨by omega, by omega⟩ | exact ⟨by omega, by omega, by omega⟩ | exact ⟨by omega, by omega, by omega, by omega⟩ | omega | exact inR_to _ | assumption | decide)).trans ?_
    by_cases h44 : tx pos = 44
    · rw [if_pos h44, if_pos h44]
      refine (gd_t (by first | exact ⟨by omega, by omega⟩ | exact ⟨by omega, by omega, by omega⟩ | exact ⟨by omega, by omega, by omega, by omega⟩ | omega | exact inR_to _ | assumption | decide)).trans ?_
      rw [h.2.1]
    · rw [if_neg h44, if_neg h44]
      refine (ob_t rfl).trans ?_
      refine (gd_t (by first | exact ⟨by omega, by omega⟩ | exact ⟨by omega, by omega, by omega⟩ | exact ⟨by omega, by omega, by omega, by omega⟩ | omega | exact inR_to _ | assumption | decide)).trans ?_
      by_cases h41 : tx pos = 41
      · rw [if_pos h41, if_pos h41, h.2.1]
        rfl
      · rw [if_neg h41, if_neg h41, g106_bad eb]
/-- and where it may open -/
theorem g106_1 {tx : Int → Int} {len pos v1 : Int} {T : St} {n : Nat} (hQ : QX tx len) (h : RM tx len T pos) (v0 : 0 ≤ v1) (v16 : v1 ≤ 15) : g106L6 (n + 2) v1 1 1 T = if tx pos = 40 then (if 14 < v1 then some (T.f 36 28 1) else ob (g107 (((T.f 36 28 0).a 53 v1 (T.F 36 22 - 1)).f 36 27 (pos + 1)) (((T.f 36 28 0).a 53 v1 (T.F 36 22 - 1)).A 53 v1)) (fun o27 => g106L6 (n + 1) (v1 + 1) o27.1 1 o27.2)) else g106L6 (n + 2) v1 0 1 T := by
  have e0 := g102_t hQ h
  have q0 := hQ.r h.2.2.2.2.1
  have eb : (T.f 36 28 1).F 36 28 = 1 := by rw [f_F (by decide), if_pos rfl, if_pos rfl]
  rw [g106_0 hQ h v0 v16, g106L6]
  refine (gd_t (by first | exact ⟨by omega, by omega⟩ | exact ⟨by omega, by omega, by omega⟩ | exact ⟨by omega, by omega, by omega, by omega⟩ | omega | exact inR_to _ | assumption | decide)).trans ?_
  rw [if_neg (by decide), if_pos h.2.2.1]
  refine (gd_t (by first | exact ⟨by omega, by omega⟩ | exact ⟨by omega, by omega, by omega⟩ | exact ⟨by omega, by omega, by omega, by omega⟩ | omega | exact inR_to _ | assumption | decide)).trans ?_
  rw [if_neg (by decide), e0]
  refine (ob_t rfl).trans ?_
  refine (gd_t (by first | exact ⟨by omega, by omega⟩ | exact ⟨by omega, by omega, by omega⟩ | exact ⟨by omega, by omega, by omega, by omega⟩ | omega | exact inR_to _ | assumption | decide)).trans ?_
  by_cases h40 : tx pos = 40
  · rw [if_pos h40, if_pos h40]
    refine (gd_t (by first | exact ⟨by omega, by omega⟩ | exact ⟨by omega, by omega, by omega⟩ | exact ⟨by omega, by omega, by omega, by omega⟩ | omega | exact inR_to _ | assumption | decide)).trans ?_
    by_cases h14 : 14 < v1
    · rw [if_pos h14, if_pos h14, g106_bad eb]
    · rw [if_neg h14, if_neg h14]
      refine (gd_t (by first | exact ⟨by omega, by omega⟩ | exact ⟨by omega, by omega, by omega⟩ | exact ⟨by omega, by omega, by omega, by omega⟩ | omega | exact inR_to _ | assumption | decide)).trans ?_
      refine (gd_t (by first | exact ⟨by omega, by omega⟩ | exact ⟨by omega, by omega, by omega⟩ | exact ⟨by omega, by omega, by omega, by omega⟩ | omega | exact inR_to _ | assumption | decide)).trans ?_
      rw [show v1 + 1 - 1 = v1 by omega, h.2.1]
  · rw [if_neg h40, if_neg h40]
    refine (gd_t (by first | exact ⟨by omega, by omega⟩ | exact ⟨by omega, by omega, by omega⟩ | exact ⟨by omega, by omega, by omega, by omega⟩ | omega | exact inR_to _ | assumption | decide)).trans ?_
    by_cases hv : v1 = 0
    · rw [if_pos hv, if_pos hv, g106_end]
    · rw [if_neg hv, if_neg hv]
      refine (ob_t rfl).trans ?_
      refine (gd_t (by first | exact ⟨by omega, by omega⟩ | exact ⟨by omega, by omega, by omega⟩ | exact ⟨by omega, by omega, by omega, by omega⟩ | omega | exact inR_to _ | assumption | decide)).trans ?_
      by_cases h44 : tx pos = 44
      · rw [if_pos h44, if_pos h44]
        refine (gd_t (by first | exact ⟨by omega, by omega⟩ | exact ⟨by omega, by omega, by omega⟩ | exact ⟨by omega, by omega, by omega, by omega⟩ | omega | exact inR_to _ | assumption | decide)).trans ?_
        rw [h.2.1]
      · rw [if_neg h44, if_neg h44]
        refine (ob_t rfl).trans ?_
        refine (gd_t (by first | exact ⟨by omega, by omega⟩ | exact ⟨by omega, by omega, by omega⟩ | exact ⟨by omega, by omega, by omega, by omega⟩ | omega | exact inR_to _ | assumption | decide)).trans ?_
        by_cases h41 : tx pos = 41
        · rw [if_pos h41, if_pos h41, h.2.1]
          rfl
        · rw [if_neg h41, if_neg h41, g106_bad eb]
/-- a function's symbol is read -/
theorem g107_sy {tx : Int → Int} {len pos pl : Int} {cl : Bool} {EM : St → List Int → Prop} {T : St} {N : List Int} (hQ : QX tx len) (hEM : HEM EM) (hcl : ∀ T N, EM T N → T.F 36 29 = if cl = true then 1 else 0) (h : RM tx len T pos) (hE : EM T N) (p0 : 0 ≤ pl) (p1 : pl < T.F 36 22) (b0 : 0 ≤ T.A 46 pl) (b1 : T.A 46 pl < 100000000) (hn : nmr tx 120 122 pos = none) (pl1 : pos < len ∨ T.F 36 22 < 1020) : match syr tx cl pos with
    | .inl e => ∃ b T1, g107 T pl = some (b, T1) ∧ b1R b ∧ BM T T1 e
    | .inr (x, p) => ∃ T1, g107 T pl = some (1, T1) ∧ RM tx len T1 p ∧ T1.F 36 22 = T.F 36 22 + 1 ∧ T1.A 46 = lay (upI (T.A 46) pl (T.A 46 pl + 1)) (T.F 36 22) [mo x] ∧ FTM T T1 ∧ EM T1 N ∧ T1.A 53 = T.A 53 := by
  have l160 := hQ.2.1
  have a5 := h.2.2.2.2.1
  have a6 := h.2.2.2.2.2.1
  have a7 := h.2.2.2.2.2.2.1
  have a8 := h.2.2.2.2.2.2.2
  have q0 := hQ.r a5
  have i1 : inR (T.A 46 pl + 1) := ⟨by omega, by omega⟩
  have h0 : RM tx len (T.a 46 pl (T.A 46 pl + 1)) pos := h.a (by decide)
  have f0 : FTM T (T.a 46 pl (T.A 46 pl + 1)) := a_FTM T (by decide) _ _
  have hE0 : EM (T.a 46 pl (T.A 46 pl + 1)) N := hEM.a (Or.inl rfl) hE
  have d46 : (T.a 46 pl (T.A 46 pl + 1)).A 46 = upI (T.A 46) pl (T.A 46 pl + 1) := aA_up i1
  have d53 : (T.a 46 pl (T.A 46 pl + 1)).A 53 = T.A 53 := aA_ne (by decide)
  have ecl := hcl T N hE
  have e0 := g102_t hQ h0
  have ex := g104_t hQ h0 (lo := 120) (hi := 122) (by decide) (by decide) (by decide)
  have ea := g104_t hQ h0 (lo := 97) (hi := 107) (by decide) (by decide) (by decide)
  have hx : ¬ (120 ≤ tx pos ∧ tx pos ≤ 122) := fun hh => by
    unfold nmr at hn
    rw [if_pos hh] at hn
    split at hn <;> cases hn
  rw [if_neg hx] at ex
  have bad : BM T ((T.a 46 pl (T.A 46 pl + 1)).f 36 28 1) pos := ⟨by rw [f_F (by decide), if_pos rfl, if_pos rfl], by rw [f_F (by decide), if_pos rfl, if_neg (by decide)]; exact h.2.1, f0.trans (f_FTM _ (by decide) _)⟩
  have e1 : g107 T pl = if 97 ≤ tx pos ∧ tx pos ≤ 107 then ob (g109 (T.a 46 pl (T.A 46 pl + 1))) (fun o35 => ob (g105 o35.2 (4096 + (128 * o35.1))) (fun o37 => some (1, o37))) else if tx pos = 36 then (if T.F 36 29 = 0 then some (0, (T.a 46 pl (T.A 46 pl + 1)).f 36 28 1) else ob (g111 (T.a 46 pl (T.A 46 pl + 1))) (fun o19 => ob (g105 o19.2 (4096 + (128 * o19.1))) (fun o21 => some (1, o21)))) else some (0, (T.a 46 pl (T.A 46 pl + 1)).f 36 28 1) := by
    unfold g107
    refine (gd_t (by first | exact ⟨by omega, by omega⟩ | exact ⟨by omega, by omega, by omega⟩ | exact ⟨by omega, by omega, by omega, by omega⟩ | omega | exact inR_to _ | assumption | decide)).trans ?_
    rw [ex]
    refine (ob_t rfl).trans ?_
    refine (gd_t (by first | exact ⟨by omega, by omega⟩ | exact ⟨by omega, by omega, by omega⟩ | exact ⟨by omega, by omega, by omega, by omega⟩ | omega | exact inR_to _ | assumption | decide)).trans ?_
    rw [if_pos rfl, ea]
    refine (ob_t rfl).trans ?_
    by_cases h97 : 97 ≤ tx pos ∧ tx pos ≤ 107
    · rw [if_pos h97, if_pos h97]
      refine (gd_t (by first | exact ⟨by omega, by omega⟩ | exact ⟨by omega, by omega, by omega⟩ | exact ⟨by omega, by omega, by omega, by omega⟩ | omega | exact inR_to _ | assumption | decide)).trans ?_
      rw [if_neg (by decide), e0]
      refine (ob_t rfl).trans ?_
      refine (gd_t (by first | exact ⟨by omega, by omega⟩ | exact ⟨by omega, by omega, by omega⟩ | exact ⟨by omega, by omega, by omega, by omega⟩ | omega | exact inR_to _ | assumption | decide)).trans ?_
      rw [if_neg (by omega)]
    · rw [if_neg h97, if_neg h97]
      refine (gd_t (by first | exact ⟨by omega, by omega⟩ | exact ⟨by omega, by omega, by omega⟩ | exact ⟨by omega, by omega, by omega, by omega⟩ | omega | exact inR_to _ | assumption | decide)).trans ?_
      rw [if_pos rfl, e0]
      refine (ob_t rfl).trans ?_
      refine (gd_t (by first | exact ⟨by omega, by omega⟩ | exact ⟨by omega, by omega, by omega⟩ | exact ⟨by omega, by omega, by omega, by omega⟩ | omega | exact inR_to _ | assumption | decide)).trans ?_
      by_cases h36 : tx pos = 36
      · rw [if_pos h36, if_pos h36]
        by_cases hf : T.F 36 29 = 0
        · rw [if_pos hf, if_pos hf]
        · rw [if_neg hf, if_neg hf]
          refine (ob_t rfl).trans ?_
          refine (gd_t (by first | exact ⟨by omega, by omega⟩ | exact ⟨by omega, by omega, by omega⟩ | exact ⟨by omega, by omega, by omega, by omega⟩ | omega | exact inR_to _ | assumption | decide)).trans ?_
          rw [if_pos h36]
      · rw [if_neg h36, if_neg h36]
  unfold syr
  by_cases hc : cl = true ∧ tx pos = 36
  · have pl0 := q0.2.2 (by omega)
    rw [if_pos hc, ]
    rw [if_neg (by omega), if_pos hc.2, if_neg (by rw [ecl, if_pos hc.1]; decide)] at e1
    have h111 := g111_t hQ h0 hc.2
    cases em : mdr tx pos with
    | none =>
      rw [em] at h111
      obtain ⟨T1, t1, t2, t3, t4⟩ := h111
      have f22 : T1.F 36 22 = T.F 36 22 := t4.2.2 22 (by decide)
      have e105 : g105 T1 (4096 + 128 * 0) = some ((T1.a 46 (T1.F 36 22) (4096 + 128 * 0)).f 36 22 (T1.F 36 22 + 1)) := by
        unfold g105
        refine (gd_t (by first | exact ⟨by omega, by omega⟩ | exact ⟨by omega, by omega, by omega⟩ | exact ⟨by omega, by omega, by omega, by omega⟩ | omega | exact inR_to _ | assumption | decide)).trans ?_
        rfl
      refine ⟨1, (T1.a 46 (T1.F 36 22) (4096 + 128 * 0)).f 36 22 (T1.F 36 22 + 1), ?_, Or.inr rfl, ?_, ?_, (f0.trans t4.2.1).trans ((a_FTM _ (by decide) _ _).trans (f_FTM _ (by decide) _))⟩
      · rw [e1, t1]
        refine (ob_t rfl).trans ?_
        rw [e105]
        rfl
      · rw [f_F ⟨by omega, by omega⟩, if_pos rfl, if_neg (by decide)]
        exact t2
      · rw [f_F ⟨by omega, by omega⟩, if_pos rfl, if_neg (by decide)]
        exact t3
    | some a =>
      obtain ⟨v, p⟩ := a
      have sp := syr_p (cl := cl) hQ a5 a6
      unfold syr at sp
      rw [if_pos hc, em] at sp
      obtain ⟨s1, s2, s3, s4, s5, s6⟩ := sp
      rw [em] at h111
      obtain ⟨T1, t1, t2, t3⟩ := h111
      have f22 : T1.F 36 22 = T.F 36 22 := t3.2.2 22 (by decide)
      have hv99 := mdr_v em
      have emo : 4096 + 128 * (36 + 128 * v) = mo (65536 + v * 256) := by
        unfold mo
        rw [if_neg (by omega), if_neg (by omega), if_pos (by omega)]
        omega
      have mR := mo_R s3
      obtain ⟨T2, u1, u2, u3, u4, u5, u6, u7⟩ := g105_t (c := 4096 + 128 * (36 + 128 * v)) t2 (by rw [emo]; exact ⟨by omega, by omega⟩) (by rw [f22]; omega) l160
      rw [f22] at u3 u4
      refine ⟨T2, ?_, u2, u3, ?_, (f0.trans t3.2.1).trans u5, ?_, ?_⟩
      · rw [e1, t1]
        refine (ob_t rfl).trans ?_
        rw [u1]
        rfl
      · rw [u4, t3.1, d46, emo]
      · exact hEM T1 T2 N ⟨u6 50 (by decide), u6 51 (by decide), u6 52 (by decide)⟩ ⟨u7 29 (by decide), u7 30 (by decide), u7 34 (by decide)⟩ (hEM.p t3 hE0)
      · rw [u6 53 (by decide), t3.1, d53]
  · rw [if_neg hc]
    by_cases h97 : 97 ≤ tx pos ∧ tx pos ≤ 107
    · have pl0 := q0.2.2 (by omega)
      rw [if_pos h97] at e1
      cases em : nmr tx 97 107 pos with
      | none =>
        unfold nmr at em
        rw [if_pos h97] at em
        split at em <;> cases em
      | some a =>
        obtain ⟨n, p⟩ := a
        have np := nmr_p hQ a5 (by decide) em
        obtain ⟨T1, t1, t2, t3⟩ := g109_t hQ h0 (by decide) em
        have f22 : T1.F 36 22 = T.F 36 22 := t3.2.2 22 (by decide)
        have emo := nmq_mo (n := n) (by omega) (by omega)
        have mR := mo_R (x := 32768 + n * 256) (by unfold vx; omega)
        obtain ⟨T2, u1, u2, u3, u4, u5, u6, u7⟩ := g105_t (c := 4096 + 128 * nmq 97 n) t2 (by rw [emo]; exact ⟨by omega, by omega⟩) (by rw [f22]; omega) l160
        rw [f22] at u3 u4
        refine ⟨T2, ?_, u2, u3, ?_, (f0.trans t3.2.1).trans u5, ?_, ?_⟩
        · rw [e1, t1]
          refine (ob_t rfl).trans ?_
          rw [u1]
          rfl
        · rw [u4, t3.1, d46, emo]
        · exact hEM T1 T2 N ⟨u6 50 (by decide), u6 51 (by decide), u6 52 (by decide)⟩ ⟨u7 29 (by decide), u7 30 (by decide), u7 34 (by decide)⟩ (hEM.p t3 hE0)
        · rw [u6 53 (by decide), t3.1, d53]
    · have en : nmr tx 97 107 pos = none := by unfold nmr; rw [if_neg h97]
      rw [en]
      rw [if_neg h97] at e1
      refine ⟨0, _, ?_, Or.inl rfl, bad⟩
      rw [e1]
      by_cases h36 : tx pos = 36
      · rw [if_pos h36, if_pos (by rw [ecl, if_neg (fun e => hc ⟨e, h36⟩)])]
      · rw [if_neg h36]
theorem mo_add {x k : Int} (h1 : 32768 ≤ x) (h2 : x < 131072) (h3 : x % 256 = 0) (k0 : 0 ≤ k) (k1 : k < 256) : mo (x + k) = mo x + k := by
  by_cases h : x < 65536
  · have a1 : mo (x + k) = 4096 + 128 * (97 + ((x + k - 32768) / 256) / 11 + 128 * (((x + k - 32768) / 256) % 11)) + (x + k) % 256 := by unfold mo; rw [if_neg (by omega), if_pos (by omega)]
    have a2 : mo x = 4096 + 128 * (97 + ((x - 32768) / 256) / 11 + 128 * (((x - 32768) / 256) % 11)) + x % 256 := by unfold mo; rw [if_neg (by omega), if_pos h]
    rw [a1, a2, show (x + k - 32768) / 256 = (x - 32768) / 256 by omega]
    omega
  · have a1 : mo (x + k) = 4096 + 128 * (36 + 128 * ((x + k - 65536) / 256)) + (x + k) % 256 := by unfold mo; rw [if_neg (by omega), if_neg (by omega), if_pos (by omega)]
    have a2 : mo x = 4096 + 128 * (36 + 128 * ((x - 65536) / 256)) + x % 256 := by unfold mo; rw [if_neg (by omega), if_neg h, if_pos h2]
    rw [a1, a2, show (x + k - 65536) / 256 = (x - 65536) / 256 by omega]
    omega
/-- brackets, as the second object goes through them -/
def HM (tx : Int → Int) (len : Int) (EM : St → List Int → Prop) (rcS : Int → Int → List Int → RsL) (D : Int) : Prop := ∀ (T : St) (d pos : Int) (N : List Int), D ≤ d → 0 ≤ d → d ≤ 14 → RM tx len T pos → EM T N → tx pos = 40 → 1 ≤ T.F 36 22 → 0 ≤ T.A 46 (T.F 36 22 - 1) → T.A 46 (T.F 36 22 - 1) < 10000000 → match rcS d pos N with
    | .inl e => ∀ n : Nat, 340 ≤ (n : Int) + 2 * pos → ∃ T', g106L6 n d 1 1 T = some T' ∧ BM T T' e
    | .inr (p, k, _, C, N') => (0 ≤ k ∧ k ≤ 160) ∧ ∀ n : Nat, 340 ≤ (n : Int) + 2 * pos → ∃ (n' : Nat) (T' : St), g106L6 n d 1 1 T = g106L6 n' d 0 1 T' ∧ 340 ≤ (n' : Int) + 2 * p ∧ RM tx len T' p ∧ T'.F 36 22 = T.F 36 22 + C.length ∧ T'.A 46 = lay (upI (T.A 46) (T.F 36 22 - 1) (T.A 46 (T.F 36 22 - 1) + k)) (T.F 36 22) C ∧ EM T' N' ∧ FTM T T' ∧ ∀ i : Int, i < d → T'.A 53 i = T.A 53 i
set_option maxHeartbeats 1000000 in
theorem g107_t {tx : Int → Int} {len pos pl d D : Int} {cl : Bool} {vr : Vr} {EM : St → List Int → Prop} {rcS : Int → Int → List Int → RsL} {T : St} {N : List Int} (hQ : QX tx len) (hV : HVm tx len vr EM) (hEM : HEM EM) (hcl : ∀ T N, EM T N → T.F 36 29 = if cl = true then 1 else 0) (hR : HM tx len EM rcS D) (h : RM tx len T pos) (hE : EM T N) (p0 : 0 ≤ pl) (p1 : pl < T.F 36 22) (b0 : 0 ≤ T.A 46 pl) (b1 : T.A 46 pl < 100000000) (d0 : 0 ≤ d) (d1 : d ≤ 14) (hD : D ≤ d + 1) (hb : T.F 36 22 < 1020) : match sT tx cl vr rcS d pos N with
    | .inl e => ∃ b T1, g107 T pl = some (b, T1) ∧ ∀ n : Nat, 340 ≤ (n : Int) + 2 * pos → ∃ T', g106L6 n (d + 1) b 1 T1 = some T' ∧ BM T T' e
    | .inr (p, _, C, N') => ∃ b T1, g107 T pl = some (b, T1) ∧ ∀ n : Nat, 340 ≤ (n : Int) + 2 * pos → ∃ (n' : Nat) (T' : St), g106L6 n (d + 1) b 1 T1 = g106L6 n' (d + 1) 0 1 T' ∧ 340 ≤ (n' : Int) + 2 * p ∧ RM tx len T' p ∧ T'.F 36 22 = T.F 36 22 + C.length ∧ T'.A 46 = lay (upI (T.A 46) pl (T.A 46 pl + 1)) (T.F 36 22) C ∧ EM T' N' ∧ FTM T T' ∧ ∀ i : Int, i < d + 1 → T'.A 53 i = T.A 53 i := by
  have l160 := hQ.2.1
  have a5 := h.2.2.2.2.1
  have a6 := h.2.2.2.2.2.1
  have a7 := h.2.2.2.2.2.2.1
  have q0 := hQ.r a5
  cases en : nmr tx 120 122 pos with
  | some a =>
    obtain ⟨n, p⟩ := a
    have np := nmr_p hQ a5 (by decide) en
    have i1 : inR (T.A 46 pl + 1) := ⟨by omega, by omega⟩
    have h0 : RM tx len (T.a 46 pl (T.A 46 pl + 1)) pos := h.a (by decide)
    have f0 : FTM T (T.a 46 pl (T.A 46 pl + 1)) := a_FTM T (by decide) _ _
    have hE0 : EM (T.a 46 pl (T.A 46 pl + 1)) N := hEM.a (Or.inl rfl) hE
    have d46 : (T.a 46 pl (T.A 46 pl + 1)).A 46 = upI (T.A 46) pl (T.A 46 pl + 1) := aA_up i1
    have d53 : (T.a 46 pl (T.A 46 pl + 1)).A 53 = T.A 53 := aA_ne (by decide)
    have ex := g104_t hQ h0 (lo := 120) (hi := 122) (by decide) (by decide) (by decide)
    have hx : 120 ≤ tx pos ∧ tx pos ≤ 122 := by
      by_cases hh : 120 ≤ tx pos ∧ tx pos ≤ 122
      · exact hh
      · unfold nmr at en
        rw [if_neg hh] at en
        cases en
    rw [if_pos hx] at ex
    have e1 : g107 T pl = ob (g108 (T.a 46 pl (T.A 46 pl + 1))) (fun o39 => some (0, o39)) := by
      unfold g107
      refine (gd_t (by first | exact ⟨by omega, by omega⟩ | exact ⟨by omega, by omega, by omega⟩ | exact ⟨by omega, by omega, by omega, by omega⟩ | omega | exact inR_to _ | assumption | decide)).trans ?_
      rw [ex]
      refine (ob_t rfl).trans ?_
      refine (gd_t (by first | exact ⟨by omega, by omega⟩ | exact ⟨by omega, by omega, by omega⟩ | exact ⟨by omega, by omega, by omega, by omega⟩ | omega | exact inR_to _ | assumption | decide)).trans ?_
      rw [if_neg (by decide)]
    have hv := hV (T.a 46 pl (T.A 46 pl + 1)) pos n p N h0 hE0 en
    cases ev : vr N n with
    | some b =>
      obtain ⟨e, c, N'⟩ := b
      rw [ev] at hv
      rw [sT_v1 en ev]
      obtain ⟨T1, t1, t2, t3, t4, t5, t6, t7⟩ := hv
      refine ⟨0, T1, ?_, fun m hm => ⟨m, T1, rfl, by omega, t2, t3, ?_, t5, f0.trans t6, fun i _ => by rw [t7, d53]⟩⟩
      · rw [e1, t1]
        rfl
      · rw [t4, d46]
        rfl
    | none =>
      rw [ev] at hv
      rw [sT_v0 en ev]
      obtain ⟨T1, t1, t2, t3, t4⟩ := hv
      refine ⟨0, T1, ?_, fun m hm => ⟨T1, ?_, t2, t3, f0.trans t4⟩⟩
      · rw [e1, t1]
        rfl
      · obtain ⟨m, rfl⟩ : ∃ q, m = q + 1 := ⟨m - 1, by omega⟩
        exact g106_bad t2
  | none =>
    have sy := g107_sy (pl := pl) hQ hEM hcl h hE p0 p1 b0 b1 en (Or.inr hb)
    have sp := syr_p (cl := cl) hQ a5 a6
    cases es : syr tx cl pos with
    | inl e =>
      rw [es] at sy
      rw [sT_e en es]
      obtain ⟨b, T1, t1, t2, t3⟩ := sy
      refine ⟨b, T1, t1, fun m hm => ⟨T1, ?_, t3⟩⟩
      obtain ⟨m, rfl⟩ : ∃ q, m = q + 1 := ⟨m - 1, by omega⟩
      exact g106_bad t3.1
    | inr a =>
      obtain ⟨x, p⟩ := a
      rw [es] at sy sp
      rw [sT_s en es]
      obtain ⟨s1, s2, s3, s4, s5, s6⟩ := sp
      obtain ⟨T1, t1, t2, t3, t4, t5, t6, t7⟩ := sy
      have mR := mo_R s3
      have mB : mo x < 10000000 := by
        unfold mo
        rw [if_neg (by omega)]
        by_cases h65 : x < 65536
        · rw [if_pos h65]
          omega
        · rw [if_neg h65, if_pos s5]
          omega
      have c1 : T1.A 46 (T.F 36 22) = mo x := by
        rw [t4]
        unfold lay
        rw [if_pos (by show T.F 36 22 ≤ T.F 36 22 ∧ T.F 36 22 < T.F 36 22 + ((1 : Nat) : Int); omega), Int.sub_self]
        rfl
      have tp : T1.F 36 22 - 1 = T.F 36 22 := by omega
      by_cases h40 : tx p = 40
      · rw [if_pos h40]
        by_cases h14 : d < 14
        · rw [if_pos h14]
          have hr := hR T1 (d + 1) p N hD (by omega) (by omega) t2 t6 h40 (by omega) (by rw [tp, c1]; omega) (by rw [tp, c1]; exact mB)
          cases er : rcS (d + 1) p N with
          | inl e =>
            rw [er] at hr
            refine ⟨1, T1, t1, fun m hm => ?_⟩
            obtain ⟨T', r1, r2, r3, r4⟩ := hr m (by omega)
            exact ⟨T', r1, r2, r3, t5.trans r4⟩
          | inr a =>
            obtain ⟨p', k, E, C, N'⟩ := a
            rw [er] at hr
            obtain ⟨hk, hr⟩ := hr
            refine ⟨1, T1, t1, fun m hm => ?_⟩
            obtain ⟨n', T', r1, r2, r3, r4, r5, r6, r7, r8⟩ := hr m (by omega)
            refine ⟨n', T', r1, r2, r3, ?_, ?_, r6, t5.trans r7, fun i hi => by rw [r8 i hi, t7]⟩
            · rw [r4, t3]
              show _ = T.F 36 22 + ((C.length + 1 : Nat) : Int)
              omega
            · rw [r5, tp, c1, t4, t3, lay_one (upI (T.A 46) pl (T.A 46 pl + 1)) (T.F 36 22) (mo x) |>.symm, up_up, lay_one]
              have := lay_app (upI (T.A 46) pl (T.A 46 pl + 1)) (T.F 36 22) [mo x + k] C
              have ek := (mo_add (k := k) s4 s5 s6 hk.1 (by omega)).symm
              rw [← ek]
              exact this
        · rw [if_neg h14]
          refine ⟨1, T1, t1, fun m hm => ⟨T1.f 36 28 1, ?_, ?_, ?_, t5.trans (f_FTM _ (by decide) _)⟩⟩
          · obtain ⟨m, rfl⟩ : ∃ q, m = q + 2 := ⟨m - 2, by omega⟩
            rw [g106_1 hQ t2 (by omega) (by omega), if_pos h40, if_pos (by omega)]
          · rw [f_F (by decide), if_pos rfl, if_pos rfl]
          · rw [f_F (by decide), if_pos rfl, if_neg (by decide)]
            exact t2.2.1
      · rw [if_neg h40]
        refine ⟨1, T1, t1, fun m hm => ⟨m, T1, ?_, by omega, t2, t3, t4, t6, t5, fun i _ => by rw [t7]⟩⟩
        obtain ⟨m, rfl⟩ : ∃ q, m = q + 2 := ⟨m - 2, by omega⟩
        rw [g106_1 hQ t2 (by omega) (by omega), if_neg h40]
set_option maxHeartbeats 1000000 in
theorem mL {tx : Int → Int} {len d D pl : Int} {cl : Bool} {vr : Vr} {EM : St → List Int → Prop} {rcS : Int → Int → List Int → RsL} (hQ : QX tx len) (hV : HVm tx len vr EM) (hEM : HEM EM) (hcl : ∀ T N, EM T N → T.F 36 29 = if cl = true then 1 else 0) (hR : HM tx len EM rcS D) (hP : HP len rcS D) (d0 : 0 ≤ d) (d1 : d ≤ 14) (hD : D ≤ d + 1) (p0 : 0 ≤ pl) : ∀ (m : Nat) (pos k : Int) (T : St) (N : List Int), RM tx len T pos → EM T N → tx pos ≠ 0 → 161 < m + pos → 1 ≤ k → k ≤ pos + 1 → pl < T.F 36 22 → T.A 53 d = pl → 0 ≤ T.A 46 pl → T.A 46 pl < 10000000 + k → match sL tx cl vr rcS d m pos k N with
    | .inl e => ∀ n : Nat, 340 ≤ (n : Int) + 2 * (pos + 1) → ∃ T', ob (g107 (T.f 36 27 (pos + 1)) pl) (fun o => g106L6 n (d + 1) o.1 1 o.2) = some T' ∧ BM T T' e
    | .inr (p, k', _, C, N') => (k ≤ k' ∧ k' ≤ 160) ∧ ∀ n : Nat, 340 ≤ (n : Int) + 2 * (pos + 1) → ∃ (n' : Nat) (T' : St), ob (g107 (T.f 36 27 (pos + 1)) pl) (fun o => g106L6 n (d + 1) o.1 1 o.2) = g106L6 n' d 0 1 T' ∧ 340 ≤ (n' : Int) + 2 * p ∧ RM tx len T' p ∧ T'.F 36 22 = T.F 36 22 + C.length ∧ T'.A 46 = lay (upI (T.A 46) pl (T.A 46 pl + (k' - k + 1))) (T.F 36 22) C ∧ EM T' N' ∧ FTM T T' ∧ ∀ i : Int, i < d → T'.A 53 i = T.A 53 i := by
  intro m
  induction m with
  | zero =>
    intro pos k T N h _ _ hm
    have := h.2.2.2.2.2.1
    have := hQ.2.1
    omega
  | succ m ih =>
    intro pos k T N h hE h0 hm k0 k1 p1 h53 b0 b1
    have l160 := hQ.2.1
    have a5 := h.2.2.2.2.1
    have a6 := h.2.2.2.2.2.1
    have a8 := h.2.2.2.2.2.2.2
    have pl0 := (hQ.r a5).2.2 h0
    have h1 := h.adv hQ (show pos ≤ pos + 1 by omega) (by omega)
    have pm := f27_PMv T (pos + 1)
    have e22 : (T.f 36 27 (pos + 1)).F 36 22 = T.F 36 22 := pm.2.2 22 (by decide)
    have hE1 := hEM.p pm hE
    have ht := g107_t (pl := pl) (d := d) (vr := vr) (cl := cl) hQ hV hEM hcl hR h1 hE1 p0 (by rw [e22]; exact p1) b0 (by show T.A 46 pl < _; omega) d0 d1 hD (by rw [e22]; omega)
    unfold sL
    cases es : sT tx cl vr rcS d (pos + 1) N with
    | inl e =>
      rw [es] at ht
      obtain ⟨b, T1, t1, t2⟩ := ht
      intro n hn
      obtain ⟨T', r1, r2, r3, r4⟩ := t2 n hn
      refine ⟨T', ?_, r2, r3, pm.2.1.trans r4⟩
      rw [t1]
      exact r1
    | inr a =>
      obtain ⟨p, E, C, N1⟩ := a
      rw [es] at ht
      obtain ⟨b, T1, t1, t2⟩ := ht
      -- the term is read, the loop stands behind it
      have step : ∀ n : Nat, 340 ≤ (n : Int) + 2 * (pos + 1) → ∃ (q : Nat) (T' : St), ob (g107 (T.f 36 27 (pos + 1)) pl) (fun o => g106L6 n (d + 1) o.1 1 o.2) = (if tx p = 44 then ob (g107 (T'.f 36 27 (p + 1)) pl) (fun o13 => g106L6 (q + 1) (d + 1) o13.1 1 o13.2) else if tx p = 41 then g106L6 (q + 1) d 0 1 (T'.f 36 27 (p + 1)) else some (T'.f 36 28 1)) ∧ 340 ≤ (q : Int) + 2 + 2 * p ∧ RM tx len T' p ∧ T'.F 36 22 = T.F 36 22 + C.length ∧ T'.A 46 = lay (upI (T.A 46) pl (T.A 46 pl + 1)) (T.F 36 22) C ∧ EM T' N1 ∧ FTM T T' ∧ ∀ i : Int, i < d + 1 → T'.A 53 i = T.A 53 i := by
        intro n hn
        obtain ⟨n', T', r1, r2, r3, r4, r5, r6, r7, r8⟩ := t2 n hn
        have p160 := r3.2.2.2.2.2.1
        obtain ⟨q, rfl⟩ : ∃ q, n' = q + 2 := ⟨n' - 2, by omega⟩
        refine ⟨q, T', ?_, by omega, r3, r4.trans (by rw [e22]), by rw [e22] at r5; exact r5, r6, pm.2.1.trans r7, r8⟩
        rw [t1]
        show g106L6 n (d + 1) b 1 T1 = _
        rw [r1, g106_0 hQ r3 (by omega) (by omega), if_neg (by omega), show d + 1 - 1 = d by omega, r8 d (by omega)]
        show (if tx p = 44 then ob (g107 (T'.f 36 27 (p + 1)) (T.A 53 d)) _ else _) = _
        rw [h53]
      obtain ⟨n0, hn0⟩ : ∃ n : Nat, 340 ≤ (n : Int) + 2 * (pos + 1) := ⟨340, by omega⟩
      have pb : pos + 1 < p ∧ p ≤ len := by
        have sp := sT_p (cl := cl) (vr := vr) (N := N) (d := d) (pos := pos + 1) hQ hP hD (by omega) (by omega)
        rw [es] at sp
        exact sp
      show match (if tx p = 41 then .inr (p + 1, k, E, C, N1) else if tx p = 44 then (match sL tx cl vr rcS d m p (k + 1) N1 with
        | .inl e => .inl e
        | .inr (p', k', E', C', N2) => .inr (p', k', E ++ E', C ++ C', N2)) else .inl p : RsL) with
        | .inl e => ∀ n : Nat, 340 ≤ (n : Int) + 2 * (pos + 1) → ∃ T', ob (g107 (T.f 36 27 (pos + 1)) pl) (fun o => g106L6 n (d + 1) o.1 1 o.2) = some T' ∧ BM T T' e
        | .inr (p, k', _, C, N') => (k ≤ k' ∧ k' ≤ 160) ∧ ∀ n : Nat, 340 ≤ (n : Int) + 2 * (pos + 1) → ∃ (n' : Nat) (T' : St), ob (g107 (T.f 36 27 (pos + 1)) pl) (fun o => g106L6 n (d + 1) o.1 1 o.2) = g106L6 n' d 0 1 T' ∧ 340 ≤ (n' : Int) + 2 * p ∧ RM tx len T' p ∧ T'.F 36 22 = T.F 36 22 + C.length ∧ T'.A 46 = lay (upI (T.A 46) pl (T.A 46 pl + (k' - k + 1))) (T.F 36 22) C ∧ EM T' N' ∧ FTM T T' ∧ ∀ i : Int, i < d → T'.A 53 i = T.A 53 i
      by_cases h41 : tx p = 41
      · rw [if_pos h41]
        have pl2 := (hQ.r (p := p) (by omega)).2.2 (by omega)
        refine ⟨⟨Int.le_refl _, by omega⟩, fun n hn => ?_⟩
        obtain ⟨q, T', r1, r2, r3, r4, r5, r6, r7, r8⟩ := step n hn
        have pm2 := f27_PMv T' (p + 1)
        refine ⟨q + 1, T'.f 36 27 (p + 1), ?_, by omega, r3.adv hQ (by omega) (by omega), by rw [pm2.2.2 22 (by decide)]; exact r4, ?_, hEM.p pm2 r6, r7.trans pm2.2.1, fun i hi => by rw [pm2.1]; exact r8 i (by omega)⟩
        · rw [r1, if_neg (by omega), if_pos h41]
        · rw [pm2.1, r5, show k - k + 1 = 1 by omega]
      · rw [if_neg h41]
        by_cases h44 : tx p = 44
        · rw [if_pos h44]
          have ihr := fun (T' : St) (r3 : RM tx len T' p) (r6 : EM T' N1) (z1 : pl < T'.F 36 22) (z2 : T'.A 53 d = pl) (z3 : 0 ≤ T'.A 46 pl) (z4 : T'.A 46 pl < 10000000 + (k + 1)) => ih p (k + 1) T' N1 r3 r6 (by omega) (by omega) (by omega) (by omega) z1 z2 z3 z4
          have a46 : ∀ T' : St, T'.A 46 = lay (upI (T.A 46) pl (T.A 46 pl + 1)) (T.F 36 22) C → T'.A 46 pl = T.A 46 pl + 1 := fun T' e => by rw [e, lay_lo p1, upI_e]
          cases er : sL tx cl vr rcS d m p (k + 1) N1 with
          | inl e =>
            intro n hn
            obtain ⟨q, T', r1, r2, r3, r4, r5, r6, r7, r8⟩ := step n hn
            have hr := ihr T' r3 r6 (by omega) (by rw [r8 d (by omega)]; exact h53) (by rw [a46 T' r5]; omega) (by rw [a46 T' r5]; omega)
            rw [er] at hr
            obtain ⟨T2, y1, y2, y3, y4⟩ := hr (q + 1) (by omega)
            refine ⟨T2, ?_, y2, y3, r7.trans y4⟩
            rw [r1, if_pos h44]
            exact y1
          | inr a =>
            obtain ⟨p', k', E', C', N2⟩ := a
            have hk : k ≤ k' ∧ k' ≤ 160 := by
              obtain ⟨q, T', r1, r2, r3, r4, r5, r6, r7, r8⟩ := step n0 hn0
              have hr := ihr T' r3 r6 (by omega) (by rw [r8 d (by omega)]; exact h53) (by rw [a46 T' r5]; omega) (by rw [a46 T' r5]; omega)
              rw [er] at hr
              have := hr.1
              omega
            refine ⟨hk, fun n hn => ?_⟩
            obtain ⟨q, T', r1, r2, r3, r4, r5, r6, r7, r8⟩ := step n hn
            have hr := ihr T' r3 r6 (by omega) (by rw [r8 d (by omega)]; exact h53) (by rw [a46 T' r5]; omega) (by rw [a46 T' r5]; omega)
            rw [er] at hr
            obtain ⟨n', T2, y1, y2, y3, y4, y5, y6, y7, y8⟩ := hr.2 (q + 1) (by omega)
            refine ⟨n', T2, ?_, y2, y3, ?_, ?_, y6, r7.trans y7, fun i hi => (y8 i hi).trans (r8 i (by omega))⟩
            · rw [r1, if_pos h44]
              exact y1
            · rw [y4, r4, List.length_append]
              omega
            · rw [y5, a46 T' r5, r5, r4, lay_up p1, up_up, lay_app, show T.A 46 pl + 1 + (k' - (k + 1) + 1) = T.A 46 pl + (k' - k + 1) by omega]
        · rw [if_neg h44]
          intro n hn
          obtain ⟨q, T', r1, r2, r3, r4, r5, r6, r7, r8⟩ := step n hn
          refine ⟨T'.f 36 28 1, ?_, ?_, ?_, r7.trans (f_FTM _ (by decide) _)⟩
          · rw [r1, if_neg h44, if_neg h41]
          · rw [f_F (by decide), if_pos rfl, if_pos rfl]
          · rw [f_F (by decide), if_pos rfl, if_neg (by decide)]
            exact r3.2.1
theorem g106_t {tx : Int → Int} {len : Int} {cl : Bool} {vr : Vr} {EM : St → List Int → Prop} (hQ : QX tx len) (hV : HVm tx len vr EM) (hEM : HEM EM) (hcl : ∀ T N, EM T N → T.F 36 29 = if cl = true then 1 else 0) : ∀ f : Nat, HM tx len EM (sB tx cl vr f) (15 - f) := by
  intro f
  induction f with
  | zero => intro T d pos N hD d0 d1; omega
  | succ f ih =>
    intro T d pos N hD d0 d1 h hE h40 t1 b0 b1
    have l160 := hQ.2.1
    have a5 := h.2.2.2.2.1
    have a8 := h.2.2.2.2.2.2.2
    have a6 := h.2.2.2.2.2.1
    have i0 : inR (T.F 36 22 - 1) := ⟨by omega, by omega⟩
    have pm := f_PMv T (show 28 ∈ [27, 28] by decide) 0
    have h2 : RM tx len ((T.f 36 28 0).a 53 d (T.F 36 22 - 1)) pos := by
      obtain ⟨c1, c2, c3, c4, c5, c6, c7, c8⟩ := h
      refine RM.a (by decide) ⟨?_, ?_, ?_, c4, c5, c6, ?_, ?_⟩
      · rw [pm.2.2 2 (by decide)]; exact c1
      · rw [f_F (by decide), if_pos rfl, if_neg (by decide)]; exact c2
      · rw [f_F (by decide), if_pos rfl, if_pos rfl]
      · rw [pm.2.2 22 (by decide)]; exact c7
      · rw [pm.2.2 22 (by decide)]; exact c8
    have e22 : ((T.f 36 28 0).a 53 d (T.F 36 22 - 1)).F 36 22 = T.F 36 22 := pm.2.2 22 (by decide)
    have e46 : ((T.f 36 28 0).a 53 d (T.F 36 22 - 1)).A 46 = T.A 46 := by rw [aA_ne (by decide), f_A]
    have e53 : ((T.f 36 28 0).a 53 d (T.F 36 22 - 1)).A 53 = upI (T.A 53) d (T.F 36 22 - 1) := by rw [aA_up i0, f_A]
    have e53d : ((T.f 36 28 0).a 53 d (T.F 36 22 - 1)).A 53 d = T.F 36 22 - 1 := by rw [e53, upI_e]
    have hE2 : EM ((T.f 36 28 0).a 53 d (T.F 36 22 - 1)) N := hEM.a (Or.inr rfl) (hEM.p pm hE)
    have f2 : FTM T ((T.f 36 28 0).a 53 d (T.F 36 22 - 1)) := pm.2.1.trans (a_FTM _ (by decide) _ _)
    have hl := mL (d := d) (pl := T.F 36 22 - 1) hQ hV hEM hcl ih (sB_p hQ f) d0 d1 (by omega) (by omega) 200 pos 1 ((T.f 36 28 0).a 53 d (T.F 36 22 - 1)) N h2 hE2 (by omega) (by omega) (by omega) (by omega) (by rw [e22]; omega) e53d (by rw [e46]; exact b0) (by rw [e46]; omega)
    have hd : ∀ n : Nat, 340 ≤ (n : Int) + 2 * pos → ∃ q : Nat, 340 ≤ (q : Int) + 2 * (pos + 1) ∧ g106L6 n d 1 1 T = ob (g107 (((T.f 36 28 0).a 53 d (T.F 36 22 - 1)).f 36 27 (pos + 1)) (T.F 36 22 - 1)) (fun o => g106L6 q (d + 1) o.1 1 o.2) := fun n hn => by
      obtain ⟨q, rfl⟩ : ∃ q, n = q + 2 := ⟨n - 2, by omega⟩
      refine ⟨q + 1, by omega, ?_⟩
      rw [g106_1 hQ h d0 (by omega), if_pos h40, if_neg (by omega), e53d]
    show match sL tx cl vr (sB tx cl vr f) d 200 pos 1 N with
      | .inl e => ∀ n : Nat, 340 ≤ (n : Int) + 2 * pos → ∃ T', g106L6 n d 1 1 T = some T' ∧ BM T T' e
      | .inr (p, k, _, C, N') => (0 ≤ k ∧ k ≤ 160) ∧ ∀ n : Nat, 340 ≤ (n : Int) + 2 * pos → ∃ (n' : Nat) (T' : St), g106L6 n d 1 1 T = g106L6 n' d 0 1 T' ∧ 340 ≤ (n' : Int) + 2 * p ∧ RM tx len T' p ∧ T'.F 36 22 = T.F 36 22 + C.length ∧ T'.A 46 = lay (upI (T.A 46) (T.F 36 22 - 1) (T.A 46 (T.F 36 22 - 1) + k)) (T.F 36 22) C ∧ EM T' N' ∧ FTM T T' ∧ ∀ i : Int, i < d → T'.A 53 i = T.A 53 i
    cases er : sL tx cl vr (sB tx cl vr f) d 200 pos 1 N with
    | inl e =>
      rw [er] at hl
      intro n hn
      obtain ⟨q, q1, q2⟩ := hd n hn
      obtain ⟨T', r1, r2, r3, r4⟩ := hl q q1
      exact ⟨T', q2.trans r1, r2, r3, f2.trans r4⟩
    | inr b =>
      obtain ⟨p', k', E', C', N2⟩ := b
      rw [er] at hl
      obtain ⟨hk, hl⟩ := hl
      refine ⟨⟨by omega, by omega⟩, fun n hn => ?_⟩
      obtain ⟨q, q1, q2⟩ := hd n hn
      obtain ⟨n', T', r1, r2, r3, r4, r5, r6, r7, r8⟩ := hl q q1
      rw [e22] at r4 r5
      rw [e46, show k' - 1 + 1 = k' by omega] at r5
      refine ⟨n', T', q2.trans r1, r2, r3, r4, r5, r6, f2.trans r7, fun i hi => ?_⟩
      rw [r8 i hi, e53, upI_n (by omega)]
