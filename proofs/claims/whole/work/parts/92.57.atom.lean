/-! both read an atom -/
def ph (c dn : Int) : Int := 131072 + (c - 65) * 2 * 256 + dn * 256
def sA (tx : Int → Int) (cl : Bool) (vr : Vr) (dn pos : Int) (N : List Int) : RsT := if 65 ≤ tx pos ∧ tx pos ≤ 90 then (if tx (pos + 1) = 40 then (match sB tx cl vr 15 0 (pos + 1) N with
    | .inl e => .inl e
    | .inr (p, k, E, C, N') => .inr (p, (ph (tx pos) dn + k) :: E, (4096 + 128 * tx pos + k) :: C, N')) else .inr (pos + 1, [ph (tx pos) dn], [4096 + 128 * tx pos], N)) else .inl pos
def RC0 (tx : Int → Int) (len : Int) (S : St) (pos : Int) : Prop := S.F 1 1 = len ∧ S.F 1 4 = pos ∧ S.F 1 3 = -1 ∧ (∀ i : Int, 0 ≤ i → i < len → S.A 2 i = tx i) ∧ 0 ≤ pos ∧ pos ≤ len
theorem RC.z {tx : Int → Int} {len pos : Int} {S : St} {W : List Int} (h : RC tx len S pos W) : RC0 tx len S pos := ⟨h.1, h.2.1, h.2.2.1, h.2.2.2.1, h.2.2.2.2.1, h.2.2.2.2.2.1⟩
theorem RC0.z {tx : Int → Int} {len pos : Int} {S : St} (hQ : QX tx len) (h : RC0 tx len S pos) : RC tx len (S.f 1 12 0) pos [] := by
  obtain ⟨a1, a2, a3, a4, a5, a6⟩ := h
  have l160 := hQ.2.1
  refine ⟨?_, ?_, ?_, a4, a5, a6, ?_, by show ((0 : Nat) : Int) + _ ≤ _; omega, fun i i0 i1 i2 => absurd i2 (by show ¬ i < ((0 : Nat) : Int); omega)⟩
  · rw [f_F (by decide), if_pos rfl, if_neg (by decide)]; exact a1
  · rw [f_F (by decide), if_pos rfl, if_neg (by decide)]; exact a2
  · rw [f_F (by decide), if_pos rfl, if_neg (by decide)]; exact a3
  · rw [f_F (by decide), if_pos rfl, if_pos rfl]; rfl
theorem g23_0 {tx : Int → Int} {len pos : Int} {S : St} (hQ : QX tx len) (h : RC0 tx len S pos) : g23 S = some (tx pos) := by
  obtain ⟨a1, a2, a3, a4, a5, a6⟩ := h
  have l160 := hQ.2.1
  have q := hQ.r a5
  unfold g23
  rw [a1, a2]
  by_cases hp : pos < len
  · rw [if_pos hp]
    refine (gd_t (by first | exact ⟨by omega, by omega⟩ | exact ⟨by omega, by omega, by omega⟩ | exact ⟨by omega, by omega, by omega, by omega⟩ | omega | exact inR_to _ | assumption | decide)).trans ?_
    rw [a4 pos a5 hp]
    refine (gd_t (by first | exact ⟨by omega, by omega⟩ | exact ⟨by omega, by omega, by omega⟩ | exact ⟨by omega, by omega, by omega, by omega⟩ | omega | exact inR_to _ | assumption | decide)).trans ?_
    rfl
  · rw [if_neg hp, hQ.2.2.2 pos (by omega)]
theorem g24_t {tx : Int → Int} {len : Int} {cl : Bool} {vr : Vr} {EC : St → Prop} (hQ : QX tx len) (hV : HV tx len vr EC) (hE : ∀ S S', FT S S' → EC S → EC S') (hcl : ∀ S, EC S → S.F 1 5 = if cl = true then 1 else 0) {S : St} {pos v : Int} {N : List Int} (h : RC0 tx len S pos) (hEC : EC S) (hv : b1R v) : match sA tx cl vr v pos N with
    | .inl e => BD S (g24 S v) e len
    | .inr (p, E, _, _) => pos < p ∧ p ≤ len ∧ ∃ S', g24 S v = some S' ∧ RC tx len S' p E ∧ FT S S' := by
  have a2 := h.2.1
  have a5 := h.2.2.2.2.1
  have a6 := h.2.2.2.2.2
  have l160 := hQ.2.1
  have e0 := g23_0 hQ h
  have q0 := hQ.r a5
  have h0 := h.z hQ
  have f0 : FT S (S.f 1 12 0) := f_FT S (by decide) 0
  unfold sA
  by_cases h65 : 65 ≤ tx pos ∧ tx pos ≤ 90
  · rw [if_pos h65]
    have pl := q0.2.2 (by omega)
    have h1 := h0.adv hQ (show pos ≤ pos + 1 by omega) (by omega)
    obtain ⟨S2, t1, t2, t3⟩ := g26_t (x := ph (tx pos) v) hQ h1 (by unfold ph; rcases hv with e | e <;> (rw [e]; exact ⟨by omega, by omega⟩)) (by show ((0 : Nat) : Int) + 1 + _ ≤ _; omega)
    have t2 : RC tx len S2 (pos + 1) [ph (tx pos) v] := t2
    have e2 := g23_t hQ t2
    have f2 : FT S S2 := (f0.trans (f_FT _ (by decide) _)).trans t3
    have q1 := hQ.r (p := pos + 1) (by omega)
    have e24 : g24 S v = if tx (pos + 1) = 40 then ob (g27 64 S2 0 0) (fun o18 => some o18) else some S2 := by
      unfold g24
      rw [e0]
      refine (ob_t rfl).trans ?_
      refine (gd_t (by first | exact ⟨by omega, by omega⟩ | exact ⟨by omega, by omega, by omega⟩ | exact ⟨by omega, by omega, by omega, by omega⟩ | omega | exact inR_to _ | assumption | decide)).trans ?_
      rw [if_neg (by omega), if_neg (by omega), a2]
      have ep : ∀ w : Int, w = v * 256 → 131072 + (tx pos - 65) * 2 * 256 + w = ph (tx pos) v := fun w hw => by unfold ph; omega
      rcases hv with e | e
      · subst e
        refine (gd_t (by first | exact ⟨by omega, by omega⟩ | exact ⟨by omega, by omega, by omega⟩ | exact ⟨by omega, by omega, by omega, by omega⟩ | omega | exact inR_to _ | assumption | decide)).trans ?_
        rw [if_pos rfl, ep 0 (by omega), t1]
        refine (ob_t rfl).trans ?_
        rw [e2]
        refine (ob_t rfl).trans ?_
        refine (gd_t (by first | exact ⟨by omega, by omega⟩ | exact ⟨by omega, by omega, by omega⟩ | exact ⟨by omega, by omega, by omega, by omega⟩ | omega | exact inR_to _ | assumption | decide)).trans ?_
        rfl
      · subst e
        refine (gd_t (by first | exact ⟨by omega, by omega⟩ | exact ⟨by omega, by omega, by omega⟩ | exact ⟨by omega, by omega, by omega, by omega⟩ | omega | exact inR_to _ | assumption | decide)).trans ?_
        rw [if_neg (by decide), ep 256 (by omega), t1]
        refine (ob_t rfl).trans ?_
        rw [e2]
        refine (ob_t rfl).trans ?_
        refine (gd_t (by first | exact ⟨by omega, by omega⟩ | exact ⟨by omega, by omega, by omega⟩ | exact ⟨by omega, by omega, by omega, by omega⟩ | omega | exact inR_to _ | assumption | decide)).trans ?_
        rfl
    by_cases h40 : tx (pos + 1) = 40
    · rw [if_pos h40] at e24 ⊢
      have hr := g27_t hQ hV hE hcl 15 64 (by decide) S2 0 (pos + 1) (ph (tx pos) v) N [] (by decide) (by decide) (by decide) t2 (hE _ _ f2 hEC) (by unfold ph; rcases hv with e | e <;> (rw [e]; omega)) (by unfold ph; rcases hv with e | e <;> (rw [e]; omega)) h40
      cases er : sB tx cl vr 15 0 (pos + 1) N with
      | inl e =>
        rw [er] at hr
        obtain ⟨r1, r2, S3, r3, r4, r5⟩ := hr
        have r3 : g27 64 S2 0 0 = some S3 := r3
        refine ⟨r1, r2, S3, ?_, r4, f2.trans r5⟩
        rw [e24, r3]
        rfl
      | inr b =>
        obtain ⟨p, k, E, C, N'⟩ := b
        rw [er] at hr
        obtain ⟨r1, r2, r6, r7, S3, r3, r4, r5⟩ := hr
        have r3 : g27 64 S2 0 0 = some S3 := r3
        refine ⟨by omega, r2, S3, ?_, r4, f2.trans r5⟩
        rw [e24, r3]
        rfl
    · rw [if_neg h40] at e24 ⊢
      exact ⟨by omega, by omega, S2, e24, t2, f2⟩
  · rw [if_neg h65]
    have hg := g25_t (S.f 1 12 0) (p := pos) ⟨by omega, by omega⟩
    refine ⟨a5, a6, (S.f 1 12 0).f 1 3 pos, ?_, hg.2.1, f0.trans hg.2.2⟩
    unfold g24
    rw [e0]
    refine (ob_t rfl).trans ?_
    refine (gd_t (by first | exact ⟨by omega, by omega⟩ | exact ⟨by omega, by omega, by omega⟩ | exact ⟨by omega, by omega, by omega, by omega⟩ | omega | exact inR_to _ | assumption | decide)).trans ?_
    rw [a2]
    by_cases h1 : tx pos < 65
    · rw [if_pos h1]
      rfl
    · rw [if_neg h1, if_pos (by omega)]
      rfl
/-- a literal's frame in the second object -/
def FLM (T T' : St) : Prop := T'.tl = T.tl ∧ T'.ns = T.ns ∧ T'.O = T.O ∧ (∀ c, c ∉ [36, 46, 50, 51, 52, 53, 60, 61] → T'.F0 c = T.F0 c ∧ T'.A0 c = T.A0 c ∧ T'.R c = T.R c) ∧ (T'.A0 36 = T.A0 36 ∧ T'.R 36 = T.R 36) ∧ ∀ i, i ∉ [22, 27, 28, 30, 34, 46] → T'.F0 36 i = T.F0 36 i
theorem FLM.refl (T : St) : FLM T T := ⟨rfl, rfl, rfl, fun _ _ => ⟨rfl, rfl, rfl⟩, ⟨rfl, rfl⟩, fun _ _ => rfl⟩
theorem FLM.trans {T U W : St} (h : FLM T U) (g : FLM U W) : FLM T W := ⟨g.1.trans h.1, g.2.1.trans h.2.1, g.2.2.1.trans h.2.2.1, fun c hc => ⟨(g.2.2.2.1 c hc).1.trans (h.2.2.2.1 c hc).1, (g.2.2.2.1 c hc).2.1.trans (h.2.2.2.1 c hc).2.1, (g.2.2.2.1 c hc).2.2.trans (h.2.2.2.1 c hc).2.2⟩, ⟨g.2.2.2.2.1.1.trans h.2.2.2.2.1.1, g.2.2.2.2.1.2.trans h.2.2.2.2.1.2⟩, fun i hi => (g.2.2.2.2.2 i hi).trans (h.2.2.2.2.2 i hi)⟩
theorem FTM.FLM {T T' : St} (h : FTM T T') : FLM T T' := ⟨h.1, h.2.1, h.2.2.1, fun c hc => h.2.2.2.1 c (fun e => hc (by
  have : ∀ d ∈ ftl, d ∈ [36, 46, 50, 51, 52, 53, 60, 61] := by decide
  exact this c e)), h.2.2.2.2.1, fun i hi => h.2.2.2.2.2 i (fun e => hi (by
  have : ∀ d ∈ [22, 27, 28, 30, 34], d ∈ [22, 27, 28, 30, 34, 46] := by decide
  exact this i e))⟩
theorem FLM.F {T T' : St} (h : FLM T T') {i : Nat} (hi : i ∉ [22, 27, 28, 30, 34, 46]) : T'.F 36 i = T.F 36 i := by
  show (T'.F0 36 i).toInt = (T.F0 36 i).toInt
  rw [h.2.2.2.2.2 i hi]
theorem FLM.A {T T' : St} (h : FLM T T') {c : Nat} (hc : c ∉ [36, 46, 50, 51, 52, 53, 60, 61]) : T'.A c = T.A c := by
  funext i
  show (T'.A0 c i).toInt = (T.A0 c i).toInt
  rw [(h.2.2.2.1 c hc).2.1]
/-- a literal more, or none -/
def L61 (T T' : St) (v : Int) : Prop := (T'.F 36 46 = T.F 36 46 ∧ T'.A 61 = T.A 61) ∨ (T'.F 36 46 = T.F 36 46 + 1 ∧ T'.A 61 = upI (T.A 61) (T.F 36 46) v)
set_option maxHeartbeats 1000000 in
theorem g103_t {tx : Int → Int} {len : Int} {cl : Bool} {vr : Vr} {EM : St → List Int → Prop} (hQ : QX tx len) (hV : HVm tx len vr EM) (hEM : HEM EM) (hcl : ∀ T N, EM T N → T.F 36 29 = if cl = true then 1 else 0) {T : St} {pos v : Int} {N : List Int} (h : RM tx len T pos) (hE : EM T N) (hv : b1R v) (l0 : 0 ≤ T.F 36 46) (l1 : T.F 36 46 < 100) (hb : T.F 36 22 + (len - pos) ≤ 1019) : match sA tx cl vr v pos N with
    | .inl e => ∃ T', g103 T v = some T' ∧ T'.F 36 28 = 1 ∧ T'.F 36 27 = e ∧ FLM T T' ∧ L61 T T' v
    | .inr (p, _, C, N') => ∃ T', g103 T v = some T' ∧ RM tx len T' p ∧ T'.F 36 22 = T.F 36 22 + C.length ∧ T'.A 46 = lay (T.A 46) (T.F 36 22) C ∧ EM T' N' ∧ T'.F 36 46 = T.F 36 46 + 1 ∧ T'.A 60 = upI (T.A 60) (T.F 36 46) (T.F 36 22) ∧ T'.A 61 = upI (T.A 61) (T.F 36 46) v ∧ FLM T T' := by
  have a5 := h.2.2.2.2.1
  have a6 := h.2.2.2.2.2.1
  have a7 := h.2.2.2.2.2.2.1
  have a8 := h.2.2.2.2.2.2.2
  have l160 := hQ.2.1
  have q0 := hQ.r a5
  have ea := g104_t hQ h (lo := 65) (hi := 90) (by decide) (by decide) (by decide)
  unfold sA
  by_cases h65 : 65 ≤ tx pos ∧ tx pos ≤ 90
  · rw [if_pos h65] at ea ⊢
    have pl := q0.2.2 (by omega)
    have i22 : inR (T.F 36 22) := ⟨by omega, by omega⟩
    have iv : inR v := by rcases hv with e | e <;> (rw [e]; decide)
    have i46 : inR (T.F 36 46 + 1) := ⟨by omega, by omega⟩
    -- the literal is noted
    have eF : ∀ i, i ≠ 46 → (((T.a 60 (T.F 36 46) (T.F 36 22)).a 61 (T.F 36 46) v).f 36 46 (T.F 36 46 + 1)).F 36 i = T.F 36 i := fun i hi => by rw [f_F i46, if_pos rfl, if_neg hi, a_F, a_F]
    have eA : ∀ c, c ≠ 60 → c ≠ 61 → (((T.a 60 (T.F 36 46) (T.F 36 22)).a 61 (T.F 36 46) v).f 36 46 (T.F 36 46 + 1)).A c = T.A c := fun c h1 h2 => by rw [f_A, aA_ne h2, aA_ne h1]
    have e46F : (((T.a 60 (T.F 36 46) (T.F 36 22)).a 61 (T.F 36 46) v).f 36 46 (T.F 36 46 + 1)).F 36 46 = T.F 36 46 + 1 := by rw [f_F i46, if_pos rfl, if_pos rfl]
    have e60 : (((T.a 60 (T.F 36 46) (T.F 36 22)).a 61 (T.F 36 46) v).f 36 46 (T.F 36 46 + 1)).A 60 = upI (T.A 60) (T.F 36 46) (T.F 36 22) := by rw [f_A, aA_ne (by decide), aA_up i22]
    have e61 : (((T.a 60 (T.F 36 46) (T.F 36 22)).a 61 (T.F 36 46) v).f 36 46 (T.F 36 46 + 1)).A 61 = upI (T.A 61) (T.F 36 46) v := by rw [f_A, aA_up iv, aA_ne (by decide)]
    have fL : FLM T (((T.a 60 (T.F 36 46) (T.F 36 22)).a 61 (T.F 36 46) v).f 36 46 (T.F 36 46 + 1)) := by
      refine ⟨rfl, rfl, rfl, fun c hc => ⟨?_, ?_, rfl⟩, ⟨rfl, rfl⟩, fun i hi => ?_⟩
      · show (if c = 36 then _ else T.F0 c) = T.F0 c
        rw [if_neg (fun e => hc (by rw [e]; decide))]
      · show (if c = 61 then _ else (if c = 60 then _ else T.A0 c)) = T.A0 c
        rw [if_neg (fun e => hc (by rw [e]; decide)), if_neg (fun e => hc (by rw [e]; decide))]
      · show (if (36 : Nat) = 36 then (fun b => if b = 46 then eI (T.F 36 46 + 1) else T.F0 36 b) else T.F0 36) i = T.F0 36 i
        rw [if_pos rfl]
        exact if_neg (fun e => hi (by rw [e]; decide))
    generalize hT0 : ((T.a 60 (T.F 36 46) (T.F 36 22)).a 61 (T.F 36 46) v).f 36 46 (T.F 36 46 + 1) = T0 at *
    have h0 : RM tx len T0 pos := ⟨by rw [eF 2 (by decide)]; exact h.1, by rw [eF 27 (by decide)]; exact h.2.1, by rw [eF 28 (by decide)]; exact h.2.2.1, by rw [eA 37 (by decide) (by decide)]; exact h.2.2.2.1, a5, a6, by rw [eF 22 (by decide)]; exact a7, by rw [eF 22 (by decide)]; exact a8⟩
    have hE0 : EM T0 N := hEM T T0 N ⟨eA 50 (by decide) (by decide), eA 51 (by decide) (by decide), eA 52 (by decide) (by decide)⟩ ⟨eF 29 (by decide), eF 30 (by decide), eF 34 (by decide)⟩ hE
    have e102 := g102_t hQ h0
    obtain ⟨T1, u1, u2, u3, u4, u5, u6, u7⟩ := g105_t (c := 4096 + 128 * tx pos) h0 ⟨by omega, by omega⟩ (by rw [eF 22 (by decide)]; omega) l160
    rw [eF 22 (by decide), eA 46 (by decide) (by decide)] at *
    have hE1 : EM T1 N := hEM T0 T1 N ⟨u6 50 (by decide), u6 51 (by decide), u6 52 (by decide)⟩ ⟨u7 29 (by decide), u7 30 (by decide), u7 34 (by decide)⟩ hE0
    have h2 := u2.adv hQ (show pos ≤ pos + 1 by omega) (by omega)
    have pm := f27_PMv T1 (pos + 1)
    have hE2 := hEM.p pm hE1
    have f22 : (T1.f 36 27 (pos + 1)).F 36 22 = T.F 36 22 + 1 := (pm.2.2 22 (by decide)).trans u3
    have c1 : (T1.f 36 27 (pos + 1)).A 46 (T.F 36 22) = 4096 + 128 * tx pos := by
      rw [pm.1, u4, ← lay_one, upI_e]
    have fT2 : FLM T (T1.f 36 27 (pos + 1)) := (fL.trans u5.FLM).trans pm.2.1.FLM
    have e103 : g103 T v = ob (g106L6 FU 0 1 1 (T1.f 36 27 (pos + 1))) (fun o => some o) := by
      unfold g103
      rw [ea]
      refine (ob_t rfl).trans ?_
      refine (gd_t (by first | exact ⟨by omega, by omega⟩ | exact ⟨by omega, by omega, by omega⟩ | exact ⟨by omega, by omega, by omega, by omega⟩ | omega | exact inR_to _ | assumption | decide)).trans ?_
      rw [if_neg (by decide)]
      refine (gd_t (by first | exact ⟨by omega, by omega⟩ | exact ⟨by omega, by omega, by omega⟩ | exact ⟨by omega, by omega, by omega, by omega⟩ | omega | exact inR_to _ | assumption | decide)).trans ?_
      refine (gd_t hv).trans ?_
      rw [hT0, e102]
      refine (ob_t rfl).trans ?_
      rw [u1]
      refine (ob_t rfl).trans ?_
      rw [u2.2.1]
      show ob (ob (g106L6 FU 0 1 1 (T1.f 36 27 (pos + 1))) _) _ = _
      cases g106L6 FU 0 1 1 (T1.f 36 27 (pos + 1)) <;> rfl
    have q1 := hQ.r (p := pos + 1) (by omega)
    obtain ⟨fu, hfu⟩ := FU_ge (n := 400) (by decide)
    by_cases h40 : tx (pos + 1) = 40
    · rw [if_pos h40]
      have hr := g106_t hQ hV hEM hcl 15 (T1.f 36 27 (pos + 1)) 0 (pos + 1) N (by decide) (by decide) (by decide) h2 hE2 h40 (by rw [f22]; omega) (by rw [f22, show T.F 36 22 + 1 - 1 = T.F 36 22 by omega, c1]; omega) (by rw [f22, show T.F 36 22 + 1 - 1 = T.F 36 22 by omega, c1]; omega)
      cases er : sB tx cl vr 15 0 (pos + 1) N with
      | inl e =>
        rw [er] at hr
        obtain ⟨T', r1, r2, r3, r4⟩ := hr FU (by omega)
        refine ⟨T', ?_, r2, r3, fT2.trans r4.FLM, Or.inr ⟨?_, ?_⟩⟩
        · rw [e103, r1]
          rfl
        · rw [r4.F (by decide), pm.2.2 46 (by decide), u7 46 (by decide), e46F]
        · rw [r4.A (by decide), pm.1, u6 61 (by decide), e61]
      | inr b =>
        obtain ⟨p, k, E, C, N'⟩ := b
        rw [er] at hr
        obtain ⟨n', T', r1, r2, r3, r4, r5, r6, r7, r8⟩ := hr.2 FU (by omega)
        have p160 := r3.2.2.2.2.2.1
        obtain ⟨q, rfl⟩ : ∃ q, n' = q + 2 := ⟨n' - 2, by omega⟩
        rw [f22] at r4 r5
        rw [show T.F 36 22 + 1 - 1 = T.F 36 22 by omega, c1, pm.1, u4] at r5
        refine ⟨T', ?_, r3, ?_, ?_, r6, ?_, ?_, ?_, fT2.trans r7.FLM⟩
        · rw [e103, r1, g106_0 hQ r3 (by decide) (by decide), if_pos rfl]
          rfl
        · rw [r4]
          show _ = T.F 36 22 + ((C.length + 1 : Nat) : Int)
          omega
        · rw [r5, ← lay_one, up_up, lay_one]
          exact lay_app (T.A 46) (T.F 36 22) [4096 + 128 * tx pos + k] C
        · rw [r7.F (by decide), pm.2.2 46 (by decide), u7 46 (by decide), e46F]
        · rw [r7.A (by decide), pm.1, u6 60 (by decide), e60]
        · rw [r7.A (by decide), pm.1, u6 61 (by decide), e61]
    · rw [if_neg h40]
      refine ⟨T1.f 36 27 (pos + 1), ?_, h2, f22, ?_, hE2, ?_, ?_, ?_, fT2⟩
      · rw [e103, hfu, show 400 + (fu + 1) = (399 + fu) + 2 by omega, g106_1 hQ h2 (by decide) (by decide), if_neg h40, g106_0 hQ h2 (by decide) (by decide), if_pos rfl]
        rfl
      · rw [pm.1, u4]
      · rw [pm.2.2 46 (by decide), u7 46 (by decide), e46F]
      · rw [pm.1, u6 60 (by decide), e60]
      · rw [pm.1, u6 61 (by decide), e61]
  · rw [if_neg h65] at ea ⊢
    refine ⟨T.f 36 28 1, ?_, ?_, ?_, (f_FTM T (by decide) 1).FLM, Or.inl ⟨by rw [f_F (by decide), if_pos rfl, if_neg (by decide)], rfl⟩⟩
    · unfold g103
      rw [ea]
      rfl
    · rw [f_F (by decide), if_pos rfl, if_pos rfl]
    · rw [f_F (by decide), if_pos rfl, if_neg (by decide)]
      exact h.2.1
/-! a letter makes one cell at most -/
def HCC (len : Int) (rcS : Int → Int → List Int → RsL) (D : Int) : Prop := ∀ (d pos : Int) (N : List Int), D ≤ d → d ≤ 14 → 0 ≤ pos → pos < len → match rcS d pos N with
    | .inl _ => True
    | .inr (p, _, _, C, _) => (C.length : Int) ≤ p - pos
theorem sT_c {tx : Int → Int} {len d D pos : Int} {cl : Bool} {vr : Vr} {rcS : Int → Int → List Int → RsL} {N : List Int} (hQ : QX tx len) (hR : HCC len rcS D) (hD : D ≤ d + 1) (p0 : 0 ≤ pos) (p1 : pos ≤ len) : match sT tx cl vr rcS d pos N with
    | .inl _ => True
    | .inr (p, _, C, _) => (C.length : Int) ≤ p - pos := by
  cases en : nmr tx 120 122 pos with
  | some a =>
    obtain ⟨n, p⟩ := a
    have np := nmr_p hQ p0 (by decide) en
    cases ev : vr N n with
    | some b =>
      obtain ⟨e, c, N'⟩ := b
      rw [sT_v1 en ev]
      show ((1 : Nat) : Int) ≤ p - pos
      omega
    | none =>
      rw [sT_v0 en ev]
      trivial
  | none =>
    have sp := syr_p (cl := cl) hQ p0 p1
    cases es : syr tx cl pos with
    | inl e =>
      rw [sT_e en es]
      trivial
    | inr a =>
      obtain ⟨x, p⟩ := a
      rw [es] at sp
      obtain ⟨s1, s2, s3, s4, s5, s6⟩ := sp
      rw [sT_s en es]
      by_cases h40 : tx p = 40
      · rw [if_pos h40]
        by_cases h14 : d < 14
        · rw [if_pos h14]
          have hr := hR (d + 1) p N hD (by omega) (by omega) ((hQ.r (by omega)).2.2 (by omega))
          cases er : rcS (d + 1) p N with
          | inl e => trivial
          | inr b =>
            obtain ⟨p', k, E, C, N'⟩ := b
            rw [er] at hr
            have hr : (C.length : Int) ≤ p' - p := hr
            show ((C.length + 1 : Nat) : Int) ≤ p' - pos
            omega
        · rw [if_neg h14]
          trivial
      · rw [if_neg h40]
        show ((1 : Nat) : Int) ≤ p - pos
        omega
theorem sL_c {tx : Int → Int} {len d D : Int} {cl : Bool} {vr : Vr} {rcS : Int → Int → List Int → RsL} (hQ : QX tx len) (hP : HP len rcS D) (hR : HCC len rcS D) (hD : D ≤ d + 1) : ∀ (m : Nat) (pos k : Int) (N : List Int), 0 ≤ pos → pos < len → 161 < m + pos → match sL tx cl vr rcS d m pos k N with
    | .inl _ => True
    | .inr (p, _, _, C, _) => (C.length : Int) ≤ p - pos := by
  intro m
  induction m with
  | zero => intro pos k N p0 p1 hm; have := hQ.2.1; omega
  | succ m ih =>
    intro pos k N p0 p1 hm
    have ht := sT_p (cl := cl) (vr := vr) (N := N) (d := d) (pos := pos + 1) hQ hP hD (by omega) (by omega)
    have hc := sT_c (cl := cl) (vr := vr) (N := N) (d := d) (pos := pos + 1) hQ hR hD (by omega) (by omega)
    unfold sL
    cases es : sT tx cl vr rcS d (pos + 1) N with
    | inl e => trivial
    | inr a =>
      obtain ⟨p, E, C, N'⟩ := a
      rw [es] at ht hc
      have ht : pos + 1 < p ∧ p ≤ len := ht
      have hc : (C.length : Int) ≤ p - (pos + 1) := hc
      have qp := hQ.r (p := p) (by omega)
      show match (if tx p = 41 then .inr (p + 1, k, E, C, N') else if tx p = 44 then (match sL tx cl vr rcS d m p (k + 1) N' with
        | .inl e => .inl e
        | .inr (p', k', E', C', N2) => .inr (p', k', E ++ E', C ++ C', N2)) else .inl p : RsL) with
        | .inl _ => True
        | .inr (p, _, _, C, _) => (C.length : Int) ≤ p - pos
      by_cases h41 : tx p = 41
      · rw [if_pos h41]
        show (C.length : Int) ≤ p + 1 - pos
        omega
      · rw [if_neg h41]
        by_cases h44 : tx p = 44
        · rw [if_pos h44]
          have hr := ih p (k + 1) N' (by omega) (qp.2.2 (by omega)) (by omega)
          cases er : sL tx cl vr rcS d m p (k + 1) N' with
          | inl e => trivial
          | inr b =>
            obtain ⟨p', k', E', C', N2⟩ := b
            rw [er] at hr
            have hr : (C'.length : Int) ≤ p' - p := hr
            show ((C ++ C').length : Int) ≤ p' - pos
            rw [List.length_append]
            omega
        · rw [if_neg h44]
          trivial
theorem sB_c {tx : Int → Int} {len : Int} {cl : Bool} {vr : Vr} (hQ : QX tx len) : ∀ f : Nat, HCC len (sB tx cl vr f) (15 - f) := by
  intro f
  induction f with
  | zero => intro d pos N hD d1; omega
  | succ f ih =>
    intro d pos N hD d1 p0 p1
    exact sL_c (cl := cl) (vr := vr) (d := d) hQ (sB_p hQ f) ih (by omega) 200 pos 1 N p0 p1 (by omega)
theorem sA_c {tx : Int → Int} {len : Int} {cl : Bool} {vr : Vr} (hQ : QX tx len) {pos v : Int} {N : List Int} (p0 : 0 ≤ pos) : match sA tx cl vr v pos N with
    | .inl _ => True
    | .inr (p, _, C, _) => (C.length : Int) ≤ p - pos := by
  unfold sA
  have q0 := hQ.r p0
  by_cases h65 : 65 ≤ tx pos ∧ tx pos ≤ 90
  · rw [if_pos h65]
    have pl := q0.2.2 (by omega)
    by_cases h40 : tx (pos + 1) = 40
    · rw [if_pos h40]
      have pl1 := (hQ.r (p := pos + 1) (by omega)).2.2 (by omega)
      have hp := sB_c (cl := cl) (vr := vr) hQ 15 0 (pos + 1) N (by decide) (by decide) (by omega) pl1
      cases er : sB tx cl vr 15 0 (pos + 1) N with
      | inl e => trivial
      | inr b =>
        obtain ⟨p, k, E, C, N'⟩ := b
        rw [er] at hp
        have hp : (C.length : Int) ≤ p - (pos + 1) := hp
        show ((C.length + 1 : Nat) : Int) ≤ p - pos
        omega
    · rw [if_neg h40]
      show ((1 : Nat) : Int) ≤ pos + 1 - pos
      omega
  · rw [if_neg h65]
    trivial
