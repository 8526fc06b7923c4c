/-! the second object reads terms -/
def ftl : List Nat := [36, 46, 50, 51, 52, 53]
def FTM (T T' : St) : Prop := T'.tl = T.tl ∧ T'.ns = T.ns ∧ T'.O = T.O ∧ (∀ c, c ∉ ftl → T'.F0 c = T.F0 c ∧ T'.A0 c = T.A0 c ∧ T'.R c = T.R c) ∧ (T'.A0 36 = T.A0 36 ∧ T'.R 36 = T.R 36) ∧ ∀ i, i ∉ [22, 27, 28, 30, 34] → T'.F0 36 i = T.F0 36 i
theorem FTM.refl (T : St) : FTM T T := ⟨rfl, rfl, rfl, fun _ _ => ⟨rfl, rfl, rfl⟩, ⟨rfl, rfl⟩, fun _ _ => rfl⟩
theorem FTM.trans {T U W : St} (h : FTM T U) (g : FTM U W) : FTM T W := ⟨g.1.trans h.1, g.2.1.trans h.2.1, g.2.2.1.trans h.2.2.1, fun c hc => ⟨(g.2.2.2.1 c hc).1.trans (h.2.2.2.1 c hc).1, (g.2.2.2.1 c hc).2.1.trans (h.2.2.2.1 c hc).2.1, (g.2.2.2.1 c hc).2.2.trans (h.2.2.2.1 c hc).2.2⟩, ⟨g.2.2.2.2.1.1.trans h.2.2.2.2.1.1, g.2.2.2.2.1.2.trans h.2.2.2.2.1.2⟩, fun i hi => (g.2.2.2.2.2 i hi).trans (h.2.2.2.2.2 i hi)⟩
theorem f_FTM (T : St) {k : Nat} (hk : k ∈ [22, 27, 28, 30, 34]) (x : Int) : FTM T (T.f 36 k x) := by
  refine ⟨rfl, rfl, rfl, fun c hc => ⟨?_, rfl, rfl⟩, ⟨rfl, rfl⟩, fun i hi => ?_⟩
  · show (if c = 36 then _ else T.F0 c) = T.F0 c
    rw [if_neg (fun e => hc (by rw [e]; decide))]
  · show (if (36 : Nat) = 36 then (fun b => if b = k then eI x else T.F0 36 b) else T.F0 36) i = T.F0 36 i
    rw [if_pos rfl]
    exact if_neg (fun e => hi (by rw [e]; exact hk))
theorem a_FTM (T : St) {c : Nat} (hc : c ∈ [46, 50, 51, 52, 53]) (i x : Int) : FTM T (T.a c i x) := by
  have h36 : c ≠ 36 := fun e => by rw [e] at hc; exact absurd hc (by decide)
  refine ⟨rfl, rfl, rfl, fun d hd => ⟨rfl, ?_, rfl⟩, ⟨?_, rfl⟩, fun _ _ => rfl⟩
  · show (if d = c then _ else T.A0 d) = T.A0 d
    rw [if_neg (fun e => hd (by rw [e]; exact List.mem_cons_of_mem _ hc))]
  · show (if 36 = c then _ else T.A0 36) = T.A0 36
    rw [if_neg (fun e => h36 e.symm)]
theorem FTM.F {T T' : St} (h : FTM T T') {i : Nat} (hi : i ∉ [22, 27, 28, 30, 34]) : T'.F 36 i = T.F 36 i := by
  show (T'.F0 36 i).toInt = (T.F0 36 i).toInt
  rw [h.2.2.2.2.2 i hi]
theorem FTM.A {T T' : St} (h : FTM T T') {c : Nat} (hc : c ∉ ftl) : T'.A c = T.A c := by
  funext i
  show (T'.A0 c i).toInt = (T.A0 c i).toInt
  rw [(h.2.2.2.1 c hc).2.1]
/-- the second object's reader stands at pos -/
def RM (tx : Int → Int) (len : Int) (T : St) (pos : Int) : Prop := T.F 36 2 = len ∧ T.F 36 27 = pos ∧ T.F 36 28 = 0 ∧ (∀ i : Int, 0 ≤ i → i < len → T.A 37 i = tx i) ∧ 0 ≤ pos ∧ pos ≤ len ∧ 0 ≤ T.F 36 22 ∧ T.F 36 22 + (len - pos) ≤ 1020
theorem RM.adv {tx : Int → Int} {len pos p : Int} {T : St} (hQ : QX tx len) (h : RM tx len T pos) (h1 : pos ≤ p) (h2 : p ≤ len) : RM tx len (T.f 36 27 p) p := by
  obtain ⟨a1, a2, a3, a4, a5, a6, a7, a8⟩ := h
  have l160 := hQ.2.1
  have iR : inR p := ⟨by omega, by omega⟩
  have e22 : (T.f 36 27 p).F 36 22 = T.F 36 22 := by rw [f_F iR, if_pos rfl, if_neg (by decide)]
  refine ⟨?_, ?_, ?_, a4, by omega, h2, by rw [e22]; exact a7, by rw [e22]; omega⟩
  · rw [f_F iR, if_pos rfl, if_neg (by decide)]; exact a1
  · rw [f_F iR, if_pos rfl, if_pos rfl]
  · rw [f_F iR, if_pos rfl, if_neg (by decide)]; exact a3
theorem RM.a {tx : Int → Int} {len pos : Int} {T : St} {c : Nat} {i x : Int} (hc : c ≠ 37) (h : RM tx len T pos) : RM tx len (T.a c i x) pos := by
  obtain ⟨a1, a2, a3, a4, a5, a6, a7, a8⟩ := h
  exact ⟨a1, a2, a3, by rw [aA_ne (fun e => hc e.symm)]; exact a4, a5, a6, a7, a8⟩
theorem g102_t {tx : Int → Int} {len pos : Int} {T : St} (hQ : QX tx len) (h : RM tx len T pos) : g102 T = some (tx pos) := by
  obtain ⟨a1, a2, a3, a4, a5, a6, a7, a8⟩ := h
  have l160 := hQ.2.1
  unfold g102
  rw [a1, a2]
  by_cases hp : pos < len
  · rw [if_pos hp]
    refine (gd_t (by first | exact ⟨by omega, by omega⟩ | exact ⟨by omega, by omega, by omega⟩ | exact ⟨by omega, by omega, by omega, by omega⟩ | omega | exact inR_to _ | assumption | decide)).trans ?_
    rw [a4 pos a5 hp]
  · rw [if_neg hp, hQ.2.2.2 pos (by omega)]
theorem g104_t {tx : Int → Int} {len pos lo hi : Int} {T : St} (hQ : QX tx len) (h : RM tx len T pos) (hlo : 1 ≤ lo) (hlh : lo ≤ hi) (hhi : hi ≤ 126) : g104 T lo hi = some (if lo ≤ tx pos ∧ tx pos ≤ hi then 1 else 0) := by
  have e0 := g102_t hQ h
  have q0 := hQ.r h.2.2.2.2.1
  unfold g104
  rw [e0]
  refine (ob_t rfl).trans ?_
  refine (gd_t (by first | exact ⟨by omega, by omega⟩ | exact ⟨by omega, by omega, by omega⟩ | exact ⟨by omega, by omega, by omega, by omega⟩ | omega | exact inR_to _ | assumption | decide)).trans ?_
  refine (gd_t (by first | exact ⟨by omega, by omega⟩ | exact ⟨by omega, by omega, by omega⟩ | exact ⟨by omega, by omega, by omega, by omega⟩ | omega | exact inR_to _ | assumption | decide)).trans ?_
  by_cases h1 : tx pos < lo
  · rw [if_pos h1, if_neg (by omega)]
  · rw [if_neg h1]
    refine (ob_t rfl).trans ?_
    refine (gd_t (by first | exact ⟨by omega, by omega⟩ | exact ⟨by omega, by omega, by omega⟩ | exact ⟨by omega, by omega, by omega, by omega⟩ | omega | exact inR_to _ | assumption | decide)).trans ?_
    refine (gd_t (by first | exact ⟨by omega, by omega⟩ | exact ⟨by omega, by omega, by omega⟩ | exact ⟨by omega, by omega, by omega, by omega⟩ | omega | exact inR_to _ | assumption | decide)).trans ?_
    by_cases h2 : hi < tx pos
    · rw [if_pos h2, if_neg (by omega)]
    · rw [if_neg h2, if_pos (by omega)]
/-- the reader's place alone has changed -/
def PMv (T T' : St) : Prop := T'.A = T.A ∧ FTM T T' ∧ ∀ i, i ∉ [27, 28] → T'.F 36 i = T.F 36 i
theorem PMv.trans {T U W : St} (h : PMv T U) (g : PMv U W) : PMv T W := ⟨g.1.trans h.1, h.2.1.trans g.2.1, fun i hi => (g.2.2 i hi).trans (h.2.2 i hi)⟩
theorem f_PMv (T : St) {k : Nat} (hk : k ∈ [27, 28]) (x : Int) : PMv T (T.f 36 k x) := ⟨rfl, f_FTM T (by
  have : ∀ d ∈ [27, 28], d ∈ [22, 27, 28, 30, 34] := by decide
  exact this k hk) x, fun i hi => by
  show ((if (36 : Nat) = 36 then (fun b => if b = k then eI x else T.F0 36 b) else T.F0 36) i).toInt = _
  rw [if_pos rfl]
  show (if i = k then eI x else T.F0 36 i).toInt = _
  rw [if_neg (fun e => hi (by rw [e]; exact hk))]
  rfl⟩
theorem f27_PMv (T : St) (x : Int) : PMv T (T.f 36 27 x) := f_PMv T (by decide) x
theorem PMv.refl (T : St) : PMv T T := ⟨rfl, FTM.refl T, fun _ _ => rfl⟩
/-- a name as a number of the second object's -/
def nmq (lo n : Int) : Int := lo + n / 11 + 128 * (n % 11)
theorem g109_t {tx : Int → Int} {len pos lo hi n p : Int} {T : St} (hQ : QX tx len) (h : RM tx len T pos) (hlo : 1 ≤ lo) (hn : nmr tx lo hi pos = some (n, p)) : ∃ T', g109 T = some (nmq lo n, T') ∧ RM tx len T' p ∧ PMv T T' := by
  have e0 := g102_t hQ h
  have a2 := h.2.1
  have a5 := h.2.2.2.2.1
  have q0 := hQ.r a5
  have q1 := hQ.r (p := pos + 1) (by omega)
  unfold nmr at hn
  by_cases h1 : lo ≤ tx pos ∧ tx pos ≤ hi
  · rw [if_pos h1] at hn
    have pl := q0.2.2 (by omega)
    have hS := h.adv hQ (show pos ≤ pos + 1 by omega) (by omega)
    have e1 := g104_t hQ hS (lo := 48) (hi := 57) (by decide) (by decide) (by decide)
    have e2 := g102_t hQ hS
    by_cases h2 : 48 ≤ tx (pos + 1) ∧ tx (pos + 1) ≤ 57
    · rw [if_pos h2] at hn e1
      cases hn
      have pl1 := q1.2.2 (by omega)
      have hS2 := hS.adv hQ (show pos + 1 ≤ pos + 1 + 1 by omega) (by omega)
      refine ⟨_, ?_, by rw [show pos + 2 = pos + 1 + 1 by omega]; exact hS2, (f27_PMv _ _).trans (f27_PMv _ _)⟩
      unfold g109
      rw [e0]
      refine (ob_t rfl).trans ?_
      rw [a2, e1]
      refine (ob_t rfl).trans ?_
      show gd (inR 1) _ = _
      refine (gd_t (by first | exact ⟨by omega, by omega⟩ | exact ⟨by omega, by omega, by omega⟩ | exact ⟨by omega, by omega, by omega, by omega⟩ | omega | exact inR_to _ | assumption | decide)).trans ?_
      refine (if_neg (show ¬ (1 : Int) = 0 by decide)).trans ?_
      rw [e2]
      refine (ob_t rfl).trans ?_
      have en : tx pos + 128 * (tx (pos + 1) - 48 + 1) = nmq lo ((tx pos - lo) * 11 + 1 + tx (pos + 1) - 48) := by
        unfold nmq
        omega
      rw [en]
    · rw [if_neg h2] at hn e1
      cases hn
      refine ⟨_, ?_, hS, f27_PMv _ _⟩
      unfold g109
      rw [e0]
      refine (ob_t rfl).trans ?_
      rw [a2, e1]
      refine (ob_t rfl).trans ?_
      show gd (inR 0) _ = _
      refine (gd_t (by first | exact ⟨by omega, by omega⟩ | exact ⟨by omega, by omega, by omega⟩ | exact ⟨by omega, by omega, by omega, by omega⟩ | omega | exact inR_to _ | assumption | decide)).trans ?_
      refine (if_pos rfl).trans ?_
      have en : tx pos = nmq lo ((tx pos - lo) * 11) := by
        unfold nmq
        omega
      rw [← en]
  · rw [if_neg h1] at hn
    cases hn
theorem nmq_mo {n : Int} (n0 : 0 ≤ n) (n1 : n ≤ 120) : 4096 + 128 * nmq 97 n = mo (32768 + n * 256) := by
  unfold nmq mo
  rw [if_neg (by omega), if_pos (by omega), show (32768 + n * 256 - 32768) / 256 = n by omega]
  omega
theorem g111_t {tx : Int → Int} {len pos : Int} {T : St} (hQ : QX tx len) (h : RM tx len T pos) (h36 : tx pos = 36) : match mdr tx pos with
    | none => ∃ T', g111 T = some (0, T') ∧ T'.F 36 28 = 1 ∧ T'.F 36 27 = pos + 1 ∧ PMv T T'
    | some (v, p) => ∃ T', g111 T = some (36 + 128 * v, T') ∧ RM tx len T' p ∧ PMv T T' := by
  have a2 := h.2.1
  have a5 := h.2.2.2.2.1
  have q0 := hQ.r a5
  have q1 := hQ.r (p := pos + 1) (by omega)
  have q2 := hQ.r (p := pos + 2) (by omega)
  have l160 := hQ.2.1
  have pl := q0.2.2 (by omega)
  have hS := h.adv hQ (show pos ≤ pos + 1 by omega) (by omega)
  have e1 := g104_t hQ hS (lo := 49) (hi := 57) (by decide) (by decide) (by decide)
  have f1 := g102_t hQ hS
  by_cases h1 : 49 ≤ tx (pos + 1) ∧ tx (pos + 1) ≤ 57
  · have pl1 := q1.2.2 (by omega)
    rw [if_pos h1] at e1
    have hS2 := hS.adv hQ (show pos + 1 ≤ pos + 1 + 1 by omega) (by omega)
    have e2 := g104_t hQ hS2 (lo := 48) (hi := 57) (by decide) (by decide) (by decide)
    have f2 := g102_t hQ hS2
    rw [show pos + 1 + 1 = pos + 2 by omega] at e2 f2
    by_cases h2 : 48 ≤ tx (pos + 2) ∧ tx (pos + 2) ≤ 57
    · have en : mdr tx pos = some ((tx (pos + 1) - 48) * 10 + tx (pos + 2) - 48, pos + 3) := by unfold mdr; rw [if_pos h1, if_pos h2]
      have pl2 := q2.2.2 (by omega)
      rw [if_pos h2] at e2
      have hS3 := hS2.adv hQ (show pos + 1 + 1 ≤ pos + 1 + 1 + 1 by omega) (by omega)
      rw [en]
      refine ⟨_, ?_, by rw [show pos + 3 = pos + 1 + 1 + 1 by omega]; exact hS3, (f27_PMv _ _).trans ((f27_PMv _ _).trans (f27_PMv _ _))⟩
      unfold g111
      rw [a2, e1]
      refine (ob_t rfl).trans ?_
      show gd (inR 1) _ = _
      refine (gd_t (by first | exact ⟨by omega, by omega⟩ | exact ⟨by omega, by omega, by omega⟩ | exact ⟨by omega, by omega, by omega, by omega⟩ | omega | exact inR_to _ | assumption | decide)).trans ?_
      refine (if_neg (show ¬ (1 : Int) = 0 by decide)).trans ?_
      rw [f1]
      refine (ob_t rfl).trans ?_
      rw [show pos + 1 + 1 = pos + 2 by omega, e2]
      refine (ob_t rfl).trans ?_
      show gd (inR 1) _ = _
      refine (gd_t (by first | exact ⟨by omega, by omega⟩ | exact ⟨by omega, by omega, by omega⟩ | exact ⟨by omega, by omega, by omega, by omega⟩ | omega | exact inR_to _ | assumption | decide)).trans ?_
      refine (if_neg (show ¬ (1 : Int) = 0 by decide)).trans ?_
      rw [f2]
      refine (ob_t rfl).trans ?_
      rw [show 36 + 128 * (10 * (tx (pos + 1) - 48) + tx (pos + 2) - 48) = 36 + 128 * ((tx (pos + 1) - 48) * 10 + tx (pos + 2) - 48) by omega]
    · have en : mdr tx pos = some (tx (pos + 1) - 48, pos + 2) := by unfold mdr; rw [if_pos h1, if_neg h2]
      rw [if_neg h2] at e2
      rw [en]
      refine ⟨_, ?_, by rw [show pos + 2 = pos + 1 + 1 by omega]; exact hS2, (f27_PMv _ _).trans (f27_PMv _ _)⟩
      unfold g111
      rw [a2, e1]
      refine (ob_t rfl).trans ?_
      show gd (inR 1) _ = _
      refine (gd_t (by first | exact ⟨by omega, by omega⟩ | exact ⟨by omega, by omega, by omega⟩ | exact ⟨by omega, by omega, by omega, by omega⟩ | omega | exact inR_to _ | assumption | decide)).trans ?_
      refine (if_neg (show ¬ (1 : Int) = 0 by decide)).trans ?_
      rw [f1]
      refine (ob_t rfl).trans ?_
      rw [show pos + 1 + 1 = pos + 2 by omega, e2]
      rfl
  · have en : mdr tx pos = none := by unfold mdr; rw [if_neg h1]
    rw [if_neg h1] at e1
    rw [en]
    refine ⟨(T.f 36 27 (pos + 1)).f 36 28 1, ?_, ?_, ?_, (f27_PMv _ _).trans (f_PMv _ (k := 28) (by decide) 1)⟩
    · unfold g111
      rw [a2, e1]
      rfl
    · rw [f_F (by decide), if_pos rfl, if_pos rfl]
    · rw [f_F (by decide), if_pos rfl, if_neg (by decide)]
      exact hS.2.1
/-- cells laid behind one another -/
def lay (a : Int → Int) (top : Int) (C : List Int) : Int → Int := fun q => if top ≤ q ∧ q < top + C.length then gI C (q - top) else a q
theorem lay_nil (a : Int → Int) (top : Int) : lay a top [] = a := by
  funext q
  exact if_neg (by show ¬ (top ≤ q ∧ q < top + ((0 : Nat) : Int)); omega)
theorem lay_one (a : Int → Int) (top c : Int) : upI a top c = lay a top [c] := by
  funext q
  unfold lay
  show _ = if top ≤ q ∧ q < top + ((1 : Nat) : Int) then _ else _
  by_cases h : q = top
  · rw [h, upI_e, if_pos (by omega), Int.sub_self]; rfl
  · rw [upI_n h, if_neg (by omega)]
theorem lay_app (a : Int → Int) (top : Int) (C C' : List Int) : lay (lay a top C) (top + C.length) C' = lay a top (C ++ C') := by
  funext q
  unfold lay
  rw [List.length_append]
  by_cases h1 : top + (C.length : Int) ≤ q ∧ q < top + C.length + C'.length
  · rw [if_pos h1, if_pos (by omega), gI_r (by omega), show q - top - (C.length : Int) = q - (top + C.length) by omega]
  · rw [if_neg h1]
    by_cases h2 : top ≤ q ∧ q < top + C.length
    · rw [if_pos h2, if_pos (by omega), gI_l (by omega) (by omega)]
    · rw [if_neg h2, if_neg (by omega)]
theorem lay_up {a : Int → Int} {top pl x : Int} {C : List Int} (h : pl < top) : upI (lay a top C) pl x = lay (upI a pl x) top C := by
  funext q
  unfold lay
  by_cases hq : q = pl
  · rw [hq, upI_e, if_neg (by omega), upI_e]
  · rw [upI_n hq]
    by_cases h2 : top ≤ q ∧ q < top + C.length
    · rw [if_pos h2, if_pos h2]
    · rw [if_neg h2, if_neg h2, upI_n hq]
theorem lay_lo {a : Int → Int} {top q : Int} {C : List Int} (h : q < top) : lay a top C q = a q := if_neg (by omega)
theorem up_up (a : Int → Int) (p x y : Int) : upI (upI a p x) p y = upI a p y := by
  funext q
  by_cases hq : q = p
  · rw [hq, upI_e, upI_e]
  · rw [upI_n hq, upI_n hq, upI_n hq]
theorem g105_t {tx : Int → Int} {len pos c : Int} {T : St} (h : RM tx len T pos) (hc : inR c) (hb : T.F 36 22 + 1 + (len - pos) ≤ 1020) (hl : len ≤ 160) : ∃ T', g105 T c = some T' ∧ RM tx len T' pos ∧ T'.F 36 22 = T.F 36 22 + 1 ∧ T'.A 46 = lay (T.A 46) (T.F 36 22) [c] ∧ FTM T T' ∧ (∀ d, d ≠ 46 → T'.A d = T.A d) ∧ ∀ i, i ≠ 22 → T'.F 36 i = T.F 36 i := by
  obtain ⟨a1, a2, a3, a4, a5, a6, a7, a8⟩ := h
  have iR : inR (T.F 36 22 + 1) := ⟨by omega, by omega⟩
  have e : g105 T c = some ((T.a 46 (T.F 36 22) c).f 36 22 (T.F 36 22 + 1)) := by
    unfold g105
    refine (gd_t (by first | exact ⟨by omega, by omega⟩ | exact ⟨by omega, by omega, by omega⟩ | exact ⟨by omega, by omega, by omega, by omega⟩ | omega | exact inR_to _ | assumption | decide)).trans ?_
    rfl
  have e22 : ((T.a 46 (T.F 36 22) c).f 36 22 (T.F 36 22 + 1)).F 36 22 = T.F 36 22 + 1 := by rw [f_F iR, if_pos rfl, if_pos rfl]
  have eF : ∀ i, i ≠ 22 → ((T.a 46 (T.F 36 22) c).f 36 22 (T.F 36 22 + 1)).F 36 i = T.F 36 i := fun i hi => by rw [f_F iR, if_pos rfl, if_neg hi, a_F]
  refine ⟨_, e, ⟨by rw [eF 2 (by decide)]; exact a1, by rw [eF 27 (by decide)]; exact a2, by rw [eF 28 (by decide)]; exact a3, by rw [f_A, aA_ne (by decide)]; exact a4, a5, a6, by rw [e22]; omega, by rw [e22]; omega⟩, e22, ?_, (a_FTM _ (by decide) _ _).trans (f_FTM _ (by decide) _), fun d hd => by rw [f_A, aA_ne hd], eF⟩
  rw [f_A, aA_up hc, lay_one]
