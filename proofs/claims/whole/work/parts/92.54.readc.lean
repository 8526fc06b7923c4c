/-! the first object reads terms -/
/-- reading changes the reader's place, its refusal, its literal -/
def FT (S S' : St) : Prop := S'.tl = S.tl ∧ S'.ns = S.ns ∧ S'.O = S.O ∧ (∀ c, c ∉ [1, 12] → S'.F0 c = S.F0 c ∧ S'.A0 c = S.A0 c ∧ S'.R c = S.R c) ∧ (S'.A0 1 = S.A0 1 ∧ S'.R 1 = S.R 1) ∧ (S'.F0 12 = S.F0 12 ∧ S'.R 12 = S.R 12) ∧ ∀ i, i ∉ [3, 4, 12] → S'.F0 1 i = S.F0 1 i
theorem FT.refl (S : St) : FT S S := ⟨rfl, rfl, rfl, fun _ _ => ⟨rfl, rfl, rfl⟩, ⟨rfl, rfl⟩, ⟨rfl, rfl⟩, fun _ _ => rfl⟩
theorem FT.trans {S T U : St} (h : FT S T) (g : FT T U) : FT S U := ⟨g.1.trans h.1, g.2.1.trans h.2.1, g.2.2.1.trans h.2.2.1, fun c hc => ⟨(g.2.2.2.1 c hc).1.trans (h.2.2.2.1 c hc).1, (g.2.2.2.1 c hc).2.1.trans (h.2.2.2.1 c hc).2.1, (g.2.2.2.1 c hc).2.2.trans (h.2.2.2.1 c hc).2.2⟩, ⟨g.2.2.2.2.1.1.trans h.2.2.2.2.1.1, g.2.2.2.2.1.2.trans h.2.2.2.2.1.2⟩, ⟨g.2.2.2.2.2.1.1.trans h.2.2.2.2.2.1.1, g.2.2.2.2.2.1.2.trans h.2.2.2.2.2.1.2⟩, fun i hi => (g.2.2.2.2.2.2 i hi).trans (h.2.2.2.2.2.2 i hi)⟩
theorem f_FT (S : St) {k : Nat} (hk : k ∈ [3, 4, 12]) (x : Int) : FT S (S.f 1 k x) := by
  refine ⟨rfl, rfl, rfl, fun c hc => ⟨?_, rfl, rfl⟩, ⟨rfl, rfl⟩, ⟨rfl, rfl⟩, fun i hi => ?_⟩
  · show (if c = 1 then _ else S.F0 c) = S.F0 c
    rw [if_neg (fun e => hc (by rw [e]; decide))]
  · show (if (1 : Nat) = 1 then (fun b => if b = k then eI x else S.F0 1 b) else S.F0 1) i = S.F0 1 i
    rw [if_pos rfl]
    exact if_neg (fun e => hi (by rw [e]; exact hk))
theorem a_FT (S : St) (i x : Int) : FT S (S.a 12 i x) := by
  refine ⟨rfl, rfl, rfl, fun c hc => ⟨rfl, ?_, rfl⟩, ⟨rfl, rfl⟩, ⟨rfl, rfl⟩, fun _ _ => rfl⟩
  show (if c = 12 then _ else S.A0 c) = S.A0 c
  rw [if_neg (fun e => hc (by rw [e]; decide))]
theorem FT.F {S S' : St} (h : FT S S') {i : Nat} (hi : i ∉ [3, 4, 12]) : S'.F 1 i = S.F 1 i := by
  show (S'.F0 1 i).toInt = (S.F0 1 i).toInt
  rw [h.2.2.2.2.2.2 i hi]
theorem FT.A {S S' : St} (h : FT S S') {c : Nat} (hc : c ∉ [1, 12]) : S'.A c = S.A c := by
  funext i
  show (S'.A0 c i).toInt = (S.A0 c i).toInt
  rw [(h.2.2.2.1 c hc).2.1]
/-- the reader stands at pos, its literal has the symbols W -/
def RC (tx : Int → Int) (len : Int) (S : St) (pos : Int) (W : List Int) : Prop := S.F 1 1 = len ∧ S.F 1 4 = pos ∧ S.F 1 3 = -1 ∧ (∀ i : Int, 0 ≤ i → i < len → S.A 2 i = tx i) ∧ 0 ≤ pos ∧ pos ≤ len ∧ S.F 1 12 = W.length ∧ (W.length : Int) + 11 * (len - pos) ≤ 1800 ∧ ∀ i : Int, 0 ≤ i → i < 16 → i < W.length → S.A 12 i = gI W i
theorem RC.adv {tx : Int → Int} {len pos p : Int} {S : St} {W : List Int} (hQ : QX tx len) (h : RC tx len S pos W) (h1 : pos ≤ p) (h2 : p ≤ len) : RC tx len (S.f 1 4 p) p W := by
  obtain ⟨a1, a2, a3, a4, a5, a6, a7, a8, a9⟩ := h
  have l160 := hQ.2.1
  have iR : inR p := ⟨by omega, by omega⟩
  refine ⟨?_, ?_, ?_, a4, by omega, h2, ?_, by omega, a9⟩
  · rw [f_F iR, if_pos rfl, if_neg (by decide)]; exact a1
  · rw [f_F iR, if_pos rfl, if_pos rfl]
  · rw [f_F iR, if_pos rfl, if_neg (by decide)]; exact a3
  · rw [f_F iR, if_pos rfl, if_neg (by decide)]; exact a7
theorem g23_t {tx : Int → Int} {len pos : Int} {S : St} {W : List Int} (hQ : QX tx len) (h : RC tx len S pos W) : g23 S = some (tx pos) := by
  obtain ⟨a1, a2, a3, a4, a5, a6, a7, a8, a9⟩ := h
  have l160 := hQ.2.1
  have q := hQ.r a5
  unfold g23
  rw [a1, a2]
  by_cases hp : pos < len
  · rw [if_pos hp]
    refine (gd_t (by first | exact ⟨by omega, by omega⟩ | exact ⟨by omega, by omega, by omega⟩ | exact ⟨by omega, by omega, by omega, by omega⟩ | omega | exact inR_to _ | assumption | decide)).trans ?_
    rw [a4 pos a5 hp]
    refine (gd_t (by first | exact ⟨by omega, by omega⟩ | exact ⟨by omega, by omega, by omega⟩ | exact ⟨by omega, by omega, by omega, by omega⟩ | omega | exact inR_to _ | assumption | decide)).trans ?_
    rfl
  · rw [if_neg hp, hQ.2.2.2 pos (by omega)]
theorem g29_t {tx : Int → Int} {len pos lo hi : Int} {S : St} {W : List Int} (hQ : QX tx len) (h : RC tx len S pos W) (hlo : 1 ≤ lo) (hlh : lo ≤ hi) (hhi : hi ≤ 126) : match nmr tx lo hi pos with
    | none => g29 S lo hi = some (-1, S)
    | some (n, p) => ∃ S', g29 S lo hi = some (n, S') ∧ RC tx len S' p W ∧ FT S S' := by
  have a2 := h.2.1
  have a5 := h.2.2.2.2.1
  have q0 := hQ.r a5
  have q1 := hQ.r (p := pos + 1) (by omega)
  have l160 := hQ.2.1
  have e0 := g23_t hQ h
  by_cases h1 : lo ≤ tx pos ∧ tx pos ≤ hi
  · have pl := q0.2.2 (by omega)
    have hS := h.adv hQ (show pos ≤ pos + 1 by omega) (by omega)
    have e1 := g23_t hQ hS
    by_cases h2 : 48 ≤ tx (pos + 1) ∧ tx (pos + 1) ≤ 57
    · have en : nmr tx lo hi pos = some ((tx pos - lo) * 11 + 1 + tx (pos + 1) - 48, pos + 2) := by unfold nmr; rw [if_pos h1, if_pos h2]
      have pl1 := q1.2.2 (by omega)
      rw [en]
      have hS2 := hS.adv hQ (show pos + 1 ≤ pos + 1 + 1 by omega) (by omega)
      refine ⟨_, ?_, by rw [show pos + 2 = pos + 1 + 1 by omega]; exact hS2, (f_FT _ (by decide) _).trans (f_FT _ (by decide) _)⟩
      unfold g29
      rw [e0]
      refine (ob_t rfl).trans ?_
      refine (gd_t (by first | exact ⟨by omega, by omega⟩ | exact ⟨by omega, by omega, by omega⟩ | exact ⟨by omega, by omega, by omega, by omega⟩ | omega | exact inR_to _ | assumption | decide)).trans ?_
      refine (gd_t (by first | exact ⟨by omega, by omega⟩ | exact ⟨by omega, by omega, by omega⟩ | exact ⟨by omega, by omega, by omega, by omega⟩ | omega | exact inR_to _ | assumption | decide)).trans ?_
      rw [if_neg (by omega)]
      refine (gd_t (by first | exact ⟨by omega, by omega⟩ | exact ⟨by omega, by omega, by omega⟩ | exact ⟨by omega, by omega, by omega, by omega⟩ | omega | exact inR_to _ | assumption | decide)).trans ?_
      rw [if_neg (by omega), a2, e1]
      refine (ob_t rfl).trans ?_
      refine (gd_t (by first | exact ⟨by omega, by omega⟩ | exact ⟨by omega, by omega, by omega⟩ | exact ⟨by omega, by omega, by omega, by omega⟩ | omega | exact inR_to _ | assumption | decide)).trans ?_
      rw [if_neg (by omega), if_neg (by omega)]
    · have en : nmr tx lo hi pos = some ((tx pos - lo) * 11, pos + 1) := by unfold nmr; rw [if_pos h1, if_neg h2]
      rw [en]
      refine ⟨_, ?_, hS, f_FT _ (by decide) _⟩
      unfold g29
      rw [e0]
      refine (ob_t rfl).trans ?_
      refine (gd_t (by first | exact ⟨by omega, by omega⟩ | exact ⟨by omega, by omega, by omega⟩ | exact ⟨by omega, by omega, by omega, by omega⟩ | omega | exact inR_to _ | assumption | decide)).trans ?_
      refine (gd_t (by first | exact ⟨by omega, by omega⟩ | exact ⟨by omega, by omega, by omega⟩ | exact ⟨by omega, by omega, by omega, by omega⟩ | omega | exact inR_to _ | assumption | decide)).trans ?_
      rw [if_neg (by omega)]
      refine (gd_t (by first | exact ⟨by omega, by omega⟩ | exact ⟨by omega, by omega, by omega⟩ | exact ⟨by omega, by omega, by omega, by omega⟩ | omega | exact inR_to _ | assumption | decide)).trans ?_
      rw [if_neg (by omega), a2, e1]
      refine (ob_t rfl).trans ?_
      refine (gd_t (by first | exact ⟨by omega, by omega⟩ | exact ⟨by omega, by omega, by omega⟩ | exact ⟨by omega, by omega, by omega, by omega⟩ | omega | exact inR_to _ | assumption | decide)).trans ?_
      by_cases h3 : tx (pos + 1) < 48
      · rw [if_pos h3]
      · rw [if_neg h3, if_pos (by omega)]
  · have en : nmr tx lo hi pos = none := by unfold nmr; rw [if_neg h1]
    rw [en]
    show g29 S lo hi = some (-1, S)
    unfold g29
    rw [e0]
    refine (ob_t rfl).trans ?_
    refine (gd_t (by first | exact ⟨by omega, by omega⟩ | exact ⟨by omega, by omega, by omega⟩ | exact ⟨by omega, by omega, by omega, by omega⟩ | omega | exact inR_to _ | assumption | decide)).trans ?_
    refine (gd_t (by first | exact ⟨by omega, by omega⟩ | exact ⟨by omega, by omega, by omega⟩ | exact ⟨by omega, by omega, by omega, by omega⟩ | omega | exact inR_to _ | assumption | decide)).trans ?_
    by_cases h3 : tx pos < lo
    · rw [if_pos h3]
    · rw [if_neg h3]
      refine (gd_t (by first | exact ⟨by omega, by omega⟩ | exact ⟨by omega, by omega, by omega⟩ | exact ⟨by omega, by omega, by omega, by omega⟩ | omega | exact inR_to _ | assumption | decide)).trans ?_
      rw [if_pos (by omega)]
theorem g31_t {tx : Int → Int} {len pos : Int} {S : St} {W : List Int} (hQ : QX tx len) (h : RC tx len S pos W) (h36 : tx pos = 36) : match mdr tx pos with
    | none => ∃ S', g31 S = some (-1, S') ∧ RC tx len S' (pos + 1) W ∧ FT S S'
    | some (n, p) => ∃ S', g31 S = some (128 + n, S') ∧ RC tx len S' p W ∧ FT S S' := by
  have a2 := h.2.1
  have a5 := h.2.2.2.2.1
  have q0 := hQ.r a5
  have q1 := hQ.r (p := pos + 1) (by omega)
  have q2 := hQ.r (p := pos + 2) (by omega)
  have l160 := hQ.2.1
  have pl := q0.2.2 (by omega)
  have hS := h.adv hQ (show pos ≤ pos + 1 by omega) (by omega)
  have e1 := g23_t hQ hS
  by_cases h1 : 49 ≤ tx (pos + 1) ∧ tx (pos + 1) ≤ 57
  · have pl1 := q1.2.2 (by omega)
    have hS2 := hS.adv hQ (show pos + 1 ≤ pos + 1 + 1 by omega) (by omega)
    have e2 := g23_t hQ hS2
    rw [show pos + 1 + 1 = pos + 2 by omega] at e2
    by_cases h2 : 48 ≤ tx (pos + 2) ∧ tx (pos + 2) ≤ 57
    · have en : mdr tx pos = some ((tx (pos + 1) - 48) * 10 + tx (pos + 2) - 48, pos + 3) := by unfold mdr; rw [if_pos h1, if_pos h2]
      have pl2 := q2.2.2 (by omega)
      have hS3 := hS2.adv hQ (show pos + 1 + 1 ≤ pos + 1 + 1 + 1 by omega) (by omega)
      rw [en]
      refine ⟨_, ?_, by rw [show pos + 3 = pos + 1 + 1 + 1 by omega]; exact hS3, (f_FT _ (by decide) _).trans ((f_FT _ (by decide) _).trans (f_FT _ (by decide) _))⟩
      unfold g31
      rw [a2, e1]
      refine (ob_t rfl).trans ?_
      refine (gd_t (by first | exact ⟨by omega, by omega⟩ | exact ⟨by omega, by omega, by omega⟩ | exact ⟨by omega, by omega, by omega, by omega⟩ | omega | exact inR_to _ | assumption | decide)).trans ?_
      rw [if_neg (by omega), if_neg (by omega), show pos + 1 + 1 = pos + 2 by omega, e2]
      refine (ob_t rfl).trans ?_
      refine (gd_t (by first | exact ⟨by omega, by omega⟩ | exact ⟨by omega, by omega, by omega⟩ | exact ⟨by omega, by omega, by omega, by omega⟩ | omega | exact inR_to _ | assumption | decide)).trans ?_
      rw [if_neg (by omega), if_neg (by omega)]
    · have en : mdr tx pos = some (tx (pos + 1) - 48, pos + 2) := by unfold mdr; rw [if_pos h1, if_neg h2]
      rw [en]
      refine ⟨_, ?_, by rw [show pos + 2 = pos + 1 + 1 by omega]; exact hS2, (f_FT _ (by decide) _).trans (f_FT _ (by decide) _)⟩
      unfold g31
      rw [a2, e1]
      refine (ob_t rfl).trans ?_
      refine (gd_t (by first | exact ⟨by omega, by omega⟩ | exact ⟨by omega, by omega, by omega⟩ | exact ⟨by omega, by omega, by omega, by omega⟩ | omega | exact inR_to _ | assumption | decide)).trans ?_
      rw [if_neg (by omega), if_neg (by omega), show pos + 1 + 1 = pos + 2 by omega, e2]
      refine (ob_t rfl).trans ?_
      refine (gd_t (by first | exact ⟨by omega, by omega⟩ | exact ⟨by omega, by omega, by omega⟩ | exact ⟨by omega, by omega, by omega, by omega⟩ | omega | exact inR_to _ | assumption | decide)).trans ?_
      by_cases h3 : tx (pos + 2) < 48
      · rw [if_pos h3]
      · rw [if_neg h3, if_pos (by omega)]
  · have en : mdr tx pos = none := by unfold mdr; rw [if_neg h1]
    rw [en]
    refine ⟨_, ?_, hS, f_FT _ (by decide) _⟩
    unfold g31
    rw [a2, e1]
    refine (ob_t rfl).trans ?_
    refine (gd_t (by first | exact ⟨by omega, by omega⟩ | exact ⟨by omega, by omega, by omega⟩ | exact ⟨by omega, by omega, by omega, by omega⟩ | omega | exact inR_to _ | assumption | decide)).trans ?_
    by_cases h3 : tx (pos + 1) < 49
    · rw [if_pos h3]
    · rw [if_neg h3, if_pos (by omega)]
theorem g26_t {tx : Int → Int} {len pos x : Int} {S : St} {W : List Int} (hQ : QX tx len) (h : RC tx len S pos W) (hx : inR x) (hb : (W.length : Int) + 1 + 11 * (len - pos) ≤ 1800) : ∃ S', g26 S x = some S' ∧ RC tx len S' pos (W ++ [x]) ∧ FT S S' := by
  obtain ⟨a1, a2, a3, a4, a5, a6, a7, a8, a9⟩ := h
  have l160 := hQ.2.1
  have el : ((W ++ [x]).length : Int) = W.length + 1 := by rw [List.length_append]; rfl
  have iR : inR ((W.length : Int) + 1) := ⟨by omega, by omega⟩
  by_cases h16 : (W.length : Int) < 16
  · have e : g26 S x = some ((S.a 12 W.length x).f 1 12 ((W.length : Int) + 1)) := by
      unfold g26
      rw [a7, if_pos h16]
      refine (gd_t (by first | exact ⟨by omega, by omega⟩ | exact ⟨by omega, by omega, by omega⟩ | exact ⟨by omega, by omega, by omega, by omega⟩ | omega | exact inR_to _ | assumption | decide)).trans ?_
      rfl
    refine ⟨_, e, ⟨?_, ?_, ?_, a4, a5, a6, ?_, by rw [el]; exact hb, fun i i0 i1 i2 => ?_⟩, (a_FT _ _ _).trans (f_FT _ (by decide) _)⟩
    · rw [f_F iR, if_pos rfl, if_neg (by decide)]; exact a1
    · rw [f_F iR, if_pos rfl, if_neg (by decide)]; exact a2
    · rw [f_F iR, if_pos rfl, if_neg (by decide)]; exact a3
    · rw [f_F iR, if_pos rfl, if_pos rfl, el]
    · rw [f_A, aA_up hx]
      rw [el] at i2
      by_cases hi : i = W.length
      · rw [hi, upI_e, gI_r (Int.le_refl _), Int.sub_self, gI_one]
      · rw [upI_n hi, gI_l (by omega) i0]
        exact a9 i i0 i1 (by omega)
  · have e : g26 S x = some (S.f 1 12 ((W.length : Int) + 1)) := by
      unfold g26
      rw [a7, if_neg h16]
    refine ⟨_, e, ⟨?_, ?_, ?_, a4, a5, a6, ?_, by rw [el]; exact hb, fun i i0 i1 i2 => ?_⟩, f_FT _ (by decide) _⟩
    · rw [f_F iR, if_pos rfl, if_neg (by decide)]; exact a1
    · rw [f_F iR, if_pos rfl, if_neg (by decide)]; exact a2
    · rw [f_F iR, if_pos rfl, if_neg (by decide)]; exact a3
    · rw [f_F iR, if_pos rfl, if_pos rfl, el]
    · rw [f_A, gI_l (by omega) i0]
      exact a9 i i0 i1 (by omega)
theorem g25_t (S : St) {p : Int} (hp : inR p) : g25 S p = some (-1, S.f 1 3 p) ∧ (S.f 1 3 p).F 1 3 = p ∧ FT S (S.f 1 3 p) := ⟨rfl, by rw [f_F hp, if_pos rfl, if_pos rfl], f_FT _ (by decide) _⟩
/-- reading went wrong at e -/
def BD (S : St) (g : Option St) (e len : Int) : Prop := 0 ≤ e ∧ e ≤ len ∧ ∃ S', g = some S' ∧ S'.F 1 3 = e ∧ FT S S'
/-- the variables of the first object's reader -/
def HV (tx : Int → Int) (len : Int) (vr : Vr) (EC : St → Prop) : Prop := ∀ (S : St) (n q p : Int) (N W : List Int), RC tx len S p W → EC S → 0 ≤ n → n ≤ 32 → 0 ≤ q → q ≤ len → (W.length : Int) + 11 + 11 * (len - p) ≤ 1800 → match vr N n with
    | some (e, _, _) => ∃ S', g30 S n q = some S' ∧ RC tx len S' p (W ++ e) ∧ FT S S'
    | none => ∃ S', g30 S n q = some S' ∧ S'.F 1 3 = q ∧ FT S S'
/-- brackets are read alike -/
def HC (tx : Int → Int) (len : Int) (EC : St → Prop) (rcC : St → Int → Int → Option St) (rcS : Int → Int → List Int → RsL) (D : Int) : Prop := ∀ (S : St) (d pos x : Int) (N W : List Int), D ≤ d → 0 ≤ d → d ≤ 14 → RC tx len S pos (W ++ [x]) → EC S → 0 ≤ x → x < 1000000 → tx pos = 40 → match rcS d pos N with
    | .inl e => BD S (rcC S W.length d) e len
    | .inr (p, k, E, _, _) => pos < p ∧ p ≤ len ∧ 0 ≤ k ∧ k ≤ 160 ∧ ∃ S', rcC S W.length d = some S' ∧ RC tx len S' p (W ++ (x + k) :: E) ∧ FT S S'
set_option maxHeartbeats 1000000 in
theorem g28_t {tx : Int → Int} {len : Int} {cl : Bool} {vr : Vr} {EC : St → Prop} {rcC : St → Int → Int → Option St} {rcS : Int → Int → List Int → RsL} (hQ : QX tx len) (hV : HV tx len vr EC) (hE : ∀ S S', FT S S' → EC S → EC S') (hcl : ∀ S, EC S → S.F 1 5 = if cl = true then 1 else 0) {D : Int} (hR : HC tx len EC rcC rcS D) {S : St} {d pos : Int} {N W : List Int} (hS : RC tx len S pos W) (hEC : EC S) (d0 : 0 ≤ d) (d1 : d ≤ 14) (hD : D ≤ d + 1) : match sT tx cl vr rcS d pos N with
    | .inl e => BD S (g28b rcC S d) e len
    | .inr (p, E, _, _) => pos < p ∧ p ≤ len ∧ ∃ S', g28b rcC S d = some S' ∧ RC tx len S' p (W ++ E) ∧ FT S S' := by
  have a2 := hS.2.1
  have a5 := hS.2.2.2.2.1
  have a6 := hS.2.2.2.2.2.1
  have a8 := hS.2.2.2.2.2.2.2.1
  have l160 := hQ.2.1
  have hn := g29_t hQ hS (lo := 120) (hi := 122) (by decide) (by decide) (by decide)
  cases en : nmr tx 120 122 pos with
  | some a =>
    obtain ⟨n, p⟩ := a
    rw [en] at hn
    have np := nmr_p hQ a5 (by decide) en
    obtain ⟨S1, s1, s2, s3⟩ := hn
    have hv := hV S1 n pos p N W s2 (hE _ _ s3 hEC) (by omega) (by omega) a5 a6 (by omega)
    have e0 : g28b rcC S d = ob (g30 S1 n pos) (fun o64 => some o64) := by
      unfold g28b
      rw [s1]
      refine (ob_t rfl).trans ?_
      show gd (inR n) _ = _
      refine (gd_t (by first | exact ⟨by omega, by omega⟩ | exact ⟨by omega, by omega, by omega⟩ | exact ⟨by omega, by omega, by omega, by omega⟩ | omega | exact inR_to _ | assumption | decide)).trans ?_
      refine (if_neg (by show ¬ n = -1; omega)).trans ?_
      rw [a2]
    cases ev : vr N n with
    | some b =>
      obtain ⟨e, c, N'⟩ := b
      rw [ev] at hv
      rw [sT_v1 en ev]
      obtain ⟨S2, t1, t2, t3⟩ := hv
      refine ⟨by omega, by omega, S2, ?_, t2, s3.trans t3⟩
      rw [e0, t1]
      rfl
    | none =>
      rw [ev] at hv
      rw [sT_v0 en ev]
      obtain ⟨S2, t1, t2, t3⟩ := hv
      refine ⟨a5, a6, S2, ?_, t2, s3.trans t3⟩
      rw [e0, t1]
      rfl
  | none =>
    rw [en] at hn
    have hn : g29 S 120 122 = some (-1, S) := hn
    have e23 := g23_t hQ hS
    have q0 := hQ.r a5
    have ecl := hcl S hEC
    -- the symbol, as both kinds of reading give it
    have key : match syr tx cl pos with
        | .inl e => 0 ≤ e ∧ e ≤ len ∧ ∃ S1, FT S S1 ∧ S1.F 1 4 = e ∧ g28b rcC S d = ob (g25 S1 (S1.F 1 4)) (fun o => some o.2)
        | .inr (x, p) => ∃ S1, RC tx len S1 p W ∧ FT S S1 ∧ g28b rcC S d = ob (g26 S1 x) (fun o16 => ob (g23 o16) (fun o18 => gd (inR o18) (if o18 = 40 then gd (inR d) (if d < 14 then ob (rcC o16 (S1.F 1 12) (d + 1)) (fun o24 => some o24) else ob (g25 o16 (o16.F 1 4)) (fun o26 => some o26.2)) else some o16))) := by
      have hg : g28b rcC S d = if cl = true ∧ tx pos = 36 then ob (g31 S) (fun o28 => gd (inR o28.1) (if o28.1 = (-1) then ob (g25 o28.2 (o28.2.F 1 4)) (fun o32 => some o32.2) else ob (g26 o28.2 (32768 + (o28.1 * 256))) (fun o34 => ob (g23 o34) (fun o36 => gd (inR o36) (if o36 = 40 then gd (inR d) (if d < 14 then ob (rcC o34 (o28.2.F 1 12) (d + 1)) (fun o42 => some o42) else ob (g25 o34 (o34.F 1 4)) (fun o44 => some o44.2)) else some o34))))) else ob (g29 S 97 107) (fun o46 => gd (inR o46.1) (if o46.1 = (-1) then ob (g25 o46.2 (o46.2.F 1 4)) (fun o50 => some o50.2) else ob (g26 o46.2 (32768 + (o46.1 * 256))) (fun o52 => ob (g23 o52) (fun o54 => gd (inR o54) (if o54 = 40 then gd (inR d) (if d < 14 then ob (rcC o52 (o46.2.F 1 12) (d + 1)) (fun o60 => some o60) else ob (g25 o52 (o52.F 1 4)) (fun o62 => some o62.2)) else some o52))))) := by
        unfold g28b
        rw [hn]
        refine (ob_t rfl).trans ?_
        show gd (inR (-1)) _ = _
        refine (gd_t (by first | exact ⟨by omega, by omega⟩ | exact ⟨by omega, by omega, by omega⟩ | exact ⟨by omega, by omega, by omega, by omega⟩ | omega | exact inR_to _ | assumption | decide)).trans ?_
        refine (if_pos rfl).trans ?_
        show ob (g23 S) _ = _
        rw [e23]
        refine (ob_t rfl).trans ?_
        show gd (inR (tx pos)) _ = _
        refine (gd_t (by first | exact ⟨by omega, by omega⟩ | exact ⟨by omega, by omega, by omega⟩ | exact ⟨by omega, by omega, by omega, by omega⟩ | omega | exact inR_to _ | assumption | decide)).trans ?_
        by_cases h36 : tx pos = 36
        · refine (if_pos h36).trans ?_
          show (if S.F 1 5 = 0 then _ else _) = _
          rw [ecl]
          cases cl with
          | false => exact (if_pos (show (if false = true then (1 : Int) else 0) = 0 by decide)).trans (if_neg (fun h => absurd h.1 (by decide))).symm
          | true => exact (if_neg (show ¬ (if true = true then (1 : Int) else 0) = 0 by decide)).trans (if_pos ⟨rfl, h36⟩).symm
        · refine (if_neg h36).trans ?_
          rw [if_neg (fun h => h36 h.2)]
      unfold syr
      by_cases hc : cl = true ∧ tx pos = 36
      · rw [if_pos hc] at hg ⊢
        have h31 := g31_t hQ hS hc.2
        have pl := q0.2.2 (by omega)
        cases em : mdr tx pos with
        | none =>
          rw [em] at h31
          obtain ⟨S1, s1, s2, s3⟩ := h31
          refine ⟨by omega, by omega, S1, s3, s2.2.1, ?_⟩
          rw [hg, s1]
          rfl
        | some a =>
          obtain ⟨v, p⟩ := a
          rw [em] at h31
          obtain ⟨S1, s1, s2, s3⟩ := h31
          refine ⟨S1, s2, s3, ?_⟩
          have hv : 0 ≤ v ∧ v ≤ 99 := by
            unfold mdr at em
            have q1 := hQ.r (p := pos + 1) (by omega)
            have q2 := hQ.r (p := pos + 2) (by omega)
            by_cases h1 : 49 ≤ tx (pos + 1) ∧ tx (pos + 1) ≤ 57
            · rw [if_pos h1] at em
              by_cases h2 : 48 ≤ tx (pos + 2) ∧ tx (pos + 2) ≤ 57
              · rw [if_pos h2] at em
                cases em
                omega
              · rw [if_neg h2] at em
                cases em
                omega
            · rw [if_neg h1] at em
              cases em
          rw [hg, s1]
          refine (ob_t rfl).trans ?_
          show gd (inR (128 + v)) _ = _
          refine (gd_t (by first | exact ⟨by omega, by omega⟩ | exact ⟨by omega, by omega, by omega⟩ | exact ⟨by omega, by omega, by omega, by omega⟩ | omega | exact inR_to _ | assumption | decide)).trans ?_
          refine (if_neg (by show ¬ 128 + v = -1; omega)).trans ?_
          show ob (g26 S1 (32768 + (128 + v) * 256)) _ = _
          rw [show 32768 + (128 + v) * 256 = 65536 + v * 256 by omega]
      · rw [if_neg hc] at hg ⊢
        have h29 := g29_t hQ hS (lo := 97) (hi := 107) (by decide) (by decide) (by decide)
        cases em : nmr tx 97 107 pos with
        | none =>
          rw [em] at h29
          have h29 : g29 S 97 107 = some (-1, S) := h29
          refine ⟨a5, a6, S, FT.refl S, a2, ?_⟩
          rw [hg, h29]
          rfl
        | some a =>
          obtain ⟨n, p⟩ := a
          rw [em] at h29
          have np := nmr_p hQ a5 (by decide) em
          obtain ⟨S1, s1, s2, s3⟩ := h29
          refine ⟨S1, s2, s3, ?_⟩
          rw [hg, s1]
          refine (ob_t rfl).trans ?_
          show gd (inR n) _ = _
          refine (gd_t (by first | exact ⟨by omega, by omega⟩ | exact ⟨by omega, by omega, by omega⟩ | exact ⟨by omega, by omega, by omega, by omega⟩ | omega | exact inR_to _ | assumption | decide)).trans ?_
          refine (if_neg (by show ¬ n = -1; omega)).trans ?_
          rfl
    have sp := syr_p (cl := cl) hQ a5 a6
    cases es : syr tx cl pos with
    | inl e =>
      rw [es] at key
      rw [sT_e en es]
      obtain ⟨k1, k2, S1, k3, k4, k5⟩ := key
      have hg := g25_t S1 (p := S1.F 1 4) (inR_to _)
      refine ⟨k1, k2, S1.f 1 3 (S1.F 1 4), ?_, by rw [hg.2.1]; exact k4, k3.trans hg.2.2⟩
      rw [k5]
      rfl
    | inr b =>
      obtain ⟨x, p⟩ := b
      rw [es] at key sp
      rw [sT_s en es]
      obtain ⟨S1, k1, k2, k3⟩ := key
      obtain ⟨x1, x2, x3, x4, x5, x6⟩ := sp
      obtain ⟨S2, t1, t2, t3⟩ := g26_t hQ k1 (x := x) ⟨by omega, by omega⟩ (by omega)
      have e2 := g23_t hQ t2
      have q1 := hQ.r (p := p) (by omega)
      have f12 : S1.F 1 12 = W.length := k1.2.2.2.2.2.2.1
      have hEC2 := hE _ _ (k2.trans t3) hEC
      rw [t1] at k3
      have k3 : g28b rcC S d = if tx p = 40 then gd (inR d) (if d < 14 then ob (rcC S2 W.length (d + 1)) (fun o24 => some o24) else ob (g25 S2 (S2.F 1 4)) (fun o26 => some o26.2)) else some S2 := by
        rw [k3]
        refine (ob_t rfl).trans ?_
        rw [e2]
        refine (ob_t rfl).trans ?_
        show gd (inR (tx p)) _ = _
        refine (gd_t (by first | exact ⟨by omega, by omega⟩ | exact ⟨by omega, by omega, by omega⟩ | exact ⟨by omega, by omega, by omega, by omega⟩ | omega | exact inR_to _ | assumption | decide)).trans ?_
        rw [f12]
      by_cases h40 : tx p = 40
      · rw [if_pos h40] at k3 ⊢
        by_cases h14 : d < 14
        · rw [if_pos h14] at k3 ⊢
          have hrc := hR S2 (d + 1) p x N W hD (by omega) (by omega) t2 hEC2 (by omega) (by omega) h40
          cases er : rcS (d + 1) p N with
          | inl e =>
            rw [er] at hrc
            obtain ⟨r1, r2, S3, r3, r4, r5⟩ := hrc
            refine ⟨r1, r2, S3, ?_, r4, (k2.trans t3).trans r5⟩
            rw [k3, r3]
            refine (gd_t (by first | exact ⟨by omega, by omega⟩ | exact ⟨by omega, by omega, by omega⟩ | exact ⟨by omega, by omega, by omega, by omega⟩ | omega | exact inR_to _ | assumption | decide)).trans ?_
            rfl
          | inr b =>
            obtain ⟨p', k, E, C, N'⟩ := b
            rw [er] at hrc
            obtain ⟨r1, r2, r6, r7, S3, r3, r4, r5⟩ := hrc
            refine ⟨by omega, r2, S3, ?_, r4, (k2.trans t3).trans r5⟩
            rw [k3, r3]
            refine (gd_t (by first | exact ⟨by omega, by omega⟩ | exact ⟨by omega, by omega, by omega⟩ | exact ⟨by omega, by omega, by omega, by omega⟩ | omega | exact inR_to _ | assumption | decide)).trans ?_
            rfl
        · rw [if_neg h14] at k3 ⊢
          have hg := g25_t S2 (p := S2.F 1 4) (inR_to _)
          refine ⟨by omega, x2, S2.f 1 3 (S2.F 1 4), ?_, by rw [hg.2.1]; exact t2.2.1, (k2.trans t3).trans hg.2.2⟩
          rw [k3]
          refine (gd_t (by first | exact ⟨by omega, by omega⟩ | exact ⟨by omega, by omega, by omega⟩ | exact ⟨by omega, by omega, by omega, by omega⟩ | omega | exact inR_to _ | assumption | decide)).trans ?_
          rfl
      · rw [if_neg h40] at k3 ⊢
        exact ⟨by omega, x2, S2, k3, t2, k2.trans t3⟩
/-- an element changed -/
theorem RC.set {tx : Int → Int} {len pos x k : Int} {S : St} {W E : List Int} (hQ : QX tx len) (h : RC tx len S pos (W ++ x :: E)) (hx : inR (x + k)) : ∃ S', (if (W.length : Int) < 16 then S.a 12 W.length (S.A 12 W.length + k) else S) = S' ∧ RC tx len S' pos (W ++ (x + k) :: E) ∧ FT S S' := by
  obtain ⟨a1, a2, a3, a4, a5, a6, a7, a8, a9⟩ := h
  have el : (W ++ (x + k) :: E).length = (W ++ x :: E).length := by rw [List.length_append, List.length_append]; rfl
  have lw : ((W ++ x :: E).length : Int) = W.length + E.length + 1 := by
    rw [List.length_append]
    show ((W.length + (E.length + 1) : Nat) : Int) = _
    omega
  have ge : ∀ i : Int, 0 ≤ i → i ≠ W.length → gI (W ++ (x + k) :: E) i = gI (W ++ x :: E) i := fun i i0 hi => by
    by_cases hl : i < W.length
    · rw [gI_l hl i0, gI_l hl i0]
    · rw [gI_r (by omega), gI_r (by omega), gI_cp (by omega), gI_cp (by omega)]
  have gw : ∀ y : Int, gI (W ++ y :: E) W.length = y := fun y => by rw [gI_r (Int.le_refl _), Int.sub_self, gI_c0]
  by_cases h16 : (W.length : Int) < 16
  · rw [if_pos h16]
    refine ⟨_, rfl, ⟨a1, a2, a3, a4, a5, a6, by rw [el]; exact a7, by rw [el]; exact a8, fun i i0 i1 i2 => ?_⟩, a_FT _ _ _⟩
    have e1 : S.A 12 W.length = x := by rw [a9 _ (by omega) h16 (by omega), gw]
    rw [e1, aA_up hx]
    by_cases hi : i = W.length
    · rw [hi, upI_e, gw]
    · rw [upI_n hi, ge i i0 hi]
      exact a9 i i0 i1 (by rw [el] at i2; exact i2)
  · rw [if_neg h16]
    exact ⟨_, rfl, ⟨a1, a2, a3, a4, a5, a6, by rw [el]; exact a7, by rw [el]; exact a8, fun i i0 i1 i2 => by rw [ge i i0 (by omega)]; exact a9 i i0 i1 (by rw [el] at i2; exact i2)⟩, FT.refl _⟩
set_option maxHeartbeats 1000000 in
theorem g27L_t {tx : Int → Int} {len : Int} {cl : Bool} {vr : Vr} {EC : St → Prop} {rcC : St → Int → Int → Option St} {rcS : Int → Int → List Int → RsL} (hQ : QX tx len) (hV : HV tx len vr EC) (hE : ∀ S S', FT S S' → EC S → EC S') (hcl : ∀ S, EC S → S.F 1 5 = if cl = true then 1 else 0) {D : Int} (hR : HC tx len EC rcC rcS D) {d x : Int} {W : List Int} (d0 : 0 ≤ d) (d1 : d ≤ 14) (hD : D ≤ d + 1) (x0 : 0 ≤ x) (x1 : x < 1000000) : ∀ (m n : Nat) (pos k : Int) (S : St) (N Ea : List Int), RC tx len S pos (W ++ x :: Ea) → EC S → tx pos ≠ 0 → 161 < m + pos → m ≤ n → 1 ≤ k → k ≤ pos + 1 → match sL tx cl vr rcS d m pos k N with
    | .inl e => 0 ≤ e ∧ e ≤ len ∧ ∃ S', g27L2 rcC W.length d n k S = some (.inr S') ∧ S'.F 1 3 = e ∧ FT S S'
    | .inr (p, k', E, _, _) => pos < p ∧ p ≤ len ∧ 0 ≤ k' ∧ k' ≤ 160 ∧ ∃ S', g27L2 rcC W.length d n k S = some (.inr S') ∧ RC tx len S' p (W ++ (x + k') :: (Ea ++ E)) ∧ FT S S' := by
  intro m
  induction m with
  | zero =>
    intro n pos k S N Ea h _ _ hm
    have := h.2.2.2.2.2.1
    have := hQ.2.1
    omega
  | succ m ih =>
    intro n pos k S N Ea h hEC h0 hm hn k0 k1
    obtain ⟨n, rfl⟩ : ∃ q, n = q + 1 := ⟨n - 1, by omega⟩
    have l160 := hQ.2.1
    have a2 := h.2.1
    have a5 := h.2.2.2.2.1
    have a6 := h.2.2.2.2.2.1
    have pl := (hQ.r a5).2.2 h0
    have hS := h.adv hQ (show pos ≤ pos + 1 by omega) (by omega)
    have hEC1 := hE _ _ (f_FT S (k := 4) (by decide) (pos + 1)) hEC
    have ht := g28_t (d := d) (N := N) hQ hV hE hcl hR hS hEC1 d0 d1 hD
    have wl : (0 : Int) ≤ (W.length : Int) := by omega
    have wl2 : (W.length : Int) ≤ 1800 := by
      have := h.2.2.2.2.2.2.2.1
      rw [List.length_append] at this
      omega
    have e1 : g27L2 rcC W.length d (n + 1) k S = ob (g28b rcC (S.f 1 4 (pos + 1)) d) (fun o18 => if (o18.F 1 3) = (-1) then ob (g23 o18) (fun o21 => gd (inR o21) (if o21 = 41 then gd (inR (W.length : Int)) (if (W.length : Int) < 16 then gd (ixR (W.length : Int) 16) (some (.inr ((o18.f 1 4 ((o18.F 1 4) + 1)).a 12 W.length ((o18.A 12 W.length) + k)))) else some (.inr (o18.f 1 4 ((o18.F 1 4) + 1)))) else if o21 = 44 then g27L2 rcC W.length d n (k + 1) o18 else ob (g25 o18 (o18.F 1 4)) (fun o29 => some (.inr o29.2)))) else some (.inr o18)) := by
      rw [g27L2]
      refine (gd_t (by first | exact ⟨by omega, by omega⟩ | exact ⟨by omega, by omega, by omega⟩ | exact ⟨by omega, by omega, by omega, by omega⟩ | omega | exact inR_to _ | assumption | decide)).trans ?_
      rw [if_neg (by omega), a2]
    unfold sL
    cases es : sT tx cl vr rcS d (pos + 1) N with
    | inl e =>
      rw [es] at ht
      obtain ⟨t1, t2, S1, t3, t4, t5⟩ := ht
      refine ⟨t1, t2, S1, ?_, t4, (f_FT S (by decide) _).trans t5⟩
      rw [e1, t3]
      refine (ob_t rfl).trans ?_
      exact if_neg (by rw [t4]; omega)
    | inr b =>
      obtain ⟨p, E, C, N'⟩ := b
      rw [es] at ht
      obtain ⟨t1, t2, S1, t3, t4, t5⟩ := ht
      have fS1 : FT S S1 := (f_FT S (by decide) _).trans t5
      have e23 := g23_t hQ t4
      have qp := hQ.r (p := p) (by omega)
      have wE : (W ++ x :: Ea) ++ E = W ++ x :: (Ea ++ E) := by rw [List.append_assoc]; rfl
      rw [wE] at t4
      have e2 : g27L2 rcC W.length d (n + 1) k S = if tx p = 41 then gd (inR (W.length : Int)) (if (W.length : Int) < 16 then gd (ixR (W.length : Int) 16) (some (.inr ((S1.f 1 4 (p + 1)).a 12 W.length ((S1.A 12 W.length) + k)))) else some (.inr (S1.f 1 4 (p + 1)))) else if tx p = 44 then g27L2 rcC W.length d n (k + 1) S1 else ob (g25 S1 p) (fun o29 => some (.inr o29.2)) := by
        rw [e1, t3]
        refine (ob_t rfl).trans ?_
        refine (if_pos t4.2.2.1).trans ?_
        show ob (g23 S1) _ = _
        rw [e23]
        refine (ob_t rfl).trans ?_
        show gd (inR (tx p)) _ = _
        refine (gd_t (by first | exact ⟨by omega, by omega⟩ | exact ⟨by omega, by omega, by omega⟩ | exact ⟨by omega, by omega, by omega, by omega⟩ | omega | exact inR_to _ | assumption | decide)).trans ?_
        rw [t4.2.1]
      show match (if tx p = 41 then .inr (p + 1, k, E, C, N') else if tx p = 44 then (match sL tx cl vr rcS d m p (k + 1) N' with
        | .inl e => .inl e
        | .inr (p', k', E', C', N2) => .inr (p', k', E ++ E', C ++ C', N2)) else .inl p : RsL) with
        | .inl e => 0 ≤ e ∧ e ≤ len ∧ ∃ S', g27L2 rcC W.length d (n + 1) k S = some (.inr S') ∧ S'.F 1 3 = e ∧ FT S S'
        | .inr (p, k', E, _, _) => pos < p ∧ p ≤ len ∧ 0 ≤ k' ∧ k' ≤ 160 ∧ ∃ S', g27L2 rcC W.length d (n + 1) k S = some (.inr S') ∧ RC tx len S' p (W ++ (x + k') :: (Ea ++ E)) ∧ FT S S'
      by_cases h41 : tx p = 41
      · rw [if_pos h41] at e2 ⊢
        have pl2 := qp.2.2 (by omega)
        have hS2 := t4.adv hQ (show p ≤ p + 1 by omega) (by omega)
        obtain ⟨S2, z1, z2, z3⟩ := hS2.set (k := k) hQ ⟨by omega, by omega⟩
        refine ⟨by omega, by omega, by omega, by omega, S2, ?_, z2, (fS1.trans (f_FT S1 (by decide) _)).trans z3⟩
        rw [e2, ← z1]
        refine (gd_t (by first | exact ⟨by omega, by omega⟩ | exact ⟨by omega, by omega, by omega⟩ | exact ⟨by omega, by omega, by omega, by omega⟩ | omega | exact inR_to _ | assumption | decide)).trans ?_
        by_cases h16 : (W.length : Int) < 16
        · rw [if_pos h16, if_pos h16]
          refine (gd_t (by first | exact ⟨by omega, by omega⟩ | exact ⟨by omega, by omega, by omega⟩ | exact ⟨by omega, by omega, by omega, by omega⟩ | omega | exact inR_to _ | assumption | decide)).trans ?_
          rfl
        · rw [if_neg h16, if_neg h16]
      · rw [if_neg h41] at e2 ⊢
        by_cases h44 : tx p = 44
        · rw [if_pos h44] at e2 ⊢
          have hr := ih n p (k + 1) S1 N' (Ea ++ E) t4 (hE _ _ fS1 hEC) (by omega) (by omega) (by omega) (by omega) (by omega)
          cases er : sL tx cl vr rcS d m p (k + 1) N' with
          | inl e =>
            rw [er] at hr
            obtain ⟨r1, r2, S2, r3, r4, r5⟩ := hr
            exact ⟨r1, r2, S2, e2.trans r3, r4, fS1.trans r5⟩
          | inr b =>
            obtain ⟨p', k', E', C', N2⟩ := b
            rw [er] at hr
            obtain ⟨r1, r2, r6, r7, S2, r3, r4, r5⟩ := hr
            refine ⟨by omega, r2, r6, r7, S2, e2.trans r3, ?_, fS1.trans r5⟩
            rw [List.append_assoc] at r4
            exact r4
        · rw [if_neg h44] at e2 ⊢
          have hg := g25_t S1 (p := p) ⟨by omega, by omega⟩
          refine ⟨by omega, t2, S1.f 1 3 p, ?_, hg.2.1, fS1.trans hg.2.2⟩
          rw [e2]
          rfl
theorem g27_t {tx : Int → Int} {len : Int} {cl : Bool} {vr : Vr} {EC : St → Prop} (hQ : QX tx len) (hV : HV tx len vr EC) (hE : ∀ S S', FT S S' → EC S → EC S') (hcl : ∀ S, EC S → S.F 1 5 = if cl = true then 1 else 0) : ∀ (f g : Nat), f ≤ g → HC tx len EC (g27 g) (sB tx cl vr f) (15 - f) := by
  intro f
  induction f with
  | zero => intro g _ S d pos x N W hD d0 d1; omega
  | succ f ih =>
    intro g hg S d pos x N W hD d0 d1 hS hEC x0 x1 h40
    obtain ⟨g, rfl⟩ : ∃ q, g = q + 1 := ⟨g - 1, by omega⟩
    have a5 := hS.2.2.2.2.1
    have h := g27L_t (d := d) (x := x) (W := W) hQ hV hE hcl (ih g (by omega)) d0 d1 (by omega) x0 x1 200 FU pos 1 S N [] hS hEC (by omega) (by omega) (Nat.le_of_lt (FU_gt (by decide))) (by omega) (by omega)
    show match sL tx cl vr (sB tx cl vr f) d 200 pos 1 N with
      | .inl e => BD S (g27 (g + 1) S W.length d) e len
      | .inr (p, k, E, _, _) => pos < p ∧ p ≤ len ∧ 0 ≤ k ∧ k ≤ 160 ∧ ∃ S', g27 (g + 1) S W.length d = some S' ∧ RC tx len S' p (W ++ (x + k) :: E) ∧ FT S S'
    have e27 : g27 (g + 1) S W.length d = obr (g27L2 (g27 g) W.length d FU 1 S) (fun o31 => some o31) := rfl
    cases er : sL tx cl vr (sB tx cl vr f) d 200 pos 1 N with
    | inl e =>
      rw [er] at h
      obtain ⟨r1, r2, S2, r3, r4, r5⟩ := h
      refine ⟨r1, r2, S2, ?_, r4, r5⟩
      rw [e27, r3]
      rfl
    | inr b =>
      obtain ⟨p', k', E', C', N2⟩ := b
      rw [er] at h
      obtain ⟨r1, r2, r6, r7, S2, r3, r4, r5⟩ := h
      refine ⟨r1, r2, r6, r7, S2, ?_, r4, r5⟩
      rw [e27, r3]
      rfl
