/-! laying literals on literals: the places of one clause in the codes of the first object -/
theorem St.A_R (S : St) (c : Nat) (i : Int) : inR (S.A c i) := inR_to _
theorem St.F_R (S : St) (c k : Nat) : inR (S.F c k) := inR_to _
theorem a_A {S : St} {c d : Nat} {i j x : Int} (hx : inR x) : (S.a c i x).A d j = if d = c then (if j = i then x else S.A d j) else S.A d j := by
  by_cases hd : d = c
  · rw [if_pos hd]
    show (((if d = c then upI (S.A0 d) i (eI x) else S.A0 d) j)).toInt = _
    rw [if_pos hd]
    unfold upI
    by_cases hj : j = i
    · rw [if_pos hj, if_pos hj, eI_to hx]
    · rw [if_neg hj, if_neg hj]; rfl
  · rw [if_neg hd]
    show (((if d = c then upI (S.A0 d) i (eI x) else S.A0 d) j)).toInt = _
    rw [if_neg hd]
    rfl
theorem f_F {S : St} {c d k i : Nat} {x : Int} (hx : inR x) : (S.f c k x).F d i = if d = c then (if i = k then x else S.F d i) else S.F d i := by
  by_cases hd : d = c
  · rw [if_pos hd]
    show (((if d = c then (fun b => if b = k then eI x else S.F0 d b) else S.F0 d) i)).toInt = _
    rw [if_pos hd]
    by_cases hj : i = k
    · rw [if_pos hj, if_pos hj, eI_to hx]
    · rw [if_neg hj, if_neg hj]; rfl
  · rw [if_neg hd]
    show (((if d = c then (fun b => if b = k then eI x else S.F0 d b) else S.F0 d) i)).toInt = _
    rw [if_neg hd]
    rfl
theorem f_A (S : St) (c k : Nat) (x : Int) : (S.f c k x).A = S.A := rfl
theorem a_F (S : St) (c : Nat) (i x : Int) : (S.a c i x).F = S.F := rfl
theorem f_tl (S : St) (c k : Nat) (x : Int) : (S.f c k x).tl = S.tl := rfl
theorem a_tl (S : St) (c : Nat) (i x : Int) : (S.a c i x).tl = S.tl := rfl
/-- the states differ at these fixed cells alone -/
def Fr (X : List Nat) (S T : St) : Prop := T.tl = S.tl ∧ T.ns = S.ns ∧ T.O = S.O ∧ ∀ c, c ∉ X → T.F0 c = S.F0 c ∧ T.A0 c = S.A0 c ∧ T.R c = S.R c
theorem Fr.refl (X : List Nat) (S : St) : Fr X S S := ⟨rfl, rfl, rfl, fun _ _ => ⟨rfl, rfl, rfl⟩⟩
theorem Fr.trans {X : List Nat} {S T U : St} (h : Fr X S T) (g : Fr X T U) : Fr X S U := ⟨g.1.trans h.1, g.2.1.trans h.2.1, g.2.2.1.trans h.2.2.1, fun c hc => ⟨(g.2.2.2 c hc).1.trans (h.2.2.2 c hc).1, (g.2.2.2 c hc).2.1.trans (h.2.2.2 c hc).2.1, (g.2.2.2 c hc).2.2.trans (h.2.2.2 c hc).2.2⟩⟩
theorem Fr.mono {X Y : List Nat} {S T : St} (h : Fr X S T) (hs : ∀ c, c ∈ X → c ∈ Y) : Fr Y S T := ⟨h.1, h.2.1, h.2.2.1, fun c hc => h.2.2.2 c (fun e => hc (hs c e))⟩
theorem Fr.a {X : List Nat} {S : St} {c : Nat} {i x : Int} (h : c ∈ X) : Fr X S (S.a c i x) := by
  refine ⟨rfl, rfl, rfl, fun d hd => ⟨rfl, ?_, rfl⟩⟩
  show (if d = c then upI (S.A0 d) i (eI x) else S.A0 d) = S.A0 d
  rw [if_neg (by intro e; subst e; exact hd h)]
theorem Fr.f {X : List Nat} {S : St} {c k : Nat} {x : Int} (h : c ∈ X) : Fr X S (S.f c k x) := by
  refine ⟨rfl, rfl, rfl, fun d hd => ⟨?_, rfl, rfl⟩⟩
  show (if d = c then (fun b => if b = k then eI x else S.F0 d b) else S.F0 d) = S.F0 d
  rw [if_neg (by intro e; subst e; exact hd h)]
theorem Fr.A {X : List Nat} {S T : St} (h : Fr X S T) {c : Nat} (hc : c ∉ X) : T.A c = S.A c := by
  funext i
  show (T.A0 c i).toInt = (S.A0 c i).toInt
  rw [(h.2.2.2 c hc).2.1]
theorem Fr.F {X : List Nat} {S T : St} (h : Fr X S T) {c : Nat} (hc : c ∉ X) : T.F c = S.F c := by
  funext i
  show (T.F0 c i).toInt = (S.F0 c i).toInt
  rw [(h.2.2.2 c hc).1]
/-- what is read in general is the same, if no cell of those is touched -/
theorem Fr.cl {X : List Nat} {S T : St} (h : Fr X S T) (hX : ∀ c ∈ X, c ∉ [9, 12, 17, 18, 21, 32, 33, 38, 46, 16, 31]) (c : Nat) : T.cl c = S.cl c := by
  have hA : ∀ d, d ∈ [9, 12, 17, 18, 21, 32, 33, 38, 46, 16, 31] → T.A0 d = S.A0 d := fun d hd => (h.2.2.2 d (fun e => hX d e hd)).2.1
  have hF : ∀ d, d ∈ [9, 12, 17, 18, 21, 32, 33, 38, 46, 16, 31] → T.F0 d = S.F0 d := fun d hd => (h.2.2.2 d (fun e => hX d e hd)).1
  unfold St.cl
  rw [h.1, hA 9 (by decide), hA 12 (by decide), hA 17 (by decide), hA 18 (by decide), hA 21 (by decide), hA 32 (by decide), hA 33 (by decide), hA 38 (by decide), hA 46 (by decide), hF 16 (by decide), hF 31 (by decide)]
theorem g47L21_t {S : St} {b N : Nat} {f : Int → Int32} {x y n : Int} (hb : S.cl b = some (.ar N f)) (hN : N < 1048576) (hx : 0 ≤ x) (hy : 0 ≤ y) (hxn : x + n ≤ N) (hyn : y + n ≤ N) : ∀ (k m : Nat) (i : Int), 0 ≤ i → i + k = n → k < m → (∀ j : Int, 0 ≤ j → j < i → f (x + j) = f (y + j)) → ((∀ j : Int, 0 ≤ j → j < n → f (x + j) = f (y + j)) → g47L21 S b x y n m i = some (.inl ())) ∧ ((¬ ∀ j : Int, 0 ≤ j → j < n → f (x + j) = f (y + j)) → g47L21 S b x y n m i = some (.inr 0)) := by
  intro k
  induction k with
  | zero =>
    intro m i hi hk hm he
    obtain ⟨m, rfl⟩ : ∃ k, m = k + 1 := ⟨m - 1, by omega⟩
    refine ⟨fun _ => ?_, fun h => absurd (fun j h1 h2 => he j h1 (by omega)) h⟩
    unfold g47L21
    refine (gd_t (by first | exact ⟨by omega, by omega⟩ | exact ⟨by omega, by omega, by omega⟩ | exact ⟨by omega, by omega, by omega, by omega⟩ | omega | exact inR_to _ | assumption | decide)).trans ?_; refine (gd_t (by first | exact ⟨by omega, by omega⟩ | exact ⟨by omega, by omega, by omega⟩ | exact ⟨by omega, by omega, by omega, by omega⟩ | omega | exact inR_to _ | assumption | decide)).trans ?_
    exact if_neg (by omega)
  | succ k ih =>
    intro m i hi hk hm he
    obtain ⟨m, rfl⟩ : ∃ k, m = k + 1 := ⟨m - 1, by omega⟩
    have e : g47L21 S b x y n (m + 1) i = if (f (x + i)).toInt = (f (y + i)).toInt then g47L21 S b x y n m (i + 1) else some (.inr 0) := by
      conv => lhs; unfold g47L21
      refine (gd_t (by first | exact ⟨by omega, by omega⟩ | exact ⟨by omega, by omega, by omega⟩ | exact ⟨by omega, by omega, by omega, by omega⟩ | omega | exact inR_to _ | assumption | decide)).trans ?_; refine (gd_t (by first | exact ⟨by omega, by omega⟩ | exact ⟨by omega, by omega, by omega⟩ | exact ⟨by omega, by omega, by omega, by omega⟩ | omega | exact inR_to _ | assumption | decide)).trans ?_
      rw [if_pos (by omega)]
      refine (gA_t hb).trans ?_
      refine (gd_t (by first | exact ⟨by omega, by omega⟩ | exact ⟨by omega, by omega, by omega⟩ | exact ⟨by omega, by omega, by omega, by omega⟩ | omega | exact inR_to _ | assumption | decide)).trans ?_; refine (gd_t (by first | exact ⟨by omega, by omega⟩ | exact ⟨by omega, by omega, by omega⟩ | exact ⟨by omega, by omega, by omega, by omega⟩ | omega | exact inR_to _ | assumption | decide)).trans ?_
      rfl
    rw [e]
    by_cases h0 : f (x + i) = f (y + i)
    · rw [if_pos (congrArg Int32.toInt h0)]
      refine ih m (i + 1) (by omega) (by omega) (by omega) (fun j h1 h2 => ?_)
      by_cases hj : j = i
      · rw [hj]; exact h0
      · exact he j h1 (by omega)
    · rw [if_neg (fun h => h0 (Int32.toInt_inj.mp h))]
      exact ⟨fun h => absurd (h i hi (by omega)) h0, fun _ => rfl⟩
theorem g47_t {S : St} {b N : Nat} {f : Int → Int32} {x y n : Int} (hb : S.cl b = some (.ar N f)) (hN : N < 1048576) (hx : 0 ≤ x) (hy : 0 ≤ y) (hn : 0 ≤ n) (hx2 : x < 1048576) (hy2 : y < 1048576) (hn2 : n < 1048576) : ((x + n ≤ N ∧ y + n ≤ N ∧ ∀ j : Int, 0 ≤ j → j < n → f (x + j) = f (y + j)) → g47 S b x y n = some 1) ∧ ((¬ (x + n ≤ N ∧ y + n ≤ N ∧ ∀ j : Int, 0 ≤ j → j < n → f (x + j) = f (y + j))) → g47 S b x y n = some 0) := by
  obtain ⟨m, hm⟩ := FU_ge (n := n.toNat) (by omega)
  by_cases h1 : x + n ≤ N
  · by_cases h2 : y + n ≤ N
    · have e : g47 S b x y n = obr (g47L21 S b x y n FU 0) (fun _ => some 1) := by
        unfold g47
        refine (gA_t hb).trans ?_
        refine (gd_t (by first | exact ⟨by omega, by omega⟩ | exact ⟨by omega, by omega, by omega⟩ | exact ⟨by omega, by omega, by omega, by omega⟩ | omega | exact inR_to _ | assumption | decide)).trans ?_; refine (gd_t (by first | exact ⟨by omega, by omega⟩ | exact ⟨by omega, by omega, by omega⟩ | exact ⟨by omega, by omega, by omega, by omega⟩ | omega | exact inR_to _ | assumption | decide)).trans ?_
        rw [if_neg (by omega)]
        refine (gd_t (by first | exact ⟨by omega, by omega⟩ | exact ⟨by omega, by omega, by omega⟩ | exact ⟨by omega, by omega, by omega, by omega⟩ | omega | exact inR_to _ | assumption | decide)).trans ?_
        rw [if_neg (by omega)]
      have h := g47L21_t (S := S) hb hN hx hy h1 h2 n.toNat FU 0 (by omega) (by omega) (by omega) (fun j h3 h4 => absurd h4 (by omega))
      rw [e]
      exact ⟨fun g => by rw [h.1 g.2.2]; rfl, fun g => by rw [h.2 (fun g2 => g ⟨h1, h2, g2⟩)]; rfl⟩
    · refine ⟨fun h => absurd h.2.1 h2, fun _ => ?_⟩
      unfold g47
      refine (gA_t hb).trans ?_
      refine (gd_t (by first | exact ⟨by omega, by omega⟩ | exact ⟨by omega, by omega, by omega⟩ | exact ⟨by omega, by omega, by omega, by omega⟩ | omega | exact inR_to _ | assumption | decide)).trans ?_; refine (gd_t (by first | exact ⟨by omega, by omega⟩ | exact ⟨by omega, by omega, by omega⟩ | exact ⟨by omega, by omega, by omega, by omega⟩ | omega | exact inR_to _ | assumption | decide)).trans ?_
      rw [if_neg (by omega)]
      refine (gd_t (by first | exact ⟨by omega, by omega⟩ | exact ⟨by omega, by omega, by omega⟩ | exact ⟨by omega, by omega, by omega, by omega⟩ | omega | exact inR_to _ | assumption | decide)).trans ?_
      exact if_pos (by omega)
  · refine ⟨fun h => absurd h.1 h1, fun _ => ?_⟩
    unfold g47
    refine (gA_t hb).trans ?_
    refine (gd_t (by first | exact ⟨by omega, by omega⟩ | exact ⟨by omega, by omega, by omega⟩ | exact ⟨by omega, by omega, by omega, by omega⟩ | omega | exact inR_to _ | assumption | decide)).trans ?_; refine (gd_t (by first | exact ⟨by omega, by omega⟩ | exact ⟨by omega, by omega, by omega⟩ | exact ⟨by omega, by omega, by omega, by omega⟩ | omega | exact inR_to _ | assumption | decide)).trans ?_
    exact if_pos (by omega)
