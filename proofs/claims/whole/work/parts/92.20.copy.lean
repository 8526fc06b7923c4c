/-! a copy of the draft -/
theorem gN_t {α : Type} {S : St} {c k : Nat} {x : Option α} (h : S.cl c = some (.nw k)) (hc : 72 ≤ c) : gN S c k x = x := by
  unfold gN
  rw [h]
  exact if_pos ⟨rfl, hc⟩
theorem ap_g {t s : List Cl} {i : Nat} : (t ++ s)[t.length + i]? = s[i]? := by
  rw [List.getElem?_append_right (by omega), show t.length + i - t.length = i by omega]
theorem ap_s {t s : List Cl} {i : Nat} {x : Cl} : (t ++ s).set (t.length + i) x = t ++ s.set i x := by
  rw [List.set_append_right _ _ (by omega), show t.length + i - t.length = i by omega]
/-- the state with these cells behind -/
def St.w (S : St) (l : List Cl) (n : Nat) : St := St.mk S.F0 S.A0 S.R (S.tl ++ l) n S.O
theorem w_cl {S : St} {l : List Cl} {n i : Nat} : (S.w l n).cl (S.top + i) = l[i]? := by
  rw [cl_tl (by unfold St.top; omega)]
  show (S.tl ++ l)[S.top + i - 72]? = _
  rw [show S.top + i - 72 = S.tl.length + i by unfold St.top; omega]
  exact ap_g
theorem w_t {S : St} {l : List Cl} {n i : Nat} {x : Cl} : (S.w l n).t (S.top + i) x = S.w (l.set i x) n := by
  unfold St.w St.t
  show St.mk S.F0 S.A0 S.R ((S.tl ++ l).set (S.top + i - 72) x) n S.O = _
  rw [show S.top + i - 72 = S.tl.length + i by unfold St.top; omega, ap_s]
theorem w_c5 {S : St} {n m : Int} : (S.nw 5 4).c5 S.top n m = S.w [.ob 5 [S.top + 1, S.top + 2] [0, 0], .ar n.toNat (fun _ => 0), .ar (m + 1).toNat (fun _ => 0)] (S.ns + 4 + n.toNat + (m + 1).toNat) := by
  have et : (S.nw 5 4).top = S.top + 1 := by
    show 72 + (S.tl ++ [Cl.nw 5]).length = _
    rw [List.length_append]
    unfold St.top
    rfl
  unfold St.c5
  rw [et]
  show St.mk S.F0 S.A0 S.R ((S.tl ++ [Cl.nw 5]).set (S.top - 72) (.ob 5 [S.top + 1, S.top + 1 + 1] [0, 0]) ++ [.ar n.toNat (fun _ => 0), .ar (m + 1).toNat (fun _ => 0)]) _ S.O = _
  rw [show S.top - 72 = S.tl.length + 0 by unfold St.top; omega, ap_s, List.append_assoc]
  rfl
theorem nw_cl {S : St} {k n : Nat} : (S.nw k n).cl S.top = some (.nw k) := by
  rw [cl_tl (by unfold St.top; omega)]
  show (S.tl ++ [Cl.nw k])[S.top - 72]? = _
  rw [show S.top - 72 = S.tl.length + 0 by unfold St.top; omega, ap_g]
  rfl
theorem copy_t {S : St} {n : Int} {o u : Int → Int} (h : KD S n o u) (hW : WK n o u) : ∃ (f g : Int → Int32), g58_15 S = some (S.top, S.w [.ob 5 [S.top + 1, S.top + 2] [eI n, eI (o n)], .ar (o n).toNat f, .ar (n + 1).toNat g] (S.ns + 4 + (o n).toNat + (n + 1).toNat)) ∧ (∀ k : Int, 0 ≤ k → k ≤ n → (g k).toInt = o k) ∧ (∀ p : Int, 0 ≤ p → p < o n → (f p).toInt = u p) := by
  obtain ⟨h1, h2, h3, h4⟩ := h
  obtain ⟨w1, w2, w3, w4, w5, w6, w7⟩ := hW
  have wn := w6 n w1 (by omega)
  have top0 : 72 ≤ S.top := by unfold St.top; omega
  have sg : ∀ (l : List Cl) (k : Nat), (S.w l k).cl 17 = some (.ar 80 (S.A0 17)) := fun _ _ => rfl
  have sh : ∀ (l : List Cl) (k : Nat), (S.w l k).cl 18 = some (.ar 5 (S.A0 18)) := fun _ _ => rfl
  refine ⟨cpI (fun i => (S.A0 17 i).toInt) (fun i => ((fun _ => 0 : Int → Int32) i).toInt) 0 0 (o n), cpI (fun i => (S.A0 18 i).toInt) (fun i => ((fun _ => 0 : Int → Int32) i).toInt) 0 0 (n + 1), ?_, ?_, ?_⟩
  · unfold g58_15
    rw [h1, h2]
    refine (gN_t nw_cl top0).trans ?_
    refine (gd_t (by first | exact ⟨by omega, by omega⟩ | exact ⟨by omega, by omega, by omega⟩ | exact ⟨by omega, by omega, by omega, by omega⟩ | omega | exact inR_to _ | assumption | decide)).trans ?_
    rw [w_c5]
    refine (gC_t (show (S.w _ _).cl S.top = some (.ob 5 [S.top + 1, S.top + 2] [0, 0]) from w_cl (i := 0))).trans ?_
    refine (gA_t (sg _ _)).trans ?_
    refine (gA_t (show (S.w _ _).cl (S.top + 1) = some (.ar (o n).toNat (fun _ => 0)) from w_cl (i := 1))).trans ?_
    refine (gd_t (by omega)).trans ?_
    refine (gd_t ⟨by omega, by omega, by omega, by omega, by omega, by omega, by omega⟩).trans ?_
    rw [w_t (i := 1)]
    refine (gC_t (show (S.w _ _).cl S.top = some (.ob 5 [S.top + 1, S.top + 2] [0, 0]) from w_cl (i := 0))).trans ?_
    refine (gA_t (sh _ _)).trans ?_
    refine (gA_t (show (S.w _ _).cl (S.top + 2) = some (.ar (n + 1).toNat (fun _ => 0)) from w_cl (i := 2))).trans ?_
    refine (gd_t (by omega)).trans ?_
    refine (gd_t ⟨by omega, by omega, by omega, by omega, by omega, by omega, by omega⟩).trans ?_
    rw [w_t (i := 2)]
    refine (gC_t (show (S.w _ _).cl S.top = some (.ob 5 [S.top + 1, S.top + 2] [0, 0]) from w_cl (i := 0))).trans ?_
    refine (gd_t top0).trans ?_
    have e0 : ∀ (l : List Cl) (k : Nat) (x : Cl), (S.w l k).t S.top x = S.w (l.set 0 x) k := fun l k x => w_t (i := 0)
    rw [e0]
    refine (gC_t (show (S.w _ _).cl S.top = some (.ob 5 [S.top + 1, S.top + 2] [eI n, eI (Int32.toInt 0)]) from w_cl (i := 0))).trans ?_
    rw [e0]
    have e1 : eI (eI n).toInt = eI n := eI_of _
    rw [e1]
    rfl
  · intro k k0 k1
    unfold cpI
    rw [if_pos ⟨by omega, by omega⟩, eI_to (inR_to _), show k - 0 + 0 = k by omega]
    exact h3 k k0 k1
  · intro p p0 p1
    unfold cpI
    rw [if_pos ⟨by omega, by omega⟩, eI_to (inR_to _), show p - 0 + 0 = p by omega]
    exact h4 p p0 p1
