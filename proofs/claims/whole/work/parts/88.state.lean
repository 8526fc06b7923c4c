/-! the state of the two objects: numbers in fields (cell, slot), arrays (cell), references (cell), and the cells behind the fixed ones -/
def Cl : Type := (Nat × List Nat × List Int32) ⊕ (Nat × (Int → Int32)) ⊕ Nat ⊕ Unit
def Cl.ob (k : Nat) (r : List Nat) (v : List Int32) : Cl := .inl (k, r, v)
def Cl.ar (N : Nat) (f : Int → Int32) : Cl := .inr (.inl (N, f))
def Cl.nw (k : Nat) : Cl := .inr (.inr (.inl k))
def Cl.ho : Cl := .inr (.inr (.inr ()))
def St : Type := (Nat → Nat → Int32) × (Nat → Int → Int32) × (Nat → Int → Option Nat) × List Cl × Nat × Int64
def St.F0 (S : St) : Nat → Nat → Int32 := S.1
def St.A0 (S : St) : Nat → Int → Int32 := S.2.1
def St.R (S : St) : Nat → Int → Option Nat := S.2.2.1
def St.tl (S : St) : List Cl := S.2.2.2.1
def St.ns (S : St) : Nat := S.2.2.2.2.1
def St.O (S : St) : Int64 := S.2.2.2.2.2
def St.mk (F : Nat → Nat → Int32) (A : Nat → Int → Int32) (R : Nat → Int → Option Nat) (tl : List Cl) (ns : Nat) (O : Int64) : St := (F, A, R, tl, ns, O)
def upI {α : Type} (g : Int → α) (i : Int) (x : α) : Int → α := fun j => if j = i then x else g j
def St.F (S : St) (c k : Nat) : Int := (S.F0 c k).toInt
def St.A (S : St) (c : Nat) (i : Int) : Int := (S.A0 c i).toInt
def St.f (S : St) (c k : Nat) (x : Int) : St := St.mk (fun a => if a = c then (fun b => if b = k then eI x else S.F0 a b) else S.F0 a) S.A0 S.R S.tl S.ns S.O
def St.a (S : St) (c : Nat) (i x : Int) : St := St.mk S.F0 (fun a => if a = c then upI (S.A0 a) i (eI x) else S.A0 a) S.R S.tl S.ns S.O
def St.r (S : St) (c : Nat) (i : Int) (x : Option Nat) : St := St.mk S.F0 S.A0 (fun a => if a = c then upI (S.R a) i x else S.R a) S.tl S.ns S.O
def St.t (S : St) (c : Nat) (x : Cl) : St := St.mk S.F0 S.A0 S.R (S.tl.set (c - 72) x) S.ns S.O
def St.ho (S : St) : St := St.mk S.F0 S.A0 S.R (S.tl ++ [.ho]) (S.ns + 6) S.O
/-- a new object of class k with n slots -/
def St.nw (S : St) (k n : Nat) : St := St.mk S.F0 S.A0 S.R (S.tl ++ [.nw k]) (S.ns + n) S.O
/-- where the next new cell will stand -/
def St.top (S : St) : Nat := 72 + S.tl.length
/-- the new clause at a has got its arrays -/
def St.c5 (S : St) (a : Nat) (n m : Int) : St := St.mk S.F0 S.A0 S.R (S.tl.set (a - 72) (.ob 5 [S.top, S.top + 1] [0, 0]) ++ [.ar n.toNat (fun _ => 0), .ar (m + 1).toNat (fun _ => 0)]) (S.ns + n.toNat + (m + 1).toNat) S.O
/-- what a place holds, where it may be read in general -/
def St.cl (S : St) (c : Nat) : Option Cl :=
  if 72 ≤ c then S.tl[c - 72]?
  else if c = 9 then some (.ar 1280 (S.A0 9))
  else if c = 12 then some (.ar 16 (S.A0 12))
  else if c = 17 then some (.ar 80 (S.A0 17))
  else if c = 18 then some (.ar 5 (S.A0 18))
  else if c = 21 then some (.ar 32 (S.A0 21))
  else if c = 32 then some (.ar 80 (S.A0 32))
  else if c = 33 then some (.ar 5 (S.A0 33))
  else if c = 38 then some (.ar 8032 (S.A0 38))
  else if c = 46 then some (.ar 1024 (S.A0 46))
  else if c = 16 then some (.ob 5 [17, 18] [S.F0 16 2, S.F0 16 3])
  else if c = 31 then some (.ob 5 [32, 33] [S.F0 31 2, S.F0 31 3])
  else none
def gC {α : Type} (S : St) (c : Nat) (k : Nat → Nat → Int → Int → Option α) : Option α := match S.cl c with
  | some (.inl (5, [b, s], [n, w])) => k b s n.toInt w.toInt
  | _ => none
def gK {α : Type} (S : St) (c : Nat) (k : Nat → Int → Int → Int → Int → Int → Int → Option α) : Option α := match S.cl c with
  | some (.inl (9, [b], [x0, x1, x2, x3, x4, x5])) => k b x0.toInt x1.toInt x2.toInt x3.toInt x4.toInt x5.toInt
  | _ => none
def gA {α : Type} (S : St) (c : Nat) (k : Nat → (Int → Int) → Option α) : Option α := match S.cl c with
  | some (.inr (.inl (N, f))) => k N (fun i => (f i).toInt)
  | _ => none
/-- a new object of class k that has got nothing yet -/
def gN {α : Type} (S : St) (c k : Nat) (x : Option α) : Option α := match S.cl c with
  | some (.inr (.inr (.inl k'))) => if k' = k ∧ 72 ≤ c then x else none
  | _ => none
theorem gC_t {α : Type} {S : St} {c b s : Nat} {n w : Int32} {k : Nat → Nat → Int → Int → Option α} (h : S.cl c = some (.ob 5 [b, s] [n, w])) : gC S c k = k b s n.toInt w.toInt := by unfold gC; rw [h]; rfl
theorem gK_t {α : Type} {S : St} {c b : Nat} {x0 x1 x2 x3 x4 x5 : Int32} {k : Nat → Int → Int → Int → Int → Int → Int → Option α} (h : S.cl c = some (.ob 9 [b] [x0, x1, x2, x3, x4, x5])) : gK S c k = k b x0.toInt x1.toInt x2.toInt x3.toInt x4.toInt x5.toInt := by unfold gK; rw [h]; rfl
theorem gA_t {α : Type} {S : St} {c N : Nat} {f : Int → Int32} {k : Nat → (Int → Int) → Option α} (h : S.cl c = some (.ar N f)) : gA S c k = k N (fun i => (f i).toInt) := by unfold gA; rw [h]; rfl
theorem gC_e {α : Type} {S : St} {c : Nat} {k : Nat → Nat → Int → Int → Option α} {o : α} (h : gC S c k = some o) : ∃ (b s : Nat) (n w : Int32), S.cl c = some (.ob 5 [b, s] [n, w]) ∧ k b s n.toInt w.toInt = some o := by
  unfold gC at h
  split at h
  · next b s n w e => exact ⟨b, s, n, w, e, h⟩
  · cases h
theorem gK_e {α : Type} {S : St} {c : Nat} {k : Nat → Int → Int → Int → Int → Int → Int → Option α} {o : α} (h : gK S c k = some o) : ∃ (b : Nat) (x0 x1 x2 x3 x4 x5 : Int32), S.cl c = some (.ob 9 [b] [x0, x1, x2, x3, x4, x5]) ∧ k b x0.toInt x1.toInt x2.toInt x3.toInt x4.toInt x5.toInt = some o := by
  unfold gK at h
  split at h
  · next b x0 x1 x2 x3 x4 x5 e => exact ⟨b, x0, x1, x2, x3, x4, x5, e, h⟩
  · cases h
theorem gA_e {α : Type} {S : St} {c : Nat} {k : Nat → (Int → Int) → Option α} {o : α} (h : gA S c k = some o) : ∃ (N : Nat) (f : Int → Int32), S.cl c = some (.ar N f) ∧ k N (fun i => (f i).toInt) = some o := by
  unfold gA at h
  split at h
  · next N f e => exact ⟨N, f, e, h⟩
  · cases h
theorem gN_e {α : Type} {S : St} {c k : Nat} {x : Option α} {o : α} (h : gN S c k x = some o) : 72 ≤ c ∧ S.tl[c - 72]? = some (.nw k) ∧ x = some o := by
  unfold gN at h
  split at h
  · next k' e =>
    split at h
    · next hc =>
      unfold St.cl at e
      rw [if_pos hc.2, hc.1] at e
      exact ⟨hc.2, e, h⟩
    · cases h
  · cases h
/-- a part of f from sp on laid on g from dp on -/
def cpI (f g : Int → Int) (sp dp n : Int) : Int → Int32 := fun i => if dp ≤ i ∧ i < dp + n then eI (f (i - dp + sp)) else eI (g i)
abbrev cpR (N0 N : Nat) (sp dp n : Int) : Prop := 0 ≤ sp ∧ 0 ≤ dp ∧ 0 ≤ n ∧ sp + n ≤ N0 ∧ dp + n ≤ N ∧ sp + n < 2147483648 ∧ dp + n < 2147483648
/-- sizes of a new clause -/
abbrev c5R (n m : Int) : Prop := 0 ≤ n ∧ n ≤ 100000 ∧ 0 ≤ m ∧ m < 100000
def on {α β : Type} (x : Option α) (a : β) (k : α → β) : β := match x with
  | none => a
  | some c => k c
theorem on_e {α β : Type} {x : Option α} {a z : β} {k : α → β} (h : on x a k = z) : (x = none ∧ a = z) ∨ (∃ c, x = some c ∧ k c = z) := by
  cases x with
  | none => exact Or.inl ⟨rfl, h⟩
  | some c => exact Or.inr ⟨c, rfl, h⟩
