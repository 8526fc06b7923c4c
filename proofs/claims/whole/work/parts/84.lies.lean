/-! Matcher.liesOn -/
def un (f : Nat → Nat) (k x : Nat) : Nat → Nat := fun i => if i = k then x else f i
theorem up_pI (t : Nat → Nat) (k x : Nat) : up (fun i => pI (t i)) k (pI x) = fun i => pI (un t k x i) := by
  funext i
  unfold up un
  split <;> rfl
theorem up_nI (t : Nat → Nat) (k x : Nat) : up (fun i => nI (t i)) k (nI x) = fun i => nI (un t k x i) := by
  funext i
  unfold up un
  split <;> rfl
/-- m symbols of g from p on are laid on h from q on, but not behind E; t and s: the terms put, and by which literal; N: how long h's array is -/
def li (g h : Nat → Nat) (E N l : Nat) : Nat → Nat → Nat → (Nat → Nat) → (Nat → Nat) → Bool × (Nat → Nat) × (Nat → Nat)
  | 0, _, _, t, s => (true, t, s)
  | m + 1, p, q, t, s =>
    if E ≤ q then (false, t, s)
    else if 32768 ≤ g p then (if g p = h q then li g h E N l m (p + 1) (q + 1) t s else (false, t, s))
    else if t (g p / 256) = 0 then li g h E N l m (p + 1) (ce h (E - q) 1 q) (un t (g p / 256) (q + 1)) (un s (g p / 256) l)
    else if (decide (t (g p / 256) - 1 + (ce h (E - q) 1 q - q) ≤ N) && decide (q + (ce h (E - q) 1 q - q) ≤ N) && sy h (t (g p / 256) - 1) q (ce h (E - q) 1 q - q)) = true then li g h E N l m (p + 1) (ce h (E - q) 1 q) t s
    else (false, t, s)
theorem ce_ge (h : Nat → Nat) : ∀ m o p, p ≤ ce h m o p ∧ ce h m o p ≤ p + m := by
  intro m
  induction m with
  | zero => intro o p; exact ⟨Nat.le_refl _, Nat.le_refl _⟩
  | succ m ih =>
    intro o p
    unfold ce
    split
    · omega
    · have := ih (o - 1 + h p % 256) (p + 1); omega
/-- the heap with these terms and literals -/
def lH (hs : mn_H) (t s : Nat → Nat) : mn_H := (hs.set 24 (50, aF 64 (fun i => pI (t i)))).set 25 (50, aF 64 (fun i => nI (s i)))
