/-! numbers of the machine as integers -/
def eI (x : Int) : Int32 := Int32.ofInt x
abbrev inR (x : Int) : Prop := -2147483648 ≤ x ∧ x < 2147483648
theorem eI_to {x : Int} (h : inR x) : (eI x).toInt = x := Int32.toInt_ofInt_of_le h.1 h.2
theorem eI_of (v : Int32) : eI v.toInt = v := Int32.ofInt_toInt v
theorem inR_to (v : Int32) : inR v.toInt := ⟨Int32.le_toInt v, Int32.toInt_lt v⟩
theorem eI_lt {x y : Int} (hx : inR x) (hy : inR y) : eI x < eI y ↔ x < y := by rw [Int32.lt_iff_toInt_lt, eI_to hx, eI_to hy]
theorem eI_le {x y : Int} (hx : inR x) (hy : inR y) : eI x ≤ eI y ↔ x ≤ y := by rw [Int32.le_iff_toInt_le, eI_to hx, eI_to hy]
theorem eI_eq {x y : Int} (hx : inR x) (hy : inR y) : eI x = eI y ↔ x = y := by rw [← Int32.toInt_inj, eI_to hx, eI_to hy]
theorem ci_lt1 {x y : Int} (hx : inR x) (hy : inR y) (h : x < y) : mn_cmp .lt (eI x) (eI y) = true := decide_eq_true ((eI_lt hx hy).mpr h)
theorem ci_lt0 {x y : Int} (hx : inR x) (hy : inR y) (h : ¬ x < y) : mn_cmp .lt (eI x) (eI y) = false := decide_eq_false (fun e => h ((eI_lt hx hy).mp e))
theorem ci_ge1 {x y : Int} (hx : inR x) (hy : inR y) (h : ¬ x < y) : mn_cmp .ge (eI x) (eI y) = true := decide_eq_true ((eI_le hy hx).mpr (by omega))
theorem ci_ge0 {x y : Int} (hx : inR x) (hy : inR y) (h : x < y) : mn_cmp .ge (eI x) (eI y) = false := decide_eq_false (fun e => by have := (eI_le hy hx).mp e; omega)
theorem ci_gt1 {x y : Int} (hx : inR x) (hy : inR y) (h : y < x) : mn_cmp .gt (eI x) (eI y) = true := decide_eq_true ((eI_lt hy hx).mpr h)
theorem ci_gt0 {x y : Int} (hx : inR x) (hy : inR y) (h : ¬ y < x) : mn_cmp .gt (eI x) (eI y) = false := decide_eq_false (fun e => h ((eI_lt hy hx).mp e))
theorem ci_le1 {x y : Int} (hx : inR x) (hy : inR y) (h : ¬ y < x) : mn_cmp .le (eI x) (eI y) = true := decide_eq_true ((eI_le hx hy).mpr (by omega))
theorem ci_le0 {x y : Int} (hx : inR x) (hy : inR y) (h : y < x) : mn_cmp .le (eI x) (eI y) = false := decide_eq_false (fun e => by have := (eI_le hx hy).mp e; omega)
theorem ci_eq1 {x y : Int} (hx : inR x) (hy : inR y) (h : x = y) : mn_cmp .eq (eI x) (eI y) = true := decide_eq_true ((eI_eq hx hy).mpr h)
theorem ci_eq0 {x y : Int} (hx : inR x) (hy : inR y) (h : ¬ x = y) : mn_cmp .eq (eI x) (eI y) = false := decide_eq_false (fun e => h ((eI_eq hx hy).mp e))
theorem ci_ne1 {x y : Int} (hx : inR x) (hy : inR y) (h : ¬ x = y) : mn_cmp .ne (eI x) (eI y) = true := decide_eq_true (fun e => h ((eI_eq hx hy).mp e))
theorem ci_ne0 {x y : Int} (hx : inR x) (hy : inR y) (h : x = y) : mn_cmp .ne (eI x) (eI y) = false := decide_eq_false (fun e => e ((eI_eq hx hy).mpr h))
theorem eI_0 : eI 0 = 0 := by decide
theorem ar_add (x y : Int) : mn_ar .iadd (eI x) (eI y) = some (eI (x + y)) := congrArg some (Int32.ofInt_add x y).symm
theorem ar_sub (x y : Int) : mn_ar .isub (eI x) (eI y) = some (eI (x - y)) := congrArg some (Int32.ofInt_sub x y).symm
theorem ar_mul (x y : Int) : mn_ar .imul (eI x) (eI y) = some (eI (x * y)) := congrArg some (Int32.ofInt_mul x y).symm
theorem eI_bv (x : Int) : (eI x).toBitVec = BitVec.ofInt 32 x := Int32.toBitVec_ofInt x
theorem eI_ext {a : Int32} {x : Int} (h : a.toBitVec = BitVec.ofInt 32 x) : a = eI x := Int32.toBitVec_inj.mp (h.trans (eI_bv x).symm)
theorem ar_and (x : Int) : mn_ar .iand (eI x) (eI 255) = some (eI (x % 256)) := by
  refine congrArg some (eI_ext ?_)
  rw [Int32.toBitVec_and, eI_bv, eI_bv]
  apply BitVec.eq_of_toNat_eq
  rw [BitVec.toNat_and, BitVec.toNat_ofInt, BitVec.toNat_ofInt, BitVec.toNat_ofInt]
  have e : ((255 : Int) % ((2 ^ 32 : Nat) : Int)).toNat = 2 ^ 8 - 1 := by decide
  rw [e, Nat.and_two_pow_sub_one_eq_mod]
  omega
theorem ar_shr {x : Int} (h : inR x) : mn_ar .ishr (eI x) (eI 8) = some (eI (x / 256)) := by
  refine congrArg some (eI_ext ?_)
  have e : (eI 8 &&& 31 : Int32) = 8 := by decide
  rw [e, Int32.toBitVec_shiftRight]
  apply BitVec.eq_of_toInt_eq
  have e2 : (Int32.toBitVec 8).smod 32 = 8#32 := by decide
  rw [e2]
  show ((eI x).toBitVec.sshiftRight 8).toInt = _
  rw [BitVec.toInt_sshiftRight]
  have e3 : (eI x).toBitVec.toInt = x := eI_to h
  have h1 := h.1
  have h2 := h.2
  have e4 : (eI (x / 256)).toInt = x / 256 := eI_to ⟨by omega, by omega⟩
  have e5 : (eI (x / 256)).toBitVec.toInt = x / 256 := e4
  rw [eI_bv] at e5
  rw [e3, e5, Int.shiftRight_eq_div_pow]
  rfl
theorem ar_shl (x : Int) : mn_ar .ishl (eI x) (eI 8) = some (eI (x * 256)) := by
  refine congrArg some (eI_ext ?_)
  have e : (eI 8 &&& 31 : Int32) = 8 := by decide
  rw [e, Int32.toBitVec_shiftLeft, eI_bv]
  have e2 : (Int32.toBitVec 8).smod 32 = 8#32 := by decide
  rw [e2]
  apply BitVec.eq_of_toNat_eq
  show (BitVec.ofInt 32 x <<< 8).toNat = _
  rw [BitVec.toNat_shiftLeft, BitVec.toNat_ofInt, BitVec.toNat_ofInt, Nat.shiftLeft_eq]
  omega
/-- what may be divided -/
abbrev dvR (x y : Int) : Prop := 0 ≤ x ∧ x < 2147483648 ∧ 0 < y ∧ y < 2147483648
theorem eI_div {x y : Int} (h : dvR x y) : eI x / eI y = eI (x / y) := by
  obtain ⟨h1, h2, h3, h4⟩ := h
  have hq : 0 ≤ x / y := Int.ediv_nonneg h1 (by omega)
  have hq2 : x / y ≤ x := Int.ediv_le_self _ h1
  rw [← eI_of (eI x / eI y), Int32.toInt_div, eI_to ⟨by omega, by omega⟩, eI_to ⟨by omega, by omega⟩, Int.tdiv_eq_ediv_of_nonneg h1]
  congr 1
  rw [Int.bmod_eq_of_le] <;> omega
theorem ar_div {x y : Int} (h : dvR x y) : mn_ar .idiv (eI x) (eI y) = some (eI (x / y)) := by
  have h0 : ¬ eI y = 0 := fun e => by
    rw [← eI_0, eI_eq ⟨by have := h.2.2.1; omega, h.2.2.2⟩ (by decide)] at e
    have := h.2.2.1
    omega
  show (if eI y = 0 then none else some (eI x / eI y)) = _
  rw [if_neg h0, eI_div h]
theorem ar_rem {x y : Int} (h : dvR x y) : mn_ar .irem (eI x) (eI y) = some (eI (x % y)) := by
  have h0 : ¬ eI y = 0 := fun e => by
    rw [← eI_0, eI_eq ⟨by have := h.2.2.1; omega, h.2.2.2⟩ (by decide)] at e
    have := h.2.2.1
    omega
  show (if eI y = 0 then none else some (eI x - eI x / eI y * eI y)) = _
  rw [if_neg h0, eI_div h]
  show some (Int32.ofInt x - Int32.ofInt (x / y) * Int32.ofInt y) = some (Int32.ofInt (x % y))
  rw [← Int32.ofInt_mul, ← Int32.ofInt_sub, Int.emod_def, Int.mul_comm y]
def xr (x y : Int) : Int := ((x.toNat ^^^ y.toNat : Nat) : Int)
abbrev noR (x : Int) : Prop := 0 ≤ x ∧ x < 2147483648
theorem ar_xor {x y : Int} (h : noR x ∧ noR y) : mn_ar .ixor (eI x) (eI y) = some (eI (xr x y)) := by
  obtain ⟨⟨h1, h2⟩, h3, h4⟩ := h
  refine congrArg some (eI_ext ?_)
  rw [Int32.toBitVec_xor, eI_bv, eI_bv]
  apply BitVec.eq_of_toNat_eq
  have e1 : (x % ((2 ^ 32 : Nat) : Int)).toNat = x.toNat := by omega
  have e2 : (y % ((2 ^ 32 : Nat) : Int)).toNat = y.toNat := by omega
  have e3 : x.toNat ^^^ y.toNat < 2 ^ 31 := Nat.xor_lt_two_pow (by omega) (by omega)
  rw [BitVec.toNat_xor, BitVec.toNat_ofInt, BitVec.toNat_ofInt, BitVec.toNat_ofInt, e1, e2]
  unfold xr
  omega
theorem xr_R {x y : Int} (h : noR x ∧ noR y) : noR (xr x y) := by
  obtain ⟨⟨h1, h2⟩, h3, h4⟩ := h
  have e3 : x.toNat ^^^ y.toNat < 2 ^ 31 := Nat.xor_lt_two_pow (by omega) (by omega)
  unfold xr
  exact ⟨by omega, by omega⟩
abbrev chR (x : Int) : Prop := 0 ≤ x ∧ x < 65536
theorem eI_chr {x : Int} (h : chR x) : ((eI x).toUInt32 % 65536).toInt32 = eI x := by
  obtain ⟨h1, h2⟩ := h
  apply eI_ext
  show ((eI x).toUInt32 % 65536).toBitVec = _
  rw [UInt32.toBitVec_mod]
  show (eI x).toBitVec % 65536#32 = _
  rw [eI_bv]
  apply BitVec.eq_of_toNat_eq
  rw [BitVec.toNat_umod, BitVec.toNat_ofInt]
  show _ % 65536 = _
  omega
theorem eI_ch2 {x : Int} (h : chR x) : (eI x).toUInt32.toUInt16.toUInt32.toInt32 = eI x := by
  obtain ⟨h1, h2⟩ := h
  apply eI_ext
  show ((eI x).toBitVec.setWidth 16).setWidth 32 = _
  rw [eI_bv]
  apply BitVec.eq_of_toNat_eq
  rw [BitVec.toNat_setWidth, BitVec.toNat_setWidth, BitVec.toNat_ofInt]
  omega
theorem eI_b1 {x : Int} (h : x = 0 ∨ x = 1) : eI x &&& 1 = eI x := by
  rcases h with h | h <;> subst h <;> decide
/-- 0 or 1 -/
abbrev b1R (x : Int) : Prop := x = 0 ∨ x = 1
abbrev ixR (i : Int) (N : Nat) : Prop := 0 ≤ i ∧ i < N ∧ i < 2147483648
/-! guards -/
def gd {α : Type} (p : Prop) [Decidable p] (x : Option α) : Option α := if p then x else none
theorem gd_some {α : Type} {p : Prop} [Decidable p] {x : Option α} {o : α} (h : gd p x = some o) : p ∧ x = some o := by
  unfold gd at h
  split at h
  · next hp => exact ⟨hp, h⟩
  · cases h
theorem gd_t {α : Type} {p : Prop} [Decidable p] {x : Option α} (h : p) : gd p x = x := if_pos h
theorem if_t {α : Sort _} {p : Prop} [Decidable p] {x y z : α} (hp : p) (h : (if p then x else y) = z) : x = z := (if_pos hp).symm.trans h
theorem if_f {α : Sort _} {p : Prop} [Decidable p] {x y z : α} (hp : ¬ p) (h : (if p then x else y) = z) : y = z := (if_neg hp).symm.trans h
def ob {α β : Type} (x : Option α) (k : α → Option β) : Option β := match x with
  | some a => k a
  | none => none
theorem ob_some {α β : Type} {x : Option α} {k : α → Option β} {o : β} (h : ob x k = some o) : ∃ a, x = some a ∧ k a = some o := by
  cases x with
  | none => cases h
  | some a => exact ⟨a, rfl, h⟩
theorem ob_t {α β : Type} {x : Option α} {k : α → Option β} {a : α} (h : x = some a) : ob x k = k a := by subst h; rfl
/-- a loop that may return out of the method -/
def obr {α β : Type} (x : Option (Sum α β)) (k : α → Option β) : Option β := match x with
  | some (.inl a) => k a
  | some (.inr b) => some b
  | none => none
theorem obr_some {α β : Type} {x : Option (Sum α β)} {k : α → Option β} {o : β} (h : obr x k = some o) : (∃ a, x = some (.inl a) ∧ k a = some o) ∨ x = some (.inr o) := by
  match x, h with
  | some (.inl a), h => exact Or.inl ⟨a, rfl, h⟩
  | some (.inr b), h => cases h; exact Or.inr rfl
/-- the same within a loop -/
def obs {α β γ : Type} (x : Option (Sum α β)) (k : α → Option (Sum γ β)) : Option (Sum γ β) := match x with
  | some (.inl a) => k a
  | some (.inr b) => some (.inr b)
  | none => none
theorem obs_some {α β γ : Type} {x : Option (Sum α β)} {k : α → Option (Sum γ β)} {o : Sum γ β} (h : obs x k = some o) : (∃ a, x = some (.inl a) ∧ k a = some o) ∨ (∃ b, x = some (.inr b) ∧ o = .inr b) := by
  match x, h with
  | some (.inl a), h => exact Or.inl ⟨a, rfl, h⟩
  | some (.inr b), h => cases h; exact Or.inr ⟨b, rfl, rfl⟩
def FU : Nat := 2 ^ 200
