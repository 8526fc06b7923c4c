/-! codes of the first object, cells of the second -/
def vx (x : Int) : Prop := (0 ≤ x ∧ x < 32768 ∧ x % 256 = 0) ∨ (32768 ≤ x ∧ x < 63744 ∧ x % 256 < 128) ∨ (65792 ≤ x ∧ x < 98304 ∧ x % 256 < 128) ∨ (131072 ≤ x ∧ x < 144384 ∧ x % 256 < 128)
def mo (x : Int) : Int :=
  if x < 32768 then x / 256
  else if x < 65536 then 4096 + 128 * (97 + ((x - 32768) / 256) / 11 + 128 * (((x - 32768) / 256) % 11)) + x % 256
  else if x < 131072 then 4096 + 128 * (36 + 128 * ((x - 65536) / 256)) + x % 256
  else 4096 + 128 * (65 + ((x - 131072) / 256) / 2) + x % 256
/-- is the atom denied -/
def dn (x : Int) : Int := ((x - 131072) / 256) % 2
theorem mo_R {x : Int} (h : vx x) : 0 ≤ mo x ∧ mo x < 2147483648 := by
  unfold vx at h
  unfold mo
  rcases h with h | h | h | h
  · rw [if_pos (by omega)]; omega
  · rw [if_neg (by omega), if_pos (by omega)]; omega
  · rw [if_neg (by omega), if_neg (by omega), if_pos (by omega)]; omega
  · rw [if_neg (by omega), if_neg (by omega), if_neg (by omega)]; omega
theorem mo_var {x : Int} (h : x < 32768) : mo x = x / 256 := if_pos h
theorem mo_v {x : Int} (h : vx x) : mo x < 4096 ↔ x < 32768 := by
  unfold vx at h
  unfold mo
  rcases h with h | h | h | h
  · rw [if_pos (by omega)]; omega
  · rw [if_neg (by omega), if_pos (by omega)]; omega
  · rw [if_neg (by omega), if_neg (by omega), if_pos (by omega)]; omega
  · rw [if_neg (by omega), if_neg (by omega), if_neg (by omega)]; omega
theorem mo_ar {x : Int} (h : vx x) : arM (mo x) = x % 256 := by
  have h1 := mo_v h
  unfold vx at h
  unfold arM
  rcases h with h | h | h | h
  · rw [if_pos (by omega)]; omega
  · rw [if_neg (by omega)]
    unfold mo
    rw [if_neg (by omega), if_pos (by omega)]; omega
  · rw [if_neg (by omega)]
    unfold mo
    rw [if_neg (by omega), if_neg (by omega), if_pos (by omega)]; omega
  · rw [if_neg (by omega)]
    unfold mo
    rw [if_neg (by omega), if_neg (by omega), if_neg (by omega)]; omega
theorem mo_inj {x y : Int} (hx : vx x) (hy : vx y) (ha : 131072 ≤ x ↔ 131072 ≤ y) (hd : 131072 ≤ x → dn x = dn y) : mo x = mo y ↔ x = y := by
  refine ⟨fun e => ?_, fun e => by rw [e]⟩
  unfold vx at hx hy
  unfold dn at hd
  unfold mo at e
  rcases hx with h | h | h | h
  · rw [if_pos (by omega)] at e
    rcases hy with g | g | g | g
    · rw [if_pos (by omega)] at e; omega
    · rw [if_neg (by omega), if_pos (by omega)] at e; omega
    · rw [if_neg (by omega), if_neg (by omega), if_pos (by omega)] at e; omega
    · omega
  · rw [if_neg (by omega), if_pos (by omega)] at e
    rcases hy with g | g | g | g
    · rw [if_pos (by omega)] at e; omega
    · rw [if_neg (by omega), if_pos (by omega)] at e; omega
    · rw [if_neg (by omega), if_neg (by omega), if_pos (by omega)] at e; omega
    · omega
  · rw [if_neg (by omega), if_neg (by omega), if_pos (by omega)] at e
    rcases hy with g | g | g | g
    · rw [if_pos (by omega)] at e; omega
    · rw [if_neg (by omega), if_pos (by omega)] at e; omega
    · rw [if_neg (by omega), if_neg (by omega), if_pos (by omega)] at e; omega
    · omega
  · rw [if_neg (by omega), if_neg (by omega), if_neg (by omega)] at e
    rcases hy with g | g | g | g
    · omega
    · omega
    · omega
    · rw [if_neg (by omega), if_neg (by omega), if_neg (by omega)] at e
      have := hd (by omega)
      omega
