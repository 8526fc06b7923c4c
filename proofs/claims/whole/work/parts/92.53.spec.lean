/-! what a text says: terms -/
/-- a name: a letter from lo to hi, and perhaps a digit -/
def nmr (tx : Int → Int) (lo hi pos : Int) : Option (Int × Int) := if lo ≤ tx pos ∧ tx pos ≤ hi then (if 48 ≤ tx (pos + 1) ∧ tx (pos + 1) ≤ 57 then some ((tx pos - lo) * 11 + 1 + tx (pos + 1) - 48, pos + 2) else some ((tx pos - lo) * 11, pos + 1)) else none
/-- the number of a made function, behind its sign -/
def mdr (tx : Int → Int) (pos : Int) : Option (Int × Int) := if 49 ≤ tx (pos + 1) ∧ tx (pos + 1) ≤ 57 then (if 48 ≤ tx (pos + 2) ∧ tx (pos + 2) ≤ 57 then some ((tx (pos + 1) - 48) * 10 + tx (pos + 2) - 48, pos + 3) else some (tx (pos + 1) - 48, pos + 2)) else none
/-- a function's symbol -/
def syr (tx : Int → Int) (cl : Bool) (pos : Int) : Sum Int (Int × Int) := if cl = true ∧ tx pos = 36 then (match mdr tx pos with
    | none => .inl (pos + 1)
    | some (v, p) => .inr (65536 + v * 256, p)) else (match nmr tx 97 107 pos with
    | none => .inl pos
    | some (n, p) => .inr (32768 + n * 256, p))
abbrev RsT := Sum Int (Int × List Int × List Int × List Int)
abbrev RsL := Sum Int (Int × Int × List Int × List Int × List Int)
abbrev Vr := List Int → Int → Option (List Int × Int × List Int)
/-- a term: where it ends, its codes, its cells, the names known then; or where it goes wrong -/
def sT (tx : Int → Int) (cl : Bool) (vr : Vr) (rc : Int → Int → List Int → RsL) (d pos : Int) (N : List Int) : RsT := match nmr tx 120 122 pos with
  | some (n, p) => (match vr N n with
    | some (e, c, N') => .inr (p, e, [c], N')
    | none => .inl pos)
  | none => (match syr tx cl pos with
    | .inl e => .inl e
    | .inr (x, p) => if tx p = 40 then (if d < 14 then (match rc (d + 1) p N with
        | .inl e => .inl e
        | .inr (p', k, E, C, N') => .inr (p', (x + k) :: E, mo (x + k) :: C, N')) else .inl p) else .inr (p, [x], [mo x], N))
def sL (tx : Int → Int) (cl : Bool) (vr : Vr) (rc : Int → Int → List Int → RsL) (d : Int) : Nat → Int → Int → List Int → RsL
  | 0, _, _, _ => .inl (-5)
  | m + 1, pos, k, N => match sT tx cl vr rc d (pos + 1) N with
    | .inl e => .inl e
    | .inr (p, E, C, N') => if tx p = 41 then .inr (p + 1, k, E, C, N') else if tx p = 44 then (match sL tx cl vr rc d m p (k + 1) N' with
        | .inl e => .inl e
        | .inr (p', k', E', C', N2) => .inr (p', k', E ++ E', C ++ C', N2)) else .inl p
/-- terms in brackets -/
def sB (tx : Int → Int) (cl : Bool) (vr : Vr) : Nat → Int → Int → List Int → RsL
  | 0, _, _, _ => .inl (-5)
  | f + 1, d, pos, N => sL tx cl vr (sB tx cl vr f) d 200 pos 1 N
/-- a text of len letters -/
def QX (tx : Int → Int) (len : Int) : Prop := 0 ≤ len ∧ len ≤ 160 ∧ (∀ i : Int, 0 ≤ i → i < len → 33 ≤ tx i ∧ tx i ≤ 126) ∧ ∀ i : Int, len ≤ i → tx i = 0
theorem QX.r {tx : Int → Int} {len p : Int} (h : QX tx len) (p0 : 0 ≤ p) : 0 ≤ tx p ∧ tx p ≤ 126 ∧ (tx p ≠ 0 → p < len) := by
  by_cases hp : p < len
  · have := h.2.2.1 p p0 hp
    exact ⟨by omega, by omega, fun _ => hp⟩
  · have := h.2.2.2 p (by omega)
    exact ⟨by omega, by omega, fun e => absurd this e⟩
theorem nmr_p {tx : Int → Int} {lo hi pos n p len : Int} (hQ : QX tx len) (p0 : 0 ≤ pos) (hlo : 1 ≤ lo) (h : nmr tx lo hi pos = some (n, p)) : pos + 1 ≤ p ∧ p ≤ pos + 2 ∧ p ≤ len ∧ 0 ≤ n ∧ n ≤ (hi - lo) * 11 + 10 := by
  unfold nmr at h
  have q0 := hQ.r p0
  have q1 := hQ.r (p := pos + 1) (by omega)
  by_cases h1 : lo ≤ tx pos ∧ tx pos ≤ hi
  · rw [if_pos h1] at h
    by_cases h2 : 48 ≤ tx (pos + 1) ∧ tx (pos + 1) ≤ 57
    · rw [if_pos h2] at h
      cases h
      have := q1.2.2 (by omega)
      omega
    · rw [if_neg h2] at h
      cases h
      have := q0.2.2 (by omega)
      omega
  · rw [if_neg h1] at h
    cases h
theorem syr_p {tx : Int → Int} {cl : Bool} {pos len : Int} (hQ : QX tx len) (p0 : 0 ≤ pos) (pl : pos ≤ len) : match syr tx cl pos with
    | .inl e => 0 ≤ e ∧ e ≤ len
    | .inr (x, p) => pos + 1 ≤ p ∧ p ≤ len ∧ vx x ∧ 32768 ≤ x ∧ x < 131072 ∧ x % 256 = 0 := by
  unfold syr
  have q0 := hQ.r p0
  have q1 := hQ.r (p := pos + 1) (by omega)
  have q2 := hQ.r (p := pos + 2) (by omega)
  by_cases hc : cl = true ∧ tx pos = 36
  · rw [if_pos hc]
    have := q0.2.2 (by omega)
    unfold mdr
    by_cases h1 : 49 ≤ tx (pos + 1) ∧ tx (pos + 1) ≤ 57
    · rw [if_pos h1]
      have := q1.2.2 (by omega)
      by_cases h2 : 48 ≤ tx (pos + 2) ∧ tx (pos + 2) ≤ 57
      · rw [if_pos h2]
        have := q2.2.2 (by omega)
        exact ⟨by omega, by omega, by unfold vx; omega, by omega, by omega, by omega⟩
      · rw [if_neg h2]
        exact ⟨by omega, by omega, by unfold vx; omega, by omega, by omega, by omega⟩
    · rw [if_neg h1]
      exact ⟨by omega, by omega⟩
  · rw [if_neg hc]
    cases hn : nmr tx 97 107 pos with
    | none => exact ⟨p0, pl⟩
    | some a =>
      obtain ⟨n, p⟩ := a
      have := nmr_p hQ p0 (by decide) hn
      exact ⟨by omega, by omega, by unfold vx; omega, by omega, by omega, by omega⟩
theorem mdr_v {tx : Int → Int} {pos v p : Int} (em : mdr tx pos = some (v, p)) : 1 ≤ v ∧ v ≤ 99 := by
  unfold mdr at em
  by_cases h1 : 49 ≤ tx (pos + 1) ∧ tx (pos + 1) ≤ 57
  · rw [if_pos h1] at em
    by_cases h2 : 48 ≤ tx (pos + 2) ∧ tx (pos + 2) ≤ 57
    · rw [if_pos h2] at em
      cases em
      omega
    · rw [if_neg h2] at em
      cases em
      omega
  · rw [if_neg h1] at em
    cases em
theorem sT_v1 {tx : Int → Int} {cl : Bool} {vr : Vr} {rc : Int → Int → List Int → RsL} {d pos n p c : Int} {N N' e : List Int} (h : nmr tx 120 122 pos = some (n, p)) (hv : vr N n = some (e, c, N')) : sT tx cl vr rc d pos N = .inr (p, e, [c], N') := by
  unfold sT
  rw [h]
  show (match vr N n with
    | some (e, c, N') => .inr (p, e, [c], N')
    | none => .inl pos : RsT) = _
  rw [hv]
theorem sT_v0 {tx : Int → Int} {cl : Bool} {vr : Vr} {rc : Int → Int → List Int → RsL} {d pos n p : Int} {N : List Int} (h : nmr tx 120 122 pos = some (n, p)) (hv : vr N n = none) : sT tx cl vr rc d pos N = .inl pos := by
  unfold sT
  rw [h]
  show (match vr N n with
    | some (e, c, N') => .inr (p, e, [c], N')
    | none => .inl pos : RsT) = _
  rw [hv]
theorem sT_e {tx : Int → Int} {cl : Bool} {vr : Vr} {rc : Int → Int → List Int → RsL} {d pos e : Int} {N : List Int} (h : nmr tx 120 122 pos = none) (hs : syr tx cl pos = .inl e) : sT tx cl vr rc d pos N = .inl e := by
  unfold sT
  rw [h, hs]
theorem sT_s {tx : Int → Int} {cl : Bool} {vr : Vr} {rc : Int → Int → List Int → RsL} {d pos x p : Int} {N : List Int} (h : nmr tx 120 122 pos = none) (hs : syr tx cl pos = .inr (x, p)) : sT tx cl vr rc d pos N = if tx p = 40 then (if d < 14 then (match rc (d + 1) p N with
        | .inl e => .inl e
        | .inr (p', k, E, C, N') => .inr (p', (x + k) :: E, mo (x + k) :: C, N')) else .inl p) else .inr (p, [x], [mo x], N) := by
  unfold sT
  rw [h, hs]
/-- brackets end behind what they hold -/
def HP (len : Int) (rcS : Int → Int → List Int → RsL) (D : Int) : Prop := ∀ (d pos : Int) (N : List Int), D ≤ d → d ≤ 14 → 0 ≤ pos → pos < len → match rcS d pos N with
    | .inl e => 0 ≤ e ∧ e ≤ len
    | .inr (p, k, _, _, _) => pos + 2 * k < p ∧ p ≤ len ∧ 1 ≤ k
theorem sT_p {tx : Int → Int} {len d D pos : Int} {cl : Bool} {vr : Vr} {rcS : Int → Int → List Int → RsL} {N : List Int} (hQ : QX tx len) (hR : HP len rcS D) (hD : D ≤ d + 1) (p0 : 0 ≤ pos) (p1 : pos ≤ len) : match sT tx cl vr rcS d pos N with
    | .inl e => 0 ≤ e ∧ e ≤ len
    | .inr (p, _, _, _) => pos < p ∧ p ≤ len := by
  cases en : nmr tx 120 122 pos with
  | some a =>
    obtain ⟨n, p⟩ := a
    have np := nmr_p hQ p0 (by decide) en
    cases ev : vr N n with
    | some b =>
      obtain ⟨e, c, N'⟩ := b
      rw [sT_v1 en ev]
      exact ⟨by omega, by omega⟩
    | none =>
      rw [sT_v0 en ev]
      exact ⟨p0, p1⟩
  | none =>
    have sp := syr_p (cl := cl) hQ p0 p1
    cases es : syr tx cl pos with
    | inl e =>
      rw [es] at sp
      rw [sT_e en es]
      exact sp
    | inr a =>
      obtain ⟨x, p⟩ := a
      rw [es] at sp
      obtain ⟨s1, s2, s3, s4, s5, s6⟩ := sp
      rw [sT_s en es]
      by_cases h40 : tx p = 40
      · rw [if_pos h40]
        by_cases h14 : d < 14
        · rw [if_pos h14]
          have hr := hR (d + 1) p N hD (by omega) (by omega) ((hQ.r (by omega)).2.2 (by omega))
          cases er : rcS (d + 1) p N with
          | inl e => rw [er] at hr; exact hr
          | inr b =>
            obtain ⟨p', k, E, C, N'⟩ := b
            rw [er] at hr
            obtain ⟨r1, r2, r3⟩ := hr
            exact ⟨by omega, r2⟩
        · rw [if_neg h14]
          exact ⟨by omega, s2⟩
      · rw [if_neg h40]
        exact ⟨by omega, s2⟩
theorem sL_p {tx : Int → Int} {len d D : Int} {cl : Bool} {vr : Vr} {rcS : Int → Int → List Int → RsL} (hQ : QX tx len) (hR : HP len rcS D) (hD : D ≤ d + 1) : ∀ (m : Nat) (pos k : Int) (N : List Int), 0 ≤ pos → pos < len → 161 < m + pos → match sL tx cl vr rcS d m pos k N with
    | .inl e => 0 ≤ e ∧ e ≤ len
    | .inr (p, k', _, _, _) => pos + 2 * (k' - k + 1) < p ∧ p ≤ len ∧ k ≤ k' := by
  intro m
  induction m with
  | zero => intro pos k N p0 p1 hm; have := hQ.2.1; omega
  | succ m ih =>
    intro pos k N p0 p1 hm
    have ht := sT_p (cl := cl) (vr := vr) (N := N) (d := d) (pos := pos + 1) hQ hR hD (by omega) (by omega)
    unfold sL
    cases es : sT tx cl vr rcS d (pos + 1) N with
    | inl e => rw [es] at ht; exact ht
    | inr a =>
      obtain ⟨p, E, C, N'⟩ := a
      rw [es] at ht
      have ht : pos + 1 < p ∧ p ≤ len := ht
      have qp := hQ.r (p := p) (by omega)
      show match (if tx p = 41 then .inr (p + 1, k, E, C, N') else if tx p = 44 then (match sL tx cl vr rcS d m p (k + 1) N' with
        | .inl e => .inl e
        | .inr (p', k', E', C', N2) => .inr (p', k', E ++ E', C ++ C', N2)) else .inl p : RsL) with
        | .inl e => 0 ≤ e ∧ e ≤ len
        | .inr (p, k', _, _, _) => pos + 2 * (k' - k + 1) < p ∧ p ≤ len ∧ k ≤ k'
      by_cases h41 : tx p = 41
      · rw [if_pos h41]
        have := qp.2.2 (by omega)
        exact ⟨by omega, by omega, by omega⟩
      · rw [if_neg h41]
        by_cases h44 : tx p = 44
        · rw [if_pos h44]
          have hr := ih p (k + 1) N' (by omega) (qp.2.2 (by omega)) (by omega)
          cases er : sL tx cl vr rcS d m p (k + 1) N' with
          | inl e => rw [er] at hr; exact hr
          | inr b =>
            obtain ⟨p', k', E', C', N2⟩ := b
            rw [er] at hr
            obtain ⟨r1, r2, r3⟩ := hr
            exact ⟨by omega, r2, by omega⟩
        · rw [if_neg h44]
          exact ⟨by omega, ht.2⟩
theorem sB_p {tx : Int → Int} {len : Int} {cl : Bool} {vr : Vr} (hQ : QX tx len) : ∀ f : Nat, HP len (sB tx cl vr f) (15 - f) := by
  intro f
  induction f with
  | zero => intro d pos N hD d1; omega
  | succ f ih =>
    intro d pos N hD d1 p0 p1
    have h := sL_p (cl := cl) (vr := vr) (d := d) hQ ih (by omega) 200 pos 1 N p0 p1 (by omega)
    show match sL tx cl vr (sB tx cl vr f) d 200 pos 1 N with
      | .inl e => 0 ≤ e ∧ e ≤ len
      | .inr (p, k, _, _, _) => pos + 2 * k < p ∧ p ≤ len ∧ 1 ≤ k
    cases er : sL tx cl vr (sB tx cl vr f) d 200 pos 1 N with
    | inl e => rw [er] at h; exact h
    | inr b =>
      obtain ⟨p', k', E', C', N2⟩ := b
      rw [er] at h
      obtain ⟨r1, r2, r3⟩ := h
      exact ⟨by omega, r2, r3⟩
