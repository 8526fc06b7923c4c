/-! what the reading of terms yields is terms -/
theorem TD_app {a : Int → Int} {nu : Int → List Int} : ∀ (n n' : Nat) (o o' p : Int) (E E' : List Int), 0 ≤ o' → TD a nu n o p E → TD a nu n' o' (p + n) E' → TD a nu (n + n') (o + o') p (E ++ E') := by
  intro n
  induction n with
  | zero =>
    intro n' o o' p E E' h0 h h'
    have h : o = 0 ∧ E = [] := h
    rw [h.1, h.2, Nat.zero_add, Int.zero_add]
    rw [show p + ((0 : Nat) : Int) = p by omega] at h'
    exact h'
  | succ n ih =>
    intro n' o o' p E E' h0 h h'
    obtain ⟨h1, h⟩ := h
    rw [show n + 1 + n' = (n + n') + 1 by omega]
    rw [show p + ((n + 1 : Nat) : Int) = p + 1 + n by omega] at h'
    refine ⟨by omega, ?_⟩
    rcases h with ⟨c1, c2, F, c3, c4⟩ | ⟨x, F, c1, c2, c3, c4, c5, c6⟩
    · have := ih n' _ _ _ _ _ h0 c4 h'
      rw [show o - 1 + o' = o + o' - 1 by omega] at this
      exact Or.inl ⟨c1, c2, F ++ E', by rw [c3, List.append_assoc], this⟩
    · have := ih n' _ _ _ _ _ h0 c6 h'
      rw [show o - 1 + x % 256 + o' = o + o' - 1 + x % 256 by omega] at this
      exact Or.inr ⟨x, F ++ E', c1, c2, c3, c4, by rw [c5]; rfl, this⟩
/-- cells C hold o terms that stand for E -/
def RG (nu : Int → List Int) (V : Int → Prop) (o : Int) (E C : List Int) : Prop := (∀ (a : Int → Int) (top : Int), (∀ j : Int, 0 ≤ j → j < C.length → a (top + j) = gI C j) → TD a nu C.length o top E) ∧ TL o E ∧ (∀ c ∈ C, c < 4096 → nu c ≠ []) ∧ ∀ x ∈ E, vx x ∧ x < 131072 ∧ (x < 32768 → V (x / 256))
theorem RG.nil {nu : Int → List Int} {V : Int → Prop} : RG nu V 0 [] [] := ⟨fun _ _ _ => ⟨rfl, rfl⟩, rfl, fun c hc => absurd hc List.not_mem_nil, fun x hx => absurd hx List.not_mem_nil⟩
theorem RG.app {nu : Int → List Int} {V : Int → Prop} {o o' : Int} {E E' C C' : List Int} (h0 : 0 ≤ o') (h : RG nu V o E C) (g : RG nu V o' E' C') : RG nu V (o + o') (E ++ E') (C ++ C') := by
  obtain ⟨h1, h2, h3, h4⟩ := h
  obtain ⟨g1, g2, g3, g4⟩ := g
  refine ⟨fun a top ha => ?_, TL.app _ _ _ _ h0 h2 g2, fun c hc => ?_, fun x hx => ?_⟩
  · rw [List.length_append] at ha ⊢
    refine TD_app _ _ _ _ _ _ _ h0 (h1 a top (fun j j0 j1 => by rw [ha j j0 (by omega), gI_l j1 j0])) (g1 a _ (fun j j0 j1 => ?_))
    rw [show top + (C.length : Int) + j = top + (C.length + j) by omega, ha _ (by omega) (by omega), gI_r (by omega), show (C.length : Int) + j - C.length = j by omega]
  · rcases List.mem_append.mp hc with hc | hc
    · exact h3 c hc
    · exact g3 c hc
  · rcases List.mem_append.mp hx with hx | hx
    · exact h4 x hx
    · exact g4 x hx
theorem RG.fn {nu : Int → List Int} {V : Int → Prop} {x o : Int} {E C : List Int} (hx : vx x) (h3 : 32768 ≤ x) (h4 : x < 131072) (ho : o = x % 256) (h : RG nu V o E C) : RG nu V 1 (x :: E) (mo x :: C) := by
  obtain ⟨h1, h2, h3', h4'⟩ := h
  subst ho
  refine ⟨fun a top ha => ⟨by decide, Or.inr ⟨x, E, ?_, hx, h3, h4, rfl, ?_⟩⟩, ⟨by decide, ?_⟩, fun c hc => ?_, fun y hy => ?_⟩
  · have := ha 0 (Int.le_refl _) (by show (0 : Int) < ((C.length + 1 : Nat) : Int); omega)
    rw [Int.add_zero] at this
    exact this
  · rw [show (1 : Int) - 1 + x % 256 = x % 256 by omega]
    refine h1 a (top + 1) (fun j j0 j1 => ?_)
    have := ha (j + 1) (by omega) (by show j + 1 < ((C.length + 1 : Nat) : Int); omega)
    rw [gI_cs j0] at this
    rw [show top + 1 + j = top + (j + 1) by omega]
    exact this
  · rw [show (1 : Int) - 1 + x % 256 = x % 256 by omega]
    exact h2
  · rcases List.mem_cons.mp hc with hc | hc
    · rw [hc]
      intro hlt
      have := mo_big hx (by omega)
      omega
    · exact h3' c hc
  · rcases List.mem_cons.mp hy with hy | hy
    · rw [hy]
      exact ⟨hx, h4, fun h => by omega⟩
    · exact h4' y hy
theorem RG.v {nu : Int → List Int} {V : Int → Prop} {c : Int} {e : List Int} (c0 : 0 ≤ c) (c1 : c < 128) (hc : nu c = e) (ht : TL 1 e) (he : ∀ x ∈ e, vx x ∧ x < 131072 ∧ (x < 32768 → V (x / 256))) : RG nu V 1 e [c] := by
  refine ⟨fun a top ha => ?_, ht, fun c' hc' _ => ?_, he⟩
  · have := ha 0 (Int.le_refl _) (by show (0 : Int) < ((1 : Nat) : Int); omega)
    rw [Int.add_zero] at this
    have this : a top = c := this
    have h := TD_1 (a := a) (nu := nu) (p := top) (by rw [this]; exact c0) (by rw [this]; exact c1)
    rw [this, hc] at h
    exact h
  · rw [List.mem_singleton.mp hc', hc]
    intro e0
    rw [e0] at ht
    have ht : (1 : Int) = 0 := ht
    omega
/-- the variables are good -/
def HG (vr : Vr) (nu : Int → List Int) (V : Int → Prop) (GN : List Int → Prop) : Prop := ∀ (N : List Int) (n : Int) (e : List Int) (c : Int) (N' : List Int), 0 ≤ n → n ≤ 32 → vr N n = some (e, c, N') → GN N' → GN N ∧ 0 ≤ c ∧ c < 128 ∧ nu c = e ∧ TL 1 e ∧ ∀ x ∈ e, vx x ∧ x < 131072 ∧ (x < 32768 → V (x / 256))
def HGL (len : Int) (nu : Int → List Int) (V : Int → Prop) (GN : List Int → Prop) (rcS : Int → Int → List Int → RsL) (D : Int) : Prop := ∀ (d pos : Int) (N : List Int), D ≤ d → d ≤ 14 → 0 ≤ pos → pos < len → match rcS d pos N with
    | .inl _ => True
    | .inr (_, k, E, C, N') => GN N' → GN N ∧ RG nu V k E C
theorem sT_g {tx : Int → Int} {len d D pos : Int} {cl : Bool} {vr : Vr} {nu : Int → List Int} {V : Int → Prop} {GN : List Int → Prop} {rcS : Int → Int → List Int → RsL} {N : List Int} (hQ : QX tx len) (hV : HG vr nu V GN) (hR : HP len rcS D) (hG : HGL len nu V GN rcS D) (hD : D ≤ d + 1) (p0 : 0 ≤ pos) (p1 : pos ≤ len) : match sT tx cl vr rcS d pos N with
    | .inl _ => True
    | .inr (_, E, C, N') => GN N' → GN N ∧ RG nu V 1 E C := by
  have l160 := hQ.2.1
  cases en : nmr tx 120 122 pos with
  | some a =>
    obtain ⟨n, p⟩ := a
    have np := nmr_p hQ p0 (by decide) en
    cases ev : vr N n with
    | some b =>
      obtain ⟨e, c, N'⟩ := b
      rw [sT_v1 en ev]
      intro hN
      obtain ⟨g1, g2, g3, g4, g5, g6⟩ := hV N n e c N' (by omega) (by omega) ev hN
      exact ⟨g1, RG.v g2 g3 g4 g5 g6⟩
    | none =>
      rw [sT_v0 en ev]
      trivial
  | none =>
    have sp := syr_p (cl := cl) hQ p0 p1
    cases es : syr tx cl pos with
    | inl e =>
      rw [sT_e en es]
      trivial
    | inr a =>
      obtain ⟨x, p⟩ := a
      rw [es] at sp
      rw [sT_s en es]
      obtain ⟨s1, s2, s3, s4, s5, s6⟩ := sp
      by_cases h40 : tx p = 40
      · rw [if_pos h40]
        by_cases h14 : d < 14
        · rw [if_pos h14]
          have pl := (hQ.r (p := p) (by omega)).2.2 (by omega)
          have hr := hR (d + 1) p N hD (by omega) (by omega) pl
          have hg := hG (d + 1) p N hD (by omega) (by omega) pl
          cases er : rcS (d + 1) p N with
          | inl e => trivial
          | inr b =>
            obtain ⟨p', k, E, C, N'⟩ := b
            rw [er] at hr hg
            obtain ⟨r1, r2, r3⟩ := hr
            intro hN
            obtain ⟨g1, g2⟩ := hg hN
            exact ⟨g1, RG.fn (by unfold vx at s3 ⊢; omega) (by omega) (by unfold vx at s3; omega) (by omega) g2⟩
        · rw [if_neg h14]
          trivial
      · rw [if_neg h40]
        intro hN
        exact ⟨hN, RG.fn s3 s4 s5 s6.symm RG.nil⟩
theorem sL_g {tx : Int → Int} {len d D : Int} {cl : Bool} {vr : Vr} {nu : Int → List Int} {V : Int → Prop} {GN : List Int → Prop} {rcS : Int → Int → List Int → RsL} (hQ : QX tx len) (hV : HG vr nu V GN) (hR : HP len rcS D) (hG : HGL len nu V GN rcS D) (hD : D ≤ d + 1) : ∀ (m : Nat) (pos k : Int) (N : List Int), 0 ≤ pos → pos < len → 161 < m + pos → match sL tx cl vr rcS d m pos k N with
    | .inl _ => True
    | .inr (_, k', E, C, N') => GN N' → GN N ∧ RG nu V (k' - k + 1) E C := by
  intro m
  induction m with
  | zero => intro pos k N p0 p1 hm; have := hQ.2.1; omega
  | succ m ih =>
    intro pos k N p0 p1 hm
    have ht := sT_p (cl := cl) (vr := vr) (N := N) (d := d) (pos := pos + 1) hQ hR hD (by omega) (by omega)
    have hg := sT_g (cl := cl) (vr := vr) (N := N) (d := d) (pos := pos + 1) hQ hV hR hG hD (by omega) (by omega)
    unfold sL
    cases es : sT tx cl vr rcS d (pos + 1) N with
    | inl e => trivial
    | inr a =>
      obtain ⟨p, E, C, N'⟩ := a
      rw [es] at ht hg
      have ht : pos + 1 < p ∧ p ≤ len := ht
      have hg : GN N' → GN N ∧ RG nu V 1 E C := hg
      have qp := hQ.r (p := p) (by omega)
      show match (if tx p = 41 then .inr (p + 1, k, E, C, N') else if tx p = 44 then (match sL tx cl vr rcS d m p (k + 1) N' with
        | .inl e => .inl e
        | .inr (p', k', E', C', N2) => .inr (p', k', E ++ E', C ++ C', N2)) else .inl p : RsL) with
        | .inl _ => True
        | .inr (_, k', E, C, N') => GN N' → GN N ∧ RG nu V (k' - k + 1) E C
      by_cases h41 : tx p = 41
      · rw [if_pos h41]
        intro hN
        rw [show k - k + 1 = 1 by omega]
        exact hg hN
      · rw [if_neg h41]
        by_cases h44 : tx p = 44
        · rw [if_pos h44]
          have pl := qp.2.2 (by omega)
          have hr := ih p (k + 1) N' (by omega) pl (by omega)
          have hb := sL_p (cl := cl) (vr := vr) (d := d) hQ hR hD m p (k + 1) N' (by omega) pl (by omega)
          cases er : sL tx cl vr rcS d m p (k + 1) N' with
          | inl e => trivial
          | inr b =>
            obtain ⟨p', k', E', C', N2⟩ := b
            rw [er] at hr hb
            obtain ⟨b1, b2, b3⟩ := hb
            intro hN
            obtain ⟨g1, g2⟩ := hr hN
            obtain ⟨g3, g4⟩ := hg g1
            have := g4.app (by omega) g2
            rw [show 1 + (k' - (k + 1) + 1) = k' - k + 1 by omega] at this
            exact ⟨g3, this⟩
        · rw [if_neg h44]
          trivial
theorem sB_g {tx : Int → Int} {len : Int} {cl : Bool} {vr : Vr} {nu : Int → List Int} {V : Int → Prop} {GN : List Int → Prop} (hQ : QX tx len) (hV : HG vr nu V GN) : ∀ f : Nat, HGL len nu V GN (sB tx cl vr f) (15 - f) := by
  intro f
  induction f with
  | zero => intro d pos N hD d1; omega
  | succ f ih =>
    intro d pos N hD d1 p0 p1
    have h := sL_g (cl := cl) (vr := vr) (d := d) hQ hV (sB_p hQ f) ih (by omega) 200 pos 1 N p0 p1 (by omega)
    show match sL tx cl vr (sB tx cl vr f) d 200 pos 1 N with
      | .inl _ => True
      | .inr (_, k, E, C, N') => GN N' → GN N ∧ RG nu V k E C
    cases er : sL tx cl vr (sB tx cl vr f) d 200 pos 1 N with
    | inl e => trivial
    | inr b =>
      obtain ⟨p', k', E', C', N2⟩ := b
      rw [er] at h
      intro hN
      obtain ⟨g1, g2⟩ := h hN
      rw [show k' - 1 + 1 = k' by omega] at g2
      exact ⟨g1, g2⟩
/-- a literal of the pool -/
def LG (nu : Int → List Int) (V : Int → Prop) (E C : List Int) : Prop := ∃ (x : Int) (E' C' : List Int), E = x :: E' ∧ C = mo x :: C' ∧ vx x ∧ 131072 ≤ x ∧ RG nu V (x % 256) E' C'
theorem LG.LI {nu : Int → List Int} {V : Int → Prop} {E C : List Int} (h : LG nu V E C) : LI V E := by
  obtain ⟨x, E', C', rfl, rfl, h1, h2, h3, h4, h5, h6⟩ := h
  have all : ∀ y ∈ x :: E', vx y ∧ (y < 32768 → V (y / 256)) := fun y hy => by
    rcases List.mem_cons.mp hy with hy | hy
    · rw [hy]; exact ⟨h1, fun h => by omega⟩
    · exact ⟨(h6 y hy).1, (h6 y hy).2.2⟩
  refine ⟨Nat.succ_pos _, by rw [gI_c0]; exact h2, fun j j0 j1 => ?_, fun j j0 j1 => all _ (gI_mem j0 j1), ?_⟩
  · rw [gI_cp j0]
    have j1 : j < ((E'.length + 1 : Nat) : Int) := j1
    exact (h6 _ (gI_mem (by omega) (by omega))).2.1
  · have ht : TL 1 (x :: E') := ⟨by decide, by rw [show (1 : Int) - 1 + x % 256 = x % 256 by omega]; exact h4⟩
    exact TL.Tm (x :: E') [] 1 ht
theorem ph_v {c dn k : Int} (hc : 65 ≤ c) (hc2 : c ≤ 90) (hd : b1R dn) (k0 : 0 ≤ k) (k1 : k < 128) : vx (ph c dn + k) ∧ 131072 ≤ ph c dn + k ∧ (ph c dn + k) % 256 = k ∧ mo (ph c dn + k) = 4096 + 128 * c + k := by
  unfold ph mo vx
  rcases hd with e | e <;> subst e
  · refine ⟨by omega, by omega, by omega, ?_⟩
    rw [if_neg (by omega), if_neg (by omega), if_neg (by omega)]
    omega
  · refine ⟨by omega, by omega, by omega, ?_⟩
    rw [if_neg (by omega), if_neg (by omega), if_neg (by omega)]
    omega
theorem sA_g {tx : Int → Int} {len : Int} {cl : Bool} {vr : Vr} {nu : Int → List Int} {V : Int → Prop} {GN : List Int → Prop} (hQ : QX tx len) (hV : HG vr nu V GN) {pos v : Int} {N : List Int} (p0 : 0 ≤ pos) (p1 : pos ≤ len) (hv : b1R v) : match sA tx cl vr v pos N with
    | .inl e => 0 ≤ e ∧ e ≤ len
    | .inr (p, E, C, N') => (pos < p ∧ p ≤ len) ∧ (GN N' → GN N ∧ LG nu V E C) := by
  unfold sA
  have l160 := hQ.2.1
  have q0 := hQ.r p0
  by_cases h65 : 65 ≤ tx pos ∧ tx pos ≤ 90
  · rw [if_pos h65]
    have pl := q0.2.2 (by omega)
    by_cases h40 : tx (pos + 1) = 40
    · rw [if_pos h40]
      have pl1 := (hQ.r (p := pos + 1) (by omega)).2.2 (by omega)
      have hp := sB_p (cl := cl) (vr := vr) hQ 15 0 (pos + 1) N (by decide) (by decide) (by omega) pl1
      have hg := sB_g (cl := cl) hQ hV 15 0 (pos + 1) N (by decide) (by decide) (by omega) pl1
      cases er : sB tx cl vr 15 0 (pos + 1) N with
      | inl e => rw [er] at hp; exact hp
      | inr b =>
        obtain ⟨p, k, E, C, N'⟩ := b
        rw [er] at hp hg
        obtain ⟨r1, r2, r3⟩ := hp
        have hh := ph_v h65.1 h65.2 hv (k := k) (by omega) (by omega)
        refine ⟨⟨by omega, r2⟩, fun hN => ?_⟩
        obtain ⟨g1, g2⟩ := hg hN
        exact ⟨g1, _, E, C, rfl, by rw [hh.2.2.2], hh.1, hh.2.1, by rw [hh.2.2.1]; exact g2⟩
    · rw [if_neg h40]
      have hh := ph_v h65.1 h65.2 hv (k := 0) (by omega) (by omega)
      rw [Int.add_zero, Int.add_zero] at hh
      exact ⟨⟨by omega, by omega⟩, fun hN => ⟨hN, _, [], [], rfl, by rw [hh.2.2.2], hh.1, hh.2.1, by rw [hh.2.2.1]; exact RG.nil⟩⟩
  · rw [if_neg h65]
    exact ⟨p0, p1⟩
