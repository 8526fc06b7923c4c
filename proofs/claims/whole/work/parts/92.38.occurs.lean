/-! does a variable stand below a place -/
def rc (u t : Int → Int) (x : Int) : Nat → Int → Prop
  | 0, p => u p = x
  | n + 1, p => u p = x ∨ (u p < 32768 ∧ 0 ≤ t (u p / 256) ∧ rc u t x n (t (u p / 256))) ∨ (32768 ≤ u p ∧ ∃ j : Nat, (j : Int) < u p % 256 ∧ rc u t x n (ag u p j))
def RE (u t : Int → Int) (x p : Int) : Prop := ∃ n, rc u t x n p
theorem RE.here {u t : Int → Int} {x p : Int} (h : u p = x) : RE u t x p := ⟨0, h⟩
theorem RE.var {u t : Int → Int} {x p : Int} (h1 : u p < 32768) (h2 : 0 ≤ t (u p / 256)) (h : RE u t x (t (u p / 256))) : RE u t x p := by
  obtain ⟨n, h⟩ := h
  exact ⟨n + 1, Or.inr (Or.inl ⟨h1, h2, h⟩)⟩
theorem RE.fn {u t : Int → Int} {x p : Int} {j : Nat} (h1 : 32768 ≤ u p) (h2 : (j : Int) < u p % 256) (h : RE u t x (ag u p j)) : RE u t x p := by
  obtain ⟨n, h⟩ := h
  exact ⟨n + 1, Or.inr (Or.inr ⟨h1, j, h2, h⟩)⟩
theorem RE.cases {u t : Int → Int} {x p : Int} (h : RE u t x p) : u p = x ∨ (u p < 32768 ∧ 0 ≤ t (u p / 256) ∧ RE u t x (t (u p / 256))) ∨ (32768 ≤ u p ∧ ∃ j : Nat, (j : Int) < u p % 256 ∧ RE u t x (ag u p j)) := by
  obtain ⟨n, h⟩ := h
  cases n with
  | zero => exact Or.inl h
  | succ n =>
    rcases h with h | ⟨h1, h2, h3⟩ | ⟨h1, j, h2, h3⟩
    · exact Or.inl h
    · exact Or.inr (Or.inl ⟨h1, h2, n, h3⟩)
    · exact Or.inr (Or.inr ⟨h1, j, h2, n, h3⟩)
theorem RE_st {u : Int → Int} {w1 w2 x : Int} {t : Int → Int} (hU : PU u w1 w2) (hP : PO u w1 w2 t) (hx : ¬ 0 ≤ t (x / 256)) : ∀ p, TP u w1 w2 p → (RE u t x p ↔ RE u t x (st u t p)) := by
  refine st_ind hU hP (fun p hp hc => ?_) (fun p hp hc hb ih => ?_)
  · rw [st_self hc]
  · rw [st_step hU hP hp hc hb, ← ih]
    constructor
    · intro h
      rcases h.cases with e | ⟨_, _, e⟩ | ⟨e, _⟩
      · rw [e] at hb; exact absurd hb hx
      · exact e
      · omega
    · exact fun h => h.var hc hb
theorem RE_end {u t : Int → Int} {x p : Int} (hx : x < 32768) (hc : ¬ (u p < 32768 ∧ 0 ≤ t (u p / 256))) (hv : u p < 32768 → u p % 256 = 0) : RE u t x p ↔ (u p = x ∨ ∃ j : Nat, (j : Int) < u p % 256 ∧ RE u t x (ag u p j)) := by
  constructor
  · intro h
    rcases h.cases with e | ⟨e1, e2, _⟩ | ⟨e, e2⟩
    · exact Or.inl e
    · exact absurd ⟨e1, e2⟩ hc
    · exact Or.inr e2
  · rintro (h | ⟨j, h1, h2⟩)
    · exact RE.here h
    · by_cases h3 : u p < 32768
      · have := hv h3; omega
      · exact h2.fn (by omega) h1
theorem g71_t {u : Int → Int} {w1 w2 x : Int} {S : St} {H : Int → Nat} (hU : PU u w1 w2) (hS : SC u w1 w2 S) (hB : OB u w1 w2 (S.A 22)) (hH : RV u w1 w2 (S.A 22) H) (hx : ¬ 0 ≤ S.A 22 (x / 256)) (hx3 : x < 32768) (hxR : inR x) : ∀ (n : Nat) (q d : Int), TP u w1 w2 q → H q < n → 0 ≤ d → d + H q ≤ 39 → (RE u (S.A 22) x q → g71 n S x q d = some 1) ∧ (¬ RE u (S.A 22) x q → g71 n S x q d = some 0) := by
  have hP : PO u w1 w2 (S.A 22) := ⟨hB, H, hH⟩
  obtain ⟨m9, hm9⟩ := FU_ge (n := 300) (by decide)
  intro n
  induction n with
  | zero => intro q d _ h; omega
  | succ n ih =>
    intro q d hq hn d0 hd
    have ok := st_ok hU hP q hq
    have e70 := g70_t hU hS hP hq
    have hle := ok.2.2 H hH
    have hpc := ok.1.pc hU
    have hl := hpc.lt hU
    have h15 := ar_15 hU ok.1
    rw [RE_st hU hP hx q hq, RE_end hx3 ok.2.1 (fun h => (ok.1.v hU h).2.2)]
    generalize hp : st u (S.A 22) q = p at *
    have hu := hS p hpc
    have fun1 : ∀ j : Nat, (j : Int) < u p % 256 → H (ag u p j) < H p := fun j hj => by
      by_cases h3 : u p < 32768
      · have := (ok.1.v hU h3).2.2; omega
      · exact hH.2.2 p ok.1 (by omega) j hj
    have loop : ∀ (r m j : Nat), (j : Int) + r = u p % 256 → r < m → ((∃ i : Nat, j ≤ i ∧ (i : Int) < u p % 256 ∧ RE u (S.A 22) x (ag u p i)) → g71L29 (g71 n) S x d p (u p % 256) m (ag u p j) j = some (.inr 1)) ∧ ((¬ ∃ i : Nat, j ≤ i ∧ (i : Int) < u p % 256 ∧ RE u (S.A 22) x (ag u p i)) → g71L29 (g71 n) S x d p (u p % 256) m (ag u p j) j = some (.inl ())) := by
      intro r
      induction r with
      | zero =>
        intro m j hj hm
        obtain ⟨m, rfl⟩ : ∃ k, m = k + 1 := ⟨m - 1, by omega⟩
        refine ⟨fun ⟨i, i0, i1, _⟩ => by omega, fun _ => ?_⟩
        unfold g71L29
        refine (gd_t (by first | exact ⟨by omega, by omega⟩ | exact ⟨by omega, by omega, by omega⟩ | exact ⟨by omega, by omega, by omega, by omega⟩ | omega | exact inR_to _ | assumption | decide)).trans ?_; refine (gd_t (by first | exact ⟨by omega, by omega⟩ | exact ⟨by omega, by omega, by omega⟩ | exact ⟨by omega, by omega, by omega, by omega⟩ | omega | exact inR_to _ | assumption | decide)).trans ?_
        exact if_neg (by omega)
      | succ r ihr =>
        intro m j hj hm
        obtain ⟨m, rfl⟩ : ∃ k, m = k + 1 := ⟨m - 1, by omega⟩
        have hjk : (j : Int) < u p % 256 := by omega
        have hf := fun1 j hjk
        have tp := (ag_TP hU ok.1 hjk).1
        have ih2 := ih (ag u p j) (d + 1) tp (by omega) (by omega) (by omega)
        have ihr := ihr m (j + 1) (by omega) (by omega)
        have e : g71L29 (g71 n) S x d p (u p % 256) (m + 1) (ag u p j) j = ob (g71 n S x (ag u p j) (d + 1)) (fun o20 => gd (inR o20) (if o20 = 0 then ob (g57 S 21 (ag u p j) 32) (fun o24 => g71L29 (g71 n) S x d p (u p % 256) m o24 ((j : Int) + 1)) else some (.inr 1))) := by
          rw [g71L29]
          refine (gd_t (by first | exact ⟨by omega, by omega⟩ | exact ⟨by omega, by omega, by omega⟩ | exact ⟨by omega, by omega, by omega, by omega⟩ | omega | exact inR_to _ | assumption | decide)).trans ?_; refine (gd_t (by first | exact ⟨by omega, by omega⟩ | exact ⟨by omega, by omega, by omega⟩ | exact ⟨by omega, by omega, by omega, by omega⟩ | omega | exact inR_to _ | assumption | decide)).trans ?_
          rw [if_pos hjk]
          refine (gd_t (by first | exact ⟨by omega, by omega⟩ | exact ⟨by omega, by omega, by omega⟩ | exact ⟨by omega, by omega, by omega, by omega⟩ | omega | exact inR_to _ | assumption | decide)).trans ?_
          rw [if_pos (by omega)]
        by_cases hr : RE u (S.A 22) x (ag u p j)
        · refine ⟨fun _ => ?_, fun h => absurd ⟨j, Nat.le_refl _, hjk, hr⟩ h⟩
          rw [e, ih2.1 hr]
          rfl
        · have iff1 : (∃ i : Nat, j ≤ i ∧ (i : Int) < u p % 256 ∧ RE u (S.A 22) x (ag u p i)) ↔ ∃ i : Nat, j + 1 ≤ i ∧ (i : Int) < u p % 256 ∧ RE u (S.A 22) x (ag u p i) := by
            constructor
            · rintro ⟨i, i0, i1, i2⟩
              refine ⟨i, ?_, i1, i2⟩
              by_cases hi : i = j
              · exact absurd (hi ▸ i2) hr
              · omega
            · rintro ⟨i, i0, i1, i2⟩
              exact ⟨i, by omega, i1, i2⟩
          rw [iff1, e, ih2.2 hr]
          have e2 : ob (some (0 : Int)) (fun o20 => gd (inR o20) (if o20 = 0 then ob (g57 S 21 (ag u p j) 32) (fun o24 => g71L29 (g71 n) S x d p (u p % 256) m o24 ((j : Int) + 1)) else some (.inr 1))) = g71L29 (g71 n) S x d p (u p % 256) m (ag u p (j + 1)) ((j + 1 : Nat) : Int) := by
            show ob (g57 S 21 (ag u p j) 32) (fun o24 => g71L29 (g71 n) S x d p (u p % 256) m o24 ((j : Int) + 1)) = _
            rw [end_c hU hS tp]
            rfl
          rw [e2]
          exact ihr
    have lp := loop (u p % 256).toNat FU 0 (by omega) (by omega)
    have head : ∀ z, obr (g71L29 (g71 n) S x d p (u p % 256) FU (ag u p 0) ((0 : Nat) : Int)) (fun o26 => gd (inR x) (if u p = x then some 1 else some 0)) = z → g71 (n + 1) S x q d = z := by
      intro z hz
      show g71b (g71 n) S x q d = z
      unfold g71b
      rw [e70]
      refine (ob_t rfl).trans ?_
      refine (gd_t (by first | exact ⟨by omega, by omega⟩ | exact ⟨by omega, by omega, by omega⟩ | exact ⟨by omega, by omega, by omega, by omega⟩ | omega | exact inR_to _ | assumption | decide)).trans ?_
      rw [hu]
      exact hz
    by_cases ha : ∃ i : Nat, (i : Int) < u p % 256 ∧ RE u (S.A 22) x (ag u p i)
    · refine ⟨fun _ => head _ ?_, fun h => absurd (Or.inr ha) h⟩
      obtain ⟨i, i1, i2⟩ := ha
      rw [lp.1 ⟨i, by omega, i1, i2⟩]
      rfl
    · have lp := lp.2 (fun ⟨i, i0, i1, i2⟩ => ha ⟨i, i1, i2⟩)
      by_cases hux : u p = x
      · refine ⟨fun _ => head _ ?_, fun h => absurd (Or.inl hux) h⟩
        rw [lp]
        refine (obr_l rfl).trans ?_
        refine (gd_t (by first | exact ⟨by omega, by omega⟩ | exact ⟨by omega, by omega, by omega⟩ | exact ⟨by omega, by omega, by omega, by omega⟩ | omega | exact inR_to _ | assumption | decide)).trans ?_
        rw [if_pos hux]
      · refine ⟨fun h => ?_, fun _ => head _ ?_⟩
        · rcases h with h | h
          · exact absurd h hux
          · exact absurd h ha
        · rw [lp]
          refine (obr_l rfl).trans ?_
          refine (gd_t (by first | exact ⟨by omega, by omega⟩ | exact ⟨by omega, by omega, by omega⟩ | exact ⟨by omega, by omega, by omega, by omega⟩ | omega | exact inR_to _ | assumption | decide)).trans ?_
          rw [if_neg hux]
/-! the other's stack -/
def SK (T : St) (c : Nat) : List Int → Prop
  | [] => True
  | p :: s => T.A c s.length = p ∧ SK T c s
theorem SK.c {T T' : St} {c : Nat} : ∀ s : List Int, (∀ i : Int, 0 ≤ i → i < s.length → T'.A c i = T.A c i) → SK T c s → SK T' c s
  | [], _, _ => trivial
  | p :: s, h, h2 => ⟨(h s.length (by omega) (by show (s.length : Int) < ((s.length + 1 : Nat) : Int); omega)).trans h2.1, SK.c s (fun i i0 i1 => h i i0 (by show i < ((s.length + 1 : Nat) : Int); omega)) h2.2⟩
/-- the terms of p laid upon s -/
def pa (u : Int → Int) (p : Int) : Nat → List Int → List Int
  | 0, s => s
  | k + 1, s => ag u p k :: pa u p k s
theorem pa_len (u : Int → Int) (p : Int) (s : List Int) : ∀ k, (pa u p k s).length = k + s.length
  | 0 => (Nat.zero_add _).symm
  | k + 1 => by show (pa u p k s).length + 1 = _; rw [pa_len u p s k]; omega
theorem pa_mem {u : Int → Int} {p q : Int} {s : List Int} : ∀ k, q ∈ pa u p k s ↔ (∃ j : Nat, j < k ∧ q = ag u p j) ∨ q ∈ s
  | 0 => ⟨Or.inr, fun h => h.elim (fun ⟨j, h, _⟩ => absurd h (Nat.not_lt_zero _)) id⟩
  | k + 1 => by
    show q ∈ ag u p k :: pa u p k s ↔ _
    rw [List.mem_cons, pa_mem k]
    constructor
    · rintro (h | ⟨j, h1, h2⟩ | h)
      · exact Or.inl ⟨k, by omega, h⟩
      · exact Or.inl ⟨j, by omega, h2⟩
      · exact Or.inr h
    · rintro (⟨j, h1, h2⟩ | h)
      · by_cases hj : j = k
        · exact Or.inl (hj ▸ h2)
        · exact Or.inr (Or.inl ⟨j, by omega, h2⟩)
      · exact Or.inr (Or.inr h)
def ms (H : Int → Nat) : List Int → Nat
  | [] => 0
  | p :: s => 16 ^ H p + ms H s
def IX (u : Int → Int) (w1 w2 : Int) (H : Int → Nat) : List Int → Prop
  | [] => True
  | p :: s => TP u w1 w2 p ∧ s.length + 15 * H p ≤ 465 ∧ IX u w1 w2 H s
theorem pa_ms {u : Int → Int} {H : Int → Nat} {p : Int} {s : List Int} {h : Nat} : ∀ k : Nat, (∀ j : Nat, j < k → H (ag u p j) ≤ h) → ms H (pa u p k s) ≤ k * 16 ^ h + ms H s
  | 0, _ => by show ms H s ≤ _; omega
  | k + 1, hk => by
    have ih := pa_ms (s := s) k (fun j hj => hk j (by omega))
    have h1 : 16 ^ H (ag u p k) ≤ 16 ^ h := Nat.pow_le_pow_right (by decide) (hk k (by omega))
    show 16 ^ H (ag u p k) + ms H (pa u p k s) ≤ (k + 1) * 16 ^ h + ms H s
    rw [Nat.succ_mul]
    omega
theorem pa_IX {u : Int → Int} {w1 w2 p : Int} {H : Int → Nat} {s : List Int} {h : Nat} (hI : IX u w1 w2 H s) (hl : s.length + 15 * h ≤ 465) : ∀ k : Nat, k ≤ 15 → (∀ j : Nat, j < k → H (ag u p j) + 1 ≤ h ∧ TP u w1 w2 (ag u p j)) → IX u w1 w2 H (pa u p k s)
  | 0, _, _ => hI
  | k + 1, hk, hj => by
    have h1 := hj k (by omega)
    refine ⟨h1.2, ?_, pa_IX hI hl k (by omega) (fun j hjk => hj j (by omega))⟩
    rw [pa_len]
    omega
theorem g145L44_t {u : Int → Int} {w1 w2 p v1 : Int} {s : List Int} (hU : PU u w1 w2) (hp : TP u w1 w2 p) (hs : s.length ≤ 500) : ∀ (r n j : Nat) (T : St), SM u w1 w2 T → SK T 65 (pa u p j s) → (j : Int) + r = u p % 256 → r < n → ∃ T', g145L44 v1 p n (((pa u p j s).length : Int) - 1) j T = some (((pa u p (u p % 256).toNat s).length : Int) - 1, T') ∧ Fr [65] T T' ∧ SK T' 65 (pa u p (u p % 256).toNat s) := by
  have h15 := ar_15 hU hp
  have hl := (hp.pc hU).lt hU
  intro r
  induction r with
  | zero =>
    intro n j T hT hK hj hn
    obtain ⟨n, rfl⟩ : ∃ k, n = k + 1 := ⟨n - 1, by omega⟩
    have e : (u p % 256).toNat = j := by omega
    rw [e]
    refine ⟨T, ?_, Fr.refl _ _, hK⟩
    unfold g145L44
    refine (gd_t (by first | exact ⟨by omega, by omega⟩ | exact ⟨by omega, by omega, by omega⟩ | exact ⟨by omega, by omega, by omega, by omega⟩ | omega | exact inR_to _ | assumption | decide)).trans ?_
    rw [m123 hU hT (hp.pc hU)]
    refine (ob_t rfl).trans ?_
    refine (gd_t (by first | exact ⟨by omega, by omega⟩ | exact ⟨by omega, by omega, by omega⟩ | exact ⟨by omega, by omega, by omega, by omega⟩ | omega | exact inR_to _ | assumption | decide)).trans ?_; refine (gd_t (by first | exact ⟨by omega, by omega⟩ | exact ⟨by omega, by omega, by omega⟩ | exact ⟨by omega, by omega, by omega, by omega⟩ | omega | exact inR_to _ | assumption | decide)).trans ?_
    exact if_neg (by omega)
  | succ r ih =>
    intro n j T hT hK hj hn
    obtain ⟨n, rfl⟩ : ∃ k, n = k + 1 := ⟨n - 1, by omega⟩
    have hjk : (j : Int) < u p % 256 := by omega
    have tl := ((ag_TP hU hp hjk).1.pc hU).lt hU
    have pl := pa_len u p s j
    have e65 : (T.a 65 (pa u p j s).length (ag u p j)).A 65 = upI (T.A 65) (pa u p j s).length (ag u p j) := aA_up (by omega)
    obtain ⟨T', t1, t2, t3⟩ := ih n (j + 1) (T.a 65 (pa u p j s).length (ag u p j)) (fun q hq => hT q hq) ⟨by rw [e65, upI_e], hK.c _ (fun i i0 i1 => by rw [e65, upI_n (by omega)])⟩ (by omega) (by omega)
    refine ⟨T', ?_, (Fr.a (by decide)).trans t2, t3⟩
    rw [g145L44]
    refine (gd_t (by first | exact ⟨by omega, by omega⟩ | exact ⟨by omega, by omega, by omega⟩ | exact ⟨by omega, by omega, by omega, by omega⟩ | omega | exact inR_to _ | assumption | decide)).trans ?_
    rw [m123 hU hT (hp.pc hU)]
    refine (ob_t rfl).trans ?_
    refine (gd_t (by first | exact ⟨by omega, by omega⟩ | exact ⟨by omega, by omega, by omega⟩ | exact ⟨by omega, by omega, by omega, by omega⟩ | omega | exact inR_to _ | assumption | decide)).trans ?_; refine (gd_t (by first | exact ⟨by omega, by omega⟩ | exact ⟨by omega, by omega, by omega⟩ | exact ⟨by omega, by omega, by omega, by omega⟩ | omega | exact inR_to _ | assumption | decide)).trans ?_
    rw [if_pos hjk, g124_t hU hT hp hjk]
    refine (ob_t rfl).trans ?_
    refine (gd_t (by first | exact ⟨by omega, by omega⟩ | exact ⟨by omega, by omega, by omega⟩ | exact ⟨by omega, by omega, by omega, by omega⟩ | omega | exact inR_to _ | assumption | decide)).trans ?_
    rw [show ((pa u p j s).length : Int) - 1 + 1 = (pa u p j s).length by omega]
    have e3 : ((pa u p (j + 1) s).length : Int) - 1 = (pa u p j s).length := by
      show (((pa u p j s).length + 1 : Nat) : Int) - 1 = _
      omega
    rw [e3] at t1
    exact t1
theorem g145L9_t {u : Int → Int} {w1 w2 x : Int} {H : Int → Nat} {b : Int → Int} (hU : PU u w1 w2) (hB : OB u w1 w2 b) (hH : RV u w1 w2 b H) (hx : ¬ 0 ≤ b (x / 256)) (hx0 : 0 ≤ x) (hx3 : x < 32768) (hx256 : x % 256 = 0) : ∀ (N n : Nat) (s : List Int) (T : St), SM u w1 w2 T → T.A 47 = b → SK T 65 s → IX u w1 w2 H s → ms H s ≤ N → N < n → ∃ T', Fr [65] T T' ∧ ((∃ p ∈ s, RE u b x p) → g145L9 (x / 256) n ((s.length : Int) - 1) T = some (.inr (1, T'))) ∧ ((¬ ∃ p ∈ s, RE u b x p) → g145L9 (x / 256) n ((s.length : Int) - 1) T = some (.inl T')) := by
  have hP : PO u w1 w2 b := ⟨hB, H, hH⟩
  obtain ⟨m9, hm9⟩ := FU_ge (n := 300) (by decide)
  intro N
  induction N with
  | zero =>
    intro n s T hT h47 hK hI hm hn
    obtain ⟨n, rfl⟩ : ∃ k, n = k + 1 := ⟨n - 1, by omega⟩
    cases s with
    | nil =>
      refine ⟨T, Fr.refl _ _, fun ⟨p, hp, _⟩ => absurd hp List.not_mem_nil, fun _ => ?_⟩
      show g145L9 (x / 256) (n + 1) (((0 : Nat) : Int) - 1) T = _
      unfold g145L9
      refine (gd_t (by first | exact ⟨by omega, by omega⟩ | exact ⟨by omega, by omega, by omega⟩ | exact ⟨by omega, by omega, by omega, by omega⟩ | omega | exact inR_to _ | assumption | decide)).trans ?_
      exact if_pos (by omega)
    | cons p s =>
      have : 0 < 16 ^ H p := Nat.pow_pos (by decide)
      have hm : 16 ^ H p + ms H s ≤ 0 := hm
      omega
  | succ N ih =>
    intro n s T hT h47 hK hI hm hn
    obtain ⟨n, rfl⟩ : ∃ k, n = k + 1 := ⟨n - 1, by omega⟩
    cases s with
    | nil =>
      refine ⟨T, Fr.refl _ _, fun ⟨p, hp, _⟩ => absurd hp List.not_mem_nil, fun _ => ?_⟩
      show g145L9 (x / 256) (n + 1) (((0 : Nat) : Int) - 1) T = _
      unfold g145L9
      refine (gd_t (by first | exact ⟨by omega, by omega⟩ | exact ⟨by omega, by omega, by omega⟩ | exact ⟨by omega, by omega, by omega, by omega⟩ | omega | exact inR_to _ | assumption | decide)).trans ?_
      exact if_pos (by omega)
    | cons p s =>
      obtain ⟨k1, k2⟩ := hK
      obtain ⟨i1, i2, i3⟩ := hI
      have hm : 16 ^ H p + ms H s ≤ N + 1 := hm
      have ok := st_ok hU hP p i1
      have hle := ok.2.2 H hH
      have h15 := ar_15 hU ok.1
      have e121 : g121 T p = some (st u b p) := by
        have := g121_t hU hT (by rw [h47]; exact hP) i1
        rw [h47] at this
        exact this
      have hpc := ok.1.pc hU
      have hlt := hpc.lt hU
      have hRE := RE_st hU hP hx p i1
      rw [RE_end hx3 ok.2.1 (fun h => (ok.1.v hU h).2.2)] at hRE
      generalize hq : st u b p = q at *
      have u1 := hT q hpc
      have hmo : mo (u q) = x / 256 ↔ u q = x := by
        have v := (hU.2.2.2.2 q hpc).1
        constructor
        · intro e
          by_cases h3 : u q < 32768
          · rw [mo_var h3] at e
            unfold vx at v
            omega
          · have := mo_big v h3
            omega
        · intro e
          rw [e, mo_var hx3]
      have head : ∀ z, (if mo (u q) = x / 256 then some (.inr (1, T)) else ob (g145L44 (x / 256) q FU ((s.length : Int) - 1) 0 T) (fun o32 => g145L9 (x / 256) n o32.1 o32.2)) = z → g145L9 (x / 256) (n + 1) (((p :: s).length : Int) - 1) T = z := by
        intro z hz
        show g145L9 (x / 256) (n + 1) (((s.length + 1 : Nat) : Int) - 1) T = z
        rw [show ((s.length + 1 : Nat) : Int) - 1 = s.length by omega, g145L9]
        refine (gd_t (by first | exact ⟨by omega, by omega⟩ | exact ⟨by omega, by omega, by omega⟩ | exact ⟨by omega, by omega, by omega, by omega⟩ | omega | exact inR_to _ | assumption | decide)).trans ?_
        rw [if_neg (by omega)]
        refine (gd_t (by first | exact ⟨by omega, by omega⟩ | exact ⟨by omega, by omega, by omega⟩ | exact ⟨by omega, by omega, by omega, by omega⟩ | omega | exact inR_to _ | assumption | decide)).trans ?_
        rw [k1, e121]
        refine (ob_t rfl).trans ?_
        refine (gd_t (by first | exact ⟨by omega, by omega⟩ | exact ⟨by omega, by omega, by omega⟩ | exact ⟨by omega, by omega, by omega, by omega⟩ | omega | exact inR_to _ | assumption | decide)).trans ?_; refine (gd_t (by first | exact ⟨by omega, by omega⟩ | exact ⟨by omega, by omega, by omega⟩ | exact ⟨by omega, by omega, by omega, by omega⟩ | omega | exact inR_to _ | assumption | decide)).trans ?_
        rw [u1]
        exact hz
      by_cases hux : u q = x
      · refine ⟨T, Fr.refl _ _, fun _ => head _ ?_, fun h => absurd ⟨p, List.mem_cons_self, hRE.mpr (Or.inl hux)⟩ h⟩
        rw [if_pos (hmo.mpr hux)]
      · obtain ⟨T1, t1, t2, t3⟩ := g145L44_t (v1 := x / 256) (s := s) hU ok.1 (by omega) (u q % 256).toNat FU 0 T hT k2 (by omega) (by omega)
        have t1 : g145L44 (x / 256) q FU ((s.length : Int) - 1) 0 T = some (((pa u q (u q % 256).toNat s).length : Int) - 1, T1) := t1
        have fun1 : ∀ j : Nat, j < (u q % 256).toNat → H (ag u q j) + 1 ≤ H q ∧ TP u w1 w2 (ag u q j) := fun j hj => by
          refine ⟨?_, (ag_TP hU ok.1 (by omega)).1⟩
          by_cases h3 : u q < 32768
          · have := (ok.1.v hU h3).2.2; omega
          · exact hH.2.2 q ok.1 (by omega) j (by omega)
        have hms : ms H (pa u q (u q % 256).toNat s) ≤ N := by
          by_cases hk : (u q % 256).toNat = 0
          · rw [hk]
            show ms H s ≤ N
            have : 0 < 16 ^ H p := Nat.pow_pos (by decide)
            omega
          · have h1 := (fun1 0 (by omega)).1
            obtain ⟨h, hh⟩ : ∃ h, H q = h + 1 := ⟨H q - 1, by omega⟩
            have a1 := pa_ms (H := H) (u := u) (p := q) (s := s) (h := h) (u q % 256).toNat (fun j hj => by have := (fun1 j hj).1; omega)
            have a2 : (u q % 256).toNat * 16 ^ h ≤ 15 * 16 ^ h := Nat.mul_le_mul_right _ (by omega)
            have a3 : 16 ^ (h + 1) ≤ 16 ^ H p := Nat.pow_le_pow_right (by decide) (by omega)
            rw [Nat.pow_succ] at a3
            have a4 : 0 < 16 ^ h := Nat.pow_pos (by decide)
            omega
        obtain ⟨T2, v1, v2, v3⟩ := ih n (pa u q (u q % 256).toNat s) T1 (fun z hz => by rw [t2.A (show 46 ∉ [65] by decide)]; exact hT z hz) (by rw [t2.A (by decide)]; exact h47) t3 (pa_IX i3 (h := H q) (by omega) _ (by omega) fun1) hms (by omega)
        have iff1 : (∃ z ∈ p :: s, RE u b x z) ↔ ∃ z ∈ pa u q (u q % 256).toNat s, RE u b x z := by
          constructor
          · rintro ⟨z, hz, hzR⟩
            rcases List.mem_cons.mp hz with e | e
            · rw [e, hRE] at hzR
              rcases hzR with e | ⟨j, j1, j2⟩
              · exact absurd e hux
              · exact ⟨_, (pa_mem _).mpr (Or.inl ⟨j, by omega, rfl⟩), j2⟩
            · exact ⟨z, (pa_mem _).mpr (Or.inr e), hzR⟩
          · rintro ⟨z, hz, hzR⟩
            rcases (pa_mem _).mp hz with ⟨j, j1, e⟩ | e
            · rw [e] at hzR
              exact ⟨p, List.mem_cons_self, hRE.mpr (Or.inr ⟨j, by omega, hzR⟩)⟩
            · exact ⟨z, List.mem_cons_of_mem _ e, hzR⟩
        rw [iff1]
        have step : g145L9 (x / 256) (n + 1) (((p :: s).length : Int) - 1) T = g145L9 (x / 256) n (((pa u q (u q % 256).toNat s).length : Int) - 1) T1 := by
          refine head _ ?_
          rw [if_neg (fun e => hux (hmo.mp e)), t1]
          rfl
        rw [step]
        exact ⟨T2, t2.trans v1, v2, v3⟩
theorem g145_t {u : Int → Int} {w1 w2 x q : Int} {T : St} (hU : PU u w1 w2) (hT : SM u w1 w2 T) (hP : PO u w1 w2 (T.A 47)) (hx : ¬ 0 ≤ T.A 47 (x / 256)) (hx0 : 0 ≤ x) (hx3 : x < 32768) (hx256 : x % 256 = 0) (hq : TP u w1 w2 q) : ∃ T', Fr [65] T T' ∧ (RE u (T.A 47) x q → g145 T (x / 256) q = some (1, T')) ∧ (¬ RE u (T.A 47) x q → g145 T (x / 256) q = some (0, T')) := by
  obtain ⟨hB, H, hH⟩ := hP
  have h32 := hH.1 q hq
  have hl := (hq.pc hU).lt hU
  have e65 : (T.a 65 0 q).A 65 = upI (T.A 65) 0 q := aA_up (by omega)
  have hpow : 16 ^ H q ≤ 16 ^ 32 := Nat.pow_le_pow_right (by decide) (by omega)
  obtain ⟨m9, hm9⟩ := FU_ge (n := 16 ^ 32 + 1) (by decide)
  obtain ⟨T', t1, t2, t3⟩ := g145L9_t hU hB hH hx hx0 hx3 hx256 (16 ^ H q) FU [q] (T.a 65 0 q) (fun z hz => hT z hz) rfl ⟨by show (T.a 65 0 q).A 65 0 = q; rw [e65, upI_e], trivial⟩ ⟨hq, by show 0 + 15 * H q ≤ 465; omega, trivial⟩ (by show 16 ^ H q + 0 ≤ _; omega) (by omega)
  have iff1 : (∃ p ∈ [q], RE u (T.A 47) x p) ↔ RE u (T.A 47) x q := ⟨fun ⟨p, hp, h⟩ => (List.mem_singleton.mp hp) ▸ h, fun h => ⟨q, List.mem_singleton.mpr rfl, h⟩⟩
  rw [iff1] at t2 t3
  refine ⟨T', (Fr.a (by decide)).trans t1, fun h => ?_, fun h => ?_⟩
  · have := t2 h
    unfold g145
    have this : g145L9 (x / 256) FU 0 (T.a 65 0 q) = some (.inr (1, T')) := this
    rw [this]
    rfl
  · have := t3 h
    unfold g145
    have this : g145L9 (x / 256) FU 0 (T.a 65 0 q) = some (.inl T') := this
    rw [this]
    rfl
