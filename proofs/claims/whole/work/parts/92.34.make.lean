/-- what make has laid: the literals a -/
def ML (V : Int → Prop) (r : Int → Int) (T : St) (a : List (List Int)) : Prop := a.length ≤ 4 ∧ (∀ k : Int, 0 ≤ k → k < a.length → T.A 39 (496 + k) = 7936 + os a k ∧ T.A 40 (496 + k) = dn (gI (lt a k) 0)) ∧ (∀ p : Int, 0 ≤ p → p < a.flatten.length → T.A 38 (7936 + p) = mr r (gI a.flatten p)) ∧ ∀ w ∈ a, w.length ≤ 16 ∧ LI V w
/-- r tells variables apart -/
def RI (V : Int → Prop) (r : Int → Int) : Prop := (∀ x, V x → 0 ≤ r x ∧ r x < 128) ∧ ∀ x y, V x → V y → r x = r y → x = y
theorem mr_inj {V : Int → Prop} {r : Int → Int} (hr : RI V r) {x y : Int} (hx : vx x) (hy : vx y) (vx1 : x < 32768 → V (x / 256)) (vy1 : y < 32768 → V (y / 256)) (hax : x < 131072) (e : mr r x = mr r y) : x = y := by
  unfold mr at e
  by_cases h1 : x < 32768
  · rw [if_pos h1] at e
    have a1 := hr.1 _ (vx1 h1)
    by_cases h2 : y < 32768
    · rw [if_pos h2] at e
      have := hr.2 _ _ (vx1 h1) (vy1 h2) e
      unfold vx at hx hy
      omega
    · rw [if_neg h2] at e
      have := mo_big hy h2
      omega
  · rw [if_neg h1] at e
    have := mo_big hx h1
    by_cases h2 : y < 32768
    · rw [if_pos h2] at e
      have a1 := hr.1 _ (vy1 h2)
      omega
    · rw [if_neg h2] at e
      exact (mo_eq hx hy hax).mp e
theorem mr_ar {V : Int → Prop} {r : Int → Int} (hr : RI V r) {x : Int} (hx : vx x) (vx1 : x < 32768 → V (x / 256)) : arM (mr r x) = x % 256 := by
  unfold mr
  split
  · next h =>
    have := hr.1 _ (vx1 h)
    unfold arM vx at *
    rw [if_pos (by omega)]
    omega
  · exact mo_ar hx
/-- the new literal w stands behind a: does it lie there already? -/
def MN (V : Int → Prop) (r : Int → Int) (T : St) (a : List (List Int)) (w : List Int) : Prop := ML V r T a ∧ LI V w ∧ w.length ≤ 16 ∧ T.A 39 (496 + a.length) = 7936 + a.flatten.length ∧ ∀ j : Int, 0 ≤ j → j < w.length → T.A 38 (7936 + a.flatten.length + j) = mr r (gI w j)
theorem fw_at {a : List (List Int)} {w : List Int} {k j : Int} (k0 : 0 ≤ k) (k1 : k < a.length) (j0 : 0 ≤ j) (j1 : j < (lt a k).length) : gI (a.flatten ++ w) (os a k + j) = gI (lt a k) j := by
  have e := os_s k0 k1
  have b := os_le (a := a) (k := k + 1) (by omega) (by omega)
  have b0 := os_le (a := a) (k := k) (by omega) (by omega)
  rw [gI_l (by omega) (by omega)]
  exact lt_at k0 k1 j0 j1
theorem ML.fl {V : Int → Prop} {r : Int → Int} {T : St} {a : List (List Int)} (h : ML V r T a) (p : Int) (p0 : 0 ≤ p) (p1 : p < a.flatten.length) : vx (gI a.flatten p) ∧ (gI a.flatten p < 32768 → V (gI a.flatten p / 256)) := by
  obtain ⟨k, j, k0, k1, j0, j1, e⟩ := fl_in a p p0 p1
  rw [e, lt_at k0 k1 j0 j1]
  exact (h.2.2.2 _ (lt_mem k0 k1)).2.2.2.2.1 j j0 j1
theorem ML.len {V : Int → Prop} {r : Int → Int} {T : St} {a : List (List Int)} (h : ML V r T a) : (a.flatten.length : Int) ≤ 64 ∧ (a.length < 4 → (a.flatten.length : Int) ≤ 48) := by
  have h16 := os_16 (fun w hw => (h.2.2.2 w hw).1) a.length (by omega)
  rw [os_n] at h16
  have := h.1
  constructor
  · omega
  · intro; omega
theorem same_t {V : Int → Prop} {r : Int → Int} (hr : RI V r) {T : St} {a : List (List Int)} {w : List Int} (h : MN V r T a w) {k : Int} (k0 : 0 ≤ k) (k1 : k < a.length) : ∃ b, g126 T (496 + a.length) (496 + k) = some b ∧ b1R b ∧ ((dn (gI (lt a k) 0) = dn (gI w 0)) → (b = 1 ↔ lt a k = w)) := by
  obtain ⟨hM, hw, w16, p39, p38⟩ := h
  have hl := hM.len
  have n4 := hM.1
  have hflv := hM.fl
  obtain ⟨_, m1, m2, m3⟩ := hM
  have e := os_s k0 k1
  have b2 := os_le (a := a) (k := k + 1) (by omega) (by omega)
  have b0 := os_le (a := a) (k := k) (by omega) (by omega)
  have lk := (m3 _ (lt_mem k0 k1)).2
  have lk16 := (m3 _ (lt_mem k0 k1)).1
  have cell : ∀ p : Int, 0 ≤ p → p < a.flatten.length + w.length → T.A 38 (7936 + p) = mr r (gI (a.flatten ++ w) p) := fun p p0 p1 => by
    by_cases hp : p < a.flatten.length
    · rw [gI_l hp p0]; exact m2 p p0 hp
    · rw [gI_r (by omega)]
      have := p38 (p - a.flatten.length) (by omega) (by omega)
      rw [show 7936 + (a.flatten.length : Int) + (p - a.flatten.length) = 7936 + p by omega] at this
      exact this
  have vw : ∀ p : Int, 0 ≤ p → p < a.flatten.length + w.length → vx (gI (a.flatten ++ w) p) ∧ (gI (a.flatten ++ w) p < 32768 → V (gI (a.flatten ++ w) p / 256)) := fun p p0 p1 => by
    by_cases hp : p < a.flatten.length
    · rw [gI_l hp p0]; exact hflv p p0 hp
    · rw [gI_r (by omega)]; exact hw.2.2.2.1 _ (by omega) (by omega)
  have hT : Tm (fun q => arM ((T.A0 38) q).toInt) w.length 1 (7936 + a.flatten.length) := by
    have := Tm_ext (d := 7936 + a.flatten.length) (be := fun q => arM (T.A 38 q)) w.length 1 0 (fun i i0 i1 => by
      show gI w (0 + i) % 256 = arM (T.A 38 (0 + (7936 + a.flatten.length) + i))
      rw [show 0 + (7936 + (a.flatten.length : Int)) + i = 7936 + a.flatten.length + i by omega, p38 i i0 i1, show 0 + i = i by omega]
      have := hw.2.2.2.1 i i0 i1
      rw [mr_ar hr this.1 this.2]) hw.2.2.2.2
    rw [show 0 + (7936 + (a.flatten.length : Int)) = 7936 + a.flatten.length by omega] at this
    exact this
  have h125 := g125_t (S := T) (b := 38) (N := 8032) (f := T.A0 38) rfl (by decide) hT (by omega) (by omega)
  have hz := g126L33_t (S := T) (a := 7936 + a.flatten.length) (b := 7936 + os a k) (n := w.length) (by omega) (by omega) (by omega) (by omega) w.length FU 0 (by omega) (by omega) (by obtain ⟨m9, hm9⟩ := FU_ge (n := 100) (by decide); omega) (fun j j0 j1 => absurd j1 (by omega))
  have head : ∀ z : Option Int, ob (g126L33 T (7936 + a.flatten.length) (7936 + os a k) w.length FU 1 0) (fun o13 => gd (b1R o13) (some o13)) = z → g126 T (496 + a.length) (496 + k) = z := by
    intro z hz
    unfold g126
    refine (gd_t (by first | exact ⟨by omega, by omega⟩ | exact ⟨by omega, by omega, by omega⟩ | exact ⟨by omega, by omega, by omega, by omega⟩ | omega | exact inR_to _ | assumption | decide)).trans ?_; refine (gd_t (by first | exact ⟨by omega, by omega⟩ | exact ⟨by omega, by omega, by omega⟩ | exact ⟨by omega, by omega, by omega, by omega⟩ | omega | exact inR_to _ | assumption | decide)).trans ?_
    rw [p39, (m1 k k0 k1).1, h125]
    refine (ob_t rfl).trans ?_
    rw [show 7936 + (a.flatten.length : Int) + w.length - (7936 + a.flatten.length) = w.length by omega]
    exact hz
  by_cases hq : ∀ j : Int, 0 ≤ j → j < w.length → T.A 38 (7936 + a.flatten.length + j) = T.A 38 (7936 + os a k + j)
  · refine ⟨1, head _ (by rw [hz.1 hq]; rfl), Or.inr rfl, fun hd => ⟨fun _ => ?_, fun _ => rfl⟩⟩
    have sym : ∀ j : Int, 0 ≤ j → j < w.length → gI (a.flatten ++ w) (os a k + j) = gI w j := fun j j0 j1 => by
      have e1 := hq j j0 j1
      rw [p38 j j0 j1, show 7936 + os a k + j = 7936 + (os a k + j) by omega, cell _ (by omega) (by omega)] at e1
      have v1 := hw.2.2.2.1 j j0 j1
      have v2 := vw (os a k + j) (by omega) (by omega)
      by_cases hj : j = 0
      · subst hj
        rw [fw_at k0 k1 (by omega) (by have := lk.1; omega)] at e1 v2 ⊢
        have x1 := lk.2.1
        have x2 := hw.2.1
        unfold mr at e1
        rw [if_neg (by omega), if_neg (by omega)] at e1
        exact (mo_inj v2.1 v1.1 (by omega) (fun _ => hd)).mp e1.symm
      · exact (mr_inj hr v1.1 v2.1 v1.2 v2.2 (hw.2.2.1 j (by omega) j1) e1).symm
    have t1 : Tm (ax (gI (a.flatten ++ w))) (lt a k).length 1 (os a k) := by
      have := Tm_ext (d := os a k) (be := ax (gI (a.flatten ++ w))) (lt a k).length 1 0 (fun i i0 i1 => by
        show gI (lt a k) (0 + i) % 256 = gI (a.flatten ++ w) (0 + os a k + i) % 256
        rw [show 0 + os a k + i = os a k + i by omega, fw_at k0 k1 i0 i1, show 0 + i = i by omega]) lk.2.2.2.2
      rw [show 0 + os a k = os a k by omega] at this
      exact this
    have t2 : Tm (ax (gI (a.flatten ++ w))) w.length 1 a.flatten.length := by
      have := Tm_ext (d := a.flatten.length) (be := ax (gI (a.flatten ++ w))) w.length 1 0 (fun i i0 i1 => by
        show gI w (0 + i) % 256 = gI (a.flatten ++ w) (0 + a.flatten.length + i) % 256
        rw [gI_r (by omega), show (0 : Int) + a.flatten.length + i - a.flatten.length = 0 + i by omega]) hw.2.2.2.2
      rw [show (0 : Int) + a.flatten.length = a.flatten.length by omega] at this
      exact this
    have el := Tm_pre t1 t2 (fun j j0 j1 j2 => by
      rw [sym j j0 j2, gI_r (by omega), show (a.flatten.length : Int) + j - a.flatten.length = j by omega])
    exact gI_ext el (fun j j0 j1 => by
      rw [← fw_at (w := w) k0 k1 j0 j1]
      exact sym j j0 (by omega))
  · refine ⟨0, head _ (by rw [hz.2 hq]; rfl), Or.inl rfl, fun hd => ⟨fun h => absurd h (by decide), fun e2 => absurd (fun j j0 j1 => ?_) hq⟩⟩
    rw [p38 j j0 j1, show 7936 + os a k + j = 7936 + (os a k + j) by omega, cell _ (by omega) (by omega), fw_at k0 k1 j0 (by rw [e2]; exact j1), e2]
theorem g119L82_t {V : Int → Prop} {r : Int → Int} (hr : RI V r) {T : St} {a : List (List Int)} {w : List Int} {v1 v2 v3 v4 v5 : Int} (h : MN V r T a w) (i0 : 0 ≤ v4) (i1 : v4 < 100) (h49 : T.A 49 v4 = dn (gI w 0)) : ∀ (d n : Nat) (x k : Int), 0 ≤ k → k + d = a.length → b1R x → d < n → ((x = 1 ∨ ∃ i : Int, k ≤ i ∧ i < a.length ∧ lt a i = w) → g119L82 T v1 v2 v3 v4 v5 (496 + a.length) n x (496 + k) = some 1) ∧ ((¬ (x = 1 ∨ ∃ i : Int, k ≤ i ∧ i < a.length ∧ lt a i = w)) → g119L82 T v1 v2 v3 v4 v5 (496 + a.length) n x (496 + k) = some 0) := by
  have n4 := h.1.1
  intro d
  induction d with
  | zero =>
    intro n x k k0 hd hx hn
    obtain ⟨n, rfl⟩ : ∃ k, n = k + 1 := ⟨n - 1, by omega⟩
    have e : g119L82 T v1 v2 v3 v4 v5 (496 + a.length) (n + 1) x (496 + k) = some x := by
      unfold g119L82
      refine (gd_t (by first | exact ⟨by omega, by omega⟩ | exact ⟨by omega, by omega, by omega⟩ | exact ⟨by omega, by omega, by omega, by omega⟩ | omega | exact inR_to _ | assumption | decide)).trans ?_; refine (gd_t (by first | exact ⟨by omega, by omega⟩ | exact ⟨by omega, by omega, by omega⟩ | exact ⟨by omega, by omega, by omega, by omega⟩ | omega | exact inR_to _ | assumption | decide)).trans ?_
      exact if_neg (by omega)
    rw [e]
    constructor
    · rintro (h | ⟨i, h1, h2, _⟩)
      · rw [h]
      · omega
    · intro h
      rcases hx with hx | hx
      · rw [hx]
      · exact absurd (Or.inl hx) h
  | succ d ih =>
    intro n x k k0 hd hx hn
    obtain ⟨n, rfl⟩ : ∃ k, n = k + 1 := ⟨n - 1, by omega⟩
    obtain ⟨b, b1, b2, b3⟩ := same_t hr h k0 (show k < a.length by omega)
    have e40 := (h.1.2.1 k k0 (by omega)).2
    have shift : ∀ y : Int, b1R y → (y = 1 ↔ (x = 1 ∨ lt a k = w)) → g119L82 T v1 v2 v3 v4 v5 (496 + a.length) (n + 1) x (496 + k) = g119L82 T v1 v2 v3 v4 v5 (496 + a.length) n y (496 + (k + 1)) → ((x = 1 ∨ ∃ i : Int, k ≤ i ∧ i < a.length ∧ lt a i = w) → g119L82 T v1 v2 v3 v4 v5 (496 + a.length) (n + 1) x (496 + k) = some 1) ∧ ((¬ (x = 1 ∨ ∃ i : Int, k ≤ i ∧ i < a.length ∧ lt a i = w)) → g119L82 T v1 v2 v3 v4 v5 (496 + a.length) (n + 1) x (496 + k) = some 0) := by
      intro y hy hyx e
      have := ih n y (k + 1) (by omega) (by omega) hy (by omega)
      rw [e]
      have iff1 : (x = 1 ∨ ∃ i : Int, k ≤ i ∧ i < a.length ∧ lt a i = w) ↔ (y = 1 ∨ ∃ i : Int, k + 1 ≤ i ∧ i < a.length ∧ lt a i = w) := by
        rw [hyx]
        constructor
        · rintro (h | ⟨i, h1, h2, h3⟩)
          · exact Or.inl (Or.inl h)
          · by_cases hi : i = k
            · exact Or.inl (Or.inr (hi ▸ h3))
            · exact Or.inr ⟨i, by omega, h2, h3⟩
        · rintro ((h | h) | ⟨i, h1, h2, h3⟩)
          · exact Or.inl h
          · exact Or.inr ⟨k, by omega, by omega, h⟩
          · exact Or.inr ⟨i, by omega, h2, h3⟩
      rw [iff1]
      exact this
    rcases hx with hx | hx
    · subst hx
      by_cases hdn : T.A 40 (496 + k) = T.A 49 v4
      · have b3 := b3 (by rw [← e40, hdn, h49])
        have e : g119L82 T v1 v2 v3 v4 v5 (496 + a.length) (n + 1) 0 (496 + k) = ob (some b) (fun o18 => gd (inR o18) (if o18 = 0 then g119L82 T v1 v2 v3 v4 v5 (496 + a.length) n 0 (496 + k + 1) else g119L82 T v1 v2 v3 v4 v5 (496 + a.length) n 1 (496 + k + 1))) := by
          rw [g119L82]
          refine (gd_t (by first | exact ⟨by omega, by omega⟩ | exact ⟨by omega, by omega, by omega⟩ | exact ⟨by omega, by omega, by omega, by omega⟩ | omega | exact inR_to _ | assumption | decide)).trans ?_; refine (gd_t (by first | exact ⟨by omega, by omega⟩ | exact ⟨by omega, by omega, by omega⟩ | exact ⟨by omega, by omega, by omega, by omega⟩ | omega | exact inR_to _ | assumption | decide)).trans ?_
          rw [if_pos (by omega)]
          refine (gd_t (by first | exact ⟨by omega, by omega⟩ | exact ⟨by omega, by omega, by omega⟩ | exact ⟨by omega, by omega, by omega, by omega⟩ | omega | exact inR_to _ | assumption | decide)).trans ?_
          rw [if_pos rfl]
          refine (gd_t (by first | exact ⟨by omega, by omega⟩ | exact ⟨by omega, by omega, by omega⟩ | exact ⟨by omega, by omega, by omega, by omega⟩ | omega | exact inR_to _ | assumption | decide)).trans ?_; refine (gd_t (by first | exact ⟨by omega, by omega⟩ | exact ⟨by omega, by omega, by omega⟩ | exact ⟨by omega, by omega, by omega, by omega⟩ | omega | exact inR_to _ | assumption | decide)).trans ?_
          rw [if_pos hdn, b1]
        rw [show 496 + k + 1 = 496 + (k + 1) by omega] at e
        rcases b2 with b2 | b2
        · subst b2
          exact shift 0 (Or.inl rfl) ⟨fun h => absurd h (by decide), fun h => by
            rcases h with h | h
            · exact h
            · exact b3.mpr h⟩ e
        · subst b2
          exact shift 1 (Or.inr rfl) ⟨fun _ => Or.inr (b3.mp rfl), fun _ => rfl⟩ e
      · have e : g119L82 T v1 v2 v3 v4 v5 (496 + a.length) (n + 1) 0 (496 + k) = g119L82 T v1 v2 v3 v4 v5 (496 + a.length) n 0 (496 + k + 1) := by
          rw [g119L82]
          refine (gd_t (by first | exact ⟨by omega, by omega⟩ | exact ⟨by omega, by omega, by omega⟩ | exact ⟨by omega, by omega, by omega, by omega⟩ | omega | exact inR_to _ | assumption | decide)).trans ?_; refine (gd_t (by first | exact ⟨by omega, by omega⟩ | exact ⟨by omega, by omega, by omega⟩ | exact ⟨by omega, by omega, by omega, by omega⟩ | omega | exact inR_to _ | assumption | decide)).trans ?_
          rw [if_pos (by omega)]
          refine (gd_t (by first | exact ⟨by omega, by omega⟩ | exact ⟨by omega, by omega, by omega⟩ | exact ⟨by omega, by omega, by omega, by omega⟩ | omega | exact inR_to _ | assumption | decide)).trans ?_
          rw [if_pos rfl]
          refine (gd_t (by first | exact ⟨by omega, by omega⟩ | exact ⟨by omega, by omega, by omega⟩ | exact ⟨by omega, by omega, by omega, by omega⟩ | omega | exact inR_to _ | assumption | decide)).trans ?_; refine (gd_t (by first | exact ⟨by omega, by omega⟩ | exact ⟨by omega, by omega, by omega⟩ | exact ⟨by omega, by omega, by omega, by omega⟩ | omega | exact inR_to _ | assumption | decide)).trans ?_
          rw [if_neg hdn]
        rw [show 496 + k + 1 = 496 + (k + 1) by omega] at e
        exact shift 0 (Or.inl rfl) ⟨fun h => absurd h (by decide), fun h => by
          rcases h with h | h
          · exact h
          · exact absurd (by rw [e40, h, h49]) hdn⟩ e
    · subst hx
      have e : g119L82 T v1 v2 v3 v4 v5 (496 + a.length) (n + 1) 1 (496 + k) = g119L82 T v1 v2 v3 v4 v5 (496 + a.length) n 1 (496 + k + 1) := by
        rw [g119L82]
        refine (gd_t (by first | exact ⟨by omega, by omega⟩ | exact ⟨by omega, by omega, by omega⟩ | exact ⟨by omega, by omega, by omega, by omega⟩ | omega | exact inR_to _ | assumption | decide)).trans ?_; refine (gd_t (by first | exact ⟨by omega, by omega⟩ | exact ⟨by omega, by omega, by omega⟩ | exact ⟨by omega, by omega, by omega, by omega⟩ | omega | exact inR_to _ | assumption | decide)).trans ?_
        rw [if_pos (by omega)]
        refine (gd_t (by first | exact ⟨by omega, by omega⟩ | exact ⟨by omega, by omega, by omega⟩ | exact ⟨by omega, by omega, by omega, by omega⟩ | omega | exact inR_to _ | assumption | decide)).trans ?_
        rw [if_neg (by decide)]
      rw [show 496 + k + 1 = 496 + (k + 1) by omega] at e
      exact shift 1 (Or.inr rfl) ⟨fun _ => Or.inl rfl, fun _ => rfl⟩ e
