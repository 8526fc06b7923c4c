theorem NE.mk {a : Int → Int} {nu : Int → List Int} : ∀ (n : Nat) (p : Int), (∀ q : Int, p ≤ q → q < p + n → a q < 4096 → nu (a q) ≠ []) → NE a nu n p
  | 0, _, _ => trivial
  | n + 1, p, h => ⟨h p (Int.le_refl _) (by omega), NE.mk n (p + 1) (fun q h1 h2 => h q (by omega) (by omega))⟩
theorem xl_us {X : Int → List Int} {ags : Nat → Int} : ∀ (us : List Int) (j : Nat), (∀ i : Nat, i < us.length → X (ags (j + i)) = [gI us i]) → xl X ags us.length j = us
  | [], _, _ => rfl
  | u :: us, j, h => by
    show X (ags j) ++ xl X ags us.length (j + 1) = u :: us
    have h0 : X (ags (j + 0)) = [gI (u :: us) ((0 : Nat) : Int)] := h 0 (Nat.succ_pos _)
    rw [Nat.add_zero] at h0
    rw [h0, xl_us us (j + 1) (fun i hi => by
      have := h (i + 1) (by show i + 1 < us.length + 1; omega)
      rw [show j + (i + 1) = j + 1 + i by omega, show ((i + 1 : Nat) : Int) = (i : Int) + 1 by omega, gI_cs (by omega)] at this
      exact this)]
    rfl
theorem TD_1 {a : Int → Int} {nu : Int → List Int} {p : Int} (h0 : 0 ≤ a p) (h1 : a p < 128) : TD a nu 1 1 p (nu (a p)) := ⟨by decide, Or.inl ⟨h0, h1, [], (List.append_nil _).symm, ⟨by decide, rfl⟩⟩⟩
/-- a literal of the pool is written as it stands -/
theorem WR_lit {T0 : St} {r : Int → Int} {nu : Int → List Int} {pl x : Int} {n : Nat} {E : List Int} (hx : vx x) (hx3 : 131072 ≤ x) (ea : T0.A 46 pl = mo x) (hTD : TD (T0.A 46) nu n (x % 256) (pl + 1) E) (hNE : NE (T0.A 46) nu n (pl + 1)) (hNU : NU (T0.A 46) (T0.A 47) r nu) (p0 : 0 ≤ pl) (p1 : pl + 1 + n ≤ 1024) : WR r T0 pl (x :: E) := by
  classical
  have hne : ∀ (m : Nat) (p : Int) (F : List Int), TD (T0.A 46) nu m 1 p F → p ≠ pl := fun m p F h e => by
    cases m with
    | zero => have := h.1; omega
    | succ m =>
      rcases h.2 with ⟨c1, c2, _⟩ | ⟨y, F', c1, c2, c3, c4, _⟩
      · rw [e, ea] at c2
        have := mo_big hx (by omega)
        omega
      · rw [e, ea] at c1
        exact mo_at c2 hx c4 hx3 c1.symm
  let X : Int → List Int := fun p => if p = pl then x :: E else (if h : ∃ F, ∃ m, TD (T0.A 46) nu m 1 p F then Classical.choose h else [])
  have Xtd : ∀ (m : Nat) (p : Int) (F : List Int), TD (T0.A 46) nu m 1 p F → X p = F := fun m p F h => by
    show (if p = pl then x :: E else (if h : ∃ F, ∃ m, TD (T0.A 46) nu m 1 p F then Classical.choose h else [])) = F
    have hex : ∃ F, ∃ m, TD (T0.A 46) nu m 1 p F := ⟨F, m, h⟩
    rw [if_neg (hne m p F h), dif_pos hex]
    obtain ⟨m', hm'⟩ := Classical.choose_spec hex
    exact (TD_uniq _ _ _ _ _ _ hm' h).2
  have Xpl : X pl = x :: E := if_pos rfl
  have x128 : x % 256 < 128 := by unfold vx at hx; omega
  -- a function's place
  have fn : ∀ (p y : Int) (m : Nat) (F : List Int), vx y → 32768 ≤ y → T0.A 46 p = mo y → TD (T0.A 46) nu m (y % 256) (p + 1) F → NE (T0.A 46) nu m (p + 1) → 0 ≤ p → p + 1 + m ≤ 1024 → X p = y :: F → ∃ (q : Int) (ar : Nat) (ags : Nat → Int) (z : Int), WQ (T0.A 46) (T0.A 47) r (fun p => p = pl ∨ ∃ m F, TD (T0.A 46) nu m 1 p F ∧ NE (T0.A 46) nu m p ∧ 0 ≤ p ∧ p + (m : Nat) ≤ 1024) X p q ar ags z := fun p y m F hy h3 e ht hn hp0 hp1 hX => by
    have mR := mo_R hy
    have y128 : 0 ≤ y % 256 ∧ y % 256 < 128 := by unfold vx at hy; omega
    obtain ⟨o, ho⟩ : ∃ o : Nat, (o : Int) = y % 256 := ⟨(y % 256).toNat, by omega⟩
    rw [← ho] at ht
    obtain ⟨ags, Es, g1, g2, g3⟩ := TD_args o m (p + 1) F ht
    refine ⟨p, o, ags, y, hp0, by omega, by omega, fun T h46 h47 => ?_, ?_, by rw [e]; exact ⟨by omega, by omega⟩, fun j hj => ?_, ?_⟩
    · have gf := g121_f (T := T) (p := p) (x := y) hp0 (by omega) hy h3 (by rw [h46]; exact e)
      refine ⟨gf.1, by rw [gf.2, ho], fun j hj => g124_g g1 (by omega) (fun i hi => ?_) hj⟩
      obtain ⟨k, k1, k2, k3, k4⟩ := g2 i hi
      have := TD_Tm _ _ _ _ k1
      rw [← h46] at this
      exact ⟨k, this, k2, by omega, by omega⟩
    · rw [e]
      unfold mr
      rw [if_neg (by omega)]
    · obtain ⟨k, k1, k2, k3, k4⟩ := g2 j hj
      exact Or.inr ⟨k, Es j, k1, NE.mk _ _ (fun q h1 h2 => hn.at _ _ q (by omega) (by omega)), by omega, by omega⟩
    · rw [hX, g3 X (fun j hj => by
        obtain ⟨k, k1, _⟩ := g2 j hj
        exact Xtd k _ _ k1)]
  have hW : WP (T0.A 46) (T0.A 47) r (fun p => p = pl ∨ ∃ m F, TD (T0.A 46) nu m 1 p F ∧ NE (T0.A 46) nu m p ∧ 0 ≤ p ∧ p + (m : Nat) ≤ 1024) X := by
    intro p hp
    rcases hp with hp | ⟨m, F, t1, t2, t3, t4⟩
    · subst hp
      exact ⟨⟨p0, by omega⟩, fn p x n E hx (by omega) ea hTD hNE p0 p1 Xpl⟩
    · have hXp := Xtd m p F t1
      cases m with
      | zero => have := t1.1; omega
      | succ m =>
        refine ⟨⟨t3, by omega⟩, ?_⟩
        rcases t1.2 with ⟨c1, c2, F', c3, c4⟩ | ⟨y, F', c1, c2, c3, c4, c5, c6⟩
        · have hF : F = nu (T0.A 46 p) := by
            cases m with
            | zero => rw [c3, c4.2, List.append_nil]
            | succ m => have := c4.1; omega
          have hnn := t2.1 (by omega)
          rcases hNU (T0.A 46 p) c1 c2 hnn with ⟨b1, y, b2, b3, b4, b5⟩ | ⟨b1, y, us, b2, b3, b4, b5, b6, b7, b8, b9⟩
          · refine ⟨p, 0, fun _ => 0, y, t3, by omega, by omega, fun T h46 h47 => ?_, ?_, ⟨by omega, by omega⟩, fun j hj => absurd hj (Nat.not_lt_zero _), ?_⟩
            · have gv := g121_v (T := T) (p := p) (c := T0.A 46 p) t3 (by omega) c1 c2 (by rw [h46]) (by rw [h47]; exact b1)
              exact ⟨gv.1, gv.2, fun j hj => absurd hj (Nat.not_lt_zero _)⟩
            · unfold mr
              rw [if_pos b4, b5]
            · rw [hXp, hF, b2]
              rfl
          · have mR := mo_R b3
            have y128 : y % 256 < 128 := by unfold vx at b3; omega
            have ht : ∀ j : Nat, j < us.length → TD (T0.A 46) nu 1 1 (T0.A 47 (T0.A 46 p) + 1 + j) [gI us j] := fun j hj => by
              obtain ⟨d1, d2, d3, d4⟩ := b9 j hj
              rw [← d4]
              exact TD_1 d1 d2
            refine ⟨T0.A 47 (T0.A 46 p), us.length, fun j => T0.A 47 (T0.A 46 p) + 1 + j, y, b1, by omega, by omega, fun T h46 h47 => ?_, ?_, by rw [b6]; exact ⟨by omega, by omega⟩, fun j hj => ?_, ?_⟩
            · have gb := g121_b (T := T) (p := p) (c := T0.A 46 p) (x := y) t3 (by omega) c1 c2 (by rw [h46]) (by rw [h47]; exact b1) (by rw [h47]; omega) b3 b4 (by rw [h46, h47]; exact b6)
              rw [h47] at gb
              have gf := g121_f (T := T) (p := T0.A 47 (T0.A 46 p)) (x := y) b1 (by omega) b3 b4 (by rw [h46]; exact b6)
              refine ⟨gb, by rw [gf.2, b7], fun j hj => g124_g (ags := fun j => T0.A 47 (T0.A 46 p) + 1 + j) (by show T0.A 47 (T0.A 46 p) + 1 + ((0 : Nat) : Int) = _; omega) (by omega) (fun i hi => ?_) hj⟩
              have this : Tm (fun q => arM (T.A 46 q)) 1 1 (T0.A 47 (T0.A 46 p) + 1 + (i : Int)) := by
                rw [h46]
                exact TD_Tm _ _ _ _ (ht i hi)
              exact ⟨1, this, by show T0.A 47 (T0.A 46 p) + 1 + ((i + 1 : Nat) : Int) = T0.A 47 (T0.A 46 p) + 1 + (i : Int) + ((1 : Nat) : Int); omega, by show 0 ≤ T0.A 47 (T0.A 46 p) + 1 + (i : Int); omega, by show T0.A 47 (T0.A 46 p) + 1 + (i : Int) + ((1 : Nat) : Int) ≤ 1024; omega⟩
            · rw [b6]
              unfold mr
              rw [if_neg (by omega)]
            · obtain ⟨d1, d2, d3, d4⟩ := b9 j hj
              exact Or.inr ⟨1, _, ht j hj, ⟨fun _ => by rw [d4]; exact List.cons_ne_nil _ _, trivial⟩, by show 0 ≤ T0.A 47 (T0.A 46 p) + 1 + (j : Int); omega, by show T0.A 47 (T0.A 46 p) + 1 + (j : Int) + ((1 : Nat) : Int) ≤ 1024; omega⟩
            · rw [hXp, hF, b2]
              have := xl_us (X := X) (ags := fun j => T0.A 47 (T0.A 46 p) + 1 + (j : Nat)) us 0 (fun i hi => by
                rw [Nat.zero_add]
                exact Xtd 1 _ _ (ht i hi))
              rw [this]
        · rw [show (1 : Int) - 1 + y % 256 = y % 256 by omega] at c6
          exact fn p y m F' c2 c3 c1 c6 t2.2 t3 (by omega) (by rw [hXp, c5])
  have := WR_g (pos := pl) hW rfl rfl (Or.inl rfl)
  rw [Xpl] at this
  exact this
