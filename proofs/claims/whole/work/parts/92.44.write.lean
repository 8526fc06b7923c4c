/-! the second object writes a term -/
/-- the places as j, j + 1 .. laid upon s -/
def pd (ags : Nat → Int) : Nat → Nat → List Int → List Int
  | 0, _, s => s
  | i + 1, j, s => ags j :: pd ags i (j + 1) s
def xl (f : Int → List Int) (ags : Nat → Int) : Nat → Nat → List Int
  | 0, _ => []
  | i + 1, j => f (ags j) ++ xl f ags i (j + 1)
theorem xl_xa (f : Int → List Int) (u : Int → Int) (q : Int) : ∀ i j : Nat, xl f (ag u q) i j = xa f u q i j
  | 0, _ => rfl
  | i + 1, j => by
    show f (ag u q j) ++ xl f (ag u q) i (j + 1) = f (ag u q j) ++ xa f u q i (j + 1)
    rw [xl_xa f u q i (j + 1)]
theorem pd_len (ags : Nat → Int) (s : List Int) : ∀ i j : Nat, (pd ags i j s).length = i + s.length
  | 0, _ => (Nat.zero_add _).symm
  | i + 1, j => by show (pd ags i (j + 1) s).length + 1 = _; rw [pd_len ags s i (j + 1)]; omega
theorem pd_mem {ags : Nat → Int} {x : Int} {s : List Int} : ∀ i j : Nat, x ∈ pd ags i j s → (∃ z : Nat, z < j + i ∧ x = ags z) ∨ x ∈ s
  | 0, _, h => Or.inr h
  | i + 1, j, h => by
    rcases List.mem_cons.mp h with h | h
    · exact Or.inl ⟨j, by omega, h⟩
    · rcases pd_mem i (j + 1) h with ⟨z, h1, h2⟩ | h
      · exact Or.inl ⟨z, by omega, h2⟩
      · exact Or.inr h
def FL (f : Int → List Int) : List Int → List Int
  | [] => []
  | p :: s => f p ++ FL f s
theorem FL_pd {f : Int → List Int} {ags : Nat → Int} {s : List Int} : ∀ i j : Nat, FL f (pd ags i j s) = xl f ags i j ++ FL f s
  | 0, _ => rfl
  | i + 1, j => by
    show f (ags j) ++ FL f (pd ags i (j + 1) s) = (f (ags j) ++ xl f ags i (j + 1)) ++ FL f s
    rw [FL_pd i (j + 1), List.append_assoc]
theorem FL_len {f : Int → List Int} : ∀ s : List Int, (∀ p ∈ s, 0 < (f p).length) → s.length ≤ (FL f s).length
  | [], _ => Nat.le_refl _
  | p :: s, h => by
    have h0 := FL_len s (fun q hq => h q (List.mem_cons_of_mem _ hq))
    have h1 := h p (List.mem_cons.mpr (Or.inl rfl))
    show s.length + 1 ≤ (f p ++ FL f s).length
    rw [List.length_append]
    omega
/-- a place leads to q: a symbol x, and ar terms -/
def WQ (a46 a47 : Int → Int) (r : Int → Int) (P : Int → Prop) (X : Int → List Int) (p q : Int) (ar : Nat) (ags : Nat → Int) (x : Int) : Prop := 0 ≤ q ∧ q < 1024 ∧ ar ≤ 127 ∧ (∀ T : St, T.A 46 = a46 → T.A 47 = a47 → g121 T p = some q ∧ g123 T (T.A 46 q) = some (ar : Int) ∧ ∀ j : Nat, j < ar → g124 T q j = some (ags j)) ∧ a46 q = mr r x ∧ inR (a46 q) ∧ (∀ j : Nat, j < ar → P (ags j)) ∧ X p = x :: xl X ags ar 0
def WP (a46 a47 : Int → Int) (r : Int → Int) (P : Int → Prop) (X : Int → List Int) : Prop := ∀ p, P p → (0 ≤ p ∧ p < 1024) ∧ ∃ (q : Int) (ar : Nat) (ags : Nat → Int) (x : Int), WQ a46 a47 r P X p q ar ags x
theorem g120L85_t {q v3 v4 : Int} {ar : Nat} {ags : Nat → Int} {a46 a47 : Int → Int} {s : List Int} (h15 : ar ≤ 127) (hs : s.length ≤ 500) (hg : ∀ T : St, T.A 46 = a46 → T.A 47 = a47 → ∀ j : Nat, j < ar → g124 T q j = some (ags j)) (hb : ∀ j : Nat, j < ar → 0 ≤ ags j ∧ ags j < 1024) : ∀ (j n i : Nat) (T : St), T.A 46 = a46 → T.A 47 = a47 → SK T 65 (pd ags i j s) → i + j = ar → j < n → ∃ T', g120L85 v3 v4 q n (((pd ags i j s).length : Int) - 1) ((j : Int) - 1) T = some (((pd ags (i + j) 0 s).length : Int) - 1, T') ∧ Fr [65] T T' ∧ SK T' 65 (pd ags (i + j) 0 s) := by
  intro j
  induction j with
  | zero =>
    intro n i T hT hT2 hK hj hn
    obtain ⟨n, rfl⟩ : ∃ k, n = k + 1 := ⟨n - 1, by omega⟩
    rw [Nat.add_zero]
    refine ⟨T, ?_, Fr.refl _ _, hK⟩
    unfold g120L85
    refine (gd_t (by first | exact ⟨by omega, by omega⟩ | exact ⟨by omega, by omega, by omega⟩ | exact ⟨by omega, by omega, by omega, by omega⟩ | omega | exact inR_to _ | assumption | decide)).trans ?_
    rw [if_pos (by omega)]
    rfl
  | succ j ih =>
    intro n i T hT hT2 hK hj hn
    obtain ⟨n, rfl⟩ : ∃ k, n = k + 1 := ⟨n - 1, by omega⟩
    have tl := hb j (by omega)
    have pl := pd_len ags s i (j + 1)
    have e65 : (T.a 65 (pd ags i (j + 1) s).length (ags j)).A 65 = upI (T.A 65) (pd ags i (j + 1) s).length (ags j) := aA_up (by omega)
    obtain ⟨T', t1, t2, t3⟩ := ih n (i + 1) (T.a 65 (pd ags i (j + 1) s).length (ags j)) hT hT2 ⟨by rw [e65, upI_e], hK.c _ (fun i i0 i1 => by rw [e65, upI_n (by omega)])⟩ (by omega) (by omega)
    rw [show i + 1 + j = i + (j + 1) by omega] at t1 t3
    refine ⟨T', ?_, (Fr.a (by decide)).trans t2, t3⟩
    rw [g120L85]
    refine (gd_t (by first | exact ⟨by omega, by omega⟩ | exact ⟨by omega, by omega, by omega⟩ | exact ⟨by omega, by omega, by omega, by omega⟩ | omega | exact inR_to _ | assumption | decide)).trans ?_
    rw [if_neg (by omega), show ((j + 1 : Nat) : Int) - 1 = j by omega, hg T hT hT2 j (by omega)]
    refine (ob_t rfl).trans ?_
    refine (gd_t (by first | exact ⟨by omega, by omega⟩ | exact ⟨by omega, by omega, by omega⟩ | exact ⟨by omega, by omega, by omega, by omega⟩ | omega | exact inR_to _ | assumption | decide)).trans ?_
    rw [show ((pd ags i (j + 1) s).length : Int) - 1 + 1 = (pd ags i (j + 1) s).length by omega]
    have e3 : ((pd ags (i + 1) j s).length : Int) - 1 = (pd ags i (j + 1) s).length := by
      show (((pd ags i (j + 1) s).length + 1 : Nat) : Int) - 1 = _
      omega
    rw [e3] at t1
    exact t1
theorem g120L13_t {v : Int} {a46 a47 r : Int → Int} {P : Int → Prop} {X : Int → List Int} (hW : WP a46 a47 r P X) (v0 : 7936 ≤ v) (v1 : v ≤ 8000) : ∀ (n i : Nat) (s : List Int) (T : St), T.A 46 = a46 → T.A 47 = a47 → SK T 65 s → (∀ p ∈ s, P p) → i + s.length ≤ 16 → 16 < n + i → ∃ T', Fr [38, 65] T T' ∧ (∀ p : Int, p < v + i ∨ v + 16 ≤ p → T'.A 38 p = T.A 38 p) ∧ (16 < i + (FL X s).length → g120L13 (v + 16) n (v + i) ((s.length : Int) - 1) T = some (.inr (-1, T'))) ∧ (¬ 16 < i + (FL X s).length → g120L13 (v + 16) n (v + i) ((s.length : Int) - 1) T = some (.inl (v + i + (FL X s).length, T')) ∧ ∀ j : Int, 0 ≤ j → j < (FL X s).length → T'.A 38 (v + i + j) = mr r (gI (FL X s) j)) := by
  have Xpos : ∀ p, P p → 0 < (X p).length := fun p hp => by
    obtain ⟨_, q, ar, ags, x, h1, h2, h3, h4, h5, h6, h7, h8⟩ := hW p hp
    rw [h8]
    exact Nat.succ_pos _
  intro n
  induction n with
  | zero => intro i s T _ _ _ _ h1 h2; omega
  | succ n ih =>
    intro i s T hT hb hK hs h16 hn
    match s, hK, hs, h16 with
    | [], hK, hs, h16 =>
      refine ⟨T, Fr.refl _ _, fun _ _ => rfl, fun h => absurd h (by show ¬ 16 < i + 0; have h16 : i + 0 ≤ 16 := h16; omega), fun _ => ⟨?_, fun j j0 j1 => absurd j1 (by show ¬ j < ((0 : Nat) : Int); omega)⟩⟩
      show g120L13 (v + 16) (n + 1) (v + i) (((0 : Nat) : Int) - 1) T = some (.inl (v + i + ((0 : Nat) : Int), T))
      rw [g120L13]
      refine (gd_t (by first | exact ⟨by omega, by omega⟩ | exact ⟨by omega, by omega, by omega⟩ | exact ⟨by omega, by omega, by omega, by omega⟩ | omega | exact inR_to _ | assumption | decide)).trans ?_
      rw [if_pos (by omega), show v + (i : Int) + ((0 : Nat) : Int) = v + i by omega]
    | p :: s, hK, hs, h16 =>
      have h16 : i + (s.length + 1) ≤ 16 := h16
      have hp := hs p (List.mem_cons.mpr (Or.inl rfl))
      have hs' := fun q (hq : q ∈ s) => hs q (List.mem_cons_of_mem _ hq)
      have hK : T.A 65 s.length = p ∧ SK T 65 s := hK
      obtain ⟨_, q, ar, ags, x, q0, q1, a127, qT, qx, qR, qP, qX⟩ := hW p hp
      obtain ⟨f121, f123, f124⟩ := qT T hT hb
      have e46 : T.A 46 q = a46 q := by rw [hT]
      have fc : FL X (p :: s) = x :: FL X (pd ags ar 0 s) := by
        rw [FL_pd]
        show X p ++ FL X s = _
        rw [qX]
        rfl
      have plen := pd_len ags s ar 0
      have hs2 : ∀ z ∈ pd ags ar 0 s, P z := fun z hz => by
        rcases pd_mem _ _ hz with ⟨y, y1, y2⟩ | h
        · rw [y2]; exact qP y (by omega)
        · exact hs' z h
      have flen := FL_len (f := X) (pd ags ar 0 s) (fun z hz => Xpos z (hs2 z hz))
      have fclen : (FL X (p :: s)).length = (FL X (pd ags ar 0 s)).length + 1 := by rw [fc]; rfl
      have e : g120L13 (v + 16) (n + 1) (v + i) (((p :: s).length : Int) - 1) T = if v + 16 < v + i + s.length + 1 + ar then some (.inr (-1, T)) else ob (g120L85 (v + 16) (v + i + 1) q FU (s.length + -1) (ar - 1) (T.a 38 (v + i) (a46 q))) (fun o38 => g120L13 (v + 16) n (v + i + 1) o38.1 o38.2) := by
        rw [show (((p :: s).length : Nat) : Int) - 1 = s.length by show ((s.length + 1 : Nat) : Int) - 1 = _; omega]
        rw [g120L13]
        refine (gd_t (by first | exact ⟨by omega, by omega⟩ | exact ⟨by omega, by omega, by omega⟩ | exact ⟨by omega, by omega, by omega, by omega⟩ | omega | exact inR_to _ | assumption | decide)).trans ?_
        rw [if_neg (by omega)]
        refine (gd_t (by first | exact ⟨by omega, by omega⟩ | exact ⟨by omega, by omega, by omega⟩ | exact ⟨by omega, by omega, by omega, by omega⟩ | omega | exact inR_to _ | assumption | decide)).trans ?_
        rw [hK.1, f121]
        refine (ob_t rfl).trans ?_
        refine (gd_t (by first | exact ⟨by omega, by omega⟩ | exact ⟨by omega, by omega, by omega⟩ | exact ⟨by omega, by omega, by omega, by omega⟩ | omega | exact inR_to _ | assumption | decide)).trans ?_
        rw [f123]
        refine (ob_t rfl).trans ?_
        rw [e46]
        refine (gd_t (by first | exact ⟨by omega, by omega⟩ | exact ⟨by omega, by omega, by omega⟩ | exact ⟨by omega, by omega, by omega, by omega⟩ | omega | exact inR_to _ | assumption | decide)).trans ?_
        refine (gd_t (by first | exact ⟨by omega, by omega⟩ | exact ⟨by omega, by omega, by omega⟩ | exact ⟨by omega, by omega, by omega, by omega⟩ | omega | exact inR_to _ | assumption | decide)).trans ?_
        by_cases h : v + 16 < v + i + s.length + 1 + ar
        · rw [if_pos h, if_pos h]
        · rw [if_neg h, if_neg h]
          refine (gd_t (by first | exact ⟨by omega, by omega⟩ | exact ⟨by omega, by omega, by omega⟩ | exact ⟨by omega, by omega, by omega, by omega⟩ | omega | exact inR_to _ | assumption | decide)).trans ?_
          rfl
      rw [e, fclen]
      by_cases h : v + 16 < v + i + s.length + 1 + ar
      · rw [if_pos h]
        exact ⟨T, Fr.refl _ _, fun _ _ => rfl, fun _ => rfl, fun h2 => absurd h2 (by omega)⟩
      · rw [if_neg h]
        have d38 : (T.a 38 (v + i) (a46 q)).A 38 = upI (T.A 38) (v + i) (a46 q) := aA_up qR
        have f1 : Fr [38, 65] T (T.a 38 (v + i) (a46 q)) := Fr.a (by decide)
        obtain ⟨T1, t1, t2, t3⟩ := g120L85_t (v3 := v + 16) (v4 := v + i + 1) (s := s) a127 (by omega) (fun W h1 h2 => (qT W h1 h2).2.2) (fun j hj => (hW _ (qP j hj)).1) ar FU 0 (T.a 38 (v + i) (a46 q)) ((f1.A (by decide)).trans hT) ((f1.A (by decide)).trans hb) (hK.2.c _ (fun i i0 i1 => by rw [aA_ne (by decide)])) (by omega) (FU_gt (by omega))
        have f2 : Fr [38, 65] T T1 := f1.trans (t2.mono (by decide))
        rw [Nat.zero_add] at t1 t3
        obtain ⟨T', q1, q2, q3, q4⟩ := ih (i + 1) (pd ags ar 0 s) T1 ((f2.A (by decide)).trans hT) ((f2.A (by decide)).trans hb) t3 hs2 (by omega) (by omega)
        have e38 : T1.A 38 = upI (T.A 38) (v + i) (a46 q) := (t2.A (by decide)).trans d38
        have eo : ob (g120L85 (v + 16) (v + i + 1) q FU (s.length + -1) (ar - 1) (T.a 38 (v + i) (a46 q))) (fun o38 => g120L13 (v + 16) n (v + i + 1) o38.1 o38.2) = g120L13 (v + 16) n (v + ((i + 1 : Nat) : Int)) (((pd ags ar 0 s).length : Int) - 1) T1 := by
          have t1 : g120L85 (v + 16) (v + i + 1) q FU (s.length + -1) (ar - 1) (T.a 38 (v + i) (a46 q)) = some (((pd ags ar 0 s).length : Int) - 1, T1) := t1
          rw [t1, show v + ((i + 1 : Nat) : Int) = v + i + 1 by omega]
          rfl
        rw [eo]
        refine ⟨T', f2.trans q1, fun z hz => ?_, fun hb2 => q3 (by omega), fun hb2 => ?_⟩
        · rw [q2 z (by omega), e38, upI_n (by omega)]
        · have q4 := q4 (by omega)
          refine ⟨?_, fun j j0 j1 => ?_⟩
          · rw [q4.1]
            have ee : v + ((i + 1 : Nat) : Int) + ((FL X (pd ags ar 0 s)).length : Int) = v + (i : Int) + (((FL X (pd ags ar 0 s)).length + 1 : Nat) : Int) := by omega
            rw [ee]
          · rw [fc]
            by_cases hj : j = 0
            · subst hj
              rw [gI_c0, Int.add_zero, q2 _ (by omega), e38, upI_e]
              exact qx
            · rw [gI_cp (by omega)]
              have := q4.2 (j - 1) (by omega) (by omega)
              rw [show v + ((i + 1 : Nat) : Int) + (j - 1) = v + i + j by omega] at this
              exact this
theorem WR_g {a46 a47 r : Int → Int} {P : Int → Prop} {X : Int → List Int} {T0 : St} {pos : Int} (hW : WP a46 a47 r P X) (h46 : T0.A 46 = a46) (h47 : T0.A 47 = a47) (hp : P pos) : WR r T0 pos (X pos) := by
  intro T v hF v0 v1
  have lp := (hW pos hp).1
  have f1 : Fr [38, 39, 40, 65] T0 (T.a 65 0 pos) := hF.trans (Fr.a (by decide))
  have e65 : (T.a 65 0 pos).A 65 = upI (T.A 65) 0 pos := aA_up ⟨by omega, by omega⟩
  obtain ⟨T', t1, t2, t3, t4⟩ := g120L13_t hW v0 v1 FU 0 [pos] (T.a 65 0 pos) ((f1.A (by decide)).trans h46) ((f1.A (by decide)).trans h47) ⟨by show (T.a 65 0 pos).A 65 0 = pos; rw [e65, upI_e], trivial⟩ (fun p h => by rw [List.mem_singleton.mp h]; exact hp) (by show 0 + 1 ≤ 16; omega) (by have := FU_gt (n := 16) (by decide); omega)
  have ef : FL X [pos] = X pos := List.append_nil _
  have ev : v + ((0 : Nat) : Int) = v := by omega
  have el : (([pos].length : Nat) : Int) - 1 = 0 := rfl
  rw [ef, ev, el, Nat.zero_add] at t3 t4
  rw [ev] at t2
  refine ⟨T', (Fr.a (by decide)).trans t1, fun p hp => (t2 p hp).trans (by rw [aA_ne (by decide)]), ?_, fun h => (t4 h).2⟩
  unfold g120
  by_cases h : 16 < (X pos).length
  · rw [t3 h, if_pos h]
    rfl
  · rw [(t4 h).1, if_neg h]
    rfl
theorem WP_u {u : Int → Int} {w1 w2 : Int} {t b r : Int → Int} {T0 : St} (hU : PU u w1 w2) (hP : PO u w1 w2 t) (hQ : PO u w1 w2 b) (hC : CO u w1 w2 t b) (hr : ∀ p, TP u w1 w2 p → mo (u (st u b p)) = mr r (u (st u t p))) (hT : SM u w1 w2 T0) (hb : T0.A 47 = b) : WP (T0.A 46) (T0.A 47) r (TP u w1 w2) (XP u t) := fun p hp => by
  have lp := (hp.pc hU).lt hU
  have ok := st_ok hU hQ p hp
  have a15 := ar_15 hU ok.1
  have lq := (ok.1.pc hU).lt hU
  have vq := (hU.2.2.2.2 _ (ok.1.pc hU)).1
  have mR := mo_R vq
  have e46 := hT _ (ok.1.pc hU)
  refine ⟨⟨lp.1, by omega⟩, st u b p, (u (st u b p) % 256).toNat, ag u (st u b p), u (st u t p), lq.1, by omega, by omega, fun T h46 h47 => ?_, ?_, ?_, fun j hj => (ag_TP hU ok.1 (by omega)).1, ?_⟩
  · have hT' : SM u w1 w2 T := fun z hz => by rw [h46]; exact hT z hz
    have f121 := g121_t hU hT' (by rw [h47, hb]; exact hQ) hp
    rw [h47, hb] at f121
    refine ⟨f121, ?_, fun j hj => g124_t hU hT' ok.1 (by omega)⟩
    rw [m123 hU hT' (ok.1.pc hU)]
    congr 1
    omega
  · rw [e46]; exact hr p hp
  · rw [e46]; exact ⟨by omega, by omega⟩
  · rw [XP_e hU hP hp, xl_xa]
    by_cases h : u (st u t p) < 32768
    · have z1 := (st_ok hU hP p hp).1.v hU h
      have z2 := ok.1.v hU ((hC.v hp).mp h)
      rw [show (u (st u t p) % 256).toNat = 0 by omega, show (u (st u b p) % 256).toNat = 0 by omega]
      rfl
    · rw [hC.1 p hp (Or.inl (by omega))]
theorem WR_t {u : Int → Int} {w1 w2 pos : Int} {t b r : Int → Int} {T0 : St} (hU : PU u w1 w2) (hP : PO u w1 w2 t) (hQ : PO u w1 w2 b) (hC : CO u w1 w2 t b) (hr : ∀ p, TP u w1 w2 p → mo (u (st u b p)) = mr r (u (st u t p))) (hT : SM u w1 w2 T0) (hb : T0.A 47 = b) (hp : TP u w1 w2 pos) : WR r T0 pos (XP u t pos) := WR_g (WP_u hU hP hQ hC hr hT hb) rfl rfl hp
