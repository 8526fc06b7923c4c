/-! a literal's row of characters: what is due in the brackets that stand around -/
def clo : List Int → List Int × List Int
  | [] => ([], [])
  | d :: s => if d = 1 then (41 :: (clo s).1, (clo s).2) else ([44], (d - 1) :: s)
def ps (u : Int → Int) : Nat → Int → List Int → List Int
  | 0, _, _ => []
  | m + 1, p, s => nm (u p) ++ (if 0 < ax u p then 40 :: ps u m (p + 1) (ax u p :: s) else (clo s).1 ++ ps u m (p + 1) (clo s).2)
theorem clo_len : ∀ s : List Int, (clo s).1.length + (clo s).2.length ≤ s.length + 1 := by
  intro s
  induction s with
  | nil => show 0 + 0 ≤ 0 + 1; omega
  | cons d s ih =>
    unfold clo
    split
    · show (clo s).1.length + 1 + (clo s).2.length ≤ s.length + 1 + 1
      omega
    · show 1 + (s.length + 1) ≤ s.length + 1 + 1
      omega
theorem ps_len (u : Int → Int) : ∀ (m : Nat) (p : Int) (s : List Int), (ps u m p s).length ≤ 5 * m + s.length := by
  intro m
  induction m with
  | zero => intro p s; show 0 ≤ _; omega
  | succ m ih =>
    intro p s
    have h1 := nm_len (u p)
    unfold ps
    rw [List.length_append]
    split
    · rw [List.length_cons]
      have := ih (p + 1) (ax u p :: s)
      rw [List.length_cons] at this
      omega
    · rw [List.length_append]
      have := ih (p + 1) (clo s).2
      have := clo_len s
      omega
/-- how many terms are due inside the brackets t -/
def du : List Int → Int
  | [] => 0
  | d :: t => d - 1 + du t
theorem du_clo : ∀ t : List Int, (∀ d ∈ t, 1 ≤ d) → 0 ≤ du t ∧ (∀ d ∈ (clo t).2, 1 ≤ d) ∧ ((du t = 0 → (clo t).2 = [] ∧ ∀ s, clo (t ++ s) = ((clo t).1 ++ (clo s).1, (clo s).2)) ∧ (du t ≠ 0 → du (clo t).2 = du t - 1 ∧ (clo t).2 ≠ [] ∧ ∀ s, clo (t ++ s) = ((clo t).1, (clo t).2 ++ s))) := by
  intro t
  induction t with
  | nil => intro _; exact ⟨Int.le_refl _, fun d h => absurd h List.not_mem_nil, fun _ => ⟨rfl, fun s => rfl⟩, fun h => absurd rfl h⟩
  | cons d t ih =>
    intro h
    have hd := h d List.mem_cons_self
    obtain ⟨i0, i1, i2, i3⟩ := ih (fun e he => h e (List.mem_cons_of_mem _ he))
    have ed : du (d :: t) = d - 1 + du t := rfl
    by_cases e : d = 1
    · have ec : clo (d :: t) = (41 :: (clo t).1, (clo t).2) := if_pos e
      have ecs : ∀ s, clo (d :: t ++ s) = (41 :: (clo (t ++ s)).1, (clo (t ++ s)).2) := fun s => if_pos e
      rw [ed, ec]
      refine ⟨by omega, i1, fun z => ?_, fun z => ?_⟩
      · obtain ⟨a1, a2⟩ := i2 (by omega)
        refine ⟨a1, fun s => ?_⟩
        rw [ecs, a2]
        rfl
      · obtain ⟨a1, a2, a3⟩ := i3 (by omega)
        refine ⟨by rw [a1]; omega, a2, fun s => ?_⟩
        rw [ecs, a3]
    · have ec : clo (d :: t) = ([44], (d - 1) :: t) := if_neg e
      have ecs : ∀ s, clo (d :: t ++ s) = ([44], (d - 1) :: (t ++ s)) := fun s => if_neg e
      rw [ed, ec]
      refine ⟨by omega, fun x hx => ?_, fun z => absurd z (by omega), fun _ => ⟨?_, fun q => List.cons_ne_nil _ _ q, fun s => ecs s⟩⟩
      · rcases List.mem_cons.mp hx with q | q
        · omega
        · exact h x (List.mem_cons_of_mem _ q)
      · show d - 1 - 1 + du t = _
        omega
/-- a term's row stands by itself; then come the brackets around it -/
theorem ps_app (u : Int → Int) : ∀ (k m : Nat) (q : Int) (t s : List Int), (∀ d ∈ t, 1 ≤ d) → Tm (ax u) k (1 + du t) q → ps u (k + m) q (t ++ s) = ps u k q t ++ ((clo s).1 ++ ps u m (q + k) (clo s).2) := by
  intro k
  induction k with
  | zero =>
    intro m q t s ht h
    have h : 1 + du t = 0 := h
    have := (du_clo t ht).1
    omega
  | succ k ih =>
    intro m q t s ht h
    obtain ⟨h1, h2⟩ := h
    obtain ⟨d0, d1, d2, d3⟩ := du_clo t ht
    have a0 := ax_0 u q
    rw [show k + 1 + m = (k + m) + 1 by omega]
    show nm (u q) ++ (if 0 < ax u q then 40 :: ps u (k + m) (q + 1) (ax u q :: (t ++ s)) else (clo (t ++ s)).1 ++ ps u (k + m) (q + 1) (clo (t ++ s)).2) = (nm (u q) ++ (if 0 < ax u q then 40 :: ps u k (q + 1) (ax u q :: t) else (clo t).1 ++ ps u k (q + 1) (clo t).2)) ++ ((clo s).1 ++ ps u m (q + ((k + 1 : Nat) : Int)) (clo s).2)
    rw [show q + ((k + 1 : Nat) : Int) = q + 1 + k by omega, List.append_assoc]
    congr 1
    by_cases ha : 0 < ax u q
    · rw [if_pos ha, if_pos ha]
      have := ih m (q + 1) (ax u q :: t) s (fun d hd => by
        rcases List.mem_cons.mp hd with e | e
        · omega
        · exact ht d e) (by
        have e : 1 + du (ax u q :: t) = 1 + du t - 1 + ax u q := by show 1 + (ax u q - 1 + du t) = _; omega
        rw [e]
        exact h2)
      rw [List.cons_append] at this
      rw [this]
      rfl
    · rw [if_neg ha, if_neg ha]
      have ea : ax u q = 0 := by omega
      rw [ea] at h2
      by_cases z : du t = 0
      · obtain ⟨b1, b2⟩ := d2 z
        rw [z] at h2
        have hk : k = 0 := by
          cases k with
          | zero => rfl
          | succ k => have := h2.1; omega
        subst hk
        rw [b2, b1]
        show ((clo t).1 ++ (clo s).1) ++ ps u (0 + m) (q + 1) (clo s).2 = ((clo t).1 ++ []) ++ ((clo s).1 ++ ps u m (q + 1 + ((0 : Nat) : Int)) (clo s).2)
        rw [List.append_nil, List.append_assoc, Nat.zero_add, show q + 1 + ((0 : Nat) : Int) = q + 1 by omega]
      · obtain ⟨b1, b2, b3⟩ := d3 z
        rw [b3]
        have := ih m (q + 1) (clo t).2 s d1 (by rw [b1, show 1 + (du t - 1) = 1 + du t - 1 + 0 by omega]; exact h2)
        rw [this, List.append_assoc]
/-- the due numbers as the second object holds them, the innermost last -/
def DS (T : St) : List Int → Prop
  | [] => True
  | d :: s => T.A 68 s.length = d ∧ 1 ≤ d ∧ d < 1000 ∧ DS T s
theorem DS.c {T T' : St} (h : T'.A 68 = T.A 68) : ∀ s, DS T s → DS T' s := by
  intro s
  induction s with
  | nil => intro _; trivial
  | cons d s ih => intro q; exact ⟨by rw [h]; exact q.1, q.2.1, q.2.2.1, ih q.2.2.2⟩
theorem DS.up {T : St} {i x : Int} : ∀ s : List Int, (s.length : Int) ≤ i → inR x → DS T s → DS (T.a 68 i x) s := by
  intro s
  induction s with
  | nil => intro _ _ _; trivial
  | cons d s ih =>
    intro hi hx q
    rw [List.length_cons] at hi
    refine ⟨?_, q.2.1, q.2.2.1, ih (by omega) hx q.2.2.2⟩
    rw [a_A hx, if_pos rfl, if_neg (by omega)]
    exact q.1
theorem a_OM (T : St) (i x : Int) : OM T [] (T.a 68 i x) := by
  have fr : Fr [68] T (T.a 68 i x) := Fr.a (by decide)
  refine ⟨⟨rfl, rfl, rfl, fun c hc => fr.2.2.2 c (fun e => hc (by simp at e ⊢; omega)), fun _ _ => rfl⟩, (Int.add_zero _).symm, fun i' => ?_⟩
  rw [aA_ne (by decide), if_neg (by show ¬ (T.F 36 56 ≤ i' ∧ i' < T.F 36 56 + ((0 : Nat) : Int)); omega)]
theorem g150L77_0 {v2 v4 v3 : Int} {m : Nat} {T : St} : g150L77 v2 v4 (m + 1) v3 0 T = some (v3, T) := by
  unfold g150L77
  refine (gd_t (by first | exact ⟨by omega, by omega⟩ | exact ⟨by omega, by omega, by omega⟩ | exact ⟨by omega, by omega, by omega, by omega⟩ | omega | exact inR_to _ | assumption | decide)).trans ?_
  exact if_pos rfl
theorem g150L77_t {v2 v4 : Int} : ∀ (s : List Int) (m : Nat) (T : St), DS T s → s.length ≤ 16 → 0 ≤ T.F 36 56 → T.F 36 56 + s.length < 390 → s.length + 1 < m → ∃ T', g150L77 v2 v4 m s.length 1 T = some (((clo s).2.length : Int), T') ∧ OM T (clo s).1 T' ∧ DS T' (clo s).2 := by
  intro s
  induction s with
  | nil =>
    intro m T _ _ h0 h1 hm
    obtain ⟨m, rfl⟩ : ∃ k, m = k + 1 := ⟨m - 1, by omega⟩
    refine ⟨T, ?_, OM.nil T, trivial⟩
    unfold g150L77
    refine (gd_t (by first | exact ⟨by omega, by omega⟩ | exact ⟨by omega, by omega, by omega⟩ | exact ⟨by omega, by omega, by omega, by omega⟩ | omega | exact inR_to _ | assumption | decide)).trans ?_
    rw [if_neg (by decide)]
    refine (gd_t (by first | exact ⟨by omega, by omega⟩ | exact ⟨by omega, by omega, by omega⟩ | exact ⟨by omega, by omega, by omega, by omega⟩ | omega | exact inR_to _ | assumption | decide)).trans ?_
    exact if_neg (by decide)
  | cons d s ih =>
    intro m T hD hl h0 h1 hm
    obtain ⟨m, rfl⟩ : ∃ k, m = k + 1 := ⟨m - 1, by omega⟩
    rw [List.length_cons] at hl h1 hm
    obtain ⟨q1, q2, q3, q4⟩ := hD
    have hR : inR (d - 1) := ⟨by omega, by omega⟩
    have el : ((s.length + 1 : Nat) : Int) - 1 = s.length := by omega
    have hv : ∀ z, (if (T.a 68 s.length (d - 1)).A 68 s.length = 0 then ob (g149 (T.a 68 s.length (d - 1)) 41) (fun o23 => g150L77 v2 v4 m s.length 1 o23) else ob (g149 (T.a 68 s.length (d - 1)) 44) (fun o25 => g150L77 v2 v4 m ((s.length + 1 : Nat) : Int) 0 o25)) = z → g150L77 v2 v4 (m + 1) ((s.length + 1 : Nat) : Int) 1 T = z := by
      intro z hz
      rw [← hz]
      conv => lhs; unfold g150L77
      refine (gd_t (by first | exact ⟨by omega, by omega⟩ | exact ⟨by omega, by omega, by omega⟩ | exact ⟨by omega, by omega, by omega, by omega⟩ | omega | exact inR_to _ | assumption | decide)).trans ?_
      rw [if_neg (by decide)]
      refine (gd_t (by first | exact ⟨by omega, by omega⟩ | exact ⟨by omega, by omega, by omega⟩ | exact ⟨by omega, by omega, by omega, by omega⟩ | omega | exact inR_to _ | assumption | decide)).trans ?_
      rw [if_pos (by omega)]
      refine (gd_t (by first | exact ⟨by omega, by omega⟩ | exact ⟨by omega, by omega, by omega⟩ | exact ⟨by omega, by omega, by omega, by omega⟩ | omega | exact inR_to _ | assumption | decide)).trans ?_
      rw [el, q1]
    have ev : (T.a 68 s.length (d - 1)).A 68 s.length = d - 1 := by rw [a_A hR, if_pos rfl, if_pos rfl]
    rw [ev] at hv
    have hDs : DS (T.a 68 s.length (d - 1)) s := DS.up s (by omega) hR q4
    by_cases e : d = 1
    · obtain ⟨U, u1, u2, u3⟩ := g149_t (S := T.a 68 s.length (d - 1)) (c := 41) h0 (show T.F 36 56 < 400 by omega) (by decide)
      have eU : U.F 36 56 = T.F 36 56 + 1 := u2.2.1
      obtain ⟨V, w1, w2, w3⟩ := ih m U (DS.c u3 s hDs) (by omega) (by omega) (by omega) (by omega)
      have ec : clo (d :: s) = (41 :: (clo s).1, (clo s).2) := if_pos e
      rw [ec]
      refine ⟨V, hv _ ?_, ((a_OM T _ _).app u2).app w2, w3⟩
      rw [if_pos (by omega), u1]
      exact w1
    · obtain ⟨U, u1, u2, u3⟩ := g149_t (S := T.a 68 s.length (d - 1)) (c := 44) h0 (show T.F 36 56 < 400 by omega) (by decide)
      have ec : clo (d :: s) = ([44], (d - 1) :: s) := if_neg e
      rw [ec]
      obtain ⟨m, rfl⟩ : ∃ k, m = k + 1 := ⟨m - 1, by omega⟩
      refine ⟨U, hv _ ?_, (a_OM T _ _).app u2, ⟨by rw [u3]; exact ev, by omega, by omega, DS.c u3 s hDs⟩⟩
      rw [if_neg (by omega), u1]
      exact g150L77_0
