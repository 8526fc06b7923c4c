/-! rows of a formula, as the second object multiplies them -/
/-- a frame of the second object: cells X, its own fields Y -/
def Fx (X Y : List Nat) (T T' : St) : Prop := T'.tl = T.tl ∧ T'.ns = T.ns ∧ T'.O = T.O ∧ (∀ c, c ∉ X → c ≠ 36 → T'.F0 c = T.F0 c ∧ T'.A0 c = T.A0 c ∧ T'.R c = T.R c) ∧ (T'.A0 36 = T.A0 36 ∧ T'.R 36 = T.R 36) ∧ ∀ i, i ∉ Y → T'.F0 36 i = T.F0 36 i
theorem Fx.refl (X Y : List Nat) (T : St) : Fx X Y T T := ⟨rfl, rfl, rfl, fun _ _ _ => ⟨rfl, rfl, rfl⟩, ⟨rfl, rfl⟩, fun _ _ => rfl⟩
theorem Fx.trans {X Y : List Nat} {T U W : St} (h : Fx X Y T U) (g : Fx X Y U W) : Fx X Y T W := ⟨g.1.trans h.1, g.2.1.trans h.2.1, g.2.2.1.trans h.2.2.1, fun c hc h3 => ⟨(g.2.2.2.1 c hc h3).1.trans (h.2.2.2.1 c hc h3).1, (g.2.2.2.1 c hc h3).2.1.trans (h.2.2.2.1 c hc h3).2.1, (g.2.2.2.1 c hc h3).2.2.trans (h.2.2.2.1 c hc h3).2.2⟩, ⟨g.2.2.2.2.1.1.trans h.2.2.2.2.1.1, g.2.2.2.2.1.2.trans h.2.2.2.2.1.2⟩, fun i hi => (g.2.2.2.2.2 i hi).trans (h.2.2.2.2.2 i hi)⟩
theorem Fx.mono {X Y X' Y' : List Nat} {T U : St} (h : Fx X Y T U) (hX : ∀ c, c ∈ X → c ∈ X') (hY : ∀ c, c ∈ Y → c ∈ Y') : Fx X' Y' T U := ⟨h.1, h.2.1, h.2.2.1, fun c hc h3 => h.2.2.2.1 c (fun e => hc (hX c e)) h3, h.2.2.2.2.1, fun i hi => h.2.2.2.2.2 i (fun e => hi (hY i e))⟩
theorem Fx.f {X Y : List Nat} (T : St) {k : Nat} (hk : k ∈ Y) (x : Int) : Fx X Y T (T.f 36 k x) := by
  refine ⟨rfl, rfl, rfl, fun c hc h3 => ⟨?_, rfl, rfl⟩, ⟨rfl, rfl⟩, fun i hi => ?_⟩
  · show (if c = 36 then _ else T.F0 c) = T.F0 c
    rw [if_neg h3]
  · show (if (36 : Nat) = 36 then (fun b => if b = k then eI x else T.F0 36 b) else T.F0 36) i = T.F0 36 i
    rw [if_pos rfl]
    exact if_neg (fun e => hi (by rw [e]; exact hk))
theorem Fx.a {X Y : List Nat} (T : St) {c : Nat} (hc : c ∈ X) (h36 : c ≠ 36) (i x : Int) : Fx X Y T (T.a c i x) := by
  refine ⟨rfl, rfl, rfl, fun d hd _ => ⟨rfl, ?_, rfl⟩, ⟨?_, rfl⟩, fun _ _ => rfl⟩
  · show (if d = c then _ else T.A0 d) = T.A0 d
    rw [if_neg (fun e => hd (by rw [e]; exact hc))]
  · show (if 36 = c then _ else T.A0 36) = T.A0 36
    rw [if_neg (fun e => h36 e.symm)]
theorem Fx.F {X Y : List Nat} {T T' : St} (h : Fx X Y T T') {i : Nat} (hi : i ∉ Y) : T'.F 36 i = T.F 36 i := by
  show (T'.F0 36 i).toInt = (T.F0 36 i).toInt
  rw [h.2.2.2.2.2 i hi]
theorem Fx.A {X Y : List Nat} {T T' : St} (h : Fx X Y T T') {c : Nat} (hc : c ∉ X) (h36 : c ≠ 36) : T'.A c = T.A c := by
  funext i
  show (T'.A0 c i).toInt = (T.A0 c i).toInt
  rw [(h.2.2.2.1 c hc h36).2.1]
theorem Fr.Fx {X Z : List Nat} {Y : List Nat} {T T' : St} (h : Fr Z T T') (hX : ∀ c ∈ Z, c ∈ X ∧ c ≠ 36) : Fx X Y T T' := ⟨h.1, h.2.1, h.2.2.1, fun c hc _ => h.2.2.2 c (fun e => hc (hX c e).1), (h.2.2.2 36 (fun e => (hX 36 e).2 rfl)).2, fun i _ => by rw [(h.2.2.2 36 (fun e => (hX 36 e).2 rfl)).1]⟩
/-- row k holds the literals w -/
def rowAt (a b : Int → Int) (k : Int) (w : List Int) : Prop := a k = w.length ∧ ∀ j : Int, 0 ≤ j → j < w.length → b (8 * k + j) = gI w j
def MR (a b : Int → Int) (base : Int) (R : List (List Int)) : Prop := ∀ i : Int, 0 ≤ i → i < R.length → rowAt a b (base + i) (lt R i)
def sml (R : List (List Int)) : Prop := R.length ≤ 16 ∧ ∀ i : Int, 0 ≤ i → i < R.length → (lt R i).length ≤ 8
def prd (R1 R2 : List (List Int)) : List (List Int) := (List.range (R1.length * R2.length)).map (fun (k : Nat) => lt R1 ((k : Int) / R2.length) ++ lt R2 ((k : Int) % R2.length))
theorem prd_len (R1 R2 : List (List Int)) : (prd R1 R2).length = R1.length * R2.length := by
  unfold prd
  rw [List.length_map, List.length_range]
theorem prd_at {R1 R2 : List (List Int)} {k : Int} (k0 : 0 ≤ k) (k1 : k < (R1.length * R2.length : Nat)) : lt (prd R1 R2) k = lt R1 (k / R2.length) ++ lt R2 (k % R2.length) := by
  unfold prd
  have e : lt ((List.range (R1.length * R2.length)).map (fun (k : Nat) => lt R1 ((k : Int) / R2.length) ++ lt R2 ((k : Int) % R2.length))) k = (fun (k : Nat) => lt R1 ((k : Int) / R2.length) ++ lt R2 ((k : Int) % R2.length)) k.toNat := by
    show List.getD _ _ _ = _
    rw [List.getD_eq_getElem?_getD, List.getElem?_map, List.getElem?_range (by omega)]
    rfl
  rw [e]
  show lt R1 ((k.toNat : Int) / R2.length) ++ lt R2 ((k.toNat : Int) % R2.length) = _
  rw [show (k.toNat : Int) = k by omega]
/-- i, j of a row's number -/
theorem dm_lt {k n1 n2 : Int} (k0 : 0 ≤ k) (h : k < n1 * n2) (h1 : 0 ≤ n1) (h2 : 0 ≤ n2) : 0 < n2 ∧ 0 ≤ k / n2 ∧ k / n2 < n1 ∧ 0 ≤ k % n2 ∧ k % n2 < n2 := by
  have p2 : 0 < n2 := by
    by_cases hz : n2 = 0
    · rw [hz, Int.mul_zero] at h
      omega
    · omega
  exact ⟨p2, Int.ediv_nonneg k0 h2, Int.ediv_lt_of_lt_mul p2 h, Int.emod_nonneg _ (by omega), Int.emod_lt_of_pos _ p2⟩
theorem g114L132_t {v1 v2 v3 v4 v5 v6 v7 : Int} {ra rb : List Int} (a0 : 0 ≤ v5) (a1 : v5 < v7) (b0 : 0 ≤ v6) (b1 : v6 < v7) (c1 : v7 < 300) (h8 : ra.length + rb.length ≤ 8) : ∀ (r n : Nat) (v8 : Int) (T : St), 0 ≤ v8 → v8 + r = (ra.length : Int) + rb.length → T.A 58 v7 = (ra.length : Int) + rb.length → T.A 58 v5 = ra.length → T.F 36 36 = 0 → (∀ j : Int, 0 ≤ j → j < ra.length → T.A 59 (8 * v5 + j) = gI ra j) → (∀ j : Int, 0 ≤ j → j < rb.length → T.A 59 (8 * v6 + j) = gI rb j) → r < n → ∃ T', g114L132 v1 v2 v3 v4 v5 v6 v7 n v8 T = some T' ∧ Fr [59] T T' ∧ ∀ q : Int, T'.A 59 q = if 8 * v7 + v8 ≤ q ∧ q < 8 * v7 + (ra.length + rb.length) then gI (ra ++ rb) (q - 8 * v7) else T.A 59 q := by
  intro r
  induction r with
  | zero =>
    intro n v8 T z0 hz e7 e5 hf ha hb hn
    obtain ⟨n, rfl⟩ : ∃ k, n = k + 1 := ⟨n - 1, by omega⟩
    refine ⟨T, ?_, Fr.refl _ _, fun q => by rw [if_neg (by omega)]⟩
    unfold g114L132
    refine (gd_t (by first | exact ⟨by omega, by omega⟩ | exact ⟨by omega, by omega, by omega⟩ | exact ⟨by omega, by omega, by omega, by omega⟩ | omega | exact inR_to _ | assumption | decide)).trans ?_
    refine (gd_t (by first | exact ⟨by omega, by omega⟩ | exact ⟨by omega, by omega, by omega⟩ | exact ⟨by omega, by omega, by omega, by omega⟩ | omega | exact inR_to _ | assumption | decide)).trans ?_
    rw [e7, if_neg (by omega)]
  | succ r ih =>
    intro n v8 T z0 hz e7 e5 hf ha hb hn
    obtain ⟨n, rfl⟩ : ∃ k, n = k + 1 := ⟨n - 1, by omega⟩
    obtain ⟨x, hx, ex⟩ : ∃ x, inR x ∧ (x = gI (ra ++ rb) v8 ∧ g114L132 v1 v2 v3 v4 v5 v6 v7 (n + 1) v8 T = g114L132 v1 v2 v3 v4 v5 v6 v7 n (v8 + 1) (T.a 59 (8 * v7 + v8) x)) := by
      by_cases hv : v8 < ra.length
      · refine ⟨T.A 59 (8 * v5 + v8), inR_to _, by rw [ha v8 z0 hv, gI_l hv z0], ?_⟩
        rw [g114L132]
        refine (gd_t (by first | exact ⟨by omega, by omega⟩ | exact ⟨by omega, by omega, by omega⟩ | exact ⟨by omega, by omega, by omega, by omega⟩ | omega | exact inR_to _ | assumption | decide)).trans ?_
        refine (gd_t (by first | exact ⟨by omega, by omega⟩ | exact ⟨by omega, by omega, by omega⟩ | exact ⟨by omega, by omega, by omega, by omega⟩ | omega | exact inR_to _ | assumption | decide)).trans ?_
        rw [e7, if_pos (by omega), if_pos hf]
        refine (gd_t (by first | exact ⟨by omega, by omega⟩ | exact ⟨by omega, by omega, by omega⟩ | exact ⟨by omega, by omega, by omega, by omega⟩ | omega | exact inR_to _ | assumption | decide)).trans ?_
        rw [e5, if_pos hv]
        refine (gd_t (by first | exact ⟨by omega, by omega⟩ | exact ⟨by omega, by omega, by omega⟩ | exact ⟨by omega, by omega, by omega, by omega⟩ | omega | exact inR_to _ | assumption | decide)).trans ?_
        refine (gd_t (by first | exact ⟨by omega, by omega⟩ | exact ⟨by omega, by omega, by omega⟩ | exact ⟨by omega, by omega, by omega, by omega⟩ | omega | exact inR_to _ | assumption | decide)).trans ?_
        rfl
      · refine ⟨T.A 59 (8 * v6 + v8 - ra.length), inR_to _, ?_, ?_⟩
        · rw [show 8 * v6 + v8 - (ra.length : Int) = 8 * v6 + (v8 - ra.length) by omega, hb (v8 - ra.length) (by omega) (by omega), gI_r (by omega)]
        · rw [g114L132]
          refine (gd_t (by first | exact ⟨by omega, by omega⟩ | exact ⟨by omega, by omega, by omega⟩ | exact ⟨by omega, by omega, by omega, by omega⟩ | omega | exact inR_to _ | assumption | decide)).trans ?_
          refine (gd_t (by first | exact ⟨by omega, by omega⟩ | exact ⟨by omega, by omega, by omega⟩ | exact ⟨by omega, by omega, by omega, by omega⟩ | omega | exact inR_to _ | assumption | decide)).trans ?_
          rw [e7, if_pos (by omega), if_pos hf]
          refine (gd_t (by first | exact ⟨by omega, by omega⟩ | exact ⟨by omega, by omega, by omega⟩ | exact ⟨by omega, by omega, by omega, by omega⟩ | omega | exact inR_to _ | assumption | decide)).trans ?_
          rw [e5, if_neg hv]
          refine (gd_t (by first | exact ⟨by omega, by omega⟩ | exact ⟨by omega, by omega, by omega⟩ | exact ⟨by omega, by omega, by omega, by omega⟩ | omega | exact inR_to _ | assumption | decide)).trans ?_
          refine (gd_t (by first | exact ⟨by omega, by omega⟩ | exact ⟨by omega, by omega, by omega⟩ | exact ⟨by omega, by omega, by omega, by omega⟩ | omega | exact inR_to _ | assumption | decide)).trans ?_
          rfl
    have d59 : (T.a 59 (8 * v7 + v8) x).A 59 = upI (T.A 59) (8 * v7 + v8) x := aA_up hx
    obtain ⟨T', q1, q2, q3⟩ := ih n (v8 + 1) (T.a 59 (8 * v7 + v8) x) (by omega) (by omega) (by rw [aA_ne (by decide)]; exact e7) (by rw [aA_ne (by decide)]; exact e5) hf (fun j j0 j1 => by rw [d59, upI_n (by omega)]; exact ha j j0 j1) (fun j j0 j1 => by rw [d59, upI_n (by omega)]; exact hb j j0 j1) (by omega)
    refine ⟨T', ex.2.trans q1, (Fr.a (by decide)).trans q2, fun q => ?_⟩
    rw [q3 q, d59]
    by_cases hq : q = 8 * v7 + v8
    · rw [hq, upI_e, if_neg (by omega), if_pos (by omega), ex.1, show 8 * v7 + v8 - 8 * v7 = v8 by omega]
    · rw [upI_n hq]
      by_cases h1 : 8 * v7 + (v8 + 1) ≤ q ∧ q < 8 * v7 + (ra.length + rb.length)
      · rw [if_pos h1, if_pos (by omega)]
      · rw [if_neg h1, if_neg (by omega)]
/-- what stands below row k is untouched -/
def RLo (k : Int) (T T' : St) : Prop := (∀ i : Int, i < k → T'.A 58 i = T.A 58 i) ∧ ∀ q : Int, q < 8 * k → T'.A 59 q = T.A 59 q
theorem RLo.refl (k : Int) (T : St) : RLo k T T := ⟨fun _ _ => rfl, fun _ _ => rfl⟩
theorem RLo.trans {k k' : Int} {T U W : St} (h : RLo k T U) (g : RLo k' U W) (hk : k ≤ k') : RLo k T W := ⟨fun i hi => (g.1 i (by omega)).trans (h.1 i hi), fun q hq => (g.2 q (by omega)).trans (h.2 q hq)⟩
theorem RLo.row {k i : Int} {T T' : St} {w : List Int} (h : RLo k T T') (hi : i < k) (h8 : w.length ≤ 8) (g : rowAt (T.A 58) (T.A 59) i w) : rowAt (T'.A 58) (T'.A 59) i w := ⟨by rw [h.1 i hi]; exact g.1, fun j j0 j1 => by rw [h.2 _ (by omega)]; exact g.2 j j0 j1⟩
theorem RLo.MR {k base : Int} {T T' : St} {R : List (List Int)} (h : RLo k T T') (hs : sml R) (hk : base + R.length ≤ k) (g : MR (T.A 58) (T.A 59) base R) : MR (T'.A 58) (T'.A 59) base R := fun i i0 i1 => h.row (by omega) (hs.2 i i0 i1) (g i i0 i1)
set_option maxHeartbeats 1000000 in
theorem g114L36_t {R1 R2 : List (List Int)} {b t : Int} (s1 : sml R1) (s2 : sml R2) (b0 : 0 ≤ b) (ht : t = b + R1.length + R2.length) (t1 : t ≤ 280) (hP : R1.length * R2.length ≤ 16) : ∀ (r n : Nat) (v4 : Int) (T : St), 0 ≤ v4 → v4 + r = (R1.length * R2.length : Nat) → T.F 36 36 = 0 → T.F 36 43 = t → MR (T.A 58) (T.A 59) b R1 → MR (T.A 58) (T.A 59) (b + R1.length) R2 → (∀ i : Int, 0 ≤ i → i < v4 → rowAt (T.A 58) (T.A 59) (t + i) (lt (prd R1 R2) i) ∧ (lt (prd R1 R2) i).length ≤ 8) → r < n → ∃ T', g114L36 R1.length R2.length b n v4 T = some T' ∧ Fx [58, 59] [36] T T' ∧ RLo t T T' ∧ ((T'.F 36 36 = 1 ∧ ¬ sml (prd R1 R2)) ∨ (T'.F 36 36 = 0 ∧ sml (prd R1 R2) ∧ MR (T'.A 58) (T'.A 59) t (prd R1 R2))) := by
  have eP : ((R1.length : Int) * R2.length) = (R1.length * R2.length : Nat) := by rw [Int.natCast_mul]
  intro r
  induction r with
  | zero =>
    intro n v4 T z0 hz hf h43 m1 m2 hd hn
    obtain ⟨n, rfl⟩ : ∃ k, n = k + 1 := ⟨n - 1, by omega⟩
    refine ⟨T, ?_, Fx.refl _ _ _, RLo.refl _ _, Or.inr ⟨hf, ⟨by rw [prd_len]; exact hP, fun i i0 i1 => (hd i i0 (by rw [prd_len] at i1; omega)).2⟩, fun i i0 i1 => (hd i i0 (by rw [prd_len] at i1; omega)).1⟩⟩
    unfold g114L36
    refine (gd_t (by first | exact ⟨by omega, by omega⟩ | exact ⟨by omega, by omega, by omega⟩ | exact ⟨by omega, by omega, by omega, by omega⟩ | omega | exact inR_to _ | assumption | decide)).trans ?_
    rw [eP]
    refine (gd_t (by first | exact ⟨by omega, by omega⟩ | exact ⟨by omega, by omega, by omega⟩ | exact ⟨by omega, by omega, by omega, by omega⟩ | omega | exact inR_to _ | assumption | decide)).trans ?_
    rw [if_neg (by omega)]
  | succ r ih =>
    intro n v4 T z0 hz hf h43 m1 m2 hd hn
    obtain ⟨n, rfl⟩ : ∃ k, n = k + 1 := ⟨n - 1, by omega⟩
    have dm := dm_lt (k := v4) (n1 := R1.length) (n2 := R2.length) z0 (by rw [eP]; omega) (by omega) (by omega)
    have ra := m1 (v4 / R2.length) dm.2.1 dm.2.2.1
    have rb := m2 (v4 % R2.length) dm.2.2.2.1 dm.2.2.2.2
    have la := s1.2 _ dm.2.1 dm.2.2.1
    have lb := s2.2 _ dm.2.2.2.1 dm.2.2.2.2
    have ep : lt (prd R1 R2) v4 = lt R1 (v4 / R2.length) ++ lt R2 (v4 % R2.length) := prd_at z0 (by omega)
    have ea := ra.1
    have eb := rb.1
    have l16 := s1.1
    have l16' := s2.1
    generalize hv5 : b + v4 / (R2.length : Int) = v5 at *
    generalize hv6 : b + (R1.length : Int) + v4 % (R2.length : Int) = v6 at *
    generalize hra : lt R1 (v4 / R2.length) = wa at *
    generalize hrb : lt R2 (v4 % R2.length) = wb at *
    have i58 : inR ((wa.length : Int) + wb.length) := ⟨by omega, by omega⟩
    by_cases h8 : 8 < (wa.length : Int) + wb.length
    · -- too long
      have ef : ((T.f 36 36 1).a 58 (t + v4) ((wa.length : Int) + wb.length)).F 36 36 = 1 := by rw [a_F, f_F (by decide), if_pos rfl, if_pos rfl]
      have e1 : ∀ m, g114L132 R1.length R2.length b v4 v5 v6 (t + v4) (m + 1) 0 ((T.f 36 36 1).a 58 (t + v4) ((wa.length : Int) + wb.length)) = some ((T.f 36 36 1).a 58 (t + v4) ((wa.length : Int) + wb.length)) := fun m => by
        rw [g114L132]
        refine (gd_t (by first | exact ⟨by omega, by omega⟩ | exact ⟨by omega, by omega, by omega⟩ | exact ⟨by omega, by omega, by omega, by omega⟩ | omega | exact inR_to _ | assumption | decide)).trans ?_
        refine (gd_t (by first | exact ⟨by omega, by omega⟩ | exact ⟨by omega, by omega, by omega⟩ | exact ⟨by omega, by omega, by omega, by omega⟩ | omega | exact inR_to _ | assumption | decide)).trans ?_
        rw [aA_up i58, upI_e, if_pos (by omega), if_neg (by rw [ef]; decide)]
      have e2 : ∀ m, g114L36 R1.length R2.length b (m + 1) (v4 + 1) ((T.f 36 36 1).a 58 (t + v4) ((wa.length : Int) + wb.length)) = some ((T.f 36 36 1).a 58 (t + v4) ((wa.length : Int) + wb.length)) := fun m => by
        rw [g114L36]
        refine (gd_t (by first | exact ⟨by omega, by omega⟩ | exact ⟨by omega, by omega, by omega⟩ | exact ⟨by omega, by omega, by omega, by omega⟩ | omega | exact inR_to _ | assumption | decide)).trans ?_
        rw [eP]
        refine (gd_t (by first | exact ⟨by omega, by omega⟩ | exact ⟨by omega, by omega, by omega⟩ | exact ⟨by omega, by omega, by omega, by omega⟩ | omega | exact inR_to _ | assumption | decide)).trans ?_
        by_cases hlt : v4 + 1 < ((R1.length * R2.length : Nat) : Int)
        · rw [if_pos hlt, if_neg (by rw [ef]; decide)]
        · rw [if_neg hlt]
      obtain ⟨q, hq⟩ := FU_ge (n := 0) (by decide)
      obtain ⟨n, rfl⟩ : ∃ k, n = k + 1 := ⟨n - 1, by omega⟩
      refine ⟨(T.f 36 36 1).a 58 (t + v4) ((wa.length : Int) + wb.length), ?_, (Fx.f T (by decide) 1).trans (Fx.a _ (by decide) (by decide) _ _), ⟨fun i hi => ?_, fun q hq => ?_⟩, Or.inl ⟨ef, fun hs => ?_⟩⟩
      · rw [g114L36]
        refine (gd_t (by first | exact ⟨by omega, by omega⟩ | exact ⟨by omega, by omega, by omega⟩ | exact ⟨by omega, by omega, by omega, by omega⟩ | omega | exact inR_to _ | assumption | decide)).trans ?_
        rw [eP]
        refine (gd_t (by first | exact ⟨by omega, by omega⟩ | exact ⟨by omega, by omega, by omega⟩ | exact ⟨by omega, by omega, by omega, by omega⟩ | omega | exact inR_to _ | assumption | decide)).trans ?_
        rw [if_pos (by omega), if_pos hf]
        refine (gd_t (by first | exact ⟨by omega, by omega⟩ | exact ⟨by omega, by omega, by omega⟩ | exact ⟨by omega, by omega, by omega, by omega⟩ | omega | exact inR_to _ | assumption | decide)).trans ?_
        rw [hv5, hv6]
        refine (gd_t (by first | exact ⟨by omega, by omega⟩ | exact ⟨by omega, by omega, by omega⟩ | exact ⟨by omega, by omega, by omega, by omega⟩ | omega | exact inR_to _ | assumption | decide)).trans ?_
        refine (gd_t (by first | exact ⟨by omega, by omega⟩ | exact ⟨by omega, by omega, by omega⟩ | exact ⟨by omega, by omega, by omega, by omega⟩ | omega | exact inR_to _ | assumption | decide)).trans ?_
        rw [ea, eb]
        refine (gd_t (by first | exact ⟨by omega, by omega⟩ | exact ⟨by omega, by omega, by omega⟩ | exact ⟨by omega, by omega, by omega, by omega⟩ | omega | exact inR_to _ | assumption | decide)).trans ?_
        rw [if_pos h8, h43]
        refine (gd_t (by first | exact ⟨by omega, by omega⟩ | exact ⟨by omega, by omega, by omega⟩ | exact ⟨by omega, by omega, by omega, by omega⟩ | omega | exact inR_to _ | assumption | decide)).trans ?_
        rw [hq, Nat.zero_add, e1]
        exact e2 n
      · rw [aA_up i58, upI_n (by omega)]
        rfl
      · rw [aA_ne (by decide)]
        rfl
      · have := hs.2 v4 z0 (by rw [prd_len]; omega)
        rw [ep, List.length_append] at this
        omega
    · have ef : ((T.f 36 36 0).a 58 (t + v4) ((wa.length : Int) + wb.length)).F 36 36 = 0 := by rw [a_F, f_F (by decide), if_pos rfl, if_pos rfl]
      have d58 : ((T.f 36 36 0).a 58 (t + v4) ((wa.length : Int) + wb.length)).A 58 = upI (T.A 58) (t + v4) ((wa.length : Int) + wb.length) := by rw [aA_up i58, f_A]
      have d59 : ((T.f 36 36 0).a 58 (t + v4) ((wa.length : Int) + wb.length)).A 59 = T.A 59 := by rw [aA_ne (by decide), f_A]
      obtain ⟨T1, q1, q2, q3⟩ := g114L132_t (v1 := R1.length) (v2 := R2.length) (v3 := b) (v4 := v4) (v5 := v5) (v6 := v6) (v7 := t + v4) (ra := wa) (rb := wb) (by omega) (by omega) (by omega) (by omega) (by omega) (by omega) (wa.length + wb.length) FU 0 ((T.f 36 36 0).a 58 (t + v4) ((wa.length : Int) + wb.length)) (by omega) (by omega) (by rw [d58, upI_e]) (by rw [d58, upI_n (by omega)]; exact ea) ef (by rw [d59]; exact ra.2) (by rw [d59]; exact rb.2) (FU_gt (by omega))
      have fx : Fx [58, 59] [36] T T1 := ((Fx.f T (by decide) 0).trans (Fx.a _ (by decide) (by decide) _ _)).trans (q2.Fx (by decide))
      have t58 : T1.A 58 = upI (T.A 58) (t + v4) ((wa.length : Int) + wb.length) := (q2.A (by decide)).trans d58
      have lo : RLo (t + v4) T T1 := ⟨fun i hi => by rw [t58, upI_n (by omega)], fun q hq => by rw [q3 q, if_neg (by omega), d59]⟩
      have row : rowAt (T1.A 58) (T1.A 59) (t + v4) (lt (prd R1 R2) v4) := by
        rw [ep]
        refine ⟨by rw [t58, upI_e, List.length_append]; omega, fun j j0 j1 => ?_⟩
        rw [List.length_append] at j1
        rw [q3, if_pos (by omega), show 8 * (t + v4) + j - 8 * (t + v4) = j by omega]
      obtain ⟨T2, p1, p2, p3, p4⟩ := ih n (v4 + 1) T1 (by omega) (by omega) (by rw [q2.F (by decide)]; exact ef) (by rw [fx.F (by decide)]; exact h43) (lo.MR s1 (by omega) m1) (lo.MR s2 (by omega) m2) (fun i i0 i1 => by
        by_cases hi : i = v4
        · rw [hi]
          exact ⟨row, by rw [ep, List.length_append]; omega⟩
        · have := hd i i0 (by omega)
          exact ⟨lo.row (by omega) this.2 this.1, this.2⟩) (by omega)
      refine ⟨T2, ?_, fx.trans p2, ⟨fun i hi => (p3.1 i hi).trans (lo.1 i (by omega)), fun q hq => (p3.2 q hq).trans (lo.2 q (by omega))⟩, p4⟩
      · rw [g114L36]
        refine (gd_t (by first | exact ⟨by omega, by omega⟩ | exact ⟨by omega, by omega, by omega⟩ | exact ⟨by omega, by omega, by omega, by omega⟩ | omega | exact inR_to _ | assumption | decide)).trans ?_
        rw [eP]
        refine (gd_t (by first | exact ⟨by omega, by omega⟩ | exact ⟨by omega, by omega, by omega⟩ | exact ⟨by omega, by omega, by omega, by omega⟩ | omega | exact inR_to _ | assumption | decide)).trans ?_
        rw [if_pos (by omega), if_pos hf]
        refine (gd_t (by first | exact ⟨by omega, by omega⟩ | exact ⟨by omega, by omega, by omega⟩ | exact ⟨by omega, by omega, by omega, by omega⟩ | omega | exact inR_to _ | assumption | decide)).trans ?_
        rw [hv5, hv6]
        refine (gd_t (by first | exact ⟨by omega, by omega⟩ | exact ⟨by omega, by omega, by omega⟩ | exact ⟨by omega, by omega, by omega, by omega⟩ | omega | exact inR_to _ | assumption | decide)).trans ?_
        refine (gd_t (by first | exact ⟨by omega, by omega⟩ | exact ⟨by omega, by omega, by omega⟩ | exact ⟨by omega, by omega, by omega, by omega⟩ | omega | exact inR_to _ | assumption | decide)).trans ?_
        rw [ea, eb]
        refine (gd_t (by first | exact ⟨by omega, by omega⟩ | exact ⟨by omega, by omega, by omega⟩ | exact ⟨by omega, by omega, by omega, by omega⟩ | omega | exact inR_to _ | assumption | decide)).trans ?_
        rw [if_neg h8, h43]
        refine (gd_t (by first | exact ⟨by omega, by omega⟩ | exact ⟨by omega, by omega, by omega⟩ | exact ⟨by omega, by omega, by omega, by omega⟩ | omega | exact inR_to _ | assumption | decide)).trans ?_
        rw [q1]
        exact p1
