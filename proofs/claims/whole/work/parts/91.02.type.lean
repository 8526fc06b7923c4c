/-! the law's call of type, over a state -/
theorem aI_set {N : Nat} {g : Int → Int32} {k : Nat} {x : Int32} : (aI N g).set k (.int x) = aI N (upI g (k : Int) x) := by
  unfold aI
  rw [aF_set]
  congr 1
  funext i
  unfold up upI
  by_cases h : i = k
  · rw [if_pos h, if_pos (by omega)]
  · rw [if_neg h, if_neg (by omega)]
def tyA (g : Int → Int32) (t : Nat) (v : Int64) (n : Nat) : Int → Int32 := fun i => if (t : Int) ≤ i ∧ i < t + n then nI (ty_b v (i.toNat - t)) else g i
theorem ty_w_aI {N t : Nat} {g : Int → Int32} {v : Int64} : ∀ n, ty_w (aI N g) t v n = aI N (tyA g t v n) := by
  intro n
  induction n with
  | zero =>
    show aI N g = _
    congr 1
    funext i
    unfold tyA
    rw [if_neg (by omega)]
  | succ n ih =>
    unfold ty_w
    rw [ih, aI_set]
    congr 1
    funext i
    unfold upI tyA
    by_cases h : i = ((t + n : Nat) : Int)
    · rw [if_pos h, if_pos (by omega)]
      congr 2
      omega
    · rw [if_neg h]
      by_cases h2 : (t : Int) ≤ i ∧ i < t + n
      · rw [if_pos h2, if_pos (by omega)]
      · rw [if_neg h2, if_neg (by omega)]
def St.sA (S : St) (c : Nat) (g : Int → Int32) : St := St.mk S.F0 (fun a => if a = c then g else S.A0 a) S.R S.tl S.ns S.O
/-- n bytes of v behind the t characters that both have -/
def St.ty (S : St) (t : Nat) (v : Int64) (n : Nat) : St := ((((((S.sA 2 (tyA (S.A0 2) t v n)).f 1 1 ((t + n : Nat) : Int)).o (lN (t + n))).sA 37 (tyA (S.A0 37) t v n)).f 36 0 0).f 36 2 ((t + n : Nat) : Int))
def gTy (l : List Int32) (S : St) (i : Int) : Option St :=
  gd (0 ≤ i ∧ i + 5 ≤ l.length) (gd (S.F 36 2 = S.F 1 1 ∧ 0 ≤ S.F 1 1 ∧ S.F 1 1 ≤ 160) (match ty_f (ty_b (ty_v l i.toNat)) 8 0 with
    | none => some (S.ho.f 36 0 1)
    | some n => if 160 < S.F 1 1 + n then some (S.ho.f 36 0 2) else some (S.ty (S.F 1 1).toNat (ty_v l i.toNat) n)))
set_option maxRecDepth 100000 in
set_option maxHeartbeats 4000000 in
theorem ty_heap (S : St) (t : Nat) (v : Int64) (n : Nat) : (((((Hp S).set 2 (52, aI 160 (tyA (S.A0 2) t v n))).set 1 (1, [Value.ref 2, .int (S.F0 1 1), .ref 3, .int (S.F0 1 3), .int (S.F0 1 4), .int (S.F0 1 5), .ref 10, .ref 11, .int (S.F0 1 8), .int (S.F0 1 9), .int (S.F0 1 10), .ref 12, .int (S.F0 1 12)].set 1 (vI ((t + n : Nat) : Int)))).set 71 (53, [.long (lN (t + n))])).set 37 (50, aI 160 (tyA (S.A0 37) t v n))).set 36 (10, ([Value.int (S.F0 36 0), .int (S.F0 36 1), .int (S.F0 36 2), .ref 37, .ref 38, .ref 39, .ref 40, .ref 41, .ref 42, .int (S.F0 36 9), .int (S.F0 36 10), .ref 43, .ref 44, .ref 45, .int (S.F0 36 14), .int (S.F0 36 15), .int (S.F0 36 16), .int (S.F0 36 17), .int (S.F0 36 18), .int (S.F0 36 19), .int (S.F0 36 20), .ref 46, .int (S.F0 36 22), .ref 47, .int (S.F0 36 24), .ref 48, .ref 49, .int (S.F0 36 27), .int (S.F0 36 28), .int (S.F0 36 29), .int (S.F0 36 30), .ref 50, .ref 51, .ref 52, .int (S.F0 36 34), .int (S.F0 36 35), .int (S.F0 36 36), .ref 53, .ref 54, .ref 55, .ref 56, .ref 57, .int (S.F0 36 42), .int (S.F0 36 43), .ref 58, .ref 59, .int (S.F0 36 46), .ref 60, .ref 61, .ref 62, .ref 63, .ref 64, .ref 65, .ref 66, .ref 67, .ref 68, .int (S.F0 36 56), .ref 69, .ref 70].set 0 (vI 0)).set 2 (vI ((t + n : Nat) : Int))) = Hp (S.ty t v n) := rfl
set_option maxRecDepth 100000 in
set_option maxHeartbeats 4000000 in
theorem gTy_ok {l : List Int32} (hl : l.length < 2147483648) {S o : St} {i : Int} {x5 x6 : Option Value} {r : mn_A} (e : gTy l S i = some o) (h : ∀ y5 y6, Ru (some l) 2048 84000 172 (851, [some (.retAddr 0), some (.ref 0), some (.ref 36), some (.ref 71), some (vI i), y5, y6], [], o.ns, Hp o) r) : Ru (some l) 2048 84000 172 (108, [some (.retAddr 0), some (.ref 0), some (.ref 36), some (.ref 71), some (vI i), x5, x6], [], S.ns, Hp S) r := by
  obtain ⟨⟨hi0, hi5⟩, e⟩ := gd_some e
  obtain ⟨⟨hm, ht0, ht1⟩, e⟩ := gd_some e
  have ei : vI i = Value.int (nI i.toNat) := by show Value.int (eI i) = _; rw [eI_nI hi0]
  have e1 : S.F0 1 1 = nI (S.F 1 1).toNat := by rw [← eI_nI ht0]; exact (eI_of _).symm
  have e2 : S.F0 36 2 = nI (S.F 1 1).toNat := by rw [← eI_nI ht0, ← hm]; exact (eI_of _).symm
  rw [ei] at h ⊢
  refine ty_L (l := l) (p := i.toNat) (b := 1) (c := 2) (e := 37) (t := (S.F 1 1).toNat) (by omega) (by omega) (hp0 S) rfl (hp1 S) (by rw [← e1]; rfl) rfl (hp2 S) (aI_len _ _) (by omega) (hp71 S) (hp36 S) rfl (by rw [← e2]; rfl) rfl (hp37 S) (aI_len _ _) (fun hf => ?_) (fun n hf hn => ?_) (fun n hf hn => ?_)
  · rw [hf] at e
    cases e
    intro y5 y6
    rw [ho_ok]
    exact h y5 y6
  · rw [hf] at e
    have e : (if 160 < S.F 1 1 + n then some (S.ho.f 36 0 2) else some (S.ty (S.F 1 1).toNat (ty_v l i.toNat) n)) = some o := e
    rw [if_pos (by omega)] at e
    cases e
    intro y5 y6
    rw [ho_ok]
    exact h y5 y6
  · rw [hf] at e
    have e : (if 160 < S.F 1 1 + n then some (S.ho.f 36 0 2) else some (S.ty (S.F 1 1).toNat (ty_v l i.toNat) n)) = some o := e
    rw [if_neg (by omega)] at e
    cases e
    intro y5 y6
    have hh := ty_heap S (S.F 1 1).toNat (ty_v l i.toNat) n
    have ev : vI (((S.F 1 1).toNat + n : Nat) : Int) = Value.int (nI ((S.F 1 1).toNat + n)) := by show Value.int (eI _) = _; rw [eI_nI (by omega), Int.toNat_natCast]
    rw [ev] at hh
    unfold ty_HM ty_H
    rw [ty_w_aI, ty_w_aI]
    have h3 := h y5 y6
    rw [← hh] at h3
    exact h3
