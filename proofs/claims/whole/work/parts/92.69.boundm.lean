/-! the second object binds -/
def uns (nu cd : Int → Int) : Nat → List Int
  | 0 => []
  | j + 1 => uns nu cd j ++ (if cd j < 32768 then [nu j] else [])
theorem uns_len (nu cd : Int → Int) : ∀ k : Nat, (uns nu cd k).length = (ubs cd k).length
  | 0 => rfl
  | k + 1 => by
    show (uns nu cd k ++ (if cd k < 32768 then [nu k] else [])).length = (ubs cd k ++ (if cd k < 32768 then [cd k] else [])).length
    rw [List.length_append, List.length_append, uns_len nu cd k]
    split <;> rfl
/-- which names are variables -/
def UF (k : Nat) (cd : Int → Int) (T : St) : Prop := ∀ i : Int, 0 ≤ i → i < k → (cd i < 32768 → T.A 52 i ≠ 0) ∧ (¬ cd i < 32768 → T.A 52 i = 0)
theorem g117L_t {k : Nat} {nu cd : Int → Int} {q c0 : Int} (hk : k ≤ 10) (q0 : 0 ≤ q) (q1 : q < 900) (c00 : 0 ≤ c0) (c01 : c0 ≤ 10000000) : ∀ (r n j : Nat) (T : St), j + r = k + 1 → r < n → T.F 36 30 = ((k + 1 : Nat) : Int) → (∀ i : Int, 0 ≤ i → i < k → T.A 51 i = nu i ∧ 0 ≤ nu i ∧ nu i < 128 ∧ (cd i < 32768 → T.A 52 i ≠ 0) ∧ (¬ cd i < 32768 → T.A 52 i = 0)) → T.A 52 k = 0 → j ≤ k → T.F 36 22 = q + 1 + (uns nu cd j).length → T.A 46 q = c0 + (uns nu cd j).length → ∃ T', g117L75 q n j T = some T' ∧ Fx [46] [22] T T' ∧ T'.F 36 22 = q + 1 + (uns nu cd k).length ∧ T'.A 46 q = c0 + (uns nu cd k).length ∧ (∀ z : Int, z < q + 1 + (uns nu cd j).length → z ≠ q → T'.A 46 z = T.A 46 z) ∧ ∀ i : Int, (uns nu cd j).length ≤ i → i < (uns nu cd k).length → T'.A 46 (q + 1 + i) = gI (uns nu cd k) i := by
  intro r
  induction r with
  | zero => intro n j T hj _ _ _ _ hjk; omega
  | succ r ih =>
    intro n j T hj hn h30 hT h52 hjk h22 h46
    obtain ⟨n, rfl⟩ : ∃ q, n = q + 1 := ⟨n - 1, by omega⟩
    have lu := uns_len nu cd j
    have ul := ubs_len cd j
    by_cases hjk2 : j = k
    · -- the name itself is no variable
      subst hjk2
      refine ⟨T, ?_, Fx.refl _ _ _, h22, h46, fun _ _ _ => rfl, fun i h1 h2 => absurd h2 (by omega)⟩
      obtain ⟨n, rfl⟩ : ∃ q, n = q + 1 := ⟨n - 1, by omega⟩
      rw [g117L75]
      refine (gd_t (by first | exact ⟨by omega, by omega⟩ | exact ⟨by omega, by omega, by omega⟩ | exact ⟨by omega, by omega, by omega, by omega⟩ | omega | exact inR_to _ | assumption | decide)).trans ?_
      rw [h30, if_pos (by omega)]
      refine (gd_t (by first | exact ⟨by omega, by omega⟩ | exact ⟨by omega, by omega, by omega⟩ | exact ⟨by omega, by omega, by omega, by omega⟩ | omega | exact inR_to _ | assumption | decide)).trans ?_
      rw [if_pos h52, g117L75]
      refine (gd_t (by first | exact ⟨by omega, by omega⟩ | exact ⟨by omega, by omega, by omega⟩ | exact ⟨by omega, by omega, by omega, by omega⟩ | omega | exact inR_to _ | assumption | decide)).trans ?_
      rw [h30, if_neg (by omega)]
    · obtain ⟨t1, t2, t3, t4, t5⟩ := hT j (by omega) (by omega)
      by_cases hv : cd j < 32768
      · have eu : uns nu cd (j + 1) = uns nu cd j ++ [nu j] := by show uns nu cd j ++ (if cd j < 32768 then [nu j] else []) = _; rw [if_pos hv]
        have el : ((uns nu cd (j + 1)).length : Int) = (uns nu cd j).length + 1 := by rw [eu, List.length_append]; rfl
        have iv : inR (nu j) := ⟨by omega, by omega⟩
        have i22 : inR (T.F 36 22 + 1) := ⟨by omega, by omega⟩
        have ic : inR (c0 + (uns nu cd j).length + 1) := ⟨by omega, by omega⟩
        have e105 : g105 T (nu j) = some ((T.a 46 (T.F 36 22) (nu j)).f 36 22 (T.F 36 22 + 1)) := by
          unfold g105
          refine (gd_t (by first | exact ⟨by omega, by omega⟩ | exact ⟨by omega, by omega, by omega⟩ | exact ⟨by omega, by omega, by omega, by omega⟩ | omega | exact inR_to _ | assumption | decide)).trans ?_
          rfl
        have aq : ((T.a 46 (T.F 36 22) (nu j)).f 36 22 (T.F 36 22 + 1)).A 46 q = c0 + (uns nu cd j).length := by rw [f_A, aA_up iv, upI_n (by omega)]; exact h46
        have e : g117L75 q (n + 1) j T = g117L75 q n ((j + 1 : Nat) : Int) (((T.a 46 (T.F 36 22) (nu j)).f 36 22 (T.F 36 22 + 1)).a 46 q (c0 + (uns nu cd j).length + 1)) := by
          rw [g117L75]
          refine (gd_t (by first | exact ⟨by omega, by omega⟩ | exact ⟨by omega, by omega, by omega⟩ | exact ⟨by omega, by omega, by omega, by omega⟩ | omega | exact inR_to _ | assumption | decide)).trans ?_
          rw [h30, if_pos (by omega)]
          refine (gd_t (by first | exact ⟨by omega, by omega⟩ | exact ⟨by omega, by omega, by omega⟩ | exact ⟨by omega, by omega, by omega, by omega⟩ | omega | exact inR_to _ | assumption | decide)).trans ?_
          rw [if_neg (t4 hv), t1, e105]
          refine (ob_t rfl).trans ?_
          refine (gd_t (by first | exact ⟨by omega, by omega⟩ | exact ⟨by omega, by omega, by omega⟩ | exact ⟨by omega, by omega, by omega, by omega⟩ | omega | exact inR_to _ | assumption | decide)).trans ?_
          rw [aq]
          rfl
        have f22 : (((T.a 46 (T.F 36 22) (nu j)).f 36 22 (T.F 36 22 + 1)).a 46 q (c0 + (uns nu cd j).length + 1)).F 36 22 = T.F 36 22 + 1 := by rw [a_F, f_F i22, if_pos rfl, if_pos rfl]
        have d46 : (((T.a 46 (T.F 36 22) (nu j)).f 36 22 (T.F 36 22 + 1)).a 46 q (c0 + (uns nu cd j).length + 1)).A 46 = upI (upI (T.A 46) (T.F 36 22) (nu j)) q (c0 + (uns nu cd j).length + 1) := by rw [aA_up ic, f_A, aA_up iv]
        have fx : Fx [46] [22] T (((T.a 46 (T.F 36 22) (nu j)).f 36 22 (T.F 36 22 + 1)).a 46 q (c0 + (uns nu cd j).length + 1)) := ((Fx.a T (by decide) (by decide) _ _).trans (Fx.f _ (by decide) _)).trans (Fx.a _ (by decide) (by decide) _ _)
        obtain ⟨T', p1, p2, p3, p4, p5, p6⟩ := ih n (j + 1) (((T.a 46 (T.F 36 22) (nu j)).f 36 22 (T.F 36 22 + 1)).a 46 q (c0 + (uns nu cd j).length + 1)) (by omega) (by omega) (by rw [fx.F (by decide)]; exact h30) (by rw [fx.A (by decide) (by decide), fx.A (show 52 ∉ [46] by decide) (by decide)]; exact hT) (by rw [fx.A (by decide) (by decide)]; exact h52) (by omega) (by rw [f22, el]; omega) (by rw [d46, upI_e, el]; omega)
        rw [el] at p5 p6
        refine ⟨T', e.trans p1, fx.trans p2, p3, p4, fun z h1 h2 => ?_, fun i h1 h2 => ?_⟩
        · rw [p5 z (by omega) h2, d46, upI_n h2, upI_n (by omega)]
        · by_cases hi : i = (uns nu cd j).length
          · have hk2 : (uns nu cd (j + 1)).length ≤ (uns nu cd k).length := by
              have := h2
              rw [hi] at this
              omega
            rw [hi, p5 _ (by omega) (by omega), d46, upI_n (by omega), h22, upI_e]
            -- the element stands at its place in the whole list
            have pre : ∀ (m a : Nat), a + m = k → ∀ i : Int, 0 ≤ i → i < (uns nu cd a).length → gI (uns nu cd k) i = gI (uns nu cd a) i := by
              intro m
              induction m with
              | zero => intro a ha i _ _; rw [show a = k by omega]
              | succ m ihm =>
                intro a ha i i0 i1
                have e1 : uns nu cd (a + 1) = uns nu cd a ++ (if cd a < 32768 then [nu a] else []) := rfl
                rw [ihm (a + 1) (by omega) i i0 (by rw [e1, List.length_append]; omega), e1, gI_l i1 i0]
            rw [pre (k - (j + 1)) (j + 1) (by omega) _ (by omega) (by rw [el]; omega), eu, gI_r (Int.le_refl _), Int.sub_self]
            rfl
          · exact p6 i (by omega) h2
      · have eu : uns nu cd (j + 1) = uns nu cd j := by show uns nu cd j ++ (if cd j < 32768 then [nu j] else []) = _; rw [if_neg hv, List.append_nil]
        have e : g117L75 q (n + 1) j T = g117L75 q n ((j + 1 : Nat) : Int) T := by
          rw [g117L75]
          refine (gd_t (by first | exact ⟨by omega, by omega⟩ | exact ⟨by omega, by omega, by omega⟩ | exact ⟨by omega, by omega, by omega, by omega⟩ | omega | exact inR_to _ | assumption | decide)).trans ?_
          rw [h30, if_pos (by omega)]
          refine (gd_t (by first | exact ⟨by omega, by omega⟩ | exact ⟨by omega, by omega, by omega⟩ | exact ⟨by omega, by omega, by omega, by omega⟩ | omega | exact inR_to _ | assumption | decide)).trans ?_
          rw [if_pos (t5 hv)]
          rfl
        obtain ⟨T', p1, p2, p3, p4, p5, p6⟩ := ih n (j + 1) T (by omega) (by omega) h30 hT h52 (by omega) (by rw [eu]; exact h22) (by rw [eu]; exact h46)
        rw [eu] at p5 p6
        exact ⟨T', e.trans p1, p2, p3, p4, p5, p6⟩
