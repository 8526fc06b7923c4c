def p1_bv : List Value := [.ref 2, .int 0, .ref 3, .int 0, .int 0, .int 0, .ref 10, .ref 11, .int 0, .int 0, .int 0, .ref 12, .int 0]
def p1_mv : List Value := [.int 0, .int (-1), .int 0, .ref 37, .ref 38, .ref 39, .ref 40, .ref 41, .ref 42, .int 0, .int 0, .ref 43, .ref 44, .ref 45, .int (-1), .int 0, .int 0, .int 0, .int 0, .int 0, .int 0, .ref 46, .int 0, .ref 47, .int 0, .ref 48, .ref 49, .int 0, .int 0, .int 0, .int 0, .ref 50, .ref 51, .ref 52, .int 0, .int 0, .int 0, .ref 53, .ref 54, .ref 55, .ref 56, .ref 57, .int 0, .int 0, .ref 58, .ref 59, .int 0, .ref 60, .ref 61, .ref 62, .ref 63, .ref 64, .ref 65, .ref 66, .ref 67, .ref 68, .int 0, .ref 69, .ref 70]

/-- the law ends with 1 from here, and its heap stays small -/
def p1_ok (l : List Int32) (pc : Nat) : Prop := ∃ ns' hs', Ru (some l) 2048 84000 172 (pc, [some (.retAddr 0), some (.ref 0), some (.ref 36), some (.ref 71), some (.int 0), none, none], [], 20574, fh_0) ((0, some (.int 1)), ns', hs') ∧ hs'.length ≤ 100 ∧ ns' ≤ 30000
theorem p1_gt : ∀ L, L < 5 → mn_cmp .gt (Int32.ofInt 0) (Int32.ofNat L - Int32.ofInt 5) = true := by decide +kernel
set_option maxRecDepth 100000 in
theorem p1_short {l : List Int32} (h : l.length < 5) : p1_ok l 23 := by
  refine ⟨20574, fh_0, ?_, by decide +kernel, by decide⟩
  refine Ru.op (q := (.iload 4, 2)) (by decide +kernel) rfl ?_
  refine Ru.op (q := (.aload_n 0, 1)) (by decide +kernel) rfl ?_
  refine Ru.slen (L := l.length) rfl rfl (by decide +kernel) ?_
  refine Ru.op (q := (.iconst 5, 1)) (by decide +kernel) rfl ?_
  refine Ru.op (q := (.isub, 1)) (by decide +kernel) rfl ?_
  refine Ru.br2 (k := .gt) (off := 828) (bb := true) (tg := 857) (by decide +kernel) (by decide +kernel) (p1_gt _ h) rfl ?_
  refine Ru.op (q := (.iconst 1, 1)) (by decide +kernel) rfl ?_
  exact Ru.iret (by decide +kernel) rfl rfl
set_option maxRecDepth 100000 in
theorem p1_head {s0 s1 s2 s3 s4 : Int32} {tg : Nat} (hx : mn_opC (.tableswitch 812 0 13 #[69, 157, 170, 242, 255, 268, 312, 368, 452, 508, 576, 651, 664, 756], 69) 39 [] [.int (s0 &&& (Int8.ofInt 15).toInt32)] 0 [] = some (tg, [], [], 0, [])) (h : p1_ok [s0, s1, s2, s3, s4] tg) : p1_ok [s0, s1, s2, s3, s4] 23 := by
  obtain ⟨ns', hs', h, h1, h2⟩ := h
  refine ⟨ns', hs', ?_, h1, h2⟩
  refine Ru.op (q := (.iload 4, 2)) (by decide +kernel) rfl ?_
  refine Ru.op (q := (.aload_n 0, 1)) (by decide +kernel) rfl ?_
  refine Ru.slen (L := 5) rfl rfl (by decide +kernel) ?_
  refine Ru.op (q := (.iconst 5, 1)) (by decide +kernel) rfl ?_
  refine Ru.op (q := (.isub, 1)) (by decide +kernel) rfl ?_
  refine Ru.br2 (k := .gt) (off := 828) (bb := false) (tg := 32) (by decide +kernel) (by decide +kernel) (by decide +kernel) rfl ?_
  refine Ru.op (q := (.aload_n 0, 1)) (by decide +kernel) rfl ?_
  refine Ru.op (q := (.iload 4, 2)) (by decide +kernel) rfl ?_
  refine Ru.sld (L := 5) (k := 0) (v := s0) rfl rfl (by decide +kernel) (by decide +kernel) (by decide +kernel) rfl ?_
  refine Ru.op (q := (.bipush 15, 2)) (by decide +kernel) rfl ?_
  refine Ru.op (q := (.iand, 1)) (by decide +kernel) rfl ?_
  refine Ru.sw (d := 812) (lo2 := 0) (hi := 13) (offs := #[69, 157, 170, 242, 255, 268, 312, 368, 452, 508, 576, 651, 664, 756]) (len := 69) (tg := tg) (by decide +kernel) hx ?_
  exact h
set_option maxRecDepth 100000 in
set_option maxHeartbeats 4000000 in
theorem p1_type {s0 s1 s2 s3 s4 : Int32} : p1_ok [s0, s1, s2, s3, s4] 108 := by
  have ht := @ty_L [s0, s1, s2, s3, s4] 0 20574 1 2 37 0 fh_0 [.ref 1, .ref 13, .ref 28, .ref 30, .ref 35, .int 0, .int (-1)] p1_bv (List.replicate 160 (.int 0)) p1_mv (List.replicate 160 (.int 0)) (.long 0) none none
  cases hf : ty_f (ty_b (ty_v [s0, s1, s2, s3, s4] 0)) 8 0 with
  | none =>
    refine ⟨_, _, ht (Nat.le_refl _) (by show 5 < 2 ^ 31; decide) rfl rfl rfl rfl rfl rfl rfl (by decide) rfl rfl rfl rfl rfl rfl rfl (fun _ y5 y6 => p1_tail rfl) (fun n h => ?_) (fun n h => ?_), by rw [List.length_set]; decide +kernel, by decide⟩
    · rw [hf] at h; cases h
    · rw [hf] at h; cases h
  | some n =>
    have hn := ty_f_le _ _ _ hf
    refine ⟨20574, ty_HM ((ty_H fh_0 1 2 0 p1_bv (List.replicate 160 (.int 0)) (ty_v [s0, s1, s2, s3, s4] 0) n).set 71 (53, [.long (lN (0 + n))])) 36 37 0 p1_mv (List.replicate 160 (.int 0)) (ty_v [s0, s1, s2, s3, s4] 0) n, ht (Nat.le_refl _) (by show 5 < 2 ^ 31; decide) rfl rfl rfl rfl rfl rfl rfl (by decide) rfl rfl rfl rfl rfl rfl rfl (fun h => ?_) (fun k h hk => ?_) (fun k h hk y5 y6 => ?_), ?_, by decide⟩
    · rw [hf] at h; cases h
    · rw [hf] at h; cases h; omega
    · rw [hf] at h; cases h; exact p1_tail rfl
    · unfold ty_HM ty_H
      rw [List.length_set, List.length_set, List.length_set, List.length_set, List.length_set]
      decide +kernel
theorem p1_sw {d lo2 hi : Int} {offs : Array Int} {len pc tg : Nat} {x : Int32} (h : x.toInt < lo2 ∨ hi < x.toInt) (hg : mn_gook pc d = true) (ht : mn_go pc d = tg) : mn_opC (.tableswitch d lo2 hi offs, len) pc [] [.int x] 0 [] = some (tg, [], [], 0, []) := by
  simp only [mn_opC]
  rw [if_pos h, if_pos hg, ht]
set_option maxRecDepth 100000 in
theorem p1_fig {s0 s1 s2 s3 s4 : Int32} : p1_ok [s0, s1, s2, s3, s4] 795 := by
  have h8 : (8 : Int32).toInt = 8 := by decide
  have h00 : (0 : Int32).toInt = 0 := by decide
  by_cases h0 : s1 < 0
  · have hi : s1.toInt < 0 := by rw [Int32.lt_iff_toInt_lt, h00] at h0; exact h0
    exact ⟨_, _, p1_figa (p1_sw (Or.inl hi) (by decide) (by decide)) (decide_eq_true h0) (p1_sw (Or.inl hi) (by decide) (by decide)), by decide +kernel, by decide⟩
  · by_cases h9 : s1 ≤ 8
    · obtain ⟨w, hw, rfl⟩ := nI_of2 (M := 8) (n := 8) h8 h0 h9
      match w, hw with
      | 0, _ => exact ⟨_, _, p1_fig0, by decide +kernel, by decide⟩
      | 1, _ => exact ⟨_, _, p1_fig1, by decide +kernel, by decide⟩
      | 2, _ => exact ⟨_, _, p1_fig2, by decide +kernel, by decide⟩
      | 3, _ => exact ⟨_, _, p1_fig3, by decide +kernel, by decide⟩
      | 4, _ => exact ⟨_, _, p1_fig4, by decide +kernel, by decide⟩
      | 5, _ => exact ⟨_, _, p1_fig5, by decide +kernel, by decide⟩
      | 6, _ => exact ⟨_, _, p1_fig6, by decide +kernel, by decide⟩
      | 7, _ => exact ⟨_, _, p1_fig7, by decide +kernel, by decide⟩
      | 8, _ => exact ⟨_, _, p1_fig8, by decide +kernel, by decide⟩
    · have hi : 8 < s1.toInt := by
        rw [Int32.le_iff_toInt_le, h8] at h9
        omega
      exact ⟨_, _, p1_figb (p1_sw (Or.inr hi) (by decide) (by decide)) (decide_eq_false h0) (decide_eq_false h9) (p1_sw (Or.inr hi) (by decide) (by decide)), by decide +kernel, by decide⟩
theorem p1_15 (s : Int32) : ∃ k, k < 16 ∧ s &&& (Int8.ofInt 15).toInt32 = nI k := by
  obtain ⟨m, hm, rfl⟩ := wb_of32 s
  refine ⟨m % 16, Nat.mod_lt _ (by decide), ?_⟩
  show nI m &&& nI 15 = _
  rw [ty_and]
  exact congrArg nI (Nat.and_two_pow_sub_one_eq_mod m 4)
set_option maxRecDepth 100000 in
set_option maxHeartbeats 4000000 in
theorem p1_five {s0 s1 s2 s3 s4 : Int32} : p1_ok [s0, s1, s2, s3, s4] 23 := by
  obtain ⟨k, hk, hx⟩ := p1_15 s0
  match k, hk with
  | 0, _ =>
    refine p1_head (tg := 108) (by rw [hx]; rfl) ?_
    exact p1_type
  | 1, _ =>
    refine p1_head (tg := 196) (by rw [hx]; rfl) ?_
    exact ⟨_, _, p1_wipe, by decide +kernel, by decide⟩
  | 2, _ =>
    refine p1_head (tg := 209) (by rw [hx]; rfl) ?_
    cases g0 : mn_cmp .eq s1 0
    · exact ⟨_, _, p1_asm1 g0, by decide +kernel, by decide⟩
    · exact ⟨_, _, p1_asm0 g0, by decide +kernel, by decide⟩
  | 3, _ =>
    refine p1_head (tg := 281) (by rw [hx]; rfl) ?_
    exact ⟨_, _, p1_at, by decide +kernel, by decide⟩
  | 4, _ =>
    refine p1_head (tg := 294) (by rw [hx]; rfl) ?_
    exact ⟨_, _, p1_state, by decide +kernel, by decide⟩
  | 5, _ =>
    refine p1_head (tg := 307) (by rw [hx]; rfl) ?_
    exact ⟨_, _, p1_step, by decide +kernel, by decide⟩
  | 6, _ =>
    refine p1_head (tg := 351) (by rw [hx]; rfl) ?_
    cases g0 : mn_cmp .lt s1 0
    · cases g1 : mn_cmp .le s1 (Int8.ofInt 50).toInt32
      · exact ⟨_, _, p1_run1 g0 g1, by decide +kernel, by decide⟩
      · cases g2 : mn_cmp .ge (Int32.ofInt 0) s1
        · exact ⟨_, _, p1_run3 g0 g1 g2, by decide +kernel, by decide⟩
        · exact ⟨_, _, p1_run2 g0 g1 g2, by decide +kernel, by decide⟩
    · exact ⟨_, _, p1_run0 g0, by decide +kernel, by decide⟩
  | 7, _ =>
    refine p1_head (tg := 407) (by rw [hx]; rfl) ?_
    cases g0 : mn_cmp .eq s1 0
    · cases g1 : mn_cmp .lt s2 0
      · exact ⟨_, _, p1_prt3 g0 g1, by decide +kernel, by decide⟩
      · exact ⟨_, _, p1_prt2 g0 g1, by decide +kernel, by decide⟩
    · cases g1 : mn_cmp .lt s2 0
      · exact ⟨_, _, p1_prt1 g0 g1, by decide +kernel, by decide⟩
      · exact ⟨_, _, p1_prt0 g0 g1, by decide +kernel, by decide⟩
  | 8, _ =>
    refine p1_head (tg := 491) (by rw [hx]; rfl) ?_
    cases g0 : mn_cmp .lt s1 0
    · exact ⟨_, _, p1_out1 g0, by decide +kernel, by decide⟩
    · exact ⟨_, _, p1_out0 g0, by decide +kernel, by decide⟩
  | 9, _ =>
    refine p1_head (tg := 547) (by rw [hx]; rfl) ?_
    cases g0 : mn_cmp .lt s1 0
    · exact ⟨_, _, p1_cla1 g0, by decide +kernel, by decide⟩
    · exact ⟨_, _, p1_cla0 g0, by decide +kernel, by decide⟩
  | 10, _ =>
    refine p1_head (tg := 615) (by rw [hx]; rfl) ?_
    cases g0 : mn_cmp .lt s1 0
    · exact ⟨_, _, p1_sub1 g0 (decide_eq_true (Int32.not_lt.mp (of_decide_eq_false g0))), by decide +kernel, by decide⟩
    · exact ⟨_, _, p1_sub0 g0, by decide +kernel, by decide⟩
  | 11, _ =>
    refine p1_head (tg := 690) (by rw [hx]; rfl) ?_
    exact ⟨_, _, p1_proof, by decide +kernel, by decide⟩
  | 12, _ =>
    refine p1_head (tg := 703) (by rw [hx]; rfl) ?_
    exact ⟨_, _, p1_clm, by decide +kernel, by decide⟩
  | 13, _ =>
    refine p1_head (tg := 795) (by rw [hx]; rfl) ?_
    exact p1_fig
  | 14, _ =>
    refine p1_head (tg := 851) (by rw [hx]; rfl) ?_
    exact ⟨_, _, p1_tail rfl, by decide +kernel, by decide⟩
  | 15, _ =>
    refine p1_head (tg := 851) (by rw [hx]; rfl) ?_
    exact ⟨_, _, p1_tail rfl, by decide +kernel, by decide⟩
  | k + 16, hk => exact absurd hk (by omega)
theorem p1_all {l : List Int32} (h : l.length ≤ 5) : ∃ ns' hs', Ru (some l) 2048 84000 172 (0, mn_pad [some (.retAddr 0)] 7, [], 0, []) ((0, some (.int 1)), ns', hs') ∧ hs'.length ≤ 100 ∧ ns' ≤ 30000 := by
  have h5 : p1_ok l 23 := by
    by_cases h4 : l.length < 5
    · exact p1_short h4
    · match l, h, h4 with
      | [s0, s1, s2, s3, s4], _, _ => exact p1_five
      | [], _, h4 => exact absurd (by decide) h4
      | [_], _, h4 => exact absurd (by simp) h4
      | [_, _], _, h4 => exact absurd (by simp) h4
      | [_, _, _], _, h4 => exact absurd (by simp) h4
      | [_, _, _, _], _, h4 => exact absurd (by simp) h4
      | _ :: _ :: _ :: _ :: _ :: _ :: _, h, _ => exact absurd h (by simp only [List.length_cons]; omega)
  obtain ⟨ns', hs', h6, h7, h8⟩ := h5
  exact ⟨ns', hs', p1_start h6, h7, h8⟩
