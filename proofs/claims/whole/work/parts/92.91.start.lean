/-! the fresh objects, and the whole law -/
def S0 : St := St.mk (fun c k => if c = 0 then (if k = 6 then -1 else 0) else if c = 13 then (if k = 7 then -1 else 0) else if c = 36 then (if k = 1 then -1 else if k = 14 then -1 else 0) else 0) (fun _ _ => 0) (fun _ _ => none) [] 20574 0
theorem aI_rep (N : Nat) : List.replicate N (Value.int 0) = aI N (fun _ => 0) := aF_rep N 0
theorem aR_rep (N : Nat) : List.replicate N Value.null = aR N (fun _ => none) := by
  unfold aR
  rw [show (fun n : Nat => rV ((fun _ => none : Int → Option Nat) n)) = fun _ => Value.null from rfl, List.map_const', List.length_range]
set_option maxRecDepth 100000 in
set_option maxHeartbeats 4000000 in
theorem Hp0 : Hp S0 = fh_0 := by
  unfold fh_0 fh_m
  rw [aI_rep 160, aI_rep 1280, aI_rep 10, aI_rep 16, aI_rep 80, aI_rep 128, aI_rep 32, aI_rep 64, aI_rep 100, aI_rep 8032, aI_rep 504, aI_rep 125, aI_rep 400, aI_rep 1024, aI_rep 50, aI_rep 300, aI_rep 2400, aI_rep 640, aR_rep 100, aR_rep 24]
  rfl
theorem Rel0 : Rel S0 := by
  refine ⟨⟨by decide, by decide, rfl, fun i z0 z1 => absurd z1 (show ¬ i < 0 by omega)⟩, ⟨rfl, rfl, rfl, rfl, rfl, rfl, rfl, rfl, rfl, rfl⟩, ⟨by decide, by decide, by decide, by decide, by decide, by decide, Or.inl (by decide), Or.inl rfl, by decide, by decide⟩, fun k z0 z1 => absurd z1 (show ¬ k < 0 by omega), fun j k z0 z1 => absurd z1 (show ¬ j < 0 by omega), fun k z0 z1 => absurd z1 (show ¬ k < 0 by omega), ⟨rfl, by decide, by decide, fun i z0 z1 => absurd z1 (show ¬ i < 0 by omega)⟩, fun v _ _ => (by decide : (0 : Int) ≤ 0), fun k _ _ => rfl⟩
theorem Room0 : Room 0 S0 := ⟨by decide, by decide⟩
theorem Hp_cnt (S : St) : (Hp S).length = 72 + S.tl.length := by
  show (fx S ++ S.tl.map Cl.en).length = _
  rw [List.length_append, List.length_map]
  rfl
set_option maxRecDepth 100000 in
theorem law_all {l : List Int32} (h : l.length ≤ 2560) : ∃ ns' hs', Ru (some l) 2048 84000 172 (0, mn_pad [some (.retAddr 0)] 7, [], 0, []) ((0, some (.int 1)), ns', hs') ∧ hs'.length ≤ 601024 ∧ ns' ≤ 7293034 := by
  obtain ⟨U, e, j', h5, hR, r1, r2⟩ := loop_ok h FU 0 S0 (by have := FU_gt (n := 2560) (by decide); omega) (by omega) Rel0 Room0
  obtain ⟨b1, b2, b3, b4, _⟩ := hR.2.2.1
  refine ⟨U.ns, Hp U, p1_start ?_, by rw [Hp_cnt]; omega, by omega⟩
  rw [← Hp0]
  refine g172L23_ok (l := l) (by omega) FU 0 S0 none none trivial _ e _ (fun o ho e0 e1 e2 e3 e4 e5 e6 _ => ?_) (fun o ho => by cases ho)
  cases ho
  refine Ru.op (q := (.iconst 1, 1)) (by decide +kernel) rfl ?_
  exact Ru.iret (by decide +kernel) rfl rfl
