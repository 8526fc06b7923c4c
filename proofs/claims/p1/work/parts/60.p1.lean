/-- the law's loop once more, behind its one call, and its end -/
theorem p1_tail {sc : List Int32} {hs : mn_H} {ns : Nat} {x5 x6 : Option Value} (hL : sc.length = 5) : Ru (some sc) 2048 84000 172 (851, [some (.retAddr 0), some (.ref 0), some (.ref 36), some (.ref 71), some (.int 0), x5, x6], [], ns, hs) ((0, some (.int 1)), ns, hs) := by
  refine Ru.op (q := (.iinc 4 5, 3)) (by decide +kernel) rfl ?_
  refine Ru.op (q := (.goto (-831), 3)) (by decide +kernel) rfl ?_
  refine Ru.op (q := (.iload 4, 2)) (by decide +kernel) rfl ?_
  refine Ru.op (q := (.aload_n 0, 1)) (by decide +kernel) rfl ?_
  refine Ru.slen (L := 5) rfl hL (by decide +kernel) ?_
  refine Ru.op (q := (.iconst 5, 1)) (by decide +kernel) rfl ?_
  refine Ru.op (q := (.isub, 1)) (by decide +kernel) rfl ?_
  refine Ru.br2 (k := .gt) (off := 828) (bb := true) (tg := 857) (by decide +kernel) (by decide +kernel) (by decide +kernel) (by decide +kernel) ?_
  refine Ru.op (q := (.iconst 1, 1)) (by decide +kernel) rfl ?_
  exact Ru.end (q := (.ireturn, 1)) (by decide +kernel) rfl rfl
set_option maxRecDepth 100000 in
theorem p1_wipe_0 : Ru none 2047 83979 9 (0, mn_pad (mn_ent [.ref 0]) 2, [], 20574, fh_0) ((0, some (.int 0)), 20574, fh_0) := Ru.of 12 (by decide +kernel)
set_option maxRecDepth 100000 in
theorem p1_wipe_1 : Ru none 2047 83979 96 (0, mn_pad (mn_ent [.ref 36]) 2, [], 20574, fh_0) ((0, some (.int 0)), 20574, fh_0) := Ru.of 13 (by decide +kernel)
set_option maxRecDepth 100000 in
set_option maxHeartbeats 4000000 in
theorem p1_wipe {s0 s1 s2 s3 s4 : Int32} : Ru (some [s0, s1, s2, s3, s4]) 2048 84000 172 (196, [some (.retAddr 0), some (.ref 0), some (.ref 36), some (.ref 71), some (.int 0), none, none], [], 20574, fh_0) ((0, some (.int 1)), 20574, fh_0) := by
  refine Ru.op (q := (.aload_n 1, 1)) (by decide +kernel) rfl ?_
  refine Ru.call (q := (.invokevirtual 71, 3)) (by decide +kernel) rfl rfl rfl rfl ⟨Nat.le_of_ble_eq_true rfl, Nat.le_of_ble_eq_true rfl, Nat.le_of_ble_eq_true rfl, Nat.le_of_ble_eq_true rfl⟩ (p1_wipe_0) ?_
  refine Ru.op (q := (.aload_n 2, 1)) (by decide +kernel) rfl ?_
  refine Ru.call (q := (.invokevirtual 74, 3)) (by decide +kernel) rfl rfl rfl rfl ⟨Nat.le_of_ble_eq_true rfl, Nat.le_of_ble_eq_true rfl, Nat.le_of_ble_eq_true rfl, Nat.le_of_ble_eq_true rfl⟩ (p1_wipe_1) ?_
  refine Ru.br2 (k := .eq) (off := 647) (bb := true) (tg := 851) (by decide +kernel) (by decide +kernel) (by decide +kernel) (by decide +kernel) ?_
  exact p1_tail rfl
set_option maxRecDepth 100000 in
theorem p1_at_0 : Ru none 2047 83980 10 (0, mn_pad (mn_ent [.ref 0]) 1, [], 20574, fh_0) ((0, some (.int (-1))), 20574, fh_0) := Ru.of 5 (by decide +kernel)
set_option maxRecDepth 100000 in
theorem p1_at_1 : Ru none 2047 83980 97 (0, mn_pad (mn_ent [.ref 36]) 1, [], 20574, fh_0) ((0, some (.int (-1))), 20574, fh_0) := Ru.of 8 (by decide +kernel)
set_option maxRecDepth 100000 in
set_option maxHeartbeats 4000000 in
theorem p1_at {s0 s1 s2 s3 s4 : Int32} : Ru (some [s0, s1, s2, s3, s4]) 2048 84000 172 (281, [some (.retAddr 0), some (.ref 0), some (.ref 36), some (.ref 71), some (.int 0), none, none], [], 20574, fh_0) ((0, some (.int 1)), 20574, fh_0) := by
  refine Ru.op (q := (.aload_n 1, 1)) (by decide +kernel) rfl ?_
  refine Ru.call (q := (.invokevirtual 79, 3)) (by decide +kernel) rfl rfl rfl rfl ⟨Nat.le_of_ble_eq_true rfl, Nat.le_of_ble_eq_true rfl, Nat.le_of_ble_eq_true rfl, Nat.le_of_ble_eq_true rfl⟩ (p1_at_0) ?_
  refine Ru.op (q := (.aload_n 2, 1)) (by decide +kernel) rfl ?_
  refine Ru.call (q := (.invokevirtual 82, 3)) (by decide +kernel) rfl rfl rfl rfl ⟨Nat.le_of_ble_eq_true rfl, Nat.le_of_ble_eq_true rfl, Nat.le_of_ble_eq_true rfl, Nat.le_of_ble_eq_true rfl⟩ (p1_at_1) ?_
  refine Ru.br2 (k := .eq) (off := 562) (bb := true) (tg := 851) (by decide +kernel) (by decide +kernel) (by decide +kernel) (by decide +kernel) ?_
  exact p1_tail rfl
set_option maxRecDepth 100000 in
theorem p1_state_0 : Ru none 2047 83980 11 (0, mn_pad (mn_ent [.ref 0]) 1, [], 20574, fh_0) ((0, some (.int 3)), 20574, fh_0) := Ru.of 33 (by decide +kernel)
set_option maxRecDepth 100000 in
theorem p1_state_1 : Ru none 2047 83980 133 (0, mn_pad (mn_ent [.ref 36]) 1, [], 20574, fh_0) ((0, some (.int 3)), 20574, fh_0) := Ru.of 34 (by decide +kernel)
set_option maxRecDepth 100000 in
set_option maxHeartbeats 4000000 in
theorem p1_state {s0 s1 s2 s3 s4 : Int32} : Ru (some [s0, s1, s2, s3, s4]) 2048 84000 172 (294, [some (.retAddr 0), some (.ref 0), some (.ref 36), some (.ref 71), some (.int 0), none, none], [], 20574, fh_0) ((0, some (.int 1)), 20574, fh_0) := by
  refine Ru.op (q := (.aload_n 1, 1)) (by decide +kernel) rfl ?_
  refine Ru.call (q := (.invokevirtual 83, 3)) (by decide +kernel) rfl rfl rfl rfl ⟨Nat.le_of_ble_eq_true rfl, Nat.le_of_ble_eq_true rfl, Nat.le_of_ble_eq_true rfl, Nat.le_of_ble_eq_true rfl⟩ (p1_state_0) ?_
  refine Ru.op (q := (.aload_n 2, 1)) (by decide +kernel) rfl ?_
  refine Ru.call (q := (.invokevirtual 86, 3)) (by decide +kernel) rfl rfl rfl rfl ⟨Nat.le_of_ble_eq_true rfl, Nat.le_of_ble_eq_true rfl, Nat.le_of_ble_eq_true rfl, Nat.le_of_ble_eq_true rfl⟩ (p1_state_1) ?_
  refine Ru.br2 (k := .eq) (off := 549) (bb := true) (tg := 851) (by decide +kernel) (by decide +kernel) (by decide +kernel) (by decide +kernel) ?_
  exact p1_tail rfl
def fh_step_1 : mn_H := [(0, [.ref 1, .ref 13, .ref 28, .ref 30, .ref 35, .int 0, .int (-1)]), (1, [.ref 2, .int 0, .ref 3, .int 0, .int 0, .int 0, .ref 10, .ref 11, .int 0, .int 0, .int 0, .ref 12, .int 0]), (52, List.replicate 160 (.int 0)), (2, [.ref 4, .ref 5, .ref 6, .ref 7, .ref 8, .int 0, .ref 9, .int 0]), (50, List.replicate 160 (.int 0)), (50, List.replicate 160 (.int 0)), (50, List.replicate 160 (.int 0)), (50, List.replicate 160 (.int 0)), (50, List.replicate 160 (.int 0)), (50, List.replicate 1280 (.int 0)), (50, List.replicate 10 (.int 0)), (50, List.replicate 10 (.int 0)), (50, List.replicate 16 (.int 0)), (3, [.ref 14, .int 0, .int 0, .int 0, .int 0, .int 0, .int 0, .int (-1), .int 0, .ref 15, .ref 20, .ref 23, .ref 27]), (55, List.replicate 100 (.null)), (4, [.ref 16, .ref 19, .int 0, .int 0]), (5, [.ref 17, .ref 18, .int 0, .int 0]), (50, List.replicate 80 (.int 0)), (50, [.int 0, .int 0, .int 0, .int 0, .int 0]), (50, List.replicate 128 (.int 0)), (6, [.ref 21, .ref 22]), (50, List.replicate 32 (.int 0)), (50, List.replicate 32 (.int 0)), (7, [.ref 24, .ref 25, .ref 26]), (50, List.replicate 64 (.int 0)), (50, List.replicate 64 (.int 0)), (50, [.int 0, .int 0, .int 0, .int 0]), (51, List.replicate 100 (.int 0)), (8, [.ref 29, .int 0]), (52, List.replicate 128 (.int 0)), (4, [.ref 31, .ref 34, .int 0, .int 0]), (5, [.ref 32, .ref 33, .int 0, .int 0]), (50, List.replicate 80 (.int 0)), (50, [.int 0, .int 0, .int 0, .int 0, .int 0]), (50, List.replicate 128 (.int 0)), (54, List.replicate 24 (.null)), (10, [.int 0, .int (-1), .int 0, .ref 37, .ref 38, .ref 39, .ref 40, .ref 41, .ref 42, .int 0, .int 0, .ref 43, .ref 44, .ref 45, .int (-1), .int 0, .int 0, .int 0, .int 0, .int 0, .int 0, .ref 46, .int 0, .ref 47, .int 0, .ref 48, .ref 49, .int 0, .int 0, .int 0, .int 0, .ref 50, .ref 51, .ref 52, .int 0, .int 0, .int 0, .ref 53, .ref 54, .ref 55, .ref 56, .ref 57, .int 0, .int 0, .ref 58, .ref 59, .int 0, .ref 60, .ref 61, .ref 62, .ref 63, .ref 64, .ref 65, .ref 66, .ref 67, .ref 68, .int 0, .ref 69, .ref 70]), (50, List.replicate 160 (.int 0)), (50, List.replicate 8032 (.int 0)), (50, List.replicate 504 (.int 0)), (51, List.replicate 504 (.int 0)), (50, List.replicate 125 (.int 0)), (50, List.replicate 125 (.int 0)), (50, List.replicate 100 (.int 0)), (50, List.replicate 100 (.int 0)), (50, List.replicate 400 (.int 0)), (50, List.replicate 1024 (.int 0)), (50, List.replicate 128 (.int 0)), (50, List.replicate 100 (.int 0)), (51, List.replicate 100 (.int 0)), (50, List.replicate 50 (.int 0)), (50, List.replicate 50 (.int 0)), (51, List.replicate 50 (.int 0)), (50, List.replicate 16 (.int 0)), (50, List.replicate 10 (.int 0)), (51, List.replicate 10 (.int 0)), (51, List.replicate 10 (.int 0)), (50, List.replicate 10 (.int 0)), (50, List.replicate 300 (.int 0)), (50, List.replicate 2400 (.int 0)), (50, List.replicate 100 (.int 0)), (51, List.replicate 100 (.int 0)), (50, List.replicate 64 (.int 0)), (50, List.replicate 64 (.int 0)), (50, List.replicate 128 (.int 0)), (50, List.replicate 640 (.int 0)), (50, List.replicate 640 (.int 0)), (50, List.replicate 640 (.int 0)), (50, List.replicate 16 (.int 0)), (50, List.replicate 400 (.int 0)), (51, List.replicate 100 (.int 0)), (53, [.long 0]), (99, [])]
set_option maxRecDepth 100000 in
theorem p1_step_0 : Ru none 2047 83978 164 (0, mn_pad (mn_ent [.ref 0, .ref 71]) 3, [], 20574, fh_0) ((0, some (.int 1)), 20580, fh_step_1) := Ru.of 41 (by decide +kernel)
def fh_step_2 : mn_H := [(0, [.ref 1, .ref 13, .ref 28, .ref 30, .ref 35, .int 0, .int (-1)]), (1, [.ref 2, .int 0, .ref 3, .int 0, .int 0, .int 0, .ref 10, .ref 11, .int 0, .int 0, .int 0, .ref 12, .int 0]), (52, List.replicate 160 (.int 0)), (2, [.ref 4, .ref 5, .ref 6, .ref 7, .ref 8, .int 0, .ref 9, .int 0]), (50, List.replicate 160 (.int 0)), (50, List.replicate 160 (.int 0)), (50, List.replicate 160 (.int 0)), (50, List.replicate 160 (.int 0)), (50, List.replicate 160 (.int 0)), (50, List.replicate 1280 (.int 0)), (50, List.replicate 10 (.int 0)), (50, List.replicate 10 (.int 0)), (50, List.replicate 16 (.int 0)), (3, [.ref 14, .int 0, .int 0, .int 0, .int 0, .int 0, .int 0, .int (-1), .int 0, .ref 15, .ref 20, .ref 23, .ref 27]), (55, List.replicate 100 (.null)), (4, [.ref 16, .ref 19, .int 0, .int 0]), (5, [.ref 17, .ref 18, .int 0, .int 0]), (50, List.replicate 80 (.int 0)), (50, [.int 0, .int 0, .int 0, .int 0, .int 0]), (50, List.replicate 128 (.int 0)), (6, [.ref 21, .ref 22]), (50, List.replicate 32 (.int 0)), (50, List.replicate 32 (.int 0)), (7, [.ref 24, .ref 25, .ref 26]), (50, List.replicate 64 (.int 0)), (50, List.replicate 64 (.int 0)), (50, [.int 0, .int 0, .int 0, .int 0]), (51, List.replicate 100 (.int 0)), (8, [.ref 29, .int 0]), (52, List.replicate 128 (.int 0)), (4, [.ref 31, .ref 34, .int 0, .int 0]), (5, [.ref 32, .ref 33, .int 0, .int 0]), (50, List.replicate 80 (.int 0)), (50, [.int 0, .int 0, .int 0, .int 0, .int 0]), (50, List.replicate 128 (.int 0)), (54, List.replicate 24 (.null)), (10, [.int 1, .int (-1), .int 0, .ref 37, .ref 38, .ref 39, .ref 40, .ref 41, .ref 42, .int 0, .int 0, .ref 43, .ref 44, .ref 45, .int (-1), .int 0, .int 0, .int 0, .int 0, .int 0, .int 0, .ref 46, .int 0, .ref 47, .int 0, .ref 48, .ref 49, .int 0, .int 0, .int 0, .int 0, .ref 50, .ref 51, .ref 52, .int 0, .int 0, .int 0, .ref 53, .ref 54, .ref 55, .ref 56, .ref 57, .int 0, .int 0, .ref 58, .ref 59, .int 0, .ref 60, .ref 61, .ref 62, .ref 63, .ref 64, .ref 65, .ref 66, .ref 67, .ref 68, .int 0, .ref 69, .ref 70]), (50, List.replicate 160 (.int 0)), (50, List.replicate 8032 (.int 0)), (50, List.replicate 504 (.int 0)), (51, List.replicate 504 (.int 0)), (50, List.replicate 125 (.int 0)), (50, List.replicate 125 (.int 0)), (50, List.replicate 100 (.int 0)), (50, List.replicate 100 (.int 0)), (50, List.replicate 400 (.int 0)), (50, List.replicate 1024 (.int 0)), (50, List.replicate 128 (.int 0)), (50, List.replicate 100 (.int 0)), (51, List.replicate 100 (.int 0)), (50, List.replicate 50 (.int 0)), (50, List.replicate 50 (.int 0)), (51, List.replicate 50 (.int 0)), (50, List.replicate 16 (.int 0)), (50, List.replicate 10 (.int 0)), (51, List.replicate 10 (.int 0)), (51, List.replicate 10 (.int 0)), (50, List.replicate 10 (.int 0)), (50, List.replicate 300 (.int 0)), (50, List.replicate 2400 (.int 0)), (50, List.replicate 100 (.int 0)), (51, List.replicate 100 (.int 0)), (50, List.replicate 64 (.int 0)), (50, List.replicate 64 (.int 0)), (50, List.replicate 128 (.int 0)), (50, List.replicate 640 (.int 0)), (50, List.replicate 640 (.int 0)), (50, List.replicate 640 (.int 0)), (50, List.replicate 16 (.int 0)), (50, List.replicate 400 (.int 0)), (51, List.replicate 100 (.int 0)), (53, [.long 0]), (99, [])]
set_option maxRecDepth 100000 in
theorem p1_step_1 : Ru none 2047 83980 136 (0, mn_pad (mn_ent [.ref 36]) 1, [], 20580, fh_step_1) ((0, some (.int 0)), 20580, fh_step_2) := Ru.of 39 (by decide +kernel)
set_option maxRecDepth 100000 in
theorem p1_step_2 : Ru none 2047 83980 94 (0, mn_pad (mn_ent [.ref 36]) 1, [], 20580, fh_step_2) ((0, some (.int 1)), 20580, fh_step_2) := Ru.of 5 (by decide +kernel)
set_option maxRecDepth 100000 in
set_option maxHeartbeats 4000000 in
theorem p1_step {s0 s1 s2 s3 s4 : Int32} : Ru (some [s0, s1, s2, s3, s4]) 2048 84000 172 (307, [some (.retAddr 0), some (.ref 0), some (.ref 36), some (.ref 71), some (.int 0), none, none], [], 20574, fh_0) ((0, some (.int 1)), 20580, fh_step_2) := by
  refine Ru.op (q := (.aload_n 1, 1)) (by decide +kernel) rfl ?_
  refine Ru.op (q := (.aload_n 3, 1)) (by decide +kernel) rfl ?_
  refine Ru.call (q := (.invokestatic 87, 3)) (by decide +kernel) rfl rfl rfl rfl ⟨Nat.le_of_ble_eq_true rfl, Nat.le_of_ble_eq_true rfl, Nat.le_of_ble_eq_true rfl, Nat.le_of_ble_eq_true rfl⟩ (p1_step_0) ?_
  refine Ru.op (q := (.istore 5, 2)) (by decide +kernel) rfl ?_
  refine Ru.op (q := (.aload_n 2, 1)) (by decide +kernel) rfl ?_
  refine Ru.call (q := (.invokevirtual 90, 3)) (by decide +kernel) rfl rfl rfl rfl ⟨Nat.le_of_ble_eq_true rfl, Nat.le_of_ble_eq_true rfl, Nat.le_of_ble_eq_true rfl, Nat.le_of_ble_eq_true rfl⟩ (p1_step_1) ?_
  refine Ru.op (q := (.istore 6, 2)) (by decide +kernel) rfl ?_
  refine Ru.op (q := (.aload_n 2, 1)) (by decide +kernel) rfl ?_
  refine Ru.call (q := (.invokevirtual 68, 3)) (by decide +kernel) rfl rfl rfl rfl ⟨Nat.le_of_ble_eq_true rfl, Nat.le_of_ble_eq_true rfl, Nat.le_of_ble_eq_true rfl, Nat.le_of_ble_eq_true rfl⟩ (p1_step_2) ?_
  refine Ru.op (q := (.iload 5, 2)) (by decide +kernel) rfl ?_
  refine Ru.br2 (k := .eq) (off := 5) (bb := true) (tg := 331) (by decide +kernel) (by decide +kernel) (by decide +kernel) (by decide +kernel) ?_
  refine Ru.op (q := (.iload 5, 2)) (by decide +kernel) rfl ?_
  refine Ru.br (k := .ne) (off := 15) (bb := true) (tg := 348) (by decide +kernel) (by decide +kernel) (by decide +kernel) (by decide +kernel) ?_
  refine Ru.op (q := (.goto 503, 3)) (by decide +kernel) rfl ?_
  exact p1_tail rfl
set_option maxRecDepth 100000 in
theorem p1_proof_0 : Ru none 2047 83980 14 (0, mn_pad (mn_ent [.ref 0]) 1, [], 20574, fh_0) ((0, some (.int (-1))), 20574, fh_0) := Ru.of 12 (by decide +kernel)
set_option maxRecDepth 100000 in
theorem p1_proof_1 : Ru none 2047 83978 156 (0, mn_pad (mn_ent [.ref 36]) 3, [], 20574, fh_0) ((0, some (.int (-1))), 20574, fh_0) := Ru.of 10 (by decide +kernel)
set_option maxRecDepth 100000 in
set_option maxHeartbeats 4000000 in
theorem p1_proof {s0 s1 s2 s3 s4 : Int32} : Ru (some [s0, s1, s2, s3, s4]) 2048 84000 172 (690, [some (.retAddr 0), some (.ref 0), some (.ref 36), some (.ref 71), some (.int 0), none, none], [], 20574, fh_0) ((0, some (.int 1)), 20574, fh_0) := by
  refine Ru.op (q := (.aload_n 1, 1)) (by decide +kernel) rfl ?_
  refine Ru.call (q := (.invokevirtual 109, 3)) (by decide +kernel) rfl rfl rfl rfl ⟨Nat.le_of_ble_eq_true rfl, Nat.le_of_ble_eq_true rfl, Nat.le_of_ble_eq_true rfl, Nat.le_of_ble_eq_true rfl⟩ (p1_proof_0) ?_
  refine Ru.op (q := (.aload_n 2, 1)) (by decide +kernel) rfl ?_
  refine Ru.call (q := (.invokevirtual 112, 3)) (by decide +kernel) rfl rfl rfl rfl ⟨Nat.le_of_ble_eq_true rfl, Nat.le_of_ble_eq_true rfl, Nat.le_of_ble_eq_true rfl, Nat.le_of_ble_eq_true rfl⟩ (p1_proof_1) ?_
  refine Ru.br2 (k := .eq) (off := 153) (bb := true) (tg := 851) (by decide +kernel) (by decide +kernel) (by decide +kernel) (by decide +kernel) ?_
  exact p1_tail rfl
def fh_asm0_1 : mn_H := [(0, [.ref 1, .ref 13, .ref 28, .ref 30, .ref 35, .int 0, .int 0]), (1, [.ref 2, .int 0, .ref 3, .int 0, .int 0, .int 0, .ref 10, .ref 11, .int 0, .int 0, .int 0, .ref 12, .int 0]), (52, List.replicate 160 (.int 0)), (2, [.ref 4, .ref 5, .ref 6, .ref 7, .ref 8, .int 0, .ref 9, .int 0]), (50, List.replicate 160 (.int 0)), (50, List.replicate 160 (.int 0)), (50, List.replicate 160 (.int 0)), (50, List.replicate 160 (.int 0)), (50, List.replicate 160 (.int 0)), (50, List.replicate 1280 (.int 0)), (50, List.replicate 10 (.int 0)), (50, List.replicate 10 (.int 0)), (50, List.replicate 16 (.int 0)), (3, [.ref 14, .int 0, .int 0, .int 0, .int 0, .int 0, .int 0, .int (-1), .int 0, .ref 15, .ref 20, .ref 23, .ref 27]), (55, List.replicate 100 (.null)), (4, [.ref 16, .ref 19, .int 0, .int 0]), (5, [.ref 17, .ref 18, .int 0, .int 0]), (50, List.replicate 80 (.int 0)), (50, [.int 0, .int 0, .int 0, .int 0, .int 0]), (50, List.replicate 128 (.int 0)), (6, [.ref 21, .ref 22]), (50, List.replicate 32 (.int 0)), (50, List.replicate 32 (.int 0)), (7, [.ref 24, .ref 25, .ref 26]), (50, List.replicate 64 (.int 0)), (50, List.replicate 64 (.int 0)), (50, [.int 0, .int 0, .int 0, .int 0]), (51, List.replicate 100 (.int 0)), (8, [.ref 29, .int 0]), (52, List.replicate 128 (.int 0)), (4, [.ref 31, .ref 34, .int 0, .int 0]), (5, [.ref 32, .ref 33, .int 0, .int 0]), (50, List.replicate 80 (.int 0)), (50, [.int 0, .int 0, .int 0, .int 0, .int 0]), (50, List.replicate 128 (.int 0)), (54, List.replicate 24 (.null)), (10, [.int 0, .int (-1), .int 0, .ref 37, .ref 38, .ref 39, .ref 40, .ref 41, .ref 42, .int 0, .int 0, .ref 43, .ref 44, .ref 45, .int (-1), .int 0, .int 0, .int 0, .int 0, .int 0, .int 0, .ref 46, .int 0, .ref 47, .int 0, .ref 48, .ref 49, .int 0, .int 0, .int 0, .int 0, .ref 50, .ref 51, .ref 52, .int 0, .int 0, .int 0, .ref 53, .ref 54, .ref 55, .ref 56, .ref 57, .int 0, .int 0, .ref 58, .ref 59, .int 0, .ref 60, .ref 61, .ref 62, .ref 63, .ref 64, .ref 65, .ref 66, .ref 67, .ref 68, .int 0, .ref 69, .ref 70]), (50, List.replicate 160 (.int 0)), (50, List.replicate 8032 (.int 0)), (50, List.replicate 504 (.int 0)), (51, List.replicate 504 (.int 0)), (50, List.replicate 125 (.int 0)), (50, List.replicate 125 (.int 0)), (50, List.replicate 100 (.int 0)), (50, List.replicate 100 (.int 0)), (50, List.replicate 400 (.int 0)), (50, List.replicate 1024 (.int 0)), (50, List.replicate 128 (.int 0)), (50, List.replicate 100 (.int 0)), (51, List.replicate 100 (.int 0)), (50, List.replicate 50 (.int 0)), (50, List.replicate 50 (.int 0)), (51, List.replicate 50 (.int 0)), (50, List.replicate 16 (.int 0)), (50, List.replicate 10 (.int 0)), (51, List.replicate 10 (.int 0)), (51, List.replicate 10 (.int 0)), (50, List.replicate 10 (.int 0)), (50, List.replicate 300 (.int 0)), (50, List.replicate 2400 (.int 0)), (50, List.replicate 100 (.int 0)), (51, List.replicate 100 (.int 0)), (50, List.replicate 64 (.int 0)), (50, List.replicate 64 (.int 0)), (50, List.replicate 128 (.int 0)), (50, List.replicate 640 (.int 0)), (50, List.replicate 640 (.int 0)), (50, List.replicate 640 (.int 0)), (50, List.replicate 16 (.int 0)), (50, List.replicate 400 (.int 0)), (51, List.replicate 100 (.int 0)), (53, [.long 0]), (99, [])]
set_option maxRecDepth 100000 in
theorem p1_asm0_0 : Ru none 2047 83977 163 (0, mn_pad (mn_ent [.ref 0, .int 0, .ref 71]) 4, [], 20574, fh_0) ((0, some (.int 1)), 20580, fh_asm0_1) := Ru.of 93 (by decide +kernel)
def fh_asm0_2 : mn_H := [(0, [.ref 1, .ref 13, .ref 28, .ref 30, .ref 35, .int 0, .int 0]), (1, [.ref 2, .int 0, .ref 3, .int 0, .int 0, .int 0, .ref 10, .ref 11, .int 0, .int 0, .int 0, .ref 12, .int 0]), (52, List.replicate 160 (.int 0)), (2, [.ref 4, .ref 5, .ref 6, .ref 7, .ref 8, .int 0, .ref 9, .int 0]), (50, List.replicate 160 (.int 0)), (50, List.replicate 160 (.int 0)), (50, List.replicate 160 (.int 0)), (50, List.replicate 160 (.int 0)), (50, List.replicate 160 (.int 0)), (50, List.replicate 1280 (.int 0)), (50, List.replicate 10 (.int 0)), (50, List.replicate 10 (.int 0)), (50, List.replicate 16 (.int 0)), (3, [.ref 14, .int 0, .int 0, .int 0, .int 0, .int 0, .int 0, .int (-1), .int 0, .ref 15, .ref 20, .ref 23, .ref 27]), (55, List.replicate 100 (.null)), (4, [.ref 16, .ref 19, .int 0, .int 0]), (5, [.ref 17, .ref 18, .int 0, .int 0]), (50, List.replicate 80 (.int 0)), (50, [.int 0, .int 0, .int 0, .int 0, .int 0]), (50, List.replicate 128 (.int 0)), (6, [.ref 21, .ref 22]), (50, List.replicate 32 (.int 0)), (50, List.replicate 32 (.int 0)), (7, [.ref 24, .ref 25, .ref 26]), (50, List.replicate 64 (.int 0)), (50, List.replicate 64 (.int 0)), (50, [.int 0, .int 0, .int 0, .int 0]), (51, List.replicate 100 (.int 0)), (8, [.ref 29, .int 0]), (52, List.replicate 128 (.int 0)), (4, [.ref 31, .ref 34, .int 0, .int 0]), (5, [.ref 32, .ref 33, .int 0, .int 0]), (50, List.replicate 80 (.int 0)), (50, [.int 0, .int 0, .int 0, .int 0, .int 0]), (50, List.replicate 128 (.int 0)), (54, List.replicate 24 (.null)), (10, [.int 1, .int 0, .int 0, .ref 37, .ref 38, .ref 39, .ref 40, .ref 41, .ref 42, .int 0, .int 0, .ref 43, .ref 44, .ref 45, .int (-1), .int 0, .int 0, .int 0, .int 0, .int 0, .int 0, .ref 46, .int 0, .ref 47, .int 0, .ref 48, .ref 49, .int 0, .int 1, .int 0, .int 0, .ref 50, .ref 51, .ref 52, .int 0, .int 0, .int 0, .ref 53, .ref 54, .ref 55, .ref 56, .ref 57, .int 0, .int 0, .ref 58, .ref 59, .int 0, .ref 60, .ref 61, .ref 62, .ref 63, .ref 64, .ref 65, .ref 66, .ref 67, .ref 68, .int 0, .ref 69, .ref 70]), (50, List.replicate 160 (.int 0)), (50, List.replicate 8032 (.int 0)), (50, List.replicate 504 (.int 0)), (51, List.replicate 504 (.int 0)), (50, List.replicate 125 (.int 0)), (50, List.replicate 125 (.int 0)), (50, List.replicate 100 (.int 0)), (50, List.replicate 100 (.int 0)), (50, List.replicate 400 (.int 0)), (50, List.replicate 1024 (.int 0)), (50, List.replicate 128 (.int (-1))), (50, List.replicate 100 (.int 0)), (51, List.replicate 100 (.int 0)), (50, List.replicate 50 (.int 0)), (50, List.replicate 50 (.int 0)), (51, List.replicate 50 (.int 0)), (50, List.replicate 16 (.int 0)), (50, List.replicate 10 (.int 0)), (51, List.replicate 10 (.int 0)), (51, List.replicate 10 (.int 0)), (50, List.replicate 10 (.int 0)), (50, List.replicate 300 (.int 0)), (50, List.replicate 2400 (.int 0)), (50, List.replicate 100 (.int 0)), (51, List.replicate 100 (.int 0)), (50, List.replicate 64 (.int 0)), (50, List.replicate 64 (.int 0)), (50, List.replicate 128 (.int 0)), (50, List.replicate 640 (.int 0)), (50, List.replicate 640 (.int 0)), (50, List.replicate 640 (.int 0)), (50, List.replicate 16 (.int 0)), (50, List.replicate 400 (.int 0)), (51, List.replicate 100 (.int 0)), (53, [.long 0]), (99, [])]
set_option maxRecDepth 100000 in
theorem p1_asm0_1 : Ru none 2047 83975 98 (0, mn_pad (mn_ent [.ref 36, .int 0]) 6, [], 20580, fh_asm0_1) ((0, some (.int 0)), 20580, fh_asm0_2) := Ru.of 1416 (by decide +kernel)
set_option maxRecDepth 100000 in
theorem p1_asm0_2 : Ru none 2047 83980 94 (0, mn_pad (mn_ent [.ref 36]) 1, [], 20580, fh_asm0_2) ((0, some (.int 1)), 20580, fh_asm0_2) := Ru.of 5 (by decide +kernel)
set_option maxRecDepth 100000 in
set_option maxHeartbeats 4000000 in
theorem p1_asm0 {s0 s1 s2 s3 s4 : Int32} (g0 : mn_cmp .eq s1 0 = true) : Ru (some [s0, s1, s2, s3, s4]) 2048 84000 172 (209, [some (.retAddr 0), some (.ref 0), some (.ref 36), some (.ref 71), some (.int 0), none, none], [], 20574, fh_0) ((0, some (.int 1)), 20580, fh_asm0_2) := by
  refine Ru.op (q := (.aload_n 1, 1)) (by decide +kernel) rfl ?_
  refine Ru.op (q := (.aload_n 0, 1)) (by decide +kernel) rfl ?_
  refine Ru.op (q := (.iload 4, 2)) (by decide +kernel) rfl ?_
  refine Ru.op (q := (.iconst 1, 1)) (by decide +kernel) rfl ?_
  refine Ru.op (q := (.iadd, 1)) (by decide +kernel) rfl ?_
  refine Ru.sld (L := 5) (k := 1) (v := s1) rfl rfl (by decide +kernel) (by decide +kernel) (by decide +kernel) rfl ?_
  refine Ru.br (k := .eq) (off := 7) (bb := true) (tg := 223) (by decide +kernel) (by decide +kernel) g0 (by decide +kernel) ?_
  refine Ru.op (q := (.iconst 0, 1)) (by decide +kernel) rfl ?_
  refine Ru.op (q := (.aload_n 3, 1)) (by decide +kernel) rfl ?_
  refine Ru.call (q := (.invokestatic 75, 3)) (by decide +kernel) rfl rfl rfl rfl ⟨Nat.le_of_ble_eq_true rfl, Nat.le_of_ble_eq_true rfl, Nat.le_of_ble_eq_true rfl, Nat.le_of_ble_eq_true rfl⟩ (p1_asm0_0) ?_
  refine Ru.op (q := (.istore 5, 2)) (by decide +kernel) rfl ?_
  refine Ru.op (q := (.aload_n 2, 1)) (by decide +kernel) rfl ?_
  refine Ru.op (q := (.aload_n 0, 1)) (by decide +kernel) rfl ?_
  refine Ru.op (q := (.iload 4, 2)) (by decide +kernel) rfl ?_
  refine Ru.op (q := (.iconst 1, 1)) (by decide +kernel) rfl ?_
  refine Ru.op (q := (.iadd, 1)) (by decide +kernel) rfl ?_
  refine Ru.sld (L := 5) (k := 1) (v := s1) rfl rfl (by decide +kernel) (by decide +kernel) (by decide +kernel) rfl ?_
  refine Ru.br (k := .eq) (off := 7) (bb := true) (tg := 244) (by decide +kernel) (by decide +kernel) g0 (by decide +kernel) ?_
  refine Ru.op (q := (.iconst 0, 1)) (by decide +kernel) rfl ?_
  refine Ru.call (q := (.invokevirtual 78, 3)) (by decide +kernel) rfl rfl rfl rfl ⟨Nat.le_of_ble_eq_true rfl, Nat.le_of_ble_eq_true rfl, Nat.le_of_ble_eq_true rfl, Nat.le_of_ble_eq_true rfl⟩ (p1_asm0_1) ?_
  refine Ru.op (q := (.istore 6, 2)) (by decide +kernel) rfl ?_
  refine Ru.op (q := (.aload_n 2, 1)) (by decide +kernel) rfl ?_
  refine Ru.call (q := (.invokevirtual 68, 3)) (by decide +kernel) rfl rfl rfl rfl ⟨Nat.le_of_ble_eq_true rfl, Nat.le_of_ble_eq_true rfl, Nat.le_of_ble_eq_true rfl, Nat.le_of_ble_eq_true rfl⟩ (p1_asm0_2) ?_
  refine Ru.op (q := (.iload 5, 2)) (by decide +kernel) rfl ?_
  refine Ru.br2 (k := .eq) (off := 5) (bb := true) (tg := 261) (by decide +kernel) (by decide +kernel) (by decide +kernel) (by decide +kernel) ?_
  refine Ru.op (q := (.iload 5, 2)) (by decide +kernel) rfl ?_
  refine Ru.br (k := .ne) (off := 15) (bb := true) (tg := 278) (by decide +kernel) (by decide +kernel) (by decide +kernel) (by decide +kernel) ?_
  refine Ru.op (q := (.goto 573, 3)) (by decide +kernel) rfl ?_
  exact p1_tail rfl
