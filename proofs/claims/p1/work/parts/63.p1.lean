def fh_cla0_1 : mn_H := [(0, [.ref 1, .ref 13, .ref 28, .ref 30, .ref 35, .int 0, .int (-1)]), (1, [.ref 2, .int 0, .ref 3, .int 0, .int 0, .int 0, .ref 10, .ref 11, .int 0, .int 0, .int 0, .ref 12, .int 0]), (52, List.replicate 160 (.int 0)), (2, [.ref 4, .ref 5, .ref 6, .ref 7, .ref 8, .int 0, .ref 9, .int 0]), (50, List.replicate 160 (.int 0)), (50, List.replicate 160 (.int 0)), (50, List.replicate 160 (.int 0)), (50, List.replicate 160 (.int 0)), (50, List.replicate 160 (.int 0)), (50, List.replicate 1280 (.int 0)), (50, List.replicate 10 (.int 0)), (50, List.replicate 10 (.int 0)), (50, List.replicate 16 (.int 0)), (3, [.ref 14, .int 0, .int 0, .int 0, .int 0, .int 0, .int 0, .int (-1), .int 0, .ref 15, .ref 20, .ref 23, .ref 27]), (55, List.replicate 100 (.null)), (4, [.ref 16, .ref 19, .int 0, .int 0]), (5, [.ref 17, .ref 18, .int 0, .int 0]), (50, List.replicate 80 (.int 0)), (50, [.int 0, .int 0, .int 0, .int 0, .int 0]), (50, List.replicate 128 (.int 0)), (6, [.ref 21, .ref 22]), (50, List.replicate 32 (.int 0)), (50, List.replicate 32 (.int 0)), (7, [.ref 24, .ref 25, .ref 26]), (50, List.replicate 64 (.int 0)), (50, List.replicate 64 (.int 0)), (50, [.int 0, .int 0, .int 0, .int 0]), (51, List.replicate 100 (.int 0)), (8, [.ref 29, .int 0]), (52, List.replicate 128 (.int 0)), (4, [.ref 31, .ref 34, .int 0, .int 0]), (5, [.ref 32, .ref 33, .int 0, .int 0]), (50, List.replicate 80 (.int 0)), (50, [.int 0, .int 0, .int 0, .int 0, .int 0]), (50, List.replicate 128 (.int 0)), (54, List.replicate 24 (.null)), (10, [.int 0, .int (-1), .int 0, .ref 37, .ref 38, .ref 39, .ref 40, .ref 41, .ref 42, .int 0, .int 0, .ref 43, .ref 44, .ref 45, .int (-1), .int 0, .int 0, .int 0, .int 0, .int 0, .int 0, .ref 46, .int 0, .ref 47, .int 0, .ref 48, .ref 49, .int 0, .int 0, .int 0, .int 0, .ref 50, .ref 51, .ref 52, .int 0, .int 0, .int 0, .ref 53, .ref 54, .ref 55, .ref 56, .ref 57, .int 0, .int 0, .ref 58, .ref 59, .int 0, .ref 60, .ref 61, .ref 62, .ref 63, .ref 64, .ref 65, .ref 66, .ref 67, .ref 68, .int 0, .ref 69, .ref 70]), (50, List.replicate 160 (.int 0)), (50, List.replicate 8032 (.int 0)), (50, List.replicate 504 (.int 0)), (51, List.replicate 504 (.int 0)), (50, List.replicate 125 (.int 0)), (50, List.replicate 125 (.int 0)), (50, List.replicate 100 (.int 0)), (50, List.replicate 100 (.int 0)), (50, List.replicate 400 (.int 0)), (50, List.replicate 1024 (.int 0)), (50, List.replicate 128 (.int 0)), (50, List.replicate 100 (.int 0)), (51, List.replicate 100 (.int 0)), (50, List.replicate 50 (.int 0)), (50, List.replicate 50 (.int 0)), (51, List.replicate 50 (.int 0)), (50, List.replicate 16 (.int 0)), (50, List.replicate 10 (.int 0)), (51, List.replicate 10 (.int 0)), (51, List.replicate 10 (.int 0)), (50, List.replicate 10 (.int 0)), (50, List.replicate 300 (.int 0)), (50, List.replicate 2400 (.int 0)), (50, List.replicate 100 (.int 0)), (51, List.replicate 100 (.int 0)), (50, List.replicate 64 (.int 0)), (50, List.replicate 64 (.int 0)), (50, List.replicate 128 (.int 0)), (50, List.replicate 640 (.int 0)), (50, List.replicate 640 (.int 0)), (50, List.replicate 640 (.int 0)), (50, List.replicate 16 (.int 0)), (50, List.replicate 400 (.int 0)), (51, List.replicate 100 (.int 0)), (53, [.long 0]), (99, [])]
set_option maxRecDepth 100000 in
set_option maxHeartbeats 4000000 in
theorem p1_cla0_0 (s1 s2 s3 s4 : Int32) (g0 : mn_cmp .lt s1 0 = true) : Ru none 2046 83953 84 (0, mn_pad (mn_ent [.ref 0, .int s1, .int s2]) 4, [], 20574, fh_0) ((3, none), 20580, fh_cla0_1) := by
  refine Ru.op (q := (.iload_n 1, 1)) (by decide +kernel) rfl ?_
  refine Ru.br (k := .lt) (off := 14) (bb := true) (tg := 15) (by decide +kernel) (by decide +kernel) g0 (by decide +kernel) ?_
  exact Ru.thr (q := (.new 108, 3)) (by decide +kernel) rfl rfl (by decide +kernel)
set_option maxRecDepth 100000 in
set_option maxHeartbeats 4000000 in
theorem p1_cla0_1 (s1 s2 s3 s4 : Int32) (g0 : mn_cmp .lt s1 0 = true) : Ru none 2047 83976 168 (0, mn_pad (mn_ent [.ref 0, .int s1, .int s2, .ref 71]) 5, [], 20574, fh_0) ((0, some (.int (Int32.ofInt 1))), 20580, fh_cla0_1) := by
  refine Ru.op (q := (.aload_n 3, 1)) (by decide +kernel) rfl ?_
  refine Ru.op (q := (.iconst 0, 1)) (by decide +kernel) rfl ?_
  refine Ru.op (q := (.aload_n 0, 1)) (by decide +kernel) rfl ?_
  refine Ru.op (q := (.iload_n 1, 1)) (by decide +kernel) rfl ?_
  refine Ru.op (q := (.iload_n 2, 1)) (by decide +kernel) rfl ?_
  refine Ru.catch (i := 41) (j2 := 84) (k := 2) (hp := 13) (by decide +kernel) rfl rfl rfl rfl ⟨Nat.le_of_ble_eq_true rfl, Nat.le_of_ble_eq_true rfl, Nat.le_of_ble_eq_true rfl, Nat.le_of_ble_eq_true rfl⟩ (by decide +kernel) (p1_cla0_0 s1 s2 s3 s4 g0) ?_
  refine Ru.op (q := (.astore 4, 2)) (by decide +kernel) rfl ?_
  refine Ru.op (q := (.iconst 1, 1)) (by decide +kernel) rfl ?_
  exact Ru.end (q := (.ireturn, 1)) (by decide +kernel) rfl rfl
def fh_cla0_2 : mn_H := [(0, [.ref 1, .ref 13, .ref 28, .ref 30, .ref 35, .int 0, .int (-1)]), (1, [.ref 2, .int 0, .ref 3, .int 0, .int 0, .int 0, .ref 10, .ref 11, .int 0, .int 0, .int 0, .ref 12, .int 0]), (52, List.replicate 160 (.int 0)), (2, [.ref 4, .ref 5, .ref 6, .ref 7, .ref 8, .int 0, .ref 9, .int 0]), (50, List.replicate 160 (.int 0)), (50, List.replicate 160 (.int 0)), (50, List.replicate 160 (.int 0)), (50, List.replicate 160 (.int 0)), (50, List.replicate 160 (.int 0)), (50, List.replicate 1280 (.int 0)), (50, List.replicate 10 (.int 0)), (50, List.replicate 10 (.int 0)), (50, List.replicate 16 (.int 0)), (3, [.ref 14, .int 0, .int 0, .int 0, .int 0, .int 0, .int 0, .int (-1), .int 0, .ref 15, .ref 20, .ref 23, .ref 27]), (55, List.replicate 100 (.null)), (4, [.ref 16, .ref 19, .int 0, .int 0]), (5, [.ref 17, .ref 18, .int 0, .int 0]), (50, List.replicate 80 (.int 0)), (50, [.int 0, .int 0, .int 0, .int 0, .int 0]), (50, List.replicate 128 (.int 0)), (6, [.ref 21, .ref 22]), (50, List.replicate 32 (.int 0)), (50, List.replicate 32 (.int 0)), (7, [.ref 24, .ref 25, .ref 26]), (50, List.replicate 64 (.int 0)), (50, List.replicate 64 (.int 0)), (50, [.int 0, .int 0, .int 0, .int 0]), (51, List.replicate 100 (.int 0)), (8, [.ref 29, .int 0]), (52, List.replicate 128 (.int 0)), (4, [.ref 31, .ref 34, .int 0, .int 0]), (5, [.ref 32, .ref 33, .int 0, .int 0]), (50, List.replicate 80 (.int 0)), (50, [.int 0, .int 0, .int 0, .int 0, .int 0]), (50, List.replicate 128 (.int 0)), (54, List.replicate 24 (.null)), (10, [.int 1, .int (-1), .int 0, .ref 37, .ref 38, .ref 39, .ref 40, .ref 41, .ref 42, .int 0, .int 0, .ref 43, .ref 44, .ref 45, .int (-1), .int 0, .int 0, .int 0, .int 0, .int 0, .int 0, .ref 46, .int 0, .ref 47, .int 0, .ref 48, .ref 49, .int 0, .int 0, .int 0, .int 0, .ref 50, .ref 51, .ref 52, .int 0, .int 0, .int 0, .ref 53, .ref 54, .ref 55, .ref 56, .ref 57, .int 0, .int 0, .ref 58, .ref 59, .int 0, .ref 60, .ref 61, .ref 62, .ref 63, .ref 64, .ref 65, .ref 66, .ref 67, .ref 68, .int 0, .ref 69, .ref 70]), (50, List.replicate 160 (.int 0)), (50, List.replicate 8032 (.int 0)), (50, List.replicate 504 (.int 0)), (51, List.replicate 504 (.int 0)), (50, List.replicate 125 (.int 0)), (50, List.replicate 125 (.int 0)), (50, List.replicate 100 (.int 0)), (50, List.replicate 100 (.int 0)), (50, List.replicate 400 (.int 0)), (50, List.replicate 1024 (.int 0)), (50, List.replicate 128 (.int 0)), (50, List.replicate 100 (.int 0)), (51, List.replicate 100 (.int 0)), (50, List.replicate 50 (.int 0)), (50, List.replicate 50 (.int 0)), (51, List.replicate 50 (.int 0)), (50, List.replicate 16 (.int 0)), (50, List.replicate 10 (.int 0)), (51, List.replicate 10 (.int 0)), (51, List.replicate 10 (.int 0)), (50, List.replicate 10 (.int 0)), (50, List.replicate 300 (.int 0)), (50, List.replicate 2400 (.int 0)), (50, List.replicate 100 (.int 0)), (51, List.replicate 100 (.int 0)), (50, List.replicate 64 (.int 0)), (50, List.replicate 64 (.int 0)), (50, List.replicate 128 (.int 0)), (50, List.replicate 640 (.int 0)), (50, List.replicate 640 (.int 0)), (50, List.replicate 640 (.int 0)), (50, List.replicate 16 (.int 0)), (50, List.replicate 400 (.int 0)), (51, List.replicate 100 (.int 0)), (53, [.long 0]), (99, [])]
set_option maxRecDepth 100000 in
set_option maxHeartbeats 4000000 in
theorem p1_cla0_2 (s1 s2 s3 s4 : Int32) (g0 : mn_cmp .lt s1 0 = true) : Ru none 2047 83978 154 (0, mn_pad (mn_ent [.ref 36, .int s1, .int s2]) 3, [], 20580, fh_cla0_1) ((0, some (.int (Int32.ofInt 0))), 20580, fh_cla0_2) := by
  refine Ru.op (q := (.aload_n 0, 1)) (by decide +kernel) rfl ?_
  refine Ru.op (q := (.iload_n 1, 1)) (by decide +kernel) rfl ?_
  refine Ru.br (k := .lt) (off := 11) (bb := true) (tg := 13) (by decide +kernel) (by decide +kernel) g0 (by decide +kernel) ?_
  refine Ru.op (q := (.iconst 1, 1)) (by decide +kernel) rfl ?_
  refine Ru.op (q := (.goto 18, 3)) (by decide +kernel) rfl ?_
  refine Ru.op (q := (.putfield 120, 3)) (by decide +kernel) rfl ?_
  refine Ru.op (q := (.aload_n 0, 1)) (by decide +kernel) rfl ?_
  refine Ru.op (q := (.getfield 120, 3)) (by decide +kernel) rfl ?_
  refine Ru.br (k := .le) (off := 5) (bb := false) (tg := 42) (by decide +kernel) (by decide +kernel) (by decide +kernel) (by decide +kernel) ?_
  refine Ru.op (q := (.iconst 0, 1)) (by decide +kernel) rfl ?_
  exact Ru.end (q := (.ireturn, 1)) (by decide +kernel) rfl rfl
set_option maxRecDepth 100000 in
theorem p1_cla0_3 : Ru none 2047 83980 94 (0, mn_pad (mn_ent [.ref 36]) 1, [], 20580, fh_cla0_2) ((0, some (.int 1)), 20580, fh_cla0_2) := Ru.of 5 (by decide +kernel)
set_option maxRecDepth 100000 in
set_option maxHeartbeats 4000000 in
theorem p1_cla0 {s0 s1 s2 s3 s4 : Int32} (g0 : mn_cmp .lt s1 0 = true) : Ru (some [s0, s1, s2, s3, s4]) 2048 84000 172 (547, [some (.retAddr 0), some (.ref 0), some (.ref 36), some (.ref 71), some (.int 0), none, none], [], 20574, fh_0) ((0, some (.int 1)), 20580, fh_cla0_2) := by
  refine Ru.op (q := (.aload_n 1, 1)) (by decide +kernel) rfl ?_
  refine Ru.op (q := (.aload_n 0, 1)) (by decide +kernel) rfl ?_
  refine Ru.op (q := (.iload 4, 2)) (by decide +kernel) rfl ?_
  refine Ru.op (q := (.iconst 1, 1)) (by decide +kernel) rfl ?_
  refine Ru.op (q := (.iadd, 1)) (by decide +kernel) rfl ?_
  refine Ru.sld (L := 5) (k := 1) (v := s1) rfl rfl (by decide +kernel) (by decide +kernel) (by decide +kernel) rfl ?_
  refine Ru.op (q := (.aload_n 0, 1)) (by decide +kernel) rfl ?_
  refine Ru.op (q := (.iload 4, 2)) (by decide +kernel) rfl ?_
  refine Ru.op (q := (.iconst 2, 1)) (by decide +kernel) rfl ?_
  refine Ru.op (q := (.iadd, 1)) (by decide +kernel) rfl ?_
  refine Ru.sld (L := 5) (k := 2) (v := s2) rfl rfl (by decide +kernel) (by decide +kernel) (by decide +kernel) rfl ?_
  refine Ru.op (q := (.aload_n 3, 1)) (by decide +kernel) rfl ?_
  refine Ru.call (q := (.invokestatic 102, 3)) (by decide +kernel) rfl rfl rfl rfl ⟨Nat.le_of_ble_eq_true rfl, Nat.le_of_ble_eq_true rfl, Nat.le_of_ble_eq_true rfl, Nat.le_of_ble_eq_true rfl⟩ (p1_cla0_1 s1 s2 s3 s4 g0) ?_
  refine Ru.op (q := (.istore 5, 2)) (by decide +kernel) rfl ?_
  refine Ru.op (q := (.aload_n 2, 1)) (by decide +kernel) rfl ?_
  refine Ru.op (q := (.aload_n 0, 1)) (by decide +kernel) rfl ?_
  refine Ru.op (q := (.iload 4, 2)) (by decide +kernel) rfl ?_
  refine Ru.op (q := (.iconst 1, 1)) (by decide +kernel) rfl ?_
  refine Ru.op (q := (.iadd, 1)) (by decide +kernel) rfl ?_
  refine Ru.sld (L := 5) (k := 1) (v := s1) rfl rfl (by decide +kernel) (by decide +kernel) (by decide +kernel) rfl ?_
  refine Ru.op (q := (.aload_n 0, 1)) (by decide +kernel) rfl ?_
  refine Ru.op (q := (.iload 4, 2)) (by decide +kernel) rfl ?_
  refine Ru.op (q := (.iconst 2, 1)) (by decide +kernel) rfl ?_
  refine Ru.op (q := (.iadd, 1)) (by decide +kernel) rfl ?_
  refine Ru.sld (L := 5) (k := 2) (v := s2) rfl rfl (by decide +kernel) (by decide +kernel) (by decide +kernel) rfl ?_
  refine Ru.call (q := (.invokevirtual 105, 3)) (by decide +kernel) rfl rfl rfl rfl ⟨Nat.le_of_ble_eq_true rfl, Nat.le_of_ble_eq_true rfl, Nat.le_of_ble_eq_true rfl, Nat.le_of_ble_eq_true rfl⟩ (p1_cla0_2 s1 s2 s3 s4 g0) ?_
  refine Ru.op (q := (.istore 6, 2)) (by decide +kernel) rfl ?_
  refine Ru.op (q := (.aload_n 2, 1)) (by decide +kernel) rfl ?_
  refine Ru.call (q := (.invokevirtual 68, 3)) (by decide +kernel) rfl rfl rfl rfl ⟨Nat.le_of_ble_eq_true rfl, Nat.le_of_ble_eq_true rfl, Nat.le_of_ble_eq_true rfl, Nat.le_of_ble_eq_true rfl⟩ (p1_cla0_3) ?_
  refine Ru.op (q := (.iload 5, 2)) (by decide +kernel) rfl ?_
  refine Ru.br2 (k := .eq) (off := 5) (bb := true) (tg := 595) (by decide +kernel) (by decide +kernel) (by decide +kernel) (by decide +kernel) ?_
  refine Ru.op (q := (.iload 5, 2)) (by decide +kernel) rfl ?_
  refine Ru.br (k := .ne) (off := 15) (bb := true) (tg := 612) (by decide +kernel) (by decide +kernel) (by decide +kernel) (by decide +kernel) ?_
  refine Ru.op (q := (.goto 239, 3)) (by decide +kernel) rfl ?_
  exact p1_tail rfl
def fh_cla1_1 : mn_H := [(0, [.ref 1, .ref 13, .ref 28, .ref 30, .ref 35, .int 0, .int (-1)]), (1, [.ref 2, .int 0, .ref 3, .int 0, .int 0, .int 0, .ref 10, .ref 11, .int 0, .int 0, .int 0, .ref 12, .int 0]), (52, List.replicate 160 (.int 0)), (2, [.ref 4, .ref 5, .ref 6, .ref 7, .ref 8, .int 0, .ref 9, .int 0]), (50, List.replicate 160 (.int 0)), (50, List.replicate 160 (.int 0)), (50, List.replicate 160 (.int 0)), (50, List.replicate 160 (.int 0)), (50, List.replicate 160 (.int 0)), (50, List.replicate 1280 (.int 0)), (50, List.replicate 10 (.int 0)), (50, List.replicate 10 (.int 0)), (50, List.replicate 16 (.int 0)), (3, [.ref 14, .int 0, .int 0, .int 0, .int 0, .int 0, .int 0, .int (-1), .int 0, .ref 15, .ref 20, .ref 23, .ref 27]), (55, List.replicate 100 (.null)), (4, [.ref 16, .ref 19, .int 0, .int 0]), (5, [.ref 17, .ref 18, .int 0, .int 0]), (50, List.replicate 80 (.int 0)), (50, [.int 0, .int 0, .int 0, .int 0, .int 0]), (50, List.replicate 128 (.int 0)), (6, [.ref 21, .ref 22]), (50, List.replicate 32 (.int 0)), (50, List.replicate 32 (.int 0)), (7, [.ref 24, .ref 25, .ref 26]), (50, List.replicate 64 (.int 0)), (50, List.replicate 64 (.int 0)), (50, [.int 0, .int 0, .int 0, .int 0]), (51, List.replicate 100 (.int 0)), (8, [.ref 29, .int 0]), (52, List.replicate 128 (.int 0)), (4, [.ref 31, .ref 34, .int 0, .int 0]), (5, [.ref 32, .ref 33, .int 0, .int 0]), (50, List.replicate 80 (.int 0)), (50, [.int 0, .int 0, .int 0, .int 0, .int 0]), (50, List.replicate 128 (.int 0)), (54, List.replicate 24 (.null)), (10, [.int 0, .int (-1), .int 0, .ref 37, .ref 38, .ref 39, .ref 40, .ref 41, .ref 42, .int 0, .int 0, .ref 43, .ref 44, .ref 45, .int (-1), .int 0, .int 0, .int 0, .int 0, .int 0, .int 0, .ref 46, .int 0, .ref 47, .int 0, .ref 48, .ref 49, .int 0, .int 0, .int 0, .int 0, .ref 50, .ref 51, .ref 52, .int 0, .int 0, .int 0, .ref 53, .ref 54, .ref 55, .ref 56, .ref 57, .int 0, .int 0, .ref 58, .ref 59, .int 0, .ref 60, .ref 61, .ref 62, .ref 63, .ref 64, .ref 65, .ref 66, .ref 67, .ref 68, .int 0, .ref 69, .ref 70]), (50, List.replicate 160 (.int 0)), (50, List.replicate 8032 (.int 0)), (50, List.replicate 504 (.int 0)), (51, List.replicate 504 (.int 0)), (50, List.replicate 125 (.int 0)), (50, List.replicate 125 (.int 0)), (50, List.replicate 100 (.int 0)), (50, List.replicate 100 (.int 0)), (50, List.replicate 400 (.int 0)), (50, List.replicate 1024 (.int 0)), (50, List.replicate 128 (.int 0)), (50, List.replicate 100 (.int 0)), (51, List.replicate 100 (.int 0)), (50, List.replicate 50 (.int 0)), (50, List.replicate 50 (.int 0)), (51, List.replicate 50 (.int 0)), (50, List.replicate 16 (.int 0)), (50, List.replicate 10 (.int 0)), (51, List.replicate 10 (.int 0)), (51, List.replicate 10 (.int 0)), (50, List.replicate 10 (.int 0)), (50, List.replicate 300 (.int 0)), (50, List.replicate 2400 (.int 0)), (50, List.replicate 100 (.int 0)), (51, List.replicate 100 (.int 0)), (50, List.replicate 64 (.int 0)), (50, List.replicate 64 (.int 0)), (50, List.replicate 128 (.int 0)), (50, List.replicate 640 (.int 0)), (50, List.replicate 640 (.int 0)), (50, List.replicate 640 (.int 0)), (50, List.replicate 16 (.int 0)), (50, List.replicate 400 (.int 0)), (51, List.replicate 100 (.int 0)), (53, [.long 0]), (99, [])]
set_option maxRecDepth 100000 in
set_option maxHeartbeats 4000000 in
theorem p1_cla1_0 (s1 s2 s3 s4 : Int32) (g0 : mn_cmp .lt s1 0 = false) : Ru none 2046 83953 84 (0, mn_pad (mn_ent [.ref 0, .int s1, .int s2]) 4, [], 20574, fh_0) ((3, none), 20580, fh_cla1_1) := by
  refine Ru.op (q := (.iload_n 1, 1)) (by decide +kernel) rfl ?_
  refine Ru.br (k := .lt) (off := 14) (bb := false) (tg := 4) (by decide +kernel) (by decide +kernel) g0 (by decide +kernel) ?_
  refine Ru.op (q := (.iload_n 1, 1)) (by decide +kernel) rfl ?_
  refine Ru.op (q := (.aload_n 0, 1)) (by decide +kernel) rfl ?_
  refine Ru.op (q := (.getfield 19, 3)) (by decide +kernel) rfl ?_
  refine Ru.op (q := (.getfield 105, 3)) (by decide +kernel) rfl ?_
  refine Ru.br2 (k := .lt) (off := 11) (bb := false) (tg := 15) (by decide +kernel) (by decide +kernel) g0 (by decide +kernel) ?_
  exact Ru.thr (q := (.new 108, 3)) (by decide +kernel) rfl rfl (by decide +kernel)
set_option maxRecDepth 100000 in
set_option maxHeartbeats 4000000 in
theorem p1_cla1_1 (s1 s2 s3 s4 : Int32) (g0 : mn_cmp .lt s1 0 = false) : Ru none 2047 83976 168 (0, mn_pad (mn_ent [.ref 0, .int s1, .int s2, .ref 71]) 5, [], 20574, fh_0) ((0, some (.int (Int32.ofInt 1))), 20580, fh_cla1_1) := by
  refine Ru.op (q := (.aload_n 3, 1)) (by decide +kernel) rfl ?_
  refine Ru.op (q := (.iconst 0, 1)) (by decide +kernel) rfl ?_
  refine Ru.op (q := (.aload_n 0, 1)) (by decide +kernel) rfl ?_
  refine Ru.op (q := (.iload_n 1, 1)) (by decide +kernel) rfl ?_
  refine Ru.op (q := (.iload_n 2, 1)) (by decide +kernel) rfl ?_
  refine Ru.catch (i := 41) (j2 := 84) (k := 2) (hp := 13) (by decide +kernel) rfl rfl rfl rfl ⟨Nat.le_of_ble_eq_true rfl, Nat.le_of_ble_eq_true rfl, Nat.le_of_ble_eq_true rfl, Nat.le_of_ble_eq_true rfl⟩ (by decide +kernel) (p1_cla1_0 s1 s2 s3 s4 g0) ?_
  refine Ru.op (q := (.astore 4, 2)) (by decide +kernel) rfl ?_
  refine Ru.op (q := (.iconst 1, 1)) (by decide +kernel) rfl ?_
  exact Ru.end (q := (.ireturn, 1)) (by decide +kernel) rfl rfl
def fh_cla1_2 : mn_H := [(0, [.ref 1, .ref 13, .ref 28, .ref 30, .ref 35, .int 0, .int (-1)]), (1, [.ref 2, .int 0, .ref 3, .int 0, .int 0, .int 0, .ref 10, .ref 11, .int 0, .int 0, .int 0, .ref 12, .int 0]), (52, List.replicate 160 (.int 0)), (2, [.ref 4, .ref 5, .ref 6, .ref 7, .ref 8, .int 0, .ref 9, .int 0]), (50, List.replicate 160 (.int 0)), (50, List.replicate 160 (.int 0)), (50, List.replicate 160 (.int 0)), (50, List.replicate 160 (.int 0)), (50, List.replicate 160 (.int 0)), (50, List.replicate 1280 (.int 0)), (50, List.replicate 10 (.int 0)), (50, List.replicate 10 (.int 0)), (50, List.replicate 16 (.int 0)), (3, [.ref 14, .int 0, .int 0, .int 0, .int 0, .int 0, .int 0, .int (-1), .int 0, .ref 15, .ref 20, .ref 23, .ref 27]), (55, List.replicate 100 (.null)), (4, [.ref 16, .ref 19, .int 0, .int 0]), (5, [.ref 17, .ref 18, .int 0, .int 0]), (50, List.replicate 80 (.int 0)), (50, [.int 0, .int 0, .int 0, .int 0, .int 0]), (50, List.replicate 128 (.int 0)), (6, [.ref 21, .ref 22]), (50, List.replicate 32 (.int 0)), (50, List.replicate 32 (.int 0)), (7, [.ref 24, .ref 25, .ref 26]), (50, List.replicate 64 (.int 0)), (50, List.replicate 64 (.int 0)), (50, [.int 0, .int 0, .int 0, .int 0]), (51, List.replicate 100 (.int 0)), (8, [.ref 29, .int 0]), (52, List.replicate 128 (.int 0)), (4, [.ref 31, .ref 34, .int 0, .int 0]), (5, [.ref 32, .ref 33, .int 0, .int 0]), (50, List.replicate 80 (.int 0)), (50, [.int 0, .int 0, .int 0, .int 0, .int 0]), (50, List.replicate 128 (.int 0)), (54, List.replicate 24 (.null)), (10, [.int 1, .int (-1), .int 0, .ref 37, .ref 38, .ref 39, .ref 40, .ref 41, .ref 42, .int 0, .int 0, .ref 43, .ref 44, .ref 45, .int (-1), .int 0, .int 0, .int 0, .int 0, .int 0, .int 0, .ref 46, .int 0, .ref 47, .int 0, .ref 48, .ref 49, .int 0, .int 0, .int 0, .int 0, .ref 50, .ref 51, .ref 52, .int 0, .int 0, .int 0, .ref 53, .ref 54, .ref 55, .ref 56, .ref 57, .int 0, .int 0, .ref 58, .ref 59, .int 0, .ref 60, .ref 61, .ref 62, .ref 63, .ref 64, .ref 65, .ref 66, .ref 67, .ref 68, .int 0, .ref 69, .ref 70]), (50, List.replicate 160 (.int 0)), (50, List.replicate 8032 (.int 0)), (50, List.replicate 504 (.int 0)), (51, List.replicate 504 (.int 0)), (50, List.replicate 125 (.int 0)), (50, List.replicate 125 (.int 0)), (50, List.replicate 100 (.int 0)), (50, List.replicate 100 (.int 0)), (50, List.replicate 400 (.int 0)), (50, List.replicate 1024 (.int 0)), (50, List.replicate 128 (.int 0)), (50, List.replicate 100 (.int 0)), (51, List.replicate 100 (.int 0)), (50, List.replicate 50 (.int 0)), (50, List.replicate 50 (.int 0)), (51, List.replicate 50 (.int 0)), (50, List.replicate 16 (.int 0)), (50, List.replicate 10 (.int 0)), (51, List.replicate 10 (.int 0)), (51, List.replicate 10 (.int 0)), (50, List.replicate 10 (.int 0)), (50, List.replicate 300 (.int 0)), (50, List.replicate 2400 (.int 0)), (50, List.replicate 100 (.int 0)), (51, List.replicate 100 (.int 0)), (50, List.replicate 64 (.int 0)), (50, List.replicate 64 (.int 0)), (50, List.replicate 128 (.int 0)), (50, List.replicate 640 (.int 0)), (50, List.replicate 640 (.int 0)), (50, List.replicate 640 (.int 0)), (50, List.replicate 16 (.int 0)), (50, List.replicate 400 (.int 0)), (51, List.replicate 100 (.int 0)), (53, [.long 0]), (99, [])]
set_option maxRecDepth 100000 in
set_option maxHeartbeats 4000000 in
theorem p1_cla1_2 (s1 s2 s3 s4 : Int32) (g0 : mn_cmp .lt s1 0 = false) : Ru none 2047 83978 154 (0, mn_pad (mn_ent [.ref 36, .int s1, .int s2]) 3, [], 20580, fh_cla1_1) ((0, some (.int (Int32.ofInt 0))), 20580, fh_cla1_2) := by
  refine Ru.op (q := (.aload_n 0, 1)) (by decide +kernel) rfl ?_
  refine Ru.op (q := (.iload_n 1, 1)) (by decide +kernel) rfl ?_
  refine Ru.br (k := .lt) (off := 11) (bb := false) (tg := 5) (by decide +kernel) (by decide +kernel) g0 (by decide +kernel) ?_
  refine Ru.op (q := (.iload_n 1, 1)) (by decide +kernel) rfl ?_
  refine Ru.op (q := (.aload_n 0, 1)) (by decide +kernel) rfl ?_
  refine Ru.op (q := (.getfield 263, 3)) (by decide +kernel) rfl ?_
  refine Ru.br2 (k := .lt) (off := 7) (bb := false) (tg := 13) (by decide +kernel) (by decide +kernel) g0 (by decide +kernel) ?_
  refine Ru.op (q := (.iconst 1, 1)) (by decide +kernel) rfl ?_
  refine Ru.op (q := (.goto 18, 3)) (by decide +kernel) rfl ?_
  refine Ru.op (q := (.putfield 120, 3)) (by decide +kernel) rfl ?_
  refine Ru.op (q := (.aload_n 0, 1)) (by decide +kernel) rfl ?_
  refine Ru.op (q := (.getfield 120, 3)) (by decide +kernel) rfl ?_
  refine Ru.br (k := .le) (off := 5) (bb := false) (tg := 42) (by decide +kernel) (by decide +kernel) (by decide +kernel) (by decide +kernel) ?_
  refine Ru.op (q := (.iconst 0, 1)) (by decide +kernel) rfl ?_
  exact Ru.end (q := (.ireturn, 1)) (by decide +kernel) rfl rfl
set_option maxRecDepth 100000 in
theorem p1_cla1_3 : Ru none 2047 83980 94 (0, mn_pad (mn_ent [.ref 36]) 1, [], 20580, fh_cla1_2) ((0, some (.int 1)), 20580, fh_cla1_2) := Ru.of 5 (by decide +kernel)
set_option maxRecDepth 100000 in
set_option maxHeartbeats 4000000 in
theorem p1_cla1 {s0 s1 s2 s3 s4 : Int32} (g0 : mn_cmp .lt s1 0 = false) : Ru (some [s0, s1, s2, s3, s4]) 2048 84000 172 (547, [some (.retAddr 0), some (.ref 0), some (.ref 36), some (.ref 71), some (.int 0), none, none], [], 20574, fh_0) ((0, some (.int 1)), 20580, fh_cla1_2) := by
  refine Ru.op (q := (.aload_n 1, 1)) (by decide +kernel) rfl ?_
  refine Ru.op (q := (.aload_n 0, 1)) (by decide +kernel) rfl ?_
  refine Ru.op (q := (.iload 4, 2)) (by decide +kernel) rfl ?_
  refine Ru.op (q := (.iconst 1, 1)) (by decide +kernel) rfl ?_
  refine Ru.op (q := (.iadd, 1)) (by decide +kernel) rfl ?_
  refine Ru.sld (L := 5) (k := 1) (v := s1) rfl rfl (by decide +kernel) (by decide +kernel) (by decide +kernel) rfl ?_
  refine Ru.op (q := (.aload_n 0, 1)) (by decide +kernel) rfl ?_
  refine Ru.op (q := (.iload 4, 2)) (by decide +kernel) rfl ?_
  refine Ru.op (q := (.iconst 2, 1)) (by decide +kernel) rfl ?_
  refine Ru.op (q := (.iadd, 1)) (by decide +kernel) rfl ?_
  refine Ru.sld (L := 5) (k := 2) (v := s2) rfl rfl (by decide +kernel) (by decide +kernel) (by decide +kernel) rfl ?_
  refine Ru.op (q := (.aload_n 3, 1)) (by decide +kernel) rfl ?_
  refine Ru.call (q := (.invokestatic 102, 3)) (by decide +kernel) rfl rfl rfl rfl ⟨Nat.le_of_ble_eq_true rfl, Nat.le_of_ble_eq_true rfl, Nat.le_of_ble_eq_true rfl, Nat.le_of_ble_eq_true rfl⟩ (p1_cla1_1 s1 s2 s3 s4 g0) ?_
  refine Ru.op (q := (.istore 5, 2)) (by decide +kernel) rfl ?_
  refine Ru.op (q := (.aload_n 2, 1)) (by decide +kernel) rfl ?_
  refine Ru.op (q := (.aload_n 0, 1)) (by decide +kernel) rfl ?_
  refine Ru.op (q := (.iload 4, 2)) (by decide +kernel) rfl ?_
  refine Ru.op (q := (.iconst 1, 1)) (by decide +kernel) rfl ?_
  refine Ru.op (q := (.iadd, 1)) (by decide +kernel) rfl ?_
  refine Ru.sld (L := 5) (k := 1) (v := s1) rfl rfl (by decide +kernel) (by decide +kernel) (by decide +kernel) rfl ?_
  refine Ru.op (q := (.aload_n 0, 1)) (by decide +kernel) rfl ?_
  refine Ru.op (q := (.iload 4, 2)) (by decide +kernel) rfl ?_
  refine Ru.op (q := (.iconst 2, 1)) (by decide +kernel) rfl ?_
  refine Ru.op (q := (.iadd, 1)) (by decide +kernel) rfl ?_
  refine Ru.sld (L := 5) (k := 2) (v := s2) rfl rfl (by decide +kernel) (by decide +kernel) (by decide +kernel) rfl ?_
  refine Ru.call (q := (.invokevirtual 105, 3)) (by decide +kernel) rfl rfl rfl rfl ⟨Nat.le_of_ble_eq_true rfl, Nat.le_of_ble_eq_true rfl, Nat.le_of_ble_eq_true rfl, Nat.le_of_ble_eq_true rfl⟩ (p1_cla1_2 s1 s2 s3 s4 g0) ?_
  refine Ru.op (q := (.istore 6, 2)) (by decide +kernel) rfl ?_
  refine Ru.op (q := (.aload_n 2, 1)) (by decide +kernel) rfl ?_
  refine Ru.call (q := (.invokevirtual 68, 3)) (by decide +kernel) rfl rfl rfl rfl ⟨Nat.le_of_ble_eq_true rfl, Nat.le_of_ble_eq_true rfl, Nat.le_of_ble_eq_true rfl, Nat.le_of_ble_eq_true rfl⟩ (p1_cla1_3) ?_
  refine Ru.op (q := (.iload 5, 2)) (by decide +kernel) rfl ?_
  refine Ru.br2 (k := .eq) (off := 5) (bb := true) (tg := 595) (by decide +kernel) (by decide +kernel) (by decide +kernel) (by decide +kernel) ?_
  refine Ru.op (q := (.iload 5, 2)) (by decide +kernel) rfl ?_
  refine Ru.br (k := .ne) (off := 15) (bb := true) (tg := 612) (by decide +kernel) (by decide +kernel) (by decide +kernel) (by decide +kernel) ?_
  refine Ru.op (q := (.goto 239, 3)) (by decide +kernel) rfl ?_
  exact p1_tail rfl
def fh_sub0_1 : mn_H := [(0, [.ref 1, .ref 13, .ref 28, .ref 30, .ref 35, .int 0, .int (-1)]), (1, [.ref 2, .int 0, .ref 3, .int 0, .int 0, .int 0, .ref 10, .ref 11, .int 0, .int 0, .int 0, .ref 12, .int 0]), (52, List.replicate 160 (.int 0)), (2, [.ref 4, .ref 5, .ref 6, .ref 7, .ref 8, .int 0, .ref 9, .int 0]), (50, List.replicate 160 (.int 0)), (50, List.replicate 160 (.int 0)), (50, List.replicate 160 (.int 0)), (50, List.replicate 160 (.int 0)), (50, List.replicate 160 (.int 0)), (50, List.replicate 1280 (.int 0)), (50, List.replicate 10 (.int 0)), (50, List.replicate 10 (.int 0)), (50, List.replicate 16 (.int 0)), (3, [.ref 14, .int 0, .int 0, .int 0, .int 0, .int 0, .int 0, .int (-1), .int 0, .ref 15, .ref 20, .ref 23, .ref 27]), (55, List.replicate 100 (.null)), (4, [.ref 16, .ref 19, .int 0, .int 0]), (5, [.ref 17, .ref 18, .int 0, .int 0]), (50, List.replicate 80 (.int 0)), (50, [.int 0, .int 0, .int 0, .int 0, .int 0]), (50, List.replicate 128 (.int 0)), (6, [.ref 21, .ref 22]), (50, List.replicate 32 (.int 0)), (50, List.replicate 32 (.int 0)), (7, [.ref 24, .ref 25, .ref 26]), (50, List.replicate 64 (.int 0)), (50, List.replicate 64 (.int 0)), (50, [.int 0, .int 0, .int 0, .int 0]), (51, List.replicate 100 (.int 0)), (8, [.ref 29, .int 0]), (52, List.replicate 128 (.int 0)), (4, [.ref 31, .ref 34, .int 0, .int 0]), (5, [.ref 32, .ref 33, .int 0, .int 0]), (50, List.replicate 80 (.int 0)), (50, [.int 0, .int 0, .int 0, .int 0, .int 0]), (50, List.replicate 128 (.int 0)), (54, List.replicate 24 (.null)), (10, [.int 0, .int (-1), .int 0, .ref 37, .ref 38, .ref 39, .ref 40, .ref 41, .ref 42, .int 0, .int 0, .ref 43, .ref 44, .ref 45, .int (-1), .int 0, .int 0, .int 0, .int 0, .int 0, .int 0, .ref 46, .int 0, .ref 47, .int 0, .ref 48, .ref 49, .int 0, .int 0, .int 0, .int 0, .ref 50, .ref 51, .ref 52, .int 0, .int 0, .int 0, .ref 53, .ref 54, .ref 55, .ref 56, .ref 57, .int 0, .int 0, .ref 58, .ref 59, .int 0, .ref 60, .ref 61, .ref 62, .ref 63, .ref 64, .ref 65, .ref 66, .ref 67, .ref 68, .int 0, .ref 69, .ref 70]), (50, List.replicate 160 (.int 0)), (50, List.replicate 8032 (.int 0)), (50, List.replicate 504 (.int 0)), (51, List.replicate 504 (.int 0)), (50, List.replicate 125 (.int 0)), (50, List.replicate 125 (.int 0)), (50, List.replicate 100 (.int 0)), (50, List.replicate 100 (.int 0)), (50, List.replicate 400 (.int 0)), (50, List.replicate 1024 (.int 0)), (50, List.replicate 128 (.int 0)), (50, List.replicate 100 (.int 0)), (51, List.replicate 100 (.int 0)), (50, List.replicate 50 (.int 0)), (50, List.replicate 50 (.int 0)), (51, List.replicate 50 (.int 0)), (50, List.replicate 16 (.int 0)), (50, List.replicate 10 (.int 0)), (51, List.replicate 10 (.int 0)), (51, List.replicate 10 (.int 0)), (50, List.replicate 10 (.int 0)), (50, List.replicate 300 (.int 0)), (50, List.replicate 2400 (.int 0)), (50, List.replicate 100 (.int 0)), (51, List.replicate 100 (.int 0)), (50, List.replicate 64 (.int 0)), (50, List.replicate 64 (.int 0)), (50, List.replicate 128 (.int 0)), (50, List.replicate 640 (.int 0)), (50, List.replicate 640 (.int 0)), (50, List.replicate 640 (.int 0)), (50, List.replicate 16 (.int 0)), (50, List.replicate 400 (.int 0)), (51, List.replicate 100 (.int 0)), (53, [.long 0]), (99, [])]
set_option maxRecDepth 100000 in
set_option maxHeartbeats 4000000 in
theorem p1_sub0_0 (s1 s2 s3 s4 : Int32) (g0 : mn_cmp .lt s1 0 = true) : Ru none 2046 83954 85 (0, mn_pad (mn_ent [.ref 0, .int s1, .int s2]) 3, [], 20574, fh_0) ((3, none), 20580, fh_sub0_1) := by
  refine Ru.op (q := (.iload_n 1, 1)) (by decide +kernel) rfl ?_
  refine Ru.br (k := .lt) (off := 29) (bb := true) (tg := 30) (by decide +kernel) (by decide +kernel) g0 (by decide +kernel) ?_
  exact Ru.thr (q := (.new 108, 3)) (by decide +kernel) rfl rfl (by decide +kernel)
set_option maxRecDepth 100000 in
set_option maxHeartbeats 4000000 in
theorem p1_sub0_1 (s1 s2 s3 s4 : Int32) (g0 : mn_cmp .lt s1 0 = true) : Ru none 2047 83976 169 (0, mn_pad (mn_ent [.ref 0, .int s1, .int s2, .ref 71]) 5, [], 20574, fh_0) ((0, some (.int (Int32.ofInt 1))), 20580, fh_sub0_1) := by
  refine Ru.op (q := (.aload_n 3, 1)) (by decide +kernel) rfl ?_
  refine Ru.op (q := (.iconst 0, 1)) (by decide +kernel) rfl ?_
  refine Ru.op (q := (.aload_n 0, 1)) (by decide +kernel) rfl ?_
  refine Ru.op (q := (.iload_n 1, 1)) (by decide +kernel) rfl ?_
  refine Ru.op (q := (.iload_n 2, 1)) (by decide +kernel) rfl ?_
  refine Ru.catch (i := 45) (j2 := 85) (k := 2) (hp := 20) (by decide +kernel) rfl rfl rfl rfl ⟨Nat.le_of_ble_eq_true rfl, Nat.le_of_ble_eq_true rfl, Nat.le_of_ble_eq_true rfl, Nat.le_of_ble_eq_true rfl⟩ (by decide +kernel) (p1_sub0_0 s1 s2 s3 s4 g0) ?_
  refine Ru.op (q := (.astore 4, 2)) (by decide +kernel) rfl ?_
  refine Ru.op (q := (.iconst 1, 1)) (by decide +kernel) rfl ?_
  exact Ru.end (q := (.ireturn, 1)) (by decide +kernel) rfl rfl
def fh_sub0_2 : mn_H := [(0, [.ref 1, .ref 13, .ref 28, .ref 30, .ref 35, .int 0, .int (-1)]), (1, [.ref 2, .int 0, .ref 3, .int 0, .int 0, .int 0, .ref 10, .ref 11, .int 0, .int 0, .int 0, .ref 12, .int 0]), (52, List.replicate 160 (.int 0)), (2, [.ref 4, .ref 5, .ref 6, .ref 7, .ref 8, .int 0, .ref 9, .int 0]), (50, List.replicate 160 (.int 0)), (50, List.replicate 160 (.int 0)), (50, List.replicate 160 (.int 0)), (50, List.replicate 160 (.int 0)), (50, List.replicate 160 (.int 0)), (50, List.replicate 1280 (.int 0)), (50, List.replicate 10 (.int 0)), (50, List.replicate 10 (.int 0)), (50, List.replicate 16 (.int 0)), (3, [.ref 14, .int 0, .int 0, .int 0, .int 0, .int 0, .int 0, .int (-1), .int 0, .ref 15, .ref 20, .ref 23, .ref 27]), (55, List.replicate 100 (.null)), (4, [.ref 16, .ref 19, .int 0, .int 0]), (5, [.ref 17, .ref 18, .int 0, .int 0]), (50, List.replicate 80 (.int 0)), (50, [.int 0, .int 0, .int 0, .int 0, .int 0]), (50, List.replicate 128 (.int 0)), (6, [.ref 21, .ref 22]), (50, List.replicate 32 (.int 0)), (50, List.replicate 32 (.int 0)), (7, [.ref 24, .ref 25, .ref 26]), (50, List.replicate 64 (.int 0)), (50, List.replicate 64 (.int 0)), (50, [.int 0, .int 0, .int 0, .int 0]), (51, List.replicate 100 (.int 0)), (8, [.ref 29, .int 0]), (52, List.replicate 128 (.int 0)), (4, [.ref 31, .ref 34, .int 0, .int 0]), (5, [.ref 32, .ref 33, .int 0, .int 0]), (50, List.replicate 80 (.int 0)), (50, [.int 0, .int 0, .int 0, .int 0, .int 0]), (50, List.replicate 128 (.int 0)), (54, List.replicate 24 (.null)), (10, [.int 1, .int (-1), .int 0, .ref 37, .ref 38, .ref 39, .ref 40, .ref 41, .ref 42, .int 0, .int 0, .ref 43, .ref 44, .ref 45, .int (-1), .int 0, .int 0, .int 0, .int 0, .int 0, .int 0, .ref 46, .int 0, .ref 47, .int 0, .ref 48, .ref 49, .int 0, .int 0, .int 0, .int 0, .ref 50, .ref 51, .ref 52, .int 0, .int 0, .int 0, .ref 53, .ref 54, .ref 55, .ref 56, .ref 57, .int 0, .int 0, .ref 58, .ref 59, .int 0, .ref 60, .ref 61, .ref 62, .ref 63, .ref 64, .ref 65, .ref 66, .ref 67, .ref 68, .int 0, .ref 69, .ref 70]), (50, List.replicate 160 (.int 0)), (50, List.replicate 8032 (.int 0)), (50, List.replicate 504 (.int 0)), (51, List.replicate 504 (.int 0)), (50, List.replicate 125 (.int 0)), (50, List.replicate 125 (.int 0)), (50, List.replicate 100 (.int 0)), (50, List.replicate 100 (.int 0)), (50, List.replicate 400 (.int 0)), (50, List.replicate 1024 (.int 0)), (50, List.replicate 128 (.int 0)), (50, List.replicate 100 (.int 0)), (51, List.replicate 100 (.int 0)), (50, List.replicate 50 (.int 0)), (50, List.replicate 50 (.int 0)), (51, List.replicate 50 (.int 0)), (50, List.replicate 16 (.int 0)), (50, List.replicate 10 (.int 0)), (51, List.replicate 10 (.int 0)), (51, List.replicate 10 (.int 0)), (50, List.replicate 10 (.int 0)), (50, List.replicate 300 (.int 0)), (50, List.replicate 2400 (.int 0)), (50, List.replicate 100 (.int 0)), (51, List.replicate 100 (.int 0)), (50, List.replicate 64 (.int 0)), (50, List.replicate 64 (.int 0)), (50, List.replicate 128 (.int 0)), (50, List.replicate 640 (.int 0)), (50, List.replicate 640 (.int 0)), (50, List.replicate 640 (.int 0)), (50, List.replicate 16 (.int 0)), (50, List.replicate 400 (.int 0)), (51, List.replicate 100 (.int 0)), (53, [.long 0]), (99, [])]
set_option maxRecDepth 100000 in
set_option maxHeartbeats 4000000 in
theorem p1_sub0_2 (s1 s2 s3 s4 : Int32) (g0 : mn_cmp .lt s1 0 = true) : Ru none 2047 83978 155 (0, mn_pad (mn_ent [.ref 36, .int s1, .int s2]) 3, [], 20580, fh_sub0_1) ((0, some (.int (Int32.ofInt 0))), 20580, fh_sub0_2) := by
  refine Ru.op (q := (.aload_n 0, 1)) (by decide +kernel) rfl ?_
  refine Ru.op (q := (.iload_n 1, 1)) (by decide +kernel) rfl ?_
  refine Ru.br (k := .lt) (off := 23) (bb := true) (tg := 25) (by decide +kernel) (by decide +kernel) g0 (by decide +kernel) ?_
  refine Ru.op (q := (.iconst 1, 1)) (by decide +kernel) rfl ?_
  refine Ru.op (q := (.goto 4, 3)) (by decide +kernel) rfl ?_
  refine Ru.op (q := (.putfield 120, 3)) (by decide +kernel) rfl ?_
  refine Ru.op (q := (.aload_n 0, 1)) (by decide +kernel) rfl ?_
  refine Ru.op (q := (.getfield 120, 3)) (by decide +kernel) rfl ?_
  refine Ru.br (k := .ne) (off := 16) (bb := true) (tg := 53) (by decide +kernel) (by decide +kernel) (by decide +kernel) (by decide +kernel) ?_
  refine Ru.op (q := (.iconst 0, 1)) (by decide +kernel) rfl ?_
  exact Ru.end (q := (.ireturn, 1)) (by decide +kernel) rfl rfl
set_option maxRecDepth 100000 in
theorem p1_sub0_3 : Ru none 2047 83980 94 (0, mn_pad (mn_ent [.ref 36]) 1, [], 20580, fh_sub0_2) ((0, some (.int 1)), 20580, fh_sub0_2) := Ru.of 5 (by decide +kernel)
set_option maxRecDepth 100000 in
set_option maxHeartbeats 4000000 in
theorem p1_sub0 {s0 s1 s2 s3 s4 : Int32} (g0 : mn_cmp .lt s1 0 = true) : Ru (some [s0, s1, s2, s3, s4]) 2048 84000 172 (615, [some (.retAddr 0), some (.ref 0), some (.ref 36), some (.ref 71), some (.int 0), none, none], [], 20574, fh_0) ((0, some (.int 1)), 20580, fh_sub0_2) := by
  refine Ru.op (q := (.aload_n 1, 1)) (by decide +kernel) rfl ?_
  refine Ru.op (q := (.aload_n 0, 1)) (by decide +kernel) rfl ?_
  refine Ru.op (q := (.iload 4, 2)) (by decide +kernel) rfl ?_
  refine Ru.op (q := (.iconst 1, 1)) (by decide +kernel) rfl ?_
  refine Ru.op (q := (.iadd, 1)) (by decide +kernel) rfl ?_
  refine Ru.sld (L := 5) (k := 1) (v := s1) rfl rfl (by decide +kernel) (by decide +kernel) (by decide +kernel) rfl ?_
  refine Ru.op (q := (.aload_n 0, 1)) (by decide +kernel) rfl ?_
  refine Ru.op (q := (.iload 4, 2)) (by decide +kernel) rfl ?_
  refine Ru.op (q := (.iconst 2, 1)) (by decide +kernel) rfl ?_
  refine Ru.op (q := (.iadd, 1)) (by decide +kernel) rfl ?_
  refine Ru.sld (L := 5) (k := 2) (v := s2) rfl rfl (by decide +kernel) (by decide +kernel) (by decide +kernel) rfl ?_
  refine Ru.op (q := (.aload_n 3, 1)) (by decide +kernel) rfl ?_
  refine Ru.call (q := (.invokestatic 106, 3)) (by decide +kernel) rfl rfl rfl rfl ⟨Nat.le_of_ble_eq_true rfl, Nat.le_of_ble_eq_true rfl, Nat.le_of_ble_eq_true rfl, Nat.le_of_ble_eq_true rfl⟩ (p1_sub0_1 s1 s2 s3 s4 g0) ?_
  refine Ru.op (q := (.istore 5, 2)) (by decide +kernel) rfl ?_
  refine Ru.op (q := (.aload_n 2, 1)) (by decide +kernel) rfl ?_
  refine Ru.op (q := (.aload_n 0, 1)) (by decide +kernel) rfl ?_
  refine Ru.op (q := (.iload 4, 2)) (by decide +kernel) rfl ?_
  refine Ru.op (q := (.iconst 1, 1)) (by decide +kernel) rfl ?_
  refine Ru.op (q := (.iadd, 1)) (by decide +kernel) rfl ?_
  refine Ru.sld (L := 5) (k := 1) (v := s1) rfl rfl (by decide +kernel) (by decide +kernel) (by decide +kernel) rfl ?_
  refine Ru.op (q := (.aload_n 0, 1)) (by decide +kernel) rfl ?_
  refine Ru.op (q := (.iload 4, 2)) (by decide +kernel) rfl ?_
  refine Ru.op (q := (.iconst 2, 1)) (by decide +kernel) rfl ?_
  refine Ru.op (q := (.iadd, 1)) (by decide +kernel) rfl ?_
  refine Ru.sld (L := 5) (k := 2) (v := s2) rfl rfl (by decide +kernel) (by decide +kernel) (by decide +kernel) rfl ?_
  refine Ru.call (q := (.invokevirtual 108, 3)) (by decide +kernel) rfl rfl rfl rfl ⟨Nat.le_of_ble_eq_true rfl, Nat.le_of_ble_eq_true rfl, Nat.le_of_ble_eq_true rfl, Nat.le_of_ble_eq_true rfl⟩ (p1_sub0_2 s1 s2 s3 s4 g0) ?_
  refine Ru.op (q := (.istore 6, 2)) (by decide +kernel) rfl ?_
  refine Ru.op (q := (.aload_n 2, 1)) (by decide +kernel) rfl ?_
  refine Ru.call (q := (.invokevirtual 68, 3)) (by decide +kernel) rfl rfl rfl rfl ⟨Nat.le_of_ble_eq_true rfl, Nat.le_of_ble_eq_true rfl, Nat.le_of_ble_eq_true rfl, Nat.le_of_ble_eq_true rfl⟩ (p1_sub0_3) ?_
  refine Ru.op (q := (.iload 5, 2)) (by decide +kernel) rfl ?_
  refine Ru.br2 (k := .eq) (off := 5) (bb := true) (tg := 663) (by decide +kernel) (by decide +kernel) (by decide +kernel) (by decide +kernel) ?_
  refine Ru.op (q := (.iload 5, 2)) (by decide +kernel) rfl ?_
  refine Ru.br (k := .ne) (off := 22) (bb := true) (tg := 687) (by decide +kernel) (by decide +kernel) (by decide +kernel) (by decide +kernel) ?_
  refine Ru.op (q := (.goto 164, 3)) (by decide +kernel) rfl ?_
  exact p1_tail rfl
def fh_sub1_1 : mn_H := [(0, [.ref 1, .ref 13, .ref 28, .ref 30, .ref 35, .int 0, .int (-1)]), (1, [.ref 2, .int 0, .ref 3, .int 0, .int 0, .int 0, .ref 10, .ref 11, .int 0, .int 0, .int 0, .ref 12, .int 0]), (52, List.replicate 160 (.int 0)), (2, [.ref 4, .ref 5, .ref 6, .ref 7, .ref 8, .int 0, .ref 9, .int 0]), (50, List.replicate 160 (.int 0)), (50, List.replicate 160 (.int 0)), (50, List.replicate 160 (.int 0)), (50, List.replicate 160 (.int 0)), (50, List.replicate 160 (.int 0)), (50, List.replicate 1280 (.int 0)), (50, List.replicate 10 (.int 0)), (50, List.replicate 10 (.int 0)), (50, List.replicate 16 (.int 0)), (3, [.ref 14, .int 0, .int 0, .int 0, .int 0, .int 0, .int 0, .int (-1), .int 0, .ref 15, .ref 20, .ref 23, .ref 27]), (55, List.replicate 100 (.null)), (4, [.ref 16, .ref 19, .int 0, .int 0]), (5, [.ref 17, .ref 18, .int 0, .int 0]), (50, List.replicate 80 (.int 0)), (50, [.int 0, .int 0, .int 0, .int 0, .int 0]), (50, List.replicate 128 (.int 0)), (6, [.ref 21, .ref 22]), (50, List.replicate 32 (.int 0)), (50, List.replicate 32 (.int 0)), (7, [.ref 24, .ref 25, .ref 26]), (50, List.replicate 64 (.int 0)), (50, List.replicate 64 (.int 0)), (50, [.int 0, .int 0, .int 0, .int 0]), (51, List.replicate 100 (.int 0)), (8, [.ref 29, .int 0]), (52, List.replicate 128 (.int 0)), (4, [.ref 31, .ref 34, .int 0, .int 0]), (5, [.ref 32, .ref 33, .int 0, .int 0]), (50, List.replicate 80 (.int 0)), (50, [.int 0, .int 0, .int 0, .int 0, .int 0]), (50, List.replicate 128 (.int 0)), (54, List.replicate 24 (.null)), (10, [.int 0, .int (-1), .int 0, .ref 37, .ref 38, .ref 39, .ref 40, .ref 41, .ref 42, .int 0, .int 0, .ref 43, .ref 44, .ref 45, .int (-1), .int 0, .int 0, .int 0, .int 0, .int 0, .int 0, .ref 46, .int 0, .ref 47, .int 0, .ref 48, .ref 49, .int 0, .int 0, .int 0, .int 0, .ref 50, .ref 51, .ref 52, .int 0, .int 0, .int 0, .ref 53, .ref 54, .ref 55, .ref 56, .ref 57, .int 0, .int 0, .ref 58, .ref 59, .int 0, .ref 60, .ref 61, .ref 62, .ref 63, .ref 64, .ref 65, .ref 66, .ref 67, .ref 68, .int 0, .ref 69, .ref 70]), (50, List.replicate 160 (.int 0)), (50, List.replicate 8032 (.int 0)), (50, List.replicate 504 (.int 0)), (51, List.replicate 504 (.int 0)), (50, List.replicate 125 (.int 0)), (50, List.replicate 125 (.int 0)), (50, List.replicate 100 (.int 0)), (50, List.replicate 100 (.int 0)), (50, List.replicate 400 (.int 0)), (50, List.replicate 1024 (.int 0)), (50, List.replicate 128 (.int 0)), (50, List.replicate 100 (.int 0)), (51, List.replicate 100 (.int 0)), (50, List.replicate 50 (.int 0)), (50, List.replicate 50 (.int 0)), (51, List.replicate 50 (.int 0)), (50, List.replicate 16 (.int 0)), (50, List.replicate 10 (.int 0)), (51, List.replicate 10 (.int 0)), (51, List.replicate 10 (.int 0)), (50, List.replicate 10 (.int 0)), (50, List.replicate 300 (.int 0)), (50, List.replicate 2400 (.int 0)), (50, List.replicate 100 (.int 0)), (51, List.replicate 100 (.int 0)), (50, List.replicate 64 (.int 0)), (50, List.replicate 64 (.int 0)), (50, List.replicate 128 (.int 0)), (50, List.replicate 640 (.int 0)), (50, List.replicate 640 (.int 0)), (50, List.replicate 640 (.int 0)), (50, List.replicate 16 (.int 0)), (50, List.replicate 400 (.int 0)), (51, List.replicate 100 (.int 0)), (53, [.long 0]), (99, [])]
set_option maxRecDepth 100000 in
set_option maxHeartbeats 4000000 in
theorem p1_sub1_0 (s1 s2 s3 s4 : Int32) (g0 : mn_cmp .lt s1 0 = false) (g1 : mn_cmp .ge s1 0 = true) : Ru none 2046 83954 85 (0, mn_pad (mn_ent [.ref 0, .int s1, .int s2]) 3, [], 20574, fh_0) ((3, none), 20580, fh_sub1_1) := by
  refine Ru.op (q := (.iload_n 1, 1)) (by decide +kernel) rfl ?_
  refine Ru.br (k := .lt) (off := 29) (bb := false) (tg := 4) (by decide +kernel) (by decide +kernel) g0 (by decide +kernel) ?_
  refine Ru.op (q := (.iload_n 1, 1)) (by decide +kernel) rfl ?_
  refine Ru.op (q := (.aload_n 0, 1)) (by decide +kernel) rfl ?_
  refine Ru.op (q := (.getfield 19, 3)) (by decide +kernel) rfl ?_
  refine Ru.op (q := (.getfield 105, 3)) (by decide +kernel) rfl ?_
  refine Ru.br2 (k := .ge) (off := 18) (bb := true) (tg := 30) (by decide +kernel) (by decide +kernel) g1 (by decide +kernel) ?_
  exact Ru.thr (q := (.new 108, 3)) (by decide +kernel) rfl rfl (by decide +kernel)
set_option maxRecDepth 100000 in
set_option maxHeartbeats 4000000 in
theorem p1_sub1_1 (s1 s2 s3 s4 : Int32) (g0 : mn_cmp .lt s1 0 = false) (g1 : mn_cmp .ge s1 0 = true) : Ru none 2047 83976 169 (0, mn_pad (mn_ent [.ref 0, .int s1, .int s2, .ref 71]) 5, [], 20574, fh_0) ((0, some (.int (Int32.ofInt 1))), 20580, fh_sub1_1) := by
  refine Ru.op (q := (.aload_n 3, 1)) (by decide +kernel) rfl ?_
  refine Ru.op (q := (.iconst 0, 1)) (by decide +kernel) rfl ?_
  refine Ru.op (q := (.aload_n 0, 1)) (by decide +kernel) rfl ?_
  refine Ru.op (q := (.iload_n 1, 1)) (by decide +kernel) rfl ?_
  refine Ru.op (q := (.iload_n 2, 1)) (by decide +kernel) rfl ?_
  refine Ru.catch (i := 45) (j2 := 85) (k := 2) (hp := 20) (by decide +kernel) rfl rfl rfl rfl ⟨Nat.le_of_ble_eq_true rfl, Nat.le_of_ble_eq_true rfl, Nat.le_of_ble_eq_true rfl, Nat.le_of_ble_eq_true rfl⟩ (by decide +kernel) (p1_sub1_0 s1 s2 s3 s4 g0 g1) ?_
  refine Ru.op (q := (.astore 4, 2)) (by decide +kernel) rfl ?_
  refine Ru.op (q := (.iconst 1, 1)) (by decide +kernel) rfl ?_
  exact Ru.end (q := (.ireturn, 1)) (by decide +kernel) rfl rfl
def fh_sub1_2 : mn_H := [(0, [.ref 1, .ref 13, .ref 28, .ref 30, .ref 35, .int 0, .int (-1)]), (1, [.ref 2, .int 0, .ref 3, .int 0, .int 0, .int 0, .ref 10, .ref 11, .int 0, .int 0, .int 0, .ref 12, .int 0]), (52, List.replicate 160 (.int 0)), (2, [.ref 4, .ref 5, .ref 6, .ref 7, .ref 8, .int 0, .ref 9, .int 0]), (50, List.replicate 160 (.int 0)), (50, List.replicate 160 (.int 0)), (50, List.replicate 160 (.int 0)), (50, List.replicate 160 (.int 0)), (50, List.replicate 160 (.int 0)), (50, List.replicate 1280 (.int 0)), (50, List.replicate 10 (.int 0)), (50, List.replicate 10 (.int 0)), (50, List.replicate 16 (.int 0)), (3, [.ref 14, .int 0, .int 0, .int 0, .int 0, .int 0, .int 0, .int (-1), .int 0, .ref 15, .ref 20, .ref 23, .ref 27]), (55, List.replicate 100 (.null)), (4, [.ref 16, .ref 19, .int 0, .int 0]), (5, [.ref 17, .ref 18, .int 0, .int 0]), (50, List.replicate 80 (.int 0)), (50, [.int 0, .int 0, .int 0, .int 0, .int 0]), (50, List.replicate 128 (.int 0)), (6, [.ref 21, .ref 22]), (50, List.replicate 32 (.int 0)), (50, List.replicate 32 (.int 0)), (7, [.ref 24, .ref 25, .ref 26]), (50, List.replicate 64 (.int 0)), (50, List.replicate 64 (.int 0)), (50, [.int 0, .int 0, .int 0, .int 0]), (51, List.replicate 100 (.int 0)), (8, [.ref 29, .int 0]), (52, List.replicate 128 (.int 0)), (4, [.ref 31, .ref 34, .int 0, .int 0]), (5, [.ref 32, .ref 33, .int 0, .int 0]), (50, List.replicate 80 (.int 0)), (50, [.int 0, .int 0, .int 0, .int 0, .int 0]), (50, List.replicate 128 (.int 0)), (54, List.replicate 24 (.null)), (10, [.int 1, .int (-1), .int 0, .ref 37, .ref 38, .ref 39, .ref 40, .ref 41, .ref 42, .int 0, .int 0, .ref 43, .ref 44, .ref 45, .int (-1), .int 0, .int 0, .int 0, .int 0, .int 0, .int 0, .ref 46, .int 0, .ref 47, .int 0, .ref 48, .ref 49, .int 0, .int 0, .int 0, .int 0, .ref 50, .ref 51, .ref 52, .int 0, .int 0, .int 0, .ref 53, .ref 54, .ref 55, .ref 56, .ref 57, .int 0, .int 0, .ref 58, .ref 59, .int 0, .ref 60, .ref 61, .ref 62, .ref 63, .ref 64, .ref 65, .ref 66, .ref 67, .ref 68, .int 0, .ref 69, .ref 70]), (50, List.replicate 160 (.int 0)), (50, List.replicate 8032 (.int 0)), (50, List.replicate 504 (.int 0)), (51, List.replicate 504 (.int 0)), (50, List.replicate 125 (.int 0)), (50, List.replicate 125 (.int 0)), (50, List.replicate 100 (.int 0)), (50, List.replicate 100 (.int 0)), (50, List.replicate 400 (.int 0)), (50, List.replicate 1024 (.int 0)), (50, List.replicate 128 (.int 0)), (50, List.replicate 100 (.int 0)), (51, List.replicate 100 (.int 0)), (50, List.replicate 50 (.int 0)), (50, List.replicate 50 (.int 0)), (51, List.replicate 50 (.int 0)), (50, List.replicate 16 (.int 0)), (50, List.replicate 10 (.int 0)), (51, List.replicate 10 (.int 0)), (51, List.replicate 10 (.int 0)), (50, List.replicate 10 (.int 0)), (50, List.replicate 300 (.int 0)), (50, List.replicate 2400 (.int 0)), (50, List.replicate 100 (.int 0)), (51, List.replicate 100 (.int 0)), (50, List.replicate 64 (.int 0)), (50, List.replicate 64 (.int 0)), (50, List.replicate 128 (.int 0)), (50, List.replicate 640 (.int 0)), (50, List.replicate 640 (.int 0)), (50, List.replicate 640 (.int 0)), (50, List.replicate 16 (.int 0)), (50, List.replicate 400 (.int 0)), (51, List.replicate 100 (.int 0)), (53, [.long 0]), (99, [])]
set_option maxRecDepth 100000 in
set_option maxHeartbeats 4000000 in
theorem p1_sub1_2 (s1 s2 s3 s4 : Int32) (g0 : mn_cmp .lt s1 0 = false) (g1 : mn_cmp .ge s1 0 = true) : Ru none 2047 83978 155 (0, mn_pad (mn_ent [.ref 36, .int s1, .int s2]) 3, [], 20580, fh_sub1_1) ((0, some (.int (Int32.ofInt 0))), 20580, fh_sub1_2) := by
  refine Ru.op (q := (.aload_n 0, 1)) (by decide +kernel) rfl ?_
  refine Ru.op (q := (.iload_n 1, 1)) (by decide +kernel) rfl ?_
  refine Ru.br (k := .lt) (off := 23) (bb := false) (tg := 5) (by decide +kernel) (by decide +kernel) g0 (by decide +kernel) ?_
  refine Ru.op (q := (.iload_n 1, 1)) (by decide +kernel) rfl ?_
  refine Ru.op (q := (.aload_n 0, 1)) (by decide +kernel) rfl ?_
  refine Ru.op (q := (.getfield 263, 3)) (by decide +kernel) rfl ?_
  refine Ru.br2 (k := .ge) (off := 15) (bb := true) (tg := 25) (by decide +kernel) (by decide +kernel) g1 (by decide +kernel) ?_
  refine Ru.op (q := (.iconst 1, 1)) (by decide +kernel) rfl ?_
  refine Ru.op (q := (.goto 4, 3)) (by decide +kernel) rfl ?_
  refine Ru.op (q := (.putfield 120, 3)) (by decide +kernel) rfl ?_
  refine Ru.op (q := (.aload_n 0, 1)) (by decide +kernel) rfl ?_
  refine Ru.op (q := (.getfield 120, 3)) (by decide +kernel) rfl ?_
  refine Ru.br (k := .ne) (off := 16) (bb := true) (tg := 53) (by decide +kernel) (by decide +kernel) (by decide +kernel) (by decide +kernel) ?_
  refine Ru.op (q := (.iconst 0, 1)) (by decide +kernel) rfl ?_
  exact Ru.end (q := (.ireturn, 1)) (by decide +kernel) rfl rfl
set_option maxRecDepth 100000 in
theorem p1_sub1_3 : Ru none 2047 83980 94 (0, mn_pad (mn_ent [.ref 36]) 1, [], 20580, fh_sub1_2) ((0, some (.int 1)), 20580, fh_sub1_2) := Ru.of 5 (by decide +kernel)
set_option maxRecDepth 100000 in
set_option maxHeartbeats 4000000 in
theorem p1_sub1 {s0 s1 s2 s3 s4 : Int32} (g0 : mn_cmp .lt s1 0 = false) (g1 : mn_cmp .ge s1 0 = true) : Ru (some [s0, s1, s2, s3, s4]) 2048 84000 172 (615, [some (.retAddr 0), some (.ref 0), some (.ref 36), some (.ref 71), some (.int 0), none, none], [], 20574, fh_0) ((0, some (.int 1)), 20580, fh_sub1_2) := by
  refine Ru.op (q := (.aload_n 1, 1)) (by decide +kernel) rfl ?_
  refine Ru.op (q := (.aload_n 0, 1)) (by decide +kernel) rfl ?_
  refine Ru.op (q := (.iload 4, 2)) (by decide +kernel) rfl ?_
  refine Ru.op (q := (.iconst 1, 1)) (by decide +kernel) rfl ?_
  refine Ru.op (q := (.iadd, 1)) (by decide +kernel) rfl ?_
  refine Ru.sld (L := 5) (k := 1) (v := s1) rfl rfl (by decide +kernel) (by decide +kernel) (by decide +kernel) rfl ?_
  refine Ru.op (q := (.aload_n 0, 1)) (by decide +kernel) rfl ?_
  refine Ru.op (q := (.iload 4, 2)) (by decide +kernel) rfl ?_
  refine Ru.op (q := (.iconst 2, 1)) (by decide +kernel) rfl ?_
  refine Ru.op (q := (.iadd, 1)) (by decide +kernel) rfl ?_
  refine Ru.sld (L := 5) (k := 2) (v := s2) rfl rfl (by decide +kernel) (by decide +kernel) (by decide +kernel) rfl ?_
  refine Ru.op (q := (.aload_n 3, 1)) (by decide +kernel) rfl ?_
  refine Ru.call (q := (.invokestatic 106, 3)) (by decide +kernel) rfl rfl rfl rfl ⟨Nat.le_of_ble_eq_true rfl, Nat.le_of_ble_eq_true rfl, Nat.le_of_ble_eq_true rfl, Nat.le_of_ble_eq_true rfl⟩ (p1_sub1_1 s1 s2 s3 s4 g0 g1) ?_
  refine Ru.op (q := (.istore 5, 2)) (by decide +kernel) rfl ?_
  refine Ru.op (q := (.aload_n 2, 1)) (by decide +kernel) rfl ?_
  refine Ru.op (q := (.aload_n 0, 1)) (by decide +kernel) rfl ?_
  refine Ru.op (q := (.iload 4, 2)) (by decide +kernel) rfl ?_
  refine Ru.op (q := (.iconst 1, 1)) (by decide +kernel) rfl ?_
  refine Ru.op (q := (.iadd, 1)) (by decide +kernel) rfl ?_
  refine Ru.sld (L := 5) (k := 1) (v := s1) rfl rfl (by decide +kernel) (by decide +kernel) (by decide +kernel) rfl ?_
  refine Ru.op (q := (.aload_n 0, 1)) (by decide +kernel) rfl ?_
  refine Ru.op (q := (.iload 4, 2)) (by decide +kernel) rfl ?_
  refine Ru.op (q := (.iconst 2, 1)) (by decide +kernel) rfl ?_
  refine Ru.op (q := (.iadd, 1)) (by decide +kernel) rfl ?_
  refine Ru.sld (L := 5) (k := 2) (v := s2) rfl rfl (by decide +kernel) (by decide +kernel) (by decide +kernel) rfl ?_
  refine Ru.call (q := (.invokevirtual 108, 3)) (by decide +kernel) rfl rfl rfl rfl ⟨Nat.le_of_ble_eq_true rfl, Nat.le_of_ble_eq_true rfl, Nat.le_of_ble_eq_true rfl, Nat.le_of_ble_eq_true rfl⟩ (p1_sub1_2 s1 s2 s3 s4 g0 g1) ?_
  refine Ru.op (q := (.istore 6, 2)) (by decide +kernel) rfl ?_
  refine Ru.op (q := (.aload_n 2, 1)) (by decide +kernel) rfl ?_
  refine Ru.call (q := (.invokevirtual 68, 3)) (by decide +kernel) rfl rfl rfl rfl ⟨Nat.le_of_ble_eq_true rfl, Nat.le_of_ble_eq_true rfl, Nat.le_of_ble_eq_true rfl, Nat.le_of_ble_eq_true rfl⟩ (p1_sub1_3) ?_
  refine Ru.op (q := (.iload 5, 2)) (by decide +kernel) rfl ?_
  refine Ru.br2 (k := .eq) (off := 5) (bb := true) (tg := 663) (by decide +kernel) (by decide +kernel) (by decide +kernel) (by decide +kernel) ?_
  refine Ru.op (q := (.iload 5, 2)) (by decide +kernel) rfl ?_
  refine Ru.br (k := .ne) (off := 22) (bb := true) (tg := 687) (by decide +kernel) (by decide +kernel) (by decide +kernel) (by decide +kernel) ?_
  refine Ru.op (q := (.goto 164, 3)) (by decide +kernel) rfl ?_
  exact p1_tail rfl
def fh_clm_1 : mn_H := [(0, [.ref 1, .ref 13, .ref 28, .ref 30, .ref 35, .int 0, .int (-1)]), (1, [.ref 2, .int 0, .ref 3, .int 0, .int 0, .int 1, .ref 10, .ref 11, .int 0, .int 0, .int 0, .ref 12, .int 0]), (52, List.replicate 160 (.int 0)), (2, [.ref 4, .ref 5, .ref 6, .ref 7, .ref 8, .int 0, .ref 9, .int 0]), (50, List.replicate 160 (.int 0)), (50, List.replicate 160 (.int 0)), (50, List.replicate 160 (.int 0)), (50, List.replicate 160 (.int 0)), (50, List.replicate 160 (.int 0)), (50, List.replicate 1280 (.int 0)), (50, List.replicate 10 (.int 0)), (50, List.replicate 10 (.int 0)), (50, List.replicate 16 (.int 0)), (3, [.ref 14, .int 0, .int 0, .int 0, .int 0, .int 0, .int 0, .int (-1), .int 0, .ref 15, .ref 20, .ref 23, .ref 27]), (55, List.replicate 100 (.null)), (4, [.ref 16, .ref 19, .int 0, .int 0]), (5, [.ref 17, .ref 18, .int 0, .int 0]), (50, List.replicate 80 (.int 0)), (50, [.int 0, .int 0, .int 0, .int 0, .int 0]), (50, List.replicate 128 (.int 0)), (6, [.ref 21, .ref 22]), (50, List.replicate 32 (.int 0)), (50, List.replicate 32 (.int 0)), (7, [.ref 24, .ref 25, .ref 26]), (50, List.replicate 64 (.int 0)), (50, List.replicate 64 (.int 0)), (50, [.int 0, .int 0, .int 0, .int 0]), (51, List.replicate 100 (.int 0)), (8, [.ref 29, .int 0]), (52, List.replicate 128 (.int 0)), (4, [.ref 31, .ref 34, .int 0, .int 0]), (5, [.ref 32, .ref 33, .int 0, .int 0]), (50, List.replicate 80 (.int 0)), (50, [.int 0, .int 0, .int 0, .int 0, .int 0]), (50, List.replicate 128 (.int 0)), (54, List.replicate 24 (.null)), (10, [.int 0, .int (-1), .int 0, .ref 37, .ref 38, .ref 39, .ref 40, .ref 41, .ref 42, .int 0, .int 0, .ref 43, .ref 44, .ref 45, .int (-1), .int 0, .int 0, .int 0, .int 0, .int 0, .int 0, .ref 46, .int 0, .ref 47, .int 0, .ref 48, .ref 49, .int 0, .int 0, .int 0, .int 0, .ref 50, .ref 51, .ref 52, .int 0, .int 0, .int 0, .ref 53, .ref 54, .ref 55, .ref 56, .ref 57, .int 0, .int 0, .ref 58, .ref 59, .int 0, .ref 60, .ref 61, .ref 62, .ref 63, .ref 64, .ref 65, .ref 66, .ref 67, .ref 68, .int 0, .ref 69, .ref 70]), (50, List.replicate 160 (.int 0)), (50, List.replicate 8032 (.int 0)), (50, List.replicate 504 (.int 0)), (51, List.replicate 504 (.int 0)), (50, List.replicate 125 (.int 0)), (50, List.replicate 125 (.int 0)), (50, List.replicate 100 (.int 0)), (50, List.replicate 100 (.int 0)), (50, List.replicate 400 (.int 0)), (50, List.replicate 1024 (.int 0)), (50, List.replicate 128 (.int 0)), (50, List.replicate 100 (.int 0)), (51, List.replicate 100 (.int 0)), (50, List.replicate 50 (.int 0)), (50, List.replicate 50 (.int 0)), (51, List.replicate 50 (.int 0)), (50, List.replicate 16 (.int 0)), (50, List.replicate 10 (.int 0)), (51, List.replicate 10 (.int 0)), (51, List.replicate 10 (.int 0)), (50, List.replicate 10 (.int 0)), (50, List.replicate 300 (.int 0)), (50, List.replicate 2400 (.int 0)), (50, List.replicate 100 (.int 0)), (51, List.replicate 100 (.int 0)), (50, List.replicate 64 (.int 0)), (50, List.replicate 64 (.int 0)), (50, List.replicate 128 (.int 0)), (50, List.replicate 640 (.int 0)), (50, List.replicate 640 (.int 0)), (50, List.replicate 640 (.int 0)), (50, List.replicate 16 (.int 0)), (50, List.replicate 400 (.int 0)), (51, List.replicate 100 (.int 0)), (53, [.long 0])]
set_option maxRecDepth 100000 in
theorem p1_clm_0 : Ru none 2045 83928 87 (0, mn_pad (mn_ent [.ref 1, .ref 30]) 2, [], 20574, fh_0) ((0, some (.int 0)), 20574, fh_clm_1) := Ru.of 136 (by decide +kernel)
def fh_clm_2 : mn_H := [(0, [.ref 1, .ref 13, .ref 28, .ref 30, .ref 35, .int 0, .int 0]), (1, [.ref 2, .int 0, .ref 3, .int 0, .int 0, .int 1, .ref 10, .ref 11, .int 0, .int 0, .int 0, .ref 12, .int 0]), (52, List.replicate 160 (.int 0)), (2, [.ref 4, .ref 5, .ref 6, .ref 7, .ref 8, .int 0, .ref 9, .int 0]), (50, List.replicate 160 (.int 0)), (50, List.replicate 160 (.int 0)), (50, List.replicate 160 (.int 0)), (50, List.replicate 160 (.int 0)), (50, List.replicate 160 (.int 0)), (50, List.replicate 1280 (.int 0)), (50, List.replicate 10 (.int 0)), (50, List.replicate 10 (.int 0)), (50, List.replicate 16 (.int 0)), (3, [.ref 14, .int 0, .int 0, .int 0, .int 0, .int 0, .int 0, .int (-1), .int 0, .ref 15, .ref 20, .ref 23, .ref 27]), (55, List.replicate 100 (.null)), (4, [.ref 16, .ref 19, .int 0, .int 0]), (5, [.ref 17, .ref 18, .int 0, .int 0]), (50, List.replicate 80 (.int 0)), (50, [.int 0, .int 0, .int 0, .int 0, .int 0]), (50, List.replicate 128 (.int 0)), (6, [.ref 21, .ref 22]), (50, List.replicate 32 (.int 0)), (50, List.replicate 32 (.int 0)), (7, [.ref 24, .ref 25, .ref 26]), (50, List.replicate 64 (.int 0)), (50, List.replicate 64 (.int 0)), (50, [.int 0, .int 0, .int 0, .int 0]), (51, List.replicate 100 (.int 0)), (8, [.ref 29, .int 0]), (52, List.replicate 128 (.int 0)), (4, [.ref 31, .ref 34, .int 0, .int 0]), (5, [.ref 32, .ref 33, .int 0, .int 0]), (50, List.replicate 80 (.int 0)), (50, [.int 0, .int 0, .int 0, .int 0, .int 0]), (50, List.replicate 128 (.int 0)), (54, List.replicate 24 (.null)), (10, [.int 0, .int (-1), .int 0, .ref 37, .ref 38, .ref 39, .ref 40, .ref 41, .ref 42, .int 0, .int 0, .ref 43, .ref 44, .ref 45, .int (-1), .int 0, .int 0, .int 0, .int 0, .int 0, .int 0, .ref 46, .int 0, .ref 47, .int 0, .ref 48, .ref 49, .int 0, .int 0, .int 0, .int 0, .ref 50, .ref 51, .ref 52, .int 0, .int 0, .int 0, .ref 53, .ref 54, .ref 55, .ref 56, .ref 57, .int 0, .int 0, .ref 58, .ref 59, .int 0, .ref 60, .ref 61, .ref 62, .ref 63, .ref 64, .ref 65, .ref 66, .ref 67, .ref 68, .int 0, .ref 69, .ref 70]), (50, List.replicate 160 (.int 0)), (50, List.replicate 8032 (.int 0)), (50, List.replicate 504 (.int 0)), (51, List.replicate 504 (.int 0)), (50, List.replicate 125 (.int 0)), (50, List.replicate 125 (.int 0)), (50, List.replicate 100 (.int 0)), (50, List.replicate 100 (.int 0)), (50, List.replicate 400 (.int 0)), (50, List.replicate 1024 (.int 0)), (50, List.replicate 128 (.int 0)), (50, List.replicate 100 (.int 0)), (51, List.replicate 100 (.int 0)), (50, List.replicate 50 (.int 0)), (50, List.replicate 50 (.int 0)), (51, List.replicate 50 (.int 0)), (50, List.replicate 16 (.int 0)), (50, List.replicate 10 (.int 0)), (51, List.replicate 10 (.int 0)), (51, List.replicate 10 (.int 0)), (50, List.replicate 10 (.int 0)), (50, List.replicate 300 (.int 0)), (50, List.replicate 2400 (.int 0)), (50, List.replicate 100 (.int 0)), (51, List.replicate 100 (.int 0)), (50, List.replicate 64 (.int 0)), (50, List.replicate 64 (.int 0)), (50, List.replicate 128 (.int 0)), (50, List.replicate 640 (.int 0)), (50, List.replicate 640 (.int 0)), (50, List.replicate 640 (.int 0)), (50, List.replicate 16 (.int 0)), (50, List.replicate 400 (.int 0)), (51, List.replicate 100 (.int 0)), (53, [.long 0]), (99, [])]
set_option maxRecDepth 100000 in
set_option maxHeartbeats 4000000 in
theorem p1_clm_1 (s1 s2 s3 s4 : Int32) : Ru none 2046 83949 86 (0, mn_pad (mn_ent [.ref 0, .int s1, .int s2, .int s3, .int s4]) 6, [], 20574, fh_0) ((1, none), 20580, fh_clm_2) := by
  refine Ru.op (q := (.aload_n 0, 1)) (by decide +kernel) rfl ?_
  refine Ru.op (q := (.getfield 12, 3)) (by decide +kernel) rfl ?_
  refine Ru.op (q := (.aload_n 0, 1)) (by decide +kernel) rfl ?_
  refine Ru.op (q := (.getfield 33, 3)) (by decide +kernel) rfl ?_
  refine Ru.call (q := (.invokevirtual 166, 3)) (by decide +kernel) rfl rfl rfl rfl ⟨Nat.le_of_ble_eq_true rfl, Nat.le_of_ble_eq_true rfl, Nat.le_of_ble_eq_true rfl, Nat.le_of_ble_eq_true rfl⟩ (p1_clm_0) ?_
  refine Ru.br (k := .ne) (off := 22) (bb := false) (tg := 14) (by decide +kernel) (by decide +kernel) (by decide +kernel) (by decide +kernel) ?_
  refine Ru.op (q := (.aload_n 0, 1)) (by decide +kernel) rfl ?_
  refine Ru.op (q := (.aload_n 0, 1)) (by decide +kernel) rfl ?_
  refine Ru.op (q := (.getfield 12, 3)) (by decide +kernel) rfl ?_
  refine Ru.op (q := (.getfield 71, 3)) (by decide +kernel) rfl ?_
  refine Ru.op (q := (.putfield 43, 3)) (by decide +kernel) rfl ?_
  exact Ru.thr (q := (.new 51, 3)) (by decide +kernel) rfl rfl (by decide +kernel)
set_option maxRecDepth 100000 in
set_option maxHeartbeats 4000000 in
theorem p1_clm_2 (s1 s2 s3 s4 : Int32) : Ru none 2047 83974 170 (0, mn_pad (mn_ent [.ref 0, .int s1, .int s2, .int s3, .int s4, .ref 71]) 7, [], 20574, fh_0) ((0, some (.int (Int32.ofInt 1))), 20580, fh_clm_2) := by
  refine Ru.op (q := (.aload 5, 2)) (by decide +kernel) rfl ?_
  refine Ru.op (q := (.iconst 0, 1)) (by decide +kernel) rfl ?_
  refine Ru.op (q := (.aload_n 0, 1)) (by decide +kernel) rfl ?_
  refine Ru.op (q := (.iload_n 1, 1)) (by decide +kernel) rfl ?_
  refine Ru.op (q := (.iload_n 2, 1)) (by decide +kernel) rfl ?_
  refine Ru.op (q := (.iload_n 3, 1)) (by decide +kernel) rfl ?_
  refine Ru.op (q := (.iload 4, 2)) (by decide +kernel) rfl ?_
  refine Ru.catch (i := 49) (j2 := 86) (k := 0) (hp := 17) (by decide +kernel) rfl rfl rfl rfl ⟨Nat.le_of_ble_eq_true rfl, Nat.le_of_ble_eq_true rfl, Nat.le_of_ble_eq_true rfl, Nat.le_of_ble_eq_true rfl⟩ (by decide +kernel) (p1_clm_1 s1 s2 s3 s4) ?_
  refine Ru.op (q := (.astore 6, 2)) (by decide +kernel) rfl ?_
  refine Ru.op (q := (.iconst 1, 1)) (by decide +kernel) rfl ?_
  exact Ru.end (q := (.ireturn, 1)) (by decide +kernel) rfl rfl
def fh_clm_3 : mn_H := [(0, [.ref 1, .ref 13, .ref 28, .ref 30, .ref 35, .int 0, .int 0]), (1, [.ref 2, .int 0, .ref 3, .int 0, .int 0, .int 1, .ref 10, .ref 11, .int 0, .int 0, .int 0, .ref 12, .int 0]), (52, List.replicate 160 (.int 0)), (2, [.ref 4, .ref 5, .ref 6, .ref 7, .ref 8, .int 0, .ref 9, .int 0]), (50, List.replicate 160 (.int 0)), (50, List.replicate 160 (.int 0)), (50, List.replicate 160 (.int 0)), (50, List.replicate 160 (.int 0)), (50, List.replicate 160 (.int 0)), (50, List.replicate 1280 (.int 0)), (50, List.replicate 10 (.int 0)), (50, List.replicate 10 (.int 0)), (50, List.replicate 16 (.int 0)), (3, [.ref 14, .int 0, .int 0, .int 0, .int 0, .int 0, .int 0, .int (-1), .int 0, .ref 15, .ref 20, .ref 23, .ref 27]), (55, List.replicate 100 (.null)), (4, [.ref 16, .ref 19, .int 0, .int 0]), (5, [.ref 17, .ref 18, .int 0, .int 0]), (50, List.replicate 80 (.int 0)), (50, [.int 0, .int 0, .int 0, .int 0, .int 0]), (50, List.replicate 128 (.int 0)), (6, [.ref 21, .ref 22]), (50, List.replicate 32 (.int 0)), (50, List.replicate 32 (.int 0)), (7, [.ref 24, .ref 25, .ref 26]), (50, List.replicate 64 (.int 0)), (50, List.replicate 64 (.int 0)), (50, [.int 0, .int 0, .int 0, .int 0]), (51, List.replicate 100 (.int 0)), (8, [.ref 29, .int 0]), (52, List.replicate 128 (.int 0)), (4, [.ref 31, .ref 34, .int 0, .int 0]), (5, [.ref 32, .ref 33, .int 0, .int 0]), (50, List.replicate 80 (.int 0)), (50, [.int 0, .int 0, .int 0, .int 0, .int 0]), (50, List.replicate 128 (.int 0)), (54, List.replicate 24 (.null)), (10, [.int 0, .int (-1), .int 0, .ref 37, .ref 38, .ref 39, .ref 40, .ref 41, .ref 42, .int 0, .int 0, .ref 43, .ref 44, .ref 45, .int (-1), .int 0, .int 0, .int 0, .int 0, .int 0, .int 0, .ref 46, .int 0, .ref 47, .int 0, .ref 48, .ref 49, .int 0, .int 0, .int 0, .int 0, .ref 50, .ref 51, .ref 52, .int 0, .int 0, .int 0, .ref 53, .ref 54, .ref 55, .ref 56, .ref 57, .int 0, .int 0, .ref 58, .ref 59, .int 0, .ref 60, .ref 61, .ref 62, .ref 63, .ref 64, .ref 65, .ref 66, .ref 67, .ref 68, .int 0, .ref 69, .ref 70]), (50, List.replicate 160 (.int 0)), (50, List.replicate 8032 (.int 0)), (50, List.replicate 504 (.int 0)), (51, List.replicate 504 (.int 0)), (50, List.replicate 125 (.int 0)), (50, List.replicate 125 (.int 0)), (50, List.replicate 100 (.int 0)), (50, List.replicate 100 (.int 0)), (50, List.replicate 400 (.int 0)), (50, List.replicate 1024 (.int 0)), (50, List.replicate 128 (.int (-1))), (50, List.replicate 100 (.int 0)), (51, List.replicate 100 (.int 0)), (50, List.replicate 50 (.int 0)), (50, List.replicate 50 (.int 0)), (51, List.replicate 50 (.int 0)), (50, List.replicate 16 (.int 0)), (50, List.replicate 10 (.int 0)), (51, List.replicate 10 (.int 0)), (51, List.replicate 10 (.int 0)), (50, List.replicate 10 (.int 0)), (50, List.replicate 300 (.int 0)), (50, List.replicate 2400 (.int 0)), (50, List.replicate 100 (.int 0)), (51, List.replicate 100 (.int 0)), (50, List.replicate 64 (.int 0)), (50, List.replicate 64 (.int 0)), (50, List.replicate 128 (.int 0)), (50, List.replicate 640 (.int 0)), (50, List.replicate 640 (.int 0)), (50, List.replicate 640 (.int 0)), (50, List.replicate 16 (.int 0)), (50, List.replicate 400 (.int 0)), (51, List.replicate 100 (.int 0)), (53, [.long 0]), (99, [])]
set_option maxRecDepth 100000 in
theorem p1_clm_3 : Ru none 2046 83954 99 (0, mn_pad (mn_ent [.ref 36]) 1, [], 20580, fh_clm_2) ((0, none), 20580, fh_clm_3) := Ru.of 1322 (by decide +kernel)
def fh_clm_4 : mn_H := [(0, [.ref 1, .ref 13, .ref 28, .ref 30, .ref 35, .int 0, .int 0]), (1, [.ref 2, .int 0, .ref 3, .int 0, .int 0, .int 1, .ref 10, .ref 11, .int 0, .int 0, .int 0, .ref 12, .int 0]), (52, List.replicate 160 (.int 0)), (2, [.ref 4, .ref 5, .ref 6, .ref 7, .ref 8, .int 0, .ref 9, .int 0]), (50, List.replicate 160 (.int 0)), (50, List.replicate 160 (.int 0)), (50, List.replicate 160 (.int 0)), (50, List.replicate 160 (.int 0)), (50, List.replicate 160 (.int 0)), (50, List.replicate 1280 (.int 0)), (50, List.replicate 10 (.int 0)), (50, List.replicate 10 (.int 0)), (50, List.replicate 16 (.int 0)), (3, [.ref 14, .int 0, .int 0, .int 0, .int 0, .int 0, .int 0, .int (-1), .int 0, .ref 15, .ref 20, .ref 23, .ref 27]), (55, List.replicate 100 (.null)), (4, [.ref 16, .ref 19, .int 0, .int 0]), (5, [.ref 17, .ref 18, .int 0, .int 0]), (50, List.replicate 80 (.int 0)), (50, [.int 0, .int 0, .int 0, .int 0, .int 0]), (50, List.replicate 128 (.int 0)), (6, [.ref 21, .ref 22]), (50, List.replicate 32 (.int 0)), (50, List.replicate 32 (.int 0)), (7, [.ref 24, .ref 25, .ref 26]), (50, List.replicate 64 (.int 0)), (50, List.replicate 64 (.int 0)), (50, [.int 0, .int 0, .int 0, .int 0]), (51, List.replicate 100 (.int 0)), (8, [.ref 29, .int 0]), (52, List.replicate 128 (.int 0)), (4, [.ref 31, .ref 34, .int 0, .int 0]), (5, [.ref 32, .ref 33, .int 0, .int 0]), (50, List.replicate 80 (.int 0)), (50, [.int 0, .int 0, .int 0, .int 0, .int 0]), (50, List.replicate 128 (.int 0)), (54, List.replicate 24 (.null)), (10, [.int 0, .int (-1), .int 0, .ref 37, .ref 38, .ref 39, .ref 40, .ref 41, .ref 42, .int 0, .int 0, .ref 43, .ref 44, .ref 45, .int (-1), .int 0, .int 0, .int 0, .int 0, .int 0, .int 0, .ref 46, .int 0, .ref 47, .int 0, .ref 48, .ref 49, .int 0, .int 0, .int 1, .int 0, .ref 50, .ref 51, .ref 52, .int 0, .int 0, .int 0, .ref 53, .ref 54, .ref 55, .ref 56, .ref 57, .int 0, .int 0, .ref 58, .ref 59, .int 0, .ref 60, .ref 61, .ref 62, .ref 63, .ref 64, .ref 65, .ref 66, .ref 67, .ref 68, .int 0, .ref 69, .ref 70]), (50, List.replicate 160 (.int 0)), (50, List.replicate 8032 (.int 0)), (50, List.replicate 504 (.int 0)), (51, List.replicate 504 (.int 0)), (50, List.replicate 125 (.int 0)), (50, List.replicate 125 (.int 0)), (50, List.replicate 100 (.int 0)), (50, List.replicate 100 (.int 0)), (50, List.replicate 400 (.int 0)), (50, List.replicate 1024 (.int 0)), (50, List.replicate 128 (.int (-1))), (50, List.replicate 100 (.int 0)), (51, List.replicate 100 (.int 0)), (50, List.replicate 50 (.int 0)), (50, List.replicate 50 (.int 0)), (51, List.replicate 50 (.int 0)), (50, List.replicate 16 (.int 0)), (50, List.replicate 10 (.int 0)), (51, List.replicate 10 (.int 0)), (51, List.replicate 10 (.int 0)), (50, List.replicate 10 (.int 0)), (50, List.replicate 300 (.int 0)), (50, List.replicate 2400 (.int 0)), (50, List.replicate 100 (.int 0)), (51, List.replicate 100 (.int 0)), (50, List.replicate 64 (.int 0)), (50, List.replicate 64 (.int 0)), (50, List.replicate 128 (.int 0)), (50, List.replicate 640 (.int 0)), (50, List.replicate 640 (.int 0)), (50, List.replicate 640 (.int 0)), (50, List.replicate 16 (.int 0)), (50, List.replicate 400 (.int 0)), (51, List.replicate 100 (.int 0)), (53, [.long 0]), (99, [])]
set_option maxRecDepth 100000 in
theorem p1_clm_4 : Ru none 2046 83954 102 (0, mn_pad (mn_ent [.ref 36]) 1, [], 20580, fh_clm_4) ((0, some (.int 0)), 20580, fh_clm_4) := Ru.of 9 (by decide +kernel)
set_option maxRecDepth 100000 in
theorem p1_clm_5 : Ru none 2046 83954 102 (0, mn_pad (mn_ent [.ref 36]) 1, [], 20580, fh_clm_4) ((0, some (.int 0)), 20580, fh_clm_4) := Ru.of 9 (by decide +kernel)
def fh_clm_5 : mn_H := [(0, [.ref 1, .ref 13, .ref 28, .ref 30, .ref 35, .int 0, .int 0]), (1, [.ref 2, .int 0, .ref 3, .int 0, .int 0, .int 1, .ref 10, .ref 11, .int 0, .int 0, .int 0, .ref 12, .int 0]), (52, List.replicate 160 (.int 0)), (2, [.ref 4, .ref 5, .ref 6, .ref 7, .ref 8, .int 0, .ref 9, .int 0]), (50, List.replicate 160 (.int 0)), (50, List.replicate 160 (.int 0)), (50, List.replicate 160 (.int 0)), (50, List.replicate 160 (.int 0)), (50, List.replicate 160 (.int 0)), (50, List.replicate 1280 (.int 0)), (50, List.replicate 10 (.int 0)), (50, List.replicate 10 (.int 0)), (50, List.replicate 16 (.int 0)), (3, [.ref 14, .int 0, .int 0, .int 0, .int 0, .int 0, .int 0, .int (-1), .int 0, .ref 15, .ref 20, .ref 23, .ref 27]), (55, List.replicate 100 (.null)), (4, [.ref 16, .ref 19, .int 0, .int 0]), (5, [.ref 17, .ref 18, .int 0, .int 0]), (50, List.replicate 80 (.int 0)), (50, [.int 0, .int 0, .int 0, .int 0, .int 0]), (50, List.replicate 128 (.int 0)), (6, [.ref 21, .ref 22]), (50, List.replicate 32 (.int 0)), (50, List.replicate 32 (.int 0)), (7, [.ref 24, .ref 25, .ref 26]), (50, List.replicate 64 (.int 0)), (50, List.replicate 64 (.int 0)), (50, [.int 0, .int 0, .int 0, .int 0]), (51, List.replicate 100 (.int 0)), (8, [.ref 29, .int 0]), (52, List.replicate 128 (.int 0)), (4, [.ref 31, .ref 34, .int 0, .int 0]), (5, [.ref 32, .ref 33, .int 0, .int 0]), (50, List.replicate 80 (.int 0)), (50, [.int 0, .int 0, .int 0, .int 0, .int 0]), (50, List.replicate 128 (.int 0)), (54, List.replicate 24 (.null)), (10, [.int 0, .int (-1), .int 0, .ref 37, .ref 38, .ref 39, .ref 40, .ref 41, .ref 42, .int 0, .int 0, .ref 43, .ref 44, .ref 45, .int (-1), .int 0, .int 0, .int 0, .int 0, .int 0, .int 0, .ref 46, .int 0, .ref 47, .int 0, .ref 48, .ref 49, .int 0, .int 1, .int 1, .int 0, .ref 50, .ref 51, .ref 52, .int 0, .int 0, .int 0, .ref 53, .ref 54, .ref 55, .ref 56, .ref 57, .int 0, .int 0, .ref 58, .ref 59, .int 0, .ref 60, .ref 61, .ref 62, .ref 63, .ref 64, .ref 65, .ref 66, .ref 67, .ref 68, .int 0, .ref 69, .ref 70]), (50, List.replicate 160 (.int 0)), (50, List.replicate 8032 (.int 0)), (50, List.replicate 504 (.int 0)), (51, List.replicate 504 (.int 0)), (50, List.replicate 125 (.int 0)), (50, List.replicate 125 (.int 0)), (50, List.replicate 100 (.int 0)), (50, List.replicate 100 (.int 0)), (50, List.replicate 400 (.int 0)), (50, List.replicate 1024 (.int 0)), (50, List.replicate 128 (.int (-1))), (50, List.replicate 100 (.int 0)), (51, List.replicate 100 (.int 0)), (50, List.replicate 50 (.int 0)), (50, List.replicate 50 (.int 0)), (51, List.replicate 50 (.int 0)), (50, List.replicate 16 (.int 0)), (50, List.replicate 10 (.int 0)), (51, List.replicate 10 (.int 0)), (51, List.replicate 10 (.int 0)), (50, List.replicate 10 (.int 0)), (50, List.replicate 300 (.int 0)), (50, List.replicate 2400 (.int 0)), (50, List.replicate 100 (.int 0)), (51, List.replicate 100 (.int 0)), (50, List.replicate 64 (.int 0)), (50, List.replicate 64 (.int 0)), (50, List.replicate 128 (.int 0)), (50, List.replicate 640 (.int 0)), (50, List.replicate 640 (.int 0)), (50, List.replicate 640 (.int 0)), (50, List.replicate 16 (.int 0)), (50, List.replicate 400 (.int 0)), (51, List.replicate 100 (.int 0)), (53, [.long 0]), (99, [])]
set_option maxRecDepth 100000 in
theorem p1_clm_6 : Ru none 2046 83953 103 (0, mn_pad (mn_ent [.ref 36, .int 0]) 2, [], 20580, fh_clm_4) ((0, none), 20580, fh_clm_5) := Ru.of 24 (by decide +kernel)
def fh_clm_6 : mn_H := [(0, [.ref 1, .ref 13, .ref 28, .ref 30, .ref 35, .int 0, .int 0]), (1, [.ref 2, .int 0, .ref 3, .int 0, .int 0, .int 1, .ref 10, .ref 11, .int 0, .int 0, .int 0, .ref 12, .int 0]), (52, List.replicate 160 (.int 0)), (2, [.ref 4, .ref 5, .ref 6, .ref 7, .ref 8, .int 0, .ref 9, .int 0]), (50, List.replicate 160 (.int 0)), (50, List.replicate 160 (.int 0)), (50, List.replicate 160 (.int 0)), (50, List.replicate 160 (.int 0)), (50, List.replicate 160 (.int 0)), (50, List.replicate 1280 (.int 0)), (50, List.replicate 10 (.int 0)), (50, List.replicate 10 (.int 0)), (50, List.replicate 16 (.int 0)), (3, [.ref 14, .int 0, .int 0, .int 0, .int 0, .int 0, .int 0, .int (-1), .int 0, .ref 15, .ref 20, .ref 23, .ref 27]), (55, List.replicate 100 (.null)), (4, [.ref 16, .ref 19, .int 0, .int 0]), (5, [.ref 17, .ref 18, .int 0, .int 0]), (50, List.replicate 80 (.int 0)), (50, [.int 0, .int 0, .int 0, .int 0, .int 0]), (50, List.replicate 128 (.int 0)), (6, [.ref 21, .ref 22]), (50, List.replicate 32 (.int 0)), (50, List.replicate 32 (.int 0)), (7, [.ref 24, .ref 25, .ref 26]), (50, List.replicate 64 (.int 0)), (50, List.replicate 64 (.int 0)), (50, [.int 0, .int 0, .int 0, .int 0]), (51, List.replicate 100 (.int 0)), (8, [.ref 29, .int 0]), (52, List.replicate 128 (.int 0)), (4, [.ref 31, .ref 34, .int 0, .int 0]), (5, [.ref 32, .ref 33, .int 0, .int 0]), (50, List.replicate 80 (.int 0)), (50, [.int 0, .int 0, .int 0, .int 0, .int 0]), (50, List.replicate 128 (.int 0)), (54, List.replicate 24 (.null)), (10, [.int 1, .int 0, .int 0, .ref 37, .ref 38, .ref 39, .ref 40, .ref 41, .ref 42, .int 0, .int 0, .ref 43, .ref 44, .ref 45, .int (-1), .int 0, .int 0, .int 0, .int 0, .int 0, .int 0, .ref 46, .int 0, .ref 47, .int 0, .ref 48, .ref 49, .int 0, .int 1, .int 1, .int 0, .ref 50, .ref 51, .ref 52, .int 0, .int 0, .int 0, .ref 53, .ref 54, .ref 55, .ref 56, .ref 57, .int 0, .int 0, .ref 58, .ref 59, .int 0, .ref 60, .ref 61, .ref 62, .ref 63, .ref 64, .ref 65, .ref 66, .ref 67, .ref 68, .int 0, .ref 69, .ref 70]), (50, List.replicate 160 (.int 0)), (50, List.replicate 8032 (.int 0)), (50, List.replicate 504 (.int 0)), (51, List.replicate 504 (.int 0)), (50, List.replicate 125 (.int 0)), (50, List.replicate 125 (.int 0)), (50, List.replicate 100 (.int 0)), (50, List.replicate 100 (.int 0)), (50, List.replicate 400 (.int 0)), (50, List.replicate 1024 (.int 0)), (50, List.replicate 128 (.int (-1))), (50, List.replicate 100 (.int 0)), (51, List.replicate 100 (.int 0)), (50, List.replicate 50 (.int 0)), (50, List.replicate 50 (.int 0)), (51, List.replicate 50 (.int 0)), (50, List.replicate 16 (.int 0)), (50, List.replicate 10 (.int 0)), (51, List.replicate 10 (.int 0)), (51, List.replicate 10 (.int 0)), (50, List.replicate 10 (.int 0)), (50, List.replicate 300 (.int 0)), (50, List.replicate 2400 (.int 0)), (50, List.replicate 100 (.int 0)), (51, List.replicate 100 (.int 0)), (50, List.replicate 64 (.int 0)), (50, List.replicate 64 (.int 0)), (50, List.replicate 128 (.int 0)), (50, List.replicate 640 (.int 0)), (50, List.replicate 640 (.int 0)), (50, List.replicate 640 (.int 0)), (50, List.replicate 16 (.int 0)), (50, List.replicate 400 (.int 0)), (51, List.replicate 100 (.int 0)), (53, [.long 0]), (99, [])]
set_option maxRecDepth 100000 in
set_option maxHeartbeats 4000000 in
theorem p1_clm_7 (s1 s2 s3 s4 : Int32) : Ru none 2047 83974 158 (0, mn_pad (mn_ent [.ref 36, .int s1, .int s2, .int s3, .int s4]) 7, [], 20580, fh_clm_2) ((0, some (.int (Int32.ofInt 0))), 20580, fh_clm_6) := by
  refine Ru.op (q := (.aload_n 0, 1)) (by decide +kernel) rfl ?_
  refine Ru.call (q := (.invokevirtual 294, 3)) (by decide +kernel) rfl rfl rfl rfl ⟨Nat.le_of_ble_eq_true rfl, Nat.le_of_ble_eq_true rfl, Nat.le_of_ble_eq_true rfl, Nat.le_of_ble_eq_true rfl⟩ (p1_clm_3) ?_
  refine Ru.op (q := (.aload_n 0, 1)) (by decide +kernel) rfl ?_
  refine Ru.op (q := (.iconst 1, 1)) (by decide +kernel) rfl ?_
  refine Ru.op (q := (.putfield 167, 3)) (by decide +kernel) rfl ?_
  refine Ru.op (q := (.aload_n 0, 1)) (by decide +kernel) rfl ?_
  refine Ru.call (q := (.invokevirtual 143, 3)) (by decide +kernel) rfl rfl rfl rfl ⟨Nat.le_of_ble_eq_true rfl, Nat.le_of_ble_eq_true rfl, Nat.le_of_ble_eq_true rfl, Nat.le_of_ble_eq_true rfl⟩ (p1_clm_4) ?_
  refine Ru.op (q := (.bipush 48, 2)) (by decide +kernel) rfl ?_
  refine Ru.br2 (k := .ne) (off := 16) (bb := true) (tg := 31) (by decide +kernel) (by decide +kernel) (by decide +kernel) (by decide +kernel) ?_
  refine Ru.op (q := (.iconst 1, 1)) (by decide +kernel) rfl ?_
  refine Ru.op (q := (.istore 5, 2)) (by decide +kernel) rfl ?_
  refine Ru.op (q := (.iload 5, 2)) (by decide +kernel) rfl ?_
  refine Ru.br (k := .eq) (off := 95) (bb := false) (tg := 39) (by decide +kernel) (by decide +kernel) (by decide +kernel) (by decide +kernel) ?_
  refine Ru.op (q := (.aload_n 0, 1)) (by decide +kernel) rfl ?_
  refine Ru.call (q := (.invokevirtual 143, 3)) (by decide +kernel) rfl rfl rfl rfl ⟨Nat.le_of_ble_eq_true rfl, Nat.le_of_ble_eq_true rfl, Nat.le_of_ble_eq_true rfl, Nat.le_of_ble_eq_true rfl⟩ (p1_clm_5) ?_
  refine Ru.op (q := (.bipush 126, 2)) (by decide +kernel) rfl ?_
  refine Ru.br2 (k := .ne) (off := 7) (bb := true) (tg := 52) (by decide +kernel) (by decide +kernel) (by decide +kernel) (by decide +kernel) ?_
  refine Ru.op (q := (.iconst 0, 1)) (by decide +kernel) rfl ?_
  refine Ru.op (q := (.istore 6, 2)) (by decide +kernel) rfl ?_
  refine Ru.op (q := (.aload_n 0, 1)) (by decide +kernel) rfl ?_
  refine Ru.op (q := (.iload 6, 2)) (by decide +kernel) rfl ?_
  refine Ru.br (k := .eq) (off := 12) (bb := true) (tg := 70) (by decide +kernel) (by decide +kernel) (by decide +kernel) (by decide +kernel) ?_
  refine Ru.op (q := (.aload_n 0, 1)) (by decide +kernel) rfl ?_
  refine Ru.op (q := (.getfield 140, 3)) (by decide +kernel) rfl ?_
  refine Ru.op (q := (.putfield 140, 3)) (by decide +kernel) rfl ?_
  refine Ru.op (q := (.aload_n 0, 1)) (by decide +kernel) rfl ?_
  refine Ru.op (q := (.iload 6, 2)) (by decide +kernel) rfl ?_
  refine Ru.call (q := (.invokevirtual 207, 3)) (by decide +kernel) rfl rfl rfl rfl ⟨Nat.le_of_ble_eq_true rfl, Nat.le_of_ble_eq_true rfl, Nat.le_of_ble_eq_true rfl, Nat.le_of_ble_eq_true rfl⟩ (p1_clm_6) ?_
  refine Ru.op (q := (.aload_n 0, 1)) (by decide +kernel) rfl ?_
  refine Ru.op (q := (.getfield 151, 3)) (by decide +kernel) rfl ?_
  refine Ru.br (k := .ne) (off := 16) (bb := true) (tg := 103) (by decide +kernel) (by decide +kernel) (by decide +kernel) (by decide +kernel) ?_
  refine Ru.op (q := (.iconst 0, 1)) (by decide +kernel) rfl ?_
  refine Ru.op (q := (.istore 5, 2)) (by decide +kernel) rfl ?_
  refine Ru.op (q := (.aload_n 0, 1)) (by decide +kernel) rfl ?_
  refine Ru.op (q := (.iload 5, 2)) (by decide +kernel) rfl ?_
  refine Ru.br (k := .eq) (off := 12) (bb := true) (tg := 121) (by decide +kernel) (by decide +kernel) (by decide +kernel) (by decide +kernel) ?_
  refine Ru.op (q := (.aload_n 0, 1)) (by decide +kernel) rfl ?_
  refine Ru.op (q := (.getfield 140, 3)) (by decide +kernel) rfl ?_
  refine Ru.op (q := (.putfield 140, 3)) (by decide +kernel) rfl ?_
  refine Ru.op (q := (.goto (-94), 3)) (by decide +kernel) rfl ?_
  refine Ru.op (q := (.iload 5, 2)) (by decide +kernel) rfl ?_
  refine Ru.br (k := .eq) (off := 95) (bb := true) (tg := 131) (by decide +kernel) (by decide +kernel) (by decide +kernel) (by decide +kernel) ?_
  refine Ru.op (q := (.aload_n 0, 1)) (by decide +kernel) rfl ?_
  refine Ru.op (q := (.aload_n 0, 1)) (by decide +kernel) rfl ?_
  refine Ru.op (q := (.getfield 151, 3)) (by decide +kernel) rfl ?_
  refine Ru.br (k := .ne) (off := 14) (bb := true) (tg := 150) (by decide +kernel) (by decide +kernel) (by decide +kernel) (by decide +kernel) ?_
  refine Ru.op (q := (.iconst 1, 1)) (by decide +kernel) rfl ?_
  refine Ru.op (q := (.goto 4, 3)) (by decide +kernel) rfl ?_
  refine Ru.op (q := (.putfield 151, 3)) (by decide +kernel) rfl ?_
  refine Ru.op (q := (.aload_n 0, 1)) (by decide +kernel) rfl ?_
  refine Ru.op (q := (.aload_n 0, 1)) (by decide +kernel) rfl ?_
  refine Ru.op (q := (.getfield 151, 3)) (by decide +kernel) rfl ?_
  refine Ru.br (k := .eq) (off := 7) (bb := false) (tg := 166) (by decide +kernel) (by decide +kernel) (by decide +kernel) (by decide +kernel) ?_
  refine Ru.op (q := (.iconst 1, 1)) (by decide +kernel) rfl ?_
  refine Ru.op (q := (.goto 20, 3)) (by decide +kernel) rfl ?_
  refine Ru.op (q := (.putfield 120, 3)) (by decide +kernel) rfl ?_
  refine Ru.op (q := (.aload_n 0, 1)) (by decide +kernel) rfl ?_
  refine Ru.op (q := (.aload_n 0, 1)) (by decide +kernel) rfl ?_
  refine Ru.op (q := (.getfield 151, 3)) (by decide +kernel) rfl ?_
  refine Ru.br (k := .eq) (off := 10) (bb := false) (tg := 198) (by decide +kernel) (by decide +kernel) (by decide +kernel) (by decide +kernel) ?_
  refine Ru.op (q := (.aload_n 0, 1)) (by decide +kernel) rfl ?_
  refine Ru.op (q := (.getfield 140, 3)) (by decide +kernel) rfl ?_
  refine Ru.op (q := (.goto 7, 3)) (by decide +kernel) rfl ?_
  refine Ru.op (q := (.putfield 9, 3)) (by decide +kernel) rfl ?_
  refine Ru.op (q := (.aload_n 0, 1)) (by decide +kernel) rfl ?_
  refine Ru.op (q := (.aload_n 0, 1)) (by decide +kernel) rfl ?_
  refine Ru.op (q := (.getfield 186, 3)) (by decide +kernel) rfl ?_
  refine Ru.op (q := (.putfield 246, 3)) (by decide +kernel) rfl ?_
  refine Ru.op (q := (.iconst 0, 1)) (by decide +kernel) rfl ?_
  refine Ru.op (q := (.istore 5, 2)) (by decide +kernel) rfl ?_
  refine Ru.op (q := (.iload 5, 2)) (by decide +kernel) rfl ?_
  refine Ru.op (q := (.aload_n 0, 1)) (by decide +kernel) rfl ?_
  refine Ru.op (q := (.getfield 186, 3)) (by decide +kernel) rfl ?_
  refine Ru.br2 (k := .ge) (off := 37) (bb := true) (tg := 266) (by decide +kernel) (by decide +kernel) (by decide +kernel) (by decide +kernel) ?_
  refine Ru.op (q := (.aload_n 0, 1)) (by decide +kernel) rfl ?_
  refine Ru.op (q := (.getfield 120, 3)) (by decide +kernel) rfl ?_
  refine Ru.br (k := .ne) (off := 36) (bb := true) (tg := 306) (by decide +kernel) (by decide +kernel) (by decide +kernel) (by decide +kernel) ?_
  refine Ru.op (q := (.aload_n 0, 1)) (by decide +kernel) rfl ?_
  refine Ru.op (q := (.getfield 120, 3)) (by decide +kernel) rfl ?_
  refine Ru.br (k := .le) (off := 5) (bb := false) (tg := 313) (by decide +kernel) (by decide +kernel) (by decide +kernel) (by decide +kernel) ?_
  refine Ru.op (q := (.iconst 0, 1)) (by decide +kernel) rfl ?_
  exact Ru.end (q := (.ireturn, 1)) (by decide +kernel) rfl rfl
set_option maxRecDepth 100000 in
theorem p1_clm_8 : Ru none 2047 83980 94 (0, mn_pad (mn_ent [.ref 36]) 1, [], 20580, fh_clm_6) ((0, some (.int 1)), 20580, fh_clm_6) := Ru.of 5 (by decide +kernel)
set_option maxRecDepth 100000 in
set_option maxHeartbeats 4000000 in
theorem p1_clm {s0 s1 s2 s3 s4 : Int32} : Ru (some [s0, s1, s2, s3, s4]) 2048 84000 172 (703, [some (.retAddr 0), some (.ref 0), some (.ref 36), some (.ref 71), some (.int 0), none, none], [], 20574, fh_0) ((0, some (.int 1)), 20580, fh_clm_6) := by
  refine Ru.op (q := (.aload_n 1, 1)) (by decide +kernel) rfl ?_
  refine Ru.op (q := (.aload_n 0, 1)) (by decide +kernel) rfl ?_
  refine Ru.op (q := (.iload 4, 2)) (by decide +kernel) rfl ?_
  refine Ru.op (q := (.iconst 1, 1)) (by decide +kernel) rfl ?_
  refine Ru.op (q := (.iadd, 1)) (by decide +kernel) rfl ?_
  refine Ru.sld (L := 5) (k := 1) (v := s1) rfl rfl (by decide +kernel) (by decide +kernel) (by decide +kernel) rfl ?_
  refine Ru.op (q := (.aload_n 0, 1)) (by decide +kernel) rfl ?_
  refine Ru.op (q := (.iload 4, 2)) (by decide +kernel) rfl ?_
  refine Ru.op (q := (.iconst 2, 1)) (by decide +kernel) rfl ?_
  refine Ru.op (q := (.iadd, 1)) (by decide +kernel) rfl ?_
  refine Ru.sld (L := 5) (k := 2) (v := s2) rfl rfl (by decide +kernel) (by decide +kernel) (by decide +kernel) rfl ?_
  refine Ru.op (q := (.aload_n 0, 1)) (by decide +kernel) rfl ?_
  refine Ru.op (q := (.iload 4, 2)) (by decide +kernel) rfl ?_
  refine Ru.op (q := (.iconst 3, 1)) (by decide +kernel) rfl ?_
  refine Ru.op (q := (.iadd, 1)) (by decide +kernel) rfl ?_
  refine Ru.sld (L := 5) (k := 3) (v := s3) rfl rfl (by decide +kernel) (by decide +kernel) (by decide +kernel) rfl ?_
  refine Ru.op (q := (.aload_n 0, 1)) (by decide +kernel) rfl ?_
  refine Ru.op (q := (.iload 4, 2)) (by decide +kernel) rfl ?_
  refine Ru.op (q := (.iconst 4, 1)) (by decide +kernel) rfl ?_
  refine Ru.op (q := (.iadd, 1)) (by decide +kernel) rfl ?_
  refine Ru.sld (L := 5) (k := 4) (v := s4) rfl rfl (by decide +kernel) (by decide +kernel) (by decide +kernel) rfl ?_
  refine Ru.op (q := (.aload_n 3, 1)) (by decide +kernel) rfl ?_
  refine Ru.call (q := (.invokestatic 113, 3)) (by decide +kernel) rfl rfl rfl rfl ⟨Nat.le_of_ble_eq_true rfl, Nat.le_of_ble_eq_true rfl, Nat.le_of_ble_eq_true rfl, Nat.le_of_ble_eq_true rfl⟩ (p1_clm_2 s1 s2 s3 s4) ?_
  refine Ru.op (q := (.istore 5, 2)) (by decide +kernel) rfl ?_
  refine Ru.op (q := (.aload_n 2, 1)) (by decide +kernel) rfl ?_
  refine Ru.op (q := (.aload_n 0, 1)) (by decide +kernel) rfl ?_
  refine Ru.op (q := (.iload 4, 2)) (by decide +kernel) rfl ?_
  refine Ru.op (q := (.iconst 1, 1)) (by decide +kernel) rfl ?_
  refine Ru.op (q := (.iadd, 1)) (by decide +kernel) rfl ?_
  refine Ru.sld (L := 5) (k := 1) (v := s1) rfl rfl (by decide +kernel) (by decide +kernel) (by decide +kernel) rfl ?_
  refine Ru.op (q := (.aload_n 0, 1)) (by decide +kernel) rfl ?_
  refine Ru.op (q := (.iload 4, 2)) (by decide +kernel) rfl ?_
  refine Ru.op (q := (.iconst 2, 1)) (by decide +kernel) rfl ?_
  refine Ru.op (q := (.iadd, 1)) (by decide +kernel) rfl ?_
  refine Ru.sld (L := 5) (k := 2) (v := s2) rfl rfl (by decide +kernel) (by decide +kernel) (by decide +kernel) rfl ?_
  refine Ru.op (q := (.aload_n 0, 1)) (by decide +kernel) rfl ?_
  refine Ru.op (q := (.iload 4, 2)) (by decide +kernel) rfl ?_
  refine Ru.op (q := (.iconst 3, 1)) (by decide +kernel) rfl ?_
  refine Ru.op (q := (.iadd, 1)) (by decide +kernel) rfl ?_
  refine Ru.sld (L := 5) (k := 3) (v := s3) rfl rfl (by decide +kernel) (by decide +kernel) (by decide +kernel) rfl ?_
  refine Ru.op (q := (.aload_n 0, 1)) (by decide +kernel) rfl ?_
  refine Ru.op (q := (.iload 4, 2)) (by decide +kernel) rfl ?_
  refine Ru.op (q := (.iconst 4, 1)) (by decide +kernel) rfl ?_
  refine Ru.op (q := (.iadd, 1)) (by decide +kernel) rfl ?_
  refine Ru.sld (L := 5) (k := 4) (v := s4) rfl rfl (by decide +kernel) (by decide +kernel) (by decide +kernel) rfl ?_
  refine Ru.call (q := (.invokevirtual 116, 3)) (by decide +kernel) rfl rfl rfl rfl ⟨Nat.le_of_ble_eq_true rfl, Nat.le_of_ble_eq_true rfl, Nat.le_of_ble_eq_true rfl, Nat.le_of_ble_eq_true rfl⟩ (p1_clm_7 s1 s2 s3 s4) ?_
  refine Ru.op (q := (.istore 6, 2)) (by decide +kernel) rfl ?_
  refine Ru.op (q := (.aload_n 2, 1)) (by decide +kernel) rfl ?_
  refine Ru.call (q := (.invokevirtual 68, 3)) (by decide +kernel) rfl rfl rfl rfl ⟨Nat.le_of_ble_eq_true rfl, Nat.le_of_ble_eq_true rfl, Nat.le_of_ble_eq_true rfl, Nat.le_of_ble_eq_true rfl⟩ (p1_clm_8) ?_
  refine Ru.op (q := (.iload 5, 2)) (by decide +kernel) rfl ?_
  refine Ru.br2 (k := .eq) (off := 5) (bb := true) (tg := 775) (by decide +kernel) (by decide +kernel) (by decide +kernel) (by decide +kernel) ?_
  refine Ru.op (q := (.iload 5, 2)) (by decide +kernel) rfl ?_
  refine Ru.br (k := .ne) (off := 15) (bb := true) (tg := 792) (by decide +kernel) (by decide +kernel) (by decide +kernel) (by decide +kernel) ?_
  refine Ru.op (q := (.goto 59, 3)) (by decide +kernel) rfl ?_
  exact p1_tail rfl
