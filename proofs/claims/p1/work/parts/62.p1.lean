def fh_prt0_1 : mn_H := [(0, [.ref 1, .ref 13, .ref 28, .ref 30, .ref 35, .int 0, .int (-1)]), (1, [.ref 2, .int 0, .ref 3, .int 0, .int 0, .int 0, .ref 10, .ref 11, .int 0, .int 0, .int 0, .ref 12, .int 0]), (52, List.replicate 160 (.int 0)), (2, [.ref 4, .ref 5, .ref 6, .ref 7, .ref 8, .int 0, .ref 9, .int 0]), (50, List.replicate 160 (.int 0)), (50, List.replicate 160 (.int 0)), (50, List.replicate 160 (.int 0)), (50, List.replicate 160 (.int 0)), (50, List.replicate 160 (.int 0)), (50, List.replicate 1280 (.int 0)), (50, List.replicate 10 (.int 0)), (50, List.replicate 10 (.int 0)), (50, List.replicate 16 (.int 0)), (3, [.ref 14, .int 0, .int 0, .int 0, .int 0, .int 0, .int 0, .int (-1), .int 0, .ref 15, .ref 20, .ref 23, .ref 27]), (55, List.replicate 100 (.null)), (4, [.ref 16, .ref 19, .int 0, .int 0]), (5, [.ref 17, .ref 18, .int 0, .int 0]), (50, List.replicate 80 (.int 0)), (50, [.int 0, .int 0, .int 0, .int 0, .int 0]), (50, List.replicate 128 (.int 0)), (6, [.ref 21, .ref 22]), (50, List.replicate 32 (.int 0)), (50, List.replicate 32 (.int 0)), (7, [.ref 24, .ref 25, .ref 26]), (50, List.replicate 64 (.int 0)), (50, List.replicate 64 (.int 0)), (50, [.int 0, .int 0, .int 0, .int 0]), (51, List.replicate 100 (.int 0)), (8, [.ref 29, .int 0]), (52, List.replicate 128 (.int 0)), (4, [.ref 31, .ref 34, .int 0, .int 0]), (5, [.ref 32, .ref 33, .int 0, .int 0]), (50, List.replicate 80 (.int 0)), (50, [.int 0, .int 0, .int 0, .int 0, .int 0]), (50, List.replicate 128 (.int 0)), (54, List.replicate 24 (.null)), (10, [.int 0, .int (-1), .int 0, .ref 37, .ref 38, .ref 39, .ref 40, .ref 41, .ref 42, .int 0, .int 0, .ref 43, .ref 44, .ref 45, .int (-1), .int 0, .int 0, .int 0, .int 0, .int 0, .int 0, .ref 46, .int 0, .ref 47, .int 0, .ref 48, .ref 49, .int 0, .int 0, .int 0, .int 0, .ref 50, .ref 51, .ref 52, .int 0, .int 0, .int 0, .ref 53, .ref 54, .ref 55, .ref 56, .ref 57, .int 0, .int 0, .ref 58, .ref 59, .int 0, .ref 60, .ref 61, .ref 62, .ref 63, .ref 64, .ref 65, .ref 66, .ref 67, .ref 68, .int 0, .ref 69, .ref 70]), (50, List.replicate 160 (.int 0)), (50, List.replicate 8032 (.int 0)), (50, List.replicate 504 (.int 0)), (51, List.replicate 504 (.int 0)), (50, List.replicate 125 (.int 0)), (50, List.replicate 125 (.int 0)), (50, List.replicate 100 (.int 0)), (50, List.replicate 100 (.int 0)), (50, List.replicate 400 (.int 0)), (50, List.replicate 1024 (.int 0)), (50, List.replicate 128 (.int 0)), (50, List.replicate 100 (.int 0)), (51, List.replicate 100 (.int 0)), (50, List.replicate 50 (.int 0)), (50, List.replicate 50 (.int 0)), (51, List.replicate 50 (.int 0)), (50, List.replicate 16 (.int 0)), (50, List.replicate 10 (.int 0)), (51, List.replicate 10 (.int 0)), (51, List.replicate 10 (.int 0)), (50, List.replicate 10 (.int 0)), (50, List.replicate 300 (.int 0)), (50, List.replicate 2400 (.int 0)), (50, List.replicate 100 (.int 0)), (51, List.replicate 100 (.int 0)), (50, List.replicate 64 (.int 0)), (50, List.replicate 64 (.int 0)), (50, List.replicate 128 (.int 0)), (50, List.replicate 640 (.int 0)), (50, List.replicate 640 (.int 0)), (50, List.replicate 640 (.int 0)), (50, List.replicate 16 (.int 0)), (50, List.replicate 400 (.int 0)), (51, List.replicate 100 (.int 0)), (53, [.long 0]), (99, [])]
set_option maxRecDepth 100000 in
set_option maxHeartbeats 4000000 in
theorem p1_prt0_0 (s1 s2 s3 s4 : Int32) (g1 : mn_cmp .lt s2 0 = true) : Ru none 2046 83953 77 (0, mn_pad (mn_ent [.ref 0, .int (Int32.ofInt 0), .int s2]) 4, [], 20574, fh_0) ((3, none), 20580, fh_prt0_1) := by
  refine Ru.op (q := (.iload_n 1, 1)) (by decide +kernel) rfl ?_
  refine Ru.br (k := .eq) (off := 10) (bb := true) (tg := 11) (by decide +kernel) (by decide +kernel) (by decide +kernel) (by decide +kernel) ?_
  refine Ru.op (q := (.aload_n 0, 1)) (by decide +kernel) rfl ?_
  refine Ru.op (q := (.getfield 19, 3)) (by decide +kernel) rfl ?_
  refine Ru.op (q := (.getfield 105, 3)) (by decide +kernel) rfl ?_
  refine Ru.op (q := (.istore_n 3, 1)) (by decide +kernel) rfl ?_
  refine Ru.op (q := (.iload_n 2, 1)) (by decide +kernel) rfl ?_
  refine Ru.br (k := .lt) (off := 8) (bb := true) (tg := 28) (by decide +kernel) (by decide +kernel) g1 (by decide +kernel) ?_
  exact Ru.thr (q := (.new 108, 3)) (by decide +kernel) rfl rfl (by decide +kernel)
set_option maxRecDepth 100000 in
set_option maxHeartbeats 4000000 in
theorem p1_prt0_1 (s1 s2 s3 s4 : Int32) (g1 : mn_cmp .lt s2 0 = true) : Ru none 2047 83976 166 (0, mn_pad (mn_ent [.ref 0, .int (Int32.ofInt 0), .int s2, .ref 71]) 5, [], 20574, fh_0) ((0, some (.int (Int32.ofInt 1))), 20580, fh_prt0_1) := by
  refine Ru.op (q := (.aload_n 3, 1)) (by decide +kernel) rfl ?_
  refine Ru.op (q := (.iconst 0, 1)) (by decide +kernel) rfl ?_
  refine Ru.op (q := (.aload_n 0, 1)) (by decide +kernel) rfl ?_
  refine Ru.op (q := (.iload_n 1, 1)) (by decide +kernel) rfl ?_
  refine Ru.op (q := (.iload_n 2, 1)) (by decide +kernel) rfl ?_
  refine Ru.catch (i := 31) (j2 := 77) (k := 2) (hp := 13) (by decide +kernel) rfl rfl rfl rfl ⟨Nat.le_of_ble_eq_true rfl, Nat.le_of_ble_eq_true rfl, Nat.le_of_ble_eq_true rfl, Nat.le_of_ble_eq_true rfl⟩ (by decide +kernel) (p1_prt0_0 s1 s2 s3 s4 g1) ?_
  refine Ru.op (q := (.astore 4, 2)) (by decide +kernel) rfl ?_
  refine Ru.op (q := (.iconst 1, 1)) (by decide +kernel) rfl ?_
  exact Ru.end (q := (.ireturn, 1)) (by decide +kernel) rfl rfl
def fh_prt0_2 : mn_H := [(0, [.ref 1, .ref 13, .ref 28, .ref 30, .ref 35, .int 0, .int (-1)]), (1, [.ref 2, .int 0, .ref 3, .int 0, .int 0, .int 0, .ref 10, .ref 11, .int 0, .int 0, .int 0, .ref 12, .int 0]), (52, List.replicate 160 (.int 0)), (2, [.ref 4, .ref 5, .ref 6, .ref 7, .ref 8, .int 0, .ref 9, .int 0]), (50, List.replicate 160 (.int 0)), (50, List.replicate 160 (.int 0)), (50, List.replicate 160 (.int 0)), (50, List.replicate 160 (.int 0)), (50, List.replicate 160 (.int 0)), (50, List.replicate 1280 (.int 0)), (50, List.replicate 10 (.int 0)), (50, List.replicate 10 (.int 0)), (50, List.replicate 16 (.int 0)), (3, [.ref 14, .int 0, .int 0, .int 0, .int 0, .int 0, .int 0, .int (-1), .int 0, .ref 15, .ref 20, .ref 23, .ref 27]), (55, List.replicate 100 (.null)), (4, [.ref 16, .ref 19, .int 0, .int 0]), (5, [.ref 17, .ref 18, .int 0, .int 0]), (50, List.replicate 80 (.int 0)), (50, [.int 0, .int 0, .int 0, .int 0, .int 0]), (50, List.replicate 128 (.int 0)), (6, [.ref 21, .ref 22]), (50, List.replicate 32 (.int 0)), (50, List.replicate 32 (.int 0)), (7, [.ref 24, .ref 25, .ref 26]), (50, List.replicate 64 (.int 0)), (50, List.replicate 64 (.int 0)), (50, [.int 0, .int 0, .int 0, .int 0]), (51, List.replicate 100 (.int 0)), (8, [.ref 29, .int 0]), (52, List.replicate 128 (.int 0)), (4, [.ref 31, .ref 34, .int 0, .int 0]), (5, [.ref 32, .ref 33, .int 0, .int 0]), (50, List.replicate 80 (.int 0)), (50, [.int 0, .int 0, .int 0, .int 0, .int 0]), (50, List.replicate 128 (.int 0)), (54, List.replicate 24 (.null)), (10, [.int 1, .int (-1), .int 0, .ref 37, .ref 38, .ref 39, .ref 40, .ref 41, .ref 42, .int 0, .int 0, .ref 43, .ref 44, .ref 45, .int (-1), .int 0, .int 0, .int 0, .int 0, .int 0, .int 0, .ref 46, .int 0, .ref 47, .int 0, .ref 48, .ref 49, .int 0, .int 0, .int 0, .int 0, .ref 50, .ref 51, .ref 52, .int 0, .int 0, .int 0, .ref 53, .ref 54, .ref 55, .ref 56, .ref 57, .int 0, .int 0, .ref 58, .ref 59, .int 0, .ref 60, .ref 61, .ref 62, .ref 63, .ref 64, .ref 65, .ref 66, .ref 67, .ref 68, .int 0, .ref 69, .ref 70]), (50, List.replicate 160 (.int 0)), (50, List.replicate 8032 (.int 0)), (50, List.replicate 504 (.int 0)), (51, List.replicate 504 (.int 0)), (50, List.replicate 125 (.int 0)), (50, List.replicate 125 (.int 0)), (50, List.replicate 100 (.int 0)), (50, List.replicate 100 (.int 0)), (50, List.replicate 400 (.int 0)), (50, List.replicate 1024 (.int 0)), (50, List.replicate 128 (.int 0)), (50, List.replicate 100 (.int 0)), (51, List.replicate 100 (.int 0)), (50, List.replicate 50 (.int 0)), (50, List.replicate 50 (.int 0)), (51, List.replicate 50 (.int 0)), (50, List.replicate 16 (.int 0)), (50, List.replicate 10 (.int 0)), (51, List.replicate 10 (.int 0)), (51, List.replicate 10 (.int 0)), (50, List.replicate 10 (.int 0)), (50, List.replicate 300 (.int 0)), (50, List.replicate 2400 (.int 0)), (50, List.replicate 100 (.int 0)), (51, List.replicate 100 (.int 0)), (50, List.replicate 64 (.int 0)), (50, List.replicate 64 (.int 0)), (50, List.replicate 128 (.int 0)), (50, List.replicate 640 (.int 0)), (50, List.replicate 640 (.int 0)), (50, List.replicate 640 (.int 0)), (50, List.replicate 16 (.int 0)), (50, List.replicate 400 (.int 0)), (51, List.replicate 100 (.int 0)), (53, [.long 0]), (99, [])]
set_option maxRecDepth 100000 in
set_option maxHeartbeats 4000000 in
theorem p1_prt0_2 (s1 s2 s3 s4 : Int32) (g1 : mn_cmp .lt s2 0 = true) : Ru none 2047 83976 148 (0, mn_pad (mn_ent [.ref 36, .int (Int32.ofInt 0), .int s2]) 5, [], 20580, fh_prt0_1) ((0, some (.int (Int32.ofInt 0))), 20580, fh_prt0_2) := by
  refine Ru.op (q := (.aload_n 0, 1)) (by decide +kernel) rfl ?_
  refine Ru.op (q := (.iload_n 2, 1)) (by decide +kernel) rfl ?_
  refine Ru.br (k := .lt) (off := 22) (bb := true) (tg := 24) (by decide +kernel) (by decide +kernel) g1 (by decide +kernel) ?_
  refine Ru.op (q := (.iconst 1, 1)) (by decide +kernel) rfl ?_
  refine Ru.op (q := (.goto 4, 3)) (by decide +kernel) rfl ?_
  refine Ru.op (q := (.putfield 120, 3)) (by decide +kernel) rfl ?_
  refine Ru.op (q := (.aload_n 0, 1)) (by decide +kernel) rfl ?_
  refine Ru.op (q := (.getfield 120, 3)) (by decide +kernel) rfl ?_
  refine Ru.br (k := .le) (off := 5) (bb := false) (tg := 39) (by decide +kernel) (by decide +kernel) (by decide +kernel) (by decide +kernel) ?_
  refine Ru.op (q := (.iconst 0, 1)) (by decide +kernel) rfl ?_
  exact Ru.end (q := (.ireturn, 1)) (by decide +kernel) rfl rfl
set_option maxRecDepth 100000 in
theorem p1_prt0_3 : Ru none 2047 83980 94 (0, mn_pad (mn_ent [.ref 36]) 1, [], 20580, fh_prt0_2) ((0, some (.int 1)), 20580, fh_prt0_2) := Ru.of 5 (by decide +kernel)
set_option maxRecDepth 100000 in
set_option maxHeartbeats 4000000 in
theorem p1_prt0 {s0 s1 s2 s3 s4 : Int32} (g0 : mn_cmp .eq s1 0 = true) (g1 : mn_cmp .lt s2 0 = true) : Ru (some [s0, s1, s2, s3, s4]) 2048 84000 172 (407, [some (.retAddr 0), some (.ref 0), some (.ref 36), some (.ref 71), some (.int 0), none, none], [], 20574, fh_0) ((0, some (.int 1)), 20580, fh_prt0_2) := by
  refine Ru.op (q := (.aload_n 1, 1)) (by decide +kernel) rfl ?_
  refine Ru.op (q := (.aload_n 0, 1)) (by decide +kernel) rfl ?_
  refine Ru.op (q := (.iload 4, 2)) (by decide +kernel) rfl ?_
  refine Ru.op (q := (.iconst 1, 1)) (by decide +kernel) rfl ?_
  refine Ru.op (q := (.iadd, 1)) (by decide +kernel) rfl ?_
  refine Ru.sld (L := 5) (k := 1) (v := s1) rfl rfl (by decide +kernel) (by decide +kernel) (by decide +kernel) rfl ?_
  refine Ru.br (k := .eq) (off := 7) (bb := true) (tg := 421) (by decide +kernel) (by decide +kernel) g0 (by decide +kernel) ?_
  refine Ru.op (q := (.iconst 0, 1)) (by decide +kernel) rfl ?_
  refine Ru.op (q := (.aload_n 0, 1)) (by decide +kernel) rfl ?_
  refine Ru.op (q := (.iload 4, 2)) (by decide +kernel) rfl ?_
  refine Ru.op (q := (.iconst 2, 1)) (by decide +kernel) rfl ?_
  refine Ru.op (q := (.iadd, 1)) (by decide +kernel) rfl ?_
  refine Ru.sld (L := 5) (k := 2) (v := s2) rfl rfl (by decide +kernel) (by decide +kernel) (by decide +kernel) rfl ?_
  refine Ru.op (q := (.aload_n 3, 1)) (by decide +kernel) rfl ?_
  refine Ru.call (q := (.invokestatic 95, 3)) (by decide +kernel) rfl rfl rfl rfl ⟨Nat.le_of_ble_eq_true rfl, Nat.le_of_ble_eq_true rfl, Nat.le_of_ble_eq_true rfl, Nat.le_of_ble_eq_true rfl⟩ (p1_prt0_1 s1 s2 s3 s4 g1) ?_
  refine Ru.op (q := (.istore 5, 2)) (by decide +kernel) rfl ?_
  refine Ru.op (q := (.aload_n 2, 1)) (by decide +kernel) rfl ?_
  refine Ru.op (q := (.aload_n 0, 1)) (by decide +kernel) rfl ?_
  refine Ru.op (q := (.iload 4, 2)) (by decide +kernel) rfl ?_
  refine Ru.op (q := (.iconst 1, 1)) (by decide +kernel) rfl ?_
  refine Ru.op (q := (.iadd, 1)) (by decide +kernel) rfl ?_
  refine Ru.sld (L := 5) (k := 1) (v := s1) rfl rfl (by decide +kernel) (by decide +kernel) (by decide +kernel) rfl ?_
  refine Ru.br (k := .eq) (off := 7) (bb := true) (tg := 448) (by decide +kernel) (by decide +kernel) g0 (by decide +kernel) ?_
  refine Ru.op (q := (.iconst 0, 1)) (by decide +kernel) rfl ?_
  refine Ru.op (q := (.aload_n 0, 1)) (by decide +kernel) rfl ?_
  refine Ru.op (q := (.iload 4, 2)) (by decide +kernel) rfl ?_
  refine Ru.op (q := (.iconst 2, 1)) (by decide +kernel) rfl ?_
  refine Ru.op (q := (.iadd, 1)) (by decide +kernel) rfl ?_
  refine Ru.sld (L := 5) (k := 2) (v := s2) rfl rfl (by decide +kernel) (by decide +kernel) (by decide +kernel) rfl ?_
  refine Ru.call (q := (.invokevirtual 98, 3)) (by decide +kernel) rfl rfl rfl rfl ⟨Nat.le_of_ble_eq_true rfl, Nat.le_of_ble_eq_true rfl, Nat.le_of_ble_eq_true rfl, Nat.le_of_ble_eq_true rfl⟩ (p1_prt0_2 s1 s2 s3 s4 g1) ?_
  refine Ru.op (q := (.istore 6, 2)) (by decide +kernel) rfl ?_
  refine Ru.op (q := (.aload_n 2, 1)) (by decide +kernel) rfl ?_
  refine Ru.call (q := (.invokevirtual 68, 3)) (by decide +kernel) rfl rfl rfl rfl ⟨Nat.le_of_ble_eq_true rfl, Nat.le_of_ble_eq_true rfl, Nat.le_of_ble_eq_true rfl, Nat.le_of_ble_eq_true rfl⟩ (p1_prt0_3) ?_
  refine Ru.op (q := (.iload 5, 2)) (by decide +kernel) rfl ?_
  refine Ru.br2 (k := .eq) (off := 5) (bb := true) (tg := 471) (by decide +kernel) (by decide +kernel) (by decide +kernel) (by decide +kernel) ?_
  refine Ru.op (q := (.iload 5, 2)) (by decide +kernel) rfl ?_
  refine Ru.br (k := .ne) (off := 15) (bb := true) (tg := 488) (by decide +kernel) (by decide +kernel) (by decide +kernel) (by decide +kernel) ?_
  refine Ru.op (q := (.goto 363, 3)) (by decide +kernel) rfl ?_
  exact p1_tail rfl
def fh_prt1_1 : mn_H := [(0, [.ref 1, .ref 13, .ref 28, .ref 30, .ref 35, .int 0, .int (-1)]), (1, [.ref 2, .int 0, .ref 3, .int 0, .int 0, .int 0, .ref 10, .ref 11, .int 0, .int 0, .int 0, .ref 12, .int 0]), (52, List.replicate 160 (.int 0)), (2, [.ref 4, .ref 5, .ref 6, .ref 7, .ref 8, .int 0, .ref 9, .int 0]), (50, List.replicate 160 (.int 0)), (50, List.replicate 160 (.int 0)), (50, List.replicate 160 (.int 0)), (50, List.replicate 160 (.int 0)), (50, List.replicate 160 (.int 0)), (50, List.replicate 1280 (.int 0)), (50, List.replicate 10 (.int 0)), (50, List.replicate 10 (.int 0)), (50, List.replicate 16 (.int 0)), (3, [.ref 14, .int 0, .int 0, .int 0, .int 0, .int 0, .int 0, .int (-1), .int 0, .ref 15, .ref 20, .ref 23, .ref 27]), (55, List.replicate 100 (.null)), (4, [.ref 16, .ref 19, .int 0, .int 0]), (5, [.ref 17, .ref 18, .int 0, .int 0]), (50, List.replicate 80 (.int 0)), (50, [.int 0, .int 0, .int 0, .int 0, .int 0]), (50, List.replicate 128 (.int 0)), (6, [.ref 21, .ref 22]), (50, List.replicate 32 (.int 0)), (50, List.replicate 32 (.int 0)), (7, [.ref 24, .ref 25, .ref 26]), (50, List.replicate 64 (.int 0)), (50, List.replicate 64 (.int 0)), (50, [.int 0, .int 0, .int 0, .int 0]), (51, List.replicate 100 (.int 0)), (8, [.ref 29, .int 0]), (52, List.replicate 128 (.int 0)), (4, [.ref 31, .ref 34, .int 0, .int 0]), (5, [.ref 32, .ref 33, .int 0, .int 0]), (50, List.replicate 80 (.int 0)), (50, [.int 0, .int 0, .int 0, .int 0, .int 0]), (50, List.replicate 128 (.int 0)), (54, List.replicate 24 (.null)), (10, [.int 0, .int (-1), .int 0, .ref 37, .ref 38, .ref 39, .ref 40, .ref 41, .ref 42, .int 0, .int 0, .ref 43, .ref 44, .ref 45, .int (-1), .int 0, .int 0, .int 0, .int 0, .int 0, .int 0, .ref 46, .int 0, .ref 47, .int 0, .ref 48, .ref 49, .int 0, .int 0, .int 0, .int 0, .ref 50, .ref 51, .ref 52, .int 0, .int 0, .int 0, .ref 53, .ref 54, .ref 55, .ref 56, .ref 57, .int 0, .int 0, .ref 58, .ref 59, .int 0, .ref 60, .ref 61, .ref 62, .ref 63, .ref 64, .ref 65, .ref 66, .ref 67, .ref 68, .int 0, .ref 69, .ref 70]), (50, List.replicate 160 (.int 0)), (50, List.replicate 8032 (.int 0)), (50, List.replicate 504 (.int 0)), (51, List.replicate 504 (.int 0)), (50, List.replicate 125 (.int 0)), (50, List.replicate 125 (.int 0)), (50, List.replicate 100 (.int 0)), (50, List.replicate 100 (.int 0)), (50, List.replicate 400 (.int 0)), (50, List.replicate 1024 (.int 0)), (50, List.replicate 128 (.int 0)), (50, List.replicate 100 (.int 0)), (51, List.replicate 100 (.int 0)), (50, List.replicate 50 (.int 0)), (50, List.replicate 50 (.int 0)), (51, List.replicate 50 (.int 0)), (50, List.replicate 16 (.int 0)), (50, List.replicate 10 (.int 0)), (51, List.replicate 10 (.int 0)), (51, List.replicate 10 (.int 0)), (50, List.replicate 10 (.int 0)), (50, List.replicate 300 (.int 0)), (50, List.replicate 2400 (.int 0)), (50, List.replicate 100 (.int 0)), (51, List.replicate 100 (.int 0)), (50, List.replicate 64 (.int 0)), (50, List.replicate 64 (.int 0)), (50, List.replicate 128 (.int 0)), (50, List.replicate 640 (.int 0)), (50, List.replicate 640 (.int 0)), (50, List.replicate 640 (.int 0)), (50, List.replicate 16 (.int 0)), (50, List.replicate 400 (.int 0)), (51, List.replicate 100 (.int 0)), (53, [.long 0]), (99, [])]
set_option maxRecDepth 100000 in
set_option maxHeartbeats 4000000 in
theorem p1_prt1_0 (s1 s2 s3 s4 : Int32) (g1 : mn_cmp .lt s2 0 = false) : Ru none 2046 83953 77 (0, mn_pad (mn_ent [.ref 0, .int (Int32.ofInt 0), .int s2]) 4, [], 20574, fh_0) ((3, none), 20580, fh_prt1_1) := by
  refine Ru.op (q := (.iload_n 1, 1)) (by decide +kernel) rfl ?_
  refine Ru.br (k := .eq) (off := 10) (bb := true) (tg := 11) (by decide +kernel) (by decide +kernel) (by decide +kernel) (by decide +kernel) ?_
  refine Ru.op (q := (.aload_n 0, 1)) (by decide +kernel) rfl ?_
  refine Ru.op (q := (.getfield 19, 3)) (by decide +kernel) rfl ?_
  refine Ru.op (q := (.getfield 105, 3)) (by decide +kernel) rfl ?_
  refine Ru.op (q := (.istore_n 3, 1)) (by decide +kernel) rfl ?_
  refine Ru.op (q := (.iload_n 2, 1)) (by decide +kernel) rfl ?_
  refine Ru.br (k := .lt) (off := 8) (bb := false) (tg := 23) (by decide +kernel) (by decide +kernel) g1 (by decide +kernel) ?_
  refine Ru.op (q := (.iload_n 2, 1)) (by decide +kernel) rfl ?_
  refine Ru.op (q := (.iload_n 3, 1)) (by decide +kernel) rfl ?_
  refine Ru.br2 (k := .lt) (off := 11) (bb := false) (tg := 28) (by decide +kernel) (by decide +kernel) g1 (by decide +kernel) ?_
  exact Ru.thr (q := (.new 108, 3)) (by decide +kernel) rfl rfl (by decide +kernel)
set_option maxRecDepth 100000 in
set_option maxHeartbeats 4000000 in
theorem p1_prt1_1 (s1 s2 s3 s4 : Int32) (g1 : mn_cmp .lt s2 0 = false) : Ru none 2047 83976 166 (0, mn_pad (mn_ent [.ref 0, .int (Int32.ofInt 0), .int s2, .ref 71]) 5, [], 20574, fh_0) ((0, some (.int (Int32.ofInt 1))), 20580, fh_prt1_1) := by
  refine Ru.op (q := (.aload_n 3, 1)) (by decide +kernel) rfl ?_
  refine Ru.op (q := (.iconst 0, 1)) (by decide +kernel) rfl ?_
  refine Ru.op (q := (.aload_n 0, 1)) (by decide +kernel) rfl ?_
  refine Ru.op (q := (.iload_n 1, 1)) (by decide +kernel) rfl ?_
  refine Ru.op (q := (.iload_n 2, 1)) (by decide +kernel) rfl ?_
  refine Ru.catch (i := 31) (j2 := 77) (k := 2) (hp := 13) (by decide +kernel) rfl rfl rfl rfl ⟨Nat.le_of_ble_eq_true rfl, Nat.le_of_ble_eq_true rfl, Nat.le_of_ble_eq_true rfl, Nat.le_of_ble_eq_true rfl⟩ (by decide +kernel) (p1_prt1_0 s1 s2 s3 s4 g1) ?_
  refine Ru.op (q := (.astore 4, 2)) (by decide +kernel) rfl ?_
  refine Ru.op (q := (.iconst 1, 1)) (by decide +kernel) rfl ?_
  exact Ru.end (q := (.ireturn, 1)) (by decide +kernel) rfl rfl
def fh_prt1_2 : mn_H := [(0, [.ref 1, .ref 13, .ref 28, .ref 30, .ref 35, .int 0, .int (-1)]), (1, [.ref 2, .int 0, .ref 3, .int 0, .int 0, .int 0, .ref 10, .ref 11, .int 0, .int 0, .int 0, .ref 12, .int 0]), (52, List.replicate 160 (.int 0)), (2, [.ref 4, .ref 5, .ref 6, .ref 7, .ref 8, .int 0, .ref 9, .int 0]), (50, List.replicate 160 (.int 0)), (50, List.replicate 160 (.int 0)), (50, List.replicate 160 (.int 0)), (50, List.replicate 160 (.int 0)), (50, List.replicate 160 (.int 0)), (50, List.replicate 1280 (.int 0)), (50, List.replicate 10 (.int 0)), (50, List.replicate 10 (.int 0)), (50, List.replicate 16 (.int 0)), (3, [.ref 14, .int 0, .int 0, .int 0, .int 0, .int 0, .int 0, .int (-1), .int 0, .ref 15, .ref 20, .ref 23, .ref 27]), (55, List.replicate 100 (.null)), (4, [.ref 16, .ref 19, .int 0, .int 0]), (5, [.ref 17, .ref 18, .int 0, .int 0]), (50, List.replicate 80 (.int 0)), (50, [.int 0, .int 0, .int 0, .int 0, .int 0]), (50, List.replicate 128 (.int 0)), (6, [.ref 21, .ref 22]), (50, List.replicate 32 (.int 0)), (50, List.replicate 32 (.int 0)), (7, [.ref 24, .ref 25, .ref 26]), (50, List.replicate 64 (.int 0)), (50, List.replicate 64 (.int 0)), (50, [.int 0, .int 0, .int 0, .int 0]), (51, List.replicate 100 (.int 0)), (8, [.ref 29, .int 0]), (52, List.replicate 128 (.int 0)), (4, [.ref 31, .ref 34, .int 0, .int 0]), (5, [.ref 32, .ref 33, .int 0, .int 0]), (50, List.replicate 80 (.int 0)), (50, [.int 0, .int 0, .int 0, .int 0, .int 0]), (50, List.replicate 128 (.int 0)), (54, List.replicate 24 (.null)), (10, [.int 1, .int (-1), .int 0, .ref 37, .ref 38, .ref 39, .ref 40, .ref 41, .ref 42, .int 0, .int 0, .ref 43, .ref 44, .ref 45, .int (-1), .int 0, .int 0, .int 0, .int 0, .int 0, .int 0, .ref 46, .int 0, .ref 47, .int 0, .ref 48, .ref 49, .int 0, .int 0, .int 0, .int 0, .ref 50, .ref 51, .ref 52, .int 0, .int 0, .int 0, .ref 53, .ref 54, .ref 55, .ref 56, .ref 57, .int 0, .int 0, .ref 58, .ref 59, .int 0, .ref 60, .ref 61, .ref 62, .ref 63, .ref 64, .ref 65, .ref 66, .ref 67, .ref 68, .int 0, .ref 69, .ref 70]), (50, List.replicate 160 (.int 0)), (50, List.replicate 8032 (.int 0)), (50, List.replicate 504 (.int 0)), (51, List.replicate 504 (.int 0)), (50, List.replicate 125 (.int 0)), (50, List.replicate 125 (.int 0)), (50, List.replicate 100 (.int 0)), (50, List.replicate 100 (.int 0)), (50, List.replicate 400 (.int 0)), (50, List.replicate 1024 (.int 0)), (50, List.replicate 128 (.int 0)), (50, List.replicate 100 (.int 0)), (51, List.replicate 100 (.int 0)), (50, List.replicate 50 (.int 0)), (50, List.replicate 50 (.int 0)), (51, List.replicate 50 (.int 0)), (50, List.replicate 16 (.int 0)), (50, List.replicate 10 (.int 0)), (51, List.replicate 10 (.int 0)), (51, List.replicate 10 (.int 0)), (50, List.replicate 10 (.int 0)), (50, List.replicate 300 (.int 0)), (50, List.replicate 2400 (.int 0)), (50, List.replicate 100 (.int 0)), (51, List.replicate 100 (.int 0)), (50, List.replicate 64 (.int 0)), (50, List.replicate 64 (.int 0)), (50, List.replicate 128 (.int 0)), (50, List.replicate 640 (.int 0)), (50, List.replicate 640 (.int 0)), (50, List.replicate 640 (.int 0)), (50, List.replicate 16 (.int 0)), (50, List.replicate 400 (.int 0)), (51, List.replicate 100 (.int 0)), (53, [.long 0]), (99, [])]
set_option maxRecDepth 100000 in
set_option maxHeartbeats 4000000 in
theorem p1_prt1_2 (s1 s2 s3 s4 : Int32) (g1 : mn_cmp .lt s2 0 = false) : Ru none 2047 83976 148 (0, mn_pad (mn_ent [.ref 36, .int (Int32.ofInt 0), .int s2]) 5, [], 20580, fh_prt1_1) ((0, some (.int (Int32.ofInt 0))), 20580, fh_prt1_2) := by
  refine Ru.op (q := (.aload_n 0, 1)) (by decide +kernel) rfl ?_
  refine Ru.op (q := (.iload_n 2, 1)) (by decide +kernel) rfl ?_
  refine Ru.br (k := .lt) (off := 22) (bb := false) (tg := 5) (by decide +kernel) (by decide +kernel) g1 (by decide +kernel) ?_
  refine Ru.op (q := (.iload_n 2, 1)) (by decide +kernel) rfl ?_
  refine Ru.op (q := (.iload_n 1, 1)) (by decide +kernel) rfl ?_
  refine Ru.br (k := .eq) (off := 10) (bb := true) (tg := 17) (by decide +kernel) (by decide +kernel) (by decide +kernel) (by decide +kernel) ?_
  refine Ru.op (q := (.aload_n 0, 1)) (by decide +kernel) rfl ?_
  refine Ru.op (q := (.getfield 263, 3)) (by decide +kernel) rfl ?_
  refine Ru.br2 (k := .lt) (off := 7) (bb := false) (tg := 24) (by decide +kernel) (by decide +kernel) g1 (by decide +kernel) ?_
  refine Ru.op (q := (.iconst 1, 1)) (by decide +kernel) rfl ?_
  refine Ru.op (q := (.goto 4, 3)) (by decide +kernel) rfl ?_
  refine Ru.op (q := (.putfield 120, 3)) (by decide +kernel) rfl ?_
  refine Ru.op (q := (.aload_n 0, 1)) (by decide +kernel) rfl ?_
  refine Ru.op (q := (.getfield 120, 3)) (by decide +kernel) rfl ?_
  refine Ru.br (k := .le) (off := 5) (bb := false) (tg := 39) (by decide +kernel) (by decide +kernel) (by decide +kernel) (by decide +kernel) ?_
  refine Ru.op (q := (.iconst 0, 1)) (by decide +kernel) rfl ?_
  exact Ru.end (q := (.ireturn, 1)) (by decide +kernel) rfl rfl
set_option maxRecDepth 100000 in
theorem p1_prt1_3 : Ru none 2047 83980 94 (0, mn_pad (mn_ent [.ref 36]) 1, [], 20580, fh_prt1_2) ((0, some (.int 1)), 20580, fh_prt1_2) := Ru.of 5 (by decide +kernel)
set_option maxRecDepth 100000 in
set_option maxHeartbeats 4000000 in
theorem p1_prt1 {s0 s1 s2 s3 s4 : Int32} (g0 : mn_cmp .eq s1 0 = true) (g1 : mn_cmp .lt s2 0 = false) : Ru (some [s0, s1, s2, s3, s4]) 2048 84000 172 (407, [some (.retAddr 0), some (.ref 0), some (.ref 36), some (.ref 71), some (.int 0), none, none], [], 20574, fh_0) ((0, some (.int 1)), 20580, fh_prt1_2) := by
  refine Ru.op (q := (.aload_n 1, 1)) (by decide +kernel) rfl ?_
  refine Ru.op (q := (.aload_n 0, 1)) (by decide +kernel) rfl ?_
  refine Ru.op (q := (.iload 4, 2)) (by decide +kernel) rfl ?_
  refine Ru.op (q := (.iconst 1, 1)) (by decide +kernel) rfl ?_
  refine Ru.op (q := (.iadd, 1)) (by decide +kernel) rfl ?_
  refine Ru.sld (L := 5) (k := 1) (v := s1) rfl rfl (by decide +kernel) (by decide +kernel) (by decide +kernel) rfl ?_
  refine Ru.br (k := .eq) (off := 7) (bb := true) (tg := 421) (by decide +kernel) (by decide +kernel) g0 (by decide +kernel) ?_
  refine Ru.op (q := (.iconst 0, 1)) (by decide +kernel) rfl ?_
  refine Ru.op (q := (.aload_n 0, 1)) (by decide +kernel) rfl ?_
  refine Ru.op (q := (.iload 4, 2)) (by decide +kernel) rfl ?_
  refine Ru.op (q := (.iconst 2, 1)) (by decide +kernel) rfl ?_
  refine Ru.op (q := (.iadd, 1)) (by decide +kernel) rfl ?_
  refine Ru.sld (L := 5) (k := 2) (v := s2) rfl rfl (by decide +kernel) (by decide +kernel) (by decide +kernel) rfl ?_
  refine Ru.op (q := (.aload_n 3, 1)) (by decide +kernel) rfl ?_
  refine Ru.call (q := (.invokestatic 95, 3)) (by decide +kernel) rfl rfl rfl rfl ⟨Nat.le_of_ble_eq_true rfl, Nat.le_of_ble_eq_true rfl, Nat.le_of_ble_eq_true rfl, Nat.le_of_ble_eq_true rfl⟩ (p1_prt1_1 s1 s2 s3 s4 g1) ?_
  refine Ru.op (q := (.istore 5, 2)) (by decide +kernel) rfl ?_
  refine Ru.op (q := (.aload_n 2, 1)) (by decide +kernel) rfl ?_
  refine Ru.op (q := (.aload_n 0, 1)) (by decide +kernel) rfl ?_
  refine Ru.op (q := (.iload 4, 2)) (by decide +kernel) rfl ?_
  refine Ru.op (q := (.iconst 1, 1)) (by decide +kernel) rfl ?_
  refine Ru.op (q := (.iadd, 1)) (by decide +kernel) rfl ?_
  refine Ru.sld (L := 5) (k := 1) (v := s1) rfl rfl (by decide +kernel) (by decide +kernel) (by decide +kernel) rfl ?_
  refine Ru.br (k := .eq) (off := 7) (bb := true) (tg := 448) (by decide +kernel) (by decide +kernel) g0 (by decide +kernel) ?_
  refine Ru.op (q := (.iconst 0, 1)) (by decide +kernel) rfl ?_
  refine Ru.op (q := (.aload_n 0, 1)) (by decide +kernel) rfl ?_
  refine Ru.op (q := (.iload 4, 2)) (by decide +kernel) rfl ?_
  refine Ru.op (q := (.iconst 2, 1)) (by decide +kernel) rfl ?_
  refine Ru.op (q := (.iadd, 1)) (by decide +kernel) rfl ?_
  refine Ru.sld (L := 5) (k := 2) (v := s2) rfl rfl (by decide +kernel) (by decide +kernel) (by decide +kernel) rfl ?_
  refine Ru.call (q := (.invokevirtual 98, 3)) (by decide +kernel) rfl rfl rfl rfl ⟨Nat.le_of_ble_eq_true rfl, Nat.le_of_ble_eq_true rfl, Nat.le_of_ble_eq_true rfl, Nat.le_of_ble_eq_true rfl⟩ (p1_prt1_2 s1 s2 s3 s4 g1) ?_
  refine Ru.op (q := (.istore 6, 2)) (by decide +kernel) rfl ?_
  refine Ru.op (q := (.aload_n 2, 1)) (by decide +kernel) rfl ?_
  refine Ru.call (q := (.invokevirtual 68, 3)) (by decide +kernel) rfl rfl rfl rfl ⟨Nat.le_of_ble_eq_true rfl, Nat.le_of_ble_eq_true rfl, Nat.le_of_ble_eq_true rfl, Nat.le_of_ble_eq_true rfl⟩ (p1_prt1_3) ?_
  refine Ru.op (q := (.iload 5, 2)) (by decide +kernel) rfl ?_
  refine Ru.br2 (k := .eq) (off := 5) (bb := true) (tg := 471) (by decide +kernel) (by decide +kernel) (by decide +kernel) (by decide +kernel) ?_
  refine Ru.op (q := (.iload 5, 2)) (by decide +kernel) rfl ?_
  refine Ru.br (k := .ne) (off := 15) (bb := true) (tg := 488) (by decide +kernel) (by decide +kernel) (by decide +kernel) (by decide +kernel) ?_
  refine Ru.op (q := (.goto 363, 3)) (by decide +kernel) rfl ?_
  exact p1_tail rfl
def fh_prt2_1 : mn_H := [(0, [.ref 1, .ref 13, .ref 28, .ref 30, .ref 35, .int 0, .int (-1)]), (1, [.ref 2, .int 0, .ref 3, .int 0, .int 0, .int 0, .ref 10, .ref 11, .int 0, .int 0, .int 0, .ref 12, .int 0]), (52, List.replicate 160 (.int 0)), (2, [.ref 4, .ref 5, .ref 6, .ref 7, .ref 8, .int 0, .ref 9, .int 0]), (50, List.replicate 160 (.int 0)), (50, List.replicate 160 (.int 0)), (50, List.replicate 160 (.int 0)), (50, List.replicate 160 (.int 0)), (50, List.replicate 160 (.int 0)), (50, List.replicate 1280 (.int 0)), (50, List.replicate 10 (.int 0)), (50, List.replicate 10 (.int 0)), (50, List.replicate 16 (.int 0)), (3, [.ref 14, .int 0, .int 0, .int 0, .int 0, .int 0, .int 0, .int (-1), .int 0, .ref 15, .ref 20, .ref 23, .ref 27]), (55, List.replicate 100 (.null)), (4, [.ref 16, .ref 19, .int 0, .int 0]), (5, [.ref 17, .ref 18, .int 0, .int 0]), (50, List.replicate 80 (.int 0)), (50, [.int 0, .int 0, .int 0, .int 0, .int 0]), (50, List.replicate 128 (.int 0)), (6, [.ref 21, .ref 22]), (50, List.replicate 32 (.int 0)), (50, List.replicate 32 (.int 0)), (7, [.ref 24, .ref 25, .ref 26]), (50, List.replicate 64 (.int 0)), (50, List.replicate 64 (.int 0)), (50, [.int 0, .int 0, .int 0, .int 0]), (51, List.replicate 100 (.int 0)), (8, [.ref 29, .int 0]), (52, List.replicate 128 (.int 0)), (4, [.ref 31, .ref 34, .int 0, .int 0]), (5, [.ref 32, .ref 33, .int 0, .int 0]), (50, List.replicate 80 (.int 0)), (50, [.int 0, .int 0, .int 0, .int 0, .int 0]), (50, List.replicate 128 (.int 0)), (54, List.replicate 24 (.null)), (10, [.int 0, .int (-1), .int 0, .ref 37, .ref 38, .ref 39, .ref 40, .ref 41, .ref 42, .int 0, .int 0, .ref 43, .ref 44, .ref 45, .int (-1), .int 0, .int 0, .int 0, .int 0, .int 0, .int 0, .ref 46, .int 0, .ref 47, .int 0, .ref 48, .ref 49, .int 0, .int 0, .int 0, .int 0, .ref 50, .ref 51, .ref 52, .int 0, .int 0, .int 0, .ref 53, .ref 54, .ref 55, .ref 56, .ref 57, .int 0, .int 0, .ref 58, .ref 59, .int 0, .ref 60, .ref 61, .ref 62, .ref 63, .ref 64, .ref 65, .ref 66, .ref 67, .ref 68, .int 0, .ref 69, .ref 70]), (50, List.replicate 160 (.int 0)), (50, List.replicate 8032 (.int 0)), (50, List.replicate 504 (.int 0)), (51, List.replicate 504 (.int 0)), (50, List.replicate 125 (.int 0)), (50, List.replicate 125 (.int 0)), (50, List.replicate 100 (.int 0)), (50, List.replicate 100 (.int 0)), (50, List.replicate 400 (.int 0)), (50, List.replicate 1024 (.int 0)), (50, List.replicate 128 (.int 0)), (50, List.replicate 100 (.int 0)), (51, List.replicate 100 (.int 0)), (50, List.replicate 50 (.int 0)), (50, List.replicate 50 (.int 0)), (51, List.replicate 50 (.int 0)), (50, List.replicate 16 (.int 0)), (50, List.replicate 10 (.int 0)), (51, List.replicate 10 (.int 0)), (51, List.replicate 10 (.int 0)), (50, List.replicate 10 (.int 0)), (50, List.replicate 300 (.int 0)), (50, List.replicate 2400 (.int 0)), (50, List.replicate 100 (.int 0)), (51, List.replicate 100 (.int 0)), (50, List.replicate 64 (.int 0)), (50, List.replicate 64 (.int 0)), (50, List.replicate 128 (.int 0)), (50, List.replicate 640 (.int 0)), (50, List.replicate 640 (.int 0)), (50, List.replicate 640 (.int 0)), (50, List.replicate 16 (.int 0)), (50, List.replicate 400 (.int 0)), (51, List.replicate 100 (.int 0)), (53, [.long 0]), (99, [])]
set_option maxRecDepth 100000 in
set_option maxHeartbeats 4000000 in
theorem p1_prt2_0 (s1 s2 s3 s4 : Int32) (g1 : mn_cmp .lt s2 0 = true) : Ru none 2046 83953 77 (0, mn_pad (mn_ent [.ref 0, .int (Int32.ofInt 1), .int s2]) 4, [], 20574, fh_0) ((3, none), 20580, fh_prt2_1) := by
  refine Ru.op (q := (.iload_n 1, 1)) (by decide +kernel) rfl ?_
  refine Ru.br (k := .eq) (off := 10) (bb := false) (tg := 4) (by decide +kernel) (by decide +kernel) (by decide +kernel) (by decide +kernel) ?_
  refine Ru.op (q := (.aload_n 0, 1)) (by decide +kernel) rfl ?_
  refine Ru.op (q := (.getfield 102, 3)) (by decide +kernel) rfl ?_
  refine Ru.op (q := (.goto 10, 3)) (by decide +kernel) rfl ?_
  refine Ru.op (q := (.istore_n 3, 1)) (by decide +kernel) rfl ?_
  refine Ru.op (q := (.iload_n 2, 1)) (by decide +kernel) rfl ?_
  refine Ru.br (k := .lt) (off := 8) (bb := true) (tg := 28) (by decide +kernel) (by decide +kernel) g1 (by decide +kernel) ?_
  exact Ru.thr (q := (.new 108, 3)) (by decide +kernel) rfl rfl (by decide +kernel)
set_option maxRecDepth 100000 in
set_option maxHeartbeats 4000000 in
theorem p1_prt2_1 (s1 s2 s3 s4 : Int32) (g1 : mn_cmp .lt s2 0 = true) : Ru none 2047 83976 166 (0, mn_pad (mn_ent [.ref 0, .int (Int32.ofInt 1), .int s2, .ref 71]) 5, [], 20574, fh_0) ((0, some (.int (Int32.ofInt 1))), 20580, fh_prt2_1) := by
  refine Ru.op (q := (.aload_n 3, 1)) (by decide +kernel) rfl ?_
  refine Ru.op (q := (.iconst 0, 1)) (by decide +kernel) rfl ?_
  refine Ru.op (q := (.aload_n 0, 1)) (by decide +kernel) rfl ?_
  refine Ru.op (q := (.iload_n 1, 1)) (by decide +kernel) rfl ?_
  refine Ru.op (q := (.iload_n 2, 1)) (by decide +kernel) rfl ?_
  refine Ru.catch (i := 31) (j2 := 77) (k := 2) (hp := 13) (by decide +kernel) rfl rfl rfl rfl ⟨Nat.le_of_ble_eq_true rfl, Nat.le_of_ble_eq_true rfl, Nat.le_of_ble_eq_true rfl, Nat.le_of_ble_eq_true rfl⟩ (by decide +kernel) (p1_prt2_0 s1 s2 s3 s4 g1) ?_
  refine Ru.op (q := (.astore 4, 2)) (by decide +kernel) rfl ?_
  refine Ru.op (q := (.iconst 1, 1)) (by decide +kernel) rfl ?_
  exact Ru.end (q := (.ireturn, 1)) (by decide +kernel) rfl rfl
def fh_prt2_2 : mn_H := [(0, [.ref 1, .ref 13, .ref 28, .ref 30, .ref 35, .int 0, .int (-1)]), (1, [.ref 2, .int 0, .ref 3, .int 0, .int 0, .int 0, .ref 10, .ref 11, .int 0, .int 0, .int 0, .ref 12, .int 0]), (52, List.replicate 160 (.int 0)), (2, [.ref 4, .ref 5, .ref 6, .ref 7, .ref 8, .int 0, .ref 9, .int 0]), (50, List.replicate 160 (.int 0)), (50, List.replicate 160 (.int 0)), (50, List.replicate 160 (.int 0)), (50, List.replicate 160 (.int 0)), (50, List.replicate 160 (.int 0)), (50, List.replicate 1280 (.int 0)), (50, List.replicate 10 (.int 0)), (50, List.replicate 10 (.int 0)), (50, List.replicate 16 (.int 0)), (3, [.ref 14, .int 0, .int 0, .int 0, .int 0, .int 0, .int 0, .int (-1), .int 0, .ref 15, .ref 20, .ref 23, .ref 27]), (55, List.replicate 100 (.null)), (4, [.ref 16, .ref 19, .int 0, .int 0]), (5, [.ref 17, .ref 18, .int 0, .int 0]), (50, List.replicate 80 (.int 0)), (50, [.int 0, .int 0, .int 0, .int 0, .int 0]), (50, List.replicate 128 (.int 0)), (6, [.ref 21, .ref 22]), (50, List.replicate 32 (.int 0)), (50, List.replicate 32 (.int 0)), (7, [.ref 24, .ref 25, .ref 26]), (50, List.replicate 64 (.int 0)), (50, List.replicate 64 (.int 0)), (50, [.int 0, .int 0, .int 0, .int 0]), (51, List.replicate 100 (.int 0)), (8, [.ref 29, .int 0]), (52, List.replicate 128 (.int 0)), (4, [.ref 31, .ref 34, .int 0, .int 0]), (5, [.ref 32, .ref 33, .int 0, .int 0]), (50, List.replicate 80 (.int 0)), (50, [.int 0, .int 0, .int 0, .int 0, .int 0]), (50, List.replicate 128 (.int 0)), (54, List.replicate 24 (.null)), (10, [.int 1, .int (-1), .int 0, .ref 37, .ref 38, .ref 39, .ref 40, .ref 41, .ref 42, .int 0, .int 0, .ref 43, .ref 44, .ref 45, .int (-1), .int 0, .int 0, .int 0, .int 0, .int 0, .int 0, .ref 46, .int 0, .ref 47, .int 0, .ref 48, .ref 49, .int 0, .int 0, .int 0, .int 0, .ref 50, .ref 51, .ref 52, .int 0, .int 0, .int 0, .ref 53, .ref 54, .ref 55, .ref 56, .ref 57, .int 0, .int 0, .ref 58, .ref 59, .int 0, .ref 60, .ref 61, .ref 62, .ref 63, .ref 64, .ref 65, .ref 66, .ref 67, .ref 68, .int 0, .ref 69, .ref 70]), (50, List.replicate 160 (.int 0)), (50, List.replicate 8032 (.int 0)), (50, List.replicate 504 (.int 0)), (51, List.replicate 504 (.int 0)), (50, List.replicate 125 (.int 0)), (50, List.replicate 125 (.int 0)), (50, List.replicate 100 (.int 0)), (50, List.replicate 100 (.int 0)), (50, List.replicate 400 (.int 0)), (50, List.replicate 1024 (.int 0)), (50, List.replicate 128 (.int 0)), (50, List.replicate 100 (.int 0)), (51, List.replicate 100 (.int 0)), (50, List.replicate 50 (.int 0)), (50, List.replicate 50 (.int 0)), (51, List.replicate 50 (.int 0)), (50, List.replicate 16 (.int 0)), (50, List.replicate 10 (.int 0)), (51, List.replicate 10 (.int 0)), (51, List.replicate 10 (.int 0)), (50, List.replicate 10 (.int 0)), (50, List.replicate 300 (.int 0)), (50, List.replicate 2400 (.int 0)), (50, List.replicate 100 (.int 0)), (51, List.replicate 100 (.int 0)), (50, List.replicate 64 (.int 0)), (50, List.replicate 64 (.int 0)), (50, List.replicate 128 (.int 0)), (50, List.replicate 640 (.int 0)), (50, List.replicate 640 (.int 0)), (50, List.replicate 640 (.int 0)), (50, List.replicate 16 (.int 0)), (50, List.replicate 400 (.int 0)), (51, List.replicate 100 (.int 0)), (53, [.long 0]), (99, [])]
set_option maxRecDepth 100000 in
set_option maxHeartbeats 4000000 in
theorem p1_prt2_2 (s1 s2 s3 s4 : Int32) (g1 : mn_cmp .lt s2 0 = true) : Ru none 2047 83976 148 (0, mn_pad (mn_ent [.ref 36, .int (Int32.ofInt 1), .int s2]) 5, [], 20580, fh_prt2_1) ((0, some (.int (Int32.ofInt 0))), 20580, fh_prt2_2) := by
  refine Ru.op (q := (.aload_n 0, 1)) (by decide +kernel) rfl ?_
  refine Ru.op (q := (.iload_n 2, 1)) (by decide +kernel) rfl ?_
  refine Ru.br (k := .lt) (off := 22) (bb := true) (tg := 24) (by decide +kernel) (by decide +kernel) g1 (by decide +kernel) ?_
  refine Ru.op (q := (.iconst 1, 1)) (by decide +kernel) rfl ?_
  refine Ru.op (q := (.goto 4, 3)) (by decide +kernel) rfl ?_
  refine Ru.op (q := (.putfield 120, 3)) (by decide +kernel) rfl ?_
  refine Ru.op (q := (.aload_n 0, 1)) (by decide +kernel) rfl ?_
  refine Ru.op (q := (.getfield 120, 3)) (by decide +kernel) rfl ?_
  refine Ru.br (k := .le) (off := 5) (bb := false) (tg := 39) (by decide +kernel) (by decide +kernel) (by decide +kernel) (by decide +kernel) ?_
  refine Ru.op (q := (.iconst 0, 1)) (by decide +kernel) rfl ?_
  exact Ru.end (q := (.ireturn, 1)) (by decide +kernel) rfl rfl
set_option maxRecDepth 100000 in
theorem p1_prt2_3 : Ru none 2047 83980 94 (0, mn_pad (mn_ent [.ref 36]) 1, [], 20580, fh_prt2_2) ((0, some (.int 1)), 20580, fh_prt2_2) := Ru.of 5 (by decide +kernel)
set_option maxRecDepth 100000 in
set_option maxHeartbeats 4000000 in
theorem p1_prt2 {s0 s1 s2 s3 s4 : Int32} (g0 : mn_cmp .eq s1 0 = false) (g1 : mn_cmp .lt s2 0 = true) : Ru (some [s0, s1, s2, s3, s4]) 2048 84000 172 (407, [some (.retAddr 0), some (.ref 0), some (.ref 36), some (.ref 71), some (.int 0), none, none], [], 20574, fh_0) ((0, some (.int 1)), 20580, fh_prt2_2) := by
  refine Ru.op (q := (.aload_n 1, 1)) (by decide +kernel) rfl ?_
  refine Ru.op (q := (.aload_n 0, 1)) (by decide +kernel) rfl ?_
  refine Ru.op (q := (.iload 4, 2)) (by decide +kernel) rfl ?_
  refine Ru.op (q := (.iconst 1, 1)) (by decide +kernel) rfl ?_
  refine Ru.op (q := (.iadd, 1)) (by decide +kernel) rfl ?_
  refine Ru.sld (L := 5) (k := 1) (v := s1) rfl rfl (by decide +kernel) (by decide +kernel) (by decide +kernel) rfl ?_
  refine Ru.br (k := .eq) (off := 7) (bb := false) (tg := 417) (by decide +kernel) (by decide +kernel) g0 (by decide +kernel) ?_
  refine Ru.op (q := (.iconst 1, 1)) (by decide +kernel) rfl ?_
  refine Ru.op (q := (.goto 4, 3)) (by decide +kernel) rfl ?_
  refine Ru.op (q := (.aload_n 0, 1)) (by decide +kernel) rfl ?_
  refine Ru.op (q := (.iload 4, 2)) (by decide +kernel) rfl ?_
  refine Ru.op (q := (.iconst 2, 1)) (by decide +kernel) rfl ?_
  refine Ru.op (q := (.iadd, 1)) (by decide +kernel) rfl ?_
  refine Ru.sld (L := 5) (k := 2) (v := s2) rfl rfl (by decide +kernel) (by decide +kernel) (by decide +kernel) rfl ?_
  refine Ru.op (q := (.aload_n 3, 1)) (by decide +kernel) rfl ?_
  refine Ru.call (q := (.invokestatic 95, 3)) (by decide +kernel) rfl rfl rfl rfl ⟨Nat.le_of_ble_eq_true rfl, Nat.le_of_ble_eq_true rfl, Nat.le_of_ble_eq_true rfl, Nat.le_of_ble_eq_true rfl⟩ (p1_prt2_1 s1 s2 s3 s4 g1) ?_
  refine Ru.op (q := (.istore 5, 2)) (by decide +kernel) rfl ?_
  refine Ru.op (q := (.aload_n 2, 1)) (by decide +kernel) rfl ?_
  refine Ru.op (q := (.aload_n 0, 1)) (by decide +kernel) rfl ?_
  refine Ru.op (q := (.iload 4, 2)) (by decide +kernel) rfl ?_
  refine Ru.op (q := (.iconst 1, 1)) (by decide +kernel) rfl ?_
  refine Ru.op (q := (.iadd, 1)) (by decide +kernel) rfl ?_
  refine Ru.sld (L := 5) (k := 1) (v := s1) rfl rfl (by decide +kernel) (by decide +kernel) (by decide +kernel) rfl ?_
  refine Ru.br (k := .eq) (off := 7) (bb := false) (tg := 444) (by decide +kernel) (by decide +kernel) g0 (by decide +kernel) ?_
  refine Ru.op (q := (.iconst 1, 1)) (by decide +kernel) rfl ?_
  refine Ru.op (q := (.goto 4, 3)) (by decide +kernel) rfl ?_
  refine Ru.op (q := (.aload_n 0, 1)) (by decide +kernel) rfl ?_
  refine Ru.op (q := (.iload 4, 2)) (by decide +kernel) rfl ?_
  refine Ru.op (q := (.iconst 2, 1)) (by decide +kernel) rfl ?_
  refine Ru.op (q := (.iadd, 1)) (by decide +kernel) rfl ?_
  refine Ru.sld (L := 5) (k := 2) (v := s2) rfl rfl (by decide +kernel) (by decide +kernel) (by decide +kernel) rfl ?_
  refine Ru.call (q := (.invokevirtual 98, 3)) (by decide +kernel) rfl rfl rfl rfl ⟨Nat.le_of_ble_eq_true rfl, Nat.le_of_ble_eq_true rfl, Nat.le_of_ble_eq_true rfl, Nat.le_of_ble_eq_true rfl⟩ (p1_prt2_2 s1 s2 s3 s4 g1) ?_
  refine Ru.op (q := (.istore 6, 2)) (by decide +kernel) rfl ?_
  refine Ru.op (q := (.aload_n 2, 1)) (by decide +kernel) rfl ?_
  refine Ru.call (q := (.invokevirtual 68, 3)) (by decide +kernel) rfl rfl rfl rfl ⟨Nat.le_of_ble_eq_true rfl, Nat.le_of_ble_eq_true rfl, Nat.le_of_ble_eq_true rfl, Nat.le_of_ble_eq_true rfl⟩ (p1_prt2_3) ?_
  refine Ru.op (q := (.iload 5, 2)) (by decide +kernel) rfl ?_
  refine Ru.br2 (k := .eq) (off := 5) (bb := true) (tg := 471) (by decide +kernel) (by decide +kernel) (by decide +kernel) (by decide +kernel) ?_
  refine Ru.op (q := (.iload 5, 2)) (by decide +kernel) rfl ?_
  refine Ru.br (k := .ne) (off := 15) (bb := true) (tg := 488) (by decide +kernel) (by decide +kernel) (by decide +kernel) (by decide +kernel) ?_
  refine Ru.op (q := (.goto 363, 3)) (by decide +kernel) rfl ?_
  exact p1_tail rfl
def fh_prt3_1 : mn_H := [(0, [.ref 1, .ref 13, .ref 28, .ref 30, .ref 35, .int 0, .int (-1)]), (1, [.ref 2, .int 0, .ref 3, .int 0, .int 0, .int 0, .ref 10, .ref 11, .int 0, .int 0, .int 0, .ref 12, .int 0]), (52, List.replicate 160 (.int 0)), (2, [.ref 4, .ref 5, .ref 6, .ref 7, .ref 8, .int 0, .ref 9, .int 0]), (50, List.replicate 160 (.int 0)), (50, List.replicate 160 (.int 0)), (50, List.replicate 160 (.int 0)), (50, List.replicate 160 (.int 0)), (50, List.replicate 160 (.int 0)), (50, List.replicate 1280 (.int 0)), (50, List.replicate 10 (.int 0)), (50, List.replicate 10 (.int 0)), (50, List.replicate 16 (.int 0)), (3, [.ref 14, .int 0, .int 0, .int 0, .int 0, .int 0, .int 0, .int (-1), .int 0, .ref 15, .ref 20, .ref 23, .ref 27]), (55, List.replicate 100 (.null)), (4, [.ref 16, .ref 19, .int 0, .int 0]), (5, [.ref 17, .ref 18, .int 0, .int 0]), (50, List.replicate 80 (.int 0)), (50, [.int 0, .int 0, .int 0, .int 0, .int 0]), (50, List.replicate 128 (.int 0)), (6, [.ref 21, .ref 22]), (50, List.replicate 32 (.int 0)), (50, List.replicate 32 (.int 0)), (7, [.ref 24, .ref 25, .ref 26]), (50, List.replicate 64 (.int 0)), (50, List.replicate 64 (.int 0)), (50, [.int 0, .int 0, .int 0, .int 0]), (51, List.replicate 100 (.int 0)), (8, [.ref 29, .int 0]), (52, List.replicate 128 (.int 0)), (4, [.ref 31, .ref 34, .int 0, .int 0]), (5, [.ref 32, .ref 33, .int 0, .int 0]), (50, List.replicate 80 (.int 0)), (50, [.int 0, .int 0, .int 0, .int 0, .int 0]), (50, List.replicate 128 (.int 0)), (54, List.replicate 24 (.null)), (10, [.int 0, .int (-1), .int 0, .ref 37, .ref 38, .ref 39, .ref 40, .ref 41, .ref 42, .int 0, .int 0, .ref 43, .ref 44, .ref 45, .int (-1), .int 0, .int 0, .int 0, .int 0, .int 0, .int 0, .ref 46, .int 0, .ref 47, .int 0, .ref 48, .ref 49, .int 0, .int 0, .int 0, .int 0, .ref 50, .ref 51, .ref 52, .int 0, .int 0, .int 0, .ref 53, .ref 54, .ref 55, .ref 56, .ref 57, .int 0, .int 0, .ref 58, .ref 59, .int 0, .ref 60, .ref 61, .ref 62, .ref 63, .ref 64, .ref 65, .ref 66, .ref 67, .ref 68, .int 0, .ref 69, .ref 70]), (50, List.replicate 160 (.int 0)), (50, List.replicate 8032 (.int 0)), (50, List.replicate 504 (.int 0)), (51, List.replicate 504 (.int 0)), (50, List.replicate 125 (.int 0)), (50, List.replicate 125 (.int 0)), (50, List.replicate 100 (.int 0)), (50, List.replicate 100 (.int 0)), (50, List.replicate 400 (.int 0)), (50, List.replicate 1024 (.int 0)), (50, List.replicate 128 (.int 0)), (50, List.replicate 100 (.int 0)), (51, List.replicate 100 (.int 0)), (50, List.replicate 50 (.int 0)), (50, List.replicate 50 (.int 0)), (51, List.replicate 50 (.int 0)), (50, List.replicate 16 (.int 0)), (50, List.replicate 10 (.int 0)), (51, List.replicate 10 (.int 0)), (51, List.replicate 10 (.int 0)), (50, List.replicate 10 (.int 0)), (50, List.replicate 300 (.int 0)), (50, List.replicate 2400 (.int 0)), (50, List.replicate 100 (.int 0)), (51, List.replicate 100 (.int 0)), (50, List.replicate 64 (.int 0)), (50, List.replicate 64 (.int 0)), (50, List.replicate 128 (.int 0)), (50, List.replicate 640 (.int 0)), (50, List.replicate 640 (.int 0)), (50, List.replicate 640 (.int 0)), (50, List.replicate 16 (.int 0)), (50, List.replicate 400 (.int 0)), (51, List.replicate 100 (.int 0)), (53, [.long 0]), (99, [])]
set_option maxRecDepth 100000 in
set_option maxHeartbeats 4000000 in
theorem p1_prt3_0 (s1 s2 s3 s4 : Int32) (g1 : mn_cmp .lt s2 0 = false) : Ru none 2046 83953 77 (0, mn_pad (mn_ent [.ref 0, .int (Int32.ofInt 1), .int s2]) 4, [], 20574, fh_0) ((3, none), 20580, fh_prt3_1) := by
  refine Ru.op (q := (.iload_n 1, 1)) (by decide +kernel) rfl ?_
  refine Ru.br (k := .eq) (off := 10) (bb := false) (tg := 4) (by decide +kernel) (by decide +kernel) (by decide +kernel) (by decide +kernel) ?_
  refine Ru.op (q := (.aload_n 0, 1)) (by decide +kernel) rfl ?_
  refine Ru.op (q := (.getfield 102, 3)) (by decide +kernel) rfl ?_
  refine Ru.op (q := (.goto 10, 3)) (by decide +kernel) rfl ?_
  refine Ru.op (q := (.istore_n 3, 1)) (by decide +kernel) rfl ?_
  refine Ru.op (q := (.iload_n 2, 1)) (by decide +kernel) rfl ?_
  refine Ru.br (k := .lt) (off := 8) (bb := false) (tg := 23) (by decide +kernel) (by decide +kernel) g1 (by decide +kernel) ?_
  refine Ru.op (q := (.iload_n 2, 1)) (by decide +kernel) rfl ?_
  refine Ru.op (q := (.iload_n 3, 1)) (by decide +kernel) rfl ?_
  refine Ru.br2 (k := .lt) (off := 11) (bb := false) (tg := 28) (by decide +kernel) (by decide +kernel) g1 (by decide +kernel) ?_
  exact Ru.thr (q := (.new 108, 3)) (by decide +kernel) rfl rfl (by decide +kernel)
set_option maxRecDepth 100000 in
set_option maxHeartbeats 4000000 in
theorem p1_prt3_1 (s1 s2 s3 s4 : Int32) (g1 : mn_cmp .lt s2 0 = false) : Ru none 2047 83976 166 (0, mn_pad (mn_ent [.ref 0, .int (Int32.ofInt 1), .int s2, .ref 71]) 5, [], 20574, fh_0) ((0, some (.int (Int32.ofInt 1))), 20580, fh_prt3_1) := by
  refine Ru.op (q := (.aload_n 3, 1)) (by decide +kernel) rfl ?_
  refine Ru.op (q := (.iconst 0, 1)) (by decide +kernel) rfl ?_
  refine Ru.op (q := (.aload_n 0, 1)) (by decide +kernel) rfl ?_
  refine Ru.op (q := (.iload_n 1, 1)) (by decide +kernel) rfl ?_
  refine Ru.op (q := (.iload_n 2, 1)) (by decide +kernel) rfl ?_
  refine Ru.catch (i := 31) (j2 := 77) (k := 2) (hp := 13) (by decide +kernel) rfl rfl rfl rfl ⟨Nat.le_of_ble_eq_true rfl, Nat.le_of_ble_eq_true rfl, Nat.le_of_ble_eq_true rfl, Nat.le_of_ble_eq_true rfl⟩ (by decide +kernel) (p1_prt3_0 s1 s2 s3 s4 g1) ?_
  refine Ru.op (q := (.astore 4, 2)) (by decide +kernel) rfl ?_
  refine Ru.op (q := (.iconst 1, 1)) (by decide +kernel) rfl ?_
  exact Ru.end (q := (.ireturn, 1)) (by decide +kernel) rfl rfl
def fh_prt3_2 : mn_H := [(0, [.ref 1, .ref 13, .ref 28, .ref 30, .ref 35, .int 0, .int (-1)]), (1, [.ref 2, .int 0, .ref 3, .int 0, .int 0, .int 0, .ref 10, .ref 11, .int 0, .int 0, .int 0, .ref 12, .int 0]), (52, List.replicate 160 (.int 0)), (2, [.ref 4, .ref 5, .ref 6, .ref 7, .ref 8, .int 0, .ref 9, .int 0]), (50, List.replicate 160 (.int 0)), (50, List.replicate 160 (.int 0)), (50, List.replicate 160 (.int 0)), (50, List.replicate 160 (.int 0)), (50, List.replicate 160 (.int 0)), (50, List.replicate 1280 (.int 0)), (50, List.replicate 10 (.int 0)), (50, List.replicate 10 (.int 0)), (50, List.replicate 16 (.int 0)), (3, [.ref 14, .int 0, .int 0, .int 0, .int 0, .int 0, .int 0, .int (-1), .int 0, .ref 15, .ref 20, .ref 23, .ref 27]), (55, List.replicate 100 (.null)), (4, [.ref 16, .ref 19, .int 0, .int 0]), (5, [.ref 17, .ref 18, .int 0, .int 0]), (50, List.replicate 80 (.int 0)), (50, [.int 0, .int 0, .int 0, .int 0, .int 0]), (50, List.replicate 128 (.int 0)), (6, [.ref 21, .ref 22]), (50, List.replicate 32 (.int 0)), (50, List.replicate 32 (.int 0)), (7, [.ref 24, .ref 25, .ref 26]), (50, List.replicate 64 (.int 0)), (50, List.replicate 64 (.int 0)), (50, [.int 0, .int 0, .int 0, .int 0]), (51, List.replicate 100 (.int 0)), (8, [.ref 29, .int 0]), (52, List.replicate 128 (.int 0)), (4, [.ref 31, .ref 34, .int 0, .int 0]), (5, [.ref 32, .ref 33, .int 0, .int 0]), (50, List.replicate 80 (.int 0)), (50, [.int 0, .int 0, .int 0, .int 0, .int 0]), (50, List.replicate 128 (.int 0)), (54, List.replicate 24 (.null)), (10, [.int 1, .int (-1), .int 0, .ref 37, .ref 38, .ref 39, .ref 40, .ref 41, .ref 42, .int 0, .int 0, .ref 43, .ref 44, .ref 45, .int (-1), .int 0, .int 0, .int 0, .int 0, .int 0, .int 0, .ref 46, .int 0, .ref 47, .int 0, .ref 48, .ref 49, .int 0, .int 0, .int 0, .int 0, .ref 50, .ref 51, .ref 52, .int 0, .int 0, .int 0, .ref 53, .ref 54, .ref 55, .ref 56, .ref 57, .int 0, .int 0, .ref 58, .ref 59, .int 0, .ref 60, .ref 61, .ref 62, .ref 63, .ref 64, .ref 65, .ref 66, .ref 67, .ref 68, .int 0, .ref 69, .ref 70]), (50, List.replicate 160 (.int 0)), (50, List.replicate 8032 (.int 0)), (50, List.replicate 504 (.int 0)), (51, List.replicate 504 (.int 0)), (50, List.replicate 125 (.int 0)), (50, List.replicate 125 (.int 0)), (50, List.replicate 100 (.int 0)), (50, List.replicate 100 (.int 0)), (50, List.replicate 400 (.int 0)), (50, List.replicate 1024 (.int 0)), (50, List.replicate 128 (.int 0)), (50, List.replicate 100 (.int 0)), (51, List.replicate 100 (.int 0)), (50, List.replicate 50 (.int 0)), (50, List.replicate 50 (.int 0)), (51, List.replicate 50 (.int 0)), (50, List.replicate 16 (.int 0)), (50, List.replicate 10 (.int 0)), (51, List.replicate 10 (.int 0)), (51, List.replicate 10 (.int 0)), (50, List.replicate 10 (.int 0)), (50, List.replicate 300 (.int 0)), (50, List.replicate 2400 (.int 0)), (50, List.replicate 100 (.int 0)), (51, List.replicate 100 (.int 0)), (50, List.replicate 64 (.int 0)), (50, List.replicate 64 (.int 0)), (50, List.replicate 128 (.int 0)), (50, List.replicate 640 (.int 0)), (50, List.replicate 640 (.int 0)), (50, List.replicate 640 (.int 0)), (50, List.replicate 16 (.int 0)), (50, List.replicate 400 (.int 0)), (51, List.replicate 100 (.int 0)), (53, [.long 0]), (99, [])]
set_option maxRecDepth 100000 in
set_option maxHeartbeats 4000000 in
theorem p1_prt3_2 (s1 s2 s3 s4 : Int32) (g1 : mn_cmp .lt s2 0 = false) : Ru none 2047 83976 148 (0, mn_pad (mn_ent [.ref 36, .int (Int32.ofInt 1), .int s2]) 5, [], 20580, fh_prt3_1) ((0, some (.int (Int32.ofInt 0))), 20580, fh_prt3_2) := by
  refine Ru.op (q := (.aload_n 0, 1)) (by decide +kernel) rfl ?_
  refine Ru.op (q := (.iload_n 2, 1)) (by decide +kernel) rfl ?_
  refine Ru.br (k := .lt) (off := 22) (bb := false) (tg := 5) (by decide +kernel) (by decide +kernel) g1 (by decide +kernel) ?_
  refine Ru.op (q := (.iload_n 2, 1)) (by decide +kernel) rfl ?_
  refine Ru.op (q := (.iload_n 1, 1)) (by decide +kernel) rfl ?_
  refine Ru.br (k := .eq) (off := 10) (bb := false) (tg := 10) (by decide +kernel) (by decide +kernel) (by decide +kernel) (by decide +kernel) ?_
  refine Ru.op (q := (.aload_n 0, 1)) (by decide +kernel) rfl ?_
  refine Ru.op (q := (.getfield 356, 3)) (by decide +kernel) rfl ?_
  refine Ru.op (q := (.goto 7, 3)) (by decide +kernel) rfl ?_
  refine Ru.br2 (k := .lt) (off := 7) (bb := false) (tg := 24) (by decide +kernel) (by decide +kernel) g1 (by decide +kernel) ?_
  refine Ru.op (q := (.iconst 1, 1)) (by decide +kernel) rfl ?_
  refine Ru.op (q := (.goto 4, 3)) (by decide +kernel) rfl ?_
  refine Ru.op (q := (.putfield 120, 3)) (by decide +kernel) rfl ?_
  refine Ru.op (q := (.aload_n 0, 1)) (by decide +kernel) rfl ?_
  refine Ru.op (q := (.getfield 120, 3)) (by decide +kernel) rfl ?_
  refine Ru.br (k := .le) (off := 5) (bb := false) (tg := 39) (by decide +kernel) (by decide +kernel) (by decide +kernel) (by decide +kernel) ?_
  refine Ru.op (q := (.iconst 0, 1)) (by decide +kernel) rfl ?_
  exact Ru.end (q := (.ireturn, 1)) (by decide +kernel) rfl rfl
set_option maxRecDepth 100000 in
theorem p1_prt3_3 : Ru none 2047 83980 94 (0, mn_pad (mn_ent [.ref 36]) 1, [], 20580, fh_prt3_2) ((0, some (.int 1)), 20580, fh_prt3_2) := Ru.of 5 (by decide +kernel)
set_option maxRecDepth 100000 in
set_option maxHeartbeats 4000000 in
theorem p1_prt3 {s0 s1 s2 s3 s4 : Int32} (g0 : mn_cmp .eq s1 0 = false) (g1 : mn_cmp .lt s2 0 = false) : Ru (some [s0, s1, s2, s3, s4]) 2048 84000 172 (407, [some (.retAddr 0), some (.ref 0), some (.ref 36), some (.ref 71), some (.int 0), none, none], [], 20574, fh_0) ((0, some (.int 1)), 20580, fh_prt3_2) := by
  refine Ru.op (q := (.aload_n 1, 1)) (by decide +kernel) rfl ?_
  refine Ru.op (q := (.aload_n 0, 1)) (by decide +kernel) rfl ?_
  refine Ru.op (q := (.iload 4, 2)) (by decide +kernel) rfl ?_
  refine Ru.op (q := (.iconst 1, 1)) (by decide +kernel) rfl ?_
  refine Ru.op (q := (.iadd, 1)) (by decide +kernel) rfl ?_
  refine Ru.sld (L := 5) (k := 1) (v := s1) rfl rfl (by decide +kernel) (by decide +kernel) (by decide +kernel) rfl ?_
  refine Ru.br (k := .eq) (off := 7) (bb := false) (tg := 417) (by decide +kernel) (by decide +kernel) g0 (by decide +kernel) ?_
  refine Ru.op (q := (.iconst 1, 1)) (by decide +kernel) rfl ?_
  refine Ru.op (q := (.goto 4, 3)) (by decide +kernel) rfl ?_
  refine Ru.op (q := (.aload_n 0, 1)) (by decide +kernel) rfl ?_
  refine Ru.op (q := (.iload 4, 2)) (by decide +kernel) rfl ?_
  refine Ru.op (q := (.iconst 2, 1)) (by decide +kernel) rfl ?_
  refine Ru.op (q := (.iadd, 1)) (by decide +kernel) rfl ?_
  refine Ru.sld (L := 5) (k := 2) (v := s2) rfl rfl (by decide +kernel) (by decide +kernel) (by decide +kernel) rfl ?_
  refine Ru.op (q := (.aload_n 3, 1)) (by decide +kernel) rfl ?_
  refine Ru.call (q := (.invokestatic 95, 3)) (by decide +kernel) rfl rfl rfl rfl ⟨Nat.le_of_ble_eq_true rfl, Nat.le_of_ble_eq_true rfl, Nat.le_of_ble_eq_true rfl, Nat.le_of_ble_eq_true rfl⟩ (p1_prt3_1 s1 s2 s3 s4 g1) ?_
  refine Ru.op (q := (.istore 5, 2)) (by decide +kernel) rfl ?_
  refine Ru.op (q := (.aload_n 2, 1)) (by decide +kernel) rfl ?_
  refine Ru.op (q := (.aload_n 0, 1)) (by decide +kernel) rfl ?_
  refine Ru.op (q := (.iload 4, 2)) (by decide +kernel) rfl ?_
  refine Ru.op (q := (.iconst 1, 1)) (by decide +kernel) rfl ?_
  refine Ru.op (q := (.iadd, 1)) (by decide +kernel) rfl ?_
  refine Ru.sld (L := 5) (k := 1) (v := s1) rfl rfl (by decide +kernel) (by decide +kernel) (by decide +kernel) rfl ?_
  refine Ru.br (k := .eq) (off := 7) (bb := false) (tg := 444) (by decide +kernel) (by decide +kernel) g0 (by decide +kernel) ?_
  refine Ru.op (q := (.iconst 1, 1)) (by decide +kernel) rfl ?_
  refine Ru.op (q := (.goto 4, 3)) (by decide +kernel) rfl ?_
  refine Ru.op (q := (.aload_n 0, 1)) (by decide +kernel) rfl ?_
  refine Ru.op (q := (.iload 4, 2)) (by decide +kernel) rfl ?_
  refine Ru.op (q := (.iconst 2, 1)) (by decide +kernel) rfl ?_
  refine Ru.op (q := (.iadd, 1)) (by decide +kernel) rfl ?_
  refine Ru.sld (L := 5) (k := 2) (v := s2) rfl rfl (by decide +kernel) (by decide +kernel) (by decide +kernel) rfl ?_
  refine Ru.call (q := (.invokevirtual 98, 3)) (by decide +kernel) rfl rfl rfl rfl ⟨Nat.le_of_ble_eq_true rfl, Nat.le_of_ble_eq_true rfl, Nat.le_of_ble_eq_true rfl, Nat.le_of_ble_eq_true rfl⟩ (p1_prt3_2 s1 s2 s3 s4 g1) ?_
  refine Ru.op (q := (.istore 6, 2)) (by decide +kernel) rfl ?_
  refine Ru.op (q := (.aload_n 2, 1)) (by decide +kernel) rfl ?_
  refine Ru.call (q := (.invokevirtual 68, 3)) (by decide +kernel) rfl rfl rfl rfl ⟨Nat.le_of_ble_eq_true rfl, Nat.le_of_ble_eq_true rfl, Nat.le_of_ble_eq_true rfl, Nat.le_of_ble_eq_true rfl⟩ (p1_prt3_3) ?_
  refine Ru.op (q := (.iload 5, 2)) (by decide +kernel) rfl ?_
  refine Ru.br2 (k := .eq) (off := 5) (bb := true) (tg := 471) (by decide +kernel) (by decide +kernel) (by decide +kernel) (by decide +kernel) ?_
  refine Ru.op (q := (.iload 5, 2)) (by decide +kernel) rfl ?_
  refine Ru.br (k := .ne) (off := 15) (bb := true) (tg := 488) (by decide +kernel) (by decide +kernel) (by decide +kernel) (by decide +kernel) ?_
  refine Ru.op (q := (.goto 363, 3)) (by decide +kernel) rfl ?_
  exact p1_tail rfl
def fh_out0_1 : mn_H := [(0, [.ref 1, .ref 13, .ref 28, .ref 30, .ref 35, .int 0, .int (-1)]), (1, [.ref 2, .int 0, .ref 3, .int 0, .int 0, .int 0, .ref 10, .ref 11, .int 0, .int 0, .int 0, .ref 12, .int 0]), (52, List.replicate 160 (.int 0)), (2, [.ref 4, .ref 5, .ref 6, .ref 7, .ref 8, .int 0, .ref 9, .int 0]), (50, List.replicate 160 (.int 0)), (50, List.replicate 160 (.int 0)), (50, List.replicate 160 (.int 0)), (50, List.replicate 160 (.int 0)), (50, List.replicate 160 (.int 0)), (50, List.replicate 1280 (.int 0)), (50, List.replicate 10 (.int 0)), (50, List.replicate 10 (.int 0)), (50, List.replicate 16 (.int 0)), (3, [.ref 14, .int 0, .int 0, .int 0, .int 0, .int 0, .int 0, .int (-1), .int 0, .ref 15, .ref 20, .ref 23, .ref 27]), (55, List.replicate 100 (.null)), (4, [.ref 16, .ref 19, .int 0, .int 0]), (5, [.ref 17, .ref 18, .int 0, .int 0]), (50, List.replicate 80 (.int 0)), (50, [.int 0, .int 0, .int 0, .int 0, .int 0]), (50, List.replicate 128 (.int 0)), (6, [.ref 21, .ref 22]), (50, List.replicate 32 (.int 0)), (50, List.replicate 32 (.int 0)), (7, [.ref 24, .ref 25, .ref 26]), (50, List.replicate 64 (.int 0)), (50, List.replicate 64 (.int 0)), (50, [.int 0, .int 0, .int 0, .int 0]), (51, List.replicate 100 (.int 0)), (8, [.ref 29, .int 0]), (52, List.replicate 128 (.int 0)), (4, [.ref 31, .ref 34, .int 0, .int 0]), (5, [.ref 32, .ref 33, .int 0, .int 0]), (50, List.replicate 80 (.int 0)), (50, [.int 0, .int 0, .int 0, .int 0, .int 0]), (50, List.replicate 128 (.int 0)), (54, List.replicate 24 (.null)), (10, [.int 0, .int (-1), .int 0, .ref 37, .ref 38, .ref 39, .ref 40, .ref 41, .ref 42, .int 0, .int 0, .ref 43, .ref 44, .ref 45, .int (-1), .int 0, .int 0, .int 0, .int 0, .int 0, .int 0, .ref 46, .int 0, .ref 47, .int 0, .ref 48, .ref 49, .int 0, .int 0, .int 0, .int 0, .ref 50, .ref 51, .ref 52, .int 0, .int 0, .int 0, .ref 53, .ref 54, .ref 55, .ref 56, .ref 57, .int 0, .int 0, .ref 58, .ref 59, .int 0, .ref 60, .ref 61, .ref 62, .ref 63, .ref 64, .ref 65, .ref 66, .ref 67, .ref 68, .int 0, .ref 69, .ref 70]), (50, List.replicate 160 (.int 0)), (50, List.replicate 8032 (.int 0)), (50, List.replicate 504 (.int 0)), (51, List.replicate 504 (.int 0)), (50, List.replicate 125 (.int 0)), (50, List.replicate 125 (.int 0)), (50, List.replicate 100 (.int 0)), (50, List.replicate 100 (.int 0)), (50, List.replicate 400 (.int 0)), (50, List.replicate 1024 (.int 0)), (50, List.replicate 128 (.int 0)), (50, List.replicate 100 (.int 0)), (51, List.replicate 100 (.int 0)), (50, List.replicate 50 (.int 0)), (50, List.replicate 50 (.int 0)), (51, List.replicate 50 (.int 0)), (50, List.replicate 16 (.int 0)), (50, List.replicate 10 (.int 0)), (51, List.replicate 10 (.int 0)), (51, List.replicate 10 (.int 0)), (50, List.replicate 10 (.int 0)), (50, List.replicate 300 (.int 0)), (50, List.replicate 2400 (.int 0)), (50, List.replicate 100 (.int 0)), (51, List.replicate 100 (.int 0)), (50, List.replicate 64 (.int 0)), (50, List.replicate 64 (.int 0)), (50, List.replicate 128 (.int 0)), (50, List.replicate 640 (.int 0)), (50, List.replicate 640 (.int 0)), (50, List.replicate 640 (.int 0)), (50, List.replicate 16 (.int 0)), (50, List.replicate 400 (.int 0)), (51, List.replicate 100 (.int 0)), (53, [.long 0]), (99, [])]
set_option maxRecDepth 100000 in
set_option maxHeartbeats 4000000 in
theorem p1_out0_0 (s1 s2 s3 s4 : Int32) (g0 : mn_cmp .lt s1 0 = true) : Ru none 2046 83956 83 (0, mn_pad (mn_ent [.ref 0, .int s1]) 2, [], 20574, fh_0) ((3, none), 20580, fh_out0_1) := by
  refine Ru.op (q := (.iload_n 1, 1)) (by decide +kernel) rfl ?_
  refine Ru.br (k := .lt) (off := 14) (bb := true) (tg := 15) (by decide +kernel) (by decide +kernel) g0 (by decide +kernel) ?_
  exact Ru.thr (q := (.new 108, 3)) (by decide +kernel) rfl rfl (by decide +kernel)
set_option maxRecDepth 100000 in
set_option maxHeartbeats 4000000 in
theorem p1_out0_1 (s1 s2 s3 s4 : Int32) (g0 : mn_cmp .lt s1 0 = true) : Ru none 2047 83977 167 (0, mn_pad (mn_ent [.ref 0, .int s1, .ref 71]) 4, [], 20574, fh_0) ((0, some (.int (Int32.ofInt 1))), 20580, fh_out0_1) := by
  refine Ru.op (q := (.aload_n 2, 1)) (by decide +kernel) rfl ?_
  refine Ru.op (q := (.iconst 0, 1)) (by decide +kernel) rfl ?_
  refine Ru.op (q := (.aload_n 0, 1)) (by decide +kernel) rfl ?_
  refine Ru.op (q := (.iload_n 1, 1)) (by decide +kernel) rfl ?_
  refine Ru.catch (i := 37) (j2 := 83) (k := 2) (hp := 12) (by decide +kernel) rfl rfl rfl rfl ⟨Nat.le_of_ble_eq_true rfl, Nat.le_of_ble_eq_true rfl, Nat.le_of_ble_eq_true rfl, Nat.le_of_ble_eq_true rfl⟩ (by decide +kernel) (p1_out0_0 s1 s2 s3 s4 g0) ?_
  refine Ru.op (q := (.astore_n 3, 1)) (by decide +kernel) rfl ?_
  refine Ru.op (q := (.iconst 1, 1)) (by decide +kernel) rfl ?_
  exact Ru.end (q := (.ireturn, 1)) (by decide +kernel) rfl rfl
def fh_out0_2 : mn_H := [(0, [.ref 1, .ref 13, .ref 28, .ref 30, .ref 35, .int 0, .int (-1)]), (1, [.ref 2, .int 0, .ref 3, .int 0, .int 0, .int 0, .ref 10, .ref 11, .int 0, .int 0, .int 0, .ref 12, .int 0]), (52, List.replicate 160 (.int 0)), (2, [.ref 4, .ref 5, .ref 6, .ref 7, .ref 8, .int 0, .ref 9, .int 0]), (50, List.replicate 160 (.int 0)), (50, List.replicate 160 (.int 0)), (50, List.replicate 160 (.int 0)), (50, List.replicate 160 (.int 0)), (50, List.replicate 160 (.int 0)), (50, List.replicate 1280 (.int 0)), (50, List.replicate 10 (.int 0)), (50, List.replicate 10 (.int 0)), (50, List.replicate 16 (.int 0)), (3, [.ref 14, .int 0, .int 0, .int 0, .int 0, .int 0, .int 0, .int (-1), .int 0, .ref 15, .ref 20, .ref 23, .ref 27]), (55, List.replicate 100 (.null)), (4, [.ref 16, .ref 19, .int 0, .int 0]), (5, [.ref 17, .ref 18, .int 0, .int 0]), (50, List.replicate 80 (.int 0)), (50, [.int 0, .int 0, .int 0, .int 0, .int 0]), (50, List.replicate 128 (.int 0)), (6, [.ref 21, .ref 22]), (50, List.replicate 32 (.int 0)), (50, List.replicate 32 (.int 0)), (7, [.ref 24, .ref 25, .ref 26]), (50, List.replicate 64 (.int 0)), (50, List.replicate 64 (.int 0)), (50, [.int 0, .int 0, .int 0, .int 0]), (51, List.replicate 100 (.int 0)), (8, [.ref 29, .int 0]), (52, List.replicate 128 (.int 0)), (4, [.ref 31, .ref 34, .int 0, .int 0]), (5, [.ref 32, .ref 33, .int 0, .int 0]), (50, List.replicate 80 (.int 0)), (50, [.int 0, .int 0, .int 0, .int 0, .int 0]), (50, List.replicate 128 (.int 0)), (54, List.replicate 24 (.null)), (10, [.int 1, .int (-1), .int 0, .ref 37, .ref 38, .ref 39, .ref 40, .ref 41, .ref 42, .int 0, .int 0, .ref 43, .ref 44, .ref 45, .int (-1), .int 0, .int 0, .int 0, .int 0, .int 0, .int 0, .ref 46, .int 0, .ref 47, .int 0, .ref 48, .ref 49, .int 0, .int 0, .int 0, .int 0, .ref 50, .ref 51, .ref 52, .int 0, .int 0, .int 0, .ref 53, .ref 54, .ref 55, .ref 56, .ref 57, .int 0, .int 0, .ref 58, .ref 59, .int 0, .ref 60, .ref 61, .ref 62, .ref 63, .ref 64, .ref 65, .ref 66, .ref 67, .ref 68, .int 0, .ref 69, .ref 70]), (50, List.replicate 160 (.int 0)), (50, List.replicate 8032 (.int 0)), (50, List.replicate 504 (.int 0)), (51, List.replicate 504 (.int 0)), (50, List.replicate 125 (.int 0)), (50, List.replicate 125 (.int 0)), (50, List.replicate 100 (.int 0)), (50, List.replicate 100 (.int 0)), (50, List.replicate 400 (.int 0)), (50, List.replicate 1024 (.int 0)), (50, List.replicate 128 (.int 0)), (50, List.replicate 100 (.int 0)), (51, List.replicate 100 (.int 0)), (50, List.replicate 50 (.int 0)), (50, List.replicate 50 (.int 0)), (51, List.replicate 50 (.int 0)), (50, List.replicate 16 (.int 0)), (50, List.replicate 10 (.int 0)), (51, List.replicate 10 (.int 0)), (51, List.replicate 10 (.int 0)), (50, List.replicate 10 (.int 0)), (50, List.replicate 300 (.int 0)), (50, List.replicate 2400 (.int 0)), (50, List.replicate 100 (.int 0)), (51, List.replicate 100 (.int 0)), (50, List.replicate 64 (.int 0)), (50, List.replicate 64 (.int 0)), (50, List.replicate 128 (.int 0)), (50, List.replicate 640 (.int 0)), (50, List.replicate 640 (.int 0)), (50, List.replicate 640 (.int 0)), (50, List.replicate 16 (.int 0)), (50, List.replicate 400 (.int 0)), (51, List.replicate 100 (.int 0)), (53, [.long 0]), (99, [])]
set_option maxRecDepth 100000 in
set_option maxHeartbeats 4000000 in
theorem p1_out0_2 (s1 s2 s3 s4 : Int32) (g0 : mn_cmp .lt s1 0 = true) : Ru none 2047 83979 153 (0, mn_pad (mn_ent [.ref 36, .int s1]) 2, [], 20580, fh_out0_1) ((0, some (.int (Int32.ofInt 0))), 20580, fh_out0_2) := by
  refine Ru.op (q := (.aload_n 0, 1)) (by decide +kernel) rfl ?_
  refine Ru.op (q := (.iload_n 1, 1)) (by decide +kernel) rfl ?_
  refine Ru.br (k := .lt) (off := 11) (bb := true) (tg := 13) (by decide +kernel) (by decide +kernel) g0 (by decide +kernel) ?_
  refine Ru.op (q := (.iconst 1, 1)) (by decide +kernel) rfl ?_
  refine Ru.op (q := (.goto 4, 3)) (by decide +kernel) rfl ?_
  refine Ru.op (q := (.putfield 120, 3)) (by decide +kernel) rfl ?_
  refine Ru.op (q := (.aload_n 0, 1)) (by decide +kernel) rfl ?_
  refine Ru.op (q := (.getfield 120, 3)) (by decide +kernel) rfl ?_
  refine Ru.br (k := .le) (off := 7) (bb := false) (tg := 28) (by decide +kernel) (by decide +kernel) (by decide +kernel) (by decide +kernel) ?_
  refine Ru.op (q := (.iconst 0, 1)) (by decide +kernel) rfl ?_
  refine Ru.op (q := (.goto 10, 3)) (by decide +kernel) rfl ?_
  exact Ru.end (q := (.ireturn, 1)) (by decide +kernel) rfl rfl
set_option maxRecDepth 100000 in
theorem p1_out0_3 : Ru none 2047 83980 94 (0, mn_pad (mn_ent [.ref 36]) 1, [], 20580, fh_out0_2) ((0, some (.int 1)), 20580, fh_out0_2) := Ru.of 5 (by decide +kernel)
set_option maxRecDepth 100000 in
set_option maxHeartbeats 4000000 in
theorem p1_out0 {s0 s1 s2 s3 s4 : Int32} (g0 : mn_cmp .lt s1 0 = true) : Ru (some [s0, s1, s2, s3, s4]) 2048 84000 172 (491, [some (.retAddr 0), some (.ref 0), some (.ref 36), some (.ref 71), some (.int 0), none, none], [], 20574, fh_0) ((0, some (.int 1)), 20580, fh_out0_2) := by
  refine Ru.op (q := (.aload_n 1, 1)) (by decide +kernel) rfl ?_
  refine Ru.op (q := (.aload_n 0, 1)) (by decide +kernel) rfl ?_
  refine Ru.op (q := (.iload 4, 2)) (by decide +kernel) rfl ?_
  refine Ru.op (q := (.iconst 1, 1)) (by decide +kernel) rfl ?_
  refine Ru.op (q := (.iadd, 1)) (by decide +kernel) rfl ?_
  refine Ru.sld (L := 5) (k := 1) (v := s1) rfl rfl (by decide +kernel) (by decide +kernel) (by decide +kernel) rfl ?_
  refine Ru.op (q := (.aload_n 3, 1)) (by decide +kernel) rfl ?_
  refine Ru.call (q := (.invokestatic 99, 3)) (by decide +kernel) rfl rfl rfl rfl ⟨Nat.le_of_ble_eq_true rfl, Nat.le_of_ble_eq_true rfl, Nat.le_of_ble_eq_true rfl, Nat.le_of_ble_eq_true rfl⟩ (p1_out0_1 s1 s2 s3 s4 g0) ?_
  refine Ru.op (q := (.istore 5, 2)) (by decide +kernel) rfl ?_
  refine Ru.op (q := (.aload_n 2, 1)) (by decide +kernel) rfl ?_
  refine Ru.op (q := (.aload_n 0, 1)) (by decide +kernel) rfl ?_
  refine Ru.op (q := (.iload 4, 2)) (by decide +kernel) rfl ?_
  refine Ru.op (q := (.iconst 1, 1)) (by decide +kernel) rfl ?_
  refine Ru.op (q := (.iadd, 1)) (by decide +kernel) rfl ?_
  refine Ru.sld (L := 5) (k := 1) (v := s1) rfl rfl (by decide +kernel) (by decide +kernel) (by decide +kernel) rfl ?_
  refine Ru.call (q := (.invokevirtual 101, 3)) (by decide +kernel) rfl rfl rfl rfl ⟨Nat.le_of_ble_eq_true rfl, Nat.le_of_ble_eq_true rfl, Nat.le_of_ble_eq_true rfl, Nat.le_of_ble_eq_true rfl⟩ (p1_out0_2 s1 s2 s3 s4 g0) ?_
  refine Ru.op (q := (.istore 6, 2)) (by decide +kernel) rfl ?_
  refine Ru.op (q := (.aload_n 2, 1)) (by decide +kernel) rfl ?_
  refine Ru.call (q := (.invokevirtual 68, 3)) (by decide +kernel) rfl rfl rfl rfl ⟨Nat.le_of_ble_eq_true rfl, Nat.le_of_ble_eq_true rfl, Nat.le_of_ble_eq_true rfl, Nat.le_of_ble_eq_true rfl⟩ (p1_out0_3) ?_
  refine Ru.op (q := (.iload 5, 2)) (by decide +kernel) rfl ?_
  refine Ru.br2 (k := .eq) (off := 5) (bb := true) (tg := 527) (by decide +kernel) (by decide +kernel) (by decide +kernel) (by decide +kernel) ?_
  refine Ru.op (q := (.iload 5, 2)) (by decide +kernel) rfl ?_
  refine Ru.br (k := .ne) (off := 15) (bb := true) (tg := 544) (by decide +kernel) (by decide +kernel) (by decide +kernel) (by decide +kernel) ?_
  refine Ru.op (q := (.goto 307, 3)) (by decide +kernel) rfl ?_
  exact p1_tail rfl
def fh_out1_1 : mn_H := [(0, [.ref 1, .ref 13, .ref 28, .ref 30, .ref 35, .int 0, .int (-1)]), (1, [.ref 2, .int 0, .ref 3, .int 0, .int 0, .int 0, .ref 10, .ref 11, .int 0, .int 0, .int 0, .ref 12, .int 0]), (52, List.replicate 160 (.int 0)), (2, [.ref 4, .ref 5, .ref 6, .ref 7, .ref 8, .int 0, .ref 9, .int 0]), (50, List.replicate 160 (.int 0)), (50, List.replicate 160 (.int 0)), (50, List.replicate 160 (.int 0)), (50, List.replicate 160 (.int 0)), (50, List.replicate 160 (.int 0)), (50, List.replicate 1280 (.int 0)), (50, List.replicate 10 (.int 0)), (50, List.replicate 10 (.int 0)), (50, List.replicate 16 (.int 0)), (3, [.ref 14, .int 0, .int 0, .int 0, .int 0, .int 0, .int 0, .int (-1), .int 0, .ref 15, .ref 20, .ref 23, .ref 27]), (55, List.replicate 100 (.null)), (4, [.ref 16, .ref 19, .int 0, .int 0]), (5, [.ref 17, .ref 18, .int 0, .int 0]), (50, List.replicate 80 (.int 0)), (50, [.int 0, .int 0, .int 0, .int 0, .int 0]), (50, List.replicate 128 (.int 0)), (6, [.ref 21, .ref 22]), (50, List.replicate 32 (.int 0)), (50, List.replicate 32 (.int 0)), (7, [.ref 24, .ref 25, .ref 26]), (50, List.replicate 64 (.int 0)), (50, List.replicate 64 (.int 0)), (50, [.int 0, .int 0, .int 0, .int 0]), (51, List.replicate 100 (.int 0)), (8, [.ref 29, .int 0]), (52, List.replicate 128 (.int 0)), (4, [.ref 31, .ref 34, .int 0, .int 0]), (5, [.ref 32, .ref 33, .int 0, .int 0]), (50, List.replicate 80 (.int 0)), (50, [.int 0, .int 0, .int 0, .int 0, .int 0]), (50, List.replicate 128 (.int 0)), (54, List.replicate 24 (.null)), (10, [.int 0, .int (-1), .int 0, .ref 37, .ref 38, .ref 39, .ref 40, .ref 41, .ref 42, .int 0, .int 0, .ref 43, .ref 44, .ref 45, .int (-1), .int 0, .int 0, .int 0, .int 0, .int 0, .int 0, .ref 46, .int 0, .ref 47, .int 0, .ref 48, .ref 49, .int 0, .int 0, .int 0, .int 0, .ref 50, .ref 51, .ref 52, .int 0, .int 0, .int 0, .ref 53, .ref 54, .ref 55, .ref 56, .ref 57, .int 0, .int 0, .ref 58, .ref 59, .int 0, .ref 60, .ref 61, .ref 62, .ref 63, .ref 64, .ref 65, .ref 66, .ref 67, .ref 68, .int 0, .ref 69, .ref 70]), (50, List.replicate 160 (.int 0)), (50, List.replicate 8032 (.int 0)), (50, List.replicate 504 (.int 0)), (51, List.replicate 504 (.int 0)), (50, List.replicate 125 (.int 0)), (50, List.replicate 125 (.int 0)), (50, List.replicate 100 (.int 0)), (50, List.replicate 100 (.int 0)), (50, List.replicate 400 (.int 0)), (50, List.replicate 1024 (.int 0)), (50, List.replicate 128 (.int 0)), (50, List.replicate 100 (.int 0)), (51, List.replicate 100 (.int 0)), (50, List.replicate 50 (.int 0)), (50, List.replicate 50 (.int 0)), (51, List.replicate 50 (.int 0)), (50, List.replicate 16 (.int 0)), (50, List.replicate 10 (.int 0)), (51, List.replicate 10 (.int 0)), (51, List.replicate 10 (.int 0)), (50, List.replicate 10 (.int 0)), (50, List.replicate 300 (.int 0)), (50, List.replicate 2400 (.int 0)), (50, List.replicate 100 (.int 0)), (51, List.replicate 100 (.int 0)), (50, List.replicate 64 (.int 0)), (50, List.replicate 64 (.int 0)), (50, List.replicate 128 (.int 0)), (50, List.replicate 640 (.int 0)), (50, List.replicate 640 (.int 0)), (50, List.replicate 640 (.int 0)), (50, List.replicate 16 (.int 0)), (50, List.replicate 400 (.int 0)), (51, List.replicate 100 (.int 0)), (53, [.long 0]), (99, [])]
set_option maxRecDepth 100000 in
set_option maxHeartbeats 4000000 in
theorem p1_out1_0 (s1 s2 s3 s4 : Int32) (g0 : mn_cmp .lt s1 0 = false) : Ru none 2046 83956 83 (0, mn_pad (mn_ent [.ref 0, .int s1]) 2, [], 20574, fh_0) ((3, none), 20580, fh_out1_1) := by
  refine Ru.op (q := (.iload_n 1, 1)) (by decide +kernel) rfl ?_
  refine Ru.br (k := .lt) (off := 14) (bb := false) (tg := 4) (by decide +kernel) (by decide +kernel) g0 (by decide +kernel) ?_
  refine Ru.op (q := (.iload_n 1, 1)) (by decide +kernel) rfl ?_
  refine Ru.op (q := (.aload_n 0, 1)) (by decide +kernel) rfl ?_
  refine Ru.op (q := (.getfield 26, 3)) (by decide +kernel) rfl ?_
  refine Ru.op (q := (.getfield 125, 3)) (by decide +kernel) rfl ?_
  refine Ru.br2 (k := .lt) (off := 11) (bb := false) (tg := 15) (by decide +kernel) (by decide +kernel) g0 (by decide +kernel) ?_
  exact Ru.thr (q := (.new 108, 3)) (by decide +kernel) rfl rfl (by decide +kernel)
set_option maxRecDepth 100000 in
set_option maxHeartbeats 4000000 in
theorem p1_out1_1 (s1 s2 s3 s4 : Int32) (g0 : mn_cmp .lt s1 0 = false) : Ru none 2047 83977 167 (0, mn_pad (mn_ent [.ref 0, .int s1, .ref 71]) 4, [], 20574, fh_0) ((0, some (.int (Int32.ofInt 1))), 20580, fh_out1_1) := by
  refine Ru.op (q := (.aload_n 2, 1)) (by decide +kernel) rfl ?_
  refine Ru.op (q := (.iconst 0, 1)) (by decide +kernel) rfl ?_
  refine Ru.op (q := (.aload_n 0, 1)) (by decide +kernel) rfl ?_
  refine Ru.op (q := (.iload_n 1, 1)) (by decide +kernel) rfl ?_
  refine Ru.catch (i := 37) (j2 := 83) (k := 2) (hp := 12) (by decide +kernel) rfl rfl rfl rfl ⟨Nat.le_of_ble_eq_true rfl, Nat.le_of_ble_eq_true rfl, Nat.le_of_ble_eq_true rfl, Nat.le_of_ble_eq_true rfl⟩ (by decide +kernel) (p1_out1_0 s1 s2 s3 s4 g0) ?_
  refine Ru.op (q := (.astore_n 3, 1)) (by decide +kernel) rfl ?_
  refine Ru.op (q := (.iconst 1, 1)) (by decide +kernel) rfl ?_
  exact Ru.end (q := (.ireturn, 1)) (by decide +kernel) rfl rfl
def fh_out1_2 : mn_H := [(0, [.ref 1, .ref 13, .ref 28, .ref 30, .ref 35, .int 0, .int (-1)]), (1, [.ref 2, .int 0, .ref 3, .int 0, .int 0, .int 0, .ref 10, .ref 11, .int 0, .int 0, .int 0, .ref 12, .int 0]), (52, List.replicate 160 (.int 0)), (2, [.ref 4, .ref 5, .ref 6, .ref 7, .ref 8, .int 0, .ref 9, .int 0]), (50, List.replicate 160 (.int 0)), (50, List.replicate 160 (.int 0)), (50, List.replicate 160 (.int 0)), (50, List.replicate 160 (.int 0)), (50, List.replicate 160 (.int 0)), (50, List.replicate 1280 (.int 0)), (50, List.replicate 10 (.int 0)), (50, List.replicate 10 (.int 0)), (50, List.replicate 16 (.int 0)), (3, [.ref 14, .int 0, .int 0, .int 0, .int 0, .int 0, .int 0, .int (-1), .int 0, .ref 15, .ref 20, .ref 23, .ref 27]), (55, List.replicate 100 (.null)), (4, [.ref 16, .ref 19, .int 0, .int 0]), (5, [.ref 17, .ref 18, .int 0, .int 0]), (50, List.replicate 80 (.int 0)), (50, [.int 0, .int 0, .int 0, .int 0, .int 0]), (50, List.replicate 128 (.int 0)), (6, [.ref 21, .ref 22]), (50, List.replicate 32 (.int 0)), (50, List.replicate 32 (.int 0)), (7, [.ref 24, .ref 25, .ref 26]), (50, List.replicate 64 (.int 0)), (50, List.replicate 64 (.int 0)), (50, [.int 0, .int 0, .int 0, .int 0]), (51, List.replicate 100 (.int 0)), (8, [.ref 29, .int 0]), (52, List.replicate 128 (.int 0)), (4, [.ref 31, .ref 34, .int 0, .int 0]), (5, [.ref 32, .ref 33, .int 0, .int 0]), (50, List.replicate 80 (.int 0)), (50, [.int 0, .int 0, .int 0, .int 0, .int 0]), (50, List.replicate 128 (.int 0)), (54, List.replicate 24 (.null)), (10, [.int 1, .int (-1), .int 0, .ref 37, .ref 38, .ref 39, .ref 40, .ref 41, .ref 42, .int 0, .int 0, .ref 43, .ref 44, .ref 45, .int (-1), .int 0, .int 0, .int 0, .int 0, .int 0, .int 0, .ref 46, .int 0, .ref 47, .int 0, .ref 48, .ref 49, .int 0, .int 0, .int 0, .int 0, .ref 50, .ref 51, .ref 52, .int 0, .int 0, .int 0, .ref 53, .ref 54, .ref 55, .ref 56, .ref 57, .int 0, .int 0, .ref 58, .ref 59, .int 0, .ref 60, .ref 61, .ref 62, .ref 63, .ref 64, .ref 65, .ref 66, .ref 67, .ref 68, .int 0, .ref 69, .ref 70]), (50, List.replicate 160 (.int 0)), (50, List.replicate 8032 (.int 0)), (50, List.replicate 504 (.int 0)), (51, List.replicate 504 (.int 0)), (50, List.replicate 125 (.int 0)), (50, List.replicate 125 (.int 0)), (50, List.replicate 100 (.int 0)), (50, List.replicate 100 (.int 0)), (50, List.replicate 400 (.int 0)), (50, List.replicate 1024 (.int 0)), (50, List.replicate 128 (.int 0)), (50, List.replicate 100 (.int 0)), (51, List.replicate 100 (.int 0)), (50, List.replicate 50 (.int 0)), (50, List.replicate 50 (.int 0)), (51, List.replicate 50 (.int 0)), (50, List.replicate 16 (.int 0)), (50, List.replicate 10 (.int 0)), (51, List.replicate 10 (.int 0)), (51, List.replicate 10 (.int 0)), (50, List.replicate 10 (.int 0)), (50, List.replicate 300 (.int 0)), (50, List.replicate 2400 (.int 0)), (50, List.replicate 100 (.int 0)), (51, List.replicate 100 (.int 0)), (50, List.replicate 64 (.int 0)), (50, List.replicate 64 (.int 0)), (50, List.replicate 128 (.int 0)), (50, List.replicate 640 (.int 0)), (50, List.replicate 640 (.int 0)), (50, List.replicate 640 (.int 0)), (50, List.replicate 16 (.int 0)), (50, List.replicate 400 (.int 0)), (51, List.replicate 100 (.int 0)), (53, [.long 0]), (99, [])]
set_option maxRecDepth 100000 in
set_option maxHeartbeats 4000000 in
theorem p1_out1_2 (s1 s2 s3 s4 : Int32) (g0 : mn_cmp .lt s1 0 = false) : Ru none 2047 83979 153 (0, mn_pad (mn_ent [.ref 36, .int s1]) 2, [], 20580, fh_out1_1) ((0, some (.int (Int32.ofInt 0))), 20580, fh_out1_2) := by
  refine Ru.op (q := (.aload_n 0, 1)) (by decide +kernel) rfl ?_
  refine Ru.op (q := (.iload_n 1, 1)) (by decide +kernel) rfl ?_
  refine Ru.br (k := .lt) (off := 11) (bb := false) (tg := 5) (by decide +kernel) (by decide +kernel) g0 (by decide +kernel) ?_
  refine Ru.op (q := (.iload_n 1, 1)) (by decide +kernel) rfl ?_
  refine Ru.op (q := (.aload_n 0, 1)) (by decide +kernel) rfl ?_
  refine Ru.op (q := (.getfield 344, 3)) (by decide +kernel) rfl ?_
  refine Ru.br2 (k := .lt) (off := 7) (bb := false) (tg := 13) (by decide +kernel) (by decide +kernel) g0 (by decide +kernel) ?_
  refine Ru.op (q := (.iconst 1, 1)) (by decide +kernel) rfl ?_
  refine Ru.op (q := (.goto 4, 3)) (by decide +kernel) rfl ?_
  refine Ru.op (q := (.putfield 120, 3)) (by decide +kernel) rfl ?_
  refine Ru.op (q := (.aload_n 0, 1)) (by decide +kernel) rfl ?_
  refine Ru.op (q := (.getfield 120, 3)) (by decide +kernel) rfl ?_
  refine Ru.br (k := .le) (off := 7) (bb := false) (tg := 28) (by decide +kernel) (by decide +kernel) (by decide +kernel) (by decide +kernel) ?_
  refine Ru.op (q := (.iconst 0, 1)) (by decide +kernel) rfl ?_
  refine Ru.op (q := (.goto 10, 3)) (by decide +kernel) rfl ?_
  exact Ru.end (q := (.ireturn, 1)) (by decide +kernel) rfl rfl
set_option maxRecDepth 100000 in
theorem p1_out1_3 : Ru none 2047 83980 94 (0, mn_pad (mn_ent [.ref 36]) 1, [], 20580, fh_out1_2) ((0, some (.int 1)), 20580, fh_out1_2) := Ru.of 5 (by decide +kernel)
set_option maxRecDepth 100000 in
set_option maxHeartbeats 4000000 in
theorem p1_out1 {s0 s1 s2 s3 s4 : Int32} (g0 : mn_cmp .lt s1 0 = false) : Ru (some [s0, s1, s2, s3, s4]) 2048 84000 172 (491, [some (.retAddr 0), some (.ref 0), some (.ref 36), some (.ref 71), some (.int 0), none, none], [], 20574, fh_0) ((0, some (.int 1)), 20580, fh_out1_2) := by
  refine Ru.op (q := (.aload_n 1, 1)) (by decide +kernel) rfl ?_
  refine Ru.op (q := (.aload_n 0, 1)) (by decide +kernel) rfl ?_
  refine Ru.op (q := (.iload 4, 2)) (by decide +kernel) rfl ?_
  refine Ru.op (q := (.iconst 1, 1)) (by decide +kernel) rfl ?_
  refine Ru.op (q := (.iadd, 1)) (by decide +kernel) rfl ?_
  refine Ru.sld (L := 5) (k := 1) (v := s1) rfl rfl (by decide +kernel) (by decide +kernel) (by decide +kernel) rfl ?_
  refine Ru.op (q := (.aload_n 3, 1)) (by decide +kernel) rfl ?_
  refine Ru.call (q := (.invokestatic 99, 3)) (by decide +kernel) rfl rfl rfl rfl ⟨Nat.le_of_ble_eq_true rfl, Nat.le_of_ble_eq_true rfl, Nat.le_of_ble_eq_true rfl, Nat.le_of_ble_eq_true rfl⟩ (p1_out1_1 s1 s2 s3 s4 g0) ?_
  refine Ru.op (q := (.istore 5, 2)) (by decide +kernel) rfl ?_
  refine Ru.op (q := (.aload_n 2, 1)) (by decide +kernel) rfl ?_
  refine Ru.op (q := (.aload_n 0, 1)) (by decide +kernel) rfl ?_
  refine Ru.op (q := (.iload 4, 2)) (by decide +kernel) rfl ?_
  refine Ru.op (q := (.iconst 1, 1)) (by decide +kernel) rfl ?_
  refine Ru.op (q := (.iadd, 1)) (by decide +kernel) rfl ?_
  refine Ru.sld (L := 5) (k := 1) (v := s1) rfl rfl (by decide +kernel) (by decide +kernel) (by decide +kernel) rfl ?_
  refine Ru.call (q := (.invokevirtual 101, 3)) (by decide +kernel) rfl rfl rfl rfl ⟨Nat.le_of_ble_eq_true rfl, Nat.le_of_ble_eq_true rfl, Nat.le_of_ble_eq_true rfl, Nat.le_of_ble_eq_true rfl⟩ (p1_out1_2 s1 s2 s3 s4 g0) ?_
  refine Ru.op (q := (.istore 6, 2)) (by decide +kernel) rfl ?_
  refine Ru.op (q := (.aload_n 2, 1)) (by decide +kernel) rfl ?_
  refine Ru.call (q := (.invokevirtual 68, 3)) (by decide +kernel) rfl rfl rfl rfl ⟨Nat.le_of_ble_eq_true rfl, Nat.le_of_ble_eq_true rfl, Nat.le_of_ble_eq_true rfl, Nat.le_of_ble_eq_true rfl⟩ (p1_out1_3) ?_
  refine Ru.op (q := (.iload 5, 2)) (by decide +kernel) rfl ?_
  refine Ru.br2 (k := .eq) (off := 5) (bb := true) (tg := 527) (by decide +kernel) (by decide +kernel) (by decide +kernel) (by decide +kernel) ?_
  refine Ru.op (q := (.iload 5, 2)) (by decide +kernel) rfl ?_
  refine Ru.br (k := .ne) (off := 15) (bb := true) (tg := 544) (by decide +kernel) (by decide +kernel) (by decide +kernel) (by decide +kernel) ?_
  refine Ru.op (q := (.goto 307, 3)) (by decide +kernel) rfl ?_
  exact p1_tail rfl
