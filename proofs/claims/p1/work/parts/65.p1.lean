set_option maxRecDepth 100000 in
theorem p1_fig6_0 : Ru none 2047 83977 171 (0, mn_pad (mn_ent [.ref 0, .int 6, .ref 71]) 4, [], 20574, fh_0) ((0, some (.int 0)), 20574, fh_0) := Ru.of 18 (by decide +kernel)
set_option maxRecDepth 100000 in
theorem p1_fig6_1 : Ru none 2047 83979 157 (0, mn_pad (mn_ent [.ref 36, .int 6]) 2, [], 20574, fh_0) ((0, some (.int 0)), 20574, fh_0) := Ru.of 15 (by decide +kernel)
set_option maxRecDepth 100000 in
theorem p1_fig6_2 : Ru none 2047 83980 94 (0, mn_pad (mn_ent [.ref 36]) 1, [], 20574, fh_0) ((0, some (.int 0)), 20574, fh_0) := Ru.of 5 (by decide +kernel)
set_option maxRecDepth 100000 in
set_option maxHeartbeats 4000000 in
theorem p1_fig6 {s0 s2 s3 s4 : Int32} : Ru (some [s0, 6, s2, s3, s4]) 2048 84000 172 (795, [some (.retAddr 0), some (.ref 0), some (.ref 36), some (.ref 71), some (.int 0), none, none], [], 20574, fh_0) ((0, some (.int 1)), 20574, fh_0) := by
  refine Ru.op (q := (.aload_n 1, 1)) (by decide +kernel) rfl ?_
  refine Ru.op (q := (.aload_n 0, 1)) (by decide +kernel) rfl ?_
  refine Ru.op (q := (.iload 4, 2)) (by decide +kernel) rfl ?_
  refine Ru.op (q := (.iconst 1, 1)) (by decide +kernel) rfl ?_
  refine Ru.op (q := (.iadd, 1)) (by decide +kernel) rfl ?_
  refine Ru.sld (L := 5) (k := 1) (v := 6) rfl rfl (by decide +kernel) (by decide +kernel) (by decide +kernel) rfl ?_
  refine Ru.op (q := (.aload_n 3, 1)) (by decide +kernel) rfl ?_
  refine Ru.call (q := (.invokestatic 117, 3)) (by decide +kernel) rfl rfl rfl rfl ⟨Nat.le_of_ble_eq_true rfl, Nat.le_of_ble_eq_true rfl, Nat.le_of_ble_eq_true rfl, Nat.le_of_ble_eq_true rfl⟩ (p1_fig6_0) ?_
  refine Ru.op (q := (.istore 5, 2)) (by decide +kernel) rfl ?_
  refine Ru.op (q := (.aload_n 2, 1)) (by decide +kernel) rfl ?_
  refine Ru.op (q := (.aload_n 0, 1)) (by decide +kernel) rfl ?_
  refine Ru.op (q := (.iload 4, 2)) (by decide +kernel) rfl ?_
  refine Ru.op (q := (.iconst 1, 1)) (by decide +kernel) rfl ?_
  refine Ru.op (q := (.iadd, 1)) (by decide +kernel) rfl ?_
  refine Ru.sld (L := 5) (k := 1) (v := 6) rfl rfl (by decide +kernel) (by decide +kernel) (by decide +kernel) rfl ?_
  refine Ru.call (q := (.invokevirtual 119, 3)) (by decide +kernel) rfl rfl rfl rfl ⟨Nat.le_of_ble_eq_true rfl, Nat.le_of_ble_eq_true rfl, Nat.le_of_ble_eq_true rfl, Nat.le_of_ble_eq_true rfl⟩ (p1_fig6_1) ?_
  refine Ru.op (q := (.istore 6, 2)) (by decide +kernel) rfl ?_
  refine Ru.op (q := (.aload_n 2, 1)) (by decide +kernel) rfl ?_
  refine Ru.call (q := (.invokevirtual 68, 3)) (by decide +kernel) rfl rfl rfl rfl ⟨Nat.le_of_ble_eq_true rfl, Nat.le_of_ble_eq_true rfl, Nat.le_of_ble_eq_true rfl, Nat.le_of_ble_eq_true rfl⟩ (p1_fig6_2) ?_
  refine Ru.op (q := (.iload 5, 2)) (by decide +kernel) rfl ?_
  refine Ru.br2 (k := .eq) (off := 5) (bb := true) (tg := 831) (by decide +kernel) (by decide +kernel) (by decide +kernel) (by decide +kernel) ?_
  refine Ru.op (q := (.iload 5, 2)) (by decide +kernel) rfl ?_
  refine Ru.br (k := .ne) (off := 15) (bb := false) (tg := 836) (by decide +kernel) (by decide +kernel) (by decide +kernel) (by decide +kernel) ?_
  refine Ru.op (q := (.aload_n 3, 1)) (by decide +kernel) rfl ?_
  refine Ru.op (q := (.iconst 0, 1)) (by decide +kernel) rfl ?_
  refine Ru.op (q := (.laload, 1)) (by decide +kernel) rfl ?_
  refine Ru.op (q := (.iload 6, 2)) (by decide +kernel) rfl ?_
  refine Ru.op (q := (.i2l, 1)) (by decide +kernel) rfl ?_
  refine Ru.op (q := (.lcmp, 1)) (by decide +kernel) rfl ?_
  refine Ru.br (k := .eq) (off := 5) (bb := true) (tg := 848) (by decide +kernel) (by decide +kernel) (by decide +kernel) (by decide +kernel) ?_
  refine Ru.op (q := (.goto 3, 3)) (by decide +kernel) rfl ?_
  exact p1_tail rfl
set_option maxRecDepth 100000 in
theorem p1_fig7_0 : Ru none 2047 83977 171 (0, mn_pad (mn_ent [.ref 0, .int 7, .ref 71]) 4, [], 20574, fh_0) ((0, some (.int 0)), 20574, fh_0) := Ru.of 18 (by decide +kernel)
set_option maxRecDepth 100000 in
theorem p1_fig7_1 : Ru none 2047 83979 157 (0, mn_pad (mn_ent [.ref 36, .int 7]) 2, [], 20574, fh_0) ((0, some (.int 0)), 20574, fh_0) := Ru.of 15 (by decide +kernel)
set_option maxRecDepth 100000 in
theorem p1_fig7_2 : Ru none 2047 83980 94 (0, mn_pad (mn_ent [.ref 36]) 1, [], 20574, fh_0) ((0, some (.int 0)), 20574, fh_0) := Ru.of 5 (by decide +kernel)
set_option maxRecDepth 100000 in
set_option maxHeartbeats 4000000 in
theorem p1_fig7 {s0 s2 s3 s4 : Int32} : Ru (some [s0, 7, s2, s3, s4]) 2048 84000 172 (795, [some (.retAddr 0), some (.ref 0), some (.ref 36), some (.ref 71), some (.int 0), none, none], [], 20574, fh_0) ((0, some (.int 1)), 20574, fh_0) := by
  refine Ru.op (q := (.aload_n 1, 1)) (by decide +kernel) rfl ?_
  refine Ru.op (q := (.aload_n 0, 1)) (by decide +kernel) rfl ?_
  refine Ru.op (q := (.iload 4, 2)) (by decide +kernel) rfl ?_
  refine Ru.op (q := (.iconst 1, 1)) (by decide +kernel) rfl ?_
  refine Ru.op (q := (.iadd, 1)) (by decide +kernel) rfl ?_
  refine Ru.sld (L := 5) (k := 1) (v := 7) rfl rfl (by decide +kernel) (by decide +kernel) (by decide +kernel) rfl ?_
  refine Ru.op (q := (.aload_n 3, 1)) (by decide +kernel) rfl ?_
  refine Ru.call (q := (.invokestatic 117, 3)) (by decide +kernel) rfl rfl rfl rfl ⟨Nat.le_of_ble_eq_true rfl, Nat.le_of_ble_eq_true rfl, Nat.le_of_ble_eq_true rfl, Nat.le_of_ble_eq_true rfl⟩ (p1_fig7_0) ?_
  refine Ru.op (q := (.istore 5, 2)) (by decide +kernel) rfl ?_
  refine Ru.op (q := (.aload_n 2, 1)) (by decide +kernel) rfl ?_
  refine Ru.op (q := (.aload_n 0, 1)) (by decide +kernel) rfl ?_
  refine Ru.op (q := (.iload 4, 2)) (by decide +kernel) rfl ?_
  refine Ru.op (q := (.iconst 1, 1)) (by decide +kernel) rfl ?_
  refine Ru.op (q := (.iadd, 1)) (by decide +kernel) rfl ?_
  refine Ru.sld (L := 5) (k := 1) (v := 7) rfl rfl (by decide +kernel) (by decide +kernel) (by decide +kernel) rfl ?_
  refine Ru.call (q := (.invokevirtual 119, 3)) (by decide +kernel) rfl rfl rfl rfl ⟨Nat.le_of_ble_eq_true rfl, Nat.le_of_ble_eq_true rfl, Nat.le_of_ble_eq_true rfl, Nat.le_of_ble_eq_true rfl⟩ (p1_fig7_1) ?_
  refine Ru.op (q := (.istore 6, 2)) (by decide +kernel) rfl ?_
  refine Ru.op (q := (.aload_n 2, 1)) (by decide +kernel) rfl ?_
  refine Ru.call (q := (.invokevirtual 68, 3)) (by decide +kernel) rfl rfl rfl rfl ⟨Nat.le_of_ble_eq_true rfl, Nat.le_of_ble_eq_true rfl, Nat.le_of_ble_eq_true rfl, Nat.le_of_ble_eq_true rfl⟩ (p1_fig7_2) ?_
  refine Ru.op (q := (.iload 5, 2)) (by decide +kernel) rfl ?_
  refine Ru.br2 (k := .eq) (off := 5) (bb := true) (tg := 831) (by decide +kernel) (by decide +kernel) (by decide +kernel) (by decide +kernel) ?_
  refine Ru.op (q := (.iload 5, 2)) (by decide +kernel) rfl ?_
  refine Ru.br (k := .ne) (off := 15) (bb := false) (tg := 836) (by decide +kernel) (by decide +kernel) (by decide +kernel) (by decide +kernel) ?_
  refine Ru.op (q := (.aload_n 3, 1)) (by decide +kernel) rfl ?_
  refine Ru.op (q := (.iconst 0, 1)) (by decide +kernel) rfl ?_
  refine Ru.op (q := (.laload, 1)) (by decide +kernel) rfl ?_
  refine Ru.op (q := (.iload 6, 2)) (by decide +kernel) rfl ?_
  refine Ru.op (q := (.i2l, 1)) (by decide +kernel) rfl ?_
  refine Ru.op (q := (.lcmp, 1)) (by decide +kernel) rfl ?_
  refine Ru.br (k := .eq) (off := 5) (bb := true) (tg := 848) (by decide +kernel) (by decide +kernel) (by decide +kernel) (by decide +kernel) ?_
  refine Ru.op (q := (.goto 3, 3)) (by decide +kernel) rfl ?_
  exact p1_tail rfl
set_option maxRecDepth 100000 in
theorem p1_fig8_0 : Ru none 2047 83977 171 (0, mn_pad (mn_ent [.ref 0, .int 8, .ref 71]) 4, [], 20574, fh_0) ((0, some (.int 0)), 20574, fh_0) := Ru.of 17 (by decide +kernel)
set_option maxRecDepth 100000 in
theorem p1_fig8_1 : Ru none 2047 83979 157 (0, mn_pad (mn_ent [.ref 36, .int 8]) 2, [], 20574, fh_0) ((0, some (.int 0)), 20574, fh_0) := Ru.of 15 (by decide +kernel)
set_option maxRecDepth 100000 in
theorem p1_fig8_2 : Ru none 2047 83980 94 (0, mn_pad (mn_ent [.ref 36]) 1, [], 20574, fh_0) ((0, some (.int 0)), 20574, fh_0) := Ru.of 5 (by decide +kernel)
set_option maxRecDepth 100000 in
set_option maxHeartbeats 4000000 in
theorem p1_fig8 {s0 s2 s3 s4 : Int32} : Ru (some [s0, 8, s2, s3, s4]) 2048 84000 172 (795, [some (.retAddr 0), some (.ref 0), some (.ref 36), some (.ref 71), some (.int 0), none, none], [], 20574, fh_0) ((0, some (.int 1)), 20574, fh_0) := by
  refine Ru.op (q := (.aload_n 1, 1)) (by decide +kernel) rfl ?_
  refine Ru.op (q := (.aload_n 0, 1)) (by decide +kernel) rfl ?_
  refine Ru.op (q := (.iload 4, 2)) (by decide +kernel) rfl ?_
  refine Ru.op (q := (.iconst 1, 1)) (by decide +kernel) rfl ?_
  refine Ru.op (q := (.iadd, 1)) (by decide +kernel) rfl ?_
  refine Ru.sld (L := 5) (k := 1) (v := 8) rfl rfl (by decide +kernel) (by decide +kernel) (by decide +kernel) rfl ?_
  refine Ru.op (q := (.aload_n 3, 1)) (by decide +kernel) rfl ?_
  refine Ru.call (q := (.invokestatic 117, 3)) (by decide +kernel) rfl rfl rfl rfl ⟨Nat.le_of_ble_eq_true rfl, Nat.le_of_ble_eq_true rfl, Nat.le_of_ble_eq_true rfl, Nat.le_of_ble_eq_true rfl⟩ (p1_fig8_0) ?_
  refine Ru.op (q := (.istore 5, 2)) (by decide +kernel) rfl ?_
  refine Ru.op (q := (.aload_n 2, 1)) (by decide +kernel) rfl ?_
  refine Ru.op (q := (.aload_n 0, 1)) (by decide +kernel) rfl ?_
  refine Ru.op (q := (.iload 4, 2)) (by decide +kernel) rfl ?_
  refine Ru.op (q := (.iconst 1, 1)) (by decide +kernel) rfl ?_
  refine Ru.op (q := (.iadd, 1)) (by decide +kernel) rfl ?_
  refine Ru.sld (L := 5) (k := 1) (v := 8) rfl rfl (by decide +kernel) (by decide +kernel) (by decide +kernel) rfl ?_
  refine Ru.call (q := (.invokevirtual 119, 3)) (by decide +kernel) rfl rfl rfl rfl ⟨Nat.le_of_ble_eq_true rfl, Nat.le_of_ble_eq_true rfl, Nat.le_of_ble_eq_true rfl, Nat.le_of_ble_eq_true rfl⟩ (p1_fig8_1) ?_
  refine Ru.op (q := (.istore 6, 2)) (by decide +kernel) rfl ?_
  refine Ru.op (q := (.aload_n 2, 1)) (by decide +kernel) rfl ?_
  refine Ru.call (q := (.invokevirtual 68, 3)) (by decide +kernel) rfl rfl rfl rfl ⟨Nat.le_of_ble_eq_true rfl, Nat.le_of_ble_eq_true rfl, Nat.le_of_ble_eq_true rfl, Nat.le_of_ble_eq_true rfl⟩ (p1_fig8_2) ?_
  refine Ru.op (q := (.iload 5, 2)) (by decide +kernel) rfl ?_
  refine Ru.br2 (k := .eq) (off := 5) (bb := true) (tg := 831) (by decide +kernel) (by decide +kernel) (by decide +kernel) (by decide +kernel) ?_
  refine Ru.op (q := (.iload 5, 2)) (by decide +kernel) rfl ?_
  refine Ru.br (k := .ne) (off := 15) (bb := false) (tg := 836) (by decide +kernel) (by decide +kernel) (by decide +kernel) (by decide +kernel) ?_
  refine Ru.op (q := (.aload_n 3, 1)) (by decide +kernel) rfl ?_
  refine Ru.op (q := (.iconst 0, 1)) (by decide +kernel) rfl ?_
  refine Ru.op (q := (.laload, 1)) (by decide +kernel) rfl ?_
  refine Ru.op (q := (.iload 6, 2)) (by decide +kernel) rfl ?_
  refine Ru.op (q := (.i2l, 1)) (by decide +kernel) rfl ?_
  refine Ru.op (q := (.lcmp, 1)) (by decide +kernel) rfl ?_
  refine Ru.br (k := .eq) (off := 5) (bb := true) (tg := 848) (by decide +kernel) (by decide +kernel) (by decide +kernel) (by decide +kernel) ?_
  refine Ru.op (q := (.goto 3, 3)) (by decide +kernel) rfl ?_
  exact p1_tail rfl
def fh_figa_1 : mn_H := [(0, [.ref 1, .ref 13, .ref 28, .ref 30, .ref 35, .int 0, .int (-1)]), (1, [.ref 2, .int 0, .ref 3, .int 0, .int 0, .int 0, .ref 10, .ref 11, .int 0, .int 0, .int 0, .ref 12, .int 0]), (52, List.replicate 160 (.int 0)), (2, [.ref 4, .ref 5, .ref 6, .ref 7, .ref 8, .int 0, .ref 9, .int 0]), (50, List.replicate 160 (.int 0)), (50, List.replicate 160 (.int 0)), (50, List.replicate 160 (.int 0)), (50, List.replicate 160 (.int 0)), (50, List.replicate 160 (.int 0)), (50, List.replicate 1280 (.int 0)), (50, List.replicate 10 (.int 0)), (50, List.replicate 10 (.int 0)), (50, List.replicate 16 (.int 0)), (3, [.ref 14, .int 0, .int 0, .int 0, .int 0, .int 0, .int 0, .int (-1), .int 0, .ref 15, .ref 20, .ref 23, .ref 27]), (55, List.replicate 100 (.null)), (4, [.ref 16, .ref 19, .int 0, .int 0]), (5, [.ref 17, .ref 18, .int 0, .int 0]), (50, List.replicate 80 (.int 0)), (50, [.int 0, .int 0, .int 0, .int 0, .int 0]), (50, List.replicate 128 (.int 0)), (6, [.ref 21, .ref 22]), (50, List.replicate 32 (.int 0)), (50, List.replicate 32 (.int 0)), (7, [.ref 24, .ref 25, .ref 26]), (50, List.replicate 64 (.int 0)), (50, List.replicate 64 (.int 0)), (50, [.int 0, .int 0, .int 0, .int 0]), (51, List.replicate 100 (.int 0)), (8, [.ref 29, .int 0]), (52, List.replicate 128 (.int 0)), (4, [.ref 31, .ref 34, .int 0, .int 0]), (5, [.ref 32, .ref 33, .int 0, .int 0]), (50, List.replicate 80 (.int 0)), (50, [.int 0, .int 0, .int 0, .int 0, .int 0]), (50, List.replicate 128 (.int 0)), (54, List.replicate 24 (.null)), (10, [.int 0, .int (-1), .int 0, .ref 37, .ref 38, .ref 39, .ref 40, .ref 41, .ref 42, .int 0, .int 0, .ref 43, .ref 44, .ref 45, .int (-1), .int 0, .int 0, .int 0, .int 0, .int 0, .int 0, .ref 46, .int 0, .ref 47, .int 0, .ref 48, .ref 49, .int 0, .int 0, .int 0, .int 0, .ref 50, .ref 51, .ref 52, .int 0, .int 0, .int 0, .ref 53, .ref 54, .ref 55, .ref 56, .ref 57, .int 0, .int 0, .ref 58, .ref 59, .int 0, .ref 60, .ref 61, .ref 62, .ref 63, .ref 64, .ref 65, .ref 66, .ref 67, .ref 68, .int 0, .ref 69, .ref 70]), (50, List.replicate 160 (.int 0)), (50, List.replicate 8032 (.int 0)), (50, List.replicate 504 (.int 0)), (51, List.replicate 504 (.int 0)), (50, List.replicate 125 (.int 0)), (50, List.replicate 125 (.int 0)), (50, List.replicate 100 (.int 0)), (50, List.replicate 100 (.int 0)), (50, List.replicate 400 (.int 0)), (50, List.replicate 1024 (.int 0)), (50, List.replicate 128 (.int 0)), (50, List.replicate 100 (.int 0)), (51, List.replicate 100 (.int 0)), (50, List.replicate 50 (.int 0)), (50, List.replicate 50 (.int 0)), (51, List.replicate 50 (.int 0)), (50, List.replicate 16 (.int 0)), (50, List.replicate 10 (.int 0)), (51, List.replicate 10 (.int 0)), (51, List.replicate 10 (.int 0)), (50, List.replicate 10 (.int 0)), (50, List.replicate 300 (.int 0)), (50, List.replicate 2400 (.int 0)), (50, List.replicate 100 (.int 0)), (51, List.replicate 100 (.int 0)), (50, List.replicate 64 (.int 0)), (50, List.replicate 64 (.int 0)), (50, List.replicate 128 (.int 0)), (50, List.replicate 640 (.int 0)), (50, List.replicate 640 (.int 0)), (50, List.replicate 640 (.int 0)), (50, List.replicate 16 (.int 0)), (50, List.replicate 400 (.int 0)), (51, List.replicate 100 (.int 0)), (53, [.long 0]), (99, [])]
set_option maxRecDepth 100000 in
set_option maxHeartbeats 4000000 in
theorem p1_figa_0 (s1 s2 s3 s4 : Int32) (g0 : mn_opC (.tableswitch 122 0 8 #[51, 59, 68, 77, 85, 93, 101, 109, 117], 51) 1 [] [.int s1] 0 [] = some (123, [], [], 0, [])) : Ru none 2046 83956 92 (0, mn_pad (mn_ent [.ref 0, .int s1]) 2, [], 20574, fh_0) ((1, none), 20580, fh_figa_1) := by
  refine Ru.op (q := (.iload_n 1, 1)) (by decide +kernel) rfl ?_
  refine Ru.sw (d := 122) (lo2 := 0) (hi := 8) (offs := #[51, 59, 68, 77, 85, 93, 101, 109, 117]) (len := 51) (tg := 123) (by decide +kernel) g0 ?_
  exact Ru.thr (q := (.new 51, 3)) (by decide +kernel) rfl rfl (by decide +kernel)
set_option maxRecDepth 100000 in
set_option maxHeartbeats 4000000 in
theorem p1_figa_1 (s1 s2 s3 s4 : Int32) (g0 : mn_opC (.tableswitch 122 0 8 #[51, 59, 68, 77, 85, 93, 101, 109, 117], 51) 1 [] [.int s1] 0 [] = some (123, [], [], 0, [])) : Ru none 2047 83977 171 (0, mn_pad (mn_ent [.ref 0, .int s1, .ref 71]) 4, [], 20574, fh_0) ((0, some (.int (Int32.ofInt 1))), 20580, fh_figa_1) := by
  refine Ru.op (q := (.aload_n 2, 1)) (by decide +kernel) rfl ?_
  refine Ru.op (q := (.iconst 0, 1)) (by decide +kernel) rfl ?_
  refine Ru.op (q := (.aload_n 0, 1)) (by decide +kernel) rfl ?_
  refine Ru.op (q := (.iload_n 1, 1)) (by decide +kernel) rfl ?_
  refine Ru.catch (i := 53) (j2 := 92) (k := 0) (hp := 12) (by decide +kernel) rfl rfl rfl rfl ⟨Nat.le_of_ble_eq_true rfl, Nat.le_of_ble_eq_true rfl, Nat.le_of_ble_eq_true rfl, Nat.le_of_ble_eq_true rfl⟩ (by decide +kernel) (p1_figa_0 s1 s2 s3 s4 g0) ?_
  refine Ru.op (q := (.astore_n 3, 1)) (by decide +kernel) rfl ?_
  refine Ru.op (q := (.iconst 1, 1)) (by decide +kernel) rfl ?_
  exact Ru.end (q := (.ireturn, 1)) (by decide +kernel) rfl rfl
def fh_figa_2 : mn_H := [(0, [.ref 1, .ref 13, .ref 28, .ref 30, .ref 35, .int 0, .int (-1)]), (1, [.ref 2, .int 0, .ref 3, .int 0, .int 0, .int 0, .ref 10, .ref 11, .int 0, .int 0, .int 0, .ref 12, .int 0]), (52, List.replicate 160 (.int 0)), (2, [.ref 4, .ref 5, .ref 6, .ref 7, .ref 8, .int 0, .ref 9, .int 0]), (50, List.replicate 160 (.int 0)), (50, List.replicate 160 (.int 0)), (50, List.replicate 160 (.int 0)), (50, List.replicate 160 (.int 0)), (50, List.replicate 160 (.int 0)), (50, List.replicate 1280 (.int 0)), (50, List.replicate 10 (.int 0)), (50, List.replicate 10 (.int 0)), (50, List.replicate 16 (.int 0)), (3, [.ref 14, .int 0, .int 0, .int 0, .int 0, .int 0, .int 0, .int (-1), .int 0, .ref 15, .ref 20, .ref 23, .ref 27]), (55, List.replicate 100 (.null)), (4, [.ref 16, .ref 19, .int 0, .int 0]), (5, [.ref 17, .ref 18, .int 0, .int 0]), (50, List.replicate 80 (.int 0)), (50, [.int 0, .int 0, .int 0, .int 0, .int 0]), (50, List.replicate 128 (.int 0)), (6, [.ref 21, .ref 22]), (50, List.replicate 32 (.int 0)), (50, List.replicate 32 (.int 0)), (7, [.ref 24, .ref 25, .ref 26]), (50, List.replicate 64 (.int 0)), (50, List.replicate 64 (.int 0)), (50, [.int 0, .int 0, .int 0, .int 0]), (51, List.replicate 100 (.int 0)), (8, [.ref 29, .int 0]), (52, List.replicate 128 (.int 0)), (4, [.ref 31, .ref 34, .int 0, .int 0]), (5, [.ref 32, .ref 33, .int 0, .int 0]), (50, List.replicate 80 (.int 0)), (50, [.int 0, .int 0, .int 0, .int 0, .int 0]), (50, List.replicate 128 (.int 0)), (54, List.replicate 24 (.null)), (10, [.int 1, .int (-1), .int 0, .ref 37, .ref 38, .ref 39, .ref 40, .ref 41, .ref 42, .int 0, .int 0, .ref 43, .ref 44, .ref 45, .int (-1), .int 0, .int 0, .int 0, .int 0, .int 0, .int 0, .ref 46, .int 0, .ref 47, .int 0, .ref 48, .ref 49, .int 0, .int 0, .int 0, .int 0, .ref 50, .ref 51, .ref 52, .int 0, .int 0, .int 0, .ref 53, .ref 54, .ref 55, .ref 56, .ref 57, .int 0, .int 0, .ref 58, .ref 59, .int 0, .ref 60, .ref 61, .ref 62, .ref 63, .ref 64, .ref 65, .ref 66, .ref 67, .ref 68, .int 0, .ref 69, .ref 70]), (50, List.replicate 160 (.int 0)), (50, List.replicate 8032 (.int 0)), (50, List.replicate 504 (.int 0)), (51, List.replicate 504 (.int 0)), (50, List.replicate 125 (.int 0)), (50, List.replicate 125 (.int 0)), (50, List.replicate 100 (.int 0)), (50, List.replicate 100 (.int 0)), (50, List.replicate 400 (.int 0)), (50, List.replicate 1024 (.int 0)), (50, List.replicate 128 (.int 0)), (50, List.replicate 100 (.int 0)), (51, List.replicate 100 (.int 0)), (50, List.replicate 50 (.int 0)), (50, List.replicate 50 (.int 0)), (51, List.replicate 50 (.int 0)), (50, List.replicate 16 (.int 0)), (50, List.replicate 10 (.int 0)), (51, List.replicate 10 (.int 0)), (51, List.replicate 10 (.int 0)), (50, List.replicate 10 (.int 0)), (50, List.replicate 300 (.int 0)), (50, List.replicate 2400 (.int 0)), (50, List.replicate 100 (.int 0)), (51, List.replicate 100 (.int 0)), (50, List.replicate 64 (.int 0)), (50, List.replicate 64 (.int 0)), (50, List.replicate 128 (.int 0)), (50, List.replicate 640 (.int 0)), (50, List.replicate 640 (.int 0)), (50, List.replicate 640 (.int 0)), (50, List.replicate 16 (.int 0)), (50, List.replicate 400 (.int 0)), (51, List.replicate 100 (.int 0)), (53, [.long 0]), (99, [])]
set_option maxRecDepth 100000 in
set_option maxHeartbeats 4000000 in
theorem p1_figa_2 (s1 s2 s3 s4 : Int32) (g1 : mn_cmp .lt s1 0 = true) (g2 : mn_opC (.tableswitch 99 0 8 #[52, 57, 63, 69, 74, 79, 84, 89, 94], 52) 20 [] [.int s1] 0 [] = some (119, [], [], 0, [])) : Ru none 2047 83979 157 (0, mn_pad (mn_ent [.ref 36, .int s1]) 2, [], 20580, fh_figa_1) ((0, some (.int (Int32.ofInt 0))), 20580, fh_figa_2) := by
  refine Ru.op (q := (.aload_n 0, 1)) (by decide +kernel) rfl ?_
  refine Ru.op (q := (.iload_n 1, 1)) (by decide +kernel) rfl ?_
  refine Ru.br (k := .lt) (off := 9) (bb := true) (tg := 11) (by decide +kernel) (by decide +kernel) g1 (by decide +kernel) ?_
  refine Ru.op (q := (.iconst 1, 1)) (by decide +kernel) rfl ?_
  refine Ru.op (q := (.goto 4, 3)) (by decide +kernel) rfl ?_
  refine Ru.op (q := (.putfield 120, 3)) (by decide +kernel) rfl ?_
  refine Ru.op (q := (.iload_n 1, 1)) (by decide +kernel) rfl ?_
  refine Ru.sw (d := 99) (lo2 := 0) (hi := 8) (offs := #[52, 57, 63, 69, 74, 79, 84, 89, 94]) (len := 52) (tg := 119) (by decide +kernel) g2 ?_
  refine Ru.op (q := (.iconst 0, 1)) (by decide +kernel) rfl ?_
  exact Ru.end (q := (.ireturn, 1)) (by decide +kernel) rfl rfl
set_option maxRecDepth 100000 in
theorem p1_figa_3 : Ru none 2047 83980 94 (0, mn_pad (mn_ent [.ref 36]) 1, [], 20580, fh_figa_2) ((0, some (.int 1)), 20580, fh_figa_2) := Ru.of 5 (by decide +kernel)
set_option maxRecDepth 100000 in
set_option maxHeartbeats 4000000 in
theorem p1_figa {s0 s1 s2 s3 s4 : Int32} (g0 : mn_opC (.tableswitch 122 0 8 #[51, 59, 68, 77, 85, 93, 101, 109, 117], 51) 1 [] [.int s1] 0 [] = some (123, [], [], 0, [])) (g1 : mn_cmp .lt s1 0 = true) (g2 : mn_opC (.tableswitch 99 0 8 #[52, 57, 63, 69, 74, 79, 84, 89, 94], 52) 20 [] [.int s1] 0 [] = some (119, [], [], 0, [])) : Ru (some [s0, s1, s2, s3, s4]) 2048 84000 172 (795, [some (.retAddr 0), some (.ref 0), some (.ref 36), some (.ref 71), some (.int 0), none, none], [], 20574, fh_0) ((0, some (.int 1)), 20580, fh_figa_2) := by
  refine Ru.op (q := (.aload_n 1, 1)) (by decide +kernel) rfl ?_
  refine Ru.op (q := (.aload_n 0, 1)) (by decide +kernel) rfl ?_
  refine Ru.op (q := (.iload 4, 2)) (by decide +kernel) rfl ?_
  refine Ru.op (q := (.iconst 1, 1)) (by decide +kernel) rfl ?_
  refine Ru.op (q := (.iadd, 1)) (by decide +kernel) rfl ?_
  refine Ru.sld (L := 5) (k := 1) (v := s1) rfl rfl (by decide +kernel) (by decide +kernel) (by decide +kernel) rfl ?_
  refine Ru.op (q := (.aload_n 3, 1)) (by decide +kernel) rfl ?_
  refine Ru.call (q := (.invokestatic 117, 3)) (by decide +kernel) rfl rfl rfl rfl ⟨Nat.le_of_ble_eq_true rfl, Nat.le_of_ble_eq_true rfl, Nat.le_of_ble_eq_true rfl, Nat.le_of_ble_eq_true rfl⟩ (p1_figa_1 s1 s2 s3 s4 g0) ?_
  refine Ru.op (q := (.istore 5, 2)) (by decide +kernel) rfl ?_
  refine Ru.op (q := (.aload_n 2, 1)) (by decide +kernel) rfl ?_
  refine Ru.op (q := (.aload_n 0, 1)) (by decide +kernel) rfl ?_
  refine Ru.op (q := (.iload 4, 2)) (by decide +kernel) rfl ?_
  refine Ru.op (q := (.iconst 1, 1)) (by decide +kernel) rfl ?_
  refine Ru.op (q := (.iadd, 1)) (by decide +kernel) rfl ?_
  refine Ru.sld (L := 5) (k := 1) (v := s1) rfl rfl (by decide +kernel) (by decide +kernel) (by decide +kernel) rfl ?_
  refine Ru.call (q := (.invokevirtual 119, 3)) (by decide +kernel) rfl rfl rfl rfl ⟨Nat.le_of_ble_eq_true rfl, Nat.le_of_ble_eq_true rfl, Nat.le_of_ble_eq_true rfl, Nat.le_of_ble_eq_true rfl⟩ (p1_figa_2 s1 s2 s3 s4 g1 g2) ?_
  refine Ru.op (q := (.istore 6, 2)) (by decide +kernel) rfl ?_
  refine Ru.op (q := (.aload_n 2, 1)) (by decide +kernel) rfl ?_
  refine Ru.call (q := (.invokevirtual 68, 3)) (by decide +kernel) rfl rfl rfl rfl ⟨Nat.le_of_ble_eq_true rfl, Nat.le_of_ble_eq_true rfl, Nat.le_of_ble_eq_true rfl, Nat.le_of_ble_eq_true rfl⟩ (p1_figa_3) ?_
  refine Ru.op (q := (.iload 5, 2)) (by decide +kernel) rfl ?_
  refine Ru.br2 (k := .eq) (off := 5) (bb := true) (tg := 831) (by decide +kernel) (by decide +kernel) (by decide +kernel) (by decide +kernel) ?_
  refine Ru.op (q := (.iload 5, 2)) (by decide +kernel) rfl ?_
  refine Ru.br (k := .ne) (off := 15) (bb := true) (tg := 848) (by decide +kernel) (by decide +kernel) (by decide +kernel) (by decide +kernel) ?_
  refine Ru.op (q := (.goto 3, 3)) (by decide +kernel) rfl ?_
  exact p1_tail rfl
def fh_figb_1 : mn_H := [(0, [.ref 1, .ref 13, .ref 28, .ref 30, .ref 35, .int 0, .int (-1)]), (1, [.ref 2, .int 0, .ref 3, .int 0, .int 0, .int 0, .ref 10, .ref 11, .int 0, .int 0, .int 0, .ref 12, .int 0]), (52, List.replicate 160 (.int 0)), (2, [.ref 4, .ref 5, .ref 6, .ref 7, .ref 8, .int 0, .ref 9, .int 0]), (50, List.replicate 160 (.int 0)), (50, List.replicate 160 (.int 0)), (50, List.replicate 160 (.int 0)), (50, List.replicate 160 (.int 0)), (50, List.replicate 160 (.int 0)), (50, List.replicate 1280 (.int 0)), (50, List.replicate 10 (.int 0)), (50, List.replicate 10 (.int 0)), (50, List.replicate 16 (.int 0)), (3, [.ref 14, .int 0, .int 0, .int 0, .int 0, .int 0, .int 0, .int (-1), .int 0, .ref 15, .ref 20, .ref 23, .ref 27]), (55, List.replicate 100 (.null)), (4, [.ref 16, .ref 19, .int 0, .int 0]), (5, [.ref 17, .ref 18, .int 0, .int 0]), (50, List.replicate 80 (.int 0)), (50, [.int 0, .int 0, .int 0, .int 0, .int 0]), (50, List.replicate 128 (.int 0)), (6, [.ref 21, .ref 22]), (50, List.replicate 32 (.int 0)), (50, List.replicate 32 (.int 0)), (7, [.ref 24, .ref 25, .ref 26]), (50, List.replicate 64 (.int 0)), (50, List.replicate 64 (.int 0)), (50, [.int 0, .int 0, .int 0, .int 0]), (51, List.replicate 100 (.int 0)), (8, [.ref 29, .int 0]), (52, List.replicate 128 (.int 0)), (4, [.ref 31, .ref 34, .int 0, .int 0]), (5, [.ref 32, .ref 33, .int 0, .int 0]), (50, List.replicate 80 (.int 0)), (50, [.int 0, .int 0, .int 0, .int 0, .int 0]), (50, List.replicate 128 (.int 0)), (54, List.replicate 24 (.null)), (10, [.int 0, .int (-1), .int 0, .ref 37, .ref 38, .ref 39, .ref 40, .ref 41, .ref 42, .int 0, .int 0, .ref 43, .ref 44, .ref 45, .int (-1), .int 0, .int 0, .int 0, .int 0, .int 0, .int 0, .ref 46, .int 0, .ref 47, .int 0, .ref 48, .ref 49, .int 0, .int 0, .int 0, .int 0, .ref 50, .ref 51, .ref 52, .int 0, .int 0, .int 0, .ref 53, .ref 54, .ref 55, .ref 56, .ref 57, .int 0, .int 0, .ref 58, .ref 59, .int 0, .ref 60, .ref 61, .ref 62, .ref 63, .ref 64, .ref 65, .ref 66, .ref 67, .ref 68, .int 0, .ref 69, .ref 70]), (50, List.replicate 160 (.int 0)), (50, List.replicate 8032 (.int 0)), (50, List.replicate 504 (.int 0)), (51, List.replicate 504 (.int 0)), (50, List.replicate 125 (.int 0)), (50, List.replicate 125 (.int 0)), (50, List.replicate 100 (.int 0)), (50, List.replicate 100 (.int 0)), (50, List.replicate 400 (.int 0)), (50, List.replicate 1024 (.int 0)), (50, List.replicate 128 (.int 0)), (50, List.replicate 100 (.int 0)), (51, List.replicate 100 (.int 0)), (50, List.replicate 50 (.int 0)), (50, List.replicate 50 (.int 0)), (51, List.replicate 50 (.int 0)), (50, List.replicate 16 (.int 0)), (50, List.replicate 10 (.int 0)), (51, List.replicate 10 (.int 0)), (51, List.replicate 10 (.int 0)), (50, List.replicate 10 (.int 0)), (50, List.replicate 300 (.int 0)), (50, List.replicate 2400 (.int 0)), (50, List.replicate 100 (.int 0)), (51, List.replicate 100 (.int 0)), (50, List.replicate 64 (.int 0)), (50, List.replicate 64 (.int 0)), (50, List.replicate 128 (.int 0)), (50, List.replicate 640 (.int 0)), (50, List.replicate 640 (.int 0)), (50, List.replicate 640 (.int 0)), (50, List.replicate 16 (.int 0)), (50, List.replicate 400 (.int 0)), (51, List.replicate 100 (.int 0)), (53, [.long 0]), (99, [])]
set_option maxRecDepth 100000 in
set_option maxHeartbeats 4000000 in
theorem p1_figb_0 (s1 s2 s3 s4 : Int32) (g0 : mn_opC (.tableswitch 122 0 8 #[51, 59, 68, 77, 85, 93, 101, 109, 117], 51) 1 [] [.int s1] 0 [] = some (123, [], [], 0, [])) : Ru none 2046 83956 92 (0, mn_pad (mn_ent [.ref 0, .int s1]) 2, [], 20574, fh_0) ((1, none), 20580, fh_figb_1) := by
  refine Ru.op (q := (.iload_n 1, 1)) (by decide +kernel) rfl ?_
  refine Ru.sw (d := 122) (lo2 := 0) (hi := 8) (offs := #[51, 59, 68, 77, 85, 93, 101, 109, 117]) (len := 51) (tg := 123) (by decide +kernel) g0 ?_
  exact Ru.thr (q := (.new 51, 3)) (by decide +kernel) rfl rfl (by decide +kernel)
set_option maxRecDepth 100000 in
set_option maxHeartbeats 4000000 in
theorem p1_figb_1 (s1 s2 s3 s4 : Int32) (g0 : mn_opC (.tableswitch 122 0 8 #[51, 59, 68, 77, 85, 93, 101, 109, 117], 51) 1 [] [.int s1] 0 [] = some (123, [], [], 0, [])) : Ru none 2047 83977 171 (0, mn_pad (mn_ent [.ref 0, .int s1, .ref 71]) 4, [], 20574, fh_0) ((0, some (.int (Int32.ofInt 1))), 20580, fh_figb_1) := by
  refine Ru.op (q := (.aload_n 2, 1)) (by decide +kernel) rfl ?_
  refine Ru.op (q := (.iconst 0, 1)) (by decide +kernel) rfl ?_
  refine Ru.op (q := (.aload_n 0, 1)) (by decide +kernel) rfl ?_
  refine Ru.op (q := (.iload_n 1, 1)) (by decide +kernel) rfl ?_
  refine Ru.catch (i := 53) (j2 := 92) (k := 0) (hp := 12) (by decide +kernel) rfl rfl rfl rfl ⟨Nat.le_of_ble_eq_true rfl, Nat.le_of_ble_eq_true rfl, Nat.le_of_ble_eq_true rfl, Nat.le_of_ble_eq_true rfl⟩ (by decide +kernel) (p1_figb_0 s1 s2 s3 s4 g0) ?_
  refine Ru.op (q := (.astore_n 3, 1)) (by decide +kernel) rfl ?_
  refine Ru.op (q := (.iconst 1, 1)) (by decide +kernel) rfl ?_
  exact Ru.end (q := (.ireturn, 1)) (by decide +kernel) rfl rfl
def fh_figb_2 : mn_H := [(0, [.ref 1, .ref 13, .ref 28, .ref 30, .ref 35, .int 0, .int (-1)]), (1, [.ref 2, .int 0, .ref 3, .int 0, .int 0, .int 0, .ref 10, .ref 11, .int 0, .int 0, .int 0, .ref 12, .int 0]), (52, List.replicate 160 (.int 0)), (2, [.ref 4, .ref 5, .ref 6, .ref 7, .ref 8, .int 0, .ref 9, .int 0]), (50, List.replicate 160 (.int 0)), (50, List.replicate 160 (.int 0)), (50, List.replicate 160 (.int 0)), (50, List.replicate 160 (.int 0)), (50, List.replicate 160 (.int 0)), (50, List.replicate 1280 (.int 0)), (50, List.replicate 10 (.int 0)), (50, List.replicate 10 (.int 0)), (50, List.replicate 16 (.int 0)), (3, [.ref 14, .int 0, .int 0, .int 0, .int 0, .int 0, .int 0, .int (-1), .int 0, .ref 15, .ref 20, .ref 23, .ref 27]), (55, List.replicate 100 (.null)), (4, [.ref 16, .ref 19, .int 0, .int 0]), (5, [.ref 17, .ref 18, .int 0, .int 0]), (50, List.replicate 80 (.int 0)), (50, [.int 0, .int 0, .int 0, .int 0, .int 0]), (50, List.replicate 128 (.int 0)), (6, [.ref 21, .ref 22]), (50, List.replicate 32 (.int 0)), (50, List.replicate 32 (.int 0)), (7, [.ref 24, .ref 25, .ref 26]), (50, List.replicate 64 (.int 0)), (50, List.replicate 64 (.int 0)), (50, [.int 0, .int 0, .int 0, .int 0]), (51, List.replicate 100 (.int 0)), (8, [.ref 29, .int 0]), (52, List.replicate 128 (.int 0)), (4, [.ref 31, .ref 34, .int 0, .int 0]), (5, [.ref 32, .ref 33, .int 0, .int 0]), (50, List.replicate 80 (.int 0)), (50, [.int 0, .int 0, .int 0, .int 0, .int 0]), (50, List.replicate 128 (.int 0)), (54, List.replicate 24 (.null)), (10, [.int 1, .int (-1), .int 0, .ref 37, .ref 38, .ref 39, .ref 40, .ref 41, .ref 42, .int 0, .int 0, .ref 43, .ref 44, .ref 45, .int (-1), .int 0, .int 0, .int 0, .int 0, .int 0, .int 0, .ref 46, .int 0, .ref 47, .int 0, .ref 48, .ref 49, .int 0, .int 0, .int 0, .int 0, .ref 50, .ref 51, .ref 52, .int 0, .int 0, .int 0, .ref 53, .ref 54, .ref 55, .ref 56, .ref 57, .int 0, .int 0, .ref 58, .ref 59, .int 0, .ref 60, .ref 61, .ref 62, .ref 63, .ref 64, .ref 65, .ref 66, .ref 67, .ref 68, .int 0, .ref 69, .ref 70]), (50, List.replicate 160 (.int 0)), (50, List.replicate 8032 (.int 0)), (50, List.replicate 504 (.int 0)), (51, List.replicate 504 (.int 0)), (50, List.replicate 125 (.int 0)), (50, List.replicate 125 (.int 0)), (50, List.replicate 100 (.int 0)), (50, List.replicate 100 (.int 0)), (50, List.replicate 400 (.int 0)), (50, List.replicate 1024 (.int 0)), (50, List.replicate 128 (.int 0)), (50, List.replicate 100 (.int 0)), (51, List.replicate 100 (.int 0)), (50, List.replicate 50 (.int 0)), (50, List.replicate 50 (.int 0)), (51, List.replicate 50 (.int 0)), (50, List.replicate 16 (.int 0)), (50, List.replicate 10 (.int 0)), (51, List.replicate 10 (.int 0)), (51, List.replicate 10 (.int 0)), (50, List.replicate 10 (.int 0)), (50, List.replicate 300 (.int 0)), (50, List.replicate 2400 (.int 0)), (50, List.replicate 100 (.int 0)), (51, List.replicate 100 (.int 0)), (50, List.replicate 64 (.int 0)), (50, List.replicate 64 (.int 0)), (50, List.replicate 128 (.int 0)), (50, List.replicate 640 (.int 0)), (50, List.replicate 640 (.int 0)), (50, List.replicate 640 (.int 0)), (50, List.replicate 16 (.int 0)), (50, List.replicate 400 (.int 0)), (51, List.replicate 100 (.int 0)), (53, [.long 0]), (99, [])]
set_option maxRecDepth 100000 in
set_option maxHeartbeats 4000000 in
theorem p1_figb_2 (s1 s2 s3 s4 : Int32) (g1 : mn_cmp .lt s1 0 = false) (g2 : mn_cmp .le s1 (Int8.ofInt 8).toInt32 = false) (g3 : mn_opC (.tableswitch 99 0 8 #[52, 57, 63, 69, 74, 79, 84, 89, 94], 52) 20 [] [.int s1] 0 [] = some (119, [], [], 0, [])) : Ru none 2047 83979 157 (0, mn_pad (mn_ent [.ref 36, .int s1]) 2, [], 20580, fh_figb_1) ((0, some (.int (Int32.ofInt 0))), 20580, fh_figb_2) := by
  refine Ru.op (q := (.aload_n 0, 1)) (by decide +kernel) rfl ?_
  refine Ru.op (q := (.iload_n 1, 1)) (by decide +kernel) rfl ?_
  refine Ru.br (k := .lt) (off := 9) (bb := false) (tg := 5) (by decide +kernel) (by decide +kernel) g1 (by decide +kernel) ?_
  refine Ru.op (q := (.iload_n 1, 1)) (by decide +kernel) rfl ?_
  refine Ru.op (q := (.bipush 8, 2)) (by decide +kernel) rfl ?_
  refine Ru.br2 (k := .le) (off := 7) (bb := false) (tg := 11) (by decide +kernel) (by decide +kernel) g2 (by decide +kernel) ?_
  refine Ru.op (q := (.iconst 1, 1)) (by decide +kernel) rfl ?_
  refine Ru.op (q := (.goto 4, 3)) (by decide +kernel) rfl ?_
  refine Ru.op (q := (.putfield 120, 3)) (by decide +kernel) rfl ?_
  refine Ru.op (q := (.iload_n 1, 1)) (by decide +kernel) rfl ?_
  refine Ru.sw (d := 99) (lo2 := 0) (hi := 8) (offs := #[52, 57, 63, 69, 74, 79, 84, 89, 94]) (len := 52) (tg := 119) (by decide +kernel) g3 ?_
  refine Ru.op (q := (.iconst 0, 1)) (by decide +kernel) rfl ?_
  exact Ru.end (q := (.ireturn, 1)) (by decide +kernel) rfl rfl
set_option maxRecDepth 100000 in
theorem p1_figb_3 : Ru none 2047 83980 94 (0, mn_pad (mn_ent [.ref 36]) 1, [], 20580, fh_figb_2) ((0, some (.int 1)), 20580, fh_figb_2) := Ru.of 5 (by decide +kernel)
set_option maxRecDepth 100000 in
set_option maxHeartbeats 4000000 in
theorem p1_figb {s0 s1 s2 s3 s4 : Int32} (g0 : mn_opC (.tableswitch 122 0 8 #[51, 59, 68, 77, 85, 93, 101, 109, 117], 51) 1 [] [.int s1] 0 [] = some (123, [], [], 0, [])) (g1 : mn_cmp .lt s1 0 = false) (g2 : mn_cmp .le s1 (Int8.ofInt 8).toInt32 = false) (g3 : mn_opC (.tableswitch 99 0 8 #[52, 57, 63, 69, 74, 79, 84, 89, 94], 52) 20 [] [.int s1] 0 [] = some (119, [], [], 0, [])) : Ru (some [s0, s1, s2, s3, s4]) 2048 84000 172 (795, [some (.retAddr 0), some (.ref 0), some (.ref 36), some (.ref 71), some (.int 0), none, none], [], 20574, fh_0) ((0, some (.int 1)), 20580, fh_figb_2) := by
  refine Ru.op (q := (.aload_n 1, 1)) (by decide +kernel) rfl ?_
  refine Ru.op (q := (.aload_n 0, 1)) (by decide +kernel) rfl ?_
  refine Ru.op (q := (.iload 4, 2)) (by decide +kernel) rfl ?_
  refine Ru.op (q := (.iconst 1, 1)) (by decide +kernel) rfl ?_
  refine Ru.op (q := (.iadd, 1)) (by decide +kernel) rfl ?_
  refine Ru.sld (L := 5) (k := 1) (v := s1) rfl rfl (by decide +kernel) (by decide +kernel) (by decide +kernel) rfl ?_
  refine Ru.op (q := (.aload_n 3, 1)) (by decide +kernel) rfl ?_
  refine Ru.call (q := (.invokestatic 117, 3)) (by decide +kernel) rfl rfl rfl rfl ⟨Nat.le_of_ble_eq_true rfl, Nat.le_of_ble_eq_true rfl, Nat.le_of_ble_eq_true rfl, Nat.le_of_ble_eq_true rfl⟩ (p1_figb_1 s1 s2 s3 s4 g0) ?_
  refine Ru.op (q := (.istore 5, 2)) (by decide +kernel) rfl ?_
  refine Ru.op (q := (.aload_n 2, 1)) (by decide +kernel) rfl ?_
  refine Ru.op (q := (.aload_n 0, 1)) (by decide +kernel) rfl ?_
  refine Ru.op (q := (.iload 4, 2)) (by decide +kernel) rfl ?_
  refine Ru.op (q := (.iconst 1, 1)) (by decide +kernel) rfl ?_
  refine Ru.op (q := (.iadd, 1)) (by decide +kernel) rfl ?_
  refine Ru.sld (L := 5) (k := 1) (v := s1) rfl rfl (by decide +kernel) (by decide +kernel) (by decide +kernel) rfl ?_
  refine Ru.call (q := (.invokevirtual 119, 3)) (by decide +kernel) rfl rfl rfl rfl ⟨Nat.le_of_ble_eq_true rfl, Nat.le_of_ble_eq_true rfl, Nat.le_of_ble_eq_true rfl, Nat.le_of_ble_eq_true rfl⟩ (p1_figb_2 s1 s2 s3 s4 g1 g2 g3) ?_
  refine Ru.op (q := (.istore 6, 2)) (by decide +kernel) rfl ?_
  refine Ru.op (q := (.aload_n 2, 1)) (by decide +kernel) rfl ?_
  refine Ru.call (q := (.invokevirtual 68, 3)) (by decide +kernel) rfl rfl rfl rfl ⟨Nat.le_of_ble_eq_true rfl, Nat.le_of_ble_eq_true rfl, Nat.le_of_ble_eq_true rfl, Nat.le_of_ble_eq_true rfl⟩ (p1_figb_3) ?_
  refine Ru.op (q := (.iload 5, 2)) (by decide +kernel) rfl ?_
  refine Ru.br2 (k := .eq) (off := 5) (bb := true) (tg := 831) (by decide +kernel) (by decide +kernel) (by decide +kernel) (by decide +kernel) ?_
  refine Ru.op (q := (.iload 5, 2)) (by decide +kernel) rfl ?_
  refine Ru.br (k := .ne) (off := 15) (bb := true) (tg := 848) (by decide +kernel) (by decide +kernel) (by decide +kernel) (by decide +kernel) ?_
  refine Ru.op (q := (.goto 3, 3)) (by decide +kernel) rfl ?_
  exact p1_tail rfl
