set_option maxRecDepth 100000 in
theorem p1_fig0_0 : Ru none 2047 83977 171 (0, mn_pad (mn_ent [.ref 0, .int 0, .ref 71]) 4, [], 20574, fh_0) ((0, some (.int 0)), 20574, fh_0) := Ru.of 18 (by decide +kernel)
set_option maxRecDepth 100000 in
theorem p1_fig0_1 : Ru none 2047 83979 157 (0, mn_pad (mn_ent [.ref 36, .int 0]) 2, [], 20574, fh_0) ((0, some (.int 0)), 20574, fh_0) := Ru.of 15 (by decide +kernel)
set_option maxRecDepth 100000 in
theorem p1_fig0_2 : Ru none 2047 83980 94 (0, mn_pad (mn_ent [.ref 36]) 1, [], 20574, fh_0) ((0, some (.int 0)), 20574, fh_0) := Ru.of 5 (by decide +kernel)
set_option maxRecDepth 100000 in
set_option maxHeartbeats 4000000 in
theorem p1_fig0 {s0 s2 s3 s4 : Int32} : Ru (some [s0, 0, s2, s3, s4]) 2048 84000 172 (795, [some (.retAddr 0), some (.ref 0), some (.ref 36), some (.ref 71), some (.int 0), none, none], [], 20574, fh_0) ((0, some (.int 1)), 20574, fh_0) := by
  refine Ru.op (q := (.aload_n 1, 1)) (by decide +kernel) rfl ?_
  refine Ru.op (q := (.aload_n 0, 1)) (by decide +kernel) rfl ?_
  refine Ru.op (q := (.iload 4, 2)) (by decide +kernel) rfl ?_
  refine Ru.op (q := (.iconst 1, 1)) (by decide +kernel) rfl ?_
  refine Ru.op (q := (.iadd, 1)) (by decide +kernel) rfl ?_
  refine Ru.sld (L := 5) (k := 1) (v := 0) rfl rfl (by decide +kernel) (by decide +kernel) (by decide +kernel) rfl ?_
  refine Ru.op (q := (.aload_n 3, 1)) (by decide +kernel) rfl ?_
  refine Ru.call (q := (.invokestatic 117, 3)) (by decide +kernel) rfl rfl rfl rfl ⟨Nat.le_of_ble_eq_true rfl, Nat.le_of_ble_eq_true rfl, Nat.le_of_ble_eq_true rfl, Nat.le_of_ble_eq_true rfl⟩ (p1_fig0_0) ?_
  refine Ru.op (q := (.istore 5, 2)) (by decide +kernel) rfl ?_
  refine Ru.op (q := (.aload_n 2, 1)) (by decide +kernel) rfl ?_
  refine Ru.op (q := (.aload_n 0, 1)) (by decide +kernel) rfl ?_
  refine Ru.op (q := (.iload 4, 2)) (by decide +kernel) rfl ?_
  refine Ru.op (q := (.iconst 1, 1)) (by decide +kernel) rfl ?_
  refine Ru.op (q := (.iadd, 1)) (by decide +kernel) rfl ?_
  refine Ru.sld (L := 5) (k := 1) (v := 0) rfl rfl (by decide +kernel) (by decide +kernel) (by decide +kernel) rfl ?_
  refine Ru.call (q := (.invokevirtual 119, 3)) (by decide +kernel) rfl rfl rfl rfl ⟨Nat.le_of_ble_eq_true rfl, Nat.le_of_ble_eq_true rfl, Nat.le_of_ble_eq_true rfl, Nat.le_of_ble_eq_true rfl⟩ (p1_fig0_1) ?_
  refine Ru.op (q := (.istore 6, 2)) (by decide +kernel) rfl ?_
  refine Ru.op (q := (.aload_n 2, 1)) (by decide +kernel) rfl ?_
  refine Ru.call (q := (.invokevirtual 68, 3)) (by decide +kernel) rfl rfl rfl rfl ⟨Nat.le_of_ble_eq_true rfl, Nat.le_of_ble_eq_true rfl, Nat.le_of_ble_eq_true rfl, Nat.le_of_ble_eq_true rfl⟩ (p1_fig0_2) ?_
  refine Ru.op (q := (.iload 5, 2)) (by decide +kernel) rfl ?_
  refine Ru.br2 (k := .eq) (off := 5) (bb := true) (tg := 831) (by decide +kernel) (by decide +kernel) (by decide +kernel) (by decide +kernel) ?_
  refine Ru.op (q := (.iload 5, 2)) (by decide +kernel) rfl ?_
  refine Ru.br (k := .ne) (off := 15) (bb := false) (tg := 836) (by decide +kernel) (by decide +kernel) (by decide +kernel) (by decide +kernel) ?_
  refine Ru.op (q := (.aload_n 3, 1)) (by decide +kernel) rfl ?_
  refine Ru.op (q := (.iconst 0, 1)) (by decide +kernel) rfl ?_
  refine Ru.op (q := (.laload, 1)) (by decide +kernel) rfl ?_
  refine Ru.op (q := (.iload 6, 2)) (by decide +kernel) rfl ?_
  refine Ru.op (q := (.i2l, 1)) (by decide +kernel) rfl ?_
  refine Ru.op (q := (.lcmp, 1)) (by decide +kernel) rfl ?_
  refine Ru.br (k := .eq) (off := 5) (bb := true) (tg := 848) (by decide +kernel) (by decide +kernel) (by decide +kernel) (by decide +kernel) ?_
  refine Ru.op (q := (.goto 3, 3)) (by decide +kernel) rfl ?_
  exact p1_tail rfl
set_option maxRecDepth 100000 in
theorem p1_fig1_0 : Ru none 2047 83977 171 (0, mn_pad (mn_ent [.ref 0, .int 1, .ref 71]) 4, [], 20574, fh_0) ((0, some (.int 0)), 20574, fh_0) := Ru.of 29 (by decide +kernel)
set_option maxRecDepth 100000 in
theorem p1_fig1_1 : Ru none 2047 83979 157 (0, mn_pad (mn_ent [.ref 36, .int 1]) 2, [], 20574, fh_0) ((0, some (.int 0)), 20574, fh_0) := Ru.of 26 (by decide +kernel)
set_option maxRecDepth 100000 in
theorem p1_fig1_2 : Ru none 2047 83980 94 (0, mn_pad (mn_ent [.ref 36]) 1, [], 20574, fh_0) ((0, some (.int 0)), 20574, fh_0) := Ru.of 5 (by decide +kernel)
set_option maxRecDepth 100000 in
set_option maxHeartbeats 4000000 in
theorem p1_fig1 {s0 s2 s3 s4 : Int32} : Ru (some [s0, 1, s2, s3, s4]) 2048 84000 172 (795, [some (.retAddr 0), some (.ref 0), some (.ref 36), some (.ref 71), some (.int 0), none, none], [], 20574, fh_0) ((0, some (.int 1)), 20574, fh_0) := by
  refine Ru.op (q := (.aload_n 1, 1)) (by decide +kernel) rfl ?_
  refine Ru.op (q := (.aload_n 0, 1)) (by decide +kernel) rfl ?_
  refine Ru.op (q := (.iload 4, 2)) (by decide +kernel) rfl ?_
  refine Ru.op (q := (.iconst 1, 1)) (by decide +kernel) rfl ?_
  refine Ru.op (q := (.iadd, 1)) (by decide +kernel) rfl ?_
  refine Ru.sld (L := 5) (k := 1) (v := 1) rfl rfl (by decide +kernel) (by decide +kernel) (by decide +kernel) rfl ?_
  refine Ru.op (q := (.aload_n 3, 1)) (by decide +kernel) rfl ?_
  refine Ru.call (q := (.invokestatic 117, 3)) (by decide +kernel) rfl rfl rfl rfl ⟨Nat.le_of_ble_eq_true rfl, Nat.le_of_ble_eq_true rfl, Nat.le_of_ble_eq_true rfl, Nat.le_of_ble_eq_true rfl⟩ (p1_fig1_0) ?_
  refine Ru.op (q := (.istore 5, 2)) (by decide +kernel) rfl ?_
  refine Ru.op (q := (.aload_n 2, 1)) (by decide +kernel) rfl ?_
  refine Ru.op (q := (.aload_n 0, 1)) (by decide +kernel) rfl ?_
  refine Ru.op (q := (.iload 4, 2)) (by decide +kernel) rfl ?_
  refine Ru.op (q := (.iconst 1, 1)) (by decide +kernel) rfl ?_
  refine Ru.op (q := (.iadd, 1)) (by decide +kernel) rfl ?_
  refine Ru.sld (L := 5) (k := 1) (v := 1) rfl rfl (by decide +kernel) (by decide +kernel) (by decide +kernel) rfl ?_
  refine Ru.call (q := (.invokevirtual 119, 3)) (by decide +kernel) rfl rfl rfl rfl ⟨Nat.le_of_ble_eq_true rfl, Nat.le_of_ble_eq_true rfl, Nat.le_of_ble_eq_true rfl, Nat.le_of_ble_eq_true rfl⟩ (p1_fig1_1) ?_
  refine Ru.op (q := (.istore 6, 2)) (by decide +kernel) rfl ?_
  refine Ru.op (q := (.aload_n 2, 1)) (by decide +kernel) rfl ?_
  refine Ru.call (q := (.invokevirtual 68, 3)) (by decide +kernel) rfl rfl rfl rfl ⟨Nat.le_of_ble_eq_true rfl, Nat.le_of_ble_eq_true rfl, Nat.le_of_ble_eq_true rfl, Nat.le_of_ble_eq_true rfl⟩ (p1_fig1_2) ?_
  refine Ru.op (q := (.iload 5, 2)) (by decide +kernel) rfl ?_
  refine Ru.br2 (k := .eq) (off := 5) (bb := true) (tg := 831) (by decide +kernel) (by decide +kernel) (by decide +kernel) (by decide +kernel) ?_
  refine Ru.op (q := (.iload 5, 2)) (by decide +kernel) rfl ?_
  refine Ru.br (k := .ne) (off := 15) (bb := false) (tg := 836) (by decide +kernel) (by decide +kernel) (by decide +kernel) (by decide +kernel) ?_
  refine Ru.op (q := (.aload_n 3, 1)) (by decide +kernel) rfl ?_
  refine Ru.op (q := (.iconst 0, 1)) (by decide +kernel) rfl ?_
  refine Ru.op (q := (.laload, 1)) (by decide +kernel) rfl ?_
  refine Ru.op (q := (.iload 6, 2)) (by decide +kernel) rfl ?_
  refine Ru.op (q := (.i2l, 1)) (by decide +kernel) rfl ?_
  refine Ru.op (q := (.lcmp, 1)) (by decide +kernel) rfl ?_
  refine Ru.br (k := .eq) (off := 5) (bb := true) (tg := 848) (by decide +kernel) (by decide +kernel) (by decide +kernel) (by decide +kernel) ?_
  refine Ru.op (q := (.goto 3, 3)) (by decide +kernel) rfl ?_
  exact p1_tail rfl
set_option maxRecDepth 100000 in
theorem p1_fig2_0 : Ru none 2047 83977 171 (0, mn_pad (mn_ent [.ref 0, .int 2, .ref 71]) 4, [], 20574, fh_0) ((0, some (.int 0)), 20574, fh_0) := Ru.of 29 (by decide +kernel)
set_option maxRecDepth 100000 in
theorem p1_fig2_1 : Ru none 2047 83979 157 (0, mn_pad (mn_ent [.ref 36, .int 2]) 2, [], 20574, fh_0) ((0, some (.int 0)), 20574, fh_0) := Ru.of 26 (by decide +kernel)
set_option maxRecDepth 100000 in
theorem p1_fig2_2 : Ru none 2047 83980 94 (0, mn_pad (mn_ent [.ref 36]) 1, [], 20574, fh_0) ((0, some (.int 0)), 20574, fh_0) := Ru.of 5 (by decide +kernel)
set_option maxRecDepth 100000 in
set_option maxHeartbeats 4000000 in
theorem p1_fig2 {s0 s2 s3 s4 : Int32} : Ru (some [s0, 2, s2, s3, s4]) 2048 84000 172 (795, [some (.retAddr 0), some (.ref 0), some (.ref 36), some (.ref 71), some (.int 0), none, none], [], 20574, fh_0) ((0, some (.int 1)), 20574, fh_0) := by
  refine Ru.op (q := (.aload_n 1, 1)) (by decide +kernel) rfl ?_
  refine Ru.op (q := (.aload_n 0, 1)) (by decide +kernel) rfl ?_
  refine Ru.op (q := (.iload 4, 2)) (by decide +kernel) rfl ?_
  refine Ru.op (q := (.iconst 1, 1)) (by decide +kernel) rfl ?_
  refine Ru.op (q := (.iadd, 1)) (by decide +kernel) rfl ?_
  refine Ru.sld (L := 5) (k := 1) (v := 2) rfl rfl (by decide +kernel) (by decide +kernel) (by decide +kernel) rfl ?_
  refine Ru.op (q := (.aload_n 3, 1)) (by decide +kernel) rfl ?_
  refine Ru.call (q := (.invokestatic 117, 3)) (by decide +kernel) rfl rfl rfl rfl ⟨Nat.le_of_ble_eq_true rfl, Nat.le_of_ble_eq_true rfl, Nat.le_of_ble_eq_true rfl, Nat.le_of_ble_eq_true rfl⟩ (p1_fig2_0) ?_
  refine Ru.op (q := (.istore 5, 2)) (by decide +kernel) rfl ?_
  refine Ru.op (q := (.aload_n 2, 1)) (by decide +kernel) rfl ?_
  refine Ru.op (q := (.aload_n 0, 1)) (by decide +kernel) rfl ?_
  refine Ru.op (q := (.iload 4, 2)) (by decide +kernel) rfl ?_
  refine Ru.op (q := (.iconst 1, 1)) (by decide +kernel) rfl ?_
  refine Ru.op (q := (.iadd, 1)) (by decide +kernel) rfl ?_
  refine Ru.sld (L := 5) (k := 1) (v := 2) rfl rfl (by decide +kernel) (by decide +kernel) (by decide +kernel) rfl ?_
  refine Ru.call (q := (.invokevirtual 119, 3)) (by decide +kernel) rfl rfl rfl rfl ⟨Nat.le_of_ble_eq_true rfl, Nat.le_of_ble_eq_true rfl, Nat.le_of_ble_eq_true rfl, Nat.le_of_ble_eq_true rfl⟩ (p1_fig2_1) ?_
  refine Ru.op (q := (.istore 6, 2)) (by decide +kernel) rfl ?_
  refine Ru.op (q := (.aload_n 2, 1)) (by decide +kernel) rfl ?_
  refine Ru.call (q := (.invokevirtual 68, 3)) (by decide +kernel) rfl rfl rfl rfl ⟨Nat.le_of_ble_eq_true rfl, Nat.le_of_ble_eq_true rfl, Nat.le_of_ble_eq_true rfl, Nat.le_of_ble_eq_true rfl⟩ (p1_fig2_2) ?_
  refine Ru.op (q := (.iload 5, 2)) (by decide +kernel) rfl ?_
  refine Ru.br2 (k := .eq) (off := 5) (bb := true) (tg := 831) (by decide +kernel) (by decide +kernel) (by decide +kernel) (by decide +kernel) ?_
  refine Ru.op (q := (.iload 5, 2)) (by decide +kernel) rfl ?_
  refine Ru.br (k := .ne) (off := 15) (bb := false) (tg := 836) (by decide +kernel) (by decide +kernel) (by decide +kernel) (by decide +kernel) ?_
  refine Ru.op (q := (.aload_n 3, 1)) (by decide +kernel) rfl ?_
  refine Ru.op (q := (.iconst 0, 1)) (by decide +kernel) rfl ?_
  refine Ru.op (q := (.laload, 1)) (by decide +kernel) rfl ?_
  refine Ru.op (q := (.iload 6, 2)) (by decide +kernel) rfl ?_
  refine Ru.op (q := (.i2l, 1)) (by decide +kernel) rfl ?_
  refine Ru.op (q := (.lcmp, 1)) (by decide +kernel) rfl ?_
  refine Ru.br (k := .eq) (off := 5) (bb := true) (tg := 848) (by decide +kernel) (by decide +kernel) (by decide +kernel) (by decide +kernel) ?_
  refine Ru.op (q := (.goto 3, 3)) (by decide +kernel) rfl ?_
  exact p1_tail rfl
set_option maxRecDepth 100000 in
theorem p1_fig3_0 : Ru none 2047 83977 171 (0, mn_pad (mn_ent [.ref 0, .int 3, .ref 71]) 4, [], 20574, fh_0) ((0, some (.int 0)), 20574, fh_0) := Ru.of 18 (by decide +kernel)
set_option maxRecDepth 100000 in
theorem p1_fig3_1 : Ru none 2047 83979 157 (0, mn_pad (mn_ent [.ref 36, .int 3]) 2, [], 20574, fh_0) ((0, some (.int 0)), 20574, fh_0) := Ru.of 15 (by decide +kernel)
set_option maxRecDepth 100000 in
theorem p1_fig3_2 : Ru none 2047 83980 94 (0, mn_pad (mn_ent [.ref 36]) 1, [], 20574, fh_0) ((0, some (.int 0)), 20574, fh_0) := Ru.of 5 (by decide +kernel)
set_option maxRecDepth 100000 in
set_option maxHeartbeats 4000000 in
theorem p1_fig3 {s0 s2 s3 s4 : Int32} : Ru (some [s0, 3, s2, s3, s4]) 2048 84000 172 (795, [some (.retAddr 0), some (.ref 0), some (.ref 36), some (.ref 71), some (.int 0), none, none], [], 20574, fh_0) ((0, some (.int 1)), 20574, fh_0) := by
  refine Ru.op (q := (.aload_n 1, 1)) (by decide +kernel) rfl ?_
  refine Ru.op (q := (.aload_n 0, 1)) (by decide +kernel) rfl ?_
  refine Ru.op (q := (.iload 4, 2)) (by decide +kernel) rfl ?_
  refine Ru.op (q := (.iconst 1, 1)) (by decide +kernel) rfl ?_
  refine Ru.op (q := (.iadd, 1)) (by decide +kernel) rfl ?_
  refine Ru.sld (L := 5) (k := 1) (v := 3) rfl rfl (by decide +kernel) (by decide +kernel) (by decide +kernel) rfl ?_
  refine Ru.op (q := (.aload_n 3, 1)) (by decide +kernel) rfl ?_
  refine Ru.call (q := (.invokestatic 117, 3)) (by decide +kernel) rfl rfl rfl rfl ⟨Nat.le_of_ble_eq_true rfl, Nat.le_of_ble_eq_true rfl, Nat.le_of_ble_eq_true rfl, Nat.le_of_ble_eq_true rfl⟩ (p1_fig3_0) ?_
  refine Ru.op (q := (.istore 5, 2)) (by decide +kernel) rfl ?_
  refine Ru.op (q := (.aload_n 2, 1)) (by decide +kernel) rfl ?_
  refine Ru.op (q := (.aload_n 0, 1)) (by decide +kernel) rfl ?_
  refine Ru.op (q := (.iload 4, 2)) (by decide +kernel) rfl ?_
  refine Ru.op (q := (.iconst 1, 1)) (by decide +kernel) rfl ?_
  refine Ru.op (q := (.iadd, 1)) (by decide +kernel) rfl ?_
  refine Ru.sld (L := 5) (k := 1) (v := 3) rfl rfl (by decide +kernel) (by decide +kernel) (by decide +kernel) rfl ?_
  refine Ru.call (q := (.invokevirtual 119, 3)) (by decide +kernel) rfl rfl rfl rfl ⟨Nat.le_of_ble_eq_true rfl, Nat.le_of_ble_eq_true rfl, Nat.le_of_ble_eq_true rfl, Nat.le_of_ble_eq_true rfl⟩ (p1_fig3_1) ?_
  refine Ru.op (q := (.istore 6, 2)) (by decide +kernel) rfl ?_
  refine Ru.op (q := (.aload_n 2, 1)) (by decide +kernel) rfl ?_
  refine Ru.call (q := (.invokevirtual 68, 3)) (by decide +kernel) rfl rfl rfl rfl ⟨Nat.le_of_ble_eq_true rfl, Nat.le_of_ble_eq_true rfl, Nat.le_of_ble_eq_true rfl, Nat.le_of_ble_eq_true rfl⟩ (p1_fig3_2) ?_
  refine Ru.op (q := (.iload 5, 2)) (by decide +kernel) rfl ?_
  refine Ru.br2 (k := .eq) (off := 5) (bb := true) (tg := 831) (by decide +kernel) (by decide +kernel) (by decide +kernel) (by decide +kernel) ?_
  refine Ru.op (q := (.iload 5, 2)) (by decide +kernel) rfl ?_
  refine Ru.br (k := .ne) (off := 15) (bb := false) (tg := 836) (by decide +kernel) (by decide +kernel) (by decide +kernel) (by decide +kernel) ?_
  refine Ru.op (q := (.aload_n 3, 1)) (by decide +kernel) rfl ?_
  refine Ru.op (q := (.iconst 0, 1)) (by decide +kernel) rfl ?_
  refine Ru.op (q := (.laload, 1)) (by decide +kernel) rfl ?_
  refine Ru.op (q := (.iload 6, 2)) (by decide +kernel) rfl ?_
  refine Ru.op (q := (.i2l, 1)) (by decide +kernel) rfl ?_
  refine Ru.op (q := (.lcmp, 1)) (by decide +kernel) rfl ?_
  refine Ru.br (k := .eq) (off := 5) (bb := true) (tg := 848) (by decide +kernel) (by decide +kernel) (by decide +kernel) (by decide +kernel) ?_
  refine Ru.op (q := (.goto 3, 3)) (by decide +kernel) rfl ?_
  exact p1_tail rfl
set_option maxRecDepth 100000 in
theorem p1_fig4_0 : Ru none 2047 83977 171 (0, mn_pad (mn_ent [.ref 0, .int 4, .ref 71]) 4, [], 20574, fh_0) ((0, some (.int 0)), 20574, fh_0) := Ru.of 18 (by decide +kernel)
set_option maxRecDepth 100000 in
theorem p1_fig4_1 : Ru none 2047 83979 157 (0, mn_pad (mn_ent [.ref 36, .int 4]) 2, [], 20574, fh_0) ((0, some (.int 0)), 20574, fh_0) := Ru.of 15 (by decide +kernel)
set_option maxRecDepth 100000 in
theorem p1_fig4_2 : Ru none 2047 83980 94 (0, mn_pad (mn_ent [.ref 36]) 1, [], 20574, fh_0) ((0, some (.int 0)), 20574, fh_0) := Ru.of 5 (by decide +kernel)
set_option maxRecDepth 100000 in
set_option maxHeartbeats 4000000 in
theorem p1_fig4 {s0 s2 s3 s4 : Int32} : Ru (some [s0, 4, s2, s3, s4]) 2048 84000 172 (795, [some (.retAddr 0), some (.ref 0), some (.ref 36), some (.ref 71), some (.int 0), none, none], [], 20574, fh_0) ((0, some (.int 1)), 20574, fh_0) := by
  refine Ru.op (q := (.aload_n 1, 1)) (by decide +kernel) rfl ?_
  refine Ru.op (q := (.aload_n 0, 1)) (by decide +kernel) rfl ?_
  refine Ru.op (q := (.iload 4, 2)) (by decide +kernel) rfl ?_
  refine Ru.op (q := (.iconst 1, 1)) (by decide +kernel) rfl ?_
  refine Ru.op (q := (.iadd, 1)) (by decide +kernel) rfl ?_
  refine Ru.sld (L := 5) (k := 1) (v := 4) rfl rfl (by decide +kernel) (by decide +kernel) (by decide +kernel) rfl ?_
  refine Ru.op (q := (.aload_n 3, 1)) (by decide +kernel) rfl ?_
  refine Ru.call (q := (.invokestatic 117, 3)) (by decide +kernel) rfl rfl rfl rfl ⟨Nat.le_of_ble_eq_true rfl, Nat.le_of_ble_eq_true rfl, Nat.le_of_ble_eq_true rfl, Nat.le_of_ble_eq_true rfl⟩ (p1_fig4_0) ?_
  refine Ru.op (q := (.istore 5, 2)) (by decide +kernel) rfl ?_
  refine Ru.op (q := (.aload_n 2, 1)) (by decide +kernel) rfl ?_
  refine Ru.op (q := (.aload_n 0, 1)) (by decide +kernel) rfl ?_
  refine Ru.op (q := (.iload 4, 2)) (by decide +kernel) rfl ?_
  refine Ru.op (q := (.iconst 1, 1)) (by decide +kernel) rfl ?_
  refine Ru.op (q := (.iadd, 1)) (by decide +kernel) rfl ?_
  refine Ru.sld (L := 5) (k := 1) (v := 4) rfl rfl (by decide +kernel) (by decide +kernel) (by decide +kernel) rfl ?_
  refine Ru.call (q := (.invokevirtual 119, 3)) (by decide +kernel) rfl rfl rfl rfl ⟨Nat.le_of_ble_eq_true rfl, Nat.le_of_ble_eq_true rfl, Nat.le_of_ble_eq_true rfl, Nat.le_of_ble_eq_true rfl⟩ (p1_fig4_1) ?_
  refine Ru.op (q := (.istore 6, 2)) (by decide +kernel) rfl ?_
  refine Ru.op (q := (.aload_n 2, 1)) (by decide +kernel) rfl ?_
  refine Ru.call (q := (.invokevirtual 68, 3)) (by decide +kernel) rfl rfl rfl rfl ⟨Nat.le_of_ble_eq_true rfl, Nat.le_of_ble_eq_true rfl, Nat.le_of_ble_eq_true rfl, Nat.le_of_ble_eq_true rfl⟩ (p1_fig4_2) ?_
  refine Ru.op (q := (.iload 5, 2)) (by decide +kernel) rfl ?_
  refine Ru.br2 (k := .eq) (off := 5) (bb := true) (tg := 831) (by decide +kernel) (by decide +kernel) (by decide +kernel) (by decide +kernel) ?_
  refine Ru.op (q := (.iload 5, 2)) (by decide +kernel) rfl ?_
  refine Ru.br (k := .ne) (off := 15) (bb := false) (tg := 836) (by decide +kernel) (by decide +kernel) (by decide +kernel) (by decide +kernel) ?_
  refine Ru.op (q := (.aload_n 3, 1)) (by decide +kernel) rfl ?_
  refine Ru.op (q := (.iconst 0, 1)) (by decide +kernel) rfl ?_
  refine Ru.op (q := (.laload, 1)) (by decide +kernel) rfl ?_
  refine Ru.op (q := (.iload 6, 2)) (by decide +kernel) rfl ?_
  refine Ru.op (q := (.i2l, 1)) (by decide +kernel) rfl ?_
  refine Ru.op (q := (.lcmp, 1)) (by decide +kernel) rfl ?_
  refine Ru.br (k := .eq) (off := 5) (bb := true) (tg := 848) (by decide +kernel) (by decide +kernel) (by decide +kernel) (by decide +kernel) ?_
  refine Ru.op (q := (.goto 3, 3)) (by decide +kernel) rfl ?_
  exact p1_tail rfl
set_option maxRecDepth 100000 in
theorem p1_fig5_0 : Ru none 2047 83977 171 (0, mn_pad (mn_ent [.ref 0, .int 5, .ref 71]) 4, [], 20574, fh_0) ((0, some (.int 0)), 20574, fh_0) := Ru.of 18 (by decide +kernel)
set_option maxRecDepth 100000 in
theorem p1_fig5_1 : Ru none 2047 83979 157 (0, mn_pad (mn_ent [.ref 36, .int 5]) 2, [], 20574, fh_0) ((0, some (.int 0)), 20574, fh_0) := Ru.of 15 (by decide +kernel)
set_option maxRecDepth 100000 in
theorem p1_fig5_2 : Ru none 2047 83980 94 (0, mn_pad (mn_ent [.ref 36]) 1, [], 20574, fh_0) ((0, some (.int 0)), 20574, fh_0) := Ru.of 5 (by decide +kernel)
set_option maxRecDepth 100000 in
set_option maxHeartbeats 4000000 in
theorem p1_fig5 {s0 s2 s3 s4 : Int32} : Ru (some [s0, 5, s2, s3, s4]) 2048 84000 172 (795, [some (.retAddr 0), some (.ref 0), some (.ref 36), some (.ref 71), some (.int 0), none, none], [], 20574, fh_0) ((0, some (.int 1)), 20574, fh_0) := by
  refine Ru.op (q := (.aload_n 1, 1)) (by decide +kernel) rfl ?_
  refine Ru.op (q := (.aload_n 0, 1)) (by decide +kernel) rfl ?_
  refine Ru.op (q := (.iload 4, 2)) (by decide +kernel) rfl ?_
  refine Ru.op (q := (.iconst 1, 1)) (by decide +kernel) rfl ?_
  refine Ru.op (q := (.iadd, 1)) (by decide +kernel) rfl ?_
  refine Ru.sld (L := 5) (k := 1) (v := 5) rfl rfl (by decide +kernel) (by decide +kernel) (by decide +kernel) rfl ?_
  refine Ru.op (q := (.aload_n 3, 1)) (by decide +kernel) rfl ?_
  refine Ru.call (q := (.invokestatic 117, 3)) (by decide +kernel) rfl rfl rfl rfl ⟨Nat.le_of_ble_eq_true rfl, Nat.le_of_ble_eq_true rfl, Nat.le_of_ble_eq_true rfl, Nat.le_of_ble_eq_true rfl⟩ (p1_fig5_0) ?_
  refine Ru.op (q := (.istore 5, 2)) (by decide +kernel) rfl ?_
  refine Ru.op (q := (.aload_n 2, 1)) (by decide +kernel) rfl ?_
  refine Ru.op (q := (.aload_n 0, 1)) (by decide +kernel) rfl ?_
  refine Ru.op (q := (.iload 4, 2)) (by decide +kernel) rfl ?_
  refine Ru.op (q := (.iconst 1, 1)) (by decide +kernel) rfl ?_
  refine Ru.op (q := (.iadd, 1)) (by decide +kernel) rfl ?_
  refine Ru.sld (L := 5) (k := 1) (v := 5) rfl rfl (by decide +kernel) (by decide +kernel) (by decide +kernel) rfl ?_
  refine Ru.call (q := (.invokevirtual 119, 3)) (by decide +kernel) rfl rfl rfl rfl ⟨Nat.le_of_ble_eq_true rfl, Nat.le_of_ble_eq_true rfl, Nat.le_of_ble_eq_true rfl, Nat.le_of_ble_eq_true rfl⟩ (p1_fig5_1) ?_
  refine Ru.op (q := (.istore 6, 2)) (by decide +kernel) rfl ?_
  refine Ru.op (q := (.aload_n 2, 1)) (by decide +kernel) rfl ?_
  refine Ru.call (q := (.invokevirtual 68, 3)) (by decide +kernel) rfl rfl rfl rfl ⟨Nat.le_of_ble_eq_true rfl, Nat.le_of_ble_eq_true rfl, Nat.le_of_ble_eq_true rfl, Nat.le_of_ble_eq_true rfl⟩ (p1_fig5_2) ?_
  refine Ru.op (q := (.iload 5, 2)) (by decide +kernel) rfl ?_
  refine Ru.br2 (k := .eq) (off := 5) (bb := true) (tg := 831) (by decide +kernel) (by decide +kernel) (by decide +kernel) (by decide +kernel) ?_
  refine Ru.op (q := (.iload 5, 2)) (by decide +kernel) rfl ?_
  refine Ru.br (k := .ne) (off := 15) (bb := false) (tg := 836) (by decide +kernel) (by decide +kernel) (by decide +kernel) (by decide +kernel) ?_
  refine Ru.op (q := (.aload_n 3, 1)) (by decide +kernel) rfl ?_
  refine Ru.op (q := (.iconst 0, 1)) (by decide +kernel) rfl ?_
  refine Ru.op (q := (.laload, 1)) (by decide +kernel) rfl ?_
  refine Ru.op (q := (.iload 6, 2)) (by decide +kernel) rfl ?_
  refine Ru.op (q := (.i2l, 1)) (by decide +kernel) rfl ?_
  refine Ru.op (q := (.lcmp, 1)) (by decide +kernel) rfl ?_
  refine Ru.br (k := .eq) (off := 5) (bb := true) (tg := 848) (by decide +kernel) (by decide +kernel) (by decide +kernel) (by decide +kernel) ?_
  refine Ru.op (q := (.goto 3, 3)) (by decide +kernel) rfl ?_
  exact p1_tail rfl
