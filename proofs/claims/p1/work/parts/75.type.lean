theorem ty_eq (x : Int64) : mn_cmp .eq (lg_cmp x x) 0 = true := by
  unfold lg_cmp
  simp [mn_cmp]
/-- the word of a call at place p of the script -/
def ty_v (l : List Int32) (p : Nat) : Int64 := ((l.getD (p + 1) 0).toInt64 <<< ((Int8.ofInt 32).toInt32.toInt64 &&& 63) ||| (l.getD (p + 2) 0).toInt64 &&& Int64.ofInt 4294967295)
set_option maxRecDepth 100000 in
set_option maxHeartbeats 4000000 in
/-- the law's call of type -/
theorem ty_L {l : List Int32} {p ns b c e t : Nat} {hs : mn_H} {av bv cv mv tv : List Value} {x : Value} {x5 x6 : Option Value} {r : mn_A} (hp : p + 5 ≤ l.length) (hl : l.length < 2 ^ 31) (ha : hs[0]? = some (0, av)) (hav : av[0]? = some (.ref b)) (hb : hs[b]? = some (1, bv)) (hbt : bv[1]? = some (.int (nI t))) (hbc : bv[0]? = some (.ref c)) (hc : hs[c]? = some (52, cv)) (hcl : cv.length = 160) (ht : t ≤ 160) (hd : hs[71]? = some (53, [x])) (hm : hs[36]? = some (10, mv)) (hml : mv.length = 59) (hmt : mv[2]? = some (.int (nI t))) (hmc : mv[3]? = some (.ref e)) (he : hs[e]? = some (50, tv)) (hel : tv.length = 160)
    (h1 : ty_f (ty_b (ty_v l p)) 8 0 = none → ∀ y5 y6, Ru (some l) 2048 84000 172 (851, [some (.retAddr 0), some (.ref 0), some (.ref 36), some (.ref 71), some (.int (nI p)), y5, y6], [], ns + 6, (hs ++ [(99, [])]).set 36 (10, mv.set 0 (.int 1))) r)
    (h2 : ∀ n, ty_f (ty_b (ty_v l p)) 8 0 = some n → 160 < t + n → ∀ y5 y6, Ru (some l) 2048 84000 172 (851, [some (.retAddr 0), some (.ref 0), some (.ref 36), some (.ref 71), some (.int (nI p)), y5, y6], [], ns + 6, (hs ++ [(99, [])]).set 36 (10, mv.set 0 (.int 2))) r)
    (h3 : ∀ n, ty_f (ty_b (ty_v l p)) 8 0 = some n → t + n ≤ 160 → ∀ y5 y6, Ru (some l) 2048 84000 172 (851, [some (.retAddr 0), some (.ref 0), some (.ref 36), some (.ref 71), some (.int (nI p)), y5, y6], [], ns, ty_HM ((ty_H hs b c t bv cv (ty_v l p) n).set 71 (53, [.long (lN (t + n))])) 36 e t mv tv (ty_v l p) n) r) : Ru (some l) 2048 84000 172 (108, [some (.retAddr 0), some (.ref 0), some (.ref 36), some (.ref 71), some (.int (nI p)), x5, x6], [], ns, hs) r := by
  have hW := ty_W (v := ty_v l p) (ns := ns) ha hav hb hbt hbc hc hcl ht hd
  have hg : ∀ {i : Nat} {z : mn_C}, hs[i]? = some z → (hs ++ [(99, [])])[i]? = some z := fun {i z} h => by rw [List.getElem?_append_left (List.getElem?_eq_some_iff.mp h).1]; exact h
  have hm0 : mv[0]? = some mv[0] := List.getElem?_eq_getElem _
  refine Ru.op (q := (.aload_n 1, 1)) (by decide +kernel) rfl ?_
  refine Ru.op (q := (.aload_n 0, 1)) (by decide +kernel) rfl ?_
  refine Ru.op (q := (.iload 4, 2)) (by decide +kernel) rfl ?_
  refine Ru.op (q := (.iconst 1, 1)) (by decide +kernel) rfl ?_
  refine Ru.op (q := (.iadd, 1)) (by decide +kernel) rfl ?_
  refine Ru.sldn (n := p + 1) (by decide +kernel) (nI_add p 1) (by omega) hl ?_
  refine Ru.op (q := (.i2l, 1)) (by decide +kernel) rfl ?_
  refine Ru.op (q := (.bipush 32, 2)) (by decide +kernel) rfl ?_
  refine Ru.op (q := (.lshl, 1)) (by decide +kernel) rfl ?_
  refine Ru.op (q := (.aload_n 0, 1)) (by decide +kernel) rfl ?_
  refine Ru.op (q := (.iload 4, 2)) (by decide +kernel) rfl ?_
  refine Ru.op (q := (.iconst 2, 1)) (by decide +kernel) rfl ?_
  refine Ru.op (q := (.iadd, 1)) (by decide +kernel) rfl ?_
  refine Ru.sldn (n := p + 2) (by decide +kernel) (nI_add p 2) (by omega) hl ?_
  refine Ru.op (q := (.i2l, 1)) (by decide +kernel) rfl ?_
  refine Ru.op (q := (.ldc2_w 60, 3)) (by decide +kernel) rfl ?_
  refine Ru.op (q := (.land, 1)) (by decide +kernel) rfl ?_
  refine Ru.op (q := (.lor, 1)) (by decide +kernel) rfl ?_
  refine Ru.op (q := (.aload_n 3, 1)) (by decide +kernel) rfl ?_
  show Ru (some l) 2048 84000 172 (132, [some (.retAddr 0), some (.ref 0), some (.ref 36), some (.ref 71), some (.int (nI p)), x5, x6], [.ref 71, .long (ty_v l p), .ref 0], ns, hs) r
  cases hf : ty_f (ty_b (ty_v l p)) 8 0 with
  | none =>
    refine Ru.call (q := (.invokestatic 62, 3)) (j2 := 162) (by decide +kernel) rfl rfl rfl rfl ⟨Nat.le_of_ble_eq_true rfl, Nat.le_of_ble_eq_true rfl, Nat.le_of_ble_eq_true rfl, Nat.le_of_ble_eq_true rfl⟩ (hW.1 hf) ?_
    refine Ru.op (q := (.istore 5, 2)) (by decide +kernel) rfl ?_
    refine Ru.op (q := (.aload_n 2, 1)) (by decide +kernel) rfl ?_
    refine Ru.op (q := (.aload_n 0, 1)) (by decide +kernel) rfl ?_
    refine Ru.op (q := (.iload 4, 2)) (by decide +kernel) rfl ?_
    refine Ru.op (q := (.iconst 1, 1)) (by decide +kernel) rfl ?_
    refine Ru.op (q := (.iadd, 1)) (by decide +kernel) rfl ?_
    refine Ru.sldn (n := p + 1) (by decide +kernel) (nI_add p 1) (by omega) hl ?_
    refine Ru.op (q := (.i2l, 1)) (by decide +kernel) rfl ?_
    refine Ru.op (q := (.bipush 32, 2)) (by decide +kernel) rfl ?_
    refine Ru.op (q := (.lshl, 1)) (by decide +kernel) rfl ?_
    refine Ru.op (q := (.aload_n 0, 1)) (by decide +kernel) rfl ?_
    refine Ru.op (q := (.iload 4, 2)) (by decide +kernel) rfl ?_
    refine Ru.op (q := (.iconst 2, 1)) (by decide +kernel) rfl ?_
    refine Ru.op (q := (.iadd, 1)) (by decide +kernel) rfl ?_
    refine Ru.sldn (n := p + 2) (by decide +kernel) (nI_add p 2) (by omega) hl ?_
    refine Ru.op (q := (.i2l, 1)) (by decide +kernel) rfl ?_
    refine Ru.op (q := (.ldc2_w 60, 3)) (by decide +kernel) rfl ?_
    refine Ru.op (q := (.land, 1)) (by decide +kernel) rfl ?_
    refine Ru.op (q := (.lor, 1)) (by decide +kernel) rfl ?_
    show Ru (some l) 2048 84000 172 (160, [some (.retAddr 0), some (.ref 0), some (.ref 36), some (.ref 71), some (.int (nI p)), some (.int 1), x6], [.long (ty_v l p), .ref 36], ns + 6, (hs ++ [(99, [])])) r
    have hM := ty_M (v := ty_v l p) (ns := ns + 6) (hg hm) hml hmt hmc (hg he) hel ht
    refine Ru.vcall (i := 67) (j2 := 95) (as := [.long (ty_v l p)]) (by decide +kernel) (by rfl) rfl rfl (hg hm) (by decide) ⟨Nat.le_of_ble_eq_true rfl, Nat.le_of_ble_eq_true rfl, Nat.le_of_ble_eq_true rfl, Nat.le_of_ble_eq_true rfl⟩ (hM.1 hf) ?_
    refine Ru.op (q := (.istore 6, 2)) (by decide +kernel) rfl ?_
    refine Ru.op (q := (.aload_n 2, 1)) (by decide +kernel) rfl ?_
    refine Ru.vcall (i := 68) (j2 := 94) (as := []) (by decide +kernel) (by rfl) rfl rfl (h_set (hg hm)) (by decide) ⟨Nat.le_of_ble_eq_true rfl, Nat.le_of_ble_eq_true rfl, Nat.le_of_ble_eq_true rfl, Nat.le_of_ble_eq_true rfl⟩ (ty_T (h_set (hg hm)) (v_set hm0)) ?_
    refine Ru.op (q := (.iload 5, 2)) (by decide +kernel) rfl ?_
    refine Ru.br2 (k := .eq) (off := 5) (bb := true) (tg := 176) (by decide +kernel) (by decide +kernel) (by decide +kernel) rfl ?_
    refine Ru.op (q := (.iload 5, 2)) (by decide +kernel) rfl ?_
    refine Ru.br (k := .ne) (off := 15) (bb := true) (tg := 193) (by decide +kernel) (by decide +kernel) (by decide +kernel) rfl ?_
    refine Ru.op (q := (.goto 658, 3)) (by decide +kernel) rfl ?_
    exact h1 hf _ _
  | some n =>
    by_cases hn : t + n ≤ 160
    · have hle := ty_f_le _ _ _ hf
      have hmb : b ≠ 36 := h_ne hb hm (Nat.ne_of_beq_eq_false rfl)
      have hmc' : c ≠ 36 := h_ne hc hm (Nat.ne_of_beq_eq_false rfl)
      have heb : b ≠ e := h_ne hb he (Nat.ne_of_beq_eq_false rfl)
      have hec : c ≠ e := h_ne hc he (Nat.ne_of_beq_eq_false rfl)
      have hed : 71 ≠ e := h_ne hd he (Nat.ne_of_beq_eq_false rfl)
      have hem : e ≠ 36 := h_ne he hm (Nat.ne_of_beq_eq_false rfl)
      have hdb : b ≠ 71 := h_ne hb hd (Nat.ne_of_beq_eq_false rfl)
      have hdc : c ≠ 71 := h_ne hc hd (Nat.ne_of_beq_eq_false rfl)
      have km : ((ty_H hs b c t bv cv (ty_v l p) n).set 71 (53, [.long (lN (t + n))]))[36]? = some (10, mv) := by rw [h_oth (by decide)]; unfold ty_H; rw [h_oth hmb, h_oth hmc']; exact hm
      have ke : ((ty_H hs b c t bv cv (ty_v l p) n).set 71 (53, [.long (lN (t + n))]))[e]? = some (50, tv) := by rw [h_oth hed]; unfold ty_H; rw [h_oth heb, h_oth hec]; exact he
      have kd : ((ty_H hs b c t bv cv (ty_v l p) n).set 71 (53, [.long (lN (t + n))]))[71]? = some (53, [.long (lN (t + n))]) := h_set (x := (53, [x])) (by unfold ty_H; rw [h_oth hdb, h_oth hdc]; exact hd)
      have kd2 : (ty_HM ((ty_H hs b c t bv cv (ty_v l p) n).set 71 (53, [.long (lN (t + n))])) 36 e t mv tv (ty_v l p) n)[71]? = some (53, [.long (lN (t + n))]) := by unfold ty_HM; rw [h_oth (by decide), h_oth (fun h => hed h.symm)]; exact kd
      have km2 : (ty_HM ((ty_H hs b c t bv cv (ty_v l p) n).set 71 (53, [.long (lN (t + n))])) 36 e t mv tv (ty_v l p) n)[36]? = some (10, (mv.set 0 (.int 0)).set 2 (.int (nI (t + n)))) := by unfold ty_HM; exact h_set (x := (10, mv)) (by rw [h_oth hem]; exact km)
      refine Ru.call (q := (.invokestatic 62, 3)) (j2 := 162) (by decide +kernel) rfl rfl rfl rfl ⟨Nat.le_of_ble_eq_true rfl, Nat.le_of_ble_eq_true rfl, Nat.le_of_ble_eq_true rfl, Nat.le_of_ble_eq_true rfl⟩ ((hW.2 n hf).1 hn) ?_
      refine Ru.op (q := (.istore 5, 2)) (by decide +kernel) rfl ?_
      refine Ru.op (q := (.aload_n 2, 1)) (by decide +kernel) rfl ?_
      refine Ru.op (q := (.aload_n 0, 1)) (by decide +kernel) rfl ?_
      refine Ru.op (q := (.iload 4, 2)) (by decide +kernel) rfl ?_
      refine Ru.op (q := (.iconst 1, 1)) (by decide +kernel) rfl ?_
      refine Ru.op (q := (.iadd, 1)) (by decide +kernel) rfl ?_
      refine Ru.sldn (n := p + 1) (by decide +kernel) (nI_add p 1) (by omega) hl ?_
      refine Ru.op (q := (.i2l, 1)) (by decide +kernel) rfl ?_
      refine Ru.op (q := (.bipush 32, 2)) (by decide +kernel) rfl ?_
      refine Ru.op (q := (.lshl, 1)) (by decide +kernel) rfl ?_
      refine Ru.op (q := (.aload_n 0, 1)) (by decide +kernel) rfl ?_
      refine Ru.op (q := (.iload 4, 2)) (by decide +kernel) rfl ?_
      refine Ru.op (q := (.iconst 2, 1)) (by decide +kernel) rfl ?_
      refine Ru.op (q := (.iadd, 1)) (by decide +kernel) rfl ?_
      refine Ru.sldn (n := p + 2) (by decide +kernel) (nI_add p 2) (by omega) hl ?_
      refine Ru.op (q := (.i2l, 1)) (by decide +kernel) rfl ?_
      refine Ru.op (q := (.ldc2_w 60, 3)) (by decide +kernel) rfl ?_
      refine Ru.op (q := (.land, 1)) (by decide +kernel) rfl ?_
      refine Ru.op (q := (.lor, 1)) (by decide +kernel) rfl ?_
      show Ru (some l) 2048 84000 172 (160, [some (.retAddr 0), some (.ref 0), some (.ref 36), some (.ref 71), some (.int (nI p)), some (.int 0), x6], [.long (ty_v l p), .ref 36], ns, ((ty_H hs b c t bv cv (ty_v l p) n).set 71 (53, [.long (lN (t + n))]))) r
      have hM := ty_M (v := ty_v l p) (ns := ns) km hml hmt hmc ke hel ht
      refine Ru.vcall (i := 67) (j2 := 95) (as := [.long (ty_v l p)]) (by decide +kernel) (by rfl) rfl rfl (km) (by decide) ⟨Nat.le_of_ble_eq_true rfl, Nat.le_of_ble_eq_true rfl, Nat.le_of_ble_eq_true rfl, Nat.le_of_ble_eq_true rfl⟩ ((hM.2 n hf).1 hn) ?_
      refine Ru.op (q := (.istore 6, 2)) (by decide +kernel) rfl ?_
      refine Ru.op (q := (.aload_n 2, 1)) (by decide +kernel) rfl ?_
      refine Ru.vcall (i := 68) (j2 := 94) (as := []) (by decide +kernel) (by rfl) rfl rfl (km2) (by decide) ⟨Nat.le_of_ble_eq_true rfl, Nat.le_of_ble_eq_true rfl, Nat.le_of_ble_eq_true rfl, Nat.le_of_ble_eq_true rfl⟩ (ty_T (km2) ((v_oth (by decide)).trans (v_set hm0))) ?_
      refine Ru.op (q := (.iload 5, 2)) (by decide +kernel) rfl ?_
      refine Ru.br2 (k := .eq) (off := 5) (bb := true) (tg := 176) (by decide +kernel) (by decide +kernel) (by decide +kernel) rfl ?_
      refine Ru.op (q := (.iload 5, 2)) (by decide +kernel) rfl ?_
      refine Ru.br (k := .ne) (off := 15) (bb := false) (tg := 181) (by decide +kernel) (by decide +kernel) (by decide +kernel) rfl ?_
      refine Ru.op (q := (.aload_n 3, 1)) (by decide +kernel) rfl ?_
      refine Ru.op (q := (.iconst 0, 1)) (by decide +kernel) rfl ?_
      refine Ru.lald (n := 0) (by decide +kernel) kd2 rfl (by decide) rfl ?_
      refine Ru.op (q := (.iload 6, 2)) (by decide +kernel) rfl ?_
      refine Ru.op (q := (.i2l, 1)) (by decide +kernel) rfl ?_
      refine Ru.op (q := (.lcmp, 1)) (by decide +kernel) rfl ?_
      refine Ru.br (k := .eq) (off := 5) (bb := true) (tg := 193) (by decide +kernel) (by decide +kernel) (by rw [nI_l (by omega)]; exact ty_eq _) rfl ?_
      refine Ru.op (q := (.goto 658, 3)) (by decide +kernel) rfl ?_
      exact h3 n hf hn _ _
    · have hn2 : 160 < t + n := by omega
      refine Ru.call (q := (.invokestatic 62, 3)) (j2 := 162) (by decide +kernel) rfl rfl rfl rfl ⟨Nat.le_of_ble_eq_true rfl, Nat.le_of_ble_eq_true rfl, Nat.le_of_ble_eq_true rfl, Nat.le_of_ble_eq_true rfl⟩ ((hW.2 n hf).2 hn2) ?_
      refine Ru.op (q := (.istore 5, 2)) (by decide +kernel) rfl ?_
      refine Ru.op (q := (.aload_n 2, 1)) (by decide +kernel) rfl ?_
      refine Ru.op (q := (.aload_n 0, 1)) (by decide +kernel) rfl ?_
      refine Ru.op (q := (.iload 4, 2)) (by decide +kernel) rfl ?_
      refine Ru.op (q := (.iconst 1, 1)) (by decide +kernel) rfl ?_
      refine Ru.op (q := (.iadd, 1)) (by decide +kernel) rfl ?_
      refine Ru.sldn (n := p + 1) (by decide +kernel) (nI_add p 1) (by omega) hl ?_
      refine Ru.op (q := (.i2l, 1)) (by decide +kernel) rfl ?_
      refine Ru.op (q := (.bipush 32, 2)) (by decide +kernel) rfl ?_
      refine Ru.op (q := (.lshl, 1)) (by decide +kernel) rfl ?_
      refine Ru.op (q := (.aload_n 0, 1)) (by decide +kernel) rfl ?_
      refine Ru.op (q := (.iload 4, 2)) (by decide +kernel) rfl ?_
      refine Ru.op (q := (.iconst 2, 1)) (by decide +kernel) rfl ?_
      refine Ru.op (q := (.iadd, 1)) (by decide +kernel) rfl ?_
      refine Ru.sldn (n := p + 2) (by decide +kernel) (nI_add p 2) (by omega) hl ?_
      refine Ru.op (q := (.i2l, 1)) (by decide +kernel) rfl ?_
      refine Ru.op (q := (.ldc2_w 60, 3)) (by decide +kernel) rfl ?_
      refine Ru.op (q := (.land, 1)) (by decide +kernel) rfl ?_
      refine Ru.op (q := (.lor, 1)) (by decide +kernel) rfl ?_
      show Ru (some l) 2048 84000 172 (160, [some (.retAddr 0), some (.ref 0), some (.ref 36), some (.ref 71), some (.int (nI p)), some (.int 2), x6], [.long (ty_v l p), .ref 36], ns + 6, (hs ++ [(99, [])])) r
      have hM := ty_M (v := ty_v l p) (ns := ns + 6) (hg hm) hml hmt hmc (hg he) hel ht
      refine Ru.vcall (i := 67) (j2 := 95) (as := [.long (ty_v l p)]) (by decide +kernel) (by rfl) rfl rfl (hg hm) (by decide) ⟨Nat.le_of_ble_eq_true rfl, Nat.le_of_ble_eq_true rfl, Nat.le_of_ble_eq_true rfl, Nat.le_of_ble_eq_true rfl⟩ ((hM.2 n hf).2 hn2) ?_
      refine Ru.op (q := (.istore 6, 2)) (by decide +kernel) rfl ?_
      refine Ru.op (q := (.aload_n 2, 1)) (by decide +kernel) rfl ?_
      refine Ru.vcall (i := 68) (j2 := 94) (as := []) (by decide +kernel) (by rfl) rfl rfl (h_set (hg hm)) (by decide) ⟨Nat.le_of_ble_eq_true rfl, Nat.le_of_ble_eq_true rfl, Nat.le_of_ble_eq_true rfl, Nat.le_of_ble_eq_true rfl⟩ (ty_T (h_set (hg hm)) (v_set hm0)) ?_
      refine Ru.op (q := (.iload 5, 2)) (by decide +kernel) rfl ?_
      refine Ru.br2 (k := .eq) (off := 5) (bb := true) (tg := 176) (by decide +kernel) (by decide +kernel) (by decide +kernel) rfl ?_
      refine Ru.op (q := (.iload 5, 2)) (by decide +kernel) rfl ?_
      refine Ru.br (k := .ne) (off := 15) (bb := true) (tg := 193) (by decide +kernel) (by decide +kernel) (by decide +kernel) rfl ?_
      refine Ru.op (q := (.goto 658, 3)) (by decide +kernel) rfl ?_
      exact h2 n hf hn2 _ _
