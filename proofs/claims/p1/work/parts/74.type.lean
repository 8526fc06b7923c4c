section RX9
variable {sc : Option (List Int32)} {fr lo j pc : Nat} {xs : List (Option Value)} {st : List Value} {ns : Nat} {hs : mn_H} {r : mn_A}
theorem Ru.sldn {l : List Int32} {i : Int32} {z n : Nat} (hd : decode (mt_code j) pc = .ok (.iaload, 1)) (hi : i = nI n) (hn : n < l.length) (hl : l.length < 2 ^ 31) (h : Ru (some l) fr lo j (pc + 1, xs, .int (l.getD n 0) :: st, ns, hs) r) : Ru (some l) fr lo j (pc, xs, .int i :: .retAddr z :: st, ns, hs) r := by
  subst hi
  exact Ru.sld rfl rfl hd (nI_in hn hl) (nI_clamp (by omega)) rfl h
theorem Ru.vcall {i j2 ci a k : Nat} {z : Int} {as r0 vs : List Value} {v : Option Value} {ns1 : Nat} {hs1 : mn_H} (hd : decode (mt_code j) pc = .ok (.invokevirtual i, 3)) (hp : mt_pl j i = (8, j2, ci, k, z)) (h0 : st.drop (mt_na j2) = .ref a :: r0) (hA : (st.take (mt_na j2)).reverse = as) (ha : hs[a]? = some (ci, vs)) (hci : ci < 50) (hc : 1 ≤ fr ∧ 19 + mt_ml j2 ≤ lo ∧ mn_cat r0 ≤ 8 ∧ (mn_ent (.ref a :: as)).length ≤ mt_ml j2)
    (h1 : Ru none (fr - 1) (lo - (19 + mt_ml j2)) j2 (0, mn_pad (mn_ent (.ref a :: as)) (mt_ml j2), [], ns, hs) ((0, v), ns1, hs1)) (h2 : Ru sc fr lo j (pc + 3, xs, v.toList ++ r0, ns1, hs1) r) : Ru sc fr lo j (pc, xs, st, ns, hs) r := by
  refine Ru.call hd (by cases sc <;> rfl) rfl rfl ?_ hc h1 h2
  simp only [mn_cal, hp, h0, ha, hA, hci, and_self, if_true]
theorem Ru.vcatch {i j2 ci a k k0 hp : Nat} {z : Int} {as r0 vs : List Value} {w : Option Value} {ns1 : Nat} {hs1 : mn_H} (hd : decode (mt_code j) pc = .ok (.invokevirtual i, 3)) (hpl : mt_pl j i = (8, j2, ci, k0, z)) (h0 : st.drop (mt_na j2) = .ref a :: r0) (hA : (st.take (mt_na j2)).reverse = as) (ha : hs[a]? = some (ci, vs)) (hci : ci < 50) (hc : 1 ≤ fr ∧ 19 + mt_ml j2 ≤ lo ∧ mn_cat r0 ≤ 8 ∧ (mn_ent (.ref a :: as)).length ≤ mt_ml j2) (hhd : mn_hd (mt_hl j) pc k = some hp)
    (h1 : Ru none (fr - 1) (lo - (19 + mt_ml j2)) j2 (0, mn_pad (mn_ent (.ref a :: as)) (mt_ml j2), [], ns, hs) ((k + 1, w), ns1, hs1)) (h2 : Ru sc fr lo j (hp, xs, [.ref (hs1.length - 1)], ns1, hs1) r) : Ru sc fr lo j (pc, xs, st, ns, hs) r := by
  refine Ru.catch hd (by cases sc <;> rfl) rfl rfl ?_ hc hhd h1 h2
  simp only [mn_cal, hpl, h0, ha, hA, hci, and_self, if_true]
end RX9
theorem ty_T {fr lo ns a : Nat} {hs : mn_H} {w : List Value} {f : Int32} (ha : hs[a]? = some (10, w)) (hw : w[0]? = some (.int f)) : Ru none fr lo 94 (0, mn_pad (mn_ent [.ref a]) 1, [], ns, hs) ((0, some (.int f)), ns, hs) := by
  refine Ru.op (q := (.aload_n 0, 1)) (by decide +kernel) rfl ?_
  refine Ru.get (i := 120) (by decide +kernel) (by rfl) (ha) (by decide) (hw) ?_
  exact Ru.iret (by decide +kernel) rfl rfl
set_option maxRecDepth 100000 in
set_option maxHeartbeats 4000000 in
theorem ty_W {ns a b c t d : Nat} {hs : mn_H} {v : Int64} {av bv cv : List Value} {x : Value} (ha : hs[a]? = some (0, av)) (hav : av[0]? = some (.ref b)) (hb : hs[b]? = some (1, bv)) (hbt : bv[1]? = some (.int (nI t))) (hbc : bv[0]? = some (.ref c)) (hc : hs[c]? = some (52, cv)) (hcl : cv.length = 160) (ht : t ≤ 160) (hd : hs[d]? = some (53, [x])) : (ty_f (ty_b v) 8 0 = none → Ru none 2047 83976 162 (0, mn_pad (mn_ent [.ref a, .long v, .ref d]) 5, [], ns, hs) ((0, some (.int 1)), ns + 6, hs ++ [(99, [])])) ∧ (∀ n, ty_f (ty_b v) 8 0 = some n → (t + n ≤ 160 → Ru none 2047 83976 162 (0, mn_pad (mn_ent [.ref a, .long v, .ref d]) 5, [], ns, hs) ((0, some (.int 0)), ns, (ty_H hs b c t bv cv v n).set d (53, [.long (lN (t + n))]))) ∧ (160 < t + n → Ru none 2047 83976 162 (0, mn_pad (mn_ent [.ref a, .long v, .ref d]) 5, [], ns, hs) ((0, some (.int 2)), ns + 6, hs ++ [(99, [])]))) := by
  have hC := ty_C (v := v) (ns := ns) ha hav hb hbt hbc hc hcl ht
  have hbd : b ≠ d := h_ne hb hd (Nat.ne_of_beq_eq_false rfl)
  have hcd : c ≠ d := h_ne hc hd (Nat.ne_of_beq_eq_false rfl)
  refine ⟨fun h => ?_, fun n h => ⟨fun h2 => ?_, fun h2 => ?_⟩⟩
  · refine Ru.op (q := (.aload_n 3, 1)) (by decide +kernel) rfl ?_
    refine Ru.op (q := (.iconst 0, 1)) (by decide +kernel) rfl ?_
    refine Ru.op (q := (.aload_n 0, 1)) (by decide +kernel) rfl ?_
    refine Ru.op (q := (.lload_n 1, 1)) (by decide +kernel) rfl ?_
    refine Ru.vcatch (i := 7) (j2 := 17) (k := 0) (hp := 12) (as := [.long v]) (by decide +kernel) (by rfl) rfl rfl ha (by decide) ⟨Nat.le_of_ble_eq_true rfl, Nat.le_of_ble_eq_true rfl, Nat.le_of_ble_eq_true rfl, Nat.le_of_ble_eq_true rfl⟩ (by decide +kernel) (hC.1 h) ?_
    refine Ru.op (q := (.astore 4, 2)) (by decide +kernel) rfl ?_
    refine Ru.op (q := (.iconst 1, 1)) (by decide +kernel) rfl ?_
    exact Ru.iret (by decide +kernel) rfl rfl
  · refine Ru.op (q := (.aload_n 3, 1)) (by decide +kernel) rfl ?_
    refine Ru.op (q := (.iconst 0, 1)) (by decide +kernel) rfl ?_
    refine Ru.op (q := (.aload_n 0, 1)) (by decide +kernel) rfl ?_
    refine Ru.op (q := (.lload_n 1, 1)) (by decide +kernel) rfl ?_
    refine Ru.vcall (i := 7) (j2 := 17) (as := [.long v]) (by decide +kernel) (by rfl) rfl rfl ha (by decide) ⟨Nat.le_of_ble_eq_true rfl, Nat.le_of_ble_eq_true rfl, Nat.le_of_ble_eq_true rfl, Nat.le_of_ble_eq_true rfl⟩ ((hC.2 n h).1 h2) ?_
    refine Ru.op (q := (.i2l, 1)) (by decide +kernel) rfl ?_
    have hn := ty_f_le _ _ _ h
    have gd : (ty_H hs b c t bv cv v n)[d]? = some (53, [x]) := by unfold ty_H; rw [h_oth hbd, h_oth hcd]; exact hd
    refine Ru.last (n := 0) (by decide +kernel) gd rfl (by decide) Nat.zero_lt_one ?_
    refine Ru.op (q := (.goto 11, 3)) (by decide +kernel) rfl ?_
    refine Ru.op (q := (.iconst 0, 1)) (by decide +kernel) rfl ?_
    show Ru none 2047 83976 162 (21, _, [.int 0], ns, (ty_H hs b c t bv cv v n).set d (53, [.long (nI (t + n)).toInt64])) _
    rw [nI_l (by omega)]
    exact Ru.iret (by decide +kernel) rfl rfl
  · refine Ru.op (q := (.aload_n 3, 1)) (by decide +kernel) rfl ?_
    refine Ru.op (q := (.iconst 0, 1)) (by decide +kernel) rfl ?_
    refine Ru.op (q := (.aload_n 0, 1)) (by decide +kernel) rfl ?_
    refine Ru.op (q := (.lload_n 1, 1)) (by decide +kernel) rfl ?_
    refine Ru.vcatch (i := 7) (j2 := 17) (k := 3) (hp := 16) (as := [.long v]) (by decide +kernel) (by rfl) rfl rfl ha (by decide) ⟨Nat.le_of_ble_eq_true rfl, Nat.le_of_ble_eq_true rfl, Nat.le_of_ble_eq_true rfl, Nat.le_of_ble_eq_true rfl⟩ (by decide +kernel) ((hC.2 n h).2 h2) ?_
    refine Ru.op (q := (.astore 4, 2)) (by decide +kernel) rfl ?_
    refine Ru.op (q := (.iconst 2, 1)) (by decide +kernel) rfl ?_
    exact Ru.iret (by decide +kernel) rfl rfl
