/-! longs, handlers, the script -/
def St.o (S : St) (x : Int64) : St := St.mk S.F0 S.A0 S.R S.tl S.ns x
def lI (x : Int) : Int64 := (eI x).toInt64
theorem ar_and15 (x : Int) : mn_ar .iand (eI x) (eI 15) = some (eI (x % 16)) := by
  refine congrArg some (eI_ext ?_)
  rw [Int32.toBitVec_and, eI_bv, eI_bv]
  apply BitVec.eq_of_toNat_eq
  rw [BitVec.toNat_and, BitVec.toNat_ofInt, BitVec.toNat_ofInt, BitVec.toNat_ofInt]
  have e : ((15 : Int) % ((2 ^ 32 : Nat) : Int)).toNat = 2 ^ 4 - 1 := by decide
  rw [e, Nat.and_two_pow_sub_one_eq_mod]
  omega
theorem lg_1 {x y : Int64} (h : x = y) : mn_cmp .eq (lg_cmp x y) 0 = true := by
  subst h
  exact ty_eq x
theorem lg_0 {x y : Int64} (h : ¬ x = y) : mn_cmp .eq (lg_cmp x y) 0 = false := by
  unfold lg_cmp
  by_cases h1 : x > y
  · rw [if_pos h1]; rfl
  · rw [if_neg h1, if_neg h]; rfl
theorem po_71 (S : St) (x : Int64) : (Hp S).set 71 (53, [Value.long S.O].set 0 (.long x)) = Hp (S.o x) := rfl
section RL
variable {sc : Option (List Int32)} {fr lo j pc : Nat} {xs : List (Option Value)} {st : List Value} {ns : Nat} {hs hs' : mn_H} {r : mn_A}
theorem Ru.i2l {pc' : Nat} {x : Int} (hd : decode (mt_code j) pc = .ok (.i2l, 1)) (hq : pc + 1 = pc') (h : Ru sc fr lo j (pc', xs, .long (lI x) :: st, ns, hs) r) : Ru sc fr lo j (pc, xs, vI x :: st, ns, hs) r := by
  subst hq
  refine Ru.op (S' := (pc + 1, xs, .long (lI x) :: st, ns, hs)) hd ?_ h
  cases st with
  | nil => rfl
  | cons v st => cases v <;> rfl
theorem Ru.lcm {pc' : Nat} {x y : Int64} (hd : decode (mt_code j) pc = .ok (.lcmp, 1)) (hq : pc + 1 = pc') (h : Ru sc fr lo j (pc', xs, .int (lg_cmp x y) :: st, ns, hs) r) : Ru sc fr lo j (pc, xs, .long y :: .long x :: st, ns, hs) r := by
  subst hq
  exact Ru.op (S' := (pc + 1, xs, .int (lg_cmp x y) :: st, ns, hs)) hd rfl h
theorem Ru.lst {pc' : Nat} {S : St} {x : Int64} (hd : decode (mt_code j) pc = .ok (.lastore, 1)) (hq : pc + 1 = pc') (h : Ru sc fr lo j (pc', xs, st, ns, Hp (S.o x)) r) : Ru sc fr lo j (pc, xs, .long x :: vI 0 :: .ref 71 :: st, ns, Hp S) r := by
  subst hq
  refine Ru.last hd (hp71 S) (n := 0) rfl (by decide) (Nat.le_of_ble_eq_true rfl) ?_
  rw [po_71]
  exact h
theorem Ru.lld {pc' : Nat} {S : St} (hd : decode (mt_code j) pc = .ok (.laload, 1)) (hq : pc + 1 = pc') (h : Ru sc fr lo j (pc', xs, .long S.O :: st, ns, Hp S) r) : Ru sc fr lo j (pc, xs, vI 0 :: .ref 71 :: st, ns, Hp S) r := by
  subst hq
  exact Ru.lald hd (hp71 S) (n := 0) rfl (by decide) rfl h
theorem Ru.vcatI {i j2 ci a k k0 hp : Nat} {z : Int} {as r0 vs : List Value} {w : Option Value} {ns1 : Nat} {hs1 : mn_H} (hd : decode (mt_code j) pc = .ok (.invokevirtual i, 3)) (hpl : mt_pl j i = (8, j2, ci, k0, z)) (h0 : st.drop (mt_na j2) = .ref a :: r0) (hA : (st.take (mt_na j2)).reverse = as) (ha : hs[a]? = some (ci, vs)) (hci : ci < 50) (hc : 1 ≤ fr ∧ 19 + mt_ml j2 ≤ lo ∧ mn_cat r0 ≤ 8 ∧ (mn_ent (.ref a :: as)).length ≤ mt_ml j2) (hhd : mn_hd (mt_hl j) pc k = some hp)
    (h1 : Ru none (fr - 1) (lo - (19 + mt_ml j2)) j2 (0, mn_pad (mn_ent (.ref a :: as)) (mt_ml j2), [], ns, hs) ((k + 1, w), ns1, hs1)) (h2 : Ru sc fr lo j (hp, xs, [.ref (hs1.length - 1)], ns1, hs1) r) : Ru sc fr lo j (pc, xs, st, ns, hs) r := Ru.vcatch hd hpl h0 hA ha hci hc hhd h1 h2
end RL
section RM
variable {l : List Int32} {fr lo j pc : Nat} {xs : List (Option Value)} {st : List Value} {ns : Nat} {hs : mn_H} {r : mn_A}
theorem Ru.sldI {pc' : Nat} {i z : Int} {q : Nat} (hd : decode (mt_code j) pc = .ok (.iaload, 1)) (hi : ixR i l.length) (hl : l.length < 2147483648) (hz : (l.getD i.toNat 0).toInt = z) (hq : pc + 1 = pc') (h : Ru (some l) fr lo j (pc', xs, vI z :: st, ns, hs) r) : Ru (some l) fr lo j (pc, xs, vI i :: .retAddr q :: st, ns, hs) r := by
  subst hq hz
  have h1 := hi.1
  have h2 := hi.2
  refine Ru.sldn (n := i.toNat) hd (eI_nI h1) (by omega) (by omega) ?_
  rw [← eI_of (l.getD i.toNat 0)]
  rw [eI_of]
  have e : Value.int (l.getD i.toNat 0) = vI (l.getD i.toNat 0).toInt := by show _ = Value.int (eI _); rw [eI_of]
  rw [e]
  exact h
theorem Ru.slnI {pc' : Nat} {z : Int} {q : Nat} (hd : decode (mt_code j) pc = .ok (.arraylength, 1)) (hz : (l.length : Int) = z) (hq : pc + 1 = pc') (h : Ru (some l) fr lo j (pc', xs, vI z :: st, ns, hs) r) : Ru (some l) fr lo j (pc, xs, .retAddr q :: st, ns, hs) r := by
  subst hq hz
  refine Ru.slen rfl rfl hd ?_
  have e : Int32.ofNat l.length = eI (l.length : Int) := by rw [eI_nI (Int.natCast_nonneg _), Int.toNat_natCast]; rfl
  rw [e]
  exact h
end RM
