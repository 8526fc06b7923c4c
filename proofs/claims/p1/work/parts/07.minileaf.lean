def mn_cat (r : List Value) : Nat := (r.map fun v => v.category).sum
theorem mn_cat_tr (b : Nat × Nat) (r : List Value) : ((r.map (mn_tr b)).map fun v => v.category).sum = mn_cat r := by
  unfold mn_cat
  rw [List.map_map]
  congr 1
  apply List.map_congr_left
  intro v _
  exact mn_tr_cat b v
def mn_cpy (f g : List Value) (sp dp n : Nat) : List Value := g.take dp ++ (f.drop sp).take n ++ g.drop (dp + n)
/-- the JDK's own members that are reached: Object's constructor, max, min, arraycopy of ints -/
def mn_opE (pl : Nat → mn_K) (fr lo : Nat) (q : Instr × Nat) (pc : Nat) (xs : List (Option Value)) (st : List Value) (ns : Nat) (hs : mn_H) : Option mn_S :=
  match q with
  | (.invokespecial i, 3) => match pl i, st with
    | (10, _, _, _, _), .ref _ :: r => if 1 ≤ fr ∧ mn_cat r + 12 ≤ lo then some (pc + 3, xs, r, ns, hs) else none
    | _, _ => none
  | (.invokestatic i, 3) => match pl i, st with
    | (12, _, _, _, _), .int y :: .int x :: r => if 1 ≤ fr ∧ mn_cat r + 13 ≤ lo then some (pc + 3, xs, .int (if x < y then y else x) :: r, ns, hs) else none
    | (13, _, _, _, _), .int y :: .int x :: r => if 1 ≤ fr ∧ mn_cat r + 13 ≤ lo then some (pc + 3, xs, .int (if y < x then y else x) :: r, ns, hs) else none
    | (11, _, _, _, _), .int n :: .int dp :: .ref a :: .int sp :: .ref a0 :: r => match hs[a0]?, hs[a]? with
      | some (50, f), some (50, g) => if 1 ≤ fr ∧ mn_cat r + (nativeFrameWords "java/lang/System" "arraycopy" 5 + 11) ≤ lo ∧ ¬ sp < 0 ∧ ¬ dp < 0 ∧ ¬ n < 0 ∧ sp.toNatClampNeg + n.toNatClampNeg ≤ f.length ∧ dp.toNatClampNeg + n.toNatClampNeg ≤ g.length then some (pc + 3, xs, r, ns, hs.set a (50, mn_cpy f g sp.toNatClampNeg dp.toNatClampNeg n.toNatClampNeg)) else none
      | _, _ => none
    | _, _ => none
  | _ => none
theorem mn_cpy_len {f g : List Value} {sp dp n : Nat} (h1 : sp + n ≤ f.length) (h2 : dp + n ≤ g.length) : (mn_cpy f g sp dp n).length = g.length := by
  unfold mn_cpy
  simp
  omega
theorem mn_cpy_i {f g : List Value} {sp dp n : Nat} (h1 : sp + n ≤ f.length) (h2 : dp + n ≤ g.length) : va_cpy (fun i => mn_i f[i]?) (fun i => mn_i g[i]?) sp dp n = fun i => mn_i (mn_cpy f g sp dp n)[i]? := by
  funext k
  unfold mn_cpy
  have hl1 : (g.take dp).length = dp := by simp; omega
  have hl2 : ((f.drop sp).take n).length = n := by simp; omega
  by_cases hk : dp ≤ k ∧ k < dp + n
  · rw [pk_cpy_in hk.1 hk.2, List.append_assoc, List.getElem?_append_right (by omega), hl1, List.getElem?_append_left (by omega), List.getElem?_take_of_lt (by omega), List.getElem?_drop]
  · rw [pk_cpy_out (by omega)]
    by_cases hk2 : k < dp
    · rw [List.append_assoc, List.getElem?_append_left (by omega), List.getElem?_take_of_lt hk2]
    · rw [List.getElem?_append_right (by rw [List.length_append]; omega), List.length_append, hl1, hl2, List.getElem?_drop]
      congr 2
      omega
section MNE
variable {p : Program} {l : Launch} {e : Env} {R : Room} {s : State} {m : MethodId} {args : Array Value} {below : List Frame} {meth : Method} {c : Code} {H : Heap} {locs : List Loc} {cells slots : Nat} {Q : State → Prop} {cc : ByteArray} {b : Nat × Nat} {D : va_G} {cl : List vw_C} {aC : Nat → ClassId} {hs : mn_H} {E4 E5 : String} {WT : List Cond} {own : String} {pc : Nat} {ls : Array Slot} {r : List Value}
theorem mn_oinit_ok (hx : p.tables.exec = Jvm.exec) (hb : c.code = cc) (hml : c.maxLocals = ls.size) (hts : ∀ w ∈ WT, w.before args s = true) (hown : s.vm.findClass own = some m.cls) {i a : Nat} (g1 : Cond.methodLink own i Lib.objectInit ∈ WT) (g2 : Cond.instanceMethod Lib.objectInit ∈ WT) (g3 : Cond.code Lib.objectInit ⟨#[0xb1]⟩ 1 none ∈ WT)
    (hd : decode cc pc = .ok (.invokespecial i, 3)) (hfr : 1 ≤ R.frames) (hlo : mn_cat r + 12 ≤ R.locals)
    (kk : W p l e R s m args below meth c H locs cells slots Q (F0 m (pc + 3) ls (r.map (mn_tr b)))) : W p l e R s m args below meth c H locs cells slots Q (F0 m pc ls ((.ref a :: r).map (mn_tr b))) := by
  refine W.objInit hx hb hown (hts _ g1) (hts _ g2) (hts _ g3) rfl hml.symm rfl hd hfr ?_ kk
  rw [mn_cat_tr]
  show 2 * 0 + mn_cat r + 12 ≤ R.locals
  omega
theorem mn_max_ok (hx : p.tables.exec = Jvm.exec) (hb : c.code = cc) (hml : c.maxLocals = ls.size) (hts : ∀ w ∈ WT, w.before args s = true) (hown : s.vm.findClass own = some m.cls) {i : Nat} {x y : Int32} (g1 : Cond.methodLink own i Lib.Math.max.name ∈ WT) (g2 : Cond.static Lib.Math.max.name ∈ WT) (g3 : Cond.initialized "java/lang/Math" ∈ WT) (g4 : Cond.code Lib.Math.max.name Lib.Math.max.code 2 (some .int) ∈ WT)
    (hd : decode cc pc = .ok (.invokestatic i, 3)) (hfr : 1 ≤ R.frames) (hlo : mn_cat r + 13 ≤ R.locals) (hc : cells ≤ R.cells) (hs9 : slots ≤ R.slots)
    (kk : W p l e R s m args below meth c H locs cells slots Q (F0 m (pc + 3) ls ((.int (if x < y then y else x) :: r).map (mn_tr b)))) : W p l e R s m args below meth c H locs cells slots Q (F0 m pc ls ((.int y :: .int x :: r).map (mn_tr b))) :=
  va_mmax hx hb hml hown (hts _ g1) (hts _ g2) (hts _ g3) (hts _ g4) hfr (by rw [mn_cat_tr]; exact hlo) hc hs9 hd kk
theorem mn_min_ok (hx : p.tables.exec = Jvm.exec) (hb : c.code = cc) (hml : c.maxLocals = ls.size) (hts : ∀ w ∈ WT, w.before args s = true) (hown : s.vm.findClass own = some m.cls) {i : Nat} {x y : Int32} (g1 : Cond.methodLink own i Lib.Math.min.name ∈ WT) (g2 : Cond.static Lib.Math.min.name ∈ WT) (g3 : Cond.initialized "java/lang/Math" ∈ WT) (g4 : Cond.code Lib.Math.min.name Lib.Math.min.code 2 (some .int) ∈ WT)
    (hd : decode cc pc = .ok (.invokestatic i, 3)) (hfr : 1 ≤ R.frames) (hlo : mn_cat r + 13 ≤ R.locals) (hc : cells ≤ R.cells) (hs9 : slots ≤ R.slots)
    (kk : W p l e R s m args below meth c H locs cells slots Q (F0 m (pc + 3) ls ((.int (if y < x then y else x) :: r).map (mn_tr b)))) : W p l e R s m args below meth c H locs cells slots Q (F0 m pc ls ((.int y :: .int x :: r).map (mn_tr b))) :=
  va_mmin hx hb hml hown (hts _ g1) (hts _ g2) (hts _ g3) (hts _ g4) hfr (by rw [mn_cat_tr]; exact hlo) hc hs9 hd kk
theorem mn_acopy_ok (hx : p.tables.exec = Jvm.exec) (hb : c.code = cc) (hml : c.maxLocals = ls.size) (hts : ∀ w ∈ WT, w.before args s = true) (hown : s.vm.findClass own = some m.cls) (hK : va_K D cl (mn_tys aC E4 E5) s) (hR : mn_R D cl aC b hs H) {H0 : Heap} (hS : va_S (fun q => b.1 ≤ q) H0 H locs) {i a a0 : Nat} {sp dp n : Int32} {f g : List Value} (g1 : Cond.methodLink own i arraycopyName ∈ WT) (g2 : Cond.native arraycopyName ∈ WT) (g3 : Cond.static arraycopyName ∈ WT) (g4 : Cond.initialized "java/lang/System" ∈ WT)
    (ha0 : hs[a0]? = some (50, f)) (ha : hs[a]? = some (50, g)) (hd : decode cc pc = .ok (.invokestatic i, 3)) (hfr : 1 ≤ R.frames) (hlo : mn_cat r + (nativeFrameWords "java/lang/System" "arraycopy" 5 + 11) ≤ R.locals) (h1 : ¬ sp < 0) (h2 : ¬ dp < 0) (h3 : ¬ n < 0) (h4 : sp.toNatClampNeg + n.toNatClampNeg ≤ f.length) (h5 : dp.toNatClampNeg + n.toNatClampNeg ≤ g.length)
    (kk : ∀ (H1 : Heap) (locs1 : List Loc), mn_R D cl aC b (hs.set a (50, mn_cpy f g sp.toNatClampNeg dp.toNatClampNeg n.toNatClampNeg)) H1 → va_S (fun q => b.1 ≤ q) H0 H1 locs1 → W p l e R s m args below meth c H1 locs1 cells slots Q (F0 m (pc + 3) ls (r.map (mn_tr b)))) : W p l e R s m args below meth c H locs cells slots Q (F0 m pc ls ((.int n :: .int dp :: .ref a :: .int sp :: .ref a0 :: r).map (mn_tr b))) := by
  obtain ⟨hz, ws, hP, hD, hm⟩ := hR
  obtain ⟨q0, hq0⟩ := mn_wat hm ha0 (by simp)
  obtain ⟨q1, hq1⟩ := mn_wat hm ha (by simp)
  have hset := mn_set_mem hD hm hq1 (c' := (50, mn_cpy f g sp.toNatClampNeg dp.toNatClampNeg n.toNatClampNeg)) (by simp)
  rw [mn_E50] at hq0 hq1
  rw [mn_E50, ← mn_cpy_i h4 h5, mn_cpy_len h4 h5] at hset
  exact va_copyi hx hb hml hown (hts _ g1) (hts _ g2) (hts _ g3) (hts _ g4) hK hP hD (mn_S_at hS) q0 q1 0 0 hq0 hq1 rfl rfl rfl h1 h2 h3 h4 h5 (fun _ _ => rfl) hfr (by rw [mn_cat_tr]; exact hlo) hd (fun H1 locs1 p1 d1 s1 => kk H1 locs1 ⟨by rw [List.length_set]; exact Nat.le_trans hz s1.1, _, p1, d1, hset⟩ (mn_S_tr hS s1))
end MNE
