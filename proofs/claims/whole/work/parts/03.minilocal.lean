def mn_L (b : Nat × Nat) (ls : Array Slot) (xs : List (Option Value)) : Prop := ls.size = xs.length ∧ lv_wf ls ∧ ∀ (i : Nat) (v : Value), xs[i]? = some (some v) → ls[i]? = some (.val (mn_tr b v))
def mn_lv (b : Nat × Nat) (xs : List (Option Value)) : List (Nat × Value) := (List.range xs.length).filterMap fun i => match xs[i]? with
  | some (some v) => some (i, mn_tr b v)
  | _ => none
theorem mn_tr_cat (b : Nat × Nat) (v : Value) : (mn_tr b v).category = v.category := by cases v <;> rfl
theorem mn_lv_mem {b : Nat × Nat} {xs : List (Option Value)} {i : Nat} {w : Value} : (i, w) ∈ mn_lv b xs ↔ ∃ v, xs[i]? = some (some v) ∧ w = mn_tr b v := by
  unfold mn_lv
  rw [List.mem_filterMap]
  constructor
  · rintro ⟨j, hj, h⟩
    split at h
    · next v hv =>
      cases h
      exact ⟨v, hv, rfl⟩
    · cases h
  · rintro ⟨v, hv, rfl⟩
    have hi : i < xs.length := (List.getElem?_eq_some_iff.mp hv).1
    refine ⟨i, List.mem_range.mpr hi, ?_⟩
    rw [hv]
theorem mn_L.has {b : Nat × Nat} {ls : Array Slot} {xs : List (Option Value)} (h : mn_L b ls xs) : lv_has ls xs.length (mn_lv b xs) := by
  refine ⟨h.1, h.2.1, ?_⟩
  rintro ⟨i, w⟩ hq
  obtain ⟨v, hv, rfl⟩ := mn_lv_mem.mp hq
  exact h.2.2 i v hv
theorem mn_L.st1 {b : Nat × Nat} {xs ys : List (Option Value)} {i : Nat} {v : Value} (hs : mn_st1 xs i v = some ys) {ls' : Array Slot}
    (h' : lv_has ls' xs.length ((i, mn_tr b v) :: (mn_lv b xs).filter (fun q => !(q.1 == i) && !(q.1 + 1 == i && q.2.category == 2)))) : mn_L b ls' ys ∧ ys.length = xs.length := by
  unfold mn_st1 at hs
  split at hs
  · next hc =>
    cases hs
    refine ⟨⟨by rw [List.length_set]; exact h'.1, h'.2.1, fun j w hj => ?_⟩, List.length_set ..⟩
    rw [List.getElem?_set] at hj
    by_cases hij : i = j
    · subst hij
      rw [if_pos rfl, if_pos hc.1] at hj
      cases hj
      exact h'.2.2 (i, mn_tr b v) List.mem_cons_self
    · rw [if_neg hij] at hj
      refine h'.2.2 (j, mn_tr b w) (List.mem_cons_of_mem _ (List.mem_filter.mpr ⟨mn_lv_mem.mpr ⟨w, hj, rfl⟩, ?_⟩))
      have h1 : (j == i) = false := by simp; exact fun h => hij h.symm
      by_cases h2 : j + 1 = i
      · have h3 := hc.2 (by omega)
        rw [show i - 1 = j by omega, hj] at h3
        simp [mn_c2] at h3
        simp [h1, h2, mn_tr_cat, h3]
      · simp [h1, h2]
  · cases hs
theorem mn_L.st2 {b : Nat × Nat} {xs ys : List (Option Value)} {i : Nat} {v : Value} (hs : mn_st2 xs i v = some ys) {ls' : Array Slot}
    (h' : lv_has ls' xs.length ((i, mn_tr b v) :: (mn_lv b xs).filter (fun q => !(q.1 == i) && (!(q.1 == i + 1) && !(q.1 + 1 == i && q.2.category == 2))))) : mn_L b ls' ys ∧ ys.length = xs.length := by
  unfold mn_st2 at hs
  split at hs
  · next hc =>
    cases hs
    refine ⟨⟨by rw [List.length_set, List.length_set]; exact h'.1, h'.2.1, fun j w hj => ?_⟩, by rw [List.length_set, List.length_set]⟩
    rw [List.getElem?_set] at hj
    by_cases hij1 : i + 1 = j
    · rw [if_pos hij1] at hj
      split at hj <;> cases hj
    · rw [if_neg hij1, List.getElem?_set] at hj
      by_cases hij : i = j
      · subst hij
        rw [if_pos rfl, if_pos (by omega)] at hj
        cases hj
        exact h'.2.2 (i, mn_tr b v) List.mem_cons_self
      · rw [if_neg hij] at hj
        refine h'.2.2 (j, mn_tr b w) (List.mem_cons_of_mem _ (List.mem_filter.mpr ⟨mn_lv_mem.mpr ⟨w, hj, rfl⟩, ?_⟩))
        have h1 : (j == i) = false := by simp; exact fun h => hij h.symm
        have h1' : (j == i + 1) = false := by simp; exact fun h => hij1 h.symm
        by_cases h2 : j + 1 = i
        · have h3 := hc.2 (by omega)
          rw [show i - 1 = j by omega, hj] at h3
          simp [mn_c2] at h3
          simp [h1, h1', h2, mn_tr_cat, h3]
        · simp [h1, h1', h2]
  · cases hs
theorem mn_st1_lt {xs ys : List (Option Value)} {i : Nat} {v : Value} (hs : mn_st1 xs i v = some ys) : i < xs.length := by
  unfold mn_st1 at hs
  split at hs
  · next hc => exact hc.1
  · cases hs
theorem mn_st2_lt {xs ys : List (Option Value)} {i : Nat} {v : Value} (hs : mn_st2 xs i v = some ys) : i + 1 < xs.length := by
  unfold mn_st2 at hs
  split at hs
  · next hc => exact hc.1
  · cases hs
theorem mn_go_ok {pc : Nat} {off : Int} (h : mn_gook pc off = true) : (pc : Int) + off = (mn_go pc off : Int) := by
  unfold mn_gook at h
  unfold mn_go
  rw [decide_eq_true_eq] at h
  omega
section MNA
variable {p : Program} {l : Launch} {e : Env} {R : Room} {s : State} {m : MethodId} {args : Array Value} {below : List Frame} {meth : Method} {c : Code} {H : Heap} {locs : List Loc} {cells slots : Nat} {Q : State → Prop} {cc : ByteArray} {b : Nat × Nat}
theorem mn_aloadN (hexec : p.tables.exec = Jvm.exec) (hb : c.code = cc) {pc : Nat} {ls : Array Slot} {rest : List Value} {i : Nat} (hdg : decode cc pc = .ok (.aload i, 2)) (hl : ls[i]? = some (.val .null))
    (k : W p l e R s m args below meth c H locs cells slots Q (F0 m (pc + 2) ls (.null :: rest))) : W p l e R s m args below meth c H locs cells slots Q (F0 m pc ls rest) := by
  intro T hT X
  obtain ⟨t, a, b⟩ := k T hT X
  refine ⟨t, ?_, b⟩
  jvm_step X.here [X.here.top, hexec, hb, hdg, hl, Value.isRef]
  exact a
theorem mn_astoreN (hexec : p.tables.exec = Jvm.exec) (hb : c.code = cc) {pc : Nat} {ls : Array Slot} {rest : List Value} {i nL : Nat} {lv lv' : List (Nat × Value)} (hdg : decode cc pc = .ok (.astore i, 2)) (h : lv_has ls nL lv) (hn : i < nL) (hl : (i, Value.null) :: lv.filter (fun q => !(q.1 == i) && !(q.1 + 1 == i && q.2.category == 2)) = lv')
    (kk : ∀ ls' : Array Slot, lv_has ls' nL lv' → W p l e R s m args below meth c H locs cells slots Q (F0 m (pc + 2) ls' rest)) : W p l e R s m args below meth c H locs cells slots Q (F0 m pc ls (.null :: rest)) := by
  obtain ⟨ls', e', h'⟩ := lv_store1 (v := .null) h hn rfl
  intro T hT X
  obtain ⟨t, a, b⟩ := kk ls' (hl ▸ h') T hT X
  refine ⟨t, ?_, b⟩
  jvm_step X.here [X.here.top, ↓top_set X.here.top, hexec, hb, hdg, e', Value.isRef]
  exact a
set_option maxHeartbeats 4000000 in
theorem mn_opA_ok {q : Instr × Nat} {pc : Nat} {xs : List (Option Value)} {st : List Value} {ns : Nat} {hs : mn_H} {pc' : Nat} {xs' : List (Option Value)} {st' : List Value} {ns' : Nat} {hs' : mn_H} (hx : p.tables.exec = Jvm.exec) (hb : c.code = cc) (hd : decode cc pc = .ok q) (hop : mn_opA q pc xs st ns hs = some (pc', xs', st', ns', hs')) {ls : Array Slot} (hL : mn_L b ls xs)
    (kk : ns' = ns → hs' = hs → ∀ ls', mn_L b ls' xs' → xs'.length = xs.length → W p l e R s m args below meth c H locs cells slots Q (F0 m pc' ls' (st'.map (mn_tr b)))) : W p l e R s m args below meth c H locs cells slots Q (F0 m pc ls (st.map (mn_tr b))) := by
  unfold mn_opA at hop
  split at hop
  · cases hop; exact lv_iconst hx hb hd rfl (kk rfl rfl ls hL rfl)
  · cases hop; exact lv_bipush hx hb hd rfl (kk rfl rfl ls hL rfl)
  · cases hop; exact lv_sipush hx hb hd rfl (kk rfl rfl ls hL rfl)
  · cases hop; exact lv_lconst hx hb hd rfl (kk rfl rfl ls hL rfl)
  · cases hop; exact lv_null hx hb hd (kk rfl rfl ls hL rfl)
  · split at hop
    · next h => cases hop; exact lv_iload_n hx hb hd rfl (hL.2.2 _ _ h) (kk rfl rfl ls hL rfl)
    · cases hop
  · split at hop
    · next h => cases hop; exact lv_iload hx hb hd (hL.2.2 _ _ h) (kk rfl rfl ls hL rfl)
    · cases hop
  · split at hop
    · next h => cases hop; exact lv_lload_n hx hb hd rfl (hL.2.2 _ _ h) (kk rfl rfl ls hL rfl)
    · cases hop
  · split at hop
    · next h => cases hop; exact lv_lload hx hb hd (hL.2.2 _ _ h) (kk rfl rfl ls hL rfl)
    · cases hop
  · split at hop
    · next h => cases hop; exact lv_aload_n hx hb hd rfl (hL.2.2 _ _ h) (kk rfl rfl ls hL rfl)
    · next h => cases hop; exact lv_aload_n hx hb hd rfl (hL.2.2 _ _ h) (kk rfl rfl ls hL rfl)
    · cases hop
  · split at hop
    · next h => cases hop; exact lv_aload hx hb hd (hL.2.2 _ _ h) (kk rfl rfl ls hL rfl)
    · next h => cases hop; exact mn_aloadN hx hb hd (hL.2.2 _ _ h) (kk rfl rfl ls hL rfl)
    · cases hop
  · split at hop
    · obtain ⟨ys, h1, h2⟩ := Option.map_eq_some_iff.mp hop
      cases h2
      exact lv_istore_n hx hb hd rfl hL.has (mn_st1_lt h1) rfl (fun ls' h' => kk rfl rfl ls' (mn_L.st1 h1 h').1 (mn_L.st1 h1 h').2)
    · cases hop
  · split at hop
    · obtain ⟨ys, h1, h2⟩ := Option.map_eq_some_iff.mp hop
      cases h2
      exact lv_istore hx hb hd hL.has (mn_st1_lt h1) rfl (fun ls' h' => kk rfl rfl ls' (mn_L.st1 h1 h').1 (mn_L.st1 h1 h').2)
    · cases hop
  · split at hop
    · obtain ⟨ys, h1, h2⟩ := Option.map_eq_some_iff.mp hop
      cases h2
      exact lv_lstore_n hx hb hd rfl hL.has (mn_st2_lt h1) rfl (fun ls' h' => kk rfl rfl ls' (mn_L.st2 h1 h').1 (mn_L.st2 h1 h').2)
    · cases hop
  · split at hop
    · obtain ⟨ys, h1, h2⟩ := Option.map_eq_some_iff.mp hop
      cases h2
      exact lv_lstore hx hb hd hL.has (mn_st2_lt h1) rfl (fun ls' h' => kk rfl rfl ls' (mn_L.st2 h1 h').1 (mn_L.st2 h1 h').2)
    · cases hop
  · split at hop
    · obtain ⟨ys, h1, h2⟩ := Option.map_eq_some_iff.mp hop
      cases h2
      exact lv_astore_n hx hb hd rfl hL.has (mn_st1_lt h1) rfl (fun ls' h' => kk rfl rfl ls' (mn_L.st1 h1 h').1 (mn_L.st1 h1 h').2)
    · cases hop
  · split at hop
    · obtain ⟨ys, h1, h2⟩ := Option.map_eq_some_iff.mp hop
      cases h2
      exact lv_astore hx hb hd hL.has (mn_st1_lt h1) rfl (fun ls' h' => kk rfl rfl ls' (mn_L.st1 h1 h').1 (mn_L.st1 h1 h').2)
    · obtain ⟨ys, h1, h2⟩ := Option.map_eq_some_iff.mp hop
      cases h2
      exact mn_astoreN hx hb hd hL.has (mn_st1_lt h1) rfl (fun ls' h' => kk rfl rfl ls' (mn_L.st1 h1 h').1 (mn_L.st1 h1 h').2)
    · cases hop
  · split at hop
    · next k n x h =>
      obtain ⟨ys, h1, h2⟩ := Option.map_eq_some_iff.mp hop
      cases h2
      obtain ⟨j, hj⟩ := List.getElem?_of_mem (mn_lv_mem (b := b).mpr ⟨_, h, rfl⟩)
      exact lv_iinc hx hb hd hL.has hj rfl (mn_st1_lt h1) rfl (fun ls' h' => kk rfl rfl ls' (mn_L.st1 h1 h').1 (mn_L.st1 h1 h').2)
    · cases hop
  · split at hop
    · split at hop
      · next h => cases hop; exact lv_dup hx hb hd (by rw [mn_tr_cat]; exact h) (kk rfl rfl ls hL rfl)
      · cases hop
    · cases hop
  · split at hop
    · split at hop
      · next h => cases hop; exact lv_pop hx hb hd (by rw [mn_tr_cat]; exact h) (kk rfl rfl ls hL rfl)
      · cases hop
    · cases hop
  · split at hop
    · split at hop
      · next h => cases hop; exact lv_dup2_11 hx hb hd (by rw [mn_tr_cat]; exact h.1) (by rw [mn_tr_cat]; exact h.2) (kk rfl rfl ls hL rfl)
      · cases hop
    · cases hop
  · cases hop
set_option maxHeartbeats 4000000 in
theorem mn_opB_ok {q : Instr × Nat} {pc : Nat} {xs : List (Option Value)} {st : List Value} {ns : Nat} {hs : mn_H} {pc' : Nat} {xs' : List (Option Value)} {st' : List Value} {ns' : Nat} {hs' : mn_H} (hx : p.tables.exec = Jvm.exec) (hb : c.code = cc) (hd : decode cc pc = .ok q) (hop : mn_opB q pc xs st ns hs = some (pc', xs', st', ns', hs')) {ls : Array Slot}
    (kk : ns' = ns → hs' = hs → xs' = xs → W p l e R s m args below meth c H locs cells slots Q (F0 m pc' ls (st'.map (mn_tr b)))) : W p l e R s m args below meth c H locs cells slots Q (F0 m pc ls (st.map (mn_tr b))) := by
  unfold mn_opB at hop
  split at hop
  · split at hop
    · obtain ⟨v, h1, h2⟩ := Option.map_eq_some_iff.mp hop
      cases h2
      unfold mn_ar at h1
      split at h1
      · cases h1; exact lv_iadd hx hb hd (kk rfl rfl rfl)
      · cases h1; exact lv_isub hx hb hd (kk rfl rfl rfl)
      · cases h1; exact lv_imul hx hb hd (kk rfl rfl rfl)
      · cases h1; exact lv_iand hx hb hd (kk rfl rfl rfl)
      · cases h1; exact lv_ior hx hb hd (kk rfl rfl rfl)
      · cases h1; exact lv_ixor hx hb hd (kk rfl rfl rfl)
      · split at h1
        · cases h1
        · next hne => cases h1; exact lv_idiv hx hb hd hne (kk rfl rfl rfl)
      · split at h1
        · cases h1
        · next hne => cases h1; exact lv_irem hx hb hd hne (kk rfl rfl rfl)
      · cases h1; exact lv_ishl hx hb hd (kk rfl rfl rfl)
      · cases h1; exact lv_ishr hx hb hd (kk rfl rfl rfl)
      · cases h1
    · split at hop
      · cases hop; exact lv_land hx hb hd (kk rfl rfl rfl)
      · cases hop; exact lv_lor hx hb hd (kk rfl rfl rfl)
      · cases hop; exact W.lcmp hx hb hd (kk rfl rfl rfl)
      · cases hop
    · split at hop
      · cases hop; exact lv_lushr hx hb hd rfl (kk rfl rfl rfl)
      · cases hop; exact lv_lshl hx hb hd rfl (kk rfl rfl rfl)
      · cases hop
    · cases hop
  · cases hop
theorem mn_opB1_ok {q : Instr × Nat} {pc : Nat} {xs : List (Option Value)} {st : List Value} {ns : Nat} {hs : mn_H} {pc' : Nat} {xs' : List (Option Value)} {st' : List Value} {ns' : Nat} {hs' : mn_H} (hx : p.tables.exec = Jvm.exec) (hb : c.code = cc) (hd : decode cc pc = .ok q) (hop : mn_opB1 q pc xs st ns hs = some (pc', xs', st', ns', hs')) {ls : Array Slot}
    (kk : ns' = ns → hs' = hs → xs' = xs → W p l e R s m args below meth c H locs cells slots Q (F0 m pc' ls (st'.map (mn_tr b)))) : W p l e R s m args below meth c H locs cells slots Q (F0 m pc ls (st.map (mn_tr b))) := by
  unfold mn_opB1 at hop
  split at hop
  · split at hop
    · split at hop
      · cases hop; exact lv_i2l hx hb hd rfl (kk rfl rfl rfl)
      · cases hop; exact lv_i2c hx hb hd rfl (kk rfl rfl rfl)
      · cases hop
    · split at hop
      · cases hop; exact lv_l2i hx hb hd rfl (kk rfl rfl rfl)
      · cases hop
    · cases hop
  · cases hop
set_option maxHeartbeats 4000000 in
theorem mn_opC_ok {q : Instr × Nat} {pc : Nat} {xs : List (Option Value)} {st : List Value} {ns : Nat} {hs : mn_H} {pc' : Nat} {xs' : List (Option Value)} {st' : List Value} {ns' : Nat} {hs' : mn_H} (hx : p.tables.exec = Jvm.exec) (hb : c.code = cc) (hd : decode cc pc = .ok q) (hop : mn_opC q pc xs st ns hs = some (pc', xs', st', ns', hs')) {ls : Array Slot}
    (kk : ns' = ns → hs' = hs → xs' = xs → W p l e R s m args below meth c H locs cells slots Q (F0 m pc' ls (st'.map (mn_tr b)))) : W p l e R s m args below meth c H locs cells slots Q (F0 m pc ls (st.map (mn_tr b))) := by
  unfold mn_opC at hop
  split at hop
  · split at hop
    · next h => cases hop; exact lv_goto hx hb hd (mn_go_ok h) (kk rfl rfl rfl)
    · cases hop
  · next k off =>
    split at hop
    · split at hop
      · next x r h =>
        cases hop
        have kk := kk rfl rfl rfl
        cases k
        · exact lv_if_eq hx hb hd (mn_go_ok h) (fun h9 => by rw [show mn_cmp .eq x 0 = true from decide_eq_true h9] at kk; exact kk) (fun h9 => by rw [show mn_cmp .eq x 0 = false from decide_eq_false h9] at kk; exact kk)
        · exact lv_if_ne hx hb hd (mn_go_ok h) (fun h9 => by rw [show mn_cmp .ne x 0 = true from decide_eq_true h9] at kk; exact kk) (fun h9 => by rw [show mn_cmp .ne x 0 = false from decide_eq_false (fun q => q h9)] at kk; exact kk)
        · exact lv_if_lt hx hb hd (mn_go_ok h) (fun h9 => by rw [show mn_cmp .lt x 0 = true from decide_eq_true h9] at kk; exact kk) (fun h9 => by rw [show mn_cmp .lt x 0 = false from decide_eq_false h9] at kk; exact kk)
        · exact lv_if_ge hx hb hd (mn_go_ok h) (fun h9 => by rw [show mn_cmp .ge x 0 = true from decide_eq_true h9] at kk; exact kk) (fun h9 => by rw [show mn_cmp .ge x 0 = false from decide_eq_false h9] at kk; exact kk)
        · exact lv_if_gt hx hb hd (mn_go_ok h) (fun h9 => by rw [show mn_cmp .gt x 0 = true from decide_eq_true h9] at kk; exact kk) (fun h9 => by rw [show mn_cmp .gt x 0 = false from decide_eq_false h9] at kk; exact kk)
        · exact lv_if_le hx hb hd (mn_go_ok h) (fun h9 => by rw [show mn_cmp .le x 0 = true from decide_eq_true h9] at kk; exact kk) (fun h9 => by rw [show mn_cmp .le x 0 = false from decide_eq_false h9] at kk; exact kk)
      · cases hop
    · cases hop
  · next k off =>
    split at hop
    · split at hop
      · next y x r h =>
        cases hop
        have kk := kk rfl rfl rfl
        cases k
        · exact lv_icmp_eq hx hb hd (mn_go_ok h) (fun h9 => by rw [show mn_cmp .eq x y = true from decide_eq_true h9] at kk; exact kk) (fun h9 => by rw [show mn_cmp .eq x y = false from decide_eq_false h9] at kk; exact kk)
        · exact lv_icmp_ne hx hb hd (mn_go_ok h) (fun h9 => by rw [show mn_cmp .ne x y = true from decide_eq_true h9] at kk; exact kk) (fun h9 => by rw [show mn_cmp .ne x y = false from decide_eq_false (fun q => q h9)] at kk; exact kk)
        · exact lv_icmp_lt hx hb hd (mn_go_ok h) (fun h9 => by rw [show mn_cmp .lt x y = true from decide_eq_true h9] at kk; exact kk) (fun h9 => by rw [show mn_cmp .lt x y = false from decide_eq_false h9] at kk; exact kk)
        · exact lv_icmp_ge hx hb hd (mn_go_ok h) (fun h9 => by rw [show mn_cmp .ge x y = true from decide_eq_true h9] at kk; exact kk) (fun h9 => by rw [show mn_cmp .ge x y = false from decide_eq_false h9] at kk; exact kk)
        · exact lv_icmp_gt hx hb hd (mn_go_ok h) (fun h9 => by rw [show mn_cmp .gt x y = true from decide_eq_true h9] at kk; exact kk) (fun h9 => by rw [show mn_cmp .gt x y = false from decide_eq_false h9] at kk; exact kk)
        · exact lv_icmp_le hx hb hd (mn_go_ok h) (fun h9 => by rw [show mn_cmp .le x y = true from decide_eq_true h9] at kk; exact kk) (fun h9 => by rw [show mn_cmp .le x y = false from decide_eq_false h9] at kk; exact kk)
      · cases hop
    · cases hop
  · split at hop
    · cases hop; exact lv_ifnull hx hb hd (kk rfl rfl rfl)
    · split at hop
      · next h => cases hop; exact lv_ifnullN hx hb hd (mn_go_ok h) (kk rfl rfl rfl)
      · cases hop
    · cases hop
  · split at hop
    · split at hop
      · next h0 =>
        split at hop
        · next h => cases hop; exact lv_tableOut hx hb hd h0 (mn_go_ok h) (kk rfl rfl rfl)
        · cases hop
      · next h0 =>
        split at hop
        · next off h1 =>
          split at hop
          · next h => cases hop; exact lv_tableIn hx hb hd (fun q => h0 (Or.inl q)) (fun q => h0 (Or.inr q)) h1 (mn_go_ok h) (kk rfl rfl rfl)
          · cases hop
        · cases hop
    · cases hop
  · split at hop
    · split at hop
      · next h => cases hop; exact lv_lookup hx hb hd h.1 rfl (mn_go_ok h.2) (kk rfl rfl rfl)
      · cases hop
    · cases hop
  · cases hop
end MNA
