theorem mn_R.push {D : va_G} {cl : List vw_C} {aC : Nat → ClassId} {b : Nat × Nat} {hs : mn_H} {H H1 : Heap} (hR : mn_R D cl aC b hs H) (hz : H.size = b.1 + hs.length) (z1 : H1.size = H.size + 1) (o1 : ∀ q, q < H.size → H1[q]? = H[q]?) {c' : mn_C} (hc : c'.1 ≠ 99) (hat : va_at D cl (b.1 + hs.length, mn_E aC b c') H1) : mn_R D cl aC b (hs ++ [c']) H1 := by
  obtain ⟨-, ws, hP, hD, hm⟩ := hR
  refine ⟨by rw [z1, hz, List.length_append]; simp; omega, ws ++ [(b.1 + hs.length, mn_E aC b c')], (hP.kept fun k x hx => o1 x.1 (hP k x hx).lt).app (fun k x hx => ?_), hD.push hP hz.symm (by omega), mn_push_mem hm hc⟩
  have h0 : k < 1 := (List.getElem?_eq_some_iff.mp hx).1
  rw [show k = 0 by omega] at hx
  cases hx
  exact hat
theorem mn_R.hole {D : va_G} {cl : List vw_C} {aC : Nat → ClassId} {b : Nat × Nat} {hs : mn_H} {H H1 : Heap} (hR : mn_R D cl aC b hs H) (hz : H.size = b.1 + hs.length) (z1 : H.size + 1 ≤ H1.size) (o1 : ∀ q, q < H.size → b.1 ≤ q → H1[q]? = H[q]?) {c' : mn_C} (hc : c'.1 = 99) : mn_R D cl aC b (hs ++ [c']) H1 := by
  obtain ⟨-, ws, hP, hD, hm⟩ := hR
  exact ⟨by rw [List.length_append]; simp; omega, ws, hP.kept fun k x hx => o1 x.1 (hP k x hx).lt (hD.2 k x hx), hD, mn_hole_mem hm hc⟩
theorem mn_rep_i (N : Nat) : (fun j : Nat => Value.int (mn_i (List.replicate N (Value.int 0))[j]?)) = fun _ => Value.int 0 := by
  funext j
  rw [List.getElem?_replicate]
  split <;> rfl
theorem mn_rep_l (N : Nat) : (fun j : Nat => Value.long (mn_l (List.replicate N (Value.long 0))[j]?)) = fun _ => Value.long 0 := by
  funext j
  rw [List.getElem?_replicate]
  split <;> rfl
theorem mn_rep_r (b : Nat × Nat) (N : Nat) : (fun j : Nat => va_rf (mn_r b (List.replicate N Value.null)[j]?)) = fun _ => Value.null := by
  funext j
  rw [List.getElem?_replicate]
  split <;> rfl
section MNN
variable {p : Program} {l : Launch} {e : Env} {R : Room} {s : State} {m : MethodId} {args : Array Value} {below : List Frame} {meth : Method} {c : Code} {H : Heap} {locs : List Loc} {slots : Nat} {Q : State → Prop} {cc : ByteArray} {b : Nat × Nat} {n0 : Nat} {D : va_G} {cl : List vw_C} {aC : Nat → ClassId} {hs : mn_H} {E4 E5 : String} {WT : List Cond} {own : String} {pc : Nat} {ls : Array Slot} {r : List Value}
theorem mn_sized {g : JFrame} (hsz : s.heap.size = b.1 + n0) (hz : b.1 + hs.length ≤ H.size) (hn : n0 ≤ hs.length) (kk : H.size = b.1 + hs.length → W p l e R s m args below meth c H locs (hs.length - n0) slots Q g) : W p l e R s m args below meth c H locs (hs.length - n0) slots Q g := by
  intro T hT X
  have h := X.heapSize
  rw [hT, hsz] at h
  exact kk (by omega) T hT X
theorem mn_new_ok (hx : p.tables.exec = Jvm.exec) (hb : c.code = cc) (hts : ∀ w ∈ WT, w.before args s = true) (hown : s.vm.findClass own = some m.cls) (hK : va_K D cl (mn_tys aC E4 E5) s) (hR : mn_R D cl aC b hs H) {H0 : Heap} (hS : va_S (fun q => b.1 ≤ q) H0 H locs) (hsz : s.heap.size = b.1 + n0) (hn : n0 ≤ hs.length)
    {i ci : Nat} {df : List Value} {C : String} {T : u_T} {ty : Nat → FieldType} (hci : ci < 50) (f1 : cl[ci]? = some (C, T, df.length)) (f3 : ∀ w ∈ u_ws C T df.length, w ∈ WT) (f4 : ∀ j, j < df.length → parseFieldDescriptor (T j).2.2.1 = some (ty j)) (f5 : ∀ j, j < df.length → defaultValue (ty j) = vp_V df j) (f6 : df.map (mn_tr b) = df)
    (g1 : Cond.classLink own i C ∈ WT) (g2 : Cond.instantiable C df.length ∈ WT) (g3 : Cond.initialized C ∈ WT) (hd : decode cc pc = .ok (.new i, 3)) (hrc : hs.length - n0 + 1 ≤ R.cells) (hrs : slots + df.length ≤ R.slots)
    (kk : ∀ (H1 : Heap), mn_R D cl aC b (hs ++ [(ci, df)]) H1 → va_S (fun q => b.1 ≤ q) H0 H1 locs → W p l e R s m args below meth c H1 locs ((hs ++ [(ci, df)]).length - n0) (slots + df.length) Q (F0 m (pc + 3) ls ((.ref hs.length :: r).map (mn_tr b)))) : W p l e R s m args below meth c H locs (hs.length - n0) slots Q (F0 m pc ls (r.map (mn_tr b))) := by
  refine mn_sized hsz hR.1 hn fun hz => ?_
  have hKn := hK.1 ci _ f1
  refine W.newcK hx hb hown (hts _ g1) (hts _ g2) (hts _ g3) rfl hd hrc hrs hKn.2.1 hz fun H1 kC hkC e1 z1 o1 => ?_
  have hl : (hs ++ [(ci, df)]).length - n0 = hs.length - n0 + 1 := by simp; omega
  have h9 := kk H1 (hR.push hz (by rw [hz]; exact z1) (fun q hq => o1 q (by rw [← hz]; exact hq)) (by simp; omega) (by
    rw [mn_E_o hci, f6]
    exact ⟨_, f1, (u_born ty hts f3 hKn hkC e1 f4).to f5⟩)) (mn_S_tr hS ⟨by rw [z1, hz]; omega, fun q hq _ => o1 q (by rw [← hz]; exact hq), hS.2.2⟩)
  rw [hl] at h9
  exact h9
theorem mn_newa_ok (hx : p.tables.exec = Jvm.exec) (hb : c.code = cc) (hK : va_K D cl (mn_tys aC E4 E5) s) (hR : mn_R D cl aC b hs H) {H0 : Heap} (hS : va_S (fun q => b.1 ≤ q) H0 H locs) (hsz : s.heap.size = b.1 + n0) (hn : n0 ≤ hs.length)
    {n : Int32} {at9 : ArrayType} {c' : mn_C} (hnn : ¬ (n < 0 ∨ 100000 < n.toNatClampNeg)) (harr : (Cond.arrayClass (newarray.typeOf at9)).before args s = true)
    (hty : at9 = .int ∧ c' = (50, List.replicate n.toNatClampNeg (.int 0)) ∨ at9 = .boolean ∧ c' = (51, List.replicate n.toNatClampNeg (.int 0)) ∨ at9 = .char ∧ c' = (52, List.replicate n.toNatClampNeg (.int 0)) ∨ at9 = .long ∧ c' = (53, List.replicate n.toNatClampNeg (.long 0)))
    (hd : decode cc pc = .ok (.newarray at9, 2)) (hrc : hs.length - n0 + 1 ≤ R.cells) (hrs : slots + n.toNatClampNeg ≤ R.slots)
    (kk : ∀ (H1 : Heap), mn_R D cl aC b (hs ++ [c']) H1 → va_S (fun q => b.1 ≤ q) H0 H1 locs → W p l e R s m args below meth c H1 locs ((hs ++ [c']).length - n0) (slots + n.toNatClampNeg) Q (F0 m (pc + 2) ls ((.ref hs.length :: r).map (mn_tr b)))) : W p l e R s m args below meth c H locs (hs.length - n0) slots Q (F0 m pc ls ((.int n :: r).map (mn_tr b))) := by
  refine mn_sized hsz hR.1 hn fun hz => ?_
  have hn1 : ¬ n < 0 := fun h => hnn (Or.inl h)
  have hn2 : n.toNatClampNeg ≤ 100000 := by
    rcases Nat.lt_or_ge 100000 n.toNatClampNeg with h | h
    · exact absurd (Or.inr h) hnn
    · exact h
  have hl : (hs ++ [c']).length - n0 = hs.length - n0 + 1 := by simp; omega
  have hc99 : c'.1 ≠ 99 := by rcases hty with ⟨-, h⟩ | ⟨-, h⟩ | ⟨-, h⟩ | ⟨-, h⟩ <;> rw [h] <;> simp
  have hbytes : n.toNatClampNeg * componentBytes (newarray.typeOf at9) ≤ 536870912 := by
    rcases hty with ⟨h, -⟩ | ⟨h, -⟩ | ⟨h, -⟩ | ⟨h, -⟩ <;> subst h <;> simp [newarray.typeOf, componentBytes] <;> omega
  refine va_newaK hx hb harr rfl hd rfl hn1 rfl hbytes hrc hrs hz fun H1 cA e1 z1 o1 hAr hNm => ?_
  have h9 := kk H1 (hR.push hz (by rw [hz]; exact z1) (fun q hq => o1 q (by rw [← hz]; exact hq)) hc99 (by
    rcases hty with ⟨h, h'⟩ | ⟨h, h'⟩ | ⟨h, h'⟩ | ⟨h, h'⟩ <;> subst h <;> subst h'
    · have hA : cA = aC 0 := Option.some.inj (hNm.symm.trans (hK.2 0 _ rfl).2)
      subst hA
      rw [mn_E50]
      show H1[b.1 + hs.length]? = some (vp_cell _ (_, .inl _))
      rw [vp_cell_i, mn_rep_i, List.length_replicate]
      exact e1
    · have hA : cA = aC 1 := Option.some.inj (hNm.symm.trans (hK.2 1 _ rfl).2)
      subst hA
      rw [mn_E51]
      show H1[b.1 + hs.length]? = some (vp_cell _ (_, .inl _))
      rw [vp_cell_i, mn_rep_i, List.length_replicate]
      exact e1
    · have hA : cA = aC 2 := Option.some.inj (hNm.symm.trans (hK.2 2 _ rfl).2)
      subst hA
      rw [mn_E52]
      show H1[b.1 + hs.length]? = some (vp_cell _ (_, .inl _))
      rw [vp_cell_i, mn_rep_i, List.length_replicate]
      exact e1
    · have hA : cA = aC 3 := Option.some.inj (hNm.symm.trans (hK.2 3 _ rfl).2)
      subst hA
      rw [mn_E53]
      show H1[b.1 + hs.length]? = some (vp_cell _ (_, .inr (.inl _)))
      rw [vp_cell_l, mn_rep_l, List.length_replicate]
      exact e1)) (mn_S_tr hS ⟨by rw [z1, hz]; omega, fun q hq _ => o1 q (by rw [← hz]; exact hq), hS.2.2⟩)
  rw [hl] at h9
  exact h9
theorem mn_newr_ok (hx : p.tables.exec = Jvm.exec) (hb : c.code = cc) (hown : s.vm.findClass own = some m.cls) (hK : va_K D cl (mn_tys aC E4 E5) s) (hR : mn_R D cl aC b hs H) {H0 : Heap} (hS : va_S (fun q => b.1 ≤ q) H0 H locs) (hsz : s.heap.size = b.1 + n0) (hn : n0 ≤ hs.length)
    {n : Int32} {i k : Nat} {C : String} (hk : 4 ≤ k ∧ k < 6) (hC : (k = 4 → C = E4) ∧ (k = 5 → C = E5)) (hnn : ¬ (n < 0 ∨ 100000 < n.toNatClampNeg)) (hover : (Cond.arrayOver (.object C)).before args s = true) (hlink : (Cond.classLink own i C).before args s = true)
    (hd : decode cc pc = .ok (.anewarray i, 3)) (hrc : hs.length - n0 + 1 ≤ R.cells) (hrs : slots + n.toNatClampNeg ≤ R.slots)
    (kk : ∀ (H1 : Heap), mn_R D cl aC b (hs ++ [(50 + k, List.replicate n.toNatClampNeg .null)]) H1 → va_S (fun q => b.1 ≤ q) H0 H1 locs → W p l e R s m args below meth c H1 locs ((hs ++ [(50 + k, List.replicate n.toNatClampNeg Value.null)]).length - n0) (slots + n.toNatClampNeg) Q (F0 m (pc + 3) ls ((.ref hs.length :: r).map (mn_tr b)))) : W p l e R s m args below meth c H locs (hs.length - n0) slots Q (F0 m pc ls ((.int n :: r).map (mn_tr b))) := by
  refine mn_sized hsz hR.1 hn fun hz => ?_
  have hn1 : ¬ n < 0 := fun h => hnn (Or.inl h)
  have hn2 : n.toNatClampNeg ≤ 100000 := by
    rcases Nat.lt_or_ge 100000 n.toNatClampNeg with h | h
    · exact absurd (Or.inr h) hnn
    · exact h
  have hl : (hs ++ [(50 + k, List.replicate n.toNatClampNeg Value.null)]).length - n0 = hs.length - n0 + 1 := by simp; omega
  refine W.anew hx hb hown hlink hover rfl hd rfl hn1 (by omega) hrc hrs fun cA kA comp f1 f2 f3 f4 => ?_
  generalize hH1 : H.push ({ cls := cA, slots := Array.replicate n.toNatClampNeg .null, vm := .none } : Cell) = H1
  have z1 : H1.size = H.size + 1 := by rw [← hH1, Array.size_push]
  have e1 : H1[H.size]? = some (arrV cA n.toNatClampNeg (fun _ => .null)) := by rw [← hH1, Array.getElem?_push_size, ← arrV_new]
  have o1 : ∀ q : Nat, q < H.size → H1[q]? = H[q]? := fun q hq => by rw [← hH1, Array.getElem?_push, if_neg (Nat.ne_of_lt hq)]
  have hA : cA = aC k := by
    rcases (show k = 4 ∨ k = 5 by omega) with h | h
    · subst h
      obtain ⟨kA2, comp2, a1, a2, a3, a4⟩ := (hK.2 4 _ rfl).2
      rw [← hC.1 rfl] at a4
      exact Option.some.inj (f1.symm.trans a4)
    · subst h
      obtain ⟨kA2, comp2, a1, a2, a3, a4⟩ := (hK.2 5 _ rfl).2
      rw [← hC.2 rfl] at a4
      exact Option.some.inj (f1.symm.trans a4)
  subst hA
  have h9 := kk H1 (hR.push hz z1 o1 (by simp; omega) (by
    rw [mn_E_r hk.1]
    show H1[b.1 + hs.length]? = some (vp_cell _ (_, .inr (.inr (.inr (.inr _)))))
    rw [vp_cell_q, mn_rep_r, List.length_replicate, ← hz]
    exact e1)) (mn_S_tr hS ⟨by omega, fun q hq _ => o1 q hq, hS.2.2⟩)
  rw [hl] at h9
  refine W.eq ?_ h9
  show _ = F0 m (pc + 3) ls (.ref (b.1 + hs.length) :: r.map (mn_tr b))
  rw [hz]
end MNN
