section MNJ
variable {l : Launch} {WT : List Cond} {D : va_G} {aC : Nat → ClassId} {b : Nat × Nat}
variable {p : Program} {e : Env} {R : Room} {s : State} {m : MethodId} {args : Array Value} {below : List Frame} {meth : Method} {c : Code} {H : Heap} {locs : List Loc} {n0 m0 : Nat} {ls : Array Slot} {sc : Option (List Int32)} {Q : State → Prop}
set_option maxHeartbeats 4000000 in
/-- a call of a method of ours that throws, caught where it was called -/
theorem mn_cthr_ok {j i : Nat} {pc : Nat} {st : List Value} {ns : Nat} {hs : mn_H} {j2 : Nat} {as r : List Value} {k hp : Nat} {w : Option Value} {ns1 : Nat} {hs1 : mn_H} (hW : mn_GW WT) (hH : mt_H WT) (C : mn_cx WT D aC b p s m args meth c j n0 sc) (hR : mn_R D mt_cl aC b hs H) (hS : va_S (fun q => b.1 ≤ q) s.heap H locs) (hls : ls.size = mt_ml j) (hn0 : n0 ≤ hs.length) (hm0 : m0 ≤ ns)
    (hd : decode (mt_code j) pc = .ok (.invokevirtual i, 3)) (hcal : mn_cal (mt_pl j) mt_na (.invokevirtual i, 3) st hs = some (j2, as, r)) (h1 : 1 ≤ R.frames) (h2 : 19 + mt_ml j2 ≤ R.locals) (h3 : mn_cat r ≤ 8) (hhd : mn_hd (mt_hl j) pc k = some hp)
    (hcon : mn_Con l WT D aC b j2 (R.frames - 1) (R.locals - (19 + mt_ml j2)) as ns hs (k + 1, w) ns1 hs1) (hmono : ns ≤ ns1 ∧ hs.length ≤ hs1.length) (hrc : hs1.length - n0 ≤ R.cells) (hrs : ns1 - m0 ≤ R.slots)
    (kk : ∀ (H1 : Heap) (locs1 : List Loc), mn_R D mt_cl aC b hs1 H1 → va_S (fun q => b.1 ≤ q) s.heap H1 locs1 → W p l e R s m args below meth c H1 locs1 (hs1.length - n0) (ns1 - m0) Q (F0 m hp ls (([.ref (hs1.length - 1)] : List Value).map (mn_tr b)))) :
    W p l e R s m args below meth c H locs (hs.length - n0) (ns - m0) Q (F0 m pc ls (st.map (mn_tr b))) := by
  obtain ⟨-, H8, -, -, -, -, -, -, HH, HC, -⟩ := hH
  obtain ⟨hx, hb, hml, hown, hts, hK, hsz, hX, -, -, -, hexc, -⟩ := C
  have hne : mt_hl j ≠ [] := by
    intro h9
    rw [h9] at hhd
    cases hhd
  refine mn_sized hsz hR.1 hn0 fun hz => ?_
  have hroom : (R.frames - 1) + 1 ≤ R.frames ∧ 8 + (mt_ml j2 + 11) + (R.locals - (19 + mt_ml j2)) ≤ R.locals := by omega
  have hf : hs.length - n0 + (hs1.length - hs.length) ≤ R.cells ∧ ns - m0 + (ns1 - ns) ≤ R.slots := by omega
  have hcat : ((r.map (mn_tr b)).map fun v => v.category).sum ≤ 8 := by rw [mn_cat_tr]; exact h3
  simp only [mn_cal] at hcal
  split at hcal
  · next jj ci x2 x3 h =>
    split at hcal
    · next a r' hdrop =>
      split at hcal
      · next tg vs ha =>
        split at hcal
        · next hc =>
          cases hcal
          obtain ⟨rfl, hci⟩ := hc
          obtain ⟨qc, k1, k2, k3, k4, k5⟩ := H8 _ _ _ _ _ _ h
          have k5 := k5 hne
          have hcw : mt_cw j2 = .code (mt_y j2) (mt_code j2) (mt_ml j2) (mt_rt j2) := by unfold mt_cw; rw [if_pos k3]
          obtain ⟨y1, y2, y3, y4, y5, -⟩ := k2
          have hlen : mt_na j2 < st.length := by
            rcases Nat.lt_or_ge (mt_na j2) st.length with h9 | h9
            · exact h9
            · rw [List.drop_eq_nil_of_le h9] at hdrop; cases hdrop
          have hAs : (((st.take (mt_na j2)).reverse).map (mn_tr b)).length = mt_na j2 := by simp; omega
          have hst : st.map (mn_tr b) = (((st.take (mt_na j2)).reverse).map (mn_tr b)).reverse ++ .ref (b.1 + a) :: r.map (mn_tr b) := by
            rw [mn_stk b st (mt_na j2), hdrop]
            rfl
          obtain ⟨cellB, v1, v2, v3⟩ := mn_recv hK hR ha hci k1
          have hws : ∀ w ∈ (mt_cw j2 :: WT), ∀ (a' : Array Value) (U : State), s.WarmedH U.vm → w.before a' U = true := by
            intro w hw a' U hU
            rcases List.mem_cons.mp hw with rfl | hw
            · exact hW _ k4 _ _ _ _ hU (hts _ k4)
            · exact hW _ hw _ _ _ _ hU (hts _ hw)
          rw [hcw] at k4
          intro T hT X
          obtain ⟨st', t, T', L, t1, t2, X', t3, t4, t5, ⟨⟨Xn, ce, p1, p2, p3, p4⟩, p5, p6⟩, hsteps⟩ := mn_callT (free := fun q => b.1 ≤ q) (x := b.1 + (hs1.length - 1))
            (PH := fun st' t => (∃ (X : String) (ce : Cell), mt_ex[k]? = some X ∧ t.heap[b.1 + (hs1.length - 1)]? = some ce ∧ ce.vm = .none ∧ st'.vm.findClass X = some ce.cls) ∧ mn_R D mt_cl aC b hs1 t.heap ∧ va_F (fun q => b.1 ≤ q) st' t)
            X hx hown (hts _ k5) (hts _ y4) (hts _ y5) (fun a' U hU => hW _ y3 _ _ _ _ hU (hts _ y3)) (fun a' U hU => hW _ k4 _ _ _ _ hU (hts _ k4)) y1 hcon (mn_Pc_blind _ _ _ _ _) hroom.1 hroom.2 hws
            (b := b.1 + a) (cellB := cellB) (by rw [hT]; exact v1) v2 v3 (g := F0 m pc ls (st.map (mn_tr b))) rfl (hls.trans hml.symm) (argsL := ((st.take (mt_na j2)).reverse).map (mn_tr b)) (rest := r.map (mn_tr b)) (fun sig hsig => hAs.trans (mn_len y2 sig hsig)) hst (lv_room hcat) (by rw [hb]; exact hd) hf
            (fun vm₁ hvm => mn_pre hX hK hR hS hz (.ref a :: (st.take (mt_na j2)).reverse) (T.setVm vm₁) hT hvm)
            (fun _ st' o t hq => by
              obtain ⟨⟨q1, q2⟩, q3, q4, L, q5, q6, q7⟩ := hq
              exact ⟨q1, ⟨q2, q3, q4⟩, L, q5, q6, q7⟩)
          have hfX : s.vm.findClass Xn = some ce.cls := by rw [← t2.findClass]; exact p4
          have hself : s.vm.assignable ce.cls ce.cls = true := by
            obtain ⟨c1, c2, z1, z2, z3⟩ := Cond.castable_spec (hts _ (HC k Xn p1))
            rw [hfX] at z1 z2
            cases z1
            cases z2
            exact z3
          obtain ⟨vm', w1, w2⟩ := mn_find_list (e := e) (a := b.1 + (hs1.length - 1)) hown (by rw [X.admits.platform]) hfX rfl (fun k' h9 => by rw [p3] at h9; cases h9) hself c.exceptionTable.toList (mt_hl j) hexc (fun t ht => by
            obtain ⟨u1, C, u2, u3⟩ := HH j t ht
            refine ⟨u1, C, hts _ u3, fun h9 => ?_, fun h9 => hX.2.2.1 k t.2.2.2.2 Xn C (fun h8 => h9 h8.symm) p1 u2⟩
            rw [h9, p1] at u2
            exact (Option.some.inj u2).symm) hhd T'.vm X'.warmed
          have hT'h : T'.heap[b.1 + (hs1.length - 1)]? = some ce := by rw [t4]; exact p2
          have hFs : va_S (fun q => b.1 ≤ q) s.heap T'.heap (locs ++ L) := by
            rw [t4]
            have hzz : st'.heap = H := t1.trans hT
            refine ⟨Nat.le_trans hS.1 (by rw [← hzz]; exact p6.1), fun q g1 g2 => ?_, fun q hq => ?_⟩
            · have h8 := p6.2 q (by rw [hzz]; exact Nat.lt_of_lt_of_le g1 hS.1) g2
              rw [h8, hzz]
              exact hS.2.1 q g1 g2
            · rcases List.mem_append.mp hq with h | h
              · exact hS.2.2 q h
              · exact t3 q h
          have X2 := X'.noted w1
          have hcc : hs.length - n0 + (hs1.length - hs.length) = hs1.length - n0 := by omega
          have hss : ns - m0 + (ns1 - ns) = ns1 - m0 := by omega
          rw [show hs.length - n0 + ({ frames := R.frames - 1, cells := hs1.length - hs.length, slots := ns1 - ns, locals := R.locals - (19 + mt_ml j2) } : Room).cells = hs1.length - n0 from hcc, show ns - m0 + ({ frames := R.frames - 1, cells := hs1.length - hs.length, slots := ns1 - ns, locals := R.locals - (19 + mt_ml j2) } : Room).slots = ns1 - m0 from hss] at X2
          obtain ⟨tt, s1, s2⟩ := kk T'.heap (locs ++ L) (by rw [t4]; exact p5) hFs (T'.setVm vm') rfl X2
          refine ⟨tt, hsteps.trans ?_, s2⟩
          refine mn_caught (c := c) (vm' := vm') (pc := hp) X'.here (fun Q9 E9 d9 acts9 => ?_) s1
          have hm9 : ((T'.setTop { F0 m pc ls (st.map (mn_tr b)) with stack := r.map (mn_tr b) }).pushFrame (.throwing (b.1 + (hs1.length - 1)))).vm.method? m = some meth := by
            rw [Stand.throwing_vm]
            exact X'.method'
          rw [W.findHandler_eq (f := { F0 m pc ls (st.map (mn_tr b)) with stack := r.map (mn_tr b) }) hm9 X'.code]
          exact w2 _ _ (Stand.throwing_vm _ _ _) (by rw [Stand.throwing_heap]; exact hT'h) rfl rfl Q9 E9 d9 acts9
        · cases hcal
      · cases hcal
    · cases hcal
  · cases hcal
end MNJ
