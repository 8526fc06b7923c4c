section MNK
variable {l : Launch} {WT : List Cond} {D : va_G} {aC : Nat → ClassId} {b : Nat × Nat}
variable {p : Program} {e : Env} {R : Room} {s : State} {m : MethodId} {args : Array Value} {below : List Frame} {meth : Method} {c : Code} {H : Heap} {locs : List Loc} {n0 m0 : Nat} {ls : Array Slot} {sc : Option (List Int32)} {Q : State → Prop}
theorem mn_pre (hX : mn_X b s s.heap) (hK : va_K D mt_cl (mn_tys aC mt_E4 mt_E5) s) {hs : mn_H} (hR : mn_R D mt_cl aC b hs H) (hS : va_S (fun q => b.1 ≤ q) s.heap H locs) (hz : H.size = b.1 + hs.length) (as : List Value) : ∀ U : State, U.heap = H → s.WarmedH U.vm → mn_Pc D aC b hs as (as.map (mn_tr b)).toArray U := by
  intro U hU hW
  refine ⟨rfl, by rw [hU]; exact hz, by rw [hU]; exact hR, hK.moved hW.alike, ?_⟩
  rw [hU]
  exact (hX.kept hS).moved hW.alike
theorem mn_recv (hK : va_K D mt_cl (mn_tys aC mt_E4 mt_E5) s) {hs : mn_H} (hR : mn_R D mt_cl aC b hs H) {a ci : Nat} {vs : List Value} {q : vw_C} (ha : hs[a]? = some (ci, vs)) (hci : ci < 50) (hc : mt_cl[ci]? = some q) : ∃ cellB : Cell, H[b.1 + a]? = some cellB ∧ cellB.vm.isStatics = false ∧ s.vm.findClass q.1 = some cellB.cls := by
  obtain ⟨hz, ws, hP, hD, hm⟩ := hR
  obtain ⟨q0, hq⟩ := mn_wat hm ha (by simp; omega)
  rw [mn_E_o hci] at hq
  exact va_recv hK hP hc hq
theorem mn_stk (b : Nat × Nat) (st : List Value) (n : Nat) : st.map (mn_tr b) = (((st.take n).reverse).map (mn_tr b)).reverse ++ (st.drop n).map (mn_tr b) := by
  rw [← List.map_reverse, List.reverse_reverse, ← List.map_append, List.take_append_drop]
set_option maxHeartbeats 4000000 in
/-- a call of a method of ours that comes back -/
theorem mn_cret_ok {j : Nat} {q : Instr × Nat} {pc : Nat} {st : List Value} {ns : Nat} {hs : mn_H} {j2 : Nat} {as r : List Value} {v : Option Value} {ns1 : Nat} {hs1 : mn_H} (hW : mn_GW WT) (hH : mt_H WT) (C : mn_cx WT D aC b p s m args meth c j n0 sc) (hR : mn_R D mt_cl aC b hs H) (hS : va_S (fun q => b.1 ≤ q) s.heap H locs) (hls : ls.size = mt_ml j) (hn0 : n0 ≤ hs.length) (hm0 : m0 ≤ ns)
    (hd : decode (mt_code j) pc = .ok q) (hcal : mn_cal (mt_pl j) mt_na q st hs = some (j2, as, r)) (h1 : 1 ≤ R.frames) (h2 : 19 + mt_ml j2 ≤ R.locals) (h3 : mn_cat r ≤ 8)
    (hcon : mn_Con l WT D aC b j2 (R.frames - 1) (R.locals - (19 + mt_ml j2)) as ns hs (0, v) ns1 hs1) (hmono : ns ≤ ns1 ∧ hs.length ≤ hs1.length) (hrc : hs1.length - n0 ≤ R.cells) (hrs : ns1 - m0 ≤ R.slots)
    (kk : ∀ (H1 : Heap) (locs1 : List Loc), mn_R D mt_cl aC b hs1 H1 → va_S (fun q => b.1 ≤ q) s.heap H1 locs1 → W p l e R s m args below meth c H1 locs1 (hs1.length - n0) (ns1 - m0) Q (F0 m (pc + 3) ls ((v.toList ++ r).map (mn_tr b)))) :
    W p l e R s m args below meth c H locs (hs.length - n0) (ns - m0) Q (F0 m pc ls (st.map (mn_tr b))) := by
  obtain ⟨H7, H8, H9, -⟩ := hH
  obtain ⟨hx, hb, hml, hown, hts, hK, hsz, hX, -⟩ := C
  refine mn_sized hsz hR.1 hn0 fun hz => ?_
  have hM := hcon.met
  have hroom : (R.frames - 1) + 1 ≤ R.frames ∧ 8 + (mt_ml j2 + 11) + (R.locals - (19 + mt_ml j2)) ≤ R.locals := by omega
  have hf : hs.length - n0 + (hs1.length - hs.length) ≤ R.cells ∧ ns - m0 + (ns1 - ns) ≤ R.slots := by omega
  have hcat : ((r.map (mn_tr b)).map fun v => v.category).sum ≤ 8 := by rw [mn_cat_tr]; exact h3
  have hgo : ∀ {Qa : State → Outcome → State → Prop}, (∀ st' o t, Qa st' o t ↔ mn_Qr D aC b v hs1 #[] st' o t) → va_Run p l e R s m args below meth c H locs (hs.length - n0) (ns - m0) (hs1.length - hs.length) (ns1 - ns) (F0 m pc ls (st.map (mn_tr b))) (r.map (mn_tr b)) Qa (fun q => b.1 ≤ q) → W p l e R s m args below meth c H locs (hs.length - n0) (ns - m0) Q (F0 m pc ls (st.map (mn_tr b))) := by
    intro Qa hQa hrun
    refine mn_after (A := fun q => b.1 ≤ q) (v0 := v.map (mn_tr b)) (PH := fun H1 => mn_R D mt_cl aC b hs1 H1) hrun hS (fun q h => h) (fun st' w t hq => ?_) (fun H1 locs1 r1 s1 => ?_)
    · obtain ⟨g1, g2, g3⟩ := (hQa _ _ _).mp hq
      exact ⟨by cases g1; rfl, g2, g3⟩
    · have h9 := kk H1 locs1 r1 s1
      rw [show hs.length - n0 + (hs1.length - hs.length) = hs1.length - n0 by omega, show ns - m0 + (ns1 - ns) = ns1 - m0 by omega]
      rw [List.map_append] at h9
      have hv : (v.map (mn_tr b)).toList = v.toList.map (mn_tr b) := by cases v <;> rfl
      rw [hv]
      exact h9
  unfold mn_cal at hcal
  split at hcal
  · split at hcal
    · next jj x1 x2 x3 h =>
      split at hcal
      · next hlen =>
        cases hcal
        obtain ⟨g1, g2, g3⟩ := H7 _ _ _ _ _ _ h
        have hAs : (((st.take (mt_na j2)).reverse).map (mn_tr b)).length = mt_na j2 := by simp; omega
        by_cases hh : mt_hl j2 = []
        · have hcw : mt_cw j2 = .code (mt_y j2) (mt_code j2) (mt_ml j2) (mt_rt j2) := by unfold mt_cw; rw [if_pos hh]
          rw [hcw] at hM g3
          exact hgo (Qa := mn_Qr D aC b v hs1 _) (fun _ _ _ => Iff.rfl) (mn_runS (As := ((st.take (mt_na j2)).reverse).map (mn_tr b)) hx hb hml hown hts hW g3 g1 hM rfl rfl hroom ⟨mn_Pc_blind _ _ _ _ _, mn_pre hX hK hR hS hz _⟩ hAs hls (mn_stk b st _) hcat hd hf)
        · have hcw : mt_cw j2 = .codeWith (mt_y j2) (mt_code j2) (mt_ml j2) (mt_rt j2) ((mt_hl j2).map (fun t => (t.1, t.2.1, t.2.2.1, t.2.2.2.1))) := by unfold mt_cw; rw [if_neg hh]
          rw [hcw] at hM g3
          have g2' : Cond.methodLink (mt_cn j) _ (mt_y j2) ∈ WT := g2.resolve_left hh
          obtain ⟨k1, k2, k3, k4, -⟩ := g1
          exact hgo (Qa := mn_Qr D aC b v hs1 _) (fun _ _ _ => Iff.rfl) (mn_runSW (As := ((st.take (mt_na j2)).reverse).map (mn_tr b)) hx hb hml hown hts hW g3 k1 k2 k3 k4 g2' hM rfl rfl hroom ⟨mn_Pc_blind _ _ _ _ _, mn_pre hX hK hR hS hz _⟩ hAs hls (mn_stk b st _) hcat hd hf)
      · cases hcal
    · cases hcal
  · split at hcal
    · next jj ci x2 x3 h =>
      split at hcal
      · next a r' hdrop =>
        split at hcal
        · next tg vs ha =>
          split at hcal
          · next hc =>
            cases hcal
            obtain ⟨rfl, hci⟩ := hc
            obtain ⟨qc, k1, k2, k3, k4, -⟩ := H8 _ _ _ _ _ _ h
            have hcw : mt_cw j2 = .code (mt_y j2) (mt_code j2) (mt_ml j2) (mt_rt j2) := by unfold mt_cw; rw [if_pos k3]
            rw [hcw] at hM k4
            have hlen : mt_na j2 < st.length := by
              rcases Nat.lt_or_ge (mt_na j2) st.length with h9 | h9
              · exact h9
              · rw [List.drop_eq_nil_of_le h9] at hdrop; cases hdrop
            have hAs : (((st.take (mt_na j2)).reverse).map (mn_tr b)).length = mt_na j2 := by simp; omega
            have hst : st.map (mn_tr b) = (((st.take (mt_na j2)).reverse).map (mn_tr b)).reverse ++ .ref (b.1 + a) :: r.map (mn_tr b) := by
              rw [mn_stk b st (mt_na j2), hdrop]
              rfl
            exact hgo (fun _ _ _ => Iff.rfl) (mn_runV hx hb hml hown hts hW k4 k2 hM rfl rfl hroom ⟨mn_Pc_blind _ _ _ _ _, mn_recv hK hR ha hci k1, mn_pre hX hK hR hS hz _⟩ hAs hls hst hcat hd hf)
          · cases hcal
        · cases hcal
      · cases hcal
    · cases hcal
  · split at hcal
    · next jj ci x2 x3 h =>
      split at hcal
      · next a r' hdrop =>
        cases hcal
        obtain ⟨k2, k3, k5, k4⟩ := H9 _ _ _ _ _ _ h
        have hcw : mt_cw j2 = .code (mt_y j2) (mt_code j2) (mt_ml j2) none := by unfold mt_cw; rw [if_pos k3, k5]
        rw [hcw] at hM k4
        have hlen : mt_na j2 < st.length := by
          rcases Nat.lt_or_ge (mt_na j2) st.length with h9 | h9
          · exact h9
          · rw [List.drop_eq_nil_of_le h9] at hdrop; cases hdrop
        have hAs : (((st.take (mt_na j2)).reverse).map (mn_tr b)).length = mt_na j2 := by simp; omega
        have hst : st.map (mn_tr b) = (((st.take (mt_na j2)).reverse).map (mn_tr b)).reverse ++ .ref (b.1 + a) :: r.map (mn_tr b) := by
          rw [mn_stk b st (mt_na j2), hdrop]
          rfl
        exact hgo (fun _ _ _ => Iff.rfl) (mn_runI hx hb hml hown hts hW k4 k2 hM rfl rfl hroom ⟨mn_Pc_blind _ _ _ _ _, mn_pre hX hK hR hS hz _⟩ hAs hls hst hcat hd hf)
      · cases hcal
    · cases hcal
  · cases hcal
end MNK
