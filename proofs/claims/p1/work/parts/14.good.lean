/-- what the tables of a program's own names (mt_ ..) must be true to, as the machine's tables have it -/
def mt_G (WT : List Cond) : Prop :=
  (∀ (j i ci k nn : Nat) (z : Int), mt_pl j i = (1, ci, k, nn, z) → mn_F mt_cl WT (mt_cn j) mt_fi mt_ft (mt_ow j) i ci k) ∧
  (∀ (j i ci x y : Nat) (z : Int), mt_pl j i = (2, ci, x, y, z) → ∃ (C : String) (T : u_T) (ty : Nat → FieldType), mt_cl[ci]? = some (C, T, (mt_df ci).length) ∧ (∀ w ∈ u_ws C T (mt_df ci).length, w ∈ WT) ∧ (∀ k, k < (mt_df ci).length → parseFieldDescriptor (T k).2.2.1 = some (ty k)) ∧ (∀ k, k < (mt_df ci).length → defaultValue (ty k) = vp_V (mt_df ci) k) ∧ (∀ b, (mt_df ci).map (mn_tr b) = mt_df ci) ∧ Cond.classLink (mt_cn j) i C ∈ WT ∧ Cond.instantiable C (mt_df ci).length ∈ WT ∧ Cond.initialized C ∈ WT) ∧
  (∀ (j i x k y : Nat) (z : Int), mt_pl j i = (2, x, k, y, z) → 4 ≤ k ∧ k < 6 → ∃ C, (k = 4 → C = mt_E4) ∧ (k = 5 → C = mt_E5) ∧ Cond.arrayOver (.object C) ∈ WT ∧ Cond.classLink (mt_cn j) i C ∈ WT) ∧
  (∀ (j i x y w : Nat) (z : Int), mt_pl j i = (5, x, y, w, z) → Cond.constant (mt_cn j) i (Int32.ofInt z) ∈ WT) ∧
  (∀ (j i x y w : Nat) (z : Int), mt_pl j i = (6, x, y, w, z) → Cond.constantLong (mt_cn j) i (Int64.ofInt z) ∈ WT) ∧
  (Cond.arrayClass .int ∈ WT ∧ Cond.arrayClass .boolean ∈ WT ∧ Cond.arrayClass .char ∈ WT ∧ Cond.arrayClass .long ∈ WT) ∧
  (∀ (k : Nat), 4 ≤ k ∧ k < 6 → ∀ q, mt_cl[mt_ak k]? = some q → (k = 4 → q.1 = mt_E4) ∧ (k = 5 → q.1 = mt_E5)) ∧
  (∀ (k : Nat), 4 ≤ k ∧ k < 6 → ∃ q, mt_cl[mt_ak k]? = some q)
section MNG
variable {p : Program} {l : Launch} {e : Env} {R : Room} {s : State} {m : MethodId} {args : Array Value} {below : List Frame} {meth : Method} {c : Code} {H : Heap} {locs : List Loc} {Q : State → Prop} {b : Nat × Nat} {n0 m0 : Nat} {D : va_G} {aC : Nat → ClassId} {WT : List Cond} {ls : Array Slot}
set_option maxHeartbeats 8000000 in
theorem mn_opD_ok {j : Nat} {q : Instr × Nat} {pc : Nat} {xs : List (Option Value)} {st : List Value} {ns : Nat} {hs : mn_H} {pc' : Nat} {xs' : List (Option Value)} {st' : List Value} {ns' : Nat} {hs' : mn_H} (hx : p.tables.exec = Jvm.exec) (hb : c.code = mt_code j) (hts : ∀ w ∈ WT, w.before args s = true) (hG : mt_G WT) (hown : s.vm.findClass (mt_cn j) = some m.cls) (hin : mt_in j = true → meth.name = "<init>") (hK : va_K D mt_cl (mn_tys aC mt_E4 mt_E5) s) (hR : mn_R D mt_cl aC b hs H) (hS : va_S (fun q => b.1 ≤ q) s.heap H locs) (hsz : s.heap.size = b.1 + n0) (hn0 : n0 ≤ hs.length) (hm0 : m0 ≤ ns)
    (hd : decode (mt_code j) pc = .ok q) (hop : mn_opD (mt_pl j) mt_ft mt_fi mt_df mt_ak (mt_ow j) (mt_in j) q pc xs st ns hs = some (pc', xs', st', ns', hs')) (hrc : hs'.length - n0 ≤ R.cells) (hrs : ns' - m0 ≤ R.slots)
    (kk : xs' = xs → hs.length ≤ hs'.length → ns ≤ ns' → ∀ (H1 : Heap) (locs1 : List Loc), mn_R D mt_cl aC b hs' H1 → va_S (fun q => b.1 ≤ q) s.heap H1 locs1 → W p l e R s m args below meth c H1 locs1 (hs'.length - n0) (ns' - m0) Q (F0 m pc' ls (st'.map (mn_tr b)))) : W p l e R s m args below meth c H locs (hs.length - n0) (ns - m0) Q (F0 m pc ls (st.map (mn_tr b))) := by
  obtain ⟨G1, G2, G4, G5, G6, GA, GK, GQ⟩ := hG
  unfold mn_opD at hop
  split at hop
  · split at hop
    · next h => cases hop; exact lv_ldc hx hb hown (hts _ (G5 _ _ _ _ _ _ h)) hd (kk rfl (Nat.le_refl _) (Nat.le_refl _) H locs hR hS)
    · cases hop
  · split at hop
    · next h => cases hop; exact lv_ldc2 hx hb hown (hts _ (G6 _ _ _ _ _ _ h)) hd (kk rfl (Nat.le_refl _) (Nat.le_refl _) H locs hR hS)
    · cases hop
  · split at hop
    · next h =>
      split at hop
      · next tg vs ha =>
        split at hop
        · next hc =>
          obtain ⟨rfl, hci⟩ := hc
          split at hop
          · next v hv => cases hop; exact mn_get_ok hx hb hts hown hK hR (G1 _ _ _ _ _ _ h) hd ha hci hv (kk rfl (Nat.le_refl _) (Nat.le_refl _) H locs hR hS)
          · cases hop
        · cases hop
      · cases hop
    · cases hop
  · split at hop
    · next h =>
      split at hop
      · next tg vs ha =>
        split at hop
        · next hc =>
          obtain ⟨rfl, hci, hk, hfk, hfin⟩ := hc
          cases hop
          have kk := kk rfl (by rw [List.length_set]; exact Nat.le_refl _) (Nat.le_refl _)
          rw [List.length_set] at kk
          exact mn_put_ok hx hb hts hown hK hR hS (G1 _ _ _ _ _ _ h) hin hd ha hci hk hfk hfin kk
        · cases hop
      · cases hop
    · cases hop
  · split at hop
    · split at hop
      · next ha =>
        split at hop
        · next hi => cases hop; exact mn_ald_ok hx hb hK hR (Or.inl ⟨hd, ha⟩) hi (kk rfl (Nat.le_refl _) (Nat.le_refl _) H locs hR hS)
        · cases hop
      · cases hop
    · cases hop
  · split at hop
    · split at hop
      · next ha =>
        split at hop
        · next hi => cases hop; exact mn_ald_ok hx hb hK hR (Or.inr (Or.inl ⟨hd, ha⟩)) hi (kk rfl (Nat.le_refl _) (Nat.le_refl _) H locs hR hS)
        · cases hop
      · cases hop
    · cases hop
  · split at hop
    · split at hop
      · next ha =>
        split at hop
        · next hi => cases hop; exact mn_ald_ok hx hb hK hR (Or.inr (Or.inr ⟨hd, ha⟩)) hi (kk rfl (Nat.le_refl _) (Nat.le_refl _) H locs hR hS)
        · cases hop
      · cases hop
    · cases hop
  · split at hop
    · split at hop
      · next ha =>
        split at hop
        · next hi => cases hop; exact mn_lald_ok hx hb hK hR hd ha hi (kk rfl (Nat.le_refl _) (Nat.le_refl _) H locs hR hS)
        · cases hop
      · cases hop
    · cases hop
  · split at hop
    · split at hop
      · next tg vs ha =>
        split at hop
        · next ht =>
          have ha2 := ha
          rw [show tg = 50 + (tg - 50) by omega] at ha2
          split at hop
          · next hi => cases hop; exact mn_aald_ok hx hb hK hR (k := tg - 50) (by omega) hd ha2 hi (Or.inr ⟨_, rfl⟩) (kk rfl (Nat.le_refl _) (Nat.le_refl _) H locs hR hS)
          · next hi => cases hop; exact mn_aald_ok hx hb hK hR (k := tg - 50) (by omega) hd ha2 hi (Or.inl rfl) (kk rfl (Nat.le_refl _) (Nat.le_refl _) H locs hR hS)
          · cases hop
        · cases hop
      · cases hop
    · cases hop
  · split at hop
    · split at hop
      · next ha =>
        split at hop
        · cases hop
        · next hi =>
          cases hop
          have kk := kk rfl (by rw [List.length_set]; exact Nat.le_refl _) (Nat.le_refl _)
          rw [List.length_set] at kk
          exact mn_ast_ok hx hb hK hR hS ha hi (Or.inl ⟨hd, rfl, rfl⟩) kk
      · cases hop
    · cases hop
  · split at hop
    · split at hop
      · next ha =>
        split at hop
        · cases hop
        · next hi =>
          cases hop
          have kk := kk rfl (by rw [List.length_set]; exact Nat.le_refl _) (Nat.le_refl _)
          rw [List.length_set] at kk
          exact mn_ast_ok hx hb hK hR hS ha hi (Or.inr (Or.inl ⟨hd, rfl, rfl⟩)) kk
      · cases hop
    · cases hop
  · split at hop
    · split at hop
      · next ha =>
        split at hop
        · cases hop
        · next hi =>
          cases hop
          have kk := kk rfl (by rw [List.length_set]; exact Nat.le_refl _) (Nat.le_refl _)
          rw [List.length_set] at kk
          exact mn_ast_ok hx hb hK hR hS ha hi (Or.inr (Or.inr ⟨hd, rfl, rfl⟩)) kk
      · cases hop
    · cases hop
  · split at hop
    · split at hop
      · next ha =>
        split at hop
        · cases hop
        · next hi =>
          cases hop
          have kk := kk rfl (by rw [List.length_set]; exact Nat.le_refl _) (Nat.le_refl _)
          rw [List.length_set] at kk
          exact mn_last_ok hx hb hK hR hS ha hi hd kk
      · cases hop
    · cases hop
  · split at hop
    · split at hop
      · next tg vs tv vv ha hv =>
        split at hop
        · next hc =>
          obtain ⟨h1, h2, h3, h4, h5⟩ := hc
          cases hop
          have kk := kk rfl (by rw [List.length_set]; exact Nat.le_refl _) (Nat.le_refl _)
          rw [List.length_set] at kk
          have e50 : 50 + (tg - 50) = tg := by omega
          obtain ⟨q9, hq9⟩ := GQ (tg - 50) (by omega)
          refine mn_aast_ok hx hb hK hR hS (k := tg - 50) (by omega) (by rw [e50]; exact ha) hv h4 h5 (q := q9) (by rw [h3]; exact hq9) (GK (tg - 50) (by omega) q9 hq9) hd ?_
          rw [e50]
          exact kk
        · cases hop
      · cases hop
    · cases hop
  · split at hop
    · split at hop
      · next tg vs ha =>
        split at hop
        · next ht =>
          cases hop
          exact mn_alen_ok hx hb hK hR (k := tg - 50) (by omega) hd (by rw [show 50 + (tg - 50) = tg by omega]; exact ha) (kk rfl (Nat.le_refl _) (Nat.le_refl _) H locs hR hS)
        · cases hop
      · cases hop
    · cases hop
  · split at hop
    · next n r =>
      split at hop
      · cases hop
      · next hn =>
        have hsl : ns + n.toNatClampNeg - m0 = ns - m0 + n.toNatClampNeg := by omega
        split at hop
        · cases hop
          rw [hsl] at hrs kk
          exact mn_newa_ok (at9 := .int) hx hb hK hR hS hsz hn0 hn (hts _ GA.1) (Or.inl ⟨rfl, rfl⟩) hd (by simp at hrc; omega) hrs (fun H1 => kk rfl (by simp) (by omega) H1 locs)
        · cases hop
          rw [hsl] at hrs kk
          exact mn_newa_ok (at9 := .boolean) hx hb hK hR hS hsz hn0 hn (hts _ GA.2.1) (Or.inr (Or.inl ⟨rfl, rfl⟩)) hd (by simp at hrc; omega) hrs (fun H1 => kk rfl (by simp) (by omega) H1 locs)
        · cases hop
          rw [hsl] at hrs kk
          exact mn_newa_ok (at9 := .char) hx hb hK hR hS hsz hn0 hn (hts _ GA.2.2.1) (Or.inr (Or.inr (Or.inl ⟨rfl, rfl⟩))) hd (by simp at hrc; omega) hrs (fun H1 => kk rfl (by simp) (by omega) H1 locs)
        · cases hop
          rw [hsl] at hrs kk
          exact mn_newa_ok (at9 := .long) hx hb hK hR hS hsz hn0 hn (hts _ GA.2.2.2) (Or.inr (Or.inr (Or.inr ⟨rfl, rfl⟩))) hd (by simp at hrc; omega) hrs (fun H1 => kk rfl (by simp) (by omega) H1 locs)
        · cases hop
    · cases hop
  · split at hop
    · next x1 k x2 x3 n r h =>
      split at hop
      · cases hop
      · next hn =>
        cases hop
        have hk9 : 4 ≤ k ∧ k < 6 := Decidable.byContradiction fun h9 => hn (Or.inr (Or.inr h9))
        obtain ⟨C, c1, c2, c3, c4⟩ := G4 _ _ _ _ _ _ h hk9
        have hsl : ns + n.toNatClampNeg - m0 = ns - m0 + n.toNatClampNeg := by omega
        rw [hsl] at hrs kk
        have hn1 : ¬ (n < 0 ∨ 100000 < n.toNatClampNeg) := fun h9 => hn (h9.elim Or.inl (fun h8 => Or.inr (Or.inl h8)))
        exact mn_newr_ok hx hb hown hK hR hS hsz hn0 hk9 ⟨c1, c2⟩ hn1 (hts _ c3) (hts _ c4) hd (by simp at hrc; omega) hrs (fun H1 => kk rfl (by simp) (by omega) H1 locs)
    · cases hop
  · split at hop
    · next ci x1 x2 x3 h =>
      split at hop
      · next hci =>
        cases hop
        obtain ⟨C, T, ty, f1, f3, f4, f5, f6, g1, g2, g3⟩ := G2 _ _ _ _ _ _ h
        have hsl : ns + (mt_df ci).length - m0 = ns - m0 + (mt_df ci).length := by omega
        rw [hsl] at hrs kk
        exact mn_new_ok hx hb hts hown hK hR hS hsz hn0 hci f1 f3 f4 f5 (f6 b) g1 g2 g3 hd (by simp at hrc; omega) hrs (fun H1 => kk rfl (by simp) (by omega) H1 locs)
      · cases hop
    · cases hop
  · cases hop
end MNG
