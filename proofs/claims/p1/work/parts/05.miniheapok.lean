def mn_tys (aC : Nat → ClassId) (E4 E5 : String) : List (ClassId × FieldType) := [(aC 0, .int), (aC 1, .boolean), (aC 2, .char), (aC 3, .long), (aC 4, .object E4), (aC 5, .object E5)]
theorem mn_E_o {aC : Nat → ClassId} {b : Nat × Nat} {ci : Nat} (h : ci < 50) (vs : List Value) : mn_E aC b (ci, vs) = .inr (ci, vs.map (mn_tr b)) := by simp [mn_E, h]
theorem mn_E50 (aC : Nat → ClassId) (b : Nat × Nat) (vs : List Value) : mn_E aC b (50, vs) = .inl (aC 0, vs.length, .inl (fun i => mn_i vs[i]?)) := by simp [mn_E]
theorem mn_E51 (aC : Nat → ClassId) (b : Nat × Nat) (vs : List Value) : mn_E aC b (51, vs) = .inl (aC 1, vs.length, .inl (fun i => mn_i vs[i]?)) := by simp [mn_E]
theorem mn_E52 (aC : Nat → ClassId) (b : Nat × Nat) (vs : List Value) : mn_E aC b (52, vs) = .inl (aC 2, vs.length, .inl (fun i => mn_i vs[i]?)) := by simp [mn_E]
theorem mn_E53 (aC : Nat → ClassId) (b : Nat × Nat) (vs : List Value) : mn_E aC b (53, vs) = .inl (aC 3, vs.length, .inr (.inl (fun i => mn_l vs[i]?))) := by simp [mn_E]
theorem mn_E_r {aC : Nat → ClassId} {b : Nat × Nat} {k : Nat} (h : 4 ≤ k) (vs : List Value) : mn_E aC b (50 + k, vs) = .inl (aC k, vs.length, .inr (.inr (.inr (.inr (fun i => mn_r b vs[i]?))))) := by
  unfold mn_E
  rw [if_neg (by simp), if_neg (by simp; omega), if_neg (by simp; omega)]
  simp
theorem mn_updI {vs : List Value} {k : Nat} (hk : k < vs.length) (x : Int32) : upd (fun i => mn_i vs[i]?) k x = fun i => mn_i (vs.set k (.int x))[i]? := by
  funext i
  by_cases h : i = k
  · subst h
    rw [pk_us, List.getElem?_set, if_pos rfl, if_pos hk]
    rfl
  · rw [pk_un h, List.getElem?_set, if_neg (Ne.symm h)]
theorem mn_updL {vs : List Value} {k : Nat} (hk : k < vs.length) (x : Int64) : vp_updL (fun i => mn_l vs[i]?) k x = fun i => mn_l (vs.set k (.long x))[i]? := by
  funext i
  by_cases h : i = k
  · subst h
    rw [pk_uLs, List.getElem?_set, if_pos rfl, if_pos hk]
    rfl
  · rw [pk_uLn h, List.getElem?_set, if_neg (Ne.symm h)]
theorem mn_updR {b : Nat × Nat} {vs : List Value} {k : Nat} (hk : k < vs.length) (y : Nat) : va_up (fun i => mn_r b vs[i]?) k (some (b.1 + y)) = fun i => mn_r b (vs.set k (.ref y))[i]? := by
  funext i
  by_cases h : i = k
  · subst h
    rw [va_up_self, List.getElem?_set, if_pos rfl, if_pos hk]
    rfl
  · rw [va_up_ne _ _ h, List.getElem?_set, if_neg (Ne.symm h)]
theorem mn_wat {aC : Nat → ClassId} {b : Nat × Nat} {hs : mn_H} {ws : va_W} (hm : ∀ (a : Nat) (e : va_E), (a, e) ∈ ws ↔ ∃ (i : Nat) (c : mn_C), a = b.1 + i ∧ hs[i]? = some c ∧ c.1 ≠ 99 ∧ e = mn_E aC b c) {a : Nat} {c : mn_C} (h : hs[a]? = some c) (hc : c.1 ≠ 99) : ∃ q0 : Nat, ws[q0]? = some (b.1 + a, mn_E aC b c) :=
  List.getElem?_of_mem ((hm _ _).mpr ⟨a, c, rfl, h, hc, rfl⟩)
theorem mn_ix_in {vs : List Value} {i : Int32} {v : Value} (h : mn_ix vs i = some v) : vp_in i vs.length ∧ vs[i.toNatClampNeg]? = some v := by
  unfold mn_ix at h
  split at h
  · cases h
  · next hn => exact ⟨hn, h⟩
/-- what a constant pool's place must be true to, as the tables have it -/
def mn_F (cl : List vw_C) (WT : List Cond) (own : String) (fi : Nat → Nat → Bool) (ft : Nat → Nat → Nat) (ow : Nat) (i ci k : Nat) : Prop :=
  ∃ (C : String) (T : u_T) (N : Nat) (ty : Nat → FieldType), cl[ci]? = some (C, T, N) ∧ k < N ∧ (∀ w ∈ u_ws C T N, w ∈ WT) ∧ (∀ j, j < N → parseFieldDescriptor (T j).2.2.1 = some (ty j)) ∧ (∀ x, x < N → ∀ y, y < N → x ≠ y → (T x).2.1 ≠ (T y).2.1) ∧
    (Cond.fieldLink own i (T k).1 (T k).2.1 (T k).2.2.1 ∈ WT ∨ (∃ host, Cond.fieldLinkNest own i (T k).1 (T k).2.1 (T k).2.2.1 host ∈ WT) ∧ (T k).2.2.2 = false) ∧ fi ci k = (T k).2.2.2 ∧ (ci = ow → (T k).1 = own) ∧
    ∀ v b, mn_fk (ft ci k) v = true → narrow (ty k) (mn_tr b v) = mn_tr b v ∧ fits (ty k) (mn_tr b v) = true
section MND
variable {p : Program} {l : Launch} {e : Env} {R : Room} {s : State} {m : MethodId} {args : Array Value} {below : List Frame} {meth : Method} {c : Code} {H : Heap} {locs : List Loc} {cells slots : Nat} {Q : State → Prop} {cc : ByteArray} {b : Nat × Nat} {D : va_G} {cl : List vw_C} {aC : Nat → ClassId} {hs : mn_H} {E4 E5 : String} {WT : List Cond} {own : String} {pc : Nat} {ls : Array Slot} {r : List Value}
theorem mn_get_ok (hx : p.tables.exec = Jvm.exec) (hb : c.code = cc) (hts : ∀ w ∈ WT, w.before args s = true) (hown : s.vm.findClass own = some m.cls) (hK : va_K D cl (mn_tys aC E4 E5) s) (hR : mn_R D cl aC b hs H) {fi : Nat → Nat → Bool} {ft : Nat → Nat → Nat} {ow i ci k a : Nat} {vs : List Value} {v : Value} (hF : mn_F cl WT own fi ft ow i ci k) (hd : decode cc pc = .ok (.getfield i, 3)) (ha : hs[a]? = some (ci, vs)) (hci : ci < 50) (hv : vs[k]? = some v)
    (kk : W p l e R s m args below meth c H locs cells slots Q (F0 m (pc + 3) ls ((v :: r).map (mn_tr b)))) : W p l e R s m args below meth c H locs cells slots Q (F0 m pc ls ((.ref a :: r).map (mn_tr b))) := by
  obtain ⟨hz, ws, hP, hD, hm⟩ := hR
  obtain ⟨C, T, N, ty, f1, f2, f3, f4, f5, f6, f7, f8, f9⟩ := hF
  obtain ⟨q0, hq⟩ := mn_wat hm ha (by simp; omega)
  rw [mn_E_o hci] at hq
  have hv' : (vs.map (mn_tr b))[k]? = some (mn_tr b v) := by rw [List.getElem?_map, hv]; rfl
  rcases f6 with f6 | ⟨⟨host, f6⟩, -⟩
  · exact va_get hx hb hts f3 hown hK hP q0 hq f1 k f2 (hts _ f6) (fun _ h => h) hv' hd kk
  · exact va_getN hx hb hts f3 hown hK hP q0 hq f1 k f2 (hts _ f6) (fun _ h => h) hv' hd kk
theorem mn_put_ok (hx : p.tables.exec = Jvm.exec) (hb : c.code = cc) (hts : ∀ w ∈ WT, w.before args s = true) (hown : s.vm.findClass own = some m.cls) (hK : va_K D cl (mn_tys aC E4 E5) s) (hR : mn_R D cl aC b hs H) {H0 : Heap} (hS : va_S (fun q => b.1 ≤ q) H0 H locs) {fi : Nat → Nat → Bool} {ft : Nat → Nat → Nat} {ow i ci k a : Nat} {vs : List Value} {v : Value} (hF : mn_F cl WT own fi ft ow i ci k) {ini : Bool} (hini : ini = true → meth.name = "<init>") (hd : decode cc pc = .ok (.putfield i, 3)) (ha : hs[a]? = some (ci, vs)) (hci : ci < 50) (hk : k < vs.length) (hfk : mn_fk (ft ci k) v = true) (hfin : fi ci k = true → ini = true ∧ ci = ow)
    (kk : ∀ (H1 : Heap) (locs1 : List Loc), mn_R D cl aC b (hs.set a (ci, vs.set k v)) H1 → va_S (fun q => b.1 ≤ q) H0 H1 locs1 → W p l e R s m args below meth c H1 locs1 cells slots Q (F0 m (pc + 3) ls (r.map (mn_tr b)))) : W p l e R s m args below meth c H locs cells slots Q (F0 m pc ls ((v :: .ref a :: r).map (mn_tr b))) := by
  obtain ⟨hz, ws, hP, hD, hm⟩ := hR
  obtain ⟨C, T, N, ty, f1, f2, f3, f4, f5, f6, f7, f8, f9⟩ := hF
  obtain ⟨q0, hq⟩ := mn_wat hm ha (by simp; omega)
  have hset := mn_set_mem hD hm hq (c' := (ci, vs.set k v)) (by simp; omega)
  rw [mn_E_o hci] at hq
  rw [mn_E_o hci, List.map_set] at hset
  have go : ∀ (H1 : Heap) (locs1 : List Loc), va_P D cl (ws.set q0 (b.1 + a, .inr (ci, (vs.map (mn_tr b)).set k (mn_tr b v)))) H1 → va_D (fun q => b.1 ≤ q) (ws.set q0 (b.1 + a, .inr (ci, (vs.map (mn_tr b)).set k (mn_tr b v)))) → va_S (fun q => b.1 ≤ q) H H1 locs1 → W p l e R s m args below meth c H1 locs1 cells slots Q (F0 m (pc + 3) ls (r.map (mn_tr b))) :=
    fun H1 locs1 p1 d1 s1 => kk H1 locs1 ⟨by rw [List.length_set]; exact Nat.le_trans hz s1.1, _, p1, d1, hset⟩ (mn_S_tr hS s1)
  cases hfi : (T k).2.2.2
  · rcases f6 with f6 | ⟨⟨host, f6⟩, -⟩
    · exact va_put hx hb hts f3 ty f4 f5 hown hK hP hD (mn_S_at hS) q0 hq f1 k f2 (hts _ f6) (fun _ h => h) hfi (f4 k f2) (f9 v b hfk).1 (f9 v b hfk).2 (by rw [List.length_map]; exact hk) hd go
    · exact va_putN hx hb hts f3 ty f4 f5 hown hK hP hD (mn_S_at hS) q0 hq f1 k f2 (hts _ f6) (fun _ h => h) hfi (f4 k f2) (f9 v b hfk).1 (f9 v b hfk).2 (by rw [List.length_map]; exact hk) hd go
  · have h9 := hfin (f7.trans hfi)
    rcases f6 with f6 | ⟨-, f6⟩
    · exact va_putF hx hb hts f3 ty f4 f5 hown hK hP hD (mn_S_at hS) q0 hq f1 k f2 (hts _ f6) (fun _ h => h) hfi (hini h9.1) (f8 h9.2) (f4 k f2) (f9 v b hfk).1 (f9 v b hfk).2 (by rw [List.length_map]; exact hk) hd go
    · rw [hfi] at f6; cases f6
theorem mn_ald_ok (hx : p.tables.exec = Jvm.exec) (hb : c.code = cc) (hK : va_K D cl (mn_tys aC E4 E5) s) (hR : mn_R D cl aC b hs H) {a : Nat} {i : Int32} {vs : List Value} {v : Int32}
    (hd : decode cc pc = .ok (.iaload, 1) ∧ hs[a]? = some (50, vs) ∨ decode cc pc = .ok (.baload, 1) ∧ hs[a]? = some (51, vs) ∨ decode cc pc = .ok (.caload, 1) ∧ hs[a]? = some (52, vs)) (hi : mn_ix vs i = some (.int v))
    (kk : W p l e R s m args below meth c H locs cells slots Q (F0 m (pc + 1) ls ((.int v :: r).map (mn_tr b)))) : W p l e R s m args below meth c H locs cells slots Q (F0 m pc ls ((.int i :: .ref a :: r).map (mn_tr b))) := by
  obtain ⟨hz, ws, hP, hD, hm⟩ := hR
  obtain ⟨h1, h2⟩ := mn_ix_in hi
  have hv : mn_i vs[i.toNatClampNeg]? = v := by rw [h2]; rfl
  rcases hd with ⟨hd, ha⟩ | ⟨hd, ha⟩ | ⟨hd, ha⟩
  · obtain ⟨q0, hq⟩ := mn_wat hm ha (by simp)
    rw [mn_E50] at hq
    exact va_iald hx hb hK hP q0 0 hq rfl h1 hd (by rw [hv]; exact kk)
  · obtain ⟨q0, hq⟩ := mn_wat hm ha (by simp)
    rw [mn_E51] at hq
    exact va_zald hx hb hK hP q0 1 hq rfl h1 hd (by rw [hv]; exact kk)
  · obtain ⟨q0, hq⟩ := mn_wat hm ha (by simp)
    rw [mn_E52] at hq
    exact va_cald hx hb hK hP q0 2 hq rfl h1 hd (by rw [hv]; exact kk)
theorem mn_lald_ok (hx : p.tables.exec = Jvm.exec) (hb : c.code = cc) (hK : va_K D cl (mn_tys aC E4 E5) s) (hR : mn_R D cl aC b hs H) {a : Nat} {i : Int32} {vs : List Value} {v : Int64}
    (hd : decode cc pc = .ok (.laload, 1)) (ha : hs[a]? = some (53, vs)) (hi : mn_ix vs i = some (.long v))
    (kk : W p l e R s m args below meth c H locs cells slots Q (F0 m (pc + 1) ls ((.long v :: r).map (mn_tr b)))) : W p l e R s m args below meth c H locs cells slots Q (F0 m pc ls ((.int i :: .ref a :: r).map (mn_tr b))) := by
  obtain ⟨hz, ws, hP, hD, hm⟩ := hR
  obtain ⟨h1, h2⟩ := mn_ix_in hi
  have hv : mn_l vs[i.toNatClampNeg]? = v := by rw [h2]; rfl
  obtain ⟨q0, hq⟩ := mn_wat hm ha (by simp)
  rw [mn_E53] at hq
  exact va_lald hx hb hK hP q0 3 hq rfl h1 hd (by rw [hv]; exact kk)
theorem mn_tys_r (aC : Nat → ClassId) (E4 E5 : String) {k : Nat} (h : 4 ≤ k ∧ k < 6) : ∃ C, (mn_tys aC E4 E5)[k]? = some (aC k, .object C) ∧ (k = 4 ∧ C = E4 ∨ k = 5 ∧ C = E5) := by
  rcases (show k = 4 ∨ k = 5 by omega) with rfl | rfl
  · exact ⟨E4, rfl, Or.inl ⟨rfl, rfl⟩⟩
  · exact ⟨E5, rfl, Or.inr ⟨rfl, rfl⟩⟩
theorem mn_aald_ok (hx : p.tables.exec = Jvm.exec) (hb : c.code = cc) (hK : va_K D cl (mn_tys aC E4 E5) s) (hR : mn_R D cl aC b hs H) {a k : Nat} {i : Int32} {vs : List Value} {v : Value} (hk : 4 ≤ k ∧ k < 6)
    (hd : decode cc pc = .ok (.aaload, 1)) (ha : hs[a]? = some (50 + k, vs)) (hi : mn_ix vs i = some v) (hv0 : v = .null ∨ ∃ y, v = .ref y)
    (kk : W p l e R s m args below meth c H locs cells slots Q (F0 m (pc + 1) ls ((v :: r).map (mn_tr b)))) : W p l e R s m args below meth c H locs cells slots Q (F0 m pc ls ((.int i :: .ref a :: r).map (mn_tr b))) := by
  obtain ⟨hz, ws, hP, hD, hm⟩ := hR
  obtain ⟨h1, h2⟩ := mn_ix_in hi
  have hv : va_rf (mn_r b vs[i.toNatClampNeg]?) = mn_tr b v := by
    rw [h2]
    rcases hv0 with rfl | ⟨y, rfl⟩ <;> rfl
  obtain ⟨q0, hq⟩ := mn_wat hm ha (by simp; omega)
  rw [mn_E_r hk.1] at hq
  obtain ⟨C, ht, -⟩ := mn_tys_r aC E4 E5 hk
  exact va_aldq hx hb hK hP q0 k hq ht h1 hd (by rw [hv]; exact kk)
theorem mn_alen_ok (hx : p.tables.exec = Jvm.exec) (hb : c.code = cc) (hK : va_K D cl (mn_tys aC E4 E5) s) (hR : mn_R D cl aC b hs H) {a k : Nat} {vs : List Value} (hk : k < 6)
    (hd : decode cc pc = .ok (.arraylength, 1)) (ha : hs[a]? = some (50 + k, vs))
    (kk : W p l e R s m args below meth c H locs cells slots Q (F0 m (pc + 1) ls ((.int (Int32.ofNat vs.length) :: r).map (mn_tr b)))) : W p l e R s m args below meth c H locs cells slots Q (F0 m pc ls ((.ref a :: r).map (mn_tr b))) := by
  obtain ⟨hz, ws, hP, hD, hm⟩ := hR
  obtain ⟨q0, hq⟩ := mn_wat hm ha (by simp; omega)
  rcases (show k = 0 ∨ k = 1 ∨ k = 2 ∨ k = 3 ∨ (4 ≤ k ∧ k < 6) by omega) with rfl | rfl | rfl | rfl | h
  · rw [mn_E50] at hq
    exact va_alen hx hb hK hP q0 0 hq (ty := .int) rfl rfl hd kk
  · rw [mn_E51] at hq
    exact va_alen hx hb hK hP q0 1 hq (ty := .boolean) rfl rfl hd kk
  · rw [mn_E52] at hq
    exact va_alen hx hb hK hP q0 2 hq (ty := .char) rfl rfl hd kk
  · rw [mn_E53] at hq
    exact va_alen hx hb hK hP q0 3 hq (ty := .long) rfl rfl hd kk
  · rw [mn_E_r h.1] at hq
    obtain ⟨C, ht, -⟩ := mn_tys_r aC E4 E5 h
    exact va_alen hx hb hK hP q0 k hq ht rfl hd kk
theorem mn_ast_ok (hx : p.tables.exec = Jvm.exec) (hb : c.code = cc) (hK : va_K D cl (mn_tys aC E4 E5) s) (hR : mn_R D cl aC b hs H) {H0 : Heap} (hS : va_S (fun q => b.1 ≤ q) H0 H locs) {a tg : Nat} {i x y : Int32} {vs : List Value} (ha : hs[a]? = some (tg, vs)) (hi : ¬ (i < 0 ∨ vs.length ≤ i.toNatClampNeg))
    (hd : decode cc pc = .ok (.iastore, 1) ∧ tg = 50 ∧ y = x ∨ decode cc pc = .ok (.bastore, 1) ∧ tg = 51 ∧ y = vp_nar .boolean x ∨ decode cc pc = .ok (.castore, 1) ∧ tg = 52 ∧ y = vp_nar .char x)
    (kk : ∀ (H1 : Heap) (locs1 : List Loc), mn_R D cl aC b (hs.set a (tg, vs.set i.toNatClampNeg (.int y))) H1 → va_S (fun q => b.1 ≤ q) H0 H1 locs1 → W p l e R s m args below meth c H1 locs1 cells slots Q (F0 m (pc + 1) ls (r.map (mn_tr b)))) : W p l e R s m args below meth c H locs cells slots Q (F0 m pc ls ((.int x :: .int i :: .ref a :: r).map (mn_tr b))) := by
  obtain ⟨hz, ws, hP, hD, hm⟩ := hR
  have hlt : i.toNatClampNeg < vs.length := by
    rcases Nat.lt_or_ge i.toNatClampNeg vs.length with h | h
    · exact h
    · exact absurd (Or.inr h) hi
  have htg : tg ≠ 99 := by rcases hd with ⟨-, h, -⟩ | ⟨-, h, -⟩ | ⟨-, h, -⟩ <;> omega
  obtain ⟨q0, hq⟩ := mn_wat hm ha htg
  have hset := mn_set_mem hD hm hq (c' := (tg, vs.set i.toNatClampNeg (.int y))) htg
  rcases hd with ⟨hd, rfl, rfl⟩ | ⟨hd, rfl, rfl⟩ | ⟨hd, rfl, rfl⟩
  · rw [mn_E50] at hq
    rw [mn_E50, ← mn_updI hlt, List.length_set] at hset
    exact va_iast hx hb hK hP hD (mn_S_at hS) q0 0 hq rfl hi hd (fun H1 locs1 p1 d1 s1 => kk H1 locs1 ⟨by rw [List.length_set]; exact Nat.le_trans hz s1.1, _, p1, d1, hset⟩ (mn_S_tr hS s1))
  · rw [mn_E51] at hq
    rw [mn_E51, ← mn_updI hlt, List.length_set] at hset
    exact va_zast hx hb hK hP hD (mn_S_at hS) q0 1 hq rfl hi hd (fun H1 locs1 p1 d1 s1 => kk H1 locs1 ⟨by rw [List.length_set]; exact Nat.le_trans hz s1.1, _, p1, d1, hset⟩ (mn_S_tr hS s1))
  · rw [mn_E52] at hq
    rw [mn_E52, ← mn_updI hlt, List.length_set] at hset
    exact va_cast hx hb hK hP hD (mn_S_at hS) q0 2 hq rfl hi hd (fun H1 locs1 p1 d1 s1 => kk H1 locs1 ⟨by rw [List.length_set]; exact Nat.le_trans hz s1.1, _, p1, d1, hset⟩ (mn_S_tr hS s1))
theorem mn_last_ok (hx : p.tables.exec = Jvm.exec) (hb : c.code = cc) (hK : va_K D cl (mn_tys aC E4 E5) s) (hR : mn_R D cl aC b hs H) {H0 : Heap} (hS : va_S (fun q => b.1 ≤ q) H0 H locs) {a : Nat} {i : Int32} {x : Int64} {vs : List Value} (ha : hs[a]? = some (53, vs)) (hi : ¬ (i < 0 ∨ vs.length ≤ i.toNatClampNeg))
    (hd : decode cc pc = .ok (.lastore, 1))
    (kk : ∀ (H1 : Heap) (locs1 : List Loc), mn_R D cl aC b (hs.set a (53, vs.set i.toNatClampNeg (.long x))) H1 → va_S (fun q => b.1 ≤ q) H0 H1 locs1 → W p l e R s m args below meth c H1 locs1 cells slots Q (F0 m (pc + 1) ls (r.map (mn_tr b)))) : W p l e R s m args below meth c H locs cells slots Q (F0 m pc ls ((.long x :: .int i :: .ref a :: r).map (mn_tr b))) := by
  obtain ⟨hz, ws, hP, hD, hm⟩ := hR
  have hlt : i.toNatClampNeg < vs.length := by
    rcases Nat.lt_or_ge i.toNatClampNeg vs.length with h | h
    · exact h
    · exact absurd (Or.inr h) hi
  obtain ⟨q0, hq⟩ := mn_wat hm ha (by simp)
  have hset := mn_set_mem hD hm hq (c' := (53, vs.set i.toNatClampNeg (.long x))) (by simp)
  rw [mn_E53] at hq
  rw [mn_E53, ← mn_updL hlt, List.length_set] at hset
  exact va_last hx hb hK hP hD (mn_S_at hS) q0 3 hq rfl hi hd (fun H1 locs1 p1 d1 s1 => kk H1 locs1 ⟨by rw [List.length_set]; exact Nat.le_trans hz s1.1, _, p1, d1, hset⟩ (mn_S_tr hS s1))
theorem mn_aast_ok (hx : p.tables.exec = Jvm.exec) (hb : c.code = cc) (hK : va_K D cl (mn_tys aC E4 E5) s) (hR : mn_R D cl aC b hs H) {H0 : Heap} (hS : va_S (fun q => b.1 ≤ q) H0 H locs) {a v k tv : Nat} {i : Int32} {vs vv : List Value} (hk : 4 ≤ k ∧ k < 6) (ha : hs[a]? = some (50 + k, vs)) (hv : hs[v]? = some (tv, vv)) (htv : tv < 50) (hi : ¬ (i < 0 ∨ vs.length ≤ i.toNatClampNeg))
    {q : vw_C} (hc : cl[tv]? = some q) (hn : (k = 4 → q.1 = E4) ∧ (k = 5 → q.1 = E5)) (hd : decode cc pc = .ok (.aastore, 1))
    (kk : ∀ (H1 : Heap) (locs1 : List Loc), mn_R D cl aC b (hs.set a (50 + k, vs.set i.toNatClampNeg (.ref v))) H1 → va_S (fun q => b.1 ≤ q) H0 H1 locs1 → W p l e R s m args below meth c H1 locs1 cells slots Q (F0 m (pc + 1) ls (r.map (mn_tr b)))) : W p l e R s m args below meth c H locs cells slots Q (F0 m pc ls ((.ref v :: .int i :: .ref a :: r).map (mn_tr b))) := by
  obtain ⟨hz, ws, hP, hD, hm⟩ := hR
  have hlt : i.toNatClampNeg < vs.length := by
    rcases Nat.lt_or_ge i.toNatClampNeg vs.length with h | h
    · exact h
    · exact absurd (Or.inr h) hi
  obtain ⟨q0, hq⟩ := mn_wat hm ha (by simp; omega)
  obtain ⟨qk, hqk⟩ := mn_wat hm hv (by simp; omega)
  have hset := mn_set_mem hD hm hq (c' := (50 + k, vs.set i.toNatClampNeg (.ref v))) (by simp; omega)
  rw [mn_E_r hk.1] at hq
  rw [mn_E_r hk.1, ← mn_updR hlt, List.length_set] at hset
  rw [mn_E_o htv] at hqk
  obtain ⟨C, ht, hC⟩ := mn_tys_r aC E4 E5 hk
  have hCq : C = q.1 := by
    rcases hC with ⟨h1, h2⟩ | ⟨h1, h2⟩
    · rw [h2, hn.1 h1]
    · rw [h2, hn.2 h1]
  rw [hCq] at ht
  exact va_astq hx hb hK hP hD (mn_S_at hS) q0 k qk tv hq ht hqk hc hi hd (fun H1 locs1 p1 d1 s1 => kk H1 locs1 ⟨by rw [List.length_set]; exact Nat.le_trans hz s1.1, _, p1, d1, hset⟩ (mn_S_tr hS s1))
end MND
