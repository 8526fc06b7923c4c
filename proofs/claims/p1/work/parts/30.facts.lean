/-- a class of ours, as the tables have it -/
def mt_CF (ci : Nat) (C : String) (T : u_T) (N : Nat) (ty : Nat → FieldType) : Prop :=
  mt_cl[ci]? = some (C, T, N) ∧ (∀ w ∈ u_ws C T N, w ∈ mt_WT) ∧ (∀ k, k < N → parseFieldDescriptor (T k).2.2.1 = some (ty k)) ∧ (∀ x, x < N → ∀ y, y < N → x ≠ y → (T x).2.1 ≠ (T y).2.1) ∧
  (∀ k, k < N → mt_ft ci k = mn_kd (ty k)) ∧ (∀ k, k < N → mn_kd (ty k) < 9) ∧ (∀ k, k < N → mt_fi ci k = (T k).2.2.2) ∧ (∀ k, k < N → (T k).1 = C) ∧ (mt_df ci).length = N ∧ (∀ k, k < N → defaultValue (ty k) = vp_V (mt_df ci) k) ∧ (∀ v ∈ mt_df ci, v = .int 0 ∨ v = .null) ∧
  Cond.instantiable C N ∈ mt_WT ∧ Cond.initialized C ∈ mt_WT
theorem mt_sub {ws : List Cond} (ps : List Nat) (h : ws = ps.filterMap (fun i => tables_1[i]?)) (ho : ws.all mt_okw = true) : ∀ w ∈ ws, w ∈ mt_WT := by
  intro w hw
  have h1 := List.all_eq_true.mp ho w hw
  rw [h] at hw
  obtain ⟨i, -, hi⟩ := List.mem_filterMap.mp hw
  exact mt_in_of i hi h1
set_option maxRecDepth 100000 in
theorem mt_c0 : mt_CF 0 "RefutationDesk" mt_T0 7 mt_y0 := ⟨rfl, mt_sub [288, 290, 292, 294, 296, 298, 300] (by decide +kernel) (by decide +kernel), by decide +kernel, by decide +kernel, by decide +kernel, by decide +kernel, by decide +kernel, by decide +kernel, by decide +kernel, by decide +kernel, by decide +kernel, mt_in_of 22 (by decide +kernel) (by decide +kernel), mt_in_of 1 (by decide +kernel) (by decide +kernel)⟩
set_option maxRecDepth 100000 in
theorem mt_c1 : mt_CF 1 "RefutationDesk$Reader" mt_T1 13 mt_y1 := ⟨rfl, mt_sub [89, 91, 93, 95, 97, 99, 101, 103, 105, 107, 109, 111, 113] (by decide +kernel) (by decide +kernel), by decide +kernel, by decide +kernel, by decide +kernel, by decide +kernel, by decide +kernel, by decide +kernel, by decide +kernel, by decide +kernel, by decide +kernel, mt_in_of 30 (by decide +kernel) (by decide +kernel), mt_in_of 2 (by decide +kernel) (by decide +kernel)⟩
set_option maxRecDepth 100000 in
theorem mt_c2 : mt_CF 2 "RefutationDesk$Tree" mt_T2 8 mt_y2 := ⟨rfl, mt_sub [52, 54, 56, 58, 60, 62, 64, 66] (by decide +kernel) (by decide +kernel), by decide +kernel, by decide +kernel, by decide +kernel, by decide +kernel, by decide +kernel, by decide +kernel, by decide +kernel, by decide +kernel, by decide +kernel, mt_in_of 36 (by decide +kernel) (by decide +kernel), mt_in_of 3 (by decide +kernel) (by decide +kernel)⟩
set_option maxRecDepth 100000 in
theorem mt_c3 : mt_CF 3 "RefutationDesk$Search" mt_T3 13 mt_y3 := ⟨rfl, mt_sub [234, 236, 238, 240, 242, 244, 246, 248, 250, 252, 254, 256, 258] (by decide +kernel) (by decide +kernel), by decide +kernel, by decide +kernel, by decide +kernel, by decide +kernel, by decide +kernel, by decide +kernel, by decide +kernel, by decide +kernel, by decide +kernel, mt_in_of 117 (by decide +kernel) (by decide +kernel), mt_in_of 4 (by decide +kernel) (by decide +kernel)⟩
set_option maxRecDepth 100000 in
theorem mt_c4 : mt_CF 4 "RefutationDesk$Draft" mt_T4 4 mt_y4 := ⟨rfl, mt_sub [174, 176, 178, 180] (by decide +kernel) (by decide +kernel), by decide +kernel, by decide +kernel, by decide +kernel, by decide +kernel, by decide +kernel, by decide +kernel, by decide +kernel, by decide +kernel, by decide +kernel, mt_in_of 125 (by decide +kernel) (by decide +kernel), mt_in_of 5 (by decide +kernel) (by decide +kernel)⟩
set_option maxRecDepth 100000 in
theorem mt_c5 : mt_CF 5 "RefutationDesk$Clause" mt_T5 4 mt_y5 := ⟨rfl, mt_sub [157, 159, 161, 163] (by decide +kernel) (by decide +kernel), by decide +kernel, by decide +kernel, by decide +kernel, by decide +kernel, by decide +kernel, by decide +kernel, by decide +kernel, by decide +kernel, by decide +kernel, mt_in_of 131 (by decide +kernel) (by decide +kernel), mt_in_of 6 (by decide +kernel) (by decide +kernel)⟩
set_option maxRecDepth 100000 in
theorem mt_c6 : mt_CF 6 "RefutationDesk$Unifier" mt_T6 2 mt_y6 := ⟨rfl, mt_sub [191, 193] (by decide +kernel) (by decide +kernel), by decide +kernel, by decide +kernel, by decide +kernel, by decide +kernel, by decide +kernel, by decide +kernel, by decide +kernel, by decide +kernel, by decide +kernel, mt_in_of 184 (by decide +kernel) (by decide +kernel), mt_in_of 7 (by decide +kernel) (by decide +kernel)⟩
set_option maxRecDepth 100000 in
theorem mt_c7 : mt_CF 7 "RefutationDesk$Matcher" mt_T7 3 mt_y7 := ⟨rfl, mt_sub [205, 207, 209] (by decide +kernel) (by decide +kernel), by decide +kernel, by decide +kernel, by decide +kernel, by decide +kernel, by decide +kernel, by decide +kernel, by decide +kernel, by decide +kernel, by decide +kernel, mt_in_of 197 (by decide +kernel) (by decide +kernel), mt_in_of 8 (by decide +kernel) (by decide +kernel)⟩
set_option maxRecDepth 100000 in
theorem mt_c8 : mt_CF 8 "RefutationDesk$Printer" mt_T8 2 mt_y8 := ⟨rfl, mt_sub [272, 274] (by decide +kernel) (by decide +kernel), by decide +kernel, by decide +kernel, by decide +kernel, by decide +kernel, by decide +kernel, by decide +kernel, by decide +kernel, by decide +kernel, by decide +kernel, mt_in_of 263 (by decide +kernel) (by decide +kernel), mt_in_of 9 (by decide +kernel) (by decide +kernel)⟩
set_option maxRecDepth 100000 in
theorem mt_c9 : mt_CF 9 "RefutationDesk$Kept" mt_T9 7 mt_y9 := ⟨rfl, mt_sub [640, 642, 644, 646, 648, 650, 652] (by decide +kernel) (by decide +kernel), by decide +kernel, by decide +kernel, by decide +kernel, by decide +kernel, by decide +kernel, by decide +kernel, by decide +kernel, by decide +kernel, by decide +kernel, mt_in_of 610 (by decide +kernel) (by decide +kernel), mt_in_of 18 (by decide +kernel) (by decide +kernel)⟩
set_option maxRecDepth 100000 in
theorem mt_c10 : mt_CF 10 "RefutationDeskModel" mt_T10 59 mt_y10 := ⟨rfl, mt_sub [911, 913, 915, 917, 919, 921, 923, 925, 927, 929, 931, 933, 935, 937, 939, 941, 943, 945, 947, 949, 951, 953, 955, 957, 959, 961, 963, 965, 967, 969, 971, 973, 975, 977, 979, 981, 983, 985, 987, 989, 991, 993, 995, 997, 999, 1001, 1003, 1005, 1007, 1009, 1011, 1013, 1015, 1017, 1019, 1021, 1023, 1025, 1027] (by decide +kernel) (by decide +kernel), by decide +kernel, by decide +kernel, by decide +kernel, by decide +kernel, by decide +kernel, by decide +kernel, by decide +kernel, by decide +kernel, by decide +kernel, mt_in_of 847 (by decide +kernel) (by decide +kernel), mt_in_of 10 (by decide +kernel) (by decide +kernel)⟩
theorem mt_cf : ∀ ci, ci < 11 → ∃ (C : String) (T : u_T) (N : Nat) (ty : Nat → FieldType), mt_CF ci C T N ty
  | 0, _ => ⟨_, _, _, _, mt_c0⟩
  | 1, _ => ⟨_, _, _, _, mt_c1⟩
  | 2, _ => ⟨_, _, _, _, mt_c2⟩
  | 3, _ => ⟨_, _, _, _, mt_c3⟩
  | 4, _ => ⟨_, _, _, _, mt_c4⟩
  | 5, _ => ⟨_, _, _, _, mt_c5⟩
  | 6, _ => ⟨_, _, _, _, mt_c6⟩
  | 7, _ => ⟨_, _, _, _, mt_c7⟩
  | 8, _ => ⟨_, _, _, _, mt_c8⟩
  | 9, _ => ⟨_, _, _, _, mt_c9⟩
  | 10, _ => ⟨_, _, _, _, mt_c10⟩
  | n + 11, h => absurd h (by omega)
/-- the word that a place of the pool stands on -/
def mt_word (c i : Nat) (K : mn_K) : Cond := match K with
  | (1, ci, k, _, _) => .fieldLink (mt_cns.getD c "") i ((mt_cl.getD ci ("", mt_T0, 0)).2.1 k).1 ((mt_cl.getD ci ("", mt_T0, 0)).2.1 k).2.1 ((mt_cl.getD ci ("", mt_T0, 0)).2.1 k).2.2.1
  | (2, ci, _, _, _) => .classLink (mt_cns.getD c "") i (mt_cl.getD ci ("", mt_T0, 0)).1
  | (3, k, _, _, _) => .classLink (mt_cns.getD c "") i (mt_ex.getD k "")
  | (5, _, _, _, z) => .constant (mt_cns.getD c "") i (Int32.ofInt z)
  | (6, _, _, _, z) => .constantLong (mt_cns.getD c "") i (Int64.ofInt z)
  | (10, _, _, _, _) => .methodLink (mt_cns.getD c "") i Lib.objectInit
  | (11, _, _, _, _) => .methodLink (mt_cns.getD c "") i arraycopyName
  | (12, _, _, _, _) => .methodLink (mt_cns.getD c "") i Lib.Math.max.name
  | (13, _, _, _, _) => .methodLink (mt_cns.getD c "") i Lib.Math.min.name
  | (_, j, _, nn, _) => if nn = 0 then .methodLink (mt_cns.getD c "") i (mt_y j) else .methodLinkNest (mt_cns.getD c "") i (mt_y j) "RefutationDesk"
/-- and what else it must be -/
def mt_else (c : Nat) (K : mn_K) : Bool := match K with
  | (1, ci, k, _, _) => decide (ci < 11) && decide (k < (mt_cl.getD ci ("", mt_T0, 0)).2.2)
  | (2, ci, k, _, _) => decide (ci < 11) && (decide (k ≠ 4) || decide ((mt_cl.getD ci ("", mt_T0, 0)).1 = mt_E4)) && (decide (k ≠ 5) || decide ((mt_cl.getD ci ("", mt_T0, 0)).1 = mt_E5))
  | (7, j, _, nn, _) => decide (j < 172) && (decide (mt_hl j = []) || decide (nn = 0))
  | (8, j, ci, nn, _) => decide (j < 172) && decide (ci < 11) && decide ((mt_cl.getD ci ("", mt_T0, 0)).1 = (mt_y j).cls) && decide (mt_hl j = []) && (decide (c ≠ 11) || decide (nn = 0))
  | (9, j, _, _, _) => decide (j < 172) && decide (mt_hl j = []) && decide (mt_rt j = none)
  | (3, k, _, _, _) => decide (k < 4) && decide (c = 0)
  | _ => true
def mt_ck (c : Nat) (q : Nat × mn_K × Nat) : Bool := mt_row q.2.2 (mt_word c q.1 q.2.1) && mt_else c q.2.1
set_option maxRecDepth 100000 in
theorem mt_k0_0 : ((mt_pl0.drop 0).take 20).all (mt_ck 0) = true := by decide +kernel
set_option maxRecDepth 100000 in
theorem mt_k0_1 : ((mt_pl0.drop 20).take 20).all (mt_ck 0) = true := by decide +kernel
set_option maxRecDepth 100000 in
theorem mt_k0_2 : ((mt_pl0.drop 40).take 20).all (mt_ck 0) = true := by decide +kernel
set_option maxRecDepth 100000 in
theorem mt_k0_3 : ((mt_pl0.drop 60).take 20).all (mt_ck 0) = true := by decide +kernel
theorem mt_k0 : ∀ q ∈ mt_pl0, mt_ck 0 q = true := by
  intro q hq
  have h : mt_pl0 = (mt_pl0.drop 0).take 20 ++ (mt_pl0.drop 20).take 20 ++ (mt_pl0.drop 40).take 20 ++ (mt_pl0.drop 60).take 20 := rfl
  rw [h] at hq
  simp only [List.mem_append] at hq
  rcases hq with (((h0) | h1) | h2) | h3
  · exact List.all_eq_true.mp mt_k0_0 q h0
  · exact List.all_eq_true.mp mt_k0_1 q h1
  · exact List.all_eq_true.mp mt_k0_2 q h2
  · exact List.all_eq_true.mp mt_k0_3 q h3
set_option maxRecDepth 100000 in
theorem mt_k1_0 : ((mt_pl1.drop 0).take 20).all (mt_ck 1) = true := by decide +kernel
set_option maxRecDepth 100000 in
theorem mt_k1_1 : ((mt_pl1.drop 20).take 20).all (mt_ck 1) = true := by decide +kernel
theorem mt_k1 : ∀ q ∈ mt_pl1, mt_ck 1 q = true := by
  intro q hq
  have h : mt_pl1 = (mt_pl1.drop 0).take 20 ++ (mt_pl1.drop 20).take 20 := rfl
  rw [h] at hq
  simp only [List.mem_append] at hq
  rcases hq with (h0) | h1
  · exact List.all_eq_true.mp mt_k1_0 q h0
  · exact List.all_eq_true.mp mt_k1_1 q h1
set_option maxRecDepth 100000 in
theorem mt_k2_0 : ((mt_pl2.drop 0).take 20).all (mt_ck 2) = true := by decide +kernel
theorem mt_k2 : ∀ q ∈ mt_pl2, mt_ck 2 q = true := by
  intro q hq
  have h : mt_pl2 = (mt_pl2.drop 0).take 20 := rfl
  rw [h] at hq
  exact List.all_eq_true.mp mt_k2_0 q hq
set_option maxRecDepth 100000 in
theorem mt_k3_0 : ((mt_pl3.drop 0).take 20).all (mt_ck 3) = true := by decide +kernel
set_option maxRecDepth 100000 in
theorem mt_k3_1 : ((mt_pl3.drop 20).take 20).all (mt_ck 3) = true := by decide +kernel
set_option maxRecDepth 100000 in
theorem mt_k3_2 : ((mt_pl3.drop 40).take 20).all (mt_ck 3) = true := by decide +kernel
theorem mt_k3 : ∀ q ∈ mt_pl3, mt_ck 3 q = true := by
  intro q hq
  have h : mt_pl3 = (mt_pl3.drop 0).take 20 ++ (mt_pl3.drop 20).take 20 ++ (mt_pl3.drop 40).take 20 := rfl
  rw [h] at hq
  simp only [List.mem_append] at hq
  rcases hq with ((h0) | h1) | h2
  · exact List.all_eq_true.mp mt_k3_0 q h0
  · exact List.all_eq_true.mp mt_k3_1 q h1
  · exact List.all_eq_true.mp mt_k3_2 q h2
set_option maxRecDepth 100000 in
theorem mt_k4_0 : ((mt_pl4.drop 0).take 20).all (mt_ck 4) = true := by decide +kernel
theorem mt_k4 : ∀ q ∈ mt_pl4, mt_ck 4 q = true := by
  intro q hq
  have h : mt_pl4 = (mt_pl4.drop 0).take 20 := rfl
  rw [h] at hq
  exact List.all_eq_true.mp mt_k4_0 q hq
set_option maxRecDepth 100000 in
theorem mt_k5_0 : ((mt_pl5.drop 0).take 20).all (mt_ck 5) = true := by decide +kernel
theorem mt_k5 : ∀ q ∈ mt_pl5, mt_ck 5 q = true := by
  intro q hq
  have h : mt_pl5 = (mt_pl5.drop 0).take 20 := rfl
  rw [h] at hq
  exact List.all_eq_true.mp mt_k5_0 q hq
set_option maxRecDepth 100000 in
theorem mt_k6_0 : ((mt_pl6.drop 0).take 20).all (mt_ck 6) = true := by decide +kernel
theorem mt_k6 : ∀ q ∈ mt_pl6, mt_ck 6 q = true := by
  intro q hq
  have h : mt_pl6 = (mt_pl6.drop 0).take 20 := rfl
  rw [h] at hq
  exact List.all_eq_true.mp mt_k6_0 q hq
set_option maxRecDepth 100000 in
theorem mt_k7_0 : ((mt_pl7.drop 0).take 20).all (mt_ck 7) = true := by decide +kernel
theorem mt_k7 : ∀ q ∈ mt_pl7, mt_ck 7 q = true := by
  intro q hq
  have h : mt_pl7 = (mt_pl7.drop 0).take 20 := rfl
  rw [h] at hq
  exact List.all_eq_true.mp mt_k7_0 q hq
set_option maxRecDepth 100000 in
theorem mt_k8_0 : ((mt_pl8.drop 0).take 20).all (mt_ck 8) = true := by decide +kernel
theorem mt_k8 : ∀ q ∈ mt_pl8, mt_ck 8 q = true := by
  intro q hq
  have h : mt_pl8 = (mt_pl8.drop 0).take 20 := rfl
  rw [h] at hq
  exact List.all_eq_true.mp mt_k8_0 q hq
set_option maxRecDepth 100000 in
theorem mt_k9_0 : ((mt_pl9.drop 0).take 20).all (mt_ck 9) = true := by decide +kernel
theorem mt_k9 : ∀ q ∈ mt_pl9, mt_ck 9 q = true := by
  intro q hq
  have h : mt_pl9 = (mt_pl9.drop 0).take 20 := rfl
  rw [h] at hq
  exact List.all_eq_true.mp mt_k9_0 q hq
set_option maxRecDepth 100000 in
theorem mt_k10_0 : ((mt_pl10.drop 0).take 20).all (mt_ck 10) = true := by decide +kernel
set_option maxRecDepth 100000 in
theorem mt_k10_1 : ((mt_pl10.drop 20).take 20).all (mt_ck 10) = true := by decide +kernel
set_option maxRecDepth 100000 in
theorem mt_k10_2 : ((mt_pl10.drop 40).take 20).all (mt_ck 10) = true := by decide +kernel
set_option maxRecDepth 100000 in
theorem mt_k10_3 : ((mt_pl10.drop 60).take 20).all (mt_ck 10) = true := by decide +kernel
set_option maxRecDepth 100000 in
theorem mt_k10_4 : ((mt_pl10.drop 80).take 20).all (mt_ck 10) = true := by decide +kernel
set_option maxRecDepth 100000 in
theorem mt_k10_5 : ((mt_pl10.drop 100).take 20).all (mt_ck 10) = true := by decide +kernel
theorem mt_k10 : ∀ q ∈ mt_pl10, mt_ck 10 q = true := by
  intro q hq
  have h : mt_pl10 = (mt_pl10.drop 0).take 20 ++ (mt_pl10.drop 20).take 20 ++ (mt_pl10.drop 40).take 20 ++ (mt_pl10.drop 60).take 20 ++ (mt_pl10.drop 80).take 20 ++ (mt_pl10.drop 100).take 20 := rfl
  rw [h] at hq
  simp only [List.mem_append] at hq
  rcases hq with (((((h0) | h1) | h2) | h3) | h4) | h5
  · exact List.all_eq_true.mp mt_k10_0 q h0
  · exact List.all_eq_true.mp mt_k10_1 q h1
  · exact List.all_eq_true.mp mt_k10_2 q h2
  · exact List.all_eq_true.mp mt_k10_3 q h3
  · exact List.all_eq_true.mp mt_k10_4 q h4
  · exact List.all_eq_true.mp mt_k10_5 q h5
set_option maxRecDepth 100000 in
theorem mt_k11_0 : ((mt_pl11.drop 0).take 20).all (mt_ck 11) = true := by decide +kernel
set_option maxRecDepth 100000 in
theorem mt_k11_1 : ((mt_pl11.drop 20).take 20).all (mt_ck 11) = true := by decide +kernel
set_option maxRecDepth 100000 in
theorem mt_k11_2 : ((mt_pl11.drop 40).take 20).all (mt_ck 11) = true := by decide +kernel
theorem mt_k11 : ∀ q ∈ mt_pl11, mt_ck 11 q = true := by
  intro q hq
  have h : mt_pl11 = (mt_pl11.drop 0).take 20 ++ (mt_pl11.drop 20).take 20 ++ (mt_pl11.drop 40).take 20 := rfl
  rw [h] at hq
  simp only [List.mem_append] at hq
  rcases hq with ((h0) | h1) | h2
  · exact List.all_eq_true.mp mt_k11_0 q h0
  · exact List.all_eq_true.mp mt_k11_1 q h1
  · exact List.all_eq_true.mp mt_k11_2 q h2
theorem mt_kall : ∀ (c : Nat) (q : Nat × mn_K × Nat), q ∈ mt_pls.getD c [] → mt_ck c q = true
  | 0, q, h => mt_k0 q h
  | 1, q, h => mt_k1 q h
  | 2, q, h => mt_k2 q h
  | 3, q, h => mt_k3 q h
  | 4, q, h => mt_k4 q h
  | 5, q, h => mt_k5 q h
  | 6, q, h => mt_k6 q h
  | 7, q, h => mt_k7 q h
  | 8, q, h => mt_k8 q h
  | 9, q, h => mt_k9 q h
  | 10, q, h => mt_k10 q h
  | 11, q, h => mt_k11 q h
  | n + 12, q, h => by simp [mt_pls] at h
theorem mt_pool_ck {c i : Nat} {K : mn_K} (h : mt_pool c i = K) (h0 : K.1 ≠ 0) : mt_word c i K ∈ mt_WT ∧ mt_else c K = true := by
  unfold mt_pool at h
  split at h
  · next q hq =>
    subst h
    have h1 := mt_kall c q (List.mem_of_find?_eq_some hq)
    have h2 : q.1 = i := by have h9 := List.find?_some hq; simpa using h9
    unfold mt_ck at h1
    rw [Bool.and_eq_true, h2] at h1
    exact ⟨mt_row_in h1.1, h1.2⟩
  · subst h
    exact absurd rfl h0
theorem mt_getD_mem (j : Nat) : mt_m j ∈ mt_ms := by
  unfold mt_m
  rw [List.getD_eq_getElem?_getD]
  cases h : mt_ms[j]? with
  | none => exact List.mem_of_getElem? (i := 0) rfl
  | some x => exact List.mem_of_getElem? h
set_option maxRecDepth 100000 in
theorem mt_mok : mt_ms.all (fun x => decide (x.1.cls = mt_cns.getD x.2.1 "") && plainName x.1.cls && decide (x.1.cls ≠ "java/lang/invoke/MethodHandle") && decide (x.1.cls ≠ "java/lang/invoke/VarHandle") && decide ((parseMethodDescriptor x.1.desc).map (fun d => d.parameters.length) = some x.2.2.2.1) && (!x.2.2.2.2.2 || decide (x.1.name = "<init>"))) = true := by decide +kernel
theorem mt_m_ok (j : Nat) : mt_cn j = mt_cns.getD (mt_ow j) "" ∧ plainName (mt_y j).cls = true ∧ ((mt_y j).cls ≠ "java/lang/invoke/MethodHandle" ∧ (mt_y j).cls ≠ "java/lang/invoke/VarHandle") ∧ (parseMethodDescriptor (mt_y j).desc).map (fun d => d.parameters.length) = some (mt_na j) ∧ (mt_in j = true → (mt_y j).name = "<init>") := by
  have h := List.all_eq_true.mp mt_mok _ (mt_getD_mem j)
  simp only [Bool.and_eq_true, decide_eq_true_eq, Bool.or_eq_true, Bool.not_eq_true'] at h
  obtain ⟨⟨⟨⟨⟨h1, h2⟩, h3⟩, h4⟩, h5⟩, h6⟩ := h
  exact ⟨h1, h2, ⟨h3, h4⟩, h5, fun h9 => h6.resolve_left (by intro h8; unfold mt_in at h9; rw [h8] at h9; cases h9)⟩
