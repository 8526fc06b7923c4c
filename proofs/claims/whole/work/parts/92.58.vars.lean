/-! variables by their names -/
/-- the last place below k where the name n stands -/
def lix (nm : Int → Int) (n : Int) : Nat → Int
  | 0 => -1
  | k + 1 => if nm k = n then k else lix nm n k
theorem lix_r (nm : Int → Int) (n : Int) : ∀ k : Nat, -1 ≤ lix nm n k ∧ lix nm n k < k ∧ (0 ≤ lix nm n k → nm (lix nm n k) = n)
  | 0 => ⟨Int.le_refl _, by show (-1 : Int) < ((0 : Nat) : Int); omega, fun h => absurd h (by show ¬ (0 : Int) ≤ -1; omega)⟩
  | k + 1 => by
    have ih := lix_r nm n k
    unfold lix
    by_cases h : nm k = n
    · rw [if_pos h]
      exact ⟨by omega, by omega, fun _ => h⟩
    · rw [if_neg h]
      exact ⟨ih.1, by omega, ih.2.2⟩
theorem lix_no {nm : Int → Int} {n : Int} : ∀ k : Nat, lix nm n k < 0 → ∀ i : Nat, i < k → nm i ≠ n
  | 0, _, i, hi => absurd hi (Nat.not_lt_zero _)
  | k + 1, h, i, hi => by
    unfold lix at h
    by_cases hk : nm k = n
    · rw [if_pos hk] at h
      omega
    · rw [if_neg hk] at h
      by_cases hik : i = k
      · rw [hik]; exact hk
      · exact lix_no k h i (by omega)
theorem lix_c {nm nm' : Int → Int} {n n' : Int} : ∀ k : Nat, (∀ i : Nat, i < k → (nm i = n ↔ nm' i = n')) → lix nm n k = lix nm' n' k
  | 0, _ => rfl
  | k + 1, h => by
    have ih := lix_c k (fun i hi => h i (by omega))
    unfold lix
    by_cases hk : nm k = n
    · rw [if_pos hk, if_pos ((h k (by omega)).mp hk)]
    · rw [if_neg hk, if_neg (fun e => hk ((h k (by omega)).mpr e)), ih]
theorem nmq_inj {n m : Int} (n0 : 0 ≤ n) (n1 : n ≤ 32) (m0 : 0 ≤ m) (m1 : m ≤ 32) : nmq 120 n = nmq 120 m ↔ n = m := by
  unfold nmq
  constructor
  · intro h; omega
  · intro h; rw [h]
theorem g30L23_t {S : St} {n q : Int} (hn : inR n) : ∀ k m : Nat, k ≤ 10 → k < m → g30L23 S n q m ((k : Int) - 1) = some (lix (S.A 10) n k) := by
  intro k
  induction k with
  | zero =>
    intro m _ hm
    obtain ⟨m, rfl⟩ : ∃ q, m = q + 1 := ⟨m - 1, by omega⟩
    unfold g30L23
    refine (gd_t (by first | exact ⟨by omega, by omega⟩ | exact ⟨by omega, by omega, by omega⟩ | exact ⟨by omega, by omega, by omega, by omega⟩ | omega | exact inR_to _ | assumption | decide)).trans ?_
    rw [if_pos (by omega)]
    rfl
  | succ k ih =>
    intro m hk hm
    obtain ⟨m, rfl⟩ : ∃ q, m = q + 1 := ⟨m - 1, by omega⟩
    rw [g30L23]
    refine (gd_t (by first | exact ⟨by omega, by omega⟩ | exact ⟨by omega, by omega, by omega⟩ | exact ⟨by omega, by omega, by omega, by omega⟩ | omega | exact inR_to _ | assumption | decide)).trans ?_
    rw [if_neg (by omega), show ((k + 1 : Nat) : Int) - 1 = k by omega]
    refine (gd_t (by first | exact ⟨by omega, by omega⟩ | exact ⟨by omega, by omega, by omega⟩ | exact ⟨by omega, by omega, by omega, by omega⟩ | omega | exact inR_to _ | assumption | decide)).trans ?_
    refine (gd_t hn).trans ?_
    unfold lix
    by_cases h : S.A 10 k = n
    · rw [if_pos h, if_pos h]
    · rw [if_neg h, if_neg h]
      exact ih m (by omega) (by omega)
/-- the number that the second object finds for a name -/
def lv (a b : Int → Int) (n : Int) (k : Nat) : Int := if lix a n k < 0 then -1 else b (lix a n k)
theorem g108L15_t {T : St} {v1 n : Int} (hn : inR n) {K : Nat} (hK : T.F 36 30 = K) (h50 : K ≤ 50) : ∀ r m i : Nat, i + r = K → r < m → g108L15 T v1 n m (lv (T.A 50) (T.A 51) n i) i = some (lv (T.A 50) (T.A 51) n K) := by
  intro r
  induction r with
  | zero =>
    intro m i hi hm
    obtain ⟨m, rfl⟩ : ∃ q, m = q + 1 := ⟨m - 1, by omega⟩
    unfold g108L15
    refine (gd_t (by first | exact ⟨by omega, by omega⟩ | exact ⟨by omega, by omega, by omega⟩ | exact ⟨by omega, by omega, by omega, by omega⟩ | omega | exact inR_to _ | assumption | decide)).trans ?_
    rw [hK, if_neg (by omega), show i = K by omega]
  | succ r ih =>
    intro m i hi hm
    obtain ⟨m, rfl⟩ : ∃ q, m = q + 1 := ⟨m - 1, by omega⟩
    have := ih m (i + 1) (by omega) (by omega)
    rw [g108L15]
    refine (gd_t (by first | exact ⟨by omega, by omega⟩ | exact ⟨by omega, by omega, by omega⟩ | exact ⟨by omega, by omega, by omega, by omega⟩ | omega | exact inR_to _ | assumption | decide)).trans ?_
    rw [hK, if_pos (by omega)]
    refine (gd_t (by first | exact ⟨by omega, by omega⟩ | exact ⟨by omega, by omega, by omega⟩ | exact ⟨by omega, by omega, by omega, by omega⟩ | omega | exact inR_to _ | assumption | decide)).trans ?_
    refine (gd_t hn).trans ?_
    by_cases h : T.A 50 i = n
    · rw [if_pos h]
      have e : lv (T.A 50) (T.A 51) n (i + 1) = T.A 51 i := by
        unfold lv lix
        rw [if_pos h, if_neg (by omega)]
      rw [e] at this
      exact this
    · rw [if_neg h]
      have e : lv (T.A 50) (T.A 51) n (i + 1) = lv (T.A 50) (T.A 51) n i := by
        unfold lv
        have : lix (T.A 50) n (i + 1) = lix (T.A 50) n i := if_neg h
        rw [this]
      rw [e] at this
      exact this
/-! in a clause: every name is a variable -/
def vrC : Vr := fun N n => some ([n * 256], if lix (gI N) n N.length < 0 then N.length else lix (gI N) n N.length, if lix (gI N) n N.length < 0 then N ++ [n] else N)
def ECc (S : St) : Prop := S.F 1 5 = 1
theorem HV_c {tx : Int → Int} {len : Int} (hQ : QX tx len) : HV tx len vrC ECc := by
  intro S n q p N W h hE n0 n1 q0 q1 hb
  show ∃ S', g30 S n q = some S' ∧ RC tx len S' p (W ++ [n * 256]) ∧ FT S S'
  obtain ⟨S1, t1, t2, t3⟩ := g26_t (x := n * 256) hQ h ⟨by omega, by omega⟩ (by omega)
  refine ⟨S1, ?_, t2, t3⟩
  have hE : S.F 1 5 = 1 := hE
  unfold g30
  rw [if_neg (by rw [hE]; decide), t1]
  rfl
theorem pigeon : ∀ (m : Nat) (N : List Int), N.Nodup → (∀ x ∈ N, 0 ≤ x ∧ x < m) → N.length ≤ m := by
  intro m
  induction m with
  | zero =>
    intro N _ h
    match N, h with
    | [], _ => exact Nat.le_refl _
    | x :: N, h =>
      have := h x (List.mem_cons.mpr (Or.inl rfl))
      omega
  | succ m ih =>
    intro N hN h
    by_cases hm : (m : Int) ∈ N
    · have h1 := ih (N.erase m) (hN.erase _) (fun x hx => by
        have hx2 := (hN.mem_erase_iff).mp hx
        have := h x hx2.2
        have := hx2.1
        omega)
      have h2 := List.length_erase_of_mem hm
      omega
    · have h1 := ih N hN (fun x hx => by
        have := h x hx
        have hne : x ≠ m := fun e => hm (e ▸ hx)
        omega)
      omega
def EMc (T : St) (N : List Int) : Prop := T.F 36 29 = 1 ∧ T.F 36 30 = N.length ∧ T.F 36 34 = N.length ∧ N.Nodup ∧ (∀ x ∈ N, 0 ≤ x ∧ x ≤ 32) ∧ ∀ i : Nat, i < N.length → T.A 50 i = nmq 120 (gI N i) ∧ T.A 51 i = i
theorem HEM_c : HEM EMc := by
  intro T T' N hA hF h
  unfold EMc at h ⊢
  rw [hA.1, hA.2.1, hF.1, hF.2.1, hF.2.2]
  exact h
theorem HVm_c {tx : Int → Int} {len : Int} (hQ : QX tx len) : HVm tx len vrC EMc := by
  intro T pos n p N h hE hn
  have l160 := hQ.2.1
  have a5 := h.2.2.2.2.1
  have a8 := h.2.2.2.2.2.2.2
  have np := nmr_p hQ a5 (by decide) hn
  obtain ⟨T1, t1, t2, t3⟩ := g109_t hQ h (by decide) hn
  have hE1 : EMc T1 N := HEM_c.p t3 hE
  obtain ⟨m1, m2, m3, m4, m5, m6⟩ := hE1
  have hN33 := pigeon 33 N m4 (fun x hx => by have := m5 x hx; omega)
  have f22 : T1.F 36 22 = T.F 36 22 := t3.2.2 22 (by decide)
  have iname : inR (nmq 120 n) := by unfold nmq; exact ⟨by omega, by omega⟩
  have eli : lix (T1.A 50) (nmq 120 n) N.length = lix (gI N) n N.length := lix_c _ (fun i hi => by
    rw [(m6 i hi).1]
    have := m5 _ (gI_mem (L := N) (i := (i : Int)) (by omega) (by omega))
    exact nmq_inj this.1 this.2 (by omega) (by omega))
  have lr := lix_r (gI N) n N.length
  have el : g108L15 T1 (T.F 36 27) (nmq 120 n) FU (-1) 0 = some (lv (T1.A 50) (T1.A 51) (nmq 120 n) N.length) := by
    have := g108L15_t (T := T1) (v1 := T.F 36 27) (n := nmq 120 n) iname (K := N.length) m2 (by omega) N.length FU 0 (by omega) (FU_gt (by omega))
    exact this
  have e0 : g108 T = ob (some (lv (T1.A 50) (T1.A 51) (nmq 120 n) N.length)) (fun o8 => gd (inR o8) (if o8 < 0 then if (T1.F 36 29) = 0 then some ((T1.f 36 28 1).f 36 27 (T.F 36 27)) else ob (g110 T1 (nmq 120 n)) (fun o15 => ob (g105 o15.2 o15.1) (fun o17 => some o17)) else ob (g105 T1 o8) (fun o19 => some o19))) := by
    unfold g108
    rw [t1]
    refine (ob_t rfl).trans ?_
    rw [el]
  show ∃ T', g108 T = some T' ∧ RM tx len T' p ∧ T'.F 36 22 = T.F 36 22 + 1 ∧ T'.A 46 = lay (T.A 46) (T.F 36 22) [if lix (gI N) n N.length < 0 then (N.length : Int) else lix (gI N) n N.length] ∧ EMc T' (if lix (gI N) n N.length < 0 then N ++ [n] else N) ∧ FTM T T' ∧ T'.A 53 = T.A 53
  by_cases hl : lix (gI N) n N.length < 0
  · have hno := lix_no _ hl
    have hnm : n ∉ N := fun hx => by
      obtain ⟨i, i0, i1, e⟩ := mem_gI hx
      exact hno i.toNat (by omega) (by rw [show (i.toNat : Int) = i by omega]; exact e)
    have hN' : (N ++ [n]).Nodup := by
      rw [List.nodup_append]
      exact ⟨m4, List.nodup_cons.mpr ⟨List.not_mem_nil, List.nodup_nil⟩, fun a ha b hb => by
        rw [List.mem_singleton.mp hb]
        exact fun e => hnm (e ▸ ha)⟩
    have hN32 : N.length + 1 ≤ 33 := by
      have := pigeon 33 (N ++ [n]) hN' (fun x hx => by
        rcases List.mem_append.mp hx with hx | hx
        · have := m5 x hx; omega
        · rw [List.mem_singleton.mp hx]; omega)
      rw [List.length_append] at this
      exact this
    rw [if_pos hl, if_pos hl]
    have elv : lv (T1.A 50) (T1.A 51) (nmq 120 n) N.length = -1 := by
      unfold lv
      rw [eli, if_pos hl]
    have iN : inR (N.length : Int) := ⟨by omega, by omega⟩
    have iN1 : inR ((N.length : Int) + 1) := ⟨by omega, by omega⟩
    have e110 : g110 T1 (nmq 120 n) = some ((N.length : Int), ((((T1.a 50 N.length (nmq 120 n)).a 51 N.length N.length).a 52 N.length 0).f 36 30 ((N.length : Int) + 1)).f 36 34 ((N.length : Int) + 1)) := by
      unfold g110
      rw [m2, m3]
      refine (gd_t (by first | exact ⟨by omega, by omega⟩ | exact ⟨by omega, by omega, by omega⟩ | exact ⟨by omega, by omega, by omega, by omega⟩ | omega | exact inR_to _ | assumption | decide)).trans ?_
      rw [show (N.length : Int) + 1 - 1 = N.length by omega]
    have eF : ∀ i, i ≠ 30 → i ≠ 34 → (((((T1.a 50 N.length (nmq 120 n)).a 51 N.length N.length).a 52 N.length 0).f 36 30 ((N.length : Int) + 1)).f 36 34 ((N.length : Int) + 1)).F 36 i = T1.F 36 i := fun i h1 h2 => by rw [f_F iN1, if_pos rfl, if_neg h2, f_F iN1, if_pos rfl, if_neg h1, a_F, a_F, a_F]
    have e30 : (((((T1.a 50 N.length (nmq 120 n)).a 51 N.length N.length).a 52 N.length 0).f 36 30 ((N.length : Int) + 1)).f 36 34 ((N.length : Int) + 1)).F 36 30 = N.length + 1 := by rw [f_F iN1, if_pos rfl, if_neg (by decide), f_F iN1, if_pos rfl, if_pos rfl]
    have e34 : (((((T1.a 50 N.length (nmq 120 n)).a 51 N.length N.length).a 52 N.length 0).f 36 30 ((N.length : Int) + 1)).f 36 34 ((N.length : Int) + 1)).F 36 34 = N.length + 1 := by rw [f_F iN1, if_pos rfl, if_pos rfl]
    have eA : ∀ c, c ∉ [50, 51, 52] → (((((T1.a 50 N.length (nmq 120 n)).a 51 N.length N.length).a 52 N.length 0).f 36 30 ((N.length : Int) + 1)).f 36 34 ((N.length : Int) + 1)).A c = T1.A c := fun c hc => by
      rw [f_A, f_A, aA_ne (fun e => hc (by rw [e]; decide)), aA_ne (fun e => hc (by rw [e]; decide)), aA_ne (fun e => hc (by rw [e]; decide))]
    have e50 : (((((T1.a 50 N.length (nmq 120 n)).a 51 N.length N.length).a 52 N.length 0).f 36 30 ((N.length : Int) + 1)).f 36 34 ((N.length : Int) + 1)).A 50 = upI (T1.A 50) N.length (nmq 120 n) := by rw [f_A, f_A, aA_ne (by decide), aA_ne (by decide), aA_up iname]
    have e51 : (((((T1.a 50 N.length (nmq 120 n)).a 51 N.length N.length).a 52 N.length 0).f 36 30 ((N.length : Int) + 1)).f 36 34 ((N.length : Int) + 1)).A 51 = upI (T1.A 51) N.length N.length := by rw [f_A, f_A, aA_ne (by decide), aA_up iN, aA_ne (by decide)]
    have fM : FTM T1 (((((T1.a 50 N.length (nmq 120 n)).a 51 N.length N.length).a 52 N.length 0).f 36 30 ((N.length : Int) + 1)).f 36 34 ((N.length : Int) + 1)) := ((a_FTM _ (by decide) _ _).trans ((a_FTM _ (by decide) _ _).trans (a_FTM _ (by decide) _ _))).trans ((f_FTM _ (by decide) _).trans (f_FTM _ (by decide) _))
    generalize ((((T1.a 50 N.length (nmq 120 n)).a 51 N.length N.length).a 52 N.length 0).f 36 30 ((N.length : Int) + 1)).f 36 34 ((N.length : Int) + 1) = T2 at *
    have h2 : RM tx len T2 p := ⟨by rw [eF 2 (by decide) (by decide)]; exact t2.1, by rw [eF 27 (by decide) (by decide)]; exact t2.2.1, by rw [eF 28 (by decide) (by decide)]; exact t2.2.2.1, by rw [eA 37 (by decide)]; exact t2.2.2.2.1, t2.2.2.2.2.1, t2.2.2.2.2.2.1, by rw [eF 22 (by decide) (by decide)]; exact t2.2.2.2.2.2.2.1, by rw [eF 22 (by decide) (by decide)]; exact t2.2.2.2.2.2.2.2⟩
    have f22' : T2.F 36 22 = T.F 36 22 := (eF 22 (by decide) (by decide)).trans f22
    obtain ⟨T3, u1, u2, u3, u4, u5, u6, u7⟩ := g105_t (c := (N.length : Int)) h2 iN (by rw [f22']; omega) l160
    refine ⟨T3, ?_, u2, u3.trans (by rw [f22']), ?_, ⟨?_, ?_, ?_, hN', ?_, fun i hi => ?_⟩, t3.2.1.trans (fM.trans u5), ?_⟩
    · rw [e0, elv]
      refine (ob_t rfl).trans ?_
      refine (gd_t (by first | exact ⟨by omega, by omega⟩ | exact ⟨by omega, by omega, by omega⟩ | exact ⟨by omega, by omega, by omega, by omega⟩ | omega | exact inR_to _ | assumption | decide)).trans ?_
      rw [if_pos (by decide), if_neg (by rw [m1]; decide), e110]
      refine (ob_t rfl).trans ?_
      rw [u1]
      rfl
    · rw [u4, f22', eA 46 (by decide), t3.1]
    · rw [u7 29 (by decide), eF 29 (by decide) (by decide)]; exact m1
    · rw [u7 30 (by decide), e30, List.length_append]; rfl
    · rw [u7 34 (by decide), e34, List.length_append]; rfl
    · intro x hx
      rcases List.mem_append.mp hx with hx | hx
      · exact m5 x hx
      · rw [List.mem_singleton.mp hx]; omega
    · rw [u6 50 (by decide), u6 51 (by decide), e50, e51]
      by_cases hi2 : i = N.length
      · rw [hi2, upI_e, upI_e, gI_r (Int.le_refl _), Int.sub_self]
        exact ⟨rfl, rfl⟩
      · have hi3 : i < N.length := by
          rw [List.length_append] at hi
          have hi : i < N.length + 1 := hi
          omega
        rw [upI_n (by omega), upI_n (by omega), gI_l (by omega) (by omega)]
        exact m6 i hi3
    · rw [u6 53 (by decide), eA 53 (by decide), t3.1]
  · rw [if_neg hl, if_neg hl]
    have elv : lv (T1.A 50) (T1.A 51) (nmq 120 n) N.length = lix (gI N) n N.length := by
      unfold lv
      rw [eli, if_neg hl]
      have := (m6 (lix (gI N) n N.length).toNat (by omega)).2
      rw [show ((lix (gI N) n N.length).toNat : Int) = lix (gI N) n N.length by omega] at this
      exact this
    have iN : inR (lix (gI N) n N.length) := ⟨by omega, by omega⟩
    obtain ⟨T3, u1, u2, u3, u4, u5, u6, u7⟩ := g105_t (c := lix (gI N) n N.length) t2 iN (by rw [f22]; omega) l160
    refine ⟨T3, ?_, u2, u3.trans (by rw [f22]), ?_, HEM_c T1 T3 N ⟨u6 50 (by decide), u6 51 (by decide), u6 52 (by decide)⟩ ⟨u7 29 (by decide), u7 30 (by decide), u7 34 (by decide)⟩ ⟨m1, m2, m3, m4, m5, m6⟩, t3.2.1.trans u5, ?_⟩
    · rw [e0, elv]
      refine (ob_t rfl).trans ?_
      refine (gd_t (by first | exact ⟨by omega, by omega⟩ | exact ⟨by omega, by omega, by omega⟩ | exact ⟨by omega, by omega, by omega, by omega⟩ | omega | exact inR_to _ | assumption | decide)).trans ?_
      rw [if_neg hl, u1]
      rfl
    · rw [u4, f22, t3.1]
    · rw [u6 53 (by decide), t3.1]
