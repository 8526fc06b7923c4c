theorem g116_0 {tx : Int → Int} {len pos v : Int} {T : St} (hQ : QX tx len) (h : RM tx len T pos) (hn : nmr tx 120 122 pos = none) : g116 T v = some (T.f 36 28 1) := by
  have ex := g104_t hQ h (lo := 120) (hi := 122) (by decide) (by decide) (by decide)
  have hx : ¬ (120 ≤ tx pos ∧ tx pos ≤ 122) := fun hh => by
    unfold nmr at hn
    rw [if_pos hh] at hn
    split at hn <;> cases hn
  rw [if_neg hx] at ex
  unfold g116
  rw [ex]
  rfl
/-- a new name is known -/
theorem know_t {tx : Int → Int} {len pos n p : Int} {k : Nat} {nm nu : Int → Int} {T : St} (hQ : QX tx len) (h : RM tx len T pos) (hE : EMf k nm nu T []) (hk : k < 10) (nn0 : 0 ≤ T.F 36 34) (nn1 : T.F 36 34 ≤ 100) (hn : nmr tx 120 122 pos = some (n, p)) : ∃ T1 T2, g109 T = some (nmq 120 n, T1) ∧ g110 T1 (nmq 120 n) = some (T.F 36 34, T2) ∧ RM tx len T2 p ∧ EMf (k + 1) (upI nm k n) (upI nu k (T.F 36 34)) T2 [] ∧ T2.F 36 34 = T.F 36 34 + 1 ∧ T2.F 36 30 = k + 1 ∧ T2.A 52 = upI (T.A 52) k 0 ∧ FTM T T2 ∧ (∀ c, c ∉ [50, 51, 52] → T2.A c = T.A c) ∧ ∀ i, i ∉ [27, 28, 30, 34] → T2.F 36 i = T.F 36 i := by
  have np := nmr_p hQ h.2.2.2.2.1 (by decide) hn
  obtain ⟨T1, t1, t2, t3⟩ := g109_t hQ h (by decide) hn
  have hE1 : EMf k nm nu T1 [] := HEM_f.p t3 hE
  obtain ⟨m1, m2, m3, m4⟩ := hE1
  have f34 : T1.F 36 34 = T.F 36 34 := t3.2.2 34 (by decide)
  have iname : inR (nmq 120 n) := by unfold nmq; exact ⟨by omega, by omega⟩
  have iN : inR (T.F 36 34) := inR_to _
  have ik : inR ((k : Int) + 1) := ⟨by omega, by omega⟩
  have iN1 : inR (T.F 36 34 + 1) := ⟨by omega, by omega⟩
  have e110 : g110 T1 (nmq 120 n) = some (T.F 36 34, ((((T1.a 50 k (nmq 120 n)).a 51 k (T.F 36 34)).a 52 k 0).f 36 30 ((k : Int) + 1)).f 36 34 (T.F 36 34 + 1)) := by
    unfold g110
    rw [m2, f34]
    refine (gd_t (by first | exact ⟨by omega, by omega⟩ | exact ⟨by omega, by omega, by omega⟩ | exact ⟨by omega, by omega, by omega, by omega⟩ | omega | exact inR_to _ | assumption | decide)).trans ?_
    rw [show T.F 36 34 + 1 - 1 = T.F 36 34 by omega]
  have eF : ∀ i, i ≠ 30 → i ≠ 34 → (((((T1.a 50 k (nmq 120 n)).a 51 k (T.F 36 34)).a 52 k 0).f 36 30 ((k : Int) + 1)).f 36 34 (T.F 36 34 + 1)).F 36 i = T1.F 36 i := fun i h1 h2 => by rw [f_F iN1, if_pos rfl, if_neg h2, f_F ik, if_pos rfl, if_neg h1, a_F, a_F, a_F]
  have e30 : (((((T1.a 50 k (nmq 120 n)).a 51 k (T.F 36 34)).a 52 k 0).f 36 30 ((k : Int) + 1)).f 36 34 (T.F 36 34 + 1)).F 36 30 = k + 1 := by rw [f_F iN1, if_pos rfl, if_neg (by decide), f_F ik, if_pos rfl, if_pos rfl]
  have e34 : (((((T1.a 50 k (nmq 120 n)).a 51 k (T.F 36 34)).a 52 k 0).f 36 30 ((k : Int) + 1)).f 36 34 (T.F 36 34 + 1)).F 36 34 = T.F 36 34 + 1 := by rw [f_F iN1, if_pos rfl, if_pos rfl]
  have eA : ∀ c, c ∉ [50, 51, 52] → (((((T1.a 50 k (nmq 120 n)).a 51 k (T.F 36 34)).a 52 k 0).f 36 30 ((k : Int) + 1)).f 36 34 (T.F 36 34 + 1)).A c = T.A c := fun c hc => by
    rw [f_A, f_A, aA_ne (fun e => hc (by rw [e]; decide)), aA_ne (fun e => hc (by rw [e]; decide)), aA_ne (fun e => hc (by rw [e]; decide)), t3.1]
  have e50 : (((((T1.a 50 k (nmq 120 n)).a 51 k (T.F 36 34)).a 52 k 0).f 36 30 ((k : Int) + 1)).f 36 34 (T.F 36 34 + 1)).A 50 = upI (T1.A 50) k (nmq 120 n) := by rw [f_A, f_A, aA_ne (by decide), aA_ne (by decide), aA_up iname]
  have e51 : (((((T1.a 50 k (nmq 120 n)).a 51 k (T.F 36 34)).a 52 k 0).f 36 30 ((k : Int) + 1)).f 36 34 (T.F 36 34 + 1)).A 51 = upI (T1.A 51) k (T.F 36 34) := by rw [f_A, f_A, aA_ne (by decide), aA_up iN, aA_ne (by decide)]
  have e52 : (((((T1.a 50 k (nmq 120 n)).a 51 k (T.F 36 34)).a 52 k 0).f 36 30 ((k : Int) + 1)).f 36 34 (T.F 36 34 + 1)).A 52 = upI (T.A 52) k 0 := by rw [f_A, f_A, aA_up (by decide), aA_ne (by decide), aA_ne (by decide), t3.1]
  have fM : FTM T (((((T1.a 50 k (nmq 120 n)).a 51 k (T.F 36 34)).a 52 k 0).f 36 30 ((k : Int) + 1)).f 36 34 (T.F 36 34 + 1)) := t3.2.1.trans (((a_FTM _ (by decide) _ _).trans ((a_FTM _ (by decide) _ _).trans (a_FTM _ (by decide) _ _))).trans ((f_FTM _ (by decide) _).trans (f_FTM _ (by decide) _)))
  generalize ((((T1.a 50 k (nmq 120 n)).a 51 k (T.F 36 34)).a 52 k 0).f 36 30 ((k : Int) + 1)).f 36 34 (T.F 36 34 + 1) = T2 at *
  have hn32 : 0 ≤ n ∧ n ≤ 32 := ⟨np.2.2.2.1, by omega⟩
  refine ⟨T1, T2, t1, e110, ⟨by rw [eF 2 (by decide) (by decide)]; exact t2.1, by rw [eF 27 (by decide) (by decide)]; exact t2.2.1, by rw [eF 28 (by decide) (by decide)]; exact t2.2.2.1, by rw [eA 37 (by decide)]; exact h.2.2.2.1, t2.2.2.2.2.1, t2.2.2.2.2.2.1, by rw [eF 22 (by decide) (by decide)]; exact t2.2.2.2.2.2.2.1, by rw [eF 22 (by decide) (by decide)]; exact t2.2.2.2.2.2.2.2⟩, ⟨by rw [eF 29 (by decide) (by decide)]; exact m1, by rw [e30]; omega, by omega, fun i i0 i1 => ?_⟩, e34, e30, e52, fM, eA, fun i hi => ?_⟩
  · rw [e50, e51]
    by_cases hi : i = k
    · rw [hi, upI_e, upI_e, upI_e, upI_e]
      exact ⟨rfl, rfl, hn32.1, hn32.2, nn0, by omega⟩
    · rw [upI_n hi, upI_n hi, upI_n hi, upI_n hi]
      exact m4 i i0 (by omega)
  · rw [eF i (fun e => hi (by rw [e]; decide)) (fun e => hi (by rw [e]; decide))]
    exact t3.2.2 i (fun e => hi (by
      have : ∀ d ∈ [27, 28], d ∈ [27, 28, 30, 34] := by decide
      exact this i e))
def qX : List Nat := [46, 47, 50, 51, 52, 53]
def qY : List Nat := [22, 27, 28, 30, 34, 35, 36]
theorem FTM.q {T T' : St} (h : FTM T T') : Fx qX qY T T' := ⟨h.1, h.2.1, h.2.2.1, fun c hc h3 => h.2.2.2.1 c (fun e => by
  have : ∀ d ∈ ftl, d ∈ qX ∨ d = 36 := by decide
  rcases this c e with e | e
  · exact hc e
  · exact h3 e), h.2.2.2.2.1, fun i hi => h.2.2.2.2.2 i (fun e => hi (by
  have : ∀ d ∈ [22, 27, 28, 30, 34], d ∈ qY := by decide
  exact this i e))⟩
theorem UF.up {k : Nat} {cd : Int → Int} {x : Int} {T T' : St} (h : UF k cd T) (hl : ∀ i : Int, i < k → T'.A 52 i = T.A 52 i) (h1 : x < 32768 → T'.A 52 k ≠ 0) (h2 : ¬ x < 32768 → T'.A 52 k = 0) : UF (k + 1) (upI cd k x) T' := fun i i0 i1 => by
  by_cases hi : i = k
  · rw [hi, upI_e]
    exact ⟨h1, h2⟩
  · rw [upI_n hi, hl i (by omega)]
    exact h i i0 (by omega)
/-- for all -/
theorem g116_u {tx : Int → Int} {len pos n p x : Int} {k : Nat} {nm cd nu : Int → Int} {T : St} (hQ : QX tx len) (h : RM tx len T pos) (hE : EMf k nm nu T []) (hU : UF k cd T) (hk : k < 10) (nn0 : 0 ≤ T.F 36 34) (nn1 : T.F 36 34 ≤ 100) (hn : nmr tx 120 122 pos = some (n, p)) (hx : x < 32768) : ∃ T', g116 T 1 = some T' ∧ RM tx len T' p ∧ EMf (k + 1) (upI nm k n) (upI nu k (T.F 36 34)) T' [] ∧ UF (k + 1) (upI cd k x) T' ∧ T'.F 36 34 = T.F 36 34 + 1 ∧ T'.A 46 = T.A 46 ∧ T'.A 47 = T.A 47 ∧ T'.F 36 22 = T.F 36 22 ∧ T'.F 36 35 = T.F 36 35 ∧ T'.F 36 36 = T.F 36 36 ∧ Fx qX qY T T' := by
  have ex := g104_t hQ h (lo := 120) (hi := 122) (by decide) (by decide) (by decide)
  have hx2 : 120 ≤ tx pos ∧ tx pos ≤ 122 := by
    by_cases hh : 120 ≤ tx pos ∧ tx pos ≤ 122
    · exact hh
    · unfold nmr at hn
      rw [if_neg hh] at hn
      cases hn
  rw [if_pos hx2] at ex
  obtain ⟨T1, T2, t1, t2, t3, t4, t5, t6, t7, t8, t9, t10⟩ := know_t hQ h hE hk nn0 nn1 hn
  have d52 : (T2.a 52 k 1).A 52 = upI (upI (T.A 52) k 0) k 1 := by rw [aA_up (by decide), t7]
  refine ⟨T2.a 52 k 1, ?_, t3.a (by decide), ?_, hU.up (fun i hi => by rw [d52, upI_n (by omega), upI_n (by omega)]) (fun _ => by rw [d52, upI_e]; decide) (fun h => absurd hx h), t5, ?_, ?_, t10 22 (by decide), t10 35 (by decide), t10 36 (by decide), t8.q.trans (Fx.a _ (by decide) (by decide) _ _)⟩
  · unfold g116
    rw [ex]
    refine (ob_t rfl).trans ?_
    show gd (inR 1) _ = _
    refine (gd_t (by first | exact ⟨by omega, by omega⟩ | exact ⟨by omega, by omega, by omega⟩ | exact ⟨by omega, by omega, by omega, by omega⟩ | omega | exact inR_to _ | assumption | decide)).trans ?_
    refine (if_neg (show ¬ (1 : Int) = 0 by decide)).trans ?_
    rw [t1]
    refine (ob_t rfl).trans ?_
    rw [t2]
    refine (ob_t rfl).trans ?_
    show gd (inR (1 : Int)) (if (1 : Int) = 0 then _ else gd (ixR (T2.F 36 30 - 1) 50) (some (T2.a 52 (T2.F 36 30 - 1) 1))) = _
    refine (gd_t (by first | exact ⟨by omega, by omega⟩ | exact ⟨by omega, by omega, by omega⟩ | exact ⟨by omega, by omega, by omega, by omega⟩ | omega | exact inR_to _ | assumption | decide)).trans ?_
    rw [if_neg (by decide), t6, show (k : Int) + 1 - 1 = k by omega]
    refine (gd_t (by first | exact ⟨by omega, by omega⟩ | exact ⟨by omega, by omega, by omega⟩ | exact ⟨by omega, by omega, by omega, by omega⟩ | omega | exact inR_to _ | assumption | decide)).trans ?_
    rfl
  · unfold EMf at t4 ⊢
    rw [aA_ne (by decide), aA_ne (by decide)]
    exact t4
  · rw [aA_ne (by decide), t9 46 (by decide)]
  · rw [aA_ne (by decide), t9 47 (by decide)]
/-- there is: a function is made -/
theorem g116_x {tx : Int → Int} {len pos n p x : Int} {k : Nat} {nm cd nu : Int → Int} {T : St} (hQ : QX tx len) (h : RM tx len T pos) (hE : EMf k nm nu T []) (hU : UF k cd T) (hk : k < 10) (nn0 : 0 ≤ T.F 36 34) (nn1 : T.F 36 34 ≤ 100) (fc0 : 0 ≤ T.F 36 35) (fc1 : T.F 36 35 ≤ 300) (hfl : b1R (T.F 36 36)) (hb : T.F 36 22 + 11 + (len - pos) ≤ 900) (hn : nmr tx 120 122 pos = some (n, p)) (hx : ¬ x < 32768) : ∃ T', g116 T 0 = some T' ∧ RM tx len T' p ∧ EMf (k + 1) (upI nm k n) (upI nu k (T.F 36 34)) T' [] ∧ UF (k + 1) (upI cd k x) T' ∧ T'.F 36 34 = T.F 36 34 + 1 ∧ T'.F 36 35 = T.F 36 35 + 1 ∧ b1R (T'.F 36 36) ∧ (T'.F 36 36 = 0 ↔ T.F 36 36 = 0 ∧ T.F 36 35 + 1 ≤ 99) ∧ T'.A 47 = upI (T.A 47) (T.F 36 34) (T.F 36 22) ∧ T'.F 36 22 = T.F 36 22 + 1 + (uns nu cd k).length ∧ (∀ z : Int, z < T.F 36 22 → T'.A 46 z = T.A 46 z) ∧ T'.A 46 (T.F 36 22) = 4096 + 128 * (36 + 128 * (T.F 36 35 + 1)) + (uns nu cd k).length ∧ (∀ i : Int, 0 ≤ i → i < (uns nu cd k).length → T'.A 46 (T.F 36 22 + 1 + i) = gI (uns nu cd k) i) ∧ Fx qX qY T T' := by
  have l160 := hQ.2.1
  have ex := g104_t hQ h (lo := 120) (hi := 122) (by decide) (by decide) (by decide)
  have hx2 : 120 ≤ tx pos ∧ tx pos ≤ 122 := by
    by_cases hh : 120 ≤ tx pos ∧ tx pos ≤ 122
    · exact hh
    · unfold nmr at hn
      rw [if_neg hh] at hn
      cases hn
  rw [if_pos hx2] at ex
  have a5 := h.2.2.2.2.1
  have a6 := h.2.2.2.2.2.1
  have a7 := h.2.2.2.2.2.2.1
  have np := nmr_p hQ a5 (by decide) hn
  obtain ⟨T1, T2, t1, t2, t3, t4, t5, t6, t7, t8, t9, t10⟩ := know_t hQ h hE hk nn0 nn1 hn
  have f22 : T2.F 36 22 = T.F 36 22 := t10 22 (by decide)
  have f35 : T2.F 36 35 = T.F 36 35 := t10 35 (by decide)
  have f36 : T2.F 36 36 = T.F 36 36 := t10 36 (by decide)
  have i35 : inR (T.F 36 35 + 1) := ⟨by omega, by omega⟩
  have i22 : inR (T.F 36 22) := ⟨by omega, by omega⟩
  have ul := ubs_len cd k
  have lu := uns_len nu cd k
  -- the flag
  obtain ⟨fl, hfl1, hfl2, hfl3⟩ : ∃ fl : Int, b1R fl ∧ (fl = 0 ↔ T.F 36 36 = 0 ∧ T.F 36 35 + 1 ≤ 99) ∧ g117 T2 (T.F 36 34) = gd (ixR (T.F 36 34) 128) (ob (g105 (((T2.f 36 35 (T.F 36 35 + 1)).f 36 36 fl).a 47 (T.F 36 34) (T.F 36 22)) (4096 + (128 * (36 + (128 * (T.F 36 35 + 1)))))) (fun o5 => ob (g117L75 (T.F 36 22) FU 0 o5) (fun o14 => some o14))) := by
    rcases hfl with e | e
    · by_cases h99 : 99 < T.F 36 35 + 1
      · refine ⟨1, Or.inr rfl, ⟨fun h => absurd h (by decide), fun h => by omega⟩, ?_⟩
        unfold g117
        rw [f36, f35, f22, if_pos e]
        refine (gd_t (by first | exact ⟨by omega, by omega⟩ | exact ⟨by omega, by omega, by omega⟩ | exact ⟨by omega, by omega, by omega, by omega⟩ | omega | exact inR_to _ | assumption | decide)).trans ?_
        rw [if_pos h99]
      · refine ⟨0, Or.inl rfl, ⟨fun _ => ⟨e, by omega⟩, fun _ => rfl⟩, ?_⟩
        unfold g117
        rw [f36, f35, f22, if_pos e]
        refine (gd_t (by first | exact ⟨by omega, by omega⟩ | exact ⟨by omega, by omega, by omega⟩ | exact ⟨by omega, by omega, by omega, by omega⟩ | omega | exact inR_to _ | assumption | decide)).trans ?_
        rw [if_neg h99]
    · refine ⟨1, Or.inr rfl, ⟨fun h => absurd h (by decide), fun h => by omega⟩, ?_⟩
      unfold g117
      rw [f36, f35, f22, if_neg (by rw [e]; decide)]
  have ifl : inR fl := by rcases hfl1 with e | e <;> (rw [e]; decide)
  have eF : ∀ i, i ≠ 35 → i ≠ 36 → (((T2.f 36 35 (T.F 36 35 + 1)).f 36 36 fl).a 47 (T.F 36 34) (T.F 36 22)).F 36 i = T2.F 36 i := fun i h1 h2 => by rw [a_F, f_F ifl, if_pos rfl, if_neg h2, f_F i35, if_pos rfl, if_neg h1]
  have eF35 : (((T2.f 36 35 (T.F 36 35 + 1)).f 36 36 fl).a 47 (T.F 36 34) (T.F 36 22)).F 36 35 = T.F 36 35 + 1 := by rw [a_F, f_F ifl, if_pos rfl, if_neg (by decide), f_F i35, if_pos rfl, if_pos rfl]
  have eF36 : (((T2.f 36 35 (T.F 36 35 + 1)).f 36 36 fl).a 47 (T.F 36 34) (T.F 36 22)).F 36 36 = fl := by rw [a_F, f_F ifl, if_pos rfl, if_pos rfl]
  have eA47 : (((T2.f 36 35 (T.F 36 35 + 1)).f 36 36 fl).a 47 (T.F 36 34) (T.F 36 22)).A 47 = upI (T.A 47) (T.F 36 34) (T.F 36 22) := by rw [aA_up i22, f_A, f_A, t9 47 (by decide)]
  have eA : ∀ c, c ≠ 47 → (((T2.f 36 35 (T.F 36 35 + 1)).f 36 36 fl).a 47 (T.F 36 34) (T.F 36 22)).A c = T2.A c := fun c hc => by rw [aA_ne hc, f_A, f_A]
  have fx3 : Fx qX qY T2 (((T2.f 36 35 (T.F 36 35 + 1)).f 36 36 fl).a 47 (T.F 36 34) (T.F 36 22)) := ((Fx.f T2 (by decide) _).trans (Fx.f _ (by decide) _)).trans (Fx.a _ (by decide) (by decide) _ _)
  generalize ((T2.f 36 35 (T.F 36 35 + 1)).f 36 36 fl).a 47 (T.F 36 34) (T.F 36 22) = T3 at *
  have h3 : RM tx len T3 p := ⟨by rw [eF 2 (by decide) (by decide)]; exact t3.1, by rw [eF 27 (by decide) (by decide)]; exact t3.2.1, by rw [eF 28 (by decide) (by decide)]; exact t3.2.2.1, by rw [eA 37 (by decide)]; exact t3.2.2.2.1, t3.2.2.2.2.1, t3.2.2.2.2.2.1, by rw [eF 22 (by decide) (by decide)]; exact t3.2.2.2.2.2.2.1, by rw [eF 22 (by decide) (by decide)]; exact t3.2.2.2.2.2.2.2⟩
  have g22 : T3.F 36 22 = T.F 36 22 := (eF 22 (by decide) (by decide)).trans f22
  obtain ⟨T4, u1, u2, u3, u4, u5, u6, u7⟩ := g105_t (c := 4096 + (128 * (36 + (128 * (T.F 36 35 + 1))))) h3 ⟨by omega, by omega⟩ (by rw [g22]; omega) l160
  rw [g22] at u3 u4
  have em : EMf (k + 1) (upI nm k n) (upI nu k (T.F 36 34)) T4 [] := HEM_f T2 T4 [] ⟨by rw [u6 50 (by decide), eA 50 (by decide)], by rw [u6 51 (by decide), eA 51 (by decide)], by rw [u6 52 (by decide), eA 52 (by decide)]⟩ ⟨by rw [u7 29 (by decide), eF 29 (by decide) (by decide)], by rw [u7 30 (by decide), eF 30 (by decide) (by decide)], by rw [u7 34 (by decide), eF 34 (by decide) (by decide)]⟩ t4
  have a52 : T4.A 52 = upI (T.A 52) k 0 := by rw [u6 52 (by decide), eA 52 (by decide), t7]
  obtain ⟨T5, p1, p2, p3, p4, p5, p6⟩ := g117L_t (k := k) (nu := nu) (cd := cd) (q := T.F 36 22) (c0 := 4096 + (128 * (36 + (128 * (T.F 36 35 + 1))))) (by omega) a7 (by omega) (by omega) (by omega) (k + 1) FU 0 T4 (by omega) (FU_gt (by omega)) (by rw [em.2.1]) (fun i i0 i1 => by
    have e1 := em.2.2.2 i i0 (by omega)
    rw [upI_n (by omega), upI_n (by omega)] at e1
    have e2 := hU i i0 i1
    rw [a52, upI_n (by omega)]
    exact ⟨e1.2.1, e1.2.2.2.2.1, e1.2.2.2.2.2, e2.1, e2.2⟩) (by rw [a52, upI_e]) (Nat.zero_le _) (by rw [u3]; show _ = T.F 36 22 + 1 + ((0 : Nat) : Int); omega) (by
    rw [u4, ← lay_one, upI_e]
    show _ = _ + ((0 : Nat) : Int)
    omega)
  have e116 : g116 T 0 = some T5 := by
    unfold g116
    rw [ex]
    refine (ob_t rfl).trans ?_
    show gd (inR 1) _ = _
    refine (gd_t (by first | exact ⟨by omega, by omega⟩ | exact ⟨by omega, by omega, by omega⟩ | exact ⟨by omega, by omega, by omega, by omega⟩ | omega | exact inR_to _ | assumption | decide)).trans ?_
    refine (if_neg (show ¬ (1 : Int) = 0 by decide)).trans ?_
    rw [t1]
    refine (ob_t rfl).trans ?_
    rw [t2]
    refine (ob_t rfl).trans ?_
    show gd (inR (0 : Int)) (if (0 : Int) = 0 then ob (g117 T2 (T.F 36 34)) _ else _) = _
    refine (gd_t (by first | exact ⟨by omega, by omega⟩ | exact ⟨by omega, by omega, by omega⟩ | exact ⟨by omega, by omega, by omega, by omega⟩ | omega | exact inR_to _ | assumption | decide)).trans ?_
    rw [if_pos rfl, hfl3]
    have e2 : (gd (ixR (T.F 36 34) 128) (ob (g105 T3 (4096 + (128 * (36 + (128 * (T.F 36 35 + 1)))))) (fun o5 => ob (g117L75 (T.F 36 22) FU 0 o5) (fun o14 => some o14))) : Option St) = some T5 := by
      refine (gd_t (by first | exact ⟨by omega, by omega⟩ | exact ⟨by omega, by omega, by omega⟩ | exact ⟨by omega, by omega, by omega, by omega⟩ | omega | exact inR_to _ | assumption | decide)).trans ?_
      rw [u1]
      refine (ob_t rfl).trans ?_
      have p1 : g117L75 (T.F 36 22) FU 0 T4 = some T5 := p1
      rw [p1]
      rfl
    rw [e2]
    rfl
  have em5 : EMf (k + 1) (upI nm k n) (upI nu k (T.F 36 34)) T5 [] := HEM_f T4 T5 [] ⟨p2.A (by decide) (by decide), p2.A (by decide) (by decide), p2.A (by decide) (by decide)⟩ ⟨p2.F (by decide), p2.F (by decide), p2.F (by decide)⟩ em
  have b52 : T5.A 52 = upI (T.A 52) k 0 := (p2.A (by decide) (by decide)).trans a52
  refine ⟨T5, e116, ⟨by rw [p2.F (by decide)]; exact u2.1, by rw [p2.F (by decide)]; exact u2.2.1, by rw [p2.F (by decide)]; exact u2.2.2.1, by rw [p2.A (by decide) (by decide)]; exact u2.2.2.2.1, u2.2.2.2.2.1, u2.2.2.2.2.2.1, by rw [p3]; omega, by rw [p3]; omega⟩, em5, hU.up (fun i hi => by rw [b52, upI_n (by omega)]) (fun h => absurd h hx) (fun _ => by rw [b52, upI_e]), ?_, ?_, ?_, ?_, ?_, p3, fun z hz => ?_, p4, fun i i0 i1 => p6 i i0 i1, (t8.q.trans fx3).trans (u5.q.trans (p2.mono (by decide) (by decide)))⟩
  · rw [p2.F (by decide), u7 34 (by decide), eF 34 (by decide) (by decide), t5]
  · rw [p2.F (by decide), u7 35 (by decide), eF35]
  · rw [p2.F (by decide), u7 36 (by decide), eF36]; exact hfl1
  · rw [p2.F (by decide), u7 36 (by decide), eF36]; exact hfl2
  · rw [p2.A (by decide) (by decide), u6 47 (by decide), eA47]
  · rw [p5 z (by show z < T.F 36 22 + 1 + ((0 : Nat) : Int); omega) (by omega), u4, lay_lo hz, eA 46 (by decide), t9 46 (by decide)]
