theorem chl_app {a b : List Int} (ha : ∀ c ∈ a, chR c) (hb : ∀ c ∈ b, chR c) : ∀ c ∈ a ++ b, chR c := fun c hc => (List.mem_append.mp hc).elim (ha c) (hb c)
theorem chl_one {x : Int} (h : chR x) : ∀ c ∈ [x], chR c := fun c hc => by rw [List.mem_singleton.mp hc]; exact h
theorem chl_con {x : Int} {a : List Int} (h : chR x) (ha : ∀ c ∈ a, chR c) : ∀ c ∈ x :: a, chR c := fun c hc => (List.mem_cons.mp hc).elim (fun e => by rw [e]; exact h) (ha c)
theorem nu_ch {k : Int} (k0 : 0 ≤ k) (k1 : k < 200) : ∀ c ∈ nu k, chR c := by
  unfold nu
  split
  · exact chl_one ⟨by omega, by omega⟩
  · exact chl_con ⟨by omega, by omega⟩ (chl_one ⟨by omega, by omega⟩)
theorem chl_nil : ∀ c ∈ ([] : List Int), chR c := fun c hc => absurd hc (List.not_mem_nil)
theorem nm_ch {x : Int} (h : vx x) : ∀ c ∈ nm x, chR c := by
  unfold vx at h
  unfold nm
  split
  · refine chl_con ⟨by omega, by omega⟩ ?_
    split
    · exact chl_nil
    · exact nu_ch (by omega) (by omega)
  · split
    · refine chl_con ⟨by omega, by omega⟩ ?_
      split
      · exact nu_ch (by omega) (by omega)
      · exact chl_nil
    · split
      · exact chl_con ⟨by omega, by omega⟩ (nu_ch (by omega) (by omega))
      · exact chl_one ⟨by omega, by omega⟩
theorem clo_ch : ∀ s : List Int, ∀ c ∈ (clo s).1, chR c
  | [] => chl_nil
  | d :: s => by
    show ∀ c ∈ (if d = 1 then (41 :: (clo s).1, (clo s).2) else ([44], (d - 1) :: s)).1, chR c
    split
    · exact chl_con (by decide) (clo_ch s)
    · exact chl_one (by decide)
theorem ps_ch {u : Int → Int} : ∀ (m : Nat) (p : Int) (s : List Int), (∀ i : Int, p ≤ i → i < p + m → vx (u i)) → ∀ c ∈ ps u m p s, chR c
  | 0, _, _, _ => chl_nil
  | m + 1, p, s, h => by
    show ∀ c ∈ nm (u p) ++ (if 0 < ax u p then 40 :: ps u m (p + 1) (ax u p :: s) else (clo s).1 ++ ps u m (p + 1) (clo s).2), chR c
    refine chl_app (nm_ch (h p (by omega) (by omega))) ?_
    split
    · exact chl_con (by decide) (ps_ch m (p + 1) _ (fun i i0 i1 => h i (by omega) (by omega)))
    · exact chl_app (clo_ch s) (ps_ch m (p + 1) _ (fun i i0 i1 => h i (by omega) (by omega)))
theorem sg_ch (x : Int) : ∀ c ∈ sg x, chR c := by
  unfold sg
  split
  · exact chl_one (by decide)
  · exact chl_nil
theorem pl_ok {n : Int} {o u : Int → Int} (hW : WV n o u) : ∀ (r : Nat) (l : Int), 0 ≤ l → l + r = n → ((pl o u r l).length : Int) ≤ 5 * (o n - o l) + r ∧ ∀ c ∈ pl o u r l, chR c
  | 0, l, l0, hr => ⟨by have : l = n := by omega
                        rw [this]
                        show ((0 : Nat) : Int) ≤ _
                        omega, chl_nil⟩
  | r + 1, l, l0, hr => by
    have a1 := hW.1.2.2.2.2.1 l l0 (by omega)
    have a5 := hW.1.2.2.2.2.2.1 l l0 (by omega)
    have a6 := hW.1.2.2.2.2.2.1 (l + 1) (by omega) (by omega)
    have ll := lit_len hW.1 l0 (show l < n by omega)
    have ih := pl_ok hW r (l + 1) (by omega) (by omega)
    show (((if 0 < l then [124] else []) ++ ((sg (u (o l)) ++ ps u (o (l + 1) - o l).toNat (o l) []) ++ pl o u r (l + 1)) : List Int).length : Int) ≤ _ ∧ ∀ c ∈ (if 0 < l then [124] else []) ++ ((sg (u (o l)) ++ ps u (o (l + 1) - o l).toNat (o l) []) ++ pl o u r (l + 1)), chR c
    constructor
    · rw [List.length_append, List.length_append]
      have e : ((if 0 < l then [124] else [] : List Int)).length ≤ 1 := by split <;> decide
      omega
    · refine chl_app ?_ (chl_app (chl_app (sg_ch _) (ps_ch _ _ _ (fun i i0 i1 => hW.2.1 i (by omega) (by omega)))) ih.2)
      split
      · exact chl_one (by decide)
      · exact chl_nil
/-- the text of a clause -/
def tx (n : Int) (o u : Int → Int) : List Int := if n = 0 then [48] else pl o u n.toNat 0
theorem tx_ok {n : Int} {o u : Int → Int} (hW : WV n o u) (ho : o n ≤ 16) : ((tx n o u).length : Int) ≤ 100 ∧ ∀ c ∈ tx n o u, chR c := by
  have n0 := hW.1.1
  have n4 := hW.1.2.1
  have o0 := hW.1.2.2.1
  have := pl_ok hW n.toNat 0 (by omega) (by omega)
  unfold tx
  split
  · exact ⟨by decide, chl_one (by decide)⟩
  · exact ⟨by omega, this.2⟩
theorem g78_t {S : St} {c : Nat} {n : Int} {o u : Int → Int} (h : KT S.tl c n o u) (hW : WV n o u) (ho : o n ≤ 16) : ∃ S', g78 S c = some S' ∧ OC (S.f 28 1 0) (tx n o u) S' := by
  have n0 := hW.1.1
  have n4 := hW.1.2.1
  have o0 := hW.1.2.2.1
  have z : (S.f 28 1 0).F 28 1 = 0 := (f_F (by decide)).trans (by rw [if_pos rfl, if_pos rfl])
  obtain ⟨m9, hm9⟩ := FU_ge (n := 100) (by decide)
  have hk : KT (S.f 28 1 0).tl c n o u := h
  obtain ⟨b, s, N, M, f, g, x, w, k1, k2, k3, k4⟩ := hk.KC
  unfold tx
  by_cases e : n = 0
  · rw [if_pos e]
    obtain ⟨S1, t1, t2⟩ := g79_t (S := S.f 28 1 0) (c := 48) (by omega) (by omega) (by decide)
    have e1 : S1.F 28 1 = 1 := by rw [t2.2.1, z]; rfl
    obtain ⟨S2, v1, v2⟩ := g78L20_t hW ho n.toNat FU 0 S1 (by rw [t2.1.1]; exact hk) (by omega) (by omega) (by omega) (by omega) (by omega)
    refine ⟨S2, ?_, ?_⟩
    · unfold g78
      refine (gC_t k1).trans ?_
      rw [if_pos (by omega), t1]
      refine (ob_t rfl).trans ?_
      rw [v1]
      rfl
    · have := t2.app v2
      rw [show n.toNat = 0 by omega] at this
      exact this
  · rw [if_neg e]
    obtain ⟨S2, v1, v2⟩ := g78L20_t hW ho n.toNat FU 0 (S.f 28 1 0) hk (by omega) (by omega) (by omega) (by omega) (by omega)
    refine ⟨S2, ?_, v2⟩
    unfold g78
    refine (gC_t k1).trans ?_
    rw [if_neg (by omega), v1]
    rfl
theorem mtx_t {T : St} {sl n : Int} {o u : Int → Int} (h : KM T sl n o u) (hW : WV n o u) (ho : o n ≤ 16) : ∃ T', (gd (ixR sl 125) (if (T.A 41 sl) = 0 then ob (g149 ((T.f 36 0 0).f 36 56 0) 48) (fun o8 => ob (g148L79 sl FU (4 * sl) o8) (fun o34 => some ((o34.F 36 56), o34))) else ob (g148L79 sl FU (4 * sl) ((T.f 36 0 0).f 36 56 0)) (fun o41 => some ((o41.F 36 56), o41)))) = some (T'.F 36 56, T') ∧ OM ((T.f 36 0 0).f 36 56 0) (tx n o u) T' := by
  have n0 := hW.1.1
  have n4 := hW.1.2.1
  have o0 := hW.1.2.2.1
  have z : ((T.f 36 0 0).f 36 56 0).F 36 56 = 0 := (f_F (by decide)).trans (by rw [if_pos rfl, if_pos rfl])
  obtain ⟨m9, hm9⟩ := FU_ge (n := 100) (by decide)
  have hk : KM ((T.f 36 0 0).f 36 56 0) sl n o u := h
  obtain ⟨c1, c2, c3, c4⟩ := h
  unfold tx
  by_cases e : n = 0
  · rw [if_pos e]
    obtain ⟨S1, t1, t2, _⟩ := g149_t (S := (T.f 36 0 0).f 36 56 0) (c := 48) (by omega) (by omega) (by decide)
    have e1 : S1.F 36 56 = 1 := by rw [t2.2.1, z]; rfl
    obtain ⟨S2, v1, v2⟩ := g148L79_t hW ho n.toNat FU 0 S1 (hk.om t2) (by omega) (by omega) (by omega) (by omega) (by omega)
    refine ⟨S2, ?_, ?_⟩
    · refine (gd_t (by first | exact ⟨by omega, by omega⟩ | exact ⟨by omega, by omega, by omega⟩ | exact ⟨by omega, by omega, by omega, by omega⟩ | omega | exact inR_to _ | assumption | decide)).trans ?_
      rw [if_pos (by omega), t1]
      refine (ob_t rfl).trans ?_
      rw [show 4 * sl + 0 = 4 * sl by omega] at v1
      rw [v1]
      rfl
    · have := t2.app v2
      rw [show n.toNat = 0 by omega] at this
      exact this
  · rw [if_neg e]
    obtain ⟨S2, v1, v2⟩ := g148L79_t hW ho n.toNat FU 0 ((T.f 36 0 0).f 36 56 0) hk (by omega) (by omega) (by omega) (by omega) (by omega)
    refine ⟨S2, ?_, v2⟩
    refine (gd_t (by first | exact ⟨by omega, by omega⟩ | exact ⟨by omega, by omega, by omega⟩ | exact ⟨by omega, by omega, by omega, by omega⟩ | omega | exact inR_to _ | assumption | decide)).trans ?_
    rw [show 4 * sl + 0 = 4 * sl by omega] at v1
    rw [if_neg (by omega), v1]
    rfl
theorem print_in {S : St} {j c : Nat} {v k sl n : Int} {o u : Int → Int} (h : Rel S) (hr : Room j S) (h1 : KT S.tl c n o u) (h2 : KM S sl n o u) (hW : WV n o u) (ho : o n ≤ 16) (e1 : ∀ S', g78 S c = some S' → g77 S v k = some (0, S'.F 28 1, S')) (e2 : ∀ (T : St) r, T.F 36 9 = S.F 36 9 → T.F 36 10 = S.F 36 10 → (gd (ixR sl 125) (if (T.A 41 sl) = 0 then ob (g149 ((T.f 36 0 0).f 36 56 0) 48) (fun o8 => ob (g148L79 sl FU (4 * sl) o8) (fun o34 => some ((o34.F 36 56), o34))) else ob (g148L79 sl FU (4 * sl) ((T.f 36 0 0).f 36 56 0)) (fun o41 => some ((o41.F 36 56), o41)))) = r → g148 T v k = r) : LW j (g166 S v k) (fun T => g148 T v k) := by
  obtain ⟨S', a1, a2⟩ := g78_t h1 hW ho
  have tk := tx_ok hW ho
  have z : (S.f 28 1 0).F 28 1 = 0 := (f_F (by decide)).trans (by rw [if_pos rfl, if_pos rfl])
  have f1 := a2.2.1
  rw [z] at f1
  have fA : ∀ c', c' ∉ [28, 29] → S'.A c' = S.A c' := fun c' hc => a2.1.A hc
  have fF : ∀ c', c' ∉ [28, 29] → S'.F c' = S.F c' := fun c' hc => (a2.1.F hc).trans (fF_ne (fun e => hc (by rw [e]; decide)))
  have fR : ∀ c', c' ∉ [28, 29] → S'.R c' = S.R c' := fun c' hc => (a2.1.2.2.2 c' hc).2.2
  have k2 : KM (S'.o (lI (S'.F 28 1))) sl n o u := by
    show KM S' sl n o u
    unfold KM at h2 ⊢
    rw [fA 38 (by decide), fA 39 (by decide), fA 40 (by decide), fA 41 (by decide), fA 42 (by decide)]
    exact h2
  obtain ⟨T', b1, b2⟩ := mtx_t k2 hW ho
  have z2 : (((S'.o (lI (S'.F 28 1))).f 36 0 0).f 36 56 0).F 36 56 = 0 := (f_F (by decide)).trans (by rw [if_pos rfl, if_pos rfl])
  have f2 := b2.2.1
  rw [z2] at f2
  have gA : ∀ c', c' ∉ [28, 29, 36, 68, 69] → T'.A c' = S.A c' := fun c' hc => (b2.A (fun e => hc (by simp at e ⊢; omega))).trans (fA c' (fun e => hc (by simp at e ⊢; omega)))
  have gF : ∀ c', c' ∉ [28, 29, 36, 68, 69] → T'.F c' = S.F c' := fun c' hc => by
    have e := (b2.1.2.2.2.1 c' (fun e => hc (by simp at e ⊢; omega))).1
    have e' : T'.F c' = (((S'.o (lI (S'.F 28 1))).f 36 0 0).f 36 56 0).F c' := by funext i; show (T'.F0 c' i).toInt = _; rw [e]; rfl
    rw [e', fF_ne (fun e => hc (by rw [e]; decide)), fF_ne (fun e => hc (by rw [e]; decide))]
    exact fF c' (fun e => hc (by simp at e ⊢; omega))
  have gR : ∀ c', c' ∉ [28, 29, 36, 68, 69] → T'.R c' = S.R c' := fun c' hc => ((b2.1.2.2.2.1 c' (fun e => hc (by simp at e ⊢; omega))).2.2).trans (fR c' (fun e => hc (by simp at e ⊢; omega)))
  have g36 : ∀ i, i ≠ 56 → i ≠ 0 → T'.F 36 i = S.F 36 i := fun i hi h0 => by
    have e := b2.1.2.2.2.2 i hi
    have e' : T'.F 36 i = (((S'.o (lI (S'.F 28 1))).f 36 0 0).f 36 56 0).F 36 i := by show (T'.F0 36 i).toInt = _; rw [e]; rfl
    rw [e', f_F (by decide), if_pos rfl, if_neg hi, f_F (by decide), if_pos rfl, if_neg h0]
    show S'.F 36 i = _
    rw [fF 36 (by decide)]
  have g0 : T'.F 36 0 = 0 := by
    have e := b2.1.2.2.2.2 0 (by decide)
    have e' : T'.F 36 0 = (((S'.o (lI (S'.F 28 1))).f 36 0 0).f 36 56 0).F 36 0 := by show (T'.F0 36 0).toInt = _; rw [e]; rfl
    rw [e', f_F (by decide), if_pos rfl, if_neg (by decide), f_F (by decide), if_pos rfl, if_pos rfl]
  have gt : T'.tl = S.tl := b2.1.1.trans a2.1.1
  have gn : T'.ns = S.ns := b2.1.2.1.trans a2.1.2.1
  have h28 : T'.F 28 1 = S'.F 28 1 := by
    have e := (b2.1.2.2.2.1 28 (by decide)).1
    show (T'.F0 28 1).toInt = _
    rw [e]
    rfl
  have h29 : T'.A 29 = S'.A 29 := b2.A (by decide)
  refine ⟨0, S'.o (lI (S'.F 28 1)), T'.F 36 56, T', ?_, e2 _ _ ?_ ?_ b1, by decide, g0, fun _ => ?_, ?_, ?_⟩
  · unfold g166
    rw [e1 S' a1]
    rfl
  · show S'.F 36 9 = _
    rw [fF 36 (by decide)]
  · show S'.F 36 10 = _
    rw [fF 36 (by decide)]
  · have : T'.O = lI (S'.F 28 1) := b2.1.2.2.1
    rw [this, f2, f1]
  · have hRO : RO T' := by
      unfold RO
      rw [h28, h29, f2, f1]
      refine ⟨rfl, by omega, by omega, fun i i0 i1 => ?_⟩
      have e3 := a2.2.2 i
      have e4 := b2.2.2 i
      rw [z, if_pos ⟨i0, i1⟩] at e3
      rw [z2, if_pos ⟨i0, i1⟩] at e4
      rw [e3, e4]
      refine ⟨rfl, ?_⟩
      refine tk.2 _ ?_
      rw [List.getD_eq_getElem?_getD, List.getElem?_eq_getElem (show (i - 0).toNat < (tx n o u).length by omega)]
      exact List.getElem_mem _
    obtain ⟨q1, q2, q3, q4, q5, q6, q7, q8⟩ := h
    refine ⟨?_, ?_, ?_, ?_, ?_, ?_, hRO, ?_⟩
    · unfold RT at q1 ⊢
      rw [gF 1 (by decide), g36 2 (by decide) (by decide), gA 37 (by decide), gA 2 (by decide)]
      exact q1
    · unfold RN at q2 ⊢
      rw [gF 0 (by decide), gF 13 (by decide), g36 1 (by decide) (by decide), g36 10 (by decide) (by decide), g36 9 (by decide) (by decide), g36 20 (by decide) (by decide), g36 16 (by decide) (by decide), g36 17 (by decide) (by decide), g36 18 (by decide) (by decide), g36 19 (by decide) (by decide), g36 14 (by decide) (by decide), g36 15 (by decide) (by decide)]
      exact q2
    · unfold RB at q3 ⊢
      rw [gF 13 (by decide), gF 0 (by decide), gA 43 (by decide)]
      exact q3
    · unfold RK RK1 KM at q4 ⊢
      rw [gt, gF 13 (by decide), gR 14 (by decide), gA 38 (by decide), gA 39 (by decide), gA 40 (by decide), gA 41 (by decide), gA 42 (by decide), gA 43 (by decide), gA 44 (by decide), gA 45 (by decide)]
      exact q4
    · unfold RJ at q5 ⊢
      rw [gF 13 (by decide), gR 14 (by decide)]
      exact q5
    · unfold RL KM at q6 ⊢
      rw [gt, gF 0 (by decide), gR 35 (by decide), gA 38 (by decide), gA 39 (by decide), gA 40 (by decide), gA 41 (by decide), gA 42 (by decide)]
      exact q6
    · unfold RX at q8 ⊢
      rw [gA 25 (by decide), gA 27 (by decide)]
      exact q8
  · have := hr.next
    unfold Room at this ⊢
    rw [gt, gn, gF 13 (by decide), gF 0 (by decide)]
    exact this
theorem print_er {S : St} {j : Nat} {v k : Int} (h : Rel S) (hr : Room j S) (e1 : g77 S v k = some (3, 0, S.ho)) (e2 : ∀ T : St, T.F 36 9 = S.F 36 9 → T.F 36 10 = S.F 36 10 → g148 T v k = some (0, T.f 36 0 1)) : LW j (g166 S v k) (fun T => g148 T v k) := by
  refine LW.er (c := 1) (w := 0) h hr (by decide) (by decide) ?_ (e2 S.ho rfl rfl)
  unfold g166
  rw [e1]
  rfl
theorem print_ok {S : St} {j : Nat} {v k : Int} (hv : inR v) (hk : inR k) (h : Rel S) (hr : Room j S) : LW j (g166 S v k) (fun T => g148 T v k) := by
  obtain ⟨b1, b2, b3, b4, b5⟩ := h.2.2.1
  have n3 : S.F 36 9 = S.F 13 1 := h.2.1.2.2.1
  have n4 : S.F 36 10 = S.F 0 5 := h.2.1.2.1
  by_cases hv0 : v = 0
  · by_cases hk2 : 0 ≤ k ∧ k < S.F 13 1
    · obtain ⟨a, c, x0, x1, x2, x3, x4, x5, n, o, u, h1, h2, h3, h4, h5, h6, h7, h8⟩ := h.2.2.2.1 k hk2.1 hk2.2
      have e3 : S.cl a = some (.ob 9 [c] [x0, x1, x2, x3, x4, x5]) := (cl_tl h2).trans h3
      refine print_in (sl := k) h hr h4 h5 h6 h7 (fun S' e => ?_) (fun T r t1 t2 e => ?_)
      · unfold g77
        refine (gd_t (by first | exact ⟨by omega, by omega⟩ | exact ⟨by omega, by omega, by omega⟩ | exact ⟨by omega, by omega, by omega, by omega⟩ | omega | exact inR_to _ | assumption | decide)).trans ?_
        rw [if_pos hv0]
        refine (gd_t (by first | exact ⟨by omega, by omega⟩ | exact ⟨by omega, by omega, by omega⟩ | exact ⟨by omega, by omega, by omega, by omega⟩ | omega | exact inR_to _ | assumption | decide)).trans ?_
        rw [if_neg (by omega), if_pos hk2.2]
        refine (gd_t (by first | exact ⟨by omega, by omega⟩ | exact ⟨by omega, by omega, by omega⟩ | exact ⟨by omega, by omega, by omega, by omega⟩ | omega | exact inR_to _ | assumption | decide)).trans ?_
        refine (ob_t h1).trans ?_
        refine (gK_t e3).trans ?_
        rw [e]
        rfl
      · unfold g148
        refine (gd_t (by first | exact ⟨by omega, by omega⟩ | exact ⟨by omega, by omega, by omega⟩ | exact ⟨by omega, by omega, by omega, by omega⟩ | omega | exact inR_to _ | assumption | decide)).trans ?_
        rw [if_neg (by omega)]
        refine (gd_t (by first | exact ⟨by omega, by omega⟩ | exact ⟨by omega, by omega, by omega⟩ | exact ⟨by omega, by omega, by omega, by omega⟩ | omega | exact inR_to _ | assumption | decide)).trans ?_
        rw [if_pos hv0, if_pos (by omega)]
        exact e
    · refine print_er h hr ?_ (fun T t1 t2 => ?_)
      · unfold g77
        refine (gd_t (by first | exact ⟨by omega, by omega⟩ | exact ⟨by omega, by omega, by omega⟩ | exact ⟨by omega, by omega, by omega, by omega⟩ | omega | exact inR_to _ | assumption | decide)).trans ?_
        rw [if_pos hv0]
        refine (gd_t (by first | exact ⟨by omega, by omega⟩ | exact ⟨by omega, by omega, by omega⟩ | exact ⟨by omega, by omega, by omega, by omega⟩ | omega | exact inR_to _ | assumption | decide)).trans ?_
        by_cases hn : k < 0
        · rw [if_pos hn]
        · rw [if_neg hn, if_neg (by omega)]
      · unfold g148
        refine (gd_t (by first | exact ⟨by omega, by omega⟩ | exact ⟨by omega, by omega, by omega⟩ | exact ⟨by omega, by omega, by omega, by omega⟩ | omega | exact inR_to _ | assumption | decide)).trans ?_
        by_cases hn : k < 0
        · rw [if_pos hn]
        · rw [if_neg hn]
          refine (gd_t (by first | exact ⟨by omega, by omega⟩ | exact ⟨by omega, by omega, by omega⟩ | exact ⟨by omega, by omega, by omega, by omega⟩ | omega | exact inR_to _ | assumption | decide)).trans ?_
          rw [if_pos hv0, if_neg (by omega)]
  · by_cases hk2 : 0 ≤ k ∧ k < S.F 0 5
    · obtain ⟨c, n, o, u, h1, h4, h5, h6, h7⟩ := h.2.2.2.2.2.1 k hk2.1 hk2.2
      refine print_in (sl := 100 + k) h hr h4 h5 h6 h7 (fun S' e => ?_) (fun T r t1 t2 e => ?_)
      · unfold g77
        refine (gd_t (by first | exact ⟨by omega, by omega⟩ | exact ⟨by omega, by omega, by omega⟩ | exact ⟨by omega, by omega, by omega, by omega⟩ | omega | exact inR_to _ | assumption | decide)).trans ?_
        rw [if_neg hv0]
        refine (gd_t (by first | exact ⟨by omega, by omega⟩ | exact ⟨by omega, by omega, by omega⟩ | exact ⟨by omega, by omega, by omega, by omega⟩ | omega | exact inR_to _ | assumption | decide)).trans ?_
        rw [if_neg (by omega), if_pos hk2.2]
        refine (gd_t (by first | exact ⟨by omega, by omega⟩ | exact ⟨by omega, by omega, by omega⟩ | exact ⟨by omega, by omega, by omega, by omega⟩ | omega | exact inR_to _ | assumption | decide)).trans ?_
        refine (ob_t h1).trans ?_
        rw [e]
        rfl
      · unfold g148
        refine (gd_t (by first | exact ⟨by omega, by omega⟩ | exact ⟨by omega, by omega, by omega⟩ | exact ⟨by omega, by omega, by omega, by omega⟩ | omega | exact inR_to _ | assumption | decide)).trans ?_
        rw [if_neg (by omega)]
        refine (gd_t (by first | exact ⟨by omega, by omega⟩ | exact ⟨by omega, by omega, by omega⟩ | exact ⟨by omega, by omega, by omega, by omega⟩ | omega | exact inR_to _ | assumption | decide)).trans ?_
        rw [if_neg hv0, if_pos (by omega)]
        exact e
    · refine print_er h hr ?_ (fun T t1 t2 => ?_)
      · unfold g77
        refine (gd_t (by first | exact ⟨by omega, by omega⟩ | exact ⟨by omega, by omega, by omega⟩ | exact ⟨by omega, by omega, by omega, by omega⟩ | omega | exact inR_to _ | assumption | decide)).trans ?_
        rw [if_neg hv0]
        refine (gd_t (by first | exact ⟨by omega, by omega⟩ | exact ⟨by omega, by omega, by omega⟩ | exact ⟨by omega, by omega, by omega, by omega⟩ | omega | exact inR_to _ | assumption | decide)).trans ?_
        by_cases hn : k < 0
        · rw [if_pos hn]
        · rw [if_neg hn, if_neg (by omega)]
      · unfold g148
        refine (gd_t (by first | exact ⟨by omega, by omega⟩ | exact ⟨by omega, by omega, by omega⟩ | exact ⟨by omega, by omega, by omega, by omega⟩ | omega | exact inR_to _ | assumption | decide)).trans ?_
        by_cases hn : k < 0
        · rw [if_pos hn]
        · rw [if_neg hn]
          refine (gd_t (by first | exact ⟨by omega, by omega⟩ | exact ⟨by omega, by omega, by omega⟩ | exact ⟨by omega, by omega, by omega, by omega⟩ | omega | exact inR_to _ | assumption | decide)).trans ?_
          rw [if_neg hv0, if_neg (by omega)]
