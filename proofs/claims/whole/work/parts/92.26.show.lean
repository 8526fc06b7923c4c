theorem OC.cl {S T : St} {l : List Int} (h : OC S l T) (b : Nat) : T.cl b = S.cl b := h.1.cl (by decide) b
theorem clo_all : ∀ t : List Int, (∀ d ∈ t, 1 ≤ d) → du t = 0 → (clo t).1.length = t.length := by
  intro t
  induction t with
  | nil => intro _ _; rfl
  | cons d t ih =>
    intro h e
    have hd := h d List.mem_cons_self
    have h0 := (du_clo t (fun e he => h e (List.mem_cons_of_mem _ he))).1
    have e : d - 1 + du t = 0 := e
    have ec : clo (d :: t) = (41 :: (clo t).1, (clo t).2) := if_pos (by omega)
    rw [ec]
    show (clo t).1.length + 1 = t.length + 1
    rw [ih (fun e he => h e (List.mem_cons_of_mem _ he)) (by omega)]
theorem ps_len1 (u : Int → Int) : ∀ (k : Nat) (q : Int) (t : List Int), (∀ d ∈ t, 1 ≤ d) → Tm (ax u) k (1 + du t) q → (ps u k q t).length + 1 ≤ 5 * k + t.length := by
  intro k
  induction k with
  | zero =>
    intro q t ht h
    have h : 1 + du t = 0 := h
    have := (du_clo t ht).1
    omega
  | succ k ih =>
    intro q t ht h
    obtain ⟨h1, h2⟩ := h
    obtain ⟨d0, d1, d2, d3⟩ := du_clo t ht
    have a0 := ax_0 u q
    have hn := nm_len (u q)
    show (nm (u q) ++ (if 0 < ax u q then 40 :: ps u k (q + 1) (ax u q :: t) else (clo t).1 ++ ps u k (q + 1) (clo t).2)).length + 1 ≤ _
    rw [List.length_append]
    by_cases ha : 0 < ax u q
    · rw [if_pos ha, List.length_cons]
      have := ih (q + 1) (ax u q :: t) (fun d hd => by
        rcases List.mem_cons.mp hd with e | e
        · omega
        · exact ht d e) (by
        have e : 1 + du (ax u q :: t) = 1 + du t - 1 + ax u q := by show 1 + (ax u q - 1 + du t) = _; omega
        rw [e]
        exact h2)
      rw [List.length_cons] at this
      omega
    · rw [if_neg ha, List.length_append]
      have ea : ax u q = 0 := by omega
      rw [ea] at h2
      by_cases z : du t = 0
      · have hk : k = 0 := by
          rw [z] at h2
          cases k with
          | zero => rfl
          | succ k => have := h2.1; omega
        subst hk
        have := clo_all t ht z
        show _ + ((clo t).1.length + 0) + 1 ≤ _
        omega
      · obtain ⟨b1, b2, b3⟩ := d3 z
        have := ih (q + 1) (clo t).2 d1 (by rw [b1, show 1 + (du t - 1) = 1 + du t - 1 + 0 by omega]; exact h2)
        have := clo_len t
        omega
theorem show_L {b N n : Nat} {f : Int → Int32} {u : Int → Int} {w d a : Int} (hN : N < 1048576) (hw : w ≤ N) (hf : ∀ i : Int, 0 ≤ i → i < w → (f i).toInt = u i ∧ vx (u i)) (d0 : 0 ≤ d) (a1 : a < 256)
    (IH : ∀ (k : Nat) (p : Int) (S : St), S.cl b = some (.ar N f) → Tm (ax u) k 1 p → 0 ≤ p → p + k ≤ w → (∀ i : Int, p < i → i < p + k → u i < 131072) → d + 1 + k ≤ 40 → k ≤ n → 0 ≤ S.F 28 1 → S.F 28 1 + 5 * k ≤ 115 → ∃ S', g80 n S b p (d + 1) = some S' ∧ OC S (sg (u p) ++ ps u k p []) S') :
    ∀ (r m kk : Nat) (q j : Int) (S : St), S.cl b = some (.ar N f) → 0 ≤ j → j + (r + 1 : Nat) = a → Tm (ax u) kk (r + 1 : Nat) q → 0 ≤ q → q + kk ≤ w → (∀ i : Int, q ≤ i → i < q + kk → u i < 131072) → d + 1 + kk ≤ 40 → kk ≤ n → 0 ≤ S.F 28 1 → S.F 28 1 + 5 * kk + 1 ≤ 115 → r + 2 < m → ∃ S' l, g80L34 (g80 n) b d a m q j S = some S' ∧ OC S l S' ∧ l ++ [41] = (if j = 0 then 40 else 44) :: ps u kk q [((r + 1 : Nat) : Int)] := by
  intro r
  induction r with
  | zero =>
    intro m kk q j S hb j0 ja hT q0 qw hu dk kn f0 f1 hm
    obtain ⟨m, rfl⟩ : ∃ k, m = k + 1 := ⟨m - 1, by omega⟩
    obtain ⟨m, rfl⟩ : ∃ k, m = k + 1 := ⟨m - 1, by omega⟩
    have hle := Tm_le (ax_0 u) _ _ _ hT
    have sep : ∀ c : Int, chR c → c = (if j = 0 then 40 else 44) → ∃ S' l, g80L34 (g80 n) b d a (m + 1 + 1) q j S = some S' ∧ OC S l S' ∧ l ++ [41] = (if j = 0 then 40 else 44) :: ps u kk q [((0 + 1 : Nat) : Int)] := by
      intro c hc ec
      obtain ⟨S1, s1, s2⟩ := g79_t (S := S) (c := c) f0 (by omega) hc
      have e1 : S1.F 28 1 = S.F 28 1 + 1 := s2.2.1
      obtain ⟨S2, t1, t2⟩ := IH kk q S1 ((s2.cl b).trans hb) hT q0 qw (fun i i0 i1 => hu i (by omega) i1) dk kn (by omega) (by omega)
      have es : sg (u q) = [] := if_neg (by have := hu q (by omega) (by omega); omega)
      rw [es, List.nil_append] at t2
      have hb2 : S2.cl b = some (.ar N f) := (t2.cl b).trans ((s2.cl b).trans hb)
      have hT' : Tm (fun q => (f q).toInt % 256) kk 1 (q + 0) := Tm_ext (al := ax u) (be := fun q => (f q).toInt % 256) (d := 0) kk 1 q (fun i i1 i2 => by
        show u (q + i) % 256 = (f (q + 0 + i)).toInt % 256
        rw [show q + 0 + i = q + i by omega, (hf (q + i) (by omega) (by omega)).1]) hT
      rw [Int.add_zero] at hT'
      have h57 := g57_t (S := S2) (lim := N) hb2 (Int.le_refl _) (by omega) hT' q0 (by omega)
      have last : g80L34 (g80 n) b d a (m + 1) (q + kk) (j + 1) S2 = some S2 := by
        unfold g80L34
        refine (gd_t (by first | exact ⟨by omega, by omega⟩ | exact ⟨by omega, by omega, by omega⟩ | exact ⟨by omega, by omega, by omega, by omega⟩ | omega | exact inR_to _ | assumption | decide)).trans ?_; refine (gd_t (by first | exact ⟨by omega, by omega⟩ | exact ⟨by omega, by omega, by omega⟩ | exact ⟨by omega, by omega, by omega, by omega⟩ | omega | exact inR_to _ | assumption | decide)).trans ?_
        exact if_neg (by omega)
      refine ⟨S2, c :: ps u kk q [], ?_, s2.app t2, ?_⟩
      · conv => lhs; unfold g80L34
        refine (gd_t (by first | exact ⟨by omega, by omega⟩ | exact ⟨by omega, by omega, by omega⟩ | exact ⟨by omega, by omega, by omega, by omega⟩ | omega | exact inR_to _ | assumption | decide)).trans ?_; refine (gd_t (by first | exact ⟨by omega, by omega⟩ | exact ⟨by omega, by omega, by omega⟩ | exact ⟨by omega, by omega, by omega, by omega⟩ | omega | exact inR_to _ | assumption | decide)).trans ?_
        rw [if_pos (by omega)]
        refine (gA_t hb).trans ?_
        refine (gd_t (by first | exact ⟨by omega, by omega⟩ | exact ⟨by omega, by omega, by omega⟩ | exact ⟨by omega, by omega, by omega, by omega⟩ | omega | exact inR_to _ | assumption | decide)).trans ?_; refine (gd_t (by first | exact ⟨by omega, by omega⟩ | exact ⟨by omega, by omega, by omega⟩ | exact ⟨by omega, by omega, by omega, by omega⟩ | omega | exact inR_to _ | assumption | decide)).trans ?_
        rw [if_pos (by omega)]
        by_cases hj : j = 0
        · rw [if_pos hj] at ec ⊢
          rw [← ec, s1]
          show ob (g80 n S1 b q (d + 1)) _ = _
          rw [t1]
          refine (ob_t rfl).trans ?_
          refine (gA_t hb2).trans ?_
          rw [h57]
          exact last
        · rw [if_neg hj] at ec ⊢
          rw [← ec, s1]
          show ob (g80 n S1 b q (d + 1)) _ = _
          rw [t1]
          refine (ob_t rfl).trans ?_
          refine (gA_t hb2).trans ?_
          rw [h57]
          exact last
      · have hp := ps_app u kk 0 q [] [1] (fun d hd => absurd hd List.not_mem_nil) (by show Tm (ax u) kk (1 + 0) q; rw [Int.add_zero]; exact hT)
        rw [Nat.add_zero, List.nil_append] at hp
        show c :: (ps u kk q [] ++ [41]) = _ :: ps u kk q [1]
        rw [hp, ec]
        rfl
    by_cases hj : j = 0
    · exact sep 40 (by decide) (if_pos hj).symm
    · exact sep 44 (by decide) (if_neg hj).symm
  | succ r ih =>
    intro m kk q j S hb j0 ja hT q0 qw hu dk kn f0 f1 hm
    obtain ⟨m, rfl⟩ : ∃ k, m = k + 1 := ⟨m - 1, by omega⟩
    have hle := Tm_le (ax_0 u) _ _ _ hT
    obtain ⟨k1, k2, k3, k4⟩ := Tm_split (ax_0 u) kk 1 ((r + 1 : Nat) : Int) q (by omega) (by omega) (by rw [show 1 + ((r + 1 : Nat) : Int) = ((r + 1 + 1 : Nat) : Int) by omega]; exact hT)
    have sep : ∀ c : Int, chR c → c = (if j = 0 then 40 else 44) → ∃ S' l, g80L34 (g80 n) b d a (m + 1) q j S = some S' ∧ OC S l S' ∧ l ++ [41] = (if j = 0 then 40 else 44) :: ps u kk q [((r + 1 + 1 : Nat) : Int)] := by
      intro c hc ec
      obtain ⟨S1, s1, s2⟩ := g79_t (S := S) (c := c) f0 (by omega) hc
      have e1 : S1.F 28 1 = S.F 28 1 + 1 := s2.2.1
      have k1p : 1 ≤ k1 := by have := (Tm_le (ax_0 u) _ _ _ k3).2; omega
      have hle4 := Tm_le (ax_0 u) _ _ _ k4
      obtain ⟨S2, t1, t2⟩ := IH k1 q S1 ((s2.cl b).trans hb) k3 q0 (by omega) (fun i i0 i1 => hu i (by omega) (by omega)) (by omega) (by omega) (by omega) (by omega)
      have es : sg (u q) = [] := if_neg (by have := hu q (by omega) (by omega); omega)
      rw [es, List.nil_append] at t2
      have e2 : S2.F 28 1 = S1.F 28 1 + (ps u k1 q []).length := t2.2.1
      have pl := ps_len1 u k1 q [] (fun d hd => absurd hd List.not_mem_nil) (by show Tm (ax u) k1 (1 + 0) q; rw [Int.add_zero]; exact k3)
      have pl : (ps u k1 q []).length + 1 ≤ 5 * k1 + 0 := pl
      have hb2 : S2.cl b = some (.ar N f) := (t2.cl b).trans ((s2.cl b).trans hb)
      have hT' : Tm (fun q => (f q).toInt % 256) k1 1 (q + 0) := Tm_ext (al := ax u) (be := fun q => (f q).toInt % 256) (d := 0) k1 1 q (fun i i1 i2 => by
        show u (q + i) % 256 = (f (q + 0 + i)).toInt % 256
        rw [show q + 0 + i = q + i by omega, (hf (q + i) (by omega) (by omega)).1]) k3
      rw [Int.add_zero] at hT'
      have h57 := g57_t (S := S2) (lim := N) hb2 (Int.le_refl _) (by omega) hT' q0 (by omega)
      obtain ⟨S3, l3, w1, w2, w3⟩ := ih m (kk - k1) (q + k1) (j + 1) S2 hb2 (by omega) (by omega) k4 (by omega) (by omega) (fun i i0 i1 => hu i (by omega) (by omega)) (by omega) (by omega) (by omega) (by omega) (by omega)
      rw [if_neg (by omega)] at w3
      refine ⟨S3, (c :: ps u k1 q []) ++ l3, ?_, (s2.app t2).app w2, ?_⟩
      · conv => lhs; unfold g80L34
        refine (gd_t (by first | exact ⟨by omega, by omega⟩ | exact ⟨by omega, by omega, by omega⟩ | exact ⟨by omega, by omega, by omega, by omega⟩ | omega | exact inR_to _ | assumption | decide)).trans ?_; refine (gd_t (by first | exact ⟨by omega, by omega⟩ | exact ⟨by omega, by omega, by omega⟩ | exact ⟨by omega, by omega, by omega, by omega⟩ | omega | exact inR_to _ | assumption | decide)).trans ?_
        rw [if_pos (by omega)]
        refine (gA_t hb).trans ?_
        refine (gd_t (by first | exact ⟨by omega, by omega⟩ | exact ⟨by omega, by omega, by omega⟩ | exact ⟨by omega, by omega, by omega, by omega⟩ | omega | exact inR_to _ | assumption | decide)).trans ?_; refine (gd_t (by first | exact ⟨by omega, by omega⟩ | exact ⟨by omega, by omega, by omega⟩ | exact ⟨by omega, by omega, by omega, by omega⟩ | omega | exact inR_to _ | assumption | decide)).trans ?_
        rw [if_pos (by omega)]
        by_cases hj : j = 0
        · rw [if_pos hj] at ec ⊢
          rw [← ec, s1]
          show ob (g80 n S1 b q (d + 1)) _ = _
          rw [t1]
          refine (ob_t rfl).trans ?_
          refine (gA_t hb2).trans ?_
          rw [h57]
          exact w1
        · rw [if_neg hj] at ec ⊢
          rw [← ec, s1]
          show ob (g80 n S1 b q (d + 1)) _ = _
          rw [t1]
          refine (ob_t rfl).trans ?_
          refine (gA_t hb2).trans ?_
          rw [h57]
          exact w1
      · have hp := ps_app u k1 (kk - k1) q [] [((r + 1 + 1 : Nat) : Int)] (fun d hd => absurd hd List.not_mem_nil) (by show Tm (ax u) k1 (1 + 0) q; rw [Int.add_zero]; exact k3)
        rw [List.nil_append, show k1 + (kk - k1) = kk by omega] at hp
        have ecl : clo [((r + 1 + 1 : Nat) : Int)] = ([44], [((r + 1 + 1 : Nat) : Int) - 1]) := if_neg (by omega)
        rw [ecl, show ((r + 1 + 1 : Nat) : Int) - 1 = ((r + 1 : Nat) : Int) by omega] at hp
        rw [hp, List.append_assoc, w3, ec]
        rfl
    by_cases hj : j = 0
    · exact sep 40 (by decide) (if_pos hj).symm
    · exact sep 44 (by decide) (if_neg hj).symm
theorem show_T {b N : Nat} {f : Int → Int32} {u : Int → Int} {w : Int} (hN : N < 1048576) (hw : w ≤ N) (hf : ∀ i : Int, 0 ≤ i → i < w → (f i).toInt = u i ∧ vx (u i)) : ∀ (n k : Nat) (p d : Int) (S : St), S.cl b = some (.ar N f) → Tm (ax u) k 1 p → 0 ≤ p → p + k ≤ w → (∀ i : Int, p < i → i < p + k → u i < 131072) → 0 ≤ d → d + k ≤ 40 → k ≤ n → 0 ≤ S.F 28 1 → S.F 28 1 + 5 * k ≤ 115 → ∃ S', g80 n S b p d = some S' ∧ OC S (sg (u p) ++ ps u k p []) S' := by
  intro n
  induction n with
  | zero =>
    intro k p d S hb hT p0 pw hu d0 dk kn f0 f1
    have := (Tm_le (ax_0 u) _ _ _ hT).2
    omega
  | succ n ih =>
    intro k p d S hb hT p0 pw hu d0 dk kn f0 f1
    obtain ⟨k, rfl⟩ : ∃ i, k = i + 1 := ⟨k - 1, by have := (Tm_le (ax_0 u) _ _ _ hT).2; omega⟩
    have t2 := hT.2
    rw [show (1 : Int) - 1 + ax u p = ax u p by omega] at t2
    have hfp := hf p p0 (by omega)
    obtain ⟨S1, s1, s2⟩ := g81_t (S := S) (x := u p) f0 (by omega) hfp.2
    have hb1 : S1.cl b = some (.ar N f) := (s2.cl b).trans hb
    have e1 : S1.F 28 1 = S.F 28 1 + (sg (u p) ++ nm (u p)).length := s2.2.1
    have el : (sg (u p) ++ nm (u p)).length ≤ 4 := by
      rw [List.length_append]
      have := nm_len (u p)
      have : (sg (u p)).length ≤ 1 := by unfold sg; split; exact Nat.le_refl _; exact Nat.zero_le _
      omega
    have a0 := ax_0 u p
    have a256 : ax u p < 256 := Int.emod_lt_of_pos _ (by decide)
    have eax : (f p).toInt % 256 = ax u p := by rw [hfp.1]; rfl
    obtain ⟨m9, hm9⟩ := FU_ge (n := 500) (by decide)
    have pre : ∀ z, ob (g80L34 (g80 n) b d (ax u p) FU (p + 1) 0 S1) (fun o46 => gd (inR (ax u p)) (if 0 < ax u p then ob (g79 o46 41) (fun o56 => some o56) else some o46)) = z → g80 (n + 1) S b p d = z := by
      intro z hz
      rw [← hz]
      show g80b (g80 n) S b p d = _
      unfold g80b
      refine (gA_t hb).trans ?_
      refine (gd_t (by first | exact ⟨by omega, by omega⟩ | exact ⟨by omega, by omega, by omega⟩ | exact ⟨by omega, by omega, by omega, by omega⟩ | omega | exact inR_to _ | assumption | decide)).trans ?_
      show ob (g81 S (f p).toInt) _ = _
      rw [hfp.1, s1]
      show gd (inR d) _ = _
      refine (gd_t (by first | exact ⟨by omega, by omega⟩ | exact ⟨by omega, by omega, by omega⟩ | exact ⟨by omega, by omega, by omega, by omega⟩ | omega | exact inR_to _ | assumption | decide)).trans ?_
      rw [if_pos (by omega)]
      refine (gA_t hb1).trans ?_
      refine (gd_t (by first | exact ⟨by omega, by omega⟩ | exact ⟨by omega, by omega, by omega⟩ | exact ⟨by omega, by omega, by omega, by omega⟩ | omega | exact inR_to _ | assumption | decide)).trans ?_
      show ob (g80L34 (g80 n) b d ((f p).toInt % 256) FU (p + 1) 0 S1) (fun o46 => gd (inR ((f p).toInt % 256)) (if 0 < (f p).toInt % 256 then ob (g79 o46 41) (fun o56 => some o56) else some o46)) = _
      rw [eax]
    by_cases ha : 0 < ax u p
    · obtain ⟨r, hr⟩ : ∃ r : Nat, ax u p = (r + 1 : Nat) := ⟨(ax u p).toNat - 1, by omega⟩
      have kle := Tm_le (ax_0 u) _ _ _ t2
      obtain ⟨S2, l, w1, w2, w3⟩ := show_L (n := n) (d := d) (a := ax u p) hN hw hf d0 a256 (fun k' p' S' c1 c2 c3 c4 c5 c6 c7 c8 c9 => ih k' p' (d + 1) S' c1 c2 c3 c4 c5 (by omega) c6 c7 c8 c9) r FU k (p + 1) 0 S1 hb1 (by omega) (by omega) (by rw [← hr]; exact t2) (by omega) (by omega) (fun i i0 i1 => hu i (by omega) (by omega)) (by omega) (by omega) (by omega) (by omega) (by omega)
      have e2 : S2.F 28 1 = S1.F 28 1 + l.length := w2.2.1
      have ll : l.length ≤ 5 * k + 1 := by
        have q := congrArg List.length w3
        have q : l.length + 1 = (ps u k (p + 1) [((r + 1 : Nat) : Int)]).length + 1 := by rw [List.length_append] at q; exact q
        have q3 := ps_len u k (p + 1) [((r + 1 : Nat) : Int)]
        rw [List.length_singleton] at q3
        omega
      obtain ⟨S3, v1, v2⟩ := g79_t (S := S2) (c := 41) (by omega) (by omega) (by decide)
      refine ⟨S3, pre _ ?_, ?_⟩
      · rw [w1]
        show gd (inR (ax u p)) _ = _
        refine (gd_t (by first | exact ⟨by omega, by omega⟩ | exact ⟨by omega, by omega, by omega⟩ | exact ⟨by omega, by omega, by omega, by omega⟩ | omega | exact inR_to _ | assumption | decide)).trans ?_
        rw [if_pos ha, v1]
        rfl
      · have ee : sg (u p) ++ ps u (k + 1) p [] = (sg (u p) ++ nm (u p)) ++ (l ++ [41]) := by
          rw [w3, if_pos rfl, ← hr]
          show sg (u p) ++ (nm (u p) ++ (if 0 < ax u p then 40 :: ps u k (p + 1) (ax u p :: []) else _)) = _
          rw [if_pos ha, List.append_assoc]
        rw [ee]
        exact s2.app (w2.app v2)
    · have ea : ax u p = 0 := by omega
      rw [ea] at t2
      have hk : k = 0 := by
        cases k with
        | zero => rfl
        | succ k => have := t2.1; omega
      subst hk
      have last : g80L34 (g80 n) b d (ax u p) FU (p + 1) 0 S1 = some S1 := by
        rw [hm9, ← Nat.add_assoc]
        unfold g80L34
        refine (gd_t (by first | exact ⟨by omega, by omega⟩ | exact ⟨by omega, by omega, by omega⟩ | exact ⟨by omega, by omega, by omega, by omega⟩ | omega | exact inR_to _ | assumption | decide)).trans ?_; refine (gd_t (by first | exact ⟨by omega, by omega⟩ | exact ⟨by omega, by omega, by omega⟩ | exact ⟨by omega, by omega, by omega, by omega⟩ | omega | exact inR_to _ | assumption | decide)).trans ?_
        exact if_neg (by omega)
      refine ⟨S1, pre _ ?_, ?_⟩
      · rw [last]
        show gd (inR (ax u p)) _ = _
        refine (gd_t (by first | exact ⟨by omega, by omega⟩ | exact ⟨by omega, by omega, by omega⟩ | exact ⟨by omega, by omega, by omega, by omega⟩ | omega | exact inR_to _ | assumption | decide)).trans ?_
        exact if_neg ha
      · have ee : sg (u p) ++ ps u (0 + 1) p [] = sg (u p) ++ nm (u p) := by
          show sg (u p) ++ (nm (u p) ++ (if 0 < ax u p then _ else (clo []).1 ++ ps u 0 (p + 1) (clo []).2)) = _
          rw [if_neg ha]
          show sg (u p) ++ (nm (u p) ++ []) = _
          rw [List.append_nil]
        rw [ee]
        exact s2
