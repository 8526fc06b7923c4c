/-! one step of both readings of a formula (printed by gen72.py) -/
theorem ob_id {α β : Type} (x : Option (α × β)) : ob x (fun o => some (o.1, o.2)) = x := by
  cases x with
  | none => rfl
  | some a => rfl
theorem L10_33_0 {tx : Int → Int} {len pos d v4 : Int} {T : St} {n : Nat} (hQ : QX tx len) (h : RM tx len T pos) (hc : tx pos = 33) (d0 : 0 ≤ d) (d1 : d < 10) : g101L10 (n + 1) 0 d v4 1 T = ob (g116 ((((T.f 36 27 (pos + 1)).a 54 d 33).a 55 d 0).a 56 d 0) 1) (fun o => g101L10 n 0 (d + 1) v4 1 o) := by
  have e0 := g102_t hQ h
  rw [hc] at e0
  rw [g101L10]
  refine (gd_t (by first | exact ⟨by omega, by omega⟩ | exact ⟨by omega, by omega, by omega⟩ | exact ⟨by omega, by omega, by omega, by omega⟩ | omega | exact inR_to _ | assumption | decide)).trans ?_
  rw [if_neg (by decide), if_pos h.2.2.1, e0]
  refine (ob_t rfl).trans ?_
  refine (gd_t (by first | exact ⟨by omega, by omega⟩ | exact ⟨by omega, by omega, by omega⟩ | exact ⟨by omega, by omega, by omega, by omega⟩ | omega | exact inR_to _ | assumption | decide)).trans ?_
  rw [if_pos (by decide)]
  have e115 : g115 T 33 = some 1 := rfl
  rw [e115]
  refine (ob_t rfl).trans ?_
  refine (gd_t (by first | exact ⟨by omega, by omega⟩ | exact ⟨by omega, by omega, by omega⟩ | exact ⟨by omega, by omega, by omega, by omega⟩ | omega | exact inR_to _ | assumption | decide)).trans ?_
  rw [if_neg (by decide)]
  refine (gd_t (by first | exact ⟨by omega, by omega⟩ | exact ⟨by omega, by omega, by omega⟩ | exact ⟨by omega, by omega, by omega, by omega⟩ | omega | exact inR_to _ | assumption | decide)).trans ?_
  rw [if_pos d1]
  refine (gd_t (by first | exact ⟨by omega, by omega⟩ | exact ⟨by omega, by omega, by omega⟩ | exact ⟨by omega, by omega, by omega, by omega⟩ | omega | exact inR_to _ | assumption | decide)).trans ?_
  refine (gd_t (show b1R 0 by decide)).trans ?_
  rw [h.2.1]
  rw [if_pos rfl]
  refine (gd_t (by first | exact ⟨by omega, by omega⟩ | exact ⟨by omega, by omega, by omega⟩ | exact ⟨by omega, by omega, by omega, by omega⟩ | omega | exact inR_to _ | assumption | decide)).trans ?_
  rw [if_neg (by decide)]
  rfl
theorem g22_33_0 {tx : Int → Int} {len pos d : Int} {S : St} {rc : St → Int → Int → Option (Int × St)} (hQ : QX tx len) (h : RC0 tx len S pos) (hc : tx pos = 33) (d0 : 0 ≤ d) (d1 : d < 10) : g22b rc S 0 d = g37b rc (S.f 1 4 (pos + 1)) 0 0 d := by
  have e0 := g23_0 hQ h
  rw [hc] at e0
  unfold g22b
  rw [e0]
  refine (ob_t rfl).trans ?_
  refine (gd_t (by first | exact ⟨by omega, by omega⟩ | exact ⟨by omega, by omega, by omega⟩ | exact ⟨by omega, by omega, by omega, by omega⟩ | omega | exact inR_to _ | assumption | decide)).trans ?_
  rw [if_pos (by decide)]
  refine (gd_t (by first | exact ⟨by omega, by omega⟩ | exact ⟨by omega, by omega, by omega⟩ | exact ⟨by omega, by omega, by omega, by omega⟩ | omega | exact inR_to _ | assumption | decide)).trans ?_
  rw [if_pos d1, h.2.1]
  rw [if_pos rfl, if_neg (by decide)]
  refine (gd_t (by first | exact ⟨by omega, by omega⟩ | exact ⟨by omega, by omega, by omega⟩ | exact ⟨by omega, by omega, by omega, by omega⟩ | omega | exact inR_to _ | assumption | decide)).trans ?_
  rw [if_pos rfl]
  exact ob_id _
theorem L10_33_1 {tx : Int → Int} {len pos d v4 : Int} {T : St} {n : Nat} (hQ : QX tx len) (h : RM tx len T pos) (hc : tx pos = 33) (d0 : 0 ≤ d) (d1 : d < 10) : g101L10 (n + 1) 1 d v4 1 T = ob (g116 ((((T.f 36 27 (pos + 1)).a 54 d 33).a 55 d 1).a 56 d 0) 0) (fun o => g101L10 n 1 (d + 1) v4 1 o) := by
  have e0 := g102_t hQ h
  rw [hc] at e0
  rw [g101L10]
  refine (gd_t (by first | exact ⟨by omega, by omega⟩ | exact ⟨by omega, by omega, by omega⟩ | exact ⟨by omega, by omega, by omega, by omega⟩ | omega | exact inR_to _ | assumption | decide)).trans ?_
  rw [if_neg (by decide), if_pos h.2.2.1, e0]
  refine (ob_t rfl).trans ?_
  refine (gd_t (by first | exact ⟨by omega, by omega⟩ | exact ⟨by omega, by omega, by omega⟩ | exact ⟨by omega, by omega, by omega, by omega⟩ | omega | exact inR_to _ | assumption | decide)).trans ?_
  rw [if_pos (by decide)]
  have e115 : g115 T 33 = some 1 := rfl
  rw [e115]
  refine (ob_t rfl).trans ?_
  refine (gd_t (by first | exact ⟨by omega, by omega⟩ | exact ⟨by omega, by omega, by omega⟩ | exact ⟨by omega, by omega, by omega, by omega⟩ | omega | exact inR_to _ | assumption | decide)).trans ?_
  rw [if_neg (by decide)]
  refine (gd_t (by first | exact ⟨by omega, by omega⟩ | exact ⟨by omega, by omega, by omega⟩ | exact ⟨by omega, by omega, by omega, by omega⟩ | omega | exact inR_to _ | assumption | decide)).trans ?_
  rw [if_pos d1]
  refine (gd_t (by first | exact ⟨by omega, by omega⟩ | exact ⟨by omega, by omega, by omega⟩ | exact ⟨by omega, by omega, by omega, by omega⟩ | omega | exact inR_to _ | assumption | decide)).trans ?_
  refine (gd_t (show b1R 1 by decide)).trans ?_
  rw [h.2.1]
  rw [if_pos rfl]
  refine (gd_t (by first | exact ⟨by omega, by omega⟩ | exact ⟨by omega, by omega, by omega⟩ | exact ⟨by omega, by omega, by omega, by omega⟩ | omega | exact inR_to _ | assumption | decide)).trans ?_
  rw [if_pos rfl]
  rfl
theorem g22_33_1 {tx : Int → Int} {len pos d : Int} {S : St} {rc : St → Int → Int → Option (Int × St)} (hQ : QX tx len) (h : RC0 tx len S pos) (hc : tx pos = 33) (d0 : 0 ≤ d) (d1 : d < 10) : g22b rc S 1 d = g37b rc (S.f 1 4 (pos + 1)) 1 1 d := by
  have e0 := g23_0 hQ h
  rw [hc] at e0
  unfold g22b
  rw [e0]
  refine (ob_t rfl).trans ?_
  refine (gd_t (by first | exact ⟨by omega, by omega⟩ | exact ⟨by omega, by omega, by omega⟩ | exact ⟨by omega, by omega, by omega, by omega⟩ | omega | exact inR_to _ | assumption | decide)).trans ?_
  rw [if_pos (by decide)]
  refine (gd_t (by first | exact ⟨by omega, by omega⟩ | exact ⟨by omega, by omega, by omega⟩ | exact ⟨by omega, by omega, by omega, by omega⟩ | omega | exact inR_to _ | assumption | decide)).trans ?_
  rw [if_pos d1, h.2.1]
  rw [if_pos rfl, if_neg (by decide)]
  refine (gd_t (by first | exact ⟨by omega, by omega⟩ | exact ⟨by omega, by omega, by omega⟩ | exact ⟨by omega, by omega, by omega, by omega⟩ | omega | exact inR_to _ | assumption | decide)).trans ?_
  rw [if_neg (by decide)]
  exact ob_id _
theorem L10_63_0 {tx : Int → Int} {len pos d v4 : Int} {T : St} {n : Nat} (hQ : QX tx len) (h : RM tx len T pos) (hc : tx pos = 63) (d0 : 0 ≤ d) (d1 : d < 10) : g101L10 (n + 1) 0 d v4 1 T = ob (g116 ((((T.f 36 27 (pos + 1)).a 54 d 63).a 55 d 0).a 56 d 0) 0) (fun o => g101L10 n 0 (d + 1) v4 1 o) := by
  have e0 := g102_t hQ h
  rw [hc] at e0
  rw [g101L10]
  refine (gd_t (by first | exact ⟨by omega, by omega⟩ | exact ⟨by omega, by omega, by omega⟩ | exact ⟨by omega, by omega, by omega, by omega⟩ | omega | exact inR_to _ | assumption | decide)).trans ?_
  rw [if_neg (by decide), if_pos h.2.2.1, e0]
  refine (ob_t rfl).trans ?_
  refine (gd_t (by first | exact ⟨by omega, by omega⟩ | exact ⟨by omega, by omega, by omega⟩ | exact ⟨by omega, by omega, by omega, by omega⟩ | omega | exact inR_to _ | assumption | decide)).trans ?_
  rw [if_pos (by decide)]
  have e115 : g115 T 63 = some 1 := rfl
  rw [e115]
  refine (ob_t rfl).trans ?_
  refine (gd_t (by first | exact ⟨by omega, by omega⟩ | exact ⟨by omega, by omega, by omega⟩ | exact ⟨by omega, by omega, by omega, by omega⟩ | omega | exact inR_to _ | assumption | decide)).trans ?_
  rw [if_neg (by decide)]
  refine (gd_t (by first | exact ⟨by omega, by omega⟩ | exact ⟨by omega, by omega, by omega⟩ | exact ⟨by omega, by omega, by omega, by omega⟩ | omega | exact inR_to _ | assumption | decide)).trans ?_
  rw [if_pos d1]
  refine (gd_t (by first | exact ⟨by omega, by omega⟩ | exact ⟨by omega, by omega, by omega⟩ | exact ⟨by omega, by omega, by omega, by omega⟩ | omega | exact inR_to _ | assumption | decide)).trans ?_
  refine (gd_t (show b1R 0 by decide)).trans ?_
  rw [h.2.1]
  rw [if_neg (by decide), if_pos rfl]
  refine (gd_t (by first | exact ⟨by omega, by omega⟩ | exact ⟨by omega, by omega, by omega⟩ | exact ⟨by omega, by omega, by omega, by omega⟩ | omega | exact inR_to _ | assumption | decide)).trans ?_
  rw [if_pos rfl]
  rfl
theorem g22_63_0 {tx : Int → Int} {len pos d : Int} {S : St} {rc : St → Int → Int → Option (Int × St)} (hQ : QX tx len) (h : RC0 tx len S pos) (hc : tx pos = 63) (d0 : 0 ≤ d) (d1 : d < 10) : g22b rc S 0 d = g37b rc (S.f 1 4 (pos + 1)) 1 0 d := by
  have e0 := g23_0 hQ h
  rw [hc] at e0
  unfold g22b
  rw [e0]
  refine (ob_t rfl).trans ?_
  refine (gd_t (by first | exact ⟨by omega, by omega⟩ | exact ⟨by omega, by omega, by omega⟩ | exact ⟨by omega, by omega, by omega, by omega⟩ | omega | exact inR_to _ | assumption | decide)).trans ?_
  rw [if_pos (by decide)]
  refine (gd_t (by first | exact ⟨by omega, by omega⟩ | exact ⟨by omega, by omega, by omega⟩ | exact ⟨by omega, by omega, by omega, by omega⟩ | omega | exact inR_to _ | assumption | decide)).trans ?_
  rw [if_pos d1, h.2.1]
  rw [if_neg (by decide), if_neg (by decide), if_neg (by decide), if_pos rfl]
  refine (gd_t (by first | exact ⟨by omega, by omega⟩ | exact ⟨by omega, by omega, by omega⟩ | exact ⟨by omega, by omega, by omega, by omega⟩ | omega | exact inR_to _ | assumption | decide)).trans ?_
  rw [if_neg (by decide)]
  exact ob_id _
theorem L10_63_1 {tx : Int → Int} {len pos d v4 : Int} {T : St} {n : Nat} (hQ : QX tx len) (h : RM tx len T pos) (hc : tx pos = 63) (d0 : 0 ≤ d) (d1 : d < 10) : g101L10 (n + 1) 1 d v4 1 T = ob (g116 ((((T.f 36 27 (pos + 1)).a 54 d 63).a 55 d 1).a 56 d 0) 1) (fun o => g101L10 n 1 (d + 1) v4 1 o) := by
  have e0 := g102_t hQ h
  rw [hc] at e0
  rw [g101L10]
  refine (gd_t (by first | exact ⟨by omega, by omega⟩ | exact ⟨by omega, by omega, by omega⟩ | exact ⟨by omega, by omega, by omega, by omega⟩ | omega | exact inR_to _ | assumption | decide)).trans ?_
  rw [if_neg (by decide), if_pos h.2.2.1, e0]
  refine (ob_t rfl).trans ?_
  refine (gd_t (by first | exact ⟨by omega, by omega⟩ | exact ⟨by omega, by omega, by omega⟩ | exact ⟨by omega, by omega, by omega, by omega⟩ | omega | exact inR_to _ | assumption | decide)).trans ?_
  rw [if_pos (by decide)]
  have e115 : g115 T 63 = some 1 := rfl
  rw [e115]
  refine (ob_t rfl).trans ?_
  refine (gd_t (by first | exact ⟨by omega, by omega⟩ | exact ⟨by omega, by omega, by omega⟩ | exact ⟨by omega, by omega, by omega, by omega⟩ | omega | exact inR_to _ | assumption | decide)).trans ?_
  rw [if_neg (by decide)]
  refine (gd_t (by first | exact ⟨by omega, by omega⟩ | exact ⟨by omega, by omega, by omega⟩ | exact ⟨by omega, by omega, by omega, by omega⟩ | omega | exact inR_to _ | assumption | decide)).trans ?_
  rw [if_pos d1]
  refine (gd_t (by first | exact ⟨by omega, by omega⟩ | exact ⟨by omega, by omega, by omega⟩ | exact ⟨by omega, by omega, by omega, by omega⟩ | omega | exact inR_to _ | assumption | decide)).trans ?_
  refine (gd_t (show b1R 1 by decide)).trans ?_
  rw [h.2.1]
  rw [if_neg (by decide), if_pos rfl]
  refine (gd_t (by first | exact ⟨by omega, by omega⟩ | exact ⟨by omega, by omega, by omega⟩ | exact ⟨by omega, by omega, by omega, by omega⟩ | omega | exact inR_to _ | assumption | decide)).trans ?_
  rw [if_neg (by decide)]
  rfl
theorem g22_63_1 {tx : Int → Int} {len pos d : Int} {S : St} {rc : St → Int → Int → Option (Int × St)} (hQ : QX tx len) (h : RC0 tx len S pos) (hc : tx pos = 63) (d0 : 0 ≤ d) (d1 : d < 10) : g22b rc S 1 d = g37b rc (S.f 1 4 (pos + 1)) 0 1 d := by
  have e0 := g23_0 hQ h
  rw [hc] at e0
  unfold g22b
  rw [e0]
  refine (ob_t rfl).trans ?_
  refine (gd_t (by first | exact ⟨by omega, by omega⟩ | exact ⟨by omega, by omega, by omega⟩ | exact ⟨by omega, by omega, by omega, by omega⟩ | omega | exact inR_to _ | assumption | decide)).trans ?_
  rw [if_pos (by decide)]
  refine (gd_t (by first | exact ⟨by omega, by omega⟩ | exact ⟨by omega, by omega, by omega⟩ | exact ⟨by omega, by omega, by omega, by omega⟩ | omega | exact inR_to _ | assumption | decide)).trans ?_
  rw [if_pos d1, h.2.1]
  rw [if_neg (by decide), if_neg (by decide), if_neg (by decide), if_pos rfl]
  refine (gd_t (by first | exact ⟨by omega, by omega⟩ | exact ⟨by omega, by omega, by omega⟩ | exact ⟨by omega, by omega, by omega, by omega⟩ | omega | exact inR_to _ | assumption | decide)).trans ?_
  rw [if_pos rfl]
  exact ob_id _
theorem L10_126_0 {tx : Int → Int} {len pos d v4 : Int} {T : St} {n : Nat} (hQ : QX tx len) (h : RM tx len T pos) (hc : tx pos = 126) (d0 : 0 ≤ d) (d1 : d < 10) : g101L10 (n + 1) 0 d v4 1 T = g101L10 n 1 (d + 1) v4 1 ((((T.f 36 27 (pos + 1)).a 54 d 126).a 55 d 0).a 56 d 0) := by
  have e0 := g102_t hQ h
  rw [hc] at e0
  rw [g101L10]
  refine (gd_t (by first | exact ⟨by omega, by omega⟩ | exact ⟨by omega, by omega, by omega⟩ | exact ⟨by omega, by omega, by omega, by omega⟩ | omega | exact inR_to _ | assumption | decide)).trans ?_
  rw [if_neg (by decide), if_pos h.2.2.1, e0]
  refine (ob_t rfl).trans ?_
  refine (gd_t (by first | exact ⟨by omega, by omega⟩ | exact ⟨by omega, by omega, by omega⟩ | exact ⟨by omega, by omega, by omega, by omega⟩ | omega | exact inR_to _ | assumption | decide)).trans ?_
  rw [if_neg (by decide), if_pos (by decide)]
  have e115 : g115 T 126 = some 1 := rfl
  rw [e115]
  refine (ob_t rfl).trans ?_
  refine (gd_t (by first | exact ⟨by omega, by omega⟩ | exact ⟨by omega, by omega, by omega⟩ | exact ⟨by omega, by omega, by omega, by omega⟩ | omega | exact inR_to _ | assumption | decide)).trans ?_
  rw [if_neg (by decide)]
  refine (gd_t (by first | exact ⟨by omega, by omega⟩ | exact ⟨by omega, by omega, by omega⟩ | exact ⟨by omega, by omega, by omega, by omega⟩ | omega | exact inR_to _ | assumption | decide)).trans ?_
  rw [if_pos d1]
  refine (gd_t (by first | exact ⟨by omega, by omega⟩ | exact ⟨by omega, by omega, by omega⟩ | exact ⟨by omega, by omega, by omega, by omega⟩ | omega | exact inR_to _ | assumption | decide)).trans ?_
  refine (gd_t (show b1R 0 by decide)).trans ?_
  rw [h.2.1]
  rw [if_neg (by decide), if_neg (by decide), if_pos rfl]
  refine (gd_t (by first | exact ⟨by omega, by omega⟩ | exact ⟨by omega, by omega, by omega⟩ | exact ⟨by omega, by omega, by omega, by omega⟩ | omega | exact inR_to _ | assumption | decide)).trans ?_
  rw [if_pos rfl]
theorem g22_126_0 {tx : Int → Int} {len pos d : Int} {S : St} {rc : St → Int → Int → Option (Int × St)} (hQ : QX tx len) (h : RC0 tx len S pos) (hc : tx pos = 126) (d0 : 0 ≤ d) (d1 : d < 10) : g22b rc S 0 d = rc (S.f 1 4 (pos + 1)) 1 (d + 1) := by
  have e0 := g23_0 hQ h
  rw [hc] at e0
  unfold g22b
  rw [e0]
  refine (ob_t rfl).trans ?_
  refine (gd_t (by first | exact ⟨by omega, by omega⟩ | exact ⟨by omega, by omega, by omega⟩ | exact ⟨by omega, by omega, by omega, by omega⟩ | omega | exact inR_to _ | assumption | decide)).trans ?_
  rw [if_neg (by decide), if_pos (by decide)]
  refine (gd_t (by first | exact ⟨by omega, by omega⟩ | exact ⟨by omega, by omega, by omega⟩ | exact ⟨by omega, by omega, by omega, by omega⟩ | omega | exact inR_to _ | assumption | decide)).trans ?_
  rw [if_pos d1, h.2.1]
  rw [if_neg (by decide), if_neg (by decide), if_neg (by decide), if_neg (by decide), if_neg (by decide), if_pos rfl]
  refine (gd_t (by first | exact ⟨by omega, by omega⟩ | exact ⟨by omega, by omega, by omega⟩ | exact ⟨by omega, by omega, by omega, by omega⟩ | omega | exact inR_to _ | assumption | decide)).trans ?_
  rw [if_pos rfl]
  exact ob_id _
theorem L10_126_1 {tx : Int → Int} {len pos d v4 : Int} {T : St} {n : Nat} (hQ : QX tx len) (h : RM tx len T pos) (hc : tx pos = 126) (d0 : 0 ≤ d) (d1 : d < 10) : g101L10 (n + 1) 1 d v4 1 T = g101L10 n 0 (d + 1) v4 1 ((((T.f 36 27 (pos + 1)).a 54 d 126).a 55 d 1).a 56 d 0) := by
  have e0 := g102_t hQ h
  rw [hc] at e0
  rw [g101L10]
  refine (gd_t (by first | exact ⟨by omega, by omega⟩ | exact ⟨by omega, by omega, by omega⟩ | exact ⟨by omega, by omega, by omega, by omega⟩ | omega | exact inR_to _ | assumption | decide)).trans ?_
  rw [if_neg (by decide), if_pos h.2.2.1, e0]
  refine (ob_t rfl).trans ?_
  refine (gd_t (by first | exact ⟨by omega, by omega⟩ | exact ⟨by omega, by omega, by omega⟩ | exact ⟨by omega, by omega, by omega, by omega⟩ | omega | exact inR_to _ | assumption | decide)).trans ?_
  rw [if_neg (by decide), if_pos (by decide)]
  have e115 : g115 T 126 = some 1 := rfl
  rw [e115]
  refine (ob_t rfl).trans ?_
  refine (gd_t (by first | exact ⟨by omega, by omega⟩ | exact ⟨by omega, by omega, by omega⟩ | exact ⟨by omega, by omega, by omega, by omega⟩ | omega | exact inR_to _ | assumption | decide)).trans ?_
  rw [if_neg (by decide)]
  refine (gd_t (by first | exact ⟨by omega, by omega⟩ | exact ⟨by omega, by omega, by omega⟩ | exact ⟨by omega, by omega, by omega, by omega⟩ | omega | exact inR_to _ | assumption | decide)).trans ?_
  rw [if_pos d1]
  refine (gd_t (by first | exact ⟨by omega, by omega⟩ | exact ⟨by omega, by omega, by omega⟩ | exact ⟨by omega, by omega, by omega, by omega⟩ | omega | exact inR_to _ | assumption | decide)).trans ?_
  refine (gd_t (show b1R 1 by decide)).trans ?_
  rw [h.2.1]
  rw [if_neg (by decide), if_neg (by decide), if_pos rfl]
  refine (gd_t (by first | exact ⟨by omega, by omega⟩ | exact ⟨by omega, by omega, by omega⟩ | exact ⟨by omega, by omega, by omega, by omega⟩ | omega | exact inR_to _ | assumption | decide)).trans ?_
  rw [if_neg (by decide)]
theorem g22_126_1 {tx : Int → Int} {len pos d : Int} {S : St} {rc : St → Int → Int → Option (Int × St)} (hQ : QX tx len) (h : RC0 tx len S pos) (hc : tx pos = 126) (d0 : 0 ≤ d) (d1 : d < 10) : g22b rc S 1 d = rc (S.f 1 4 (pos + 1)) 0 (d + 1) := by
  have e0 := g23_0 hQ h
  rw [hc] at e0
  unfold g22b
  rw [e0]
  refine (ob_t rfl).trans ?_
  refine (gd_t (by first | exact ⟨by omega, by omega⟩ | exact ⟨by omega, by omega, by omega⟩ | exact ⟨by omega, by omega, by omega, by omega⟩ | omega | exact inR_to _ | assumption | decide)).trans ?_
  rw [if_neg (by decide), if_pos (by decide)]
  refine (gd_t (by first | exact ⟨by omega, by omega⟩ | exact ⟨by omega, by omega, by omega⟩ | exact ⟨by omega, by omega, by omega, by omega⟩ | omega | exact inR_to _ | assumption | decide)).trans ?_
  rw [if_pos d1, h.2.1]
  rw [if_neg (by decide), if_neg (by decide), if_neg (by decide), if_neg (by decide), if_neg (by decide), if_pos rfl]
  refine (gd_t (by first | exact ⟨by omega, by omega⟩ | exact ⟨by omega, by omega, by omega⟩ | exact ⟨by omega, by omega, by omega, by omega⟩ | omega | exact inR_to _ | assumption | decide)).trans ?_
  rw [if_neg (by decide)]
  exact ob_id _
theorem L10_62_0 {tx : Int → Int} {len pos d v4 : Int} {T : St} {n : Nat} (hQ : QX tx len) (h : RM tx len T pos) (hc : tx pos = 62) (d0 : 0 ≤ d) (d1 : d < 10) : g101L10 (n + 1) 0 d v4 1 T = g101L10 n 1 (d + 1) v4 1 ((((T.f 36 27 (pos + 1)).a 54 d 62).a 55 d 0).a 56 d 0) := by
  have e0 := g102_t hQ h
  rw [hc] at e0
  rw [g101L10]
  refine (gd_t (by first | exact ⟨by omega, by omega⟩ | exact ⟨by omega, by omega, by omega⟩ | exact ⟨by omega, by omega, by omega, by omega⟩ | omega | exact inR_to _ | assumption | decide)).trans ?_
  rw [if_neg (by decide), if_pos h.2.2.1, e0]
  refine (ob_t rfl).trans ?_
  refine (gd_t (by first | exact ⟨by omega, by omega⟩ | exact ⟨by omega, by omega, by omega⟩ | exact ⟨by omega, by omega, by omega, by omega⟩ | omega | exact inR_to _ | assumption | decide)).trans ?_
  rw [if_pos (by decide)]
  have e115 : g115 T 62 = some 1 := rfl
  rw [e115]
  refine (ob_t rfl).trans ?_
  refine (gd_t (by first | exact ⟨by omega, by omega⟩ | exact ⟨by omega, by omega, by omega⟩ | exact ⟨by omega, by omega, by omega, by omega⟩ | omega | exact inR_to _ | assumption | decide)).trans ?_
  rw [if_neg (by decide)]
  refine (gd_t (by first | exact ⟨by omega, by omega⟩ | exact ⟨by omega, by omega, by omega⟩ | exact ⟨by omega, by omega, by omega, by omega⟩ | omega | exact inR_to _ | assumption | decide)).trans ?_
  rw [if_pos d1]
  refine (gd_t (by first | exact ⟨by omega, by omega⟩ | exact ⟨by omega, by omega, by omega⟩ | exact ⟨by omega, by omega, by omega, by omega⟩ | omega | exact inR_to _ | assumption | decide)).trans ?_
  refine (gd_t (show b1R 0 by decide)).trans ?_
  rw [h.2.1]
  rw [if_neg (by decide), if_neg (by decide), if_neg (by decide), if_pos rfl]
  refine (gd_t (by first | exact ⟨by omega, by omega⟩ | exact ⟨by omega, by omega, by omega⟩ | exact ⟨by omega, by omega, by omega, by omega⟩ | omega | exact inR_to _ | assumption | decide)).trans ?_
  rw [if_neg (by decide)]
theorem g22_62_0 {tx : Int → Int} {len pos d : Int} {S : St} {rc : St → Int → Int → Option (Int × St)} (hQ : QX tx len) (h : RC0 tx len S pos) (hc : tx pos = 62) (d0 : 0 ≤ d) (d1 : d < 10) : g22b rc S 0 d = g34b rc (S.f 1 4 (pos + 1)) 62 0 d := by
  have e0 := g23_0 hQ h
  rw [hc] at e0
  unfold g22b
  rw [e0]
  refine (ob_t rfl).trans ?_
  refine (gd_t (by first | exact ⟨by omega, by omega⟩ | exact ⟨by omega, by omega, by omega⟩ | exact ⟨by omega, by omega, by omega, by omega⟩ | omega | exact inR_to _ | assumption | decide)).trans ?_
  rw [if_pos (by decide)]
  refine (gd_t (by first | exact ⟨by omega, by omega⟩ | exact ⟨by omega, by omega, by omega⟩ | exact ⟨by omega, by omega, by omega, by omega⟩ | omega | exact inR_to _ | assumption | decide)).trans ?_
  rw [if_pos d1, h.2.1]
  rw [if_neg (by decide), if_neg (by decide), if_pos rfl]
  exact ob_id _
theorem L10_62_1 {tx : Int → Int} {len pos d v4 : Int} {T : St} {n : Nat} (hQ : QX tx len) (h : RM tx len T pos) (hc : tx pos = 62) (d0 : 0 ≤ d) (d1 : d < 10) : g101L10 (n + 1) 1 d v4 1 T = g101L10 n 0 (d + 1) v4 1 ((((T.f 36 27 (pos + 1)).a 54 d 62).a 55 d 1).a 56 d 0) := by
  have e0 := g102_t hQ h
  rw [hc] at e0
  rw [g101L10]
  refine (gd_t (by first | exact ⟨by omega, by omega⟩ | exact ⟨by omega, by omega, by omega⟩ | exact ⟨by omega, by omega, by omega, by omega⟩ | omega | exact inR_to _ | assumption | decide)).trans ?_
  rw [if_neg (by decide), if_pos h.2.2.1, e0]
  refine (ob_t rfl).trans ?_
  refine (gd_t (by first | exact ⟨by omega, by omega⟩ | exact ⟨by omega, by omega, by omega⟩ | exact ⟨by omega, by omega, by omega, by omega⟩ | omega | exact inR_to _ | assumption | decide)).trans ?_
  rw [if_pos (by decide)]
  have e115 : g115 T 62 = some 1 := rfl
  rw [e115]
  refine (ob_t rfl).trans ?_
  refine (gd_t (by first | exact ⟨by omega, by omega⟩ | exact ⟨by omega, by omega, by omega⟩ | exact ⟨by omega, by omega, by omega, by omega⟩ | omega | exact inR_to _ | assumption | decide)).trans ?_
  rw [if_neg (by decide)]
  refine (gd_t (by first | exact ⟨by omega, by omega⟩ | exact ⟨by omega, by omega, by omega⟩ | exact ⟨by omega, by omega, by omega, by omega⟩ | omega | exact inR_to _ | assumption | decide)).trans ?_
  rw [if_pos d1]
  refine (gd_t (by first | exact ⟨by omega, by omega⟩ | exact ⟨by omega, by omega, by omega⟩ | exact ⟨by omega, by omega, by omega, by omega⟩ | omega | exact inR_to _ | assumption | decide)).trans ?_
  refine (gd_t (show b1R 1 by decide)).trans ?_
  rw [h.2.1]
  rw [if_neg (by decide), if_neg (by decide), if_neg (by decide), if_pos rfl]
  refine (gd_t (by first | exact ⟨by omega, by omega⟩ | exact ⟨by omega, by omega, by omega⟩ | exact ⟨by omega, by omega, by omega, by omega⟩ | omega | exact inR_to _ | assumption | decide)).trans ?_
  rw [if_pos rfl]
theorem g22_62_1 {tx : Int → Int} {len pos d : Int} {S : St} {rc : St → Int → Int → Option (Int × St)} (hQ : QX tx len) (h : RC0 tx len S pos) (hc : tx pos = 62) (d0 : 0 ≤ d) (d1 : d < 10) : g22b rc S 1 d = g34b rc (S.f 1 4 (pos + 1)) 62 1 d := by
  have e0 := g23_0 hQ h
  rw [hc] at e0
  unfold g22b
  rw [e0]
  refine (ob_t rfl).trans ?_
  refine (gd_t (by first | exact ⟨by omega, by omega⟩ | exact ⟨by omega, by omega, by omega⟩ | exact ⟨by omega, by omega, by omega, by omega⟩ | omega | exact inR_to _ | assumption | decide)).trans ?_
  rw [if_pos (by decide)]
  refine (gd_t (by first | exact ⟨by omega, by omega⟩ | exact ⟨by omega, by omega, by omega⟩ | exact ⟨by omega, by omega, by omega, by omega⟩ | omega | exact inR_to _ | assumption | decide)).trans ?_
  rw [if_pos d1, h.2.1]
  rw [if_neg (by decide), if_neg (by decide), if_pos rfl]
  exact ob_id _
theorem L10_38_0 {tx : Int → Int} {len pos d v4 : Int} {T : St} {n : Nat} (hQ : QX tx len) (h : RM tx len T pos) (hc : tx pos = 38) (d0 : 0 ≤ d) (d1 : d < 10) : g101L10 (n + 1) 0 d v4 1 T = g101L10 n 0 (d + 1) v4 1 ((((T.f 36 27 (pos + 1)).a 54 d 38).a 55 d 0).a 56 d 0) := by
  have e0 := g102_t hQ h
  rw [hc] at e0
  rw [g101L10]
  refine (gd_t (by first | exact ⟨by omega, by omega⟩ | exact ⟨by omega, by omega, by omega⟩ | exact ⟨by omega, by omega, by omega, by omega⟩ | omega | exact inR_to _ | assumption | decide)).trans ?_
  rw [if_neg (by decide), if_pos h.2.2.1, e0]
  refine (ob_t rfl).trans ?_
  refine (gd_t (by first | exact ⟨by omega, by omega⟩ | exact ⟨by omega, by omega, by omega⟩ | exact ⟨by omega, by omega, by omega, by omega⟩ | omega | exact inR_to _ | assumption | decide)).trans ?_
  rw [if_pos (by decide)]
  have e115 : g115 T 38 = some 1 := rfl
  rw [e115]
  refine (ob_t rfl).trans ?_
  refine (gd_t (by first | exact ⟨by omega, by omega⟩ | exact ⟨by omega, by omega, by omega⟩ | exact ⟨by omega, by omega, by omega, by omega⟩ | omega | exact inR_to _ | assumption | decide)).trans ?_
  rw [if_neg (by decide)]
  refine (gd_t (by first | exact ⟨by omega, by omega⟩ | exact ⟨by omega, by omega, by omega⟩ | exact ⟨by omega, by omega, by omega, by omega⟩ | omega | exact inR_to _ | assumption | decide)).trans ?_
  rw [if_pos d1]
  refine (gd_t (by first | exact ⟨by omega, by omega⟩ | exact ⟨by omega, by omega, by omega⟩ | exact ⟨by omega, by omega, by omega, by omega⟩ | omega | exact inR_to _ | assumption | decide)).trans ?_
  refine (gd_t (show b1R 0 by decide)).trans ?_
  rw [h.2.1]
  rw [if_neg (by decide), if_neg (by decide), if_neg (by decide), if_neg (by decide)]
  refine (gd_t (by first | exact ⟨by omega, by omega⟩ | exact ⟨by omega, by omega, by omega⟩ | exact ⟨by omega, by omega, by omega, by omega⟩ | omega | exact inR_to _ | assumption | decide)).trans ?_
  rw [if_pos rfl]
theorem g22_38_0 {tx : Int → Int} {len pos d : Int} {S : St} {rc : St → Int → Int → Option (Int × St)} (hQ : QX tx len) (h : RC0 tx len S pos) (hc : tx pos = 38) (d0 : 0 ≤ d) (d1 : d < 10) : g22b rc S 0 d = g34b rc (S.f 1 4 (pos + 1)) 38 0 d := by
  have e0 := g23_0 hQ h
  rw [hc] at e0
  unfold g22b
  rw [e0]
  refine (ob_t rfl).trans ?_
  refine (gd_t (by first | exact ⟨by omega, by omega⟩ | exact ⟨by omega, by omega, by omega⟩ | exact ⟨by omega, by omega, by omega, by omega⟩ | omega | exact inR_to _ | assumption | decide)).trans ?_
  rw [if_pos (by decide)]
  refine (gd_t (by first | exact ⟨by omega, by omega⟩ | exact ⟨by omega, by omega, by omega⟩ | exact ⟨by omega, by omega, by omega, by omega⟩ | omega | exact inR_to _ | assumption | decide)).trans ?_
  rw [if_pos d1, h.2.1]
  rw [if_neg (by decide), if_pos rfl]
  exact ob_id _
theorem L10_38_1 {tx : Int → Int} {len pos d v4 : Int} {T : St} {n : Nat} (hQ : QX tx len) (h : RM tx len T pos) (hc : tx pos = 38) (d0 : 0 ≤ d) (d1 : d < 10) : g101L10 (n + 1) 1 d v4 1 T = g101L10 n 1 (d + 1) v4 1 ((((T.f 36 27 (pos + 1)).a 54 d 38).a 55 d 1).a 56 d 0) := by
  have e0 := g102_t hQ h
  rw [hc] at e0
  rw [g101L10]
  refine (gd_t (by first | exact ⟨by omega, by omega⟩ | exact ⟨by omega, by omega, by omega⟩ | exact ⟨by omega, by omega, by omega, by omega⟩ | omega | exact inR_to _ | assumption | decide)).trans ?_
  rw [if_neg (by decide), if_pos h.2.2.1, e0]
  refine (ob_t rfl).trans ?_
  refine (gd_t (by first | exact ⟨by omega, by omega⟩ | exact ⟨by omega, by omega, by omega⟩ | exact ⟨by omega, by omega, by omega, by omega⟩ | omega | exact inR_to _ | assumption | decide)).trans ?_
  rw [if_pos (by decide)]
  have e115 : g115 T 38 = some 1 := rfl
  rw [e115]
  refine (ob_t rfl).trans ?_
  refine (gd_t (by first | exact ⟨by omega, by omega⟩ | exact ⟨by omega, by omega, by omega⟩ | exact ⟨by omega, by omega, by omega, by omega⟩ | omega | exact inR_to _ | assumption | decide)).trans ?_
  rw [if_neg (by decide)]
  refine (gd_t (by first | exact ⟨by omega, by omega⟩ | exact ⟨by omega, by omega, by omega⟩ | exact ⟨by omega, by omega, by omega, by omega⟩ | omega | exact inR_to _ | assumption | decide)).trans ?_
  rw [if_pos d1]
  refine (gd_t (by first | exact ⟨by omega, by omega⟩ | exact ⟨by omega, by omega, by omega⟩ | exact ⟨by omega, by omega, by omega, by omega⟩ | omega | exact inR_to _ | assumption | decide)).trans ?_
  refine (gd_t (show b1R 1 by decide)).trans ?_
  rw [h.2.1]
  rw [if_neg (by decide), if_neg (by decide), if_neg (by decide), if_neg (by decide)]
  refine (gd_t (by first | exact ⟨by omega, by omega⟩ | exact ⟨by omega, by omega, by omega⟩ | exact ⟨by omega, by omega, by omega, by omega⟩ | omega | exact inR_to _ | assumption | decide)).trans ?_
  rw [if_neg (by decide)]
theorem g22_38_1 {tx : Int → Int} {len pos d : Int} {S : St} {rc : St → Int → Int → Option (Int × St)} (hQ : QX tx len) (h : RC0 tx len S pos) (hc : tx pos = 38) (d0 : 0 ≤ d) (d1 : d < 10) : g22b rc S 1 d = g34b rc (S.f 1 4 (pos + 1)) 38 1 d := by
  have e0 := g23_0 hQ h
  rw [hc] at e0
  unfold g22b
  rw [e0]
  refine (ob_t rfl).trans ?_
  refine (gd_t (by first | exact ⟨by omega, by omega⟩ | exact ⟨by omega, by omega, by omega⟩ | exact ⟨by omega, by omega, by omega, by omega⟩ | omega | exact inR_to _ | assumption | decide)).trans ?_
  rw [if_pos (by decide)]
  refine (gd_t (by first | exact ⟨by omega, by omega⟩ | exact ⟨by omega, by omega, by omega⟩ | exact ⟨by omega, by omega, by omega, by omega⟩ | omega | exact inR_to _ | assumption | decide)).trans ?_
  rw [if_pos d1, h.2.1]
  rw [if_neg (by decide), if_pos rfl]
  exact ob_id _
theorem L10_124_0 {tx : Int → Int} {len pos d v4 : Int} {T : St} {n : Nat} (hQ : QX tx len) (h : RM tx len T pos) (hc : tx pos = 124) (d0 : 0 ≤ d) (d1 : d < 10) : g101L10 (n + 1) 0 d v4 1 T = g101L10 n 0 (d + 1) v4 1 ((((T.f 36 27 (pos + 1)).a 54 d 124).a 55 d 0).a 56 d 0) := by
  have e0 := g102_t hQ h
  rw [hc] at e0
  rw [g101L10]
  refine (gd_t (by first | exact ⟨by omega, by omega⟩ | exact ⟨by omega, by omega, by omega⟩ | exact ⟨by omega, by omega, by omega, by omega⟩ | omega | exact inR_to _ | assumption | decide)).trans ?_
  rw [if_neg (by decide), if_pos h.2.2.1, e0]
  refine (ob_t rfl).trans ?_
  refine (gd_t (by first | exact ⟨by omega, by omega⟩ | exact ⟨by omega, by omega, by omega⟩ | exact ⟨by omega, by omega, by omega, by omega⟩ | omega | exact inR_to _ | assumption | decide)).trans ?_
  rw [if_neg (by decide), if_pos (by decide)]
  have e115 : g115 T 124 = some 1 := rfl
  rw [e115]
  refine (ob_t rfl).trans ?_
  refine (gd_t (by first | exact ⟨by omega, by omega⟩ | exact ⟨by omega, by omega, by omega⟩ | exact ⟨by omega, by omega, by omega, by omega⟩ | omega | exact inR_to _ | assumption | decide)).trans ?_
  rw [if_neg (by decide)]
  refine (gd_t (by first | exact ⟨by omega, by omega⟩ | exact ⟨by omega, by omega, by omega⟩ | exact ⟨by omega, by omega, by omega, by omega⟩ | omega | exact inR_to _ | assumption | decide)).trans ?_
  rw [if_pos d1]
  refine (gd_t (by first | exact ⟨by omega, by omega⟩ | exact ⟨by omega, by omega, by omega⟩ | exact ⟨by omega, by omega, by omega, by omega⟩ | omega | exact inR_to _ | assumption | decide)).trans ?_
  refine (gd_t (show b1R 0 by decide)).trans ?_
  rw [h.2.1]
  rw [if_neg (by decide), if_neg (by decide), if_neg (by decide), if_neg (by decide)]
  refine (gd_t (by first | exact ⟨by omega, by omega⟩ | exact ⟨by omega, by omega, by omega⟩ | exact ⟨by omega, by omega, by omega, by omega⟩ | omega | exact inR_to _ | assumption | decide)).trans ?_
  rw [if_pos rfl]
theorem g22_124_0 {tx : Int → Int} {len pos d : Int} {S : St} {rc : St → Int → Int → Option (Int × St)} (hQ : QX tx len) (h : RC0 tx len S pos) (hc : tx pos = 124) (d0 : 0 ≤ d) (d1 : d < 10) : g22b rc S 0 d = g34b rc (S.f 1 4 (pos + 1)) 124 0 d := by
  have e0 := g23_0 hQ h
  rw [hc] at e0
  unfold g22b
  rw [e0]
  refine (ob_t rfl).trans ?_
  refine (gd_t (by first | exact ⟨by omega, by omega⟩ | exact ⟨by omega, by omega, by omega⟩ | exact ⟨by omega, by omega, by omega, by omega⟩ | omega | exact inR_to _ | assumption | decide)).trans ?_
  rw [if_neg (by decide), if_pos (by decide)]
  refine (gd_t (by first | exact ⟨by omega, by omega⟩ | exact ⟨by omega, by omega, by omega⟩ | exact ⟨by omega, by omega, by omega, by omega⟩ | omega | exact inR_to _ | assumption | decide)).trans ?_
  rw [if_pos d1, h.2.1]
  rw [if_neg (by decide), if_neg (by decide), if_neg (by decide), if_neg (by decide), if_pos rfl]
  exact ob_id _
theorem L10_124_1 {tx : Int → Int} {len pos d v4 : Int} {T : St} {n : Nat} (hQ : QX tx len) (h : RM tx len T pos) (hc : tx pos = 124) (d0 : 0 ≤ d) (d1 : d < 10) : g101L10 (n + 1) 1 d v4 1 T = g101L10 n 1 (d + 1) v4 1 ((((T.f 36 27 (pos + 1)).a 54 d 124).a 55 d 1).a 56 d 0) := by
  have e0 := g102_t hQ h
  rw [hc] at e0
  rw [g101L10]
  refine (gd_t (by first | exact ⟨by omega, by omega⟩ | exact ⟨by omega, by omega, by omega⟩ | exact ⟨by omega, by omega, by omega, by omega⟩ | omega | exact inR_to _ | assumption | decide)).trans ?_
  rw [if_neg (by decide), if_pos h.2.2.1, e0]
  refine (ob_t rfl).trans ?_
  refine (gd_t (by first | exact ⟨by omega, by omega⟩ | exact ⟨by omega, by omega, by omega⟩ | exact ⟨by omega, by omega, by omega, by omega⟩ | omega | exact inR_to _ | assumption | decide)).trans ?_
  rw [if_neg (by decide), if_pos (by decide)]
  have e115 : g115 T 124 = some 1 := rfl
  rw [e115]
  refine (ob_t rfl).trans ?_
  refine (gd_t (by first | exact ⟨by omega, by omega⟩ | exact ⟨by omega, by omega, by omega⟩ | exact ⟨by omega, by omega, by omega, by omega⟩ | omega | exact inR_to _ | assumption | decide)).trans ?_
  rw [if_neg (by decide)]
  refine (gd_t (by first | exact ⟨by omega, by omega⟩ | exact ⟨by omega, by omega, by omega⟩ | exact ⟨by omega, by omega, by omega, by omega⟩ | omega | exact inR_to _ | assumption | decide)).trans ?_
  rw [if_pos d1]
  refine (gd_t (by first | exact ⟨by omega, by omega⟩ | exact ⟨by omega, by omega, by omega⟩ | exact ⟨by omega, by omega, by omega, by omega⟩ | omega | exact inR_to _ | assumption | decide)).trans ?_
  refine (gd_t (show b1R 1 by decide)).trans ?_
  rw [h.2.1]
  rw [if_neg (by decide), if_neg (by decide), if_neg (by decide), if_neg (by decide)]
  refine (gd_t (by first | exact ⟨by omega, by omega⟩ | exact ⟨by omega, by omega, by omega⟩ | exact ⟨by omega, by omega, by omega, by omega⟩ | omega | exact inR_to _ | assumption | decide)).trans ?_
  rw [if_neg (by decide)]
theorem g22_124_1 {tx : Int → Int} {len pos d : Int} {S : St} {rc : St → Int → Int → Option (Int × St)} (hQ : QX tx len) (h : RC0 tx len S pos) (hc : tx pos = 124) (d0 : 0 ≤ d) (d1 : d < 10) : g22b rc S 1 d = g34b rc (S.f 1 4 (pos + 1)) 124 1 d := by
  have e0 := g23_0 hQ h
  rw [hc] at e0
  unfold g22b
  rw [e0]
  refine (ob_t rfl).trans ?_
  refine (gd_t (by first | exact ⟨by omega, by omega⟩ | exact ⟨by omega, by omega, by omega⟩ | exact ⟨by omega, by omega, by omega, by omega⟩ | omega | exact inR_to _ | assumption | decide)).trans ?_
  rw [if_neg (by decide), if_pos (by decide)]
  refine (gd_t (by first | exact ⟨by omega, by omega⟩ | exact ⟨by omega, by omega, by omega⟩ | exact ⟨by omega, by omega, by omega, by omega⟩ | omega | exact inR_to _ | assumption | decide)).trans ?_
  rw [if_pos d1, h.2.1]
  rw [if_neg (by decide), if_neg (by decide), if_neg (by decide), if_neg (by decide), if_pos rfl]
  exact ob_id _
/-- a pair, as the first object reads it -/
def g34p (rc : St → Int → Int → Option (Int × St)) (S : St) (w v pr d : Int) : Option (Int × St) := ob (rc S w (d + 1)) (fun o5 => gd (inR o5.1) (if o5.1 = (-1) then some ((-1), o5.2) else ob (rc o5.2 v (d + 1)) (fun o9 => gd (inR o9.1) (if o9.1 = (-1) then some ((-1), o9.2) else g35 o9.2 pr o5.1 o9.1))))
theorem g34_62_0 {rc : St → Int → Int → Option (Int × St)} {S : St} {d : Int} : g34b rc S 62 0 d = g34p rc S 1 0 0 d := by
  unfold g34b g34p
  refine (gd_t (by first | exact ⟨by omega, by omega⟩ | exact ⟨by omega, by omega, by omega⟩ | exact ⟨by omega, by omega, by omega, by omega⟩ | omega | exact inR_to _ | assumption | decide)).trans ?_
  rw [if_pos rfl]
  refine (gd_t (by first | exact ⟨by omega, by omega⟩ | exact ⟨by omega, by omega, by omega⟩ | exact ⟨by omega, by omega, by omega, by omega⟩ | omega | exact inR_to _ | assumption | decide)).trans ?_
  rw [if_neg (by decide)]
  refine congrArg _ (funext fun o5 => congrArg _ ?_)
  split
  · rfl
  · refine congrArg _ (funext fun o9 => congrArg _ ?_)
    split
    · rfl
    · rw [if_neg (by decide)]
      rw [if_pos rfl]
      exact ob_id _
theorem g34_62_1 {rc : St → Int → Int → Option (Int × St)} {S : St} {d : Int} : g34b rc S 62 1 d = g34p rc S 0 1 1 d := by
  unfold g34b g34p
  refine (gd_t (by first | exact ⟨by omega, by omega⟩ | exact ⟨by omega, by omega, by omega⟩ | exact ⟨by omega, by omega, by omega, by omega⟩ | omega | exact inR_to _ | assumption | decide)).trans ?_
  rw [if_pos rfl]
  refine (gd_t (by first | exact ⟨by omega, by omega⟩ | exact ⟨by omega, by omega, by omega⟩ | exact ⟨by omega, by omega, by omega, by omega⟩ | omega | exact inR_to _ | assumption | decide)).trans ?_
  rw [if_pos rfl]
  refine congrArg _ (funext fun o5 => congrArg _ ?_)
  split
  · rfl
  · refine congrArg _ (funext fun o9 => congrArg _ ?_)
    split
    · rfl
    · rw [if_neg (by decide)]
      rw [if_neg (by decide)]
      exact ob_id _
theorem g34_38_0 {rc : St → Int → Int → Option (Int × St)} {S : St} {d : Int} : g34b rc S 38 0 d = g34p rc S 0 0 1 d := by
  unfold g34b g34p
  refine (gd_t (by first | exact ⟨by omega, by omega⟩ | exact ⟨by omega, by omega, by omega⟩ | exact ⟨by omega, by omega, by omega, by omega⟩ | omega | exact inR_to _ | assumption | decide)).trans ?_
  rw [if_neg (by decide)]
  refine (gd_t (by first | exact ⟨by omega, by omega⟩ | exact ⟨by omega, by omega, by omega⟩ | exact ⟨by omega, by omega, by omega, by omega⟩ | omega | exact inR_to _ | assumption | decide)).trans ?_
  rw [if_pos rfl]
  refine congrArg _ (funext fun o5 => congrArg _ ?_)
  split
  · rfl
  · refine congrArg _ (funext fun o9 => congrArg _ ?_)
    split
    · rfl
    · rw [if_pos rfl]
      rw [if_neg (by decide)]
      exact ob_id _
theorem g34_38_1 {rc : St → Int → Int → Option (Int × St)} {S : St} {d : Int} : g34b rc S 38 1 d = g34p rc S 1 1 0 d := by
  unfold g34b g34p
  refine (gd_t (by first | exact ⟨by omega, by omega⟩ | exact ⟨by omega, by omega, by omega⟩ | exact ⟨by omega, by omega, by omega, by omega⟩ | omega | exact inR_to _ | assumption | decide)).trans ?_
  rw [if_neg (by decide)]
  refine (gd_t (by first | exact ⟨by omega, by omega⟩ | exact ⟨by omega, by omega, by omega⟩ | exact ⟨by omega, by omega, by omega, by omega⟩ | omega | exact inR_to _ | assumption | decide)).trans ?_
  rw [if_neg (by decide)]
  refine congrArg _ (funext fun o5 => congrArg _ ?_)
  split
  · rfl
  · refine congrArg _ (funext fun o9 => congrArg _ ?_)
    split
    · rfl
    · rw [if_pos rfl]
      rw [if_pos rfl]
      exact ob_id _
theorem g34_124_0 {rc : St → Int → Int → Option (Int × St)} {S : St} {d : Int} : g34b rc S 124 0 d = g34p rc S 0 0 0 d := by
  unfold g34b g34p
  refine (gd_t (by first | exact ⟨by omega, by omega⟩ | exact ⟨by omega, by omega, by omega⟩ | exact ⟨by omega, by omega, by omega, by omega⟩ | omega | exact inR_to _ | assumption | decide)).trans ?_
  rw [if_neg (by decide)]
  refine (gd_t (by first | exact ⟨by omega, by omega⟩ | exact ⟨by omega, by omega, by omega⟩ | exact ⟨by omega, by omega, by omega, by omega⟩ | omega | exact inR_to _ | assumption | decide)).trans ?_
  rw [if_pos rfl]
  refine congrArg _ (funext fun o5 => congrArg _ ?_)
  split
  · rfl
  · refine congrArg _ (funext fun o9 => congrArg _ ?_)
    split
    · rfl
    · rw [if_neg (by decide)]
      exact ob_id _
theorem g34_124_1 {rc : St → Int → Int → Option (Int × St)} {S : St} {d : Int} : g34b rc S 124 1 d = g34p rc S 1 1 1 d := by
  unfold g34b g34p
  refine (gd_t (by first | exact ⟨by omega, by omega⟩ | exact ⟨by omega, by omega, by omega⟩ | exact ⟨by omega, by omega, by omega, by omega⟩ | omega | exact inR_to _ | assumption | decide)).trans ?_
  rw [if_neg (by decide)]
  refine (gd_t (by first | exact ⟨by omega, by omega⟩ | exact ⟨by omega, by omega, by omega⟩ | exact ⟨by omega, by omega, by omega, by omega⟩ | omega | exact inR_to _ | assumption | decide)).trans ?_
  rw [if_neg (by decide)]
  refine congrArg _ (funext fun o5 => congrArg _ ?_)
  split
  · rfl
  · refine congrArg _ (funext fun o9 => congrArg _ ?_)
    split
    · rfl
    · rw [if_neg (by decide)]
      exact ob_id _
