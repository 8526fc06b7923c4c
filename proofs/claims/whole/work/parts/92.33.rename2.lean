/-- codes of the class as cells, variables through r -/
def mr (r : Int → Int) (x : Int) : Int := if x < 32768 then r (x / 256) else mo x
theorem g127L2_t {v1 v2 : Int} : ∀ (r n : Nat) (i : Int) (S : St), 0 ≤ i → i + r = 128 → r < n → ∃ T, g127L2 v1 v2 n i S = some T ∧ Fr [64] S T ∧ (∀ v : Int, v < i → T.A 64 v = S.A 64 v) ∧ ∀ v : Int, i ≤ v → v < 128 → T.A 64 v = -1 := by
  intro r
  induction r with
  | zero =>
    intro n i S i0 hr hn
    obtain ⟨n, rfl⟩ : ∃ k, n = k + 1 := ⟨n - 1, by omega⟩
    refine ⟨S, ?_, Fr.refl _ _, fun _ _ => rfl, fun v v0 v1 => absurd v1 (by omega)⟩
    unfold g127L2
    refine (gd_t (by first | exact ⟨by omega, by omega⟩ | exact ⟨by omega, by omega, by omega⟩ | exact ⟨by omega, by omega, by omega, by omega⟩ | omega | exact inR_to _ | assumption | decide)).trans ?_
    exact if_neg (by omega)
  | succ r ih =>
    intro n i S i0 hr hn
    obtain ⟨n, rfl⟩ : ∃ k, n = k + 1 := ⟨n - 1, by omega⟩
    have e4 : (S.a 64 i (-1)).A 64 = upI (S.A 64) i (-1) := aA_up (by decide)
    obtain ⟨T, t1, t2, t3, t4⟩ := ih n (i + 1) (S.a 64 i (-1)) (by omega) (by omega) (by omega)
    refine ⟨T, ?_, (Fr.a (by decide)).trans t2, fun v hv => ?_, fun v v0 v1 => ?_⟩
    · rw [g127L2]
      refine (gd_t (by first | exact ⟨by omega, by omega⟩ | exact ⟨by omega, by omega, by omega⟩ | exact ⟨by omega, by omega, by omega, by omega⟩ | omega | exact inR_to _ | assumption | decide)).trans ?_
      rw [if_pos (by omega)]
      refine (gd_t (by first | exact ⟨by omega, by omega⟩ | exact ⟨by omega, by omega, by omega⟩ | exact ⟨by omega, by omega, by omega, by omega⟩ | omega | exact inR_to _ | assumption | decide)).trans ?_
      exact t1
    · rw [t3 v (by omega), e4, upI_n (by omega)]
    · by_cases hvi : v = i
      · rw [hvi, t3 i (by omega), e4, upI_e]
      · exact t4 v (by omega) v1
theorem mo_big {x : Int} (h : vx x) (h3 : ¬ x < 32768) : 4096 ≤ mo x := by
  have := mo_v h
  omega
theorem g127L27_t {r : Int → Int} {v2 : Int} (h8 : v2 ≤ 8032) : ∀ (xs : List Int) (n : Nat) (c p : Int) (m : Int → Int) (S : St), 0 ≤ p → p + xs.length = v2 → (∀ i : Int, 0 ≤ i → i < xs.length → S.A 38 (p + i) = mr r (gI xs i)) → (∀ x ∈ xs, vx x ∧ (x < 32768 → 0 ≤ r (x / 256) ∧ r (x / 256) < 128 ∧ S.A 64 (r (x / 256)) = m (x / 256))) → (∀ x ∈ xs, ∀ y ∈ xs, x < 32768 → y < 32768 → r (x / 256) = r (y / 256) → x / 256 = y / 256) → 0 ≤ c → c + xs.length ≤ 128 → (∀ v, m v = -1 ∨ (0 ≤ m v ∧ m v < c)) → xs.length < n → ∃ T, g127L27 v2 n c p S = some T ∧ Fr [38, 64] S T ∧ (∀ i : Int, i < p ∨ v2 ≤ i → T.A 38 i = S.A 38 i) ∧ (∀ i : Int, 0 ≤ i → i < xs.length → T.A 38 (p + i) = mo (gI (rnf m c xs) i)) := by
  intro xs
  induction xs with
  | nil =>
    intro n c p m S p0 hp hx hm hi c0 c1 mv hn
    obtain ⟨n, rfl⟩ : ∃ k, n = k + 1 := ⟨n - 1, by omega⟩
    have hp : p + ((0 : Nat) : Int) = v2 := hp
    refine ⟨S, ?_, Fr.refl _ _, fun _ _ => rfl, fun i i0 i1 => absurd i1 (by show ¬ i < ((0 : Nat) : Int); omega)⟩
    unfold g127L27
    refine (gd_t (by first | exact ⟨by omega, by omega⟩ | exact ⟨by omega, by omega, by omega⟩ | exact ⟨by omega, by omega, by omega, by omega⟩ | omega | exact inR_to _ | assumption | decide)).trans ?_; refine (gd_t (by first | exact ⟨by omega, by omega⟩ | exact ⟨by omega, by omega, by omega⟩ | exact ⟨by omega, by omega, by omega, by omega⟩ | omega | exact inR_to _ | assumption | decide)).trans ?_
    exact if_neg (by omega)
  | cons x xs ih =>
    intro n c p m S p0 hp hx hm hi c0 c1 mv hn
    have hl : ((x :: xs).length : Int) = xs.length + 1 := rfl
    have hn : xs.length + 1 < n := hn
    obtain ⟨n, rfl⟩ : ∃ k, n = k + 1 := ⟨n - 1, by omega⟩
    have e0 : S.A 38 p = mr r x := by
      have := hx 0 (by omega) (by omega)
      rw [show p + 0 = p by omega] at this
      exact this
    have h0 := hm x (List.mem_cons_self)
    have rest : ∀ i : Int, 0 ≤ i → i < xs.length → S.A 38 (p + 1 + i) = mr r (gI xs i) := fun i i0 i1 => by
      have := hx (i + 1) (by omega) (by omega)
      rw [gI_cs i0] at this
      rw [show p + 1 + i = p + (i + 1) by omega]
      exact this
    have hi' : ∀ y ∈ xs, ∀ z ∈ xs, y < 32768 → z < 32768 → r (y / 256) = r (z / 256) → y / 256 = z / 256 := fun y hy z hz => hi y (List.mem_cons_of_mem _ hy) z (List.mem_cons_of_mem _ hz)
    have q := g122_t (S := S) (x := S.A 38 p) (inR_to _)
    by_cases h3 : x < 32768
    · have emr : mr r x = r (x / 256) := if_pos h3
      obtain ⟨r0, r1, hv⟩ := h0.2 h3
      rw [e0, emr, if_pos (by omega)] at q
      by_cases hf : m (x / 256) = -1
      · have e1 : rnf m c (x :: xs) = c * 256 :: rnf (upI m (x / 256) c) (c + 1) xs := by
          rw [rnf, if_pos h3, if_pos hf]
        have cR : inR c := ⟨by omega, by omega⟩
        have e4 : ((S.a 64 (r (x / 256)) c).a 38 p c).A 64 = upI (S.A 64) (r (x / 256)) c := (aA_ne (by decide)).trans (aA_up cR)
        have e2 : ((S.a 64 (r (x / 256)) c).a 38 p c).A 38 = upI (S.A 38) p c := (aA_up cR).trans (by rw [aA_ne (by decide)])
        obtain ⟨T, t1, t2, t3, t4⟩ := ih n (c + 1) (p + 1) (upI m (x / 256) c) ((S.a 64 (r (x / 256)) c).a 38 p c) (by omega) (by omega) (fun i i0 i1 => by rw [e2, upI_n (by omega)]; exact rest i i0 i1) (fun y hy => ⟨(hm y (List.mem_cons_of_mem _ hy)).1, fun hy3 => by
          obtain ⟨q0, q1, q2⟩ := (hm y (List.mem_cons_of_mem _ hy)).2 hy3
          refine ⟨q0, q1, ?_⟩
          rw [e4]
          by_cases hyx : y / 256 = x / 256
          · rw [hyx, upI_e, upI_e]
          · rw [upI_n hyx, upI_n (fun e => hyx (hi y (List.mem_cons_of_mem _ hy) x List.mem_cons_self hy3 h3 e))]
            exact q2⟩) hi' (by omega) (by omega) (fun v => by
          by_cases hvx : v = x / 256
          · rw [hvx, upI_e]; omega
          · rw [upI_n hvx]; rcases mv v with e | e <;> omega) (by omega)
        refine ⟨T, ?_, ((Fr.a (by decide)).trans (Fr.a (by decide))).trans t2, fun i hi => ?_, fun i i0 i1 => ?_⟩
        · rw [g127L27]
          refine (gd_t (by first | exact ⟨by omega, by omega⟩ | exact ⟨by omega, by omega, by omega⟩ | exact ⟨by omega, by omega, by omega, by omega⟩ | omega | exact inR_to _ | assumption | decide)).trans ?_; refine (gd_t (by first | exact ⟨by omega, by omega⟩ | exact ⟨by omega, by omega, by omega⟩ | exact ⟨by omega, by omega, by omega, by omega⟩ | omega | exact inR_to _ | assumption | decide)).trans ?_
          rw [if_pos (by omega)]
          refine (gd_t (by first | exact ⟨by omega, by omega⟩ | exact ⟨by omega, by omega, by omega⟩ | exact ⟨by omega, by omega, by omega, by omega⟩ | omega | exact inR_to _ | assumption | decide)).trans ?_
          rw [e0, emr, q]
          refine (ob_t rfl).trans ?_
          refine (gd_t (by first | exact ⟨by omega, by omega⟩ | exact ⟨by omega, by omega, by omega⟩ | exact ⟨by omega, by omega, by omega, by omega⟩ | omega | exact inR_to _ | assumption | decide)).trans ?_
          rw [if_neg (by decide)]
          refine (gd_t (by first | exact ⟨by omega, by omega⟩ | exact ⟨by omega, by omega, by omega⟩ | exact ⟨by omega, by omega, by omega, by omega⟩ | omega | exact inR_to _ | assumption | decide)).trans ?_
          rw [hv, hf, if_pos (by decide), show (S.a 64 (r (x / 256)) c).A 64 (r (x / 256)) = c from by rw [aA_up cR, upI_e]]
          exact t1
        · rw [t3 i (by omega), e2, upI_n (by omega)]
        · rw [e1]
          by_cases hi : i = 0
          · rw [hi, t3 (p + 0) (by omega), e2, show p + 0 = p by omega, upI_e, gI_c0, mo_var (by omega)]
            omega
          · have := t4 (i - 1) (by omega) (by omega)
            rw [show p + 1 + (i - 1) = p + i by omega] at this
            rw [this, gI_cp (by omega)]
      · have e1 : rnf m c (x :: xs) = m (x / 256) * 256 :: rnf m c xs := by
          rw [rnf, if_pos h3, if_neg hf]
        have mb : 0 ≤ m (x / 256) ∧ m (x / 256) < c := by rcases mv (x / 256) with e | e; exact absurd e hf; exact e
        have cR2 : inR (m (x / 256)) := ⟨by omega, by omega⟩
        have e2 : (S.a 38 p (m (x / 256))).A 38 = upI (S.A 38) p (m (x / 256)) := aA_up cR2
        obtain ⟨T, t1, t2, t3, t4⟩ := ih n c (p + 1) m (S.a 38 p (m (x / 256))) (by omega) (by omega) (fun i i0 i1 => by rw [e2, upI_n (by omega)]; exact rest i i0 i1) (fun y hy => ⟨(hm y (List.mem_cons_of_mem _ hy)).1, fun hy3 => by
          rw [aA_ne (by decide)]
          exact (hm y (List.mem_cons_of_mem _ hy)).2 hy3⟩) hi' c0 (by omega) mv (by omega)
        refine ⟨T, ?_, (Fr.a (by decide)).trans t2, fun i hi => ?_, fun i i0 i1 => ?_⟩
        · rw [g127L27]
          refine (gd_t (by first | exact ⟨by omega, by omega⟩ | exact ⟨by omega, by omega, by omega⟩ | exact ⟨by omega, by omega, by omega, by omega⟩ | omega | exact inR_to _ | assumption | decide)).trans ?_; refine (gd_t (by first | exact ⟨by omega, by omega⟩ | exact ⟨by omega, by omega, by omega⟩ | exact ⟨by omega, by omega, by omega, by omega⟩ | omega | exact inR_to _ | assumption | decide)).trans ?_
          rw [if_pos (by omega)]
          refine (gd_t (by first | exact ⟨by omega, by omega⟩ | exact ⟨by omega, by omega, by omega⟩ | exact ⟨by omega, by omega, by omega, by omega⟩ | omega | exact inR_to _ | assumption | decide)).trans ?_
          rw [e0, emr, q]
          refine (ob_t rfl).trans ?_
          refine (gd_t (by first | exact ⟨by omega, by omega⟩ | exact ⟨by omega, by omega, by omega⟩ | exact ⟨by omega, by omega, by omega, by omega⟩ | omega | exact inR_to _ | assumption | decide)).trans ?_
          rw [if_neg (by decide)]
          refine (gd_t (by first | exact ⟨by omega, by omega⟩ | exact ⟨by omega, by omega, by omega⟩ | exact ⟨by omega, by omega, by omega, by omega⟩ | omega | exact inR_to _ | assumption | decide)).trans ?_
          rw [hv, if_neg (by omega)]
          exact t1
        · rw [t3 i (by omega), e2, upI_n (by omega)]
        · rw [e1]
          by_cases hi : i = 0
          · rw [hi, t3 (p + 0) (by omega), e2, show p + 0 = p by omega, upI_e, gI_c0, mo_var (by omega)]
            omega
          · have := t4 (i - 1) (by omega) (by omega)
            rw [show p + 1 + (i - 1) = p + i by omega] at this
            rw [this, gI_cp (by omega)]
    · have e1 : rnf m c (x :: xs) = x :: rnf m c xs := by
        rw [rnf, if_neg h3]
      have emr : mr r x = mo x := if_neg h3
      have := mo_big h0.1 h3
      rw [e0, emr, if_neg (by omega)] at q
      obtain ⟨T, t1, t2, t3, t4⟩ := ih n c (p + 1) m S (by omega) (by omega) rest (fun y hy => hm y (List.mem_cons_of_mem _ hy)) hi' c0 (by omega) mv (by omega)
      refine ⟨T, ?_, t2, fun i hi => t3 i (by omega), fun i i0 i1 => ?_⟩
      · rw [g127L27]
        refine (gd_t (by first | exact ⟨by omega, by omega⟩ | exact ⟨by omega, by omega, by omega⟩ | exact ⟨by omega, by omega, by omega, by omega⟩ | omega | exact inR_to _ | assumption | decide)).trans ?_; refine (gd_t (by first | exact ⟨by omega, by omega⟩ | exact ⟨by omega, by omega, by omega⟩ | exact ⟨by omega, by omega, by omega, by omega⟩ | omega | exact inR_to _ | assumption | decide)).trans ?_
        rw [if_pos (by omega)]
        refine (gd_t (by first | exact ⟨by omega, by omega⟩ | exact ⟨by omega, by omega, by omega⟩ | exact ⟨by omega, by omega, by omega, by omega⟩ | omega | exact inR_to _ | assumption | decide)).trans ?_
        rw [e0, emr, q]
        refine (ob_t rfl).trans ?_
        refine (gd_t (by first | exact ⟨by omega, by omega⟩ | exact ⟨by omega, by omega, by omega⟩ | exact ⟨by omega, by omega, by omega, by omega⟩ | omega | exact inR_to _ | assumption | decide)).trans ?_
        rw [if_pos rfl]
        exact t1
      · rw [e1]
        by_cases hi : i = 0
        · rw [hi, t3 (p + 0) (by omega), show p + 0 = p by omega, e0, emr]
          rfl
        · have := t4 (i - 1) (by omega) (by omega)
          rw [show p + 1 + (i - 1) = p + i by omega] at this
          rw [this, gI_cp (by omega)]
/-- a literal: V holds of the numbers of its variables -/
def LI (V : Int → Prop) (w : List Int) : Prop := 0 < w.length ∧ 131072 ≤ gI w 0 ∧ (∀ j : Int, 0 < j → j < w.length → gI w j < 131072) ∧ (∀ j : Int, 0 ≤ j → j < w.length → vx (gI w j) ∧ (gI w j < 32768 → V (gI w j / 256))) ∧ Tm (ax (gI w)) w.length 1 0
theorem gI_mem {L : List Int} {i : Int} (i0 : 0 ≤ i) (i1 : i < L.length) : gI L i ∈ L := by
  unfold gI
  rw [List.getD_eq_getElem?_getD, List.getElem?_eq_getElem (by omega : i.toNat < L.length)]
  exact List.getElem_mem _
theorem mem_gI {L : List Int} {x : Int} (h : x ∈ L) : ∃ i : Int, 0 ≤ i ∧ i < L.length ∧ gI L i = x := by
  obtain ⟨i, hi, e⟩ := List.mem_iff_getElem.mp h
  refine ⟨i, by omega, by omega, ?_⟩
  unfold gI
  rw [List.getD_eq_getElem?_getD, show ((i : Nat) : Int).toNat = i by omega, List.getElem?_eq_getElem hi]
  exact e
/-- every place of the row of literals lies in one of them -/
theorem fl_in : ∀ (a : List (List Int)) (p : Int), 0 ≤ p → p < a.flatten.length → ∃ k j : Int, 0 ≤ k ∧ k < a.length ∧ 0 ≤ j ∧ j < (lt a k).length ∧ p = os a k + j := by
  intro a p p0 p1
  have : ∀ d : Nat, (d : Int) ≤ a.length → p < os a d → ∃ k j : Int, 0 ≤ k ∧ k < a.length ∧ 0 ≤ j ∧ j < (lt a k).length ∧ p = os a k + j := by
    intro d
    induction d with
    | zero => intro _ h; rw [show ((0 : Nat) : Int) = 0 from rfl, os_0] at h; omega
    | succ d ih =>
      intro hd h
      by_cases hp : p < os a d
      · exact ih (by omega) hp
      · have := os_s (a := a) (k := d) (by omega) (by omega)
        rw [show ((d + 1 : Nat) : Int) = d + 1 by omega] at h
        exact ⟨d, p - os a d, by omega, by omega, by omega, by omega, by omega⟩
  exact this a.length (by omega) (by rw [os_n]; exact p1)
theorem os_16 {a : List (List Int)} (h : ∀ w ∈ a, w.length ≤ 16) : ∀ d : Nat, (d : Int) ≤ a.length → os a d ≤ 16 * d := by
  intro d
  induction d with
  | zero => intro _; rw [show ((0 : Nat) : Int) = 0 from rfl, os_0]; omega
  | succ d ih =>
    intro hd
    have e := os_s (a := a) (k := d) (by omega) (by omega)
    have e2 := h _ (lt_mem (a := a) (k := d) (by omega) (by omega))
    have := ih (by omega)
    rw [show ((d + 1 : Nat) : Int) = d + 1 by omega]
    omega
theorem rn_WV {V : Int → Prop} {a : List (List Int)} (h4 : a.length ≤ 4) (h : ∀ w ∈ a, w.length ≤ 16 ∧ LI V w) : WV a.length (os a) (gI (rnf (fun _ => -1) 0 a.flatten)) := by
  have h16 := os_16 (fun w hw => (h w hw).1) a.length (by omega)
  have h64 : os a a.length ≤ 64 := by omega
  have hn := os_n a
  have at1 : ∀ p : Int, 0 ≤ p → p < a.flatten.length → _ := fun p p0 p1 => rnf_at a.flatten (fun _ => -1) 0 p (by omega) (fun _ => Or.inl rfl) p0 p1
  have lit : ∀ k : Int, 0 ≤ k → k < a.length → LI V (lt a k) := fun k k0 k1 => (h _ (lt_mem k0 k1)).2
  have vv : ∀ p : Int, 0 ≤ p → p < a.flatten.length → vx (gI a.flatten p) := fun p p0 p1 => by
    obtain ⟨k, j, k0, k1, j0, j1, e⟩ := fl_in a p p0 p1
    rw [e, lt_at k0 k1 j0 j1]
    exact ((lit k k0 k1).2.2.2.1 j j0 j1).1
  have ar : ∀ p : Int, 0 ≤ p → p < a.flatten.length → gI (rnf (fun _ => -1) 0 a.flatten) p % 256 = gI a.flatten p % 256 := fun p p0 p1 => by
    have b := at1 p p0 p1
    have v := vv p p0 p1
    by_cases hx : gI a.flatten p < 32768
    · obtain ⟨j, j0, j1, e⟩ := b.2 hx
      rw [e]
      unfold vx at v
      omega
    · rw [b.1 (by omega)]
  have vu : ∀ p : Int, 0 ≤ p → p < a.flatten.length → vx (gI (rnf (fun _ => -1) 0 a.flatten) p) := fun p p0 p1 => by
    have b := at1 p p0 p1
    have v := vv p p0 p1
    by_cases hx : gI a.flatten p < 32768
    · obtain ⟨j, j0, j1, e⟩ := b.2 hx
      rw [e]
      unfold vx
      omega
    · rw [b.1 (by omega)]
      exact v
  refine ⟨⟨by omega, by omega, os_0 a, h64, fun k k0 k1 => ?_, fun k k0 k1 => ?_, fun p p0 p1 => ?_⟩, fun p p0 p1 => vu p p0 (by omega), fun k k0 k1 => ?_⟩
  · have e := os_s k0 k1
    have l := lit k k0 k1
    have b := os_le (a := a) (k := k + 1) (by omega) (by omega)
    have b0 := os_le (a := a) (k := k) (by omega) (by omega)
    refine ⟨by have := l.1; omega, ?_⟩
    rw [e, show (os a k + ((lt a k).length : Int) - os a k).toNat = (lt a k).length by omega]
    have := Tm_ext (d := os a k) (be := ax (gI (rnf (fun _ => -1) 0 a.flatten))) (lt a k).length 1 0 (fun i i0 i1 => by
      show gI (lt a k) (0 + i) % 256 = gI (rnf (fun _ => -1) 0 a.flatten) (0 + os a k + i) % 256
      rw [ar _ (by omega) (by omega), show 0 + os a k + i = os a k + i by omega, lt_at k0 k1 i0 i1, show 0 + i = i by omega]) l.2.2.2.2
    rw [show 0 + os a k = os a k by omega] at this
    exact this
  · have := os_le (a := a) (k := k) k0 k1
    omega
  · have b := at1 p p0 (by omega)
    have v := vu p p0 (by omega)
    refine ⟨by unfold vx at v; omega, fun hx => ?_⟩
    by_cases hx2 : gI a.flatten p < 32768
    · obtain ⟨j, j0, j1, e⟩ := b.2 hx2
      rw [e]
      constructor <;> omega
    · rw [b.1 (by omega)] at hx
      exact absurd hx hx2
  · have e := os_s k0 k1
    have l := lit k k0 k1
    have b := os_le (a := a) (k := k + 1) (by omega) (by omega)
    have b0 := os_le (a := a) (k := k) (by omega) (by omega)
    have l0 := l.1
    have hh := lt_at (j := 0) k0 k1 (by omega) (by omega)
    rw [show os a k + 0 = os a k by omega] at hh
    refine ⟨by rw [(at1 _ b0.1 (by omega)).1 (by rw [hh]; have := l.2.1; omega), hh]; exact l.2.1, fun p p0 p1 => ?_⟩
    have hj := lt_at (j := p - os a k) k0 k1 (by omega) (by omega)
    rw [show os a k + (p - os a k) = p by omega] at hj
    have l3 := l.2.2.1 (p - os a k) (by omega) (by omega)
    have b := at1 p (by omega) (by omega)
    by_cases hx2 : gI a.flatten p < 32768
    · obtain ⟨j, j0, j1, e⟩ := b.2 hx2
      omega
    · rw [b.1 (by omega), hj]
      exact l3
