def ax (u : Int → Int) (p : Int) : Int := u p % 256
theorem ax_0 (u : Int → Int) (p : Int) : 0 ≤ ax u p := Int.emod_nonneg _ (by decide)
def ter (al : Int → Int) : Nat → Int → Int → Nat
  | 0, _, _ => 0
  | m + 1, o, p => if o ≤ 0 then 0 else ter al m (o - 1 + al p) (p + 1) + 1
theorem ter_Tm {al : Int → Int} : ∀ (m n : Nat) (o p : Int), Tm al n o p → n ≤ m → ter al m o p = n := by
  intro m
  induction m with
  | zero => intro n o p h hn; have : n = 0 := by omega
            subst this; rfl
  | succ m ih =>
    intro n o p h hn
    unfold ter
    cases n with
    | zero => have h : o = 0 := h
              rw [if_pos (by omega)]
    | succ n => rw [if_neg (by have := h.1; omega), ih n _ _ h.2 (by omega)]
/-- how many symbols the term at q has -/
def tz (u : Int → Int) (q : Int) : Nat := ter (ax u) 100 1 q
theorem tz_Tm {u : Int → Int} {n : Nat} {q : Int} (h : Tm (ax u) n 1 q) (hn : n ≤ 100) : tz u q = n := ter_Tm 100 n 1 q h hn
def sm (u : Int → Int) (r q : Int) (n : Nat) : Bool := (List.range n).all fun i => decide (u (r + i) = u (q + i))
theorem sm_iff {u : Int → Int} {r q : Int} {n : Nat} : sm u r q n = true ↔ ∀ j : Int, 0 ≤ j → j < n → u (r + j) = u (q + j) := by
  unfold sm
  rw [List.all_eq_true]
  constructor
  · intro h j h1 h2
    have := h j.toNat (List.mem_range.mpr (by omega))
    rw [decide_eq_true_eq] at this
    rw [show ((j.toNat : Nat) : Int) = j by omega] at this
    exact this
  · intro h i hi
    exact decide_eq_true (h i (by omega) (by have := List.mem_range.mp hi; omega))
/-- two terms, the lesser one alike as far as it goes, have one length -/
theorem Tm_pre {u : Int → Int} {k n : Nat} {r q : Int} (h1 : Tm (ax u) k 1 r) (h2 : Tm (ax u) n 1 q) (he : ∀ j : Int, 0 ≤ j → j < k → j < n → u (r + j) = u (q + j)) : k = n := by
  by_cases hk : k ≤ n
  · have h3 : Tm (ax u) k 1 (r + (q - r)) := Tm_ext k 1 r (fun i c1 c2 => by
      unfold ax
      rw [he i c1 c2 (by omega)]
      congr 2
      omega) h1
    rw [show r + (q - r) = q by omega] at h3
    exact Tm_uniq _ _ _ _ h3 h2
  · have h3 : Tm (ax u) n 1 (q + (r - q)) := Tm_ext n 1 q (fun i c1 c2 => by
      unfold ax
      rw [← he i c1 (by omega) c2]
      congr 2
      omega) h2
    rw [show q + (r - q) = r by omega] at h3
    exact Tm_uniq _ _ _ _ h1 h3
/-- n symbols of u1 from p on are laid on u2 from q on; t and s: the terms put (places, or -1), and by which literal -/
def li (u1 u2 : Int → Int) (l : Int) : Nat → Int → Int → (Int → Int) → (Int → Int) → Bool × (Int → Int) × (Int → Int)
  | 0, _, _, t, s => (true, t, s)
  | n + 1, p, q, t, s =>
    if u1 p < 32768 then
      (if t (u1 p / 256) = -1 then li u1 u2 l n (p + 1) (q + tz u2 q) (upI t (u1 p / 256) q) (upI s (u1 p / 256) l)
       else if sm u2 (t (u1 p / 256)) q (tz u2 q) = true then li u1 u2 l n (p + 1) (q + tz u2 q) t s else (false, t, s))
    else if u1 p = u2 q then li u1 u2 l n (p + 1) (q + 1) t s else (false, t, s)
/-- the clause object at c holds n literals of the symbols u, literal k from o k on -/
def KC (S : St) (c : Nat) (n : Int) (o u : Int → Int) : Prop := ∃ (b s N M : Nat) (f g : Int → Int32) (x w : Int32), S.cl c = some (.ob 5 [b, s] [x, w]) ∧ x.toInt = n ∧ w.toInt = o n ∧ S.cl b = some (.ar N f) ∧ S.cl s = some (.ar M g) ∧ o n ≤ N ∧ N < 1048576 ∧ n < M ∧ M < 1048576 ∧ (∀ k : Int, 0 ≤ k → k ≤ n → (g k).toInt = o k) ∧ (∀ p : Int, 0 ≤ p → p < o n → (f p).toInt = u p)
theorem KC.fr {X : List Nat} {S T : St} (h : Fr X S T) (hX : ∀ c ∈ X, c ∉ [9, 12, 17, 18, 21, 32, 33, 38, 46, 16, 31]) {c : Nat} {n : Int} {o u : Int → Int} (hk : KC S c n o u) : KC T c n o u := by
  obtain ⟨b, s, N, M, f, g, x, w, h1, h2, h3, h4, h5, h6⟩ := hk
  exact ⟨b, s, N, M, f, g, x, w, (h.cl hX c).trans h1, h2, h3, (h.cl hX b).trans h4, (h.cl hX s).trans h5, h6⟩
/-- a well formed clause -/
def WK (n : Int) (o u : Int → Int) : Prop := 0 ≤ n ∧ n ≤ 4 ∧ o 0 = 0 ∧ o n ≤ 64 ∧ (∀ k : Int, 0 ≤ k → k < n → o k < o (k + 1) ∧ Tm (ax u) (o (k + 1) - o k).toNat 1 (o k)) ∧ (∀ k : Int, 0 ≤ k → k ≤ n → 0 ≤ o k ∧ o k ≤ o n) ∧ (∀ p : Int, 0 ≤ p → p < o n → 0 ≤ u p ∧ (u p < 32768 → u p / 256 < o n ∧ u p % 256 = 0))
theorem aA_up {S : St} {c : Nat} {i x : Int} (hx : inR x) : (S.a c i x).A c = upI (S.A c) i x := by
  funext j
  rw [a_A hx, if_pos rfl]
  rfl
theorem aA_ne {S : St} {c d : Nat} {i x : Int} (hd : d ≠ c) : (S.a c i x).A d = S.A d := by
  funext j
  show (((if d = c then upI (S.A0 d) i (eI x) else S.A0 d) j)).toInt = _
  rw [if_neg hd]
  rfl
/-- a place where a term of u stands, not behind w -/
def Bd (u : Int → Int) (w r : Int) : Prop := 0 ≤ r ∧ ∃ k : Nat, Tm (ax u) k 1 r ∧ r + k ≤ w
set_option maxHeartbeats 2000000 in
theorem g56L28_t {c d : Nat} {l n1 n2 E w2 : Int} {o1 u1 o2 u2 : Int → Int} (hl : 0 ≤ l) (hl2 : l < n1) (hW1 : WK n1 o1 u1) (hw2 : w2 = o2 n2) (hE : E ≤ w2) (hw3 : w2 ≤ 64) : ∀ (n m : Nat) (o p q : Int) (S : St), KC S c n1 o1 u1 → KC S d n2 o2 u2 → p + n = o1 (l + 1) → 0 ≤ p → 0 ≤ q → q ≤ E → Tm (ax u1) n o p → Tm (ax u2) (E - q).toNat o q → (∀ v : Int, 0 ≤ v → v < o1 n1 → S.A 24 v = -1 ∨ Bd u2 w2 (S.A 24 v)) → n < m → ∃ T, g56L28 c l d E m q p S = some (if (li u1 u2 l n p q (S.A 24) (S.A 25)).1 = true then .inl T else .inr (0, T)) ∧ Fr [24, 25] S T ∧ T.A 24 = (li u1 u2 l n p q (S.A 24) (S.A 25)).2.1 ∧ T.A 25 = (li u1 u2 l n p q (S.A 24) (S.A 25)).2.2 := by
  intro n
  induction n with
  | zero =>
    intro m o p q S hc hd hp hp0 hq0 hqE h1 h2 ht hm
    obtain ⟨m, rfl⟩ : ∃ k, m = k + 1 := ⟨m - 1, by omega⟩
    obtain ⟨b, s, N, M, f, g, x, w, c1, c2, c3, c4, c5, c6, c7, c8, c9, c10, c11⟩ := hc
    obtain ⟨w1, w2', w3, w4, w5, w6, w7⟩ := hW1
    have e1 := c10 (l + 1) (by omega) (by omega)
    refine ⟨S, ?_, Fr.refl _ _, rfl, rfl⟩
    unfold g56L28
    refine (gC_t c1).trans ?_
    refine (gA_t c5).trans ?_
    have hR := inR_to (g (l + 1))
    refine (gd_t (by first | exact ⟨by omega, by omega⟩ | exact ⟨by omega, by omega, by omega⟩ | exact ⟨by omega, by omega, by omega, by omega⟩ | omega | exact inR_to _ | assumption | decide)).trans ?_; refine (gd_t (by first | exact ⟨by omega, by omega⟩ | exact ⟨by omega, by omega, by omega⟩ | exact ⟨by omega, by omega, by omega, by omega⟩ | omega | exact inR_to _ | assumption | decide)).trans ?_
    refine (if_neg ?_).trans rfl
    show ¬ p < (g (l + 1)).toInt
    omega
  | succ n ih =>
    intro m o p q S hc hd hp hp0 hq0 hqE h1 h2 ht hm
    obtain ⟨m, rfl⟩ : ∃ k, m = k + 1 := ⟨m - 1, by omega⟩
    have hc' := hc
    have hd' := hd
    have hW1' := hW1
    obtain ⟨b, s, N, M, f, g, x, w, c1, c2, c3, c4, c5, c6, c7, c8, c9, c10, c11⟩ := hc
    obtain ⟨b2, s2, N2, M2, f2, g2, x2, y2, d1, d2, d3, d4, d5, d6, d7, d8, d9, d10, d11⟩ := hd
    obtain ⟨w1, w2', w3, w4, w5, w6, w7⟩ := hW1
    have e1 := c10 (l + 1) (by omega) (by omega)
    have o6 := w6 (l + 1) (by omega) (by omega)
    have hpw : p < o1 n1 := by omega
    have e2 := c11 p hp0 hpw
    have v7 := w7 p hp0 hpw
    have hqE2 : q < E := by
      have := h1.1
      by_cases hz : q < E
      · exact hz
      · rw [show (E - q).toNat = 0 by omega] at h2
        have h2 : o = 0 := h2
        omega
    have head : ∀ z, (if (f p).toInt < 32768 then gC S d (fun c94 c95 n96 n97 => ob (g57 S c94 q E) (fun o100 => gd (ixR ((f p).toInt / 256) 64) (if (S.A 24 ((f p).toInt / 256)) = (-1) then g56L28 c l d E m o100 (p + 1) ((S.a 24 ((f p).toInt / 256) q).a 25 ((f p).toInt / 256) l) else ob (g47 S c94 (S.A 24 ((f p).toInt / 256)) q (o100 - q)) (fun o104 => gd (inR o104) (if o104 = 0 then some (.inr (0, S)) else g56L28 c l d E m o100 (p + 1) S))))) else gC S d (fun c108 c109 n110 n111 => gA S c108 (fun N114 f115 => gd (ixR q N114) (if (f p).toInt = (f115 q) then g56L28 c l d E m (q + 1) (p + 1) S else some (.inr (0, S)))))) = z → g56L28 c l d E (m + 1) q p S = z := by
      intro z hz
      rw [← hz]
      conv => lhs; unfold g56L28
      refine (gC_t c1).trans ?_
      refine (gA_t c5).trans ?_
      refine (gd_t (by first | exact ⟨by omega, by omega⟩ | exact ⟨by omega, by omega, by omega⟩ | exact ⟨by omega, by omega, by omega, by omega⟩ | omega | exact inR_to _ | assumption | decide)).trans ?_; refine (gd_t (by first | exact ⟨by omega, by omega⟩ | exact ⟨by omega, by omega, by omega⟩ | exact ⟨by omega, by omega, by omega, by omega⟩ | omega | exact inR_to _ | assumption | decide)).trans ?_
      refine (if_pos (by show p < (g (l + 1)).toInt; omega)).trans ?_
      refine (gA_t c4).trans ?_
      refine (gd_t (by first | exact ⟨by omega, by omega⟩ | exact ⟨by omega, by omega, by omega⟩ | exact ⟨by omega, by omega, by omega, by omega⟩ | omega | exact inR_to _ | assumption | decide)).trans ?_; refine (gd_t (by first | exact ⟨by omega, by omega⟩ | exact ⟨by omega, by omega, by omega⟩ | exact ⟨by omega, by omega, by omega, by omega⟩ | omega | exact inR_to _ | assumption | decide)).trans ?_; refine (gd_t (by first | exact ⟨by omega, by omega⟩ | exact ⟨by omega, by omega, by omega⟩ | exact ⟨by omega, by omega, by omega, by omega⟩ | omega | exact inR_to _ | assumption | decide)).trans ?_
      exact if_pos hqE2
    unfold li
    by_cases hv : u1 p < 32768
    · rw [if_pos hv]
      have hv2 := v7.2 hv
      have hu0 : 0 ≤ u1 p / 256 := Int.ediv_nonneg v7.1 (by decide)
      have hu64 : u1 p / 256 < 64 := by omega
      -- the term of the second at q
      have a0 : ax u1 p = 0 := by unfold ax; exact hv2.2
      have ho := (Tm_le (ax_0 u2) _ _ _ h2).1
      obtain ⟨k, k1, k2, k3⟩ := Tm_split (ax_0 u2) (E - q).toNat 1 (o - 1) q (by omega) (by have := h1.1; omega) (by rw [show 1 + (o - 1) = o by omega]; exact h2)
      have kz : tz u2 q = k := tz_Tm k2 (by omega)
      have k2' : Tm (fun q => (f2 q).toInt % 256) k 1 (q + 0) := Tm_ext (al := ax u2) (be := fun q => (f2 q).toInt % 256) (d := 0) k 1 q (fun i i1 i2 => by
        show u2 (q + i) % 256 = (f2 (q + 0 + i)).toInt % 256
        rw [show q + 0 + i = q + i by omega, d11 (q + i) (by omega) (by omega)]) k2
      rw [Int.add_zero] at k2'
      have ek : g57 S b2 q E = some (q + k) := g57_t d4 (by omega) (by omega) k2' hq0 (by omega)
      have h1' : Tm (ax u1) n (o - 1) (p + 1) := by have := h1.2; rw [a0, show o - 1 + 0 = o - 1 by omega] at this; exact this
      have h2' : Tm (ax u2) (E - (q + k)).toNat (o - 1) (q + k) := by rw [show (E - (q + k)).toNat = (E - q).toNat - k by omega]; exact k3
      have bq : Bd u2 w2 q := ⟨hq0, k, k2, by omega⟩
      rw [kz]
      have hd2 : ∀ z, gd (ixR (u1 p / 256) 64) (if (S.A 24 (u1 p / 256)) = (-1) then g56L28 c l d E m (q + k) (p + 1) ((S.a 24 (u1 p / 256) q).a 25 (u1 p / 256) l) else ob (g47 S b2 (S.A 24 (u1 p / 256)) q (q + k - q)) (fun o104 => gd (inR o104) (if o104 = 0 then some (.inr (0, S)) else g56L28 c l d E m (q + k) (p + 1) S))) = z → g56L28 c l d E (m + 1) q p S = z := by
        intro z hz
        refine head z ?_
        rw [if_pos (by rw [e2]; exact hv), gC_t d1, ek]
        show gd (ixR ((f p).toInt / 256) 64) _ = z
        rw [e2]
        exact hz
      by_cases ht1 : S.A 24 (u1 p / 256) = -1
      · rw [if_pos ht1]
        have fr : Fr [24, 25] S ((S.a 24 (u1 p / 256) q).a 25 (u1 p / 256) l) := (Fr.a (by decide)).trans (Fr.a (by decide))
        have hX : ∀ c ∈ [24, 25], c ∉ [9, 12, 17, 18, 21, 32, 33, 38, 46, 16, 31] := by decide
        have q24 : ((S.a 24 (u1 p / 256) q).a 25 (u1 p / 256) l).A 24 = upI (S.A 24) (u1 p / 256) q := by rw [aA_ne (by decide), aA_up ⟨by omega, by omega⟩]
        have q25 : ((S.a 24 (u1 p / 256) q).a 25 (u1 p / 256) l).A 25 = upI (S.A 25) (u1 p / 256) l := by rw [aA_up ⟨by omega, by omega⟩, aA_ne (by decide)]
        obtain ⟨T, t1, t2, t3, t4⟩ := ih m (o - 1) (p + 1) (q + k) _ (hc'.fr fr hX) (hd'.fr fr hX) (by omega) (by omega) (by omega) (by omega) h1' h2' (fun v v1 v2 => by
          rw [q24]
          unfold upI
          by_cases hvv : v = u1 p / 256
          · rw [if_pos hvv]; exact Or.inr bq
          · rw [if_neg hvv]; exact ht v v1 v2) (by omega)
        rw [q24, q25] at t1 t3 t4
        refine ⟨T, hd2 _ ?_, fr.trans t2, t3, t4⟩
        refine (gd_t (by first | exact ⟨by omega, by omega⟩ | exact ⟨by omega, by omega, by omega⟩ | exact ⟨by omega, by omega, by omega, by omega⟩ | omega | exact inR_to _ | assumption | decide)).trans ?_
        rw [if_pos ht1]
        exact t1
      · rw [if_neg ht1]
        obtain ⟨r0, k9, k10, k11⟩ := (ht (u1 p / 256) hu0 hv2.1).resolve_left ht1
        have g47 := g47_t (S := S) (x := S.A 24 (u1 p / 256)) (y := q) (n := q + k - q) d4 d7 r0 hq0 (by omega) (by omega) (by omega) (by omega)
        have key : (S.A 24 (u1 p / 256) + (q + k - q) ≤ N2 ∧ q + (q + k - q) ≤ N2 ∧ ∀ j : Int, 0 ≤ j → j < q + k - q → f2 (S.A 24 (u1 p / 256) + j) = f2 (q + j)) ↔ sm u2 (S.A 24 (u1 p / 256)) q k = true := by
          rw [sm_iff]
          constructor
          · rintro ⟨_, _, h⟩ j j1 j2
            have kk : k9 = k := Tm_pre k10 k2 (fun i i1 i2 i3 => by
              have := h i i1 (by omega)
              rw [← d11 _ (by omega) (by omega), ← d11 _ (by omega) (by omega), this])
            have := h j j1 (by omega)
            rw [← d11 _ (by omega) (by omega), ← d11 _ (by omega) (by omega), this]
          · intro h
            have kk : k9 = k := Tm_pre k10 k2 (fun i i1 i2 i3 => h i i1 (by omega))
            refine ⟨by omega, by omega, fun j j1 j2 => Int32.toInt_inj.mp ?_⟩
            rw [d11 _ (by omega) (by omega), d11 _ (by omega) (by omega)]
            exact h j j1 (by omega)
        by_cases hs : sm u2 (S.A 24 (u1 p / 256)) q k = true
        · rw [if_pos hs]
          obtain ⟨T, t1, t2, t3, t4⟩ := ih m (o - 1) (p + 1) (q + k) S hc' hd' (by omega) (by omega) (by omega) (by omega) h1' h2' ht (by omega)
          refine ⟨T, hd2 _ ?_, t2, t3, t4⟩
          refine (gd_t (by first | exact ⟨by omega, by omega⟩ | exact ⟨by omega, by omega, by omega⟩ | exact ⟨by omega, by omega, by omega, by omega⟩ | omega | exact inR_to _ | assumption | decide)).trans ?_
          rw [if_neg ht1, g47.1 (key.mpr hs)]
          show gd (inR 1) _ = _
          refine (gd_t (by first | exact ⟨by omega, by omega⟩ | exact ⟨by omega, by omega, by omega⟩ | exact ⟨by omega, by omega, by omega, by omega⟩ | omega | exact inR_to _ | assumption | decide)).trans ?_
          exact t1
        · rw [if_neg hs]
          refine ⟨S, hd2 _ ?_, Fr.refl _ _, rfl, rfl⟩
          refine (gd_t (by first | exact ⟨by omega, by omega⟩ | exact ⟨by omega, by omega, by omega⟩ | exact ⟨by omega, by omega, by omega, by omega⟩ | omega | exact inR_to _ | assumption | decide)).trans ?_
          rw [if_neg ht1, g47.2 (fun h => hs (key.mp h))]
          show gd (inR 0) _ = _
          refine (gd_t (by first | exact ⟨by omega, by omega⟩ | exact ⟨by omega, by omega, by omega⟩ | exact ⟨by omega, by omega, by omega, by omega⟩ | omega | exact inR_to _ | assumption | decide)).trans ?_
          rfl
    · rw [if_neg hv]
      have e3 := d11 q hq0 (by omega)
      have hd2 : ∀ z, (if u1 p = u2 q then g56L28 c l d E m (q + 1) (p + 1) S else some (.inr (0, S))) = z → g56L28 c l d E (m + 1) q p S = z := by
        intro z hz
        refine head z ?_
        rw [if_neg (by rw [e2]; exact hv), gC_t d1]
        refine (gA_t d4).trans ?_
        refine (gd_t (by first | exact ⟨by omega, by omega⟩ | exact ⟨by omega, by omega, by omega⟩ | exact ⟨by omega, by omega, by omega, by omega⟩ | omega | exact inR_to _ | assumption | decide)).trans ?_
        rw [← e2, ← e3] at hz
        exact hz
      by_cases he : u1 p = u2 q
      · rw [if_pos he]
        have ea : ax u1 p = ax u2 q := by unfold ax; rw [he]
        have h2' : Tm (ax u2) (E - (q + 1)).toNat (o - 1 + ax u1 p) (q + 1) := by
          rw [show (E - q).toNat = (E - (q + 1)).toNat + 1 by omega] at h2
          rw [ea]
          exact h2.2
        obtain ⟨T, t1, t2, t3, t4⟩ := ih m _ (p + 1) (q + 1) S hc' hd' (by omega) (by omega) (by omega) (by omega) h1.2 h2' ht (by omega)
        refine ⟨T, hd2 _ ?_, t2, t3, t4⟩
        rw [if_pos he]
        exact t1
      · rw [if_neg he]
        refine ⟨S, hd2 _ ?_, Fr.refl _ _, rfl, rfl⟩
        exact if_neg he
