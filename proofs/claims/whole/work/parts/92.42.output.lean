/-! what a place stands for, written out -/
def xa (f : Int → List Int) (u : Int → Int) (q : Int) : Nat → Nat → List Int
  | 0, _ => []
  | i + 1, j => f (ag u q j) ++ xa f u q i (j + 1)
def xp (u t : Int → Int) : Nat → Int → List Int
  | 0, _ => []
  | n + 1, p => u (st u t p) :: xa (xp u t n) u (st u t p) (u (st u t p) % 256).toNat 0
def XP (u t : Int → Int) (p : Int) : List Int := xp u t 32 p
theorem xa_c {f g : Int → List Int} {u : Int → Int} {q : Int} : ∀ (i j : Nat), (∀ z : Nat, j ≤ z → z < j + i → f (ag u q z) = g (ag u q z)) → xa f u q i j = xa g u q i j
  | 0, _, _ => rfl
  | i + 1, j, h => by
    show f (ag u q j) ++ xa f u q i (j + 1) = g (ag u q j) ++ xa g u q i (j + 1)
    rw [h j (Nat.le_refl _) (by omega), xa_c i (j + 1) (fun z h1 h2 => h z (by omega) (by omega))]
/-- below a place the rank falls -/
theorem ag_H {u : Int → Int} {w1 w2 p : Int} {t : Int → Int} {H : Int → Nat} (hU : PU u w1 w2) (hP : PO u w1 w2 t) (hH : RV u w1 w2 t H) (hp : TP u w1 w2 p) {z : Nat} (hz : (z : Int) < u (st u t p) % 256) : 32768 ≤ u (st u t p) ∧ TP u w1 w2 (ag u (st u t p) z) ∧ H (ag u (st u t p) z) < H p := by
  have ok := st_ok hU hP p hp
  by_cases h : u (st u t p) < 32768
  · have := ok.1.v hU h
    omega
  · have h1 := hH.2.2 _ ok.1 (by omega) z hz
    have h2 := ok.2.2 H hH
    exact ⟨by omega, (ag_TP hU ok.1 hz).1, by omega⟩
theorem xp_s {u : Int → Int} {w1 w2 : Int} {t : Int → Int} {H : Int → Nat} (hU : PU u w1 w2) (hP : PO u w1 w2 t) (hH : RV u w1 w2 t H) : ∀ (e n m : Nat) (p : Int), TP u w1 w2 p → H p < e → e ≤ n → e ≤ m → xp u t n p = xp u t m p := by
  intro e
  induction e with
  | zero => intro n m p hp h; omega
  | succ e ih =>
    intro n m p hp h hn hm
    obtain ⟨n, rfl⟩ : ∃ k, n = k + 1 := ⟨n - 1, by omega⟩
    obtain ⟨m, rfl⟩ : ∃ k, m = k + 1 := ⟨m - 1, by omega⟩
    show u (st u t p) :: _ = u (st u t p) :: _
    refine congrArg _ (xa_c _ _ (fun z _ hz => ?_))
    have h1 := ag_H hU hP hH hp (z := z) (by omega)
    exact ih n m _ h1.2.1 (by omega) (by omega) (by omega)
theorem XP_e {u : Int → Int} {w1 w2 p : Int} {t : Int → Int} (hU : PU u w1 w2) (hP : PO u w1 w2 t) (hp : TP u w1 w2 p) : XP u t p = u (st u t p) :: xa (XP u t) u (st u t p) (u (st u t p) % 256).toNat 0 := by
  obtain ⟨H, hH⟩ := hP.2
  show u (st u t p) :: _ = u (st u t p) :: _
  refine congrArg _ (xa_c _ _ (fun z _ hz => ?_))
  have h1 := ag_H hU hP hH hp (z := z) (by omega)
  have h2 := hH.1 p hp
  exact xp_s hU hP hH (H p) 31 32 _ h1.2.1 h1.2.2 (by omega) (by omega)
theorem XP_ind {u : Int → Int} {w1 w2 : Int} {t : Int → Int} (hU : PU u w1 w2) (hP : PO u w1 w2 t) {P : Int → Prop} (h : ∀ p, TP u w1 w2 p → (∀ z : Nat, (z : Int) < u (st u t p) % 256 → P (ag u (st u t p) z)) → P p) : ∀ p, TP u w1 w2 p → P p := by
  obtain ⟨H, hH⟩ := hP.2
  have : ∀ (e : Nat) (p : Int), TP u w1 w2 p → H p < e → P p := by
    intro e
    induction e with
    | zero => intro p _ h; omega
    | succ e ih =>
      intro p hp he
      refine h p hp (fun z hz => ?_)
      have h1 := ag_H hU hP hH hp hz
      exact ih _ h1.2.1 (by omega)
  exact fun p hp => this (H p + 1) p hp (by omega)
theorem xa_mem {f : Int → List Int} {u : Int → Int} {q x : Int} : ∀ (i j : Nat), x ∈ xa f u q i j → ∃ z : Nat, j ≤ z ∧ z < j + i ∧ x ∈ f (ag u q z)
  | 0, _, h => absurd h List.not_mem_nil
  | i + 1, j, h => by
    rcases List.mem_append.mp h with h | h
    · exact ⟨j, Nat.le_refl _, by omega, h⟩
    · obtain ⟨z, h1, h2, h3⟩ := xa_mem i (j + 1) h
      exact ⟨z, by omega, by omega, h3⟩
theorem XP_mem {u : Int → Int} {w1 w2 : Int} {t : Int → Int} (hU : PU u w1 w2) (hA : AU u w1 w2) (hP : PO u w1 w2 t) : ∀ p, TP u w1 w2 p → ∀ x ∈ XP u t p, ((x = u (st u t p)) ∨ ∃ p', TP u w1 w2 p' ∧ u p' < 131072 ∧ x = u (st u t p')) := by
  refine XP_ind hU hP (fun p hp ih x hx => ?_)
  rw [XP_e hU hP hp] at hx
  rcases List.mem_cons.mp hx with h | h
  · exact Or.inl h
  · obtain ⟨z, _, h2, h3⟩ := xa_mem _ _ h
    have hz : (z : Int) < u (st u t p) % 256 := by omega
    have ok := st_ok hU hP p hp
    rcases ih z hz x h3 with h4 | h4
    · exact Or.inr ⟨_, (ag_TP hU ok.1 hz).1, hA _ ok.1 z hz, h4⟩
    · exact Or.inr h4
/-- a list that is just o terms -/
def TL : Int → List Int → Prop
  | o, [] => o = 0
  | o, x :: w => 0 < o ∧ TL (o - 1 + x % 256) w
theorem TL.app : ∀ (w w' : List Int) (o o' : Int), 0 ≤ o' → TL o w → TL o' w' → TL (o + o') (w ++ w')
  | [], w', o, o', _, h, h' => by
    have h : o = 0 := h
    rw [h, Int.zero_add]
    exact h'
  | x :: w, w', o, o', h0, h, h' => by
    have h : 0 < o ∧ TL (o - 1 + x % 256) w := h
    refine ⟨by omega, ?_⟩
    have := TL.app w w' _ o' h0 h.2 h'
    rw [show o + o' - 1 + x % 256 = o - 1 + x % 256 + o' by omega]
    exact this
theorem TL.Tm : ∀ (w pre : List Int) (o : Int), TL o w → Tm (ax (gI (pre ++ w))) w.length o pre.length
  | [], _, _, h => h
  | x :: w, pre, o, h => by
    have h : 0 < o ∧ TL (o - 1 + x % 256) w := h
    refine ⟨h.1, ?_⟩
    have e : ax (gI (pre ++ x :: w)) pre.length = x % 256 := by
      show gI (pre ++ x :: w) pre.length % 256 = _
      rw [gI_r (Int.le_refl _), Int.sub_self]
      rfl
    have := TL.Tm w (pre ++ [x]) _ h.2
    rw [List.append_assoc, List.length_append] at this
    rw [e]
    exact this
theorem xa_TL {f : Int → List Int} {u : Int → Int} {q : Int} : ∀ (i j : Nat), (∀ z : Nat, j ≤ z → z < j + i → TL 1 (f (ag u q z))) → TL i (xa f u q i j)
  | 0, _, _ => rfl
  | i + 1, j, h => by
    have := TL.app _ _ _ i (by omega) (h j (Nat.le_refl _) (by omega)) (xa_TL i (j + 1) (fun z h1 h2 => h z (by omega) (by omega)))
    rw [show (1 : Int) + (i : Int) = ((i + 1 : Nat) : Int) by omega] at this
    exact this
theorem XP_TL {u : Int → Int} {w1 w2 : Int} {t : Int → Int} (hU : PU u w1 w2) (hP : PO u w1 w2 t) : ∀ p, TP u w1 w2 p → TL 1 (XP u t p) := by
  refine XP_ind hU hP (fun p hp ih => ?_)
  rw [XP_e hU hP hp]
  refine ⟨by decide, ?_⟩
  have h15 := ar_15 hU (st_ok hU hP p hp).1
  have := xa_TL (f := XP u t) (u := u) (q := st u t p) (u (st u t p) % 256).toNat 0 (fun z _ hz => ih z (by omega))
  rw [show ((u (st u t p) % 256).toNat : Int) = 1 - 1 + u (st u t p) % 256 by omega] at this
  exact this
theorem XP_len {u : Int → Int} {w1 w2 : Int} {t : Int → Int} (hU : PU u w1 w2) (hP : PO u w1 w2 t) {p : Int} (hp : TP u w1 w2 p) : 0 < (XP u t p).length := by
  rw [XP_e hU hP hp]
  exact Nat.succ_pos _
/-- the variables that are left -/
def VS (u : Int → Int) (w1 w2 : Int) (t : Int → Int) (v : Int) : Prop := ∃ p, TP u w1 w2 p ∧ u (st u t p) < 32768 ∧ u (st u t p) / 256 = v
theorem XP_LI {u : Int → Int} {w1 w2 : Int} {t : Int → Int} (hU : PU u w1 w2) (hA : AU u w1 w2) (hP : PO u w1 w2 t) (hN : NB u w1 w2 t) {p : Int} (hp : TP u w1 w2 p) (h : 131072 ≤ u p) : LI (VS u w1 w2 t) (XP u t p) ∧ gI (XP u t p) 0 = u p := by
  have e := XP_e hU hP hp
  have es : st u t p = p := st_self (fun h2 => absurd h2.1 (by omega))
  rw [es] at e
  have e0 : gI (XP u t p) 0 = u p := by rw [e]; rfl
  have all : ∀ x ∈ XP u t p, vx x ∧ (x < 32768 → VS u w1 w2 t (x / 256)) := fun x hx => by
    have hx' : ∃ p', TP u w1 w2 p' ∧ x = u (st u t p') := by
      rcases XP_mem hU hA hP p hp x hx with h1 | ⟨p', h1, _, h2⟩
      · exact ⟨p, hp, h1⟩
      · exact ⟨p', h1, h2⟩
    obtain ⟨p', h1, h2⟩ := hx'
    have ok := st_ok hU hP p' h1
    rw [h2]
    exact ⟨(hU.2.2.2.2 _ (ok.1.pc hU)).1, fun h3 => ⟨p', h1, h3, rfl⟩⟩
  refine ⟨⟨XP_len hU hP hp, by rw [e0]; exact h, fun j j0 j1 => ?_, fun j j0 j1 => all _ (gI_mem j0 j1), ?_⟩, e0⟩
  · rw [e] at j1 ⊢
    rw [gI_cp j0]
    have jm := gI_mem (L := xa (XP u t) u p (u p % 256).toNat 0) (i := j - 1) (by omega) (by
      have j1 : j < ((xa (XP u t) u p (u p % 256).toNat 0).length + 1 : Nat) := j1
      omega)
    obtain ⟨z, _, h2, h3⟩ := xa_mem _ _ jm
    have hz : (z : Int) < u p % 256 := by omega
    have ha := hA p hp z hz
    have ht := (ag_TP hU hp hz).1
    rcases XP_mem hU hA hP _ ht _ h3 with h4 | ⟨p', h4, h5, h6⟩
    · rw [h4]; exact st_nh hU hP hN _ ht ha
    · rw [h6]; exact st_nh hU hP hN _ h4 h5
  · have := TL.Tm (XP u t p) [] 1 (XP_TL hU hP p hp)
    exact this
/-- the other's number for each variable -/
theorem RI_ex {u : Int → Int} {w1 w2 : Int} {t b : Int → Int} (hU : PU u w1 w2) (hP : PO u w1 w2 t) (hQ : PO u w1 w2 b) (hC : CO u w1 w2 t b) : ∃ r, RI (VS u w1 w2 t) r ∧ ∀ p, TP u w1 w2 p → mo (u (st u b p)) = mr r (u (st u t p)) := by
  have ex : ∀ v : Int, ∃ y : Int, ∀ p, TP u w1 w2 p → u (st u t p) < 32768 → u (st u t p) / 256 = v → u (st u b p) / 256 = y := fun v => by
    by_cases h : VS u w1 w2 t v
    · obtain ⟨p, h1, h2, h3⟩ := h
      refine ⟨u (st u b p) / 256, fun p' h1' h2' h3' => ?_⟩
      have z1 := (st_ok hU hP p h1).1.v hU h2
      have z2 := (st_ok hU hP p' h1').1.v hU h2'
      rw [(hC.2 p' p h1' h1 h2' h2).mp (by omega)]
    · exact ⟨0, fun p h1 h2 h3 => absurd ⟨p, h1, h2, h3⟩ h⟩
  obtain ⟨r, hr⟩ := Classical.axiomOfChoice ex
  refine ⟨r, ⟨fun v ⟨p, h1, h2, h3⟩ => ?_, fun x y ⟨p, h1, h2, h3⟩ ⟨p', h1', h2', h3'⟩ e => ?_⟩, fun p hp => ?_⟩
  · rw [← hr v p h1 h2 h3]
    have := (st_ok hU hQ p h1).1.v hU ((hC.v h1).mp h2)
    omega
  · rw [← hr x p h1 h2 h3, ← hr y p' h1' h2' h3'] at e
    have z1 := (st_ok hU hQ p h1).1.v hU ((hC.v h1).mp h2)
    have z2 := (st_ok hU hQ p' h1').1.v hU ((hC.v h1').mp h2')
    have := (hC.2 p p' h1 h1' h2 h2').mpr (by omega)
    omega
  · unfold mr
    by_cases h : u (st u t p) < 32768
    · rw [if_pos h, mo_var ((hC.v hp).mp h)]
      exact hr _ p hp h rfl
    · rw [if_neg h, hC.1 p hp (Or.inl (by omega))]
