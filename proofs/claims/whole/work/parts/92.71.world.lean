/-! what the reading of a formula has built so far -/
theorem upX_n {α : Type} {m : Int → α} {i j : Int} {x : α} (h : j ≠ i) : upI m i x j = m j := if_neg h
def VU (uc x : Int) : Prop := 0 ≤ x ∧ x < uc
theorem TD_mono {a : Int → Int} {nu nu' : Int → List Int} (hn : ∀ c, nu c ≠ [] → nu' c = nu c) : ∀ (n : Nat) (o p : Int) (E : List Int), (∀ q : Int, p ≤ q → q < p + n → a q < 4096 → nu (a q) ≠ []) → TD a nu n o p E → TD a nu' n o p E := by
  intro n
  induction n with
  | zero => intro o p E _ h; exact h
  | succ n ih =>
    intro o p E hne h
    obtain ⟨h1, h⟩ := h
    refine ⟨h1, ?_⟩
    rcases h with ⟨c1, c2, F, c3, c4⟩ | ⟨x, F, c1, c2, c3, c4, c5, c6⟩
    · exact Or.inl ⟨c1, c2, F, by rw [hn _ (hne p (Int.le_refl _) (by omega) (by omega))]; exact c3, ih _ _ _ (fun q h1 h2 => hne q (by omega) (by omega)) c4⟩
    · exact Or.inr ⟨x, F, c1, c2, c3, c4, c5, ih _ _ _ (fun q h1 h2 => hne q (by omega) (by omega)) c6⟩
theorem RG.mono {nu nu' : Int → List Int} {V V' : Int → Prop} {o : Int} {E C : List Int} (hn : ∀ c, nu c ≠ [] → nu' c = nu c) (hV : ∀ x, V x → V' x) (h : RG nu V o E C) : RG nu' V' o E C := by
  obtain ⟨h1, h2, h3, h4⟩ := h
  refine ⟨fun a top ha => TD_mono hn _ _ _ _ (fun q q0 q1 hq => ?_) (h1 a top ha), h2, fun c hc hlt => ?_, fun x hx => ⟨(h4 x hx).1, (h4 x hx).2.1, fun hx3 => hV _ ((h4 x hx).2.2 hx3)⟩⟩
  · have e := ha (q - top) (by omega) (by omega)
    rw [show top + (q - top) = q by omega] at e
    rw [e] at hq ⊢
    exact h3 _ (gI_mem (by omega) (by omega)) hq
  · rw [hn c (h3 c hc hlt)]
    exact h3 c hc hlt
theorem LG.mono {nu nu' : Int → List Int} {V V' : Int → Prop} {E C : List Int} (hn : ∀ c, nu c ≠ [] → nu' c = nu c) (hV : ∀ x, V x → V' x) (h : LG nu V E C) : LG nu' V' E C := by
  obtain ⟨x, E', C', h1, h2, h3, h4, h5⟩ := h
  exact ⟨x, E', C', h1, h2, h3, h4, h5.mono hn hV⟩
def NUv (a b : Int → Int) (nu : Int → List Int) (uc : Int) : Prop := ∀ c : Int, nu c ≠ [] → (b c < 0 ∧ ∃ x, nu c = [x] ∧ vx x ∧ x < 32768 ∧ VU uc (x / 256)) ∨ (0 ≤ b c ∧ ∃ (x : Int) (us : List Int), nu c = x :: us ∧ vx x ∧ 32768 ≤ x ∧ x < 131072 ∧ a (b c) = mo x ∧ x % 256 = us.length ∧ ∀ j : Nat, j < us.length → 0 ≤ a (b c + 1 + j) ∧ a (b c + 1 + j) < 128 ∧ b (a (b c + 1 + j)) < 0 ∧ nu (a (b c + 1 + j)) = [gI us j])
/-- a literal of the pool, noted -/
def GL (a a60 a61 : Int → Int) (nu : Int → List Int) (uc top : Int) (l : Int) (E : List Int) : Prop := ∃ C, LG nu (VU uc) E C ∧ 0 ≤ a60 l ∧ a60 l + C.length ≤ top ∧ (∀ j : Int, 0 ≤ j → j < C.length → a (a60 l + j) = gI C j) ∧ a61 l = dn (gI E 0)
/-- a name that stands bound -/
def GE (nu : Int → List Int) (uc : Int) (cd nn : Int → Int) (i : Nat) : Prop := nu (nn i) = cds cd i ∧ TL 1 (cds cd i) ∧ ∀ x ∈ cds cd i, vx x ∧ x < 131072 ∧ (x < 32768 → VU uc (x / 256))
def GQ (a b a60 a61 : Int → Int) (nu : Int → List Int) (uc nn top : Int) (k : Nat) (cd num : Int → Int) (L : List (List Int)) : Prop := NUv a b nu uc ∧ (∀ c, nu c ≠ [] → 0 ≤ c ∧ c < nn) ∧ (∀ c c' x, nu c = [x] → nu c' = [x] → x < 32768 → c = c') ∧ (∀ c, nu c ≠ [] → 0 ≤ b c → b c + (nu c).length ≤ top) ∧ (∀ i : Nat, i < k → GE nu uc cd num i) ∧ ∀ l : Int, 0 ≤ l → l < L.length → GL a a60 a61 nu uc top l (lt L l)
theorem NUv.grow {a a' b : Int → Int} {nu : Int → List Int} {uc top : Int} (h : NUv a b nu uc) (ht : ∀ c, nu c ≠ [] → 0 ≤ b c → b c + (nu c).length ≤ top) (ha : ∀ q : Int, q < top → a' q = a q) : NUv a' b nu uc := fun c hc => by
  rcases h c hc with h1 | ⟨h1, x, us, h2, h3, h4, h5, h6, h7, h8⟩
  · exact Or.inl h1
  · have := ht c hc h1
    rw [h2] at this
    have this : b c + ((us.length + 1 : Nat) : Int) ≤ top := this
    refine Or.inr ⟨h1, x, us, h2, h3, h4, h5, by rw [ha _ (by omega)]; exact h6, h7, fun j hj => ?_⟩
    rw [ha _ (by omega)]
    exact h8 j hj
theorem GL.grow {a a' a60 a61 a60' a61' : Int → Int} {nu nu' : Int → List Int} {uc uc' top top' l : Int} {E : List Int} (h : GL a a60 a61 nu uc top l E) (ha : ∀ q : Int, q < top → a' q = a q) (h60 : a60' l = a60 l) (h61 : a61' l = a61 l) (hn : ∀ c, nu c ≠ [] → nu' c = nu c) (hu : uc ≤ uc') (ht : top ≤ top') : GL a' a60' a61' nu' uc' top' l E := by
  obtain ⟨C, c1, c2, c3, c4, c5⟩ := h
  exact ⟨C, c1.mono hn (fun x hx => ⟨hx.1, by have := hx.2; omega⟩), by rw [h60]; exact c2, by rw [h60]; omega, fun j j0 j1 => by rw [h60, ha _ (by omega)]; exact c4 j j0 j1, by rw [h61]; exact c5⟩
theorem GE.mono {nu nu' : Int → List Int} {uc uc' : Int} {cd cd' num num' : Int → Int} {i : Nat} (h : GE nu uc cd num i) (hn : ∀ c, nu c ≠ [] → nu' c = nu c) (hu : uc ≤ uc') (hc : ∀ j : Nat, j ≤ i → cd' j = cd j) (hm : num' i = num i) : GE nu' uc' cd' num' i := by
  obtain ⟨h1, h2, h3⟩ := h
  have ne : nu (num i) ≠ [] := fun e => by
    rw [h1] at e
    rw [e] at h2
    have h2 : (1 : Int) = 0 := h2
    omega
  unfold GE
  rw [cds_c hc, hm, hn _ ne]
  exact ⟨h1, h2, fun x hx => ⟨(h3 x hx).1, (h3 x hx).2.1, fun h => ⟨((h3 x hx).2.2 h).1, by have := ((h3 x hx).2.2 h).2; omega⟩⟩⟩
/-- a literal more -/
theorem GQ.lit {a a' b a60 a61 a60' a61' : Int → Int} {nu : Int → List Int} {uc nn top top' : Int} {k : Nat} {cd num : Int → Int} {L : List (List Int)} {E C : List Int} (h : GQ a b a60 a61 nu uc nn top k cd num L) (ha : a' = lay a top C) (h60 : a60' = upI a60 L.length top) (h61 : a61' = upI a61 L.length (dn (gI E 0))) (ht : top' = top + C.length) (t0 : 0 ≤ top) (hL : LG nu (VU uc) E C) : GQ a' b a60' a61' nu uc nn top' k cd num (L ++ [E]) := by
  obtain ⟨h1, h2, h3, h4, h5, h6⟩ := h
  have hlo : ∀ q : Int, q < top → a' q = a q := fun q hq => by rw [ha, lay_lo hq]
  refine ⟨h1.grow h4 hlo, h2, h3, fun c hc hb => by have := h4 c hc hb; omega, h5, fun l l0 l1 => ?_⟩
  rw [List.length_append] at l1
  have l1 : l < ((L.length + 1 : Nat) : Int) := l1
  by_cases hl : l < L.length
  · rw [lt_l l0 hl]
    exact (h6 l l0 hl).grow hlo (by rw [h60, upI_n (by omega)]) (by rw [h61, upI_n (by omega)]) (fun _ _ => rfl) (Int.le_refl _) (by omega)
  · have el : l = L.length := by omega
    subst el
    rw [lt_r (Int.le_refl _), Int.sub_self]
    show GL a' a60' a61' nu uc top' L.length E
    refine ⟨C, hL, by rw [h60, upI_e]; exact t0, by rw [h60, upI_e]; omega, fun j j0 j1 => ?_, by rw [h61, upI_e]⟩
    rw [h60, upI_e, ha]
    unfold lay
    rw [if_pos (by omega), show top + j - top = j by omega]
/-- a variable more -/
theorem GQ.univ {a b a60 a61 : Int → Int} {nu : Int → List Int} {uc nn top : Int} {k : Nat} {cd num : Int → Int} {L : List (List Int)} (h : GQ a b a60 a61 nu uc nn top k cd num L) (n0 : 0 ≤ nn) (u0 : 0 ≤ uc) (u1 : uc < 128) (hb : b nn < 0) : GQ a b a60 a61 (upI nu nn [uc * 256]) (uc + 1) (nn + 1) top (k + 1) (upI cd k (uc * 256)) (upI num k nn) L := by
  obtain ⟨h1, h2, h3, h4, h5, h6⟩ := h
  have nno : nu nn = [] := by
    by_cases hh : nu nn = []
    · exact hh
    · have := h2 nn hh; omega
  have hn : ∀ c, nu c ≠ [] → upI nu nn [uc * 256] c = nu c := fun c hc => upX_n (fun (e : c = nn) => hc (by rw [e]; exact nno))
  have hs : ∀ c, upI nu nn [uc * 256] c ≠ [] → c = nn ∨ nu c ≠ [] := fun c hc => by
    by_cases e : c = nn
    · exact Or.inl e
    · rw [upX_n e] at hc
      exact Or.inr hc
  have e0 : upI nu nn [uc * 256] nn = [uc * 256] := if_pos rfl
  have x1 : vx (uc * 256) ∧ uc * 256 < 32768 ∧ uc * 256 / 256 = uc := by unfold vx; omega
  refine ⟨fun c hc => ?_, fun c hc => ?_, fun c c' x e e' hx => ?_, fun c hc hb2 => ?_, fun i hi => ?_, fun l l0 l1 => (h6 l l0 l1).grow (fun _ _ => rfl) rfl rfl hn (by omega) (Int.le_refl _)⟩
  · rcases hs c hc with e | hc2
    · subst e
      exact Or.inl ⟨hb, uc * 256, e0, x1.1, x1.2.1, by rw [x1.2.2]; exact ⟨u0, by omega⟩⟩
    · rw [hn c hc2]
      rcases h1 c hc2 with ⟨b1, x, b2, b3, b4, b5⟩ | ⟨b1, x, us, b2, b3, b4, b5, b6, b7, b8⟩
      · exact Or.inl ⟨b1, x, b2, b3, b4, ⟨b5.1, by have := b5.2; omega⟩⟩
      · refine Or.inr ⟨b1, x, us, b2, b3, b4, b5, b6, b7, fun j hj => ?_⟩
        obtain ⟨d1, d2, d3, d4⟩ := b8 j hj
        exact ⟨d1, d2, d3, by rw [hn _ (by rw [d4]; exact List.cons_ne_nil _ _)]; exact d4⟩
  · rcases hs c hc with e | hc2
    · omega
    · have := h2 c hc2; omega
  · have old : ∀ z : Int, z ≠ nn → upI nu nn [uc * 256] z = [x] → nu z = [x] ∧ x ≠ uc * 256 := fun z hz ez => by
      rw [upX_n hz] at ez
      refine ⟨ez, fun ex => ?_⟩
      rcases h1 z (by rw [ez]; exact List.cons_ne_nil _ _) with ⟨b1, y, b2, b3, b4, b5⟩ | ⟨b1, y, us, b2, b3, b4, _⟩
      · rw [ez] at b2
        cases b2
        have := b5.2
        rw [ex, x1.2.2] at this
        omega
      · rw [ez] at b2
        cases b2
        omega
    by_cases e1 : c = nn
    · by_cases e2 : c' = nn
      · rw [e1, e2]
      · rw [e1, e0] at e
        cases e
        exact absurd rfl (old c' e2 e').2
    · by_cases e2 : c' = nn
      · rw [e2, e0] at e'
        cases e'
        exact absurd rfl (old c e1 e).2
      · exact h3 c c' x (old c e1 e).1 (old c' e2 e').1 hx
  · rcases hs c hc with e | hc2
    · rw [e] at hb2; omega
    · rw [hn c hc2]; exact h4 c hc2 hb2
  · by_cases hik : i = k
    · subst hik
      have ec : cds (upI cd i (uc * 256)) i = [uc * 256] := by
        unfold cds
        rw [upI_e, if_pos x1.2.1]
      unfold GE
      rw [ec, upI_e, e0]
      refine ⟨rfl, ⟨by decide, ?_⟩, fun x hx => ?_⟩
      · show (1 : Int) - 1 + uc * 256 % 256 = 0
        omega
      · rw [List.mem_singleton.mp hx]
        exact ⟨x1.1, by omega, fun _ => by rw [x1.2.2]; exact ⟨u0, by omega⟩⟩
    · exact (h5 i (by omega)).mono hn (by omega) (fun j hj => upI_n (by omega)) (upI_n (by omega))
theorem TL_us : ∀ us : List Int, (∀ x ∈ us, x % 256 = 0) → TL us.length us
  | [], _ => rfl
  | u :: us, h => by
    refine ⟨by show (0 : Int) < ((us.length + 1 : Nat) : Int); omega, ?_⟩
    have h0 := h u (List.mem_cons.mpr (Or.inl rfl))
    have := TL_us us (fun x hx => h x (List.mem_cons_of_mem _ hx))
    show TL (((us.length + 1 : Nat) : Int) - 1 + u % 256) us
    rw [h0, show ((us.length + 1 : Nat) : Int) - 1 + 0 = us.length by omega]
    exact this
/-- the variables around, by number and by code -/
theorem un_ub {nu : Int → List Int} {uc : Int} {cd num b : Int → Int} : ∀ k : Nat, (∀ i : Nat, i < k → GE nu uc cd num i ∧ (cd i < 32768 → b (num i) < 0) ∧ 0 ≤ num i ∧ num i < 128) → (∀ x ∈ ubs cd k, vx x ∧ x < 32768 ∧ VU uc (x / 256) ∧ x % 256 = 0) ∧ ∀ j : Nat, j < (ubs cd k).length → nu (gI (uns num cd k) j) = [gI (ubs cd k) j] ∧ b (gI (uns num cd k) j) < 0 ∧ 0 ≤ gI (uns num cd k) j ∧ gI (uns num cd k) j < 128
  | 0, _ => ⟨fun x hx => absurd hx List.not_mem_nil, fun j hj => absurd hj (Nat.not_lt_zero _)⟩
  | k + 1, h => by
    obtain ⟨i1, i2⟩ := un_ub k (fun i hi => h i (by omega))
    obtain ⟨⟨g1, g2, g3⟩, hb, n0, n1⟩ := h k (by omega)
    by_cases hv : cd k < 32768
    · have eu : ubs cd (k + 1) = ubs cd k ++ [cd k] := by show ubs cd k ++ (if cd k < 32768 then [cd k] else []) = _; rw [if_pos hv]
      have en : uns num cd (k + 1) = uns num cd k ++ [num k] := by show uns num cd k ++ (if cd k < 32768 then [num k] else []) = _; rw [if_pos hv]
      have ec : cds cd k = [cd k] := if_pos hv
      rw [ec] at g1 g3
      have gx := g3 (cd k) (List.mem_singleton.mpr rfl)
      have lu := uns_len num cd k
      rw [eu, en]
      refine ⟨fun x hx => ?_, fun j hj => ?_⟩
      · rcases List.mem_append.mp hx with hx | hx
        · exact i1 x hx
        · rw [List.mem_singleton.mp hx]
          have := gx.1
          refine ⟨gx.1, hv, gx.2.2 hv, ?_⟩
          unfold vx at this
          omega
      · rw [List.length_append] at hj
        have hj : j < (ubs cd k).length + 1 := hj
        by_cases hj2 : j < (ubs cd k).length
        · rw [gI_l (by omega) (by omega), gI_l (by omega) (by omega)]
          exact i2 j hj2
        · rw [gI_r (by omega), gI_r (by omega), show (j : Int) - (uns num cd k).length = 0 by omega, show (j : Int) - (ubs cd k).length = 0 by omega]
          exact ⟨g1, hb hv, n0, n1⟩
    · have eu : ubs cd (k + 1) = ubs cd k := by show ubs cd k ++ (if cd k < 32768 then [cd k] else []) = _; rw [if_neg hv, List.append_nil]
      have en : uns num cd (k + 1) = uns num cd k := by show uns num cd k ++ (if cd k < 32768 then [num k] else []) = _; rw [if_neg hv, List.append_nil]
      rw [eu, en]
      exact ⟨i1, i2⟩
/-- a made function more -/
theorem GQ.exis {a a' b a60 a61 : Int → Int} {nu : Int → List Int} {uc nn top top' fc : Int} {k : Nat} {cd num : Int → Int} {L : List (List Int)} (h : GQ a b a60 a61 nu uc nn top k cd num L) (n0 : 0 ≤ nn) (t0 : 0 ≤ top) (f0 : 0 ≤ fc) (f1 : fc + 1 ≤ 99) (hk : k ≤ 10) (hnum : ∀ i : Nat, i < k → (cd i < 32768 → b (num i) < 0) ∧ 0 ≤ num i ∧ num i < 128 ∧ num i < nn) (ha : ∀ q : Int, q < top → a' q = a q) (ha1 : a' top = 4096 + 128 * (36 + 128 * (fc + 1)) + (uns num cd k).length) (ha2 : ∀ i : Int, 0 ≤ i → i < (uns num cd k).length → a' (top + 1 + i) = gI (uns num cd k) i) (ht : top' = top + 1 + (uns num cd k).length) : GQ a' (upI b nn top) a60 a61 (upI nu nn (bcd true uc fc cd k :: ubs cd k)) uc (nn + 1) top' (k + 1) (upI cd k (bcd true uc fc cd k)) (upI num k nn) L := by
  obtain ⟨h1, h2, h3, h4, h5, h6⟩ := h
  have lu := uns_len num cd k
  have ul := ubs_len cd k
  obtain ⟨ub1, ub2⟩ := un_ub (b := b) k (fun i hi => ⟨h5 i hi, (hnum i hi).1, (hnum i hi).2.1, (hnum i hi).2.2.1⟩)
  have ecd : bcd true uc fc cd k = 65536 + (fc + 1) * 256 + (ubs cd k).length := if_pos rfl
  generalize hx : bcd true uc fc cd k = x at *
  have xv : vx x ∧ 32768 ≤ x ∧ x < 131072 ∧ x % 256 = (ubs cd k).length := by unfold vx; omega
  have emo : mo x = 4096 + 128 * (36 + 128 * (fc + 1)) + (ubs cd k).length := by
    unfold mo
    rw [if_neg (by omega), if_neg (by omega), if_pos (by omega), show (x - 65536) / 256 = fc + 1 by omega]
    omega
  have nno : nu nn = [] := by
    by_cases hh : nu nn = []
    · exact hh
    · have := h2 nn hh; omega
  have hn : ∀ c, nu c ≠ [] → upI nu nn (x :: ubs cd k) c = nu c := fun c hc => upX_n (fun (e : c = nn) => hc (by rw [e]; exact nno))
  have hbn : ∀ c, nu c ≠ [] → upI b nn top c = b c := fun c hc => upI_n (fun e => hc (by rw [e]; exact nno))
  have hs : ∀ c, upI nu nn (x :: ubs cd k) c ≠ [] → c = nn ∨ nu c ≠ [] := fun c hc => by
    by_cases e : c = nn
    · exact Or.inl e
    · rw [upX_n e] at hc
      exact Or.inr hc
  have e0 : upI nu nn (x :: ubs cd k) nn = x :: ubs cd k := if_pos rfl
  have eb0 : upI b nn top nn = top := upI_e _ _ _
  refine ⟨fun c hc => ?_, fun c hc => ?_, fun c c' y e e' hy => ?_, fun c hc hb2 => ?_, fun i hi => ?_, fun l l0 l1 => (h6 l l0 l1).grow ha rfl rfl hn (Int.le_refl _) (by omega)⟩
  · rcases hs c hc with e | hc2
    · subst e
      refine Or.inr ⟨by rw [eb0]; exact t0, x, ubs cd k, e0, xv.1, xv.2.1, xv.2.2.1, by rw [eb0, ha1, emo, lu], xv.2.2.2, fun j hj => ?_⟩
      obtain ⟨d1, d2, d3, d4⟩ := ub2 j hj
      have ne : nu (gI (uns num cd k) j) ≠ [] := by rw [d1]; exact List.cons_ne_nil _ _
      rw [eb0, ha2 j (by omega) (by omega), hbn _ ne, hn _ ne]
      exact ⟨d3, d4, d2, d1⟩
    · rw [hn c hc2, hbn c hc2]
      rcases h1 c hc2 with h | ⟨b1, y, us, b2, b3, b4, b5, b6, b7, b8⟩
      · exact Or.inl h
      · have tt := h4 c hc2 b1
        rw [b2] at tt
        have tt : b c + ((us.length + 1 : Nat) : Int) ≤ top := tt
        refine Or.inr ⟨b1, y, us, b2, b3, b4, b5, by rw [ha _ (by omega)]; exact b6, b7, fun j hj => ?_⟩
        obtain ⟨d1, d2, d3, d4⟩ := b8 j hj
        have ne : nu (a (b c + 1 + j)) ≠ [] := by rw [d4]; exact List.cons_ne_nil _ _
        rw [ha _ (by omega), hbn _ ne, hn _ ne]
        exact ⟨d1, d2, d3, d4⟩
  · rcases hs c hc with e | hc2
    · omega
    · have := h2 c hc2; omega
  · have old : ∀ z : Int, upI nu nn (x :: ubs cd k) z = [y] → z ≠ nn ∧ nu z = [y] := fun z ez => by
      by_cases e1 : z = nn
      · rw [e1, e0] at ez
        have : x = y := (List.cons.inj ez).1
        omega
      · rw [upX_n e1] at ez
        exact ⟨e1, ez⟩
    exact h3 c c' y (old c e).2 (old c' e').2 hy
  · rcases hs c hc with e | hc2
    · rw [e, eb0, e0]
      show top + (((ubs cd k).length + 1 : Nat) : Int) ≤ top'
      omega
    · rw [hn c hc2, hbn c hc2]
      rw [hbn c hc2] at hb2
      have := h4 c hc2 hb2
      omega
  · by_cases hik : i = k
    · subst hik
      have ec : cds (upI cd i x) i = x :: ubs cd i := by
        unfold cds
        rw [upI_e, if_neg (by omega), ubs_c i (fun j hj => upI_n (by omega))]
      unfold GE
      rw [ec, upI_e, e0]
      refine ⟨rfl, ⟨by decide, ?_⟩, fun y hy => ?_⟩
      · rw [show (1 : Int) - 1 + x % 256 = (ubs cd i).length by omega]
        exact TL_us _ (fun y hy => (ub1 y hy).2.2.2)
      · rcases List.mem_cons.mp hy with hy | hy
        · rw [hy]
          exact ⟨xv.1, xv.2.2.1, fun h => by omega⟩
        · have := ub1 y hy
          exact ⟨this.1, by omega, fun _ => this.2.2.1⟩
    · exact (h5 i (by omega)).mono hn (Int.le_refl _) (fun j hj => upI_n (by omega)) (upI_n (by omega))
theorem GQ.pop {a b a60 a61 : Int → Int} {nu : Int → List Int} {uc nn top : Int} {k k' : Nat} {cd num cd' num' : Int → Int} {L : List (List Int)} (h : GQ a b a60 a61 nu uc nn top k' cd' num' L) (hk : k ≤ k') (hc : ∀ i : Nat, i < k → cd i = cd' i ∧ num i = num' i) : GQ a b a60 a61 nu uc nn top k cd num L := ⟨h.1, h.2.1, h.2.2.1, h.2.2.2.1, fun i hi => (h.2.2.2.2.1 i (by omega)).mono (fun _ _ => rfl) (Int.le_refl _) (fun j hj => (hc j (by omega)).1) (hc i hi).2, h.2.2.2.2.2⟩
/-- the names of a formula are good -/
theorem GQ.HG {a b a60 a61 : Int → Int} {nu : Int → List Int} {uc nn top : Int} {k : Nat} {nm cd num : Int → Int} {L : List (List Int)} (h : GQ a b a60 a61 nu uc nn top k cd num L) (hnum : ∀ i : Nat, i < k → 0 ≤ num i ∧ num i < 128) : HG (vrF k nm cd num) nu (VU uc) (fun _ => True) := by
  intro N n e c N' n0 n1 ev _
  have ev : (if lix nm n k < 0 then none else some (cds cd (lix nm n k).toNat, num (lix nm n k), N)) = some (e, c, N') := ev
  by_cases hl : lix nm n k < 0
  · rw [if_pos hl] at ev
    cases ev
  · rw [if_neg hl] at ev
    have lr := lix_r nm n k
    obtain ⟨i, hi⟩ : ∃ i : Nat, lix nm n k = i := ⟨(lix nm n k).toNat, by omega⟩
    rw [hi] at ev lr
    have e1 : (cds cd i, num i, N) = (e, c, N') := Option.some.inj ev
    cases e1
    have g := h.2.2.2.2.1 i (by omega)
    have m := hnum i (by omega)
    exact ⟨trivial, m.1, m.2, g.1, g.2.1, g.2.2⟩
