/-! the literals of a formula can be written -/
def VN (nu : Int → List Int) (x : Int) : Prop := x * 256 < 32768 ∧ ∃ c, nu c = [x * 256]
theorem TD_V {a b a' : Int → Int} {nu : Int → List Int} {uc : Int} (hN : NUv a' b nu uc) : ∀ (n : Nat) (o p : Int) (E : List Int), (∀ q : Int, p ≤ q → q < p + n → a q < 4096 → nu (a q) ≠ []) → TD a nu n o p E → ∀ x ∈ E, x < 32768 → ∃ c, nu c = [x] := by
  intro n
  induction n with
  | zero =>
    intro o p E _ h x hx
    rw [h.2] at hx
    exact absurd hx List.not_mem_nil
  | succ n ih =>
    intro o p E hne h x hx hlt
    rcases h.2 with ⟨c1, c2, F, c3, c4⟩ | ⟨y, F, c1, c2, c3, c4, c5, c6⟩
    · rw [c3] at hx
      rcases List.mem_append.mp hx with hx | hx
      · rcases hN (a p) (hne p (Int.le_refl _) (by omega) (by omega)) with ⟨_, y, b2, _⟩ | ⟨_, y, us, b2, b3, b4, b5, b6, b7, b8⟩
        · rw [b2] at hx
          rw [List.mem_singleton.mp hx]
          exact ⟨a p, b2⟩
        · rw [b2] at hx
          rcases List.mem_cons.mp hx with hx | hx
          · omega
          · obtain ⟨i, i0, i1, ei⟩ := mem_gI hx
            obtain ⟨_, _, _, d4⟩ := b8 i.toNat (by omega)
            rw [show (i.toNat : Int) = i by omega, ei] at d4
            exact ⟨_, d4⟩
      · exact ih _ _ _ (fun q h1 h2 => hne q (by omega) (by omega)) c4 x hx hlt
    · rw [c5] at hx
      rcases List.mem_cons.mp hx with hx | hx
      · omega
      · exact ih _ _ _ (fun q h1 h2 => hne q (by omega) (by omega)) c6 x hx hlt
theorem GQ.wr {T : St} {nu : Int → List Int} {uc nn top : Int} {k : Nat} {cd num : Int → Int} {L : List (List Int)} (h : GQ (T.A 46) (T.A 47) (T.A 60) (T.A 61) nu uc nn top k cd num L) (n128 : nn ≤ 128) (t1 : top ≤ 1024) : ∃ r, RI (VN nu) r ∧ NU (T.A 46) (T.A 47) r nu ∧ ∀ l : Int, 0 ≤ l → l < L.length → LI (VN nu) (lt L l) ∧ T.A 61 l = dn (gI (lt L l) 0) ∧ ∃ (x : Int) (E' : List Int) (n : Nat), lt L l = x :: E' ∧ vx x ∧ 131072 ≤ x ∧ T.A 46 (T.A 60 l) = mo x ∧ TD (T.A 46) nu n (x % 256) (T.A 60 l + 1) E' ∧ NE (T.A 46) nu n (T.A 60 l + 1) ∧ 0 ≤ T.A 60 l ∧ T.A 60 l + 1 + n ≤ 1024 := by
  obtain ⟨h1, h2, h3, h4, h5, h6⟩ := h
  have ex : ∀ v : Int, ∃ y : Int, ∀ c, nu c = [v * 256] → v * 256 < 32768 → c = y := fun v => by
    by_cases hv : VN nu v
    · obtain ⟨hv1, c, hc⟩ := hv
      exact ⟨c, fun c' hc' _ => h3 c' c _ hc' hc hv1⟩
    · exact ⟨0, fun c hc hlt => absurd ⟨hlt, c, hc⟩ hv⟩
  obtain ⟨r, hr⟩ := Classical.axiomOfChoice ex
  have nn0 : ∀ c x, nu c = [x] → 0 ≤ c ∧ c < nn := fun c x e => h2 c (by rw [e]; exact List.cons_ne_nil _ _)
  refine ⟨r, ⟨fun v ⟨hv1, c, hc⟩ => ?_, fun x y ⟨hx1, c, hc⟩ ⟨hy1, c', hc'⟩ e => ?_⟩, fun c c0 c1 hc => ?_, fun l l0 l1 => ?_⟩
  · rw [← hr v c hc hv1]
    have := nn0 c _ hc
    omega
  · rw [← hr x c hc hx1, ← hr y c' hc' hy1] at e
    rw [e, hc'] at hc
    have := (List.cons.inj hc).1
    omega
  · rcases h1 c hc with ⟨b1, x, b2, b3, b4, b5⟩ | ⟨b1, x, us, b2, b3, b4, b5, b6, b7, b8⟩
    · refine Or.inl ⟨b1, x, b2, b3, b4, ?_⟩
      have x256 : x / 256 * 256 = x := by unfold vx at b3; omega
      exact (hr (x / 256) c (by rw [x256]; exact b2) (by omega)).symm
    · have tt := h4 c hc b1
      rw [b2] at tt
      have tt : T.A 47 c + ((us.length + 1 : Nat) : Int) ≤ top := tt
      exact Or.inr ⟨b1, x, us, b2, b3, b4, b5, b6, b7, by omega, b8⟩
  · obtain ⟨C, g1, g2, g3, g4, g5⟩ := h6 l l0 l1
    obtain ⟨x, E', C', e1, e2, e3, e4, e5⟩ := g1
    obtain ⟨k1, k2, k3, k4⟩ := e5
    have cl : (C.length : Int) = C'.length + 1 := by rw [e2]; rfl
    have ha : ∀ j : Int, 0 ≤ j → j < C'.length → T.A 46 (T.A 60 l + 1 + j) = gI C' j := fun j j0 j1 => by
      have := g4 (j + 1) (by omega) (by omega)
      rw [e2, gI_cs j0] at this
      rw [show T.A 60 l + 1 + j = T.A 60 l + (j + 1) by omega]
      exact this
    have ne : ∀ q : Int, T.A 60 l + 1 ≤ q → q < T.A 60 l + 1 + C'.length → T.A 46 q < 4096 → nu (T.A 46 q) ≠ [] := fun q q0 q1 hq => by
      have e := ha (q - (T.A 60 l + 1)) (by omega) (by omega)
      rw [show T.A 60 l + 1 + (q - (T.A 60 l + 1)) = q by omega] at e
      rw [e] at hq ⊢
      exact k3 _ (gI_mem (by omega) (by omega)) hq
    have td := k1 (T.A 46) (T.A 60 l + 1) ha
    have vv := TD_V h1 _ _ _ _ ne td
    have hLG : LG nu (VN nu) (lt L l) C := ⟨x, E', C', e1, e2, e3, e4, k1, k2, k3, fun y hy => ⟨(k4 y hy).1, (k4 y hy).2.1, fun hlt => by
      have y256 : y / 256 * 256 = y := by
        have := (k4 y hy).1
        unfold vx at this
        omega
      obtain ⟨c, hc⟩ := vv y hy hlt
      exact ⟨by omega, c, by rw [y256]; exact hc⟩⟩⟩
    refine ⟨hLG.LI, g5, x, E', C'.length, e1, e3, e4, ?_, td, NE.mk _ _ ne, g2, by omega⟩
    have := g4 0 (Int.le_refl _) (by omega)
    rw [Int.add_zero, e2, gI_c0] at this
    exact this
/-- a row of the second object is listed -/
theorem g98L_t {v2 v3 v4 : Int} {w : List Int} (r0 : 0 ≤ v4) (r1 : v4 < 300) (w8 : w.length ≤ 8) : ∀ (r n : Nat) (v5 : Int) (T : St), 0 ≤ v5 → v5 + r = w.length → T.F 36 24 = w.length → (∀ j : Int, 0 ≤ j → j < w.length → T.A 59 (8 * v4 + j) = gI w j ∧ 0 ≤ gI w j ∧ gI w j < 100 ∧ b1R (T.A 61 (gI w j))) → r < n → ∃ T', g98L151 v2 v3 v4 n v5 T = some T' ∧ Fr [48, 49] T T' ∧ (∀ j : Int, j < v5 → T'.A 48 j = T.A 48 j ∧ T'.A 49 j = T.A 49 j) ∧ ∀ j : Int, v5 ≤ j → j < w.length → T'.A 48 j = T.A 60 (gI w j) ∧ T'.A 49 j = T.A 61 (gI w j) := by
  intro r
  induction r with
  | zero =>
    intro n v5 T z0 hz h24 hw hn
    obtain ⟨n, rfl⟩ : ∃ k, n = k + 1 := ⟨n - 1, by omega⟩
    refine ⟨T, ?_, Fr.refl _ _, fun _ _ => ⟨rfl, rfl⟩, fun j h1 h2 => absurd h2 (by omega)⟩
    unfold g98L151
    refine (gd_t (by first | exact ⟨by omega, by omega⟩ | exact ⟨by omega, by omega, by omega⟩ | exact ⟨by omega, by omega, by omega, by omega⟩ | omega | exact inR_to _ | assumption | decide)).trans ?_
    rw [h24, if_neg (by omega)]
  | succ r ih =>
    intro n v5 T z0 hz h24 hw hn
    obtain ⟨n, rfl⟩ : ∃ k, n = k + 1 := ⟨n - 1, by omega⟩
    obtain ⟨e1, e2, e3, e4⟩ := hw v5 z0 (by omega)
    have i48 : inR (T.A 60 (gI w v5)) := inR_to _
    have i49 : inR (T.A 61 (gI w v5)) := inR_to _
    have d48 : ((T.a 48 v5 (T.A 60 (gI w v5))).a 49 v5 (T.A 61 (gI w v5))).A 48 = upI (T.A 48) v5 (T.A 60 (gI w v5)) := by rw [aA_ne (by decide), aA_up i48]
    have d49 : ((T.a 48 v5 (T.A 60 (gI w v5))).a 49 v5 (T.A 61 (gI w v5))).A 49 = upI (T.A 49) v5 (T.A 61 (gI w v5)) := by rw [aA_up i49, aA_ne (by decide)]
    have dn' : ∀ c, c ≠ 48 → c ≠ 49 → ((T.a 48 v5 (T.A 60 (gI w v5))).a 49 v5 (T.A 61 (gI w v5))).A c = T.A c := fun c h1 h2 => by rw [aA_ne h2, aA_ne h1]
    obtain ⟨T', q1, q2, q3, q4⟩ := ih n (v5 + 1) ((T.a 48 v5 (T.A 60 (gI w v5))).a 49 v5 (T.A 61 (gI w v5))) (by omega) (by omega) h24 (by rw [dn' 59 (by decide) (by decide), dn' 61 (by decide) (by decide)]; exact hw) (by omega)
    rw [dn' 60 (by decide) (by decide), dn' 61 (by decide) (by decide)] at q4
    refine ⟨T', ?_, ((Fr.a (by decide)).trans (Fr.a (by decide))).trans q2, fun j hj => ?_, fun j h1 h2 => ?_⟩
    · rw [g98L151]
      refine (gd_t (by first | exact ⟨by omega, by omega⟩ | exact ⟨by omega, by omega, by omega⟩ | exact ⟨by omega, by omega, by omega, by omega⟩ | omega | exact inR_to _ | assumption | decide)).trans ?_
      rw [h24, if_pos (by omega)]
      refine (gd_t (by first | exact ⟨by omega, by omega⟩ | exact ⟨by omega, by omega, by omega⟩ | exact ⟨by omega, by omega, by omega, by omega⟩ | omega | exact inR_to _ | assumption | decide)).trans ?_
      rw [e1]
      refine (gd_t (by first | exact ⟨by omega, by omega⟩ | exact ⟨by omega, by omega, by omega⟩ | exact ⟨by omega, by omega, by omega, by omega⟩ | omega | exact inR_to _ | assumption | decide)).trans ?_
      refine (gd_t (by first | exact ⟨by omega, by omega⟩ | exact ⟨by omega, by omega, by omega⟩ | exact ⟨by omega, by omega, by omega, by omega⟩ | omega | exact inR_to _ | assumption | decide)).trans ?_
      refine (gd_t e4).trans ?_
      exact q1
    · have := q3 j (by omega)
      rw [d48, d49, upI_n (by omega), upI_n (by omega)] at this
      exact this
    · by_cases hj : j = v5
      · have := q3 j (by omega)
        rw [d48, d49, hj, upI_e, upI_e] at this
        rw [hj]
        exact this
      · exact q4 j (by omega) h2
