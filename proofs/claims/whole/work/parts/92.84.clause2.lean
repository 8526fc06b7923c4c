theorem f27_FLM (T : St) (x : Int) : FLM T (T.f 36 27 x) := (f_FTM T (by decide) x).FLM
set_option maxHeartbeats 1000000 in
/-- the literals of a clause, read by both -/
theorem lits_sim {tx : Int → Int} {len v1 v2 v3 v4 : Int} (hQ : QX tx len) : ∀ (r n n' : Nat) (pos : Int) (S T : St) (N : List Int) (Ls : List (List Int)), len - pos < r → r < n → r < n' → CI tx len S T pos N Ls → 2 * (Ls.length : Int) ≤ pos → (∃ e S' T', g88_30L2 n Ls.length S = some (.inr S') ∧ g158L34 v1 v2 v3 v4 n' 1 T = some T' ∧ 0 ≤ e ∧ e ≤ len ∧ S'.F 1 3 = e ∧ T'.F 36 28 = 1 ∧ T'.F 36 27 = e ∧ CF S S' ∧ FLM T T' ∧ (∃ m, CP_30 S' m []) ∧ B61 T') ∨ ∃ p N' Ls' S' T', g88_30L2 n Ls.length S = some (.inr S') ∧ g158L34 v1 v2 v3 v4 n' 1 T = some T' ∧ CI tx len S' T' p N' Ls' ∧ CF S S' ∧ FLM T T' := by
  intro r
  induction r with
  | zero =>
    intro n n' pos S T N Ls hr hn hn' h h2
    have := h.1.2.2.2.2.2
    omega
  | succ r ih =>
    intro n n' pos S T N Ls hr hn hn' h h2
    obtain ⟨n, rfl⟩ : ∃ k, n = k + 1 := ⟨n - 1, by omega⟩
    obtain ⟨n', rfl⟩ : ∃ k, n' = k + 2 := ⟨n' - 2, by omega⟩
    have l160 := hQ.2.1
    have p0 := h.1.2.2.2.2.1
    have p1 := h.1.2.2.2.2.2
    have q0 := hQ.r p0
    have s4 : S.F 1 4 = pos := h.1.2.1
    have t27 : T.F 36 27 = pos := h.2.1.2.1
    have e23 := g23_0 hQ h.1
    have e102 := g102_t hQ h.2.1
    -- with or without the sign
    obtain ⟨v, po, Sx, Tx, hv, hpo, hX, cfX, fmX, eC, eM⟩ : ∃ (v po : Int) (Sx Tx : St), b1R v ∧ pos ≤ po ∧ CI tx len Sx Tx po N Ls ∧ CF S Sx ∧ FLM T Tx ∧ g88_30L2 (n + 1) Ls.length S = ob (g24 Sx v) (fun o31 => if (o31.F 1 3) = (-1) then ob (g43_30 o31 12 0 (o31.F 1 12)) (fun o34 => ob (g23 o34) (fun o36 => gd (inR o36) (if o36 = 124 then g88_30L2 n (Ls.length + 1) (o34.f 1 4 ((o34.F 1 4) + 1)) else some (.inr o34)))) else some (.inr o31)) ∧ g158L34 v1 v2 v3 v4 (n' + 2) 1 T = ob (g103 Tx v) (fun o49 => if (o49.F 36 28) = 0 then ob (g102 o49) (fun o52 => gd (inR o52) (if o52 = 124 then g158L34 v1 v2 v3 v4 (n' + 1) 1 (o49.f 36 27 ((o49.F 36 27) + 1)) else g158L34 v1 v2 v3 v4 (n' + 1) 0 (o49.f 36 27 (o49.F 36 27)))) else g158L34 v1 v2 v3 v4 (n' + 1) 0 (o49.f 36 27 (o49.F 36 27))) := by
      by_cases h126 : tx pos = 126
      · have pl := q0.2.2 (by omega)
        have hX := h.adv hQ (show pos ≤ pos + 1 by omega) (by omega)
        refine ⟨1, pos + 1, S.f 1 4 (pos + 1), T.f 36 27 (pos + 1), Or.inr rfl, by omega, hX, (f_FT S (by decide) _).CF, f27_FLM T _, ?_, ?_⟩
        · rw [g88_30L2]
          refine (gd_t (by first | exact ⟨by omega, by omega⟩ | exact ⟨by omega, by omega, by omega⟩ | exact ⟨by omega, by omega, by omega, by omega⟩ | omega | exact inR_to _ | assumption | decide)).trans ?_
          rw [if_pos (by omega), e23]
          refine (ob_t rfl).trans ?_
          refine (gd_t (by first | exact ⟨by omega, by omega⟩ | exact ⟨by omega, by omega, by omega⟩ | exact ⟨by omega, by omega, by omega, by omega⟩ | omega | exact inR_to _ | assumption | decide)).trans ?_
          rw [if_pos h126, s4]
        · rw [g158L34]
          refine (gd_t (by decide)).trans ?_
          refine (if_neg (by decide)).trans ?_
          rw [e102]
          refine (ob_t rfl).trans ?_
          refine (gd_t (by first | exact ⟨by omega, by omega⟩ | exact ⟨by omega, by omega, by omega⟩ | exact ⟨by omega, by omega, by omega, by omega⟩ | omega | exact inR_to _ | assumption | decide)).trans ?_
          rw [if_pos h126, t27]
      · refine ⟨0, pos, S, T, Or.inl rfl, by omega, h, CF.refl _, FLM.refl _, ?_, ?_⟩
        · rw [g88_30L2]
          refine (gd_t (by first | exact ⟨by omega, by omega⟩ | exact ⟨by omega, by omega, by omega⟩ | exact ⟨by omega, by omega, by omega, by omega⟩ | omega | exact inR_to _ | assumption | decide)).trans ?_
          rw [if_pos (by omega), e23]
          refine (ob_t rfl).trans ?_
          refine (gd_t (by first | exact ⟨by omega, by omega⟩ | exact ⟨by omega, by omega, by omega⟩ | exact ⟨by omega, by omega, by omega, by omega⟩ | omega | exact inR_to _ | assumption | decide)).trans ?_
          rw [if_neg h126]
        · rw [g158L34]
          refine (gd_t (by decide)).trans ?_
          refine (if_neg (by decide)).trans ?_
          rw [e102]
          refine (ob_t rfl).trans ?_
          refine (gd_t (by first | exact ⟨by omega, by omega⟩ | exact ⟨by omega, by omega, by omega⟩ | exact ⟨by omega, by omega, by omega, by omega⟩ | omega | exact inR_to _ | assumption | decide)).trans ?_
          rw [if_neg h126, f_self]
    have stop : ∀ T' : St, g158L34 v1 v2 v3 v4 (n' + 1) 0 T' = some T' := fun T' => by
      rw [g158L34]
      refine (gd_t (by decide)).trans ?_
      exact if_pos rfl
    rw [eC, eM]
    rcases lit_sim hQ hX (by omega) hv with ⟨e, S', T', b1, b2, b3, b4, b5, b6, b7, b8, b9, b10, b11⟩ | ⟨p, N', E, S1, S2, T1, b1, b2, b3, b4, b5, b6, b7, b8⟩
    · refine Or.inl ⟨e, S', T', ?_, ?_, b3, b4, b2, b8, b9, cfX.trans b5, fmX.trans b10, ⟨_, b6⟩, b11⟩
      · rw [b1]
        refine (ob_t rfl).trans ?_
        exact if_neg (by rw [b2]; omega)
      · rw [b7]
        refine (ob_t rfl).trans ?_
        rw [if_neg (by rw [b8]; decide), f_self]
        exact stop T'
    · have c23 := g23_0 hQ b6.1
      have c102 := g102_t hQ b6.2.1
      have pp0 := b6.1.2.2.2.2.1
      have pp1 := b6.1.2.2.2.2.2
      have q1 := hQ.r pp0
      have len1 : ((Ls ++ [E]).length : Int) = Ls.length + 1 := by rw [List.length_append]; rfl
      have fC : ob (g24 Sx v) (fun o31 => if (o31.F 1 3) = (-1) then ob (g43_30 o31 12 0 (o31.F 1 12)) (fun o34 => ob (g23 o34) (fun o36 => gd (inR o36) (if o36 = 124 then g88_30L2 n (Ls.length + 1) (o34.f 1 4 ((o34.F 1 4) + 1)) else some (.inr o34)))) else some (.inr o31)) = if tx p = 124 then g88_30L2 n (Ls ++ [E]).length (S2.f 1 4 (p + 1)) else some (.inr S2) := by
        rw [b1]
        refine (ob_t rfl).trans ?_
        rw [if_pos b2, b3]
        refine (ob_t rfl).trans ?_
        rw [c23]
        refine (ob_t rfl).trans ?_
        refine (gd_t (by first | exact ⟨by omega, by omega⟩ | exact ⟨by omega, by omega, by omega⟩ | exact ⟨by omega, by omega, by omega, by omega⟩ | omega | exact inR_to _ | assumption | decide)).trans ?_
        rw [b6.1.2.1, len1]
      have fM : ob (g103 Tx v) (fun o49 => if (o49.F 36 28) = 0 then ob (g102 o49) (fun o52 => gd (inR o52) (if o52 = 124 then g158L34 v1 v2 v3 v4 (n' + 1) 1 (o49.f 36 27 ((o49.F 36 27) + 1)) else g158L34 v1 v2 v3 v4 (n' + 1) 0 (o49.f 36 27 (o49.F 36 27)))) else g158L34 v1 v2 v3 v4 (n' + 1) 0 (o49.f 36 27 (o49.F 36 27))) = if tx p = 124 then g158L34 v1 v2 v3 v4 (n' + 1) 1 (T1.f 36 27 (p + 1)) else some T1 := by
        rw [b4]
        refine (ob_t rfl).trans ?_
        rw [if_pos b6.2.1.2.2.1, c102]
        refine (ob_t rfl).trans ?_
        refine (gd_t (by first | exact ⟨by omega, by omega⟩ | exact ⟨by omega, by omega, by omega⟩ | exact ⟨by omega, by omega, by omega, by omega⟩ | omega | exact inR_to _ | assumption | decide)).trans ?_
        rw [f_self, stop, b6.2.1.2.1]
      rw [fC, fM]
      by_cases h124 : tx p = 124
      · rw [if_pos h124, if_pos h124]
        have pl := q1.2.2 (by omega)
        have hX2 := b6.adv hQ (show p ≤ p + 1 by omega) (by omega)
        have cf2 : CF S (S2.f 1 4 (p + 1)) := (cfX.trans b7).trans (f_FT S2 (by decide) _).CF
        have fm2 : FLM T (T1.f 36 27 (p + 1)) := (fmX.trans b8).trans (f27_FLM T1 _)
        have b67 := b6.2.2.2.2.2.2.1
        rcases ih n (n' + 1) (p + 1) _ _ N' (Ls ++ [E]) (by omega) (by omega) (by omega) hX2 (by omega) with ⟨e, S', T', c1, c2, c3, c4, c5, c6, c7, c8, c9, c10⟩ | ⟨p', N2, L2, S', T', c1, c2, c3, c4, c5⟩
        · exact Or.inl ⟨e, S', T', c1, c2, c3, c4, c5, c6, c7, cf2.trans c8, fm2.trans c9, c10⟩
        · exact Or.inr ⟨p', N2, L2, S', T', c1, c2, c3, cf2.trans c4, fm2.trans c5⟩
      · rw [if_neg h124, if_neg h124]
        exact Or.inr ⟨p, N', Ls ++ [E], S2, T1, rfl, rfl, b6, cfX.trans b7, fmX.trans b8⟩
