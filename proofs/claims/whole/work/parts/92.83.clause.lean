/-! the clause of a claim, read by both -/
theorem cp30_fr {S S' : St} {a : Option (List (List Int))} {w : List Int} (h : CP_30 S a w) (e30 : S'.F 30 = S.F 30) (e31 : S'.F 31 = S.F 31) (a32 : S'.A 32 = S.A 32) (a33 : S'.A 33 = S.A 33) : CP_30 S' a w := by
  unfold CP_30 SF_30 KE_30 at *
  rw [e30, e31, a32, a33]
  exact h
theorem g43L12_t {E : List Int} (h16 : E.length ≤ 16) : ∀ (r n : Nat) (v4 : Int) (S : St) (a : Option (List (List Int))), 0 ≤ v4 → v4 + r = E.length → (∀ j : Int, 0 ≤ j → j < E.length → S.A 12 j = gI E j) → (∀ x ∈ E, 0 ≤ x) → CP_30 S a (E.take v4.toNat) → r < n → ∃ S', g43_30L15 12 0 E.length n v4 S = some S' ∧ Fr [30, 31, 32, 33] S S' ∧ CP_30 S' a E := by
  intro r
  induction r with
  | zero =>
    intro n v4 S a z0 hz h9 hx hC hn
    obtain ⟨n, rfl⟩ : ∃ k, n = k + 1 := ⟨n - 1, by omega⟩
    refine ⟨S, ?_, Fr.refl _ _, ?_⟩
    · unfold g43_30L15
      refine (gd_t (by first | exact ⟨by omega, by omega⟩ | exact ⟨by omega, by omega, by omega⟩ | exact ⟨by omega, by omega, by omega, by omega⟩ | omega | exact inR_to _ | assumption | decide)).trans ?_
      refine (gd_t (by first | exact ⟨by omega, by omega⟩ | exact ⟨by omega, by omega, by omega⟩ | exact ⟨by omega, by omega, by omega, by omega⟩ | omega | exact inR_to _ | assumption | decide)).trans ?_
      rw [if_neg (by omega)]
    · rw [List.take_of_length_le (by omega)] at hC
      exact hC
  | succ r ih =>
    intro n v4 S a z0 hz h9 hx hC hn
    obtain ⟨n, rfl⟩ : ∃ k, n = k + 1 := ⟨n - 1, by omega⟩
    have e9 := h9 v4 z0 (by omega)
    have hm := gI_mem (L := E) (i := v4) z0 (by omega)
    obtain ⟨S1, p1, p2, p3⟩ := put_30 (x := gI E v4) hC (hx _ hm) (by rw [← e9]; exact inR_to _)
    have et : E.take v4.toNat ++ [gI E v4] = E.take (v4 + 1).toNat := by
      have hlt : v4.toNat < E.length := by omega
      rw [show (v4 + 1).toNat = v4.toNat + 1 by omega, List.take_succ_eq_append_getElem hlt]
      congr 1
      unfold gI
      rw [List.getD_eq_getElem?_getD, List.getElem?_eq_getElem hlt]
      rfl
    rw [et] at p3
    obtain ⟨S2, q1, q2, q3⟩ := ih n (v4 + 1) S1 a (by omega) (by omega) (by rw [p2.A (by decide)]; exact h9) hx p3 (by omega)
    refine ⟨S2, ?_, p2.trans q2, q3⟩
    rw [g43_30L15]
    refine (gd_t (by first | exact ⟨by omega, by omega⟩ | exact ⟨by omega, by omega, by omega⟩ | exact ⟨by omega, by omega, by omega, by omega⟩ | omega | exact inR_to _ | assumption | decide)).trans ?_
    refine (gd_t (by first | exact ⟨by omega, by omega⟩ | exact ⟨by omega, by omega, by omega⟩ | exact ⟨by omega, by omega, by omega, by omega⟩ | omega | exact inR_to _ | assumption | decide)).trans ?_
    rw [if_pos (by omega)]
    refine (gA_t (show S.cl 12 = some (.ar 16 (S.A0 12)) from rfl)).trans ?_
    refine (gd_t (by first | exact ⟨by omega, by omega⟩ | exact ⟨by omega, by omega, by omega⟩ | exact ⟨by omega, by omega, by omega, by omega⟩ | omega | exact inR_to _ | assumption | decide)).trans ?_
    have e : ((S.A0 12 (0 + v4)).toInt) = gI E v4 := by
      rw [Int.zero_add]
      exact e9
    show ob (g44_30 S (S.A0 12 (0 + v4)).toInt) _ = _
    rw [e, p1]
    exact q1
theorem g43c_t {S : St} {E : List Int} {a : Option (List (List Int))} (hl : (E.length : Int) ≤ 100000) (hpos : 0 < E.length) (h : ∀ j : Int, 0 ≤ j → j < 16 → j < E.length → S.A 12 j = gI E j) (hx : ∀ x ∈ E, 0 ≤ x) (hC : CP_30 S a []) : ∃ S', g43_30 S 12 0 E.length = some S' ∧ Fr [30, 31, 32, 33] S S' ∧ CP_30 S' (stp a E) [] := by
  by_cases h16 : 16 < E.length
  · refine ⟨S.f 30 3 1, ?_, Fr.f (by decide), ?_⟩
    · unfold g43_30
      refine (gd_t (by first | exact ⟨by omega, by omega⟩ | exact ⟨by omega, by omega, by omega⟩ | exact ⟨by omega, by omega, by omega, by omega⟩ | omega | exact inR_to _ | assumption | decide)).trans ?_
      rw [if_pos (by omega)]
    · have e : stp a E = none := by
        cases a with
        | none => rfl
        | some a =>
          show (if 16 < E.length then none else _) = none
          rw [if_pos h16]
      rw [e]
      refine ⟨?_, by show (S.f 30 3 1).F 30 3 = 1; rw [f_F (by decide), if_pos rfl, if_pos rfl]⟩
      have := hC.1
      unfold SF_30 at this ⊢
      rw [fF_ne (show 31 ≠ 30 by decide), f_A, show (S.f 30 3 1).F 30 2 = S.F 30 2 by rw [f_F (by decide), if_pos rfl, if_neg (by decide)]]
      exact this
  · obtain ⟨S1, q1, q2, q3⟩ := g43L12_t (E := E) (by omega) E.length FU 0 S a (by omega) (by omega) (fun j j0 j1 => h j j0 (by omega) j1) hx (by rw [show ((0 : Int)).toNat = 0 by rfl, List.take_zero]; exact hC) (FU_gt (by omega))
    obtain ⟨S2, r1, r2, r3⟩ := close_30 q3 hpos
    refine ⟨S2, ?_, q2.trans r2, r3⟩
    unfold g43_30
    refine (gd_t (by first | exact ⟨by omega, by omega⟩ | exact ⟨by omega, by omega, by omega⟩ | exact ⟨by omega, by omega, by omega, by omega⟩ | omega | exact inR_to _ | assumption | decide)).trans ?_
    rw [if_neg (by omega), q1]
    refine (ob_t rfl).trans ?_
    rw [r1]
    rfl
/-- the names known give the variables -/
def GNc (nu : Int → List Int) (N : List Int) : Prop := N.Nodup ∧ (∀ x ∈ N, 0 ≤ x ∧ x ≤ 32) ∧ ∀ i : Nat, i < N.length → nu i = [gI N i * 256]
theorem HG_c (nu : Int → List Int) : HG vrC nu (VU 33) (GNc nu) := by
  intro N n e c N' n0 n1 hv hG
  have hv : (some ([n * 256], (if lix (gI N) n N.length < 0 then (N.length : Int) else lix (gI N) n N.length), (if lix (gI N) n N.length < 0 then N ++ [n] else N)) : Option (List Int × Int × List Int)) = some (e, c, N') := hv
  have lr := lix_r (gI N) n N.length
  have ht : TL 1 [n * 256] := ⟨by decide, by show (1 : Int) - 1 + n * 256 % 256 = 0; omega⟩
  have hx : ∀ x ∈ [n * 256], vx x ∧ x < 131072 ∧ (x < 32768 → VU 33 (x / 256)) := fun x hx => by
    have e : x = n * 256 := List.mem_singleton.mp hx
    rw [e]
    unfold vx VU
    omega
  by_cases hl : lix (gI N) n N.length < 0
  · rw [if_pos hl, if_pos hl] at hv
    cases hv
    obtain ⟨g1, g2, g3⟩ := hG
    have g4 := List.Nodup.sublist (List.sublist_append_left N [n]) g1
    have g5 : ∀ x ∈ N, 0 ≤ x ∧ x ≤ 32 := fun x hx => g2 x (List.mem_append_left _ hx)
    have hp := pigeon 33 N g4 (fun x hx => by have := g5 x hx; omega)
    refine ⟨⟨g4, g5, fun i hi => ?_⟩, by omega, by omega, ?_, ht, hx⟩
    · have := g3 i (by rw [List.length_append]; omega)
      rw [gI_l (by omega) (by omega)] at this
      exact this
    · have := g3 N.length (by rw [List.length_append]; show N.length < N.length + 1; omega)
      rw [gI_r (Int.le_refl _), Int.sub_self, gI_one] at this
      exact this
  · rw [if_neg hl, if_neg hl] at hv
    cases hv
    have hG' := hG
    obtain ⟨g1, g2, g3⟩ := hG
    have hp := pigeon 33 N g1 (fun x hx => by have := g2 x hx; omega)
    refine ⟨hG', by omega, by omega, ?_, ht, hx⟩
    have := g3 (lix (gI N) n N.length).toNat (by omega)
    rw [show ((lix (gI N) n N.length).toNat : Int) = lix (gI N) n N.length by omega, lr.2.2 (by omega)] at this
    exact this
theorem sA_dn {tx : Int → Int} {len : Int} {cl : Bool} {vr : Vr} {pos v p : Int} {N E C N' : List Int} (hQ : QX tx len) (p0 : 0 ≤ pos) (hv : b1R v) (er : sA tx cl vr v pos N = .inr (p, E, C, N')) : dn (gI E 0) = v := by
  have hA : ∃ k E', E = (ph (tx pos) v + k) :: E' ∧ 0 ≤ k ∧ k < 128 := by
    unfold sA at er
    by_cases hl : 65 ≤ tx pos ∧ tx pos ≤ 90
    · rw [if_pos hl] at er
      by_cases h40 : tx (pos + 1) = 40
      · rw [if_pos h40] at er
        have l160 := hQ.2.1
        have pl1 := (hQ.r (p := pos + 1) (by omega)).2.2 (by omega)
        have hp := sB_p (cl := cl) (vr := vr) hQ 15 0 (pos + 1) N (by decide) (by decide) (by omega) pl1
        cases eb : sB tx cl vr 15 0 (pos + 1) N with
        | inl z => rw [eb] at er; cases er
        | inr b =>
          obtain ⟨p', k', E', C', N2⟩ := b
          rw [eb] at er hp
          obtain ⟨r1, r2, r3⟩ := hp
          cases er
          exact ⟨k', E', rfl, by omega, by omega⟩
      · rw [if_neg h40] at er
        cases er
        exact ⟨0, [], by rw [Int.add_zero], by omega, by omega⟩
    · rw [if_neg hl] at er
      cases er
  obtain ⟨kk, E', eE, k0, k1⟩ := hA
  rw [eE, gI_c0]
  unfold dn ph
  rcases hv with e | e <;> (rw [e]; omega)
def B61 (T : St) : Prop := 0 ≤ T.F 36 46 ∧ T.F 36 46 ≤ 100 ∧ ∀ i : Int, 0 ≤ i → i < T.F 36 46 → b1R (T.A 61 i)
/-- both stand in a clause -/
def CI (tx : Int → Int) (len : Int) (S T : St) (pos : Int) (N : List Int) (Ls : List (List Int)) : Prop := RC0 tx len S pos ∧ RM tx len T pos ∧ ECc S ∧ EMc T N ∧ CP_30 S (Ls.foldl stp (some [])) [] ∧ T.F 36 46 = Ls.length ∧ 2 * (Ls.length : Int) ≤ pos + 1 ∧ T.F 36 22 ≤ pos ∧ (∀ l : Int, 0 ≤ l → l < Ls.length → b1R (T.A 61 l)) ∧ ∀ nu, GNc nu N → ∀ l : Int, 0 ≤ l → l < Ls.length → GL (T.A 46) (T.A 60) (T.A 61) nu 33 (T.F 36 22) l (lt Ls l)
theorem CI.adv {tx : Int → Int} {len pos p : Int} {S T : St} {N : List Int} {Ls : List (List Int)} (hQ : QX tx len) (h : CI tx len S T pos N Ls) (h1 : pos ≤ p) (h2 : p ≤ len) : CI tx len (S.f 1 4 p) (T.f 36 27 p) p N Ls := by
  obtain ⟨a1, a2, a3, a4, a5, a6, a7, a8, a9, a10⟩ := h
  have l160 := hQ.2.1
  have p0 := a1.2.2.2.2.1
  have ip : inR p := ⟨by omega, by omega⟩
  have tF : ∀ i, i ≠ 27 → (T.f 36 27 p).F 36 i = T.F 36 i := fun i hi => by rw [f_F ip, if_pos rfl, if_neg hi]
  refine ⟨a1.adv hQ h1 h2, a2.adv hQ h1 h2, ?_, ?_, cp30_fr a5 (fF_ne (by decide)) (fF_ne (by decide)) rfl rfl, by rw [tF 46 (by decide)]; exact a6, by omega, by rw [tF 22 (by decide)]; omega, a9, ?_⟩
  · unfold ECc at a3 ⊢
    rw [f_F ip, if_pos rfl, if_neg (by decide)]
    exact a3
  · exact HEM_c T _ N ⟨rfl, rfl, rfl⟩ ⟨tF 29 (by decide), tF 30 (by decide), tF 34 (by decide)⟩ a4
  · rw [tF 22 (by decide)]
    exact a10
def CF (S S' : St) : Prop := Fr [1, 12, 30, 31, 32, 33] S S' ∧ S'.F 1 1 = S.F 1 1
theorem CF.trans {S T U : St} (h : CF S T) (g : CF T U) : CF S U := ⟨h.1.trans g.1, g.2.trans h.2⟩
theorem CF.refl (S : St) : CF S S := ⟨Fr.refl _ _, rfl⟩
theorem FT.CF {S S' : St} (h : FT S S') : CF S S' := ⟨⟨h.1, h.2.1, h.2.2.1, fun c hc => h.2.2.2.1 c (fun e => hc (by
  have : ∀ d ∈ [1, 12], d ∈ [1, 12, 30, 31, 32, 33] := by decide
  exact this c e))⟩, h.F (by decide)⟩
theorem Fr.CF {S S' : St} (h : Fr [30, 31, 32, 33] S S') : CF S S' := ⟨h.mono (by decide), by rw [h.F (by decide)]⟩
set_option maxHeartbeats 1000000 in
/-- a literal more -/
theorem lit_sim {tx : Int → Int} {len pos v : Int} {S T : St} {N : List Int} {Ls : List (List Int)} (hQ : QX tx len) (h : CI tx len S T pos N Ls) (h2 : 2 * (Ls.length : Int) ≤ pos) (hv : b1R v) : (∃ e S' T', g24 S v = some S' ∧ S'.F 1 3 = e ∧ 0 ≤ e ∧ e ≤ len ∧ CF S S' ∧ CP_30 S' (Ls.foldl stp (some [])) [] ∧ g103 T v = some T' ∧ T'.F 36 28 = 1 ∧ T'.F 36 27 = e ∧ FLM T T' ∧ B61 T') ∨ ∃ p N' E S1 S2 T', g24 S v = some S1 ∧ S1.F 1 3 = -1 ∧ g43_30 S1 12 0 (S1.F 1 12) = some S2 ∧ g103 T v = some T' ∧ pos < p ∧ CI tx len S2 T' p N' (Ls ++ [E]) ∧ CF S S2 ∧ FLM T T' := by
  obtain ⟨a1, a2, a3, a4, a5, a6, a7, a8, a9, a10⟩ := h
  have l160 := hQ.2.1
  have p0 := a1.2.2.2.2.1
  have p1 := a1.2.2.2.2.2
  have t0 := a2.2.2.2.2.2.2.1
  have hc := g24_t (vr := vrC) (cl := true) (N := N) hQ (HV_c hQ) (fun S S' f h => by
    unfold ECc at h ⊢
    rw [f.F (by decide)]
    exact h) (fun S h => h) a1 a3 hv
  have hm := g103_t (vr := vrC) (cl := true) hQ (HVm_c hQ) HEM_c (fun T N h => h.1) a2 a4 hv (by omega) (by omega) (by omega)
  have hcc := sA_c (cl := true) (vr := vrC) (v := v) (N := N) hQ p0
  cases er : sA tx true vrC v pos N with
  | inl e =>
    rw [er] at hc hm
    obtain ⟨c1, c2, S1, c3, c4, c5⟩ := hc
    obtain ⟨T1, m1, m2, m3, m4, m5⟩ := hm
    refine Or.inl ⟨e, S1, T1, c3, c4, c1, c2, c5.CF, ?_, m1, m2, m3, m4, ?_⟩
    · have f := c5.CF.1
      have ff : ∀ c, c ∉ [1, 12] → S1.F c = S.F c := fun c hc => by
        funext i
        show (S1.F0 c i).toInt = (S.F0 c i).toInt
        rw [(c5.2.2.2.1 c hc).1]
      exact cp30_fr a5 (ff 30 (by decide)) (ff 31 (by decide)) (c5.A (by decide)) (c5.A (by decide))
    · unfold B61
      rcases m5 with ⟨e1, e2⟩ | ⟨e1, e2⟩
      · rw [e1, e2, a6]
        exact ⟨by omega, by omega, a9⟩
      · rw [e1, e2, a6]
        refine ⟨by omega, by omega, fun i i0 i1 => ?_⟩
        by_cases hi : i = Ls.length
        · rw [hi, upI_e]
          exact hv
        · rw [upI_n hi]
          exact a9 i i0 (by omega)
  | inr b =>
    obtain ⟨p, E, C, N'⟩ := b
    have hdn := sA_dn hQ p0 hv er
    have hg := fun nu => sA_g (cl := true) (v := v) (N := N) hQ (HG_c nu) p0 p1 hv
    rw [er] at hc hm hcc
    obtain ⟨c1, c2, S1, c3, c4, c5⟩ := hc
    obtain ⟨T1, m1, m2, m3, m4, m5, m6, m7, m8, m9⟩ := hm
    have hcc : (C.length : Int) ≤ p - pos := hcc
    have ff : ∀ c, c ∉ [1, 12] → S1.F c = S.F c := fun c hc => by
      funext i
      show (S1.F0 c i).toInt = (S.F0 c i).toInt
      rw [(c5.2.2.2.1 c hc).1]
    have cp1 : CP_30 S1 (Ls.foldl stp (some [])) [] := cp30_fr a5 (ff 30 (by decide)) (ff 31 (by decide)) (c5.A (by decide)) (c5.A (by decide))
    have hgN := fun nu => by
      have := hg nu
      rw [er] at this
      exact this
    -- names that can be
    obtain ⟨e1, e2, e3, e4, e5, e6⟩ := m5
    have hGN : GNc (fun c => [gI N' c * 256]) N' := ⟨e4, e5, fun i _ => rfl⟩
    obtain ⟨_, hLG⟩ := (hgN (fun c => [gI N' c * 256])).2 hGN
    obtain ⟨x, E', C', q1, q2, q3, q4, q5, q6, q7, q8⟩ := hLG
    have hpos : 0 < E.length := by rw [q1]; exact Nat.succ_pos _
    have hx0 : ∀ y ∈ E, 0 ≤ y := fun y hy => by
      rw [q1] at hy
      rcases List.mem_cons.mp hy with e | e
      · rw [e]; omega
      · have := (q8 y e).1
        unfold vx at this
        omega
    have hEl : (E.length : Int) ≤ 1800 := by
      have := c4.2.2.2.2.2.2.2.1
      omega
    obtain ⟨S2, s1, s2, s3⟩ := g43c_t (by omega) hpos (fun j j0 j1 j2 => c4.2.2.2.2.2.2.2.2 j j0 j1 j2) hx0 cp1
    refine Or.inr ⟨p, N', E, S1, S2, T1, c3, c4.2.2.1, by rw [c4.2.2.2.2.2.2.1]; exact s1, m1, c1, ?_, c5.CF.trans s2.CF, m9⟩
    have f1 : S2.F 1 = S1.F 1 := s2.F (by decide)
    have len1 : ((Ls ++ [E]).length : Int) = Ls.length + 1 := by rw [List.length_append]; rfl
    refine ⟨⟨by rw [f1]; exact c4.1, by rw [f1]; exact c4.2.1, by rw [f1]; exact c4.2.2.1, by rw [s2.A (by decide)]; exact c4.2.2.2.1, by omega, c2⟩, m2, ?_, ⟨e1, e2, e3, e4, e5, e6⟩, ?_, by rw [m6, a6, len1], by omega, by omega, ?_, ?_⟩
    · unfold ECc at a3 ⊢
      rw [f1, c5.F (by decide)]
      exact a3
    · rw [List.foldl_append]
      exact s3
    · intro l l0 l1
      rw [m8, a6]
      by_cases hi : l = Ls.length
      · rw [hi, upI_e]
        exact hv
      · rw [upI_n hi]
        exact a9 l l0 (by omega)
    · intro nu hnu l l0 l1
      obtain ⟨hN, hLG⟩ := (hgN nu).2 hnu
      have hlo : ∀ q : Int, q < T.F 36 22 → T1.A 46 q = T.A 46 q := fun q hq => by rw [m4, lay_lo hq]
      by_cases hi : l < Ls.length
      · rw [lt_l l0 hi]
        exact (a10 nu hN l l0 hi).grow hlo (by rw [m7, upI_n (by omega)]) (by rw [m8, upI_n (by omega)]) (fun _ _ => rfl) (Int.le_refl _) (by omega)
      · have el : l = Ls.length := by omega
        subst el
        rw [lt_r (Int.le_refl _), Int.sub_self]
        show GL (T1.A 46) (T1.A 60) (T1.A 61) nu 33 (T1.F 36 22) Ls.length E
        refine ⟨C, hLG, ?_, ?_, fun j j0 j1 => ?_, ?_⟩
        · rw [m7, a6, upI_e]
          exact t0
        · rw [m7, a6, upI_e]
          omega
        · rw [m7, a6, upI_e, m4]
          unfold lay
          rw [if_pos (by omega), show T.F 36 22 + j - T.F 36 22 = j by omega]
        · rw [m8, a6, upI_e, hdn]
