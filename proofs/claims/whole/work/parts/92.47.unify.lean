/-! one literal made alike with another, and what is left made -/
theorem CPan_15 {S : St} {m : Option (List (List Int))} {w : List Int} (h : CP_15 S m w) : ∃ S', g48_15 S = some S' ∧ Fr [17, 19] S S' := by
  obtain ⟨⟨s1, s2, s3, s4, s5, s6, s7, s8⟩, h⟩ := h
  have hLl : (((List.range (S.F 16 3).toNat).map (fun (i : Nat) => S.A 17 (i : Int))).length : Int) = S.F 16 3 := by
    rw [List.length_map, List.length_range]
    omega
  have hLe : ∀ i : Int, 0 ≤ i → i < ((List.range (S.F 16 3).toNat).map (fun (i : Nat) => S.A 17 (i : Int))).length → S.A 17 i = gI ((List.range (S.F 16 3).toNat).map (fun (i : Nat) => S.A 17 (i : Int))) i := fun i i0 i1 => by
    unfold gI
    rw [List.getD_eq_getElem?_getD, List.getElem?_map, List.getElem?_range (by omega)]
    show S.A 17 i = S.A 17 (i.toNat : Int)
    rw [show (i.toNat : Int) = i by omega]
  obtain ⟨U, u1, u2, u3⟩ := g48_15_t (S := S) hLl (by omega) hLe (fun x hx => by
    obtain ⟨i, i0, i1, e⟩ := mem_gI hx
    rw [← e, ← hLe i i0 i1]
    exact s8 i i0 (by omega))
  exact ⟨U, u1, u2⟩
theorem CPan_30 {S : St} {m : Option (List (List Int))} {w : List Int} (h : CP_30 S m w) : ∃ S', g48_30 S = some S' ∧ Fr [32, 34] S S' := by
  obtain ⟨⟨s1, s2, s3, s4, s5, s6, s7, s8⟩, h⟩ := h
  have hLl : (((List.range (S.F 31 3).toNat).map (fun (i : Nat) => S.A 32 (i : Int))).length : Int) = S.F 31 3 := by
    rw [List.length_map, List.length_range]
    omega
  have hLe : ∀ i : Int, 0 ≤ i → i < ((List.range (S.F 31 3).toNat).map (fun (i : Nat) => S.A 32 (i : Int))).length → S.A 32 i = gI ((List.range (S.F 31 3).toNat).map (fun (i : Nat) => S.A 32 (i : Int))) i := fun i i0 i1 => by
    unfold gI
    rw [List.getD_eq_getElem?_getD, List.getElem?_map, List.getElem?_range (by omega)]
    show S.A 32 i = S.A 32 (i.toNat : Int)
    rw [show (i.toNat : Int) = i by omega]
  obtain ⟨U, u1, u2, u3⟩ := g48_30_t (S := S) hLl (by omega) hLe (fun x hx => by
    obtain ⟨i, i0, i1, e⟩ := mem_gI hx
    rw [← e, ← hLe i i0 i1]
    exact s8 i i0 (by omega))
  exact ⟨U, u1, u2⟩
theorem IV.start {u : Int → Int} {w1 w2 : Int} {S T : St} (hU : PU u w1 w2) (hS : SC u w1 w2 S) (hT : SM u w1 w2 T) (h1 : ∀ p, TP u w1 w2 p → u p < 32768 → S.A 22 (u p / 256) = -1) (h2 : ∀ p, TP u w1 w2 p → u p < 32768 → T.A 47 (u p / 256) = -1) : IV u w1 w2 S T := by
  have s1 : ∀ p, TP u w1 w2 p → st u (S.A 22) p = p := fun p hp => st_self (fun h => by have := h1 p hp h.1; omega)
  have s2 : ∀ p, TP u w1 w2 p → st u (T.A 47) p = p := fun p hp => st_self (fun h => by have := h2 p hp h.1; omega)
  refine ⟨hU, hS, hT, PO.none hU h1, PO.none hU h2, ⟨fun p hp _ => by rw [s1 p hp, s2 p hp], fun p q hp hq _ _ => by rw [s1 p hp, s2 p hp, s1 q hq, s2 q hq]⟩, fun p hp hc hb => ?_, fun p hp hc hb => ?_⟩
  · rw [h1 p hp hc] at hb; omega
  · rw [h2 p hp hc] at hb; omega
theorem unify {u : Int → Int} {w1 w2 p q : Int} {S T : St} (hA : AU u w1 w2) (hI : IV u w1 w2 S T) (hp : TP u w1 w2 p) (hq : TP u w1 w2 q) (h1 : 131072 ≤ u p) (h2 : 131072 ≤ u q) (he : mo (u p) = mo (u q)) : ∃ b S' T', g69 64 S p q 0 = some (b, S') ∧ g144 T p q = some (b, T') ∧ b1R b ∧ Fr [22] S S' ∧ Fr [47, 65, 66, 67] T T' ∧ (b = 1 → IV u w1 w2 S' T') := by
  have hU := hI.1
  have lp := (hp.pc hU).lt hU
  have lq := (hq.pc hU).lt hU
  have f1 : Fr [66, 67] T ((T.a 66 0 p).a 67 0 q) := (Fr.a (by decide)).trans (Fr.a (by decide))
  have e66 : ((T.a 66 0 p).a 67 0 q).A 66 0 = p := by rw [aA_ne (by decide), aA_up ⟨by omega, by omega⟩, upI_e]
  have e67 : ((T.a 66 0 p).a 67 0 q).A 67 0 = q := by rw [aA_up ⟨by omega, by omega⟩, upI_e]
  have hFU := FU_gt (n := 16 ^ 33) (by decide)
  have al := alike hU hA 32 64 (by decide) 0 FU p q p q 0 S ((T.a 66 0 p).a 67 0 q) rfl (hI.fr f1 (by decide) (by decide)) hp hq (Or.inl ⟨rfl, rfl⟩) (fun H hH => by have := hH.1 p hp; omega) (fun H hH => by have := hH.1 q hq; omega) (fun _ => ⟨by omega, by omega, he⟩) (fun h => absurd h (by decide)) (by omega) (by omega) e66 e67 (by omega)
  obtain ⟨S', f, al⟩ := al
  rcases al with ⟨r1, T', n', t1, t2, t3, t4, t5, t6, t7⟩ | ⟨r1, T', t1, t2⟩
  · have r1 := rs_l r1
    refine ⟨1, S', T', r1, ?_, Or.inr rfl, f, (f1.mono (by decide)).trans t3, fun _ => t5⟩
    unfold g144
    rw [t1]
    obtain ⟨n', rfl⟩ : ∃ k, n' = k + 1 := ⟨n' - 1, by omega⟩
    rw [g144L16]
    rfl
  · have r1 := rs_r r1
    refine ⟨0, S', T', r1, ?_, Or.inl rfl, f, (f1.mono (by decide)).trans t2, fun h => absurd h (by decide)⟩
    unfold g144
    rw [t1]
    rfl
theorem unify_no {u : Int → Int} {w1 w2 p q : Int} {T : St} (hU : PU u w1 w2) (hT : SM u w1 w2 T) (hP : PO u w1 w2 (T.A 47)) (hp : TP u w1 w2 p) (hq : TP u w1 w2 q) (h1 : 131072 ≤ u p) (h2 : 131072 ≤ u q) (he : mo (u p) ≠ mo (u q)) : ∃ T', g144 T p q = some (0, T') ∧ Fr [47, 65, 66, 67] T T' := by
  have lp := (hp.pc hU).lt hU
  have lq := (hq.pc hU).lt hU
  have f1 : Fr [66, 67] T ((T.a 66 0 p).a 67 0 q) := (Fr.a (by decide)).trans (Fr.a (by decide))
  have e66 : ((T.a 66 0 p).a 67 0 q).A 66 0 = p := by rw [aA_ne (by decide), aA_up ⟨by omega, by omega⟩, upI_e]
  have e67 : ((T.a 66 0 p).a 67 0 q).A 67 0 = q := by rw [aA_up ⟨by omega, by omega⟩, upI_e]
  obtain ⟨m, hm⟩ := FU_ge (n := 0) (by decide)
  rw [Nat.zero_add] at hm
  refine ⟨_, ?_, f1.mono (by decide)⟩
  unfold g144
  rw [hm, turn_m hU (hT.fr f1 (by decide)) (by rw [f1.A (by decide)]; exact hP) hp hq (by omega) (by omega) e66 e67]
  rw [st_self (fun h => absurd h.1 (by omega)), st_self (fun h => absurd h.1 (by omega)), if_neg (by omega), if_neg (by omega), if_neg he]
  rfl
theorem lt_map {f : Int → List Int} {ps : List Int} {k : Int} (k0 : 0 ≤ k) (k1 : k < ps.length) : lt (ps.map f) k = f (gI ps k) := by
  unfold lt gI
  rw [List.getD_eq_getElem?_getD, List.getD_eq_getElem?_getD, List.getElem?_map, List.getElem?_eq_getElem (by omega : k.toNat < ps.length)]
  rfl
/-- what make gives when the literals at ps are left -/
theorem made {u : Int → Int} {w1 w2 : Int} {S T : St} {ps : List Int} (hA : AU u w1 w2) (hI : IV u w1 w2 S T) (hps : ∀ p ∈ ps, TP u w1 w2 p ∧ 131072 ≤ u p) (hF : T.F 36 24 = ps.length) (h100 : ps.length ≤ 100) (h48 : ∀ j : Int, 0 ≤ j → j < ps.length → T.A 48 j = gI ps j ∧ T.A 49 j = dn (u (gI ps j))) : ∃ T', Fr [38, 39, 40, 41, 42, 64, 65] T T' ∧ (∀ (s n : Int) (o u : Int → Int), s < 124 → WK n o u → KM T s n o u → KM T' s n o u) ∧ match (ps.map (XP u (S.A 22))).foldl stp (some []) with
    | none => g119 T = some (0, T')
    | some b => g119 T = some (1, T') ∧ KM T' 124 b.length (os b) (ru b) ∧ WV b.length (os b) (ru b) := by
  obtain ⟨hU, hS, hT, hP, hQ, hC, hN, hM⟩ := hI
  obtain ⟨r, hr, hr2⟩ := RI_ex hU hP hQ hC
  refine g119_t hr (by rw [List.length_map]; exact hF.symm) (by omega) (fun k k0 k1 => ?_)
  rw [List.length_map] at k1
  have hk := hps _ (gI_mem k0 k1)
  have h4 := h48 k k0 k1
  rw [lt_map k0 k1, h4.1, h4.2]
  have li := XP_LI hU hA hP hN hk.1 hk.2
  exact ⟨WR_t hU hP hQ hC hr2 hT rfl hk.1, fun _ => ⟨li.1, by rw [li.2]⟩⟩
/-- what a draw gives: both say b, and then make and the draft agree -/
def DW (S T S' T' : St) (b : Int) : Prop := b1R b ∧ Fr [15, 16, 17, 18, 19, 21, 22] S S' ∧ MU T T' ∧ (b = 1 → ∃ r T1, g119 T' = some (r, T1) ∧ DF2_15 S' T1 r ∧ Fr [38, 39, 40, 41, 42, 64, 65] T' T1 ∧ ∀ (s n : Int) (o u : Int → Int), s < 124 → WK n o u → KM T' s n o u → KM T1 s n o u)
theorem made_DW {u : Int → Int} {w1 w2 : Int} {S T S1 T1 S2 S3 : St} {ps : List Int} (hA : AU u w1 w2) (hI : IV u w1 w2 S1 T1) (fS : Fr [15, 16, 17, 18, 19, 21, 22] S S1) (fT : MU T T1) (hps : ∀ p ∈ ps, TP u w1 w2 p ∧ 131072 ≤ u p) (hF : T1.F 36 24 = ps.length) (h100 : ps.length ≤ 100) (h48 : ∀ j : Int, 0 ≤ j → j < ps.length → T1.A 48 j = gI ps j ∧ T1.A 49 j = dn (u (gI ps j))) (f2 : Fr [15, 16, 17, 18] S1 S2) (hc : CP_15 S2 ((ps.map (XP u (S1.A 22))).foldl stp (some [])) []) (e48 : g48_15 S2 = some S3) (f3 : Fr [17, 19] S2 S3) : DW S T S3 T1 1 := by
  obtain ⟨T2, m1, m2, m3⟩ := made hA hI hps hF h100 h48
  refine ⟨Or.inr rfl, fS.trans ((f2.mono (by decide)).trans (f3.mono (by decide))), fT, fun _ => ?_⟩
  generalize (ps.map (XP u (S1.A 22))).foldl stp (some []) = m at *
  match m, hc, m3 with
  | none, hc, m3 => exact ⟨0, T2, m3, df2_15 (T := T1) hc e48 rfl, m1, m2⟩
  | some b, hc, m3 => exact ⟨1, T2, m3.1, df2_15 (T := T1) hc e48 ⟨rfl, m3.2⟩, m1, m2⟩
