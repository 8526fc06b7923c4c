/-! a factor or a resolvent is drawn -/
theorem sh_0 (x : Int) : sh 0 x = x := by
  unfold sh
  split
  · omega
  · rfl
theorem DW.no {S T S' T' : St} (h1 : Fr [15, 16, 17, 18, 19, 21, 22] S S') (h2 : MU T T') : DW S T S' T' 0 := ⟨Or.inl rfl, h1, h2, fun h => absurd h (by decide)⟩
set_option maxHeartbeats 1000000 in
theorem factor_sim {S T : St} {g k l N : Int} {c : Nat} {o u0 : Int → Int} (hK : KT S.tl c N o u0) (hM : KM T g N o u0) (hW : WV N o u0) (ho : o N ≤ 16) (k0 : 0 ≤ k) (k1 : k < N) (l0 : 0 ≤ l) (l1 : l < N) : ∃ b S' T', g67_15 S c k l = some (b, S') ∧ g140 T g k l = some (b, T') ∧ DW S T S' T' b := by
  have n0 := hW.1.1
  have n4 := hW.1.2.1
  have oN := (hW.1.2.2.2.2.2.1 N n0 (Int.le_refl _)).1
  have hin : IN u0 0 N o u0 := fun p _ _ => by rw [Int.zero_add, sh_0]
  have hU : PU u0 (o N) 0 := ⟨oN, ho, Int.le_refl _, by decide, fun p hp => by
    rcases hp with hp | hp
    · exact hin.v hW ho (Or.inl rfl) p hp.1 (by omega)
    · omega⟩
  have hA : AU u0 (o N) 0 := AU_mk hU (fun p hp => by
    rcases hp with hp | hp
    · exact hin.lit hW (Or.inl rfl) p hp.1 (by omega)
    · omega)
  have tp : ∀ j : Int, 0 ≤ j → j < N → TP u0 (o N) 0 (0 + o j) ∧ 131072 ≤ u0 (0 + o j) ∧ u0 (0 + o j) = u0 (o j) ∧ 0 ≤ o j ∧ o j < o N := fun j j0 j1 => by
    have a := hin.lt hW (Or.inl rfl) j0 j1
    exact ⟨⟨_, a.1, Or.inl ⟨by omega, by omega⟩⟩, by rw [a.2.2.2.2.1]; exact a.2.2.2.2.2.1, a.2.2.2.2.1, a.2.1, by omega⟩
  have tk := tp k k0 k1
  have tl := tp l l0 l1
  have ek : (0 : Int) + o k = o k := Int.zero_add _
  have el : (0 : Int) + o l = o l := Int.zero_add _
  rw [ek] at tk
  rw [el] at tl
  have e67 : g67_15 S c k l = if u0 (o k) = u0 (o l) then ob (g68 S c 0) (fun o20 => ob (g69 64 o20 (o k) (o l) 0) (fun o22 => gd (inR o22.1) (if o22.1 = 0 then some (0, o22.2) else ob (g41_15 o22.2) (fun o26 => ob (g72_15 o26 c l 0) (fun o28 => ob (g48_15 o28) (fun o30 => some (1, o30))))))) else some (0, S) := by
    obtain ⟨b, s', N', M, f, gg, x, w, c1, c2, c3, c4, c5, c6, c7, c8, c9, c10, c11⟩ := hK.KC
    have dk := c10 k k0 (by omega)
    have dl := c10 l l0 (by omega)
    have uk := c11 (o k) tk.2.2.2.1 tk.2.2.2.2
    have ul := c11 (o l) tl.2.2.2.1 tl.2.2.2.2
    unfold g67_15
    refine (gC_t c1).trans ?_
    refine (gA_t c5).trans ?_
    try dsimp only
    refine (gd_t (by first | exact ⟨by omega, by omega⟩ | exact ⟨by omega, by omega, by omega⟩ | exact ⟨by omega, by omega, by omega, by omega⟩ | omega | exact inR_to _ | assumption | decide)).trans ?_
    refine (gd_t (by first | exact ⟨by omega, by omega⟩ | exact ⟨by omega, by omega, by omega⟩ | exact ⟨by omega, by omega, by omega, by omega⟩ | omega | exact inR_to _ | assumption | decide)).trans ?_
    refine (gA_t c4).trans ?_
    try dsimp only
    refine (gd_t (by first | exact ⟨by omega, by omega⟩ | exact ⟨by omega, by omega, by omega⟩ | exact ⟨by omega, by omega, by omega, by omega⟩ | omega | exact inR_to _ | assumption | decide)).trans ?_
    refine (gd_t (by first | exact ⟨by omega, by omega⟩ | exact ⟨by omega, by omega, by omega⟩ | exact ⟨by omega, by omega, by omega, by omega⟩ | omega | exact inR_to _ | assumption | decide)).trans ?_
    by_cases hu : u0 (o k) = u0 (o l)
    · refine (if_pos (show (f (gg k).toInt).toInt = (f (gg l).toInt).toInt by rw [dk, dl, uk, ul]; exact hu)).trans ?_
      rw [if_pos hu, dk, dl]
    · refine (if_neg (show ¬ (f (gg k).toInt).toInt = (f (gg l).toInt).toInt by rw [dk, dl, uk, ul]; exact hu)).trans ?_
      rw [if_neg hu]
  obtain ⟨k1', k2', k3', k4', k5', k6'⟩ := hM
  have hM : KM T g N o u0 := ⟨k1', k2', k3', k4', k5', k6'⟩
  have e140 : g140 T g k l = if dn (u0 (o k)) = dn (u0 (o l)) then ob (g100 T) (fun o4 => ob (g141 o4 g 0) (fun o6 => ob (g142 (o6.f 36 24 0) g l 0) (fun o8 => ob (g143 o8 g k 0) (fun o10 => ob (g143 o8 g l 0) (fun o12 => ob (g144 o8 o10 o12) (fun o14 => gd (b1R o14.1) (some (o14.1, o14.2)))))))) else some (0, T) := by
    unfold g140
    refine (gd_t (by first | exact ⟨by omega, by omega⟩ | exact ⟨by omega, by omega, by omega⟩ | exact ⟨by omega, by omega, by omega, by omega⟩ | omega | exact inR_to _ | assumption | decide)).trans ?_
    refine (gd_t (by first | exact ⟨by omega, by omega⟩ | exact ⟨by omega, by omega, by omega⟩ | exact ⟨by omega, by omega, by omega, by omega⟩ | omega | exact inR_to _ | assumption | decide)).trans ?_
    rw [(k5' k k0 k1).2, (k5' l l0 l1).2]
  by_cases hd : dn (u0 (o k)) = dn (u0 (o l))
  · rw [if_pos hd] at e140
    obtain ⟨T1, a1, a2, a3⟩ := g100_t T
    have hM1 : KM T1 g N o u0 := hM.fr a2 (by decide)
    obtain ⟨T2, b1, b2, b3⟩ := load_m (z := 0) hM1 hW ho (Or.inl rfl)
    have hM2 : KM T2 g N o u0 := hM1.fr b2 (by decide)
    have eF : (T2.f 36 24 0).F 36 24 = 0 := by rw [f_F (by decide), if_pos rfl, if_pos rfl]
    obtain ⟨T3, c1, c2, c3, c4, c5, c6, c7⟩ := list_m (z := 0) (sk := l) (u := u0) hW ho (Or.inl rfl) ⟨by omega, by omega⟩ (fun j j0 j1 => (tp j j0 j1).2.2.1) (hM2.mu (f24_MU T2 0)) (by rw [eF]; decide) (by rw [eF]; decide)
    have hM3 : MU T T3 := ((a2.MU (by decide)).trans (b2.MU (by decide))).trans ((f24_MU T2 0).trans c2)
    obtain ⟨m1', m2', m3', m4', m5', m6'⟩ := hM.mu hM3
    have e3 : g140 T g k l = ob (g144 T3 (o k) (o l)) (fun o14 => gd (b1R o14.1) (some (o14.1, o14.2))) := by
      rw [e140, a1]
      refine (ob_t rfl).trans ?_
      rw [b1]
      refine (ob_t rfl).trans ?_
      rw [c1]
      refine (ob_t rfl).trans ?_
      have q1 : g143 T3 g k 0 = some (o k) := by
        unfold g143
        refine (gd_t (by first | exact ⟨by omega, by omega⟩ | exact ⟨by omega, by omega, by omega⟩ | exact ⟨by omega, by omega, by omega, by omega⟩ | omega | exact inR_to _ | assumption | decide)).trans ?_
        rw [(m5' k k0 k1).1, show 64 * g + o k - 64 * g + 0 = o k by omega]
      have q2 : g143 T3 g l 0 = some (o l) := by
        unfold g143
        refine (gd_t (by first | exact ⟨by omega, by omega⟩ | exact ⟨by omega, by omega, by omega⟩ | exact ⟨by omega, by omega, by omega, by omega⟩ | omega | exact inR_to _ | assumption | decide)).trans ?_
        rw [(m5' l l0 l1).1, show 64 * g + o l - 64 * g + 0 = o l by omega]
      rw [q1]
      refine (ob_t rfl).trans ?_
      rw [q2]
      rfl
    obtain ⟨S1, d1, d2, d3, d4⟩ := load_c (z := 0) hK hW ho (Or.inl rfl)
    have hS1 : SC u0 (o N) 0 S1 := fun p hp => by
      rcases hp with hp | hp
      · rw [d4 p, if_pos ⟨hp.1, by omega⟩, sh_0, Int.sub_zero]
      · omega
    have hT3 : SM u0 (o N) 0 T3 := fun p hp => by
      rcases hp with hp | hp
      · rw [c3, f_A, b3 p, if_pos ⟨hp.1, by omega⟩, sh_0, Int.sub_zero]
      · omega
    have hI : IV u0 (o N) 0 S1 T3 := IV.start hU hS1 hT3 (fun p hp hc => by
      have v := hp.v hU hc
      have hpc := hp.pc hU
      have v2 : u0 p / 256 < 16 := by
        rcases hpc with h | h
        · have := (hW.1.2.2.2.2.2.2 p h.1 h.2).2 hc
          omega
        · omega
      rw [d3, if_pos ⟨by omega, by omega⟩]) (fun p hp hc => by
      have v := hp.v hU hc
      rw [c4, f_A, b2.A (by decide)]
      exact a3 _ v.1 (by omega))
    by_cases hu : u0 (o k) = u0 (o l)
    · rw [if_pos hu, d1] at e67
      obtain ⟨bb, S2, T4, q1, q2, q3, q4, q5, q6⟩ := unify hA hI tk.1 tl.1 tk.2.1 tl.2.1 (by rw [hu])
      have e67 : g67_15 S c k l = ob (g69 64 S1 (o k) (o l) 0) (fun o22 => gd (inR o22.1) (if o22.1 = 0 then some (0, o22.2) else ob (g41_15 o22.2) (fun o26 => ob (g72_15 o26 c l 0) (fun o28 => ob (g48_15 o28) (fun o30 => some (1, o30)))))) := e67
      rw [q1] at e67
      rw [q2] at e3
      have fS : Fr [15, 16, 17, 18, 19, 21, 22] S S2 := (d2.mono (by decide)).trans (q4.mono (by decide))
      have fT : MU T T4 := hM3.trans (q5.MU (by decide))
      rcases q3 with rfl | rfl
      · exact ⟨0, S2, T4, e67, e3, DW.no fS fT⟩
      · have hI2 := q6 rfl
        obtain ⟨S3, p1, p2, p3⟩ := begin_15 S2
        obtain ⟨S4, p4, p5, p6⟩ := g72L_t (s := l) (z := 0) (t := S2.A 22) hU hI2.2.2.2.1 n4 ⟨by omega, by omega⟩ (fun j j0 j1 => (tp j j0 j1).1) N.toNat FU 0 S3 (some []) (by omega) (by omega) (FU_gt (by omega)) (hI2.2.1.fr p2 (by decide)) (p2.A (by decide)) (by rw [p2.1, fS.1]; exact hK) p3
        obtain ⟨S5, p7, p8⟩ := CPan_15 p6
        rw [oth_ops] at p6
        refine ⟨1, S5, T4, ?_, e3, made_DW (ps := ops o l 0 N.toNat 0) hA hI2 fS fT (fun p hp => ?_) ?_ ?_ (fun j j0 j1 => ?_) (p2.trans p5) p6 p7 p8⟩
        · rw [e67]
          refine (ob_t rfl).trans ?_
          show gd (inR 1) _ = _
          refine (gd_t (by first | exact ⟨by omega, by omega⟩ | exact ⟨by omega, by omega, by omega⟩ | exact ⟨by omega, by omega, by omega, by omega⟩ | omega | exact inR_to _ | assumption | decide)).trans ?_
          refine (if_neg (show ¬ (1 : Int) = 0 by decide)).trans ?_
          show ob (g41_15 S2) _ = _
          rw [p1]
          show ob (ob (g72_15L3 c l 0 FU 0 S3) _) _ = _
          rw [p4]
          show ob (g48_15 S4) _ = _
          rw [p7]
          rfl
        · obtain ⟨j, j0, j1, j2⟩ := ops_mem _ _ hp
          rw [j2]
          have := tp j j0 (by omega)
          exact ⟨this.1, this.2.1⟩
        · rw [q5.F (by decide), c5, eF, Int.zero_add]
        · have := ops_len o l 0 N.toNat 0
          omega
        · have := c7 j j0 j1
          rw [eF, Int.zero_add] at this
          rw [q5.A (by decide), q5.A (show 49 ∉ [47, 65, 66, 67] by decide)]
          exact this
    · rw [if_neg hu] at e67
      have hmo : mo (u0 (o k)) ≠ mo (u0 (o l)) := fun e => hu ((mo_inj (hW.2.1 _ tk.2.2.2.1 tk.2.2.2.2) (hW.2.1 _ tl.2.2.2.1 tl.2.2.2.2) (by have := tk.2.1; have := tl.2.1; omega) (fun _ => hd)).mp e)
      obtain ⟨T4, q1, q2⟩ := unify_no hU hT3 hI.2.2.2.2.1 tk.1 tl.1 tk.2.1 tl.2.1 hmo
      rw [q1] at e3
      exact ⟨0, S, T4, e67, e3, DW.no (Fr.refl _ _) (hM3.trans (q2.MU (by decide)))⟩
  · rw [if_neg hd] at e140
    rw [if_neg (fun e => hd (by rw [e]))] at e67
    exact ⟨0, S, T, e67, e140, DW.no (Fr.refl _ _) (MU.refl _)⟩
/-- the pool of two clauses -/
def ppl (u1 u2 : Int → Int) (p : Int) : Int := if p < 16 then u1 p else sh 16 (u2 (p - 16))
set_option maxHeartbeats 1000000 in
theorem resolve_sim {S T : St} {g g2 k l N N2 : Int} {c d : Nat} {o u1 o2 u2 : Int → Int} (hK : KT S.tl c N o u1) (hM : KM T g N o u1) (hW : WV N o u1) (ho : o N ≤ 16) (hK2 : KT S.tl d N2 o2 u2) (hM2 : KM T g2 N2 o2 u2) (hW2 : WV N2 o2 u2) (ho2 : o2 N2 ≤ 16) (k0 : 0 ≤ k) (k1 : k < N) (l0 : 0 ≤ l) (l1 : l < N2) : ∃ b S' T', g75_15 S c k d l = some (b, S') ∧ g146 T g k g2 l = some (b, T') ∧ DW S T S' T' b := by
  have n0 := hW.1.1
  have n4 := hW.1.2.1
  have m0 := hW2.1.1
  have m4 := hW2.1.2.1
  have oN := (hW.1.2.2.2.2.2.1 N n0 (Int.le_refl _)).1
  have oM := (hW2.1.2.2.2.2.2.1 N2 m0 (Int.le_refl _)).1
  have in1 : IN (ppl u1 u2) 0 N o u1 := fun p p0 p1 => by
    unfold ppl
    rw [Int.zero_add, sh_0, if_pos (by omega)]
  have in2 : IN (ppl u1 u2) 16 N2 o2 u2 := fun p p0 p1 => by
    unfold ppl
    rw [if_neg (by omega), show (16 : Int) + p - 16 = p by omega]
  have hU : PU (ppl u1 u2) (o N) (o2 N2) := ⟨oN, ho, oM, ho2, fun p hp => by
    rcases hp with hp | hp
    · exact in1.v hW ho (Or.inl rfl) p hp.1 (by omega)
    · exact in2.v hW2 ho2 (Or.inr rfl) p hp.1 hp.2⟩
  have hA : AU (ppl u1 u2) (o N) (o2 N2) := AU_mk hU (fun p hp => by
    rcases hp with hp | hp
    · exact in1.lit hW (Or.inl rfl) p hp.1 (by omega)
    · exact in2.lit hW2 (Or.inr rfl) p hp.1 hp.2)
  have tp1 : ∀ j : Int, 0 ≤ j → j < N → TP (ppl u1 u2) (o N) (o2 N2) (0 + o j) ∧ 131072 ≤ ppl u1 u2 (0 + o j) ∧ ppl u1 u2 (0 + o j) = u1 (o j) ∧ 0 ≤ o j ∧ o j < o N := fun j j0 j1 => by
    have a := in1.lt hW (Or.inl rfl) j0 j1
    exact ⟨⟨_, a.1, Or.inl ⟨by omega, by omega⟩⟩, by rw [a.2.2.2.2.1]; exact a.2.2.2.2.2.1, a.2.2.2.2.1, a.2.1, by omega⟩
  have tp2 : ∀ j : Int, 0 ≤ j → j < N2 → TP (ppl u1 u2) (o N) (o2 N2) (16 + o2 j) ∧ 131072 ≤ ppl u1 u2 (16 + o2 j) ∧ ppl u1 u2 (16 + o2 j) = u2 (o2 j) ∧ 0 ≤ o2 j ∧ o2 j < o2 N2 := fun j j0 j1 => by
    have a := in2.lt hW2 (Or.inr rfl) j0 j1
    exact ⟨⟨_, a.1, Or.inr ⟨by omega, by omega⟩⟩, by rw [a.2.2.2.2.1]; exact a.2.2.2.2.2.1, a.2.2.2.2.1, a.2.1, by omega⟩
  have tk := tp1 k k0 k1
  have tl := tp2 l l0 l1
  have ek : (0 : Int) + o k = o k := Int.zero_add _
  rw [ek] at tk
  have x1 := hW.2.1 (o k) tk.2.2.2.1 tk.2.2.2.2
  have x2 := hW2.2.1 (o2 l) tl.2.2.2.1 tl.2.2.2.2
  have h1 : 131072 ≤ u1 (o k) := by rw [← tk.2.2.1]; exact tk.2.1
  have h2 : 131072 ≤ u2 (o2 l) := by rw [← tl.2.2.1]; exact tl.2.1
  have hx := xr_mo x1 x2 h1 h2
  have nx : noR (u1 (o k)) ∧ noR (u2 (o2 l)) := by
    unfold vx at x1 x2
    exact ⟨⟨by omega, by omega⟩, by omega, by omega⟩
  have xR := xr_R nx
  have e75 : g75_15 S c k d l = if xr (u1 (o k)) (u2 (o2 l)) = 256 then ob (g68 S c 0) (fun o36 => ob (g68 o36 d 16) (fun o38 => ob (g69 64 o38 (o k) (16 + o2 l) 0) (fun o40 => gd (inR o40.1) (if o40.1 = 0 then some (0, o40.2) else ob (g41_15 o40.2) (fun o44 => ob (g72_15 o44 c k 0) (fun o46 => ob (g72_15 o46 d l 16) (fun o48 => ob (g48_15 o48) (fun o50 => some (1, o50))))))))) else some (0, S) := by
    obtain ⟨b, s', N', M, f, gg, x, w, c1, c2, c3, c4, c5, c6, c7, c8, c9, c10, c11⟩ := hK.KC
    obtain ⟨b2, s2', N2', M2, f2, gg2, xx2, w2, d1, d2, d3, d4, d5, d6, d7, d8, d9, d10, d11⟩ := hK2.KC
    have dk := c10 k k0 (by omega)
    have dl := d10 l l0 (by omega)
    have uk := c11 (o k) tk.2.2.2.1 tk.2.2.2.2
    have ul := d11 (o2 l) tl.2.2.2.1 tl.2.2.2.2
    unfold g75_15
    refine (gC_t c1).trans ?_
    refine (gA_t c5).trans ?_
    try dsimp only
    refine (gd_t (by first | exact ⟨by omega, by omega⟩ | exact ⟨by omega, by omega, by omega⟩ | exact ⟨by omega, by omega, by omega, by omega⟩ | omega | exact inR_to _ | assumption | decide)).trans ?_
    refine (gC_t d1).trans ?_
    refine (gA_t d5).trans ?_
    try dsimp only
    refine (gd_t (by first | exact ⟨by omega, by omega⟩ | exact ⟨by omega, by omega, by omega⟩ | exact ⟨by omega, by omega, by omega, by omega⟩ | omega | exact inR_to _ | assumption | decide)).trans ?_
    refine (gA_t c4).trans ?_
    try dsimp only
    refine (gd_t (by first | exact ⟨by omega, by omega⟩ | exact ⟨by omega, by omega, by omega⟩ | exact ⟨by omega, by omega, by omega, by omega⟩ | omega | exact inR_to _ | assumption | decide)).trans ?_
    refine (gA_t d4).trans ?_
    try dsimp only
    refine (gd_t (by first | exact ⟨by omega, by omega⟩ | exact ⟨by omega, by omega, by omega⟩ | exact ⟨by omega, by omega, by omega, by omega⟩ | omega | exact inR_to _ | assumption | decide)).trans ?_
    refine (gd_t (show noR (f (gg k).toInt).toInt ∧ noR (f2 (gg2 l).toInt).toInt by rw [dk, dl, uk, ul]; exact nx)).trans ?_
    refine (gd_t (show inR (xr (f (gg k).toInt).toInt (f2 (gg2 l).toInt).toInt) by rw [dk, dl, uk, ul]; exact ⟨by omega, by omega⟩)).trans ?_
    by_cases hu : xr (u1 (o k)) (u2 (o2 l)) = 256
    · refine (if_pos (show xr (f (gg k).toInt).toInt (f2 (gg2 l).toInt).toInt = 256 by rw [dk, dl, uk, ul]; exact hu)).trans ?_
      rw [if_pos hu, dk, dl]
    · refine (if_neg (show ¬ xr (f (gg k).toInt).toInt (f2 (gg2 l).toInt).toInt = 256 by rw [dk, dl, uk, ul]; exact hu)).trans ?_
      rw [if_neg hu]
  obtain ⟨k1', k2', k3', k4', k5', k6'⟩ := hM
  have hM : KM T g N o u1 := ⟨k1', k2', k3', k4', k5', k6'⟩
  obtain ⟨i1', i2', i3', i4', i5', i6'⟩ := hM2
  have hM2 : KM T g2 N2 o2 u2 := ⟨i1', i2', i3', i4', i5', i6'⟩
  have e146 : g146 T g k g2 l = if dn (u1 (o k)) = dn (u2 (o2 l)) then some (0, T) else ob (g100 T) (fun o4 => ob (g141 o4 g 0) (fun o6 => ob (g141 o6 g2 16) (fun o8 => ob (g142 (o8.f 36 24 0) g k 0) (fun o10 => ob (g142 o10 g2 l 16) (fun o12 => ob (g143 o12 g k 0) (fun o14 => ob (g143 o12 g2 l 16) (fun o16 => ob (g144 o12 o14 o16) (fun o18 => gd (b1R o18.1) (some (o18.1, o18.2)))))))))) := by
    unfold g146
    refine (gd_t (by first | exact ⟨by omega, by omega⟩ | exact ⟨by omega, by omega, by omega⟩ | exact ⟨by omega, by omega, by omega, by omega⟩ | omega | exact inR_to _ | assumption | decide)).trans ?_
    refine (gd_t (by first | exact ⟨by omega, by omega⟩ | exact ⟨by omega, by omega, by omega⟩ | exact ⟨by omega, by omega, by omega, by omega⟩ | omega | exact inR_to _ | assumption | decide)).trans ?_
    rw [(k5' k k0 k1).2, (i5' l l0 l1).2]
  by_cases hd : dn (u1 (o k)) = dn (u2 (o2 l))
  · rw [if_pos hd] at e146
    rw [if_neg (fun e => (hx.mp e).1 hd)] at e75
    exact ⟨0, S, T, e75, e146, DW.no (Fr.refl _ _) (MU.refl _)⟩
  · rw [if_neg hd] at e146
    obtain ⟨T1, a1, a2, a3⟩ := g100_t T
    have hA1 : KM T1 g N o u1 := hM.fr a2 (by decide)
    have hB1 : KM T1 g2 N2 o2 u2 := hM2.fr a2 (by decide)
    obtain ⟨T2, b1, b2, b3⟩ := load_m (z := 0) hA1 hW ho (Or.inl rfl)
    have hA2 : KM T2 g N o u1 := hA1.fr b2 (by decide)
    have hB2 : KM T2 g2 N2 o2 u2 := hB1.fr b2 (by decide)
    obtain ⟨T3, b4, b5, b6⟩ := load_m (z := 16) hB2 hW2 ho2 (Or.inr rfl)
    have hA3 : KM T3 g N o u1 := hA2.fr b5 (by decide)
    have hB3 : KM T3 g2 N2 o2 u2 := hB2.fr b5 (by decide)
    have eF : (T3.f 36 24 0).F 36 24 = 0 := by rw [f_F (by decide), if_pos rfl, if_pos rfl]
    obtain ⟨T4, c1, c2, c3, c4, c5, c6, c7⟩ := list_m (z := 0) (sk := k) (u := ppl u1 u2) hW ho (Or.inl rfl) ⟨by omega, by omega⟩ (fun j j0 j1 => (tp1 j j0 j1).2.2.1) (hA3.mu (f24_MU T3 0)) (by rw [eF]; decide) (by rw [eF]; decide)
    rw [eF] at c5 c6 c7
    have hl1 := ops_len o k 0 N.toNat 0
    have hl2 := ops_len o2 l 16 N2.toNat 0
    obtain ⟨T5, s1, s2, s3, s4, s5, s6, s7⟩ := list_m (z := 16) (sk := l) (u := ppl u1 u2) hW2 ho2 (Or.inr rfl) ⟨by omega, by omega⟩ (fun j j0 j1 => (tp2 j j0 j1).2.2.1) ((hB3.mu (f24_MU T3 0)).mu c2) (by omega) (by omega)
    have hM3 : MU T T5 := (((a2.MU (by decide)).trans (b2.MU (by decide))).trans (b5.MU (by decide))).trans (((f24_MU T3 0).trans c2).trans s2)
    obtain ⟨m1', m2', m3', m4', m5', m6'⟩ := hM.mu hM3
    obtain ⟨j1', j2', j3', j4', j5', j6'⟩ := hM2.mu hM3
    have e3 : g146 T g k g2 l = ob (g144 T5 (o k) (16 + o2 l)) (fun o18 => gd (b1R o18.1) (some (o18.1, o18.2))) := by
      rw [e146, a1]
      refine (ob_t rfl).trans ?_
      rw [b1]
      refine (ob_t rfl).trans ?_
      rw [b4]
      refine (ob_t rfl).trans ?_
      rw [c1]
      refine (ob_t rfl).trans ?_
      rw [s1]
      refine (ob_t rfl).trans ?_
      have q1 : g143 T5 g k 0 = some (o k) := by
        unfold g143
        refine (gd_t (by first | exact ⟨by omega, by omega⟩ | exact ⟨by omega, by omega, by omega⟩ | exact ⟨by omega, by omega, by omega, by omega⟩ | omega | exact inR_to _ | assumption | decide)).trans ?_
        rw [(m5' k k0 k1).1, show 64 * g + o k - 64 * g + 0 = o k by omega]
      have q2 : g143 T5 g2 l 16 = some (16 + o2 l) := by
        unfold g143
        refine (gd_t (by first | exact ⟨by omega, by omega⟩ | exact ⟨by omega, by omega, by omega⟩ | exact ⟨by omega, by omega, by omega, by omega⟩ | omega | exact inR_to _ | assumption | decide)).trans ?_
        rw [(j5' l l0 l1).1, show 64 * g2 + o2 l - 64 * g2 + 16 = 16 + o2 l by omega]
      rw [q1]
      refine (ob_t rfl).trans ?_
      rw [q2]
      rfl
    obtain ⟨S1, d1, d2, d3, d4⟩ := load_c (z := 0) hK hW ho (Or.inl rfl)
    obtain ⟨S2, d5, d6, d7, d8⟩ := load_c (S := S1) (z := 16) (by rw [d2.1]; exact hK2) hW2 ho2 (Or.inr rfl)
    have hS2 : SC (ppl u1 u2) (o N) (o2 N2) S2 := fun p hp => by
      rcases hp with hp | hp
      · rw [d8 p, if_neg (by omega), d4 p, if_pos ⟨hp.1, by omega⟩, sh_0, Int.sub_zero]
        unfold ppl
        rw [if_pos (by omega)]
      · rw [d8 p, if_pos hp]
        unfold ppl
        rw [if_neg (by omega)]
    have hT5 : SM (ppl u1 u2) (o N) (o2 N2) T5 := fun p hp => by
      rcases hp with hp | hp
      · rw [s3, c3, f_A, b6 p, if_neg (by omega), b3 p, if_pos ⟨hp.1, by omega⟩, sh_0, Int.sub_zero]
        unfold ppl
        rw [if_pos (by omega)]
      · rw [s3, c3, f_A, b6 p, if_pos hp]
        unfold ppl
        rw [if_neg (by omega)]
    have hI : IV (ppl u1 u2) (o N) (o2 N2) S2 T5 := IV.start hU hS2 hT5 (fun p hp hc => by
      have v := hp.v hU hc
      rw [d7]
      by_cases h : 16 ≤ ppl u1 u2 p / 256 ∧ ppl u1 u2 p / 256 < 16 + 16
      · rw [if_pos h]
      · rw [if_neg h, d3, if_pos ⟨by omega, by omega⟩]) (fun p hp hc => by
      have v := hp.v hU hc
      rw [s4, c4, f_A, b5.A (by decide), b2.A (by decide)]
      exact a3 _ v.1 (by omega))
    by_cases hu : mo (u1 (o k)) = mo (u2 (o2 l))
    · rw [if_pos (hx.mpr ⟨hd, hu⟩), d1] at e75
      obtain ⟨bb, S3, T6, q1, q2, q3, q4, q5, q6⟩ := unify hA hI tk.1 tl.1 tk.2.1 tl.2.1 (by rw [tk.2.2.1, tl.2.2.1]; exact hu)
      have e75 : g75_15 S c k d l = ob (g68 S1 d 16) (fun o38 => ob (g69 64 o38 (o k) (16 + o2 l) 0) (fun o40 => gd (inR o40.1) (if o40.1 = 0 then some (0, o40.2) else ob (g41_15 o40.2) (fun o44 => ob (g72_15 o44 c k 0) (fun o46 => ob (g72_15 o46 d l 16) (fun o48 => ob (g48_15 o48) (fun o50 => some (1, o50)))))))) := e75
      rw [d5] at e75
      have e75 : g75_15 S c k d l = ob (g69 64 S2 (o k) (16 + o2 l) 0) (fun o40 => gd (inR o40.1) (if o40.1 = 0 then some (0, o40.2) else ob (g41_15 o40.2) (fun o44 => ob (g72_15 o44 c k 0) (fun o46 => ob (g72_15 o46 d l 16) (fun o48 => ob (g48_15 o48) (fun o50 => some (1, o50))))))) := e75
      rw [q1] at e75
      rw [q2] at e3
      have fS : Fr [15, 16, 17, 18, 19, 21, 22] S S3 := ((d2.trans d6).mono (by decide)).trans (q4.mono (by decide))
      have fT : MU T T6 := hM3.trans (q5.MU (by decide))
      rcases q3 with rfl | rfl
      · exact ⟨0, S3, T6, e75, e3, DW.no fS fT⟩
      · have hI2 := q6 rfl
        obtain ⟨S4, p1, p2, p3⟩ := begin_15 S3
        obtain ⟨S5, p4, p5, p6⟩ := g72L_t (s := k) (z := 0) (t := S3.A 22) hU hI2.2.2.2.1 n4 ⟨by omega, by omega⟩ (fun j j0 j1 => (tp1 j j0 j1).1) N.toNat FU 0 S4 (some []) (by omega) (by omega) (FU_gt (by omega)) (hI2.2.1.fr p2 (by decide)) (p2.A (by decide)) (by rw [p2.1, fS.1]; exact hK) p3
        have p25 := p2.trans p5
        obtain ⟨S6, z4, z5, z6⟩ := g72L_t (s := l) (z := 16) (t := S3.A 22) hU hI2.2.2.2.1 m4 ⟨by omega, by omega⟩ (fun j j0 j1 => (tp2 j j0 j1).1) N2.toNat FU 0 S5 _ (by omega) (by omega) (FU_gt (by omega)) (hI2.2.1.fr p25 (by decide)) (p25.A (by decide)) (by rw [p25.1, fS.1]; exact hK2) p6
        obtain ⟨S7, p7, p8⟩ := CPan_15 z6
        rw [oth_ops, oth_ops, ← List.foldl_append, ← List.map_append] at z6
        refine ⟨1, S7, T6, ?_, e3, made_DW (ps := ops o k 0 N.toNat 0 ++ ops o2 l 16 N2.toNat 0) hA hI2 fS fT (fun p hp => ?_) ?_ ?_ (fun j j0 j1 => ?_) (p25.trans z5) z6 p7 p8⟩
        · rw [e75]
          refine (ob_t rfl).trans ?_
          show gd (inR 1) _ = _
          refine (gd_t (by first | exact ⟨by omega, by omega⟩ | exact ⟨by omega, by omega, by omega⟩ | exact ⟨by omega, by omega, by omega, by omega⟩ | omega | exact inR_to _ | assumption | decide)).trans ?_
          refine (if_neg (show ¬ (1 : Int) = 0 by decide)).trans ?_
          show ob (g41_15 S3) _ = _
          rw [p1]
          show ob (ob (g72_15L3 c k 0 FU 0 S4) _) _ = _
          rw [p4]
          show ob (ob (g72_15L3 d l 16 FU 0 S5) _) _ = _
          rw [z4]
          show ob (g48_15 S6) _ = _
          rw [p7]
          rfl
        · rcases List.mem_append.mp hp with hp | hp
          · obtain ⟨j, j0, j1, j2⟩ := ops_mem _ _ hp
            rw [j2]
            have := tp1 j j0 (by omega)
            exact ⟨this.1, this.2.1⟩
          · obtain ⟨j, j0, j1, j2⟩ := ops_mem _ _ hp
            rw [j2]
            have := tp2 j j0 (by omega)
            exact ⟨this.1, this.2.1⟩
        · rw [q5.F (by decide), s5, c5, List.length_append]
          omega
        · rw [List.length_append]
          omega
        · rw [List.length_append] at j1
          rw [q5.A (by decide), q5.A (show 49 ∉ [47, 65, 66, 67] by decide)]
          by_cases hj : j < (ops o k 0 N.toNat 0).length
          · rw [gI_l hj j0]
            have h3 := c7 j j0 hj
            rw [Int.zero_add] at h3
            have h4 := s6 j (by omega)
            rw [h4.1, h4.2]
            exact h3
          · rw [gI_r (by omega)]
            have h3 := s7 (j - (ops o k 0 N.toNat 0).length) (by omega) (by omega)
            rw [c5, show (0 : Int) + ((ops o k 0 N.toNat 0).length : Int) + (j - ((ops o k 0 N.toNat 0).length : Int)) = j by omega] at h3
            exact h3
    · rw [if_neg (fun e => hu (hx.mp e).2)] at e75
      obtain ⟨T6, q1, q2⟩ := unify_no hU hT5 hI.2.2.2.2.1 tk.1 tl.1 tk.2.1 tl.2.1 (by rw [tk.2.2.1, tl.2.2.1]; exact hu)
      rw [q1] at e3
      exact ⟨0, S, T6, e75, e3, DW.no (Fr.refl _ _) (hM3.trans (q2.MU (by decide)))⟩
