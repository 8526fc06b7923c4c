/-! both readings of a formula, side by side -/
def FQ (tx : Int → Int) (len : Int) (S T : St) (pos : Int) (d q k : Nat) (nm cd num : Int → Int) (L : List (List Int)) : Prop := (RC0 tx len S pos ∧ RM tx len T pos) ∧ (ECf k nm cd S ∧ EMf k nm num T [] ∧ UF k cd T) ∧ (T.F 36 35 = S.F 1 10 ∧ 0 ≤ S.F 1 10 ∧ 2 * S.F 1 10 ≤ 200 + pos ∧ 0 ≤ S.F 1 9 ∧ 2 * S.F 1 9 ≤ pos ∧ 0 ≤ T.F 36 34 ∧ 2 * T.F 36 34 ≤ pos ∧ T.F 36 22 ≤ 5 * pos) ∧ (T.F 36 46 = L.length ∧ b1R (T.F 36 36) ∧ (T.F 36 36 = 0 → S.F 1 10 ≤ 99)) ∧ (0 ≤ S.F 3 5 ∧ S.F 3 5 + d ≤ pos ∧ 2 * (L.length : Int) = S.F 3 5 + q ∧ 0 ≤ S.F 3 7 ∧ S.F 3 7 ≤ 16 * L.length) ∧ ((∀ i : Nat, i < k → num i < T.F 36 34 ∧ (cd i < 32768 → T.A 47 (num i) < 0)) ∧ ∀ c : Int, T.F 36 34 ≤ c → c < 128 → T.A 47 c < 0) ∧ (S.F 1 10 ≤ 99 → ∃ nu, GQ (T.A 46) (T.A 47) (T.A 60) (T.A 61) nu (S.F 1 9) (T.F 36 34) (T.F 36 22) k cd num L)
def mX : List Nat := [46, 47, 50, 51, 52, 53, 54, 55, 56, 57, 58, 59, 60, 61]
def mY : List Nat := [22, 27, 28, 30, 34, 35, 36, 42, 43, 46]
/-- the second object's rows and signs do not matter -/
theorem FQ.m {tx : Int → Int} {len pos : Int} {S T T' : St} {d q k : Nat} {nm cd num : Int → Int} {L : List (List Int)} (h : FQ tx len S T pos d q k nm cd num L) (hA : ∀ c ∈ [37, 46, 47, 50, 51, 52, 60, 61], T'.A c = T.A c) (hF : ∀ i ∈ [2, 22, 27, 28, 29, 30, 34, 35, 36, 46], T'.F 36 i = T.F 36 i) : FQ tx len S T' pos d q k nm cd num L := by
  unfold FQ RM EMf UF at h ⊢
  rw [hA 37 (by decide), hA 46 (by decide), hA 47 (by decide), hA 50 (by decide), hA 51 (by decide), hA 52 (by decide), hA 60 (by decide), hA 61 (by decide), hF 2 (by decide), hF 22 (by decide), hF 27 (by decide), hF 28 (by decide), hF 29 (by decide), hF 30 (by decide), hF 34 (by decide), hF 35 (by decide), hF 36 (by decide), hF 46 (by decide)]
  exact h
theorem RC0.adv {tx : Int → Int} {len pos p : Int} {S : St} (hQ : QX tx len) (h : RC0 tx len S pos) (h1 : pos ≤ p) (h2 : p ≤ len) : RC0 tx len (S.f 1 4 p) p := by
  obtain ⟨b1, b2, b3, b4, b5, b6⟩ := h
  have l160 := hQ.2.1
  have iR : inR p := ⟨by omega, by omega⟩
  exact ⟨by rw [f_F iR, if_pos rfl, if_neg (by decide)]; exact b1, by rw [f_F iR, if_pos rfl, if_pos rfl], by rw [f_F iR, if_pos rfl, if_neg (by decide)]; exact b3, b4, by omega, h2⟩
/-- a sign is pushed -/
def psh (T : St) (pos d c v : Int) : St := (((T.f 36 27 (pos + 1)).a 54 d c).a 55 d v).a 56 d 0
theorem psh_x (T : St) (pos d c v : Int) : Fx mX mY T (psh T pos d c v) := (Fx.f T (by decide) _).trans ((Fx.a _ (by decide) (by decide) _ _).trans ((Fx.a _ (by decide) (by decide) _ _).trans (Fx.a _ (by decide) (by decide) _ _)))
theorem psh_F {T : St} {pos d c v : Int} (hp : inR (pos + 1)) : (∀ i, i ≠ 27 → (psh T pos d c v).F 36 i = T.F 36 i) ∧ (psh T pos d c v).F 36 27 = pos + 1 := by
  refine ⟨fun i hi => ?_, ?_⟩
  · show (T.f 36 27 (pos + 1)).F 36 i = _
    rw [f_F hp, if_pos rfl, if_neg hi]
  · show (T.f 36 27 (pos + 1)).F 36 27 = _
    rw [f_F hp, if_pos rfl, if_pos rfl]
theorem psh_A {T : St} {pos d c v : Int} (hc : inR c) (hv : inR v) : (∀ n, n ∉ [54, 55, 56] → (psh T pos d c v).A n = T.A n) ∧ (psh T pos d c v).A 54 = upI (T.A 54) d c ∧ (psh T pos d c v).A 55 = upI (T.A 55) d v ∧ (psh T pos d c v).A 56 = upI (T.A 56) d 0 := by
  unfold psh
  refine ⟨fun n hn => ?_, ?_, ?_, ?_⟩
  · rw [aA_ne (fun e => hn (by rw [e]; decide)), aA_ne (fun e => hn (by rw [e]; decide)), aA_ne (fun e => hn (by rw [e]; decide)), f_A]
  · rw [aA_ne (by decide), aA_ne (by decide), aA_up hc, f_A]
  · rw [aA_ne (by decide), aA_up hv, aA_ne (by decide), f_A]
  · rw [aA_up (by decide), aA_ne (by decide), aA_ne (by decide), f_A]
theorem FQ.sign {tx : Int → Int} {len pos c v : Int} {S T : St} {d q k : Nat} {nm cd num : Int → Int} {L : List (List Int)} (hQ : QX tx len) (h : FQ tx len S T pos d q k nm cd num L) (hp : pos < len) (hc : inR c) (hv : inR v) : FQ tx len (S.f 1 4 (pos + 1)) (psh T pos d c v) (pos + 1) (d + 1) q k nm cd num L := by
  obtain ⟨⟨h1, h2⟩, ⟨h3, h4, h5⟩, ⟨n1, n2, n3, n4, n5, n6, n7, n8⟩, ⟨l1, l2, l3⟩, ⟨t1, t2, t3, t4, t5⟩, ⟨g1, g2⟩, g3⟩ := h
  have l160 := hQ.2.1
  have p0 := h1.2.2.2.2.1
  have iR : inR (pos + 1) := ⟨by omega, by omega⟩
  have sF : ∀ i, i ≠ 4 → (S.f 1 4 (pos + 1)).F 1 i = S.F 1 i := fun i hi => by rw [f_F iR, if_pos rfl, if_neg hi]
  have s3 : (S.f 1 4 (pos + 1)).F 3 = S.F 3 := fF_ne (by decide)
  obtain ⟨pF, pF27⟩ := psh_F (T := T) (pos := pos) (d := d) (c := c) (v := v) iR
  obtain ⟨pA, _, _, _⟩ := psh_A (T := T) (pos := pos) (d := d) hc hv
  unfold FQ
  rw [pF 35 (by decide), pF 34 (by decide), pF 22 (by decide), pF 46 (by decide), pF 36 (by decide), pA 46 (by decide), pA 47 (by decide), pA 60 (by decide), pA 61 (by decide), sF 10 (by decide), sF 9 (by decide), s3]
  refine ⟨⟨h1.adv hQ (by omega) (by omega), ⟨by rw [pF 2 (by decide)]; exact h2.1, pF27, by rw [pF 28 (by decide)]; exact h2.2.2.1, by rw [pA 37 (by decide)]; exact h2.2.2.2.1, by omega, by omega, by rw [pF 22 (by decide)]; exact h2.2.2.2.2.2.2.1, by rw [pF 22 (by decide)]; have := h2.2.2.2.2.2.2.2; omega⟩⟩, ⟨?_, ?_, ?_⟩, ⟨n1, n2, by omega, n4, by omega, n6, by omega, by omega⟩, ⟨l1, l2, l3⟩, ⟨t1, by omega, t3, t4, t5⟩, ⟨g1, g2⟩, g3⟩
  · unfold ECf at h3 ⊢
    rw [sF 5 (by decide), sF 8 (by decide)]
    exact h3
  · unfold EMf at h4 ⊢
    rw [pF 29 (by decide), pF 30 (by decide), pA 50 (by decide), pA 51 (by decide)]
    exact h4
  · unfold UF at h5 ⊢
    rw [pA 52 (by decide)]
    exact h5
theorem SI_psh {T : St} {pos c v : Int} {d : Nat} {top : Int} (hp : inR (pos + 1)) (hc : isU c ∨ isB c) (hv : b1R v) (h : SI T d top) : SI (psh T pos d c v) (d + 1) top := by
  have ic : inR c := by
    rcases hc with h | h
    · rcases h with e | e | e <;> (rw [e]; decide)
    · rcases h with e | e | e <;> (rw [e]; decide)
  have iv : inR v := by rcases hv with e | e <;> (rw [e]; decide)
  obtain ⟨pA, p54, p55, p56⟩ := psh_A (T := T) (pos := pos) (d := d) ic iv
  have sub : SI (psh T pos d c v) d top := SI.fr d top h (fun i hi => by rw [p54, p55, p56, pA 57 (by decide), upI_n (by omega), upI_n (by omega), upI_n (by omega)]; exact ⟨rfl, rfl, rfl, rfl⟩) ⟨fun i _ => by rw [pA 58 (by decide)], fun i _ => by rw [pA 59 (by decide)]⟩
  refine ⟨by rw [p55, upI_e]; exact hv, ?_⟩
  rw [p54, p56, upI_e, upI_e]
  rcases hc with h1 | h1
  · exact Or.inl ⟨h1, sub⟩
  · exact Or.inr (Or.inl ⟨h1, rfl, sub⟩)
/-- both bind a name -/
theorem FQ.bind {tx : Int → Int} {len pos n p c v : Int} {S T : St} {d q k : Nat} {nm cd num : Int → Int} {L : List (List Int)} {ex : Bool} {rc : St → Int → Int → Option (Int × St)} (hQ : QX tx len) (h : FQ tx len S T pos d q k nm cd num L) (hp : pos < len) (hc : inR c) (hv : inR v) (hk : k < 10) (hn : nmr tx 120 122 (pos + 1) = some (n, p)) (dd : Int) : ∃ S2 T2 x, g37b rc (S.f 1 4 (pos + 1)) (if ex = true then 1 else 0) v dd = ob (rc S2 v (dd + 1)) (fun o => some (o.1, o.2.f 1 8 (o.2.F 1 8 - 1))) ∧ g116 (psh T pos d c v) (if ex = true then 0 else 1) = some T2 ∧ FQ tx len S2 T2 p (d + 1) q (k + 1) (upI nm k n) (upI cd k x) (upI num k (T.F 36 34)) L ∧ FP S S2 ∧ TG S S2 ∧ Fx mX mY T T2 ∧ Fx qX qY (psh T pos d c v) T2 ∧ (T2.F 36 36 = 0 → T.F 36 36 = 0) ∧ (T2.F 36 36 = 1 → T.F 36 36 = 1 ∨ 99 < S2.F 1 10) ∧ pos + 2 ≤ p ∧ S.F 1 10 ≤ S2.F 1 10 := by
  have hs := h.sign hQ hp hc hv
  obtain ⟨⟨h1, h2⟩, ⟨h3, h4, h5⟩, ⟨n1, n2, n3, n4, n5, n6, n7, n8⟩, ⟨l1, l2, l3⟩, ⟨t1, t2, t3, t4, t5⟩, ⟨g1, g2⟩, g3⟩ := hs
  obtain ⟨⟨o1, o2⟩, _, ⟨m1, m2, m3, m4, m5, m6, m7, m8⟩, _, ⟨_, w2, _⟩, _, _⟩ := h
  have l160 := hQ.2.1
  have p0 := o1.2.2.2.2.1
  have iR : inR (pos + 1) := ⟨by omega, by omega⟩
  have np := nmr_p hQ h1.2.2.2.2.1 (by decide) hn
  have bc := bound_c (ex := ex) (rc := rc) (d := dd) (v := v) hQ h1 h3 hk (by omega) (by omega) n2 (by omega)
  rw [hn] at bc
  obtain ⟨S2, s1, s2, s3, s4, s5, s6, s7, s8⟩ := bc
  have sF : ∀ i, i ≠ 4 → (S.f 1 4 (pos + 1)).F 1 i = S.F 1 i := fun i hi => by rw [f_F iR, if_pos rfl, if_neg hi]
  have s3' : (S.f 1 4 (pos + 1)).F 3 = S.F 3 := fF_ne (by decide)
  obtain ⟨pF, pF27⟩ := psh_F (T := T) (pos := pos) (d := d) (c := c) (v := v) iR
  rw [sF 9 (by decide), sF 10 (by decide)] at s3
  rw [sF 9 (by decide)] at s4
  rw [sF 10 (by decide)] at s5
  rw [s3'] at s7
  rw [pF 35 (by decide), sF 10 (by decide)] at n1
  have fp : FP S S2 := (FP.f1 S (by decide) _).trans s6
  have tg : TG S S2 := TG.same s7 (fun c c4 c9 => s8 c c4 c9)
  have hle := h4.2.2.2
  cases ex with
  | false =>
    have ex0 : bcd false (S.F 1 9) (S.F 1 10) cd k = S.F 1 9 * 256 := if_neg (by decide)
    rw [ex0] at s3
    obtain ⟨T2, u1, u2, u3, u4, u5, u6, u7, u8, u9, u10, u11⟩ := g116_u (x := S.F 1 9 * 256) hQ h2 h4 h5 hk n6 (by omega) hn (by omega)
    rw [pF 34 (by decide)] at u3 u5 n6 n7
    rw [pF 35 (by decide)] at u9
    rw [pF 36 (by decide)] at u10 l2 l3
    rw [pF 22 (by decide)] at u8
    have s4 : S2.F 1 9 = S.F 1 9 + 1 := s4
    have s5 : S2.F 1 10 = S.F 1 10 := by rw [s5]; exact Int.add_zero _
    have f46 : T2.F 36 46 = T.F 36 46 := by rw [u11.F (by decide)]; exact pF 46 (by decide)
    rw [pF 46 (by decide)] at l1
    have a60 : T2.A 60 = (psh T pos d c v).A 60 := u11.A (by decide) (by decide)
    have a61 : T2.A 61 = (psh T pos d c v).A 61 := u11.A (by decide) (by decide)
    refine ⟨S2, T2, S.F 1 9 * 256, s1, u1, ⟨⟨s2, u2⟩, ⟨s3, u3, u4⟩, ⟨by rw [u9, s5]; exact n1, by rw [s5]; exact m2, by rw [s5]; omega, by rw [s4]; omega, by rw [s4]; omega, by rw [u5]; omega, by rw [u5]; omega, by rw [u8]; omega⟩, ⟨by rw [f46]; exact l1, by rw [u10]; exact l2, by rw [u10, s5]; intro h; have := l3 h; rw [sF 10 (by decide)] at this; exact this⟩, ?_, ⟨fun i hi => ?_, fun c c0 c1 => ?_⟩, fun hf => ?_⟩, fp, tg, (psh_x T pos d c v).trans (u11.mono (by decide) (by decide)), u11, fun h => by rw [u10] at h; exact h, fun h => Or.inl (by rw [u10] at h; exact h), by omega, by omega⟩
    · rw [s3'] at t1 t2 t3 t4 t5
      rw [s7]
      exact ⟨t1, by omega, t3, t4, t5⟩
    · rw [u7, u5]
      by_cases hik : i = k
      · rw [hik, upI_e, upI_e]
        exact ⟨by omega, fun _ => g2 _ (by rw [pF 34 (by decide)]; omega) (by omega)⟩
      · rw [upI_n (by omega), upI_n (by omega)]
        have := g1 i (by omega)
        rw [pF 34 (by decide)] at this
        exact ⟨by omega, this.2⟩
    · rw [u7]
      rw [u5] at c0
      exact g2 c (by rw [pF 34 (by decide)]; omega) c1
    · rw [s5] at hf
      obtain ⟨nu, hG⟩ := g3 (by rw [sF 10 (by decide)]; exact hf)
      rw [sF 9 (by decide), pF 34 (by decide), pF 22 (by decide)] at hG
      refine ⟨upI nu (T.F 36 34) [S.F 1 9 * 256], ?_⟩
      rw [u6, u7, a60, a61, u5, u8, s4]
      exact hG.univ m6 m4 (by omega) (g2 _ (by rw [pF 34 (by decide)]; omega) (by omega))
  | true =>
    have hub := ubs_len cd k
    have ex0 : bcd true (S.F 1 9) (S.F 1 10) cd k = 65536 + (S.F 1 10 + 1) * 256 + (ubs cd k).length := if_pos rfl
    have lu := uns_len num cd k
    obtain ⟨T2, u1, u2, u3, u4, u5, u6, u7, u8, u9, u10, u11, u12, u13, u14⟩ := g116_x (x := bcd true (S.F 1 9) (S.F 1 10) cd k) hQ h2 h4 h5 hk n6 (by omega) (by rw [pF 35 (by decide), n1]; exact m2) (by rw [pF 35 (by decide), n1]; omega) l2 (by rw [pF 22 (by decide)]; omega) hn (by rw [ex0]; omega)
    rw [pF 34 (by decide)] at u3 u5 u9 n6 n7
    rw [pF 35 (by decide), n1] at u6 u8 u12
    rw [pF 36 (by decide)] at u8 l2 l3
    rw [pF 22 (by decide)] at u9 u10 u11 u12 u13
    have s4 : S2.F 1 9 = S.F 1 9 := by rw [s4]; exact Int.add_zero _
    have s5 : S2.F 1 10 = S.F 1 10 + 1 := s5
    have f46 : T2.F 36 46 = T.F 36 46 := by rw [u14.F (by decide)]; exact pF 46 (by decide)
    rw [pF 46 (by decide)] at l1
    have a60 : T2.A 60 = (psh T pos d c v).A 60 := u14.A (by decide) (by decide)
    have a61 : T2.A 61 = (psh T pos d c v).A 61 := u14.A (by decide) (by decide)
    refine ⟨S2, T2, bcd true (S.F 1 9) (S.F 1 10) cd k, s1, u1, ⟨⟨s2, u2⟩, ⟨s3, u3, u4⟩, ⟨by rw [u6, s5], by rw [s5]; omega, by rw [s5]; omega, by rw [s4]; omega, by rw [s4]; omega, by rw [u5]; omega, by rw [u5]; omega, by rw [u10]; omega⟩, ⟨by rw [f46]; exact l1, u7, by rw [s5]; intro h; exact (u8.mp h).2⟩, ?_, ⟨fun i hi => ?_, fun c c0 c1 => ?_⟩, fun hf => ?_⟩, fp, tg, (psh_x T pos d c v).trans (u14.mono (by decide) (by decide)), u14, fun h => (u8.mp h).1, fun h => ?_, by omega, by omega⟩
    · rw [s3'] at t1 t2 t3 t4 t5
      rw [s7]
      exact ⟨t1, by omega, t3, t4, t5⟩
    · rw [u9, u5]
      by_cases hik : i = k
      · rw [hik, upI_e, upI_e, ex0]
        exact ⟨by omega, fun h => by omega⟩
      · rw [upI_n (show (i : Int) ≠ k by omega), upI_n (show (i : Int) ≠ k by omega)]
        have := g1 i (by omega)
        rw [pF 34 (by decide)] at this
        refine ⟨by omega, fun hc => ?_⟩
        rw [upI_n (by omega)]
        exact this.2 hc
    · rw [u9]
      rw [u5] at c0
      rw [upI_n (by omega)]
      exact g2 c (by rw [pF 34 (by decide)]; omega) c1
    · rw [s5] at hf
      obtain ⟨nu, hG⟩ := g3 (by rw [sF 10 (by decide)]; omega)
      rw [sF 9 (by decide), pF 34 (by decide), pF 22 (by decide)] at hG
      refine ⟨upI nu (T.F 36 34) (bcd true (S.F 1 9) (S.F 1 10) cd k :: ubs cd k), ?_⟩
      rw [u9, a60, a61, u5, s4]
      have t0 := o2.2.2.2.2.2.2.1
      exact hG.exis m6 t0 m2 (by omega) (by omega) (fun i hi => by
        have a := g1 i hi
        have b := hle i (by omega) (by omega)
        rw [pF 34 (by decide)] at a
        exact ⟨a.2, b.2.2.2.2.1, b.2.2.2.2.2, a.1⟩) u11 u12 u13 u10
    · by_cases h0 : T.F 36 36 = 0
      · refine Or.inr ?_
        rw [s5]
        by_cases h99 : S.F 1 10 + 1 ≤ 99
        · have := u8.mpr ⟨h0, h99⟩
          omega
        · omega
      · rcases l2 with e | e
        · exact absurd e h0
        · exact Or.inl e
/-- and let it go -/
theorem FQ.pop {tx : Int → Int} {len pos : Int} {S T : St} {d q k : Nat} {nm cd num nm' cd' num' : Int → Int} {L : List (List Int)} (h : FQ tx len S T pos (d + 1) q (k + 1) nm' cd' num' L) (hc : ∀ i : Nat, i < k → nm i = nm' i ∧ cd i = cd' i ∧ num i = num' i) : FQ tx len (S.f 1 8 (S.F 1 8 - 1)) (T.f 36 30 (T.F 36 30 - 1)) pos d q k nm cd num L := by
  obtain ⟨⟨h1, h2⟩, ⟨h3, h4, h5⟩, ⟨n1, n2, n3, n4, n5, n6, n7, n8⟩, ⟨l1, l2, l3⟩, ⟨t1, t2, t3, t4, t5⟩, ⟨g1, g2⟩, g3⟩ := h
  have e8 := h3.2.1
  have e30 := h4.2.1
  have k10 := h3.2.2.1
  have i8 : inR (S.F 1 8 - 1) := ⟨by omega, by omega⟩
  have i30 : inR (T.F 36 30 - 1) := ⟨by omega, by omega⟩
  have sF : ∀ i, i ≠ 8 → (S.f 1 8 (S.F 1 8 - 1)).F 1 i = S.F 1 i := fun i hi => by rw [f_F i8, if_pos rfl, if_neg hi]
  have s3 : (S.f 1 8 (S.F 1 8 - 1)).F 3 = S.F 3 := fF_ne (by decide)
  have pF : ∀ i, i ≠ 30 → (T.f 36 30 (T.F 36 30 - 1)).F 36 i = T.F 36 i := fun i hi => by rw [f_F i30, if_pos rfl, if_neg hi]
  unfold FQ
  rw [pF 35 (by decide), pF 34 (by decide), pF 22 (by decide), pF 46 (by decide), pF 36 (by decide), sF 10 (by decide), sF 9 (by decide), s3, f_A]
  refine ⟨⟨⟨by rw [sF 1 (by decide)]; exact h1.1, by rw [sF 4 (by decide)]; exact h1.2.1, by rw [sF 3 (by decide)]; exact h1.2.2.1, h1.2.2.2⟩, ⟨by rw [pF 2 (by decide)]; exact h2.1, by rw [pF 27 (by decide)]; exact h2.2.1, by rw [pF 28 (by decide)]; exact h2.2.2.1, h2.2.2.2.1, h2.2.2.2.2.1, h2.2.2.2.2.2.1, by rw [pF 22 (by decide)]; exact h2.2.2.2.2.2.2.1, by rw [pF 22 (by decide)]; exact h2.2.2.2.2.2.2.2⟩⟩, ⟨⟨by rw [sF 5 (by decide)]; exact h3.1, by rw [f_F i8, if_pos rfl, if_pos rfl]; omega, by omega, fun i i0 i1 => ?_⟩, ⟨by rw [pF 29 (by decide)]; exact h4.1, by rw [f_F i30, if_pos rfl, if_pos rfl]; omega, by omega, fun i i0 i1 => ?_⟩, fun i i0 i1 => ?_⟩, ⟨n1, n2, n3, n4, n5, n6, n7, n8⟩, ⟨l1, l2, l3⟩, ⟨t1, by omega, t3, t4, t5⟩, ⟨fun i hi => ?_, g2⟩, fun hf => ?_⟩
  · have e := hc i.toNat (by omega)
    rw [show (i.toNat : Int) = i by omega] at e
    have a := h3.2.2.2 i i0 (by omega)
    rw [f_A, e.1, e.2.1]
    exact a
  · have e := hc i.toNat (by omega)
    rw [show (i.toNat : Int) = i by omega] at e
    have a := h4.2.2.2 i i0 (by omega)
    rw [f_A, e.1, e.2.2]
    exact a
  · have e := hc i.toNat (by omega)
    rw [show (i.toNat : Int) = i by omega] at e
    have a := h5 i i0 (by omega)
    rw [f_A, e.2.1]
    exact a
  · have e := hc i hi
    rw [e.2.1, e.2.2]
    exact g1 i (by omega)
  · obtain ⟨nu, hG⟩ := g3 hf
    exact ⟨nu, hG.pop (by omega) (fun i hi => ⟨(hc i hi).2.1, (hc i hi).2.2⟩)⟩
