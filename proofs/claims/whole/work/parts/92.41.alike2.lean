/-! two terms made alike: the whole walk -/
theorem FU_gt {n : Nat} (h : n < 2 ^ 190) : n < FU := by
  obtain ⟨m, hm⟩ := FU_ge h
  omega
theorem SC.fr {u : Int → Int} {w1 w2 : Int} {S S' : St} {X : List Nat} (h : SC u w1 w2 S) (f : Fr X S S') (hX : 21 ∉ X) : SC u w1 w2 S' := fun p hp => by rw [f.A hX]; exact h p hp
theorem SM.fr {u : Int → Int} {w1 w2 : Int} {S S' : St} {X : List Nat} (h : SM u w1 w2 S) (f : Fr X S S') (hX : 46 ∉ X) : SM u w1 w2 S' := fun p hp => by rw [f.A hX]; exact h p hp
theorem IV.fr {u : Int → Int} {w1 w2 : Int} {S T T' : St} {X : List Nat} (h : IV u w1 w2 S T) (f : Fr X T T') (hX : 46 ∉ X) (hY : 47 ∉ X) : IV u w1 w2 S T' := by
  obtain ⟨hU, hS, hT, hP, hQ, hC, hN, hM⟩ := h
  have e := f.A hY
  exact ⟨hU, hS, hT.fr f hX, hP, by rw [e]; exact hQ, by rw [e]; exact hC, hN, by rw [e]; exact hM⟩
theorem EX.trans {u : Int → Int} {w1 w2 : Int} {t t' t2 : Int → Int} (h : EX u w1 w2 t t') (g : EX u w1 w2 t' t2) : EX u w1 w2 t t2 := fun H hH => h H (g H hH)
theorem EX.refl {u : Int → Int} {w1 w2 : Int} {t : Int → Int} : EX u w1 w2 t t := fun _ h => h
theorem LO.mono {k k' : Int} {T U : St} (h : LO k T U) (hk : k' ≤ k) : LO k' T U := fun i hi => h i (by omega)
theorem AS.mono {u : Int → Int} {w1 w2 k k' : Int} {S T : St} {n c c' : Nat} {res : Option (Sum St (Int × St))} (h : AS u w1 w2 S T k k' n c res) (hc : c ≤ c') : AS u w1 w2 S T k k' n c' res := by
  obtain ⟨S', f, h⟩ := h
  refine ⟨S', f, ?_⟩
  rcases h with ⟨h1, T', n', h2, h3, h4⟩ | h
  · exact Or.inl ⟨h1, T', n', h2, by omega, h4⟩
  · exact Or.inr h
/-- a step at which both bind, or both give up -/
def BS (u : Int → Int) (w1 w2 : Int) (S T : St) (X : Option (Int × St)) (Y : (St → Option (Sum St (Int × St))) → Option (Sum St (Int × St))) : Prop := ∃ S', Fr [22] S S' ∧ ((X = some (1, S') ∧ ∃ T', (∀ K, Y K = K T') ∧ Fr [47, 65] T T' ∧ IV u w1 w2 S' T' ∧ EX u w1 w2 (S.A 22) (S'.A 22) ∧ EX u w1 w2 (T.A 47) (T'.A 47)) ∨ (X = some (0, S') ∧ ∃ T', (∀ K, Y K = some (.inr (0, T'))) ∧ Fr [47, 65] T T'))
theorem BS.as {u : Int → Int} {w1 w2 k : Int} {S T : St} {m : Nat} {X : Option (Int × St)} {Y : (St → Option (Sum St (Int × St))) → Option (Sum St (Int × St))} (h : BS u w1 w2 S T X Y) (e : g144L16 (m + 1) k T = Y (fun W => g144L16 m (k - 1) W)) : AS u w1 w2 S T k (k - 1) (m + 1) 1 (rs X) := by
  obtain ⟨S', f, h⟩ := h
  refine ⟨S', f, ?_⟩
  rcases h with ⟨h1, T', h2, h3, h4, h5, h6⟩ | ⟨h1, T', h2, h3⟩
  · exact Or.inl ⟨by rw [h1]; exact rs_1 _, T', m, e.trans (h2 _), Nat.le_refl _, h3.mono (by decide), h3.lo (by decide) (by decide), h4, h5, h6⟩
  · exact Or.inr ⟨by rw [h1]; exact rs_0 _, T', e.trans (h2 _), h3.mono (by decide)⟩
theorem NB.bind {u t : Int → Int} {w1 w2 v q : Int} (h : NB u w1 w2 t) (hq : u q < 131072) : NB u w1 w2 (upI t v q) := fun p hp hc hw => by
  by_cases e : u p / 256 = v
  · rw [e, upI_e]; exact hq
  · rw [upI_n e] at hw ⊢; exact h p hp hc hw
theorem nRE {u t : Int → Int} {x p : Int} (hx : x < 32768) (hc : ¬ (u p < 32768 ∧ 0 ≤ t (u p / 256))) (hz : u p % 256 = 0) (hn : u p ≠ x) : ¬ RE u t x p := fun h => by
  rcases (RE_end hx hc (fun _ => hz)).mp h with h | ⟨j, hj, _⟩
  · exact hn h
  · omega
theorem bind_core {u : Int → Int} {w1 w2 x y c c' : Int} {S T : St} (hI : IV u w1 w2 S T) (hv : x < 32768) (xv : 0 ≤ x / 256 ∧ x / 256 < 32 ∧ x % 256 = 0) (n1 : ¬ 0 ≤ S.A 22 (x / 256)) (hv2 : y < 32768) (yv : 0 ≤ y / 256 ∧ y / 256 < 32 ∧ y % 256 = 0) (n2 : ¬ 0 ≤ T.A 47 (y / 256)) (hc : TP u w1 w2 c) (hc' : TP u w1 w2 c') (k1 : ¬ (u c < 32768 ∧ 0 ≤ S.A 22 (u c / 256))) (k2 : ¬ (u c' < 32768 ∧ 0 ≤ T.A 47 (u c' / 256))) (hcn : u c < 131072) (hcn' : u c' < 131072) (nx : u c ≠ x) (ny : u c' ≠ y) (re : RE u (S.A 22) x c ↔ RE u (T.A 47) y c') (co : ∀ t' b' : Int → Int, (∀ p, TP u w1 w2 p → st u t' p = if u (st u (S.A 22) p) = x then c else st u (S.A 22) p) → (∀ p, TP u w1 w2 p → st u b' p = if u (st u (T.A 47) p) = y then c' else st u (T.A 47) p) → CO u w1 w2 t' b') :
    BS u w1 w2 S T (ob (g71 64 S x c 0) (fun o11 => gd (inR o11) (if o11 = 0 then gd (ixR (x / 256) 32) (some (1, (S.a 22 (x / 256) c))) else some (0, S)))) (fun K => ob (g145 T (mo y) c') (fun o87 => gd (inR o87.1) (if o87.1 = 0 then gd (ixR (mo y) 128) (K (o87.2.a 47 (mo y) c')) else some (.inr (0, o87.2))))) := by
  obtain ⟨hU, hS, hT, hP, hQ, hC, hN, hM⟩ := hI
  obtain ⟨H, hH⟩ := hP.2
  have h32 := hH.1 c hc
  have r71 := g71_t hU hS hP.1 hH n1 hv ⟨by omega, by omega⟩ 64 c 0 hc (by omega) (by omega) (by omega)
  obtain ⟨T1, f1, m1, m0⟩ := g145_t hU hT hQ n2 (by omega) hv2 yv.2.2 hc'
  have mY := mo_var hv2
  by_cases hr : RE u (S.A 22) x c
  · refine ⟨S, Fr.refl _ _, Or.inr ⟨?_, T1, fun K => ?_, f1.mono (by decide)⟩⟩
    · rw [r71.1 hr]; rfl
    · show ob (g145 T (mo y) c') _ = _
      rw [mY, m1 (re.mp hr)]
      rfl
  · have hr2 : ¬ RE u (T.A 47) y c' := fun h => hr (re.mpr h)
    have lc := (hc.pc hU).lt hU
    have lc' := (hc'.pc hU).lt hU
    have p1 := PO.bind hU hP (by omega) hv xv.2.2 n1 hc hr
    have p2 := PO.bind hU hQ (by omega) hv2 yv.2.2 n2 hc' hr2
    have s1 := st_bind hU hP p1 xv.2.2 n1 hv hc k1 nx
    have s2 := st_bind hU hQ p2 yv.2.2 n2 hv2 hc' k2 ny
    have c1 := co _ _ s1 s2
    have i1 : inR c := ⟨by omega, by omega⟩
    have i2 : inR c' := ⟨by omega, by omega⟩
    have d22 : (S.a 22 (x / 256) c).A 22 = upI (S.A 22) (x / 256) c := aA_up i1
    have fS : Fr [22] S (S.a 22 (x / 256) c) := Fr.a (by decide)
    have fT : Fr [47, 65] T (T1.a 47 (y / 256) c') := (f1.mono (by decide)).trans (Fr.a (by decide))
    have d47 : (T1.a 47 (y / 256) c').A 47 = upI (T.A 47) (y / 256) c' := by rw [aA_up i2, f1.A (by decide)]
    refine ⟨S.a 22 (x / 256) c, fS, Or.inl ⟨?_, T1.a 47 (y / 256) c', fun K => ?_, fT, ⟨hU, hS.fr fS (by decide), hT.fr fT (by decide), by rw [d22]; exact p1, by rw [d47]; exact p2, by rw [d22, d47]; exact c1, by rw [d22]; exact hN.bind hcn, by rw [d47]; exact hM.bind hcn'⟩, by rw [d22]; exact EX.bind n1, by rw [d47]; exact EX.bind n2⟩⟩
    · rw [r71.2 hr]
      refine (ob_t rfl).trans ?_
      refine (gd_t (by first | exact ⟨by omega, by omega⟩ | exact ⟨by omega, by omega, by omega⟩ | exact ⟨by omega, by omega, by omega, by omega⟩ | omega | exact inR_to _ | assumption | decide)).trans ?_
      rw [if_pos rfl]
      refine (gd_t (by first | exact ⟨by omega, by omega⟩ | exact ⟨by omega, by omega, by omega⟩ | exact ⟨by omega, by omega, by omega, by omega⟩ | omega | exact inR_to _ | assumption | decide)).trans ?_
      rfl
    · show ob (g145 T (mo y) c') _ = _
      rw [mY, m0 hr2]
      refine (ob_t rfl).trans ?_
      show gd (inR 0) _ = _
      refine (gd_t (by first | exact ⟨by omega, by omega⟩ | exact ⟨by omega, by omega, by omega⟩ | exact ⟨by omega, by omega, by omega, by omega⟩ | omega | exact inR_to _ | assumption | decide)).trans ?_
      refine (if_pos rfl).trans ?_
      refine (gd_t (by first | exact ⟨by omega, by omega⟩ | exact ⟨by omega, by omega, by omega⟩ | exact ⟨by omega, by omega, by omega, by omega⟩ | omega | exact inR_to _ | assumption | decide)).trans ?_
      rfl
/-- a variable at p, a term that is none at c -/
theorem bind_vf {u : Int → Int} {w1 w2 p c : Int} {S T : St} (hI : IV u w1 w2 S T) (hp : TP u w1 w2 p) (hv : u (st u (S.A 22) p) < 32768) (hc : TP u w1 w2 c) (hcf : 32768 ≤ u c) (hcn : u c < 131072) :
    BS u w1 w2 S T (ob (g71 64 S (u (st u (S.A 22) p)) c 0) (fun o11 => gd (inR o11) (if o11 = 0 then gd (ixR (u (st u (S.A 22) p) / 256) 32) (some (1, (S.a 22 (u (st u (S.A 22) p) / 256) c))) else some (0, S)))) (fun K => ob (g145 T (mo (u (st u (T.A 47) p))) c) (fun o87 => gd (inR o87.1) (if o87.1 = 0 then gd (ixR (mo (u (st u (T.A 47) p))) 128) (K (o87.2.a 47 (mo (u (st u (T.A 47) p))) c)) else some (.inr (0, o87.2))))) := by
  have hI' := hI
  obtain ⟨hU, hS, hT, hP, hQ, hC, hN, hM⟩ := hI
  have op := st_ok hU hP p hp
  have oq := st_ok hU hQ p hp
  have hv2 := (hC.v hp).mp hv
  exact bind_core hI' hv (op.1.v hU hv) (fun e => op.2.1 ⟨hv, e⟩) hv2 (oq.1.v hU hv2) (fun e => oq.2.1 ⟨hv2, e⟩) hc hc (fun h => absurd h.1 (by omega)) (fun h => absurd h.1 (by omega)) hcn hcn (by omega) (by omega) (hC.re hU hP hQ hp hv c hc) (fun t' b' s1 s2 => hC.bf hcf (fun p' hp' => hC.e hp hv hp') s1 s2)
/-- two variables -/
theorem bind_vv {u : Int → Int} {w1 w2 p q l r : Int} {S T : St} (hI : IV u w1 w2 S T) (hp : TP u w1 w2 p) (hq : TP u w1 w2 q) (hlr : (l = p ∧ r = q) ∨ (l = q ∧ r = p)) (hv : u (st u (S.A 22) p) < 32768) (hw : u (st u (S.A 22) q) < 32768) (hn : u (st u (S.A 22) p) ≠ u (st u (S.A 22) q)) :
    BS u w1 w2 S T (ob (g71 64 S (u (st u (S.A 22) p)) (st u (S.A 22) q) 0) (fun o11 => gd (inR o11) (if o11 = 0 then gd (ixR (u (st u (S.A 22) p) / 256) 32) (some (1, (S.a 22 (u (st u (S.A 22) p) / 256) (st u (S.A 22) q)))) else some (0, S)))) (fun K => ob (g145 T (mo (u (st u (T.A 47) l))) (st u (T.A 47) r)) (fun o87 => gd (inR o87.1) (if o87.1 = 0 then gd (ixR (mo (u (st u (T.A 47) l))) 128) (K (o87.2.a 47 (mo (u (st u (T.A 47) l))) (st u (T.A 47) r))) else some (.inr (0, o87.2))))) := by
  have hI' := hI
  obtain ⟨hU, hS, hT, hP, hQ, hC, hN, hM⟩ := hI
  have hl : TP u w1 w2 l := by rcases hlr with ⟨e, _⟩ | ⟨e, _⟩ <;> (rw [e]; assumption)
  have hr : TP u w1 w2 r := by rcases hlr with ⟨_, e⟩ | ⟨_, e⟩ <;> (rw [e]; assumption)
  have op := st_ok hU hP p hp
  have oq := st_ok hU hP q hq
  have ol := st_ok hU hQ l hl
  have or' := st_ok hU hQ r hr
  have bp := (hC.v hp).mp hv
  have bq := (hC.v hq).mp hw
  have hn2 : u (st u (T.A 47) p) ≠ u (st u (T.A 47) q) := fun e => hn ((hC.2 p q hp hq hv hw).mpr e)
  have vl : u (st u (T.A 47) l) < 32768 := by rcases hlr with ⟨e, _⟩ | ⟨e, _⟩ <;> (rw [e]; assumption)
  have vr : u (st u (T.A 47) r) < 32768 := by rcases hlr with ⟨_, e⟩ | ⟨_, e⟩ <;> (rw [e]; assumption)
  have nlr : u (st u (T.A 47) r) ≠ u (st u (T.A 47) l) := by
    rcases hlr with ⟨e, e'⟩ | ⟨e, e'⟩
    · rw [e, e']; exact fun h => hn2 h.symm
    · rw [e, e']; exact hn2
  have xv := op.1.v hU hv
  have cv := oq.1.v hU hw
  have yv := ol.1.v hU vl
  have rv := or'.1.v hU vr
  have nr1 := nRE (t := S.A 22) hv oq.2.1 cv.2.2 (fun h => hn h.symm)
  have nr2 := nRE (t := T.A 47) vl or'.2.1 rv.2.2 nlr
  refine bind_core hI' hv xv (fun e => op.2.1 ⟨hv, e⟩) vl yv (fun e => ol.2.1 ⟨vl, e⟩) oq.1 or'.1 oq.2.1 or'.2.1 (by omega) (by omega) (fun h => hn h.symm) nlr ⟨fun h => absurd h nr1, fun h => absurd h nr2⟩ (fun t' b' s1 s2 => ?_)
  refine hC.bv (x' := u (st u (T.A 47) p)) (y' := u (st u (T.A 47) q)) (z' := u (st u (T.A 47) r)) hv hw bp bq rfl ?_ rfl (fun p' hp' => hC.e hp hv hp') (fun p' hp' => hC.e hq hw hp') s1 s2
  rcases hlr with ⟨e, e'⟩ | ⟨e, e'⟩
  · exact Or.inl ⟨by rw [e], by rw [e']⟩
  · exact Or.inr ⟨by rw [e], by rw [e']⟩
theorem turn_vf {u : Int → Int} {w1 w2 p q l r k : Int} {T : St} {m : Nat} (hU : PU u w1 w2) (hT : SM u w1 w2 T) (hP : PO u w1 w2 (T.A 47)) (hp : TP u w1 w2 p) (hq : TP u w1 w2 q) (hlr : (l = p ∧ r = q) ∨ (l = q ∧ r = p)) (k0 : 0 ≤ k) (k1 : k < 640) (e1 : T.A 66 k = l) (e2 : T.A 67 k = r) (vp : u (st u (T.A 47) p) < 32768) (fq : 32768 ≤ u (st u (T.A 47) q)) :
    g144L16 (m + 1) k T = ob (g145 T (mo (u (st u (T.A 47) p))) (st u (T.A 47) q)) (fun o87 => gd (inR o87.1) (if o87.1 = 0 then gd (ixR (mo (u (st u (T.A 47) p))) 128) (g144L16 m (k - 1) (o87.2.a 47 (mo (u (st u (T.A 47) p))) (st u (T.A 47) q))) else some (.inr (0, o87.2)))) := by
  have oq := st_ok hU hP q hq
  have op := st_ok hU hP p hp
  have mq := mo_big (hU.2.2.2.2 _ (oq.1.pc hU)).1 (by omega)
  have mp := mo_var vp
  have pv := op.1.v hU vp
  rcases hlr with ⟨rfl, rfl⟩ | ⟨rfl, rfl⟩
  · rw [turn_m hU hT hP hp hq k0 k1 e1 e2, if_pos vp, if_neg (by omega)]
  · rw [turn_m hU hT hP hq hp k0 k1 e1 e2, if_neg (by omega), if_pos vp]
/-- no head stands within a term -/
def AU (u : Int → Int) (w1 w2 : Int) : Prop := ∀ p, TP u w1 w2 p → ∀ j : Nat, (j : Int) < u p % 256 → u (ag u p j) < 131072
def AL (u : Int → Int) (w1 w2 : Int) (e f : Nat) : Prop := ∀ (d n : Nat) (p q l r k : Int) (S T : St), d + e = 32 → IV u w1 w2 S T → TP u w1 w2 p → TP u w1 w2 q → (l = p ∧ r = q) ∨ (l = q ∧ r = p) → AN u w1 w2 (S.A 22) d p → AN u w1 w2 (S.A 22) d q → (d = 0 → 32768 ≤ u p ∧ 32768 ≤ u q ∧ mo (u p) = mo (u q)) → (0 < d → u p < 131072 ∧ u q < 131072) → 0 ≤ k → k ≤ 15 * d → T.A 66 k = l → T.A 67 k = r → 16 ^ (e + 1) ≤ n → AS u w1 w2 S T k (k - 1) n (16 ^ (e + 1)) (rs (g69 f S p q d))
theorem alike_args {u : Int → Int} {w1 w2 : Int} (hU : PU u w1 w2) (hA : AU u w1 w2) {e f d : Nat} (ih : AL u w1 w2 e f) (hde : d + 1 + e = 32) {a c l r : Int} (ha : TP u w1 w2 a) (hc : TP u w1 w2 c) (hac : u a % 256 = u c % 256) (hlr : (l = a ∧ r = c) ∨ (l = c ∧ r = a)) {v : Int} (v0 : -1 ≤ v) (v1 : v + 1 ≤ 15 * d) : ∀ (i n m j : Nat) (S T : St), (j : Int) + i = u c % 256 → i < m → IV u w1 w2 S T → (∀ z : Nat, (z : Int) < u c % 256 → AN u w1 w2 (S.A 22) (d + 1) (ag u a z) ∧ AN u w1 w2 (S.A 22) (d + 1) (ag u c z)) → (∀ z : Nat, j ≤ z → (z : Int) < u c % 256 → T.A 66 (v + (u c % 256 - z)) = ag u l z ∧ T.A 67 (v + (u c % 256 - z)) = ag u r z) → i * 16 ^ (e + 1) ≤ n → AS u w1 w2 S T (v + i) v n (i * 16 ^ (e + 1)) (g69L183 (g69 f) d (u c % 256) m (ag u c j) (ag u a j) j S) := by
  have ar := ar_15 hU hc
  intro i
  induction i with
  | zero =>
    intro n m j S T hj hm hI hN hs hn
    obtain ⟨m, rfl⟩ : ∃ k, m = k + 1 := ⟨m - 1, by omega⟩
    refine ⟨S, Fr.refl _ _, Or.inl ⟨?_, T, n, ?_, by omega, Fr.refl _ _, LO.refl _ _, hI, EX.refl, EX.refl⟩⟩
    · unfold g69L183
      refine (gd_t (by first | exact ⟨by omega, by omega⟩ | exact ⟨by omega, by omega, by omega⟩ | exact ⟨by omega, by omega, by omega, by omega⟩ | omega | exact inR_to _ | assumption | decide)).trans ?_
      refine (gd_t (by first | exact ⟨by omega, by omega⟩ | exact ⟨by omega, by omega, by omega⟩ | exact ⟨by omega, by omega, by omega, by omega⟩ | omega | exact inR_to _ | assumption | decide)).trans ?_
      rw [if_neg (by omega)]
    · rw [show v + ((0 : Nat) : Int) = v by omega]
  | succ i ih2 =>
    intro n m j S T hj hm hI hN hs hn
    obtain ⟨m, rfl⟩ : ∃ k, m = k + 1 := ⟨m - 1, by omega⟩
    have jc : (j : Int) < u c % 256 := by omega
    have ja : (j : Int) < u a % 256 := by omega
    have tc := (ag_TP hU hc jc).1
    have ta := (ag_TP hU ha ja).1
    have sj := hs j (Nat.le_refl _) jc
    rw [Nat.succ_mul] at hn
    rw [show u c % 256 - (j : Int) = ((i + 1 : Nat) : Int) by omega] at sj
    have st1 := ih (d + 1) n (ag u c j) (ag u a j) (ag u l j) (ag u r j) (v + ((i + 1 : Nat) : Int)) S T hde hI tc ta (by
      rcases hlr with ⟨e1, e2⟩ | ⟨e1, e2⟩
      · exact Or.inr ⟨by rw [e1], by rw [e2]⟩
      · exact Or.inl ⟨by rw [e1], by rw [e2]⟩) (hN j jc).2 (hN j jc).1 (fun h => absurd h (by omega)) (fun _ => ⟨hA c hc j jc, hA a ha j ja⟩) (by omega) (by omega) sj.1 sj.2 (by omega)
    rw [show ((d + 1 : Nat) : Int) = (d : Int) + 1 by omega] at st1
    obtain ⟨S1, f1, h⟩ := st1
    rw [Nat.succ_mul]
    rcases h with ⟨r1, T1, n1, t1, t2, t3, t4, t5, t6, t7⟩ | ⟨r1, T1, t1, t2⟩
    · have r1 := rs_l r1
      have t4 : LO (v + ((i + 1 : Nat) : Int)) T T1 := t4.mono (by omega)
      have ex := ih2 n1 m (j + 1) S1 T1 (by omega) (by omega) t5 (fun z hz => ⟨(hN z hz).1.ex t6, (hN z hz).2.ex t6⟩) (fun z hz hz2 => by
        have h1 := hs z (by omega) hz2
        have h2 := t4 (v + (u c % 256 - z)) (by omega)
        rw [h2.1, h2.2]
        exact h1) (by omega)
      have ek : g69L183 (g69 f) d (u c % 256) (m + 1) (ag u c j) (ag u a j) j S = g69L183 (g69 f) d (u c % 256) m (ag u c (j + 1)) (ag u a (j + 1)) ((j + 1 : Nat) : Int) S1 := by
        rw [g69L183]
        refine (gd_t (by first | exact ⟨by omega, by omega⟩ | exact ⟨by omega, by omega, by omega⟩ | exact ⟨by omega, by omega, by omega, by omega⟩ | omega | exact inR_to _ | assumption | decide)).trans ?_
        refine (gd_t (by first | exact ⟨by omega, by omega⟩ | exact ⟨by omega, by omega, by omega⟩ | exact ⟨by omega, by omega, by omega, by omega⟩ | omega | exact inR_to _ | assumption | decide)).trans ?_
        rw [if_pos jc, r1]
        refine (ob_t rfl).trans ?_
        show gd (inR 1) _ = _
        refine (gd_t (by first | exact ⟨by omega, by omega⟩ | exact ⟨by omega, by omega, by omega⟩ | exact ⟨by omega, by omega, by omega, by omega⟩ | omega | exact inR_to _ | assumption | decide)).trans ?_
        refine (if_neg (show ¬ (1 : Int) = 0 by decide)).trans ?_
        show ob (g57 S1 21 (ag u c j) 32) _ = _
        rw [end_c hU t5.2.1 tc]
        refine (ob_t rfl).trans ?_
        show ob (g57 S1 21 (ag u a j) 32) _ = _
        rw [end_c hU t5.2.1 ta]
        rfl
      rw [ek]
      obtain ⟨S2, f2, h⟩ := ex
      refine ⟨S2, f1.trans f2, ?_⟩
      have em : g144L16 n (v + ((i + 1 : Nat) : Int)) T = g144L16 n1 (v + (i : Int)) T1 := by
        rw [t1, show v + ((i + 1 : Nat) : Int) - 1 = v + (i : Int) by omega]
      rcases h with ⟨r2, T2, n2, q1, q2, q3, q4, q5, q6, q7⟩ | ⟨r2, T2, q1, q2⟩
      · exact Or.inl ⟨r2, T2, n2, em.trans q1, by omega, t3.trans q3, (t4.mono (by omega)).trans q4 (by omega), q5, t6.trans q6, t7.trans q7⟩
      · exact Or.inr ⟨r2, T2, em.trans q1, t3.trans q2⟩
    · have r1 := rs_r r1
      refine ⟨S1, f1, Or.inr ⟨?_, T1, t1, t2⟩⟩
      rw [g69L183]
      refine (gd_t (by first | exact ⟨by omega, by omega⟩ | exact ⟨by omega, by omega, by omega⟩ | exact ⟨by omega, by omega, by omega, by omega⟩ | omega | exact inR_to _ | assumption | decide)).trans ?_
      refine (gd_t (by first | exact ⟨by omega, by omega⟩ | exact ⟨by omega, by omega, by omega⟩ | exact ⟨by omega, by omega, by omega, by omega⟩ | omega | exact inR_to _ | assumption | decide)).trans ?_
      rw [if_pos jc, r1]
      rfl
theorem alike {u : Int → Int} {w1 w2 : Int} (hU : PU u w1 w2) (hA : AU u w1 w2) : ∀ (e f : Nat), e < f → AL u w1 w2 e f := by
  intro e
  induction e with
  | zero =>
    intro f hf d n p q l r k S T hde hI hp hq hlr ap aq
    obtain ⟨H, hH⟩ := hI.2.2.2.1.2
    have := ap H hH
    omega
  | succ e ih =>
    intro f hf d n p q l r k S T hde hI hp hq hlr ap aq h0 h1 k0 k1 e1 e2 hn
    obtain ⟨f, rfl⟩ : ∃ g, f = g + 1 := ⟨f - 1, by omega⟩
    have ih := ih f (by omega)
    have hC1 : 1 ≤ 16 ^ (e + 1) := Nat.pow_pos (by decide)
    rw [Nat.pow_succ] at hn ⊢
    obtain ⟨n, rfl⟩ : ∃ g, n = g + 1 := ⟨n - 1, by omega⟩
    have hI' := hI
    obtain ⟨-, hS, hT, hP, hQ, hC, hN, hM⟩ := hI
    have hl : TP u w1 w2 l := by rcases hlr with ⟨e, _⟩ | ⟨e, _⟩ <;> (rw [e]; assumption)
    have hr : TP u w1 w2 r := by rcases hlr with ⟨_, e⟩ | ⟨_, e⟩ <;> (rw [e]; assumption)
    have op := st_ok hU hP p hp
    have oq := st_ok hU hP q hq
    have sp : d = 0 → st u (S.A 22) p = p := fun h => st_self (fun h2 => absurd h2.1 (by have := h0 h; omega))
    have sq : d = 0 → st u (S.A 22) q = q := fun h => st_self (fun h2 => absurd h2.1 (by have := h0 h; omega))
    have hp1 : 0 < d → u (st u (S.A 22) p) < 131072 := fun h => st_nh hU hP hN p hp (h1 h).1
    have hq1 : 0 < d → u (st u (S.A 22) q) < 131072 := fun h => st_nh hU hP hN q hq (h1 h).2
    have tm := turn_m (m := n) hU hT hQ hl hr k0 (by omega) e1 e2
    rw [call_c hU hS hP hp hq (by omega)]
    by_cases v1 : u (st u (S.A 22) p) < 32768
    · have d0 : 0 < d := by
        by_cases hd : d = 0
        · have := h0 hd
          rw [sp hd] at v1
          omega
        · omega
      rw [if_pos v1]
      have bp := (hC.v hp).mp v1
      by_cases v2 : u (st u (S.A 22) q) < 32768
      · have bq := (hC.v hq).mp v2
        have vl : u (st u (T.A 47) l) < 32768 := by rcases hlr with ⟨e, _⟩ | ⟨e, _⟩ <;> (rw [e]; assumption)
        have vr : u (st u (T.A 47) r) < 32768 := by rcases hlr with ⟨_, e⟩ | ⟨_, e⟩ <;> (rw [e]; assumption)
        have ol := ((st_ok hU hQ l hl).1.v hU vl)
        have or' := ((st_ok hU hQ r hr).1.v hU vr)
        have key : u (st u (S.A 22) p) = u (st u (S.A 22) q) ↔ mo (u (st u (T.A 47) l)) = mo (u (st u (T.A 47) r)) := by
          rw [mo_var vl, mo_var vr, hC.2 p q hp hq v1 v2]
          rcases hlr with ⟨e, e'⟩ | ⟨e, e'⟩
          · subst e e'; omega
          · subst e e'; omega
        rw [if_pos vl] at tm
        by_cases eq : u (st u (S.A 22) p) = u (st u (S.A 22) q)
        · rw [if_pos eq]
          rw [if_pos (key.mp eq)] at tm
          exact ⟨S, Fr.refl _ _, Or.inl ⟨rs_1 _, T, n, tm, by omega, Fr.refl _ _, LO.refl _ _, hI', EX.refl, EX.refl⟩⟩
        · rw [if_neg eq]
          rw [if_neg (fun h => eq (key.mpr h))] at tm
          exact ((bind_vv hI' hp hq hlr v1 v2 eq).as tm).mono (by omega)
      · rw [if_neg (by omega)]
        have es := hC.1 q hq (Or.inl (by omega))
        have tv := turn_vf (m := n) hU hT hQ hp hq hlr k0 (by omega) e1 e2 bp (by rw [← es]; omega)
        rw [← es] at tv
        exact ((bind_vf hI' hp v1 oq.1 (by omega) (hq1 d0)).as tv).mono (by omega)
    · rw [if_neg v1]
      have es := hC.1 p hp (Or.inl (by omega))
      by_cases v2 : u (st u (S.A 22) q) < 32768
      · have d0 : 0 < d := by
          by_cases hd : d = 0
          · have := h0 hd
            rw [sq hd] at v2
            omega
          · omega
        rw [if_pos v2]
        have tv := turn_vf (m := n) hU hT hQ hq hp hlr.symm k0 (by omega) e1 e2 ((hC.v hq).mp v2) (by rw [← es]; omega)
        rw [← es] at tv
        exact ((bind_vf hI' hq v2 op.1 (by omega) (hp1 d0)).as tv).mono (by omega)
      · rw [if_neg v2]
        have es2 := hC.1 q hq (Or.inl (by omega))
        have hlr' : (st u (T.A 47) l = st u (S.A 22) p ∧ st u (T.A 47) r = st u (S.A 22) q) ∨ (st u (T.A 47) l = st u (S.A 22) q ∧ st u (T.A 47) r = st u (S.A 22) p) := by
          rcases hlr with ⟨e, e'⟩ | ⟨e, e'⟩
          · rw [e, e']; exact Or.inl ⟨es.symm, es2.symm⟩
          · rw [e, e']; exact Or.inr ⟨es2.symm, es.symm⟩
        have vxp := (hU.2.2.2.2 _ (op.1.pc hU)).1
        have vxq := (hU.2.2.2.2 _ (oq.1.pc hU)).1
        have key : (d = 0 ∨ u (st u (S.A 22) q) = u (st u (S.A 22) p)) ↔ mo (u (st u (S.A 22) p)) = mo (u (st u (S.A 22) q)) := by
          by_cases hd : d = 0
          · rw [sp hd, sq hd]
            exact ⟨fun _ => (h0 hd).2.2, fun _ => Or.inl hd⟩
          · rw [mo_eq vxp vxq (hp1 (by omega))]
            exact ⟨fun h => h.elim (fun h => absurd h hd) (fun h => h.symm), fun h => Or.inr h.symm⟩
        have key2 : (d = 0 ∨ u (st u (S.A 22) q) = u (st u (S.A 22) p)) ↔ mo (u (st u (T.A 47) l)) = mo (u (st u (T.A 47) r)) := by
          rw [key]
          rcases hlr' with ⟨e, e'⟩ | ⟨e, e'⟩
          · rw [e, e']
          · rw [e, e']; exact ⟨fun h => h.symm, fun h => h.symm⟩
        have vl : ¬ u (st u (T.A 47) l) < 32768 := by rcases hlr' with ⟨e, _⟩ | ⟨e, _⟩ <;> (rw [e]; assumption)
        have vr : ¬ u (st u (T.A 47) r) < 32768 := by rcases hlr' with ⟨_, e⟩ | ⟨_, e⟩ <;> (rw [e]; assumption)
        rw [if_neg vl, if_neg vr] at tm
        by_cases hk : d = 0 ∨ u (st u (S.A 22) q) = u (st u (S.A 22) p)
        · rw [if_pos hk]
          rw [if_pos (key2.mp hk)] at tm
          have hac : u (st u (S.A 22) p) % 256 = u (st u (S.A 22) q) % 256 := by
            rw [← mo_ar vxp, ← mo_ar vxq, key.mp hk]
          have a15 := ar_15 hU oq.1
          have tl : TP u w1 w2 (st u (T.A 47) l) := by rcases hlr' with ⟨e, _⟩ | ⟨e, _⟩ <;> (rw [e]; first | exact op.1 | exact oq.1)
          have tr : TP u w1 w2 (st u (T.A 47) r) := by rcases hlr' with ⟨_, e⟩ | ⟨_, e⟩ <;> (rw [e]; first | exact op.1 | exact oq.1)
          have al : u (st u (T.A 47) l) % 256 = u (st u (S.A 22) q) % 256 := by rcases hlr' with ⟨e, _⟩ | ⟨e, _⟩ <;> (rw [e]; try assumption)
          have ar : u (st u (T.A 47) r) % 256 = u (st u (S.A 22) q) % 256 := by rcases hlr' with ⟨_, e⟩ | ⟨_, e⟩ <;> (rw [e]; try assumption)
          have hN' : ∀ z : Nat, (z : Int) < u (st u (S.A 22) q) % 256 → AN u w1 w2 (S.A 22) (d + 1) (ag u (st u (S.A 22) p) z) ∧ AN u w1 w2 (S.A 22) (d + 1) (ag u (st u (S.A 22) q) z) := fun z hz => ⟨ap.ag hU hP hp (by omega) (by omega), aq.ag hU hP hq (by omega) (by omega)⟩
          generalize st u (T.A 47) l = l' at *
          generalize st u (T.A 47) r = r' at *
          generalize st u (S.A 22) p = a at *
          generalize st u (S.A 22) q = c at *
          obtain ⟨A, hAr⟩ : ∃ A : Nat, (A : Int) = u c % 256 := ⟨(u c % 256).toNat, by omega⟩
          obtain ⟨T1, t1, t2, t3, t4⟩ := g144L197_t hU tl tr (by omega) A FU (k - 1) T hT (by omega) (by omega) (by omega) (FU_gt (by omega))
          rw [al, ← hAr, t1] at tm
          have tm : g144L16 (n + 1) k T = g144L16 n (k - 1 + (A : Int)) T1 := tm
          have hcost : A * 16 ^ (e + 1) ≤ 15 * 16 ^ (e + 1) := Nat.mul_le_mul_right _ (by omega)
          have ex := alike_args hU hA ih (by omega) op.1 oq.1 hac hlr' (v := k - 1) (by omega) (by omega) A n FU 0 S T1 (by omega) (FU_gt (by omega)) (hI'.fr t2 (by decide) (by decide)) hN' (fun z _ hz => by
            have := t4 z (by omega)
            rw [← hAr]
            exact this) (by omega)
          obtain ⟨S2, f2, h⟩ := ex
          refine ⟨S2, f2, ?_⟩
          rcases h with ⟨r2, T2, n2, q1, q2, q3, q4, q5, q6, q7⟩ | ⟨r2, T2, q1, q2⟩
          · refine Or.inl ⟨?_, T2, n2, tm.trans q1, by omega, (t2.mono (by decide)).trans q3, t3.trans q4 (by omega), q5, q6, by rw [← t2.A (show 47 ∉ [66, 67] by decide)]; exact q7⟩
            have r2 : g69L183 (g69 f) d (u c % 256) FU (c + 1) (a + 1) 0 S = some (.inl S2) := r2
            rw [r2]
            rfl
          · refine Or.inr ⟨?_, T2, tm.trans q1, (t2.mono (by decide)).trans q2⟩
            have r2 : g69L183 (g69 f) d (u c % 256) FU (c + 1) (a + 1) 0 S = some (.inr (0, S2)) := r2
            rw [r2]
            rfl
        · rw [if_neg hk]
          rw [if_neg (fun h => hk (key2.mpr h))] at tm
          exact ⟨S, Fr.refl _ _, Or.inr ⟨rs_0 _, T, tm, Fr.refl _ _⟩⟩
