/-! THE CLAIM OUT OF ONE WALK OF THE LAW'S BODY. Your part is whole_start (and what it stands on); all else here is the same for every law, but numbers. -/
def R_law : String := "RefutationDeskLaw"
def lw_P (b : Addr) (xs : List Int32) (args : Array Value) (s : State) : Prop := args = #[.ref b] ∧ s.IntsAt b xs ∧ xs.length ≤ 2560 ∧ (Jvm.Cond.and given_1 narrow_1).before args s = true
def lw_Q (_ : Array Value) (s : State) (o : Outcome) (t : State) : Prop := o = .returned (some (.int 1)) ∧ Framed s o t [] 601024 7293034
def lw_Z (below : List Frame) (a : Array Value) (s : State) : State → Prop := fun t => ∃ o, t.status = .running ∧ Ended t below o ∧ lw_Q a s o t
/-- the law's own end, with 1 on the stack, nothing written that was there before, its room as the claim has it -/
theorem lw_ret {p : Program} {l : Launch} {e : Env} {s : State} {m : MethodId} {below : List Frame} {meth : Method} {c : Code} {b : Nat} (hx : p.tables.exec = Jvm.exec) (hb : c.code = code) (hr : meth.sig.returnType = ret) (hlocks : meth.locks = false) {pc : Nat} {H : Heap} {ls : Array Slot} (hdg : decode code pc = .ok (.ireturn, 1)) : W p l e room_1 s m #[Value.ref b] below meth c H [] 601024 7293034 (lw_Z below #[Value.ref b] s) (F0 m pc ls [.int 1]) := by
  intro T hT X
  obtain ⟨fs, hret, hrun, hended, hW, hframe⟩ := X.leave (v := some (.int 1)) (hlocks := hlocks) (fun h => by rw [hr] at h; cases h)
  have hmeth' : T.vm.method? m = some meth := X.method'
  refine ⟨T.setFrames fs, ?_, .returned (some (.int 1)), hrun, hended, rfl, ⟨_, rfl⟩, hW, hframe⟩
  jvm_step X.here [X.here.top, hx, hb, hdg, hmeth', hr, ret, narrow_b1]
  (try refine ⟨rfl, ?_⟩); (try refine ⟨rfl, ?_⟩)
  first | (intro acts; rw [hret _ acts rfl rfl rfl]) | rw [hret _ _ rfl rfl rfl]
  exact Steps.refl _
/-- what holds at the law's entry: the machine, the code, the tables' words (any of lw_tbl by 'hts w (by decide +kernel)'), the script of L ints xs at the cell b, what the Statement gives of the start (any of its parts by flat_of_before) -/
def lw_At (p : Program) (s : State) (m : MethodId) (meth : Method) (c : Code) (b L : Nat) (xs : Nat → Int32) : Prop :=
  p.tables.exec = Jvm.exec ∧ c.code = code ∧ meth.sig.returnType = ret ∧ c.maxLocals = 7 ∧ s.vm.findClass R_law = some m.cls ∧ (∀ w ∈ lw_tbl, w.before #[Value.ref b] s = true) ∧ va_X b L xs s s.heap ∧ b < s.heap.size ∧ meth.locks = false ∧ (Jvm.Cond.and given_1 narrow_1).before #[Value.ref b] s = true ∧ c.exceptionTable.isEmpty = true
theorem mt_o4 : Cond.arrayOver (.object mt_E4) ∈ mt_WT := mt_in_of 280 (by decide +kernel) (by decide +kernel)
theorem mt_o5 : Cond.arrayOver (.object mt_E5) ∈ mt_WT := mt_in_of 123 (by decide +kernel) (by decide +kernel)
/-- the pure statement: on every script the small machine runs the law to its end, which answers 1, within the room -/
def pr_law (N : Nat) : Prop := ∀ sc : List Int32, sc.length ≤ N → ∃ (n ns' : Nat) (hs' : mn_H), mn_run n (some sc) 2048 84000 172 (0, mn_pad [some (.retAddr 0)] 7, [], 0, []) = some ((0, some (.int 1)), ns', hs') ∧ hs'.length ≤ 601024 ∧ ns' ≤ 7293034
theorem pr_K {args : Array Value} {s : State} (hts : ∀ w ∈ mt_WT, w.before args s = true) : ∃ (D : va_G) (aC : Nat → ClassId), va_K D mt_cl (mn_tys aC mt_E4 mt_E5) s := by
  have h : ∀ ci : Nat, ∃ (z : ClassId × (Nat → Nat)), ∀ q : vw_C, mt_cl[ci]? = some q → u_Kn s q.1 q.2.1 q.2.2 z.1 z.2 := by
    intro ci
    by_cases hci : ci < 11
    · obtain ⟨C, T, N, ty, f1, f2, -, -, -, -, -, -, -, -, -, f11, -⟩ := mt_cf ci hci
      obtain ⟨cC, iS, hk⟩ := u_known hts f2 (hts _ f11)
      refine ⟨(cC, iS), fun q hq => ?_⟩
      rw [f1] at hq
      cases hq
      exact hk
    · refine ⟨(0, fun _ => 0), fun q hq => ?_⟩
      have h9 := (List.getElem?_eq_some_iff.mp hq).1
      exact absurd h9 hci
  obtain ⟨f, hf⟩ := Classical.axiomOfChoice h
  obtain ⟨-, -, -, -, -, ⟨g0, g1, g2, g3⟩, -, -⟩ := mt_GT
  obtain ⟨c0, k0, p0, a0, b0, d0⟩ := Cond.arrayClass_spec (hts _ g0)
  obtain ⟨c1, k1, p1, a1, b1, d1⟩ := Cond.arrayClass_spec (hts _ g1)
  obtain ⟨c2, k2, p2, a2, b2, d2⟩ := Cond.arrayClass_spec (hts _ g2)
  obtain ⟨c3, k3, p3, a3, b3, d3⟩ := Cond.arrayClass_spec (hts _ g3)
  obtain ⟨p4, c4, k4, x4, -, b4, d4, a4⟩ := Cond.arrayOver_spec (hts _ mt_o4)
  obtain ⟨p5, c5, k5, x5, -, b5, d5, a5⟩ := Cond.arrayOver_spec (hts _ mt_o5)
  refine ⟨(fun ci => (f ci).1, fun ci => (f ci).2), fun k => match k with
    | 0 => c0
    | 1 => c1
    | 2 => c2
    | 3 => c3
    | 4 => c4
    | _ => c5, fun ci q hq => hf ci q hq, fun k q hk => ?_⟩
  match k, hk with
  | 0, hk => cases hk; exact ⟨fun N z => ⟨(fun k h => by cases h), k0, b0, p0, d0⟩, a0⟩
  | 1, hk => cases hk; exact ⟨fun N z => ⟨(fun k h => by cases h), k1, b1, p1, d1⟩, a1⟩
  | 2, hk => cases hk; exact ⟨fun N z => ⟨(fun k h => by cases h), k2, b2, p2, d2⟩, a2⟩
  | 3, hk => cases hk; exact ⟨fun N z => ⟨(fun k h => by cases h), k3, b3, p3, d3⟩, a3⟩
  | 4, hk => cases hk; exact ⟨fun N z => ⟨(fun k h => by cases h), k4, b4, p4, d4⟩, k4, p4, b4, d4, x4, a4⟩
  | 5, hk => cases hk; exact ⟨fun N z => ⟨(fun k h => by cases h), k5, b5, p5, d5⟩, k5, p5, b5, d5, x5, a5⟩
  | n + 6, hk => simp [mn_tys] at hk
theorem pr_nc {args : Array Value} {s : State} (h : ∀ k k2, k < 4 → k2 < 4 → k ≠ k2 → (Cond.not (.castable (mt_ex.getD k "") (mt_ex.getD k2 ""))).before args s = true) : ∀ (k k2 : Nat) (X C : String), k ≠ k2 → mt_ex[k]? = some X → mt_ex[k2]? = some C → va_Nc X C s := by
  intro k k2 X C hne h1 h2
  have l1 : k < 4 := (List.getElem?_eq_some_iff.mp h1).1
  have l2 : k2 < 4 := (List.getElem?_eq_some_iff.mp h2).1
  have h9 := h k k2 l1 l2 hne
  rw [List.getD_eq_getElem?_getD, List.getD_eq_getElem?_getD, h1, h2] at h9
  exact va_Nc.of h9
/-- W, in more room -/
theorem pr_W_room {p : Program} {l : Launch} {e : Env} {R R' : Jvm.Room} {s : State} {m : MethodId} {args : Array Value} {below : List Frame} {meth : Method} {c : Code} {H : Heap} {locs : List Loc} {cells slots : Nat} {Q : State → Prop} {g : JFrame} (h1 : R'.frames ≤ R.frames) (h2 : R'.cells ≤ R.cells) (h3 : R'.slots ≤ R.slots) (h4 : R'.locals ≤ R.locals) (h : W p l e R' s m args below meth c H locs cells slots Q g) : W p l e R s m args below meth c H locs cells slots Q g := by
  intro T hT X
  refine h T hT ⟨X.admits, X.cas, X.clock, X.frames, ?_, X.hears, X.method, X.code, X.here, X.tail, X.warmed, X.limits, X.bytes, X.same⟩
  have hr := X.room
  simp only [State.hasRoom, Bool.and_eq_true, decide_eq_true_eq] at hr ⊢
  obtain ⟨⟨⟨⟨a1, a2⟩, a3⟩, a4⟩, a5⟩ := hr
  exact ⟨⟨⟨⟨by omega, by omega, by omega, by omega, by omega, a2.2.2.2.2⟩, by omega⟩, by omega⟩, a5⟩
set_option maxRecDepth 100000 in
theorem pr_ncs : ∀ k, k < 4 → ∀ k2, k2 < 4 → k ≠ k2 → (Jvm.Cond.not (.castable (mt_ex.getD k "") (mt_ex.getD k2 ""))) ∈ flatC (Jvm.Cond.and given_1 narrow_1) := by decide +kernel
set_option maxRecDepth 100000 in
theorem pr_iss : mn_is1 ∈ flatC (Jvm.Cond.and given_1 narrow_1) ∧ mn_is2 ∈ flatC (Jvm.Cond.and given_1 narrow_1) := by decide +kernel
theorem pr_lss : mn_ls1 ∈ lw_tbl ∧ mn_ls2 ∈ lw_tbl := ⟨List.mem_append_right _ (List.mem_of_getElem? (i := 374) (by decide +kernel)), List.mem_append_right _ (List.mem_of_getElem? (i := 376) (by decide +kernel))⟩
theorem pr_tini : Cond.initialized Bundle.tN ∈ lw_tbl := List.mem_append_right _ (List.mem_of_getElem? (i := 11) (by decide +kernel))
set_option maxHeartbeats 4000000 in
theorem whole_start (PR : pr_law 2560) {p : Program} {e : Env} {s : State} {m : MethodId} {below : List Frame} {meth : Method} {c : Code} (l : Launch) (hfl : l.stackTraces = false) {b L : Nat} {xs : Nat → Int32} (hL : L ≤ 2560) (C0 : lw_At p s m meth c b L xs) : W p l e room_1 s m #[Value.ref b] below meth c s.heap [] 0 0 (lw_Z below #[Value.ref b] s) (entryFrame m ([Value.ref b] : List Value).toArray 7) := by
  obtain ⟨hx, hb, hr, hml, hown, hts0, hX0, hbl, hlocks, hgv, hexc⟩ := C0
  have hts : ∀ w ∈ mt_WT, w.before #[Value.ref b] s = true := fun w hw => hts0 w (List.mem_filter.mp hw).1
  have hfl2 := flat_of_before _ hgv
  obtain ⟨D, aC, hK⟩ := pr_K hts
  generalize hsc : (List.range L).map xs = sc
  have hscl : sc.length = L := by rw [← hsc]; simp
  obtain ⟨n, ns', hs', hrun, hcl, hsl⟩ := PR sc (by omega)
  have hA : ∀ a : Nat, a < s.heap.size → ¬ (fun q => s.heap.size ≤ q) a := fun a h1 h2 => by
    have h2 : s.heap.size ≤ a := h2
    omega
  have hXX : mn_X (s.heap.size, b) s s.heap :=
    ⟨va_Zqof (hts0 _ pr_lss.1) (hts0 _ pr_tini) (hfl2 _ pr_iss.1) hA, va_Zqof (hts0 _ pr_lss.2) (hts0 _ pr_tini) (hfl2 _ pr_iss.2) hA, pr_nc (fun k k2 h1 h2 h3 => hfl2 _ (pr_ncs k h1 k2 h2 h3)), mn_LS.of (hts0 _ pr_lss.1) hA, mn_LS.of (hts0 _ pr_lss.2) hA⟩
  have hXs : va_X b sc.length (fun i => sc.getD i 0) s s.heap := by
    obtain ⟨scr, s1, s2, s3, s4, s5⟩ := hX0
    refine ⟨scr, s1, s2, s3, by rw [hscl]; exact s4, fun j hj => ?_⟩
    rw [hscl] at hj
    rw [s5 j hj, ← hsc]
    simp [hj]
  have hexc' : c.exceptionTable.toList.map (fun h => (h.startPc, h.endPc, h.handlerPc, h.catchType)) = (mt_hl 172).map (fun t => (t.1, t.2.1, t.2.2.1, t.2.2.2.1)) := by
    rw [Array.isEmpty_iff.mp hexc]
    rfl
  have C : mn_cx mt_WT D aC (s.heap.size, b) p s m #[Value.ref b] meth c 172 0 (some sc) :=
    ⟨hx, hb, hml, hown, hts, hK, rfl, hXX, (fun h => absurd h (by decide)), hr, hlocks, hexc', (fun l' h => by cases h; exact ⟨hXs, hbl, hbl⟩)⟩
  have hent : (mn_ent [.retAddr 0]).length ≤ 7 := by decide
  have hR0 : mn_R D mt_cl aC (s.heap.size, b) [] s.heap := ⟨by simp, [], fun k q hq => by simp at hq, ⟨fun i j p q hp => by simp at hp, fun k q hq => by simp at hq⟩, fun a e => by simp⟩
  have h9 := mn_sound (l := l) (D := D) (aC := aC) (b := (s.heap.size, b)) hfl mt_GW mt_GT mt_HT n (some sc) 2048 84000 172 0 (mn_pad [some (.retAddr 0)] 7) [] 0 [] (0, some (.int 1)) ns' hs' hrun (p := p) (e := e) (below := below) (n0 := 0) (m0 := 0) C hR0 (va_S.rf (A := fun q => s.heap.size ≤ q)) (mn_L_entry (s.heap.size, b) [.retAddr 0] hent) (mn_pad_len hent) (Nat.le_refl _) (Nat.le_refl _)
  rw [lg_entry_eq]
  refine pr_W_room (R' := { frames := 2048, cells := hs'.length - 0, slots := ns' - 0, locals := 84000 }) (Nat.le_refl _) (by show hs'.length - 0 ≤ 601024; omega) (by show ns' - 0 ≤ 7293034; omega) (Nat.le_refl _) (mn_W_mono (fun t ht => ?_) h9)
  obtain ⟨o, t1, t2, t3, t4, t5, Lc, t6, t7, t8⟩ := ht
  refine ⟨o, t1, t2, t3, ⟨_, t3⟩, t6, t7.weaken (fun y hy hlt => ?_) (by omega) (by omega)⟩
  have h8 := t8 y hy
  have h8 : s.heap.size ≤ y.base := h8
  exact absurd hlt (Nat.not_lt.mpr h8)
