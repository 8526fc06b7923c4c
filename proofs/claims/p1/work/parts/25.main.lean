section MNM
variable {l : Launch} {WT : List Cond} {D : va_G} {aC : Nat → ClassId} {b : Nat × Nat}
section ENDS
variable {p : Program} {e : Env} {R : Room} {s : State} {m : MethodId} {args : Array Value} {below : List Frame} {meth : Method} {c : Code} {H : Heap} {locs : List Loc} {n0 m0 : Nat} {ls : Array Slot} {sc : Option (List Int32)}
/-- an end of W's own kind is an end of ours -/
theorem mn_end_Z {v : Option Value} {hs : mn_H} {cells slots : Nat} {t : State} (h : MQ below (mn_Qr D aC b v hs) args s cells slots (fun q => b.1 ≤ q) t) : mn_Z D aC b below (0, v) hs args s cells slots t := by
  obtain ⟨o, h1, h2, ⟨h3, h4, h5⟩, L, ⟨-, h6, h7⟩, h8⟩ := h
  exact ⟨o, h1, h2, h3, h4, h5, L, h6, h7, h8⟩
theorem mn_ret_ok {j : Nat} {q : Instr × Nat} {pc : Nat} {st : List Value} {hs : mn_H} {v : Option Value} {cells slots : Nat} (C : mn_cx WT D aC b p s m args meth c j n0 sc) (hR : mn_R D mt_cl aC b hs H) (hS : va_S (fun q => b.1 ≤ q) s.heap H locs) (hd : decode (mt_code j) pc = .ok q) (hv : mn_end (mt_rt j) q st = some v) :
    W p l e R s m args below meth c H locs cells slots (mn_Z D aC b below (0, v) hs args s cells slots) (F0 m pc ls (st.map (mn_tr b))) := by
  obtain ⟨hx, hb, -, -, -, -, -, -, -, hr, hlocks, -⟩ := C
  refine mn_W_mono (fun t h => mn_end_Z h) ?_
  have hq : ∀ (w : Option Value) (t : State), t.heap = H → s.WarmedH t.vm → mn_Qr D aC b w hs args s (.returned (w.map (mn_tr b))) t := fun w t ht _ => ⟨rfl, by rw [ht]; exact hR, hS.F ht⟩
  unfold mn_end at hv
  split at hv
  · next h9 => cases hv; exact W.vret hx hb (by rw [hr, h9]) (hq none) hS.2.2 hd hlocks
  · next ty x h9 =>
    split at hv
    · next hn => cases hv; exact W.zret hx hb (by rw [hr, h9]) hn (hq (some (.int x))) hS.2.2 hd hlocks
    · cases hv
  · next a h9 => cases hv; exact W.aret hx hb (by rw [hr, h9]) (Or.inl ⟨_, rfl⟩) (Or.inr ⟨_, rfl⟩) (hq (some (.ref a))) hS.2.2 hd hlocks
  · next h9 => cases hv; exact W.aret hx hb (by rw [hr, h9]) (Or.inl ⟨_, rfl⟩) (Or.inl rfl) (hq (some .null)) hS.2.2 hd hlocks
  · cases hv
theorem mn_thr_ok {j fr lo : Nat} {q : Instr × Nat} {pc : Nat} {xs : List (Option Value)} {st : List Value} {ns : Nat} {hs : mn_H} {k : Nat} (htr : l.stackTraces = false) (hW : mn_GW WT) (hH : mt_H WT) (C : mn_cx WT D aC b p s m args meth c j n0 sc) (hR : mn_R D mt_cl aC b hs H) (hS : va_S (fun q => b.1 ≤ q) s.heap H locs) (hls : ls.size = mt_ml j) (hn0 : n0 ≤ hs.length) (hm0 : m0 ≤ ns)
    (hd : decode (mt_code j) pc = .ok q) (hk : mn_thr (mt_code j) (mt_pl j) (mt_hl j).isEmpty fr lo q pc st = some k) :
    W p l e { frames := fr, cells := (hs ++ [((99, []) : mn_C)]).length - n0, slots := ns + 6 - m0, locals := lo } s m args below meth c H locs (hs.length - n0) (ns - m0) (mn_Z D aC b below (k + 1, none) (hs ++ [(99, [])]) args s ((hs ++ [((99, []) : mn_C)]).length - n0) (ns + 6 - m0)) (F0 m pc ls (st.map (mn_tr b))) := by
  obtain ⟨hx, hb, hml, hown, hts, hK, hsz, hX, hin, hr, hlocks, hexc, -⟩ := C
  obtain ⟨-, -, -, -, -, -, -, H3, -⟩ := hH
  unfold mn_thr at hk
  split at hk
  · next i =>
    split at hk
    · next k' ic x1 x2 h =>
      split at hk
      · next hc =>
        cases hk
        obtain ⟨c0, c1, c2, c3, c4, c5⟩ := hc
        obtain ⟨X, e1, e2, e3, e4, e5⟩ := H3 _ _ _ _ _ _ h
        have hhl : mt_hl j = [] := List.isEmpty_iff.mp c0
        rw [hhl] at hexc
        have hexc' : c.exceptionTable.toList = [] := List.map_eq_nil_iff.mp hexc
        refine mn_sized hsz hR.1 hn0 fun hz => ?_
        have hXH := hX.kept hS
        have hl1 : (hs ++ [((99, []) : mn_C)]).length - n0 = hs.length - n0 + 1 := by simp; omega
        have hl2 : ns + 6 - m0 = ns - m0 + 6 := by omega
        rw [hl1, hl2]
        have word : ∀ (su : Nat) (w : Cond), w ∈ WT → w.before args ({ s with heap := H, slotsUsed := su } : State) = true := fun su w hw => hW w hw args args s ({ s with heap := H, slotsUsed := su } : State) (State.WarmedH.refl s) (hts w hw)
        refine mn_throw_W hx hb (hls.trans hml.symm) htr hlocks hown e2 (fun su a ha => ?_) (fun su => word su _ e3) (fun su => word su _ e4) hd c1 c2 c3 (by rw [hexc']; intro x hx; cases hx) c4 (by rw [mn_cat_tr]; exact c5) (Nat.le_refl _) (Nat.le_refl _) (fun U u1 u2 u3 u4 u5 u6 u7 => ?_)
        · rcases e5 a ha with h1 | h1 | h1 | h1 | h1
          · exact word su a h1
          · rw [h1]; exact mn_isref hXH.1 su
          · rw [h1]; exact mn_isref hXH.2.1 su
          · rw [h1]; exact hXH.2.2.2.1.use su
          · rw [h1]; exact hXH.2.2.2.2.use su
        · have hlast : b.1 + ((hs ++ [((99, []) : mn_C)]).length - 1) = H.size := by rw [hz]; simp
          obtain ⟨ce, v1, v2, v3⟩ := u7
          refine ⟨.threw H.size, u1, u2, ⟨by rw [hlast], X, ce, e1, by rw [hlast]; exact v1, v2, v3⟩, hR.hole hz u5 (fun q hq _ => u6 q hq) rfl, ⟨Nat.le_trans hS.1 (by omega), fun q h1 h2 => ?_⟩, locs, u3, u4, hS.2.2⟩
          rw [u6 q (Nat.lt_of_lt_of_le h1 hS.1)]
          exact hS.2.1 q h1 h2
      · cases hk
    · cases hk
  · cases hk
end ENDS
end MNM
