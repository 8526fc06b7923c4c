section MNZ
variable {l : Launch} {WT : List Cond} {D : va_G} {aC : Nat → ClassId} {b : Nat × Nat}
set_option maxHeartbeats 8000000 in
/-- THE SMALL MACHINE IS TRUE: what it runs to an end, the machine runs to that end -/
theorem mn_sound (htr : l.stackTraces = false) (hW : mn_GW WT) (hG : mt_G WT) (hH : mt_H WT) : ∀ (n : Nat) (sc : Option (List Int32)) (fr lo j pc : Nat) (xs : List (Option Value)) (st : List Value) (ns : Nat) (hs : mn_H) (res : Nat × Option Value) (ns' : Nat) (hs' : mn_H), mn_run n sc fr lo j (pc, xs, st, ns, hs) = some (res, ns', hs') →
    ∀ {p : Program} {e : Env} {s : State} {m : MethodId} {args : Array Value} {below : List Frame} {meth : Method} {c : Code} {H : Heap} {locs : List Loc} {ls : Array Slot} {n0 m0 : Nat}, mn_cx WT D aC b p s m args meth c j n0 sc → mn_R D mt_cl aC b hs H → va_S (fun q => b.1 ≤ q) s.heap H locs → mn_L b ls xs → xs.length = mt_ml j → n0 ≤ hs.length → m0 ≤ ns →
      W p l e { frames := fr, cells := hs'.length - n0, slots := ns' - m0, locals := lo } s m args below meth c H locs (hs.length - n0) (ns - m0) (mn_Z D aC b below res hs' args s (hs'.length - n0) (ns' - m0)) (F0 m pc ls (st.map (mn_tr b))) := by
  intro n
  induction n with
  | zero => intro sc fr lo j pc xs st ns hs res ns' hs' h; cases h
  | succ n ih =>
    intro sc fr lo j pc xs st ns hs res ns' hs' h p e s m args below meth c H locs ls n0 m0 C hR hS hL hxl hn0 hm0
    have hls : ls.size = mt_ml j := hL.1.trans hxl
    obtain ⟨hx, hb, hml, hown, hts, hK, hsz, hX, hin, hr, hlocks, hexc, hsc⟩ := id C
    unfold mn_run at h
    split at h
    · cases h
    · next q hd =>
      split at h
      · next S hop =>
        obtain ⟨pc1, xs1, st1, ns1, hs1⟩ := S
        have hmono := mn_run_mono _ _ _ _ _ _ _ _ _ _ _ _ _ h
        have IH := @ih _ _ _ _ _ _ _ _ _ _ _ _ h
        have hgrow := mn_op_mono hop
        dsimp only at hgrow
        unfold mn_op at hop
        split at hop
        · next h1 =>
          cases hop
          exact mn_opA_ok hx hb hd h1 hL (fun e1 e2 ls' hL' hlen => by subst e1; subst e2; exact IH C hR hS hL' (hlen.trans hxl) hn0 hm0)
        · split at hop
          · next h1 =>
            cases hop
            exact mn_opB_ok hx hb hd h1 (fun e1 e2 e3 => by subst e1; subst e2; subst e3; exact IH C hR hS hL hxl hn0 hm0)
          · split at hop
            · next h1 =>
              cases hop
              exact mn_opB1_ok hx hb hd h1 (fun e1 e2 e3 => by subst e1; subst e2; subst e3; exact IH C hR hS hL hxl hn0 hm0)
            · split at hop
              · next h1 =>
                cases hop
                exact mn_opC_ok hx hb hd h1 (fun e1 e2 e3 => by subst e1; subst e2; subst e3; exact IH C hR hS hL hxl hn0 hm0)
              · split at hop
                · next h1 =>
                  cases hop
                  exact mn_opD_ok hx hb hts hG hown hin hK hR hS hsz hn0 hm0 hd h1 (by show _ ≤ hs'.length - n0; omega) (by show _ ≤ ns' - m0; omega) (fun e1 l1 l2 H1 locs1 r1 s1 => by subst e1; exact IH C r1 s1 hL hxl (Nat.le_trans hn0 l1) (Nat.le_trans hm0 l2))
                · split at hop
                  · next h1 =>
                    cases hop
                    have h9 := mn_opE_mono h1
                    dsimp only at h9
                    exact mn_opE_ok (R := { frames := fr, cells := hs'.length - n0, slots := ns' - m0, locals := lo }) hH C hR hS hls hd h1 (by show _ ≤ hs'.length - n0; omega) (by show _ ≤ ns' - m0; omega) (fun e1 H1 locs1 r1 s1 => by subst e1; exact IH C r1 s1 hL hxl (by omega) (by omega))
                  · exact mn_opS_ok C hS hd hop (fun e1 e2 e3 => by subst e1; subst e2; subst e3; exact IH C hR hS hL hxl hn0 hm0)
      · split at h
        · next v hv =>
          cases h
          exact mn_ret_ok C hR hS hd hv
        · split at h
          · next k hk =>
            cases h
            exact mn_thr_ok (xs := xs) htr hW hH C hR hS hls hn0 hm0 hd hk
          · split at h
            · cases h
            · next j2 as r hcal =>
              split at h
              · next hc =>
                obtain ⟨c1, c2, c3, c4⟩ := hc
                split at h
                · cases h
                · next v ns1 hs1 h1 =>
                  have hmono1 := mn_run_mono _ _ _ _ _ _ _ _ _ _ _ _ _ h1
                  have hmono := mn_run_mono _ _ _ _ _ _ _ _ _ _ _ _ _ h
                  have IH := @ih _ _ _ _ _ _ _ _ _ _ _ _ h
                  have IH1 := @ih _ _ _ _ _ _ _ _ _ _ _ _ h1
                  have hcon : mn_Con l WT D aC b j2 (fr - 1) (lo - (19 + mt_ml j2)) as ns hs (0, v) ns1 hs1 := mn_con_of hH c4 IH1
                  exact mn_cret_ok (R := { frames := fr, cells := hs'.length - n0, slots := ns' - m0, locals := lo }) hW hH C hR hS hls hn0 hm0 hd hcal c1 c2 c3 hcon hmono1 (by show _ ≤ hs'.length - n0; omega) (by show _ ≤ ns' - m0; omega) (fun H1 locs1 r1 s1 => IH C r1 s1 hL hxl (Nat.le_trans hn0 hmono1.2) (Nat.le_trans hm0 hmono1.1))
                · next k w ns1 hs1 h1 =>
                  split at h
                  · have hhd := ‹mn_hd (mt_hl j) pc k = some _›
                    have hmono1 := mn_run_mono _ _ _ _ _ _ _ _ _ _ _ _ _ h1
                    have hmono := mn_run_mono _ _ _ _ _ _ _ _ _ _ _ _ _ h
                    have IH := @ih _ _ _ _ _ _ _ _ _ _ _ _ h
                    have IH1 := @ih _ _ _ _ _ _ _ _ _ _ _ _ h1
                    have hcon : mn_Con l WT D aC b j2 (fr - 1) (lo - (19 + mt_ml j2)) as ns hs (k + 1, w) ns1 hs1 := mn_con_of hH c4 IH1
                    exact mn_cthr_ok (R := { frames := fr, cells := hs'.length - n0, slots := ns' - m0, locals := lo }) hW hH C hR hS hls hn0 hm0 hd hcal c1 c2 c3 hhd hcon hmono1 (by show _ ≤ hs'.length - n0; omega) (by show _ ≤ ns' - m0; omega) (fun H1 locs1 r1 s1 => IH C r1 s1 hL hxl (Nat.le_trans hn0 hmono1.2) (Nat.le_trans hm0 hmono1.1))
                  · cases h
              · cases h
end MNZ
