/-! more room does no harm -/
theorem mn_opE_up {pl : Nat → mn_K} {fr lo fr' lo' : Nat} {q : Instr × Nat} {pc : Nat} {xs : List (Option Value)} {st : List Value} {ns : Nat} {hs : mn_H} {S : mn_S} (h1 : fr ≤ fr') (h2 : lo ≤ lo') (h : mn_opE pl fr lo q pc xs st ns hs = some S) : mn_opE pl fr' lo' q pc xs st ns hs = some S := by
  unfold mn_opE at h ⊢
  split at h
  · split at h
    · split at h
      · next hp hc => rw [if_pos ⟨by omega, by omega⟩]; exact h
      · cases h
    · cases h
  · split at h
    · split at h
      · next hp hc => rw [if_pos ⟨by omega, by omega⟩]; exact h
      · cases h
    · split at h
      · next hp hc => rw [if_pos ⟨by omega, by omega⟩]; exact h
      · cases h
    · split at h
      · split at h
        · next hc => rw [if_pos ⟨by omega, by omega, hc.2.2⟩]; exact h
        · cases h
      · cases h
    · cases h
  · cases h
theorem mn_opE_q {pl : Nat → mn_K} {na : Nat → Nat} {fr lo : Nat} {q : Instr × Nat} {pc : Nat} {xs : List (Option Value)} {st : List Value} {ns : Nat} {hs : mn_H} {S : mn_S} (h : mn_opE pl fr lo q pc xs st ns hs = some S) : (∀ rt, mn_end rt q st = none) ∧ (∀ cc em f l, mn_thr cc pl em f l q pc st = none) ∧ mn_cal pl na q st hs = none := by
  unfold mn_opE at h
  split at h
  · split at h
    · next hp => exact ⟨fun _ => rfl, fun _ _ _ _ => rfl, by simp only [mn_cal, hp]⟩
    · cases h
  · split at h
    · next hp => exact ⟨fun _ => rfl, fun _ _ _ _ => rfl, by simp only [mn_cal, hp]⟩
    · next hp => exact ⟨fun _ => rfl, fun _ _ _ _ => rfl, by simp only [mn_cal, hp]⟩
    · next hp => exact ⟨fun _ => rfl, fun _ _ _ _ => rfl, by simp only [mn_cal, hp]⟩
    · cases h
  · cases h
theorem mn_op_up {j fr lo fr' lo' : Nat} {sc : Option (List Int32)} {q : Instr × Nat} {pc : Nat} {xs : List (Option Value)} {st : List Value} {ns : Nat} {hs : mn_H} {S : mn_S} (h1 : fr ≤ fr') (h2 : lo ≤ lo') (h : mn_op j fr lo sc q pc xs st ns hs = some S) : mn_op j fr' lo' sc q pc xs st ns hs = some S := by
  unfold mn_op at h ⊢
  split at h
  · exact h
  · next e1 =>
    split at h
    · exact h
    · next e2 =>
      split at h
      · exact h
      · next e3 =>
        split at h
        · exact h
        · next e4 =>
          split at h
          · exact h
          · next e5 =>
            split at h
            · next e => simp only [mn_opE_up h1 h2 e]; exact h
            · next e6 =>
              cases e7 : mn_opE (mt_pl j) fr' lo' q pc xs st ns hs with
              | none => exact h
              | some S' =>
                exfalso
                unfold mn_opE at e7
                unfold mn_opS at h
                split at e7
                · split at h
                  · cases h
                  · cases h
                · split at h
                  · cases h
                  · cases h
                · cases e7
theorem mn_op_q {j fr lo fr' lo' : Nat} {sc : Option (List Int32)} {q : Instr × Nat} {pc : Nat} {xs : List (Option Value)} {st : List Value} {ns : Nat} {hs : mn_H} {S : mn_S} (h : mn_op j fr lo sc q pc xs st ns hs = none) (h' : mn_op j fr' lo' sc q pc xs st ns hs = some S) : (∀ rt, mn_end rt q st = none) ∧ (∀ cc em f l, mn_thr cc (mt_pl j) em f l q pc st = none) ∧ mn_cal (mt_pl j) mt_na q st hs = none := by
  unfold mn_op at h h'
  split at h
  · cases h
  · next e1 =>
    split at h
    · cases h
    · next e2 =>
      split at h
      · cases h
      · next e3 =>
        split at h
        · cases h
        · next e4 =>
          split at h
          · cases h
          · next e5 =>
            simp only [e1, e2, e3, e4, e5] at h'
            split at h
            · cases h
            · next e6 =>
              split at h'
              · next e7 => exact mn_opE_q e7
              · rw [h] at h'; cases h'
theorem mn_thr_up {cc : ByteArray} {pl : Nat → mn_K} {em : Bool} {fr lo fr' lo' : Nat} {q : Instr × Nat} {pc : Nat} {st : List Value} {k : Nat} (h1 : fr ≤ fr') (h2 : lo ≤ lo') (h : mn_thr cc pl em fr lo q pc st = some k) : mn_thr cc pl em fr' lo' q pc st = some k := by
  unfold mn_thr at h ⊢
  split at h
  · split at h
    · split at h
      · next hp hc => rw [if_pos ⟨hc.1, hc.2.1, hc.2.2.1, hc.2.2.2.1, by omega, by omega⟩]; exact h
      · cases h
    · cases h
  · cases h
theorem mn_thr_q {cc : ByteArray} {pl : Nat → mn_K} {em : Bool} {fr lo : Nat} {q : Instr × Nat} {pc : Nat} {st : List Value} {hs : mn_H} {na : Nat → Nat} {k : Nat} (h : mn_thr cc pl em fr lo q pc st = some k) : mn_cal pl na q st hs = none := by
  unfold mn_thr at h
  split at h
  · rfl
  · cases h
theorem mn_run_up : ∀ (n : Nat) (sc : Option (List Int32)) (fr lo fr' lo' j : Nat) (S : mn_S) (r : mn_A), fr ≤ fr' → lo ≤ lo' → mn_run n sc fr lo j S = some r → mn_run n sc fr' lo' j S = some r := by
  intro n
  induction n with
  | zero => intro sc fr lo fr' lo' j S r _ _ h; cases h
  | succ n ih =>
    intro sc fr lo fr' lo' j S r h1 h2 h
    obtain ⟨pc, xs, st, ns, hs⟩ := S
    unfold mn_run at h ⊢
    split at h
    · cases h
    · next q hd =>
      split at h
      · next S hop =>
        simp only [mn_op_up h1 h2 hop]
        exact ih _ _ _ _ _ _ _ _ h1 h2 h
      · next hop =>
        cases hop' : mn_op j fr' lo' sc q pc xs st ns hs with
        | some S' =>
          obtain ⟨g1, g2, g3⟩ := mn_op_q hop hop'
          simp only [g1, g2, g3] at h
          cases h
        | none =>
          simp only
          split at h
          · exact h
          · next e =>
            split at h
            · next k e2 => simp only [mn_thr_up h1 h2 e2]; exact h
            · next e2 =>
              split at h
              · cases h
              · next j2 as r0 hcal =>
                cases e3 : mn_thr (mt_code j) (mt_pl j) (mt_hl j).isEmpty fr' lo' q pc st with
                | some k => rw [mn_thr_q e3] at hcal; cases hcal
                | none =>
                  simp only [hcal]
                  split at h
                  · next hc =>
                    rw [if_pos ⟨by omega, by omega, hc.2.2⟩]
                    split at h
                    · cases h
                    · next v ns1 hs1 h3 =>
                      simp only [ih _ _ _ _ _ _ _ _ (Nat.sub_le_sub_right h1 1) (Nat.sub_le_sub_right h2 _) h3]
                      exact ih _ _ _ _ _ _ _ _ h1 h2 h
                    · next k w ns1 hs1 h3 =>
                      simp only [ih _ _ _ _ _ _ _ _ (Nat.sub_le_sub_right h1 1) (Nat.sub_le_sub_right h2 _) h3]
                      split at h
                      · exact ih _ _ _ _ _ _ _ _ h1 h2 h
                      · cases h
                  · cases h
theorem Ru.up {sc : Option (List Int32)} {fr lo fr' lo' j : Nat} {S : mn_S} {r : mn_A} (h : Ru sc fr lo j S r) (h1 : fr ≤ fr') (h2 : lo ≤ lo') : Ru sc fr' lo' j S r := by
  obtain ⟨n, h⟩ := h
  exact ⟨n, mn_run_up n sc fr lo fr' lo' j S r h1 h2 h⟩
