theorem mn_opA_mono {q : Instr × Nat} {pc : Nat} {xs : List (Option Value)} {st : List Value} {ns : Nat} {hs : mn_H} {S : mn_S} (h : mn_opA q pc xs st ns hs = some S) : S.2.2.2.1 = ns ∧ S.2.2.2.2 = hs := by
  unfold mn_opA at h
  repeat' split at h
  all_goals first | (cases h; done) | (cases h; exact ⟨rfl, rfl⟩) | (obtain ⟨ys, h1, h2⟩ := Option.map_eq_some_iff.mp h; cases h2; exact ⟨rfl, rfl⟩)
theorem mn_opB_mono {q : Instr × Nat} {pc : Nat} {xs : List (Option Value)} {st : List Value} {ns : Nat} {hs : mn_H} {S : mn_S} (h : mn_opB q pc xs st ns hs = some S) : S.2.2.2.1 = ns ∧ S.2.2.2.2 = hs := by
  unfold mn_opB at h
  repeat' split at h
  all_goals first | (cases h; done) | (cases h; exact ⟨rfl, rfl⟩) | (obtain ⟨ys, h1, h2⟩ := Option.map_eq_some_iff.mp h; cases h2; exact ⟨rfl, rfl⟩)
theorem mn_opB1_mono {q : Instr × Nat} {pc : Nat} {xs : List (Option Value)} {st : List Value} {ns : Nat} {hs : mn_H} {S : mn_S} (h : mn_opB1 q pc xs st ns hs = some S) : S.2.2.2.1 = ns ∧ S.2.2.2.2 = hs := by
  unfold mn_opB1 at h
  repeat' split at h
  all_goals first | (cases h; done) | (cases h; exact ⟨rfl, rfl⟩)
theorem mn_opC_mono {q : Instr × Nat} {pc : Nat} {xs : List (Option Value)} {st : List Value} {ns : Nat} {hs : mn_H} {S : mn_S} (h : mn_opC q pc xs st ns hs = some S) : S.2.2.2.1 = ns ∧ S.2.2.2.2 = hs := by
  unfold mn_opC at h
  repeat' split at h
  all_goals first | (cases h; done) | (cases h; exact ⟨rfl, rfl⟩)
theorem mn_opS_mono {sc : Option (List Int32)} {q : Instr × Nat} {pc : Nat} {xs : List (Option Value)} {st : List Value} {ns : Nat} {hs : mn_H} {S : mn_S} (h : mn_opS sc q pc xs st ns hs = some S) : S.2.2.2.1 = ns ∧ S.2.2.2.2 = hs := by
  unfold mn_opS at h
  repeat' split at h
  all_goals first | (cases h; done) | (cases h; exact ⟨rfl, rfl⟩)
theorem mn_opD_mono {pl : Nat → mn_K} {ft : Nat → Nat → Nat} {fi : Nat → Nat → Bool} {df : Nat → List Value} {ak : Nat → Nat} {ow : Nat} {ini : Bool} {q : Instr × Nat} {pc : Nat} {xs : List (Option Value)} {st : List Value} {ns : Nat} {hs : mn_H} {S : mn_S} (h : mn_opD pl ft fi df ak ow ini q pc xs st ns hs = some S) : ns ≤ S.2.2.2.1 ∧ hs.length ≤ S.2.2.2.2.length := by
  unfold mn_opD at h
  repeat' split at h
  all_goals first | (cases h; done) | (cases h; exact ⟨Nat.le_refl _, Nat.le_refl _⟩) | (cases h; exact ⟨Nat.le_refl _, by simp⟩) | (cases h; exact ⟨by simp, by simp⟩)
theorem mn_opE_mono {pl : Nat → mn_K} {fr lo : Nat} {q : Instr × Nat} {pc : Nat} {xs : List (Option Value)} {st : List Value} {ns : Nat} {hs : mn_H} {S : mn_S} (h : mn_opE pl fr lo q pc xs st ns hs = some S) : S.2.2.2.1 = ns ∧ S.2.2.2.2.length = hs.length := by
  unfold mn_opE at h
  repeat' split at h
  all_goals first | (cases h; done) | (cases h; exact ⟨rfl, rfl⟩) | (cases h; exact ⟨rfl, by simp⟩)
theorem mn_op_mono {j fr lo : Nat} {sc : Option (List Int32)} {q : Instr × Nat} {pc : Nat} {xs : List (Option Value)} {st : List Value} {ns : Nat} {hs : mn_H} {S : mn_S} (h : mn_op j fr lo sc q pc xs st ns hs = some S) : ns ≤ S.2.2.2.1 ∧ hs.length ≤ S.2.2.2.2.length := by
  unfold mn_op at h
  split at h
  · next h1 => cases h; have h9 := mn_opA_mono h1; exact ⟨by rw [h9.1]; exact Nat.le_refl _, by rw [h9.2]; exact Nat.le_refl _⟩
  · split at h
    · next h1 => cases h; have h9 := mn_opB_mono h1; exact ⟨by rw [h9.1]; exact Nat.le_refl _, by rw [h9.2]; exact Nat.le_refl _⟩
    · split at h
      · next h1 => cases h; have h9 := mn_opB1_mono h1; exact ⟨by rw [h9.1]; exact Nat.le_refl _, by rw [h9.2]; exact Nat.le_refl _⟩
      · split at h
        · next h1 => cases h; have h9 := mn_opC_mono h1; exact ⟨by rw [h9.1]; exact Nat.le_refl _, by rw [h9.2]; exact Nat.le_refl _⟩
        · split at h
          · next h1 => cases h; exact mn_opD_mono h1
          · split at h
            · next h1 => cases h; have h9 := mn_opE_mono h1; exact ⟨by rw [h9.1]; exact Nat.le_refl _, by rw [h9.2]; exact Nat.le_refl _⟩
            · have h9 := mn_opS_mono h; exact ⟨by rw [h9.1]; exact Nat.le_refl _, by rw [h9.2]; exact Nat.le_refl _⟩
theorem mn_run_mono : ∀ (n : Nat) (sc : Option (List Int32)) (fr lo j pc : Nat) (xs : List (Option Value)) (st : List Value) (ns : Nat) (hs : mn_H) (res : Nat × Option Value) (ns' : Nat) (hs' : mn_H), mn_run n sc fr lo j (pc, xs, st, ns, hs) = some (res, ns', hs') → ns ≤ ns' ∧ hs.length ≤ hs'.length := by
  intro n
  induction n with
  | zero => intro sc fr lo j pc xs st ns hs res ns' hs' h; cases h
  | succ n ih =>
    intro sc fr lo j pc xs st ns hs res ns' hs' h
    unfold mn_run at h
    split at h
    · cases h
    · split at h
      · next S hS =>
        obtain ⟨pc1, xs1, st1, ns1, hs1⟩ := S
        have h1 := mn_op_mono hS
        have h2 := ih _ _ _ _ _ _ _ _ _ _ _ _ h
        exact ⟨Nat.le_trans h1.1 h2.1, Nat.le_trans h1.2 h2.2⟩
      · split at h
        · cases h; exact ⟨Nat.le_refl _, Nat.le_refl _⟩
        · split at h
          · cases h; exact ⟨by omega, by simp⟩
          · split at h
            · cases h
            · split at h
              · split at h
                · cases h
                · next h1 =>
                  have h2 := ih _ _ _ _ _ _ _ _ _ _ _ _ h1
                  have h3 := ih _ _ _ _ _ _ _ _ _ _ _ _ h
                  exact ⟨Nat.le_trans h2.1 h3.1, Nat.le_trans h2.2 h3.2⟩
                · next h1 =>
                  split at h
                  · have h2 := ih _ _ _ _ _ _ _ _ _ _ _ _ h1
                    have h3 := ih _ _ _ _ _ _ _ _ _ _ _ _ h
                    exact ⟨Nat.le_trans h2.1 h3.1, Nat.le_trans h2.2 h3.2⟩
                  · cases h
              · cases h
