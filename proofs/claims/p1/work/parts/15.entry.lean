theorem mn_ent_len (b : Nat × Nat) : ∀ (as : List Value), (lg_sl (as.map (mn_tr b))).length = (mn_ent as).length
  | [] => rfl
  | v :: t => by
    have ih := mn_ent_len b t
    unfold lg_sl at ih ⊢
    unfold mn_ent
    rw [List.map_cons, List.flatMap_cons, List.length_append, ih, mn_tr_cat]
    split <;> simp <;> omega
theorem mn_ent_args (b : Nat × Nat) : ∀ (as : List Value) (k i : Nat) (v : Value), (mn_ent as)[i]? = some (some v) → (k + i, mn_tr b v) ∈ lv_args k (as.map (mn_tr b))
  | [], k, i, v, h => by simp [mn_ent] at h
  | w :: t, k, i, v, h => by
    rw [List.map_cons]
    unfold lv_args
    unfold mn_ent at h
    rw [mn_tr_cat]
    split at h
    · next hc =>
      rw [if_pos hc]
      match i, h with
      | 0, h =>
        simp at h
        subst h
        exact List.mem_cons_self
      | 1, h => simp at h
      | i + 2, h =>
        have h2 : (mn_ent t)[i]? = some (some v) := by simpa using h
        have := mn_ent_args b t (k + 2) i v h2
        rw [show k + 2 + i = k + (i + 2) by omega] at this
        exact List.mem_cons_of_mem _ this
    · next hc =>
      rw [if_neg hc]
      match i, h with
      | 0, h =>
        simp at h
        subst h
        exact List.mem_cons_self
      | i + 1, h =>
        have h2 : (mn_ent t)[i]? = some (some v) := by simpa using h
        have := mn_ent_args b t (k + 1) i v h2
        rw [show k + 1 + i = k + (i + 1) by omega] at this
        exact List.mem_cons_of_mem _ this
theorem mn_pad_len {xs : List (Option Value)} {n : Nat} (h : xs.length ≤ n) : (mn_pad xs n).length = n := by
  unfold mn_pad
  simp
  omega
theorem mn_L_entry (b : Nat × Nat) (as : List Value) {n : Nat} (h : (mn_ent as).length ≤ n) : mn_L b ((lg_sl (as.map (mn_tr b)) ++ List.replicate (n - (lg_sl (as.map (mn_tr b))).length) Slot.unset).toArray) (mn_pad (mn_ent as) n) := by
  have hl := lv_entry (as.map (mn_tr b)) (n := n) (by rw [mn_ent_len]; exact h)
  refine ⟨by rw [mn_pad_len h]; exact hl.1, hl.2.1, fun i v hi => ?_⟩
  unfold mn_pad at hi
  by_cases hi2 : i < (mn_ent as).length
  · rw [List.getElem?_append_left hi2] at hi
    have := mn_ent_args b as 0 i v hi
    rw [Nat.zero_add] at this
    exact hl.2.2 _ this
  · rw [List.getElem?_append_right (by omega), List.getElem?_replicate] at hi
    split at hi <;> cases hi
