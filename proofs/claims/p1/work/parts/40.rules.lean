/-- more fuel does no harm -/
theorem mn_run_succ : ∀ (n : Nat) (sc : Option (List Int32)) (fr lo j : Nat) (S : mn_S) (r : mn_A), mn_run n sc fr lo j S = some r → mn_run (n + 1) sc fr lo j S = some r := by
  intro n
  induction n with
  | zero => intro sc fr lo j S r h; cases h
  | succ n ih =>
    intro sc fr lo j S r h
    obtain ⟨pc, xs, st, ns, hs⟩ := S
    unfold mn_run at h ⊢
    split at h
    · cases h
    · next q hd =>
      split at h
      · next S hop => exact ih _ _ _ _ _ _ h
      · next hop =>
        split at h
        · exact h
        · split at h
          · exact h
          · split at h
            · cases h
            · next j2 as r0 hcal =>
              split at h
              · next hc =>
                split at h
                · cases h
                · next v ns1 hs1 h1 =>
                  simp only [ih _ _ _ _ _ _ h1]
                  rw [if_pos hc]
                  exact ih _ _ _ _ _ _ h
                · next k w ns1 hs1 h1 =>
                  simp only [ih _ _ _ _ _ _ h1]
                  rw [if_pos hc]
                  split at h
                  · exact ih _ _ _ _ _ _ h
                  · cases h
              · cases h
theorem mn_run_le {n n' : Nat} {sc : Option (List Int32)} {fr lo j : Nat} {S : mn_S} {r : mn_A} (h : mn_run n sc fr lo j S = some r) (hn : n ≤ n') : mn_run n' sc fr lo j S = some r := by
  induction hn with
  | refl => exact h
  | step _ ih => exact mn_run_succ _ _ _ _ _ _ _ ih
/-- the small machine comes from S to the end r -/
def Ru (sc : Option (List Int32)) (fr lo j : Nat) (S : mn_S) (r : mn_A) : Prop := ∃ n, mn_run n sc fr lo j S = some r
theorem Ru.of {sc : Option (List Int32)} {fr lo j : Nat} {S : mn_S} {r : mn_A} (n : Nat) (h : mn_run n sc fr lo j S = some r) : Ru sc fr lo j S r := ⟨n, h⟩
section RU
variable {sc : Option (List Int32)} {fr lo j pc : Nat} {xs : List (Option Value)} {st : List Value} {ns : Nat} {hs : mn_H} {r : mn_A} {q : Instr × Nat}
theorem Ru.op {S' : mn_S} (hd : decode (mt_code j) pc = .ok q) (ho : mn_op j fr lo sc q pc xs st ns hs = some S') (h : Ru sc fr lo j S' r) : Ru sc fr lo j (pc, xs, st, ns, hs) r := by
  obtain ⟨n, h⟩ := h
  refine ⟨n + 1, ?_⟩
  unfold mn_run
  rw [hd]
  simp only [ho]
  exact h
theorem Ru.end {v : Option Value} (hd : decode (mt_code j) pc = .ok q) (ho : mn_op j fr lo sc q pc xs st ns hs = none) (he : mn_end (mt_rt j) q st = some v) : Ru sc fr lo j (pc, xs, st, ns, hs) ((0, v), ns, hs) := by
  refine ⟨1, ?_⟩
  unfold mn_run
  rw [hd]
  simp only [ho, he]
theorem Ru.thr {k : Nat} (hd : decode (mt_code j) pc = .ok q) (ho : mn_op j fr lo sc q pc xs st ns hs = none) (he : mn_end (mt_rt j) q st = none) (ht : mn_thr (mt_code j) (mt_pl j) (mt_hl j).isEmpty fr lo q pc st = some k) : Ru sc fr lo j (pc, xs, st, ns, hs) ((k + 1, none), ns + 6, hs ++ [(99, [])]) := by
  refine ⟨1, ?_⟩
  unfold mn_run
  rw [hd]
  simp only [ho, he, ht]
theorem Ru.call {j2 : Nat} {as r0 : List Value} {v : Option Value} {ns1 : Nat} {hs1 : mn_H} (hd : decode (mt_code j) pc = .ok q) (ho : mn_op j fr lo sc q pc xs st ns hs = none) (he : mn_end (mt_rt j) q st = none) (ht : mn_thr (mt_code j) (mt_pl j) (mt_hl j).isEmpty fr lo q pc st = none)
    (hcal : mn_cal (mt_pl j) mt_na q st hs = some (j2, as, r0)) (hc : 1 ≤ fr ∧ 19 + mt_ml j2 ≤ lo ∧ mn_cat r0 ≤ 8 ∧ (mn_ent as).length ≤ mt_ml j2)
    (h1 : Ru none (fr - 1) (lo - (19 + mt_ml j2)) j2 (0, mn_pad (mn_ent as) (mt_ml j2), [], ns, hs) ((0, v), ns1, hs1)) (h2 : Ru sc fr lo j (pc + 3, xs, v.toList ++ r0, ns1, hs1) r) : Ru sc fr lo j (pc, xs, st, ns, hs) r := by
  obtain ⟨n1, h1⟩ := h1
  obtain ⟨n2, h2⟩ := h2
  refine ⟨max n1 n2 + 1, ?_⟩
  have h1' := mn_run_le h1 (Nat.le_max_left n1 n2)
  have h2' := mn_run_le h2 (Nat.le_max_right n1 n2)
  unfold mn_run
  rw [hd]
  simp only [ho, he, ht, hcal]
  rw [if_pos hc]
  simp only [h1']
  exact h2'
theorem Ru.catch {i j2 : Nat} {as r0 : List Value} {k hp : Nat} {w : Option Value} {ns1 : Nat} {hs1 : mn_H} (hd : decode (mt_code j) pc = .ok (.invokevirtual i, 3)) (ho : mn_op j fr lo sc (.invokevirtual i, 3) pc xs st ns hs = none) (he : mn_end (mt_rt j) (.invokevirtual i, 3) st = none) (ht : mn_thr (mt_code j) (mt_pl j) (mt_hl j).isEmpty fr lo (.invokevirtual i, 3) pc st = none)
    (hcal : mn_cal (mt_pl j) mt_na (.invokevirtual i, 3) st hs = some (j2, as, r0)) (hc : 1 ≤ fr ∧ 19 + mt_ml j2 ≤ lo ∧ mn_cat r0 ≤ 8 ∧ (mn_ent as).length ≤ mt_ml j2) (hhd : mn_hd (mt_hl j) pc k = some hp)
    (h1 : Ru none (fr - 1) (lo - (19 + mt_ml j2)) j2 (0, mn_pad (mn_ent as) (mt_ml j2), [], ns, hs) ((k + 1, w), ns1, hs1)) (h2 : Ru sc fr lo j (hp, xs, [.ref (hs1.length - 1)], ns1, hs1) r) : Ru sc fr lo j (pc, xs, st, ns, hs) r := by
  obtain ⟨n1, h1⟩ := h1
  obtain ⟨n2, h2⟩ := h2
  refine ⟨max n1 n2 + 1, ?_⟩
  have h1' := mn_run_le h1 (Nat.le_max_left n1 n2)
  have h2' := mn_run_le h2 (Nat.le_max_right n1 n2)
  unfold mn_run
  rw [hd]
  simp only [ho, he, ht, hcal]
  rw [if_pos hc]
  simp only [h1', hhd]
  exact h2'
end RU
