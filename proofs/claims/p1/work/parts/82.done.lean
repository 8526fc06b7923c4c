theorem pr_done : pr_law 5 := fun sc h => by
  obtain ⟨ns', hs', ⟨n, hn⟩, h7, h8⟩ := p1_all h
  exact ⟨n, ns', hs', hn, Nat.le_trans h7 (by decide), Nat.le_trans h8 (by decide)⟩
