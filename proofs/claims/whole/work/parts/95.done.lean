/-- what was left: on every script of at most 2560 ints the small machine runs the law to its end, and the end is 1 -/
theorem pr_done : pr_law 2560 := fun sc h => by
  obtain ⟨ns', hs', ⟨n, hn⟩, h7, h8⟩ := law_all h
  exact ⟨n, ns', hs', hn, h7, h8⟩
