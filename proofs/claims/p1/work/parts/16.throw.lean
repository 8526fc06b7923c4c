section MNT
variable {p : Program} {l : Launch} {e : Env} {R : Room} {s : State} {m : MethodId} {args : Array Value} {below : List Frame} {meth : Method} {c : Code} {T : State} {locs : List Loc} {cells slots : Nat}
/-- the walk as if the method had been entered with the heap as it is now -/
theorem mn_rebase (X : Stand p l e R s m args below meth c T locs cells slots) (hc : cells ≤ R.cells) (hs : slots ≤ R.slots) : Stand p l e { frames := R.frames, cells := R.cells - cells, slots := R.slots - slots, locals := R.locals } ({ s with heap := T.heap, slotsUsed := T.slotsUsed } : State) m args below meth c T [] 0 0 := by
  have hsame := X.same
  obtain ⟨e1, e2, e3, e4, e5, e6⟩ := id hsame
  have hh := X.heapSize
  have hu := X.used
  refine ⟨X.admits, X.cas, X.clock, X.frames, ?_, X.hears, X.method, X.code, X.here, X.tail, X.warmed, X.limits, X.bytes, ?_⟩
  · have hr := X.room
    have hb := X.book
    simp only [State.hasRoom, Bool.and_eq_true, decide_eq_true_eq] at hr ⊢
    refine ⟨⟨⟨⟨hr.1.1.1.1, hr.1.1.1.2⟩, ?_⟩, ?_⟩, hb⟩
    · have := hr.1.1.2
      show T.heap.size + (R.cells - cells) ≤ _
      omega
    · have := hr.1.2
      show T.slotsUsed + (R.slots - slots) ≤ _
      omega
  · refine ⟨?_, Nat.le_refl _, Nat.le_refl _, ?_, ?_, ?_⟩
    · exact e1
    · show T.slotsUsed = T.slotsUsed + _
      have : List.drop T.heap.size T.heap.toList = [] := List.drop_eq_nil_of_le (by simp)
      show T.slotsUsed = T.slotsUsed + ((List.drop T.heap.size T.heap.toList).map (·.slots.size)).sum
      rw [this]
      simp
    · have : List.drop T.heap.size T.heap.toList = [] := List.drop_eq_nil_of_le (by simp)
      show ((List.drop T.heap.size T.heap.toList).map (·.slots.size)).sum ≤ 0
      rw [this]
      simp
    · intro a c hc
      exact ⟨c, hc, rfl, rfl, fun _ _ => rfl⟩
end MNT
