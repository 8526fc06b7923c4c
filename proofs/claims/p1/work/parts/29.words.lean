/-- a word that stays where the tables grow warmer -/
def mt_okw (w : Cond) : Bool := (w.onTables && w.keeps) || match w with
  | .arrayClass _ => true
  | .methodLinkNest _ _ _ _ => true
  | .castable _ _ => true
  | .declares _ => true
  | .arrayOver (.object _) => true
  | _ => false
/-- the words that the small machine takes from the tables -/
def mt_WT : List Cond := lw_tbl.filter mt_okw
theorem mt_GW : mn_GW mt_WT := by
  intro w hw args a' s U hU hb
  have h := (List.mem_filter.mp hw).2
  unfold mt_okw at h
  rw [Bool.or_eq_true] at h
  rcases h with h | h
  · exact mn_GW_keep (Or.inl h) args a' s U hU hb
  · split at h
    · exact mn_GW_keep (Or.inr ⟨_, rfl⟩) args a' s U hU hb
    · exact mn_GW_nm _ _ _ _ args a' s U hU hb
    · exact va_Nw.use rfl (va_Nw.warmC hU (va_tabs rfl rfl hb))
    · exact va_Nw.use rfl (va_Nw.warmD hU (va_tabs rfl rfl hb))
    · exact va_AO.use (va_AO.moved hU.alike (va_AO.of hb))
    · cases h
theorem mt_in_of {w : Cond} (i : Nat) (h : tables_1[i]? = some w) (ho : mt_okw w = true) : w ∈ mt_WT := List.mem_filter.mpr ⟨List.mem_append_right _ (List.mem_of_getElem? h), ho⟩
/-- a row of tables_1 is this word, and it stays -/
def mt_row (i : Nat) (w : Cond) : Bool := decide (tables_1[i]? = some w) && mt_okw w
theorem mt_row_in {i : Nat} {w : Cond} (h : mt_row i w = true) : w ∈ mt_WT := by
  unfold mt_row at h
  rw [Bool.and_eq_true, decide_eq_true_eq] at h
  exact mt_in_of i h.1 h.2
def mn_kd (ty : FieldType) : Nat := match ty with
  | .int => 0
  | .boolean => 1
  | .object _ => 2
  | .array _ => 2
  | _ => 9
theorem mn_kd_ok {ty : FieldType} {v : Value} (b : Nat × Nat) (hk : mn_kd ty < 9) (h : mn_fk (mn_kd ty) v = true) : narrow ty (mn_tr b v) = mn_tr b v ∧ fits ty (mn_tr b v) = true := by
  cases ty <;> simp [mn_kd] at hk <;> cases v <;> simp [mn_fk, mn_kd] at h <;> first | exact ⟨rfl, rfl⟩ | (rcases h with h | h <;> subst h <;> exact ⟨rfl, rfl⟩)
