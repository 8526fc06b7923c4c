/-- a method's locals at its entry -/
def mn_ent : List Value → List (Option Value)
  | [] => []
  | v :: t => if v.category = 2 then some v :: none :: mn_ent t else some v :: mn_ent t
def mn_pad (xs : List (Option Value)) (n : Nat) : List (Option Value) := xs ++ List.replicate (n - xs.length) none
/-- reads of the law's script, which lies outside our heap: its reference is the value .retAddr -/
def mn_opS (sc : Option (List Int32)) (q : Instr × Nat) (pc : Nat) (xs : List (Option Value)) (st : List Value) (ns : Nat) (hs : mn_H) : Option mn_S :=
  match sc with
  | none => none
  | some l => match q with
    | (.iaload, 1) => match st with
      | .int i :: .retAddr _ :: r => if i < 0 ∨ l.length ≤ i.toNatClampNeg then none else some (pc + 1, xs, .int (l.getD i.toNatClampNeg 0) :: r, ns, hs)
      | _ => none
    | (.arraylength, 1) => match st with
      | .retAddr _ :: r => some (pc + 1, xs, .int (Int32.ofNat l.length) :: r, ns, hs)
      | _ => none
    | _ => none
def mn_op (j fr lo : Nat) (sc : Option (List Int32)) (q : Instr × Nat) (pc : Nat) (xs : List (Option Value)) (st : List Value) (ns : Nat) (hs : mn_H) : Option mn_S :=
  match mn_opA q pc xs st ns hs with
  | some S => some S
  | none => match mn_opB q pc xs st ns hs with
    | some S => some S
    | none => match mn_opB1 q pc xs st ns hs with
      | some S => some S
      | none => match mn_opC q pc xs st ns hs with
        | some S => some S
        | none => match mn_opD (mt_pl j) mt_ft mt_fi mt_df mt_ak (mt_ow j) (mt_in j) q pc xs st ns hs with
          | some S => some S
          | none => match mn_opE (mt_pl j) fr lo q pc xs st ns hs with
            | some S => some S
            | none => mn_opS sc q pc xs st ns hs
/-- a return, and what it gives -/
def mn_end (rt : Option FieldType) (q : Instr × Nat) (st : List Value) : Option (Option Value) :=
  match q, rt, st with
  | (.return_, 1), none, [] => some none
  | (.ireturn, 1), some ty, [.int v] => if narrow ty (.int v) = .int v then some (some (.int v)) else none
  | (.areturn, 1), some (.object _), [.ref a] => some (some (.ref a))
  | (.areturn, 1), some (.object _), [.null] => some (some .null)
  | _, _, _ => none
/-- new X, dup, its constructor, athrow: which exception -/
def mn_thr (cc : ByteArray) (pl : Nat → mn_K) (em : Bool) (fr lo : Nat) (q : Instr × Nat) (pc : Nat) (st : List Value) : Option Nat :=
  match q with
  | (.new i, 3) => match pl i with
    | (3, k, ic, _, _) => if em = true ∧ decode cc (pc + 3) = .ok (.dup, 1) ∧ decode cc (pc + 4) = .ok (.invokespecial ic, 3) ∧ decode cc (pc + 7) = .ok (.athrow, 1) ∧ 5 < fr ∧ mn_cat st + 81 ≤ lo then some k else none
    | _ => none
  | _ => none
/-- a call of a method of ours: which one, with what (the receiver first), and what stays on the stack -/
def mn_cal (pl : Nat → mn_K) (na : Nat → Nat) (q : Instr × Nat) (st : List Value) (hs : mn_H) : Option (Nat × List Value × List Value) :=
  match q with
  | (.invokestatic i, 3) => match pl i with
    | (7, j, _, _, _) => if na j ≤ st.length then some (j, (st.take (na j)).reverse, st.drop (na j)) else none
    | _ => none
  | (.invokevirtual i, 3) => match pl i with
    | (8, j, ci, _, _) => match st.drop (na j) with
      | .ref a :: r => match hs[a]? with
        | some (tg, _) => if tg = ci ∧ ci < 50 then some (j, .ref a :: (st.take (na j)).reverse, r) else none
        | none => none
      | _ => none
    | _ => none
  | (.invokespecial i, 3) => match pl i with
    | (9, j, _, _, _) => match st.drop (na j) with
      | .ref a :: r => some (j, .ref a :: (st.take (na j)).reverse, r)
      | _ => none
    | _ => none
  | _ => none
/-- the first handler over the place that takes exception k -/
def mn_hd (l : List (Nat × Nat × Nat × Nat × Nat)) (pc k : Nat) : Option Nat := match l with
  | [] => none
  | t :: r => if t.1 ≤ pc ∧ pc < t.2.1 then (if t.2.2.2.2 = k then some t.2.2.1 else mn_hd r pc k) else none
abbrev mn_A : Type := (Nat × Option Value) × Nat × mn_H
/-- the run of method j: 0 and the value that it returns, or 1 + k where it throws exception k; slots, heap -/
def mn_run : Nat → Option (List Int32) → Nat → Nat → Nat → mn_S → Option mn_A
  | 0, _, _, _, _, _ => none
  | n + 1, sc, fr, lo, j, (pc, xs, st, ns, hs) =>
    match decode (mt_code j) pc with
    | .error _ => none
    | .ok q => match mn_op j fr lo sc q pc xs st ns hs with
      | some S => mn_run n sc fr lo j S
      | none => match mn_end (mt_rt j) q st with
        | some v => some ((0, v), ns, hs)
        | none => match mn_thr (mt_code j) (mt_pl j) (mt_hl j).isEmpty fr lo q pc st with
          | some k => some ((k + 1, none), ns + 6, hs ++ [(99, [])])
          | none => match mn_cal (mt_pl j) mt_na q st hs with
            | none => none
            | some (j2, as, r) => if 1 ≤ fr ∧ 19 + mt_ml j2 ≤ lo ∧ mn_cat r ≤ 8 ∧ (mn_ent as).length ≤ mt_ml j2 then
                match mn_run n none (fr - 1) (lo - (19 + mt_ml j2)) j2 (0, mn_pad (mn_ent as) (mt_ml j2), [], ns, hs) with
                | none => none
                | some ((0, v), ns', hs') => mn_run n sc fr lo j (pc + 3, xs, v.toList ++ r, ns', hs')
                | some ((k + 1, _), ns', hs') => match q, mn_hd (mt_hl j) pc k with
                  | (.invokevirtual _, 3), some hp => mn_run n sc fr lo j (hp, xs, [.ref (hs'.length - 1)], ns', hs')
                  | _, _ => none
              else none
