/-! The small machine's run: fuel, depth of calls left, method, code, locals, stack, heap. -/
def kkind (i : Instr) (x : Nat) : Nat := match i with
  | .nop => 7
  | .goto _ => 2
  | .ifCond _ _ => 1
  | .if_icmp _ _ => 1
  | .lookupswitch _ _ => 3
  | .tableswitch _ _ _ _ => 3
  | .return_ => 4
  | .ireturn => 4
  | .lreturn => 4
  | .invokevirtual _ => if x < 1000 then 5 else 9
  | .invokestatic _ => if x < 1000 then 5 else 8
  | .invokespecial _ => if x < 1000 then 5 else 8
  | .new _ => if x < 1000 then 0 else 6
  | _ => 0
def kfind (hs : List (Nat × Nat × Nat × Nat)) (pc t : Nat) : Option (Option Nat) := match hs with
  | [] => some none
  | q :: r => if q.1 ≤ pc ∧ pc < q.2.1 then (if kht q.2.2.2 = t then some (some q.2.2.1) else none) else kfind r pc t
def kok (v : Value) : Bool := match v with
  | .int _ => true
  | .long _ => true
  | .ref _ => true
  | _ => false
def kargs (y : Nat) (st : List Value) (h : kH) : Option (List Value × List Value) :=
  if (kme y).2.2.2.1 ≤ st.length ∧ (st.drop (kme y).2.2.2.1).length ≤ 10 ∧ (ksp (st.take (kme y).2.2.2.1).reverse).length ≤ (kme y).2.2.2.2.1 ∧ (st.take (kme y).2.2.2.1).all kok = true then
    (if (kme y).2.1 = 1 then some ((st.take (kme y).2.2.2.1).reverse, st.drop (kme y).2.2.2.1) else match (st.take (kme y).2.2.2.1).reverse with
      | .ref a :: as => if (h.2 a).1 = (kme y).2.2.1 then some (.ref a :: as, st.drop (kme y).2.2.2.1) else none
      | _ => none)
  else none
/-- members that are no rows here: Object's constructor, and three of Math's -/
def kprim (x : Nat) (st : List Value) : Option (List Value) := match x with
  | 1000 => match st with
    | .ref a :: st => if a < 1000000 ∧ st.length ≤ 10 then some st else none
    | _ => none
  | 1001 => match st with
    | .long a :: st => if st.length ≤ 10 then some (.long (if 0 < a then a else -a) :: st) else none
    | _ => none
  | 1002 => match st with
    | .int b :: .int a :: st => if st.length ≤ 10 then some (.int (if a < b then b else a) :: st) else none
    | _ => none
  | 1003 => match st with
    | .int b :: .int a :: st => if st.length ≤ 10 then some (.int (if b < a then b else a) :: st) else none
    | _ => none
  | _ => none
def kent (y : Nat) (as : List Value) : List Value := kpad (kme y).2.2.2.2.1 (ksp as)
/-- behind a throw, or a call that threw: the handler, or out -/
def kthr (y pc a : Nat) (h : kH) (k : Nat → Option (kO × kH)) : Option (kO × kH) := match kfind (khl y) pc (h.2 a).1 with
  | some (some t) => k t
  | some none => some (.inr a, h)
  | none => none
def krun : Nat → Nat → Nat → List kI → List Value → List Value → kH → Option (kO × kH)
  | 0, _, _, _, _, _, _ => none
  | n + 1, d, y, cs, ls, st, h => match cs with
    | [] => none
    | (pc, x, i) :: cs => match kkind i x with
      | 0 => match ksimple i x ls st h with
        | some q => krun n d y cs q.1 q.2.1 q.2.2
        | none => none
      | 1 => match kbr i st with
        | some q => if q.1 = true then krun n d y (blk y x) ls q.2 h else krun n d y cs ls q.2 h
        | none => none
      | 2 => krun n d y (blk y x) ls st h
      | 3 => match kswitch i pc st with
        | some q => krun n d y (blk y q.1) ls q.2 h
        | none => none
      | 4 => match kret (kme y).2.2.2.2.2 i st with
        | some v => some (.inl v, h)
        | none => none
      | 5 => match d with
        | 0 => none
        | d + 1 => match kargs x st h with
          | some q => match krun n d x (blk x 0) (kent x q.1) [] h with
            | some (.inl v, h1) => krun n (d + 1) y cs ls (v.toList ++ q.2) h1
            | some (.inr a, h1) => kthr y pc a h1 (fun t => krun n (d + 1) y (blk y t) ls [.ref a] h1)
            | none => none
          | none => none
      | 6 => if (khl y).isEmpty ∧ st.length ≤ 10 then some (.inr h.1.1, knew h (x - 1000) 6 (fun _ => .null)) else none
      | 7 => krun n d y (blk y pc) ls st h
      | 8 => match kprim x st with
        | some st1 => krun n d y cs ls st1 h
        | none => none
      | _ => none
theorem krun_mono : ∀ (n d y : Nat) (cs : List kI) (ls st : List Value) (h : kH) (r : kO × kH), krun n d y cs ls st h = some r → krun (n + 1) d y cs ls st h = some r := by
  intro n
  induction n with
  | zero => intro d y cs ls st h r e; simp [krun] at e
  | succ n ih =>
    intro d y cs ls st h r e
    cases cs with
    | nil => rw [krun.eq_def] at e; cases e
    | cons c cs =>
      obtain ⟨pc, x, i⟩ := c
      rw [krun.eq_def] at e ⊢
      dsimp only at e ⊢
      split at e
      · split at e
        · exact ih _ _ _ _ _ _ _ e
        · cases e
      · split at e
        · split at e
          · rename_i hq; rw [if_pos hq]; exact ih _ _ _ _ _ _ _ e
          · rename_i hq; rw [if_neg hq]; exact ih _ _ _ _ _ _ _ e
        · cases e
      · exact ih _ _ _ _ _ _ _ e
      · split at e
        · exact ih _ _ _ _ _ _ _ e
        · cases e
      · exact e
      · split at e
        · cases e
        · split at e
          · rename_i q hq
            cases hc : krun n _ x (blk x 0) (kent x q.1) [] h with
            | none => rw [hc] at e; cases e
            | some r1 =>
              rw [ih _ _ _ _ _ _ _ hc]
              rw [hc] at e
              obtain ⟨o, h1⟩ := r1
              cases o with
              | inl v => exact ih _ _ _ _ _ _ _ e
              | inr a =>
                dsimp only [kthr] at e ⊢
                split at e
                · exact ih _ _ _ _ _ _ _ e
                · exact e
                · cases e
          · cases e
      · exact e
      · exact ih _ _ _ _ _ _ _ e
      · split at e
        · exact ih _ _ _ _ _ _ _ e
        · cases e
      · cases e
theorem krun_le {n k d y : Nat} {cs : List kI} {ls st : List Value} {h : kH} {r : kO × kH} (hk : n ≤ k) (e : krun n d y cs ls st h = some r) : krun k d y cs ls st h = some r := by
  induction hk with
  | refl => exact e
  | step _ ih => exact krun_mono _ _ _ _ _ _ _ _ ih
