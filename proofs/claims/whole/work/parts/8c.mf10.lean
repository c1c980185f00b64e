/-! THE MODEL, functionally: makeJoin -/
/-- what JOIN makes of a TUPLE and a table -/
abbrev jlr (ca cb : Nat) (r : arow) (td : List arow) : List (List Int32 × Option (List tT)) := (td.filter (fun s => decide (acg r ca = acg s cb))).map (fun s => (r.1 ++ s.1, wst (tbo r.2 s.2)))
/-- what JOIN makes of two tables -/
abbrev jll (ca cb : Nat) (tb td : List arow) : List (List Int32 × Option (List tT)) := tb.flatMap (fun r => jlr ca cb r td)
theorem rcl_app {f : Nat → Int32} {X Y : List Int32} (h1 : ∀ i : Nat, i < X.length → f i = X.getD i 0) (h2 : ∀ i : Nat, i < Y.length → f (X.length + i) = Y.getD i 0) : rcl f (X.length + Y.length) = X ++ Y := by
  refine List.ext_getElem (by rw [rsg_len, List.length_append]) (fun i h3 h4 => ?_)
  have e : (rcl f (X.length + Y.length))[i] = f i := by
    simp only [rcl, rsg, List.getElem_map, List.getElem_range', Nat.zero_add, Nat.one_mul]
  rw [e]
  rw [List.length_append] at h4
  by_cases q : i < X.length
  · rw [List.getElem_append_left q, h1 i q, List.getD_eq_getElem?_getD, List.getElem?_eq_getElem q]
    rfl
  · have q2 : i - X.length < Y.length := by omega
    have := h2 (i - X.length) q2
    rw [show X.length + (i - X.length) = i by omega] at this
    rw [List.getElem_append_right (by omega), this, List.getD_eq_getElem?_getD, List.getElem?_eq_getElem q2]
    rfl
