theorem sp_isBelow (ro : Nat → Option am_C) (v b : Int32) (hp : am_H) : am_run ro 1 4 [.int v, .int b] hp (some (.int (if 0 ≤ v ∧ v < b then 1 else 0))) hp := by
  refine am_run_of rfl (am_wp_ok (inl := []) 20 0 4 [] 0 _ _ _ _ ?_)
  refine And.intro (fun h => ?_) (fun h => ?_)
  · trace_state
    sorry
  · refine And.intro (fun h2 => ?_) (fun h2 => ?_)
    · sorry
    · trace_state
      sorry
