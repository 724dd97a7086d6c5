theorem law_runs (L : Nat) (xs : Nat → Int32) (hL : L ≤ 3072) : ∃ (f : Nat) (M' : qM), q_exec f (some (L, xs)) 180 (0, qloc 180 [.ref qSCR], [], [], 0, 0) = some (.inl (some (.int 1)), M') := by
  sorry
