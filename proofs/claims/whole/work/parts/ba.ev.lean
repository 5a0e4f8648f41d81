/-! THE LAW'S RUN, in so many steps -/
theorem law_ev {sc : aS} (hs : sc.1 ≤ 3072) : ∃ n h', ev sc n 81 296 0 [(0, .ref 0)] [] [] = some (some (.int 1), h') ∧ h'.length ≤ 1878 ∧ hz h' ≤ 213887 := by
  obtain ⟨h', e, z1, z2⟩ := law_run (sc := sc) (d := 0) hs
  obtain ⟨n, q⟩ := evp_ex e
  exact ⟨n, h', q, z1, z2⟩
