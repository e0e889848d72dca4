/-- an index that is right -/
theorem pq_ci {sc : List Int} {d : Nat} {M : q_M} {i n : Int} (hd : 3 ≤ d) (h : 0 ≤ i ∧ i < n) : pq sc d 224 [.inl i, .inl n] GF M = some (none, GF, M) := by
  obtain ⟨e, rfl⟩ : ∃ e, d = e + 1 := ⟨d - 1, by omega⟩
  unfold pq q_f
  simp only [pg_ex, pg_ci, if_true, hd, h, and_self]
