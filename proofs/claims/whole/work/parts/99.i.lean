/-! the rest of the calls; the first memory -/
theorem lo_rows {sc : List Int} {d : Nat} {M : q_M}  (h : Rel M M) (hd : 30 ≤ d) : ∃ M1 M2 x, lo sc d 143 [.inr (.inr 0)] GF M = some (some (.inl x), GF, M1) ∧ lo sc d 210 [.inr (.inr 49)] GF M1 = some (some (.inl x), GF, M2) ∧ Rel M2 M2 := by
  simp only [lo_pq (show ¬ 143 = 232 by decide) (show ¬ 143 = 233 by decide) (show ¬ 143 = 234 by decide), lo_pq (show ¬ 210 = 232 by decide) (show ¬ 210 = 233 by decide) (show ¬ 210 = 234 by decide)]
  exact one_i (fc := fun M => pq sc (d + 2) 143 [.inr (.inr 0)] GF M) (fm := fun M => pq sc (d + 2) 210 [.inr (.inr 49)] GF M) (fun X Y hr => st_rows hr (by omega)) h
theorem lo_isNull {sc : List Int} {d : Nat} {M : q_M} {r k : Int} (h : Rel M M) (hd : 30 ≤ d) : ∃ M1 M2 x, lo sc d 144 [.inr (.inr 0), .inl r, .inl k] GF M = some (some (.inl x), GF, M1) ∧ lo sc d 212 [.inr (.inr 49), .inl r, .inl k] GF M1 = some (some (.inl x), GF, M2) ∧ Rel M2 M2 := by
  simp only [lo_pq (show ¬ 144 = 232 by decide) (show ¬ 144 = 233 by decide) (show ¬ 144 = 234 by decide), lo_pq (show ¬ 212 = 232 by decide) (show ¬ 212 = 233 by decide) (show ¬ 212 = 234 by decide)]
  exact one_i (fc := fun M => pq sc (d + 2) 144 [.inr (.inr 0), .inl r, .inl k] GF M) (fm := fun M => pq sc (d + 2) 212 [.inr (.inr 49), .inl r, .inl k] GF M) (fun X Y hr => st_isNull hr (by omega)) h
theorem lo_result {sc : List Int} {d : Nat} {M : q_M} {r k : Int} (h : Rel M M) (hd : 30 ≤ d) : ∃ M1 M2 x, lo sc d 145 [.inr (.inr 0), .inl r, .inl k] GF M = some (some (.inr (.inl x)), GF, M1) ∧ lo sc d 213 [.inr (.inr 49), .inl r, .inl k] GF M1 = some (some (.inr (.inl x)), GF, M2) ∧ Rel M2 M2 := by
  simp only [lo_pq (show ¬ 145 = 232 by decide) (show ¬ 145 = 233 by decide) (show ¬ 145 = 234 by decide), lo_pq (show ¬ 213 = 232 by decide) (show ¬ 213 = 233 by decide) (show ¬ 213 = 234 by decide)]
  exact one_l (fc := fun M => pq sc (d + 2) 145 [.inr (.inr 0), .inl r, .inl k] GF M) (fm := fun M => pq sc (d + 2) 213 [.inr (.inr 49), .inl r, .inl k] GF M) (fun X Y hr => st_result hr (by omega)) h
set_option maxRecDepth 100000 in
theorem in_4 : ∀ n ∈ List.range 130, in_M 5 n = 0 ∧ in_M 53 n = 0 ∧ in_M 54 n = 0 ∧ in_M 57 n = 0 ∧ in_M 10 n = 0 := by decide +kernel
set_option maxRecDepth 100000 in
theorem in_s : in_M 6 2 = 0 ∧ in_M 49 6 = 0 ∧ in_M 9 1 = 0 ∧ in_M 49 9 = 0 ∧ in_M 0 9 = 0 ∧ in_M 49 22 = 0 ∧ in_M 0 10 = -1 ∧ in_M 49 11 = -1 ∧ in_M 46 8 = 0 ∧ in_M 49 47 = 0 ∧ in_M 43 3 = 0 ∧ in_M 49 49 = 0 ∧ in_M 49 26 = 0 := by decide +kernel
set_option maxRecDepth 100000 in
theorem in_t : ∀ t ∈ List.range 3, in_M 2 t = 0 ∧ in_M 51 t = 0 ∧ in_M 3 t = 0 ∧ in_M 52 t = 0 ∧ in_M 76 t = 0 := by decide +kernel
set_option maxRecDepth 100000 in
theorem in_w : ∀ k ∈ List.range 16, in_M 50 k = wv.getD k 0 := by decide +kernel
/-- class and reference, behind their constructors -/
theorem in_R : Rel in_M in_M := by
  obtain ⟨a1, a2, a3, a4, a5, a6, a7, a8, a9, a10, a11, a12, a13⟩ := in_s
  have f4 : ∀ n, n < 130 → in_M 5 n = 0 ∧ in_M 53 n = 0 ∧ in_M 54 n = 0 ∧ in_M 57 n = 0 ∧ in_M 10 n = 0 := fun n h => in_4 n (List.mem_range.mpr h)
  have ft : ∀ t, t < 3 → in_M 2 t = 0 ∧ in_M 51 t = 0 ∧ in_M 3 t = 0 ∧ in_M 52 t = 0 ∧ in_M 76 t = 0 := fun t h => in_t t (List.mem_range.mpr h)
  refine ⟨⟨⟨fun t ht => ?_, fun t l c ht hl hc => ?_⟩, fun n hn => ?_, ⟨fun k hk => ?_, fun n hn => ?_⟩, fun n hn => ?_, fun t ht _ => ?_⟩, ⟨0, by omega, a1, a2, fun k hk => absurd hk (Nat.not_lt_zero k)⟩, ⟨0, by omega, a3, a4, fun i hi => ?_, fun i hi => absurd hi (Nat.not_lt_zero i)⟩, Or.inl ⟨a5, a6⟩, by rw [a7, a8], by rw [a9, a10], ⟨0, by omega, a11, a12, fun h => absurd h (Nat.lt_irrefl 0)⟩, by rw [a13]; omega, fun k hk => in_w k (List.mem_range.mpr hk)⟩
  · obtain ⟨b1, b2, b3, b4, -⟩ := ft t ht
    rw [b1, b2, b3, b4]; omega
  · obtain ⟨-, -, -, b4, -⟩ := ft t ht
    rw [b4] at hl; omega
  · obtain ⟨-, b, -⟩ := f4 n (by omega)
    rw [b]; omega
  · obtain ⟨-, -, -, -, b⟩ := ft k hk
    rw [b]; omega
  · exact Or.inl (f4 n (by omega)).2.2.1
  · exact Or.inl (f4 n (by omega)).1
  · exact (ft t ht).2.2.2.1
  · rw [(f4 i hi).2.2.2.1, (f4 i hi).2.2.2.2]
theorem in_ct {sc : List Int} : q_le9 (q_ct sc 32) (lo sc 30) := by
  intro mid as G M r h
  have h9 : mid ∈ ct_S := by
    unfold q_ct at h
    split at h
    · next hm => exact hm
    · cases h
  have n1 : ¬ mid = 232 := fun e => by rw [e] at h9; exact absurd h9 (by decide)
  have n2 : ¬ mid = 233 := fun e => by rw [e] at h9; exact absurd h9 (by decide)
  have n3 : ¬ mid = 234 := fun e => by rw [e] at h9; exact absurd h9 (by decide)
  rw [lo_pq n1 n2 n3]
  exact q_ct_pq 32 mid as G M r h
/-- the law's start, whatever the script -/
theorem in_5 {sc : List Int} : q_den (lo sc 30) (pg_P sc) false 600128 7301098 13 in_I [23] 1000 false (q_seek (0 : Int) in_I) [some (.inr (.inr 3000)), none, none, none, none, none, none] [] [] (fun _ _ => 0) 0 0 = some (23, in_l, [], GF, in_M, 82, 4713) := by
  refine q_den_mono (o1 := q_ct sc 32) in_ct _ _ _ _ _ _ _ _ _ ?_
  rw [q_den_sc in_Ins.1 in_Ins.2 _ _ _ _ _ _ _ _ _ (q_seek_ok in_Ins.2).2.1, q_ct_sc 32]
  exact in_2
