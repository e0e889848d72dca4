/-! String.checkIndex: what lies behind its formatter isn't looked at -/
def px_wc : List Cond := .code yJ3_checkIndex_8e157 cJ3_checkIndex_8e157 3 (some .int) :: q_WT
theorem px_d0 : decode cJ3_checkIndex_8e157 0 = .ok (.iload_n 0, 1) := by decide +kernel
theorem px_d1 : decode cJ3_checkIndex_8e157 1 = .ok (.ifCond .lt 8, 3) := by decide +kernel
theorem px_d4 : decode cJ3_checkIndex_8e157 4 = .ok (.iload_n 0, 1) := by decide +kernel
theorem px_d5 : decode cJ3_checkIndex_8e157 5 = .ok (.iload_n 1, 1) := by decide +kernel
theorem px_d6 : decode cJ3_checkIndex_8e157 6 = .ok (.if_icmp .lt 10, 3) := by decide +kernel
theorem px_d16 : decode cJ3_checkIndex_8e157 16 = .ok (.iload_n 0, 1) := by decide +kernel
theorem px_d17 : decode cJ3_checkIndex_8e157 17 = .ok (.ireturn, 1) := by decide +kernel
theorem px_e0 : decode cJ0_checkIndex_df160 0 = .ok (.iload_n 0, 1) := by decide +kernel
theorem px_e1 : decode cJ0_checkIndex_df160 1 = .ok (.iload_n 1, 1) := by decide +kernel
theorem px_e2 : decode cJ0_checkIndex_df160 2 = .ok (.getstatic 1053, 3) := by decide +kernel
theorem px_e5 : decode cJ0_checkIndex_df160 5 = .ok (.invokestatic 1059, 3) := by decide +kernel
theorem px_e8 : decode cJ0_checkIndex_df160 8 = .ok (.pop, 1) := by decide +kernel
theorem px_e9 : decode cJ0_checkIndex_df160 9 = .ok (.return_, 1) := by decide +kernel
set_option maxHeartbeats 4000000 in
set_option maxRecDepth 100000 in
theorem px_chk (l0 : Launch) (i n : Int) (v : Value) (hv : v = .null ∨ ∃ t, v = .ref t) (h : 0 ≤ i ∧ i < n) (hi : q_r i) (hn : q_r n) : Met l0 yJ3_checkIndex_8e157 px_wc (q_rm 1 0 0) (va_Pc [.int (Int32.ofInt i), .int (Int32.ofInt n), v] (fun _ => True)) (vp_Si (fun r => r = Int32.ofInt i)) 0 0 (fun _ => False) := by
  refine va_MetF (cc := cJ3_checkIndex_8e157) (maxL := 3) (ret := some .int) (by decide +kernel) rfl ?_
  intro p e s m args below meth c s₁ B hml hvv
  obtain ⟨rfl, -⟩ := hvv
  have hx := B.exec
  have hb := B.bytes
  have hr := B.returns
  have hlocks := B.notSynchronized
  have hcat : v.category = 1 := by rcases hv with rfl | ⟨t, rfl⟩ <;> rfl
  have hl := lv_entry ([.int (Int32.ofInt i), .int (Int32.ofInt n), v]) (n := 3) (by rcases hv with rfl | ⟨t, rfl⟩ <;> exact Nat.le_of_ble_eq_true rfl)
  rw [lg_entry_eq]
  generalize (lg_sl ([.int (Int32.ofInt i), .int (Int32.ofInt n), v]) ++ List.replicate (3 - (lg_sl ([.int (Int32.ofInt i), .int (Int32.ofInt n), v])).length) Slot.unset).toArray = ls at hl ⊢
  have hl : lv_has ls 3 [(0, .int (Int32.ofInt i)), (1, .int (Int32.ofInt n)), (2, v)] := by rcases hv with rfl | ⟨t, rfl⟩ <;> exact hl
  refine lv_iload_n hx hb px_d0 rfl (lv_at hl 0 rfl) ?_
  refine q_if_s (tgt := 9) hx hb hi px_d1 (by decide) (fun c => absurd c (by show ¬ i < 0; omega)) (fun _ => ?_)
  refine lv_iload_n hx hb px_d4 rfl (lv_at hl 0 rfl) ?_
  refine lv_iload_n hx hb px_d5 rfl (lv_at hl 1 rfl) ?_
  refine q_icmp_s (tgt := 16) hx hb hi hn px_d6 (by decide) (fun _ => ?_) (fun c => absurd h.2 c)
  refine lv_iload_n hx hb px_d16 rfl (lv_at hl 0 rfl) ?_
  exact W.iret hx hb hr (fun t ht _ => ⟨_, rfl, rfl, ht⟩) (fun q hq => by cases hq) px_d17
set_option maxHeartbeats 4000000 in
set_option maxRecDepth 100000 in
theorem px_ci (l0 : Launch) (P : q_P) (NW : List (String × Nat × MethodName × String)) (SR : q_SRt) (d : Nat) (hd3 : 3 ≤ d) : q_Sd l0 P NW SR d 0 0 (yJ0_checkIndex_df160, cJ0_checkIndex_df160, 2, none) pg_ci := by
  intro D cT ad as G M r G' M' hf hG hM has sz
  unfold pg_ci at hf
  split at hf
  · next i n =>
    split at hf
    · next h =>
      cases hf
      have hi : q_r i := has _ List.mem_cons_self
      have hn : q_r n := has _ (List.mem_cons_of_mem _ List.mem_cons_self)
      refine va_MetF (cc := cJ0_checkIndex_df160) (maxL := 2) (ret := none) (ws' := q_WT) (by decide +kernel) rfl ?_
      intro p e s m args below meth c s₁ B hml hvv
      obtain ⟨rfl, hsz, hP, hK, hD0, hE⟩ := hvv
      subst hsz
      have hx := B.exec
      have hb := B.bytes
      have hr := B.returns
      have hlocks := B.notSynchronized
      have hts0 := atoms_spec (ws := q_mW (yJ0_checkIndex_df160, cJ0_checkIndex_df160, 2, none)) B.pre
      have hts : ∀ w ∈ q_WT, w.before ([(.inl i : q_V), .inl n].map (q_cv ad)).toArray s = true := fun w hw => hts0 w (List.mem_cons_of_mem _ hw)
      have hown : s.vm.findClass RJ0 = some m.cls := findClass_of_methodNamed B.named
      have hl := lv_entry ([(.inl i : q_V), .inl n].map (q_cv ad)) (n := 2) (Nat.le_of_ble_eq_true rfl)
      rw [lg_entry_eq]
      generalize (lg_sl ([(.inl i : q_V), .inl n].map (q_cv ad)) ++ List.replicate (2 - (lg_sl ([(.inl i : q_V), .inl n].map (q_cv ad))).length) Slot.unset).toArray = ls at hl ⊢
      have hl : lv_has ls 2 [(0, .int (Int32.ofInt i)), (1, .int (Int32.ofInt n))] := hl
      have hS : va_S (va_A (q_ws P cT ad G M) s.heap.size) s.heap s.heap [] := va_S.rf
      refine lv_iload_n hx hb px_e0 rfl (lv_at hl 0 rfl) ?_
      refine lv_iload_n hx hb px_e1 rfl (lv_at hl 1 rfl) ?_
      have hz := (hE.2.2.2.2.2.1 _ (List.mem_cons_self)).1
      have rest : ∀ v : Value, (v = .null ∨ ∃ t, v = .ref t) → W p l0 e (headSpec (q_mW (yJ0_checkIndex_df160, cJ0_checkIndex_df160, 2, none)) (q_rm d 0 0)).room s m ([(.inl i : q_V), .inl n].map (q_cv ad)).toArray below meth c s.heap [] 0 0 (MQ below (q_Post P D cT ad G M s.heap.size none G M) ([(.inl i : q_V), .inl n].map (q_cv ad)).toArray s 0 0 (va_A (q_ws P cT ad G M) s.heap.size)) (F0 m (2 + 3) ls [v, .int (Int32.ofInt n), .int (Int32.ofInt i)]) := by
        intro v hv
        refine vp_callSi (rest := []) (W.runS (As := [.int (Int32.ofInt i), .int (Int32.ofInt n), v]) ⟨hx, hb, hml, hown, hts⟩ (px_chk l0 i n v hv h hi hn) ⟨callB_of 3 hts (fun w hw => (List.mem_cons.mp hw).elim (fun e => e ▸ q_WT_good _ (pt_in_ok (i := 639) (by decide +kernel))) (fun h => q_WT_good w h)) rfl rfl rfl (hts _ (pt_in_ok (i := 21) (by decide +kernel))) (hts _ (pt_in_ok (i := 637) (by decide +kernel))) ⟨by decide +kernel, by decide +kernel, by decide +kernel⟩ ⟨by show 1 + 1 ≤ d; omega, by show 8 + (3 + 11) + 64 * 1 ≤ 64 * d; omega⟩, hts _ (pt_in_ok (i := 638) (by decide +kernel))⟩ ⟨fun a U g mk q => q, fun U hU hW => ⟨rfl, trivial⟩⟩ rfl rfl hl.1 rfl (lv_room (by simp)) px_e5 ⟨Nat.zero_le _, Nat.zero_le _⟩) (fun r hr9 => ?_)
        refine lv_pop hx hb px_e8 rfl ?_
        exact W.vret hx hb hr (fun t ht _ => ⟨⟨ad, q_adx.rf, rfl, by rw [ht]; exact hP, hD0.self, hG, hM, Nat.le_refl _, fun v hv => by cases hv⟩, hS.F ht⟩) hS.2.2 px_e9
      rcases hz with hz | ⟨t, hz⟩
      · exact va_gets hx hb hz hS hown (hts _ (pt_in_ok (i := 635) (by decide +kernel))) (fun _ h => h) px_e2 (rest .null (Or.inl rfl))
      · exact va_gets hx hb hz hS hown (hts _ (pt_in_ok (i := 635) (by decide +kernel))) (fun _ h => h) px_e2 (rest (.ref t) (Or.inr ⟨t, rfl⟩))
    · cases hf
  · cases hf
