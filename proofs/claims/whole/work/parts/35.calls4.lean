/-! class SwapSteps: pairs of heaps, letters -/
def pairC : List Nat := [9, 22, 12, 25, 13, 26, 14, 27, 4, 5, 6, 7, 17, 18, 19, 20]
section CAL
variable {l : Launch} {W : xW} {dep : Nat} {d : xD} {bs : List Nat} {σ : St} {x y z : Int32} {n n2 n3 : Nat}
theorem s_X11_join (hx : hN x = some n) (hy : hN y = some n2) (hz : hN z = some n3) (hs : stIs d σ) : mSpecI l W mX11_join (dep + 5) [.ref (xad W 0), .int x, .int y, .int z] d (fun r d' => (((σ.2.2 n).length + (σ.2.2 n2).length ≤ 24 ∧ r = nI ((σ.2.2 n).length + (σ.2.2 n2).length) ∧ stIs d' (setH σ n3 (leastR (bw σ.1 σ.2.1) (σ.2.2 n ++ σ.2.2 n2)))) ∨ (¬ (σ.2.2 n).length + (σ.2.2 n2).length ≤ 24 ∧ r = -5 ∧ stIs d' σ)) ∧ chg pairC d d') := by
  obtain ⟨hn, rfl⟩ := hN_some hx
  obtain ⟨hn2, rfl⟩ := hN_some hy
  obtain ⟨hn3, rfl⟩ := hN_some hz
  have hn13 : n < 13 := by omega
  have hn213 : n2 < 13 := by omega
  have hn313 : n3 < 13 := by omega
  refine m_spec RX11 [some (.ref (xad W 0)), some (.int (nI n)), some (.int (nI n2)), some (.int (nI n3)), none, none, none] rfl (by decide +kernel) rfl rfl (fun K hR => ?_)
  refine m_aload_n dX11_join_0 rfl ?_
  refine m_iload_n dX11_join_1 rfl ?_
  refine m_callVRp (s_X11_heapAt hn) cv_X11_136 dX11_join_2 ?_
  refine m_astore dX11_join_5 (Nat.le_of_ble_eq_true rfl) rfl ?_
  refine m_aload_n dX11_join_7 rfl ?_
  refine m_iload_n dX11_join_8 rfl ?_
  refine m_callVRp (s_X11_heapAt hn2) cv_X11_136 dX11_join_9 ?_
  refine m_astore dX11_join_12 (Nat.le_of_ble_eq_true rfl) rfl ?_
  refine m_aload_n dX11_join_14 rfl ?_
  refine m_iload_n dX11_join_15 rfl ?_
  refine m_callVRp (s_X11_heapAt hn3) cv_X11_136 dX11_join_16 ?_
  refine m_astore dX11_join_19 (Nat.le_of_ble_eq_true rfl) rfl ?_
  refine m_aload dX11_join_21 rfl ?_
  refine m_ifnull dX11_join_23 ?_
  refine m_aload dX11_join_26 rfl ?_
  refine m_ifnull dX11_join_28 ?_
  refine m_aload dX11_join_31 rfl ?_
  refine m_ifnonnull 39 dX11_join_33 (by decide) ?_
  refine m_aload_n dX11_join_39 rfl ?_
  refine m_get fl_X11_57 (by decide) rfl rfl dX11_join_40 ?_
  refine m_aload dX11_join_43 rfl ?_
  refine m_aload dX11_join_45 rfl ?_
  refine m_aload dX11_join_47 rfl ?_
  refine m_callVI (s_X7_makeJoined hs.1 hn13 hn213 hn313 (by omega) (by omega) (by omega) (hs.2 n hn).1 (hs.2 n2 hn2).1 (hs.2 n hn).2 (hs.2 n2 hn2).2) cv_X11_184 dX11_join_49 (fun r49 d49 h49 => ?_)
  have hres : (((σ.2.2 n).length + (σ.2.2 n2).length ≤ 24 ∧ r49 = nI ((σ.2.2 n).length + (σ.2.2 n2).length) ∧ stIs d49 (setH σ n3 (leastR (bw σ.1 σ.2.1) (σ.2.2 n ++ σ.2.2 n2)))) ∨ (¬ (σ.2.2 n).length + (σ.2.2 n2).length ≤ 24 ∧ r49 = -5 ∧ stIs d49 σ)) ∧ chg pairC d d49 := by
    rcases h49 with ⟨q1, q2, q3, q4⟩ | ⟨q1, q2, q3⟩
    · refine ⟨Or.inl ⟨q1, q2, hs.put q3 (fun x hx => ?_) q4 (by simp) (by simp) (fun j hj hne => by simp; omega)⟩, q4.mono ((by decide : ∀ n3, n3 < 4 → ∀ o ∈ [9, 22, 12, 25, n3 + 4, n3 + 17], o ∈ pairC) n3 hn3)⟩
      rcases List.mem_append.mp (leastR_mem hx) with hx | hx
      · exact (hs.2 n hn).2 x hx
      · exact (hs.2 n2 hn2).2 x hx
    · exact ⟨Or.inr ⟨q1, q2, hs.fr q3 (by simp) (by simp) (by simp <;> omega)⟩, q3.mono (by decide)⟩
  exact m_iret (ty := .int) hR dX11_join_52 (hres)
theorem s_X11_aheadH (hx : hN x = none) : mSpecI l W mX11_ahead (dep + 1) [.ref (xad W 0), .int x, .int y, .int z] d (fun r d' => r = -2 ∧ d' = d) := by
  refine m_spec RX11 [some (.ref (xad W 0)), some (.int x), some (.int y), some (.int z), none] rfl (by decide +kernel) rfl rfl (fun K hR => ?_)
  refine m_aload_n dX11_ahead_0 rfl ?_
  refine m_iload_n dX11_ahead_1 rfl ?_
  refine m_callVRp (s_X11_heapAtO (hN_none hx)) cv_X11_136 dX11_ahead_2 ?_
  refine m_astoreN dX11_ahead_5 (Nat.le_of_ble_eq_true rfl) rfl ?_
  refine m_aloadN dX11_ahead_7 rfl ?_
  refine m_ifnonnullN dX11_ahead_9 ?_
  refine m_bipush (v := -2) dX11_ahead_12 (by decide) ?_
  exact m_iret (ty := .int) hR dX11_ahead_14 (⟨rfl, rfl⟩)
theorem s_X11_ahead {a b : Nat} (hx : hN x = some n) (ha : a < (σ.2.2 n).length) (hb : b < (σ.2.2 n).length) (hs : stIs d σ) : mSpecI l W mX11_ahead (dep + 2) [.ref (xad W 0), .int x, .int (nI a), .int (nI b)] d (fun r d' => r = (if must (bw σ.1 σ.2.1) (σ.2.2 n) a b = true then 1 else 0) ∧ d' = d) := by
  obtain ⟨hn, rfl⟩ := hN_some hx
  have hn13 : n < 13 := by omega
  have h24 := (hs.2 n hn).1.1
  refine m_spec RX11 [some (.ref (xad W 0)), some (.int (nI n)), some (.int (nI a)), some (.int (nI b)), none] rfl (by decide +kernel) rfl rfl (fun K hR => ?_)
  refine m_aload_n dX11_ahead_0 rfl ?_
  refine m_iload_n dX11_ahead_1 rfl ?_
  refine m_callVRp (s_X11_heapAt hn) cv_X11_136 dX11_ahead_2 ?_
  refine m_astore dX11_ahead_5 (Nat.le_of_ble_eq_true rfl) rfl ?_
  refine m_aload dX11_ahead_7 rfl ?_
  refine m_ifnonnull 15 dX11_ahead_9 (by decide) ?_
  refine m_aload dX11_ahead_15 rfl ?_
  refine m_iload_n dX11_ahead_17 rfl ?_
  refine m_callVIp (s_X9_hasPlace hn13 (hs.2 n hn).1 (n := a) (by omega)) cv_X11_164 dX11_ahead_18 ?_
  refine m_eqi (if_pos ha) ?_
  refine m_if_eq 33 dX11_ahead_21 (by decide) (fun c21 => by exfalso; exact absurd c21 (by decide)) (fun c21 => ?_)
  refine m_aload dX11_ahead_24 rfl ?_
  refine m_iload_n dX11_ahead_26 rfl ?_
  refine m_callVIp (s_X9_hasPlace hn13 (hs.2 n hn).1 (n := b) (by omega)) cv_X11_164 dX11_ahead_27 ?_
  refine m_eqi (if_pos hb) ?_
  refine m_if_ne 36 dX11_ahead_30 (by decide) (fun c30 => ?_) (fun c30 => by exfalso; exact c30 (by decide))
  refine m_aload_n dX11_ahead_36 rfl ?_
  refine m_get fl_X11_48 (by decide) rfl rfl dX11_ahead_37 ?_
  refine m_aload dX11_ahead_40 rfl ?_
  refine m_iload_n dX11_ahead_42 rfl ?_
  refine m_iload_n dX11_ahead_43 rfl ?_
  refine m_callVIp (s_X2_mustComeAhead hs.1 hn13 (hs.2 n hn).1 (hs.2 n hn).2 ha hb) cv_X11_167 dX11_ahead_44 ?_
  refine m_callSIp (s_X11_yes (must (bw σ.1 σ.2.1) (σ.2.2 n) a b)) cs_X11_128 dX11_ahead_47 ?_
  exact m_iret (ty := .int) hR dX11_ahead_50 (⟨rfl, rfl⟩)
theorem s_X11_addO (h : hN x = none ∨ y < 0 ∨ nI σ.1 ≤ y) (hs : stIs d σ) : mSpecI l W mX11_add (dep + 1) [.ref (xad W 0), .int x, .int y] d (fun r d' => r = -2 ∧ d' = d) := by
  refine m_spec RX11 [some (.ref (xad W 0)), some (.int x), some (.int y), none] rfl (by decide +kernel) rfl rfl (fun K hR => ?_)
  cases hx : hN x with
  | none =>
    have h' := h
    refine m_aload_n dX11_add_0 rfl ?_
    refine m_iload_n dX11_add_1 rfl ?_
    refine m_callVRp (s_X11_heapAtO (hN_none hx)) cv_X11_136 dX11_add_2 ?_
    refine m_astore_nN dX11_add_5 (Nat.le_of_ble_eq_true rfl) rfl ?_
    refine m_aload_nN dX11_add_6 rfl ?_
    refine m_ifnullN 21 dX11_add_7 (by decide) ?_
    refine m_bipush (v := -2) dX11_add_21 (by decide) ?_
    exact m_iret (ty := .int) hR dX11_add_23 (⟨rfl, rfl⟩)
  | some n =>
    obtain ⟨hn, rfl⟩ := hN_some hx
    have hy := h.resolve_left (fun e => by rw [hx] at e; cases e)
    refine m_aload_n dX11_add_0 rfl ?_
    refine m_iload_n dX11_add_1 rfl ?_
    refine m_callVRp (s_X11_heapAt hn) cv_X11_136 dX11_add_2 ?_
    refine m_astore_n dX11_add_5 (Nat.le_of_ble_eq_true rfl) rfl ?_
    refine m_aload_n dX11_add_6 rfl ?_
    refine m_ifnull dX11_add_7 ?_
    refine m_aload_n dX11_add_10 rfl ?_
    refine m_get fl_X11_12 (by decide) rfl rfl dX11_add_11 ?_
    refine m_iload_n dX11_add_14 rfl ?_
    refine m_callVIp (s_X3_hasO hs.1 hy) cv_X11_120 dX11_add_15 ?_
    refine m_if_ne 24 dX11_add_18 (by decide) (fun c18 => by exfalso; exact c18 rfl) (fun c18 => ?_)
    refine m_bipush (v := -2) dX11_add_21 (by decide) ?_
    exact m_iret (ty := .int) hR dX11_add_23 (⟨rfl, rfl⟩)
theorem s_X11_add {m : Nat} (hx : hN x = some n) (hm : m < σ.1) (hs : stIs d σ) (hl : (σ.2.2 n).length < 24) : mSpecI l W mX11_add (dep + 1) [.ref (xad W 0), .int x, .int (nI m)] d (fun r d' => r = nI ((σ.2.2 n).length + 1) ∧ stIs d' (setH σ n (σ.2.2 n ++ [m])) ∧ chg [n + 4, n + 17] d d') := by
  obtain ⟨hn, rfl⟩ := hN_some hx
  have hn13 : n < 13 := by omega
  have hk := hs.1.2.2.2.1
  refine m_spec RX11 [some (.ref (xad W 0)), some (.int (nI n)), some (.int (nI m)), none] rfl (by decide +kernel) rfl rfl (fun K hR => ?_)
  refine m_aload_n dX11_add_0 rfl ?_
  refine m_iload_n dX11_add_1 rfl ?_
  refine m_callVRp (s_X11_heapAt hn) cv_X11_136 dX11_add_2 ?_
  refine m_astore_n dX11_add_5 (Nat.le_of_ble_eq_true rfl) rfl ?_
  refine m_aload_n dX11_add_6 rfl ?_
  refine m_ifnull dX11_add_7 ?_
  refine m_aload_n dX11_add_10 rfl ?_
  refine m_get fl_X11_12 (by decide) rfl rfl dX11_add_11 ?_
  refine m_iload_n dX11_add_14 rfl ?_
  refine m_callVIp (s_X3_has hs.1 (n := m) (by omega)) cv_X11_120 dX11_add_15 ?_
  refine m_eqi (if_pos hm) ?_
  refine m_if_ne 24 dX11_add_18 (by decide) (fun c18 => ?_) (fun c18 => by exfalso; exact c18 (by decide))
  refine m_aload_n dX11_add_24 rfl ?_
  refine m_iload_n dX11_add_25 rfl ?_
  refine m_callVI (s_X9_push hn13 (hs.2 n hn).1 (x := m) (by omega) hl) cv_X11_140 dX11_add_26 (fun r26 d26 h26 => ?_)
  refine m_eqi h26.1 ?_
  refine m_if_eq 39 dX11_add_29 (by decide) (fun c29 => by exfalso; exact absurd c29 (by decide)) (fun c29 => ?_)
  refine m_aload_n dX11_add_32 rfl ?_
  refine m_callVIp (s_X9_length hn13 h26.2.1) cv_X11_142 dX11_add_33 ?_
  refine m_goto 41 dX11_add_36 (by decide) ?_
  exact m_iret (ty := .int) hR dX11_add_41 (⟨by rw [List.length_append]; rfl, hs.put h26.2.1 (fun x hx => by
    rcases List.mem_append.mp hx with hx | hx
    · exact (hs.2 n hn).2 x hx
    · rw [List.mem_singleton.mp hx]; exact hm) h26.2.2 (by simp) (by simp) (fun j hj hne => by simp; omega), h26.2.2⟩)
theorem s_X11_addF {m : Nat} (hx : hN x = some n) (hm : m < σ.1) (hs : stIs d σ) (hl : (σ.2.2 n).length = 24) : mSpecI l W mX11_add (dep + 1) [.ref (xad W 0), .int x, .int (nI m)] d (fun r d' => r = -5 ∧ d' = d) := by
  obtain ⟨hn, rfl⟩ := hN_some hx
  have hn13 : n < 13 := by omega
  have hk := hs.1.2.2.2.1
  refine m_spec RX11 [some (.ref (xad W 0)), some (.int (nI n)), some (.int (nI m)), none] rfl (by decide +kernel) rfl rfl (fun K hR => ?_)
  refine m_aload_n dX11_add_0 rfl ?_
  refine m_iload_n dX11_add_1 rfl ?_
  refine m_callVRp (s_X11_heapAt hn) cv_X11_136 dX11_add_2 ?_
  refine m_astore_n dX11_add_5 (Nat.le_of_ble_eq_true rfl) rfl ?_
  refine m_aload_n dX11_add_6 rfl ?_
  refine m_ifnull dX11_add_7 ?_
  refine m_aload_n dX11_add_10 rfl ?_
  refine m_get fl_X11_12 (by decide) rfl rfl dX11_add_11 ?_
  refine m_iload_n dX11_add_14 rfl ?_
  refine m_callVIp (s_X3_has hs.1 (n := m) (by omega)) cv_X11_120 dX11_add_15 ?_
  refine m_eqi (if_pos hm) ?_
  refine m_if_ne 24 dX11_add_18 (by decide) (fun c18 => ?_) (fun c18 => by exfalso; exact c18 (by decide))
  refine m_aload_n dX11_add_24 rfl ?_
  refine m_iload_n dX11_add_25 rfl ?_
  refine m_callVIp (s_X9_pushF hn13 (hs.2 n hn).1 hl) cv_X11_140 dX11_add_26 ?_
  refine m_if_eq 39 dX11_add_29 (by decide) (fun c29 => ?_) (fun c29 => by exfalso; exact c29 rfl)
  refine m_bipush (v := -5) dX11_add_39 (by decide) ?_
  exact m_iret (ty := .int) hR dX11_add_41 (⟨rfl, rfl⟩)
end CAL
