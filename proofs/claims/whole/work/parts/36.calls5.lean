/-! class SwapSteps: left, shared, both, begins -/
section CAL
variable {l : Launch} {W : xW} {dep : Nat} {d : xD} {bs : List Nat} {σ : St} {x y z : Int32} {n n2 n3 : Nat}
theorem s_X11_left (hx : hN x = some n) (hy : hN y = some n2) (hz : hN z = some n3) (hs : stIs d σ) : mSpecI l W mX11_left (dep + 5) [.ref (xad W 0), .int x, .int y, .int z] d (fun r d' => ((∃ zs, tkL (bw σ.1 σ.2.1) (σ.2.2 n2) (σ.2.2 n) = some zs ∧ r = nI zs.length ∧ stIs d' (setH σ n3 (leastR (bw σ.1 σ.2.1) zs))) ∨ (tkL (bw σ.1 σ.2.1) (σ.2.2 n2) (σ.2.2 n) = none ∧ r = -4 ∧ stIs d' σ)) ∧ chg pairC d d') := by
  obtain ⟨hn, rfl⟩ := hN_some hx
  obtain ⟨hn2, rfl⟩ := hN_some hy
  obtain ⟨hn3, rfl⟩ := hN_some hz
  have hn13 : n < 13 := by omega
  have hn213 : n2 < 13 := by omega
  have hn313 : n3 < 13 := by omega
  refine m_spec RX11 [some (.ref (xad W 0)), some (.int (nI n)), some (.int (nI n2)), some (.int (nI n3)), none, none, none] rfl (by decide +kernel) rfl rfl (fun K hR => ?_)
  refine m_aload_n dX11_left_0 rfl ?_
  refine m_iload_n dX11_left_1 rfl ?_
  refine m_callVRp (s_X11_heapAt hn) cv_X11_136 dX11_left_2 ?_
  refine m_astore dX11_left_5 (Nat.le_of_ble_eq_true rfl) rfl ?_
  refine m_aload_n dX11_left_7 rfl ?_
  refine m_iload_n dX11_left_8 rfl ?_
  refine m_callVRp (s_X11_heapAt hn2) cv_X11_136 dX11_left_9 ?_
  refine m_astore dX11_left_12 (Nat.le_of_ble_eq_true rfl) rfl ?_
  refine m_aload_n dX11_left_14 rfl ?_
  refine m_iload_n dX11_left_15 rfl ?_
  refine m_callVRp (s_X11_heapAt hn3) cv_X11_136 dX11_left_16 ?_
  refine m_astore dX11_left_19 (Nat.le_of_ble_eq_true rfl) rfl ?_
  refine m_aload dX11_left_21 rfl ?_
  refine m_ifnull dX11_left_23 ?_
  refine m_aload dX11_left_26 rfl ?_
  refine m_ifnull dX11_left_28 ?_
  refine m_aload dX11_left_31 rfl ?_
  refine m_ifnonnull 39 dX11_left_33 (by decide) ?_
  refine m_aload_n dX11_left_39 rfl ?_
  refine m_get fl_X11_57 (by decide) rfl rfl dX11_left_40 ?_
  refine m_aload dX11_left_43 rfl ?_
  refine m_aload dX11_left_45 rfl ?_
  refine m_aload dX11_left_47 rfl ?_
  refine m_callVI (s_X7_makeLeft hs.1 hn13 hn213 hn313 (by omega) (by omega) (by omega) (hs.2 n hn).1 (hs.2 n2 hn2).1 (hs.2 n hn).2 (hs.2 n2 hn2).2) cv_X11_188 dX11_left_49 (fun r49 d49 h49 => ?_)
  have hres : ((∃ zs, tkL (bw σ.1 σ.2.1) (σ.2.2 n2) (σ.2.2 n) = some zs ∧ r49 = nI zs.length ∧ stIs d49 (setH σ n3 (leastR (bw σ.1 σ.2.1) zs))) ∨ (tkL (bw σ.1 σ.2.1) (σ.2.2 n2) (σ.2.2 n) = none ∧ r49 = -4 ∧ stIs d49 σ)) ∧ chg pairC d d49 := by
    rcases h49 with ⟨zs, q1, q2, q3, q4⟩ | ⟨q1, q2, q3⟩
    · exact ⟨Or.inl ⟨zs, q1, q2, hs.put q3 (fun x hx => (hs.2 n2 hn2).2 x (tkL_mem _ _ _ q1 x (leastR_mem hx))) q4 (by simp) (by simp) (fun j hj hne => by simp; omega)⟩, q4.mono ((by decide : ∀ n3, n3 < 4 → ∀ o ∈ [9, 22, 14, 27, n3 + 4, n3 + 17], o ∈ pairC) n3 hn3)⟩
    · exact ⟨Or.inr ⟨q1, q2, hs.fr q3 (by simp) (by simp) (by simp <;> omega)⟩, q3.mono (by decide)⟩
  exact m_iret (ty := .int) hR dX11_left_52 (hres)
theorem s_X11_shared (hx : hN x = some n) (hy : hN y = some n2) (hz : hN z = some n3) (hs : stIs d σ) : mSpecI l W mX11_shared (dep + 6) [.ref (xad W 0), .int x, .int y, .int z] d (fun r d' => r = nI (splitF (bw σ.1 σ.2.1) σ.1 24 [] (σ.2.2 n) (σ.2.2 n2)).1.length ∧ stIs d' (setH σ n3 (leastR (bw σ.1 σ.2.1) (splitF (bw σ.1 σ.2.1) σ.1 24 [] (σ.2.2 n) (σ.2.2 n2)).1)) ∧ chg pairC d d') := by
  obtain ⟨hn, rfl⟩ := hN_some hx
  obtain ⟨hn2, rfl⟩ := hN_some hy
  obtain ⟨hn3, rfl⟩ := hN_some hz
  have hn13 : n < 13 := by omega
  have hn213 : n2 < 13 := by omega
  have hn313 : n3 < 13 := by omega
  refine m_spec RX11 [some (.ref (xad W 0)), some (.int (nI n)), some (.int (nI n2)), some (.int (nI n3)), none, none, none] rfl (by decide +kernel) rfl rfl (fun K hR => ?_)
  refine m_aload_n dX11_shared_0 rfl ?_
  refine m_iload_n dX11_shared_1 rfl ?_
  refine m_callVRp (s_X11_heapAt hn) cv_X11_136 dX11_shared_2 ?_
  refine m_astore dX11_shared_5 (Nat.le_of_ble_eq_true rfl) rfl ?_
  refine m_aload_n dX11_shared_7 rfl ?_
  refine m_iload_n dX11_shared_8 rfl ?_
  refine m_callVRp (s_X11_heapAt hn2) cv_X11_136 dX11_shared_9 ?_
  refine m_astore dX11_shared_12 (Nat.le_of_ble_eq_true rfl) rfl ?_
  refine m_aload_n dX11_shared_14 rfl ?_
  refine m_iload_n dX11_shared_15 rfl ?_
  refine m_callVRp (s_X11_heapAt hn3) cv_X11_136 dX11_shared_16 ?_
  refine m_astore dX11_shared_19 (Nat.le_of_ble_eq_true rfl) rfl ?_
  refine m_aload dX11_shared_21 rfl ?_
  refine m_ifnull dX11_shared_23 ?_
  refine m_aload dX11_shared_26 rfl ?_
  refine m_ifnull dX11_shared_28 ?_
  refine m_aload dX11_shared_31 rfl ?_
  refine m_ifnonnull 39 dX11_shared_33 (by decide) ?_
  refine m_aload_n dX11_shared_39 rfl ?_
  refine m_get fl_X11_57 (by decide) rfl rfl dX11_shared_40 ?_
  refine m_aload dX11_shared_43 rfl ?_
  refine m_aload dX11_shared_45 rfl ?_
  refine m_aload dX11_shared_47 rfl ?_
  refine m_callVI (s_X7_makeShared hs.1 (by omega) (by omega) hn313 (by omega) (hs.2 n hn).1 (hs.2 n2 hn2).1 (hs.2 n hn).2 (hs.2 n2 hn2).2) cv_X11_191 dX11_shared_49 (fun r49 d49 h49 => ?_)
  exact m_iret (ty := .int) hR dX11_shared_52 (⟨h49.1, hs.put h49.2.1 (fun x hx => ((splitF_mem (k := σ.1) 24 [] _ _).1 x (leastR_mem hx)).resolve_left (fun z => by cases z)) h49.2.2 (by simp) (by simp) (fun j hj hne => by simp; omega), h49.2.2.mono ((by decide : ∀ n3, n3 < 4 → ∀ o ∈ [9, 22, 12, 25, 13, 26, 14, 27, n3 + 4, n3 + 17], o ∈ pairC) n3 hn3)⟩)
theorem s_X11_both {cs us vs : List Nat} (hsp : splitF (bw σ.1 σ.2.1) σ.1 24 [] (σ.2.2 n) (σ.2.2 n2) = (cs, us, vs)) (hx : hN x = some n) (hy : hN y = some n2) (hz : hN z = some n3) (hs : stIs d σ) : mSpecI l W mX11_both (dep + 6) [.ref (xad W 0), .int x, .int y, .int z] d (fun r d' => ((allFr σ.1 σ.2.1 us vs = false ∧ r = -4 ∧ stIs d' σ) ∨ (allFr σ.1 σ.2.1 us vs = true ∧ ¬ cs.length + us.length + vs.length ≤ 24 ∧ r = -5 ∧ stIs d' σ) ∨ (allFr σ.1 σ.2.1 us vs = true ∧ cs.length + us.length + vs.length ≤ 24 ∧ r = nI (cs.length + us.length + vs.length) ∧ stIs d' (setH σ n3 (leastR (bw σ.1 σ.2.1) (cs ++ us ++ vs))))) ∧ chg pairC d d') := by
  obtain ⟨hn, rfl⟩ := hN_some hx
  obtain ⟨hn2, rfl⟩ := hN_some hy
  obtain ⟨hn3, rfl⟩ := hN_some hz
  have hn13 : n < 13 := by omega
  have hn213 : n2 < 13 := by omega
  have hn313 : n3 < 13 := by omega
  have hsm := splitF_mem (k := σ.1) (B := bw σ.1 σ.2.1) 24 [] (σ.2.2 n) (σ.2.2 n2)
  rw [hsp] at hsm
  refine m_spec RX11 [some (.ref (xad W 0)), some (.int (nI n)), some (.int (nI n2)), some (.int (nI n3)), none, none, none] rfl (by decide +kernel) rfl rfl (fun K hR => ?_)
  refine m_aload_n dX11_both_0 rfl ?_
  refine m_iload_n dX11_both_1 rfl ?_
  refine m_callVRp (s_X11_heapAt hn) cv_X11_136 dX11_both_2 ?_
  refine m_astore dX11_both_5 (Nat.le_of_ble_eq_true rfl) rfl ?_
  refine m_aload_n dX11_both_7 rfl ?_
  refine m_iload_n dX11_both_8 rfl ?_
  refine m_callVRp (s_X11_heapAt hn2) cv_X11_136 dX11_both_9 ?_
  refine m_astore dX11_both_12 (Nat.le_of_ble_eq_true rfl) rfl ?_
  refine m_aload_n dX11_both_14 rfl ?_
  refine m_iload_n dX11_both_15 rfl ?_
  refine m_callVRp (s_X11_heapAt hn3) cv_X11_136 dX11_both_16 ?_
  refine m_astore dX11_both_19 (Nat.le_of_ble_eq_true rfl) rfl ?_
  refine m_aload dX11_both_21 rfl ?_
  refine m_ifnull dX11_both_23 ?_
  refine m_aload dX11_both_26 rfl ?_
  refine m_ifnull dX11_both_28 ?_
  refine m_aload dX11_both_31 rfl ?_
  refine m_ifnonnull 39 dX11_both_33 (by decide) ?_
  refine m_aload_n dX11_both_39 rfl ?_
  refine m_get fl_X11_57 (by decide) rfl rfl dX11_both_40 ?_
  refine m_aload dX11_both_43 rfl ?_
  refine m_aload dX11_both_45 rfl ?_
  refine m_aload dX11_both_47 rfl ?_
  refine m_callVI (s_X7_makeBoth hsp hs.1 (by omega) (by omega) hn313 (by omega) (hs.2 n hn).1 (hs.2 n2 hn2).1 (hs.2 n hn).2 (hs.2 n2 hn2).2) cv_X11_194 dX11_both_49 (fun r49 d49 h49 => ?_)
  have hres : ((allFr σ.1 σ.2.1 us vs = false ∧ r49 = -4 ∧ stIs d49 σ) ∨ (allFr σ.1 σ.2.1 us vs = true ∧ ¬ cs.length + us.length + vs.length ≤ 24 ∧ r49 = -5 ∧ stIs d49 σ) ∨ (allFr σ.1 σ.2.1 us vs = true ∧ cs.length + us.length + vs.length ≤ 24 ∧ r49 = nI (cs.length + us.length + vs.length) ∧ stIs d49 (setH σ n3 (leastR (bw σ.1 σ.2.1) (cs ++ us ++ vs))))) ∧ chg pairC d d49 := by
    rcases h49 with ⟨q1, q2, q3⟩ | ⟨q1, q2, q3, q4⟩ | ⟨q1, q2, q3, q4, q5⟩
    · exact ⟨Or.inl ⟨q1, q2, hs.fr q3 (by simp) (by simp) (by simp <;> omega)⟩, q3.mono (by decide)⟩
    · exact ⟨Or.inr (Or.inl ⟨q1, q2, q3, hs.fr q4 (by simp) (by simp) (by simp <;> omega)⟩), q4.mono (by decide)⟩
    · refine ⟨Or.inr (Or.inr ⟨q1, q2, q3, hs.put q4 (fun x hx => ?_) q5 (by simp) (by simp) (fun j hj hne => by simp; omega)⟩), q5.mono ((by decide : ∀ n3, n3 < 4 → ∀ o ∈ [9, 22, 12, 25, 13, 26, 14, 27, n3 + 4, n3 + 17], o ∈ pairC) n3 hn3)⟩
      rcases List.mem_append.mp (leastR_mem hx) with hx | hx
      · rcases List.mem_append.mp hx with hx | hx
        · exact (hsm.1 x hx).resolve_left (fun z => by cases z)
        · exact (hs.2 n hn).2 x (hsm.2.1 x hx)
      · exact (hs.2 n2 hn2).2 x (hsm.2.2 x hx)
  exact m_iret (ty := .int) hR dX11_both_52 (hres)
theorem s_X11_beginsW (hx : hN x = some n) (hy : y < 0 ∨ nI 2 < y) : mSpecI l W mX11_begins (dep + 1) [.ref (xad W 0), .int x, .int y] d (fun r d' => r = -3 ∧ d' = d) := by
  obtain ⟨hn, rfl⟩ := hN_some hx
  refine m_spec RX11 [some (.ref (xad W 0)), some (.int (nI n)), some (.int y), none] rfl (by decide +kernel) rfl rfl (fun K hR => ?_)
  have stp : mG W K cX11_begins RX11 (dep + 1) d 22 [some (.ref (xad W 0)), some (.int (nI n)), some (.int y), some (.ref (xad W (n + 4)))] [] := by
    refine m_bipush (v := -3) dX11_begins_22 (by decide) ?_
    exact m_iret (ty := .int) hR dX11_begins_24 (⟨rfl, rfl⟩)
  refine m_aload_n dX11_begins_0 rfl ?_
  refine m_iload_n dX11_begins_1 rfl ?_
  refine m_callVRp (s_X11_heapAt hn) cv_X11_136 dX11_begins_2 ?_
  refine m_astore_n dX11_begins_5 (Nat.le_of_ble_eq_true rfl) rfl ?_
  refine m_aload_n dX11_begins_6 rfl ?_
  refine m_ifnonnull 13 dX11_begins_7 (by decide) ?_
  refine m_iload_n dX11_begins_13 rfl ?_
  refine m_if_lt 22 dX11_begins_14 (by decide) (fun c14 => ?_) (fun c14 => ?_)
  · exact stp
  · refine m_iload_n dX11_begins_17 rfl ?_
    refine m_iconstN 2 dX11_begins_18 (by decide) ?_
    refine m_icmp_le 25 dX11_begins_19 (by decide) (fun c19 => by exfalso; exact hy.elim c14 (fun w => absurd c19 (Int32.not_le.mpr w))) (fun c19 => ?_)
    exact stp
theorem s_X11_begins {m : Nat} (hm : m ≤ 2) (hx : hN x = some n) (hs : stIs d σ) : mSpecI l W mX11_begins (dep + 4) [.ref (xad W 0), .int x, .int (nI m)] d (fun r d' => r = (if m = 0 then nI (cntF (bw σ.1 σ.2.1) (σ.2.2 n) (cntV (σ.2.2 n)) (strd (cntV (σ.2.2 n)) 6)) else if m = 1 then nI (ways (bw σ.1 σ.2.1) (σ.2.2 n) (dig (cntV (σ.2.2 n)) (strd (cntV (σ.2.2 n)) 6 - 1)) % 1000000007) else nI (maxF (bw σ.1 σ.2.1) (σ.2.2 n) (cntV (σ.2.2 n)) (strd (cntV (σ.2.2 n)) 6))) ∧ chg beginS d d') := by
  obtain ⟨hn, rfl⟩ := hN_some hx
  have hn13 : n < 13 := by omega
  refine m_spec RX11 [some (.ref (xad W 0)), some (.int (nI n)), some (.int (nI m)), none] rfl (by decide +kernel) rfl rfl (fun K hR => ?_)
  refine m_aload_n dX11_begins_0 rfl ?_
  refine m_iload_n dX11_begins_1 rfl ?_
  refine m_callVRp (s_X11_heapAt hn) cv_X11_136 dX11_begins_2 ?_
  refine m_astore_n dX11_begins_5 (Nat.le_of_ble_eq_true rfl) rfl ?_
  refine m_aload_n dX11_begins_6 rfl ?_
  refine m_ifnonnull 13 dX11_begins_7 (by decide) ?_
  refine m_iload_n dX11_begins_13 rfl ?_
  refine m_if_ltN 22 dX11_begins_14 (by decide) (by omega) ?_
  refine m_iload_n dX11_begins_17 rfl ?_
  refine m_iconstN 2 dX11_begins_18 (by decide) ?_
  first | refine m_icmp_leN 25 dX11_begins_19 (by decide) (by omega) (by omega) (fun c19 => ?_) (fun c19 => by exfalso; omega) | refine m_icmp_le 25 dX11_begins_19 (by decide) (fun c19 => ?_) (fun c19 => by exfalso; omega)
  refine m_aload_n dX11_begins_25 rfl ?_
  refine m_get fl_X11_64 (by decide) rfl rfl dX11_begins_26 ?_
  refine m_aload_n dX11_begins_29 rfl ?_
  refine m_callVI (s_X0_find hs.1 hn13 (hs.2 n hn).1 (hs.2 n hn).2) cv_X11_171 dX11_begins_30 (fun r30 d30 h30 => ?_)
  obtain ⟨rfl, a1, a2, a3, a4, a5⟩ := h30
  refine m_if_ne 39 dX11_begins_33 (by decide) (fun c33 => ?_) (fun c33 => by exfalso; exact c33 (by decide))
  refine m_iload_n dX11_begins_39 rfl ?_
  first | refine m_if_neN 51 dX11_begins_40 (by decide) (by omega) (fun c40 => ?_) (fun c40 => ?_) | refine m_if_ne 51 dX11_begins_40 (by decide) (fun c40 => ?_) (fun c40 => ?_)
  · refine m_iload_n dX11_begins_51 rfl ?_
    refine m_iconstN 1 dX11_begins_52 (by decide) ?_
    first | refine m_icmp_neN 66 dX11_begins_53 (by decide) (by omega) (by omega) (fun c53 => ?_) (fun c53 => ?_) | refine m_icmp_ne 66 dX11_begins_53 (by decide) (fun c53 => ?_) (fun c53 => ?_)
    · refine m_aload_n dX11_begins_66 rfl ?_
      refine m_get fl_X11_64 (by decide) rfl rfl dX11_begins_67 ?_
      refine m_callVIp (s_X0_wide a3) cv_X11_181 dX11_begins_70 ?_
      exact m_iret (ty := .int) hR dX11_begins_73 (⟨by rw [if_neg (by omega), if_neg (by omega)], a5⟩)
    · refine m_aload_n dX11_begins_56 rfl ?_
      refine m_get fl_X11_64 (by decide) rfl rfl dX11_begins_57 ?_
      have hst := strd_pos (cntV (σ.2.2 n)) 6
      refine m_callVIp (s_X0_ways a1 hst (strd_le (by rw [cnt_sum (hs.2 n hn).1.2.2.2]; exact (hs.2 n hn).1.1) (Nat.le_refl 6)) a4) cv_X11_178 dX11_begins_60 ?_
      refine m_goto 73 dX11_begins_63 (by decide) ?_
      exact m_iret (ty := .int) hR dX11_begins_73 (⟨by rw [if_neg (by omega), if_pos (by omega)], a5⟩)
  · refine m_aload_n dX11_begins_43 rfl ?_
    refine m_get fl_X11_64 (by decide) rfl rfl dX11_begins_44 ?_
    refine m_callVIp (s_X0_found a2) cv_X11_175 dX11_begins_47 ?_
    exact m_iret (ty := .int) hR dX11_begins_50 (⟨by rw [if_pos (by omega)], a5⟩)
end CAL
