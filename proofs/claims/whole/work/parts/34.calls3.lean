/-! class SwapSteps: calls with two and three heaps -/
section CAL
variable {l : Launch} {W : xW} {dep : Nat} {d : xD} {bs : List Nat} {σ : St} {x y z : Int32} {n n2 n3 : Nat}
theorem s_X9_hasPlaceO {j : Nat} (hj : j < 13) {y : Int32} (hy : y < 0) : mSpecI l W mX9_hasPlace dep [.ref (xad W (j + 4)), .int y] d (fun r d' => r = 0 ∧ d' = d) := by
  refine m_spec RX9 [some (.ref (xad W (j + 4))), some (.int y)] rfl (by decide +kernel) rfl rfl (fun K hR => ?_)
  refine m_iload_n dX9_hasPlace_0 rfl ?_
  refine m_if_lt 25 dX9_hasPlace_1 (by decide) (fun c1 => ?_) (fun c1 => by exfalso; exact c1 hy)
  refine m_iconstN 0 dX9_hasPlace_25 (by decide) ?_
  exact m_iret (ty := .boolean) hR dX9_hasPlace_26 (⟨rfl, rfl⟩)
theorem s_X11_sameO (h : hN x = none ∨ hN y = none) : mSpecI l W mX11_same (dep + 1) [.ref (xad W 0), .int x, .int y] d (fun r d' => r = -2 ∧ d' = d) := by
  refine m_spec RX11 [some (.ref (xad W 0)), some (.int x), some (.int y), none, none] rfl (by decide +kernel) rfl rfl (fun K hR => ?_)
  cases hx : hN x with
  | none =>
    cases hy : hN y with
    | none =>
      have hx' := hx
      refine m_aload_n dX11_same_0 rfl ?_
      refine m_iload_n dX11_same_1 rfl ?_
      refine m_callVRp (s_X11_heapAtO (hN_none hx)) cv_X11_136 dX11_same_2 ?_
      refine m_astore_nN dX11_same_5 (Nat.le_of_ble_eq_true rfl) rfl ?_
      refine m_aload_n dX11_same_6 rfl ?_
      refine m_iload_n dX11_same_7 rfl ?_
      refine m_callVRp (s_X11_heapAtO (hN_none hy)) cv_X11_136 dX11_same_8 ?_
      refine m_astoreN dX11_same_11 (Nat.le_of_ble_eq_true rfl) rfl ?_
      refine m_aload_nN dX11_same_13 rfl ?_
      refine m_ifnullN 22 dX11_same_14 (by decide) ?_
      refine m_bipush (v := -2) dX11_same_22 (by decide) ?_
      exact m_iret (ty := .int) hR dX11_same_24 (⟨rfl, rfl⟩)
    | some n2 =>
      obtain ⟨h2, rfl⟩ := hN_some hy
      refine m_aload_n dX11_same_0 rfl ?_
      refine m_iload_n dX11_same_1 rfl ?_
      refine m_callVRp (s_X11_heapAtO (hN_none hx)) cv_X11_136 dX11_same_2 ?_
      refine m_astore_nN dX11_same_5 (Nat.le_of_ble_eq_true rfl) rfl ?_
      refine m_aload_n dX11_same_6 rfl ?_
      refine m_iload_n dX11_same_7 rfl ?_
      refine m_callVRp (s_X11_heapAt h2) cv_X11_136 dX11_same_8 ?_
      refine m_astore dX11_same_11 (Nat.le_of_ble_eq_true rfl) rfl ?_
      refine m_aload_nN dX11_same_13 rfl ?_
      refine m_ifnullN 22 dX11_same_14 (by decide) ?_
      refine m_bipush (v := -2) dX11_same_22 (by decide) ?_
      exact m_iret (ty := .int) hR dX11_same_24 (⟨rfl, rfl⟩)
  | some n =>
    obtain ⟨h1, rfl⟩ := hN_some hx
    have hy := h.resolve_left (fun e => by rw [hx] at e; cases e)
    refine m_aload_n dX11_same_0 rfl ?_
    refine m_iload_n dX11_same_1 rfl ?_
    refine m_callVRp (s_X11_heapAt h1) cv_X11_136 dX11_same_2 ?_
    refine m_astore_n dX11_same_5 (Nat.le_of_ble_eq_true rfl) rfl ?_
    refine m_aload_n dX11_same_6 rfl ?_
    refine m_iload_n dX11_same_7 rfl ?_
    refine m_callVRp (s_X11_heapAtO (hN_none hy)) cv_X11_136 dX11_same_8 ?_
    refine m_astoreN dX11_same_11 (Nat.le_of_ble_eq_true rfl) rfl ?_
    refine m_aload_n dX11_same_13 rfl ?_
    refine m_ifnull dX11_same_14 ?_
    refine m_aloadN dX11_same_17 rfl ?_
    refine m_ifnonnullN dX11_same_19 ?_
    refine m_bipush (v := -2) dX11_same_22 (by decide) ?_
    exact m_iret (ty := .int) hR dX11_same_24 (⟨rfl, rfl⟩)
theorem s_X11_apartO (h : hN x = none ∨ hN y = none) : mSpecI l W mX11_apart (dep + 1) [.ref (xad W 0), .int x, .int y] d (fun r d' => r = -2 ∧ d' = d) := by
  refine m_spec RX11 [some (.ref (xad W 0)), some (.int x), some (.int y), none, none] rfl (by decide +kernel) rfl rfl (fun K hR => ?_)
  cases hx : hN x with
  | none =>
    cases hy : hN y with
    | none =>
      have hx' := hx
      refine m_aload_n dX11_apart_0 rfl ?_
      refine m_iload_n dX11_apart_1 rfl ?_
      refine m_callVRp (s_X11_heapAtO (hN_none hx)) cv_X11_136 dX11_apart_2 ?_
      refine m_astore_nN dX11_apart_5 (Nat.le_of_ble_eq_true rfl) rfl ?_
      refine m_aload_n dX11_apart_6 rfl ?_
      refine m_iload_n dX11_apart_7 rfl ?_
      refine m_callVRp (s_X11_heapAtO (hN_none hy)) cv_X11_136 dX11_apart_8 ?_
      refine m_astoreN dX11_apart_11 (Nat.le_of_ble_eq_true rfl) rfl ?_
      refine m_aload_nN dX11_apart_13 rfl ?_
      refine m_ifnullN 22 dX11_apart_14 (by decide) ?_
      refine m_bipush (v := -2) dX11_apart_22 (by decide) ?_
      exact m_iret (ty := .int) hR dX11_apart_24 (⟨rfl, rfl⟩)
    | some n2 =>
      obtain ⟨h2, rfl⟩ := hN_some hy
      refine m_aload_n dX11_apart_0 rfl ?_
      refine m_iload_n dX11_apart_1 rfl ?_
      refine m_callVRp (s_X11_heapAtO (hN_none hx)) cv_X11_136 dX11_apart_2 ?_
      refine m_astore_nN dX11_apart_5 (Nat.le_of_ble_eq_true rfl) rfl ?_
      refine m_aload_n dX11_apart_6 rfl ?_
      refine m_iload_n dX11_apart_7 rfl ?_
      refine m_callVRp (s_X11_heapAt h2) cv_X11_136 dX11_apart_8 ?_
      refine m_astore dX11_apart_11 (Nat.le_of_ble_eq_true rfl) rfl ?_
      refine m_aload_nN dX11_apart_13 rfl ?_
      refine m_ifnullN 22 dX11_apart_14 (by decide) ?_
      refine m_bipush (v := -2) dX11_apart_22 (by decide) ?_
      exact m_iret (ty := .int) hR dX11_apart_24 (⟨rfl, rfl⟩)
  | some n =>
    obtain ⟨h1, rfl⟩ := hN_some hx
    have hy := h.resolve_left (fun e => by rw [hx] at e; cases e)
    refine m_aload_n dX11_apart_0 rfl ?_
    refine m_iload_n dX11_apart_1 rfl ?_
    refine m_callVRp (s_X11_heapAt h1) cv_X11_136 dX11_apart_2 ?_
    refine m_astore_n dX11_apart_5 (Nat.le_of_ble_eq_true rfl) rfl ?_
    refine m_aload_n dX11_apart_6 rfl ?_
    refine m_iload_n dX11_apart_7 rfl ?_
    refine m_callVRp (s_X11_heapAtO (hN_none hy)) cv_X11_136 dX11_apart_8 ?_
    refine m_astoreN dX11_apart_11 (Nat.le_of_ble_eq_true rfl) rfl ?_
    refine m_aload_n dX11_apart_13 rfl ?_
    refine m_ifnull dX11_apart_14 ?_
    refine m_aloadN dX11_apart_17 rfl ?_
    refine m_ifnonnullN dX11_apart_19 ?_
    refine m_bipush (v := -2) dX11_apart_22 (by decide) ?_
    exact m_iret (ty := .int) hR dX11_apart_24 (⟨rfl, rfl⟩)
theorem s_X11_turnedO (h : hN x = none ∨ hN y = none) : mSpecI l W mX11_turned (dep + 1) [.ref (xad W 0), .int x, .int y] d (fun r d' => r = -2 ∧ d' = d) := by
  refine m_spec RX11 [some (.ref (xad W 0)), some (.int x), some (.int y), none, none] rfl (by decide +kernel) rfl rfl (fun K hR => ?_)
  cases hx : hN x with
  | none =>
    cases hy : hN y with
    | none =>
      have hx' := hx
      refine m_aload_n dX11_turned_0 rfl ?_
      refine m_iload_n dX11_turned_1 rfl ?_
      refine m_callVRp (s_X11_heapAtO (hN_none hx)) cv_X11_136 dX11_turned_2 ?_
      refine m_astore_nN dX11_turned_5 (Nat.le_of_ble_eq_true rfl) rfl ?_
      refine m_aload_n dX11_turned_6 rfl ?_
      refine m_iload_n dX11_turned_7 rfl ?_
      refine m_callVRp (s_X11_heapAtO (hN_none hy)) cv_X11_136 dX11_turned_8 ?_
      refine m_astoreN dX11_turned_11 (Nat.le_of_ble_eq_true rfl) rfl ?_
      refine m_aload_nN dX11_turned_13 rfl ?_
      refine m_ifnullN 22 dX11_turned_14 (by decide) ?_
      refine m_bipush (v := -2) dX11_turned_22 (by decide) ?_
      exact m_iret (ty := .int) hR dX11_turned_24 (⟨rfl, rfl⟩)
    | some n2 =>
      obtain ⟨h2, rfl⟩ := hN_some hy
      refine m_aload_n dX11_turned_0 rfl ?_
      refine m_iload_n dX11_turned_1 rfl ?_
      refine m_callVRp (s_X11_heapAtO (hN_none hx)) cv_X11_136 dX11_turned_2 ?_
      refine m_astore_nN dX11_turned_5 (Nat.le_of_ble_eq_true rfl) rfl ?_
      refine m_aload_n dX11_turned_6 rfl ?_
      refine m_iload_n dX11_turned_7 rfl ?_
      refine m_callVRp (s_X11_heapAt h2) cv_X11_136 dX11_turned_8 ?_
      refine m_astore dX11_turned_11 (Nat.le_of_ble_eq_true rfl) rfl ?_
      refine m_aload_nN dX11_turned_13 rfl ?_
      refine m_ifnullN 22 dX11_turned_14 (by decide) ?_
      refine m_bipush (v := -2) dX11_turned_22 (by decide) ?_
      exact m_iret (ty := .int) hR dX11_turned_24 (⟨rfl, rfl⟩)
  | some n =>
    obtain ⟨h1, rfl⟩ := hN_some hx
    have hy := h.resolve_left (fun e => by rw [hx] at e; cases e)
    refine m_aload_n dX11_turned_0 rfl ?_
    refine m_iload_n dX11_turned_1 rfl ?_
    refine m_callVRp (s_X11_heapAt h1) cv_X11_136 dX11_turned_2 ?_
    refine m_astore_n dX11_turned_5 (Nat.le_of_ble_eq_true rfl) rfl ?_
    refine m_aload_n dX11_turned_6 rfl ?_
    refine m_iload_n dX11_turned_7 rfl ?_
    refine m_callVRp (s_X11_heapAtO (hN_none hy)) cv_X11_136 dX11_turned_8 ?_
    refine m_astoreN dX11_turned_11 (Nat.le_of_ble_eq_true rfl) rfl ?_
    refine m_aload_n dX11_turned_13 rfl ?_
    refine m_ifnull dX11_turned_14 ?_
    refine m_aloadN dX11_turned_17 rfl ?_
    refine m_ifnonnullN dX11_turned_19 ?_
    refine m_bipush (v := -2) dX11_turned_22 (by decide) ?_
    exact m_iret (ty := .int) hR dX11_turned_24 (⟨rfl, rfl⟩)
theorem s_X11_joinO (h : hN x = none ∨ hN y = none ∨ hN z = none) : mSpecI l W mX11_join (dep + 1) [.ref (xad W 0), .int x, .int y, .int z] d (fun r d' => r = -2 ∧ d' = d) := by
  refine m_spec RX11 [some (.ref (xad W 0)), some (.int x), some (.int y), some (.int z), none, none, none] rfl (by decide +kernel) rfl rfl (fun K hR => ?_)
  cases hx : hN x <;> cases hy : hN y <;> cases hz : hN z
  · have hx0 := h
    refine m_aload_n dX11_join_0 rfl ?_
    refine m_iload_n dX11_join_1 rfl ?_
    refine m_callVRp (s_X11_heapAtO (hN_none hx)) cv_X11_136 dX11_join_2 ?_
    refine m_astoreN dX11_join_5 (Nat.le_of_ble_eq_true rfl) rfl ?_
    refine m_aload_n dX11_join_7 rfl ?_
    refine m_iload_n dX11_join_8 rfl ?_
    refine m_callVRp (s_X11_heapAtO (hN_none hy)) cv_X11_136 dX11_join_9 ?_
    refine m_astoreN dX11_join_12 (Nat.le_of_ble_eq_true rfl) rfl ?_
    refine m_aload_n dX11_join_14 rfl ?_
    refine m_iload_n dX11_join_15 rfl ?_
    refine m_callVRp (s_X11_heapAtO (hN_none hz)) cv_X11_136 dX11_join_16 ?_
    refine m_astoreN dX11_join_19 (Nat.le_of_ble_eq_true rfl) rfl ?_
    refine m_aloadN dX11_join_21 rfl ?_
    refine m_ifnullN 36 dX11_join_23 (by decide) ?_
    refine m_bipush (v := -2) dX11_join_36 (by decide) ?_
    exact m_iret (ty := .int) hR dX11_join_38 (⟨rfl, rfl⟩)
  · have hx0 := h
    obtain ⟨hz4, ez⟩ := hN_some hz
    subst ez
    refine m_aload_n dX11_join_0 rfl ?_
    refine m_iload_n dX11_join_1 rfl ?_
    refine m_callVRp (s_X11_heapAtO (hN_none hx)) cv_X11_136 dX11_join_2 ?_
    refine m_astoreN dX11_join_5 (Nat.le_of_ble_eq_true rfl) rfl ?_
    refine m_aload_n dX11_join_7 rfl ?_
    refine m_iload_n dX11_join_8 rfl ?_
    refine m_callVRp (s_X11_heapAtO (hN_none hy)) cv_X11_136 dX11_join_9 ?_
    refine m_astoreN dX11_join_12 (Nat.le_of_ble_eq_true rfl) rfl ?_
    refine m_aload_n dX11_join_14 rfl ?_
    refine m_iload_n dX11_join_15 rfl ?_
    refine m_callVRp (s_X11_heapAt hz4) cv_X11_136 dX11_join_16 ?_
    refine m_astore dX11_join_19 (Nat.le_of_ble_eq_true rfl) rfl ?_
    refine m_aloadN dX11_join_21 rfl ?_
    refine m_ifnullN 36 dX11_join_23 (by decide) ?_
    refine m_bipush (v := -2) dX11_join_36 (by decide) ?_
    exact m_iret (ty := .int) hR dX11_join_38 (⟨rfl, rfl⟩)
  · have hx0 := h
    obtain ⟨hy4, ey⟩ := hN_some hy
    subst ey
    refine m_aload_n dX11_join_0 rfl ?_
    refine m_iload_n dX11_join_1 rfl ?_
    refine m_callVRp (s_X11_heapAtO (hN_none hx)) cv_X11_136 dX11_join_2 ?_
    refine m_astoreN dX11_join_5 (Nat.le_of_ble_eq_true rfl) rfl ?_
    refine m_aload_n dX11_join_7 rfl ?_
    refine m_iload_n dX11_join_8 rfl ?_
    refine m_callVRp (s_X11_heapAt hy4) cv_X11_136 dX11_join_9 ?_
    refine m_astore dX11_join_12 (Nat.le_of_ble_eq_true rfl) rfl ?_
    refine m_aload_n dX11_join_14 rfl ?_
    refine m_iload_n dX11_join_15 rfl ?_
    refine m_callVRp (s_X11_heapAtO (hN_none hz)) cv_X11_136 dX11_join_16 ?_
    refine m_astoreN dX11_join_19 (Nat.le_of_ble_eq_true rfl) rfl ?_
    refine m_aloadN dX11_join_21 rfl ?_
    refine m_ifnullN 36 dX11_join_23 (by decide) ?_
    refine m_bipush (v := -2) dX11_join_36 (by decide) ?_
    exact m_iret (ty := .int) hR dX11_join_38 (⟨rfl, rfl⟩)
  · have hx0 := h
    obtain ⟨hy4, ey⟩ := hN_some hy
    subst ey
    obtain ⟨hz4, ez⟩ := hN_some hz
    subst ez
    refine m_aload_n dX11_join_0 rfl ?_
    refine m_iload_n dX11_join_1 rfl ?_
    refine m_callVRp (s_X11_heapAtO (hN_none hx)) cv_X11_136 dX11_join_2 ?_
    refine m_astoreN dX11_join_5 (Nat.le_of_ble_eq_true rfl) rfl ?_
    refine m_aload_n dX11_join_7 rfl ?_
    refine m_iload_n dX11_join_8 rfl ?_
    refine m_callVRp (s_X11_heapAt hy4) cv_X11_136 dX11_join_9 ?_
    refine m_astore dX11_join_12 (Nat.le_of_ble_eq_true rfl) rfl ?_
    refine m_aload_n dX11_join_14 rfl ?_
    refine m_iload_n dX11_join_15 rfl ?_
    refine m_callVRp (s_X11_heapAt hz4) cv_X11_136 dX11_join_16 ?_
    refine m_astore dX11_join_19 (Nat.le_of_ble_eq_true rfl) rfl ?_
    refine m_aloadN dX11_join_21 rfl ?_
    refine m_ifnullN 36 dX11_join_23 (by decide) ?_
    refine m_bipush (v := -2) dX11_join_36 (by decide) ?_
    exact m_iret (ty := .int) hR dX11_join_38 (⟨rfl, rfl⟩)
  · have hx0 := h
    obtain ⟨hx4, ex⟩ := hN_some hx
    subst ex
    refine m_aload_n dX11_join_0 rfl ?_
    refine m_iload_n dX11_join_1 rfl ?_
    refine m_callVRp (s_X11_heapAt hx4) cv_X11_136 dX11_join_2 ?_
    refine m_astore dX11_join_5 (Nat.le_of_ble_eq_true rfl) rfl ?_
    refine m_aload_n dX11_join_7 rfl ?_
    refine m_iload_n dX11_join_8 rfl ?_
    refine m_callVRp (s_X11_heapAtO (hN_none hy)) cv_X11_136 dX11_join_9 ?_
    refine m_astoreN dX11_join_12 (Nat.le_of_ble_eq_true rfl) rfl ?_
    refine m_aload_n dX11_join_14 rfl ?_
    refine m_iload_n dX11_join_15 rfl ?_
    refine m_callVRp (s_X11_heapAtO (hN_none hz)) cv_X11_136 dX11_join_16 ?_
    refine m_astoreN dX11_join_19 (Nat.le_of_ble_eq_true rfl) rfl ?_
    refine m_aload dX11_join_21 rfl ?_
    refine m_ifnull dX11_join_23 ?_
    refine m_aloadN dX11_join_26 rfl ?_
    refine m_ifnullN 36 dX11_join_28 (by decide) ?_
    refine m_bipush (v := -2) dX11_join_36 (by decide) ?_
    exact m_iret (ty := .int) hR dX11_join_38 (⟨rfl, rfl⟩)
  · have hx0 := h
    obtain ⟨hx4, ex⟩ := hN_some hx
    subst ex
    obtain ⟨hz4, ez⟩ := hN_some hz
    subst ez
    refine m_aload_n dX11_join_0 rfl ?_
    refine m_iload_n dX11_join_1 rfl ?_
    refine m_callVRp (s_X11_heapAt hx4) cv_X11_136 dX11_join_2 ?_
    refine m_astore dX11_join_5 (Nat.le_of_ble_eq_true rfl) rfl ?_
    refine m_aload_n dX11_join_7 rfl ?_
    refine m_iload_n dX11_join_8 rfl ?_
    refine m_callVRp (s_X11_heapAtO (hN_none hy)) cv_X11_136 dX11_join_9 ?_
    refine m_astoreN dX11_join_12 (Nat.le_of_ble_eq_true rfl) rfl ?_
    refine m_aload_n dX11_join_14 rfl ?_
    refine m_iload_n dX11_join_15 rfl ?_
    refine m_callVRp (s_X11_heapAt hz4) cv_X11_136 dX11_join_16 ?_
    refine m_astore dX11_join_19 (Nat.le_of_ble_eq_true rfl) rfl ?_
    refine m_aload dX11_join_21 rfl ?_
    refine m_ifnull dX11_join_23 ?_
    refine m_aloadN dX11_join_26 rfl ?_
    refine m_ifnullN 36 dX11_join_28 (by decide) ?_
    refine m_bipush (v := -2) dX11_join_36 (by decide) ?_
    exact m_iret (ty := .int) hR dX11_join_38 (⟨rfl, rfl⟩)
  · have hx0 := h
    obtain ⟨hx4, ex⟩ := hN_some hx
    subst ex
    obtain ⟨hy4, ey⟩ := hN_some hy
    subst ey
    refine m_aload_n dX11_join_0 rfl ?_
    refine m_iload_n dX11_join_1 rfl ?_
    refine m_callVRp (s_X11_heapAt hx4) cv_X11_136 dX11_join_2 ?_
    refine m_astore dX11_join_5 (Nat.le_of_ble_eq_true rfl) rfl ?_
    refine m_aload_n dX11_join_7 rfl ?_
    refine m_iload_n dX11_join_8 rfl ?_
    refine m_callVRp (s_X11_heapAt hy4) cv_X11_136 dX11_join_9 ?_
    refine m_astore dX11_join_12 (Nat.le_of_ble_eq_true rfl) rfl ?_
    refine m_aload_n dX11_join_14 rfl ?_
    refine m_iload_n dX11_join_15 rfl ?_
    refine m_callVRp (s_X11_heapAtO (hN_none hz)) cv_X11_136 dX11_join_16 ?_
    refine m_astoreN dX11_join_19 (Nat.le_of_ble_eq_true rfl) rfl ?_
    refine m_aload dX11_join_21 rfl ?_
    refine m_ifnull dX11_join_23 ?_
    refine m_aload dX11_join_26 rfl ?_
    refine m_ifnull dX11_join_28 ?_
    refine m_aloadN dX11_join_31 rfl ?_
    refine m_ifnonnullN dX11_join_33 ?_
    refine m_bipush (v := -2) dX11_join_36 (by decide) ?_
    exact m_iret (ty := .int) hR dX11_join_38 (⟨rfl, rfl⟩)
  · rcases h with h | h | h
    · rw [hx] at h; cases h
    · rw [hy] at h; cases h
    · rw [hz] at h; cases h
theorem s_X11_leftO (h : hN x = none ∨ hN y = none ∨ hN z = none) : mSpecI l W mX11_left (dep + 1) [.ref (xad W 0), .int x, .int y, .int z] d (fun r d' => r = -2 ∧ d' = d) := by
  refine m_spec RX11 [some (.ref (xad W 0)), some (.int x), some (.int y), some (.int z), none, none, none] rfl (by decide +kernel) rfl rfl (fun K hR => ?_)
  cases hx : hN x <;> cases hy : hN y <;> cases hz : hN z
  · have hx0 := h
    refine m_aload_n dX11_left_0 rfl ?_
    refine m_iload_n dX11_left_1 rfl ?_
    refine m_callVRp (s_X11_heapAtO (hN_none hx)) cv_X11_136 dX11_left_2 ?_
    refine m_astoreN dX11_left_5 (Nat.le_of_ble_eq_true rfl) rfl ?_
    refine m_aload_n dX11_left_7 rfl ?_
    refine m_iload_n dX11_left_8 rfl ?_
    refine m_callVRp (s_X11_heapAtO (hN_none hy)) cv_X11_136 dX11_left_9 ?_
    refine m_astoreN dX11_left_12 (Nat.le_of_ble_eq_true rfl) rfl ?_
    refine m_aload_n dX11_left_14 rfl ?_
    refine m_iload_n dX11_left_15 rfl ?_
    refine m_callVRp (s_X11_heapAtO (hN_none hz)) cv_X11_136 dX11_left_16 ?_
    refine m_astoreN dX11_left_19 (Nat.le_of_ble_eq_true rfl) rfl ?_
    refine m_aloadN dX11_left_21 rfl ?_
    refine m_ifnullN 36 dX11_left_23 (by decide) ?_
    refine m_bipush (v := -2) dX11_left_36 (by decide) ?_
    exact m_iret (ty := .int) hR dX11_left_38 (⟨rfl, rfl⟩)
  · have hx0 := h
    obtain ⟨hz4, ez⟩ := hN_some hz
    subst ez
    refine m_aload_n dX11_left_0 rfl ?_
    refine m_iload_n dX11_left_1 rfl ?_
    refine m_callVRp (s_X11_heapAtO (hN_none hx)) cv_X11_136 dX11_left_2 ?_
    refine m_astoreN dX11_left_5 (Nat.le_of_ble_eq_true rfl) rfl ?_
    refine m_aload_n dX11_left_7 rfl ?_
    refine m_iload_n dX11_left_8 rfl ?_
    refine m_callVRp (s_X11_heapAtO (hN_none hy)) cv_X11_136 dX11_left_9 ?_
    refine m_astoreN dX11_left_12 (Nat.le_of_ble_eq_true rfl) rfl ?_
    refine m_aload_n dX11_left_14 rfl ?_
    refine m_iload_n dX11_left_15 rfl ?_
    refine m_callVRp (s_X11_heapAt hz4) cv_X11_136 dX11_left_16 ?_
    refine m_astore dX11_left_19 (Nat.le_of_ble_eq_true rfl) rfl ?_
    refine m_aloadN dX11_left_21 rfl ?_
    refine m_ifnullN 36 dX11_left_23 (by decide) ?_
    refine m_bipush (v := -2) dX11_left_36 (by decide) ?_
    exact m_iret (ty := .int) hR dX11_left_38 (⟨rfl, rfl⟩)
  · have hx0 := h
    obtain ⟨hy4, ey⟩ := hN_some hy
    subst ey
    refine m_aload_n dX11_left_0 rfl ?_
    refine m_iload_n dX11_left_1 rfl ?_
    refine m_callVRp (s_X11_heapAtO (hN_none hx)) cv_X11_136 dX11_left_2 ?_
    refine m_astoreN dX11_left_5 (Nat.le_of_ble_eq_true rfl) rfl ?_
    refine m_aload_n dX11_left_7 rfl ?_
    refine m_iload_n dX11_left_8 rfl ?_
    refine m_callVRp (s_X11_heapAt hy4) cv_X11_136 dX11_left_9 ?_
    refine m_astore dX11_left_12 (Nat.le_of_ble_eq_true rfl) rfl ?_
    refine m_aload_n dX11_left_14 rfl ?_
    refine m_iload_n dX11_left_15 rfl ?_
    refine m_callVRp (s_X11_heapAtO (hN_none hz)) cv_X11_136 dX11_left_16 ?_
    refine m_astoreN dX11_left_19 (Nat.le_of_ble_eq_true rfl) rfl ?_
    refine m_aloadN dX11_left_21 rfl ?_
    refine m_ifnullN 36 dX11_left_23 (by decide) ?_
    refine m_bipush (v := -2) dX11_left_36 (by decide) ?_
    exact m_iret (ty := .int) hR dX11_left_38 (⟨rfl, rfl⟩)
  · have hx0 := h
    obtain ⟨hy4, ey⟩ := hN_some hy
    subst ey
    obtain ⟨hz4, ez⟩ := hN_some hz
    subst ez
    refine m_aload_n dX11_left_0 rfl ?_
    refine m_iload_n dX11_left_1 rfl ?_
    refine m_callVRp (s_X11_heapAtO (hN_none hx)) cv_X11_136 dX11_left_2 ?_
    refine m_astoreN dX11_left_5 (Nat.le_of_ble_eq_true rfl) rfl ?_
    refine m_aload_n dX11_left_7 rfl ?_
    refine m_iload_n dX11_left_8 rfl ?_
    refine m_callVRp (s_X11_heapAt hy4) cv_X11_136 dX11_left_9 ?_
    refine m_astore dX11_left_12 (Nat.le_of_ble_eq_true rfl) rfl ?_
    refine m_aload_n dX11_left_14 rfl ?_
    refine m_iload_n dX11_left_15 rfl ?_
    refine m_callVRp (s_X11_heapAt hz4) cv_X11_136 dX11_left_16 ?_
    refine m_astore dX11_left_19 (Nat.le_of_ble_eq_true rfl) rfl ?_
    refine m_aloadN dX11_left_21 rfl ?_
    refine m_ifnullN 36 dX11_left_23 (by decide) ?_
    refine m_bipush (v := -2) dX11_left_36 (by decide) ?_
    exact m_iret (ty := .int) hR dX11_left_38 (⟨rfl, rfl⟩)
  · have hx0 := h
    obtain ⟨hx4, ex⟩ := hN_some hx
    subst ex
    refine m_aload_n dX11_left_0 rfl ?_
    refine m_iload_n dX11_left_1 rfl ?_
    refine m_callVRp (s_X11_heapAt hx4) cv_X11_136 dX11_left_2 ?_
    refine m_astore dX11_left_5 (Nat.le_of_ble_eq_true rfl) rfl ?_
    refine m_aload_n dX11_left_7 rfl ?_
    refine m_iload_n dX11_left_8 rfl ?_
    refine m_callVRp (s_X11_heapAtO (hN_none hy)) cv_X11_136 dX11_left_9 ?_
    refine m_astoreN dX11_left_12 (Nat.le_of_ble_eq_true rfl) rfl ?_
    refine m_aload_n dX11_left_14 rfl ?_
    refine m_iload_n dX11_left_15 rfl ?_
    refine m_callVRp (s_X11_heapAtO (hN_none hz)) cv_X11_136 dX11_left_16 ?_
    refine m_astoreN dX11_left_19 (Nat.le_of_ble_eq_true rfl) rfl ?_
    refine m_aload dX11_left_21 rfl ?_
    refine m_ifnull dX11_left_23 ?_
    refine m_aloadN dX11_left_26 rfl ?_
    refine m_ifnullN 36 dX11_left_28 (by decide) ?_
    refine m_bipush (v := -2) dX11_left_36 (by decide) ?_
    exact m_iret (ty := .int) hR dX11_left_38 (⟨rfl, rfl⟩)
  · have hx0 := h
    obtain ⟨hx4, ex⟩ := hN_some hx
    subst ex
    obtain ⟨hz4, ez⟩ := hN_some hz
    subst ez
    refine m_aload_n dX11_left_0 rfl ?_
    refine m_iload_n dX11_left_1 rfl ?_
    refine m_callVRp (s_X11_heapAt hx4) cv_X11_136 dX11_left_2 ?_
    refine m_astore dX11_left_5 (Nat.le_of_ble_eq_true rfl) rfl ?_
    refine m_aload_n dX11_left_7 rfl ?_
    refine m_iload_n dX11_left_8 rfl ?_
    refine m_callVRp (s_X11_heapAtO (hN_none hy)) cv_X11_136 dX11_left_9 ?_
    refine m_astoreN dX11_left_12 (Nat.le_of_ble_eq_true rfl) rfl ?_
    refine m_aload_n dX11_left_14 rfl ?_
    refine m_iload_n dX11_left_15 rfl ?_
    refine m_callVRp (s_X11_heapAt hz4) cv_X11_136 dX11_left_16 ?_
    refine m_astore dX11_left_19 (Nat.le_of_ble_eq_true rfl) rfl ?_
    refine m_aload dX11_left_21 rfl ?_
    refine m_ifnull dX11_left_23 ?_
    refine m_aloadN dX11_left_26 rfl ?_
    refine m_ifnullN 36 dX11_left_28 (by decide) ?_
    refine m_bipush (v := -2) dX11_left_36 (by decide) ?_
    exact m_iret (ty := .int) hR dX11_left_38 (⟨rfl, rfl⟩)
  · have hx0 := h
    obtain ⟨hx4, ex⟩ := hN_some hx
    subst ex
    obtain ⟨hy4, ey⟩ := hN_some hy
    subst ey
    refine m_aload_n dX11_left_0 rfl ?_
    refine m_iload_n dX11_left_1 rfl ?_
    refine m_callVRp (s_X11_heapAt hx4) cv_X11_136 dX11_left_2 ?_
    refine m_astore dX11_left_5 (Nat.le_of_ble_eq_true rfl) rfl ?_
    refine m_aload_n dX11_left_7 rfl ?_
    refine m_iload_n dX11_left_8 rfl ?_
    refine m_callVRp (s_X11_heapAt hy4) cv_X11_136 dX11_left_9 ?_
    refine m_astore dX11_left_12 (Nat.le_of_ble_eq_true rfl) rfl ?_
    refine m_aload_n dX11_left_14 rfl ?_
    refine m_iload_n dX11_left_15 rfl ?_
    refine m_callVRp (s_X11_heapAtO (hN_none hz)) cv_X11_136 dX11_left_16 ?_
    refine m_astoreN dX11_left_19 (Nat.le_of_ble_eq_true rfl) rfl ?_
    refine m_aload dX11_left_21 rfl ?_
    refine m_ifnull dX11_left_23 ?_
    refine m_aload dX11_left_26 rfl ?_
    refine m_ifnull dX11_left_28 ?_
    refine m_aloadN dX11_left_31 rfl ?_
    refine m_ifnonnullN dX11_left_33 ?_
    refine m_bipush (v := -2) dX11_left_36 (by decide) ?_
    exact m_iret (ty := .int) hR dX11_left_38 (⟨rfl, rfl⟩)
  · rcases h with h | h | h
    · rw [hx] at h; cases h
    · rw [hy] at h; cases h
    · rw [hz] at h; cases h
theorem s_X11_sharedO (h : hN x = none ∨ hN y = none ∨ hN z = none) : mSpecI l W mX11_shared (dep + 1) [.ref (xad W 0), .int x, .int y, .int z] d (fun r d' => r = -2 ∧ d' = d) := by
  refine m_spec RX11 [some (.ref (xad W 0)), some (.int x), some (.int y), some (.int z), none, none, none] rfl (by decide +kernel) rfl rfl (fun K hR => ?_)
  cases hx : hN x <;> cases hy : hN y <;> cases hz : hN z
  · have hx0 := h
    refine m_aload_n dX11_shared_0 rfl ?_
    refine m_iload_n dX11_shared_1 rfl ?_
    refine m_callVRp (s_X11_heapAtO (hN_none hx)) cv_X11_136 dX11_shared_2 ?_
    refine m_astoreN dX11_shared_5 (Nat.le_of_ble_eq_true rfl) rfl ?_
    refine m_aload_n dX11_shared_7 rfl ?_
    refine m_iload_n dX11_shared_8 rfl ?_
    refine m_callVRp (s_X11_heapAtO (hN_none hy)) cv_X11_136 dX11_shared_9 ?_
    refine m_astoreN dX11_shared_12 (Nat.le_of_ble_eq_true rfl) rfl ?_
    refine m_aload_n dX11_shared_14 rfl ?_
    refine m_iload_n dX11_shared_15 rfl ?_
    refine m_callVRp (s_X11_heapAtO (hN_none hz)) cv_X11_136 dX11_shared_16 ?_
    refine m_astoreN dX11_shared_19 (Nat.le_of_ble_eq_true rfl) rfl ?_
    refine m_aloadN dX11_shared_21 rfl ?_
    refine m_ifnullN 36 dX11_shared_23 (by decide) ?_
    refine m_bipush (v := -2) dX11_shared_36 (by decide) ?_
    exact m_iret (ty := .int) hR dX11_shared_38 (⟨rfl, rfl⟩)
  · have hx0 := h
    obtain ⟨hz4, ez⟩ := hN_some hz
    subst ez
    refine m_aload_n dX11_shared_0 rfl ?_
    refine m_iload_n dX11_shared_1 rfl ?_
    refine m_callVRp (s_X11_heapAtO (hN_none hx)) cv_X11_136 dX11_shared_2 ?_
    refine m_astoreN dX11_shared_5 (Nat.le_of_ble_eq_true rfl) rfl ?_
    refine m_aload_n dX11_shared_7 rfl ?_
    refine m_iload_n dX11_shared_8 rfl ?_
    refine m_callVRp (s_X11_heapAtO (hN_none hy)) cv_X11_136 dX11_shared_9 ?_
    refine m_astoreN dX11_shared_12 (Nat.le_of_ble_eq_true rfl) rfl ?_
    refine m_aload_n dX11_shared_14 rfl ?_
    refine m_iload_n dX11_shared_15 rfl ?_
    refine m_callVRp (s_X11_heapAt hz4) cv_X11_136 dX11_shared_16 ?_
    refine m_astore dX11_shared_19 (Nat.le_of_ble_eq_true rfl) rfl ?_
    refine m_aloadN dX11_shared_21 rfl ?_
    refine m_ifnullN 36 dX11_shared_23 (by decide) ?_
    refine m_bipush (v := -2) dX11_shared_36 (by decide) ?_
    exact m_iret (ty := .int) hR dX11_shared_38 (⟨rfl, rfl⟩)
  · have hx0 := h
    obtain ⟨hy4, ey⟩ := hN_some hy
    subst ey
    refine m_aload_n dX11_shared_0 rfl ?_
    refine m_iload_n dX11_shared_1 rfl ?_
    refine m_callVRp (s_X11_heapAtO (hN_none hx)) cv_X11_136 dX11_shared_2 ?_
    refine m_astoreN dX11_shared_5 (Nat.le_of_ble_eq_true rfl) rfl ?_
    refine m_aload_n dX11_shared_7 rfl ?_
    refine m_iload_n dX11_shared_8 rfl ?_
    refine m_callVRp (s_X11_heapAt hy4) cv_X11_136 dX11_shared_9 ?_
    refine m_astore dX11_shared_12 (Nat.le_of_ble_eq_true rfl) rfl ?_
    refine m_aload_n dX11_shared_14 rfl ?_
    refine m_iload_n dX11_shared_15 rfl ?_
    refine m_callVRp (s_X11_heapAtO (hN_none hz)) cv_X11_136 dX11_shared_16 ?_
    refine m_astoreN dX11_shared_19 (Nat.le_of_ble_eq_true rfl) rfl ?_
    refine m_aloadN dX11_shared_21 rfl ?_
    refine m_ifnullN 36 dX11_shared_23 (by decide) ?_
    refine m_bipush (v := -2) dX11_shared_36 (by decide) ?_
    exact m_iret (ty := .int) hR dX11_shared_38 (⟨rfl, rfl⟩)
  · have hx0 := h
    obtain ⟨hy4, ey⟩ := hN_some hy
    subst ey
    obtain ⟨hz4, ez⟩ := hN_some hz
    subst ez
    refine m_aload_n dX11_shared_0 rfl ?_
    refine m_iload_n dX11_shared_1 rfl ?_
    refine m_callVRp (s_X11_heapAtO (hN_none hx)) cv_X11_136 dX11_shared_2 ?_
    refine m_astoreN dX11_shared_5 (Nat.le_of_ble_eq_true rfl) rfl ?_
    refine m_aload_n dX11_shared_7 rfl ?_
    refine m_iload_n dX11_shared_8 rfl ?_
    refine m_callVRp (s_X11_heapAt hy4) cv_X11_136 dX11_shared_9 ?_
    refine m_astore dX11_shared_12 (Nat.le_of_ble_eq_true rfl) rfl ?_
    refine m_aload_n dX11_shared_14 rfl ?_
    refine m_iload_n dX11_shared_15 rfl ?_
    refine m_callVRp (s_X11_heapAt hz4) cv_X11_136 dX11_shared_16 ?_
    refine m_astore dX11_shared_19 (Nat.le_of_ble_eq_true rfl) rfl ?_
    refine m_aloadN dX11_shared_21 rfl ?_
    refine m_ifnullN 36 dX11_shared_23 (by decide) ?_
    refine m_bipush (v := -2) dX11_shared_36 (by decide) ?_
    exact m_iret (ty := .int) hR dX11_shared_38 (⟨rfl, rfl⟩)
  · have hx0 := h
    obtain ⟨hx4, ex⟩ := hN_some hx
    subst ex
    refine m_aload_n dX11_shared_0 rfl ?_
    refine m_iload_n dX11_shared_1 rfl ?_
    refine m_callVRp (s_X11_heapAt hx4) cv_X11_136 dX11_shared_2 ?_
    refine m_astore dX11_shared_5 (Nat.le_of_ble_eq_true rfl) rfl ?_
    refine m_aload_n dX11_shared_7 rfl ?_
    refine m_iload_n dX11_shared_8 rfl ?_
    refine m_callVRp (s_X11_heapAtO (hN_none hy)) cv_X11_136 dX11_shared_9 ?_
    refine m_astoreN dX11_shared_12 (Nat.le_of_ble_eq_true rfl) rfl ?_
    refine m_aload_n dX11_shared_14 rfl ?_
    refine m_iload_n dX11_shared_15 rfl ?_
    refine m_callVRp (s_X11_heapAtO (hN_none hz)) cv_X11_136 dX11_shared_16 ?_
    refine m_astoreN dX11_shared_19 (Nat.le_of_ble_eq_true rfl) rfl ?_
    refine m_aload dX11_shared_21 rfl ?_
    refine m_ifnull dX11_shared_23 ?_
    refine m_aloadN dX11_shared_26 rfl ?_
    refine m_ifnullN 36 dX11_shared_28 (by decide) ?_
    refine m_bipush (v := -2) dX11_shared_36 (by decide) ?_
    exact m_iret (ty := .int) hR dX11_shared_38 (⟨rfl, rfl⟩)
  · have hx0 := h
    obtain ⟨hx4, ex⟩ := hN_some hx
    subst ex
    obtain ⟨hz4, ez⟩ := hN_some hz
    subst ez
    refine m_aload_n dX11_shared_0 rfl ?_
    refine m_iload_n dX11_shared_1 rfl ?_
    refine m_callVRp (s_X11_heapAt hx4) cv_X11_136 dX11_shared_2 ?_
    refine m_astore dX11_shared_5 (Nat.le_of_ble_eq_true rfl) rfl ?_
    refine m_aload_n dX11_shared_7 rfl ?_
    refine m_iload_n dX11_shared_8 rfl ?_
    refine m_callVRp (s_X11_heapAtO (hN_none hy)) cv_X11_136 dX11_shared_9 ?_
    refine m_astoreN dX11_shared_12 (Nat.le_of_ble_eq_true rfl) rfl ?_
    refine m_aload_n dX11_shared_14 rfl ?_
    refine m_iload_n dX11_shared_15 rfl ?_
    refine m_callVRp (s_X11_heapAt hz4) cv_X11_136 dX11_shared_16 ?_
    refine m_astore dX11_shared_19 (Nat.le_of_ble_eq_true rfl) rfl ?_
    refine m_aload dX11_shared_21 rfl ?_
    refine m_ifnull dX11_shared_23 ?_
    refine m_aloadN dX11_shared_26 rfl ?_
    refine m_ifnullN 36 dX11_shared_28 (by decide) ?_
    refine m_bipush (v := -2) dX11_shared_36 (by decide) ?_
    exact m_iret (ty := .int) hR dX11_shared_38 (⟨rfl, rfl⟩)
  · have hx0 := h
    obtain ⟨hx4, ex⟩ := hN_some hx
    subst ex
    obtain ⟨hy4, ey⟩ := hN_some hy
    subst ey
    refine m_aload_n dX11_shared_0 rfl ?_
    refine m_iload_n dX11_shared_1 rfl ?_
    refine m_callVRp (s_X11_heapAt hx4) cv_X11_136 dX11_shared_2 ?_
    refine m_astore dX11_shared_5 (Nat.le_of_ble_eq_true rfl) rfl ?_
    refine m_aload_n dX11_shared_7 rfl ?_
    refine m_iload_n dX11_shared_8 rfl ?_
    refine m_callVRp (s_X11_heapAt hy4) cv_X11_136 dX11_shared_9 ?_
    refine m_astore dX11_shared_12 (Nat.le_of_ble_eq_true rfl) rfl ?_
    refine m_aload_n dX11_shared_14 rfl ?_
    refine m_iload_n dX11_shared_15 rfl ?_
    refine m_callVRp (s_X11_heapAtO (hN_none hz)) cv_X11_136 dX11_shared_16 ?_
    refine m_astoreN dX11_shared_19 (Nat.le_of_ble_eq_true rfl) rfl ?_
    refine m_aload dX11_shared_21 rfl ?_
    refine m_ifnull dX11_shared_23 ?_
    refine m_aload dX11_shared_26 rfl ?_
    refine m_ifnull dX11_shared_28 ?_
    refine m_aloadN dX11_shared_31 rfl ?_
    refine m_ifnonnullN dX11_shared_33 ?_
    refine m_bipush (v := -2) dX11_shared_36 (by decide) ?_
    exact m_iret (ty := .int) hR dX11_shared_38 (⟨rfl, rfl⟩)
  · rcases h with h | h | h
    · rw [hx] at h; cases h
    · rw [hy] at h; cases h
    · rw [hz] at h; cases h
theorem s_X11_bothO (h : hN x = none ∨ hN y = none ∨ hN z = none) : mSpecI l W mX11_both (dep + 1) [.ref (xad W 0), .int x, .int y, .int z] d (fun r d' => r = -2 ∧ d' = d) := by
  refine m_spec RX11 [some (.ref (xad W 0)), some (.int x), some (.int y), some (.int z), none, none, none] rfl (by decide +kernel) rfl rfl (fun K hR => ?_)
  cases hx : hN x <;> cases hy : hN y <;> cases hz : hN z
  · have hx0 := h
    refine m_aload_n dX11_both_0 rfl ?_
    refine m_iload_n dX11_both_1 rfl ?_
    refine m_callVRp (s_X11_heapAtO (hN_none hx)) cv_X11_136 dX11_both_2 ?_
    refine m_astoreN dX11_both_5 (Nat.le_of_ble_eq_true rfl) rfl ?_
    refine m_aload_n dX11_both_7 rfl ?_
    refine m_iload_n dX11_both_8 rfl ?_
    refine m_callVRp (s_X11_heapAtO (hN_none hy)) cv_X11_136 dX11_both_9 ?_
    refine m_astoreN dX11_both_12 (Nat.le_of_ble_eq_true rfl) rfl ?_
    refine m_aload_n dX11_both_14 rfl ?_
    refine m_iload_n dX11_both_15 rfl ?_
    refine m_callVRp (s_X11_heapAtO (hN_none hz)) cv_X11_136 dX11_both_16 ?_
    refine m_astoreN dX11_both_19 (Nat.le_of_ble_eq_true rfl) rfl ?_
    refine m_aloadN dX11_both_21 rfl ?_
    refine m_ifnullN 36 dX11_both_23 (by decide) ?_
    refine m_bipush (v := -2) dX11_both_36 (by decide) ?_
    exact m_iret (ty := .int) hR dX11_both_38 (⟨rfl, rfl⟩)
  · have hx0 := h
    obtain ⟨hz4, ez⟩ := hN_some hz
    subst ez
    refine m_aload_n dX11_both_0 rfl ?_
    refine m_iload_n dX11_both_1 rfl ?_
    refine m_callVRp (s_X11_heapAtO (hN_none hx)) cv_X11_136 dX11_both_2 ?_
    refine m_astoreN dX11_both_5 (Nat.le_of_ble_eq_true rfl) rfl ?_
    refine m_aload_n dX11_both_7 rfl ?_
    refine m_iload_n dX11_both_8 rfl ?_
    refine m_callVRp (s_X11_heapAtO (hN_none hy)) cv_X11_136 dX11_both_9 ?_
    refine m_astoreN dX11_both_12 (Nat.le_of_ble_eq_true rfl) rfl ?_
    refine m_aload_n dX11_both_14 rfl ?_
    refine m_iload_n dX11_both_15 rfl ?_
    refine m_callVRp (s_X11_heapAt hz4) cv_X11_136 dX11_both_16 ?_
    refine m_astore dX11_both_19 (Nat.le_of_ble_eq_true rfl) rfl ?_
    refine m_aloadN dX11_both_21 rfl ?_
    refine m_ifnullN 36 dX11_both_23 (by decide) ?_
    refine m_bipush (v := -2) dX11_both_36 (by decide) ?_
    exact m_iret (ty := .int) hR dX11_both_38 (⟨rfl, rfl⟩)
  · have hx0 := h
    obtain ⟨hy4, ey⟩ := hN_some hy
    subst ey
    refine m_aload_n dX11_both_0 rfl ?_
    refine m_iload_n dX11_both_1 rfl ?_
    refine m_callVRp (s_X11_heapAtO (hN_none hx)) cv_X11_136 dX11_both_2 ?_
    refine m_astoreN dX11_both_5 (Nat.le_of_ble_eq_true rfl) rfl ?_
    refine m_aload_n dX11_both_7 rfl ?_
    refine m_iload_n dX11_both_8 rfl ?_
    refine m_callVRp (s_X11_heapAt hy4) cv_X11_136 dX11_both_9 ?_
    refine m_astore dX11_both_12 (Nat.le_of_ble_eq_true rfl) rfl ?_
    refine m_aload_n dX11_both_14 rfl ?_
    refine m_iload_n dX11_both_15 rfl ?_
    refine m_callVRp (s_X11_heapAtO (hN_none hz)) cv_X11_136 dX11_both_16 ?_
    refine m_astoreN dX11_both_19 (Nat.le_of_ble_eq_true rfl) rfl ?_
    refine m_aloadN dX11_both_21 rfl ?_
    refine m_ifnullN 36 dX11_both_23 (by decide) ?_
    refine m_bipush (v := -2) dX11_both_36 (by decide) ?_
    exact m_iret (ty := .int) hR dX11_both_38 (⟨rfl, rfl⟩)
  · have hx0 := h
    obtain ⟨hy4, ey⟩ := hN_some hy
    subst ey
    obtain ⟨hz4, ez⟩ := hN_some hz
    subst ez
    refine m_aload_n dX11_both_0 rfl ?_
    refine m_iload_n dX11_both_1 rfl ?_
    refine m_callVRp (s_X11_heapAtO (hN_none hx)) cv_X11_136 dX11_both_2 ?_
    refine m_astoreN dX11_both_5 (Nat.le_of_ble_eq_true rfl) rfl ?_
    refine m_aload_n dX11_both_7 rfl ?_
    refine m_iload_n dX11_both_8 rfl ?_
    refine m_callVRp (s_X11_heapAt hy4) cv_X11_136 dX11_both_9 ?_
    refine m_astore dX11_both_12 (Nat.le_of_ble_eq_true rfl) rfl ?_
    refine m_aload_n dX11_both_14 rfl ?_
    refine m_iload_n dX11_both_15 rfl ?_
    refine m_callVRp (s_X11_heapAt hz4) cv_X11_136 dX11_both_16 ?_
    refine m_astore dX11_both_19 (Nat.le_of_ble_eq_true rfl) rfl ?_
    refine m_aloadN dX11_both_21 rfl ?_
    refine m_ifnullN 36 dX11_both_23 (by decide) ?_
    refine m_bipush (v := -2) dX11_both_36 (by decide) ?_
    exact m_iret (ty := .int) hR dX11_both_38 (⟨rfl, rfl⟩)
  · have hx0 := h
    obtain ⟨hx4, ex⟩ := hN_some hx
    subst ex
    refine m_aload_n dX11_both_0 rfl ?_
    refine m_iload_n dX11_both_1 rfl ?_
    refine m_callVRp (s_X11_heapAt hx4) cv_X11_136 dX11_both_2 ?_
    refine m_astore dX11_both_5 (Nat.le_of_ble_eq_true rfl) rfl ?_
    refine m_aload_n dX11_both_7 rfl ?_
    refine m_iload_n dX11_both_8 rfl ?_
    refine m_callVRp (s_X11_heapAtO (hN_none hy)) cv_X11_136 dX11_both_9 ?_
    refine m_astoreN dX11_both_12 (Nat.le_of_ble_eq_true rfl) rfl ?_
    refine m_aload_n dX11_both_14 rfl ?_
    refine m_iload_n dX11_both_15 rfl ?_
    refine m_callVRp (s_X11_heapAtO (hN_none hz)) cv_X11_136 dX11_both_16 ?_
    refine m_astoreN dX11_both_19 (Nat.le_of_ble_eq_true rfl) rfl ?_
    refine m_aload dX11_both_21 rfl ?_
    refine m_ifnull dX11_both_23 ?_
    refine m_aloadN dX11_both_26 rfl ?_
    refine m_ifnullN 36 dX11_both_28 (by decide) ?_
    refine m_bipush (v := -2) dX11_both_36 (by decide) ?_
    exact m_iret (ty := .int) hR dX11_both_38 (⟨rfl, rfl⟩)
  · have hx0 := h
    obtain ⟨hx4, ex⟩ := hN_some hx
    subst ex
    obtain ⟨hz4, ez⟩ := hN_some hz
    subst ez
    refine m_aload_n dX11_both_0 rfl ?_
    refine m_iload_n dX11_both_1 rfl ?_
    refine m_callVRp (s_X11_heapAt hx4) cv_X11_136 dX11_both_2 ?_
    refine m_astore dX11_both_5 (Nat.le_of_ble_eq_true rfl) rfl ?_
    refine m_aload_n dX11_both_7 rfl ?_
    refine m_iload_n dX11_both_8 rfl ?_
    refine m_callVRp (s_X11_heapAtO (hN_none hy)) cv_X11_136 dX11_both_9 ?_
    refine m_astoreN dX11_both_12 (Nat.le_of_ble_eq_true rfl) rfl ?_
    refine m_aload_n dX11_both_14 rfl ?_
    refine m_iload_n dX11_both_15 rfl ?_
    refine m_callVRp (s_X11_heapAt hz4) cv_X11_136 dX11_both_16 ?_
    refine m_astore dX11_both_19 (Nat.le_of_ble_eq_true rfl) rfl ?_
    refine m_aload dX11_both_21 rfl ?_
    refine m_ifnull dX11_both_23 ?_
    refine m_aloadN dX11_both_26 rfl ?_
    refine m_ifnullN 36 dX11_both_28 (by decide) ?_
    refine m_bipush (v := -2) dX11_both_36 (by decide) ?_
    exact m_iret (ty := .int) hR dX11_both_38 (⟨rfl, rfl⟩)
  · have hx0 := h
    obtain ⟨hx4, ex⟩ := hN_some hx
    subst ex
    obtain ⟨hy4, ey⟩ := hN_some hy
    subst ey
    refine m_aload_n dX11_both_0 rfl ?_
    refine m_iload_n dX11_both_1 rfl ?_
    refine m_callVRp (s_X11_heapAt hx4) cv_X11_136 dX11_both_2 ?_
    refine m_astore dX11_both_5 (Nat.le_of_ble_eq_true rfl) rfl ?_
    refine m_aload_n dX11_both_7 rfl ?_
    refine m_iload_n dX11_both_8 rfl ?_
    refine m_callVRp (s_X11_heapAt hy4) cv_X11_136 dX11_both_9 ?_
    refine m_astore dX11_both_12 (Nat.le_of_ble_eq_true rfl) rfl ?_
    refine m_aload_n dX11_both_14 rfl ?_
    refine m_iload_n dX11_both_15 rfl ?_
    refine m_callVRp (s_X11_heapAtO (hN_none hz)) cv_X11_136 dX11_both_16 ?_
    refine m_astoreN dX11_both_19 (Nat.le_of_ble_eq_true rfl) rfl ?_
    refine m_aload dX11_both_21 rfl ?_
    refine m_ifnull dX11_both_23 ?_
    refine m_aload dX11_both_26 rfl ?_
    refine m_ifnull dX11_both_28 ?_
    refine m_aloadN dX11_both_31 rfl ?_
    refine m_ifnonnullN dX11_both_33 ?_
    refine m_bipush (v := -2) dX11_both_36 (by decide) ?_
    exact m_iret (ty := .int) hR dX11_both_38 (⟨rfl, rfl⟩)
  · rcases h with h | h | h
    · rw [hx] at h; cases h
    · rw [hy] at h; cases h
    · rw [hz] at h; cases h
theorem s_X11_same (hx : hN x = some n) (hy : hN y = some n2) (hs : stIs d σ) : mSpecI l W mX11_same (dep + 5) [.ref (xad W 0), .int x, .int y] d (fun r d' => r = (if eqvB σ.1 σ.2.1 (σ.2.2 n) (σ.2.2 n2) = true then 1 else 0) ∧ d' = d) := by
  obtain ⟨hn, rfl⟩ := hN_some hx
  obtain ⟨hn2, rfl⟩ := hN_some hy
  have hn13 : n < 13 := by omega
  have hn213 : n2 < 13 := by omega
  refine m_spec RX11 [some (.ref (xad W 0)), some (.int (nI n)), some (.int (nI n2)), none, none] rfl (by decide +kernel) rfl rfl (fun K hR => ?_)
  refine m_aload_n dX11_same_0 rfl ?_
  refine m_iload_n dX11_same_1 rfl ?_
  refine m_callVRp (s_X11_heapAt hn) cv_X11_136 dX11_same_2 ?_
  refine m_astore_n dX11_same_5 (Nat.le_of_ble_eq_true rfl) rfl ?_
  refine m_aload_n dX11_same_6 rfl ?_
  refine m_iload_n dX11_same_7 rfl ?_
  refine m_callVRp (s_X11_heapAt hn2) cv_X11_136 dX11_same_8 ?_
  refine m_astore dX11_same_11 (Nat.le_of_ble_eq_true rfl) rfl ?_
  refine m_aload_n dX11_same_13 rfl ?_
  refine m_ifnull dX11_same_14 ?_
  refine m_aload dX11_same_17 rfl ?_
  refine m_ifnonnull 25 dX11_same_19 (by decide) ?_
  refine m_aload_n dX11_same_25 rfl ?_
  refine m_get fl_X11_48 (by decide) rfl rfl dX11_same_26 ?_
  refine m_aload_n dX11_same_29 rfl ?_
  refine m_aload dX11_same_30 rfl ?_
  refine m_callVIp (s_X2_areOne hs.1 hn13 (hs.2 n hn).1 hn213 (hs.2 n2 hn2).1) cv_X11_152 dX11_same_32 ?_
  refine m_callSIp (s_X11_yes (eqvB σ.1 σ.2.1 (σ.2.2 n) (σ.2.2 n2))) cs_X11_128 dX11_same_35 ?_
  exact m_iret (ty := .int) hR dX11_same_38 (⟨rfl, rfl⟩)
theorem s_X11_apart (hx : hN x = some n) (hy : hN y = some n2) (hs : stIs d σ) : mSpecI l W mX11_apart (dep + 4) [.ref (xad W 0), .int x, .int y] d (fun r d' => apIs σ.1 (unl σ.1 σ.2.1 (σ.2.2 n) (σ.2.2 n2)) r ∧ d' = d) := by
  obtain ⟨hn, rfl⟩ := hN_some hx
  obtain ⟨hn2, rfl⟩ := hN_some hy
  have hn13 : n < 13 := by omega
  have hn213 : n2 < 13 := by omega
  refine m_spec RX11 [some (.ref (xad W 0)), some (.int (nI n)), some (.int (nI n2)), none, none] rfl (by decide +kernel) rfl rfl (fun K hR => ?_)
  refine m_aload_n dX11_apart_0 rfl ?_
  refine m_iload_n dX11_apart_1 rfl ?_
  refine m_callVRp (s_X11_heapAt hn) cv_X11_136 dX11_apart_2 ?_
  refine m_astore_n dX11_apart_5 (Nat.le_of_ble_eq_true rfl) rfl ?_
  refine m_aload_n dX11_apart_6 rfl ?_
  refine m_iload_n dX11_apart_7 rfl ?_
  refine m_callVRp (s_X11_heapAt hn2) cv_X11_136 dX11_apart_8 ?_
  refine m_astore dX11_apart_11 (Nat.le_of_ble_eq_true rfl) rfl ?_
  refine m_aload_n dX11_apart_13 rfl ?_
  refine m_ifnull dX11_apart_14 ?_
  refine m_aload dX11_apart_17 rfl ?_
  refine m_ifnonnull 25 dX11_apart_19 (by decide) ?_
  refine m_aload_n dX11_apart_25 rfl ?_
  refine m_get fl_X11_48 (by decide) rfl rfl dX11_apart_26 ?_
  refine m_aload_n dX11_apart_29 rfl ?_
  refine m_aload dX11_apart_30 rfl ?_
  refine m_callVI (s_X2_firstUnlikeLook hs.1 hn13 (hs.2 n hn).1 hn213 (hs.2 n2 hn2).1) cv_X11_156 dX11_apart_32 (fun r32 d32 h32 => ?_)
  exact m_iret (ty := .int) hR dX11_apart_35 (h32)
theorem s_X11_turnedL (hx : hN x = some n) (hy : hN y = some n2) (hs : stIs d σ) (hl : ¬ (σ.2.2 n).length ≤ 12) : mSpecI l W mX11_turned (dep + 1) [.ref (xad W 0), .int x, .int y] d (fun r d' => r = -3 ∧ d' = d) := by
  obtain ⟨hn, rfl⟩ := hN_some hx
  obtain ⟨hn2, rfl⟩ := hN_some hy
  have hn13 : n < 13 := by omega
  have h24 := (hs.2 n hn).1.1
  refine m_spec RX11 [some (.ref (xad W 0)), some (.int (nI n)), some (.int (nI n2)), none, none] rfl (by decide +kernel) rfl rfl (fun K hR => ?_)
  refine m_aload_n dX11_turned_0 rfl ?_
  refine m_iload_n dX11_turned_1 rfl ?_
  refine m_callVRp (s_X11_heapAt hn) cv_X11_136 dX11_turned_2 ?_
  refine m_astore_n dX11_turned_5 (Nat.le_of_ble_eq_true rfl) rfl ?_
  refine m_aload_n dX11_turned_6 rfl ?_
  refine m_iload_n dX11_turned_7 rfl ?_
  refine m_callVRp (s_X11_heapAt hn2) cv_X11_136 dX11_turned_8 ?_
  refine m_astore dX11_turned_11 (Nat.le_of_ble_eq_true rfl) rfl ?_
  refine m_aload_n dX11_turned_13 rfl ?_
  refine m_ifnull dX11_turned_14 ?_
  refine m_aload dX11_turned_17 rfl ?_
  refine m_ifnonnull 25 dX11_turned_19 (by decide) ?_
  refine m_aload_n dX11_turned_25 rfl ?_
  refine m_callVIp (s_X9_length hn13 (hs.2 n hn).1) cv_X11_142 dX11_turned_26 ?_
  refine m_bipushN 12 dX11_turned_29 (by decide) ?_
  first | refine m_icmp_leN 37 dX11_turned_31 (by decide) (by omega) (by omega) (fun c31 => by exfalso; omega) (fun c31 => ?_) | refine m_icmp_le 37 dX11_turned_31 (by decide) (fun c31 => by exfalso; omega) (fun c31 => ?_)
  refine m_bipush (v := -3) dX11_turned_34 (by decide) ?_
  exact m_iret (ty := .int) hR dX11_turned_36 (⟨rfl, rfl⟩)
theorem s_X11_turned (hx : hN x = some n) (hy : hN y = some n2) (hs : stIs d σ) (hl : (σ.2.2 n).length ≤ 12) : mSpecI l W mX11_turned (dep + 6) [.ref (xad W 0), .int x, .int y] d (fun r d' => r = (match circF (bw σ.1 σ.2.1) σ.1 2000 0 [leastR (bw σ.1 σ.2.1) (σ.2.2 n)] with | some rs => if (σ.2.2 n2).length ≤ 12 ∧ leastR (bw σ.1 σ.2.1) (σ.2.2 n2) ∈ rs then 1 else 0 | none => -6) ∧ chg circS d d') := by
  obtain ⟨hn, rfl⟩ := hN_some hx
  obtain ⟨hn2, rfl⟩ := hN_some hy
  have hn13 : n < 13 := by omega
  have hn213 : n2 < 13 := by omega
  have hcS : ∀ j, j < 4 → j + 4 ∉ circS ∧ j + 17 ∉ circS := by decide
  refine m_spec RX11 [some (.ref (xad W 0)), some (.int (nI n)), some (.int (nI n2)), none, none] rfl (by decide +kernel) rfl rfl (fun K hR => ?_)
  refine m_aload_n dX11_turned_0 rfl ?_
  refine m_iload_n dX11_turned_1 rfl ?_
  refine m_callVRp (s_X11_heapAt hn) cv_X11_136 dX11_turned_2 ?_
  refine m_astore_n dX11_turned_5 (Nat.le_of_ble_eq_true rfl) rfl ?_
  refine m_aload_n dX11_turned_6 rfl ?_
  refine m_iload_n dX11_turned_7 rfl ?_
  refine m_callVRp (s_X11_heapAt hn2) cv_X11_136 dX11_turned_8 ?_
  refine m_astore dX11_turned_11 (Nat.le_of_ble_eq_true rfl) rfl ?_
  refine m_aload_n dX11_turned_13 rfl ?_
  refine m_ifnull dX11_turned_14 ?_
  refine m_aload dX11_turned_17 rfl ?_
  refine m_ifnonnull 25 dX11_turned_19 (by decide) ?_
  refine m_aload_n dX11_turned_25 rfl ?_
  refine m_callVIp (s_X9_length hn13 (hs.2 n hn).1) cv_X11_142 dX11_turned_26 ?_
  refine m_bipushN 12 dX11_turned_29 (by decide) ?_
  first | refine m_icmp_leN 37 dX11_turned_31 (by decide) (by omega) (by omega) (fun c31 => ?_) (fun c31 => by exfalso; omega) | refine m_icmp_le 37 dX11_turned_31 (by decide) (fun c31 => ?_) (fun c31 => by exfalso; omega)
  refine m_aload_n dX11_turned_37 rfl ?_
  refine m_get fl_X11_73 (by decide) rfl rfl dX11_turned_38 ?_
  refine m_aload_n dX11_turned_41 rfl ?_
  refine m_callVI (s_X1_find hs.1 hn13 (by omega) (by omega) (hs.2 n hn).1 (hs.2 n hn).2 hl) cv_X11_207 dX11_turned_42 (fun r42 d42 h42 => ?_)
  refine m_if_eq 63 dX11_turned_45 (by decide) (fun c45 => ?_) (fun c45 => ?_)
  · refine m_bipush (v := -6) dX11_turned_63 (by decide) ?_
    have hno := h42.1.resolve_left (fun ⟨rs, q⟩ => by rw [q.2.1] at c45; exact absurd c45 (by decide))
    exact m_iret (ty := .int) hR dX11_turned_65 (⟨by rw [hno.1], h42.2⟩)
  · refine m_aload_n dX11_turned_48 rfl ?_
    refine m_get fl_X11_73 (by decide) rfl rfl dX11_turned_49 ?_
    refine m_aload dX11_turned_52 rfl ?_
    obtain ⟨rs, q1, q2, q3, q4⟩ := h42.1.resolve_right (fun q => c45 q.2)
    have hs5 : stIs d42 σ := hs.fr h42.2 (by decide) (by decide) hcS
    refine m_callVI (s_X1_holds hs5.1 q3 hn213 (by omega) (hs5.2 n2 hn2).1 (hs5.2 n2 hn2).2) cv_X11_209 dX11_turned_54 (fun r54 d54 h54 => ?_)
    obtain ⟨rfl, h54⟩ := h54
    refine m_eqi (show _ = (if decide ((σ.2.2 n2).length ≤ 12 ∧ leastR (bw σ.1 σ.2.1) (σ.2.2 n2) ∈ rs) = true then 1 else 0) by simp only [decide_eq_true_eq]) ?_
    refine m_callSIp (s_X11_yes (decide ((σ.2.2 n2).length ≤ 12 ∧ leastR (bw σ.1 σ.2.1) (σ.2.2 n2) ∈ rs))) cs_X11_128 dX11_turned_57 ?_
    refine m_goto 65 dX11_turned_60 (by decide) ?_
    exact m_iret (ty := .int) hR dX11_turned_65 (⟨by rw [q1]; simp only [decide_eq_true_eq], h42.2.tr (h54.mono (by decide))⟩)
end CAL
