/-! class SwapSteps: the calls with heaps -/
/-- the heap that an int names -/
def hN (x : Int32) : Option Nat := if x = nI 0 then some 0 else if x = nI 1 then some 1 else if x = nI 2 then some 2 else if x = nI 3 then some 3 else none
theorem hN_some {x : Int32} {n : Nat} (h : hN x = some n) : n < 4 ∧ x = nI n := by
  unfold hN at h
  split at h
  next e => cases h; exact ⟨by decide, e⟩
  · split at h
    next e => cases h; exact ⟨by decide, e⟩
    · split at h
      next e => cases h; exact ⟨by decide, e⟩
      · split at h
        next e => cases h; exact ⟨by decide, e⟩
        · cases h
theorem hN_none {x : Int32} (h : hN x = none) : x < 0 ∨ nI 4 ≤ x := by
  unfold hN at h
  by_cases e0 : x = nI 0
  · rw [if_pos e0] at h; cases h
  by_cases e1 : x = nI 1
  · rw [if_neg e0, if_pos e1] at h; cases h
  by_cases e2 : x = nI 2
  · rw [if_neg e0, if_neg e1, if_pos e2] at h; cases h
  by_cases e3 : x = nI 3
  · rw [if_neg e0, if_neg e1, if_neg e2, if_pos e3] at h; cases h
  have f : ∀ n : Nat, n < 4 → ¬ x = nI n → x.toInt ≠ (n : Int) := fun n hn hne z => hne (Int32.toInt_inj.mp (by rw [z, nI_toInt (by omega)]))
  have g0 := f 0 (by decide) e0
  have g1 := f 1 (by decide) e1
  have g2 := f 2 (by decide) e2
  have g3 := f 3 (by decide) e3
  have h4 : (nI 4).toInt = 4 := nI_toInt (by decide)
  have h0 : (0 : Int32).toInt = 0 := by decide
  rw [Int32.lt_iff_toInt_lt, Int32.le_iff_toInt_le, h4, h0]
  omega
section CAL
variable {l : Launch} {W : xW} {dep : Nat} {d : xD} {bs : List Nat} {σ : St}
def setH (σ : St) (n : Nat) (xs : List Nat) : St := (σ.1, σ.2.1, fun j => if j = n then xs else σ.2.2 j)
theorem stIs.fr {S : List Nat} {d' : xD} (h : stIs d σ) (hc : chg S d d') (h1 : 1 ∉ S) (h2 : 2 ∉ S) (hS : ∀ j, j < 4 → j + 4 ∉ S ∧ j + 17 ∉ S) : stIs d' σ := ⟨h.1.fr hc h1 h2, h.2.fr hc hS⟩
theorem stIs.put {S : List Nat} {d' : xD} {n : Nat} {xs : List Nat} (h : stIs d σ) (hr : rowIs d' n xs) (hx : ∀ x ∈ xs, x < σ.1) (hc : chg S d d') (h1 : 1 ∉ S) (h2 : 2 ∉ S) (hS : ∀ j, j < 4 → j ≠ n → j + 4 ∉ S ∧ j + 17 ∉ S) : stIs d' (setH σ n xs) := ⟨h.1.fr hc h1 h2, fun j hj => by
  show rowIs d' j (if j = n then xs else σ.2.2 j) ∧ ∀ x ∈ (if j = n then xs else σ.2.2 j), x < σ.1
  by_cases e : j = n
  · subst e; rw [if_pos rfl]; exact ⟨hr, hx⟩
  · rw [if_neg e]; exact ⟨(h.2 j hj).1.fr hc (hS j hj e).1 (hS j hj e).2, (h.2 j hj).2⟩⟩
theorem s_X11_clearO {x : Int32} (hx : hN x = none) : mSpecI l W mX11_clear (dep + 1) [.ref (xad W 0), .int x] d (fun r d' => r = -2 ∧ d' = d) := by
  refine m_spec RX11 [some (.ref (xad W 0)), some (.int x), none, none] rfl (by decide +kernel) rfl rfl (fun K hR => ?_)
  refine m_aload_n dX11_clear_0 rfl ?_
  refine m_iload_n dX11_clear_1 rfl ?_
  refine m_callVRp (s_X11_heapAtO (hN_none hx)) cv_X11_136 dX11_clear_2 ?_
  refine m_astore_nN dX11_clear_5 (Nat.le_of_ble_eq_true rfl) rfl ?_
  refine m_aload_nN dX11_clear_6 rfl ?_
  refine m_ifnonnullN dX11_clear_7 ?_
  refine m_bipush (v := -2) dX11_clear_10 (by decide) ?_
  exact m_iret (ty := .int) hR dX11_clear_12 (⟨rfl, rfl⟩)
theorem s_X11_mirrorO {x : Int32} (hx : hN x = none) : mSpecI l W mX11_mirror (dep + 1) [.ref (xad W 0), .int x] d (fun r d' => r = -2 ∧ d' = d) := by
  refine m_spec RX11 [some (.ref (xad W 0)), some (.int x), none] rfl (by decide +kernel) rfl rfl (fun K hR => ?_)
  refine m_aload_n dX11_mirror_0 rfl ?_
  refine m_iload_n dX11_mirror_1 rfl ?_
  refine m_callVRp (s_X11_heapAtO (hN_none hx)) cv_X11_136 dX11_mirror_2 ?_
  refine m_astore_nN dX11_mirror_5 (Nat.le_of_ble_eq_true rfl) rfl ?_
  refine m_aload_nN dX11_mirror_6 rfl ?_
  refine m_ifnonnullN dX11_mirror_7 ?_
  refine m_bipush (v := -2) dX11_mirror_10 (by decide) ?_
  exact m_iret (ty := .int) hR dX11_mirror_12 (⟨rfl, rfl⟩)
theorem s_X11_rootO {x : Int32} (hx : hN x = none) : mSpecI l W mX11_root (dep + 1) [.ref (xad W 0), .int x] d (fun r d' => r = -2 ∧ d' = d) := by
  refine m_spec RX11 [some (.ref (xad W 0)), some (.int x), none] rfl (by decide +kernel) rfl rfl (fun K hR => ?_)
  refine m_aload_n dX11_root_0 rfl ?_
  refine m_iload_n dX11_root_1 rfl ?_
  refine m_callVRp (s_X11_heapAtO (hN_none hx)) cv_X11_136 dX11_root_2 ?_
  refine m_astore_nN dX11_root_5 (Nat.le_of_ble_eq_true rfl) rfl ?_
  refine m_aload_nN dX11_root_6 rfl ?_
  refine m_ifnonnullN dX11_root_7 ?_
  refine m_bipush (v := -2) dX11_root_10 (by decide) ?_
  exact m_iret (ty := .int) hR dX11_root_12 (⟨rfl, rfl⟩)
theorem s_X11_circleO {x : Int32} (hx : hN x = none) : mSpecI l W mX11_circle (dep + 1) [.ref (xad W 0), .int x] d (fun r d' => r = -2 ∧ d' = d) := by
  refine m_spec RX11 [some (.ref (xad W 0)), some (.int x), none] rfl (by decide +kernel) rfl rfl (fun K hR => ?_)
  refine m_aload_n dX11_circle_0 rfl ?_
  refine m_iload_n dX11_circle_1 rfl ?_
  refine m_callVRp (s_X11_heapAtO (hN_none hx)) cv_X11_136 dX11_circle_2 ?_
  refine m_astore_nN dX11_circle_5 (Nat.le_of_ble_eq_true rfl) rfl ?_
  refine m_aload_nN dX11_circle_6 rfl ?_
  refine m_ifnonnullN dX11_circle_7 ?_
  refine m_bipush (v := -2) dX11_circle_10 (by decide) ?_
  exact m_iret (ty := .int) hR dX11_circle_12 (⟨rfl, rfl⟩)
theorem s_X11_placeO {x : Int32} (hx : hN x = none) : mSpecI l W mX11_place (dep + 1) [.ref (xad W 0), .int x] d (fun r d' => r = -2 ∧ d' = d) := by
  refine m_spec RX11 [some (.ref (xad W 0)), some (.int x), none] rfl (by decide +kernel) rfl rfl (fun K hR => ?_)
  refine m_aload_n dX11_place_0 rfl ?_
  refine m_iload_n dX11_place_1 rfl ?_
  refine m_callVRp (s_X11_heapAtO (hN_none hx)) cv_X11_136 dX11_place_2 ?_
  refine m_astore_nN dX11_place_5 (Nat.le_of_ble_eq_true rfl) rfl ?_
  refine m_aload_nN dX11_place_6 rfl ?_
  refine m_ifnonnullN dX11_place_7 ?_
  refine m_bipush (v := -2) dX11_place_10 (by decide) ?_
  exact m_iret (ty := .int) hR dX11_place_12 (⟨rfl, rfl⟩)
theorem s_X11_partO {x y0 : Int32} (hx : hN x = none) : mSpecI l W mX11_part (dep + 1) [.ref (xad W 0), .int x, .int y0] d (fun r d' => r = -2 ∧ d' = d) := by
  refine m_spec RX11 [some (.ref (xad W 0)), some (.int x), some (.int y0), none] rfl (by decide +kernel) rfl rfl (fun K hR => ?_)
  refine m_aload_n dX11_part_0 rfl ?_
  refine m_iload_n dX11_part_1 rfl ?_
  refine m_callVRp (s_X11_heapAtO (hN_none hx)) cv_X11_136 dX11_part_2 ?_
  refine m_astore_nN dX11_part_5 (Nat.le_of_ble_eq_true rfl) rfl ?_
  refine m_aload_nN dX11_part_6 rfl ?_
  refine m_ifnonnullN dX11_part_7 ?_
  refine m_bipush (v := -2) dX11_part_10 (by decide) ?_
  exact m_iret (ty := .int) hR dX11_part_12 (⟨rfl, rfl⟩)
theorem s_X11_layerO {x y0 : Int32} (hx : hN x = none) : mSpecI l W mX11_layer (dep + 1) [.ref (xad W 0), .int x, .int y0] d (fun r d' => r = -2 ∧ d' = d) := by
  refine m_spec RX11 [some (.ref (xad W 0)), some (.int x), some (.int y0), none] rfl (by decide +kernel) rfl rfl (fun K hR => ?_)
  refine m_aload_n dX11_layer_0 rfl ?_
  refine m_iload_n dX11_layer_1 rfl ?_
  refine m_callVRp (s_X11_heapAtO (hN_none hx)) cv_X11_136 dX11_layer_2 ?_
  refine m_astore_nN dX11_layer_5 (Nat.le_of_ble_eq_true rfl) rfl ?_
  refine m_aload_nN dX11_layer_6 rfl ?_
  refine m_ifnonnullN dX11_layer_7 ?_
  refine m_bipush (v := -2) dX11_layer_10 (by decide) ?_
  exact m_iret (ty := .int) hR dX11_layer_12 (⟨rfl, rfl⟩)
theorem s_X11_beginsO {x y0 : Int32} (hx : hN x = none) : mSpecI l W mX11_begins (dep + 1) [.ref (xad W 0), .int x, .int y0] d (fun r d' => r = -2 ∧ d' = d) := by
  refine m_spec RX11 [some (.ref (xad W 0)), some (.int x), some (.int y0), none] rfl (by decide +kernel) rfl rfl (fun K hR => ?_)
  refine m_aload_n dX11_begins_0 rfl ?_
  refine m_iload_n dX11_begins_1 rfl ?_
  refine m_callVRp (s_X11_heapAtO (hN_none hx)) cv_X11_136 dX11_begins_2 ?_
  refine m_astore_nN dX11_begins_5 (Nat.le_of_ble_eq_true rfl) rfl ?_
  refine m_aload_nN dX11_begins_6 rfl ?_
  refine m_ifnonnullN dX11_begins_7 ?_
  refine m_bipush (v := -2) dX11_begins_10 (by decide) ?_
  exact m_iret (ty := .int) hR dX11_begins_12 (⟨rfl, rfl⟩)
theorem s_X11_clear {x : Int32} {n : Nat} (hx : hN x = some n) (hs : stIs d σ) : mSpecI l W mX11_clear (dep + 1) [.ref (xad W 0), .int x] d (fun r d' => r = nI (σ.2.2 n).length ∧ stIs d' (setH σ n []) ∧ chg [n + 4] d d') := by
  obtain ⟨hn, rfl⟩ := hN_some hx
  have hn13 : n < 13 := by omega
  refine m_spec RX11 [some (.ref (xad W 0)), some (.int (nI n)), none, none] rfl (by decide +kernel) rfl rfl (fun K hR => ?_)
  refine m_aload_n dX11_clear_0 rfl ?_
  refine m_iload_n dX11_clear_1 rfl ?_
  refine m_callVRp (s_X11_heapAt hn) cv_X11_136 dX11_clear_2 ?_
  refine m_astore_n dX11_clear_5 (Nat.le_of_ble_eq_true rfl) rfl ?_
  refine m_aload_n dX11_clear_6 rfl ?_
  refine m_ifnonnull 13 dX11_clear_7 (by decide) ?_
  refine m_aload_n dX11_clear_13 rfl ?_
  refine m_callVIp (s_X9_length hn13 (hs.2 n hn).1) cv_X11_142 dX11_clear_14 ?_
  refine m_istore_n dX11_clear_17 (Nat.le_of_ble_eq_true rfl) rfl ?_
  refine m_aload_n dX11_clear_18 rfl ?_
  refine m_callVVp (s_X9_wipe hn13) cv_X11_145 dX11_clear_19 ?_
  refine m_iload_n dX11_clear_22 rfl ?_
  have hc : chg [n + 4] d (seI d (n + 4) 1 (nI 0)) := chg.rf.se (by simp)
  exact m_iret (ty := .int) hR dX11_clear_23 (⟨rfl, hs.put (rowIs.nil (se_s _ _ _ _)) (fun x hx => by cases hx) hc (by simp) (by simp) (fun j hj hne => by simp; omega), hc⟩)
theorem s_X11_mirror {x : Int32} {n : Nat} (hx : hN x = some n) (hs : stIs d σ) : mSpecI l W mX11_mirror (dep + 2) [.ref (xad W 0), .int x] d (fun r d' => r = nI (σ.2.2 n).length ∧ stIs d' (setH σ n (σ.2.2 n).reverse) ∧ chg [n + 4, n + 17] d d') := by
  obtain ⟨hn, rfl⟩ := hN_some hx
  have hn13 : n < 13 := by omega
  refine m_spec RX11 [some (.ref (xad W 0)), some (.int (nI n)), none] rfl (by decide +kernel) rfl rfl (fun K hR => ?_)
  refine m_aload_n dX11_mirror_0 rfl ?_
  refine m_iload_n dX11_mirror_1 rfl ?_
  refine m_callVRp (s_X11_heapAt hn) cv_X11_136 dX11_mirror_2 ?_
  refine m_astore_n dX11_mirror_5 (Nat.le_of_ble_eq_true rfl) rfl ?_
  refine m_aload_n dX11_mirror_6 rfl ?_
  refine m_ifnonnull 13 dX11_mirror_7 (by decide) ?_
  refine m_aload_n dX11_mirror_13 rfl ?_
  refine m_callVV (s_X9_turnAbout hn13 (hs.2 n hn).1) cv_X11_197 dX11_mirror_14 (fun d14 h14 => ?_)
  refine m_aload_n dX11_mirror_17 rfl ?_
  refine m_callVIp (s_X9_length hn13 h14.1) cv_X11_142 dX11_mirror_18 ?_
  exact m_iret (ty := .int) hR dX11_mirror_21 (⟨by rw [List.length_reverse], hs.put h14.1 (fun x hx => (hs.2 n hn).2 x (List.mem_reverse.mp hx)) h14.2 (by simp) (by simp) (fun j hj hne => by simp; omega), h14.2⟩)
theorem s_X11_root {x : Int32} {n : Nat} (hx : hN x = some n) (hs : stIs d σ) : mSpecI l W mX11_root (dep + 6) [.ref (xad W 0), .int x] d (fun r d' => r = nI (rootF (isPow σ.1 σ.2.1 (σ.2.2 n)) (σ.2.2 n).length) ∧ chg [10, 23, 11, 24] d d') := by
  obtain ⟨hn, rfl⟩ := hN_some hx
  have hn13 : n < 13 := by omega
  refine m_spec RX11 [some (.ref (xad W 0)), some (.int (nI n)), none] rfl (by decide +kernel) rfl rfl (fun K hR => ?_)
  refine m_aload_n dX11_root_0 rfl ?_
  refine m_iload_n dX11_root_1 rfl ?_
  refine m_callVRp (s_X11_heapAt hn) cv_X11_136 dX11_root_2 ?_
  refine m_astore_n dX11_root_5 (Nat.le_of_ble_eq_true rfl) rfl ?_
  refine m_aload_n dX11_root_6 rfl ?_
  refine m_ifnonnull 13 dX11_root_7 (by decide) ?_
  refine m_aload_n dX11_root_13 rfl ?_
  refine m_get fl_X11_48 (by decide) rfl rfl dX11_root_14 ?_
  refine m_aload_n dX11_root_17 rfl ?_
  refine m_callVI (s_X2_greatestRoot hs.1 hn13 (by omega) (by omega) (hs.2 n hn).1) cv_X11_203 dX11_root_18 (fun r18 d18 h18 => ?_)
  exact m_iret (ty := .int) hR dX11_root_21 (h18)
theorem s_X11_circleL {x : Int32} {n : Nat} (hx : hN x = some n) (hs : stIs d σ) (hl : ¬ (σ.2.2 n).length ≤ 12) : mSpecI l W mX11_circle (dep + 1) [.ref (xad W 0), .int x] d (fun r d' => r = -3 ∧ d' = d) := by
  obtain ⟨hn, rfl⟩ := hN_some hx
  have hn13 : n < 13 := by omega
  have h24 := (hs.2 n hn).1.1
  refine m_spec RX11 [some (.ref (xad W 0)), some (.int (nI n)), none] rfl (by decide +kernel) rfl rfl (fun K hR => ?_)
  refine m_aload_n dX11_circle_0 rfl ?_
  refine m_iload_n dX11_circle_1 rfl ?_
  refine m_callVRp (s_X11_heapAt hn) cv_X11_136 dX11_circle_2 ?_
  refine m_astore_n dX11_circle_5 (Nat.le_of_ble_eq_true rfl) rfl ?_
  refine m_aload_n dX11_circle_6 rfl ?_
  refine m_ifnonnull 13 dX11_circle_7 (by decide) ?_
  refine m_aload_n dX11_circle_13 rfl ?_
  refine m_callVIp (s_X9_length hn13 (hs.2 n hn).1) cv_X11_142 dX11_circle_14 ?_
  refine m_bipushN 12 dX11_circle_17 (by decide) ?_
  first | refine m_icmp_leN 25 dX11_circle_19 (by decide) (by omega) (by omega) (fun c19 => by exfalso; omega) (fun c19 => ?_) | refine m_icmp_le 25 dX11_circle_19 (by decide) (fun c19 => by exfalso; omega) (fun c19 => ?_)
  refine m_bipush (v := -3) dX11_circle_22 (by decide) ?_
  exact m_iret (ty := .int) hR dX11_circle_24 (⟨rfl, rfl⟩)
theorem s_X11_circle {x : Int32} {n : Nat} (hx : hN x = some n) (hs : stIs d σ) (hl : (σ.2.2 n).length ≤ 12) : mSpecI l W mX11_circle (dep + 6) [.ref (xad W 0), .int x] d (fun r d' => r = (match circF (bw σ.1 σ.2.1) σ.1 2000 0 [leastR (bw σ.1 σ.2.1) (σ.2.2 n)] with | some rs => nI rs.length | none => -6) ∧ chg circS d d') := by
  obtain ⟨hn, rfl⟩ := hN_some hx
  have hn13 : n < 13 := by omega
  refine m_spec RX11 [some (.ref (xad W 0)), some (.int (nI n)), none] rfl (by decide +kernel) rfl rfl (fun K hR => ?_)
  refine m_aload_n dX11_circle_0 rfl ?_
  refine m_iload_n dX11_circle_1 rfl ?_
  refine m_callVRp (s_X11_heapAt hn) cv_X11_136 dX11_circle_2 ?_
  refine m_astore_n dX11_circle_5 (Nat.le_of_ble_eq_true rfl) rfl ?_
  refine m_aload_n dX11_circle_6 rfl ?_
  refine m_ifnonnull 13 dX11_circle_7 (by decide) ?_
  refine m_aload_n dX11_circle_13 rfl ?_
  refine m_callVIp (s_X9_length hn13 (hs.2 n hn).1) cv_X11_142 dX11_circle_14 ?_
  refine m_bipushN 12 dX11_circle_17 (by decide) ?_
  first | refine m_icmp_leN 25 dX11_circle_19 (by decide) (by omega) (by omega) (fun c19 => ?_) (fun c19 => by exfalso; omega) | refine m_icmp_le 25 dX11_circle_19 (by decide) (fun c19 => ?_) (fun c19 => by exfalso; omega)
  refine m_aload_n dX11_circle_25 rfl ?_
  refine m_get fl_X11_73 (by decide) rfl rfl dX11_circle_26 ?_
  refine m_aload_n dX11_circle_29 rfl ?_
  refine m_callVI (s_X1_find hs.1 hn13 (by omega) (by omega) (hs.2 n hn).1 (hs.2 n hn).2 hl) cv_X11_207 dX11_circle_30 (fun r30 d30 h30 => ?_)
  refine m_if_eq 46 dX11_circle_33 (by decide) (fun c33 => ?_) (fun c33 => ?_)
  · refine m_bipush (v := -6) dX11_circle_46 (by decide) ?_
    have hno := h30.1.resolve_left (fun ⟨rs, q⟩ => by rw [q.2.1] at c33; exact absurd c33 (by decide))
    exact m_iret (ty := .int) hR dX11_circle_48 (⟨by rw [hno.1], h30.2⟩)
  · refine m_aload_n dX11_circle_36 rfl ?_
    refine m_get fl_X11_73 (by decide) rfl rfl dX11_circle_37 ?_
    obtain ⟨rs, q1, q2, q3, q4⟩ := h30.1.resolve_right (fun q => c33 q.2)
    refine m_callVIp (s_X1_found q3.1) cv_X11_208 dX11_circle_40 ?_
    refine m_goto 48 dX11_circle_43 (by decide) ?_
    exact m_iret (ty := .int) hR dX11_circle_48 (⟨by rw [q1], h30.2⟩)
end CAL
