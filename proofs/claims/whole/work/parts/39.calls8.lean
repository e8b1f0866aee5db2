/-! class SwapSteps: count -/
section CAL
variable {l : Launch} {W : xW} {dep : Nat} {d : xD} {bs : List Nat} {σ : St} {x : Int32}
theorem s_X11_count0 (hs : stIs d σ) : mSpecI l W mX11_count (dep + 2) [.ref (xad W 0), .int (nI 0)] d (fun r d' => r = nI σ.1 ∧ d' = d) := by
  refine m_spec RX11 [some (.ref (xad W 0)), some (.int (nI 0)), none] rfl (by decide +kernel) rfl rfl (fun K hR => ?_)
  refine m_iload_n dX11_count_0 rfl ?_
  refine m_tswIn 28 dX11_count_1 (by decide) (by decide) rfl (by decide) ?_
  refine m_aload_n dX11_count_28 rfl ?_
  refine m_get fl_X11_12 (by decide) rfl rfl dX11_count_29 ?_
  refine m_callVIp (s_X3_size hs.1) cv_X11_106 dX11_count_32 ?_
  exact m_iret (ty := .int) hR dX11_count_35 (⟨rfl, rfl⟩)
theorem s_X11_count1 (hs : stIs d σ) : mSpecI l W mX11_count (dep + 2) [.ref (xad W 0), .int (nI 1)] d (fun r d' => r = nI (pops σ.2.1 6 / 2) ∧ d' = d) := by
  refine m_spec RX11 [some (.ref (xad W 0)), some (.int (nI 1)), none] rfl (by decide +kernel) rfl rfl (fun K hR => ?_)
  refine m_iload_n dX11_count_0 rfl ?_
  refine m_tswIn 36 dX11_count_1 (by decide) (by decide) rfl (by decide) ?_
  refine m_aload_n dX11_count_36 rfl ?_
  refine m_get fl_X11_12 (by decide) rfl rfl dX11_count_37 ?_
  refine m_callVIp (s_X3_freePairs hs.1) cv_X11_250 dX11_count_40 ?_
  exact m_iret (ty := .int) hR dX11_count_43 (⟨rfl, rfl⟩)
theorem s_X11_count2 (h : txIs d bs) : mSpecI l W mX11_count (dep + 2) [.ref (xad W 0), .int (nI 2)] d (fun r d' => r = nI bs.length ∧ d' = d) := by
  refine m_spec RX11 [some (.ref (xad W 0)), some (.int (nI 2)), none] rfl (by decide +kernel) rfl rfl (fun K hR => ?_)
  refine m_iload_n dX11_count_0 rfl ?_
  refine m_tswIn 44 dX11_count_1 (by decide) (by decide) rfl (by decide) ?_
  refine m_aload_n dX11_count_44 rfl ?_
  refine m_get fl_X11_30 (by decide) rfl rfl dX11_count_45 ?_
  refine m_callVIp (s_X10_size h) cv_X11_93 dX11_count_48 ?_
  exact m_iret (ty := .int) hR dX11_count_51 (⟨rfl, rfl⟩)
theorem s_X11_countM (h : x < 0) : mSpecI l W mX11_count (dep + 2) [.ref (xad W 0), .int x] d (fun r d' => r = -3 ∧ d' = d) := by
  have h0 : (0 : Int32).toInt = 0 := by decide
  have hneg : x.toInt < 0 := by have := Int32.lt_iff_toInt_lt.mp h; omega
  refine m_spec RX11 [some (.ref (xad W 0)), some (.int x), none] rfl (by decide +kernel) rfl rfl (fun K hR => ?_)
  refine m_iload_n dX11_count_0 rfl ?_
  refine m_tswOut 52 dX11_count_1 (Or.inl hneg) (by decide) ?_
  refine m_aload_n dX11_count_52 rfl ?_
  refine m_iload_n dX11_count_53 rfl ?_
  refine m_if_ge 61 dX11_count_54 (by decide) (fun c54 => by exfalso; exact absurd h (Int32.not_lt.mpr c54)) (fun c54 => ?_)
  refine m_iconst (v := -1) dX11_count_57 (by decide) ?_
  refine m_goto 64 dX11_count_58 (by decide) ?_
  refine m_callVRp (s_X11_heapAtO (x := -1) (Or.inl (by decide))) cv_X11_136 dX11_count_64 ?_
  refine m_astore_nN dX11_count_67 (Nat.le_of_ble_eq_true rfl) rfl ?_
  refine m_aload_nN dX11_count_68 rfl ?_
  refine m_ifnonnullN dX11_count_69 ?_
  refine m_bipush (v := -3) dX11_count_72 (by decide) ?_
  refine m_goto 81 dX11_count_74 (by decide) ?_
  exact m_iret (ty := .int) hR dX11_count_81 (⟨rfl, rfl⟩)
theorem s_X11_countH {m : Nat} (hm : 3 ≤ m) (hm2 : m < 7) (hs : stIs d σ) : mSpecI l W mX11_count (dep + 2) [.ref (xad W 0), .int (nI m)] d (fun r d' => r = nI (σ.2.2 (m - 3)).length ∧ d' = d) := by
  have h13 : m - 3 < 13 := by omega
  refine m_spec RX11 [some (.ref (xad W 0)), some (.int (nI m)), none] rfl (by decide +kernel) rfl rfl (fun K hR => ?_)
  refine m_iload_n dX11_count_0 rfl ?_
  refine m_tswOut 52 dX11_count_1 (Or.inr (by rw [nI_toInt (by omega)]; omega)) (by decide) ?_
  refine m_aload_n dX11_count_52 rfl ?_
  refine m_iload_n dX11_count_53 rfl ?_
  refine m_if_geN 61 dX11_count_54 (by decide) (by omega) ?_
  refine m_iload_n dX11_count_61 rfl ?_
  refine m_iconstN 3 dX11_count_62 (by decide) ?_
  first | refine m_isubN dX11_count_63 (by omega) ?_ | refine m_isub dX11_count_63 ?_
  refine m_callVRp (s_X11_heapAt (n := m - 3) (by omega)) cv_X11_136 dX11_count_64 ?_
  refine m_astore_n dX11_count_67 (Nat.le_of_ble_eq_true rfl) rfl ?_
  refine m_aload_n dX11_count_68 rfl ?_
  refine m_ifnonnull 77 dX11_count_69 (by decide) ?_
  refine m_aload_n dX11_count_77 rfl ?_
  refine m_callVIp (s_X9_length h13 (hs.2 (m - 3) (by omega)).1) cv_X11_142 dX11_count_78 ?_
  exact m_iret (ty := .int) hR dX11_count_81 (⟨rfl, rfl⟩)
theorem s_X11_countO {m : Nat} (hm : 7 ≤ m) (hm2 : m < 2 ^ 31) : mSpecI l W mX11_count (dep + 2) [.ref (xad W 0), .int (nI m)] d (fun r d' => r = -3 ∧ d' = d) := by
  refine m_spec RX11 [some (.ref (xad W 0)), some (.int (nI m)), none] rfl (by decide +kernel) rfl rfl (fun K hR => ?_)
  refine m_iload_n dX11_count_0 rfl ?_
  refine m_tswOut 52 dX11_count_1 (Or.inr (by rw [nI_toInt (by omega)]; omega)) (by decide) ?_
  refine m_aload_n dX11_count_52 rfl ?_
  refine m_iload_n dX11_count_53 rfl ?_
  refine m_if_geN 61 dX11_count_54 (by decide) (by omega) ?_
  refine m_iload_n dX11_count_61 rfl ?_
  refine m_iconstN 3 dX11_count_62 (by decide) ?_
  first | refine m_isubN dX11_count_63 (by omega) ?_ | refine m_isub dX11_count_63 ?_
  refine m_callVRp (s_X11_heapAtO (x := nI (m - 3)) (Or.inr ((nI_leI (by omega) (by omega)).mpr (by omega)))) cv_X11_136 dX11_count_64 ?_
  refine m_astore_nN dX11_count_67 (Nat.le_of_ble_eq_true rfl) rfl ?_
  refine m_aload_nN dX11_count_68 rfl ?_
  refine m_ifnonnullN dX11_count_69 ?_
  refine m_bipush (v := -3) dX11_count_72 (by decide) ?_
  refine m_goto 81 dX11_count_74 (by decide) ?_
  exact m_iret (ty := .int) hR dX11_count_81 (⟨rfl, rfl⟩)
end CAL
