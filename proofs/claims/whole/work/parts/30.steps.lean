/-! class SwapSteps: its small methods -/
/-- the four heaps -/
def hpIs (d : xD) (k : Nat) (hs : Nat → List Nat) : Prop := ∀ j, j < 4 → rowIs d j (hs j) ∧ ∀ x ∈ hs j, x < k
theorem hpIs.fr {S : List Nat} {d d' : xD} {k : Nat} {hs : Nat → List Nat} (h : hpIs d k hs) (hc : chg S d d') (hS : ∀ j, j < 4 → j + 4 ∉ S ∧ j + 17 ∉ S) : hpIs d' k hs := fun j hj => ⟨(h j hj).1.fr hc (hS j hj).1 (hS j hj).2, (h j hj).2⟩
/-- byte i of a long -/
def byt (v : Int64) (i : Nat) : Nat := (v >>> ((nI (8 * i)).toInt64 &&& 63)).toBitVec.toNat % 256
theorem l255 (y : Int64) : (y &&& lN 255).toInt32 = nI (y.toBitVec.toNat % 256) := by
  have h : y &&& lN 255 = lN (y.toBitVec.toNat % 256) := by
    apply wb_inj
    rw [Int64.toBitVec_and, wb_tb, wb_tb]
    apply BitVec.eq_of_toNat_eq
    rw [BitVec.toNat_and, BitVec.toNat_ofNat, BitVec.toNat_ofNat, Nat.mod_eq_of_lt (show 255 < 2 ^ 64 by decide), show 255 = 2 ^ 8 - 1 from rfl, Nat.and_two_pow_sub_one_eq_mod]
    omega
  rw [h]
  exact lN_i _
def bytL (v : Int64) (n : Nat) : List Nat := (List.range n).map (byt v)
theorem bytL_s (v : Int64) (n : Nat) : bytL v (n + 1) = bytL v n ++ [byt v n] := by
  unfold bytL
  rw [List.range_succ, List.map_append]; rfl
theorem bytL_len (v : Int64) (n : Nat) : (bytL v n).length = n := by unfold bytL; simp
section TSW
variable {E : xE} {X : xC} {A : Nat → Prop} {Z : State → Prop} {cc : ByteArray} {own nm : String} {ret : Option FieldType} {rm : Nat × Nat × Nat} {L : List Nat} {f : Nat → va_E} {cu su pc : Nat} {loc : List (Option Value)} {stk : List Value}
theorem g_tswOut {dflt lo hi : Int} {offs : Array Int} {len : Nat} {x : Int32} (tgt : Nat) (d : decode cc pc = .ok (.tableswitch dflt lo hi offs, len)) (h : x.toInt < lo ∨ hi < x.toInt) (ht : (pc : Int) + dflt = (tgt : Int)) (k : xG E X A Z cc own nm ret rm L f cu su tgt loc stk) : xG E X A Z cc own nm ret rm L f cu su pc loc (.int x :: stk) := by
  obtain ⟨l, p, e, R, s, m, args, below, meth, c⟩ := X
  intro hO H locs ls hP hD hS hl hml
  exact lv_tableOut hO.1 hO.2.1 d h ht (k hO H locs ls hP hD hS hl hml)
theorem g_tswIn {dflt lo hi : Int} {offs : Array Int} {len : Nat} {x : Int32} {off : Int} (tgt : Nat) (d : decode cc pc = .ok (.tableswitch dflt lo hi offs, len)) (h1 : ¬ x.toInt < lo) (h2 : ¬ hi < x.toInt) (ho : offs[(x.toInt - lo).toNat]? = some off) (ht : (pc : Int) + off = (tgt : Int)) (k : xG E X A Z cc own nm ret rm L f cu su tgt loc stk) : xG E X A Z cc own nm ret rm L f cu su pc loc (.int x :: stk) := by
  obtain ⟨l, p, e, R, s, m, args, below, meth, c⟩ := X
  intro hO H locs ls hP hD hS hl hml
  exact lv_tableIn hO.1 hO.2.1 d h1 h2 ho ht (k hO H locs ls hP hD hS hl hml)
end TSW
section TSM
variable {W : xW} {K : xK} {cc : ByteArray} {own : String} {dep : Nat} {d : xD} {pc : Nat} {loc : List (Option Value)} {stk : List Value}
theorem m_tswOut {dflt lo hi : Int} {offs : Array Int} {len : Nat} {x : Int32} (tgt : Nat) (dd : decode cc pc = .ok (.tableswitch dflt lo hi offs, len)) (h : x.toInt < lo ∨ hi < x.toInt) (ht : (pc : Int) + dflt = (tgt : Int)) (k : mG W K cc own dep d tgt loc stk) : mG W K cc own dep d pc loc (.int x :: stk) := fun hb => g_tswOut tgt dd h ht (k hb)
theorem m_tswIn {dflt lo hi : Int} {offs : Array Int} {len : Nat} {x : Int32} {off : Int} (tgt : Nat) (dd : decode cc pc = .ok (.tableswitch dflt lo hi offs, len)) (h1 : ¬ x.toInt < lo) (h2 : ¬ hi < x.toInt) (ho : offs[(x.toInt - lo).toNat]? = some off) (ht : (pc : Int) + off = (tgt : Int)) (k : mG W K cc own dep d tgt loc stk) : mG W K cc own dep d pc loc (.int x :: stk) := fun hb => g_tswIn tgt dd h1 h2 ho ht (k hb)
end TSM
section STP
variable {l : Launch} {W : xW} {dep : Nat} {d : xD} {bs : List Nat} {k : Nat} {fb : Nat → Nat} {hs : Nat → List Nat}
theorem s_X11_heapAt {n : Nat} (hn : n < 4) : mSpecR l W mX11_heapAt dep [.ref (xad W 0), .int (nI n)] d (fun r d' => r = .ref (xad W (n + 4)) ∧ d' = d) := by
  refine m_spec RX11 [some (.ref (xad W 0)), some (.int (nI n))] rfl (by decide +kernel) rfl rfl (fun K hR => ?_)
  refine m_iload_n dX11_heapAt_0 rfl ?_
  refine m_if_ltN 22 dX11_heapAt_1 (by decide) (by omega) ?_
  refine m_iload_n dX11_heapAt_4 rfl ?_
  refine m_aload_n dX11_heapAt_5 rfl ?_
  refine m_get fl_X11_18 (by decide) rfl rfl dX11_heapAt_6 ?_
  refine m_alen (by omega) (by first | rfl | exact xcell_arr _ _ _ (by omega) | exact xcell_mv _ _ (by omega) | exact xcell_fo _ _ (by omega) | exact xcell_ne _ _ (by omega)) (by decide) dX11_heapAt_9 ?_
  first | refine m_icmp_geN 22 dX11_heapAt_10 (by decide) (by omega) (by omega) (fun c10 => by exfalso; omega) (fun c10 => ?_) | refine m_icmp_ge 22 dX11_heapAt_10 (by decide) (fun c10 => by exfalso; omega) (fun c10 => ?_)
  refine m_aload_n dX11_heapAt_13 rfl ?_
  refine m_get fl_X11_18 (by decide) rfl rfl dX11_heapAt_14 ?_
  refine m_iload_n dX11_heapAt_17 rfl ?_
  refine m_aald (by decide) rfl (by decide) (by decide) (by omega) (if_pos (by omega)) dX11_heapAt_18 ?_
  refine m_goto 23 dX11_heapAt_19 (by decide) ?_
  exact m_aret hR dX11_heapAt_23 (by first | exact Or.inl rfl | exact Or.inr ⟨_, rfl⟩) (⟨rfl, rfl⟩)
theorem s_X11_heapAtO {x : Int32} (hx : x < 0 ∨ nI 4 ≤ x) : mSpecR l W mX11_heapAt dep [.ref (xad W 0), .int x] d (fun r d' => r = .null ∧ d' = d) := by
  refine m_spec RX11 [some (.ref (xad W 0)), some (.int x)] rfl (by decide +kernel) rfl rfl (fun K hR => ?_)
  refine m_iload_n dX11_heapAt_0 rfl ?_
  refine m_if_lt 22 dX11_heapAt_1 (by decide) (fun c1 => ?_) (fun c1 => ?_)
  · refine m_null dX11_heapAt_22 ?_
    exact m_aret hR dX11_heapAt_23 (by first | exact Or.inl rfl | exact Or.inr ⟨_, rfl⟩) (⟨rfl, rfl⟩)
  · refine m_iload_n dX11_heapAt_4 rfl ?_
    refine m_aload_n dX11_heapAt_5 rfl ?_
    refine m_get fl_X11_18 (by decide) rfl rfl dX11_heapAt_6 ?_
    refine m_alen (by omega) (by first | rfl | exact xcell_arr _ _ _ (by omega) | exact xcell_mv _ _ (by omega) | exact xcell_fo _ _ (by omega) | exact xcell_ne _ _ (by omega)) (by decide) dX11_heapAt_9 ?_
    refine m_icmp_ge 22 dX11_heapAt_10 (by decide) (fun c10 => ?_) (fun c10 => by exfalso; exact hx.elim c1 c10)
    refine m_null dX11_heapAt_22 ?_
    exact m_aret hR dX11_heapAt_23 (by first | exact Or.inl rfl | exact Or.inr ⟨_, rfl⟩) (⟨rfl, rfl⟩)
theorem s_X11_yes (b : Bool) : mSpecI l W mX11_yes dep [.int (if b = true then 1 else 0)] d (fun r d' => r = (if b = true then 1 else 0) ∧ d' = d) := by
  refine m_spec RX11 [some (.int (if b = true then 1 else 0))] rfl (by decide +kernel) rfl rfl (fun K hR => ?_)
  refine m_iload_n dX11_yes_0 rfl ?_
  refine m_if_eq 8 dX11_yes_1 (by decide) (fun c1 => ?_) (fun c1 => ?_)
  · refine m_iconstN 0 dX11_yes_8 (by decide) ?_
    exact m_iret (ty := .int) hR dX11_yes_9 (⟨by rw [c1]; rfl, rfl⟩)
  · refine m_iconstN 1 dX11_yes_4 (by decide) ?_
    refine m_goto 9 dX11_yes_5 (by decide) ?_
    exact m_iret (ty := .int) hR dX11_yes_9 (⟨by cases b <;> simp_all <;> rfl, rfl⟩)
theorem s_X11_erase (h : txIs d bs) : mSpecI l W mX11_erase (dep + 1) [.ref (xad W 0)] d (fun r d' => r = nI bs.length ∧ txIs d' [] ∧ chg [30] d d') := by
  refine m_spec RX11 [some (.ref (xad W 0)), none] rfl (by decide +kernel) rfl rfl (fun K hR => ?_)
  refine m_aload_n dX11_erase_0 rfl ?_
  refine m_get fl_X11_30 (by decide) rfl rfl dX11_erase_1 ?_
  refine m_callVIp (s_X10_size h) cv_X11_93 dX11_erase_4 ?_
  refine m_istore_n dX11_erase_7 (Nat.le_of_ble_eq_true rfl) rfl ?_
  refine m_aload_n dX11_erase_8 rfl ?_
  refine m_get fl_X11_30 (by decide) rfl rfl dX11_erase_9 ?_
  refine m_callVV (s_X10_wipe) cv_X11_103 dX11_erase_12 (fun d12 h12 => ?_)
  refine m_iload_n dX11_erase_15 rfl ?_
  exact m_iret (ty := .int) hR dX11_erase_16 (⟨rfl, h12.1, h12.2⟩)
theorem s_X11_writeO {v : Int64} {x : Int32} (hx : x < nI 1 ∨ nI 8 < x) : mSpecI l W mX11_write (dep + 1) [.ref (xad W 0), .long v, .int x] d (fun r d' => r = -3 ∧ d' = d) := by
  refine m_spec RX11 [some (.ref (xad W 0)), some (.long v), none, some (.int x), none] rfl (by decide +kernel) rfl rfl (fun K hR => ?_)
  refine m_iload_n dX11_write_0 rfl ?_
  refine m_iconstN 1 dX11_write_1 (by decide) ?_
  refine m_icmp_lt 11 dX11_write_2 (by decide) (fun c2 => ?_) (fun c2 => ?_)
  · refine m_bipush (v := -3) dX11_write_11 (by decide) ?_
    exact m_iret (ty := .int) hR dX11_write_13 (⟨rfl, rfl⟩)
  · refine m_iload_n dX11_write_5 rfl ?_
    refine m_bipushN 8 dX11_write_6 (by decide) ?_
    refine m_icmp_le 14 dX11_write_8 (by decide) (fun c8 => by exfalso; exact hx.elim c2 (fun w => absurd c8 (Int32.not_le.mpr w))) (fun c8 => ?_)
    refine m_bipush (v := -3) dX11_write_11 (by decide) ?_
    exact m_iret (ty := .int) hR dX11_write_13 (⟨rfl, rfl⟩)
theorem s_X11_write (h : txIs d bs) {v : Int64} {n : Nat} (h1 : 1 ≤ n) (h8 : n ≤ 8) : mSpecI l W mX11_write (dep + 1) [.ref (xad W 0), .long v, .int (nI n)] d (fun r d' => ((bs.length + n ≤ 160 ∧ r = nI (bs.length + n) ∧ txIs d' (bs ++ bytL v n)) ∨ (¬ bs.length + n ≤ 160 ∧ r = -5 ∧ d' = d)) ∧ chg [30, 31] d d') := by
  have h160 := h.2.1
  refine m_spec RX11 [some (.ref (xad W 0)), some (.long v), none, some (.int (nI n)), none] rfl (by decide +kernel) rfl rfl (fun K hR => ?_)
  have loop : bs.length + n ≤ 160 → ∀ i, i ≤ n → ∀ d1, txIs d1 (bs ++ bytL v i) → chg [30, 31] d d1 → mG W K cX11_write RX11 (dep + 1) d1 35 [some (.ref (xad W 0)), some (.long v), none, some (.int (nI n)), some (.int (nI i))] [] := fun hle => x_up _ (fun i hi ih d1 g1 g2 => by
    have hb : byt v i < 256 := Nat.mod_lt _ (by decide)
    have hl9 : (bs ++ bytL v i).length = bs.length + i := by rw [List.length_append, bytL_len]
    refine m_iload dX11_write_35 rfl ?_
    refine m_iload_n dX11_write_37 rfl ?_
    first | refine m_icmp_geN 66 dX11_write_38 (by decide) (by omega) (by omega) (fun c38 => ?_) (fun c38 => ?_) | refine m_icmp_ge 66 dX11_write_38 (by decide) (fun c38 => ?_) (fun c38 => ?_)
    · refine m_aload_n dX11_write_66 rfl ?_
      refine m_get fl_X11_30 (by decide) rfl rfl dX11_write_67 ?_
      refine m_callVIp (s_X10_size g1) cv_X11_93 dX11_write_70 ?_
      have e6 : i = n := by omega
      subst e6
      exact m_iret (ty := .int) hR dX11_write_73 (⟨Or.inl ⟨hle, by rw [hl9], g1⟩, g2⟩)
    · refine m_aload_n dX11_write_41 rfl ?_
      refine m_get fl_X11_30 (by decide) rfl rfl dX11_write_42 ?_
      refine m_lload_n dX11_write_45 rfl ?_
      refine m_bipushN 8 dX11_write_46 (by decide) ?_
      refine m_iload dX11_write_48 rfl ?_
      first | refine m_imulN dX11_write_50 ?_ | refine m_imul dX11_write_50 ?_
      refine m_lshr dX11_write_51 ?_
      refine m_ldc2 ct_X11_97 dX11_write_52 ?_
      refine m_eql (y := lN 255) (by decide +kernel) ?_
      refine m_land dX11_write_55 ?_
      refine m_l2i dX11_write_56 ?_
      refine m_eqi ((l255 _ : _ = nI (byt v i))) ?_
      refine m_callVV (s_X10_push g1 (by omega) hb) cv_X11_99 dX11_write_57 (fun d57 h57 => ?_)
      first | refine m_iincN 1 dX11_write_60 (by decide) rfl rfl ?_ | refine m_iinc dX11_write_60 rfl rfl ?_
      refine m_goto 35 dX11_write_63 (by decide) ?_
      refine ih (by omega) d57 ?_ (g2.tr h57.2)
      rw [bytL_s, ← List.append_assoc]
      exact h57.1
    )
  refine m_iload_n dX11_write_0 rfl ?_
  refine m_iconstN 1 dX11_write_1 (by decide) ?_
  first | refine m_icmp_ltN 11 dX11_write_2 (by decide) (by omega) (by omega) (fun c2 => by exfalso; omega) (fun c2 => ?_) | refine m_icmp_lt 11 dX11_write_2 (by decide) (fun c2 => by exfalso; omega) (fun c2 => ?_)
  refine m_iload_n dX11_write_5 rfl ?_
  refine m_bipushN 8 dX11_write_6 (by decide) ?_
  first | refine m_icmp_leN 14 dX11_write_8 (by decide) (by omega) (by omega) (fun c8 => ?_) (fun c8 => by exfalso; omega) | refine m_icmp_le 14 dX11_write_8 (by decide) (fun c8 => ?_) (fun c8 => by exfalso; omega)
  refine m_aload_n dX11_write_14 rfl ?_
  refine m_get fl_X11_30 (by decide) rfl rfl dX11_write_15 ?_
  refine m_callVIp (s_X10_size h) cv_X11_93 dX11_write_18 ?_
  refine m_iload_n dX11_write_21 rfl ?_
  first | refine m_iaddN dX11_write_22 ?_ | refine m_iadd dX11_write_22 ?_
  refine m_sipushN 160 dX11_write_23 (by decide) ?_
  first | refine m_icmp_leN 32 dX11_write_26 (by decide) (by omega) (by omega) (fun c26 => ?_) (fun c26 => ?_) | refine m_icmp_le 32 dX11_write_26 (by decide) (fun c26 => ?_) (fun c26 => ?_)
  · refine m_iconstN 0 dX11_write_32 (by decide) ?_
    refine m_istore dX11_write_33 (Nat.le_of_ble_eq_true rfl) rfl ?_
    exact loop (by omega) 0 (Nat.zero_le _) d (by rw [show bytL v 0 = [] from rfl, List.append_nil]; exact h) chg.rf
  · refine m_bipush (v := -5) dX11_write_29 (by decide) ?_
    exact m_iret (ty := .int) hR dX11_write_31 (⟨Or.inr ⟨by omega, rfl, rfl⟩, chg.rf⟩)
theorem s_X11_fault (hl : letIs d k fb) (h : txIs d bs) : mSpecI l W mX11_fault (dep + 8) [.ref (xad W 0)] d (fun r d' => r = rdA (rdF bs 16 0 0 k []).1 ∧ txIs d' bs ∧ chg lnC d d') := by
  have hk := hl.2.2.2.1
  refine m_spec RX11 [some (.ref (xad W 0))] rfl (by decide +kernel) rfl rfl (fun K hR => ?_)
  refine m_aload_n dX11_fault_0 rfl ?_
  refine m_get fl_X11_39 (by decide) rfl rfl dX11_fault_1 ?_
  refine m_aload_n dX11_fault_4 rfl ?_
  refine m_get fl_X11_12 (by decide) rfl rfl dX11_fault_5 ?_
  refine m_callVIp (s_X3_size hl) cv_X11_106 dX11_fault_8 ?_
  refine m_callVI (s_X5_read h hk) cv_X11_107 dX11_fault_11 (fun r11 d11 h11 => ?_)
  exact m_iret (ty := .int) hR dX11_fault_14 (⟨h11.1, h11.2.1, h11.2.2.2⟩)
theorem s_X5_size {n : Nat} (h : d.1 32 2 = nI n) : mSpecI l W mX5_size dep [.ref (xad W 32)] d (fun r d' => r = nI n ∧ d' = d) := by
  refine m_spec RX5 [some (.ref (xad W 32))] rfl (by decide +kernel) rfl rfl (fun K hR => ?_)
  refine m_aload_n dX5_size_0 rfl ?_
  refine m_get fl_X5_17 (by decide) rfl rfl dX5_size_1 ?_
  refine m_eqi (h) ?_
  exact m_iret (ty := .int) hR dX5_size_4 (⟨rfl, rfl⟩)
theorem s_X5_at {n : Nat} (hn : n < 16) : mSpecR l W mX5_at dep [.ref (xad W 32), .int (nI n)] d (fun r d' => r = .ref (xad W (n + 34)) ∧ d' = d) := by
  refine m_spec RX5 [some (.ref (xad W 32)), some (.int (nI n))] rfl (by decide +kernel) rfl rfl (fun K hR => ?_)
  refine m_iload_n dX5_at_0 rfl ?_
  refine m_if_ltN 22 dX5_at_1 (by decide) (by omega) ?_
  refine m_iload_n dX5_at_4 rfl ?_
  refine m_aload_n dX5_at_5 rfl ?_
  refine m_get fl_X5_13 (by decide) rfl rfl dX5_at_6 ?_
  refine m_alen (by omega) (by first | rfl | exact xcell_arr _ _ _ (by omega) | exact xcell_mv _ _ (by omega) | exact xcell_fo _ _ (by omega) | exact xcell_ne _ _ (by omega)) (by decide) dX5_at_9 ?_
  first | refine m_icmp_geN 22 dX5_at_10 (by decide) (by omega) (by omega) (fun c10 => by exfalso; omega) (fun c10 => ?_) | refine m_icmp_ge 22 dX5_at_10 (by decide) (fun c10 => by exfalso; omega) (fun c10 => ?_)
  refine m_aload_n dX5_at_13 rfl ?_
  refine m_get fl_X5_13 (by decide) rfl rfl dX5_at_14 ?_
  refine m_iload_n dX5_at_17 rfl ?_
  refine m_aald (by decide) rfl (by decide) (by decide) (by omega) (if_pos (by omega)) dX5_at_18 ?_
  refine m_goto 23 dX5_at_19 (by decide) ?_
  exact m_aret hR dX5_at_23 (by first | exact Or.inl rfl | exact Or.inr ⟨_, rfl⟩) (⟨rfl, rfl⟩)
theorem s_X11_startAnew {n : Nat} (h1 : 1 ≤ n) (h6 : n ≤ 6) : mSpecV l W mX11_startAnew (dep + 2) [.ref (xad W 0), .int (nI n)] d (fun d' => letIs d' n (fun _ => 0) ∧ hpIs d' n (fun _ => []) ∧ chg [1, 2, 4, 5, 6, 7] d d') := by
  have hm : ∀ i, i < 4 → i + 4 ∈ [1, 2, 4, 5, 6, 7] := by decide
  refine m_spec RX11 [some (.ref (xad W 0)), some (.int (nI n)), none] rfl (by decide +kernel) rfl rfl (fun K hR => ?_)
  have loop : ∀ i, i ≤ 4 → ∀ d1, letIs d1 n (fun _ => 0) → (∀ j, j < i → rowIs d1 j []) → chg [1, 2, 4, 5, 6, 7] d d1 → mG W K cX11_startAnew RX11 (dep + 2) d1 10 [some (.ref (xad W 0)), some (.int (nI n)), some (.int (nI i))] [] := x_up _ (fun i hi ih d1 g1 g2 g3 => by
    refine m_iload_n dX11_startAnew_10 rfl ?_
    refine m_aload_n dX11_startAnew_11 rfl ?_
    refine m_get fl_X11_18 (by decide) rfl rfl dX11_startAnew_12 ?_
    refine m_alen (by omega) (by first | rfl | exact xcell_arr _ _ _ (by omega) | exact xcell_mv _ _ (by omega) | exact xcell_fo _ _ (by omega) | exact xcell_ne _ _ (by omega)) (by decide) dX11_startAnew_15 ?_
    first | refine m_icmp_geN 34 dX11_startAnew_16 (by decide) (by omega) (by omega) (fun c16 => ?_) (fun c16 => ?_) | refine m_icmp_ge 34 dX11_startAnew_16 (by decide) (fun c16 => ?_) (fun c16 => ?_)
    · exact m_vret hR dX11_startAnew_34 (⟨g1, fun j hj => ⟨g2 j (by omega), fun x hx => by cases hx⟩, g3⟩)
    · refine m_aload_n dX11_startAnew_19 rfl ?_
      refine m_get fl_X11_18 (by decide) rfl rfl dX11_startAnew_20 ?_
      refine m_iload_n dX11_startAnew_23 rfl ?_
      refine m_aald (by decide) rfl (by decide) (by decide) (by omega) (if_pos (by omega)) dX11_startAnew_24 ?_
      have hi13 : i < 13 := by omega
      refine m_callVVp (s_X9_wipe (j := i) hi13) cv_X11_145 dX11_startAnew_25 ?_
      first | refine m_iincN 1 dX11_startAnew_28 (by decide) rfl rfl ?_ | refine m_iinc dX11_startAnew_28 rfl rfl ?_
      refine m_goto 10 dX11_startAnew_31 (by decide) ?_
      have hc : chg [i + 4] d1 (seI d1 (i + 4) 1 (nI 0)) := chg.rf.se (by simp)
      refine ih (by omega) _ (g1.fr hc (by simp) (by simp)) (fun j hj => ?_) (g3.tr (hc.mono (by simpa using hm i (by omega))))
      by_cases e : j = i
      · subst e; exact rowIs.nil (se_s _ _ _ _)
      · exact (g2 j (by omega)).fr hc (by simp; omega) (by simp; omega)
    )
  refine m_aload_n dX11_startAnew_0 rfl ?_
  refine m_get fl_X11_12 (by decide) rfl rfl dX11_startAnew_1 ?_
  refine m_iload_n dX11_startAnew_4 rfl ?_
  refine m_callVV (s_X3_restart h1 h6) cv_X11_271 dX11_startAnew_5 (fun d5 h5 => ?_)
  refine m_iconstN 0 dX11_startAnew_8 (by decide) ?_
  refine m_istore_n dX11_startAnew_9 (Nat.le_of_ble_eq_true rfl) rfl ?_
  exact loop 0 (Nat.zero_le _) d5 h5.1 (fun j hj => absurd hj (Nat.not_lt_zero j)) (h5.2.mono (by simp))
/-- the letters of a word -/
def wrd (bs : List Nat) (p n : Nat) : List Nat := (List.range n).map (fun i => bs.getD (p + i) 0 - 97)
theorem wrd_s (bs : List Nat) (p n : Nat) : wrd bs p (n + 1) = wrd bs p n ++ [bs.getD (p + n) 0 - 97] := by
  unfold wrd
  rw [List.range_succ, List.map_append]; rfl
theorem wrd_len (bs : List Nat) (p n : Nat) : (wrd bs p n).length = n := by unfold wrd; simp
theorem s_X11_tellHeap {j hn p q : Nat} {t : Nat × Nat × Nat × Nat} (ht : t = (3, hn, p, q)) (hj : j < 16) (h : txIs d bs) (hl : lineIs d j t) (hh : hn < 4) (hpq : p ≤ q) (hq : q ≤ bs.length) (h24 : q - p ≤ 24) (hw : ∀ i, i < q → p ≤ i → 97 ≤ bs.getD i 0 ∧ bs.getD i 0 - 97 < 6) : mSpecV l W mX11_tellHeap (dep + 2) [.ref (xad W 0), .ref (xad W (j + 34))] d (fun d' => rowIs d' hn (wrd bs p (q - p)) ∧ chg [hn + 4, hn + 17] d d') := by
  have h160 := h.2.1
  have hn13 : hn < 13 := by omega
  subst ht
  have l1 : d.1 (j + 34) 1 = nI hn := hl.2.1
  have l3 : d.1 (j + 34) 3 = nI p := (hl.2.2.2 rfl).1
  have l4 : d.1 (j + 34) 4 = nI q := (hl.2.2.2 rfl).2
  have n30 : (30 : Nat) ∉ [hn + 4, hn + 17] := by simp <;> omega
  have n31 : (31 : Nat) ∉ [hn + 4, hn + 17] := by simp <;> omega
  have nj : j + 34 ∉ [hn + 4, hn + 17] := by simp <;> omega
  refine m_spec RX11 [some (.ref (xad W 0)), some (.ref (xad W (j + 34))), none, none] rfl (by decide +kernel) rfl rfl (fun K hR => ?_)
  have loop : ∀ i, i ≤ q - p → ∀ d1, rowIs d1 hn (wrd bs p i) → chg [hn + 4, hn + 17] d d1 → mG W K cX11_tellHeap RX11 (dep + 2) d1 23 [some (.ref (xad W 0)), some (.ref (xad W (j + 34))), some (.ref (xad W (hn + 4))), some (.int (nI (p + i)))] [] := x_up _ (fun i hi ih d1 g1 g2 => by
    have g3 := h.fr g2 n30 n31
    refine m_iload_n dX11_tellHeap_23 rfl ?_
    refine m_aload_n dX11_tellHeap_24 rfl ?_
    refine m_get fl_X11_276 (by omega) (xcell_line _ _ _ (by omega)) rfl dX11_tellHeap_25 ?_
    refine m_eqi ((congrFun (g2 _ nj).1 4).trans l4) ?_
    first | refine m_icmp_geN 50 dX11_tellHeap_28 (by decide) (by omega) (by omega) (fun c28 => ?_) (fun c28 => ?_) | refine m_icmp_ge 50 dX11_tellHeap_28 (by decide) (fun c28 => ?_) (fun c28 => ?_)
    · have e6 : i = q - p := by omega
      subst e6
      exact m_vret hR dX11_tellHeap_50 (⟨g1, g2⟩)
    · refine m_aload_n dX11_tellHeap_31 rfl ?_
      refine m_aload_n dX11_tellHeap_32 rfl ?_
      refine m_get fl_X11_30 (by decide) rfl rfl dX11_tellHeap_33 ?_
      refine m_iload_n dX11_tellHeap_36 rfl ?_
      have hwi := hw (p + i) (by omega) (by omega)
      refine m_callVIp (s_X10_letterAtN g3 (i := p + i) (by omega) hwi.1) cv_X11_279 dX11_tellHeap_37 ?_
      refine m_callVI (s_X9_push hn13 g1 (x := bs.getD (p + i) 0 - 97) hwi.2 (by rw [wrd_len]; omega)) cv_X11_140 dX11_tellHeap_40 (fun r40 d40 h40 => ?_)
      refine m_pop dX11_tellHeap_43 rfl ?_
      first | refine m_iincN 1 dX11_tellHeap_44 (by decide) rfl rfl ?_ | refine m_iinc dX11_tellHeap_44 rfl rfl ?_
      refine m_goto 23 dX11_tellHeap_47 (by decide) ?_
      refine ih (by omega) d40 ?_ (g2.tr h40.2.2)
      rw [wrd_s]
      exact h40.2.1
    )
  refine m_aload_n dX11_tellHeap_0 rfl ?_
  refine m_aload_n dX11_tellHeap_1 rfl ?_
  refine m_get fl_X11_259 (by omega) (xcell_line _ _ _ (by omega)) rfl dX11_tellHeap_2 ?_
  refine m_eqi (l1) ?_
  refine m_callVRp (s_X11_heapAt (n := hn) hh) cv_X11_136 dX11_tellHeap_5 ?_
  refine m_astore_n dX11_tellHeap_8 (Nat.le_of_ble_eq_true rfl) rfl ?_
  refine m_aload_n dX11_tellHeap_9 rfl ?_
  refine m_ifnonnull 14 dX11_tellHeap_10 (by decide) ?_
  refine m_aload_n dX11_tellHeap_14 rfl ?_
  refine m_callVVp (s_X9_wipe hn13) cv_X11_145 dX11_tellHeap_15 ?_
  refine m_aload_n dX11_tellHeap_18 rfl ?_
  refine m_get fl_X11_273 (by omega) (xcell_line _ _ _ (by omega)) rfl dX11_tellHeap_19 ?_
  refine m_eqi ((se_e l3 (by omega) : _ = nI (p + 0))) ?_
  refine m_istore_n dX11_tellHeap_22 (Nat.le_of_ble_eq_true rfl) rfl ?_
  exact loop 0 (Nat.zero_le _) _ (rowIs.nil (se_s _ _ _ _)) (chg.rf.se (by simp))
theorem s_X11_doLine0 {j a b : Nat} {t : Nat × Nat × Nat × Nat} (hl : letIs d k fb) (ht : t = (0, a, b, 0)) (hj : j < 16) (hli : lineIs d j t) (ha : a < k) (hb : b < k) (hne : a ≠ b) : mSpecV l W mX11_doLine (dep + 3) [.ref (xad W 0), .ref (xad W (j + 34))] d (fun d' => letIs d' k (setFB fb a b true) ∧ chg [2] d d') := by
  subst ht
  have l0 : d.1 (j + 34) 0 = nI 0 := hli.1
  have l1 : d.1 (j + 34) 1 = nI a := hli.2.1
  have l2 : d.1 (j + 34) 2 = nI b := hli.2.2.1 (show 0 < 2 by decide)
  refine m_spec RX11 [some (.ref (xad W 0)), some (.ref (xad W (j + 34)))] rfl (by decide +kernel) rfl rfl (fun K hR => ?_)
  refine m_aload_n dX11_doLine_0 rfl ?_
  refine m_ifnonnull 5 dX11_doLine_1 (by decide) ?_
  refine m_aload_n dX11_doLine_5 rfl ?_
  refine m_get fl_X11_253 (by omega) (xcell_line _ _ _ (by omega)) rfl dX11_doLine_6 ?_
  refine m_eqi (l0) ?_
  refine m_tswIn 36 dX11_doLine_9 (by decide) (by decide) rfl (by decide) ?_
  refine m_aload_n dX11_doLine_36 rfl ?_
  refine m_get fl_X11_12 (by decide) rfl rfl dX11_doLine_37 ?_
  refine m_aload_n dX11_doLine_40 rfl ?_
  refine m_get fl_X11_259 (by omega) (xcell_line _ _ _ (by omega)) rfl dX11_doLine_41 ?_
  refine m_eqi (l1) ?_
  refine m_aload_n dX11_doLine_44 rfl ?_
  refine m_get fl_X11_262 (by omega) (xcell_line _ _ _ (by omega)) rfl dX11_doLine_45 ?_
  refine m_eqi (l2) ?_
  refine m_iconstN 1 dX11_doLine_48 (by decide) ?_
  refine m_callVV (s_X3_setFree (b := true) hl ha hb hne) cv_X11_132 dX11_doLine_49 (fun d49 h49 => ?_)
  refine m_goto 90 dX11_doLine_52 (by decide) ?_
  exact m_vret hR dX11_doLine_90 (h49)
theorem s_X11_doLine1 {j a b : Nat} {t : Nat × Nat × Nat × Nat} (hl : letIs d k fb) (ht : t = (1, a, b, 0)) (hj : j < 16) (hli : lineIs d j t) (ha : a < k) (hb : b < k) (hne : a ≠ b) : mSpecV l W mX11_doLine (dep + 3) [.ref (xad W 0), .ref (xad W (j + 34))] d (fun d' => letIs d' k (setFB fb a b false) ∧ chg [2] d d') := by
  subst ht
  have l0 : d.1 (j + 34) 0 = nI 1 := hli.1
  have l1 : d.1 (j + 34) 1 = nI a := hli.2.1
  have l2 : d.1 (j + 34) 2 = nI b := hli.2.2.1 (show 1 < 2 by decide)
  refine m_spec RX11 [some (.ref (xad W 0)), some (.ref (xad W (j + 34)))] rfl (by decide +kernel) rfl rfl (fun K hR => ?_)
  refine m_aload_n dX11_doLine_0 rfl ?_
  refine m_ifnonnull 5 dX11_doLine_1 (by decide) ?_
  refine m_aload_n dX11_doLine_5 rfl ?_
  refine m_get fl_X11_253 (by omega) (xcell_line _ _ _ (by omega)) rfl dX11_doLine_6 ?_
  refine m_eqi (l0) ?_
  refine m_tswIn 55 dX11_doLine_9 (by decide) (by decide) rfl (by decide) ?_
  refine m_aload_n dX11_doLine_55 rfl ?_
  refine m_get fl_X11_12 (by decide) rfl rfl dX11_doLine_56 ?_
  refine m_aload_n dX11_doLine_59 rfl ?_
  refine m_get fl_X11_259 (by omega) (xcell_line _ _ _ (by omega)) rfl dX11_doLine_60 ?_
  refine m_eqi (l1) ?_
  refine m_aload_n dX11_doLine_63 rfl ?_
  refine m_get fl_X11_262 (by omega) (xcell_line _ _ _ (by omega)) rfl dX11_doLine_64 ?_
  refine m_eqi (l2) ?_
  refine m_iconstN 0 dX11_doLine_67 (by decide) ?_
  refine m_callVV (s_X3_setFree (b := false) hl ha hb hne) cv_X11_132 dX11_doLine_68 (fun d68 h68 => ?_)
  refine m_goto 90 dX11_doLine_71 (by decide) ?_
  exact m_vret hR dX11_doLine_90 (h68)
theorem s_X11_doLine2 {j n : Nat} {t : Nat × Nat × Nat × Nat} (ht : t = (2, n, 0, 0)) (hj : j < 16) (hli : lineIs d j t) (h1 : 1 ≤ n) (h6 : n ≤ 6) : mSpecV l W mX11_doLine (dep + 3) [.ref (xad W 0), .ref (xad W (j + 34))] d (fun d' => letIs d' n (fun _ => 0) ∧ hpIs d' n (fun _ => []) ∧ chg [1, 2, 4, 5, 6, 7] d d') := by
  subst ht
  have l0 : d.1 (j + 34) 0 = nI 2 := hli.1
  have l1 : d.1 (j + 34) 1 = nI n := hli.2.1
  refine m_spec RX11 [some (.ref (xad W 0)), some (.ref (xad W (j + 34)))] rfl (by decide +kernel) rfl rfl (fun K hR => ?_)
  refine m_aload_n dX11_doLine_0 rfl ?_
  refine m_ifnonnull 5 dX11_doLine_1 (by decide) ?_
  refine m_aload_n dX11_doLine_5 rfl ?_
  refine m_get fl_X11_253 (by omega) (xcell_line _ _ _ (by omega)) rfl dX11_doLine_6 ?_
  refine m_eqi (l0) ?_
  refine m_tswIn 74 dX11_doLine_9 (by decide) (by decide) rfl (by decide) ?_
  refine m_aload_n dX11_doLine_74 rfl ?_
  refine m_aload_n dX11_doLine_75 rfl ?_
  refine m_get fl_X11_259 (by omega) (xcell_line _ _ _ (by omega)) rfl dX11_doLine_76 ?_
  refine m_eqi (l1) ?_
  refine m_callVV (s_X11_startAnew h1 h6) cv_X11_265 dX11_doLine_79 (fun d79 h79 => ?_)
  refine m_goto 90 dX11_doLine_82 (by decide) ?_
  exact m_vret hR dX11_doLine_90 (h79)
theorem s_X11_doLine3 {j hn p q : Nat} {t : Nat × Nat × Nat × Nat} (ht : t = (3, hn, p, q)) (hj : j < 16) (h : txIs d bs) (hli : lineIs d j t) (hh : hn < 4) (hpq : p ≤ q) (hq : q ≤ bs.length) (h24 : q - p ≤ 24) (hw : ∀ i, i < q → p ≤ i → 97 ≤ bs.getD i 0 ∧ bs.getD i 0 - 97 < 6) : mSpecV l W mX11_doLine (dep + 3) [.ref (xad W 0), .ref (xad W (j + 34))] d (fun d' => rowIs d' hn (wrd bs p (q - p)) ∧ chg [hn + 4, hn + 17] d d') := by
  have l0 : d.1 (j + 34) 0 = nI 3 := by rw [hli.1, ht]
  refine m_spec RX11 [some (.ref (xad W 0)), some (.ref (xad W (j + 34)))] rfl (by decide +kernel) rfl rfl (fun K hR => ?_)
  refine m_aload_n dX11_doLine_0 rfl ?_
  refine m_ifnonnull 5 dX11_doLine_1 (by decide) ?_
  refine m_aload_n dX11_doLine_5 rfl ?_
  refine m_get fl_X11_253 (by omega) (xcell_line _ _ _ (by omega)) rfl dX11_doLine_6 ?_
  refine m_eqi (l0) ?_
  refine m_tswOut 85 dX11_doLine_9 (Or.inr (by decide)) (by decide) ?_
  refine m_aload_n dX11_doLine_85 rfl ?_
  refine m_aload_n dX11_doLine_86 rfl ?_
  refine m_callVV (s_X11_tellHeap ht hj h hli hh hpq hq h24 hw) cv_X11_268 dX11_doLine_87 (fun d87 h87 => ?_)
  exact m_vret hR dX11_doLine_90 (h87)
end STP
