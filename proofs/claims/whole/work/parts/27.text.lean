/-! String constants: their rows -/
section STR
variable {E : xE} {X : xC} {A : Nat → Prop} {Z : State → Prop} {cc : ByteArray} {nm : String} {ret : Option FieldType} {rm : Nat × Nat × Nat} {L : List Nat} {f : Nat → va_E} {cu su pc : Nat} {loc : List (Option Value)} {stk : List Value}
theorem fw_J0_9 : Cond.fieldLink RJ0 9 "java/lang/String" "value" "[B" ∈ xws := x_mem 1527 (by decide +kernel) (by decide +kernel)
theorem fw_J0_15 : Cond.fieldLink RJ0 15 "java/lang/String" "coder" "B" ∈ xws := x_mem 1528 (by decide +kernel) (by decide +kernel)
theorem fw_J0_38 : Cond.fieldLink RJ0 38 "java/lang/String" "COMPACT_STRINGS" "Z" ∈ xws := x_mem 480 (by decide +kernel) (by decide +kernel)
theorem fw_J0_1053 : Cond.fieldLink RJ0 1053 "jdk/internal/util/Preconditions" "SIOOBE_FORMATTER" "Ljava/util/function/BiFunction;" ∈ xws := x_mem 496 (by decide +kernel) (by decide +kernel)
theorem g_strval {i : Nat} (hi : i < 6) (d : decode cc pc = .ok (.getfield 9, 3)) (k : xG E X A Z cc RJ0 nm ret rm L f cu su (pc + 3) loc (.ref (E.2.2.2 i) :: stk)) : xG E X A Z cc RJ0 nm ret rm L f cu su pc loc (.ref (E.2.2.1 i) :: stk) := by
  obtain ⟨l, p, e, R, s, m, args, below, meth, c⟩ := X
  intro hO H locs ls hP hD hS hl hml
  exact vk_getf hO.1 hO.2.1 (hO.2.2.2.2.2.2.2.2.2.2.1.1.1 i hi).2.2.1 hS hO.2.2.1 (hO.2.2.2.1 _ fw_J0_9) (fun _ h => h) d (k hO H locs ls hP hD hS hl hml)
theorem g_strcod {i : Nat} (hi : i < 6) (d : decode cc pc = .ok (.getfield 15, 3)) (k : xG E X A Z cc RJ0 nm ret rm L f cu su (pc + 3) loc (.int 0 :: stk)) : xG E X A Z cc RJ0 nm ret rm L f cu su pc loc (.ref (E.2.2.1 i) :: stk) := by
  obtain ⟨l, p, e, R, s, m, args, below, meth, c⟩ := X
  intro hO H locs ls hP hD hS hl hml
  exact vk_getf hO.1 hO.2.1 (hO.2.2.2.2.2.2.2.2.2.2.1.1.1 i hi).2.1 hS hO.2.2.1 (hO.2.2.2.1 _ fw_J0_15) (fun _ h => h) d (k hO H locs ls hP hD hS hl hml)
theorem g_strlen {i : Nat} {own : String} (hi : i < 6) (d : decode cc pc = .ok (.arraylength, 1)) (k : xG E X A Z cc own nm ret rm L f cu su (pc + 1) loc (.int (nI (x_slen.getD i 0)) :: stk)) : xG E X A Z cc own nm ret rm L f cu su pc loc (.ref (E.2.2.2 i) :: stk) := by
  obtain ⟨l, p, e, R, s, m, args, below, meth, c⟩ := X
  intro hO H locs ls hP hD hS hl hml
  exact va_tlen hO.1 hO.2.1 (hO.2.2.2.2.2.2.2.2.2.2.1.1.1 i hi).2.2.2 hS rfl d (k hO H locs ls hP hD hS hl hml)
theorem g_strb {i j : Nat} {own : String} (hi : i < 6) (hj : j < x_slen.getD i 0) (d : decode cc pc = .ok (.baload, 1)) (k : xG E X A Z cc own nm ret rm L f cu su (pc + 1) loc (.int ((x_sbyt.getD i []).getD j 0) :: stk)) : xG E X A Z cc own nm ret rm L f cu su pc loc (.int (nI j) :: .ref (E.2.2.2 i) :: stk) := by
  obtain ⟨l, p, e, R, s, m, args, below, meth, c⟩ := X
  intro hO H locs ls hP hD hS hl hml
  have h7 : ∀ i, i < 6 → x_slen.getD i 0 < 2 ^ 31 := by decide
  have h8 := h7 i hi
  exact va_tb hO.1 hO.2.1 (hO.2.2.2.2.2.2.2.2.2.2.1.1.1 i hi).2.2.2 hS (vp_in_nI hj h8) (by rw [nI_clamp (by omega)]) d (k hO H locs ls hP hD hS hl hml)
theorem g_compact (d : decode cc pc = .ok (.getstatic 38, 3)) (k : xG E X A Z cc RJ0 nm ret rm L f cu su (pc + 3) loc (.int 1 :: stk)) : xG E X A Z cc RJ0 nm ret rm L f cu su pc loc stk := by
  obtain ⟨l, p, e, R, s, m, args, below, meth, c⟩ := X
  intro hO H locs ls hP hD hS hl hml
  exact va_gets hO.1 hO.2.1 hO.2.2.2.2.2.2.2.2.2.2.1.2.1 hS hO.2.2.1 (hO.2.2.2.1 _ fw_J0_38) (fun _ h => h) d (k hO H locs ls hP hD hS hl hml)
theorem g_sioobe (d : decode cc pc = .ok (.getstatic 1053, 3)) (k : ∀ v : Value, (v = .null ∨ ∃ t, v = .ref t) → xG E X A Z cc RJ0 nm ret rm L f cu su (pc + 3) loc (v :: stk)) : xG E X A Z cc RJ0 nm ret rm L f cu su pc loc stk := by
  obtain ⟨l, p, e, R, s, m, args, below, meth, c⟩ := X
  intro hO H locs ls hP hD hS hl hml
  rcases hO.2.2.2.2.2.2.2.2.2.2.1.2.2.1 with h | ⟨t, h⟩
  · exact va_gets hO.1 hO.2.1 h hS hO.2.2.1 (hO.2.2.2.1 _ fw_J0_1053) (fun _ h => h) d (k _ (Or.inl rfl) hO H locs ls hP hD hS hl hml)
  · exact va_gets hO.1 hO.2.1 h hS hO.2.2.1 (hO.2.2.2.1 _ fw_J0_1053) (fun _ h => h) d (k _ (Or.inr ⟨t, rfl⟩) hO H locs ls hP hD hS hl hml)
theorem g_callVS {own : String} {dep mcR msR : Nat} {index n mc ms i : Nat} {M : xM} {As rest : List Value} {Q : Option Value → List Nat → (Nat → va_E) → Prop} (hC : xCV own index M n) (hi : i < 6) (hqc : M.1.cls = RJ0) (hn : As.length = n) (hst : stk = As.reverse ++ .ref (E.2.2.1 i) :: rest) (hroom : (rest.map fun v => v.category).sum ≤ 8) (hmc : cu + mc ≤ mcR) (hms : su + ms ≤ msR)
    (hM : xSpec X.1 E M dep mc ms (.ref (E.2.2.1 i) :: As) L f Q) (d : decode cc pc = .ok (.invokevirtual index, 3))
    (kk : ∀ (v : Option Value) (L' : List Nat) (f' : Nat → va_E), Q v L' f' → xG E X A Z cc own nm ret (dep + 1, mcR, msR) L' f' (cu + mc) (su + ms) (pc + 3) loc (v.toList ++ rest)) : xG E X A Z cc own nm ret (dep + 1, mcR, msR) L f cu su pc loc stk := by
  obtain ⟨l, p, e, R, s, m, args, below, meth, c⟩ := X
  intro hO H locs ls hP hD hS hl hml
  obtain ⟨⟨h1, h2, h3, h4, h5, h6, h7⟩, h8, h9⟩ := hC
  have hw := hO.2.2.2.1
  subst hst
  refine x_after hO hD hS hl hml (va_runV (Ts := xws) (nL := loc.length) (cc := cc) (As := As) (rest := rest) ⟨hO.1, hO.2.1, hml, hO.2.2.1, hw⟩ (hM H.size) (C := M.1.cls) (n := n) (bytes := M.2.1) (maxL := M.2.2.1) (ret := M.2.2.2) ⟨⟨rfl, rfl, ?_, ?_, pay_in hw (x_good h1), List.mem_cons_self, hw _ h1, hw _ h2, ⟨h4, h5⟩, fun sig h => ?_, hw _ h3⟩, hw _ h8, hw _ h9⟩ ⟨x_blind, ?_, x_before hO hP hD hS⟩ rfl hn hl.1 rfl (lv_room hroom) d ⟨Nat.le_trans hmc hO.2.2.2.2.2.2.2.1, Nat.le_trans hms hO.2.2.2.2.2.2.2.2.1⟩) kk
  · have := hO.2.2.2.2.2.1
    exact this
  · have := hO.2.2.2.2.2.2.1
    show 8 + (M.2.2.1 + 11) + 36 * dep ≤ R.locals
    have h0 : 36 * (dep + 1) ≤ R.locals := this
    omega
  · rw [h] at h6
    exact (Option.some.inj h6).symm
  · have := vk_recv hO.2.2.2.2.2.2.2.2.2.2.1.1 hi hS
    rw [hqc]
    exact this
end STR
section STM
variable {W : xW} {K : xK} {cc : ByteArray} {own : String} {dep : Nat} {d : xD} {pc : Nat} {loc : List (Option Value)} {stk : List Value}
theorem m_strval {i : Nat} (hi : i < 6) (dd : decode cc pc = .ok (.getfield 9, 3)) (k : mG W K cc RJ0 dep d (pc + 3) loc (.ref (W.1.2.2.2 i) :: stk)) : mG W K cc RJ0 dep d pc loc (.ref (W.1.2.2.1 i) :: stk) := fun hb => g_strval hi dd (k hb)
theorem m_strcod {i : Nat} (hi : i < 6) (dd : decode cc pc = .ok (.getfield 15, 3)) (k : mG W K cc RJ0 dep d (pc + 3) loc (.int 0 :: stk)) : mG W K cc RJ0 dep d pc loc (.ref (W.1.2.2.1 i) :: stk) := fun hb => g_strcod hi dd (k hb)
theorem m_strlen {i : Nat} (hi : i < 6) (dd : decode cc pc = .ok (.arraylength, 1)) (k : mG W K cc own dep d (pc + 1) loc (.int (nI (x_slen.getD i 0)) :: stk)) : mG W K cc own dep d pc loc (.ref (W.1.2.2.2 i) :: stk) := fun hb => g_strlen hi dd (k hb)
theorem m_strb {i j : Nat} (hi : i < 6) (hj : j < x_slen.getD i 0) (dd : decode cc pc = .ok (.baload, 1)) (k : mG W K cc own dep d (pc + 1) loc (.int ((x_sbyt.getD i []).getD j 0) :: stk)) : mG W K cc own dep d pc loc (.int (nI j) :: .ref (W.1.2.2.2 i) :: stk) := fun hb => g_strb hi hj dd (k hb)
theorem m_compact (dd : decode cc pc = .ok (.getstatic 38, 3)) (k : mG W K cc RJ0 dep d (pc + 3) loc (.int 1 :: stk)) : mG W K cc RJ0 dep d pc loc stk := fun hb => g_compact dd (k hb)
theorem m_sioobe (dd : decode cc pc = .ok (.getstatic 1053, 3)) (k : ∀ v : Value, (v = .null ∨ ∃ t, v = .ref t) → mG W K cc RJ0 dep d (pc + 3) loc (v :: stk)) : mG W K cc RJ0 dep d pc loc stk := fun hb => g_sioobe dd (fun v hv => k v hv hb)
theorem m_callVS {index n i : Nat} {M : xM} {As rest : List Value} {x : Int32} (hM : mSpecI K.1.1 W M dep (.ref (W.1.2.2.1 i) :: As) d (fun r d' => r = x ∧ d' = d)) (hC : xCV own index M n) (dd : decode cc pc = .ok (.invokevirtual index, 3)) (hi : i < 6) (hqc : M.1.cls = RJ0) (hst : stk = As.reverse ++ .ref (W.1.2.2.1 i) :: rest) (hn : As.length = n) (hroom : (rest.map fun v => v.category).sum ≤ 8)
    (kk : mG W K cc own (dep + 1) d (pc + 3) loc (.int x :: rest)) : mG W K cc own (dep + 1) d pc loc stk :=
  fun hb => g_callVS hC hi hqc hn hst hroom (by exact hb.1) (by exact hb.2) hM dd (fun v L' f' h => by
    obtain ⟨rfl, d', h1, r, h2, h3, h4⟩ := h
    subst h2; subst h3; subst h4
    exact g_heap h1 (kk hb))
end STM
section STW
variable {l : Launch} {W : xW} {dep : Nat} {d : xD}
theorem s_J0_coder {i : Nat} (hi : i < 6) : mSpecI l W mJ0_coder_7d493 dep [.ref (W.1.2.2.1 i)] d (fun r d' => r = 0 ∧ d' = d) := by
  refine m_specF RJ0 [some (.ref (W.1.2.2.1 i))] rfl (by decide +kernel) rfl rfl (fun K hR => ?_)
  refine m_compact dJ0_coder_7d493_0 ?_
  refine m_if_eq 13 dJ0_coder_7d493_3 (by decide) (fun c3 => by exfalso; exact absurd c3 (by decide)) (fun c3 => ?_)
  refine m_aload_n dJ0_coder_7d493_6 rfl ?_
  refine m_strcod hi dJ0_coder_7d493_7 ?_
  refine m_goto 14 dJ0_coder_7d493_10 (by decide) ?_
  exact m_iret (ty := .byte) hR dJ0_coder_7d493_14 (⟨rfl, rfl⟩)
theorem s_J0_length {i : Nat} (hi : i < 6) : mSpecI l W mJ0_length_8abf5 (dep + 1) [.ref (W.1.2.2.1 i)] d (fun r d' => r = nI (x_slen.getD i 0) ∧ d' = d) := by
  have h8 : ∀ i, i < 6 → x_slen.getD i 0 < 2 ^ 31 := by decide
  refine m_specF RJ0 [some (.ref (W.1.2.2.1 i))] rfl (by decide +kernel) rfl rfl (fun K hR => ?_)
  refine m_aload_n dJ0_length_8abf5_0 rfl ?_
  refine m_strval hi dJ0_length_8abf5_1 ?_
  refine m_strlen hi dJ0_length_8abf5_4 ?_
  refine m_aload_n dJ0_length_8abf5_5 rfl ?_
  refine m_callVS (s_J0_coder hi) cv_J0_335 dJ0_length_8abf5_6 hi rfl rfl rfl (Nat.le_of_ble_eq_true rfl) ?_
  refine m_ishr dJ0_length_8abf5_9 ?_
  refine m_eqi (((nI_shr (h8 i hi) (show 0 < 32 by decide)).trans (by rw [Nat.pow_zero, Nat.div_one]) : _ = nI (x_slen.getD i 0))) ?_
  exact m_iret (ty := .int) hR dJ0_length_8abf5_10 (⟨rfl, rfl⟩)
theorem s_J0_isLatin1 {i : Nat} (hi : i < 6) : mSpecI l W mJ0_isLatin1_aae02 dep [.ref (W.1.2.2.1 i)] d (fun r d' => r = 1 ∧ d' = d) := by
  refine m_specF RJ0 [some (.ref (W.1.2.2.1 i))] rfl (by decide +kernel) rfl rfl (fun K hR => ?_)
  refine m_compact dJ0_isLatin1_aae02_0 ?_
  refine m_if_eq 17 dJ0_isLatin1_aae02_3 (by decide) (fun c3 => by exfalso; exact absurd c3 (by decide)) (fun c3 => ?_)
  refine m_aload_n dJ0_isLatin1_aae02_6 rfl ?_
  refine m_strcod hi dJ0_isLatin1_aae02_7 ?_
  refine m_if_ne 17 dJ0_isLatin1_aae02_10 (by decide) (fun c10 => by exfalso; exact c10 rfl) (fun c10 => ?_)
  refine m_iconstN 1 dJ0_isLatin1_aae02_13 (by decide) ?_
  refine m_goto 18 dJ0_isLatin1_aae02_14 (by decide) ?_
  exact m_iret (ty := .boolean) hR dJ0_isLatin1_aae02_18 (⟨rfl, rfl⟩)
theorem s_J3_checkIndex {a n : Nat} {v : Value} (hv : v = .null ∨ ∃ t, v = .ref t) (h : a < n) (hn : n < 2 ^ 31) : mSpecI l W mJ3_checkIndex_8e157 dep [.int (nI a), .int (nI n), v] d (fun r d' => r = nI a ∧ d' = d) := by
  rcases hv with rfl | ⟨t, rfl⟩
  · refine m_specF RJ3 [some (.int (nI a)), some (.int (nI n)), some .null] rfl (by decide +kernel) rfl rfl (fun K hR => ?_)
    refine m_iload_n dJ3_checkIndex_8e157_0 rfl ?_
    refine m_if_ltN 9 dJ3_checkIndex_8e157_1 (by decide) (by omega) ?_
    refine m_iload_n dJ3_checkIndex_8e157_4 rfl ?_
    refine m_iload_n dJ3_checkIndex_8e157_5 rfl ?_
    first | refine m_icmp_ltN 16 dJ3_checkIndex_8e157_6 (by decide) (by omega) (by omega) (fun c6 => ?_) (fun c6 => by exfalso; omega) | refine m_icmp_lt 16 dJ3_checkIndex_8e157_6 (by decide) (fun c6 => ?_) (fun c6 => by exfalso; omega)
    refine m_iload_n dJ3_checkIndex_8e157_16 rfl ?_
    exact m_iret (ty := .int) hR dJ3_checkIndex_8e157_17 (⟨rfl, rfl⟩)
  · refine m_specF RJ3 [some (.int (nI a)), some (.int (nI n)), some (.ref t)] rfl (by decide +kernel) rfl rfl (fun K hR => ?_)
    refine m_iload_n dJ3_checkIndex_8e157_0 rfl ?_
    refine m_if_ltN 9 dJ3_checkIndex_8e157_1 (by decide) (by omega) ?_
    refine m_iload_n dJ3_checkIndex_8e157_4 rfl ?_
    refine m_iload_n dJ3_checkIndex_8e157_5 rfl ?_
    first | refine m_icmp_ltN 16 dJ3_checkIndex_8e157_6 (by decide) (by omega) (by omega) (fun c6 => ?_) (fun c6 => by exfalso; omega) | refine m_icmp_lt 16 dJ3_checkIndex_8e157_6 (by decide) (fun c6 => ?_) (fun c6 => by exfalso; omega)
    refine m_iload_n dJ3_checkIndex_8e157_16 rfl ?_
    exact m_iret (ty := .int) hR dJ3_checkIndex_8e157_17 (⟨rfl, rfl⟩)
theorem s_J0_checkIndex {a n : Nat} (h : a < n) (hn : n < 2 ^ 31) : mSpecV l W mJ0_checkIndex_df160 (dep + 1) [.int (nI a), .int (nI n)] d (fun d' => d' = d) := by
  refine m_specF RJ0 [some (.int (nI a)), some (.int (nI n))] rfl (by decide +kernel) rfl rfl (fun K hR => ?_)
  refine m_iload_n dJ0_checkIndex_df160_0 rfl ?_
  refine m_iload_n dJ0_checkIndex_df160_1 rfl ?_
  refine m_sioobe dJ0_checkIndex_df160_2 (fun v hv => ?_)
  refine m_callSIp (s_J3_checkIndex hv h hn) cs_J0_1059 dJ0_checkIndex_df160_5 ?_
  refine m_pop dJ0_checkIndex_df160_8 rfl ?_
  exact m_vret hR dJ0_checkIndex_df160_9 (rfl)
/-- the letters of the String constants -/
def sch (i j : Nat) : Nat := (([[102, 114, 101, 101], [98, 111, 117, 110, 100], [108, 101, 116, 116, 101, 114, 115], [104, 101, 97, 112], [105, 115], [110, 111, 110, 101]] : List (List Nat)).getD i []).getD j 0
theorem sch_eq : ∀ i, i < 6 → ∀ j, j < x_slen.getD i 0 → (((x_sbyt.getD i []).getD j 0 &&& nI 255).toUInt32 % 65536).toInt32 = nI (sch i j) := by decide +kernel
theorem sch_nr : ∀ i, i < 6 → ∀ j, j < x_slen.getD i 0 → narrow FieldType.char (Value.int (nI (sch i j))) = Value.int (nI (sch i j)) := by decide +kernel
theorem s_J1_charAt {i j : Nat} (hi : i < 6) (hj : j < x_slen.getD i 0) : mSpecI l W mJ1_charAt_3b067 (dep + 2) [.ref (W.1.2.2.2 i), .int (nI j)] d (fun r d' => r = nI (sch i j) ∧ d' = d) := by
  have h8 : ∀ i, i < 6 → x_slen.getD i 0 < 2 ^ 31 := by decide
  refine m_specF RJ1 [some (.ref (W.1.2.2.2 i)), some (.int (nI j))] rfl (by decide +kernel) rfl rfl (fun K hR => ?_)
  refine m_iload_n dJ1_charAt_3b067_0 rfl ?_
  refine m_aload_n dJ1_charAt_3b067_1 rfl ?_
  refine m_strlen hi dJ1_charAt_3b067_2 ?_
  refine m_callSVp (s_J0_checkIndex hj (h8 i hi)) cs_J1_9 dJ1_charAt_3b067_3 ?_
  refine m_aload_n dJ1_charAt_3b067_6 rfl ?_
  refine m_iload_n dJ1_charAt_3b067_7 rfl ?_
  refine m_strb hi hj dJ1_charAt_3b067_8 ?_
  refine m_sipushN 255 dJ1_charAt_3b067_9 (by decide) ?_
  refine m_iand dJ1_charAt_3b067_12 ?_
  refine m_i2c dJ1_charAt_3b067_13 ?_
  refine m_eqi ((sch_eq i hi j hj : _ = nI (sch i j))) ?_
  exact m_iret (ty := .char) (hnr := sch_nr i hi j hj) hR dJ1_charAt_3b067_14 ⟨rfl, rfl⟩
theorem s_J0_charAt {i j : Nat} (hi : i < 6) (hj : j < x_slen.getD i 0) : mSpecI l W mJ0_charAt_5068e (dep + 3) [.ref (W.1.2.2.1 i), .int (nI j)] d (fun r d' => r = nI (sch i j) ∧ d' = d) := by
  refine m_specF RJ0 [some (.ref (W.1.2.2.1 i)), some (.int (nI j))] rfl (by decide +kernel) rfl rfl (fun K hR => ?_)
  refine m_aload_n dJ0_charAt_5068e_0 rfl ?_
  refine m_callVS (s_J0_isLatin1 hi) cv_J0_492 dJ0_charAt_5068e_1 hi rfl rfl rfl (Nat.le_of_ble_eq_true rfl) ?_
  refine m_if_eq 16 dJ0_charAt_5068e_4 (by decide) (fun c4 => by exfalso; exact absurd c4 (by decide)) (fun c4 => ?_)
  refine m_aload_n dJ0_charAt_5068e_7 rfl ?_
  refine m_strval hi dJ0_charAt_5068e_8 ?_
  refine m_iload_n dJ0_charAt_5068e_11 rfl ?_
  refine m_callSIp (s_J1_charAt hi hj) cs_J0_495 dJ0_charAt_5068e_12 ?_
  exact m_iret (ty := .char) (hnr := sch_nr i hi j hj) hR dJ0_charAt_5068e_15 ⟨rfl, rfl⟩
end STW
