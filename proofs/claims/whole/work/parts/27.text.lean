/-! String constants: their rows -/
section STR
variable {E : xE} {X : xC} {A : Nat → Prop} {Z : State → Prop} {cc : ByteArray} {nm : String} {ret : Option FieldType} {rm : Nat × Nat × Nat} {L : List Nat} {f : Nat → va_E} {cu su pc : Nat} {loc : List (Option Value)} {stk : List Value}
theorem fw_J0_9 : Cond.fieldLink RJ0 9 "java/lang/String" "value" "[B" ∈ xws := x_mem 1527 (by decide +kernel) (by decide +kernel)
theorem fw_J0_15 : Cond.fieldLink RJ0 15 "java/lang/String" "coder" "B" ∈ xws := x_mem 1528 (by decide +kernel) (by decide +kernel)
theorem fw_J0_38 : Cond.fieldLink RJ0 38 "java/lang/String" "COMPACT_STRINGS" "Z" ∈ xws := x_mem 480 (by decide +kernel) (by decide +kernel)
theorem fw_J0_1053 : Cond.fieldLink RJ0 1053 "jdk/internal/util/Preconditions" "SIOOBE_FORMATTER" "Ljava/util/function/BiFunction;" ∈ xws := x_mem 496 (by decide +kernel) (by decide +kernel)
theorem g_strval {i : Nat} (hi : i < 6) (d : decode cc pc = .ok (.getfield 9, 3)) (k : xG E X A Z cc RJ0 nm ret rm L f cu su (pc + 3) loc (.ref (E.2.2.2 i) :: stk)) : xG E X A Z cc RJ0 nm ret rm L f cu su pc loc (.ref (E.2.2.1 i) :: stk) := by
  obtain ⟨l, p, e, R, s, m, args, below, meth, c⟩ := X
  intro hO H locs ls hP hD hS hl hml
  exact vk_getf hO.1 hO.2.1 (hO.2.2.2.2.2.2.2.2.2.2.1.1.1 i hi).2.2.1 hS hO.2.2.1 (hO.2.2.2.1 _ fw_J0_9) (fun _ h => h) d (k hO H locs ls hP hD hS hl hml)
theorem g_strcod {i : Nat} (hi : i < 6) (d : decode cc pc = .ok (.getfield 15, 3)) (k : xG E X A Z cc RJ0 nm ret rm L f cu su (pc + 3) loc (.int 0 :: stk)) : xG E X A Z cc RJ0 nm ret rm L f cu su pc loc (.ref (E.2.2.1 i) :: stk) := by
  obtain ⟨l, p, e, R, s, m, args, below, meth, c⟩ := X
  intro hO H locs ls hP hD hS hl hml
  exact vk_getf hO.1 hO.2.1 (hO.2.2.2.2.2.2.2.2.2.2.1.1.1 i hi).2.1 hS hO.2.2.1 (hO.2.2.2.1 _ fw_J0_15) (fun _ h => h) d (k hO H locs ls hP hD hS hl hml)
theorem g_strlen {i : Nat} {own : String} (hi : i < 6) (d : decode cc pc = .ok (.arraylength, 1)) (k : xG E X A Z cc own nm ret rm L f cu su (pc + 1) loc (.int (nI (x_slen.getD i 0)) :: stk)) : xG E X A Z cc own nm ret rm L f cu su pc loc (.ref (E.2.2.2 i) :: stk) := by
  obtain ⟨l, p, e, R, s, m, args, below, meth, c⟩ := X
  intro hO H locs ls hP hD hS hl hml
  exact va_tlen hO.1 hO.2.1 (hO.2.2.2.2.2.2.2.2.2.2.1.1.1 i hi).2.2.2 hS rfl d (k hO H locs ls hP hD hS hl hml)
theorem g_strb {i j : Nat} {own : String} (hi : i < 6) (hj : j < x_slen.getD i 0) (d : decode cc pc = .ok (.baload, 1)) (k : xG E X A Z cc own nm ret rm L f cu su (pc + 1) loc (.int ((x_sbyt.getD i []).getD j 0) :: stk)) : xG E X A Z cc own nm ret rm L f cu su pc loc (.int (nI j) :: .ref (E.2.2.2 i) :: stk) := by
  obtain ⟨l, p, e, R, s, m, args, below, meth, c⟩ := X
  intro hO H locs ls hP hD hS hl hml
  have h7 : ∀ i, i < 6 → x_slen.getD i 0 < 2 ^ 31 := by decide
  have h8 := h7 i hi
  exact va_tb hO.1 hO.2.1 (hO.2.2.2.2.2.2.2.2.2.2.1.1.1 i hi).2.2.2 hS (vp_in_nI hj h8) (by rw [nI_clamp (by omega)]) d (k hO H locs ls hP hD hS hl hml)
theorem g_compact (d : decode cc pc = .ok (.getstatic 38, 3)) (k : xG E X A Z cc RJ0 nm ret rm L f cu su (pc + 3) loc (.int 1 :: stk)) : xG E X A Z cc RJ0 nm ret rm L f cu su pc loc stk := by
  obtain ⟨l, p, e, R, s, m, args, below, meth, c⟩ := X
  intro hO H locs ls hP hD hS hl hml
  exact va_gets hO.1 hO.2.1 hO.2.2.2.2.2.2.2.2.2.2.1.2.1 hS hO.2.2.1 (hO.2.2.2.1 _ fw_J0_38) (fun _ h => h) d (k hO H locs ls hP hD hS hl hml)
theorem g_sioobe (d : decode cc pc = .ok (.getstatic 1053, 3)) (k : ∀ v : Value, (v = .null ∨ ∃ t, v = .ref t) → xG E X A Z cc RJ0 nm ret rm L f cu su (pc + 3) loc (v :: stk)) : xG E X A Z cc RJ0 nm ret rm L f cu su pc loc stk := by
  obtain ⟨l, p, e, R, s, m, args, below, meth, c⟩ := X
  intro hO H locs ls hP hD hS hl hml
  rcases hO.2.2.2.2.2.2.2.2.2.2.1.2.2.1 with h | ⟨t, h⟩
  · exact va_gets hO.1 hO.2.1 h hS hO.2.2.1 (hO.2.2.2.1 _ fw_J0_1053) (fun _ h => h) d (k _ (Or.inl rfl) hO H locs ls hP hD hS hl hml)
  · exact va_gets hO.1 hO.2.1 h hS hO.2.2.1 (hO.2.2.2.1 _ fw_J0_1053) (fun _ h => h) d (k _ (Or.inr ⟨t, rfl⟩) hO H locs ls hP hD hS hl hml)
theorem g_callVS {own : String} {dep mcR msR : Nat} {index n mc ms i : Nat} {M : xM} {As rest : List Value} {Q : Option Value → List Nat → (Nat → va_E) → Prop} (hC : xCV own index M n) (hi : i < 6) (hqc : M.1.cls = RJ0) (hn : As.length = n) (hst : stk = As.reverse ++ .ref (E.2.2.1 i) :: rest) (hroom : (rest.map fun v => v.category).sum ≤ 8) (hmc : cu + mc ≤ mcR) (hms : su + ms ≤ msR)
    (hM : xSpec X.1 E M dep mc ms (.ref (E.2.2.1 i) :: As) L f Q) (d : decode cc pc = .ok (.invokevirtual index, 3))
    (kk : ∀ (v : Option Value) (L' : List Nat) (f' : Nat → va_E), Q v L' f' → xG E X A Z cc own nm ret (dep + 1, mcR, msR) L' f' (cu + mc) (su + ms) (pc + 3) loc (v.toList ++ rest)) : xG E X A Z cc own nm ret (dep + 1, mcR, msR) L f cu su pc loc stk := by
  obtain ⟨l, p, e, R, s, m, args, below, meth, c⟩ := X
  intro hO H locs ls hP hD hS hl hml
  obtain ⟨⟨h1, h2, h3, h4, h5, h6, h7⟩, h8, h9⟩ := hC
  have hw := hO.2.2.2.1
  subst hst
  refine x_after hO hD hS hl hml (va_runV (Ts := xws) (nL := loc.length) (cc := cc) (As := As) (rest := rest) ⟨hO.1, hO.2.1, hml, hO.2.2.1, hw⟩ (hM H.size) (C := M.1.cls) (n := n) (bytes := M.2.1) (maxL := M.2.2.1) (ret := M.2.2.2) ⟨⟨rfl, rfl, ?_, ?_, pay_in hw (x_good h1), List.mem_cons_self, hw _ h1, hw _ h2, ⟨h4, h5⟩, fun sig h => ?_, hw _ h3⟩, hw _ h8, hw _ h9⟩ ⟨x_blind, ?_, x_before hO hP hD hS⟩ rfl hn hl.1 rfl (lv_room hroom) d ⟨Nat.le_trans hmc hO.2.2.2.2.2.2.2.1, Nat.le_trans hms hO.2.2.2.2.2.2.2.2.1⟩) kk
  · have := hO.2.2.2.2.2.1
    exact this
  · have := hO.2.2.2.2.2.2.1
    show 8 + (M.2.2.1 + 11) + 36 * dep ≤ R.locals
    have h0 : 36 * (dep + 1) ≤ R.locals := this
    omega
  · rw [h] at h6
    exact (Option.some.inj h6).symm
  · have := vk_recv hO.2.2.2.2.2.2.2.2.2.2.1.1 hi hS
    rw [hqc]
    exact this
end STR
section STM
variable {W : xW} {K : xK} {cc : ByteArray} {own : String} {dep : Nat} {d : xD} {pc : Nat} {loc : List (Option Value)} {stk : List Value}
theorem m_strval {i : Nat} (hi : i < 6) (dd : decode cc pc = .ok (.getfield 9, 3)) (k : mG W K cc RJ0 dep d (pc + 3) loc (.ref (W.1.2.2.2 i) :: stk)) : mG W K cc RJ0 dep d pc loc (.ref (W.1.2.2.1 i) :: stk) := fun hb => g_strval hi dd (k hb)
theorem m_strcod {i : Nat} (hi : i < 6) (dd : decode cc pc = .ok (.getfield 15, 3)) (k : mG W K cc RJ0 dep d (pc + 3) loc (.int 0 :: stk)) : mG W K cc RJ0 dep d pc loc (.ref (W.1.2.2.1 i) :: stk) := fun hb => g_strcod hi dd (k hb)
theorem m_strlen {i : Nat} (hi : i < 6) (dd : decode cc pc = .ok (.arraylength, 1)) (k : mG W K cc own dep d (pc + 1) loc (.int (nI (x_slen.getD i 0)) :: stk)) : mG W K cc own dep d pc loc (.ref (W.1.2.2.2 i) :: stk) := fun hb => g_strlen hi dd (k hb)
theorem m_strb {i j : Nat} (hi : i < 6) (hj : j < x_slen.getD i 0) (dd : decode cc pc = .ok (.baload, 1)) (k : mG W K cc own dep d (pc + 1) loc (.int ((x_sbyt.getD i []).getD j 0) :: stk)) : mG W K cc own dep d pc loc (.int (nI j) :: .ref (W.1.2.2.2 i) :: stk) := fun hb => g_strb hi hj dd (k hb)
theorem m_compact (dd : decode cc pc = .ok (.getstatic 38, 3)) (k : mG W K cc RJ0 dep d (pc + 3) loc (.int 1 :: stk)) : mG W K cc RJ0 dep d pc loc stk := fun hb => g_compact dd (k hb)
theorem m_sioobe (dd : decode cc pc = .ok (.getstatic 1053, 3)) (k : ∀ v : Value, (v = .null ∨ ∃ t, v = .ref t) → mG W K cc RJ0 dep d (pc + 3) loc (v :: stk)) : mG W K cc RJ0 dep d pc loc stk := fun hb => g_sioobe dd (fun v hv => k v hv hb)
theorem m_callVS {index n i : Nat} {M : xM} {As rest : List Value} {x : Int32} (hM : mSpecI K.1.1 W M dep (.ref (W.1.2.2.1 i) :: As) d (fun r d' => r = x ∧ d' = d)) (hC : xCV own index M n) (dd : decode cc pc = .ok (.invokevirtual index, 3)) (hi : i < 6) (hqc : M.1.cls = RJ0) (hst : stk = As.reverse ++ .ref (W.1.2.2.1 i) :: rest) (hn : As.length = n) (hroom : (rest.map fun v => v.category).sum ≤ 8)
    (kk : mG W K cc own (dep + 1) d (pc + 3) loc (.int x :: rest)) : mG W K cc own (dep + 1) d pc loc stk :=
  fun hb => g_callVS hC hi hqc hn hst hroom (by exact hb.1) (by exact hb.2) hM dd (fun v L' f' h => by
    obtain ⟨rfl, d', h1, r, h2, h3, h4⟩ := h
    subst h2; subst h3; subst h4
    exact g_heap h1 (kk hb))
end STM
section STW
variable {l : Launch} {W : xW} {dep : Nat} {d : xD}
theorem s_J0_coder {i : Nat} (hi : i < 6) : mSpecI l W mJ0_coder_7d493 dep [.ref (W.1.2.2.1 i)] d (fun r d' => r = 0 ∧ d' = d) := by
  refine m_specF RJ0 [some (.ref (W.1.2.2.1 i))] rfl (by decide +kernel) rfl rfl (fun K hR => ?_)
  refine m_compact dJ0_coder_7d493_0 ?_
  refine m_if_eq 13 dJ0_coder_7d493_3 (by decide) (fun c3 => by exfalso; exact absurd c3 (by decide)) (fun c3 => ?_)
  refine m_aload_n dJ0_coder_7d493_6 rfl ?_
  refine m_strcod hi dJ0_coder_7d493_7 ?_
  refine m_goto 14 dJ0_coder_7d493_10 (by decide) ?_
  exact m_iret (ty := .byte) hR dJ0_coder_7d493_14 (⟨rfl, rfl⟩)
end STW
