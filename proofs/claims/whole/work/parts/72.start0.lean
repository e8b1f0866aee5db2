/-! WHAT THE STATEMENT GIVES AT THE LAW'S ENTRY -/
theorem ar_of {s : State} {c : ClassId} {k : Class} {comp : ClassId} {t : FieldType} (h2 : s.vm.classes[c]? = some k) (h3 : k.kind = .array comp t) : ArrOfT s c t := fun N z => ⟨(fun k h => by cases h), k, h2, comp, h3⟩
theorem ar_c {args : Array Value} {s : State} {t : FieldType} (h : (Cond.arrayClass t).before args s = true) (hra : ∀ c : ClassId, s.vm.findClass ("[" ++ t.toString) = some c → va_RA s c t) : ∃ c, ArrOfT s c t ∧ va_RA s c t := by
  obtain ⟨c, k, comp, h1, h2, h3⟩ := Cond.arrayClass_spec h
  exact ⟨c, ar_of h2 h3, hra c h1⟩
theorem ar_o {args : Array Value} {s : State} {C : String} (h : (Cond.arrayOver (.object C)).before args s = true) : ∃ c, ArrOfT s c (.object C) ∧ va_RA s c (.object C) := by
  obtain ⟨comp, c, k, h1, -, h3, h4, h5⟩ := Cond.arrayOver_spec h
  exact ⟨c, ar_of h3 h4, k, comp, h3, h4, h1, h5⟩
theorem ar_a {args : Array Value} {s : State} {t : FieldType} (h : (Cond.arrayOver (.array t)).before args s = true) : ∃ c, ArrOfT s c (.array t) ∧ va_RA s c (.array t) := by
  obtain ⟨comp, c, k, h1, h3, h4, h5⟩ := Cond.arrayOver_specA h
  exact ⟨c, ar_of h3 h4, h5⟩
def st_tm (i : Nat) : Term := Term.string "SwapSteps$Lines" ([52, 62, 64, 69, 94, 96].getD i 0)
theorem st_ex {args : Array Value} {s : State} (hs : ∀ c ∈ flatC (Jvm.Cond.and given_1 narrow_1), c.before args s = true) : ∀ i : Nat, i < 6 → (Cond.exactly (st_tm i) "java/lang/String").before args s = true
  | 0, _ => hs _ (List.mem_of_getElem? (i := 9) (by decide +kernel))
  | 1, _ => hs _ (List.mem_of_getElem? (i := 17) (by decide +kernel))
  | 2, _ => hs _ (List.mem_of_getElem? (i := 27) (by decide +kernel))
  | 3, _ => hs _ (List.mem_of_getElem? (i := 40) (by decide +kernel))
  | 4, _ => hs _ (List.mem_of_getElem? (i := 51) (by decide +kernel))
  | 5, _ => hs _ (List.mem_of_getElem? (i := 61) (by decide +kernel))
  | n + 6, h => absurd h (by omega)
theorem st_co {args : Array Value} {s : State} (hs : ∀ c ∈ flatC (Jvm.Cond.and given_1 narrow_1), c.before args s = true) : ∀ i : Nat, i < 6 → (Cond.eq (.field (st_tm i) "java/lang/String" "coder" "B") (.int 0)).before args s = true
  | 0, _ => hs _ (List.mem_of_getElem? (i := 10) (by decide +kernel))
  | 1, _ => hs _ (List.mem_of_getElem? (i := 18) (by decide +kernel))
  | 2, _ => hs _ (List.mem_of_getElem? (i := 28) (by decide +kernel))
  | 3, _ => hs _ (List.mem_of_getElem? (i := 41) (by decide +kernel))
  | 4, _ => hs _ (List.mem_of_getElem? (i := 52) (by decide +kernel))
  | 5, _ => hs _ (List.mem_of_getElem? (i := 62) (by decide +kernel))
  | n + 6, h => absurd h (by omega)
theorem st_ar {args : Array Value} {s : State} (hs : ∀ c ∈ flatC (Jvm.Cond.and given_1 narrow_1), c.before args s = true) : ∀ i : Nat, i < 6 → (Cond.arrayOf (.field (st_tm i) "java/lang/String" "value" "[B") .byte).before args s = true
  | 0, _ => hs _ (List.mem_of_getElem? (i := 11) (by decide +kernel))
  | 1, _ => hs _ (List.mem_of_getElem? (i := 19) (by decide +kernel))
  | 2, _ => hs _ (List.mem_of_getElem? (i := 29) (by decide +kernel))
  | 3, _ => hs _ (List.mem_of_getElem? (i := 42) (by decide +kernel))
  | 4, _ => hs _ (List.mem_of_getElem? (i := 53) (by decide +kernel))
  | 5, _ => hs _ (List.mem_of_getElem? (i := 63) (by decide +kernel))
  | n + 6, h => absurd h (by omega)
theorem st_le {args : Array Value} {s : State} (hs : ∀ c ∈ flatC (Jvm.Cond.and given_1 narrow_1), c.before args s = true) : ∀ i : Nat, i < 6 → (Cond.eq (.length (.field (st_tm i) "java/lang/String" "value" "[B")) (.int (Int32.ofNat (x_slen.getD i 0)))).before args s = true
  | 0, _ => hs _ (List.mem_of_getElem? (i := 12) (by decide +kernel))
  | 1, _ => hs _ (List.mem_of_getElem? (i := 20) (by decide +kernel))
  | 2, _ => hs _ (List.mem_of_getElem? (i := 30) (by decide +kernel))
  | 3, _ => hs _ (List.mem_of_getElem? (i := 43) (by decide +kernel))
  | 4, _ => hs _ (List.mem_of_getElem? (i := 54) (by decide +kernel))
  | 5, _ => hs _ (List.mem_of_getElem? (i := 64) (by decide +kernel))
  | n + 6, h => absurd h (by omega)
theorem st_el0 {args : Array Value} {s : State} (hs : ∀ c ∈ flatC (Jvm.Cond.and given_1 narrow_1), c.before args s = true) : ∀ j : Nat, j < 4 → (Cond.eq (.elem (.field (st_tm 0) "java/lang/String" "value" "[B") (.int (Int32.ofNat j))) (.int ((x_sbyt.getD 0 []).getD j 0))).before args s = true
  | 0, _ => hs _ (List.mem_of_getElem? (i := 13) (by decide +kernel))
  | 1, _ => hs _ (List.mem_of_getElem? (i := 14) (by decide +kernel))
  | 2, _ => hs _ (List.mem_of_getElem? (i := 15) (by decide +kernel))
  | 3, _ => hs _ (List.mem_of_getElem? (i := 16) (by decide +kernel))
  | n + 4, h => absurd h (by omega)
theorem st_el1 {args : Array Value} {s : State} (hs : ∀ c ∈ flatC (Jvm.Cond.and given_1 narrow_1), c.before args s = true) : ∀ j : Nat, j < 5 → (Cond.eq (.elem (.field (st_tm 1) "java/lang/String" "value" "[B") (.int (Int32.ofNat j))) (.int ((x_sbyt.getD 1 []).getD j 0))).before args s = true
  | 0, _ => hs _ (List.mem_of_getElem? (i := 21) (by decide +kernel))
  | 1, _ => hs _ (List.mem_of_getElem? (i := 22) (by decide +kernel))
  | 2, _ => hs _ (List.mem_of_getElem? (i := 23) (by decide +kernel))
  | 3, _ => hs _ (List.mem_of_getElem? (i := 24) (by decide +kernel))
  | 4, _ => hs _ (List.mem_of_getElem? (i := 25) (by decide +kernel))
  | n + 5, h => absurd h (by omega)
theorem st_el2 {args : Array Value} {s : State} (hs : ∀ c ∈ flatC (Jvm.Cond.and given_1 narrow_1), c.before args s = true) : ∀ j : Nat, j < 7 → (Cond.eq (.elem (.field (st_tm 2) "java/lang/String" "value" "[B") (.int (Int32.ofNat j))) (.int ((x_sbyt.getD 2 []).getD j 0))).before args s = true
  | 0, _ => hs _ (List.mem_of_getElem? (i := 31) (by decide +kernel))
  | 1, _ => hs _ (List.mem_of_getElem? (i := 32) (by decide +kernel))
  | 2, _ => hs _ (List.mem_of_getElem? (i := 33) (by decide +kernel))
  | 3, _ => hs _ (List.mem_of_getElem? (i := 34) (by decide +kernel))
  | 4, _ => hs _ (List.mem_of_getElem? (i := 35) (by decide +kernel))
  | 5, _ => hs _ (List.mem_of_getElem? (i := 36) (by decide +kernel))
  | 6, _ => hs _ (List.mem_of_getElem? (i := 37) (by decide +kernel))
  | n + 7, h => absurd h (by omega)
theorem st_el3 {args : Array Value} {s : State} (hs : ∀ c ∈ flatC (Jvm.Cond.and given_1 narrow_1), c.before args s = true) : ∀ j : Nat, j < 4 → (Cond.eq (.elem (.field (st_tm 3) "java/lang/String" "value" "[B") (.int (Int32.ofNat j))) (.int ((x_sbyt.getD 3 []).getD j 0))).before args s = true
  | 0, _ => hs _ (List.mem_of_getElem? (i := 44) (by decide +kernel))
  | 1, _ => hs _ (List.mem_of_getElem? (i := 45) (by decide +kernel))
  | 2, _ => hs _ (List.mem_of_getElem? (i := 46) (by decide +kernel))
  | 3, _ => hs _ (List.mem_of_getElem? (i := 47) (by decide +kernel))
  | n + 4, h => absurd h (by omega)
theorem st_el4 {args : Array Value} {s : State} (hs : ∀ c ∈ flatC (Jvm.Cond.and given_1 narrow_1), c.before args s = true) : ∀ j : Nat, j < 2 → (Cond.eq (.elem (.field (st_tm 4) "java/lang/String" "value" "[B") (.int (Int32.ofNat j))) (.int ((x_sbyt.getD 4 []).getD j 0))).before args s = true
  | 0, _ => hs _ (List.mem_of_getElem? (i := 55) (by decide +kernel))
  | 1, _ => hs _ (List.mem_of_getElem? (i := 56) (by decide +kernel))
  | n + 2, h => absurd h (by omega)
theorem st_el5 {args : Array Value} {s : State} (hs : ∀ c ∈ flatC (Jvm.Cond.and given_1 narrow_1), c.before args s = true) : ∀ j : Nat, j < 4 → (Cond.eq (.elem (.field (st_tm 5) "java/lang/String" "value" "[B") (.int (Int32.ofNat j))) (.int ((x_sbyt.getD 5 []).getD j 0))).before args s = true
  | 0, _ => hs _ (List.mem_of_getElem? (i := 65) (by decide +kernel))
  | 1, _ => hs _ (List.mem_of_getElem? (i := 66) (by decide +kernel))
  | 2, _ => hs _ (List.mem_of_getElem? (i := 67) (by decide +kernel))
  | 3, _ => hs _ (List.mem_of_getElem? (i := 68) (by decide +kernel))
  | n + 4, h => absurd h (by omega)
theorem st_el {args : Array Value} {s : State} (hs : ∀ c ∈ flatC (Jvm.Cond.and given_1 narrow_1), c.before args s = true) : ∀ i : Nat, i < 6 → ∀ j : Nat, j < x_slen.getD i 0 → (Cond.eq (.elem (.field (st_tm i) "java/lang/String" "value" "[B") (.int (Int32.ofNat j))) (.int ((x_sbyt.getD i []).getD j 0))).before args s = true
  | 0, _ => st_el0 hs
  | 1, _ => st_el1 hs
  | 2, _ => st_el2 hs
  | 3, _ => st_el3 hs
  | 4, _ => st_el4 hs
  | 5, _ => st_el5 hs
  | n + 6, h => absurd h (by omega)
theorem st_ne {args : Array Value} {s : State} (hs : ∀ c ∈ flatC (Jvm.Cond.and given_1 narrow_1), c.before args s = true) : ∀ i j : Nat, i < 6 → j < 6 → i ≠ j → (Cond.not (Cond.eq (st_tm i) (st_tm j))).before args s = true ∨ (Cond.not (Cond.eq (st_tm j) (st_tm i))).before args s = true
  | 0, 0, _, _, h => absurd rfl h
  | 0, 1, _, _, _ => Or.inl (hs _ (List.mem_of_getElem? (i := 26) (by decide +kernel)))
  | 0, 2, _, _, _ => Or.inl (hs _ (List.mem_of_getElem? (i := 38) (by decide +kernel)))
  | 0, 3, _, _, _ => Or.inl (hs _ (List.mem_of_getElem? (i := 48) (by decide +kernel)))
  | 0, 4, _, _, _ => Or.inl (hs _ (List.mem_of_getElem? (i := 57) (by decide +kernel)))
  | 0, 5, _, _, _ => Or.inl (hs _ (List.mem_of_getElem? (i := 69) (by decide +kernel)))
  | 1, 0, _, _, _ => Or.inr (hs _ (List.mem_of_getElem? (i := 26) (by decide +kernel)))
  | 1, 1, _, _, h => absurd rfl h
  | 1, 2, _, _, _ => Or.inl (hs _ (List.mem_of_getElem? (i := 39) (by decide +kernel)))
  | 1, 3, _, _, _ => Or.inl (hs _ (List.mem_of_getElem? (i := 49) (by decide +kernel)))
  | 1, 4, _, _, _ => Or.inl (hs _ (List.mem_of_getElem? (i := 58) (by decide +kernel)))
  | 1, 5, _, _, _ => Or.inl (hs _ (List.mem_of_getElem? (i := 70) (by decide +kernel)))
  | 2, 0, _, _, _ => Or.inr (hs _ (List.mem_of_getElem? (i := 38) (by decide +kernel)))
  | 2, 1, _, _, _ => Or.inr (hs _ (List.mem_of_getElem? (i := 39) (by decide +kernel)))
  | 2, 2, _, _, h => absurd rfl h
  | 2, 3, _, _, _ => Or.inl (hs _ (List.mem_of_getElem? (i := 50) (by decide +kernel)))
  | 2, 4, _, _, _ => Or.inl (hs _ (List.mem_of_getElem? (i := 59) (by decide +kernel)))
  | 2, 5, _, _, _ => Or.inl (hs _ (List.mem_of_getElem? (i := 71) (by decide +kernel)))
  | 3, 0, _, _, _ => Or.inr (hs _ (List.mem_of_getElem? (i := 48) (by decide +kernel)))
  | 3, 1, _, _, _ => Or.inr (hs _ (List.mem_of_getElem? (i := 49) (by decide +kernel)))
  | 3, 2, _, _, _ => Or.inr (hs _ (List.mem_of_getElem? (i := 50) (by decide +kernel)))
  | 3, 3, _, _, h => absurd rfl h
  | 3, 4, _, _, _ => Or.inl (hs _ (List.mem_of_getElem? (i := 60) (by decide +kernel)))
  | 3, 5, _, _, _ => Or.inl (hs _ (List.mem_of_getElem? (i := 72) (by decide +kernel)))
  | 4, 0, _, _, _ => Or.inr (hs _ (List.mem_of_getElem? (i := 57) (by decide +kernel)))
  | 4, 1, _, _, _ => Or.inr (hs _ (List.mem_of_getElem? (i := 58) (by decide +kernel)))
  | 4, 2, _, _, _ => Or.inr (hs _ (List.mem_of_getElem? (i := 59) (by decide +kernel)))
  | 4, 3, _, _, _ => Or.inr (hs _ (List.mem_of_getElem? (i := 60) (by decide +kernel)))
  | 4, 4, _, _, h => absurd rfl h
  | 4, 5, _, _, _ => Or.inl (hs _ (List.mem_of_getElem? (i := 73) (by decide +kernel)))
  | 5, 0, _, _, _ => Or.inr (hs _ (List.mem_of_getElem? (i := 69) (by decide +kernel)))
  | 5, 1, _, _, _ => Or.inr (hs _ (List.mem_of_getElem? (i := 70) (by decide +kernel)))
  | 5, 2, _, _, _ => Or.inr (hs _ (List.mem_of_getElem? (i := 71) (by decide +kernel)))
  | 5, 3, _, _, _ => Or.inr (hs _ (List.mem_of_getElem? (i := 72) (by decide +kernel)))
  | 5, 4, _, _, _ => Or.inr (hs _ (List.mem_of_getElem? (i := 73) (by decide +kernel)))
  | 5, 5, _, _, h => absurd rfl h
  | n + 6, _, h, _, _ => absurd h (by omega)
  | _, n + 6, _, h, _ => absurd h (by omega)
theorem x_start {b : Nat} {s : State} (hgv : (Jvm.Cond.and given_1 narrow_1).before #[Value.ref b] s = true) (hts : ∀ w ∈ lw_tbl, w.before #[Value.ref b] s = true) : ∃ E : xE, va_K E.1 vwCl (xtys E) s ∧ xExt E (fun q => s.heap.size ≤ q) s s.heap ∧ xNst s := by
  have hs := flat_of_before _ hgv
  have hA : ∀ a : Nat, a < s.heap.size → ¬ (fun q => s.heap.size ≤ q) a := fun a h => Nat.not_le.mpr h
  have hx : ∀ w ∈ xws, w.before #[Value.ref b] s = true := fun w hw => hts w (List.mem_filter.mp hw).1
  obtain ⟨c0, i0, K0⟩ := u_known (C := RX0) (T := TX0) (N := 10) (n := 10) hx cl_0.2.1 (hts _ (List.mem_of_getElem? (i := 246) (by decide +kernel)))
  obtain ⟨c1, i1, K1⟩ := u_known (C := RX1) (T := TX1) (N := 7) (n := 7) hx cl_1.2.1 (hts _ (List.mem_of_getElem? (i := 286) (by decide +kernel)))
  obtain ⟨c2, i2, K2⟩ := u_known (C := RX2) (T := TX2) (N := 4) (n := 4) hx cl_2.2.1 (hts _ (List.mem_of_getElem? (i := 204) (by decide +kernel)))
  obtain ⟨c3, i3, K3⟩ := u_known (C := RX3) (T := TX3) (N := 2) (n := 2) hx cl_3.2.1 (hts _ (List.mem_of_getElem? (i := 105) (by decide +kernel)))
  obtain ⟨c4, i4, K4⟩ := u_known (C := RX4) (T := TX4) (N := 5) (n := 5) hx cl_4.2.1 (hts _ (List.mem_of_getElem? (i := 159) (by decide +kernel)))
  obtain ⟨c5, i5, K5⟩ := u_known (C := RX5) (T := TX5) (N := 4) (n := 4) hx cl_5.2.1 (hts _ (List.mem_of_getElem? (i := 152) (by decide +kernel)))
  obtain ⟨c6, i6, K6⟩ := u_known (C := RX6) (T := TX6) (N := 6) (n := 6) hx cl_6.2.1 (hts _ (List.mem_of_getElem? (i := 317) (by decide +kernel)))
  obtain ⟨c7, i7, K7⟩ := u_known (C := RX7) (T := TX7) (N := 4) (n := 4) hx cl_7.2.1 (hts _ (List.mem_of_getElem? (i := 225) (by decide +kernel)))
  obtain ⟨c8, i8, K8⟩ := u_known (C := RX8) (T := TX8) (N := 7) (n := 7) hx cl_8.2.1 (hts _ (List.mem_of_getElem? (i := 344) (by decide +kernel)))
  obtain ⟨c9, i9, K9⟩ := u_known (C := RX9) (T := TX9) (N := 2) (n := 2) hx cl_9.2.1 (hts _ (List.mem_of_getElem? (i := 120) (by decide +kernel)))
  obtain ⟨c10, i10, K10⟩ := u_known (C := RX10) (T := TX10) (N := 4) (n := 4) hx cl_10.2.1 (hts _ (List.mem_of_getElem? (i := 133) (by decide +kernel)))
  obtain ⟨c11, i11, K11⟩ := u_known (C := RX11) (T := TX11) (N := 11) (n := 11) hx cl_11.2.1 (hts _ (List.mem_of_getElem? (i := 97) (by decide +kernel)))
  obtain ⟨c12, i12, K12⟩ := u_known (C := RX12) (T := TX12) (N := 35) (n := 35) hx cl_12.2.1 (hts _ (List.mem_of_getElem? (i := 1137) (by decide +kernel)))
  obtain ⟨t0, T0⟩ := ar_c (t := .int) (hts _ (List.mem_of_getElem? (i := 117) (by decide +kernel))) (fun c h => h)
  obtain ⟨t1, T1⟩ := ar_c (t := .long) (hts _ (List.mem_of_getElem? (i := 315) (by decide +kernel))) (fun c h => h)
  obtain ⟨t2, T2⟩ := ar_c (t := .byte) (hts _ (List.mem_of_getElem? (i := 284) (by decide +kernel))) (fun c h => h)
  obtain ⟨t3, T3⟩ := ar_c (t := .boolean) (hts _ (List.mem_of_getElem? (i := 1249) (by decide +kernel))) (fun c h => h)
  obtain ⟨t4, T4⟩ := ar_o (C := RX9) (hts _ (List.mem_of_getElem? (i := 119) (by decide +kernel)))
  obtain ⟨t5, T5⟩ := ar_o (C := RX4) (hts _ (List.mem_of_getElem? (i := 158) (by decide +kernel)))
  obtain ⟨t6, T6⟩ := ar_a (t := .int) (hts _ (List.mem_of_getElem? (i := 252) (by decide +kernel)))
  obtain ⟨t7, T7⟩ := ar_a (t := .long) (hts _ (List.mem_of_getElem? (i := 323) (by decide +kernel)))
  obtain ⟨adK, adV, hSt, hEv⟩ := vk_Sof (N := 6) (tm := st_tm) (len := x_slen) (byt := x_sbyt) (args := #[Value.ref b]) (s := s) (A := fun q => s.heap.size ≤ q) (by decide) (st_ex hs) (st_co hs) (st_ar hs) (st_le hs) (st_el hs) (st_ne hs) hA
  refine ⟨((fun k => [c0, c1, c2, c3, c4, c5, c6, c7, c8, c9, c10, c11, c12].getD k c0, fun k => [i0, i1, i2, i3, i4, i5, i6, i7, i8, i9, i10, i11, i12].getD k i0), fun j => [t0, t1, t2, t3, t4, t5, t6, t7].getD j t0, adK, adV), ⟨fun k q hq => ?_, fun k q hq => ?_⟩, ⟨hSt, ?_, ?_, ?_⟩, ?_, ?_, ?_⟩
  · match k, hq with
    | 0, hq => cases hq; exact K0
    | 1, hq => cases hq; exact K1
    | 2, hq => cases hq; exact K2
    | 3, hq => cases hq; exact K3
    | 4, hq => cases hq; exact K4
    | 5, hq => cases hq; exact K5
    | 6, hq => cases hq; exact K6
    | 7, hq => cases hq; exact K7
    | 8, hq => cases hq; exact K8
    | 9, hq => cases hq; exact K9
    | 10, hq => cases hq; exact K10
    | 11, hq => cases hq; exact K11
    | 12, hq => cases hq; exact K12
    | k + 13, hq => exact absurd (List.getElem?_eq_some_iff.mp hq).1 (by show ¬ k + 13 < 13; omega)
  · match k, hq with
    | 0, hq => cases hq; exact T0
    | 1, hq => cases hq; exact T1
    | 2, hq => cases hq; exact T2
    | 3, hq => cases hq; exact T3
    | 4, hq => cases hq; exact T4
    | 5, hq => cases hq; exact T5
    | 6, hq => cases hq; exact T6
    | 7, hq => cases hq; exact T7
    | k + 8, hq => exact absurd (List.getElem?_eq_some_iff.mp hq).1 (by show ¬ k + 8 < 8; omega)
  · exact va_Zof (hts _ (List.mem_of_getElem? (i := 481) (by decide +kernel))) (hts _ (List.mem_of_getElem? (i := 89) (by decide +kernel))) (va_eqi (hs _ (List.mem_of_getElem? (i := 4) (by decide +kernel)))) hA
  · exact va_Zqof (hts _ (List.mem_of_getElem? (i := 497) (by decide +kernel))) (hts _ (List.mem_of_getElem? (i := 91) (by decide +kernel))) (hs _ (List.mem_of_getElem? (i := 5) (by decide +kernel))) hA
  · intro i q hq
    match i, hq with
    | 0, hq => cases hq; exact vk_R.of (hts _ (List.mem_of_getElem? (i := 463) (by decide +kernel))) (hEv 0 (by decide))
    | 1, hq => cases hq; exact vk_R.of (hts _ (List.mem_of_getElem? (i := 541) (by decide +kernel))) (hEv 1 (by decide))
    | 2, hq => cases hq; exact vk_R.of (hts _ (List.mem_of_getElem? (i := 542) (by decide +kernel))) (hEv 2 (by decide))
    | 3, hq => cases hq; exact vk_R.of (hts _ (List.mem_of_getElem? (i := 551) (by decide +kernel))) (hEv 3 (by decide))
    | 4, hq => cases hq; exact vk_R.of (hts _ (List.mem_of_getElem? (i := 556) (by decide +kernel))) (hEv 4 (by decide))
    | 5, hq => cases hq; exact vk_R.of (hts _ (List.mem_of_getElem? (i := 557) (by decide +kernel))) (hEv 5 (by decide))
    | i + 6, hq => exact absurd (List.getElem?_eq_some_iff.mp hq).1 (by show ¬ i + 6 < 6; omega)
  · intro w hw
    have h1 := hts w (List.mem_filter.mp hw).1
    have h2 := (List.mem_filter.mp hw).2
    cases w with
    | methodLinkNest a i x h => exact va_Nw.of rfl h1
    | _ => simp [xnst] at h2
  · intro C hC
    rcases List.mem_cons.mp hC with rfl | hC
    · exact va_AO.of (hts _ (List.mem_of_getElem? (i := 119) (by decide +kernel)))
    · rcases List.mem_cons.mp hC with rfl | hC
      · exact va_AO.of (hts _ (List.mem_of_getElem? (i := 158) (by decide +kernel)))
      · cases hC
  · intro t ht
    rcases List.mem_cons.mp ht with rfl | ht
    · exact (hts (Cond.arrayOver (.array .int)) (List.mem_of_getElem? (i := 252) (by decide +kernel)))
    · rcases List.mem_cons.mp ht with rfl | ht
      · exact (hts (Cond.arrayOver (.array .long)) (List.mem_of_getElem? (i := 323) (by decide +kernel)))
      · cases ht
