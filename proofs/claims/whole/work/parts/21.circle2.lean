/-! class Circle: its methods -/
def hshI (x : Int64) : Nat := (x * (-7046029254386353131)).toUInt64.toNat / 2 ^ 52
def hsh (v : Nat) : Nat := hshI (lN v)
theorem hshI_lt (x : Int64) : hshI x < 4096 := by
  unfold hshI
  have := (x * (-7046029254386353131)).toUInt64.toNat_lt
  omega
theorem hash_sh : ((nI 52).toInt64.toUInt64 &&& Int64.toUInt64 63).toNat % 64 = 52 := by decide +kernel
theorem hash_u (u s : UInt64) (h : s.toNat % 64 = 52) : ((u >>> s).toInt64).toInt32 = nI (u.toNat / 2 ^ 52) := by
  have e : u >>> s = UInt64.ofNat (u.toNat / 2 ^ 52) := by
    apply UInt64.toNat_inj.mp
    rw [UInt64.toNat_shiftRight, h, Nat.shiftRight_eq_div_pow, UInt64.toNat_ofNat', Nat.mod_eq_of_lt]
    have := u.toNat_lt
    omega
  rw [e]
  exact lN_i _
theorem hash_eq (v : Nat) : (((lN v * (-7046029254386353131)).toUInt64 >>> ((nI 52).toInt64.toUInt64 &&& Int64.toUInt64 63)).toInt64).toInt32 = nI (hsh v) := hash_u _ _ hash_sh
def tabIs (d : xD) (T : Nat → Nat) : Prop := ∀ a, a < 4096 → d.2 61 a = lN (T a) ∧ T a < 2 ^ 40
/-- the rows that have been kept -/
def circIs (d : xD) (rs : List (List Nat)) : Prop := d.1 59 6 = nI rs.length ∧ rs.length ≤ 2000 ∧ (∀ (i : Nat) (h : i < rs.length), d.2 60 i = lN (num rs[i])) ∧ (∀ r ∈ rs, r.length ≤ 12 ∧ ∀ x ∈ r, x < 6) ∧ ∃ T, tabIs d T ∧ tabOk 4096 hsh T (rs.map num)
theorem circIs.fr {S : List Nat} {d d' : xD} {rs : List (List Nat)} (h : circIs d rs) (hc : chg S d d') (h1 : 59 ∉ S) (h2 : 60 ∉ S) (h3 : 61 ∉ S) : circIs d' rs := by
  obtain ⟨a, b, c, e, T, f, g⟩ := h
  exact ⟨by rw [(hc 59 h1).1]; exact a, b, fun i hi => by rw [(hc 60 h2).2]; exact c i hi, e, T, fun q hq => by rw [(hc 61 h3).2]; exact f q hq, g⟩
def ins (rs : List (List Nat)) (r : List Nat) : Option (List (List Nat)) := if r ∈ rs then some rs else if rs.length < 2000 then some (rs ++ [r]) else none
def turnF (B : Nat → Nat) (rs : List (List Nat)) (ys : List Nat) (n : Nat) : Option (List (List Nat)) := (List.range n).foldl (fun o p => o.bind (fun rs => match front B ys p with
  | none => some rs
  | some i => ins rs (leastR B (ys.eraseIdx i ++ [p])))) (some rs)
theorem turnF_s (B : Nat → Nat) (rs : List (List Nat)) (ys : List Nat) (n : Nat) : turnF B rs ys (n + 1) = (turnF B rs ys n).bind (fun rs => match front B ys n with | none => some rs | some i => ins rs (leastR B (ys.eraseIdx i ++ [n]))) := by
  unfold turnF
  rw [List.range_succ, List.foldl_append]; rfl
theorem foldl_none {α β : Type} (f : α → β → Option α) : ∀ l : List β, l.foldl (fun o p => o.bind (fun rs => f rs p)) none = none
  | [] => rfl
  | _ :: l => foldl_none f l
theorem turnF_none {B : Nat → Nat} {rs : List (List Nat)} {ys : List Nat} {n m : Nat} (h : turnF B rs ys n = none) (hm : n ≤ m) : turnF B rs ys m = none := by
  induction m with
  | zero => rw [show n = 0 by omega] at h; exact h
  | succ m ih =>
    by_cases e : n = m + 1
    · rw [← e]; exact h
    · rw [turnF_s, ih (by omega)]; rfl
def circF (B : Nat → Nat) (k : Nat) : Nat → Nat → List (List Nat) → Option (List (List Nat))
  | 0, _, rs => some rs
  | n + 1, i, rs => if i < rs.length then (turnF B rs (rs.getD i []) k).bind (circF B k n (i + 1)) else some rs
theorem circF_s (B : Nat → Nat) (k n i : Nat) (rs : List (List Nat)) : circF B k (n + 1) i rs = if i < rs.length then (turnF B rs (rs.getD i []) k).bind (circF B k n (i + 1)) else some rs := rfl
theorem seL_oq (d : xD) {o o' k : Nat} (x : Int64) (h : o' ≠ o) (q : Nat) : (seL d o k x).2 o' q = d.2 o' q := congrFun (seL_o d o k x o' h) q
section CIR
variable {l : Launch} {W : xW} {dep : Nat} {d : xD} {k : Nat} {fb : Nat → Nat} {j : Nat} {xs ys : List Nat} {rs : List (List Nat)}
theorem s_X1_found {r : Nat} (h : d.1 59 6 = nI r) : mSpecI l W mX1_found dep [.ref (xad W 59)] d (fun r' d' => r' = nI r ∧ d' = d) := by
  refine m_spec RX1 [some (.ref (xad W 59))] rfl (by decide +kernel) rfl rfl (fun K hR => ?_)
  refine m_aload_n dX1_found_0 rfl ?_
  refine m_get fl_X1_28 (by decide) rfl rfl dX1_found_1 ?_
  refine m_eqi (h) ?_
  exact m_iret (ty := .int) hR dX1_found_4 (⟨rfl, rfl⟩)
theorem m_iinc3 {W : xW} {K : xK} {cc : ByteArray} {own : String} {dep : Nat} {d : xD} {pc : Nat} {loc : List (Option Value)} {stk : List Value} {i x : Nat} {n : Int} (dd : decode cc pc = .ok (.iinc i n, 3)) (hv : Int32.ofInt n = -3) (h : loc[i]? = some (some (.int (nI (x + 3))))) (hn : xnl loc i = true) (k : mG W K cc own dep d (pc + 3) (loc.set i (some (.int (nI x)))) stk) : mG W K cc own dep d pc loc stk := m_iinc dd h hn (by
  rw [hv, show nI (x + 3) + -3 = nI x from ?_]
  · exact k
  · have e : nI (x + 3) = nI x + 3 := (nI_add x 3).symm
    rw [e, Int32.add_assoc]
    show nI x + 0 = nI x
    rw [Int32.add_zero])
theorem s_X1_setRow (hj : j < 13) (h12 : ys.length ≤ 12) (hy : ∀ y ∈ ys, y < 6) : mSpecV l W mX1_setRow (dep + 1) [.ref (xad W (j + 4)), .long (lN (num ys))] d (fun d' => rowIs d' j ys ∧ chg [j + 4, j + 17] d d') := by
  have hy8 : ∀ y ∈ ys, y < 8 := fun y h => by have := hy y h; omega
  have hnl := num_lt h12 hy8
  refine m_spec RX1 [some (.ref (xad W (j + 4))), some (.long (lN (num ys))), none, none] rfl (by decide +kernel) rfl rfl (fun K hR => ?_)
  have hpw : ∀ s, 2 ^ (3 * s) = 8 ^ s := fun s => by rw [Nat.pow_mul]
  have h6 : ∀ s, s < ys.length → num ys / 2 ^ (3 * s) &&& 7 = ys.getD (ys.length - (s + 1)) 0 := fun s hs => by
    have hi : ys.length - (s + 1) < ys.length := by omega
    rw [hpw, num_div s ys hy8 (by omega), show ys.length - s = ys.length - (s + 1) + 1 by omega, take_s hi, num_s, getD_at hi, show (7 : Nat) = 2 ^ 3 - 1 from rfl, Nat.and_two_pow_sub_one_eq_mod]
    have := hy8 _ (List.getElem_mem hi)
    omega
  have loop : ∀ (s : Nat), s ≤ 11 → ∀ d1, rowIs d1 j (ys.take (ys.length - (s + 1))) → chg [j + 4, j + 17] d d1 → mG W K cX1_setRow RX1 (dep + 1) d1 7 [some (.ref (xad W (j + 4))), some (.long (lN (num ys))), none, some (.int (nI (3 * s)))] [] := by
    intro s
    induction s with
    | zero =>
      intro hs d1 g1 g2
      have hz : num ys / 2 ^ (3 * 0 + 3) = num ys / 8 ^ 1 := rfl
      have hd1 : num ys / 2 ^ 3 ≤ num ys := Nat.div_le_self _ _
      have hd0 : num ys / 2 ^ (3 * 0) ≤ num ys := Nat.div_le_self _ _
      refine m_iload_n dX1_setRow_7 rfl ?_
      refine m_if_ltN 40 dX1_setRow_8 (by decide) (by omega) ?_
      refine m_lload_n dX1_setRow_11 rfl ?_
      refine m_iload_n dX1_setRow_12 rfl ?_
      refine m_iconstN 3 dX1_setRow_13 (by decide) ?_
      first | refine m_iaddN dX1_setRow_14 ?_ | refine m_iadd dX1_setRow_14 ?_
      refine m_lshr dX1_setRow_15 ?_
      refine m_eql (wb_shr (by omega) (by omega)) ?_
      refine m_lconstN 0 dX1_setRow_16 (by decide) ?_
      refine m_lcmp_eqN 34 dX1_setRow_17 dX1_setRow_18 (by decide) (by omega) (by omega) (fun c17 => ?_) (fun c17 => ?_)
      · refine m_iinc dX1_setRow_34 rfl rfl ?_
        refine m_goto 7 dX1_setRow_37 (by decide) ?_
        refine m_iload_n dX1_setRow_7 rfl ?_
        refine m_if_lt 40 dX1_setRow_8 (by decide) (fun c8 => ?_) (fun c8 => by exfalso; exact c8 (by decide))
        have hlt : ¬ 0 < ys.length := fun z => by
          rw [hz, num_div 1 ys hy8 (by omega)] at c17
          have := num_pos (xs := ys.take (ys.length - 1)) (fun x hx => hy8 x (List.mem_of_mem_take hx))
          omega
        have e0 : ys = [] := List.eq_nil_of_length_eq_zero (by omega)
        exact m_vret hR dX1_setRow_40 (⟨by subst e0; simpa using g1, g2⟩)
      · refine m_aload_n dX1_setRow_21 rfl ?_
        refine m_lload_n dX1_setRow_22 rfl ?_
        refine m_iload_n dX1_setRow_23 rfl ?_
        refine m_lshr dX1_setRow_24 ?_
        refine m_eql (wb_shr (by omega) (by omega)) ?_
        refine m_ldc2 ct_X1_97 dX1_setRow_25 ?_
        refine m_eql (y := lN 7) (by decide +kernel) ?_
        refine m_land dX1_setRow_28 ?_
        refine m_eql (wb_and (by omega) (by omega)) ?_
        have hlt : 0 < ys.length := by
          refine Nat.pos_of_ne_zero (fun z => c17 ?_)
          rw [hz]; exact num_div0 hy8 (by omega)
        first | refine m_l2iN dX1_setRow_29 ?_ | refine m_l2i dX1_setRow_29 ?_
        refine m_eqi (congrArg nI (h6 0 hlt)) ?_
        have hgl : ys.getD (ys.length - (0 + 1)) 0 < 6 := by rw [getD_at (by omega)]; exact hy _ (List.getElem_mem _)
        refine m_callVI (s_X9_push hj g1 (x := ys.getD (ys.length - (0 + 1)) 0) hgl (by simp; omega)) cv_X1_80 dX1_setRow_30 (fun r30 d30 h30 => ?_)
        refine m_pop dX1_setRow_33 rfl ?_
        refine m_iinc dX1_setRow_34 rfl rfl ?_
        refine m_goto 7 dX1_setRow_37 (by decide) ?_
        refine m_iload_n dX1_setRow_7 rfl ?_
        refine m_if_lt 40 dX1_setRow_8 (by decide) (fun c8 => ?_) (fun c8 => by exfalso; exact c8 (by decide))
        have e1 : ys.take (ys.length - (0 + 1)) ++ [ys.getD (ys.length - (0 + 1)) 0] = ys := by
          rw [getD_at (by omega), ← take_s (by omega), List.take_of_length_le (by omega)]
        have h31 := h30.2.1
        rw [e1] at h31
        exact m_vret hR dX1_setRow_40 (⟨h31, g2.tr h30.2.2⟩)
    | succ s ih =>
      intro hs d1 g1 g2
      have hz : num ys / 2 ^ (3 * (s + 1) + 3) = num ys / 8 ^ (s + 2) := by rw [show 3 * (s + 1) + 3 = 3 * (s + 2) by omega, hpw]
      have hd1 : num ys / 2 ^ (3 * (s + 1) + 3) ≤ num ys := Nat.div_le_self _ _
      have hd0 : num ys / 2 ^ (3 * (s + 1)) ≤ num ys := Nat.div_le_self _ _
      refine m_iload_n dX1_setRow_7 rfl ?_
      refine m_if_ltN 40 dX1_setRow_8 (by decide) (by omega) ?_
      refine m_lload_n dX1_setRow_11 rfl ?_
      refine m_iload_n dX1_setRow_12 rfl ?_
      refine m_iconstN 3 dX1_setRow_13 (by decide) ?_
      first | refine m_iaddN dX1_setRow_14 ?_ | refine m_iadd dX1_setRow_14 ?_
      refine m_lshr dX1_setRow_15 ?_
      refine m_eql (wb_shr (by omega) (by omega)) ?_
      refine m_lconstN 0 dX1_setRow_16 (by decide) ?_
      refine m_lcmp_eqN 34 dX1_setRow_17 dX1_setRow_18 (by decide) (by omega) (by omega) (fun c17 => ?_) (fun c17 => ?_)
      · refine m_iinc3 (x := 3 * s) dX1_setRow_34 (by decide) rfl rfl ?_
        refine m_goto 7 dX1_setRow_37 (by decide) ?_
        have hlt : ¬ s + 1 < ys.length := fun z => by
          rw [hz, num_div (s + 2) ys hy8 (by omega)] at c17
          have := num_pos (xs := ys.take (ys.length - (s + 2))) (fun x hx => hy8 x (List.mem_of_mem_take hx))
          omega
        have e0 : ys.length - (s + 1 + 1) = ys.length - (s + 1) := by omega
        rw [e0] at g1
        exact ih (by omega) d1 g1 g2
      · refine m_aload_n dX1_setRow_21 rfl ?_
        refine m_lload_n dX1_setRow_22 rfl ?_
        refine m_iload_n dX1_setRow_23 rfl ?_
        refine m_lshr dX1_setRow_24 ?_
        refine m_eql (wb_shr (by omega) (by omega)) ?_
        refine m_ldc2 ct_X1_97 dX1_setRow_25 ?_
        refine m_eql (y := lN 7) (by decide +kernel) ?_
        refine m_land dX1_setRow_28 ?_
        refine m_eql (wb_and (by omega) (by omega)) ?_
        have hlt : s + 1 < ys.length := by
          refine Nat.not_le.mp (fun z => c17 ?_)
          rw [hz]; exact num_div0 hy8 (by omega)
        first | refine m_l2iN dX1_setRow_29 ?_ | refine m_l2i dX1_setRow_29 ?_
        refine m_eqi (congrArg nI (h6 (s + 1) hlt)) ?_
        have hgl : ys.getD (ys.length - (s + 1 + 1)) 0 < 6 := by rw [getD_at (by omega)]; exact hy _ (List.getElem_mem _)
        refine m_callVI (s_X9_push hj g1 (x := ys.getD (ys.length - (s + 1 + 1)) 0) hgl (by simp; omega)) cv_X1_80 dX1_setRow_30 (fun r30 d30 h30 => ?_)
        refine m_pop dX1_setRow_33 rfl ?_
        refine m_iinc3 (x := 3 * s) dX1_setRow_34 (by decide) rfl rfl ?_
        refine m_goto 7 dX1_setRow_37 (by decide) ?_
        have e1 : ys.take (ys.length - (s + 1 + 1)) ++ [ys.getD (ys.length - (s + 1 + 1)) 0] = ys.take (ys.length - (s + 1)) := by
          rw [getD_at (by omega), ← take_s (by omega)]
          congr 1
          omega
        have h31 := h30.2.1
        rw [e1] at h31
        exact ih (by omega) d30 h31 (g2.tr h30.2.2)
  refine m_aload_n dX1_setRow_0 rfl ?_
  refine m_callVVp (s_X9_wipe hj) cv_X1_94 dX1_setRow_1 ?_
  refine m_bipushN 33 dX1_setRow_4 (by decide) ?_
  refine m_istore_n dX1_setRow_6 (Nat.le_of_ble_eq_true rfl) rfl ?_
  exact loop 11 (Nat.le_refl _) _ (by rw [show ys.length - (11 + 1) = 0 by omega]; exact rowIs.nil (se_s _ _ _ _)) (chg.rf.se (by simp))
theorem s_X1_leastNumber (h : letIs d k fb) (hj : j < 13) (hj5 : j ≠ 5) (hr : rowIs d j xs) (hx : ∀ x ∈ xs, x < k) (h12 : xs.length ≤ 12) : mSpecL l W mX1_leastNumber (dep + 3) [.ref (xad W 59), .ref (xad W (j + 4))] d (fun r d' => r = lN (num (leastR (bw k fb) xs)) ∧ chg [9, 22, 16, 29] d d') := by
  have hlen := leastR_len (bw_ok h.2.2 hx)
  have hk := h.2.2.2.1
  have hl8 : ∀ x ∈ leastR (bw k fb) xs, x < 8 := fun x hm => by have := hx x (leastR_mem hm); omega
  refine m_spec RX1 [some (.ref (xad W 59)), some (.ref (xad W (j + 4))), none, none, none] rfl (by decide +kernel) rfl rfl (fun K hR => ?_)
  have loop : ∀ d1, rowIs d1 12 (leastR (bw k fb) xs) → chg [9, 22, 16, 29] d d1 → ∀ i, i ≤ xs.length → mG W K cX1_leastNumber RX1 (dep + 3) d1 17 [some (.ref (xad W 59)), some (.ref (xad W (j + 4))), some (.long (lN (num ((leastR (bw k fb) xs).take i)))), none, some (.int (nI i))] [] := fun d1 g1 g2 => x_up _ (fun i hi ih => by
    have hnt := num_lt (xs := (leastR (bw k fb) xs).take i) (by simp; omega) (fun x hm => hl8 x (List.mem_of_mem_take hm))
    refine m_iload dX1_leastNumber_17 rfl ?_
    refine m_aload_n dX1_leastNumber_19 rfl ?_
    refine m_get fl_X1_25 (by decide) rfl rfl dX1_leastNumber_20 ?_
    refine m_callVIp (s_X9_length (j := 12) (by decide) g1) cv_X1_57 dX1_leastNumber_23 ?_
    first | refine m_icmp_geN 50 dX1_leastNumber_26 (by decide) (by omega) (by omega) (fun c26 => ?_) (fun c26 => ?_) | refine m_icmp_ge 50 dX1_leastNumber_26 (by decide) (fun c26 => ?_) (fun c26 => ?_)
    · refine m_lload_n dX1_leastNumber_50 rfl ?_
      exact m_lret hR dX1_leastNumber_51 (⟨by rw [List.take_of_length_le (by omega)], g2⟩)
    · refine m_lload_n dX1_leastNumber_29 rfl ?_
      refine m_iconstN 3 dX1_leastNumber_30 (by decide) ?_
      refine m_lshl dX1_leastNumber_31 ?_
      refine m_eql (wb_shl _ (by omega)) ?_
      refine m_aload_n dX1_leastNumber_32 rfl ?_
      refine m_get fl_X1_25 (by decide) rfl rfl dX1_leastNumber_33 ?_
      refine m_iload dX1_leastNumber_36 rfl ?_
      refine m_callVIp (s_X9_atI (j := 12) (by decide) g1 (n := i) (by omega)) cv_X1_90 dX1_leastNumber_38 ?_
      have h8 := hl8 _ (List.getElem_mem (show i < (leastR (bw k fb) xs).length by omega))
      first | refine m_i2lN dX1_leastNumber_41 (by omega) ?_ | refine m_i2l dX1_leastNumber_41 ?_
      refine m_lor dX1_leastNumber_42 ?_
      refine m_eql (or8 (by omega) (by omega)) ?_
      refine m_lstore_n dX1_leastNumber_43 (Nat.le_of_ble_eq_true rfl) rfl ?_
      first | refine m_iincN 1 dX1_leastNumber_44 (by decide) rfl rfl ?_ | refine m_iinc dX1_leastNumber_44 rfl rfl ?_
      refine m_goto 17 dX1_leastNumber_47 (by decide) ?_
      have e := ih (by omega)
      rw [take_s (by omega), num_s] at e
      exact e
    )
  refine m_aload_n dX1_leastNumber_0 rfl ?_
  refine m_get fl_X1_36 (by decide) rfl rfl dX1_leastNumber_1 ?_
  refine m_aload_n dX1_leastNumber_4 rfl ?_
  refine m_aload_n dX1_leastNumber_5 rfl ?_
  refine m_get fl_X1_25 (by decide) rfl rfl dX1_leastNumber_6 ?_
  refine m_callVV (s_X2_makeLeast h hj (jm := 12) (by decide) hj5 (by decide) hr hx) cv_X1_86 dX1_leastNumber_9 (fun d9 h9 => ?_)
  refine m_lconstN 1 dX1_leastNumber_12 (by decide) ?_
  refine m_lstore_n dX1_leastNumber_13 (Nat.le_of_ble_eq_true rfl) rfl ?_
  refine m_iconstN 0 dX1_leastNumber_14 (by decide) ?_
  refine m_istore dX1_leastNumber_15 (Nat.le_of_ble_eq_true rfl) rfl ?_
  exact loop _ h9.1 h9.2 0 (Nat.zero_le _)
theorem s_X1_slotOf {T : Nat → Nat} {ns : List Nat} {v : Nat} (ht : tabIs d T) (hok : tabOk 4096 hsh T ns) (hl : ns.length ≤ 2000) (hv : v < 2 ^ 40) : mSpecI l W mX1_slotOf dep [.ref (xad W 59), .long (lN v)] d (fun r d' => (∃ i, i < 4096 ∧ r = nI ((hsh v + i) % 4096) ∧ (T ((hsh v + i) % 4096) = 0 ∨ T ((hsh v + i) % 4096) = v) ∧ ∀ i', i' < i → T ((hsh v + i') % 4096) ≠ 0 ∧ T ((hsh v + i') % 4096) ≠ v) ∧ d' = d) := by
  have hh : hsh v < 4096 := hshI_lt _
  obtain ⟨e, he, he1, he2⟩ := tab_end hok (by omega) v
  refine m_spec RX1 [some (.ref (xad W 59)), some (.long (lN v)), none, none, none, none] rfl (by decide +kernel) rfl rfl (fun K hR => ?_)
  have loop : ∀ i, i ≤ e → ∀ o5, mG W K cX1_slotOf RX1 dep d 13 [some (.ref (xad W 59)), some (.long (lN v)), none, some (.int (nI (hsh v))), some (.int (nI i)), o5] [] := x_up _ (fun i hi ih o5 => by
    have hm := Nat.mod_lt (hsh v + i) (show 4096 > 0 by decide)
    have ht1 := ht _ hm
    refine m_iload dX1_slotOf_13 rfl ?_
    refine m_aload_n dX1_slotOf_15 rfl ?_
    refine m_get fl_X1_15 (by decide) rfl rfl dX1_slotOf_16 ?_
    refine m_alen (by omega) (by first | rfl | exact xcell_arr _ _ _ (by omega) | exact xcell_mv _ _ (by omega) | exact xcell_fo _ _ (by omega) | exact xcell_ne _ _ (by omega)) (by decide) dX1_slotOf_19 ?_
    first | refine m_icmp_geN 81 dX1_slotOf_20 (by decide) (by omega) (by omega) (fun c20 => by exfalso; omega) (fun c20 => ?_) | refine m_icmp_ge 81 dX1_slotOf_20 (by decide) (fun c20 => by exfalso; omega) (fun c20 => ?_)
    refine m_iload_n dX1_slotOf_23 rfl ?_
    refine m_iload dX1_slotOf_24 rfl ?_
    first | refine m_iaddN dX1_slotOf_26 ?_ | refine m_iadd dX1_slotOf_26 ?_
    refine m_sipushN 4095 dX1_slotOf_27 (by decide) ?_
    refine m_iand dX1_slotOf_30 ?_
    refine m_eqi ((by rw [nI_and, show (4095 : Nat) = 2 ^ 12 - 1 from rfl, Nat.and_two_pow_sub_one_eq_mod] : _ = nI ((hsh v + i) % 4096))) ?_
    refine m_istore dX1_slotOf_31 (Nat.le_of_ble_eq_true rfl) rfl ?_
    refine m_iload dX1_slotOf_33 rfl ?_
    refine m_if_ltN 75 dX1_slotOf_35 (by decide) (by omega) ?_
    refine m_iload dX1_slotOf_38 rfl ?_
    refine m_aload_n dX1_slotOf_40 rfl ?_
    refine m_get fl_X1_15 (by decide) rfl rfl dX1_slotOf_41 ?_
    refine m_alen (by omega) (by first | rfl | exact xcell_arr _ _ _ (by omega) | exact xcell_mv _ _ (by omega) | exact xcell_fo _ _ (by omega) | exact xcell_ne _ _ (by omega)) (by decide) dX1_slotOf_44 ?_
    first | refine m_icmp_geN 75 dX1_slotOf_45 (by decide) (by omega) (by omega) (fun c45 => by exfalso; omega) (fun c45 => ?_) | refine m_icmp_ge 75 dX1_slotOf_45 (by decide) (fun c45 => by exfalso; omega) (fun c45 => ?_)
    refine m_aload_n dX1_slotOf_48 rfl ?_
    refine m_get fl_X1_15 (by decide) rfl rfl dX1_slotOf_49 ?_
    refine m_iload dX1_slotOf_52 rfl ?_
    refine m_lald (by first | exact ⟨by decide, by decide, fun _ => rfl⟩ | exact isL_fo _ (by omega)) (by omega) dX1_slotOf_54 ?_
    refine m_eql (ht1.1) ?_
    refine m_lconstN 0 dX1_slotOf_55 (by decide) ?_
    first | refine m_lcmp_eqN 72 dX1_slotOf_56 dX1_slotOf_57 (by decide) (by omega) (by omega) (fun c56 => ?_) (fun c56 => ?_) | refine m_lcmp_eq 72 dX1_slotOf_56 dX1_slotOf_57 (by decide) (fun c56 => ?_) (fun c56 => ?_)
    · refine m_iload dX1_slotOf_72 rfl ?_
      exact m_iret (ty := .int) hR dX1_slotOf_74 (⟨⟨i, by omega, rfl, Or.inl c56, fun i' hi' => he2 i' (by omega)⟩, rfl⟩)
    · refine m_aload_n dX1_slotOf_60 rfl ?_
      refine m_get fl_X1_15 (by decide) rfl rfl dX1_slotOf_61 ?_
      refine m_iload dX1_slotOf_64 rfl ?_
      refine m_lald (by first | exact ⟨by decide, by decide, fun _ => rfl⟩ | exact isL_fo _ (by omega)) (by omega) dX1_slotOf_66 ?_
      refine m_eql (ht1.1) ?_
      refine m_lload_n dX1_slotOf_67 rfl ?_
      first | refine m_lcmp_neN 75 dX1_slotOf_68 dX1_slotOf_69 (by decide) (by omega) (by omega) (fun c68 => ?_) (fun c68 => ?_) | refine m_lcmp_ne 75 dX1_slotOf_68 dX1_slotOf_69 (by decide) (fun c68 => ?_) (fun c68 => ?_)
      · first | refine m_iincN 1 dX1_slotOf_75 (by decide) rfl rfl ?_ | refine m_iinc dX1_slotOf_75 rfl rfl ?_
        refine m_goto 13 dX1_slotOf_78 (by decide) ?_
        have hne : i ≠ e := fun z => by
          subst z
          rcases he1 with q | q
          · exact c56 q
          · exact c68 q
        exact ih (by omega) _
      · refine m_iload dX1_slotOf_72 rfl ?_
        exact m_iret (ty := .int) hR dX1_slotOf_74 (⟨⟨i, by omega, rfl, Or.inr (Decidable.not_not.mp c68), fun i' hi' => he2 i' (by omega)⟩, rfl⟩)
    )
  refine m_lload_n dX1_slotOf_0 rfl ?_
  refine m_ldc2 ct_X1_84 dX1_slotOf_1 ?_
  refine m_lmul dX1_slotOf_4 ?_
  refine m_bipushN 52 dX1_slotOf_5 (by decide) ?_
  refine m_lushr dX1_slotOf_7 ?_
  have hq : ∀ x : Int64, x = lN v * (-7046029254386353131) → (((x).toUInt64 >>> ((nI 52).toInt64.toUInt64 &&& Int64.toUInt64 63)).toInt64).toInt32 = nI (hsh v) := fun x e => by rw [e]; exact hash_eq v
  refine m_l2i dX1_slotOf_8 ?_
  refine m_eqi ((hq _ rfl : _ = nI (hsh v))) ?_
  refine m_istore_n dX1_slotOf_9 (Nat.le_of_ble_eq_true rfl) rfl ?_
  refine m_iconstN 0 dX1_slotOf_10 (by decide) ?_
  refine m_istore dX1_slotOf_11 (Nat.le_of_ble_eq_true rfl) rfl ?_
  exact loop 0 (Nat.zero_le _) none
theorem s_X1_keep {r : List Nat} (hc : circIs d rs) (h12 : r.length ≤ 12) (hr6 : ∀ x ∈ r, x < 6) : mSpecI l W mX1_keep (dep + 1) [.ref (xad W 59), .long (lN (num r))] d (fun v d' => ((∃ rs', ins rs r = some rs' ∧ v = 1 ∧ circIs d' rs') ∨ (ins rs r = none ∧ v = 0)) ∧ chg [59, 60, 61] d d') := by
  obtain ⟨a, b, c, e, T, f, g⟩ := id hc
  have h8 : ∀ x ∈ r, x < 8 := fun x hx => by have := hr6 x hx; omega
  have hnl := num_lt h12 h8
  have hn0 := num_pos h8
  have hmem : num r ∈ rs.map num ↔ r ∈ rs := by
    rw [List.mem_map]
    constructor
    · rintro ⟨y, hy, e1⟩
      have := num_inj y.length y r rfl (fun x hx => by have := (e y hy).2 x hx; omega) h8 e1
      rw [← this]; exact hy
    · exact fun h => ⟨r, h, rfl⟩
  refine m_spec RX1 [some (.ref (xad W 59)), some (.long (lN (num r))), none, none] rfl (by decide +kernel) rfl rfl (fun K hR => ?_)
  refine m_aload_n dX1_keep_0 rfl ?_
  refine m_lload_n dX1_keep_1 rfl ?_
  refine m_callVI (s_X1_slotOf f g (by simpa using b) (v := num r) (by omega)) cv_X1_61 dX1_keep_2 (fun r2 d2 h2 => ?_)
  obtain ⟨⟨i, hi, rfl, h1, h2'⟩, rfl⟩ := h2
  have hm := Nat.mod_lt (hsh (num r) + i) (show 4096 > 0 by decide)
  have hfm := f _ hm
  have hhas := tab_has g (by omega) hi h1 h2'
  refine m_istore_n dX1_keep_5 (Nat.le_of_ble_eq_true rfl) rfl ?_
  refine m_iload_n dX1_keep_6 rfl ?_
  refine m_if_ltN 19 dX1_keep_7 (by decide) (by omega) ?_
  refine m_iload_n dX1_keep_10 rfl ?_
  refine m_aload_n dX1_keep_11 rfl ?_
  refine m_get fl_X1_15 (by decide) rfl rfl dX1_keep_12 ?_
  refine m_alen (by omega) (by first | rfl | exact xcell_arr _ _ _ (by omega) | exact xcell_mv _ _ (by omega) | exact xcell_fo _ _ (by omega) | exact xcell_ne _ _ (by omega)) (by decide) dX1_keep_15 ?_
  first | refine m_icmp_ltN 21 dX1_keep_16 (by decide) (by omega) (by omega) (fun c16 => ?_) (fun c16 => by exfalso; omega) | refine m_icmp_lt 21 dX1_keep_16 (by decide) (fun c16 => ?_) (fun c16 => by exfalso; omega)
  refine m_aload_n dX1_keep_21 rfl ?_
  refine m_get fl_X1_15 (by decide) rfl rfl dX1_keep_22 ?_
  refine m_iload_n dX1_keep_25 rfl ?_
  refine m_lald (by first | exact ⟨by decide, by decide, fun _ => rfl⟩ | exact isL_fo _ (by omega)) (by omega) dX1_keep_26 ?_
  refine m_eql (hfm.1) ?_
  refine m_lload_n dX1_keep_27 rfl ?_
  first | refine m_lcmp_neN 34 dX1_keep_28 dX1_keep_29 (by decide) (by omega) (by omega) (fun c28 => ?_) (fun c28 => ?_) | refine m_lcmp_ne 34 dX1_keep_28 dX1_keep_29 (by decide) (fun c28 => ?_) (fun c28 => ?_)
  · refine m_aload_n dX1_keep_34 rfl ?_
    refine m_get fl_X1_28 (by decide) rfl rfl dX1_keep_35 ?_
    refine m_eqi (a) ?_
    refine m_if_ltN 53 dX1_keep_38 (by decide) (by omega) ?_
    refine m_aload_n dX1_keep_41 rfl ?_
    refine m_get fl_X1_28 (by decide) rfl rfl dX1_keep_42 ?_
    refine m_eqi (a) ?_
    refine m_aload_n dX1_keep_45 rfl ?_
    refine m_get fl_X1_11 (by decide) rfl rfl dX1_keep_46 ?_
    refine m_alen (by omega) (by first | rfl | exact xcell_arr _ _ _ (by omega) | exact xcell_mv _ _ (by omega) | exact xcell_fo _ _ (by omega) | exact xcell_ne _ _ (by omega)) (by decide) dX1_keep_49 ?_
    first | refine m_icmp_ltN 55 dX1_keep_50 (by decide) (by omega) (by omega) (fun c50 => ?_) (fun c50 => ?_) | refine m_icmp_lt 55 dX1_keep_50 (by decide) (fun c50 => ?_) (fun c50 => ?_)
    · refine m_aload_n dX1_keep_55 rfl ?_
      refine m_get fl_X1_15 (by decide) rfl rfl dX1_keep_56 ?_
      refine m_iload_n dX1_keep_59 rfl ?_
      refine m_lload_n dX1_keep_60 rfl ?_
      refine m_last (by first | exact ⟨by decide, by decide, fun _ => rfl⟩ | exact isL_fo _ (by omega)) (by omega) dX1_keep_61 ?_
      refine m_aload_n dX1_keep_62 rfl ?_
      refine m_get fl_X1_11 (by decide) rfl rfl dX1_keep_63 ?_
      refine m_aload_n dX1_keep_66 rfl ?_
      refine m_get fl_X1_28 (by decide) rfl rfl dX1_keep_67 ?_
      refine m_eqi (a) ?_
      refine m_lload_n dX1_keep_70 rfl ?_
      refine m_last (by first | exact ⟨by decide, by decide, fun _ => rfl⟩ | exact isL_fo _ (by omega)) (by omega) dX1_keep_71 ?_
      refine m_aload_n dX1_keep_72 rfl ?_
      refine m_dup dX1_keep_73 rfl ?_
      refine m_get fl_X1_28 (by decide) rfl rfl dX1_keep_74 ?_
      refine m_eqi (a) ?_
      refine m_iconstN 1 dX1_keep_77 (by decide) ?_
      first | refine m_iaddN dX1_keep_78 ?_ | refine m_iadd dX1_keep_78 ?_
      refine m_put fl_X1_28 (by decide) rfl (Nat.le_of_ble_eq_true rfl) rfl dX1_keep_79 ?_
      refine m_iconstN 1 dX1_keep_82 (by decide) ?_
      have hnot : r ∉ rs := fun z => c28 (hhas.mpr (hmem.mpr z))
      have ht0 : T ((hsh (num r) + i) % 4096) = 0 := h1.elim id (fun z => absurd z c28)
      have hput := tab_put g (v := num r) (i := i) (by omega) hi (fun z => hnot (hmem.mp z)) ht0 h2' (T' := fun a => if a = (hsh (num r) + i) % 4096 then num r else T a) (fun _ _ => rfl)
      have hfin : circIs (seI (seL (seL d2 61 ((hsh (num r) + i) % 4096) (lN (num r))) 60 rs.length (lN (num r))) 59 6 (nI (rs.length + 1))) (rs ++ [r]) := by
        refine ⟨by rw [List.length_append]; exact se_s _ _ _ _, by simp; omega, fun q hq => ?_, fun y hy => ?_, _, fun q hq => ?_, by rw [List.map_append]; exact hput⟩
        · by_cases eq : q < rs.length
          · rw [List.getElem_append_left eq]
            exact (seL_n (o := 60) _ _ (Nat.ne_of_lt eq)).trans ((seL_oq d2 (o := 61) (o' := 60) _ (by decide) q).trans (c q eq))
          · have eq2 : q = rs.length := by simp at hq; omega
            subst eq2
            rw [show (rs ++ [r])[rs.length] = r by simp]
            exact seL_s' (seL d2 61 ((hsh (num r) + i) % 4096) (lN (num r))) 60 rs.length (lN (num r))
        · rcases List.mem_append.mp hy with hy | hy
          · exact e y hy
          · rw [List.mem_singleton.mp hy]; exact ⟨h12, hr6⟩
        · by_cases eq : q = (hsh (num r) + i) % 4096
          · have e9 : (if q = (hsh (num r) + i) % 4096 then num r else T q) = num r := if_pos eq
            rw [e9, eq]
            exact ⟨(seL_oq (seL d2 61 ((hsh (num r) + i) % 4096) (lN (num r))) (o := 60) (o' := 61) (k := rs.length) (lN (num r)) (by decide) _).trans (seL_s' _ _ _ _), by omega⟩
          · have e9 : (if q = (hsh (num r) + i) % 4096 then num r else T q) = T q := if_neg eq
            rw [e9]
            exact ⟨(seL_oq (seL d2 61 ((hsh (num r) + i) % 4096) (lN (num r))) (o := 60) (o' := 61) (k := rs.length) (lN (num r)) (by decide) _).trans ((seL_n _ _ eq).trans (f q hq).1), (f q hq).2⟩
      exact m_iret (ty := .boolean) hR dX1_keep_83 (⟨Or.inl ⟨rs ++ [r], by unfold ins; rw [if_neg hnot, if_pos (by omega)], rfl, hfin⟩, ((chg.rf.seL (by simp)).seL (by simp)).se (by simp)⟩)
    · refine m_iconstN 0 dX1_keep_53 (by decide) ?_
      exact m_iret (ty := .boolean) hR dX1_keep_54 (⟨Or.inr ⟨by unfold ins; rw [if_neg (fun z => c28 (hhas.mpr (hmem.mpr z))), if_neg (by omega)], rfl⟩, chg.rf⟩)
  · refine m_iconstN 1 dX1_keep_32 (by decide) ?_
    exact m_iret (ty := .boolean) hR dX1_keep_33 (⟨Or.inl ⟨rs, by unfold ins; rw [if_pos (hmem.mp (hhas.mp (Decidable.not_not.mp c28)))], rfl, hc⟩, chg.rf⟩)
def circS : List Nat := [59, 60, 61, 9, 22, 15, 28, 16, 29]
theorem s_X1_keepTurned (h : letIs d k fb) (hc : circIs d rs) (h12 : ys.length ≤ 12) (hy : ∀ y ∈ ys, y < k) : mSpecI l W mX1_keepTurned (dep + 4) [.ref (xad W 59), .long (lN (num ys))] d (fun v d' => ((∃ rs', turnF (bw k fb) rs ys k = some rs' ∧ v = 1 ∧ circIs d' rs') ∨ (turnF (bw k fb) rs ys k = none ∧ v = 0)) ∧ chg circS d d') := by
  have hk := h.2.2.2.1
  refine m_spec RX1 [some (.ref (xad W 59)), some (.long (lN (num ys))), none, none] rfl (by decide +kernel) rfl rfl (fun K hR => ?_)
  have loop : ∀ p, p ≤ k → ∀ rs1 d1, turnF (bw k fb) rs ys p = some rs1 → circIs d1 rs1 → chg circS d d1 → mG W K cX1_keepTurned RX1 (dep + 4) d1 2 [some (.ref (xad W 59)), some (.long (lN (num ys))), none, some (.int (nI p))] [] := x_up _ (fun p hp ih rs1 d1 g1 g2 g3 => by
    have hl1 : letIs d1 k fb := h.fr g3 (by simp [circS]) (by simp [circS])
    cases hf : front (bw k fb) ys p with
    | none =>
      have hst : turnF (bw k fb) rs ys (p + 1) = some rs1 := by rw [turnF_s, g1, hf]; rfl
      refine m_iload_n dX1_keepTurned_2 rfl ?_
      refine m_aload_n dX1_keepTurned_3 rfl ?_
      refine m_get fl_X1_32 (by decide) rfl rfl dX1_keepTurned_4 ?_
      refine m_callVIp (s_X3_size hl1) cv_X1_65 dX1_keepTurned_7 ?_
      first | refine m_icmp_geN 68 dX1_keepTurned_10 (by decide) (by omega) (by omega) (fun c10 => ?_) (fun c10 => ?_) | refine m_icmp_ge 68 dX1_keepTurned_10 (by decide) (fun c10 => ?_) (fun c10 => ?_)
      · refine m_iconstN 1 dX1_keepTurned_68 (by decide) ?_
        have e6 : p = k := by omega
        subst e6
        exact m_iret (ty := .boolean) hR dX1_keepTurned_69 (⟨Or.inl ⟨rs1, g1, rfl, g2⟩, g3⟩)
      · refine m_aload_n dX1_keepTurned_13 rfl ?_
        refine m_get fl_X1_21 (by decide) rfl rfl dX1_keepTurned_14 ?_
        refine m_lload_n dX1_keepTurned_17 rfl ?_
        refine m_callSV (s_X1_setRow (j := 11) (by decide) h12 (fun y hm => by have := hy y hm; omega)) cs_X1_70 dX1_keepTurned_18 (fun d18 h18 => ?_)
        refine m_aload_n dX1_keepTurned_21 rfl ?_
        refine m_get fl_X1_36 (by decide) rfl rfl dX1_keepTurned_22 ?_
        refine m_aload_n dX1_keepTurned_25 rfl ?_
        refine m_get fl_X1_21 (by decide) rfl rfl dX1_keepTurned_26 ?_
        refine m_iload_n dX1_keepTurned_29 rfl ?_
        refine m_callVI (s_X2_takeOff (hl1.fr h18.2 (by simp) (by simp)) (j := 11) (by decide) h18.1 (p := p) (by omega)) cv_X1_74 dX1_keepTurned_30 (fun r30 d30 h30 => ?_)
        have h30' : r30 = 0 ∧ d30 = d18 := by
          rcases h30 with ⟨a1, e1, e2⟩ | ⟨i, a1, -⟩
          · exact ⟨e1, e2⟩
          · rw [hf] at a1; cases a1
        obtain ⟨rfl, rfl⟩ := h30'
        refine m_if_eq 62 dX1_keepTurned_33 (by decide) (fun c33 => ?_) (fun c33 => by exfalso; exact c33 rfl)
        first | refine m_iincN 1 dX1_keepTurned_62 (by decide) rfl rfl ?_ | refine m_iinc dX1_keepTurned_62 rfl rfl ?_
        refine m_goto 2 dX1_keepTurned_65 (by decide) ?_
        exact ih (by omega) rs1 _ hst (g2.fr h18.2 (by simp) (by simp) (by simp)) (g3.tr (h18.2.mono (by simp [circS])))
    | some i =>
      have hst : turnF (bw k fb) rs ys (p + 1) = ins rs1 (leastR (bw k fb) (ys.eraseIdx i ++ [p])) := by rw [turnF_s, g1, hf]; rfl
      have hil := front_lt hf
      have hzl : ∀ z ∈ ys.eraseIdx i ++ [p], p < k → z < k := fun z hz hpk => by
        rcases List.mem_append.mp hz with hz | hz
        · exact hy z (List.mem_of_mem_eraseIdx hz)
        · rw [List.mem_singleton.mp hz]; exact hpk
      have hzlen : (ys.eraseIdx i ++ [p]).length = ys.length := by rw [List.length_append, List.length_eraseIdx_of_lt hil]; simp; omega
      refine m_iload_n dX1_keepTurned_2 rfl ?_
      refine m_aload_n dX1_keepTurned_3 rfl ?_
      refine m_get fl_X1_32 (by decide) rfl rfl dX1_keepTurned_4 ?_
      refine m_callVIp (s_X3_size hl1) cv_X1_65 dX1_keepTurned_7 ?_
      first | refine m_icmp_geN 68 dX1_keepTurned_10 (by decide) (by omega) (by omega) (fun c10 => ?_) (fun c10 => ?_) | refine m_icmp_ge 68 dX1_keepTurned_10 (by decide) (fun c10 => ?_) (fun c10 => ?_)
      · refine m_iconstN 1 dX1_keepTurned_68 (by decide) ?_
        have e6 : p = k := by omega
        subst e6
        exact m_iret (ty := .boolean) hR dX1_keepTurned_69 (⟨Or.inl ⟨rs1, g1, rfl, g2⟩, g3⟩)
      · refine m_aload_n dX1_keepTurned_13 rfl ?_
        refine m_get fl_X1_21 (by decide) rfl rfl dX1_keepTurned_14 ?_
        refine m_lload_n dX1_keepTurned_17 rfl ?_
        refine m_callSV (s_X1_setRow (j := 11) (by decide) h12 (fun y hm => by have := hy y hm; omega)) cs_X1_70 dX1_keepTurned_18 (fun d18 h18 => ?_)
        refine m_aload_n dX1_keepTurned_21 rfl ?_
        refine m_get fl_X1_36 (by decide) rfl rfl dX1_keepTurned_22 ?_
        refine m_aload_n dX1_keepTurned_25 rfl ?_
        refine m_get fl_X1_21 (by decide) rfl rfl dX1_keepTurned_26 ?_
        refine m_iload_n dX1_keepTurned_29 rfl ?_
        refine m_callVI (s_X2_takeOff (hl1.fr h18.2 (by simp) (by simp)) (j := 11) (by decide) h18.1 (p := p) (by omega)) cv_X1_74 dX1_keepTurned_30 (fun r30 d30 h30 => ?_)
        rcases h30 with ⟨a1, -⟩ | ⟨i', a1, rfl, a3, a4⟩
        · rw [hf] at a1; cases a1
        rw [hf] at a1
        cases a1
        refine m_if_eq 62 dX1_keepTurned_33 (by decide) (fun c33 => by exfalso; exact absurd c33 (by decide)) (fun c33 => ?_)
        refine m_aload_n dX1_keepTurned_36 rfl ?_
        refine m_get fl_X1_21 (by decide) rfl rfl dX1_keepTurned_37 ?_
        refine m_iload_n dX1_keepTurned_40 rfl ?_
        refine m_callVI (s_X9_push (j := 11) (by decide) a3 (x := p) (by omega) (by rw [List.length_eraseIdx_of_lt hil]; omega)) cv_X1_80 dX1_keepTurned_41 (fun r41 d41 h41 => ?_)
        refine m_pop dX1_keepTurned_44 rfl ?_
        refine m_aload_n dX1_keepTurned_45 rfl ?_
        refine m_aload_n dX1_keepTurned_46 rfl ?_
        refine m_aload_n dX1_keepTurned_47 rfl ?_
        refine m_get fl_X1_21 (by decide) rfl rfl dX1_keepTurned_48 ?_
        have hl4 : letIs d41 k fb := ((hl1.fr h18.2 (by simp) (by simp)).fr a4 (by simp) (by simp)).fr h41.2.2 (by simp) (by simp)
        refine m_callVL (s_X1_leastNumber hl4 (j := 11) (by decide) (by decide) h41.2.1 (fun z hz => hzl z hz (by omega)) (by omega)) cv_X1_46 dX1_keepTurned_51 (fun r51 d51 h51 => ?_)
        obtain ⟨rfl, h51⟩ := h51
        have hbz := bw_ok h.2.2 (fun z hz => hzl z hz (by omega))
        have hc5 : circIs d51 rs1 := (((g2.fr h18.2 (by simp) (by simp) (by simp)).fr a4 (by simp) (by simp) (by simp)).fr h41.2.2 (by simp) (by simp) (by simp)).fr h51 (by simp) (by simp) (by simp)
        have hg5 : chg circS d d51 := (((g3.tr (h18.2.mono (by simp [circS]))).tr (a4.mono (by simp [circS]))).tr (h41.2.2.mono (by simp [circS]))).tr (h51.mono (by simp [circS]))
        refine m_callVI (s_X1_keep hc5 (r := leastR (bw k fb) (ys.eraseIdx i ++ [p])) (by rw [leastR_len hbz]; omega) (fun x hm => by have := hzl x (leastR_mem hm) (by omega); omega)) cv_X1_50 dX1_keepTurned_54 (fun r54 d54 h54 => ?_)
        refine m_if_ne 62 dX1_keepTurned_57 (by decide) (fun c57 => ?_) (fun c57 => ?_)
        · first | refine m_iincN 1 dX1_keepTurned_62 (by decide) rfl rfl ?_ | refine m_iinc dX1_keepTurned_62 rfl rfl ?_
          refine m_goto 2 dX1_keepTurned_65 (by decide) ?_
          rcases h54.1 with ⟨rs', q1, q2, q3⟩ | ⟨q1, q2⟩
          · exact ih (by omega) rs' _ (by rw [hst, q1]) q3 (hg5.tr (h54.2.mono (by simp [circS])))
          · exact absurd q2 c57
        · refine m_iconstN 0 dX1_keepTurned_60 (by decide) ?_
          have hnone : turnF (bw k fb) rs ys (p + 1) = none := by
            rw [hst]
            rcases h54.1 with ⟨rs', -, q2, -⟩ | ⟨q1, -⟩
            · rw [q2] at c57; exact absurd (by decide) c57
            · exact q1
          exact m_iret (ty := .boolean) hR dX1_keepTurned_61 (⟨Or.inr ⟨turnF_none hnone (by omega), rfl⟩, hg5.tr (h54.2.mono (by simp [circS]))⟩)
    )
  refine m_iconstN 0 dX1_keepTurned_0 (by decide) ?_
  refine m_istore_n dX1_keepTurned_1 (Nat.le_of_ble_eq_true rfl) rfl ?_
  exact loop 0 (Nat.zero_le _) rs d rfl hc chg.rf
theorem turnF_all {B : Nat → Nat} {rs : List (List Nat)} {ys : List Nat} {P : List Nat → Prop} (h0 : ∀ r ∈ rs, P r) : ∀ n, (∀ p i, p < n → front B ys p = some i → P (leastR B (ys.eraseIdx i ++ [p]))) → ∀ rs', turnF B rs ys n = some rs' → ∀ r ∈ rs', P r := by
  intro n
  induction n with
  | zero => intro _ rs' e r hr; cases e; exact h0 r hr
  | succ n ih =>
    intro hp rs' e r hr
    rw [turnF_s] at e
    cases ht : turnF B rs ys n with
    | none => rw [ht] at e; cases e
    | some rs1 =>
      have h1 := ih (fun p i hpn => hp p i (by omega)) rs1 ht
      rw [ht, Option.bind_some] at e
      cases hf : front B ys n with
      | none => rw [hf] at e; cases e; exact h1 r hr
      | some i =>
        rw [hf] at e
        have h2 := hp n i (by omega) hf
        unfold ins at e
        dsimp only at e
        split at e
        · cases e; exact h1 r hr
        · split at e
          · cases e
            rcases List.mem_append.mp hr with hr | hr
            · exact h1 r hr
            · rw [List.mem_singleton.mp hr]; exact h2
          · cases e
def ofLen (k n : Nat) (r : List Nat) : Prop := r.length = n ∧ ∀ x ∈ r, x < k
theorem s_X1_find (h : letIs d k fb) (hj : j < 13) (hj5 : j ≠ 5) (hj12 : j ≠ 11) (hr : rowIs d j xs) (hx : ∀ x ∈ xs, x < k) (h12 : xs.length ≤ 12) : mSpecI l W mX1_find (dep + 5) [.ref (xad W 59), .ref (xad W (j + 4))] d (fun v d' => ((∃ rs', circF (bw k fb) k 2000 0 [leastR (bw k fb) xs] = some rs' ∧ v = 1 ∧ circIs d' rs' ∧ ∀ r ∈ rs', ofLen k xs.length r) ∨ (circF (bw k fb) k 2000 0 [leastR (bw k fb) xs] = none ∧ v = 0)) ∧ chg circS d d') := by
  have hk := h.2.2.2.1
  have hb := bw_ok h.2.2 hx
  refine m_spec RX1 [some (.ref (xad W 59)), some (.ref (xad W (j + 4))), none] rfl (by decide +kernel) rfl rfl (fun K hR => ?_)
  have loop : ∀ i, i ≤ 2000 → ∀ rs1 d1, circF (bw k fb) k 2000 0 [leastR (bw k fb) xs] = circF (bw k fb) k (2000 - i) i rs1 → circIs d1 rs1 → (∀ r ∈ rs1, ofLen k xs.length r) → chg circS d d1 → mG W K cX1_find RX1 (dep + 5) d1 29 [some (.ref (xad W 59)), some (.ref (xad W (j + 4))), some (.int (nI i))] [] := x_up _ (fun i hi ih rs1 d1 g0 g1 g2 g3 => by
    have hl1 : letIs d1 k fb := h.fr g3 (by simp [circS]) (by simp [circS])
    have hle := g1.2.1
    refine m_iload_n dX1_find_29 rfl ?_
    refine m_aload_n dX1_find_30 rfl ?_
    refine m_get fl_X1_28 (by decide) rfl rfl dX1_find_31 ?_
    refine m_eqi ((g1.1 : _ = nI rs1.length)) ?_
    first | refine m_icmp_geN 67 dX1_find_34 (by decide) (by omega) (by omega) (fun c34 => ?_) (fun c34 => ?_) | refine m_icmp_ge 67 dX1_find_34 (by decide) (fun c34 => ?_) (fun c34 => ?_)
    · refine m_iconstN 1 dX1_find_67 (by decide) ?_
      have hst : circF (bw k fb) k (2000 - i) i rs1 = some rs1 := by
        cases hn : 2000 - i with
        | zero => rfl
        | succ n => rw [circF_s, if_neg (by omega)]
      exact m_iret (ty := .boolean) hR dX1_find_68 (⟨Or.inl ⟨rs1, by rw [g0, hst], rfl, g1, g2⟩, g3⟩)
    · refine m_iload_n dX1_find_37 rfl ?_
      refine m_aload_n dX1_find_38 rfl ?_
      refine m_get fl_X1_11 (by decide) rfl rfl dX1_find_39 ?_
      refine m_alen (by omega) (by first | rfl | exact xcell_arr _ _ _ (by omega) | exact xcell_mv _ _ (by omega) | exact xcell_fo _ _ (by omega) | exact xcell_ne _ _ (by omega)) (by decide) dX1_find_42 ?_
      first | refine m_icmp_geN 67 dX1_find_43 (by decide) (by omega) (by omega) (fun c43 => ?_) (fun c43 => ?_) | refine m_icmp_ge 67 dX1_find_43 (by decide) (fun c43 => ?_) (fun c43 => ?_)
      · refine m_iconstN 1 dX1_find_67 (by decide) ?_
        have hst : circF (bw k fb) k (2000 - i) i rs1 = some rs1 := by
          cases hn : 2000 - i with
          | zero => rfl
          | succ n => rw [circF_s, if_neg (by omega)]
        exact m_iret (ty := .boolean) hR dX1_find_68 (⟨Or.inl ⟨rs1, by rw [g0, hst], rfl, g1, g2⟩, g3⟩)
      · refine m_aload_n dX1_find_46 rfl ?_
        refine m_aload_n dX1_find_47 rfl ?_
        refine m_get fl_X1_11 (by decide) rfl rfl dX1_find_48 ?_
        refine m_iload_n dX1_find_51 rfl ?_
        have e1 := g1.2.2.1 i (by omega)
        have hm1 := List.getElem_mem (show i < rs1.length by omega)
        have h2 := g2 _ hm1
        have hgd : rs1.getD i [] = rs1[i] := by simp [List.getD, List.getElem?_eq_getElem (show i < rs1.length by omega)]
        refine m_lald (by first | exact ⟨by decide, by decide, fun _ => rfl⟩ | exact isL_fo _ (by omega)) (by omega) dX1_find_52 ?_
        refine m_eql ((e1 : _ = lN (num rs1[i]))) ?_
        refine m_callVI (s_X1_keepTurned hl1 g1 (ys := rs1[i]) (by rw [h2.1]; exact h12) h2.2) cv_X1_54 dX1_find_53 (fun r53 d53 h53 => ?_)
        have h53' := h53.1
        have hst : circF (bw k fb) k (2000 - i) i rs1 = (turnF (bw k fb) rs1 rs1[i] k).bind (circF (bw k fb) k (2000 - (i + 1)) (i + 1)) := by
          rw [show 2000 - i = (2000 - (i + 1)) + 1 by omega, circF_s, if_pos (by omega), hgd]
        refine m_if_ne 61 dX1_find_56 (by decide) (fun c56 => ?_) (fun c56 => ?_)
        · first | refine m_iincN 1 dX1_find_61 (by decide) rfl rfl ?_ | refine m_iinc dX1_find_61 rfl rfl ?_
          refine m_goto 29 dX1_find_64 (by decide) ?_
          rcases h53' with ⟨rs', q1, q2, q3⟩ | ⟨-, q⟩
          · refine ih (by omega) rs' _ (by rw [g0, hst, q1]; rfl) q3 (turnF_all g2 k (fun p i' hp hf => ?_) rs' q1) (g3.tr h53.2)
            have hil := front_lt hf
            have hzl : ∀ z ∈ rs1[i].eraseIdx i' ++ [p], z < k := fun z hz => by
              rcases List.mem_append.mp hz with hz | hz
              · exact h2.2 z (List.mem_of_mem_eraseIdx hz)
              · rw [List.mem_singleton.mp hz]; exact hp
            refine ⟨?_, fun x hm => hzl x (leastR_mem hm)⟩
            rw [leastR_len (bw_ok h.2.2 hzl), List.length_append, List.length_eraseIdx_of_lt hil, ← h2.1]
            simp; omega
          · exact absurd q c56
        · refine m_iconstN 0 dX1_find_59 (by decide) ?_
          have h0 : turnF (bw k fb) rs1 rs1[i] k = none := by
            rcases h53' with ⟨rs', -, q, -⟩ | ⟨q, -⟩
            · rw [q] at c56; exact absurd c56 (by decide)
            · exact q
          exact m_iret (ty := .boolean) hR dX1_find_60 (⟨Or.inr ⟨by rw [g0, hst, h0]; rfl, rfl⟩, g3.tr h53.2⟩)
    )
  have hbl := leastR_len hb
  have hlx : ∀ x ∈ leastR (bw k fb) xs, x < k := fun x hm => hx x (leastR_mem hm)
  refine m_aload_n dX1_find_0 rfl ?_
  refine m_iconstN 0 dX1_find_1 (by decide) ?_
  refine m_put fl_X1_28 (by decide) rfl (Nat.le_of_ble_eq_true rfl) rfl dX1_find_2 ?_
  refine m_aload_n dX1_find_5 rfl ?_
  refine m_get fl_X1_15 (by decide) rfl rfl dX1_find_6 ?_
  refine m_lconstN 0 dX1_find_9 (by decide) ?_
  refine m_callSV (s_J7_fillL (o := 61) (n := 4096) ⟨by decide, by decide, fun _ => rfl⟩ 0) cs_X1_40 dX1_find_10 (fun d10 h10 => ?_)
  refine m_aload_n dX1_find_13 rfl ?_
  refine m_aload_n dX1_find_14 rfl ?_
  refine m_aload_n dX1_find_15 rfl ?_
  have hc0 : circIs d10 [] := by
    refine ⟨?_, Nat.zero_le _, fun i hi => absurd hi (Nat.not_lt_zero i), fun r hr => absurd hr (List.not_mem_nil), fun _ => 0, fun a ha => ⟨h10.1 a ha, show (0 : Nat) < 2 ^ 40 by decide⟩, fun a ha hz => absurd rfl hz, fun a b ha hb hz => absurd rfl hz, fun v hv => absurd hv (List.not_mem_nil)⟩
    rw [(h10.2 59 (by simp)).1]
    exact se_s _ _ _ _
  have hg0 : chg circS d d10 := ((chg.rf.se (by simp [circS])).tr (h10.2.mono (by simp [circS])))
  have hl0 : letIs d10 k fb := h.fr hg0 (by simp [circS]) (by simp [circS])
  have hg1 : chg [59, 61] d d10 := (chg.rf.se (by simp)).tr (h10.2.mono (by simp))
  have hr0 : rowIs d10 j xs := hr.fr hg1 (by simp <;> omega) (by simp <;> omega)
  refine m_callVL (s_X1_leastNumber hl0 hj hj5 hr0 hx h12) cv_X1_46 dX1_find_16 (fun r16 d16 h16 => ?_)
  obtain ⟨rfl, h16⟩ := h16
  have hc1 : circIs d16 [] := hc0.fr h16 (by simp) (by simp) (by simp)
  refine m_callVI (s_X1_keep hc1 (r := leastR (bw k fb) xs) (by omega) (fun x hm => by have := hlx x hm; omega)) cv_X1_50 dX1_find_19 (fun r19 d19 h19 => ?_)
  have h19' : r19 = 1 ∧ circIs d19 [leastR (bw k fb) xs] := by
    rcases h19.1 with ⟨rs', q1, q2, q3⟩ | ⟨q, -⟩
    · unfold ins at q1
      rw [if_neg (List.not_mem_nil), if_pos (by decide)] at q1
      cases q1
      exact ⟨q2, q3⟩
    · unfold ins at q
      rw [if_neg (List.not_mem_nil), if_pos (by decide)] at q
      cases q
  obtain ⟨rfl, hc2⟩ := h19'
  refine m_if_ne 27 dX1_find_22 (by decide) (fun c22 => ?_) (fun c22 => by exfalso; exact c22 (by decide))
  refine m_iconstN 0 dX1_find_27 (by decide) ?_
  refine m_istore_n dX1_find_28 (Nat.le_of_ble_eq_true rfl) rfl ?_
  exact loop 0 (Nat.zero_le _) _ _ rfl hc2 (fun r hr => by rw [List.mem_singleton.mp hr]; exact ⟨hbl, hlx⟩) ((hg0.tr (h16.mono (by simp [circS]))).tr (h19.2.mono (by simp [circS])))
theorem s_X1_holds (h : letIs d k fb) (hc : circIs d rs) (hj : j < 13) (hj5 : j ≠ 5) (hr : rowIs d j xs) (hx : ∀ x ∈ xs, x < k) : mSpecI l W mX1_holds (dep + 4) [.ref (xad W 59), .ref (xad W (j + 4))] d (fun v d' => (v = if xs.length ≤ 12 ∧ leastR (bw k fb) xs ∈ rs then 1 else 0) ∧ chg [9, 22, 16, 29] d d') := by
  have hk := h.2.2.2.1
  refine m_spec RX1 [some (.ref (xad W 59)), some (.ref (xad W (j + 4))), none, none, none] rfl (by decide +kernel) rfl rfl (fun K hR => ?_)
  have h24 := hr.1
  refine m_aload_n dX1_holds_0 rfl ?_
  refine m_callVIp (s_X9_length hj hr) cv_X1_57 dX1_holds_1 ?_
  refine m_bipushN 12 dX1_holds_4 (by decide) ?_
  refine m_icmp_leN 11 dX1_holds_6 (by decide) (by omega) (by omega) (fun c6 => ?_) (fun c6 => ?_)
  · refine m_aload_n dX1_holds_11 rfl ?_
    refine m_aload_n dX1_holds_12 rfl ?_
    refine m_callVL (s_X1_leastNumber h hj hj5 hr hx (by omega)) cv_X1_46 dX1_holds_13 (fun r13 d13 h13 => ?_)
    obtain ⟨rfl, h13⟩ := h13
    have hbl := leastR_len (bw_ok h.2.2 hx)
    have hlx : ∀ x ∈ leastR (bw k fb) xs, x < 6 := fun x hm => by have := hx x (leastR_mem hm); omega
    have h8 : ∀ x ∈ leastR (bw k fb) xs, x < 8 := fun x hm => by have := hlx x hm; omega
    have hnl := num_lt (xs := leastR (bw k fb) xs) (by omega) h8
    have hn0 := num_pos h8
    have hc1 : circIs d13 rs := hc.fr h13 (by simp) (by simp) (by simp)
    obtain ⟨a, b, c, e, T, f, g⟩ := id hc1
    have hmem : num (leastR (bw k fb) xs) ∈ rs.map num ↔ leastR (bw k fb) xs ∈ rs := by
      rw [List.mem_map]
      constructor
      · rintro ⟨y, hy, e1⟩
        have := num_inj y.length y _ rfl (fun x hx => by have := (e y hy).2 x hx; omega) h8 e1
        rw [← this]; exact hy
      · exact fun h => ⟨_, h, rfl⟩
    refine m_lstore_n dX1_holds_16 (Nat.le_of_ble_eq_true rfl) rfl ?_
    refine m_aload_n dX1_holds_17 rfl ?_
    refine m_lload_n dX1_holds_18 rfl ?_
    refine m_callVI (s_X1_slotOf f g (by simpa using b) (v := num (leastR (bw k fb) xs)) (by omega)) cv_X1_61 dX1_holds_19 (fun r19 d19 h19 => ?_)
    obtain ⟨⟨i, hi, rfl, h1, h2'⟩, rfl⟩ := h19
    have hm := Nat.mod_lt (hsh (num (leastR (bw k fb) xs)) + i) (show 4096 > 0 by decide)
    have hfm := f _ hm
    have hhas := tab_has g (by omega) hi h1 h2'
    refine m_istore dX1_holds_22 (Nat.le_of_ble_eq_true rfl) rfl ?_
    refine m_iload dX1_holds_24 rfl ?_
    refine m_if_ltN 55 dX1_holds_26 (by decide) (by omega) ?_
    refine m_iload dX1_holds_29 rfl ?_
    refine m_aload_n dX1_holds_31 rfl ?_
    refine m_get fl_X1_15 (by decide) rfl rfl dX1_holds_32 ?_
    refine m_alen (by omega) (by first | rfl | exact xcell_arr _ _ _ (by omega) | exact xcell_mv _ _ (by omega) | exact xcell_fo _ _ (by omega) | exact xcell_ne _ _ (by omega)) (by decide) dX1_holds_35 ?_
    first | refine m_icmp_geN 55 dX1_holds_36 (by decide) (by omega) (by omega) (fun c36 => by exfalso; omega) (fun c36 => ?_) | refine m_icmp_ge 55 dX1_holds_36 (by decide) (fun c36 => by exfalso; omega) (fun c36 => ?_)
    refine m_aload_n dX1_holds_39 rfl ?_
    refine m_get fl_X1_15 (by decide) rfl rfl dX1_holds_40 ?_
    refine m_iload dX1_holds_43 rfl ?_
    refine m_lald (by first | exact ⟨by decide, by decide, fun _ => rfl⟩ | exact isL_fo _ (by omega)) (by omega) dX1_holds_45 ?_
    refine m_eql (hfm.1) ?_
    refine m_lload_n dX1_holds_46 rfl ?_
    first | refine m_lcmp_neN 55 dX1_holds_47 dX1_holds_48 (by decide) (by omega) (by omega) (fun c47 => ?_) (fun c47 => ?_) | refine m_lcmp_ne 55 dX1_holds_47 dX1_holds_48 (by decide) (fun c47 => ?_) (fun c47 => ?_)
    · refine m_iconstN 0 dX1_holds_55 (by decide) ?_
      exact m_iret (ty := .boolean) hR dX1_holds_56 (⟨by rw [if_neg (fun z => c47 (hhas.mpr (hmem.mpr z.2)))]; exact nI_0, h13⟩)
    · refine m_iconstN 1 dX1_holds_51 (by decide) ?_
      refine m_goto 56 dX1_holds_52 (by decide) ?_
      exact m_iret (ty := .boolean) hR dX1_holds_56 (⟨by rw [if_pos ⟨by omega, hmem.mp (hhas.mp (Decidable.not_not.mp c47))⟩]; rfl, h13⟩)
  · refine m_iconstN 0 dX1_holds_9 (by decide) ?_
    exact m_iret (ty := .boolean) hR dX1_holds_10 (⟨by rw [if_neg (by omega)]; exact nI_0, chg.rf⟩)
end CIR
