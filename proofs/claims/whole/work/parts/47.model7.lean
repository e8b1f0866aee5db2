/-! the law's model: heaps of heaps -/
theorem moSt.fr {S : List Nat} {d d' : xD} {σ : St} (h : moSt d σ) (hc : chg S d d') (h0 : 240 ∉ S) (h1 : 241 ∉ S) (h2 : 242 ∉ S) (h3 : 243 ∉ S) : moSt d' σ := ⟨h.1.fr hc h0 h1, h.2.fr hc h2 h3⟩
theorem splitF_len {B : Nat → Nat} {k : Nat} : ∀ (n : Nat) (cs xs ys : List Nat), (splitF B k n cs xs ys).1.length + (splitF B k n cs xs ys).2.1.length = cs.length + xs.length ∧ (splitF B k n cs xs ys).1.length + (splitF B k n cs xs ys).2.2.length = cs.length + ys.length := by
  intro n
  induction n with
  | zero => intro cs xs ys; exact ⟨rfl, rfl⟩
  | succ n ih =>
    intro cs xs ys
    unfold splitF
    cases hc : cfront B k xs ys with
    | none => exact ⟨rfl, rfl⟩
    | some p =>
      have h1 := List.find?_some hc
      rw [Bool.and_eq_true] at h1
      obtain ⟨i, hi⟩ := Option.isSome_iff_exists.mp h1.1
      obtain ⟨j, hj⟩ := Option.isSome_iff_exists.mp h1.2
      obtain ⟨h2, h3⟩ := ih (cs ++ [p]) (tk B xs p) (tk B ys p)
      have e1 : (tk B xs p).length + 1 = xs.length := by
        unfold tk
        rw [hi]
        show (xs.eraseIdx i).length + 1 = _
        rw [List.length_eraseIdx_of_lt (front_lt hi)]
        have := front_lt hi
        omega
      have e2 : (tk B ys p).length + 1 = ys.length := by
        unfold tk
        rw [hj]
        show (ys.eraseIdx j).length + 1 = _
        rw [List.length_eraseIdx_of_lt (front_lt hj)]
        have := front_lt hj
        omega
      rw [List.length_append, List.length_singleton] at h2 h3
      exact ⟨by rw [h2]; omega, by rw [h3]; omega⟩
theorem allFr_iff {k : Nat} {fb : Nat → Nat} {us vs : List Nat} (h : fbOk k fb) (hu : ∀ x ∈ us, x < k) (hv : ∀ x ∈ vs, x < k) : allFr k fb us vs = true ↔ ∀ x ∈ us, ∀ y ∈ vs, (fb x).testBit y = true := by
  have hk := h.2.1
  unfold allFr
  rw [List.all_eq_true]
  constructor
  · intro h1 x hx y hy
    have h2 := of_decide_eq_true (h1 x hx)
    have h3 : (bw k fb x &&& bitsOf vs).testBit y = false := by rw [h2]; exact Nat.zero_testBit y
    have hx6 := hu x hx
    rw [Nat.testBit_and, bw_tb h (by omega)] at h3
    have h4 : (bitsOf vs).testBit y = true := by
      unfold bitsOf
      rw [bits_fold]; simp [hy]
    rw [h4] at h3
    have := hv y hy
    simpa [this] using h3
  · intro h1 x hx
    refine decide_eq_true ?_
    apply Nat.eq_of_testBit_eq
    intro y
    have hx6 := hu x hx
    rw [Nat.zero_testBit, Nat.testBit_and, bw_tb h (by omega)]
    by_cases hy : y ∈ vs
    · rw [h1 x hx y hy]; simp
    · have h4 : (bitsOf vs).testBit y = false := by
        unfold bitsOf
        rw [bits_fold]; simp [hy]
      rw [h4]; simp
theorem arrB.erase {d d' : xD} {o i : Nat} {xs : List Nat} (h : arrB d o xs) (h1 : ∀ q, q < i → q < xs.length → d'.1 o q = d.1 o q) (h2 : ∀ q, i ≤ q → q + 1 < xs.length → d'.1 o q = d.1 o (q + 1)) (hi : i < xs.length) : arrB d' o (xs.eraseIdx i) := fun q hq => by
  rw [List.length_eraseIdx_of_lt hi] at hq
  rw [List.getD_eq_getElem?_getD]
  by_cases e : q < i
  · rw [h1 q e (by omega), h q (by omega), List.getElem?_eraseIdx_of_lt e, ← List.getD_eq_getElem?_getD]
  · rw [h2 q (by omega) (by omega), h (q + 1) (by omega), List.getElem?_eraseIdx_of_ge (by omega), ← List.getD_eq_getElem?_getD]
theorem tkL_s (B : Nat → Nat) (ys : List Nat) (x : Nat) (t : List Nat) : tkL B ys (x :: t) = match front B ys x with | none => none | some i => tkL B (ys.eraseIdx i) t := rfl
section MOD
variable {l : Launch} {W : xW} {dep : Nat} {d : xD} {bs : List Nat} {σ : St} {x y z w : Int32} {n n2 n3 k : Nat} {fb : Nat → Nat}
theorem s_X12_areThree (hx : hN x = some n) (hy : hN y = some n2) (hz : hN z = some n3) : mSpecI l W mX12_areThree (dep + 2) [.int x, .int y, .int z] d (fun r d' => r = 1 ∧ d' = d) := by
  refine m_spec RX12 [some (.int x), some (.int y), some (.int z)] rfl (by decide +kernel) rfl rfl (fun K hR => ?_)
  refine m_iload_n dX12_areThree_0 rfl ?_
  refine m_callSIp (s_X12_isHeap hx) cs_X12_172 dX12_areThree_1 ?_
  refine m_if_eq 25 dX12_areThree_4 (by decide) (fun c4 => by exfalso; exact absurd c4 (by decide)) (fun c4 => ?_)
  refine m_iload_n dX12_areThree_7 rfl ?_
  refine m_callSIp (s_X12_isHeap hy) cs_X12_172 dX12_areThree_8 ?_
  refine m_if_eq 25 dX12_areThree_11 (by decide) (fun c11 => by exfalso; exact absurd c11 (by decide)) (fun c11 => ?_)
  refine m_iload_n dX12_areThree_14 rfl ?_
  refine m_callSIp (s_X12_isHeap hz) cs_X12_172 dX12_areThree_15 ?_
  refine m_if_eq 25 dX12_areThree_18 (by decide) (fun c18 => by exfalso; exact absurd c18 (by decide)) (fun c18 => ?_)
  refine m_iconstN 1 dX12_areThree_21 (by decide) ?_
  refine m_goto 26 dX12_areThree_22 (by decide) ?_
  exact m_iret (ty := .boolean) hR dX12_areThree_26 (⟨rfl, rfl⟩)
theorem s_X12_areThreeO (h : hN x = none ∨ hN y = none ∨ hN z = none) : mSpecI l W mX12_areThree (dep + 2) [.int x, .int y, .int z] d (fun r d' => r = 0 ∧ d' = d) := by
  refine m_spec RX12 [some (.int x), some (.int y), some (.int z)] rfl (by decide +kernel) rfl rfl (fun K hR => ?_)
  cases hx : hN x with
  | none =>
    refine m_iload_n dX12_areThree_0 rfl ?_
    refine m_callSIp (s_X12_isHeapO hx) cs_X12_172 dX12_areThree_1 ?_
    refine m_if_eq 25 dX12_areThree_4 (by decide) (fun c4 => ?_) (fun c4 => by exfalso; exact c4 rfl)
    refine m_iconstN 0 dX12_areThree_25 (by decide) ?_
    exact m_iret (ty := .boolean) hR dX12_areThree_26 (⟨rfl, rfl⟩)
  | some n =>
    cases hy : hN y with
    | none =>
      refine m_iload_n dX12_areThree_0 rfl ?_
      refine m_callSIp (s_X12_isHeap hx) cs_X12_172 dX12_areThree_1 ?_
      refine m_if_eq 25 dX12_areThree_4 (by decide) (fun c4 => by exfalso; exact absurd c4 (by decide)) (fun c4 => ?_)
      refine m_iload_n dX12_areThree_7 rfl ?_
      refine m_callSIp (s_X12_isHeapO hy) cs_X12_172 dX12_areThree_8 ?_
      refine m_if_eq 25 dX12_areThree_11 (by decide) (fun c11 => ?_) (fun c11 => by exfalso; exact c11 rfl)
      refine m_iconstN 0 dX12_areThree_25 (by decide) ?_
      exact m_iret (ty := .boolean) hR dX12_areThree_26 (⟨rfl, rfl⟩)
    | some n2 =>
      refine m_iload_n dX12_areThree_0 rfl ?_
      refine m_callSIp (s_X12_isHeap hx) cs_X12_172 dX12_areThree_1 ?_
      refine m_if_eq 25 dX12_areThree_4 (by decide) (fun c4 => by exfalso; exact absurd c4 (by decide)) (fun c4 => ?_)
      refine m_iload_n dX12_areThree_7 rfl ?_
      refine m_callSIp (s_X12_isHeap hy) cs_X12_172 dX12_areThree_8 ?_
      refine m_if_eq 25 dX12_areThree_11 (by decide) (fun c11 => by exfalso; exact absurd c11 (by decide)) (fun c11 => ?_)
      refine m_iload_n dX12_areThree_14 rfl ?_
      refine m_callSIp (s_X12_isHeapO ((h.resolve_left (by rw [hx]; exact fun z => by cases z)).resolve_left (by rw [hy]; exact fun z => by cases z))) cs_X12_172 dX12_areThree_15 ?_
      refine m_if_eq 25 dX12_areThree_18 (by decide) (fun c18 => ?_) (fun c18 => by exfalso; exact c18 rfl)
      refine m_iconstN 0 dX12_areThree_25 (by decide) ?_
      exact m_iret (ty := .boolean) hR dX12_areThree_26 (⟨rfl, rfl⟩)
theorem s_X12_joinO (h : hN x = none ∨ hN y = none ∨ hN z = none) : mSpecI l W mX12_join (dep + 3) [.ref (xad W 240), .int x, .int y, .int z] d (fun r d' => r = -2 ∧ d' = d) := by
  refine m_spec RX12 [some (.ref (xad W 240)), some (.int x), some (.int y), some (.int z), none, none] rfl (by decide +kernel) rfl rfl (fun K hR => ?_)
  refine m_iload_n dX12_join_0 rfl ?_
  refine m_iload_n dX12_join_1 rfl ?_
  refine m_iload_n dX12_join_2 rfl ?_
  refine m_callSIp (s_X12_areThreeO h) cs_X12_223 dX12_join_3 ?_
  refine m_if_ne 12 dX12_join_6 (by decide) (fun c6 => by exfalso; exact c6 rfl) (fun c6 => ?_)
  refine m_bipush (v := -2) dX12_join_9 (by decide) ?_
  exact m_iret (ty := .int) hR dX12_join_11 (⟨rfl, rfl⟩)
theorem s_X12_leftO (h : hN x = none ∨ hN y = none ∨ hN z = none) : mSpecI l W mX12_left (dep + 3) [.ref (xad W 240), .int x, .int y, .int z] d (fun r d' => r = -2 ∧ d' = d) := by
  refine m_spec RX12 [some (.ref (xad W 240)), some (.int x), some (.int y), some (.int z), none, none] rfl (by decide +kernel) rfl rfl (fun K hR => ?_)
  refine m_iload_n dX12_left_0 rfl ?_
  refine m_iload_n dX12_left_1 rfl ?_
  refine m_iload_n dX12_left_2 rfl ?_
  refine m_callSIp (s_X12_areThreeO h) cs_X12_223 dX12_left_3 ?_
  refine m_if_ne 12 dX12_left_6 (by decide) (fun c6 => by exfalso; exact c6 rfl) (fun c6 => ?_)
  refine m_bipush (v := -2) dX12_left_9 (by decide) ?_
  exact m_iret (ty := .int) hR dX12_left_11 (⟨rfl, rfl⟩)
theorem s_X12_sharedO (h : hN x = none ∨ hN y = none ∨ hN z = none) : mSpecI l W mX12_shared (dep + 3) [.ref (xad W 240), .int x, .int y, .int z] d (fun r d' => r = -2 ∧ d' = d) := by
  refine m_spec RX12 [some (.ref (xad W 240)), some (.int x), some (.int y), some (.int z), none, none] rfl (by decide +kernel) rfl rfl (fun K hR => ?_)
  refine m_iload_n dX12_shared_0 rfl ?_
  refine m_iload_n dX12_shared_1 rfl ?_
  refine m_iload_n dX12_shared_2 rfl ?_
  refine m_callSIp (s_X12_areThreeO h) cs_X12_223 dX12_shared_3 ?_
  refine m_if_ne 12 dX12_shared_6 (by decide) (fun c6 => by exfalso; exact c6 rfl) (fun c6 => ?_)
  refine m_bipush (v := -2) dX12_shared_9 (by decide) ?_
  exact m_iret (ty := .int) hR dX12_shared_11 (⟨rfl, rfl⟩)
theorem s_X12_bothO (h : hN x = none ∨ hN y = none ∨ hN z = none) : mSpecI l W mX12_both (dep + 3) [.ref (xad W 240), .int x, .int y, .int z] d (fun r d' => r = -2 ∧ d' = d) := by
  refine m_spec RX12 [some (.ref (xad W 240)), some (.int x), some (.int y), some (.int z), none, none, none, none, none] rfl (by decide +kernel) rfl rfl (fun K hR => ?_)
  refine m_iload_n dX12_both_0 rfl ?_
  refine m_iload_n dX12_both_1 rfl ?_
  refine m_iload_n dX12_both_2 rfl ?_
  refine m_callSIp (s_X12_areThreeO h) cs_X12_223 dX12_both_3 ?_
  refine m_if_ne 12 dX12_both_6 (by decide) (fun c6 => by exfalso; exact c6 rfl) (fun c6 => ?_)
  refine m_bipush (v := -2) dX12_both_9 (by decide) ?_
  exact m_iret (ty := .int) hR dX12_both_11 (⟨rfl, rfl⟩)
theorem s_X12_mirrorO (hx : hN x = none) : mSpecI l W mX12_mirror (dep + 2) [.ref (xad W 240), .int x] d (fun r d' => r = -2 ∧ d' = d) := by
  refine m_spec RX12 [some (.ref (xad W 240)), some (.int x), none] rfl (by decide +kernel) rfl rfl (fun K hR => ?_)
  refine m_iload_n dX12_mirror_0 rfl ?_
  refine m_callSIp (s_X12_isHeapO hx) cs_X12_172 dX12_mirror_1 ?_
  refine m_if_ne 10 dX12_mirror_4 (by decide) (fun c4 => by exfalso; exact c4 rfl) (fun c4 => ?_)
  refine m_bipush (v := -2) dX12_mirror_7 (by decide) ?_
  exact m_iret (ty := .int) hR dX12_mirror_9 (⟨rfl, rfl⟩)
def moPC : List Nat := [242, 243, 246, 247, 248, 249]
theorem s_X12_join (hx : hN x = some n) (hy : hN y = some n2) (hz : hN z = some n3) (hs : moSt d σ) : mSpecI l W mX12_join (dep + 4) [.ref (xad W 240), .int x, .int y, .int z] d (fun r d' => (((σ.2.2 n).length + (σ.2.2 n2).length ≤ 24 ∧ r = nI ((σ.2.2 n).length + (σ.2.2 n2).length) ∧ moSt d' (setH σ n3 (leastR (bw σ.1 σ.2.1) (σ.2.2 n ++ σ.2.2 n2)))) ∨ (¬ (σ.2.2 n).length + (σ.2.2 n2).length ≤ 24 ∧ r = -5 ∧ moSt d' σ)) ∧ chg moPC d d') := by
  obtain ⟨hn, rfl⟩ := hN_some hx
  obtain ⟨hn2, rfl⟩ := hN_some hy
  obtain ⟨hn3, rfl⟩ := hN_some hz
  obtain ⟨hA, hAl, hAg, hAx⟩ := hs.2 n hn
  obtain ⟨hB, hBl, hBg, hBx⟩ := hs.2 n2 hn2
  have hcx : ∀ x ∈ σ.2.2 n ++ σ.2.2 n2, x < σ.1 := fun x hx => (List.mem_append.mp hx).elim (hAx x) (hBx x)
  have hll := leastR_len (bw_ok hs.1.2.2 hcx)
  have hI : isI W 246 48 := ⟨by decide, by decide, fun _ => rfl⟩
  refine m_spec RX12 [some (.ref (xad W 240)), some (.int (nI n)), some (.int (nI n2)), some (.int (nI n3)), none, none] rfl (by decide +kernel) rfl rfl (fun K hR => ?_)
  generalize hxs : σ.2.2 n = xs at *
  generalize hys : σ.2.2 n2 = ys at *
  have loop : xs.length + ys.length ≤ 24 → ∀ i, i ≤ ys.length → ∀ d1, arrB d1 246 (xs ++ ys.take i) → chg [246] d d1 → mG W K cX12_join RX12 (dep + 4) d1 49 [some (.ref (xad W 240)), some (.int (nI n)), some (.int (nI n2)), some (.int (nI n3)), some (.int (nI (xs.length + ys.length))), some (.int (nI i))] [] := fun hle => x_up _ (fun i hi ih d1 g1 g2 => by
    have h242 := (g2 242 (by simp)).1
    have h243 := (g2 243 (by simp)).1
    have hl1 := hs.1.fr g2 (by simp) (by simp)
    have hs1 := hs.fr g2 (by simp) (by simp) (by simp) (by simp)
    by_cases hin : i < ys.length
    · skip
      refine m_iload dX12_join_49 rfl ?_
      refine m_aload_n dX12_join_51 rfl ?_
      refine m_get fl_X12_17 (by decide) rfl rfl dX12_join_52 ?_
      refine m_iload_n dX12_join_55 rfl ?_
      refine m_iald (by first | exact ⟨by decide, by decide, fun _ => rfl⟩ | exact isI_arr _ (by omega) | exact isI_mv _ (by omega) | exact isI_ne _ (by omega)) (by omega) dX12_join_56 ?_
      refine m_eqi ((by rw [h242]; exact hB : _ = nI ys.length)) ?_
      first | refine m_icmp_geN 92 dX12_join_57 (by decide) (by omega) (by omega) (fun c57 => by exfalso; omega) (fun c57 => ?_) | refine m_icmp_ge 92 dX12_join_57 (by decide) (fun c57 => by exfalso; omega) (fun c57 => ?_)
      refine m_aload_n dX12_join_60 rfl ?_
      refine m_get fl_X12_29 (by decide) rfl rfl dX12_join_61 ?_
      refine m_aload_n dX12_join_64 rfl ?_
      refine m_get fl_X12_17 (by decide) rfl rfl dX12_join_65 ?_
      refine m_iload_n dX12_join_68 rfl ?_
      refine m_iald (by first | exact ⟨by decide, by decide, fun _ => rfl⟩ | exact isI_arr _ (by omega) | exact isI_mv _ (by omega) | exact isI_ne _ (by omega)) (by omega) dX12_join_69 ?_
      refine m_eqi ((by rw [h242]; exact hA : _ = nI xs.length)) ?_
      refine m_iload dX12_join_70 rfl ?_
      first | refine m_iaddN dX12_join_72 ?_ | refine m_iadd dX12_join_72 ?_
      refine m_aload_n dX12_join_73 rfl ?_
      refine m_get fl_X12_20 (by decide) rfl rfl dX12_join_74 ?_
      refine m_bipushN 24 dX12_join_77 (by decide) ?_
      refine m_iload_n dX12_join_79 rfl ?_
      first | refine m_imulN dX12_join_80 ?_ | refine m_imul dX12_join_80 ?_
      refine m_iload dX12_join_81 rfl ?_
      first | refine m_iaddN dX12_join_83 ?_ | refine m_iadd dX12_join_83 ?_
      refine m_iald (by first | exact ⟨by decide, by decide, fun _ => rfl⟩ | exact isI_arr _ (by omega) | exact isI_mv _ (by omega) | exact isI_ne _ (by omega)) (by omega) dX12_join_84 ?_
      refine m_eqi ((by rw [h243]; exact hBg i hin : _ = nI (ys.getD i 0))) ?_
      refine m_iast (by first | exact ⟨by decide, by decide, fun _ => rfl⟩ | exact isI_arr _ (by omega) | exact isI_mv _ (by omega) | exact isI_ne _ (by omega)) (by omega) dX12_join_85 ?_
      first | refine m_iincN 1 dX12_join_86 (by decide) rfl rfl ?_ | refine m_iinc dX12_join_86 rfl rfl ?_
      refine m_goto 49 dX12_join_89 (by decide) ?_
      refine ih hin _ ?_ (g2.se (by simp))
      have := g1.snoc (x := ys.getD i 0)
      rw [List.length_append, List.length_take, Nat.min_eq_left hi, List.append_assoc, getD_at hin, ← take_s hin] at this
      rw [getD_at hin]
      exact this
    · have e6 : i = ys.length := by omega
      subst e6
      rw [List.take_length] at g1
      refine m_iload dX12_join_49 rfl ?_
      refine m_aload_n dX12_join_51 rfl ?_
      refine m_get fl_X12_17 (by decide) rfl rfl dX12_join_52 ?_
      refine m_iload_n dX12_join_55 rfl ?_
      refine m_iald (by first | exact ⟨by decide, by decide, fun _ => rfl⟩ | exact isI_arr _ (by omega) | exact isI_mv _ (by omega) | exact isI_ne _ (by omega)) (by omega) dX12_join_56 ?_
      refine m_eqi ((by rw [h242]; exact hB : _ = nI ys.length)) ?_
      first | refine m_icmp_geN 92 dX12_join_57 (by decide) (by omega) (by omega) (fun c57 => ?_) (fun c57 => by exfalso; omega) | refine m_icmp_ge 92 dX12_join_57 (by decide) (fun c57 => ?_) (fun c57 => by exfalso; omega)
      refine m_aload_n dX12_join_92 rfl ?_
      refine m_iload_n dX12_join_93 rfl ?_
      refine m_aload_n dX12_join_94 rfl ?_
      refine m_aload_n dX12_join_95 rfl ?_
      refine m_get fl_X12_29 (by decide) rfl rfl dX12_join_96 ?_
      refine m_iload dX12_join_99 rfl ?_
      rw [show xs.length + ys.length = (xs ++ ys).length from List.length_append.symm]
      refine m_callVI (s_X12_makeLeastOf hI (by decide) hl1 hcx (by rw [List.length_append]; omega) g1) cv_X12_190 dX12_join_101 (fun r101 d101 h101 => ?_)
      rw [h101.1, ← hll]
      refine m_callVI (s_X12_keep hn3 (hs1.fr h101.2.2 (by simp) (by simp) (by simp) (by simp)) (by rw [hll, List.length_append]; omega) (fun x hx => hcx x (leastR_mem hx)) h101.2.1) cv_X12_226 dX12_join_104 (fun r104 d104 h104 => ?_)
      exact m_iret (ty := .int) hR dX12_join_107 (⟨Or.inl ⟨hle, by rw [h104.1, hll, List.length_append], h104.2.1⟩, ((g2.mono (by decide)).tr (h101.2.2.mono (by decide))).tr (h104.2.2.mono (by decide))⟩)
    )
  refine m_iload_n dX12_join_0 rfl ?_
  refine m_iload_n dX12_join_1 rfl ?_
  refine m_iload_n dX12_join_2 rfl ?_
  refine m_callSIp (s_X12_areThree hx hy hz) cs_X12_223 dX12_join_3 ?_
  refine m_if_ne 12 dX12_join_6 (by decide) (fun c6 => ?_) (fun c6 => by exfalso; exact c6 (by decide))
  refine m_aload_n dX12_join_12 rfl ?_
  refine m_get fl_X12_17 (by decide) rfl rfl dX12_join_13 ?_
  refine m_iload_n dX12_join_16 rfl ?_
  refine m_iald (by first | exact ⟨by decide, by decide, fun _ => rfl⟩ | exact isI_arr _ (by omega) | exact isI_mv _ (by omega) | exact isI_ne _ (by omega)) (by omega) dX12_join_17 ?_
  refine m_eqi (hA) ?_
  refine m_aload_n dX12_join_18 rfl ?_
  refine m_get fl_X12_17 (by decide) rfl rfl dX12_join_19 ?_
  refine m_iload_n dX12_join_22 rfl ?_
  refine m_iald (by first | exact ⟨by decide, by decide, fun _ => rfl⟩ | exact isI_arr _ (by omega) | exact isI_mv _ (by omega) | exact isI_ne _ (by omega)) (by omega) dX12_join_23 ?_
  refine m_eqi (hB) ?_
  first | refine m_iaddN dX12_join_24 ?_ | refine m_iadd dX12_join_24 ?_
  refine m_istore dX12_join_25 (Nat.le_of_ble_eq_true rfl) rfl ?_
  refine m_iload dX12_join_27 rfl ?_
  refine m_bipushN 24 dX12_join_29 (by decide) ?_
  first | refine m_icmp_leN 37 dX12_join_31 (by decide) (by omega) (by omega) (fun c31 => ?_) (fun c31 => ?_) | refine m_icmp_le 37 dX12_join_31 (by decide) (fun c31 => ?_) (fun c31 => ?_)
  · refine m_aload_n dX12_join_37 rfl ?_
    refine m_iload_n dX12_join_38 rfl ?_
    refine m_aload_n dX12_join_39 rfl ?_
    refine m_get fl_X12_29 (by decide) rfl rfl dX12_join_40 ?_
    refine m_callVV (s_X12_take (o := 246) hI (by decide) hn hs) cv_X12_186 dX12_join_43 (fun d43 h43 => ?_)
    refine m_iconstN 0 dX12_join_46 (by decide) ?_
    refine m_istore dX12_join_47 (Nat.le_of_ble_eq_true rfl) rfl ?_
    exact loop (by omega) 0 (Nat.zero_le _) d43 (by rw [List.take_zero, List.append_nil]; rw [hxs] at h43; exact h43.1) h43.2
  · refine m_bipush (v := -5) dX12_join_34 (by decide) ?_
    exact m_iret (ty := .int) hR dX12_join_36 (⟨Or.inr ⟨by omega, rfl, hs⟩, chg.rf⟩)
theorem s_X12_left (hx : hN x = some n) (hy : hN y = some n2) (hz : hN z = some n3) (hs : moSt d σ) : mSpecI l W mX12_left (dep + 4) [.ref (xad W 240), .int x, .int y, .int z] d (fun r d' => ((∃ zs, tkL (bw σ.1 σ.2.1) (σ.2.2 n2) (σ.2.2 n) = some zs ∧ r = nI zs.length ∧ moSt d' (setH σ n3 (leastR (bw σ.1 σ.2.1) zs))) ∨ (tkL (bw σ.1 σ.2.1) (σ.2.2 n2) (σ.2.2 n) = none ∧ r = -4 ∧ moSt d' σ)) ∧ chg moPC d d') := by
  obtain ⟨hn, rfl⟩ := hN_some hx
  obtain ⟨hn2, rfl⟩ := hN_some hy
  obtain ⟨hn3, rfl⟩ := hN_some hz
  obtain ⟨hA, hAl, hAg, hAx⟩ := hs.2 n hn
  obtain ⟨hB, hBl, hBg, hBx⟩ := hs.2 n2 hn2
  have hk := hs.1.2.2.2.1
  have hB6 : ∀ x ∈ σ.2.2 n2, x < 6 := fun x h => by have := hBx x h; omega
  have hI : isI W 246 48 := ⟨by decide, by decide, fun _ => rfl⟩
  have hZ : isZ W 249 48 := ⟨by decide, by decide, fun _ => rfl⟩
  refine m_spec RX12 [some (.ref (xad W 240)), some (.int (nI n)), some (.int (nI n2)), some (.int (nI n3)), none, none] rfl (by decide +kernel) rfl rfl (fun K hR => ?_)
  generalize hxs : σ.2.2 n = xs at *
  generalize hys : σ.2.2 n2 = ys at *
  have loop : ∀ i, i ≤ xs.length → ∀ d1 off1 o5, arrB d1 246 ys → offIs d1 ys.length off1 → tkL (bw σ.1 σ.2.1) ys xs = tkL (bw σ.1 σ.2.1) (live off1 ys 0) (xs.drop i) → chg [246, 249] d d1 → mG W K cX12_left RX12 (dep + 4) d1 34 [some (.ref (xad W 240)), some (.int (nI n)), some (.int (nI n2)), some (.int (nI n3)), some (.int (nI i)), o5] [] := x_up _ (fun i hi ih d1 off1 o5 g1 g2 g3 g4 => by
    have h242 := (g4 242 (by simp)).1
    have h243 := (g4 243 (by simp)).1
    have hs1 := hs.fr g4 (by simp) (by simp) (by simp) (by simp)
    by_cases hin : i < xs.length
    · have hxi : xs.getD i 0 < σ.1 := by rw [getD_at hin]; exact hAx _ (List.getElem_mem hin)
      have hxi6 : xs.getD i 0 < 6 := by omega
      rw [drop_c hin, ← getD_at hin] at g3
      rw [tkL_s] at g3
      rcases fo_bw (off := off1) (l := xs.getD i 0) hs.1.2.2 (by omega) hBx with ⟨f1, f2⟩ | ⟨m, j', f1, f2, f3, f4, f5⟩
      · rw [f2] at g3
        refine m_iload dX12_left_34 rfl ?_
        refine m_aload_n dX12_left_36 rfl ?_
        refine m_get fl_X12_17 (by decide) rfl rfl dX12_left_37 ?_
        refine m_iload_n dX12_left_40 rfl ?_
        refine m_iald (by first | exact ⟨by decide, by decide, fun _ => rfl⟩ | exact isI_arr _ (by omega) | exact isI_mv _ (by omega) | exact isI_ne _ (by omega)) (by omega) dX12_left_41 ?_
        refine m_eqi ((by rw [h242]; exact hA : _ = nI xs.length)) ?_
        first | refine m_icmp_geN 96 dX12_left_42 (by decide) (by omega) (by omega) (fun c42 => by exfalso; omega) (fun c42 => ?_) | refine m_icmp_ge 96 dX12_left_42 (by decide) (fun c42 => by exfalso; omega) (fun c42 => ?_)
        refine m_aload_n dX12_left_45 rfl ?_
        refine m_aload_n dX12_left_46 rfl ?_
        refine m_get fl_X12_29 (by decide) rfl rfl dX12_left_47 ?_
        refine m_aload_n dX12_left_50 rfl ?_
        refine m_get fl_X12_17 (by decide) rfl rfl dX12_left_51 ?_
        refine m_iload_n dX12_left_54 rfl ?_
        refine m_iald (by first | exact ⟨by decide, by decide, fun _ => rfl⟩ | exact isI_arr _ (by omega) | exact isI_mv _ (by omega) | exact isI_ne _ (by omega)) (by omega) dX12_left_55 ?_
        refine m_eqi ((by rw [h242]; exact hB : _ = nI ys.length)) ?_
        refine m_aload_n dX12_left_56 rfl ?_
        refine m_get fl_X12_20 (by decide) rfl rfl dX12_left_57 ?_
        refine m_bipushN 24 dX12_left_60 (by decide) ?_
        refine m_iload_n dX12_left_62 rfl ?_
        first | refine m_imulN dX12_left_63 ?_ | refine m_imul dX12_left_63 ?_
        refine m_iload dX12_left_64 rfl ?_
        first | refine m_iaddN dX12_left_66 ?_ | refine m_iadd dX12_left_66 ?_
        refine m_iald (by first | exact ⟨by decide, by decide, fun _ => rfl⟩ | exact isI_arr _ (by omega) | exact isI_mv _ (by omega) | exact isI_ne _ (by omega)) (by omega) dX12_left_67 ?_
        refine m_eqi ((by rw [h243]; exact hAg i hin : _ = nI (xs.getD i 0))) ?_
        refine m_callVIp (s_X12_firstOf (lt := xs.getD i 0) hI hs1.1 hB6 (by omega) g1 g2 hxi6) cv_X12_175 dX12_left_68 ?_
        refine m_eqi ((by rw [f1]; rfl : _ = (-1 : Int32))) ?_
        refine m_istore dX12_left_71 (Nat.le_of_ble_eq_true rfl) rfl ?_
        refine m_iload dX12_left_73 rfl ?_
        refine m_iconst (v := -1) dX12_left_75 (by decide) ?_
        refine m_icmp_ne 82 dX12_left_76 (by decide) (fun c76 => by exfalso; exact c76 rfl) (fun c76 => ?_)
        refine m_bipush (v := -4) dX12_left_79 (by decide) ?_
        exact m_iret (ty := .int) hR dX12_left_81 (⟨Or.inr ⟨g3, rfl, hs1⟩, g4.mono (by decide)⟩)
      · rw [f4] at g3
        refine m_iload dX12_left_34 rfl ?_
        refine m_aload_n dX12_left_36 rfl ?_
        refine m_get fl_X12_17 (by decide) rfl rfl dX12_left_37 ?_
        refine m_iload_n dX12_left_40 rfl ?_
        refine m_iald (by first | exact ⟨by decide, by decide, fun _ => rfl⟩ | exact isI_arr _ (by omega) | exact isI_mv _ (by omega) | exact isI_ne _ (by omega)) (by omega) dX12_left_41 ?_
        refine m_eqi ((by rw [h242]; exact hA : _ = nI xs.length)) ?_
        first | refine m_icmp_geN 96 dX12_left_42 (by decide) (by omega) (by omega) (fun c42 => by exfalso; omega) (fun c42 => ?_) | refine m_icmp_ge 96 dX12_left_42 (by decide) (fun c42 => by exfalso; omega) (fun c42 => ?_)
        refine m_aload_n dX12_left_45 rfl ?_
        refine m_aload_n dX12_left_46 rfl ?_
        refine m_get fl_X12_29 (by decide) rfl rfl dX12_left_47 ?_
        refine m_aload_n dX12_left_50 rfl ?_
        refine m_get fl_X12_17 (by decide) rfl rfl dX12_left_51 ?_
        refine m_iload_n dX12_left_54 rfl ?_
        refine m_iald (by first | exact ⟨by decide, by decide, fun _ => rfl⟩ | exact isI_arr _ (by omega) | exact isI_mv _ (by omega) | exact isI_ne _ (by omega)) (by omega) dX12_left_55 ?_
        refine m_eqi ((by rw [h242]; exact hB : _ = nI ys.length)) ?_
        refine m_aload_n dX12_left_56 rfl ?_
        refine m_get fl_X12_20 (by decide) rfl rfl dX12_left_57 ?_
        refine m_bipushN 24 dX12_left_60 (by decide) ?_
        refine m_iload_n dX12_left_62 rfl ?_
        first | refine m_imulN dX12_left_63 ?_ | refine m_imul dX12_left_63 ?_
        refine m_iload dX12_left_64 rfl ?_
        first | refine m_iaddN dX12_left_66 ?_ | refine m_iadd dX12_left_66 ?_
        refine m_iald (by first | exact ⟨by decide, by decide, fun _ => rfl⟩ | exact isI_arr _ (by omega) | exact isI_mv _ (by omega) | exact isI_ne _ (by omega)) (by omega) dX12_left_67 ?_
        refine m_eqi ((by rw [h243]; exact hAg i hin : _ = nI (xs.getD i 0))) ?_
        refine m_callVIp (s_X12_firstOf (lt := xs.getD i 0) hI hs1.1 hB6 (by omega) g1 g2 hxi6) cv_X12_175 dX12_left_68 ?_
        refine m_eqi ((by rw [f1]; rfl : _ = nI m)) ?_
        refine m_istore dX12_left_71 (Nat.le_of_ble_eq_true rfl) rfl ?_
        refine m_iload dX12_left_73 rfl ?_
        refine m_iconst (v := -1) dX12_left_75 (by decide) ?_
        refine m_icmp_ne 82 dX12_left_76 (by decide) (fun c76 => ?_) (fun c76 => by exfalso; exact nI_m1 (by omega) (Decidable.not_not.mp c76))
        refine m_aload_n dX12_left_82 rfl ?_
        refine m_get fl_X12_38 (by decide) rfl rfl dX12_left_83 ?_
        refine m_iload dX12_left_86 rfl ?_
        refine m_iconstN 1 dX12_left_88 (by decide) ?_
        refine m_zast hZ (by omega) (by decide +kernel) dX12_left_89 ?_
        first | refine m_iincN 1 dX12_left_90 (by decide) rfl rfl ?_ | refine m_iinc dX12_left_90 rfl rfl ?_
        refine m_goto 34 dX12_left_93 (by decide) ?_
        exact ih hin _ (setOff off1 m) _ (g1.fr (chg.rf.se (S := [249]) (by simp)) (by simp)) g2.set (by rw [f5]; exact g3) (g4.se (by simp))
    · have e6 : i = xs.length := by omega
      subst e6
      rw [List.drop_length] at g3
      have hlx : ∀ x ∈ live off1 ys 0, x < σ.1 := fun x hx => hBx x (live_mem ys 0 x hx)
      have hll := leastR_len (bw_ok hs.1.2.2 hlx)
      have hlv := live_len (off := off1) ys 0
      refine m_iload dX12_left_34 rfl ?_
      refine m_aload_n dX12_left_36 rfl ?_
      refine m_get fl_X12_17 (by decide) rfl rfl dX12_left_37 ?_
      refine m_iload_n dX12_left_40 rfl ?_
      refine m_iald (by first | exact ⟨by decide, by decide, fun _ => rfl⟩ | exact isI_arr _ (by omega) | exact isI_mv _ (by omega) | exact isI_ne _ (by omega)) (by omega) dX12_left_41 ?_
      refine m_eqi ((by rw [h242]; exact hA : _ = nI xs.length)) ?_
      first | refine m_icmp_geN 96 dX12_left_42 (by decide) (by omega) (by omega) (fun c42 => ?_) (fun c42 => by exfalso; omega) | refine m_icmp_ge 96 dX12_left_42 (by decide) (fun c42 => ?_) (fun c42 => by exfalso; omega)
      refine m_aload_n dX12_left_96 rfl ?_
      refine m_iload_n dX12_left_97 rfl ?_
      refine m_aload_n dX12_left_98 rfl ?_
      refine m_aload_n dX12_left_99 rfl ?_
      refine m_get fl_X12_29 (by decide) rfl rfl dX12_left_100 ?_
      refine m_aload_n dX12_left_103 rfl ?_
      refine m_get fl_X12_17 (by decide) rfl rfl dX12_left_104 ?_
      refine m_iload_n dX12_left_107 rfl ?_
      refine m_iald (by first | exact ⟨by decide, by decide, fun _ => rfl⟩ | exact isI_arr _ (by omega) | exact isI_mv _ (by omega) | exact isI_ne _ (by omega)) (by omega) dX12_left_108 ?_
      refine m_eqi ((by rw [h242]; exact hB : _ = nI ys.length)) ?_
      refine m_callVI (s_X12_makeLeast hI (by decide) hs1.1 hBx (by omega) g1 g2) cv_X12_182 dX12_left_109 (fun r109 d109 h109 => ?_)
      rw [h109.1, ← hll]
      refine m_callVI (s_X12_keep hn3 (hs1.fr h109.2.2 (by simp) (by simp) (by simp) (by simp)) (by rw [hll]; omega) (fun x hx => hlx x (leastR_mem hx)) h109.2.1) cv_X12_226 dX12_left_112 (fun r112 d112 h112 => ?_)
      exact m_iret (ty := .int) hR dX12_left_115 (⟨Or.inl ⟨live off1 ys 0, g3, by rw [h112.1, hll], h112.2.1⟩, ((g4.mono (by decide)).tr (h109.2.2.mono (by decide))).tr (h112.2.2.mono (by decide))⟩)
    )
  refine m_iload_n dX12_left_0 rfl ?_
  refine m_iload_n dX12_left_1 rfl ?_
  refine m_iload_n dX12_left_2 rfl ?_
  refine m_callSIp (s_X12_areThree hx hy hz) cs_X12_223 dX12_left_3 ?_
  refine m_if_ne 12 dX12_left_6 (by decide) (fun c6 => ?_) (fun c6 => by exfalso; exact c6 (by decide))
  refine m_aload_n dX12_left_12 rfl ?_
  refine m_iload_n dX12_left_13 rfl ?_
  refine m_aload_n dX12_left_14 rfl ?_
  refine m_get fl_X12_29 (by decide) rfl rfl dX12_left_15 ?_
  refine m_callVV (s_X12_take (o := 246) hI (by decide) hn2 hs) cv_X12_186 dX12_left_18 (fun d18 h18 => ?_)
  rw [hys] at h18
  refine m_aload_n dX12_left_21 rfl ?_
  refine m_aload_n dX12_left_22 rfl ?_
  refine m_get fl_X12_17 (by decide) rfl rfl dX12_left_23 ?_
  refine m_iload_n dX12_left_26 rfl ?_
  refine m_iald (by first | exact ⟨by decide, by decide, fun _ => rfl⟩ | exact isI_arr _ (by omega) | exact isI_mv _ (by omega) | exact isI_ne _ (by omega)) (by omega) dX12_left_27 ?_
  refine m_eqi ((by rw [(h18.2 242 (by simp)).1]; exact hB : _ = nI ys.length)) ?_
  refine m_callVV (s_X12_putAllOn (n := ys.length) (by omega)) cv_X12_179 dX12_left_28 (fun d28 h28 => ?_)
  refine m_iconstN 0 dX12_left_31 (by decide) ?_
  refine m_istore dX12_left_32 (Nat.le_of_ble_eq_true rfl) rfl ?_
  exact loop 0 (Nat.zero_le _) d28 (fun _ => false) _ (h18.1.fr h28.2 (by simp)) h28.1 (by rw [live_all ys 0 (fun _ _ _ => rfl)]; rfl) ((h18.2.mono (by simp)).tr (h28.2.mono (by simp)))
theorem s_X12_mirror (hx : hN x = some n) (hs : moSt d σ) : mSpecI l W mX12_mirror (dep + 2) [.ref (xad W 240), .int x] d (fun r d' => r = nI (σ.2.2 n).length ∧ moSt d' (setH σ n (σ.2.2 n).reverse) ∧ chg moPC d d') := by
  obtain ⟨hn, rfl⟩ := hN_some hx
  obtain ⟨hA, hAl, hAg, hAx⟩ := hs.2 n hn
  have hI : isI W 246 48 := ⟨by decide, by decide, fun _ => rfl⟩
  refine m_spec RX12 [some (.ref (xad W 240)), some (.int (nI n)), none] rfl (by decide +kernel) rfl rfl (fun K hR => ?_)
  generalize hxs : σ.2.2 n = xs at *
  have loop : ∀ i, i ≤ xs.length → ∀ d1, arrB d1 246 xs → (∀ q, q < i → d1.1 243 (24 * n + q) = nI (xs.reverse.getD q 0)) → (∀ j q, j ≠ n → q < 24 → d1.1 243 (24 * j + q) = d.1 243 (24 * j + q)) → chg [243, 246] d d1 → mG W K cX12_mirror RX12 (dep + 2) d1 21 [some (.ref (xad W 240)), some (.int (nI n)), some (.int (nI i))] [] := x_up _ (fun i hi ih d1 g1 g2 g3 g4 => by
    have h242 := (g4 242 (by simp)).1
    by_cases hin : i < xs.length
    · skip
      refine m_iload_n dX12_mirror_21 rfl ?_
      refine m_aload_n dX12_mirror_22 rfl ?_
      refine m_get fl_X12_17 (by decide) rfl rfl dX12_mirror_23 ?_
      refine m_iload_n dX12_mirror_26 rfl ?_
      refine m_iald (by first | exact ⟨by decide, by decide, fun _ => rfl⟩ | exact isI_arr _ (by omega) | exact isI_mv _ (by omega) | exact isI_ne _ (by omega)) (by omega) dX12_mirror_27 ?_
      refine m_eqi ((by rw [h242]; exact hA : _ = nI xs.length)) ?_
      first | refine m_icmp_geN 63 dX12_mirror_28 (by decide) (by omega) (by omega) (fun c28 => by exfalso; omega) (fun c28 => ?_) | refine m_icmp_ge 63 dX12_mirror_28 (by decide) (fun c28 => by exfalso; omega) (fun c28 => ?_)
      refine m_aload_n dX12_mirror_31 rfl ?_
      refine m_get fl_X12_20 (by decide) rfl rfl dX12_mirror_32 ?_
      refine m_bipushN 24 dX12_mirror_35 (by decide) ?_
      refine m_iload_n dX12_mirror_37 rfl ?_
      first | refine m_imulN dX12_mirror_38 ?_ | refine m_imul dX12_mirror_38 ?_
      refine m_iload_n dX12_mirror_39 rfl ?_
      first | refine m_iaddN dX12_mirror_40 ?_ | refine m_iadd dX12_mirror_40 ?_
      refine m_aload_n dX12_mirror_41 rfl ?_
      refine m_get fl_X12_29 (by decide) rfl rfl dX12_mirror_42 ?_
      refine m_aload_n dX12_mirror_45 rfl ?_
      refine m_get fl_X12_17 (by decide) rfl rfl dX12_mirror_46 ?_
      refine m_iload_n dX12_mirror_49 rfl ?_
      refine m_iald (by first | exact ⟨by decide, by decide, fun _ => rfl⟩ | exact isI_arr _ (by omega) | exact isI_mv _ (by omega) | exact isI_ne _ (by omega)) (by omega) dX12_mirror_50 ?_
      refine m_eqi ((by rw [h242]; exact hA : _ = nI xs.length)) ?_
      refine m_iconstN 1 dX12_mirror_51 (by decide) ?_
      first | refine m_isubN dX12_mirror_52 (by omega) ?_ | refine m_isub dX12_mirror_52 ?_
      refine m_iload_n dX12_mirror_53 rfl ?_
      first | refine m_isubN dX12_mirror_54 (by omega) ?_ | refine m_isub dX12_mirror_54 ?_
      refine m_iald (by first | exact ⟨by decide, by decide, fun _ => rfl⟩ | exact isI_arr _ (by omega) | exact isI_mv _ (by omega) | exact isI_ne _ (by omega)) (by omega) dX12_mirror_55 ?_
      refine m_eqi (g1 (xs.length - 1 - i) (by omega)) ?_
      refine m_iast (by first | exact ⟨by decide, by decide, fun _ => rfl⟩ | exact isI_arr _ (by omega) | exact isI_mv _ (by omega) | exact isI_ne _ (by omega)) (by omega) dX12_mirror_56 ?_
      first | refine m_iincN 1 dX12_mirror_57 (by decide) rfl rfl ?_ | refine m_iinc dX12_mirror_57 rfl rfl ?_
      refine m_goto 21 dX12_mirror_60 (by decide) ?_
      refine ih hin _ (g1.fr (chg.rf.se (S := [243]) (by simp)) (by simp)) (fun q hq => ?_) (fun j q hj hq => se_e2 (g3 j q hj hq) (by omega)) (g4.se (by simp))
      by_cases e : q = i
      · subst e
        rw [se_s, getD_at (by omega), getD_at (by rw [List.length_reverse]; omega), List.getElem_reverse]
      · exact se_e2 (g2 q (by omega)) (by omega)
    · have e6 : i = xs.length := by omega
      subst e6
      refine m_iload_n dX12_mirror_21 rfl ?_
      refine m_aload_n dX12_mirror_22 rfl ?_
      refine m_get fl_X12_17 (by decide) rfl rfl dX12_mirror_23 ?_
      refine m_iload_n dX12_mirror_26 rfl ?_
      refine m_iald (by first | exact ⟨by decide, by decide, fun _ => rfl⟩ | exact isI_arr _ (by omega) | exact isI_mv _ (by omega) | exact isI_ne _ (by omega)) (by omega) dX12_mirror_27 ?_
      refine m_eqi ((by rw [h242]; exact hA : _ = nI xs.length)) ?_
      first | refine m_icmp_geN 63 dX12_mirror_28 (by decide) (by omega) (by omega) (fun c28 => ?_) (fun c28 => by exfalso; omega) | refine m_icmp_ge 63 dX12_mirror_28 (by decide) (fun c28 => ?_) (fun c28 => by exfalso; omega)
      refine m_aload_n dX12_mirror_63 rfl ?_
      refine m_get fl_X12_17 (by decide) rfl rfl dX12_mirror_64 ?_
      refine m_iload_n dX12_mirror_67 rfl ?_
      refine m_iald (by first | exact ⟨by decide, by decide, fun _ => rfl⟩ | exact isI_arr _ (by omega) | exact isI_mv _ (by omega) | exact isI_ne _ (by omega)) (by omega) dX12_mirror_68 ?_
      refine m_eqi ((by rw [h242]; exact hA : _ = nI xs.length)) ?_
      exact m_iret (ty := .int) hR dX12_mirror_69 (⟨rfl, ⟨hs.1.fr g4 (by simp) (by simp), hs.2.put (xs := xs.reverse) hn (by rw [List.length_reverse]; exact hAl) (fun x hx => hAx x (List.mem_reverse.mp hx)) (by rw [h242, List.length_reverse]; exact hA) (fun j _ => by rw [h242]) (fun i hi => g2 i (by rw [List.length_reverse] at hi; exact hi)) g3⟩, g4.mono (by decide)⟩)
    )
  refine m_iload_n dX12_mirror_0 rfl ?_
  refine m_callSIp (s_X12_isHeap hx) cs_X12_172 dX12_mirror_1 ?_
  refine m_if_ne 10 dX12_mirror_4 (by decide) (fun c4 => ?_) (fun c4 => by exfalso; exact c4 (by decide))
  refine m_aload_n dX12_mirror_10 rfl ?_
  refine m_iload_n dX12_mirror_11 rfl ?_
  refine m_aload_n dX12_mirror_12 rfl ?_
  refine m_get fl_X12_29 (by decide) rfl rfl dX12_mirror_13 ?_
  refine m_callVV (s_X12_take (o := 246) hI (by decide) hn hs) cv_X12_186 dX12_mirror_16 (fun d16 h16 => ?_)
  rw [hxs] at h16
  refine m_iconstN 0 dX12_mirror_19 (by decide) ?_
  refine m_istore_n dX12_mirror_20 (Nat.le_of_ble_eq_true rfl) rfl ?_
  exact loop 0 (Nat.zero_le _) d16 h16.1 (fun q hq => absurd hq (Nat.not_lt_zero q)) (fun j q _ _ => by rw [(h16.2 243 (by simp)).1]) (h16.2.mono (by simp))
end MOD
