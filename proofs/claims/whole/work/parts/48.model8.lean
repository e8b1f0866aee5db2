/-! the law's model: what two share, both -/
theorem fo_all {k l : Nat} {fb : Nat → Nat} {off : Nat → Bool} (ho : ∀ i, off i = false) (h : fbOk k fb) (hl : l < 6) : ∀ (xs : List Nat) (i : Nat), (∀ x ∈ xs, x < k) → fo fb l off xs i = (front (bw k fb) xs l).map (· + i)
  | [], _, _ => rfl
  | x :: xs, i, hx => by
    have ih := fo_all ho h hl xs (i + 1) (fun y hy => hx y (List.mem_cons_of_mem _ hy))
    have hB := bw_not (l := l) h hl (hx x List.mem_cons_self)
    rw [fo_s, if_neg (by rw [ho]; decide)]
    unfold front
    by_cases e : x = l
    · subst e
      rw [if_pos rfl, if_pos (by rw [hB, h.2.2.2.2 x hl]; rfl), if_pos rfl]
      simp
    · rw [if_neg e]
      by_cases ht : (fb x).testBit l = true
      · rw [if_pos ht, if_neg (by rw [hB, ht]; decide), ih]
        cases front (bw k fb) xs l with
        | none => rfl
        | some j => simp; omega
      · rw [if_neg ht, if_pos (by rw [hB]; simpa using ht), if_neg e]; rfl
theorem fo_all0 {k l : Nat} {fb : Nat → Nat} {xs : List Nat} (h : fbOk k fb) (hl : l < 6) (hx : ∀ x ∈ xs, x < k) : fo fb l (fun _ => false) xs 0 = front (bw k fb) xs l := by
  rw [fo_all (fun _ => rfl) h hl xs 0 hx]
  cases front (bw k fb) xs l <;> rfl
theorem cfront_none {B : Nat → Nat} {k : Nat} {xs ys : List Nat} (h : ∀ q, q < k → ¬ ((front B xs q).isSome = true ∧ (front B ys q).isSome = true)) : cfront B k xs ys = none := by
  unfold cfront
  rw [List.find?_eq_none]
  intro q hq z
  rw [Bool.and_eq_true] at z
  exact h q (List.mem_range.mp hq) z
theorem splitF_st {B : Nat → Nat} {k p n : Nat} {cs xs ys : List Nat} (h : cfront B k xs ys = some p) : splitF B k (n + 1) cs xs ys = splitF B k n (cs ++ [p]) (tk B xs p) (tk B ys p) := by
  conv => lhs; unfold splitF
  rw [h]
theorem splitF_end {B : Nat → Nat} {k n : Nat} {cs xs ys : List Nat} (h : cfront B k xs ys = none) : splitF B k n cs xs ys = (cs, xs, ys) := by
  cases n with
  | zero => rfl
  | succ n => unfold splitF; rw [h]
theorem offIs.le {d : xD} {n m : Nat} {off : Nat → Bool} (h : offIs d n off) (hm : m ≤ n) : offIs d m off := fun i hi => h i (by omega)
section MOD
variable {l : Launch} {W : xW} {dep : Nat} {d : xD} {bs : List Nat} {σ : St} {x y z w : Int32} {n n2 n3 k : Nat} {fb : Nat → Nat}
theorem s_X12_share {cs0 us0 vs0 : List Nat} (hsp : splitF (bw σ.1 σ.2.1) σ.1 24 [] (σ.2.2 n) (σ.2.2 n2) = (cs0, us0, vs0)) (hn : n < 4) (hn2 : n2 < 4) (hs : moSt d σ) : mSpecI l W mX12_share (dep + 2) [.ref (xad W 240), .int (nI n), .int (nI n2)] d (fun r d' => r = nI cs0.length ∧ arrB d' 246 us0 ∧ arrB d' 247 vs0 ∧ (∀ q, q < cs0.length → d'.1 246 (24 + q) = nI (cs0.getD q 0)) ∧ chg [246, 247, 249] d d') := by
  obtain ⟨hA, hAl, hAg, hAx⟩ := hs.2 n hn
  obtain ⟨hB, hBl, hBg, hBx⟩ := hs.2 n2 hn2
  have hk := hs.1.2.2.2.1
  have hI : isI W 246 48 := ⟨by decide, by decide, fun _ => rfl⟩
  have hI2 : isI W 247 48 := ⟨by decide, by decide, fun _ => rfl⟩
  refine m_spec RX12 [some (.ref (xad W 240)), some (.int (nI n)), some (.int (nI n2)), none, none, none, none, none, none, none, none] rfl (by decide +kernel) rfl rfl (fun K hR => ?_)
  generalize hxs : σ.2.2 n = xs at *
  generalize hys : σ.2.2 n2 = ys at *
  have outer : ∀ N, ∀ cs us vs d1 o7 o8 o9 o10, us.length = N → us.length + cs.length ≤ 24 → vs.length + cs.length ≤ 24 → (∀ x ∈ us, x < σ.1) → (∀ x ∈ vs, x < σ.1) → splitF (bw σ.1 σ.2.1) σ.1 (24 - cs.length) cs us vs = (cs0, us0, vs0) → arrB d1 246 us → arrB d1 247 vs → (∀ q, q < cs.length → d1.1 246 (24 + q) = nI (cs.getD q 0)) → chg [246, 247, 249] d d1 → mG W K cX12_share RX12 (dep + 2) d1 39 [some (.ref (xad W 240)), some (.int (nI n)), some (.int (nI n2)), some (.int (nI us.length)), some (.int (nI vs.length)), some (.int (nI cs.length)), some (.int (nI 1)), o7, o8, o9, o10] [] := by
    intro N
    induction N using Nat.strongRecOn with
    | _ N ihN =>
    intro cs us vs d1 o7 o8 o9 o10 hN hul hvl hux hvx heq h1 h2 h3 h4
    have hl1 := hs.1.fr h4 (by simp) (by simp)
    have hu6 : ∀ x ∈ us, x < 6 := fun x h => by have := hux x h; omega
    have hv6 : ∀ x ∈ vs, x < 6 := fun x h => by have := hvx x h; omega
    have inner : ∀ t, t ≤ 6 → ∀ d2 o8 o9 o10, chg [249] d1 d2 → (∀ q, q < t → ¬ ((front (bw σ.1 σ.2.1) us q).isSome = true ∧ (front (bw σ.1 σ.2.1) vs q).isSome = true)) → mG W K cX12_share RX12 (dep + 2) d2 50 [some (.ref (xad W 240)), some (.int (nI n)), some (.int (nI n2)), some (.int (nI us.length)), some (.int (nI vs.length)), some (.int (nI cs.length)), some (.int (nI 0)), some (.int (nI t)), o8, o9, o10] [] := x_up _ (fun t ht ih d2 o8 o9 o10 g1 g2 => by
      have hl2 := hl1.fr g1 (by simp) (by simp)
      by_cases ht6 : t < 6
      · have e1 := fo_all0 hs.1.2.2 ht6 hux
        have e2 := fo_all0 hs.1.2.2 ht6 hvx
        by_cases hboth : (front (bw σ.1 σ.2.1) us t).isSome = true ∧ (front (bw σ.1 σ.2.1) vs t).isSome = true
        · obtain ⟨i, hi⟩ := Option.isSome_iff_exists.mp hboth.1
          obtain ⟨j, hj⟩ := Option.isSome_iff_exists.mp hboth.2
          have hil := front_lt hi
          have hjl := front_lt hj
          have htk : t < σ.1 := Nat.not_le.mp (fun z => by rw [front_big hs.1.2.2 z ht6 hux] at hi; cases hi)
          have hcf : cfront (bw σ.1 σ.2.1) σ.1 us vs = some t := find_range _ _ htk (by rw [hi, hj]; rfl) (fun q hq => by have := g2 q hq; cases hf1 : (front (bw σ.1 σ.2.1) us q).isSome <;> cases hf2 : (front (bw σ.1 σ.2.1) vs q).isSome <;> simp_all)
          have eu : tk (bw σ.1 σ.2.1) us t = us.eraseIdx i := by unfold tk; rw [hi]
          have ev : tk (bw σ.1 σ.2.1) vs t = vs.eraseIdx j := by unfold tk; rw [hj]
          rw [show 24 - cs.length = (24 - (cs.length + 1)) + 1 by omega, splitF_st hcf, eu, ev] at heq
          have hul2 := List.length_eraseIdx_of_lt hil
          have hvl2 := List.length_eraseIdx_of_lt hjl
          have hnew : ∀ d4 o7 o8 o9 o10, arrB d4 246 (us.eraseIdx i) → arrB d4 247 (vs.eraseIdx j) → (∀ q, q < cs.length → d4.1 246 (24 + q) = nI (cs.getD q 0)) → d4.1 246 (24 + cs.length) = nI t → chg [246, 247, 249] d1 d4 → mG W K cX12_share RX12 (dep + 2) d4 39 [some (.ref (xad W 240)), some (.int (nI n)), some (.int (nI n2)), some (.int (nI (us.length - 1))), some (.int (nI (vs.length - 1))), some (.int (nI (cs.length + 1))), some (.int (nI 1)), o7, o8, o9, o10] [] := fun d4 o7 o8 o9 o10 k1 k2 k3 k4 k5 => by
            have := ihN (us.length - 1) (by omega) (cs ++ [t]) (us.eraseIdx i) (vs.eraseIdx j) d4 o7 o8 o9 o10 hul2 (by rw [hul2, List.length_append, List.length_singleton]; omega) (by rw [hvl2, List.length_append, List.length_singleton]; omega) (fun x hx => hux x (List.mem_of_mem_eraseIdx hx)) (fun x hx => hvx x (List.mem_of_mem_eraseIdx hx)) (by rw [List.length_append, List.length_singleton]; exact heq) k1 k2 (fun q hq => by
              rw [List.length_append, List.length_singleton] at hq
              by_cases e : q = cs.length
              · subst e
                rw [k4, List.getD_eq_getElem?_getD, List.getElem?_append_right (Nat.le_refl _), Nat.sub_self]; rfl
              · rw [k3 q (by omega), List.getD_eq_getElem?_getD, List.getD_eq_getElem?_getD, List.getElem?_append_left (by omega)]) (h4.tr k5)
            rw [hul2, hvl2, List.length_append, List.length_singleton] at this
            exact this
          have tail : ∀ d4 o8 o9 o10, arrB d4 246 (us.eraseIdx i) → arrB d4 247 (vs.eraseIdx j) → (∀ q, q < cs.length → d4.1 246 (24 + q) = nI (cs.getD q 0)) → chg [246, 247, 249] d1 d4 → mG W K cX12_share RX12 (dep + 2) d4 179 [some (.ref (xad W 240)), some (.int (nI n)), some (.int (nI n2)), some (.int (nI us.length)), some (.int (nI vs.length)), some (.int (nI cs.length)), some (.int (nI 1)), some (.int (nI t)), o8, o9, o10] [] := fun d4 o8 o9 o10 k1 k2 k3 k4 => by
            have k6 : ∀ q, q < cs.length + 1 → (seI d4 246 (24 + cs.length) (nI t)).1 246 (24 + q) = nI ((cs ++ [t]).getD q 0) := fun q hq => by
              by_cases e : q = cs.length
              · subst e
                rw [se_s, List.getD_eq_getElem?_getD, List.getElem?_append_right (Nat.le_refl _), Nat.sub_self]; rfl
              · rw [se_n _ _ (by omega), k3 q (by omega), List.getD_eq_getElem?_getD, List.getD_eq_getElem?_getD, List.getElem?_append_left (by omega)]
            have k7 : arrB (seI d4 246 (24 + cs.length) (nI t)) 246 (us.eraseIdx i) := fun q hq => se_e2 (k1 q hq) (by omega)
            have hn1 := hnew (seI d4 246 (24 + cs.length) (nI t))
            obtain ⟨L, hL⟩ : ∃ L, us.length = L + 1 := ⟨us.length - 1, by omega⟩
            obtain ⟨M, hM⟩ : ∃ M, vs.length = M + 1 := ⟨vs.length - 1, by omega⟩
            rw [hL, hM] at hn1 ⊢
            first | refine m_iincM dX12_share_179 (by decide) rfl rfl ?_ | refine m_iinc dX12_share_179 rfl rfl ?_
            first | refine m_iincM dX12_share_182 (by decide) rfl rfl ?_ | refine m_iinc dX12_share_182 rfl rfl ?_
            refine m_aload_n dX12_share_185 rfl ?_
            refine m_get fl_X12_29 (by decide) rfl rfl dX12_share_186 ?_
            refine m_bipushN 24 dX12_share_189 (by decide) ?_
            refine m_iload dX12_share_191 rfl ?_
            first | refine m_iaddN dX12_share_193 ?_ | refine m_iadd dX12_share_193 ?_
            refine m_iload dX12_share_194 rfl ?_
            refine m_iast (by first | exact ⟨by decide, by decide, fun _ => rfl⟩ | exact isI_arr _ (by omega) | exact isI_mv _ (by omega) | exact isI_ne _ (by omega)) (by omega) dX12_share_196 ?_
            first | refine m_iincN 1 dX12_share_197 (by decide) rfl rfl ?_ | refine m_iinc dX12_share_197 rfl rfl ?_
            first | refine m_iincN 1 dX12_share_200 (by decide) rfl rfl ?_ | refine m_iinc dX12_share_200 rfl rfl ?_
            refine m_goto 50 dX12_share_203 (by decide) ?_
            refine m_iload dX12_share_50 rfl ?_
            refine m_bipushN 6 dX12_share_52 (by decide) ?_
            first | refine m_icmp_geN 206 dX12_share_54 (by decide) (by omega) (by omega) (fun c54 => ?_) (fun c54 => ?_) | refine m_icmp_ge 206 dX12_share_54 (by decide) (fun c54 => ?_) (fun c54 => ?_)
            · refine m_goto 39 dX12_share_206 (by decide) ?_
              exact hn1 _ _ _ _ k7 (k2.fr (chg.rf.se (S := [246]) (by simp)) (by simp)) (fun q hq => by rw [se_n _ _ (by omega)]; exact k3 q hq) (se_s _ _ _ _) (k4.se (by simp))
            · refine m_iload dX12_share_57 rfl ?_
              first | refine m_if_neN 206 dX12_share_59 (by decide) (by omega) (fun c59 => ?_) (fun c59 => by exfalso; exact c59 (by decide)) | refine m_if_ne 206 dX12_share_59 (by decide) (fun c59 => ?_) (fun c59 => by exfalso; exact c59 (by decide))
              refine m_goto 39 dX12_share_206 (by decide) ?_
              exact hn1 _ _ _ _ k7 (k2.fr (chg.rf.se (S := [246]) (by simp)) (by simp)) (fun q hq => by rw [se_n _ _ (by omega)]; exact k3 q hq) (se_s _ _ _ _) (k4.se (by simp))
          have shiftB : ∀ (A0 : xD) o8, arrB A0 247 vs → ∀ q, q ≤ vs.length - 1 → j ≤ q → ∀ d4, (∀ r, j ≤ r → r < q → d4.1 247 r = A0.1 247 (r + 1)) → (∀ r, (r < j ∨ q ≤ r) → d4.1 247 r = A0.1 247 r) → chg [247] A0 d4 → (∀ d4', chg [247] A0 d4' → arrB d4' 247 (vs.eraseIdx j) → ∀ o10, mG W K cX12_share RX12 (dep + 2) d4' 179 [some (.ref (xad W 240)), some (.int (nI n)), some (.int (nI n2)), some (.int (nI us.length)), some (.int (nI vs.length)), some (.int (nI cs.length)), some (.int (nI 1)), some (.int (nI t)), o8, some (.int (nI j)), o10] []) → mG W K cX12_share RX12 (dep + 2) d4 148 [some (.ref (xad W 240)), some (.int (nI n)), some (.int (nI n2)), some (.int (nI us.length)), some (.int (nI vs.length)), some (.int (nI cs.length)), some (.int (nI 1)), some (.int (nI t)), o8, some (.int (nI j)), some (.int (nI q))] [] := fun A0 o8 hA0 => x_up _ (fun q hq ihq hjq d4 k1 k2 k3 kk => by
            by_cases hqe : q < vs.length - 1
            · skip
              refine m_iload dX12_share_148 rfl ?_
              refine m_iconstN 1 dX12_share_150 (by decide) ?_
              first | refine m_iaddN dX12_share_151 ?_ | refine m_iadd dX12_share_151 ?_
              refine m_iload dX12_share_152 rfl ?_
              first | refine m_icmp_geN 179 dX12_share_154 (by decide) (by omega) (by omega) (fun c154 => by exfalso; omega) (fun c154 => ?_) | refine m_icmp_ge 179 dX12_share_154 (by decide) (fun c154 => by exfalso; omega) (fun c154 => ?_)
              refine m_aload_n dX12_share_157 rfl ?_
              refine m_get fl_X12_32 (by decide) rfl rfl dX12_share_158 ?_
              refine m_iload dX12_share_161 rfl ?_
              refine m_aload_n dX12_share_163 rfl ?_
              refine m_get fl_X12_32 (by decide) rfl rfl dX12_share_164 ?_
              refine m_iload dX12_share_167 rfl ?_
              refine m_iconstN 1 dX12_share_169 (by decide) ?_
              first | refine m_iaddN dX12_share_170 ?_ | refine m_iadd dX12_share_170 ?_
              refine m_iald (by first | exact ⟨by decide, by decide, fun _ => rfl⟩ | exact isI_arr _ (by omega) | exact isI_mv _ (by omega) | exact isI_ne _ (by omega)) (by omega) dX12_share_171 ?_
              refine m_iast (by first | exact ⟨by decide, by decide, fun _ => rfl⟩ | exact isI_arr _ (by omega) | exact isI_mv _ (by omega) | exact isI_ne _ (by omega)) (by omega) dX12_share_172 ?_
              first | refine m_iincN 1 dX12_share_173 (by decide) rfl rfl ?_ | refine m_iinc dX12_share_173 rfl rfl ?_
              refine m_goto 148 dX12_share_176 (by decide) ?_
              refine ihq hqe (by omega) _ (fun r hr hr2 => ?_) (fun r hr => ?_) (k3.se (by simp)) kk
              · by_cases e : r = q
                · subst e; rw [se_s]; exact k2 (r + 1) (by omega)
                · rw [se_n _ _ e]; exact k1 r hr (by omega)
              · rw [se_n _ _ (by omega)]; exact k2 r (by omega)
            · have e6 : q = vs.length - 1 := by omega
              refine m_iload dX12_share_148 rfl ?_
              refine m_iconstN 1 dX12_share_150 (by decide) ?_
              first | refine m_iaddN dX12_share_151 ?_ | refine m_iadd dX12_share_151 ?_
              refine m_iload dX12_share_152 rfl ?_
              first | refine m_icmp_geN 179 dX12_share_154 (by decide) (by omega) (by omega) (fun c154 => ?_) (fun c154 => by exfalso; omega) | refine m_icmp_ge 179 dX12_share_154 (by decide) (fun c154 => ?_) (fun c154 => by exfalso; omega)
              exact kk d4 k3 (hA0.erase (fun r h1 h2 => k2 r (Or.inl h1)) (fun r h1 h2 => k1 r h1 (by omega)) hjl) _
            )
          have shiftA : ∀ (A0 : xD), arrB A0 246 us → arrB A0 247 vs → (∀ q, q < cs.length → A0.1 246 (24 + q) = nI (cs.getD q 0)) → chg [249] d1 A0 → ∀ q, q ≤ us.length - 1 → i ≤ q → ∀ d4, (∀ r, i ≤ r → r < q → d4.1 246 r = A0.1 246 (r + 1)) → (∀ r, (r < i ∨ q ≤ r) → d4.1 246 r = A0.1 246 r) → chg [246] A0 d4 → mG W K cX12_share RX12 (dep + 2) d4 114 [some (.ref (xad W 240)), some (.int (nI n)), some (.int (nI n2)), some (.int (nI us.length)), some (.int (nI vs.length)), some (.int (nI cs.length)), some (.int (nI 1)), some (.int (nI t)), some (.int (nI i)), some (.int (nI j)), some (.int (nI q))] [] := fun A0 hA0 hB0 hC0 hD0 => x_up _ (fun q hq ihq hiq d4 k1 k2 k3 => by
            by_cases hqe : q < us.length - 1
            · skip
              refine m_iload dX12_share_114 rfl ?_
              refine m_iconstN 1 dX12_share_116 (by decide) ?_
              first | refine m_iaddN dX12_share_117 ?_ | refine m_iadd dX12_share_117 ?_
              refine m_iload_n dX12_share_118 rfl ?_
              first | refine m_icmp_geN 144 dX12_share_119 (by decide) (by omega) (by omega) (fun c119 => by exfalso; omega) (fun c119 => ?_) | refine m_icmp_ge 144 dX12_share_119 (by decide) (fun c119 => by exfalso; omega) (fun c119 => ?_)
              refine m_aload_n dX12_share_122 rfl ?_
              refine m_get fl_X12_29 (by decide) rfl rfl dX12_share_123 ?_
              refine m_iload dX12_share_126 rfl ?_
              refine m_aload_n dX12_share_128 rfl ?_
              refine m_get fl_X12_29 (by decide) rfl rfl dX12_share_129 ?_
              refine m_iload dX12_share_132 rfl ?_
              refine m_iconstN 1 dX12_share_134 (by decide) ?_
              first | refine m_iaddN dX12_share_135 ?_ | refine m_iadd dX12_share_135 ?_
              refine m_iald (by first | exact ⟨by decide, by decide, fun _ => rfl⟩ | exact isI_arr _ (by omega) | exact isI_mv _ (by omega) | exact isI_ne _ (by omega)) (by omega) dX12_share_136 ?_
              refine m_iast (by first | exact ⟨by decide, by decide, fun _ => rfl⟩ | exact isI_arr _ (by omega) | exact isI_mv _ (by omega) | exact isI_ne _ (by omega)) (by omega) dX12_share_137 ?_
              first | refine m_iincN 1 dX12_share_138 (by decide) rfl rfl ?_ | refine m_iinc dX12_share_138 rfl rfl ?_
              refine m_goto 114 dX12_share_141 (by decide) ?_
              refine ihq hqe (by omega) _ (fun r hr hr2 => ?_) (fun r hr => ?_) (k3.se (by simp))
              · by_cases e : r = q
                · subst e; rw [se_s]; exact k2 (r + 1) (by omega)
                · rw [se_n _ _ e]; exact k1 r hr (by omega)
              · rw [se_n _ _ (by omega)]; exact k2 r (by omega)
            · have e6 : q = us.length - 1 := by omega
              have hu4 : arrB d4 246 (us.eraseIdx i) := hA0.erase (fun r h1 h2 => k2 r (Or.inl h1)) (fun r h1 h2 => k1 r h1 (by omega)) hil
              have hc4 : ∀ q, q < cs.length → d4.1 246 (24 + q) = nI (cs.getD q 0) := fun q hq => by rw [k2 (24 + q) (by omega)]; exact hC0 q hq
              refine m_iload dX12_share_114 rfl ?_
              refine m_iconstN 1 dX12_share_116 (by decide) ?_
              first | refine m_iaddN dX12_share_117 ?_ | refine m_iadd dX12_share_117 ?_
              refine m_iload_n dX12_share_118 rfl ?_
              first | refine m_icmp_geN 144 dX12_share_119 (by decide) (by omega) (by omega) (fun c119 => ?_) (fun c119 => by exfalso; omega) | refine m_icmp_ge 144 dX12_share_119 (by decide) (fun c119 => ?_) (fun c119 => by exfalso; omega)
              refine m_iload dX12_share_144 rfl ?_
              refine m_istore dX12_share_146 (Nat.le_of_ble_eq_true rfl) rfl ?_
              refine shiftB d4 _ (hB0.fr k3 (by simp)) j (by omega) (Nat.le_refl _) d4 (fun r h1 h2 => by omega) (fun r _ => rfl) chg.rf (fun d5 m1 m2 o10 => ?_)
              exact tail d5 _ _ _ (hu4.fr m1 (by simp)) m2 (fun q hq => by rw [(m1 246 (by simp)).1]; exact hc4 q hq) (((hD0.mono (by simp)).tr (k3.mono (by simp))).tr (m1.mono (by simp)))
            )
          refine m_iload dX12_share_50 rfl ?_
          refine m_bipushN 6 dX12_share_52 (by decide) ?_
          first | refine m_icmp_geN 206 dX12_share_54 (by decide) (by omega) (by omega) (fun c54 => by exfalso; omega) (fun c54 => ?_) | refine m_icmp_ge 206 dX12_share_54 (by decide) (fun c54 => by exfalso; omega) (fun c54 => ?_)
          refine m_iload dX12_share_57 rfl ?_
          first | refine m_if_neN 206 dX12_share_59 (by decide) (by omega) (fun c59 => by exfalso; exact absurd rfl c59) (fun c59 => ?_) | refine m_if_ne 206 dX12_share_59 (by decide) (fun c59 => by exfalso; exact absurd rfl c59) (fun c59 => ?_)
          refine m_aload_n dX12_share_62 rfl ?_
          refine m_bipushN 24 dX12_share_63 (by decide) ?_
          refine m_callVV (s_X12_putAllOn (n := 24) (by decide)) cv_X12_179 dX12_share_65 (fun d65 h65 => ?_)
          refine m_aload_n dX12_share_68 rfl ?_
          refine m_aload_n dX12_share_69 rfl ?_
          refine m_get fl_X12_29 (by decide) rfl rfl dX12_share_70 ?_
          refine m_iload_n dX12_share_73 rfl ?_
          refine m_iload dX12_share_74 rfl ?_
          refine m_callVIp (s_X12_firstOf hI (hl2.fr h65.2 (by simp) (by simp)) hu6 (by omega) ((h1.fr g1 (by simp)).fr h65.2 (by simp)) (h65.1.le (by omega)) ht6) cv_X12_175 dX12_share_76 ?_
          refine m_eqi ((by rw [e1, hi]; rfl : _ = nI i)) ?_
          refine m_istore dX12_share_79 (Nat.le_of_ble_eq_true rfl) rfl ?_
          refine m_aload_n dX12_share_81 rfl ?_
          refine m_aload_n dX12_share_82 rfl ?_
          refine m_get fl_X12_32 (by decide) rfl rfl dX12_share_83 ?_
          refine m_iload dX12_share_86 rfl ?_
          refine m_iload dX12_share_88 rfl ?_
          refine m_callVIp (s_X12_firstOf hI2 (hl2.fr h65.2 (by simp) (by simp)) hv6 (by omega) ((h2.fr g1 (by simp)).fr h65.2 (by simp)) (h65.1.le (by omega)) ht6) cv_X12_175 dX12_share_90 ?_
          refine m_eqi ((by rw [e2, hj]; rfl : _ = nI j)) ?_
          refine m_istore dX12_share_93 (Nat.le_of_ble_eq_true rfl) rfl ?_
          refine m_iload dX12_share_95 rfl ?_
          refine m_iconst (v := -1) dX12_share_97 (by decide) ?_
          refine m_icmp_eq 200 dX12_share_98 (by decide) (fun c98 => by exfalso; exact nI_m1 (by omega) c98) (fun c98 => ?_)
          refine m_iload dX12_share_101 rfl ?_
          refine m_iconst (v := -1) dX12_share_103 (by decide) ?_
          refine m_icmp_eq 200 dX12_share_104 (by decide) (fun c104 => by exfalso; exact nI_m1 (by omega) c104) (fun c104 => ?_)
          refine m_iconstN 1 dX12_share_107 (by decide) ?_
          refine m_istore dX12_share_108 (Nat.le_of_ble_eq_true rfl) rfl ?_
          refine m_iload dX12_share_110 rfl ?_
          refine m_istore dX12_share_112 (Nat.le_of_ble_eq_true rfl) rfl ?_
          exact shiftA d65 ((h1.fr g1 (by simp)).fr h65.2 (by simp)) ((h2.fr g1 (by simp)).fr h65.2 (by simp)) (fun q hq => by rw [(h65.2 246 (by simp)).1, (g1 246 (by simp)).1]; exact h3 q hq) (g1.tr h65.2) i (by omega) (Nat.le_refl _) d65 (fun r h1 h2 => by omega) (fun r _ => rfl) chg.rf
        · have g2' : ∀ q, q < t + 1 → ¬ ((front (bw σ.1 σ.2.1) us q).isSome = true ∧ (front (bw σ.1 σ.2.1) vs q).isSome = true) := fun q hq => by
            by_cases e : q = t
            · subst e; exact hboth
            · exact g2 q (by omega)
          cases hi : front (bw σ.1 σ.2.1) us t with
          | none =>
            refine m_iload dX12_share_50 rfl ?_
            refine m_bipushN 6 dX12_share_52 (by decide) ?_
            first | refine m_icmp_geN 206 dX12_share_54 (by decide) (by omega) (by omega) (fun c54 => by exfalso; omega) (fun c54 => ?_) | refine m_icmp_ge 206 dX12_share_54 (by decide) (fun c54 => by exfalso; omega) (fun c54 => ?_)
            refine m_iload dX12_share_57 rfl ?_
            first | refine m_if_neN 206 dX12_share_59 (by decide) (by omega) (fun c59 => by exfalso; exact absurd rfl c59) (fun c59 => ?_) | refine m_if_ne 206 dX12_share_59 (by decide) (fun c59 => by exfalso; exact absurd rfl c59) (fun c59 => ?_)
            refine m_aload_n dX12_share_62 rfl ?_
            refine m_bipushN 24 dX12_share_63 (by decide) ?_
            refine m_callVV (s_X12_putAllOn (n := 24) (by decide)) cv_X12_179 dX12_share_65 (fun d65 h65 => ?_)
            refine m_aload_n dX12_share_68 rfl ?_
            refine m_aload_n dX12_share_69 rfl ?_
            refine m_get fl_X12_29 (by decide) rfl rfl dX12_share_70 ?_
            refine m_iload_n dX12_share_73 rfl ?_
            refine m_iload dX12_share_74 rfl ?_
            refine m_callVIp (s_X12_firstOf hI (hl2.fr h65.2 (by simp) (by simp)) hu6 (by omega) ((h1.fr g1 (by simp)).fr h65.2 (by simp)) (h65.1.le (by omega)) ht6) cv_X12_175 dX12_share_76 ?_
            refine m_eqi ((by rw [e1, hi]; rfl : _ = (-1 : Int32))) ?_
            refine m_istore dX12_share_79 (Nat.le_of_ble_eq_true rfl) rfl ?_
            refine m_aload_n dX12_share_81 rfl ?_
            refine m_aload_n dX12_share_82 rfl ?_
            refine m_get fl_X12_32 (by decide) rfl rfl dX12_share_83 ?_
            refine m_iload dX12_share_86 rfl ?_
            refine m_iload dX12_share_88 rfl ?_
            refine m_callVIp (s_X12_firstOf hI2 (hl2.fr h65.2 (by simp) (by simp)) hv6 (by omega) ((h2.fr g1 (by simp)).fr h65.2 (by simp)) (h65.1.le (by omega)) ht6) cv_X12_175 dX12_share_90 ?_
            refine m_istore dX12_share_93 (Nat.le_of_ble_eq_true rfl) rfl ?_
            refine m_iload dX12_share_95 rfl ?_
            refine m_iconst (v := -1) dX12_share_97 (by decide) ?_
            refine m_icmp_eq 200 dX12_share_98 (by decide) (fun c98 => ?_) (fun c98 => by exfalso; exact c98 rfl)
            first | refine m_iincN 1 dX12_share_200 (by decide) rfl rfl ?_ | refine m_iinc dX12_share_200 rfl rfl ?_
            refine m_goto 50 dX12_share_203 (by decide) ?_
            exact ih ht6 d65 _ _ _ (g1.tr h65.2) g2'
          | some i =>
            cases hj : front (bw σ.1 σ.2.1) vs t with
            | none =>
              have hil := front_lt hi
              refine m_iload dX12_share_50 rfl ?_
              refine m_bipushN 6 dX12_share_52 (by decide) ?_
              first | refine m_icmp_geN 206 dX12_share_54 (by decide) (by omega) (by omega) (fun c54 => by exfalso; omega) (fun c54 => ?_) | refine m_icmp_ge 206 dX12_share_54 (by decide) (fun c54 => by exfalso; omega) (fun c54 => ?_)
              refine m_iload dX12_share_57 rfl ?_
              first | refine m_if_neN 206 dX12_share_59 (by decide) (by omega) (fun c59 => by exfalso; exact absurd rfl c59) (fun c59 => ?_) | refine m_if_ne 206 dX12_share_59 (by decide) (fun c59 => by exfalso; exact absurd rfl c59) (fun c59 => ?_)
              refine m_aload_n dX12_share_62 rfl ?_
              refine m_bipushN 24 dX12_share_63 (by decide) ?_
              refine m_callVV (s_X12_putAllOn (n := 24) (by decide)) cv_X12_179 dX12_share_65 (fun d65 h65 => ?_)
              refine m_aload_n dX12_share_68 rfl ?_
              refine m_aload_n dX12_share_69 rfl ?_
              refine m_get fl_X12_29 (by decide) rfl rfl dX12_share_70 ?_
              refine m_iload_n dX12_share_73 rfl ?_
              refine m_iload dX12_share_74 rfl ?_
              refine m_callVIp (s_X12_firstOf hI (hl2.fr h65.2 (by simp) (by simp)) hu6 (by omega) ((h1.fr g1 (by simp)).fr h65.2 (by simp)) (h65.1.le (by omega)) ht6) cv_X12_175 dX12_share_76 ?_
              refine m_eqi ((by rw [e1, hi]; rfl : _ = nI i)) ?_
              refine m_istore dX12_share_79 (Nat.le_of_ble_eq_true rfl) rfl ?_
              refine m_aload_n dX12_share_81 rfl ?_
              refine m_aload_n dX12_share_82 rfl ?_
              refine m_get fl_X12_32 (by decide) rfl rfl dX12_share_83 ?_
              refine m_iload dX12_share_86 rfl ?_
              refine m_iload dX12_share_88 rfl ?_
              refine m_callVIp (s_X12_firstOf hI2 (hl2.fr h65.2 (by simp) (by simp)) hv6 (by omega) ((h2.fr g1 (by simp)).fr h65.2 (by simp)) (h65.1.le (by omega)) ht6) cv_X12_175 dX12_share_90 ?_
              refine m_eqi ((by rw [e2, hj]; rfl : _ = (-1 : Int32))) ?_
              refine m_istore dX12_share_93 (Nat.le_of_ble_eq_true rfl) rfl ?_
              refine m_iload dX12_share_95 rfl ?_
              refine m_iconst (v := -1) dX12_share_97 (by decide) ?_
              refine m_icmp_eq 200 dX12_share_98 (by decide) (fun c98 => by exfalso; exact nI_m1 (by omega) c98) (fun c98 => ?_)
              refine m_iload dX12_share_101 rfl ?_
              refine m_iconst (v := -1) dX12_share_103 (by decide) ?_
              refine m_icmp_eq 200 dX12_share_104 (by decide) (fun c104 => ?_) (fun c104 => by exfalso; exact c104 rfl)
              first | refine m_iincN 1 dX12_share_200 (by decide) rfl rfl ?_ | refine m_iinc dX12_share_200 rfl rfl ?_
              refine m_goto 50 dX12_share_203 (by decide) ?_
              exact ih ht6 d65 _ _ _ (g1.tr h65.2) g2'
            | some j => exact absurd ⟨by rw [hi]; rfl, by rw [hj]; rfl⟩ hboth
      · have ht2 : t = 6 := by omega
        subst ht2
        rw [splitF_end (cfront_none (fun q hq => g2 q (by omega)))] at heq
        cases heq
        refine m_iload dX12_share_50 rfl ?_
        refine m_bipushN 6 dX12_share_52 (by decide) ?_
        first | refine m_icmp_geN 206 dX12_share_54 (by decide) (by omega) (by omega) (fun c54 => ?_) (fun c54 => by exfalso; omega) | refine m_icmp_ge 206 dX12_share_54 (by decide) (fun c54 => ?_) (fun c54 => by exfalso; omega)
        refine m_goto 39 dX12_share_206 (by decide) ?_
        refine m_iload dX12_share_39 rfl ?_
        first | refine m_if_eqN 209 dX12_share_41 (by decide) (by omega) (fun c41 => ?_) (fun c41 => by exfalso; exact c41 rfl) | refine m_if_eq 209 dX12_share_41 (by decide) (fun c41 => ?_) (fun c41 => by exfalso; exact c41 rfl)
        refine m_iload dX12_share_209 rfl ?_
        exact m_iret (ty := .int) hR dX12_share_211 (⟨rfl, h1.fr g1 (by simp), h2.fr g1 (by simp), fun q hq => by rw [(g1 246 (by simp)).1]; exact h3 q hq, h4.tr (g1.mono (by simp))⟩)
      )
    refine m_iload dX12_share_39 rfl ?_
    first | refine m_if_eqN 209 dX12_share_41 (by decide) (by omega) (fun c41 => by exfalso; exact absurd c41 (by decide)) (fun c41 => ?_) | refine m_if_eq 209 dX12_share_41 (by decide) (fun c41 => by exfalso; exact absurd c41 (by decide)) (fun c41 => ?_)
    refine m_iconstN 0 dX12_share_44 (by decide) ?_
    refine m_istore dX12_share_45 (Nat.le_of_ble_eq_true rfl) rfl ?_
    refine m_iconstN 0 dX12_share_47 (by decide) ?_
    refine m_istore dX12_share_48 (Nat.le_of_ble_eq_true rfl) rfl ?_
    exact inner 0 (by decide) d1 _ _ _ chg.rf (fun q hq => absurd hq (Nat.not_lt_zero q))
  refine m_aload_n dX12_share_0 rfl ?_
  refine m_get fl_X12_17 (by decide) rfl rfl dX12_share_1 ?_
  refine m_iload_n dX12_share_4 rfl ?_
  refine m_iald (by first | exact ⟨by decide, by decide, fun _ => rfl⟩ | exact isI_arr _ (by omega) | exact isI_mv _ (by omega) | exact isI_ne _ (by omega)) (by omega) dX12_share_5 ?_
  refine m_eqi (hA) ?_
  refine m_istore_n dX12_share_6 (Nat.le_of_ble_eq_true rfl) rfl ?_
  refine m_aload_n dX12_share_7 rfl ?_
  refine m_get fl_X12_17 (by decide) rfl rfl dX12_share_8 ?_
  refine m_iload_n dX12_share_11 rfl ?_
  refine m_iald (by first | exact ⟨by decide, by decide, fun _ => rfl⟩ | exact isI_arr _ (by omega) | exact isI_mv _ (by omega) | exact isI_ne _ (by omega)) (by omega) dX12_share_12 ?_
  refine m_eqi (hB) ?_
  refine m_istore dX12_share_13 (Nat.le_of_ble_eq_true rfl) rfl ?_
  refine m_aload_n dX12_share_15 rfl ?_
  refine m_iload_n dX12_share_16 rfl ?_
  refine m_aload_n dX12_share_17 rfl ?_
  refine m_get fl_X12_29 (by decide) rfl rfl dX12_share_18 ?_
  refine m_callVV (s_X12_take (o := 246) hI (by decide) hn hs) cv_X12_186 dX12_share_21 (fun d21 h21 => ?_)
  rw [hxs] at h21
  refine m_aload_n dX12_share_24 rfl ?_
  refine m_iload_n dX12_share_25 rfl ?_
  refine m_aload_n dX12_share_26 rfl ?_
  refine m_get fl_X12_32 (by decide) rfl rfl dX12_share_27 ?_
  refine m_callVV (s_X12_take (o := 247) hI2 (by decide) hn2 (hs.fr h21.2 (by simp) (by simp) (by simp) (by simp))) cv_X12_186 dX12_share_30 (fun d30 h30 => ?_)
  rw [hys] at h30
  refine m_iconstN 0 dX12_share_33 (by decide) ?_
  refine m_istore dX12_share_34 (Nat.le_of_ble_eq_true rfl) rfl ?_
  refine m_iconstN 1 dX12_share_36 (by decide) ?_
  refine m_istore dX12_share_37 (Nat.le_of_ble_eq_true rfl) rfl ?_
  exact outer xs.length [] xs ys d30 _ _ _ _ rfl (by simp; omega) (by simp; omega) hAx hBx hsp (h21.1.fr h30.2 (by simp)) h30.1 (fun q hq => absurd hq (Nat.not_lt_zero q)) ((h21.2.mono (by simp)).tr (h30.2.mono (by simp)))
theorem s_X12_shared (hx : hN x = some n) (hy : hN y = some n2) (hz : hN z = some n3) (hs : moSt d σ) : mSpecI l W mX12_shared (dep + 4) [.ref (xad W 240), .int x, .int y, .int z] d (fun r d' => r = nI (splitF (bw σ.1 σ.2.1) σ.1 24 [] (σ.2.2 n) (σ.2.2 n2)).1.length ∧ moSt d' (setH σ n3 (leastR (bw σ.1 σ.2.1) (splitF (bw σ.1 σ.2.1) σ.1 24 [] (σ.2.2 n) (σ.2.2 n2)).1)) ∧ chg moPC d d') := by
  obtain ⟨hn, rfl⟩ := hN_some hx
  obtain ⟨hn2, rfl⟩ := hN_some hy
  obtain ⟨hn3, rfl⟩ := hN_some hz
  have hI2 : isI W 247 48 := ⟨by decide, by decide, fun _ => rfl⟩
  have hsm := splitF_mem (k := σ.1) (B := bw σ.1 σ.2.1) 24 [] (σ.2.2 n) (σ.2.2 n2)
  have hsl := splitF_len (k := σ.1) (B := bw σ.1 σ.2.1) 24 [] (σ.2.2 n) (σ.2.2 n2)
  have hl24 := (hs.2 n hn).2.1
  generalize hsp : splitF (bw σ.1 σ.2.1) σ.1 24 [] (σ.2.2 n) (σ.2.2 n2) = sp at *
  obtain ⟨cs, us, vs⟩ := sp
  have hcx : ∀ x ∈ cs, x < σ.1 := fun x hx => (hsm.1 x hx).resolve_left (fun z => by cases z)
  have hcl : cs.length ≤ 24 := by have := hsl.1; simp at this; omega
  have hll := leastR_len (bw_ok hs.1.2.2 hcx)
  refine m_spec RX12 [some (.ref (xad W 240)), some (.int (nI n)), some (.int (nI n2)), some (.int (nI n3)), none, none] rfl (by decide +kernel) rfl rfl (fun K hR => ?_)
  have loop : ∀ i, i ≤ cs.length → ∀ d1, (∀ q, q < cs.length → d1.1 246 (24 + q) = nI (cs.getD q 0)) → arrB d1 247 (cs.take i) → chg [246, 247, 249] d d1 → mG W K cX12_shared RX12 (dep + 4) d1 23 [some (.ref (xad W 240)), some (.int (nI n)), some (.int (nI n2)), some (.int (nI n3)), some (.int (nI cs.length)), some (.int (nI i))] [] := x_up _ (fun i hi ih d1 g1 g2 g3 => by
    have hs1 := hs.fr g3 (by simp) (by simp) (by simp) (by simp)
    by_cases hin : i < cs.length
    · skip
      refine m_iload dX12_shared_23 rfl ?_
      refine m_iload dX12_shared_25 rfl ?_
      first | refine m_icmp_geN 53 dX12_shared_27 (by decide) (by omega) (by omega) (fun c27 => by exfalso; omega) (fun c27 => ?_) | refine m_icmp_ge 53 dX12_shared_27 (by decide) (fun c27 => by exfalso; omega) (fun c27 => ?_)
      refine m_aload_n dX12_shared_30 rfl ?_
      refine m_get fl_X12_32 (by decide) rfl rfl dX12_shared_31 ?_
      refine m_iload dX12_shared_34 rfl ?_
      refine m_aload_n dX12_shared_36 rfl ?_
      refine m_get fl_X12_29 (by decide) rfl rfl dX12_shared_37 ?_
      refine m_bipushN 24 dX12_shared_40 (by decide) ?_
      refine m_iload dX12_shared_42 rfl ?_
      first | refine m_iaddN dX12_shared_44 ?_ | refine m_iadd dX12_shared_44 ?_
      refine m_iald (by first | exact ⟨by decide, by decide, fun _ => rfl⟩ | exact isI_arr _ (by omega) | exact isI_mv _ (by omega) | exact isI_ne _ (by omega)) (by omega) dX12_shared_45 ?_
      refine m_eqi (g1 i hin) ?_
      refine m_iast (by first | exact ⟨by decide, by decide, fun _ => rfl⟩ | exact isI_arr _ (by omega) | exact isI_mv _ (by omega) | exact isI_ne _ (by omega)) (by omega) dX12_shared_46 ?_
      first | refine m_iincN 1 dX12_shared_47 (by decide) rfl rfl ?_ | refine m_iinc dX12_shared_47 rfl rfl ?_
      refine m_goto 23 dX12_shared_50 (by decide) ?_
      refine ih hin _ (fun q hq => se_e (g1 q hq) (by decide)) ?_ (g3.se (by simp))
      have := g2.snoc (x := cs.getD i 0)
      rw [List.length_take, Nat.min_eq_left hi, getD_at hin, ← take_s hin] at this
      rw [getD_at hin]
      exact this
    · have e6 : i = cs.length := by omega
      subst e6
      rw [List.take_length] at g2
      refine m_iload dX12_shared_23 rfl ?_
      refine m_iload dX12_shared_25 rfl ?_
      first | refine m_icmp_geN 53 dX12_shared_27 (by decide) (by omega) (by omega) (fun c27 => ?_) (fun c27 => by exfalso; omega) | refine m_icmp_ge 53 dX12_shared_27 (by decide) (fun c27 => ?_) (fun c27 => by exfalso; omega)
      refine m_aload_n dX12_shared_53 rfl ?_
      refine m_iload_n dX12_shared_54 rfl ?_
      refine m_aload_n dX12_shared_55 rfl ?_
      refine m_aload_n dX12_shared_56 rfl ?_
      refine m_get fl_X12_32 (by decide) rfl rfl dX12_shared_57 ?_
      refine m_iload dX12_shared_60 rfl ?_
      refine m_callVI (s_X12_makeLeastOf hI2 (by decide) hs1.1 hcx (by omega) g2) cv_X12_190 dX12_shared_62 (fun r62 d62 h62 => ?_)
      rw [h62.1, ← hll]
      refine m_callVI (s_X12_keep hn3 (hs1.fr h62.2.2 (by simp) (by simp) (by simp) (by simp)) (by rw [hll]; omega) (fun x hx => hcx x (leastR_mem hx)) h62.2.1) cv_X12_226 dX12_shared_65 (fun r65 d65 h65 => ?_)
      exact m_iret (ty := .int) hR dX12_shared_68 (⟨by rw [h65.1, hll], h65.2.1, ((g3.mono (by decide)).tr (h62.2.2.mono (by decide))).tr (h65.2.2.mono (by decide))⟩)
    )
  refine m_iload_n dX12_shared_0 rfl ?_
  refine m_iload_n dX12_shared_1 rfl ?_
  refine m_iload_n dX12_shared_2 rfl ?_
  refine m_callSIp (s_X12_areThree hx hy hz) cs_X12_223 dX12_shared_3 ?_
  refine m_if_ne 12 dX12_shared_6 (by decide) (fun c6 => ?_) (fun c6 => by exfalso; exact c6 (by decide))
  refine m_aload_n dX12_shared_12 rfl ?_
  refine m_iload_n dX12_shared_13 rfl ?_
  refine m_iload_n dX12_shared_14 rfl ?_
  refine m_callVI (s_X12_share hsp hn hn2 hs) cv_X12_229 dX12_shared_15 (fun r15 d15 h15 => ?_)
  rw [h15.1]
  refine m_istore dX12_shared_18 (Nat.le_of_ble_eq_true rfl) rfl ?_
  refine m_iconstN 0 dX12_shared_20 (by decide) ?_
  refine m_istore dX12_shared_21 (Nat.le_of_ble_eq_true rfl) rfl ?_
  exact loop 0 (Nat.zero_le _) d15 h15.2.2.2.1 arrB.nil h15.2.2.2.2
theorem s_X12_both {cs us vs : List Nat} (hsp : splitF (bw σ.1 σ.2.1) σ.1 24 [] (σ.2.2 n) (σ.2.2 n2) = (cs, us, vs)) (hx : hN x = some n) (hy : hN y = some n2) (hz : hN z = some n3) (hs : moSt d σ) : mSpecI l W mX12_both (dep + 4) [.ref (xad W 240), .int x, .int y, .int z] d (fun r d' => ((allFr σ.1 σ.2.1 us vs = false ∧ r = -4 ∧ moSt d' σ) ∨ (allFr σ.1 σ.2.1 us vs = true ∧ ¬ cs.length + us.length + vs.length ≤ 24 ∧ r = -5 ∧ moSt d' σ) ∨ (allFr σ.1 σ.2.1 us vs = true ∧ cs.length + us.length + vs.length ≤ 24 ∧ r = nI (cs.length + us.length + vs.length) ∧ moSt d' (setH σ n3 (leastR (bw σ.1 σ.2.1) (cs ++ us ++ vs))))) ∧ chg moPC d d') := by
  obtain ⟨hn, rfl⟩ := hN_some hx
  obtain ⟨hn2, rfl⟩ := hN_some hy
  obtain ⟨hn3, rfl⟩ := hN_some hz
  have hk := hs.1.2.2.2.1
  have hI : isI W 246 48 := ⟨by decide, by decide, fun _ => rfl⟩
  have hI2 : isI W 247 48 := ⟨by decide, by decide, fun _ => rfl⟩
  have hsm := splitF_mem (k := σ.1) (B := bw σ.1 σ.2.1) 24 [] (σ.2.2 n) (σ.2.2 n2)
  have hsl := splitF_len (k := σ.1) (B := bw σ.1 σ.2.1) 24 [] (σ.2.2 n) (σ.2.2 n2)
  obtain ⟨hA, hAl, hAg, hAx⟩ := hs.2 n hn
  obtain ⟨hB, hBl, hBg, hBx⟩ := hs.2 n2 hn2
  rw [hsp] at hsm hsl
  have hcx : ∀ x ∈ cs, x < σ.1 := fun x hx => (hsm.1 x hx).resolve_left (fun z => by cases z)
  have hux : ∀ x ∈ us, x < σ.1 := fun x hx => hAx x (hsm.2.1 x hx)
  have hvx : ∀ x ∈ vs, x < σ.1 := fun x hx => hBx x (hsm.2.2 x hx)
  have hL1 : cs.length + us.length = (σ.2.2 n).length := by have := hsl.1; simpa using this
  have hL2 : cs.length + vs.length = (σ.2.2 n2).length := by have := hsl.2; simpa using this
  have hwx : ∀ x ∈ cs ++ us ++ vs, x < σ.1 := fun x hx => (List.mem_append.mp hx).elim (fun h => (List.mem_append.mp h).elim (hcx x) (hux x)) (hvx x)
  have hll := leastR_len (bw_ok hs.1.2.2 hwx)
  have hall := allFr_iff hs.1.2.2 hux hvx
  refine m_spec RX12 [some (.ref (xad W 240)), some (.int (nI n)), some (.int (nI n2)), some (.int (nI n3)), none, none, none, none, none] rfl (by decide +kernel) rfl rfl (fun K hR => ?_)
  have loop4 : cs.length + us.length + vs.length ≤ 24 → allFr σ.1 σ.2.1 us vs = true → ∀ i, i ≤ vs.length → ∀ d1 o8, arrB d1 246 (cs ++ us ++ vs.take i) → arrB d1 247 vs → chg [246, 247, 249] d d1 → mG W K cX12_both RX12 (dep + 4) d1 189 [some (.ref (xad W 240)), some (.int (nI n)), some (.int (nI n2)), some (.int (nI n3)), some (.int (nI cs.length)), some (.int (nI us.length)), some (.int (nI vs.length)), some (.int (nI i)), o8] [] := fun hle hal => x_up _ (fun i hi ih d1 o8 g1 g2 g3 => by
    have hs1 := hs.fr g3 (by simp) (by simp) (by simp) (by simp)
    by_cases hin : i < vs.length
    · skip
      refine m_iload dX12_both_189 rfl ?_
      refine m_iload dX12_both_191 rfl ?_
      first | refine m_icmp_geN 222 dX12_both_193 (by decide) (by omega) (by omega) (fun c193 => by exfalso; omega) (fun c193 => ?_) | refine m_icmp_ge 222 dX12_both_193 (by decide) (fun c193 => by exfalso; omega) (fun c193 => ?_)
      refine m_aload_n dX12_both_196 rfl ?_
      refine m_get fl_X12_29 (by decide) rfl rfl dX12_both_197 ?_
      refine m_iload dX12_both_200 rfl ?_
      refine m_iload dX12_both_202 rfl ?_
      first | refine m_iaddN dX12_both_204 ?_ | refine m_iadd dX12_both_204 ?_
      refine m_iload dX12_both_205 rfl ?_
      first | refine m_iaddN dX12_both_207 ?_ | refine m_iadd dX12_both_207 ?_
      refine m_aload_n dX12_both_208 rfl ?_
      refine m_get fl_X12_32 (by decide) rfl rfl dX12_both_209 ?_
      refine m_iload dX12_both_212 rfl ?_
      refine m_iald (by first | exact ⟨by decide, by decide, fun _ => rfl⟩ | exact isI_arr _ (by omega) | exact isI_mv _ (by omega) | exact isI_ne _ (by omega)) (by omega) dX12_both_214 ?_
      refine m_eqi (g2 i hin) ?_
      refine m_iast (by first | exact ⟨by decide, by decide, fun _ => rfl⟩ | exact isI_arr _ (by omega) | exact isI_mv _ (by omega) | exact isI_ne _ (by omega)) (by omega) dX12_both_215 ?_
      first | refine m_iincN 1 dX12_both_216 (by decide) rfl rfl ?_ | refine m_iinc dX12_both_216 rfl rfl ?_
      refine m_goto 189 dX12_both_219 (by decide) ?_
      refine ih hin _ _ ?_ (g2.fr (chg.rf.se (S := [246]) (by simp)) (by simp)) (g3.se (by simp))
      have := g1.snoc (x := vs.getD i 0)
      rw [List.length_append, List.length_append, List.length_take, Nat.min_eq_left hi, List.append_assoc, getD_at hin, ← take_s hin] at this
      rw [getD_at hin]
      exact this
    · have e6 : i = vs.length := by omega
      subst e6
      rw [List.take_length] at g1
      refine m_iload dX12_both_189 rfl ?_
      refine m_iload dX12_both_191 rfl ?_
      first | refine m_icmp_geN 222 dX12_both_193 (by decide) (by omega) (by omega) (fun c193 => ?_) (fun c193 => by exfalso; omega) | refine m_icmp_ge 222 dX12_both_193 (by decide) (fun c193 => ?_) (fun c193 => by exfalso; omega)
      refine m_aload_n dX12_both_222 rfl ?_
      refine m_iload_n dX12_both_223 rfl ?_
      refine m_aload_n dX12_both_224 rfl ?_
      refine m_aload_n dX12_both_225 rfl ?_
      refine m_get fl_X12_29 (by decide) rfl rfl dX12_both_226 ?_
      refine m_iload dX12_both_229 rfl ?_
      refine m_iload dX12_both_231 rfl ?_
      first | refine m_iaddN dX12_both_233 ?_ | refine m_iadd dX12_both_233 ?_
      refine m_iload dX12_both_234 rfl ?_
      first | refine m_iaddN dX12_both_236 ?_ | refine m_iadd dX12_both_236 ?_
      rw [show cs.length + us.length + vs.length = (cs ++ us ++ vs).length by rw [List.length_append, List.length_append]]
      refine m_callVI (s_X12_makeLeastOf hI (by decide) hs1.1 hwx (by rw [List.length_append, List.length_append]; omega) g1) cv_X12_190 dX12_both_237 (fun r237 d237 h237 => ?_)
      rw [h237.1, ← hll]
      refine m_callVI (s_X12_keep hn3 (hs1.fr h237.2.2 (by simp) (by simp) (by simp) (by simp)) (by rw [hll, List.length_append, List.length_append]; omega) (fun x hx => hwx x (leastR_mem hx)) h237.2.1) cv_X12_226 dX12_both_240 (fun r240 d240 h240 => ?_)
      exact m_iret (ty := .int) hR dX12_both_243 (⟨Or.inr (Or.inr ⟨hal, hle, by rw [h240.1, hll, List.length_append, List.length_append], h240.2.1⟩), ((g3.mono (by decide)).tr (h237.2.2.mono (by decide))).tr (h240.2.2.mono (by decide))⟩)
    )
  have loop3 : cs.length + us.length + vs.length ≤ 24 → allFr σ.1 σ.2.1 us vs = true → ∀ i, i ≤ cs.length + us.length → ∀ d1 o8, (∀ q, q < cs.length + us.length → d1.1 246 (24 + q) = nI ((cs ++ us).getD q 0)) → arrB d1 246 ((cs ++ us).take i) → arrB d1 247 vs → chg [246, 247, 249] d d1 → mG W K cX12_both RX12 (dep + 4) d1 153 [some (.ref (xad W 240)), some (.int (nI n)), some (.int (nI n2)), some (.int (nI n3)), some (.int (nI cs.length)), some (.int (nI us.length)), some (.int (nI vs.length)), some (.int (nI i)), o8] [] := fun hle hal => x_up _ (fun i hi ih d1 o8 g0 g1 g2 g3 => by
    have hlcu : (cs ++ us).length = cs.length + us.length := List.length_append
    by_cases hin : i < cs.length + us.length
    · skip
      refine m_iload dX12_both_153 rfl ?_
      refine m_iload dX12_both_155 rfl ?_
      refine m_iload dX12_both_157 rfl ?_
      first | refine m_iaddN dX12_both_159 ?_ | refine m_iadd dX12_both_159 ?_
      first | refine m_icmp_geN 186 dX12_both_160 (by decide) (by omega) (by omega) (fun c160 => by exfalso; omega) (fun c160 => ?_) | refine m_icmp_ge 186 dX12_both_160 (by decide) (fun c160 => by exfalso; omega) (fun c160 => ?_)
      refine m_aload_n dX12_both_163 rfl ?_
      refine m_get fl_X12_29 (by decide) rfl rfl dX12_both_164 ?_
      refine m_iload dX12_both_167 rfl ?_
      refine m_aload_n dX12_both_169 rfl ?_
      refine m_get fl_X12_29 (by decide) rfl rfl dX12_both_170 ?_
      refine m_bipushN 24 dX12_both_173 (by decide) ?_
      refine m_iload dX12_both_175 rfl ?_
      first | refine m_iaddN dX12_both_177 ?_ | refine m_iadd dX12_both_177 ?_
      refine m_iald (by first | exact ⟨by decide, by decide, fun _ => rfl⟩ | exact isI_arr _ (by omega) | exact isI_mv _ (by omega) | exact isI_ne _ (by omega)) (by omega) dX12_both_178 ?_
      refine m_eqi (g0 i hin) ?_
      refine m_iast (by first | exact ⟨by decide, by decide, fun _ => rfl⟩ | exact isI_arr _ (by omega) | exact isI_mv _ (by omega) | exact isI_ne _ (by omega)) (by omega) dX12_both_179 ?_
      first | refine m_iincN 1 dX12_both_180 (by decide) rfl rfl ?_ | refine m_iinc dX12_both_180 rfl rfl ?_
      refine m_goto 153 dX12_both_183 (by decide) ?_
      refine ih hin _ _ (fun q hq => se_e2 (g0 q hq) (by omega)) ?_ (g2.fr (chg.rf.se (S := [246]) (by simp)) (by simp)) (g3.se (by simp))
      have hin2 : i < (cs ++ us).length := by omega
      have := g1.snoc (x := (cs ++ us).getD i 0)
      rw [List.length_take, Nat.min_eq_left (by omega), getD_at hin2, ← take_s hin2] at this
      rw [getD_at hin2]
      exact this
    · have e6 : i = (cs ++ us).length := by omega
      rw [e6, List.take_length] at g1
      refine m_iload dX12_both_153 rfl ?_
      refine m_iload dX12_both_155 rfl ?_
      refine m_iload dX12_both_157 rfl ?_
      first | refine m_iaddN dX12_both_159 ?_ | refine m_iadd dX12_both_159 ?_
      first | refine m_icmp_geN 186 dX12_both_160 (by decide) (by omega) (by omega) (fun c160 => ?_) (fun c160 => by exfalso; omega) | refine m_icmp_ge 186 dX12_both_160 (by decide) (fun c160 => ?_) (fun c160 => by exfalso; omega)
      refine m_iconstN 0 dX12_both_186 (by decide) ?_
      refine m_istore dX12_both_187 (Nat.le_of_ble_eq_true rfl) rfl ?_
      exact loop4 hle hal 0 (Nat.zero_le _) d1 _ (by rw [List.take_zero, List.append_nil]; exact g1) g2 g3
    )
  have loop2 : cs.length + us.length + vs.length ≤ 24 → allFr σ.1 σ.2.1 us vs = true → ∀ i, i ≤ us.length → ∀ d1 o8, (∀ q, q < cs.length + i → d1.1 246 (24 + q) = nI ((cs ++ us).getD q 0)) → arrB d1 246 us → arrB d1 247 vs → chg [246, 247, 249] d d1 → mG W K cX12_both RX12 (dep + 4) d1 117 [some (.ref (xad W 240)), some (.int (nI n)), some (.int (nI n2)), some (.int (nI n3)), some (.int (nI cs.length)), some (.int (nI us.length)), some (.int (nI vs.length)), some (.int (nI i)), o8] [] := fun hle hal => x_up _ (fun i hi ih d1 o8 g0 g1 g2 g3 => by
    by_cases hin : i < us.length
    · skip
      refine m_iload dX12_both_117 rfl ?_
      refine m_iload dX12_both_119 rfl ?_
      first | refine m_icmp_geN 150 dX12_both_121 (by decide) (by omega) (by omega) (fun c121 => by exfalso; omega) (fun c121 => ?_) | refine m_icmp_ge 150 dX12_both_121 (by decide) (fun c121 => by exfalso; omega) (fun c121 => ?_)
      refine m_aload_n dX12_both_124 rfl ?_
      refine m_get fl_X12_29 (by decide) rfl rfl dX12_both_125 ?_
      refine m_bipushN 24 dX12_both_128 (by decide) ?_
      refine m_iload dX12_both_130 rfl ?_
      first | refine m_iaddN dX12_both_132 ?_ | refine m_iadd dX12_both_132 ?_
      refine m_iload dX12_both_133 rfl ?_
      first | refine m_iaddN dX12_both_135 ?_ | refine m_iadd dX12_both_135 ?_
      refine m_aload_n dX12_both_136 rfl ?_
      refine m_get fl_X12_29 (by decide) rfl rfl dX12_both_137 ?_
      refine m_iload dX12_both_140 rfl ?_
      refine m_iald (by first | exact ⟨by decide, by decide, fun _ => rfl⟩ | exact isI_arr _ (by omega) | exact isI_mv _ (by omega) | exact isI_ne _ (by omega)) (by omega) dX12_both_142 ?_
      refine m_eqi (g1 i hin) ?_
      refine m_iast (by first | exact ⟨by decide, by decide, fun _ => rfl⟩ | exact isI_arr _ (by omega) | exact isI_mv _ (by omega) | exact isI_ne _ (by omega)) (by omega) dX12_both_143 ?_
      first | refine m_iincN 1 dX12_both_144 (by decide) rfl rfl ?_ | refine m_iinc dX12_both_144 rfl rfl ?_
      refine m_goto 117 dX12_both_147 (by decide) ?_
      refine ih hin _ _ (fun q hq => ?_) (fun q hq => se_e2 (g1 q hq) (by omega)) (g2.fr (chg.rf.se (S := [246]) (by simp)) (by simp)) (g3.se (by simp))
      by_cases e : q = cs.length + i
      · subst e
        rw [show 24 + (cs.length + i) = 24 + cs.length + i by omega, se_s, List.getD_eq_getElem?_getD (l := cs ++ us), List.getElem?_append_right (by omega), ← List.getD_eq_getElem?_getD, Nat.add_sub_cancel_left]
      · rw [se_n _ _ (by omega)]; exact g0 q (by omega)
    · have e6 : i = us.length := by omega
      subst e6
      refine m_iload dX12_both_117 rfl ?_
      refine m_iload dX12_both_119 rfl ?_
      first | refine m_icmp_geN 150 dX12_both_121 (by decide) (by omega) (by omega) (fun c121 => ?_) (fun c121 => by exfalso; omega) | refine m_icmp_ge 150 dX12_both_121 (by decide) (fun c121 => ?_) (fun c121 => by exfalso; omega)
      refine m_iconstN 0 dX12_both_150 (by decide) ?_
      refine m_istore dX12_both_151 (Nat.le_of_ble_eq_true rfl) rfl ?_
      exact loop3 hle hal 0 (Nat.zero_le _) d1 _ g0 arrB.nil g2 g3
    )
  have loop1 : ∀ i, i ≤ us.length → ∀ d1 o8, (∀ a, a < i → ∀ b, b < vs.length → (σ.2.1 (us.getD a 0)).testBit (vs.getD b 0) = true) → (∀ q, q < cs.length → d1.1 246 (24 + q) = nI (cs.getD q 0)) → arrB d1 246 us → arrB d1 247 vs → chg [246, 247, 249] d d1 → mG W K cX12_both RX12 (dep + 4) d1 45 [some (.ref (xad W 240)), some (.int (nI n)), some (.int (nI n2)), some (.int (nI n3)), some (.int (nI cs.length)), some (.int (nI us.length)), some (.int (nI vs.length)), some (.int (nI i)), o8] [] := x_up _ (fun i hi ih d1 o8 g4 g0 g1 g2 g3 => by
    have hs1 := hs.fr g3 (by simp) (by simp) (by simp) (by simp)
    by_cases hin : i < us.length
    · have hu6 : us.getD i 0 < σ.1 := by rw [getD_at hin]; exact hux _ (List.getElem_mem hin)
      have innr : ∀ j, j ≤ vs.length → (∀ b, b < j → (σ.2.1 (us.getD i 0)).testBit (vs.getD b 0) = true) → mG W K cX12_both RX12 (dep + 4) d1 55 [some (.ref (xad W 240)), some (.int (nI n)), some (.int (nI n2)), some (.int (nI n3)), some (.int (nI cs.length)), some (.int (nI us.length)), some (.int (nI vs.length)), some (.int (nI i)), some (.int (nI j))] [] := x_up _ (fun j hj ihj gj => by
        by_cases hjn : j < vs.length
        · have hv6 : vs.getD j 0 < σ.1 := by rw [getD_at hjn]; exact hvx _ (List.getElem_mem hjn)
          by_cases hf : (σ.2.1 (us.getD i 0)).testBit (vs.getD j 0) = true
          · skip
            refine m_iload dX12_both_55 rfl ?_
            refine m_iload dX12_both_57 rfl ?_
            first | refine m_icmp_geN 92 dX12_both_59 (by decide) (by omega) (by omega) (fun c59 => by exfalso; omega) (fun c59 => ?_) | refine m_icmp_ge 92 dX12_both_59 (by decide) (fun c59 => by exfalso; omega) (fun c59 => ?_)
            refine m_aload_n dX12_both_62 rfl ?_
            refine m_aload_n dX12_both_63 rfl ?_
            refine m_get fl_X12_29 (by decide) rfl rfl dX12_both_64 ?_
            refine m_iload dX12_both_67 rfl ?_
            refine m_iald (by first | exact ⟨by decide, by decide, fun _ => rfl⟩ | exact isI_arr _ (by omega) | exact isI_mv _ (by omega) | exact isI_ne _ (by omega)) (by omega) dX12_both_69 ?_
            refine m_eqi (g1 i hin) ?_
            refine m_aload_n dX12_both_70 rfl ?_
            refine m_get fl_X12_32 (by decide) rfl rfl dX12_both_71 ?_
            refine m_iload dX12_both_74 rfl ?_
            refine m_iald (by first | exact ⟨by decide, by decide, fun _ => rfl⟩ | exact isI_arr _ (by omega) | exact isI_mv _ (by omega) | exact isI_ne _ (by omega)) (by omega) dX12_both_76 ?_
            refine m_eqi (g2 j hjn) ?_
            refine m_callVIp (s_X12_areFree hs1.1 (p := us.getD i 0) (q := vs.getD j 0) (by omega) (by omega)) cv_X12_168 dX12_both_77 ?_
            refine m_if_ne 86 dX12_both_80 (by decide) (fun c80 => ?_) (fun c80 => by exfalso; exact c80 (by rw [if_pos hf]; decide))
            first | refine m_iincN 1 dX12_both_86 (by decide) rfl rfl ?_ | refine m_iinc dX12_both_86 rfl rfl ?_
            refine m_goto 55 dX12_both_89 (by decide) ?_
            refine ihj hjn (fun b hb => ?_)
            by_cases e : b = j
            · subst e; exact hf
            · exact gj b (by omega)
          · skip
            refine m_iload dX12_both_55 rfl ?_
            refine m_iload dX12_both_57 rfl ?_
            first | refine m_icmp_geN 92 dX12_both_59 (by decide) (by omega) (by omega) (fun c59 => by exfalso; omega) (fun c59 => ?_) | refine m_icmp_ge 92 dX12_both_59 (by decide) (fun c59 => by exfalso; omega) (fun c59 => ?_)
            refine m_aload_n dX12_both_62 rfl ?_
            refine m_aload_n dX12_both_63 rfl ?_
            refine m_get fl_X12_29 (by decide) rfl rfl dX12_both_64 ?_
            refine m_iload dX12_both_67 rfl ?_
            refine m_iald (by first | exact ⟨by decide, by decide, fun _ => rfl⟩ | exact isI_arr _ (by omega) | exact isI_mv _ (by omega) | exact isI_ne _ (by omega)) (by omega) dX12_both_69 ?_
            refine m_eqi (g1 i hin) ?_
            refine m_aload_n dX12_both_70 rfl ?_
            refine m_get fl_X12_32 (by decide) rfl rfl dX12_both_71 ?_
            refine m_iload dX12_both_74 rfl ?_
            refine m_iald (by first | exact ⟨by decide, by decide, fun _ => rfl⟩ | exact isI_arr _ (by omega) | exact isI_mv _ (by omega) | exact isI_ne _ (by omega)) (by omega) dX12_both_76 ?_
            refine m_eqi (g2 j hjn) ?_
            refine m_callVIp (s_X12_areFree hs1.1 (p := us.getD i 0) (q := vs.getD j 0) (by omega) (by omega)) cv_X12_168 dX12_both_77 ?_
            refine m_if_ne 86 dX12_both_80 (by decide) (fun c80 => by exfalso; exact c80 (by rw [if_neg hf])) (fun c80 => ?_)
            refine m_bipush (v := -4) dX12_both_83 (by decide) ?_
            exact m_iret (ty := .int) hR dX12_both_85 (⟨Or.inl ⟨Bool.eq_false_iff.mpr (fun z => hf (hall.mp z _ (by rw [getD_at hin]; exact List.getElem_mem hin) _ (by rw [getD_at hjn]; exact List.getElem_mem hjn))), rfl, hs1⟩, g3.mono (by decide)⟩)
        · skip
          refine m_iload dX12_both_55 rfl ?_
          refine m_iload dX12_both_57 rfl ?_
          first | refine m_icmp_geN 92 dX12_both_59 (by decide) (by omega) (by omega) (fun c59 => ?_) (fun c59 => by exfalso; omega) | refine m_icmp_ge 92 dX12_both_59 (by decide) (fun c59 => ?_) (fun c59 => by exfalso; omega)
          first | refine m_iincN 1 dX12_both_92 (by decide) rfl rfl ?_ | refine m_iinc dX12_both_92 rfl rfl ?_
          refine m_goto 45 dX12_both_95 (by decide) ?_
          refine ih hin d1 _ (fun a ha b hb => ?_) g0 g1 g2 g3
          by_cases e : a = i
          · subst e; exact gj b (by omega)
          · exact g4 a (by omega) b hb
        )
      refine m_iload dX12_both_45 rfl ?_
      refine m_iload dX12_both_47 rfl ?_
      first | refine m_icmp_geN 98 dX12_both_49 (by decide) (by omega) (by omega) (fun c49 => by exfalso; omega) (fun c49 => ?_) | refine m_icmp_ge 98 dX12_both_49 (by decide) (fun c49 => by exfalso; omega) (fun c49 => ?_)
      refine m_iconstN 0 dX12_both_52 (by decide) ?_
      refine m_istore dX12_both_53 (Nat.le_of_ble_eq_true rfl) rfl ?_
      exact innr 0 (Nat.zero_le _) (fun b hb => absurd hb (Nat.not_lt_zero b))
    · have e6 : i = us.length := by omega
      subst e6
      have hal : allFr σ.1 σ.2.1 us vs = true := hall.mpr (fun x hx y hy => by
        obtain ⟨a, ha, rfl⟩ := List.getElem_of_mem hx
        obtain ⟨b, hb, rfl⟩ := List.getElem_of_mem hy
        have := g4 a ha b hb
        rw [getD_at ha, getD_at hb] at this
        exact this)
      refine m_iload dX12_both_45 rfl ?_
      refine m_iload dX12_both_47 rfl ?_
      first | refine m_icmp_geN 98 dX12_both_49 (by decide) (by omega) (by omega) (fun c49 => ?_) (fun c49 => by exfalso; omega) | refine m_icmp_ge 98 dX12_both_49 (by decide) (fun c49 => ?_) (fun c49 => by exfalso; omega)
      refine m_iload dX12_both_98 rfl ?_
      refine m_iload dX12_both_100 rfl ?_
      first | refine m_iaddN dX12_both_102 ?_ | refine m_iadd dX12_both_102 ?_
      refine m_iload dX12_both_103 rfl ?_
      first | refine m_iaddN dX12_both_105 ?_ | refine m_iadd dX12_both_105 ?_
      refine m_bipushN 24 dX12_both_106 (by decide) ?_
      first | refine m_icmp_leN 114 dX12_both_108 (by decide) (by omega) (by omega) (fun c108 => ?_) (fun c108 => ?_) | refine m_icmp_le 114 dX12_both_108 (by decide) (fun c108 => ?_) (fun c108 => ?_)
      · refine m_iconstN 0 dX12_both_114 (by decide) ?_
        refine m_istore dX12_both_115 (Nat.le_of_ble_eq_true rfl) rfl ?_
        exact loop2 (by omega) hal 0 (Nat.zero_le _) d1 _ (fun q hq => by rw [g0 q (by omega), List.getD_eq_getElem?_getD, List.getD_eq_getElem?_getD, List.getElem?_append_left (by omega)]) g1 g2 g3
      · refine m_bipush (v := -5) dX12_both_111 (by decide) ?_
        exact m_iret (ty := .int) hR dX12_both_113 (⟨Or.inr (Or.inl ⟨hal, by omega, rfl, hs1⟩), g3.mono (by decide)⟩)
    )
  refine m_iload_n dX12_both_0 rfl ?_
  refine m_iload_n dX12_both_1 rfl ?_
  refine m_iload_n dX12_both_2 rfl ?_
  refine m_callSIp (s_X12_areThree hx hy hz) cs_X12_223 dX12_both_3 ?_
  refine m_if_ne 12 dX12_both_6 (by decide) (fun c6 => ?_) (fun c6 => by exfalso; exact c6 (by decide))
  refine m_aload_n dX12_both_12 rfl ?_
  refine m_iload_n dX12_both_13 rfl ?_
  refine m_iload_n dX12_both_14 rfl ?_
  refine m_callVI (s_X12_share hsp hn hn2 hs) cv_X12_229 dX12_both_15 (fun r15 d15 h15 => ?_)
  rw [h15.1]
  refine m_istore dX12_both_18 (Nat.le_of_ble_eq_true rfl) rfl ?_
  refine m_aload_n dX12_both_20 rfl ?_
  refine m_get fl_X12_17 (by decide) rfl rfl dX12_both_21 ?_
  refine m_iload_n dX12_both_24 rfl ?_
  refine m_iald (by first | exact ⟨by decide, by decide, fun _ => rfl⟩ | exact isI_arr _ (by omega) | exact isI_mv _ (by omega) | exact isI_ne _ (by omega)) (by omega) dX12_both_25 ?_
  refine m_eqi ((by rw [(h15.2.2.2.2 242 (by simp)).1]; exact hA : _ = nI (σ.2.2 n).length)) ?_
  refine m_iload dX12_both_26 rfl ?_
  first | refine m_isubN dX12_both_28 (by omega) ?_ | refine m_isub dX12_both_28 ?_
  refine m_eqi ((by rw [← hL1, Nat.add_sub_cancel_left] : _ = nI us.length)) ?_
  refine m_istore dX12_both_29 (Nat.le_of_ble_eq_true rfl) rfl ?_
  refine m_aload_n dX12_both_31 rfl ?_
  refine m_get fl_X12_17 (by decide) rfl rfl dX12_both_32 ?_
  refine m_iload_n dX12_both_35 rfl ?_
  refine m_iald (by first | exact ⟨by decide, by decide, fun _ => rfl⟩ | exact isI_arr _ (by omega) | exact isI_mv _ (by omega) | exact isI_ne _ (by omega)) (by omega) dX12_both_36 ?_
  refine m_eqi ((by rw [(h15.2.2.2.2 242 (by simp)).1]; exact hB : _ = nI (σ.2.2 n2).length)) ?_
  refine m_iload dX12_both_37 rfl ?_
  first | refine m_isubN dX12_both_39 (by omega) ?_ | refine m_isub dX12_both_39 ?_
  refine m_eqi ((by rw [← hL2, Nat.add_sub_cancel_left] : _ = nI vs.length)) ?_
  refine m_istore dX12_both_40 (Nat.le_of_ble_eq_true rfl) rfl ?_
  refine m_iconstN 0 dX12_both_42 (by decide) ?_
  refine m_istore dX12_both_43 (Nat.le_of_ble_eq_true rfl) rfl ?_
  exact loop1 0 (Nat.zero_le _) d15 _ (fun a ha => absurd ha (Nat.not_lt_zero a)) h15.2.2.2.1 h15.2.1 h15.2.2.1 h15.2.2.2.2
end MOD
