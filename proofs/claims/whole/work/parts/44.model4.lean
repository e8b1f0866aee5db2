/-! the law's model: looks, same, apart, free -/
theorem look_skip {xs : List Nat} {i s : Nat} (h : i < xs.length) (hs : s.testBit (xs.getD i 0) = false) : look (xs.drop i) s = look (xs.drop (i + 1)) s := by
  rw [getD_at h] at hs
  rw [drop_c h]
  unfold look
  rw [List.filter_cons_of_neg (by rw [hs]; decide)]
theorem look_take {xs : List Nat} {i s : Nat} (h : i < xs.length) (hs : s.testBit (xs.getD i 0) = true) : look (xs.drop i) s = xs.getD i 0 :: look (xs.drop (i + 1)) s := by
  rw [getD_at h] at hs ⊢
  rw [drop_c h]
  unfold look
  rw [List.filter_cons_of_pos (by simpa using hs)]
theorem look_end {xs : List Nat} {i s : Nat} (h : xs.length ≤ i) : look (xs.drop i) s = [] := by
  rw [List.drop_eq_nil_of_le h]; rfl
theorem pq_tb {p q x : Nat} : (2 ^ p ||| 2 ^ q).testBit x = decide (x = p ∨ x = q) := by
  rw [Nat.testBit_or, Nat.testBit_two_pow, Nat.testBit_two_pow]
  by_cases h1 : p = x <;> by_cases h2 : q = x <;> simp [h1, h2, eq_comm]
section MOD
variable {l : Launch} {W : xW} {dep : Nat} {d : xD} {bs : List Nat} {σ : St} {x y z w : Int32} {n n2 k : Nat} {fb : Nat → Nat}
theorem s_X12_areLooksAlike {a b p q : Nat} (ha : a < 4) (hb : b < 4) (hp : p < 6) (hq : q < 6) (hk : σ.1 ≤ 6) (hs : moHp d σ.1 σ.2.2) : mSpecI l W mX12_areLooksAlike dep [.ref (xad W 240), .int (nI a), .int (nI b), .int (nI p), .int (nI q)] d (fun r d' => r = (if look (σ.2.2 a) (2 ^ p ||| 2 ^ q) = look (σ.2.2 b) (2 ^ p ||| 2 ^ q) then 1 else 0) ∧ d' = d) := by
  obtain ⟨hA, hAl, hAg, hAx0⟩ := hs a ha
  obtain ⟨hB, hBl, hBg, hBx0⟩ := hs b hb
  have hAx : ∀ i, i < (σ.2.2 a).length → (σ.2.2 a).getD i 0 < 6 := fun i hi => by rw [getD_at hi]; have := hAx0 _ (List.getElem_mem hi); omega
  have hBx : ∀ i, i < (σ.2.2 b).length → (σ.2.2 b).getD i 0 < 6 := fun i hi => by rw [getD_at hi]; have := hBx0 _ (List.getElem_mem hi); omega
  generalize σ.2.2 a = xs at hA hAl hAg hAx ⊢
  generalize σ.2.2 b = ys at hB hBl hBg hBx ⊢
  refine m_spec RX12 [some (.ref (xad W 240)), some (.int (nI a)), some (.int (nI b)), some (.int (nI p)), some (.int (nI q)), none, none, none, none] rfl (by decide +kernel) rfl rfl (fun K hR => ?_)
  have outer : ∀ N i j o7 o8, (xs.length - i) + (ys.length - j) = N → i ≤ xs.length + 1 → j ≤ ys.length + 1 → (i ≤ xs.length ∧ j ≤ ys.length ∨ xs.length ≤ i ∧ ys.length ≤ j) → (look xs (2 ^ p ||| 2 ^ q) = look ys (2 ^ p ||| 2 ^ q) ↔ look (xs.drop i) (2 ^ p ||| 2 ^ q) = look (ys.drop j) (2 ^ p ||| 2 ^ q)) → mG W K cX12_areLooksAlike RX12 dep d 6 [some (.ref (xad W 240)), some (.int (nI a)), some (.int (nI b)), some (.int (nI p)), some (.int (nI q)), some (.int (nI i)), some (.int (nI j)), o7, o8] [] := by
    intro N
    induction N using Nat.strongRecOn with
    | _ N ihN =>
    intro i j o7 o8 hN hi hj hij hE
    by_cases hpos : 0 < N
    · have hij2 : i ≤ xs.length ∧ j ≤ ys.length := by omega
      have stage3 : ∀ i j o7 o8, i ≤ xs.length → j ≤ ys.length → (xs.length - i) + (ys.length - j) ≤ N → (i < xs.length → (2 ^ p ||| 2 ^ q).testBit (xs.getD i 0) = true) → (j < ys.length → (2 ^ p ||| 2 ^ q).testBit (ys.getD j 0) = true) → (look xs (2 ^ p ||| 2 ^ q) = look ys (2 ^ p ||| 2 ^ q) ↔ look (xs.drop i) (2 ^ p ||| 2 ^ q) = look (ys.drop j) (2 ^ p ||| 2 ^ q)) → mG W K cX12_areLooksAlike RX12 dep d 128 [some (.ref (xad W 240)), some (.int (nI a)), some (.int (nI b)), some (.int (nI p)), some (.int (nI q)), some (.int (nI i)), some (.int (nI j)), o7, o8] [] := by
        intro i j o7 o8 hi hj hle sx sy hE
        by_cases hin : i < xs.length
        · have hxi := hAx i hin
          rw [look_take hin (sx hin)] at hE
          by_cases hjn : j < ys.length
          · have hyj := hBx j hjn
            rw [look_take hjn (sy hjn)] at hE
            refine m_iload dX12_areLooksAlike_128 rfl ?_
            refine m_aload_n dX12_areLooksAlike_130 rfl ?_
            refine m_get fl_X12_17 (by decide) rfl rfl dX12_areLooksAlike_131 ?_
            refine m_iload_n dX12_areLooksAlike_134 rfl ?_
            refine m_iald (by first | exact ⟨by decide, by decide, fun _ => rfl⟩ | exact isI_arr _ (by omega) | exact isI_mv _ (by omega) | exact isI_ne _ (by omega)) (by omega) dX12_areLooksAlike_135 ?_
            refine m_eqi (hA) ?_
            first | refine m_icmp_geN 154 dX12_areLooksAlike_136 (by decide) (by omega) (by omega) (fun c136 => by exfalso; omega) (fun c136 => ?_) | refine m_icmp_ge 154 dX12_areLooksAlike_136 (by decide) (fun c136 => by exfalso; omega) (fun c136 => ?_)
            refine m_aload_n dX12_areLooksAlike_139 rfl ?_
            refine m_get fl_X12_20 (by decide) rfl rfl dX12_areLooksAlike_140 ?_
            refine m_bipushN 24 dX12_areLooksAlike_143 (by decide) ?_
            refine m_iload_n dX12_areLooksAlike_145 rfl ?_
            first | refine m_imulN dX12_areLooksAlike_146 ?_ | refine m_imul dX12_areLooksAlike_146 ?_
            refine m_iload dX12_areLooksAlike_147 rfl ?_
            first | refine m_iaddN dX12_areLooksAlike_149 ?_ | refine m_iadd dX12_areLooksAlike_149 ?_
            refine m_iald (by first | exact ⟨by decide, by decide, fun _ => rfl⟩ | exact isI_arr _ (by omega) | exact isI_mv _ (by omega) | exact isI_ne _ (by omega)) (by omega) dX12_areLooksAlike_150 ?_
            refine m_eqi (hAg i hin) ?_
            refine m_goto 155 dX12_areLooksAlike_151 (by decide) ?_
            refine m_istore dX12_areLooksAlike_155 (Nat.le_of_ble_eq_true rfl) rfl ?_
            refine m_iload dX12_areLooksAlike_157 rfl ?_
            refine m_aload_n dX12_areLooksAlike_159 rfl ?_
            refine m_get fl_X12_17 (by decide) rfl rfl dX12_areLooksAlike_160 ?_
            refine m_iload_n dX12_areLooksAlike_163 rfl ?_
            refine m_iald (by first | exact ⟨by decide, by decide, fun _ => rfl⟩ | exact isI_arr _ (by omega) | exact isI_mv _ (by omega) | exact isI_ne _ (by omega)) (by omega) dX12_areLooksAlike_164 ?_
            refine m_eqi (hB) ?_
            first | refine m_icmp_geN 183 dX12_areLooksAlike_165 (by decide) (by omega) (by omega) (fun c165 => by exfalso; omega) (fun c165 => ?_) | refine m_icmp_ge 183 dX12_areLooksAlike_165 (by decide) (fun c165 => by exfalso; omega) (fun c165 => ?_)
            refine m_aload_n dX12_areLooksAlike_168 rfl ?_
            refine m_get fl_X12_20 (by decide) rfl rfl dX12_areLooksAlike_169 ?_
            refine m_bipushN 24 dX12_areLooksAlike_172 (by decide) ?_
            refine m_iload_n dX12_areLooksAlike_174 rfl ?_
            first | refine m_imulN dX12_areLooksAlike_175 ?_ | refine m_imul dX12_areLooksAlike_175 ?_
            refine m_iload dX12_areLooksAlike_176 rfl ?_
            first | refine m_iaddN dX12_areLooksAlike_178 ?_ | refine m_iadd dX12_areLooksAlike_178 ?_
            refine m_iald (by first | exact ⟨by decide, by decide, fun _ => rfl⟩ | exact isI_arr _ (by omega) | exact isI_mv _ (by omega) | exact isI_ne _ (by omega)) (by omega) dX12_areLooksAlike_179 ?_
            refine m_eqi (hBg j hjn) ?_
            refine m_goto 184 dX12_areLooksAlike_180 (by decide) ?_
            refine m_istore dX12_areLooksAlike_184 (Nat.le_of_ble_eq_true rfl) rfl ?_
            refine m_iload dX12_areLooksAlike_186 rfl ?_
            refine m_iload dX12_areLooksAlike_188 rfl ?_
            first | refine m_icmp_eqN 195 dX12_areLooksAlike_190 (by decide) (by omega) (by omega) (fun c190 => ?_) (fun c190 => ?_) | refine m_icmp_eq 195 dX12_areLooksAlike_190 (by decide) (fun c190 => ?_) (fun c190 => ?_)
            · first | refine m_iincN 1 dX12_areLooksAlike_195 (by decide) rfl rfl ?_ | refine m_iinc dX12_areLooksAlike_195 rfl rfl ?_
              first | refine m_iincN 1 dX12_areLooksAlike_198 (by decide) rfl rfl ?_ | refine m_iinc dX12_areLooksAlike_198 rfl rfl ?_
              refine m_goto 6 dX12_areLooksAlike_201 (by decide) ?_
              exact ihN _ (by omega) (i + 1) (j + 1) _ _ rfl (by omega) (by omega) (by omega) (hE.trans ⟨fun h => (List.cons.inj h).2, fun h => by rw [c190, h]⟩)
            · refine m_iconstN 0 dX12_areLooksAlike_193 (by decide) ?_
              exact m_iret (ty := .boolean) hR dX12_areLooksAlike_194 (⟨by rw [if_neg (fun z => c190 (List.cons.inj (hE.mp z)).1)]; rfl, rfl⟩)
          · rw [look_end (i := j) (by omega)] at hE
            refine m_iload dX12_areLooksAlike_128 rfl ?_
            refine m_aload_n dX12_areLooksAlike_130 rfl ?_
            refine m_get fl_X12_17 (by decide) rfl rfl dX12_areLooksAlike_131 ?_
            refine m_iload_n dX12_areLooksAlike_134 rfl ?_
            refine m_iald (by first | exact ⟨by decide, by decide, fun _ => rfl⟩ | exact isI_arr _ (by omega) | exact isI_mv _ (by omega) | exact isI_ne _ (by omega)) (by omega) dX12_areLooksAlike_135 ?_
            refine m_eqi (hA) ?_
            first | refine m_icmp_geN 154 dX12_areLooksAlike_136 (by decide) (by omega) (by omega) (fun c136 => by exfalso; omega) (fun c136 => ?_) | refine m_icmp_ge 154 dX12_areLooksAlike_136 (by decide) (fun c136 => by exfalso; omega) (fun c136 => ?_)
            refine m_aload_n dX12_areLooksAlike_139 rfl ?_
            refine m_get fl_X12_20 (by decide) rfl rfl dX12_areLooksAlike_140 ?_
            refine m_bipushN 24 dX12_areLooksAlike_143 (by decide) ?_
            refine m_iload_n dX12_areLooksAlike_145 rfl ?_
            first | refine m_imulN dX12_areLooksAlike_146 ?_ | refine m_imul dX12_areLooksAlike_146 ?_
            refine m_iload dX12_areLooksAlike_147 rfl ?_
            first | refine m_iaddN dX12_areLooksAlike_149 ?_ | refine m_iadd dX12_areLooksAlike_149 ?_
            refine m_iald (by first | exact ⟨by decide, by decide, fun _ => rfl⟩ | exact isI_arr _ (by omega) | exact isI_mv _ (by omega) | exact isI_ne _ (by omega)) (by omega) dX12_areLooksAlike_150 ?_
            refine m_eqi (hAg i hin) ?_
            refine m_goto 155 dX12_areLooksAlike_151 (by decide) ?_
            refine m_istore dX12_areLooksAlike_155 (Nat.le_of_ble_eq_true rfl) rfl ?_
            refine m_iload dX12_areLooksAlike_157 rfl ?_
            refine m_aload_n dX12_areLooksAlike_159 rfl ?_
            refine m_get fl_X12_17 (by decide) rfl rfl dX12_areLooksAlike_160 ?_
            refine m_iload_n dX12_areLooksAlike_163 rfl ?_
            refine m_iald (by first | exact ⟨by decide, by decide, fun _ => rfl⟩ | exact isI_arr _ (by omega) | exact isI_mv _ (by omega) | exact isI_ne _ (by omega)) (by omega) dX12_areLooksAlike_164 ?_
            refine m_eqi (hB) ?_
            first | refine m_icmp_geN 183 dX12_areLooksAlike_165 (by decide) (by omega) (by omega) (fun c165 => ?_) (fun c165 => by exfalso; omega) | refine m_icmp_ge 183 dX12_areLooksAlike_165 (by decide) (fun c165 => ?_) (fun c165 => by exfalso; omega)
            refine m_iconst (v := -1) dX12_areLooksAlike_183 (by decide) ?_
            refine m_istore dX12_areLooksAlike_184 (Nat.le_of_ble_eq_true rfl) rfl ?_
            refine m_iload dX12_areLooksAlike_186 rfl ?_
            refine m_iload dX12_areLooksAlike_188 rfl ?_
            refine m_icmp_eq 195 dX12_areLooksAlike_190 (by decide) (fun c190 => by exfalso; exact absurd c190 (nI_m1 (by omega))) (fun c190 => ?_)
            refine m_iconstN 0 dX12_areLooksAlike_193 (by decide) ?_
            exact m_iret (ty := .boolean) hR dX12_areLooksAlike_194 (⟨by rw [if_neg (fun z => List.cons_ne_nil _ _ (hE.mp z))]; rfl, rfl⟩)
        · rw [look_end (i := i) (by omega)] at hE
          by_cases hjn : j < ys.length
          · have hyj := hBx j hjn
            rw [look_take hjn (sy hjn)] at hE
            refine m_iload dX12_areLooksAlike_128 rfl ?_
            refine m_aload_n dX12_areLooksAlike_130 rfl ?_
            refine m_get fl_X12_17 (by decide) rfl rfl dX12_areLooksAlike_131 ?_
            refine m_iload_n dX12_areLooksAlike_134 rfl ?_
            refine m_iald (by first | exact ⟨by decide, by decide, fun _ => rfl⟩ | exact isI_arr _ (by omega) | exact isI_mv _ (by omega) | exact isI_ne _ (by omega)) (by omega) dX12_areLooksAlike_135 ?_
            refine m_eqi (hA) ?_
            first | refine m_icmp_geN 154 dX12_areLooksAlike_136 (by decide) (by omega) (by omega) (fun c136 => ?_) (fun c136 => by exfalso; omega) | refine m_icmp_ge 154 dX12_areLooksAlike_136 (by decide) (fun c136 => ?_) (fun c136 => by exfalso; omega)
            refine m_iconst (v := -1) dX12_areLooksAlike_154 (by decide) ?_
            refine m_istore dX12_areLooksAlike_155 (Nat.le_of_ble_eq_true rfl) rfl ?_
            refine m_iload dX12_areLooksAlike_157 rfl ?_
            refine m_aload_n dX12_areLooksAlike_159 rfl ?_
            refine m_get fl_X12_17 (by decide) rfl rfl dX12_areLooksAlike_160 ?_
            refine m_iload_n dX12_areLooksAlike_163 rfl ?_
            refine m_iald (by first | exact ⟨by decide, by decide, fun _ => rfl⟩ | exact isI_arr _ (by omega) | exact isI_mv _ (by omega) | exact isI_ne _ (by omega)) (by omega) dX12_areLooksAlike_164 ?_
            refine m_eqi (hB) ?_
            first | refine m_icmp_geN 183 dX12_areLooksAlike_165 (by decide) (by omega) (by omega) (fun c165 => by exfalso; omega) (fun c165 => ?_) | refine m_icmp_ge 183 dX12_areLooksAlike_165 (by decide) (fun c165 => by exfalso; omega) (fun c165 => ?_)
            refine m_aload_n dX12_areLooksAlike_168 rfl ?_
            refine m_get fl_X12_20 (by decide) rfl rfl dX12_areLooksAlike_169 ?_
            refine m_bipushN 24 dX12_areLooksAlike_172 (by decide) ?_
            refine m_iload_n dX12_areLooksAlike_174 rfl ?_
            first | refine m_imulN dX12_areLooksAlike_175 ?_ | refine m_imul dX12_areLooksAlike_175 ?_
            refine m_iload dX12_areLooksAlike_176 rfl ?_
            first | refine m_iaddN dX12_areLooksAlike_178 ?_ | refine m_iadd dX12_areLooksAlike_178 ?_
            refine m_iald (by first | exact ⟨by decide, by decide, fun _ => rfl⟩ | exact isI_arr _ (by omega) | exact isI_mv _ (by omega) | exact isI_ne _ (by omega)) (by omega) dX12_areLooksAlike_179 ?_
            refine m_eqi (hBg j hjn) ?_
            refine m_goto 184 dX12_areLooksAlike_180 (by decide) ?_
            refine m_istore dX12_areLooksAlike_184 (Nat.le_of_ble_eq_true rfl) rfl ?_
            refine m_iload dX12_areLooksAlike_186 rfl ?_
            refine m_iload dX12_areLooksAlike_188 rfl ?_
            refine m_icmp_eq 195 dX12_areLooksAlike_190 (by decide) (fun c190 => by exfalso; exact absurd c190.symm (nI_m1 (by omega))) (fun c190 => ?_)
            refine m_iconstN 0 dX12_areLooksAlike_193 (by decide) ?_
            exact m_iret (ty := .boolean) hR dX12_areLooksAlike_194 (⟨by rw [if_neg (fun z => List.cons_ne_nil _ _ (hE.mp z).symm)]; rfl, rfl⟩)
          · rw [look_end (i := j) (by omega)] at hE
            refine m_iload dX12_areLooksAlike_128 rfl ?_
            refine m_aload_n dX12_areLooksAlike_130 rfl ?_
            refine m_get fl_X12_17 (by decide) rfl rfl dX12_areLooksAlike_131 ?_
            refine m_iload_n dX12_areLooksAlike_134 rfl ?_
            refine m_iald (by first | exact ⟨by decide, by decide, fun _ => rfl⟩ | exact isI_arr _ (by omega) | exact isI_mv _ (by omega) | exact isI_ne _ (by omega)) (by omega) dX12_areLooksAlike_135 ?_
            refine m_eqi (hA) ?_
            first | refine m_icmp_geN 154 dX12_areLooksAlike_136 (by decide) (by omega) (by omega) (fun c136 => ?_) (fun c136 => by exfalso; omega) | refine m_icmp_ge 154 dX12_areLooksAlike_136 (by decide) (fun c136 => ?_) (fun c136 => by exfalso; omega)
            refine m_iconst (v := -1) dX12_areLooksAlike_154 (by decide) ?_
            refine m_istore dX12_areLooksAlike_155 (Nat.le_of_ble_eq_true rfl) rfl ?_
            refine m_iload dX12_areLooksAlike_157 rfl ?_
            refine m_aload_n dX12_areLooksAlike_159 rfl ?_
            refine m_get fl_X12_17 (by decide) rfl rfl dX12_areLooksAlike_160 ?_
            refine m_iload_n dX12_areLooksAlike_163 rfl ?_
            refine m_iald (by first | exact ⟨by decide, by decide, fun _ => rfl⟩ | exact isI_arr _ (by omega) | exact isI_mv _ (by omega) | exact isI_ne _ (by omega)) (by omega) dX12_areLooksAlike_164 ?_
            refine m_eqi (hB) ?_
            first | refine m_icmp_geN 183 dX12_areLooksAlike_165 (by decide) (by omega) (by omega) (fun c165 => ?_) (fun c165 => by exfalso; omega) | refine m_icmp_ge 183 dX12_areLooksAlike_165 (by decide) (fun c165 => ?_) (fun c165 => by exfalso; omega)
            refine m_iconst (v := -1) dX12_areLooksAlike_183 (by decide) ?_
            refine m_istore dX12_areLooksAlike_184 (Nat.le_of_ble_eq_true rfl) rfl ?_
            refine m_iload dX12_areLooksAlike_186 rfl ?_
            refine m_iload dX12_areLooksAlike_188 rfl ?_
            refine m_icmp_eq 195 dX12_areLooksAlike_190 (by decide) (fun c190 => ?_) (fun c190 => by exfalso; exact c190 rfl)
            first | refine m_iincN 1 dX12_areLooksAlike_195 (by decide) rfl rfl ?_ | refine m_iinc dX12_areLooksAlike_195 rfl rfl ?_
            first | refine m_iincN 1 dX12_areLooksAlike_198 (by decide) rfl rfl ?_ | refine m_iinc dX12_areLooksAlike_198 rfl rfl ?_
            refine m_goto 6 dX12_areLooksAlike_201 (by decide) ?_
            exact ihN 0 hpos (i + 1) (j + 1) _ _ (by omega) (by omega) (by omega) (by omega) (hE.trans (by rw [look_end (i := i + 1) (by omega), look_end (i := j + 1) (by omega)]))
      have stage2 : ∀ i o7 o8, i ≤ xs.length → (i < xs.length → (2 ^ p ||| 2 ^ q).testBit (xs.getD i 0) = true) → ∀ j, j ≤ ys.length → (xs.length - i) + (ys.length - j) ≤ N → (look xs (2 ^ p ||| 2 ^ q) = look ys (2 ^ p ||| 2 ^ q) ↔ look (xs.drop i) (2 ^ p ||| 2 ^ q) = look (ys.drop j) (2 ^ p ||| 2 ^ q)) → mG W K cX12_areLooksAlike RX12 dep d 78 [some (.ref (xad W 240)), some (.int (nI a)), some (.int (nI b)), some (.int (nI p)), some (.int (nI q)), some (.int (nI i)), some (.int (nI j)), o7, o8] [] := fun i o7 o8 hi sx => x_up _ (fun j hj ih hle hE => by
        by_cases hjn : j < ys.length
        · have hyj := hBx j hjn
          refine m_iload dX12_areLooksAlike_78 rfl ?_
          refine m_aload_n dX12_areLooksAlike_80 rfl ?_
          refine m_get fl_X12_17 (by decide) rfl rfl dX12_areLooksAlike_81 ?_
          refine m_iload_n dX12_areLooksAlike_84 rfl ?_
          refine m_iald (by first | exact ⟨by decide, by decide, fun _ => rfl⟩ | exact isI_arr _ (by omega) | exact isI_mv _ (by omega) | exact isI_ne _ (by omega)) (by omega) dX12_areLooksAlike_85 ?_
          refine m_eqi (hB) ?_
          first | refine m_icmp_geN 128 dX12_areLooksAlike_86 (by decide) (by omega) (by omega) (fun c86 => by exfalso; omega) (fun c86 => ?_) | refine m_icmp_ge 128 dX12_areLooksAlike_86 (by decide) (fun c86 => by exfalso; omega) (fun c86 => ?_)
          refine m_aload_n dX12_areLooksAlike_89 rfl ?_
          refine m_get fl_X12_20 (by decide) rfl rfl dX12_areLooksAlike_90 ?_
          refine m_bipushN 24 dX12_areLooksAlike_93 (by decide) ?_
          refine m_iload_n dX12_areLooksAlike_95 rfl ?_
          first | refine m_imulN dX12_areLooksAlike_96 ?_ | refine m_imul dX12_areLooksAlike_96 ?_
          refine m_iload dX12_areLooksAlike_97 rfl ?_
          first | refine m_iaddN dX12_areLooksAlike_99 ?_ | refine m_iadd dX12_areLooksAlike_99 ?_
          refine m_iald (by first | exact ⟨by decide, by decide, fun _ => rfl⟩ | exact isI_arr _ (by omega) | exact isI_mv _ (by omega) | exact isI_ne _ (by omega)) (by omega) dX12_areLooksAlike_100 ?_
          refine m_eqi (hBg j hjn) ?_
          refine m_iload_n dX12_areLooksAlike_101 rfl ?_
          first | refine m_icmp_eqN 128 dX12_areLooksAlike_102 (by decide) (by omega) (by omega) (fun c102 => ?_) (fun c102 => ?_) | refine m_icmp_eq 128 dX12_areLooksAlike_102 (by decide) (fun c102 => ?_) (fun c102 => ?_)
          · exact stage3 i j o7 o8 hi hj hle sx (fun _ => by rw [pq_tb]; exact decide_eq_true (Or.inl c102)) hE
          · refine m_aload_n dX12_areLooksAlike_105 rfl ?_
            refine m_get fl_X12_20 (by decide) rfl rfl dX12_areLooksAlike_106 ?_
            refine m_bipushN 24 dX12_areLooksAlike_109 (by decide) ?_
            refine m_iload_n dX12_areLooksAlike_111 rfl ?_
            first | refine m_imulN dX12_areLooksAlike_112 ?_ | refine m_imul dX12_areLooksAlike_112 ?_
            refine m_iload dX12_areLooksAlike_113 rfl ?_
            first | refine m_iaddN dX12_areLooksAlike_115 ?_ | refine m_iadd dX12_areLooksAlike_115 ?_
            refine m_iald (by first | exact ⟨by decide, by decide, fun _ => rfl⟩ | exact isI_arr _ (by omega) | exact isI_mv _ (by omega) | exact isI_ne _ (by omega)) (by omega) dX12_areLooksAlike_116 ?_
            refine m_eqi (hBg j hjn) ?_
            refine m_iload dX12_areLooksAlike_117 rfl ?_
            first | refine m_icmp_eqN 128 dX12_areLooksAlike_119 (by decide) (by omega) (by omega) (fun c119 => ?_) (fun c119 => ?_) | refine m_icmp_eq 128 dX12_areLooksAlike_119 (by decide) (fun c119 => ?_) (fun c119 => ?_)
            · exact stage3 i j o7 o8 hi hj hle sx (fun _ => by rw [pq_tb]; exact decide_eq_true (Or.inr c119)) hE
            · first | refine m_iincN 1 dX12_areLooksAlike_122 (by decide) rfl rfl ?_ | refine m_iinc dX12_areLooksAlike_122 rfl rfl ?_
              refine m_goto 78 dX12_areLooksAlike_125 (by decide) ?_
              exact ih hjn (by omega) (by rw [← look_skip hjn (by rw [pq_tb]; exact decide_eq_false (fun z => z.elim c102 c119))]; exact hE)
        · skip
          refine m_iload dX12_areLooksAlike_78 rfl ?_
          refine m_aload_n dX12_areLooksAlike_80 rfl ?_
          refine m_get fl_X12_17 (by decide) rfl rfl dX12_areLooksAlike_81 ?_
          refine m_iload_n dX12_areLooksAlike_84 rfl ?_
          refine m_iald (by first | exact ⟨by decide, by decide, fun _ => rfl⟩ | exact isI_arr _ (by omega) | exact isI_mv _ (by omega) | exact isI_ne _ (by omega)) (by omega) dX12_areLooksAlike_85 ?_
          refine m_eqi (hB) ?_
          first | refine m_icmp_geN 128 dX12_areLooksAlike_86 (by decide) (by omega) (by omega) (fun c86 => ?_) (fun c86 => by exfalso; omega) | refine m_icmp_ge 128 dX12_areLooksAlike_86 (by decide) (fun c86 => ?_) (fun c86 => by exfalso; omega)
          exact stage3 i j o7 o8 hi hj hle sx (fun h => absurd h hjn) hE
        )
      have stage1 : ∀ o7 o8, j ≤ ys.length → ∀ i, i ≤ xs.length → (xs.length - i) + (ys.length - j) ≤ N → (look xs (2 ^ p ||| 2 ^ q) = look ys (2 ^ p ||| 2 ^ q) ↔ look (xs.drop i) (2 ^ p ||| 2 ^ q) = look (ys.drop j) (2 ^ p ||| 2 ^ q)) → mG W K cX12_areLooksAlike RX12 dep d 28 [some (.ref (xad W 240)), some (.int (nI a)), some (.int (nI b)), some (.int (nI p)), some (.int (nI q)), some (.int (nI i)), some (.int (nI j)), o7, o8] [] := fun o7 o8 hj => x_up _ (fun i hi ih hle hE => by
        by_cases hin : i < xs.length
        · have hxi := hAx i hin
          refine m_iload dX12_areLooksAlike_28 rfl ?_
          refine m_aload_n dX12_areLooksAlike_30 rfl ?_
          refine m_get fl_X12_17 (by decide) rfl rfl dX12_areLooksAlike_31 ?_
          refine m_iload_n dX12_areLooksAlike_34 rfl ?_
          refine m_iald (by first | exact ⟨by decide, by decide, fun _ => rfl⟩ | exact isI_arr _ (by omega) | exact isI_mv _ (by omega) | exact isI_ne _ (by omega)) (by omega) dX12_areLooksAlike_35 ?_
          refine m_eqi (hA) ?_
          first | refine m_icmp_geN 78 dX12_areLooksAlike_36 (by decide) (by omega) (by omega) (fun c36 => by exfalso; omega) (fun c36 => ?_) | refine m_icmp_ge 78 dX12_areLooksAlike_36 (by decide) (fun c36 => by exfalso; omega) (fun c36 => ?_)
          refine m_aload_n dX12_areLooksAlike_39 rfl ?_
          refine m_get fl_X12_20 (by decide) rfl rfl dX12_areLooksAlike_40 ?_
          refine m_bipushN 24 dX12_areLooksAlike_43 (by decide) ?_
          refine m_iload_n dX12_areLooksAlike_45 rfl ?_
          first | refine m_imulN dX12_areLooksAlike_46 ?_ | refine m_imul dX12_areLooksAlike_46 ?_
          refine m_iload dX12_areLooksAlike_47 rfl ?_
          first | refine m_iaddN dX12_areLooksAlike_49 ?_ | refine m_iadd dX12_areLooksAlike_49 ?_
          refine m_iald (by first | exact ⟨by decide, by decide, fun _ => rfl⟩ | exact isI_arr _ (by omega) | exact isI_mv _ (by omega) | exact isI_ne _ (by omega)) (by omega) dX12_areLooksAlike_50 ?_
          refine m_eqi (hAg i hin) ?_
          refine m_iload_n dX12_areLooksAlike_51 rfl ?_
          first | refine m_icmp_eqN 78 dX12_areLooksAlike_52 (by decide) (by omega) (by omega) (fun c52 => ?_) (fun c52 => ?_) | refine m_icmp_eq 78 dX12_areLooksAlike_52 (by decide) (fun c52 => ?_) (fun c52 => ?_)
          · exact stage2 i o7 o8 hi (fun _ => by rw [pq_tb]; exact decide_eq_true (Or.inl c52)) j hj hle hE
          · refine m_aload_n dX12_areLooksAlike_55 rfl ?_
            refine m_get fl_X12_20 (by decide) rfl rfl dX12_areLooksAlike_56 ?_
            refine m_bipushN 24 dX12_areLooksAlike_59 (by decide) ?_
            refine m_iload_n dX12_areLooksAlike_61 rfl ?_
            first | refine m_imulN dX12_areLooksAlike_62 ?_ | refine m_imul dX12_areLooksAlike_62 ?_
            refine m_iload dX12_areLooksAlike_63 rfl ?_
            first | refine m_iaddN dX12_areLooksAlike_65 ?_ | refine m_iadd dX12_areLooksAlike_65 ?_
            refine m_iald (by first | exact ⟨by decide, by decide, fun _ => rfl⟩ | exact isI_arr _ (by omega) | exact isI_mv _ (by omega) | exact isI_ne _ (by omega)) (by omega) dX12_areLooksAlike_66 ?_
            refine m_eqi (hAg i hin) ?_
            refine m_iload dX12_areLooksAlike_67 rfl ?_
            first | refine m_icmp_eqN 78 dX12_areLooksAlike_69 (by decide) (by omega) (by omega) (fun c69 => ?_) (fun c69 => ?_) | refine m_icmp_eq 78 dX12_areLooksAlike_69 (by decide) (fun c69 => ?_) (fun c69 => ?_)
            · exact stage2 i o7 o8 hi (fun _ => by rw [pq_tb]; exact decide_eq_true (Or.inr c69)) j hj hle hE
            · first | refine m_iincN 1 dX12_areLooksAlike_72 (by decide) rfl rfl ?_ | refine m_iinc dX12_areLooksAlike_72 rfl rfl ?_
              refine m_goto 28 dX12_areLooksAlike_75 (by decide) ?_
              exact ih hin (by omega) (by rw [← look_skip hin (by rw [pq_tb]; exact decide_eq_false (fun z => z.elim c52 c69))]; exact hE)
        · skip
          refine m_iload dX12_areLooksAlike_28 rfl ?_
          refine m_aload_n dX12_areLooksAlike_30 rfl ?_
          refine m_get fl_X12_17 (by decide) rfl rfl dX12_areLooksAlike_31 ?_
          refine m_iload_n dX12_areLooksAlike_34 rfl ?_
          refine m_iald (by first | exact ⟨by decide, by decide, fun _ => rfl⟩ | exact isI_arr _ (by omega) | exact isI_mv _ (by omega) | exact isI_ne _ (by omega)) (by omega) dX12_areLooksAlike_35 ?_
          refine m_eqi (hA) ?_
          first | refine m_icmp_geN 78 dX12_areLooksAlike_36 (by decide) (by omega) (by omega) (fun c36 => ?_) (fun c36 => by exfalso; omega) | refine m_icmp_ge 78 dX12_areLooksAlike_36 (by decide) (fun c36 => ?_) (fun c36 => by exfalso; omega)
          exact stage2 i o7 o8 hi (fun h => absurd h hin) j hj hle hE
        )
      refine m_iload dX12_areLooksAlike_6 rfl ?_
      refine m_aload_n dX12_areLooksAlike_8 rfl ?_
      refine m_get fl_X12_17 (by decide) rfl rfl dX12_areLooksAlike_9 ?_
      refine m_iload_n dX12_areLooksAlike_12 rfl ?_
      refine m_iald (by first | exact ⟨by decide, by decide, fun _ => rfl⟩ | exact isI_arr _ (by omega) | exact isI_mv _ (by omega) | exact isI_ne _ (by omega)) (by omega) dX12_areLooksAlike_13 ?_
      refine m_eqi (hA) ?_
      first | refine m_icmp_ltN 28 dX12_areLooksAlike_14 (by decide) (by omega) (by omega) (fun c14 => ?_) (fun c14 => ?_) | refine m_icmp_lt 28 dX12_areLooksAlike_14 (by decide) (fun c14 => ?_) (fun c14 => ?_)
      · exact stage1 o7 o8 hij2.2 i hij2.1 (by omega) hE
      · refine m_iload dX12_areLooksAlike_17 rfl ?_
        refine m_aload_n dX12_areLooksAlike_19 rfl ?_
        refine m_get fl_X12_17 (by decide) rfl rfl dX12_areLooksAlike_20 ?_
        refine m_iload_n dX12_areLooksAlike_23 rfl ?_
        refine m_iald (by first | exact ⟨by decide, by decide, fun _ => rfl⟩ | exact isI_arr _ (by omega) | exact isI_mv _ (by omega) | exact isI_ne _ (by omega)) (by omega) dX12_areLooksAlike_24 ?_
        refine m_eqi (hB) ?_
        first | refine m_icmp_geN 204 dX12_areLooksAlike_25 (by decide) (by omega) (by omega) (fun c25 => by exfalso; omega) (fun c25 => ?_) | refine m_icmp_ge 204 dX12_areLooksAlike_25 (by decide) (fun c25 => by exfalso; omega) (fun c25 => ?_)
        exact stage1 o7 o8 hij2.2 i hij2.1 (by omega) hE
    · rw [look_end (by omega), look_end (by omega)] at hE
      refine m_iload dX12_areLooksAlike_6 rfl ?_
      refine m_aload_n dX12_areLooksAlike_8 rfl ?_
      refine m_get fl_X12_17 (by decide) rfl rfl dX12_areLooksAlike_9 ?_
      refine m_iload_n dX12_areLooksAlike_12 rfl ?_
      refine m_iald (by first | exact ⟨by decide, by decide, fun _ => rfl⟩ | exact isI_arr _ (by omega) | exact isI_mv _ (by omega) | exact isI_ne _ (by omega)) (by omega) dX12_areLooksAlike_13 ?_
      refine m_eqi (hA) ?_
      first | refine m_icmp_ltN 28 dX12_areLooksAlike_14 (by decide) (by omega) (by omega) (fun c14 => by exfalso; omega) (fun c14 => ?_) | refine m_icmp_lt 28 dX12_areLooksAlike_14 (by decide) (fun c14 => by exfalso; omega) (fun c14 => ?_)
      refine m_iload dX12_areLooksAlike_17 rfl ?_
      refine m_aload_n dX12_areLooksAlike_19 rfl ?_
      refine m_get fl_X12_17 (by decide) rfl rfl dX12_areLooksAlike_20 ?_
      refine m_iload_n dX12_areLooksAlike_23 rfl ?_
      refine m_iald (by first | exact ⟨by decide, by decide, fun _ => rfl⟩ | exact isI_arr _ (by omega) | exact isI_mv _ (by omega) | exact isI_ne _ (by omega)) (by omega) dX12_areLooksAlike_24 ?_
      refine m_eqi (hB) ?_
      first | refine m_icmp_geN 204 dX12_areLooksAlike_25 (by decide) (by omega) (by omega) (fun c25 => ?_) (fun c25 => by exfalso; omega) | refine m_icmp_ge 204 dX12_areLooksAlike_25 (by decide) (fun c25 => ?_) (fun c25 => by exfalso; omega)
      refine m_iconstN 1 dX12_areLooksAlike_204 (by decide) ?_
      exact m_iret (ty := .boolean) hR dX12_areLooksAlike_205 (⟨by rw [if_pos (hE.mpr rfl)]; rfl, rfl⟩)
  refine m_iconstN 0 dX12_areLooksAlike_0 (by decide) ?_
  refine m_istore dX12_areLooksAlike_1 (Nat.le_of_ble_eq_true rfl) rfl ?_
  refine m_iconstN 0 dX12_areLooksAlike_3 (by decide) ?_
  refine m_istore dX12_areLooksAlike_4 (Nat.le_of_ble_eq_true rfl) rfl ?_
  exact outer _ 0 0 none none rfl (by omega) (by omega) (Or.inl ⟨by omega, by omega⟩) (by rw [List.drop_zero, List.drop_zero])
theorem s_X12_apartOf {a b : Nat} (ha : a < 4) (hb : b < 4) (hs : moSt d σ) : mSpecI l W mX12_apartOf (dep + 1) [.ref (xad W 240), .int (nI a), .int (nI b)] d (fun r d' => apIs σ.1 (unl σ.1 σ.2.1 (σ.2.2 a) (σ.2.2 b)) r ∧ d' = d) := by
  have h := hs.1
  have hk := h.2.2.2.1
  generalize hxs : σ.2.2 a = xs
  generalize hys : σ.2.2 b = ys
  refine m_spec RX12 [some (.ref (xad W 240)), some (.int (nI a)), some (.int (nI b)), none, none] rfl (by decide +kernel) rfl rfl (fun K hR => ?_)
  have inner : ∀ p, p < σ.1 → (∀ p' q', p' ≤ q' → q' < σ.1 → p' < p → unl σ.1 σ.2.1 xs ys p' q' = false) → ((∀ p' q', p' ≤ q' → q' < σ.1 → p' < p + 1 → unl σ.1 σ.2.1 xs ys p' q' = false) → ∀ o4, mG W K cX12_apartOf RX12 (dep + 1) d 2 [some (.ref (xad W 240)), some (.int (nI a)), some (.int (nI b)), some (.int (nI (p + 1))), o4] []) → ∀ q, q ≤ σ.1 → p ≤ q → (∀ q', p ≤ q' → q' < q → unl σ.1 σ.2.1 xs ys p q' = false) → mG W K cX12_apartOf RX12 (dep + 1) d 13 [some (.ref (xad W 240)), some (.int (nI a)), some (.int (nI b)), some (.int (nI p)), some (.int (nI q))] [] := fun p hp hu hc => x_up _ (fun q hq ih hpq hg => by
    refine m_iload dX12_apartOf_13 rfl ?_
    refine m_aload_n dX12_apartOf_15 rfl ?_
    refine m_get fl_X12_7 (by decide) rfl rfl dX12_apartOf_16 ?_
    refine m_eqi (h.1) ?_
    first | refine m_icmp_geN 58 dX12_apartOf_19 (by decide) (by omega) (by omega) (fun c19 => ?_) (fun c19 => ?_) | refine m_icmp_ge 58 dX12_apartOf_19 (by decide) (fun c19 => ?_) (fun c19 => ?_)
    · first | refine m_iincN 1 dX12_apartOf_58 (by decide) rfl rfl ?_ | refine m_iinc dX12_apartOf_58 rfl rfl ?_
      refine m_goto 2 dX12_apartOf_61 (by decide) ?_
      refine hc (fun p' q' a b c => ?_) _
      by_cases e : p' = p
      · subst e; exact hg q' a (by omega)
      · exact hu p' q' a b (by omega)
    · refine m_aload_n dX12_apartOf_22 rfl ?_
      refine m_iload_n dX12_apartOf_23 rfl ?_
      refine m_iload dX12_apartOf_24 rfl ?_
      refine m_callVIp (s_X12_areFree h (p := p) (q := q) (by omega) (by omega)) cv_X12_168 dX12_apartOf_26 ?_
      refine m_if_ne 52 dX12_apartOf_29 (by decide) (fun c29 => ?_) (fun c29 => ?_)
      · first | refine m_iincN 1 dX12_apartOf_52 (by decide) rfl rfl ?_ | refine m_iinc dX12_apartOf_52 rfl rfl ?_
        refine m_goto 13 dX12_apartOf_55 (by decide) ?_
        refine ih (by omega) (by omega) (fun q' a b => ?_)
        by_cases e : q' = q
        · subst e; unfold unl; cases hf : (σ.2.1 p).testBit q' <;> simp_all
        · exact hg q' a (by omega)
      · refine m_aload_n dX12_apartOf_32 rfl ?_
        refine m_iload_n dX12_apartOf_33 rfl ?_
        refine m_iload_n dX12_apartOf_34 rfl ?_
        refine m_iload_n dX12_apartOf_35 rfl ?_
        refine m_iload dX12_apartOf_36 rfl ?_
        refine m_callVIp (s_X12_areLooksAlike (p := p) (q := q) ha hb (by omega) (by omega) hk hs.2) cv_X12_193 dX12_apartOf_38 ?_
        rw [hxs, hys]
        refine m_if_ne 52 dX12_apartOf_41 (by decide) (fun c41 => ?_) (fun c41 => ?_)
        · first | refine m_iincN 1 dX12_apartOf_52 (by decide) rfl rfl ?_ | refine m_iinc dX12_apartOf_52 rfl rfl ?_
          refine m_goto 13 dX12_apartOf_55 (by decide) ?_
          refine ih (by omega) (by omega) (fun q' a b => ?_)
          by_cases e : q' = q
          · subst e; unfold unl; cases hf : (σ.2.1 p).testBit q' <;> simp_all
          · exact hg q' a (by omega)
        · refine m_bipushN 8 dX12_apartOf_44 (by decide) ?_
          refine m_iload_n dX12_apartOf_46 rfl ?_
          first | refine m_imulN dX12_apartOf_47 ?_ | refine m_imul dX12_apartOf_47 ?_
          refine m_iload dX12_apartOf_48 rfl ?_
          first | refine m_iaddN dX12_apartOf_50 ?_ | refine m_iadd dX12_apartOf_50 ?_
          exact m_iret (ty := .int) hR dX12_apartOf_51 (⟨Or.inr ⟨p, q, hpq, by omega, by unfold unl; cases hf : (σ.2.1 p).testBit q <;> simp_all, fun p' q' a b c => by rcases c with c | ⟨rfl, c⟩; exact hu p' q' a b c; exact hg q' a c, rfl⟩, rfl⟩)
    )
  have loop : ∀ p, p ≤ σ.1 → (∀ p' q', p' ≤ q' → q' < σ.1 → p' < p → unl σ.1 σ.2.1 xs ys p' q' = false) → ∀ o4, mG W K cX12_apartOf RX12 (dep + 1) d 2 [some (.ref (xad W 240)), some (.int (nI a)), some (.int (nI b)), some (.int (nI p)), o4] [] := x_up _ (fun p hp ih hu o4 => by
    refine m_iload_n dX12_apartOf_2 rfl ?_
    refine m_aload_n dX12_apartOf_3 rfl ?_
    refine m_get fl_X12_7 (by decide) rfl rfl dX12_apartOf_4 ?_
    refine m_eqi (h.1) ?_
    first | refine m_icmp_geN 64 dX12_apartOf_7 (by decide) (by omega) (by omega) (fun c7 => ?_) (fun c7 => ?_) | refine m_icmp_ge 64 dX12_apartOf_7 (by decide) (fun c7 => ?_) (fun c7 => ?_)
    · refine m_iconst (v := -1) dX12_apartOf_64 (by decide) ?_
      exact m_iret (ty := .int) hR dX12_apartOf_65 (⟨Or.inl ⟨rfl, fun p' q' a b => hu p' q' a b (by omega)⟩, rfl⟩)
    · refine m_iload_n dX12_apartOf_10 rfl ?_
      refine m_istore dX12_apartOf_11 (Nat.le_of_ble_eq_true rfl) rfl ?_
      exact inner p (by omega) hu (ih (by omega)) p hp (Nat.le_refl _) (fun q' a b => by omega)
    )
  refine m_iconstN 0 dX12_apartOf_0 (by decide) ?_
  refine m_istore_n dX12_apartOf_1 (Nat.le_of_ble_eq_true rfl) rfl ?_
  exact loop 0 (Nat.zero_le _) (fun _ _ _ _ z => absurd z (Nat.not_lt_zero _)) none
theorem s_X12_same (hx : hN x = some n) (hy : hN y = some n2) (hs : moSt d σ) : mSpecI l W mX12_same (dep + 2) [.ref (xad W 240), .int x, .int y] d (fun r d' => r = (if eqvB σ.1 σ.2.1 (σ.2.2 n) (σ.2.2 n2) = true then 1 else 0) ∧ d' = d) := by
  have hk := hs.1.2.2.2.1
  obtain ⟨hn, rfl⟩ := hN_some hx
  obtain ⟨hn2, rfl⟩ := hN_some hy
  refine m_spec RX12 [some (.ref (xad W 240)), some (.int (nI n)), some (.int (nI n2))] rfl (by decide +kernel) rfl rfl (fun K hR => ?_)
  refine m_iload_n dX12_same_0 rfl ?_
  refine m_callSIp (s_X12_isHeap hx) cs_X12_172 dX12_same_1 ?_
  refine m_if_eq 14 dX12_same_4 (by decide) (fun c4 => by exfalso; exact absurd c4 (by decide)) (fun c4 => ?_)
  refine m_iload_n dX12_same_7 rfl ?_
  refine m_callSIp (s_X12_isHeap hy) cs_X12_172 dX12_same_8 ?_
  refine m_if_ne 17 dX12_same_11 (by decide) (fun c11 => ?_) (fun c11 => by exfalso; exact c11 (by decide))
  refine m_aload_n dX12_same_17 rfl ?_
  refine m_iload_n dX12_same_18 rfl ?_
  refine m_iload_n dX12_same_19 rfl ?_
  refine m_callVI (s_X12_apartOf hn hn2 hs) cv_X12_197 dX12_same_20 (fun r20 d20 h20 => ?_)
  obtain ⟨h20, rfl⟩ := h20
  refine m_iconst (v := -1) dX12_same_23 (by decide) ?_
  refine m_icmp_ne 31 dX12_same_24 (by decide) (fun c24 => ?_) (fun c24 => ?_)
  · refine m_iconstN 0 dX12_same_31 (by decide) ?_
    exact m_iret (ty := .int) hR dX12_same_32 (⟨by rw [if_neg (fun z => c24 ((h20.eqv hk).mpr z))]; rfl, rfl⟩)
  · refine m_iconstN 1 dX12_same_27 (by decide) ?_
    refine m_goto 32 dX12_same_28 (by decide) ?_
    exact m_iret (ty := .int) hR dX12_same_32 (⟨by rw [if_pos ((h20.eqv hk).mp (Decidable.not_not.mp c24))]; rfl, rfl⟩)
theorem s_X12_apart (hx : hN x = some n) (hy : hN y = some n2) (hs : moSt d σ) : mSpecI l W mX12_apart (dep + 2) [.ref (xad W 240), .int x, .int y] d (fun r d' => apIs σ.1 (unl σ.1 σ.2.1 (σ.2.2 n) (σ.2.2 n2)) r ∧ d' = d) := by
  obtain ⟨hn, rfl⟩ := hN_some hx
  obtain ⟨hn2, rfl⟩ := hN_some hy
  refine m_spec RX12 [some (.ref (xad W 240)), some (.int (nI n)), some (.int (nI n2))] rfl (by decide +kernel) rfl rfl (fun K hR => ?_)
  refine m_iload_n dX12_apart_0 rfl ?_
  refine m_callSIp (s_X12_isHeap hx) cs_X12_172 dX12_apart_1 ?_
  refine m_if_eq 23 dX12_apart_4 (by decide) (fun c4 => by exfalso; exact absurd c4 (by decide)) (fun c4 => ?_)
  refine m_iload_n dX12_apart_7 rfl ?_
  refine m_callSIp (s_X12_isHeap hy) cs_X12_172 dX12_apart_8 ?_
  refine m_if_eq 23 dX12_apart_11 (by decide) (fun c11 => by exfalso; exact absurd c11 (by decide)) (fun c11 => ?_)
  refine m_aload_n dX12_apart_14 rfl ?_
  refine m_iload_n dX12_apart_15 rfl ?_
  refine m_iload_n dX12_apart_16 rfl ?_
  refine m_callVI (s_X12_apartOf hn hn2 hs) cv_X12_197 dX12_apart_17 (fun r17 d17 h17 => ?_)
  refine m_goto 25 dX12_apart_20 (by decide) ?_
  exact m_iret (ty := .int) hR dX12_apart_25 (h17)
theorem s_X12_sameO (h : hN x = none ∨ hN y = none) : mSpecI l W mX12_same (dep + 2) [.ref (xad W 240), .int x, .int y] d (fun r d' => r = -2 ∧ d' = d) := by
  refine m_spec RX12 [some (.ref (xad W 240)), some (.int x), some (.int y)] rfl (by decide +kernel) rfl rfl (fun K hR => ?_)
  cases hx : hN x with
  | none =>
    refine m_iload_n dX12_same_0 rfl ?_
    refine m_callSIp (s_X12_isHeapO hx) cs_X12_172 dX12_same_1 ?_
    refine m_if_eq 14 dX12_same_4 (by decide) (fun c4 => ?_) (fun c4 => by exfalso; exact c4 rfl)
    refine m_bipush (v := -2) dX12_same_14 (by decide) ?_
    exact m_iret (ty := .int) hR dX12_same_16 (⟨rfl, rfl⟩)
  | some n =>
    refine m_iload_n dX12_same_0 rfl ?_
    refine m_callSIp (s_X12_isHeap hx) cs_X12_172 dX12_same_1 ?_
    refine m_if_eq 14 dX12_same_4 (by decide) (fun c4 => by exfalso; exact absurd c4 (by decide)) (fun c4 => ?_)
    refine m_iload_n dX12_same_7 rfl ?_
    refine m_callSIp (s_X12_isHeapO (h.resolve_left (by rw [hx]; exact fun z => by cases z))) cs_X12_172 dX12_same_8 ?_
    refine m_if_ne 17 dX12_same_11 (by decide) (fun c11 => by exfalso; exact c11 rfl) (fun c11 => ?_)
    refine m_bipush (v := -2) dX12_same_14 (by decide) ?_
    exact m_iret (ty := .int) hR dX12_same_16 (⟨rfl, rfl⟩)
theorem s_X12_apartO (h : hN x = none ∨ hN y = none) : mSpecI l W mX12_apart (dep + 2) [.ref (xad W 240), .int x, .int y] d (fun r d' => r = -2 ∧ d' = d) := by
  refine m_spec RX12 [some (.ref (xad W 240)), some (.int x), some (.int y)] rfl (by decide +kernel) rfl rfl (fun K hR => ?_)
  cases hx : hN x with
  | none =>
    refine m_iload_n dX12_apart_0 rfl ?_
    refine m_callSIp (s_X12_isHeapO hx) cs_X12_172 dX12_apart_1 ?_
    refine m_if_eq 23 dX12_apart_4 (by decide) (fun c4 => ?_) (fun c4 => by exfalso; exact c4 rfl)
    refine m_bipush (v := -2) dX12_apart_23 (by decide) ?_
    exact m_iret (ty := .int) hR dX12_apart_25 (⟨rfl, rfl⟩)
  | some n =>
    refine m_iload_n dX12_apart_0 rfl ?_
    refine m_callSIp (s_X12_isHeap hx) cs_X12_172 dX12_apart_1 ?_
    refine m_if_eq 23 dX12_apart_4 (by decide) (fun c4 => by exfalso; exact absurd c4 (by decide)) (fun c4 => ?_)
    refine m_iload_n dX12_apart_7 rfl ?_
    refine m_callSIp (s_X12_isHeapO (h.resolve_left (by rw [hx]; exact fun z => by cases z))) cs_X12_172 dX12_apart_8 ?_
    refine m_if_eq 23 dX12_apart_11 (by decide) (fun c11 => ?_) (fun c11 => by exfalso; exact c11 rfl)
    refine m_bipush (v := -2) dX12_apart_23 (by decide) ?_
    exact m_iret (ty := .int) hR dX12_apart_25 (⟨rfl, rfl⟩)
/-- a pair becomes free, or not -/
theorem s_X12_tell {a b : Nat} {v : Bool} (hl : moLet d k fb) (ha : a < k) (hb : b < k) (hne : a ≠ b) : mSpecV l W mX12_tell dep [.ref (xad W 240), .int (nI a), .int (nI b), .int (if v then 1 else 0)] d (fun d' => moLet d' k (setFB fb a b v) ∧ chg [241] d d') := by
  have hk := hl.2.2.2.1
  have hfa := hl.2.1 a (by omega)
  have hfb := hl.2.1 b (by omega)
  have h64 := hl.2.2.lt64 (p := a) (by omega)
  have h64b := hl.2.2.lt64 (p := b) (by omega)
  have fin : moLet (seI (seI d 241 a (nI (setb (fb a) b v))) 241 b (nI (setb (fb b) a v))) k (setFB fb a b v) ∧ chg [241] d (seI (seI d 241 a (nI (setb (fb a) b v))) 241 b (nI (setb (fb b) a v))) := by
    refine ⟨⟨hl.1, fun p hp => ?_, setFB_ok hl.2.2 ha hb hne v⟩, (chg.rf.se (by simp)).se (by simp)⟩
    unfold setFB
    by_cases e1 : p = b
    · subst e1
      rw [se_s, if_neg (Ne.symm hne), if_pos rfl]
    · rw [se_n _ _ e1]
      by_cases e2 : p = a
      · subst e2
        rw [se_s, if_pos rfl]
      · rw [se_n _ _ e2, if_neg e2, if_neg e1]; exact hl.2.1 p hp
  refine m_spec RX12 [some (.ref (xad W 240)), some (.int (nI a)), some (.int (nI b)), some (.int (if v then 1 else 0))] rfl (by decide +kernel) rfl rfl (fun K hR => ?_)
  cases v with
  | true =>
    refine m_aload_n dX12_tell_0 rfl ?_
    refine m_get fl_X12_13 (by decide) rfl rfl dX12_tell_1 ?_
    refine m_iload_n dX12_tell_4 rfl ?_
    refine m_iload_n dX12_tell_5 rfl ?_
    refine m_if_eq 22 dX12_tell_6 (by decide) (fun c6 => by exfalso; exact absurd c6 (by decide)) (fun c6 => ?_)
    refine m_aload_n dX12_tell_9 rfl ?_
    refine m_get fl_X12_13 (by decide) rfl rfl dX12_tell_10 ?_
    refine m_iload_n dX12_tell_13 rfl ?_
    refine m_iald (by first | exact ⟨by decide, by decide, fun _ => rfl⟩ | exact isI_arr _ (by omega) | exact isI_mv _ (by omega) | exact isI_ne _ (by omega)) (by omega) dX12_tell_14 ?_
    refine m_eqi (hfa) ?_
    refine m_iconstN 1 dX12_tell_15 (by decide) ?_
    refine m_iload_n dX12_tell_16 rfl ?_
    refine m_ishl dX12_tell_17 ?_
    refine m_eqi (nI_sb1 b (by omega)) ?_
    refine m_ior dX12_tell_18 ?_
    refine m_eqi (nI_or _ _) ?_
    refine m_goto 34 dX12_tell_19 (by decide) ?_
    refine m_iast (by first | exact ⟨by decide, by decide, fun _ => rfl⟩ | exact isI_arr _ (by omega) | exact isI_mv _ (by omega) | exact isI_ne _ (by omega)) (by omega) dX12_tell_34 ?_
    refine m_aload_n dX12_tell_35 rfl ?_
    refine m_get fl_X12_13 (by decide) rfl rfl dX12_tell_36 ?_
    refine m_iload_n dX12_tell_39 rfl ?_
    refine m_iload_n dX12_tell_40 rfl ?_
    refine m_if_eq 57 dX12_tell_41 (by decide) (fun c41 => by exfalso; exact absurd c41 (by decide)) (fun c41 => ?_)
    refine m_aload_n dX12_tell_44 rfl ?_
    refine m_get fl_X12_13 (by decide) rfl rfl dX12_tell_45 ?_
    refine m_iload_n dX12_tell_48 rfl ?_
    refine m_iald (by first | exact ⟨by decide, by decide, fun _ => rfl⟩ | exact isI_arr _ (by omega) | exact isI_mv _ (by omega) | exact isI_ne _ (by omega)) (by omega) dX12_tell_49 ?_
    refine m_eqi ((se_e2 hfb (Ne.symm hne) : _ = nI (fb b))) ?_
    refine m_iconstN 1 dX12_tell_50 (by decide) ?_
    refine m_iload_n dX12_tell_51 rfl ?_
    refine m_ishl dX12_tell_52 ?_
    refine m_eqi (nI_sb1 a (by omega)) ?_
    refine m_ior dX12_tell_53 ?_
    refine m_eqi (nI_or _ _) ?_
    refine m_goto 69 dX12_tell_54 (by decide) ?_
    refine m_iast (by first | exact ⟨by decide, by decide, fun _ => rfl⟩ | exact isI_arr _ (by omega) | exact isI_mv _ (by omega) | exact isI_ne _ (by omega)) (by omega) dX12_tell_69 ?_
    exact m_vret hR dX12_tell_70 (fin)
  | false =>
    refine m_aload_n dX12_tell_0 rfl ?_
    refine m_get fl_X12_13 (by decide) rfl rfl dX12_tell_1 ?_
    refine m_iload_n dX12_tell_4 rfl ?_
    refine m_iload_n dX12_tell_5 rfl ?_
    refine m_if_eq 22 dX12_tell_6 (by decide) (fun c6 => ?_) (fun c6 => by exfalso; exact c6 rfl)
    refine m_aload_n dX12_tell_22 rfl ?_
    refine m_get fl_X12_13 (by decide) rfl rfl dX12_tell_23 ?_
    refine m_iload_n dX12_tell_26 rfl ?_
    refine m_iald (by first | exact ⟨by decide, by decide, fun _ => rfl⟩ | exact isI_arr _ (by omega) | exact isI_mv _ (by omega) | exact isI_ne _ (by omega)) (by omega) dX12_tell_27 ?_
    refine m_eqi (hfa) ?_
    refine m_iconstN 1 dX12_tell_28 (by decide) ?_
    refine m_iload_n dX12_tell_29 rfl ?_
    refine m_ishl dX12_tell_30 ?_
    refine m_eqi (nI_sb1 b (by omega)) ?_
    refine m_iconst (v := -1) dX12_tell_31 (by decide) ?_
    refine m_ixor dX12_tell_32 ?_
    refine m_iand dX12_tell_33 ?_
    refine m_eqi (nI_sb0 (fb a) h64 b (by omega)) ?_
    refine m_iast (by first | exact ⟨by decide, by decide, fun _ => rfl⟩ | exact isI_arr _ (by omega) | exact isI_mv _ (by omega) | exact isI_ne _ (by omega)) (by omega) dX12_tell_34 ?_
    refine m_aload_n dX12_tell_35 rfl ?_
    refine m_get fl_X12_13 (by decide) rfl rfl dX12_tell_36 ?_
    refine m_iload_n dX12_tell_39 rfl ?_
    refine m_iload_n dX12_tell_40 rfl ?_
    refine m_if_eq 57 dX12_tell_41 (by decide) (fun c41 => ?_) (fun c41 => by exfalso; exact c41 rfl)
    refine m_aload_n dX12_tell_57 rfl ?_
    refine m_get fl_X12_13 (by decide) rfl rfl dX12_tell_58 ?_
    refine m_iload_n dX12_tell_61 rfl ?_
    refine m_iald (by first | exact ⟨by decide, by decide, fun _ => rfl⟩ | exact isI_arr _ (by omega) | exact isI_mv _ (by omega) | exact isI_ne _ (by omega)) (by omega) dX12_tell_62 ?_
    refine m_eqi ((se_e2 hfb (Ne.symm hne) : _ = nI (fb b))) ?_
    refine m_iconstN 1 dX12_tell_63 (by decide) ?_
    refine m_iload_n dX12_tell_64 rfl ?_
    refine m_ishl dX12_tell_65 ?_
    refine m_eqi (nI_sb1 a (by omega)) ?_
    refine m_iconst (v := -1) dX12_tell_66 (by decide) ?_
    refine m_ixor dX12_tell_67 ?_
    refine m_iand dX12_tell_68 ?_
    refine m_eqi (nI_sb0 (fb b) h64b a (by omega)) ?_
    refine m_iast (by first | exact ⟨by decide, by decide, fun _ => rfl⟩ | exact isI_arr _ (by omega) | exact isI_mv _ (by omega) | exact isI_ne _ (by omega)) (by omega) dX12_tell_69 ?_
    exact m_vret hR dX12_tell_70 (fin)
theorem s_X12_free {a b : Nat} {v : Bool} (ha : a < σ.1) (hb : b < σ.1) (hne : a ≠ b) (hs : moSt d σ) : mSpecI l W mX12_free (dep + 2) [.ref (xad W 240), .int (nI a), .int (nI b), .int (if v then 1 else 0)] d (fun r d' => r = (if (σ.2.1 a).testBit b = true then 1 else 0) ∧ moSt d' (σ.1, setFB σ.2.1 a b v, σ.2.2) ∧ chg [241] d d') := by
  have hk := hs.1.2.2.2.1
  refine m_spec RX12 [some (.ref (xad W 240)), some (.int (nI a)), some (.int (nI b)), some (.int (if v then 1 else 0)), none] rfl (by decide +kernel) rfl rfl (fun K hR => ?_)
  refine m_aload_n dX12_free_0 rfl ?_
  refine m_iload_n dX12_free_1 rfl ?_
  refine m_callVIp (s_X12_isLetter hs.1 ha) cv_X12_165 dX12_free_2 ?_
  refine m_if_eq 21 dX12_free_5 (by decide) (fun c5 => by exfalso; exact absurd c5 (by decide)) (fun c5 => ?_)
  refine m_aload_n dX12_free_8 rfl ?_
  refine m_iload_n dX12_free_9 rfl ?_
  refine m_callVIp (s_X12_isLetter hs.1 hb) cv_X12_165 dX12_free_10 ?_
  refine m_if_eq 21 dX12_free_13 (by decide) (fun c13 => by exfalso; exact absurd c13 (by decide)) (fun c13 => ?_)
  refine m_iload_n dX12_free_16 rfl ?_
  refine m_iload_n dX12_free_17 rfl ?_
  first | refine m_icmp_neN 24 dX12_free_18 (by decide) (by omega) (by omega) (fun c18 => ?_) (fun c18 => by exfalso; omega) | refine m_icmp_ne 24 dX12_free_18 (by decide) (fun c18 => ?_) (fun c18 => by exfalso; omega)
  refine m_aload_n dX12_free_24 rfl ?_
  refine m_iload_n dX12_free_25 rfl ?_
  refine m_iload_n dX12_free_26 rfl ?_
  refine m_callVIp (s_X12_areFree hs.1 (p := a) (q := b) (by omega) (by omega)) cv_X12_168 dX12_free_27 ?_
  refine m_if_eq 37 dX12_free_30 (by decide) (fun c30 => ?_) (fun c30 => ?_)
  · refine m_iconstN 0 dX12_free_37 (by decide) ?_
    refine m_istore dX12_free_38 (Nat.le_of_ble_eq_true rfl) rfl ?_
    refine m_aload_n dX12_free_40 rfl ?_
    refine m_iload_n dX12_free_41 rfl ?_
    refine m_iload_n dX12_free_42 rfl ?_
    refine m_iload_n dX12_free_43 rfl ?_
    refine m_callVV (s_X12_tell hs.1 ha hb hne) cv_X12_157 dX12_free_44 (fun d44 h44 => ?_)
    refine m_iload dX12_free_47 rfl ?_
    exact m_iret (ty := .int) hR dX12_free_49 (⟨by rw [if_neg (fun z => by rw [if_pos z] at c30; exact absurd c30 (by decide))]; rfl, ⟨h44.1, hs.2.fr h44.2 (by simp) (by simp)⟩, h44.2⟩)
  · refine m_iconstN 1 dX12_free_33 (by decide) ?_
    refine m_goto 38 dX12_free_34 (by decide) ?_
    refine m_istore dX12_free_38 (Nat.le_of_ble_eq_true rfl) rfl ?_
    refine m_aload_n dX12_free_40 rfl ?_
    refine m_iload_n dX12_free_41 rfl ?_
    refine m_iload_n dX12_free_42 rfl ?_
    refine m_iload_n dX12_free_43 rfl ?_
    refine m_callVV (s_X12_tell hs.1 ha hb hne) cv_X12_157 dX12_free_44 (fun d44 h44 => ?_)
    refine m_iload dX12_free_47 rfl ?_
    exact m_iret (ty := .int) hR dX12_free_49 (⟨by rw [if_pos (Decidable.byContradiction (fun z => c30 (by rw [if_neg z])))]; rfl, ⟨h44.1, hs.2.fr h44.2 (by simp) (by simp)⟩, h44.2⟩)
theorem s_X12_freeA (h : x < 0 ∨ nI σ.1 ≤ x) (hs : moSt d σ) : mSpecI l W mX12_free (dep + 2) [.ref (xad W 240), .int x, .int y, .int w] d (fun r d' => r = -2 ∧ d' = d) := by
  refine m_spec RX12 [some (.ref (xad W 240)), some (.int x), some (.int y), some (.int w), none] rfl (by decide +kernel) rfl rfl (fun K hR => ?_)
  refine m_aload_n dX12_free_0 rfl ?_
  refine m_iload_n dX12_free_1 rfl ?_
  refine m_callVIp (s_X12_isLetterO hs.1 h) cv_X12_165 dX12_free_2 ?_
  refine m_if_eq 21 dX12_free_5 (by decide) (fun c5 => ?_) (fun c5 => by exfalso; exact c5 rfl)
  refine m_bipush (v := -2) dX12_free_21 (by decide) ?_
  exact m_iret (ty := .int) hR dX12_free_23 (⟨rfl, rfl⟩)
theorem s_X12_freeB {a : Nat} (ha : a < σ.1) (h : y < 0 ∨ nI σ.1 ≤ y) (hs : moSt d σ) : mSpecI l W mX12_free (dep + 2) [.ref (xad W 240), .int (nI a), .int y, .int w] d (fun r d' => r = -2 ∧ d' = d) := by
  refine m_spec RX12 [some (.ref (xad W 240)), some (.int (nI a)), some (.int y), some (.int w), none] rfl (by decide +kernel) rfl rfl (fun K hR => ?_)
  refine m_aload_n dX12_free_0 rfl ?_
  refine m_iload_n dX12_free_1 rfl ?_
  refine m_callVIp (s_X12_isLetter hs.1 ha) cv_X12_165 dX12_free_2 ?_
  refine m_if_eq 21 dX12_free_5 (by decide) (fun c5 => by exfalso; exact absurd c5 (by decide)) (fun c5 => ?_)
  refine m_aload_n dX12_free_8 rfl ?_
  refine m_iload_n dX12_free_9 rfl ?_
  refine m_callVIp (s_X12_isLetterO hs.1 h) cv_X12_165 dX12_free_10 ?_
  refine m_if_eq 21 dX12_free_13 (by decide) (fun c13 => ?_) (fun c13 => by exfalso; exact c13 rfl)
  refine m_bipush (v := -2) dX12_free_21 (by decide) ?_
  exact m_iret (ty := .int) hR dX12_free_23 (⟨rfl, rfl⟩)
theorem s_X12_freeC {a : Nat} (ha : a < σ.1) (hs : moSt d σ) : mSpecI l W mX12_free (dep + 2) [.ref (xad W 240), .int (nI a), .int (nI a), .int w] d (fun r d' => r = -2 ∧ d' = d) := by
  have hk := hs.1.2.2.2.1
  refine m_spec RX12 [some (.ref (xad W 240)), some (.int (nI a)), some (.int (nI a)), some (.int w), none] rfl (by decide +kernel) rfl rfl (fun K hR => ?_)
  refine m_aload_n dX12_free_0 rfl ?_
  refine m_iload_n dX12_free_1 rfl ?_
  refine m_callVIp (s_X12_isLetter hs.1 ha) cv_X12_165 dX12_free_2 ?_
  refine m_if_eq 21 dX12_free_5 (by decide) (fun c5 => by exfalso; exact absurd c5 (by decide)) (fun c5 => ?_)
  refine m_aload_n dX12_free_8 rfl ?_
  refine m_iload_n dX12_free_9 rfl ?_
  refine m_callVIp (s_X12_isLetter hs.1 ha) cv_X12_165 dX12_free_10 ?_
  refine m_if_eq 21 dX12_free_13 (by decide) (fun c13 => by exfalso; exact absurd c13 (by decide)) (fun c13 => ?_)
  refine m_iload_n dX12_free_16 rfl ?_
  refine m_iload_n dX12_free_17 rfl ?_
  first | refine m_icmp_neN 24 dX12_free_18 (by decide) (by omega) (by omega) (fun c18 => by exfalso; exact absurd rfl c18) (fun c18 => ?_) | refine m_icmp_ne 24 dX12_free_18 (by decide) (fun c18 => by exfalso; exact absurd rfl c18) (fun c18 => ?_)
  refine m_bipush (v := -2) dX12_free_21 (by decide) ?_
  exact m_iret (ty := .int) hR dX12_free_23 (⟨rfl, rfl⟩)
theorem s_X12_addO (h : hN x = none ∨ y < 0 ∨ nI σ.1 ≤ y) (hs : moSt d σ) : mSpecI l W mX12_add (dep + 2) [.ref (xad W 240), .int x, .int y] d (fun r d' => r = -2 ∧ d' = d) := by
  refine m_spec RX12 [some (.ref (xad W 240)), some (.int x), some (.int y)] rfl (by decide +kernel) rfl rfl (fun K hR => ?_)
  cases hx : hN x with
  | none =>
    refine m_iload_n dX12_add_0 rfl ?_
    refine m_callSIp (s_X12_isHeapO hx) cs_X12_172 dX12_add_1 ?_
    refine m_if_eq 15 dX12_add_4 (by decide) (fun c4 => ?_) (fun c4 => by exfalso; exact c4 rfl)
    refine m_bipush (v := -2) dX12_add_15 (by decide) ?_
    exact m_iret (ty := .int) hR dX12_add_17 (⟨rfl, rfl⟩)
  | some n =>
    refine m_iload_n dX12_add_0 rfl ?_
    refine m_callSIp (s_X12_isHeap hx) cs_X12_172 dX12_add_1 ?_
    refine m_if_eq 15 dX12_add_4 (by decide) (fun c4 => by exfalso; exact absurd c4 (by decide)) (fun c4 => ?_)
    refine m_aload_n dX12_add_7 rfl ?_
    refine m_iload_n dX12_add_8 rfl ?_
    refine m_callVIp (s_X12_isLetterO hs.1 (h.resolve_left (by rw [hx]; exact fun z => by cases z))) cv_X12_165 dX12_add_9 ?_
    refine m_if_ne 18 dX12_add_12 (by decide) (fun c12 => by exfalso; exact c12 rfl) (fun c12 => ?_)
    refine m_bipush (v := -2) dX12_add_15 (by decide) ?_
    exact m_iret (ty := .int) hR dX12_add_17 (⟨rfl, rfl⟩)
end MOD
