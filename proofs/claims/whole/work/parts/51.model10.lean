/-! the law's model: roots -/
theorem pieceF_min (xs : List Nat) (n x : Nat) : ∀ i, i ≤ xs.length → (pieceF xs n i).count x = min ((xs.take i).count x) (xs.count x / n) := by
  intro i
  induction i with
  | zero => intro _; simp [pieceF]
  | succ i ih =>
    intro h
    have h1 := ih (by omega)
    have h2 : (xs.take (i + 1)).count x ≤ xs.count x := List.Sublist.count_le _ (List.take_sublist _ _)
    have h3 : (xs.take (i + 1)).count x = (xs.take i).count x + (if xs[i] = x then 1 else 0) := by
      rw [take_s (by omega), List.count_append, List.count_singleton]
      by_cases e : xs[i] = x <;> simp [e]
    have h4 : (pieceF xs n (i + 1)).count x = (pieceF xs n i).count x + (if xs[i] = x ∧ (pieceF xs n i).count xs[i] < xs.count xs[i] / n then 1 else 0) := by
      rw [pieceF_s (by omega)]
      unfold piece1
      by_cases hc : (pieceF xs n i).count xs[i] < xs.count xs[i] / n
      · rw [if_pos hc, List.count_append, List.count_singleton]
        have hc2 : (xs[i] = x ∧ (pieceF xs n i).count xs[i] < xs.count xs[i] / n) ↔ xs[i] = x := ⟨fun z => z.1, fun z => ⟨z, hc⟩⟩
        simp only [hc2, beq_iff_eq]
      · rw [if_neg hc, if_neg (fun z => hc z.2)]; rfl
    by_cases e : xs[i] = x
    · subst e
      rw [if_pos rfl] at h3
      rw [h3, h4]
      split <;> omega
    · rw [if_neg e] at h3
      rw [h3, h4, if_neg (fun z => e z.1)]
      omega
theorem pieceF_all {xs : List Nat} {n : Nat} (hn : 1 ≤ n) (h : ∀ x ∈ xs, x < 6) (hc : ∀ x, x < 6 → xs.count x % n = 0) : n * (pieceF xs n xs.length).length = xs.length := by
  have h1 := len_cnt xs h
  have h2 := len_cnt (pieceF xs n xs.length) (fun x hx => h x (pieceF_mem _ (Nat.le_refl _) x hx))
  have h3 : ∀ x, x < 6 → n * (pieceF xs n xs.length).count x = xs.count x := fun x hx => by
    rw [pieceF_min xs n x _ (Nat.le_refl _), List.take_length, Nat.min_eq_right (Nat.div_le_self _ _)]
    exact Nat.mul_div_cancel' (Nat.dvd_of_mod_eq_zero (hc x hx))
  rw [h2]
  simp only [Nat.mul_add]
  rw [h3 0 (by decide), h3 1 (by decide), h3 2 (by decide), h3 3 (by decide), h3 4 (by decide), h3 5 (by decide)]
  exact h1.symm
theorem powF_c (ps : List Nat) : ∀ n, powF ps (n + 1) = ps ++ powF ps n := by
  intro n
  induction n with
  | zero => simp [powF]
  | succ n ih =>
    show powF ps (n + 1) ++ ps = ps ++ (powF ps n ++ ps)
    rw [ih, List.append_assoc]
theorem powF_per {ps : List Nat} {n q : Nat} (h1 : ps.length ≤ q) (h2 : q < (powF ps n).length) : (powF ps n).getD q 0 = (powF ps n).getD (q - ps.length) 0 := by
  cases n with
  | zero => exact absurd h2 (Nat.not_lt_zero q)
  | succ n =>
    have h3 : (powF ps (n + 1)).length = (powF ps n).length + ps.length := by show (powF ps n ++ ps).length = _; rw [List.length_append]
    conv => lhs; rw [powF_c]
    show _ = (powF ps n ++ ps).getD (q - ps.length) 0
    rw [List.getD_eq_getElem?_getD, List.getD_eq_getElem?_getD, List.getElem?_append_right h1, List.getElem?_append_left (by omega)]
theorem powF_fst {ps : List Nat} {n q : Nat} (hn : 1 ≤ n) (h1 : q < ps.length) : (powF ps n).getD q 0 = ps.getD q 0 := by
  obtain ⟨m, rfl⟩ : ∃ m, n = m + 1 := ⟨n - 1, by omega⟩
  rw [powF_c, List.getD_eq_getElem?_getD, List.getD_eq_getElem?_getD, List.getElem?_append_left h1]
theorem powF_mem {ps : List Nat} : ∀ n, ∀ x ∈ powF ps n, x ∈ ps := by
  intro n
  induction n with
  | zero => intro x hx; cases hx
  | succ n ih => intro x hx; exact (List.mem_append.mp hx).elim (ih x) id
theorem cntOk_iff {k n : Nat} {xs : List Nat} (hk : k ≤ 6) (hx : ∀ x ∈ xs, x < k) : cntOk k xs n = true ↔ ∀ x, x < 6 → xs.count x % n = 0 := by
  unfold cntOk
  rw [List.all_eq_true]
  constructor
  · intro h x hx6
    by_cases e : x < k
    · exact of_decide_eq_true (h x (List.mem_range.mpr e))
    · rw [List.count_eq_zero_of_not_mem (fun z => e (hx x z))]; exact Nat.zero_mod n
  · intro h x hx2
    refine decide_eq_true ?_
    by_cases e : x < 6
    · exact h x e
    · have hxk := List.mem_range.mp hx2
      exact Classical.byContradiction (fun z => e (by omega))
section MOD
variable {l : Launch} {W : xW} {dep : Nat} {d : xD} {bs : List Nat} {σ : St} {x y z w : Int32} {n n2 n3 k : Nat} {fb : Nat → Nat}
theorem s_X12_isTimes {m : Nat} (hm : 1 ≤ m) (hm2 : m ≤ 24) (hn : n < 4) (hs : moSt d σ) : mSpecI l W mX12_isTimes (dep + 2) [.ref (xad W 240), .int (nI n), .int (nI m)] d (fun r d' => r = (if isPow σ.1 σ.2.1 (σ.2.2 n) m = true then 1 else 0) ∧ chg [246, 247, 249, 254, 255] d d') := by
  obtain ⟨hA, hAl, hAg, hAx⟩ := hs.2 n hn
  have hk := hs.1.2.2.2.1
  have hf := hs.1.2.2
  have hx6 : ∀ x ∈ σ.2.2 n, x < 6 := fun x h => by have := hAx x h; omega
  have hI : isI W 246 48 := ⟨by decide, by decide, fun _ => rfl⟩
  have hI2 : isI W 247 48 := ⟨by decide, by decide, fun _ => rfl⟩
  have hI3 : isI W 254 6 := ⟨by decide, by decide, fun _ => rfl⟩
  have hI4 : isI W 255 6 := ⟨by decide, by decide, fun _ => rfl⟩
  have hZ : isZ W 249 48 := ⟨by decide, by decide, fun _ => rfl⟩
  refine m_spec RX12 [some (.ref (xad W 240)), some (.int (nI n)), some (.int (nI m)), none, none, none] rfl (by decide +kernel) rfl rfl (fun K hR => ?_)
  generalize hxs : σ.2.2 n = xs at *
  have hcl : ∀ x, xs.count x ≤ 24 := fun x => Nat.le_trans List.count_le_length hAl
  have hcnt := cntOk_iff (n := m) hk hAx
  generalize hps : pieceF xs m xs.length = ps
  have hpx : ∀ x ∈ ps, x ∈ xs := by rw [← hps]; exact pieceF_mem _ (Nat.le_refl _)
  -- the letters taken off
  have loop6 : cntOk σ.1 xs m = true → (powF ps m).length = xs.length → ∀ i, i ≤ xs.length → ∀ d1 off1 o5, arrB d1 246 xs → arrB d1 247 (powF ps m) → offIs d1 xs.length off1 → tkL (bw σ.1 σ.2.1) xs (powF ps m) = tkL (bw σ.1 σ.2.1) (live off1 xs 0) ((powF ps m).drop i) → chg [246, 247, 249, 254, 255] d d1 → mG W K cX12_isTimes RX12 (dep + 2) d1 239 [some (.ref (xad W 240)), some (.int (nI n)), some (.int (nI m)), some (.int (nI ps.length)), some (.int (nI i)), o5] [] := fun hcok hpl => x_up _ (fun i hi ih d1 off1 o5 g1 g2 g3 g4 g5 => by
    have hs1 := hs.fr g5 (by simp) (by simp) (by simp) (by simp)
    have h242 := (g5 242 (by simp)).1
    have hpw : ∀ y ∈ powF ps m, y < σ.1 := fun y hy => hAx y (hpx y (powF_mem m y hy))
    have hpow : isPow σ.1 σ.2.1 xs m = true ↔ tkL (bw σ.1 σ.2.1) xs (powF ps m) = some [] := by
      unfold isPow
      rw [hps, hcok, Bool.true_and, eqvB_iff hf, eqv_tk hf _ _ hAx hpw]
    by_cases hin : i < xs.length
    · have hin2 : i < (powF ps m).length := by omega
      have hxi : (powF ps m).getD i 0 < σ.1 := by rw [getD_at hin2]; exact hpw _ (List.getElem_mem hin2)
      have hxi6 : (powF ps m).getD i 0 < 6 := by omega
      rw [drop_c hin2, ← getD_at hin2, tkL_s] at g4
      rcases fo_bw (off := off1) (l := (powF ps m).getD i 0) hf hxi6 hAx with ⟨f1, f2⟩ | ⟨q, j', f1, f2, f3, f4, f5⟩
      · rw [f2] at g4
        refine m_iload dX12_isTimes_239 rfl ?_
        refine m_aload_n dX12_isTimes_241 rfl ?_
        refine m_get fl_X12_17 (by decide) rfl rfl dX12_isTimes_242 ?_
        refine m_iload_n dX12_isTimes_245 rfl ?_
        refine m_iald (by first | exact ⟨by decide, by decide, fun _ => rfl⟩ | exact isI_arr _ (by omega) | exact isI_mv _ (by omega) | exact isI_ne _ (by omega)) (by omega) dX12_isTimes_246 ?_
        refine m_eqi ((by rw [h242]; exact hA : _ = nI xs.length)) ?_
        first | refine m_icmp_geN 295 dX12_isTimes_247 (by decide) (by omega) (by omega) (fun c247 => by exfalso; omega) (fun c247 => ?_) | refine m_icmp_ge 295 dX12_isTimes_247 (by decide) (fun c247 => by exfalso; omega) (fun c247 => ?_)
        refine m_aload_n dX12_isTimes_250 rfl ?_
        refine m_aload_n dX12_isTimes_251 rfl ?_
        refine m_get fl_X12_29 (by decide) rfl rfl dX12_isTimes_252 ?_
        refine m_aload_n dX12_isTimes_255 rfl ?_
        refine m_get fl_X12_17 (by decide) rfl rfl dX12_isTimes_256 ?_
        refine m_iload_n dX12_isTimes_259 rfl ?_
        refine m_iald (by first | exact ⟨by decide, by decide, fun _ => rfl⟩ | exact isI_arr _ (by omega) | exact isI_mv _ (by omega) | exact isI_ne _ (by omega)) (by omega) dX12_isTimes_260 ?_
        refine m_eqi ((by rw [h242]; exact hA : _ = nI xs.length)) ?_
        refine m_aload_n dX12_isTimes_261 rfl ?_
        refine m_get fl_X12_32 (by decide) rfl rfl dX12_isTimes_262 ?_
        refine m_iload dX12_isTimes_265 rfl ?_
        refine m_iald (by first | exact ⟨by decide, by decide, fun _ => rfl⟩ | exact isI_arr _ (by omega) | exact isI_mv _ (by omega) | exact isI_ne _ (by omega)) (by omega) dX12_isTimes_267 ?_
        refine m_eqi (g2 i hin2) ?_
        refine m_callVIp (s_X12_firstOf (lt := (powF ps m).getD i 0) hI hs1.1 hx6 (by omega) g1 g3 hxi6) cv_X12_175 dX12_isTimes_268 ?_
        refine m_eqi ((by rw [f1]; rfl : _ = (-1 : Int32))) ?_
        refine m_istore dX12_isTimes_271 (Nat.le_of_ble_eq_true rfl) rfl ?_
        refine m_iload dX12_isTimes_273 rfl ?_
        refine m_iconst (v := -1) dX12_isTimes_275 (by decide) ?_
        refine m_icmp_ne 281 dX12_isTimes_276 (by decide) (fun c276 => by exfalso; exact c276 rfl) (fun c276 => ?_)
        refine m_iconstN 0 dX12_isTimes_279 (by decide) ?_
        exact m_iret (ty := .boolean) hR dX12_isTimes_280 (⟨by rw [if_neg (fun z => by rw [hpow.mp z] at g4; cases g4)]; rfl, g5⟩)
      · rw [f4] at g4
        refine m_iload dX12_isTimes_239 rfl ?_
        refine m_aload_n dX12_isTimes_241 rfl ?_
        refine m_get fl_X12_17 (by decide) rfl rfl dX12_isTimes_242 ?_
        refine m_iload_n dX12_isTimes_245 rfl ?_
        refine m_iald (by first | exact ⟨by decide, by decide, fun _ => rfl⟩ | exact isI_arr _ (by omega) | exact isI_mv _ (by omega) | exact isI_ne _ (by omega)) (by omega) dX12_isTimes_246 ?_
        refine m_eqi ((by rw [h242]; exact hA : _ = nI xs.length)) ?_
        first | refine m_icmp_geN 295 dX12_isTimes_247 (by decide) (by omega) (by omega) (fun c247 => by exfalso; omega) (fun c247 => ?_) | refine m_icmp_ge 295 dX12_isTimes_247 (by decide) (fun c247 => by exfalso; omega) (fun c247 => ?_)
        refine m_aload_n dX12_isTimes_250 rfl ?_
        refine m_aload_n dX12_isTimes_251 rfl ?_
        refine m_get fl_X12_29 (by decide) rfl rfl dX12_isTimes_252 ?_
        refine m_aload_n dX12_isTimes_255 rfl ?_
        refine m_get fl_X12_17 (by decide) rfl rfl dX12_isTimes_256 ?_
        refine m_iload_n dX12_isTimes_259 rfl ?_
        refine m_iald (by first | exact ⟨by decide, by decide, fun _ => rfl⟩ | exact isI_arr _ (by omega) | exact isI_mv _ (by omega) | exact isI_ne _ (by omega)) (by omega) dX12_isTimes_260 ?_
        refine m_eqi ((by rw [h242]; exact hA : _ = nI xs.length)) ?_
        refine m_aload_n dX12_isTimes_261 rfl ?_
        refine m_get fl_X12_32 (by decide) rfl rfl dX12_isTimes_262 ?_
        refine m_iload dX12_isTimes_265 rfl ?_
        refine m_iald (by first | exact ⟨by decide, by decide, fun _ => rfl⟩ | exact isI_arr _ (by omega) | exact isI_mv _ (by omega) | exact isI_ne _ (by omega)) (by omega) dX12_isTimes_267 ?_
        refine m_eqi (g2 i hin2) ?_
        refine m_callVIp (s_X12_firstOf (lt := (powF ps m).getD i 0) hI hs1.1 hx6 (by omega) g1 g3 hxi6) cv_X12_175 dX12_isTimes_268 ?_
        refine m_eqi ((by rw [f1]; rfl : _ = nI q)) ?_
        refine m_istore dX12_isTimes_271 (Nat.le_of_ble_eq_true rfl) rfl ?_
        refine m_iload dX12_isTimes_273 rfl ?_
        refine m_iconst (v := -1) dX12_isTimes_275 (by decide) ?_
        refine m_icmp_ne 281 dX12_isTimes_276 (by decide) (fun c276 => ?_) (fun c276 => by exfalso; exact nI_m1 (by omega) (Decidable.not_not.mp c276))
        refine m_aload_n dX12_isTimes_281 rfl ?_
        refine m_get fl_X12_38 (by decide) rfl rfl dX12_isTimes_282 ?_
        refine m_iload dX12_isTimes_285 rfl ?_
        refine m_iconstN 1 dX12_isTimes_287 (by decide) ?_
        refine m_zast hZ (by omega) (by decide +kernel) dX12_isTimes_288 ?_
        first | refine m_iincN 1 dX12_isTimes_289 (by decide) rfl rfl ?_ | refine m_iinc dX12_isTimes_289 rfl rfl ?_
        refine m_goto 239 dX12_isTimes_292 (by decide) ?_
        exact ih hin _ (setOff off1 q) _ (g1.fr (chg.rf.se (S := [249]) (by simp)) (by simp)) (g2.fr (chg.rf.se (S := [249]) (by simp)) (by simp)) g3.set (by rw [f5]; exact g4) (g5.se (by simp))
    · have e6 : i = xs.length := by omega
      subst e6
      rw [← hpl, List.drop_length] at g4
      have hz := tkL_len _ _ _ g4
      have hz2 : live off1 xs 0 = [] := List.eq_nil_of_length_eq_zero (by omega)
      refine m_iload dX12_isTimes_239 rfl ?_
      refine m_aload_n dX12_isTimes_241 rfl ?_
      refine m_get fl_X12_17 (by decide) rfl rfl dX12_isTimes_242 ?_
      refine m_iload_n dX12_isTimes_245 rfl ?_
      refine m_iald (by first | exact ⟨by decide, by decide, fun _ => rfl⟩ | exact isI_arr _ (by omega) | exact isI_mv _ (by omega) | exact isI_ne _ (by omega)) (by omega) dX12_isTimes_246 ?_
      refine m_eqi ((by rw [h242]; exact hA : _ = nI xs.length)) ?_
      first | refine m_icmp_geN 295 dX12_isTimes_247 (by decide) (by omega) (by omega) (fun c247 => ?_) (fun c247 => by exfalso; omega) | refine m_icmp_ge 295 dX12_isTimes_247 (by decide) (fun c247 => ?_) (fun c247 => by exfalso; omega)
      refine m_iconstN 1 dX12_isTimes_295 (by decide) ?_
      exact m_iret (ty := .boolean) hR dX12_isTimes_296 (⟨by rw [if_pos (hpow.mpr (by rw [g4, hz2]; rfl))]; rfl, g5⟩)
    )
  -- the piece again and again
  have loop5 : cntOk σ.1 xs m = true → (powF ps m).length = xs.length → ∀ i, i ≤ xs.length → ps.length ≤ i → ∀ d1, arrB d1 246 xs → (∀ q, q < i → d1.1 247 q = nI ((powF ps m).getD q 0)) → chg [246, 247, 249, 254, 255] d d1 → mG W K cX12_isTimes RX12 (dep + 2) d1 193 [some (.ref (xad W 240)), some (.int (nI n)), some (.int (nI m)), some (.int (nI ps.length)), some (.int (nI i)), none] [] := fun hcok hpl => x_up _ (fun i hi ih hpi d1 g1 g2 g3 => by
    have h242 := (g3 242 (by simp)).1
    by_cases hin : i < xs.length
    · have hps1 : 0 < ps.length := by
        have := powF_len ps m
        refine Nat.pos_of_ne_zero (fun z => ?_)
        rw [z, Nat.mul_zero] at this
        omega
      refine m_iload dX12_isTimes_193 rfl ?_
      refine m_aload_n dX12_isTimes_195 rfl ?_
      refine m_get fl_X12_17 (by decide) rfl rfl dX12_isTimes_196 ?_
      refine m_iload_n dX12_isTimes_199 rfl ?_
      refine m_iald (by first | exact ⟨by decide, by decide, fun _ => rfl⟩ | exact isI_arr _ (by omega) | exact isI_mv _ (by omega) | exact isI_ne _ (by omega)) (by omega) dX12_isTimes_200 ?_
      refine m_eqi ((by rw [h242]; exact hA : _ = nI xs.length)) ?_
      first | refine m_icmp_geN 226 dX12_isTimes_201 (by decide) (by omega) (by omega) (fun c201 => by exfalso; omega) (fun c201 => ?_) | refine m_icmp_ge 226 dX12_isTimes_201 (by decide) (fun c201 => by exfalso; omega) (fun c201 => ?_)
      refine m_aload_n dX12_isTimes_204 rfl ?_
      refine m_get fl_X12_32 (by decide) rfl rfl dX12_isTimes_205 ?_
      refine m_iload dX12_isTimes_208 rfl ?_
      refine m_aload_n dX12_isTimes_210 rfl ?_
      refine m_get fl_X12_32 (by decide) rfl rfl dX12_isTimes_211 ?_
      refine m_iload dX12_isTimes_214 rfl ?_
      refine m_iload_n dX12_isTimes_216 rfl ?_
      first | refine m_isubN dX12_isTimes_217 (by omega) ?_ | refine m_isub dX12_isTimes_217 ?_
      refine m_iald (by first | exact ⟨by decide, by decide, fun _ => rfl⟩ | exact isI_arr _ (by omega) | exact isI_mv _ (by omega) | exact isI_ne _ (by omega)) (by omega) dX12_isTimes_218 ?_
      refine m_eqi ((by rw [g2 (i - ps.length) (by omega), powF_per (n := m) hpi (by omega)] : _ = nI ((powF ps m).getD i 0))) ?_
      refine m_iast (by first | exact ⟨by decide, by decide, fun _ => rfl⟩ | exact isI_arr _ (by omega) | exact isI_mv _ (by omega) | exact isI_ne _ (by omega)) (by omega) dX12_isTimes_219 ?_
      first | refine m_iincN 1 dX12_isTimes_220 (by decide) rfl rfl ?_ | refine m_iinc dX12_isTimes_220 rfl rfl ?_
      refine m_goto 193 dX12_isTimes_223 (by decide) ?_
      refine ih hin (by omega) _ (g1.fr (chg.rf.se (S := [247]) (by simp)) (by simp)) (fun q hq => ?_) (g3.se (by simp))
      by_cases e : q = i
      · subst e; exact se_s _ _ _ _
      · exact se_e2 (g2 q (by omega)) e
    · have e6 : i = xs.length := by omega
      subst e6
      have g2' : arrB d1 247 (powF ps m) := fun q hq => g2 q (by omega)
      refine m_iload dX12_isTimes_193 rfl ?_
      refine m_aload_n dX12_isTimes_195 rfl ?_
      refine m_get fl_X12_17 (by decide) rfl rfl dX12_isTimes_196 ?_
      refine m_iload_n dX12_isTimes_199 rfl ?_
      refine m_iald (by first | exact ⟨by decide, by decide, fun _ => rfl⟩ | exact isI_arr _ (by omega) | exact isI_mv _ (by omega) | exact isI_ne _ (by omega)) (by omega) dX12_isTimes_200 ?_
      refine m_eqi ((by rw [h242]; exact hA : _ = nI xs.length)) ?_
      first | refine m_icmp_geN 226 dX12_isTimes_201 (by decide) (by omega) (by omega) (fun c201 => ?_) (fun c201 => by exfalso; omega) | refine m_icmp_ge 226 dX12_isTimes_201 (by decide) (fun c201 => ?_) (fun c201 => by exfalso; omega)
      refine m_aload_n dX12_isTimes_226 rfl ?_
      refine m_aload_n dX12_isTimes_227 rfl ?_
      refine m_get fl_X12_17 (by decide) rfl rfl dX12_isTimes_228 ?_
      refine m_iload_n dX12_isTimes_231 rfl ?_
      refine m_iald (by first | exact ⟨by decide, by decide, fun _ => rfl⟩ | exact isI_arr _ (by omega) | exact isI_mv _ (by omega) | exact isI_ne _ (by omega)) (by omega) dX12_isTimes_232 ?_
      refine m_eqi ((by rw [h242]; exact hA : _ = nI xs.length)) ?_
      refine m_callVV (s_X12_putAllOn (n := xs.length) (by omega)) cv_X12_179 dX12_isTimes_233 (fun d233 h233 => ?_)
      refine m_iconstN 0 dX12_isTimes_236 (by decide) ?_
      refine m_istore dX12_isTimes_237 (Nat.le_of_ble_eq_true rfl) rfl ?_
      exact loop6 hcok hpl 0 (Nat.zero_le _) d233 (fun _ => false) _ (g1.fr h233.2 (by simp)) (g2'.fr h233.2 (by simp)) h233.1 (by rw [live_all xs 0 (fun _ _ _ => rfl)]; rfl) (g3.tr (h233.2.mono (by simp)))
    )
  -- the piece
  have loop4 : cntOk σ.1 xs m = true → ∀ i, i ≤ xs.length → ∀ d1, arrB d1 246 xs → (∀ x, x < 6 → d1.1 254 x = nI (xs.count x)) → (∀ x, x < 6 → d1.1 255 x = nI ((pieceF xs m i).count x)) → arrB d1 247 (pieceF xs m i) → chg [246, 247, 249, 254, 255] d d1 → mG W K cX12_isTimes RX12 (dep + 2) d1 112 [some (.ref (xad W 240)), some (.int (nI n)), some (.int (nI m)), some (.int (nI (pieceF xs m i).length)), some (.int (nI i)), none] [] := fun hcok => x_up _ (fun i hi ih d1 g1 g2 g3 g4 g5 => by
    have h242 := (g5 242 (by simp)).1
    by_cases hin : i < xs.length
    · have hxi := hx6 _ (List.getElem_mem hin)
      have hc1 := hcl xs[i]
      have hc2 := pieceF_cnt xs m i hi xs[i]
      have hc3 := Nat.div_le_self (xs.count xs[i]) m
      have hpl := pieceF_len (xs := xs) (n := m) (i := i) hx6 hi
      have hpl2 : (pieceF xs m i).length ≤ m * (pieceF xs m i).length := Nat.le_mul_of_pos_left _ hm
      have hat : d1.1 246 i = nI xs[i] := by rw [g1 i hin, getD_at hin]
      have ih2 := ih hin
      rw [pieceF_s hin] at ih2
      unfold piece1 at ih2
      by_cases hcd : (pieceF xs m i).count xs[i] < xs.count xs[i] / m
      · rw [if_pos hcd] at ih2
        rw [List.length_append, List.length_singleton] at ih2
        refine m_iload dX12_isTimes_112 rfl ?_
        refine m_aload_n dX12_isTimes_114 rfl ?_
        refine m_get fl_X12_17 (by decide) rfl rfl dX12_isTimes_115 ?_
        refine m_iload_n dX12_isTimes_118 rfl ?_
        refine m_iald (by first | exact ⟨by decide, by decide, fun _ => rfl⟩ | exact isI_arr _ (by omega) | exact isI_mv _ (by omega) | exact isI_ne _ (by omega)) (by omega) dX12_isTimes_119 ?_
        refine m_eqi ((by rw [h242]; exact hA : _ = nI xs.length)) ?_
        first | refine m_icmp_geN 190 dX12_isTimes_120 (by decide) (by omega) (by omega) (fun c120 => by exfalso; omega) (fun c120 => ?_) | refine m_icmp_ge 190 dX12_isTimes_120 (by decide) (fun c120 => by exfalso; omega) (fun c120 => ?_)
        refine m_aload_n dX12_isTimes_123 rfl ?_
        refine m_get fl_X12_59 (by decide) rfl rfl dX12_isTimes_124 ?_
        refine m_aload_n dX12_isTimes_127 rfl ?_
        refine m_get fl_X12_29 (by decide) rfl rfl dX12_isTimes_128 ?_
        refine m_iload dX12_isTimes_131 rfl ?_
        refine m_iald (by first | exact ⟨by decide, by decide, fun _ => rfl⟩ | exact isI_arr _ (by omega) | exact isI_mv _ (by omega) | exact isI_ne _ (by omega)) (by omega) dX12_isTimes_133 ?_
        refine m_eqi (hat) ?_
        refine m_iald (by first | exact ⟨by decide, by decide, fun _ => rfl⟩ | exact isI_arr _ (by omega) | exact isI_mv _ (by omega) | exact isI_ne _ (by omega)) (by omega) dX12_isTimes_134 ?_
        refine m_eqi (g3 xs[i] hxi) ?_
        refine m_aload_n dX12_isTimes_135 rfl ?_
        refine m_get fl_X12_56 (by decide) rfl rfl dX12_isTimes_136 ?_
        refine m_aload_n dX12_isTimes_139 rfl ?_
        refine m_get fl_X12_29 (by decide) rfl rfl dX12_isTimes_140 ?_
        refine m_iload dX12_isTimes_143 rfl ?_
        refine m_iald (by first | exact ⟨by decide, by decide, fun _ => rfl⟩ | exact isI_arr _ (by omega) | exact isI_mv _ (by omega) | exact isI_ne _ (by omega)) (by omega) dX12_isTimes_145 ?_
        refine m_eqi (hat) ?_
        refine m_iald (by first | exact ⟨by decide, by decide, fun _ => rfl⟩ | exact isI_arr _ (by omega) | exact isI_mv _ (by omega) | exact isI_ne _ (by omega)) (by omega) dX12_isTimes_146 ?_
        refine m_eqi (g2 xs[i] hxi) ?_
        refine m_iload_n dX12_isTimes_147 rfl ?_
        first | refine m_idivN dX12_isTimes_148 (by omega) (by omega) (by omega) ?_ | refine m_idiv dX12_isTimes_148 (by decide) ?_
        first | refine m_icmp_geN 184 dX12_isTimes_149 (by decide) (by omega) (by omega) (fun c149 => by exfalso; omega) (fun c149 => ?_) | refine m_icmp_ge 184 dX12_isTimes_149 (by decide) (fun c149 => by exfalso; omega) (fun c149 => ?_)
        refine m_aload_n dX12_isTimes_152 rfl ?_
        refine m_get fl_X12_32 (by decide) rfl rfl dX12_isTimes_153 ?_
        refine m_iload_n dX12_isTimes_156 rfl ?_
        refine m_aload_n dX12_isTimes_157 rfl ?_
        refine m_get fl_X12_29 (by decide) rfl rfl dX12_isTimes_158 ?_
        refine m_iload dX12_isTimes_161 rfl ?_
        refine m_iald (by first | exact ⟨by decide, by decide, fun _ => rfl⟩ | exact isI_arr _ (by omega) | exact isI_mv _ (by omega) | exact isI_ne _ (by omega)) (by omega) dX12_isTimes_163 ?_
        refine m_eqi (hat) ?_
        refine m_iast (by first | exact ⟨by decide, by decide, fun _ => rfl⟩ | exact isI_arr _ (by omega) | exact isI_mv _ (by omega) | exact isI_ne _ (by omega)) (by omega) dX12_isTimes_164 ?_
        first | refine m_iincN 1 dX12_isTimes_165 (by decide) rfl rfl ?_ | refine m_iinc dX12_isTimes_165 rfl rfl ?_
        refine m_aload_n dX12_isTimes_168 rfl ?_
        refine m_get fl_X12_59 (by decide) rfl rfl dX12_isTimes_169 ?_
        refine m_aload_n dX12_isTimes_172 rfl ?_
        refine m_get fl_X12_29 (by decide) rfl rfl dX12_isTimes_173 ?_
        refine m_iload dX12_isTimes_176 rfl ?_
        refine m_iald (by first | exact ⟨by decide, by decide, fun _ => rfl⟩ | exact isI_arr _ (by omega) | exact isI_mv _ (by omega) | exact isI_ne _ (by omega)) (by omega) dX12_isTimes_178 ?_
        refine m_eqi ((se_e hat (by decide) : _ = nI xs[i])) ?_
        first | refine m_dup2_2 dX12_isTimes_179 rfl ?_ | refine m_dup2_11 dX12_isTimes_179 rfl rfl ?_
        refine m_iald (by first | exact ⟨by decide, by decide, fun _ => rfl⟩ | exact isI_arr _ (by omega) | exact isI_mv _ (by omega) | exact isI_ne _ (by omega)) (by omega) dX12_isTimes_180 ?_
        refine m_eqi ((se_e (g3 xs[i] hxi) (by decide) : _ = nI ((pieceF xs m i).count xs[i]))) ?_
        refine m_iconstN 1 dX12_isTimes_181 (by decide) ?_
        first | refine m_iaddN dX12_isTimes_182 ?_ | refine m_iadd dX12_isTimes_182 ?_
        refine m_iast (by first | exact ⟨by decide, by decide, fun _ => rfl⟩ | exact isI_arr _ (by omega) | exact isI_mv _ (by omega) | exact isI_ne _ (by omega)) (by omega) dX12_isTimes_183 ?_
        first | refine m_iincN 1 dX12_isTimes_184 (by decide) rfl rfl ?_ | refine m_iinc dX12_isTimes_184 rfl rfl ?_
        refine m_goto 112 dX12_isTimes_187 (by decide) ?_
        refine ih2 _ (g1.fr ((chg.rf.se (S := [247, 255]) (by simp)).se (by simp)) (by simp)) (fun x hx => se_e (se_e (g2 x hx) (by decide)) (by decide)) (fun x hx => ?_) ?_ ((g5.se (by simp)).se (by simp))
        · rw [List.count_append, List.count_singleton]
          by_cases e : x = xs[i]
          · rw [e, if_pos (by simp)]; exact se_s _ _ _ _
          · rw [if_neg (by simpa using fun z => e z.symm), Nat.add_zero]; exact se_e2 (se_e (g3 x hx) (by decide)) e
        · exact (g4.snoc (x := xs[i])).fr (chg.rf.se (S := [255]) (by simp)) (by simp)
      · rw [if_neg hcd] at ih2
        refine m_iload dX12_isTimes_112 rfl ?_
        refine m_aload_n dX12_isTimes_114 rfl ?_
        refine m_get fl_X12_17 (by decide) rfl rfl dX12_isTimes_115 ?_
        refine m_iload_n dX12_isTimes_118 rfl ?_
        refine m_iald (by first | exact ⟨by decide, by decide, fun _ => rfl⟩ | exact isI_arr _ (by omega) | exact isI_mv _ (by omega) | exact isI_ne _ (by omega)) (by omega) dX12_isTimes_119 ?_
        refine m_eqi ((by rw [h242]; exact hA : _ = nI xs.length)) ?_
        first | refine m_icmp_geN 190 dX12_isTimes_120 (by decide) (by omega) (by omega) (fun c120 => by exfalso; omega) (fun c120 => ?_) | refine m_icmp_ge 190 dX12_isTimes_120 (by decide) (fun c120 => by exfalso; omega) (fun c120 => ?_)
        refine m_aload_n dX12_isTimes_123 rfl ?_
        refine m_get fl_X12_59 (by decide) rfl rfl dX12_isTimes_124 ?_
        refine m_aload_n dX12_isTimes_127 rfl ?_
        refine m_get fl_X12_29 (by decide) rfl rfl dX12_isTimes_128 ?_
        refine m_iload dX12_isTimes_131 rfl ?_
        refine m_iald (by first | exact ⟨by decide, by decide, fun _ => rfl⟩ | exact isI_arr _ (by omega) | exact isI_mv _ (by omega) | exact isI_ne _ (by omega)) (by omega) dX12_isTimes_133 ?_
        refine m_eqi (hat) ?_
        refine m_iald (by first | exact ⟨by decide, by decide, fun _ => rfl⟩ | exact isI_arr _ (by omega) | exact isI_mv _ (by omega) | exact isI_ne _ (by omega)) (by omega) dX12_isTimes_134 ?_
        refine m_eqi (g3 xs[i] hxi) ?_
        refine m_aload_n dX12_isTimes_135 rfl ?_
        refine m_get fl_X12_56 (by decide) rfl rfl dX12_isTimes_136 ?_
        refine m_aload_n dX12_isTimes_139 rfl ?_
        refine m_get fl_X12_29 (by decide) rfl rfl dX12_isTimes_140 ?_
        refine m_iload dX12_isTimes_143 rfl ?_
        refine m_iald (by first | exact ⟨by decide, by decide, fun _ => rfl⟩ | exact isI_arr _ (by omega) | exact isI_mv _ (by omega) | exact isI_ne _ (by omega)) (by omega) dX12_isTimes_145 ?_
        refine m_eqi (hat) ?_
        refine m_iald (by first | exact ⟨by decide, by decide, fun _ => rfl⟩ | exact isI_arr _ (by omega) | exact isI_mv _ (by omega) | exact isI_ne _ (by omega)) (by omega) dX12_isTimes_146 ?_
        refine m_eqi (g2 xs[i] hxi) ?_
        refine m_iload_n dX12_isTimes_147 rfl ?_
        first | refine m_idivN dX12_isTimes_148 (by omega) (by omega) (by omega) ?_ | refine m_idiv dX12_isTimes_148 (by decide) ?_
        first | refine m_icmp_geN 184 dX12_isTimes_149 (by decide) (by omega) (by omega) (fun c149 => ?_) (fun c149 => by exfalso; omega) | refine m_icmp_ge 184 dX12_isTimes_149 (by decide) (fun c149 => ?_) (fun c149 => by exfalso; omega)
        first | refine m_iincN 1 dX12_isTimes_184 (by decide) rfl rfl ?_ | refine m_iinc dX12_isTimes_184 rfl rfl ?_
        refine m_goto 112 dX12_isTimes_187 (by decide) ?_
        exact ih2 _ g1 g2 g3 g4 g5
    · have e6 : i = xs.length := by omega
      subst e6
      rw [hps] at g4 ⊢
      have hlen := powF_len ps m
      rw [← hps, pieceF_all hm hx6 (hcnt.mp hcok), hps] at hlen
      have hpsl : ps.length ≤ xs.length := by rw [← hlen, powF_len]; exact Nat.le_mul_of_pos_left _ hm
      refine m_iload dX12_isTimes_112 rfl ?_
      refine m_aload_n dX12_isTimes_114 rfl ?_
      refine m_get fl_X12_17 (by decide) rfl rfl dX12_isTimes_115 ?_
      refine m_iload_n dX12_isTimes_118 rfl ?_
      refine m_iald (by first | exact ⟨by decide, by decide, fun _ => rfl⟩ | exact isI_arr _ (by omega) | exact isI_mv _ (by omega) | exact isI_ne _ (by omega)) (by omega) dX12_isTimes_119 ?_
      refine m_eqi ((by rw [h242]; exact hA : _ = nI xs.length)) ?_
      first | refine m_icmp_geN 190 dX12_isTimes_120 (by decide) (by omega) (by omega) (fun c120 => ?_) (fun c120 => by exfalso; omega) | refine m_icmp_ge 190 dX12_isTimes_120 (by decide) (fun c120 => ?_) (fun c120 => by exfalso; omega)
      refine m_iload_n dX12_isTimes_190 rfl ?_
      refine m_istore dX12_isTimes_191 (Nat.le_of_ble_eq_true rfl) rfl ?_
      exact loop5 hcok hlen ps.length hpsl (Nat.le_refl _) d1 g1 (fun q hq => by rw [powF_fst hm hq]; exact g4 q hq) g5
    )
  -- the counts
  have loop3 : ∀ i, i ≤ 6 → ∀ d1, arrB d1 246 xs → (∀ x, x < 6 → d1.1 254 x = nI (xs.count x)) → (∀ x, x < 6 → d1.1 255 x = nI 0) → (∀ x, x < i → xs.count x % m = 0) → chg [246, 247, 249, 254, 255] d d1 → mG W K cX12_isTimes RX12 (dep + 2) d1 82 [some (.ref (xad W 240)), some (.int (nI n)), some (.int (nI m)), some (.int (nI 0)), some (.int (nI i)), none] [] := x_up _ (fun i hi ih d1 g1 g2 g3 g4 g5 => by
    by_cases hin : i < 6
    · have hc1 := hcl i
      have hc4 : xs.count i % m ≤ xs.count i := Nat.mod_le _ _
      by_cases hz : xs.count i % m = 0
      · skip
        refine m_iload dX12_isTimes_82 rfl ?_
        refine m_bipushN 6 dX12_isTimes_84 (by decide) ?_
        first | refine m_icmp_geN 109 dX12_isTimes_86 (by decide) (by omega) (by omega) (fun c86 => by exfalso; omega) (fun c86 => ?_) | refine m_icmp_ge 109 dX12_isTimes_86 (by decide) (fun c86 => by exfalso; omega) (fun c86 => ?_)
        refine m_aload_n dX12_isTimes_89 rfl ?_
        refine m_get fl_X12_56 (by decide) rfl rfl dX12_isTimes_90 ?_
        refine m_iload dX12_isTimes_93 rfl ?_
        refine m_iald (by first | exact ⟨by decide, by decide, fun _ => rfl⟩ | exact isI_arr _ (by omega) | exact isI_mv _ (by omega) | exact isI_ne _ (by omega)) (by omega) dX12_isTimes_95 ?_
        refine m_eqi (g2 i hin) ?_
        refine m_iload_n dX12_isTimes_96 rfl ?_
        first | refine m_iremN dX12_isTimes_97 (by omega) (by omega) (by omega) ?_ | refine m_irem dX12_isTimes_97 (by decide) ?_
        first | refine m_if_eqN 103 dX12_isTimes_98 (by decide) (by omega) (fun c98 => ?_) (fun c98 => by exfalso; omega) | refine m_if_eq 103 dX12_isTimes_98 (by decide) (fun c98 => ?_) (fun c98 => by exfalso; omega)
        first | refine m_iincN 1 dX12_isTimes_103 (by decide) rfl rfl ?_ | refine m_iinc dX12_isTimes_103 rfl rfl ?_
        refine m_goto 82 dX12_isTimes_106 (by decide) ?_
        refine ih hin d1 g1 g2 g3 (fun x hx => ?_) g5
        by_cases e : x = i
        · subst e; exact hz
        · exact g4 x (by omega)
      · skip
        refine m_iload dX12_isTimes_82 rfl ?_
        refine m_bipushN 6 dX12_isTimes_84 (by decide) ?_
        first | refine m_icmp_geN 109 dX12_isTimes_86 (by decide) (by omega) (by omega) (fun c86 => by exfalso; omega) (fun c86 => ?_) | refine m_icmp_ge 109 dX12_isTimes_86 (by decide) (fun c86 => by exfalso; omega) (fun c86 => ?_)
        refine m_aload_n dX12_isTimes_89 rfl ?_
        refine m_get fl_X12_56 (by decide) rfl rfl dX12_isTimes_90 ?_
        refine m_iload dX12_isTimes_93 rfl ?_
        refine m_iald (by first | exact ⟨by decide, by decide, fun _ => rfl⟩ | exact isI_arr _ (by omega) | exact isI_mv _ (by omega) | exact isI_ne _ (by omega)) (by omega) dX12_isTimes_95 ?_
        refine m_eqi (g2 i hin) ?_
        refine m_iload_n dX12_isTimes_96 rfl ?_
        first | refine m_iremN dX12_isTimes_97 (by omega) (by omega) (by omega) ?_ | refine m_irem dX12_isTimes_97 (by decide) ?_
        first | refine m_if_eqN 103 dX12_isTimes_98 (by decide) (by omega) (fun c98 => by exfalso; omega) (fun c98 => ?_) | refine m_if_eq 103 dX12_isTimes_98 (by decide) (fun c98 => by exfalso; omega) (fun c98 => ?_)
        refine m_iconstN 0 dX12_isTimes_101 (by decide) ?_
        have hnp : ¬ isPow σ.1 σ.2.1 xs m = true := fun z => by
          unfold isPow at z
          rw [Bool.and_eq_true] at z
          exact hz (hcnt.mp z.1 i hin)
        exact m_iret (ty := .boolean) hR dX12_isTimes_102 (⟨by rw [if_neg hnp]; rfl, g5⟩)
    · have e6 : i = 6 := by omega
      subst e6
      refine m_iload dX12_isTimes_82 rfl ?_
      refine m_bipushN 6 dX12_isTimes_84 (by decide) ?_
      first | refine m_icmp_geN 109 dX12_isTimes_86 (by decide) (by omega) (by omega) (fun c86 => ?_) (fun c86 => by exfalso; omega) | refine m_icmp_ge 109 dX12_isTimes_86 (by decide) (fun c86 => ?_) (fun c86 => by exfalso; omega)
      refine m_iconstN 0 dX12_isTimes_109 (by decide) ?_
      refine m_istore dX12_isTimes_110 (Nat.le_of_ble_eq_true rfl) rfl ?_
      exact loop4 (hcnt.mpr g4) 0 (Nat.zero_le _) d1 g1 g2 g3 arrB.nil g5
    )
  have loop2 : ∀ i, i ≤ xs.length → ∀ d1, arrB d1 246 xs → (∀ x, x < 6 → d1.1 254 x = nI ((xs.take i).count x)) → (∀ x, x < 6 → d1.1 255 x = nI 0) → chg [246, 247, 249, 254, 255] d d1 → mG W K cX12_isTimes RX12 (dep + 2) d1 46 [some (.ref (xad W 240)), some (.int (nI n)), some (.int (nI m)), some (.int (nI 0)), some (.int (nI i)), none] [] := x_up _ (fun i hi ih d1 g1 g2 g3 g5 => by
    have h242 := (g5 242 (by simp)).1
    by_cases hin : i < xs.length
    · have hxi := hx6 _ (List.getElem_mem hin)
      have hat : d1.1 246 i = nI xs[i] := by rw [g1 i hin, getD_at hin]
      have ih2 := ih hin
      rw [take_s hin] at ih2
      refine m_iload dX12_isTimes_46 rfl ?_
      refine m_aload_n dX12_isTimes_48 rfl ?_
      refine m_get fl_X12_17 (by decide) rfl rfl dX12_isTimes_49 ?_
      refine m_iload_n dX12_isTimes_52 rfl ?_
      refine m_iald (by first | exact ⟨by decide, by decide, fun _ => rfl⟩ | exact isI_arr _ (by omega) | exact isI_mv _ (by omega) | exact isI_ne _ (by omega)) (by omega) dX12_isTimes_53 ?_
      refine m_eqi ((by rw [h242]; exact hA : _ = nI xs.length)) ?_
      first | refine m_icmp_geN 79 dX12_isTimes_54 (by decide) (by omega) (by omega) (fun c54 => by exfalso; omega) (fun c54 => ?_) | refine m_icmp_ge 79 dX12_isTimes_54 (by decide) (fun c54 => by exfalso; omega) (fun c54 => ?_)
      refine m_aload_n dX12_isTimes_57 rfl ?_
      refine m_get fl_X12_56 (by decide) rfl rfl dX12_isTimes_58 ?_
      refine m_aload_n dX12_isTimes_61 rfl ?_
      refine m_get fl_X12_29 (by decide) rfl rfl dX12_isTimes_62 ?_
      refine m_iload dX12_isTimes_65 rfl ?_
      refine m_iald (by first | exact ⟨by decide, by decide, fun _ => rfl⟩ | exact isI_arr _ (by omega) | exact isI_mv _ (by omega) | exact isI_ne _ (by omega)) (by omega) dX12_isTimes_67 ?_
      refine m_eqi (hat) ?_
      first | refine m_dup2_2 dX12_isTimes_68 rfl ?_ | refine m_dup2_11 dX12_isTimes_68 rfl rfl ?_
      refine m_iald (by first | exact ⟨by decide, by decide, fun _ => rfl⟩ | exact isI_arr _ (by omega) | exact isI_mv _ (by omega) | exact isI_ne _ (by omega)) (by omega) dX12_isTimes_69 ?_
      refine m_eqi (g2 xs[i] hxi) ?_
      refine m_iconstN 1 dX12_isTimes_70 (by decide) ?_
      first | refine m_iaddN dX12_isTimes_71 ?_ | refine m_iadd dX12_isTimes_71 ?_
      refine m_iast (by first | exact ⟨by decide, by decide, fun _ => rfl⟩ | exact isI_arr _ (by omega) | exact isI_mv _ (by omega) | exact isI_ne _ (by omega)) (by omega) dX12_isTimes_72 ?_
      first | refine m_iincN 1 dX12_isTimes_73 (by decide) rfl rfl ?_ | refine m_iinc dX12_isTimes_73 rfl rfl ?_
      refine m_goto 46 dX12_isTimes_76 (by decide) ?_
      refine ih2 _ (g1.fr (chg.rf.se (S := [254]) (by simp)) (by simp)) (fun x hx => ?_) (fun x hx => se_e (g3 x hx) (by decide)) (g5.se (by simp))
      rw [List.count_append, List.count_singleton]
      by_cases e : x = xs[i]
      · rw [e, if_pos (by simp)]; exact se_s _ _ _ _
      · rw [if_neg (by simpa using fun z => e z.symm), Nat.add_zero]; exact se_e2 (g2 x hx) e
    · have e6 : i = xs.length := by omega
      subst e6
      rw [List.take_length] at g2
      refine m_iload dX12_isTimes_46 rfl ?_
      refine m_aload_n dX12_isTimes_48 rfl ?_
      refine m_get fl_X12_17 (by decide) rfl rfl dX12_isTimes_49 ?_
      refine m_iload_n dX12_isTimes_52 rfl ?_
      refine m_iald (by first | exact ⟨by decide, by decide, fun _ => rfl⟩ | exact isI_arr _ (by omega) | exact isI_mv _ (by omega) | exact isI_ne _ (by omega)) (by omega) dX12_isTimes_53 ?_
      refine m_eqi ((by rw [h242]; exact hA : _ = nI xs.length)) ?_
      first | refine m_icmp_geN 79 dX12_isTimes_54 (by decide) (by omega) (by omega) (fun c54 => ?_) (fun c54 => by exfalso; omega) | refine m_icmp_ge 79 dX12_isTimes_54 (by decide) (fun c54 => ?_) (fun c54 => by exfalso; omega)
      refine m_iconstN 0 dX12_isTimes_79 (by decide) ?_
      refine m_istore dX12_isTimes_80 (Nat.le_of_ble_eq_true rfl) rfl ?_
      exact loop3 0 (by decide) d1 g1 g2 g3 (fun x hx => absurd hx (Nat.not_lt_zero x)) g5
    )
  have loop1 : ∀ i, i ≤ 6 → ∀ d1, arrB d1 246 xs → (∀ x, x < i → d1.1 254 x = nI 0 ∧ d1.1 255 x = nI 0) → chg [246, 247, 249, 254, 255] d d1 → mG W K cX12_isTimes RX12 (dep + 2) d1 14 [some (.ref (xad W 240)), some (.int (nI n)), some (.int (nI m)), some (.int (nI 0)), some (.int (nI i)), none] [] := x_up _ (fun i hi ih d1 g1 g2 g5 => by
    by_cases hin : i < 6
    · skip
      refine m_iload dX12_isTimes_14 rfl ?_
      refine m_bipushN 6 dX12_isTimes_16 (by decide) ?_
      first | refine m_icmp_geN 43 dX12_isTimes_18 (by decide) (by omega) (by omega) (fun c18 => by exfalso; omega) (fun c18 => ?_) | refine m_icmp_ge 43 dX12_isTimes_18 (by decide) (fun c18 => by exfalso; omega) (fun c18 => ?_)
      refine m_aload_n dX12_isTimes_21 rfl ?_
      refine m_get fl_X12_56 (by decide) rfl rfl dX12_isTimes_22 ?_
      refine m_iload dX12_isTimes_25 rfl ?_
      refine m_iconstN 0 dX12_isTimes_27 (by decide) ?_
      refine m_iast (by first | exact ⟨by decide, by decide, fun _ => rfl⟩ | exact isI_arr _ (by omega) | exact isI_mv _ (by omega) | exact isI_ne _ (by omega)) (by omega) dX12_isTimes_28 ?_
      refine m_aload_n dX12_isTimes_29 rfl ?_
      refine m_get fl_X12_59 (by decide) rfl rfl dX12_isTimes_30 ?_
      refine m_iload dX12_isTimes_33 rfl ?_
      refine m_iconstN 0 dX12_isTimes_35 (by decide) ?_
      refine m_iast (by first | exact ⟨by decide, by decide, fun _ => rfl⟩ | exact isI_arr _ (by omega) | exact isI_mv _ (by omega) | exact isI_ne _ (by omega)) (by omega) dX12_isTimes_36 ?_
      first | refine m_iincN 1 dX12_isTimes_37 (by decide) rfl rfl ?_ | refine m_iinc dX12_isTimes_37 rfl rfl ?_
      refine m_goto 14 dX12_isTimes_40 (by decide) ?_
      refine ih hin _ (g1.fr ((chg.rf.se (S := [254, 255]) (by simp)).se (by simp)) (by simp)) (fun x hx => ?_) ((g5.se (by simp)).se (by simp))
      by_cases e : x = i
      · subst e; exact ⟨se_e (se_s _ _ _ _) (by decide), se_s _ _ _ _⟩
      · exact ⟨se_e (se_e2 (g2 x (by omega)).1 e) (by decide), se_e2 (se_e (g2 x (by omega)).2 (by decide)) e⟩
    · have e6 : i = 6 := by omega
      subst e6
      refine m_iload dX12_isTimes_14 rfl ?_
      refine m_bipushN 6 dX12_isTimes_16 (by decide) ?_
      first | refine m_icmp_geN 43 dX12_isTimes_18 (by decide) (by omega) (by omega) (fun c18 => ?_) (fun c18 => by exfalso; omega) | refine m_icmp_ge 43 dX12_isTimes_18 (by decide) (fun c18 => ?_) (fun c18 => by exfalso; omega)
      refine m_iconstN 0 dX12_isTimes_43 (by decide) ?_
      refine m_istore dX12_isTimes_44 (Nat.le_of_ble_eq_true rfl) rfl ?_
      exact loop2 0 (Nat.zero_le _) d1 g1 (fun x hx => by rw [List.take_zero]; exact (g2 x hx).1) (fun x hx => (g2 x hx).2) g5
    )
  refine m_aload_n dX12_isTimes_0 rfl ?_
  refine m_iload_n dX12_isTimes_1 rfl ?_
  refine m_aload_n dX12_isTimes_2 rfl ?_
  refine m_get fl_X12_29 (by decide) rfl rfl dX12_isTimes_3 ?_
  refine m_callVV (s_X12_take (o := 246) hI (by decide) hn hs) cv_X12_186 dX12_isTimes_6 (fun d6 h6 => ?_)
  rw [hxs] at h6
  refine m_iconstN 0 dX12_isTimes_9 (by decide) ?_
  refine m_istore_n dX12_isTimes_10 (Nat.le_of_ble_eq_true rfl) rfl ?_
  refine m_iconstN 0 dX12_isTimes_11 (by decide) ?_
  refine m_istore dX12_isTimes_12 (Nat.le_of_ble_eq_true rfl) rfl ?_
  exact loop1 0 (by decide) d6 h6.1 (fun x hx => absurd hx (Nat.not_lt_zero x)) (h6.2.mono (by simp))
theorem s_X12_rootO (hx : hN x = none) : mSpecI l W mX12_root (dep + 2) [.ref (xad W 240), .int x] d (fun r d' => r = -2 ∧ d' = d) := by
  refine m_spec RX12 [some (.ref (xad W 240)), some (.int x), none, none] rfl (by decide +kernel) rfl rfl (fun K hR => ?_)
  refine m_iload_n dX12_root_0 rfl ?_
  refine m_callSIp (s_X12_isHeapO hx) cs_X12_172 dX12_root_1 ?_
  refine m_if_ne 10 dX12_root_4 (by decide) (fun c4 => by exfalso; exact c4 rfl) (fun c4 => ?_)
  refine m_bipush (v := -2) dX12_root_7 (by decide) ?_
  exact m_iret (ty := .int) hR dX12_root_9 (⟨rfl, rfl⟩)
theorem s_X12_root (hx : hN x = some n) (hs : moSt d σ) : mSpecI l W mX12_root (dep + 3) [.ref (xad W 240), .int x] d (fun r d' => r = nI (rootF (isPow σ.1 σ.2.1 (σ.2.2 n)) (σ.2.2 n).length) ∧ chg [246, 247, 249, 254, 255] d d') := by
  obtain ⟨hn, rfl⟩ := hN_some hx
  obtain ⟨hA, hAl, hAg, hAx⟩ := hs.2 n hn
  refine m_spec RX12 [some (.ref (xad W 240)), some (.int (nI n)), none, none] rfl (by decide +kernel) rfl rfl (fun K hR => ?_)
  have loop : ∀ i, i ≤ (σ.2.2 n).length → ∀ d1, chg [246, 247, 249, 254, 255] d d1 → mG W K cX12_root RX12 (dep + 3) d1 14 [some (.ref (xad W 240)), some (.int (nI n)), some (.int (nI (rootF (isPow σ.1 σ.2.1 (σ.2.2 n)) i))), some (.int (nI (i + 1)))] [] := x_up _ (fun i hi ih d1 g1 => by
    have hs1 := hs.fr g1 (by simp) (by simp) (by simp) (by simp)
    have h242 := (g1 242 (by simp)).1
    by_cases hin : i < (σ.2.2 n).length
    · have ih2 := ih hin
      have er : rootF (isPow σ.1 σ.2.1 (σ.2.2 n)) (i + 1) = if isPow σ.1 σ.2.1 (σ.2.2 n) (i + 1) then i + 1 else rootF (isPow σ.1 σ.2.1 (σ.2.2 n)) i := rfl
      rw [er] at ih2
      by_cases hp : isPow σ.1 σ.2.1 (σ.2.2 n) (i + 1) = true
      · rw [if_pos hp] at ih2
        refine m_iload_n dX12_root_14 rfl ?_
        refine m_aload_n dX12_root_15 rfl ?_
        refine m_get fl_X12_17 (by decide) rfl rfl dX12_root_16 ?_
        refine m_iload_n dX12_root_19 rfl ?_
        refine m_iald (by first | exact ⟨by decide, by decide, fun _ => rfl⟩ | exact isI_arr _ (by omega) | exact isI_mv _ (by omega) | exact isI_ne _ (by omega)) (by omega) dX12_root_20 ?_
        refine m_eqi ((by rw [h242]; exact hA : _ = nI (σ.2.2 n).length)) ?_
        first | refine m_icmp_gtN 45 dX12_root_21 (by decide) (by omega) (by omega) (fun c21 => by exfalso; omega) (fun c21 => ?_) | refine m_icmp_gt 45 dX12_root_21 (by decide) (fun c21 => by exfalso; omega) (fun c21 => ?_)
        refine m_aload_n dX12_root_24 rfl ?_
        refine m_iload_n dX12_root_25 rfl ?_
        refine m_iload_n dX12_root_26 rfl ?_
        refine m_callVI (s_X12_isTimes (m := i + 1) (by omega) (by omega) hn hs1) cv_X12_232 dX12_root_27 (fun r27 d27 h27 => ?_)
        rw [h27.1, if_pos hp]
        refine m_if_eq 37 dX12_root_30 (by decide) (fun c30 => by exfalso; exact absurd c30 (by decide)) (fun c30 => ?_)
        refine m_iload_n dX12_root_33 rfl ?_
        refine m_goto 38 dX12_root_34 (by decide) ?_
        refine m_istore_n dX12_root_38 (Nat.le_of_ble_eq_true rfl) rfl ?_
        first | refine m_iincN 1 dX12_root_39 (by decide) rfl rfl ?_ | refine m_iinc dX12_root_39 rfl rfl ?_
        refine m_goto 14 dX12_root_42 (by decide) ?_
        exact ih2 d27 (g1.tr h27.2)
      · rw [if_neg hp] at ih2
        refine m_iload_n dX12_root_14 rfl ?_
        refine m_aload_n dX12_root_15 rfl ?_
        refine m_get fl_X12_17 (by decide) rfl rfl dX12_root_16 ?_
        refine m_iload_n dX12_root_19 rfl ?_
        refine m_iald (by first | exact ⟨by decide, by decide, fun _ => rfl⟩ | exact isI_arr _ (by omega) | exact isI_mv _ (by omega) | exact isI_ne _ (by omega)) (by omega) dX12_root_20 ?_
        refine m_eqi ((by rw [h242]; exact hA : _ = nI (σ.2.2 n).length)) ?_
        first | refine m_icmp_gtN 45 dX12_root_21 (by decide) (by omega) (by omega) (fun c21 => by exfalso; omega) (fun c21 => ?_) | refine m_icmp_gt 45 dX12_root_21 (by decide) (fun c21 => by exfalso; omega) (fun c21 => ?_)
        refine m_aload_n dX12_root_24 rfl ?_
        refine m_iload_n dX12_root_25 rfl ?_
        refine m_iload_n dX12_root_26 rfl ?_
        refine m_callVI (s_X12_isTimes (m := i + 1) (by omega) (by omega) hn hs1) cv_X12_232 dX12_root_27 (fun r27 d27 h27 => ?_)
        rw [h27.1, if_neg hp]
        refine m_if_eq 37 dX12_root_30 (by decide) (fun c30 => ?_) (fun c30 => by exfalso; exact c30 rfl)
        refine m_iload_n dX12_root_37 rfl ?_
        refine m_istore_n dX12_root_38 (Nat.le_of_ble_eq_true rfl) rfl ?_
        first | refine m_iincN 1 dX12_root_39 (by decide) rfl rfl ?_ | refine m_iinc dX12_root_39 rfl rfl ?_
        refine m_goto 14 dX12_root_42 (by decide) ?_
        exact ih2 d27 (g1.tr h27.2)
    · have e6 : i = (σ.2.2 n).length := by omega
      subst e6
      refine m_iload_n dX12_root_14 rfl ?_
      refine m_aload_n dX12_root_15 rfl ?_
      refine m_get fl_X12_17 (by decide) rfl rfl dX12_root_16 ?_
      refine m_iload_n dX12_root_19 rfl ?_
      refine m_iald (by first | exact ⟨by decide, by decide, fun _ => rfl⟩ | exact isI_arr _ (by omega) | exact isI_mv _ (by omega) | exact isI_ne _ (by omega)) (by omega) dX12_root_20 ?_
      refine m_eqi ((by rw [h242]; exact hA : _ = nI (σ.2.2 n).length)) ?_
      first | refine m_icmp_gtN 45 dX12_root_21 (by decide) (by omega) (by omega) (fun c21 => ?_) (fun c21 => by exfalso; omega) | refine m_icmp_gt 45 dX12_root_21 (by decide) (fun c21 => ?_) (fun c21 => by exfalso; omega)
      refine m_iload_n dX12_root_45 rfl ?_
      exact m_iret (ty := .int) hR dX12_root_46 (⟨rfl, g1⟩)
    )
  refine m_iload_n dX12_root_0 rfl ?_
  refine m_callSIp (s_X12_isHeap hx) cs_X12_172 dX12_root_1 ?_
  refine m_if_ne 10 dX12_root_4 (by decide) (fun c4 => ?_) (fun c4 => by exfalso; exact c4 (by decide))
  refine m_iconstN 0 dX12_root_10 (by decide) ?_
  refine m_istore_n dX12_root_11 (Nat.le_of_ble_eq_true rfl) rfl ?_
  refine m_iconstN 1 dX12_root_12 (by decide) ?_
  refine m_istore_n dX12_root_13 (Nat.le_of_ble_eq_true rfl) rfl ?_
  exact loop 0 (Nat.zero_le _) d chg.rf
end MOD
