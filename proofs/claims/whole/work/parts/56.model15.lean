/-! the law's model: how many heaps of a length the reader takes -/
def cI (fb : Nat → Nat) (mv : Nat → Nat → Nat) (T : Nat → Nat) (i p a : Nat) : Nat := cn fb mv T (i % 64) (i / 64) p (a % 64) (a / 64)
theorem tk_step {k sts : Nat} {fb : Nat → Nat} {mv : Nat → Nat → Nat} (hf : fbOk k fb) (h1 : 1 ≤ sts) (h5 : sts ≤ 5) (hm : ∀ s, s < sts → ∀ p, p < 6 → mv s p < sts) (m s b : Nat) (hs : s < 5) (hb : b < 64) : sN (fun i => sN (fun p => cI fb mv (tkT k sts fb mv m) i p (64 * s + b)) k) 320 % 1000000007 = tkT k sts fb mv (m + 1) (b * 5 + s) := by
  have hk := hf.2.1
  have h2 : 2 ^ k ≤ 2 ^ 6 := Nat.pow_le_pow_right (by decide) hk
  have hz : ∀ b2 s2 p, s2 < 5 → (sts ≤ s2 ∨ 2 ^ k ≤ b2) → cn fb mv (tkT k sts fb mv m) b2 s2 p b s = 0 := fun b2 s2 p hs2 h => by
    unfold cn
    rw [tkT_0 hf h1 h5 hm m b2 s2 hs2 h]
    exact ite_self 0
  rw [tkT_s, stA_sum hs (fun s hs2 p hp => by have := hm s hs2 p (by omega); omega)]
  congr 1
  rw [show 320 = 64 * 5 from rfl, sN_mul]
  have e1 : sN (fun s2 => sN (fun b2 => sN (fun p => cI fb mv (tkT k sts fb mv m) (64 * s2 + b2) p (64 * s + b)) k) 64) 5 = sN (fun s2 => sN (fun b2 => sN (fun p => cn fb mv (tkT k sts fb mv m) b2 s2 p b s) k) 64) 5 := by
    refine sN_cg 5 (fun s2 hs2 => sN_cg 64 (fun b2 hb2 => sN_cg k (fun p _ => ?_)))
    unfold cI
    rw [show (64 * s2 + b2) % 64 = b2 by omega, show (64 * s2 + b2) / 64 = s2 by omega, show (64 * s + b) % 64 = b by omega, show (64 * s + b) / 64 = s by omega]
  rw [e1, sN_comm, sN_cut (m := 2 ^ k) (n := 64) h2 (fun b2 hb2 _ => sN_0 5 (fun s2 hs2 => sN_0 k (fun p _ => hz b2 s2 p hs2 (Or.inr hb2))))]
  exact sN_cg _ (fun b2 _ => sN_cut h5 (fun s2 h3 h4 => sN_0 k (fun p _ => hz b2 s2 p h4 (Or.inl h3))))
theorem smT_sN (sts tb : Nat) (T : Nat → Nat) : ∀ n, smT sts tb T n = sN (fun a => if a % 5 < sts ∧ tb.testBit (a % 5) = true then T a else 0) n := by
  intro n
  induction n with
  | zero => rfl
  | succ n ih => rw [smT_s, ih, sN_s]
theorem tk_sum {k sts tb : Nat} {fb : Nat → Nat} {mv : Nat → Nat → Nat} (hf : fbOk k fb) (h1 : 1 ≤ sts) (h5 : sts ≤ 5) (hm : ∀ s, s < sts → ∀ p, p < 6 → mv s p < sts) (m : Nat) : sN (fun i => if tb.testBit (i / 64) = true then tkT k sts fb mv m (i % 64 * 5 + i / 64) else 0) 320 = smT sts tb (tkT k sts fb mv m) 320 := by
  rw [smT_sN, show 320 = 64 * 5 from rfl, sN_mul, sN_comm, show 64 * 5 = 5 * 64 from rfl, sN_mul]
  refine sN_cg 64 (fun b hb => sN_cg 5 (fun s hs => ?_))
  rw [show (64 * s + b) % 64 = b by omega, show (64 * s + b) / 64 = s by omega, show (5 * b + s) % 5 = s by omega, show 5 * b + s = b * 5 + s by omega]
  by_cases hlt : s < sts
  · simp only [hlt, true_and]
  · rw [tkT_0 hf h1 h5 hm m b s hs (Or.inl (by omega))]
    simp
def nowIs (d : xD) (T : Nat → Nat) : Prop := ∀ a, a < 320 → d.2 258 a = lN (T (a % 64 * 5 + a / 64))
section MOD
variable {l : Launch} {W : xW} {dep : Nat} {d : xD} {bs : List Nat} {σ : St} {x y z w : Int32} {n n2 n3 k sts tb : Nat} {fb : Nat → Nat} {mv : Nat → Nat → Nat}
theorem s_X12_takenO (hy : y < 0 ∨ nI 60 < y) : mSpecI l W mX12_taken (dep + 1) [.ref (xad W 240), .int y] d (fun r d' => r = -3 ∧ d' = d) := by
  refine m_spec RX12 [some (.ref (xad W 240)), some (.int y), none, none, none, none] rfl (by decide +kernel) rfl rfl (fun K hR => ?_)
  refine m_iload_n dX12_taken_0 rfl ?_
  refine m_iconstN 0 dX12_taken_1 (by decide) ?_
  refine m_bipushN 60 dX12_taken_2 (by decide) ?_
  refine m_callSIp (s_X12_inN (x := y) (a := nI 0) (b := nI 60) hy) cs_X12_83 dX12_taken_4 ?_
  refine m_if_ne 13 dX12_taken_7 (by decide) (fun c7 => by exfalso; exact c7 rfl) (fun c7 => ?_)
  refine m_bipush (v := -3) dX12_taken_10 (by decide) ?_
  exact m_iret (ty := .int) hR dX12_taken_12 (⟨rfl, rfl⟩)
theorem s_X12_taken {m : Nat} (hm : m ≤ 60) (hs : moSt d σ) (h : moRd d sts tb mv) : mSpecI l W mX12_taken (dep + 1) [.ref (xad W 240), .int (nI m)] d (fun r d' => r = nI (smT sts tb (tkT σ.1 sts σ.2.1 mv m) 320 % 1000000007) ∧ chg [258, 259] d d') := by
  have h1 := h.2.2.1
  have h5 := h.2.2.2.1
  have hl := hs.1
  have hk := hl.2.2.2.1
  have hf := hl.2.2
  have hm6 := h.2.2.2.2.2.2
  have h32 := h.2.2.2.2.1
  have hL8 : isL W 258 320 := ⟨by decide, by decide, fun _ => rfl⟩
  have hL9 : isL W 259 320 := ⟨by decide, by decide, fun _ => rfl⟩
  generalize σ.1 = k at *
  generalize σ.2.1 = fb at *
  have hmv : ∀ s, s < sts → ∀ p, p < k → mv s p < 5 := fun s hs p hp => by have := hm6 s hs p (by omega); omega
  have hTlt := fun i a (ha : a < 320) => tkT_lt k sts fb mv hmv i (a % 64) (a / 64) (by omega)
  refine m_spec RX12 [some (.ref (xad W 240)), some (.int (nI m)), none, none, none, none] rfl (by decide +kernel) rfl rfl (fun K hR => ?_)
  -- the sum
  have loop5 : ∀ d1, nowIs d1 (tkT k sts fb mv m) → chg [258, 259] d d1 → ∀ i, i ≤ 320 → ∀ o5, mG W K cX12_taken RX12 (dep + 1) d1 222 [some (.ref (xad W 240)), some (.int (nI m)), some (.long (lN (sN (fun i => if tb.testBit (i / 64) = true then tkT k sts fb mv m (i % 64 * 5 + i / 64) else 0) i))), none, some (.int (nI i)), o5] [] := fun d1 g1 g2 => x_up _ (fun i hi ih o5 => by
    have hr1 := h.fr g2 (by simp) (by simp)
    by_cases hin : i < 320
    · have ih2 := ih hin
      rw [sN_s] at ih2
      cases hb : tb.testBit (i / 64) with
      | true =>
        rw [if_pos hb] at ih2
        refine m_iload dX12_taken_222 rfl ?_
        refine m_sipushN 320 dX12_taken_224 (by decide) ?_
        first | refine m_icmp_geN 266 dX12_taken_227 (by decide) (by omega) (by omega) (fun c227 => by exfalso; omega) (fun c227 => ?_) | refine m_icmp_ge 266 dX12_taken_227 (by decide) (fun c227 => by exfalso; omega) (fun c227 => ?_)
        refine m_lload_n dX12_taken_230 rfl ?_
        refine m_aload_n dX12_taken_231 rfl ?_
        refine m_get fl_X12_260 (by decide) rfl rfl dX12_taken_232 ?_
        refine m_eqi (hr1.2.1) ?_
        refine m_iload dX12_taken_235 rfl ?_
        refine m_bipushN 64 dX12_taken_237 (by decide) ?_
        first | refine m_idivN dX12_taken_239 (by omega) (by omega) (by omega) ?_ | refine m_idiv dX12_taken_239 (by decide) ?_
        refine m_ishr dX12_taken_240 ?_
        refine m_iconstN 1 dX12_taken_241 (by decide) ?_
        refine m_iand dX12_taken_242 ?_
        refine m_eqi ((by rw [nI_bit (by omega) (by omega), hb]; rfl : _ = nI 1)) ?_
        refine m_iconstN 1 dX12_taken_243 (by decide) ?_
        first | refine m_icmp_neN 257 dX12_taken_244 (by decide) (by omega) (by omega) (fun c244 => by exfalso; exact c244 rfl) (fun c244 => ?_) | refine m_icmp_ne 257 dX12_taken_244 (by decide) (fun c244 => by exfalso; exact c244 rfl) (fun c244 => ?_)
        refine m_aload_n dX12_taken_247 rfl ?_
        refine m_get fl_X12_68 (by decide) rfl rfl dX12_taken_248 ?_
        refine m_iload dX12_taken_251 rfl ?_
        refine m_lald hL8 (by omega) dX12_taken_253 ?_
        refine m_eql (g1 i hin) ?_
        refine m_goto 258 dX12_taken_254 (by decide) ?_
        first | refine m_laddN dX12_taken_258 ?_ | refine m_ladd dX12_taken_258 ?_
        refine m_lstore_n dX12_taken_259 (Nat.le_of_ble_eq_true rfl) rfl ?_
        first | refine m_iincN 1 dX12_taken_260 (by decide) rfl rfl ?_ | refine m_iinc dX12_taken_260 rfl rfl ?_
        refine m_goto 222 dX12_taken_263 (by decide) ?_
        exact ih2 _
      | false =>
        rw [if_neg (by rw [hb]; decide)] at ih2
        refine m_iload dX12_taken_222 rfl ?_
        refine m_sipushN 320 dX12_taken_224 (by decide) ?_
        first | refine m_icmp_geN 266 dX12_taken_227 (by decide) (by omega) (by omega) (fun c227 => by exfalso; omega) (fun c227 => ?_) | refine m_icmp_ge 266 dX12_taken_227 (by decide) (fun c227 => by exfalso; omega) (fun c227 => ?_)
        refine m_lload_n dX12_taken_230 rfl ?_
        refine m_aload_n dX12_taken_231 rfl ?_
        refine m_get fl_X12_260 (by decide) rfl rfl dX12_taken_232 ?_
        refine m_eqi (hr1.2.1) ?_
        refine m_iload dX12_taken_235 rfl ?_
        refine m_bipushN 64 dX12_taken_237 (by decide) ?_
        first | refine m_idivN dX12_taken_239 (by omega) (by omega) (by omega) ?_ | refine m_idiv dX12_taken_239 (by decide) ?_
        refine m_ishr dX12_taken_240 ?_
        refine m_iconstN 1 dX12_taken_241 (by decide) ?_
        refine m_iand dX12_taken_242 ?_
        refine m_eqi ((by rw [nI_bit (by omega) (by omega), hb]; rfl : _ = nI 0)) ?_
        refine m_iconstN 1 dX12_taken_243 (by decide) ?_
        first | refine m_icmp_neN 257 dX12_taken_244 (by decide) (by omega) (by omega) (fun c244 => ?_) (fun c244 => by exfalso; exact c244 (by decide)) | refine m_icmp_ne 257 dX12_taken_244 (by decide) (fun c244 => ?_) (fun c244 => by exfalso; exact c244 (by decide))
        refine m_lconstN 0 dX12_taken_257 (by decide) ?_
        first | refine m_laddN dX12_taken_258 ?_ | refine m_ladd dX12_taken_258 ?_
        refine m_lstore_n dX12_taken_259 (Nat.le_of_ble_eq_true rfl) rfl ?_
        first | refine m_iincN 1 dX12_taken_260 (by decide) rfl rfl ?_ | refine m_iinc dX12_taken_260 rfl rfl ?_
        refine m_goto 222 dX12_taken_263 (by decide) ?_
        exact ih2 _
    · have e6 : i = 320 := by omega
      subst e6
      have hle : sN (fun i => if tb.testBit (i / 64) = true then tkT k sts fb mv m (i % 64 * 5 + i / 64) else 0) 320 ≤ 320 * 1000000007 := sN_le 320 (fun a ha => by
        show (if _ then _ else _) ≤ _
        split
        · exact Nat.le_of_lt (hTlt m a ha)
        · exact Nat.zero_le _)
      refine m_iload dX12_taken_222 rfl ?_
      refine m_sipushN 320 dX12_taken_224 (by decide) ?_
      first | refine m_icmp_geN 266 dX12_taken_227 (by decide) (by omega) (by omega) (fun c227 => ?_) (fun c227 => by exfalso; omega) | refine m_icmp_ge 266 dX12_taken_227 (by decide) (fun c227 => ?_) (fun c227 => by exfalso; omega)
      refine m_lload_n dX12_taken_266 rfl ?_
      refine m_ldc2 ct_X12_218 dX12_taken_267 ?_
      refine m_eql (y := lN 1000000007) (by decide +kernel) ?_
      first | refine m_lremN dX12_taken_270 (by omega) (by omega) (by omega) ?_ | refine m_lrem dX12_taken_270 (by decide) ?_
      first | refine m_l2iN dX12_taken_271 ?_ | refine m_l2i dX12_taken_271 ?_
      exact m_iret (ty := .int) hR dX12_taken_272 (⟨by rw [tk_sum hf h1 h5 hm6], g2⟩)
    )
  -- a round
  have loop2 : ∀ t, t ≤ m → ∀ d1 o3 o4 o5, nowIs d1 (tkT k sts fb mv t) → chg [258, 259] d d1 → mG W K cX12_taken RX12 (dep + 1) d1 45 [some (.ref (xad W 240)), some (.int (nI m)), some (.int (nI t)), o3, o4, o5] [] := x_up _ (fun t ht iht d1 o3 o4 o5 g1 g2 => by
    by_cases htm : t < m
    · have iht2 := iht htm
      have hT0 := tkT_0 hf h1 h5 hm6 t
      -- copy
      have loop4 : ∀ i, i ≤ 320 → ∀ d2 o4 o5, (∀ a, a < 320 → d2.2 259 a = lN (tkT k sts fb mv (t + 1) (a % 64 * 5 + a / 64))) → (∀ a, a < i → d2.2 258 a = lN (tkT k sts fb mv (t + 1) (a % 64 * 5 + a / 64))) → chg [258, 259] d d2 → mG W K cX12_taken RX12 (dep + 1) d2 186 [some (.ref (xad W 240)), some (.int (nI m)), some (.int (nI t)), some (.int (nI i)), o4, o5] [] := x_up _ (fun i hi ih d2 o4 o5 k1 k2 k3 => by
        by_cases hin : i < 320
        · skip
          refine m_iload_n dX12_taken_186 rfl ?_
          refine m_sipushN 320 dX12_taken_187 (by decide) ?_
          first | refine m_icmp_geN 211 dX12_taken_190 (by decide) (by omega) (by omega) (fun c190 => by exfalso; omega) (fun c190 => ?_) | refine m_icmp_ge 211 dX12_taken_190 (by decide) (fun c190 => by exfalso; omega) (fun c190 => ?_)
          refine m_aload_n dX12_taken_193 rfl ?_
          refine m_get fl_X12_68 (by decide) rfl rfl dX12_taken_194 ?_
          refine m_iload_n dX12_taken_197 rfl ?_
          refine m_aload_n dX12_taken_198 rfl ?_
          refine m_get fl_X12_71 (by decide) rfl rfl dX12_taken_199 ?_
          refine m_iload_n dX12_taken_202 rfl ?_
          refine m_lald hL9 (by omega) dX12_taken_203 ?_
          refine m_eql (k1 i hin) ?_
          refine m_last hL8 (by omega) dX12_taken_204 ?_
          first | refine m_iincN 1 dX12_taken_205 (by decide) rfl rfl ?_ | refine m_iinc dX12_taken_205 rfl rfl ?_
          refine m_goto 186 dX12_taken_208 (by decide) ?_
          refine ih hin _ _ _ (fun a ha => by rw [seL_oq _ _ (by decide)]; exact k1 a ha) (fun a ha => ?_) (k3.seL (by simp))
          by_cases e : a = i
          · subst e; exact seL_s' _ _ _ _
          · rw [seL_n _ _ e]; exact k2 a (by omega)
        · have e6 : i = 320 := by omega
          subst e6
          refine m_iload_n dX12_taken_186 rfl ?_
          refine m_sipushN 320 dX12_taken_187 (by decide) ?_
          first | refine m_icmp_geN 211 dX12_taken_190 (by decide) (by omega) (by omega) (fun c190 => ?_) (fun c190 => by exfalso; omega) | refine m_icmp_ge 211 dX12_taken_190 (by decide) (fun c190 => ?_) (fun c190 => by exfalso; omega)
          first | refine m_iincN 1 dX12_taken_211 (by decide) rfl rfl ?_ | refine m_iinc dX12_taken_211 rfl rfl ?_
          refine m_goto 45 dX12_taken_214 (by decide) ?_
          exact iht2 d2 _ _ _ k2 k3
        )
      have loop3 : ∀ i, i ≤ 320 → ∀ d2 o4 o5, nowIs d2 (tkT k sts fb mv t) → (∀ a, a < 320 → d2.2 259 a = lN (sN (fun i => sN (fun p => cI fb mv (tkT k sts fb mv t) i p a) k) i % 1000000007)) → chg [258, 259] d d2 → mG W K cX12_taken RX12 (dep + 1) d2 74 [some (.ref (xad W 240)), some (.int (nI m)), some (.int (nI t)), some (.int (nI i)), o4, o5] [] := x_up _ (fun i hi ih d2 o4 o5 k1 k2 k3 => by
        by_cases hin : i < 320
        · have ih2 := ih hin
          by_cases hz : tkT k sts fb mv t (i % 64 * 5 + i / 64) = 0
          · have hk1 := hl.2.2.1
            refine m_iload_n dX12_taken_74 rfl ?_
            refine m_sipushN 320 dX12_taken_75 (by decide) ?_
            first | refine m_icmp_geN 184 dX12_taken_78 (by decide) (by omega) (by omega) (fun c78 => by exfalso; omega) (fun c78 => ?_) | refine m_icmp_ge 184 dX12_taken_78 (by decide) (fun c78 => by exfalso; omega) (fun c78 => ?_)
            refine m_iconstN 0 dX12_taken_81 (by decide) ?_
            refine m_istore dX12_taken_82 (Nat.le_of_ble_eq_true rfl) rfl ?_
            refine m_iload dX12_taken_84 rfl ?_
            refine m_aload_n dX12_taken_86 rfl ?_
            refine m_get fl_X12_7 (by decide) rfl rfl dX12_taken_87 ?_
            refine m_eqi ((hl.fr k3 (by simp) (by simp)).1) ?_
            first | refine m_icmp_geN 178 dX12_taken_90 (by decide) (by omega) (by omega) (fun c90 => by exfalso; omega) (fun c90 => ?_) | refine m_icmp_ge 178 dX12_taken_90 (by decide) (fun c90 => by exfalso; omega) (fun c90 => ?_)
            refine m_aload_n dX12_taken_93 rfl ?_
            refine m_get fl_X12_68 (by decide) rfl rfl dX12_taken_94 ?_
            refine m_iload_n dX12_taken_97 rfl ?_
            refine m_lald hL8 (by omega) dX12_taken_98 ?_
            refine m_eql ((by rw [k1 i hin, hz] : _ = lN 0)) ?_
            refine m_lconstN 0 dX12_taken_99 (by decide) ?_
            first | refine m_lcmp_eqN 178 dX12_taken_100 dX12_taken_101 (by decide) (by omega) (by omega) (fun c100 => ?_) (fun c100 => by exfalso; exact c100 rfl) | refine m_lcmp_eq 178 dX12_taken_100 dX12_taken_101 (by decide) (fun c100 => ?_) (fun c100 => by exfalso; exact c100 rfl)
            first | refine m_iincN 1 dX12_taken_178 (by decide) rfl rfl ?_ | refine m_iinc dX12_taken_178 rfl rfl ?_
            refine m_goto 74 dX12_taken_181 (by decide) ?_
            refine ih2 d2 _ _ k1 (fun a ha => ?_) k3
            rw [k2 a ha, sN_s, sN_0 (f := fun p => cI fb mv (tkT k sts fb mv t) i p a) k (fun p _ => ?_), Nat.add_zero]
            unfold cI cn
            rw [hz]
            exact ite_self 0
          · have hss : i / 64 < sts ∧ i % 64 < 2 ^ k := by
              refine ⟨Nat.not_le.mp (fun z => hz (hT0 _ _ (by omega) (Or.inl z))), Nat.not_le.mp (fun z => hz (hT0 _ _ (by omega) (Or.inr z)))⟩
            have hTi := hTlt t i hin
            have inner : ∀ p, p ≤ k → ∀ d3 o5, nowIs d3 (tkT k sts fb mv t) → (∀ a, a < 320 → d3.2 259 a = lN ((sN (fun i => sN (fun p => cI fb mv (tkT k sts fb mv t) i p a) k) i + sN (fun p => cI fb mv (tkT k sts fb mv t) i p a) p) % 1000000007)) → chg [258, 259] d d3 → mG W K cX12_taken RX12 (dep + 1) d3 84 [some (.ref (xad W 240)), some (.int (nI m)), some (.int (nI t)), some (.int (nI i)), some (.int (nI p)), o5] [] := x_up _ (fun p hp ihp d3 o5 q1 q2 q3 => by
              have hl3 := hl.fr q3 (by simp) (by simp)
              have hr3 := h.fr q3 (by simp) (by simp)
              by_cases hpk : p < k
              · have ihp2 := ihp hpk
                cases hb : (i % 64).testBit p with
                | true =>
                  refine m_iload dX12_taken_84 rfl ?_
                  refine m_aload_n dX12_taken_86 rfl ?_
                  refine m_get fl_X12_7 (by decide) rfl rfl dX12_taken_87 ?_
                  refine m_eqi (hl3.1) ?_
                  first | refine m_icmp_geN 178 dX12_taken_90 (by decide) (by omega) (by omega) (fun c90 => by exfalso; omega) (fun c90 => ?_) | refine m_icmp_ge 178 dX12_taken_90 (by decide) (fun c90 => by exfalso; omega) (fun c90 => ?_)
                  refine m_aload_n dX12_taken_93 rfl ?_
                  refine m_get fl_X12_68 (by decide) rfl rfl dX12_taken_94 ?_
                  refine m_iload_n dX12_taken_97 rfl ?_
                  refine m_lald hL8 (by omega) dX12_taken_98 ?_
                  refine m_eql (q1 i hin) ?_
                  refine m_lconstN 0 dX12_taken_99 (by decide) ?_
                  first | refine m_lcmp_eqN 178 dX12_taken_100 dX12_taken_101 (by decide) (by omega) (by omega) (fun c100 => by exfalso; omega) (fun c100 => ?_) | refine m_lcmp_eq 178 dX12_taken_100 dX12_taken_101 (by decide) (fun c100 => by exfalso; omega) (fun c100 => ?_)
                  refine m_iload_n dX12_taken_104 rfl ?_
                  refine m_bipushN 64 dX12_taken_105 (by decide) ?_
                  first | refine m_iremN dX12_taken_107 (by omega) (by omega) (by omega) ?_ | refine m_irem dX12_taken_107 (by decide) ?_
                  refine m_iload dX12_taken_108 rfl ?_
                  refine m_ishr dX12_taken_110 ?_
                  refine m_iconstN 1 dX12_taken_111 (by decide) ?_
                  refine m_iand dX12_taken_112 ?_
                  refine m_eqi ((by rw [nI_bit (by omega) (by omega), hb]; rfl : _ = nI 1)) ?_
                  first | refine m_if_neN 172 dX12_taken_113 (by decide) (by omega) (fun c113 => ?_) (fun c113 => by exfalso; exact c113 (by decide)) | refine m_if_ne 172 dX12_taken_113 (by decide) (fun c113 => ?_) (fun c113 => by exfalso; exact c113 (by decide))
                  first | refine m_iincN 1 dX12_taken_172 (by decide) rfl rfl ?_ | refine m_iinc dX12_taken_172 rfl rfl ?_
                  refine m_goto 84 dX12_taken_175 (by decide) ?_
                  refine ihp2 d3 _ q1 (fun a ha => ?_) q3
                  rw [q2 a ha, sN_s, show cI fb mv (tkT k sts fb mv t) i p a = 0 from if_neg (fun z => by rw [hb] at z; cases z.1), Nat.add_zero]
                | false =>
                  have hmp := hm6 _ hss.1 p (by omega)
                  have hbl := bar_lt (x := p) hf (by omega) (i % 64)
                  have hbl6 : bar fb (i % 64) p < 2 ^ 6 := Nat.lt_of_lt_of_le hbl (Nat.pow_le_pow_right (n := 2) (by decide) hk)
                  have hto : 64 * mv (i / 64) p + bar fb (i % 64) p < 320 := by omega
                  have hq2 := q2 _ hto
                  have hlt9 : (sN (fun i' => sN (fun p => cI fb mv (tkT k sts fb mv t) i' p (64 * mv (i / 64) p + bar fb (i % 64) p)) k) i + sN (fun p' => cI fb mv (tkT k sts fb mv t) i p' (64 * mv (i / 64) p + bar fb (i % 64) p)) p) % 1000000007 < 1000000007 := Nat.mod_lt _ (by decide)
                  refine m_iload dX12_taken_84 rfl ?_
                  refine m_aload_n dX12_taken_86 rfl ?_
                  refine m_get fl_X12_7 (by decide) rfl rfl dX12_taken_87 ?_
                  refine m_eqi (hl3.1) ?_
                  first | refine m_icmp_geN 178 dX12_taken_90 (by decide) (by omega) (by omega) (fun c90 => by exfalso; omega) (fun c90 => ?_) | refine m_icmp_ge 178 dX12_taken_90 (by decide) (fun c90 => by exfalso; omega) (fun c90 => ?_)
                  refine m_aload_n dX12_taken_93 rfl ?_
                  refine m_get fl_X12_68 (by decide) rfl rfl dX12_taken_94 ?_
                  refine m_iload_n dX12_taken_97 rfl ?_
                  refine m_lald hL8 (by omega) dX12_taken_98 ?_
                  refine m_eql (q1 i hin) ?_
                  refine m_lconstN 0 dX12_taken_99 (by decide) ?_
                  first | refine m_lcmp_eqN 178 dX12_taken_100 dX12_taken_101 (by decide) (by omega) (by omega) (fun c100 => by exfalso; omega) (fun c100 => ?_) | refine m_lcmp_eq 178 dX12_taken_100 dX12_taken_101 (by decide) (fun c100 => by exfalso; omega) (fun c100 => ?_)
                  refine m_iload_n dX12_taken_104 rfl ?_
                  refine m_bipushN 64 dX12_taken_105 (by decide) ?_
                  first | refine m_iremN dX12_taken_107 (by omega) (by omega) (by omega) ?_ | refine m_irem dX12_taken_107 (by decide) ?_
                  refine m_iload dX12_taken_108 rfl ?_
                  refine m_ishr dX12_taken_110 ?_
                  refine m_iconstN 1 dX12_taken_111 (by decide) ?_
                  refine m_iand dX12_taken_112 ?_
                  refine m_eqi ((by rw [nI_bit (by omega) (by omega), hb]; rfl : _ = nI 0)) ?_
                  first | refine m_if_neN 172 dX12_taken_113 (by decide) (by omega) (fun c113 => by exfalso; exact c113 rfl) (fun c113 => ?_) | refine m_if_ne 172 dX12_taken_113 (by decide) (fun c113 => by exfalso; exact c113 rfl) (fun c113 => ?_)
                  refine m_bipushN 64 dX12_taken_116 (by decide) ?_
                  refine m_aload_n dX12_taken_118 rfl ?_
                  refine m_get fl_X12_80 (by decide) rfl rfl dX12_taken_119 ?_
                  refine m_bipushN 6 dX12_taken_122 (by decide) ?_
                  refine m_iload_n dX12_taken_124 rfl ?_
                  refine m_bipushN 64 dX12_taken_125 (by decide) ?_
                  first | refine m_idivN dX12_taken_127 (by omega) (by omega) (by omega) ?_ | refine m_idiv dX12_taken_127 (by decide) ?_
                  first | refine m_imulN dX12_taken_128 ?_ | refine m_imul dX12_taken_128 ?_
                  refine m_iload dX12_taken_129 rfl ?_
                  first | refine m_iaddN dX12_taken_131 ?_ | refine m_iadd dX12_taken_131 ?_
                  refine m_iald (by first | exact ⟨by decide, by decide, fun _ => rfl⟩ | exact isI_arr _ (by omega) | exact isI_mv _ (by omega) | exact isI_ne _ (by omega)) (by omega) dX12_taken_132 ?_
                  refine m_eqi (hr3.2.2.2.2.2.1 (i / 64) (by omega) p (by omega)) ?_
                  first | refine m_imulN dX12_taken_133 ?_ | refine m_imul dX12_taken_133 ?_
                  refine m_aload_n dX12_taken_134 rfl ?_
                  refine m_iload_n dX12_taken_135 rfl ?_
                  refine m_bipushN 64 dX12_taken_136 (by decide) ?_
                  first | refine m_iremN dX12_taken_138 (by omega) (by omega) (by omega) ?_ | refine m_irem dX12_taken_138 (by decide) ?_
                  refine m_iload dX12_taken_139 rfl ?_
                  refine m_callVIp (s_X12_barred hl3 (b := i % 64) (x := p) (by omega)) cv_X12_254 dX12_taken_141 ?_
                  first | refine m_iaddN dX12_taken_144 ?_ | refine m_iadd dX12_taken_144 ?_
                  refine m_istore dX12_taken_145 (Nat.le_of_ble_eq_true rfl) rfl ?_
                  refine m_aload_n dX12_taken_147 rfl ?_
                  refine m_get fl_X12_71 (by decide) rfl rfl dX12_taken_148 ?_
                  refine m_iload dX12_taken_151 rfl ?_
                  refine m_aload_n dX12_taken_153 rfl ?_
                  refine m_get fl_X12_71 (by decide) rfl rfl dX12_taken_154 ?_
                  refine m_iload dX12_taken_157 rfl ?_
                  refine m_lald hL9 (by omega) dX12_taken_159 ?_
                  refine m_eql (hq2) ?_
                  refine m_aload_n dX12_taken_160 rfl ?_
                  refine m_get fl_X12_68 (by decide) rfl rfl dX12_taken_161 ?_
                  refine m_iload_n dX12_taken_164 rfl ?_
                  refine m_lald hL8 (by omega) dX12_taken_165 ?_
                  refine m_eql (q1 i hin) ?_
                  first | refine m_laddN dX12_taken_166 ?_ | refine m_ladd dX12_taken_166 ?_
                  refine m_ldc2 ct_X12_218 dX12_taken_167 ?_
                  refine m_eql (y := lN 1000000007) (by decide +kernel) ?_
                  first | refine m_lremN dX12_taken_170 (by omega) (by omega) (by omega) ?_ | refine m_lrem dX12_taken_170 (by decide) ?_
                  refine m_last hL9 (by omega) dX12_taken_171 ?_
                  first | refine m_iincN 1 dX12_taken_172 (by decide) rfl rfl ?_ | refine m_iinc dX12_taken_172 rfl rfl ?_
                  refine m_goto 84 dX12_taken_175 (by decide) ?_
                  refine ihp2 _ _ (fun a ha => by rw [seL_oq _ _ (by decide)]; exact q1 a ha) (fun a ha => ?_) (q3.seL (by simp))
                  by_cases e : a = 64 * mv (i / 64) p + bar fb (i % 64) p
                  · have hc : cI fb mv (tkT k sts fb mv t) i p a = tkT k sts fb mv t (i % 64 * 5 + i / 64) := if_pos ⟨hb, by omega, by omega⟩
                    rw [sN_s, hc, e, seL_s', Nat.mod_add_mod, Nat.add_assoc]
                  · have hc : cI fb mv (tkT k sts fb mv t) i p a = 0 := if_neg (fun z => e (by omega))
                    rw [seL_n _ _ e, sN_s, hc, Nat.add_zero]
                    exact q2 a ha
              · have e6 : p = k := by omega
                rw [e6] at q2 ⊢
                refine m_iload dX12_taken_84 rfl ?_
                refine m_aload_n dX12_taken_86 rfl ?_
                refine m_get fl_X12_7 (by decide) rfl rfl dX12_taken_87 ?_
                refine m_eqi (hl3.1) ?_
                first | refine m_icmp_geN 178 dX12_taken_90 (by decide) (by omega) (by omega) (fun c90 => ?_) (fun c90 => by exfalso; omega) | refine m_icmp_ge 178 dX12_taken_90 (by decide) (fun c90 => ?_) (fun c90 => by exfalso; omega)
                first | refine m_iincN 1 dX12_taken_178 (by decide) rfl rfl ?_ | refine m_iinc dX12_taken_178 rfl rfl ?_
                refine m_goto 74 dX12_taken_181 (by decide) ?_
                exact ih2 d3 _ _ q1 (fun a ha => by rw [q2 a ha, sN_s]) q3
              )
            refine m_iload_n dX12_taken_74 rfl ?_
            refine m_sipushN 320 dX12_taken_75 (by decide) ?_
            first | refine m_icmp_geN 184 dX12_taken_78 (by decide) (by omega) (by omega) (fun c78 => by exfalso; omega) (fun c78 => ?_) | refine m_icmp_ge 184 dX12_taken_78 (by decide) (fun c78 => by exfalso; omega) (fun c78 => ?_)
            refine m_iconstN 0 dX12_taken_81 (by decide) ?_
            refine m_istore dX12_taken_82 (Nat.le_of_ble_eq_true rfl) rfl ?_
            exact inner 0 (Nat.zero_le _) d2 _ k1 (fun a ha => by rw [k2 a ha]; rfl) k3
        · have e6 : i = 320 := by omega
          subst e6
          refine m_iload_n dX12_taken_74 rfl ?_
          refine m_sipushN 320 dX12_taken_75 (by decide) ?_
          first | refine m_icmp_geN 184 dX12_taken_78 (by decide) (by omega) (by omega) (fun c78 => ?_) (fun c78 => by exfalso; omega) | refine m_icmp_ge 184 dX12_taken_78 (by decide) (fun c78 => ?_) (fun c78 => by exfalso; omega)
          refine m_iconstN 0 dX12_taken_184 (by decide) ?_
          refine m_istore_n dX12_taken_185 (Nat.le_of_ble_eq_true rfl) rfl ?_
          refine loop4 0 (Nat.zero_le _) d2 _ _ (fun a ha => ?_) (fun a ha => absurd ha (Nat.not_lt_zero a)) k3
          have e := tk_step hf h1 h5 hm6 t (a / 64) (a % 64) (by omega) (Nat.mod_lt _ (by decide))
          rw [show 64 * (a / 64) + a % 64 = a by omega] at e
          rw [k2 a ha, e]
        )
      have loop2b : ∀ i, i ≤ 320 → ∀ d2 o4 o5, nowIs d2 (tkT k sts fb mv t) → (∀ a, a < i → d2.2 259 a = lN 0) → chg [258, 259] d d2 → mG W K cX12_taken RX12 (dep + 1) d2 52 [some (.ref (xad W 240)), some (.int (nI m)), some (.int (nI t)), some (.int (nI i)), o4, o5] [] := x_up _ (fun i hi ih d2 o4 o5 k1 k2 k3 => by
        by_cases hin : i < 320
        · skip
          refine m_iload_n dX12_taken_52 rfl ?_
          refine m_sipushN 320 dX12_taken_53 (by decide) ?_
          first | refine m_icmp_geN 72 dX12_taken_56 (by decide) (by omega) (by omega) (fun c56 => by exfalso; omega) (fun c56 => ?_) | refine m_icmp_ge 72 dX12_taken_56 (by decide) (fun c56 => by exfalso; omega) (fun c56 => ?_)
          refine m_aload_n dX12_taken_59 rfl ?_
          refine m_get fl_X12_71 (by decide) rfl rfl dX12_taken_60 ?_
          refine m_iload_n dX12_taken_63 rfl ?_
          refine m_lconstN 0 dX12_taken_64 (by decide) ?_
          refine m_last hL9 (by omega) dX12_taken_65 ?_
          first | refine m_iincN 1 dX12_taken_66 (by decide) rfl rfl ?_ | refine m_iinc dX12_taken_66 rfl rfl ?_
          refine m_goto 52 dX12_taken_69 (by decide) ?_
          refine ih hin _ _ _ (fun a ha => by rw [seL_oq _ _ (by decide)]; exact k1 a ha) (fun a ha => ?_) (k3.seL (by simp))
          by_cases e : a = i
          · subst e; exact seL_s' _ _ _ _
          · rw [seL_n _ _ e]; exact k2 a (by omega)
        · have e6 : i = 320 := by omega
          subst e6
          refine m_iload_n dX12_taken_52 rfl ?_
          refine m_sipushN 320 dX12_taken_53 (by decide) ?_
          first | refine m_icmp_geN 72 dX12_taken_56 (by decide) (by omega) (by omega) (fun c56 => ?_) (fun c56 => by exfalso; omega) | refine m_icmp_ge 72 dX12_taken_56 (by decide) (fun c56 => ?_) (fun c56 => by exfalso; omega)
          refine m_iconstN 0 dX12_taken_72 (by decide) ?_
          refine m_istore_n dX12_taken_73 (Nat.le_of_ble_eq_true rfl) rfl ?_
          exact loop3 0 (Nat.zero_le _) d2 _ _ k1 (fun a ha => by rw [k2 a ha]; rfl) k3
        )
      refine m_iload_n dX12_taken_45 rfl ?_
      refine m_iload_n dX12_taken_46 rfl ?_
      first | refine m_icmp_geN 217 dX12_taken_47 (by decide) (by omega) (by omega) (fun c47 => by exfalso; omega) (fun c47 => ?_) | refine m_icmp_ge 217 dX12_taken_47 (by decide) (fun c47 => by exfalso; omega) (fun c47 => ?_)
      refine m_iconstN 0 dX12_taken_50 (by decide) ?_
      refine m_istore_n dX12_taken_51 (Nat.le_of_ble_eq_true rfl) rfl ?_
      exact loop2b 0 (Nat.zero_le _) d1 _ _ g1 (fun a ha => absurd ha (Nat.not_lt_zero a)) g2
    · have e6 : t = m := by omega
      subst e6
      refine m_iload_n dX12_taken_45 rfl ?_
      refine m_iload_n dX12_taken_46 rfl ?_
      first | refine m_icmp_geN 217 dX12_taken_47 (by decide) (by omega) (by omega) (fun c47 => ?_) (fun c47 => by exfalso; omega) | refine m_icmp_ge 217 dX12_taken_47 (by decide) (fun c47 => ?_) (fun c47 => by exfalso; omega)
      refine m_lconstN 0 dX12_taken_217 (by decide) ?_
      refine m_lstore_n dX12_taken_218 (Nat.le_of_ble_eq_true rfl) rfl ?_
      refine m_iconstN 0 dX12_taken_219 (by decide) ?_
      refine m_istore dX12_taken_220 (Nat.le_of_ble_eq_true rfl) rfl ?_
      exact loop5 d1 g1 g2 0 (Nat.zero_le _) _
    )
  have loop1 : ∀ i, i ≤ 320 → ∀ d1, (∀ a, a < i → d1.2 258 a = lN (tkT k sts fb mv 0 (a % 64 * 5 + a / 64))) → chg [258, 259] d d1 → mG W K cX12_taken RX12 (dep + 1) d1 15 [some (.ref (xad W 240)), some (.int (nI m)), some (.int (nI i)), none, none, none] [] := x_up _ (fun i hi ih d1 g1 g2 => by
    by_cases hin : i < 320
    · skip
      refine m_iload_n dX12_taken_15 rfl ?_
      refine m_sipushN 320 dX12_taken_16 (by decide) ?_
      first | refine m_icmp_geN 43 dX12_taken_19 (by decide) (by omega) (by omega) (fun c19 => by exfalso; omega) (fun c19 => ?_) | refine m_icmp_ge 43 dX12_taken_19 (by decide) (fun c19 => by exfalso; omega) (fun c19 => ?_)
      refine m_aload_n dX12_taken_22 rfl ?_
      refine m_get fl_X12_68 (by decide) rfl rfl dX12_taken_23 ?_
      refine m_iload_n dX12_taken_26 rfl ?_
      refine m_iload_n dX12_taken_27 rfl ?_
      first | refine m_if_neN 35 dX12_taken_28 (by decide) (by omega) (fun c28 => ?_) (fun c28 => ?_) | refine m_if_ne 35 dX12_taken_28 (by decide) (fun c28 => ?_) (fun c28 => ?_)
      · refine m_lconstN 0 dX12_taken_35 (by decide) ?_
        refine m_last hL8 (by omega) dX12_taken_36 ?_
        first | refine m_iincN 1 dX12_taken_37 (by decide) rfl rfl ?_ | refine m_iinc dX12_taken_37 rfl rfl ?_
        refine m_goto 15 dX12_taken_40 (by decide) ?_
        refine ih hin _ (fun a ha => ?_) (g2.seL (by simp))
        by_cases e : a = i
        · subst e; rw [seL_s', show tkT k sts fb mv 0 (a % 64 * 5 + a / 64) = 0 from if_neg (by omega)]
        · rw [seL_n _ _ e]; exact g1 a (by omega)
      · refine m_lconstN 1 dX12_taken_31 (by decide) ?_
        refine m_goto 36 dX12_taken_32 (by decide) ?_
        refine m_last hL8 (by omega) dX12_taken_36 ?_
        first | refine m_iincN 1 dX12_taken_37 (by decide) rfl rfl ?_ | refine m_iinc dX12_taken_37 rfl rfl ?_
        refine m_goto 15 dX12_taken_40 (by decide) ?_
        refine ih hin _ (fun a ha => ?_) (g2.seL (by simp))
        by_cases e : a = i
        · subst e; rw [seL_s', show tkT k sts fb mv 0 (a % 64 * 5 + a / 64) = 1 from if_pos (by omega)]
        · rw [seL_n _ _ e]; exact g1 a (by omega)
    · have e6 : i = 320 := by omega
      subst e6
      refine m_iload_n dX12_taken_15 rfl ?_
      refine m_sipushN 320 dX12_taken_16 (by decide) ?_
      first | refine m_icmp_geN 43 dX12_taken_19 (by decide) (by omega) (by omega) (fun c19 => ?_) (fun c19 => by exfalso; omega) | refine m_icmp_ge 43 dX12_taken_19 (by decide) (fun c19 => ?_) (fun c19 => by exfalso; omega)
      refine m_iconstN 0 dX12_taken_43 (by decide) ?_
      refine m_istore_n dX12_taken_44 (Nat.le_of_ble_eq_true rfl) rfl ?_
      exact loop2 0 (Nat.zero_le _) d1 _ _ _ g1 g2
    )
  refine m_iload_n dX12_taken_0 rfl ?_
  refine m_iconstN 0 dX12_taken_1 (by decide) ?_
  refine m_bipushN 60 dX12_taken_2 (by decide) ?_
  refine m_callSIp (s_X12_inY (x := nI m) (a := nI 0) (b := nI 60) ((nI_leI (by omega) (by omega)).mpr (by omega)) ((nI_leI (by omega) (by omega)).mpr (by omega))) cs_X12_83 dX12_taken_4 ?_
  refine m_if_ne 13 dX12_taken_7 (by decide) (fun c7 => ?_) (fun c7 => by exfalso; exact c7 (by decide))
  refine m_iconstN 0 dX12_taken_13 (by decide) ?_
  refine m_istore_n dX12_taken_14 (Nat.le_of_ble_eq_true rfl) rfl ?_
  exact loop1 0 (Nat.zero_le _) d (fun a ha => absurd ha (Nat.not_lt_zero a)) chg.rf
end MOD
