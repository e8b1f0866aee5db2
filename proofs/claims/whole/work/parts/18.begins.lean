/-! methods of a class in which an entry may run in a method's place, but not in this one's -/
theorem Met.ofWF {l : Launch} {y : MethodName} {ws ws' : List Cond} {rm : Room} {Pc : Array Value → State → Prop} {Qc : Array Value → State → Outcome → State → Prop} {mc ms : Nat} {free : Addr → Prop} {cc : ByteArray} {maxL : Nat} {ret : Option FieldType}
    (hy : plainFor y = true) (hw : ws = Cond.code y cc maxL ret :: ws')
    (body : ∀ p e s m args below meth c s₁, BodyLoose p l y (headSpec ws rm) cc maxL ret e s m args below meth c s₁ → c.maxLocals = maxL → Pc args s →
      W p l e (headSpec ws rm).room s m args below meth c s.heap [] 0 0 (MQ below Qc args s mc ms free) (entryFrame m args maxL)) : Met l y ws rm Pc Qc mc ms free := by
  refine MetFree.of_bodySF (code := cc) (maxLocals := maxL) (ret := ret) hy ?_ ?_
  · intro args s m h hn
    obtain ⟨meth, c, h1, h2, h3, h4, h5, h6, -, -⟩ := Cond.code_spec hn (atoms_spec (ws := ws) h _ (by rw [hw]; exact List.mem_cons_self))
    exact ⟨meth, c, h1, h2, h3, h4, h5, h6⟩
  · intro p e s m args below meth c s₁ B hml hP _
    have hh0 : s₁.heap = s.heap := by rw [B.state]; rfl
    obtain ⟨t, a1, o, b1, b2, b3⟩ := body p e s m args below meth c s₁ B hml hP s₁ hh0 (Stand.of_body B)
    exact ⟨t, o, a1, b1, b2, ⟨b3.1, b3.2⟩⟩
theorem x_specF {l : Launch} {E : xE} {y : MethodName} {cc : ByteArray} {maxL : Nat} {ret : Option FieldType} {dep mc ms : Nat} {av : List Value} {L : List Nat} {f : Nat → va_E} {Q : Option Value → List Nat → (Nat → va_E) → Prop} (own nm : String) (loc : List (Option Value)) (ho : y.cls = own) (hn : y.name = nm) (hy : plainFor y = true) (hloc : xloc av maxL = loc) (hlen : loc.length = maxL)
    (body : ∀ (X : xC) (A : Nat → Prop), X.1 = l → xG E X A (xZ E X A mc ms Q) cc own nm ret (dep, mc, ms) L f 0 0 0 loc []) : xSpec l E (y, cc, maxL, ret) dep mc ms av L f Q := by
  intro sz
  refine Met.ofWF (cc := cc) (maxL := maxL) (ret := ret) hy rfl ?_
  intro p e s m args below meth c s₁ B hml hv
  obtain ⟨rfl, hsz, hP, hK, hD0, hE⟩ := hv
  have hts := atoms_spec (ws := xwm (y, cc, maxL, ret)) B.pre
  subst hsz
  have hD : va_D (va_A (va_pl L f) s.heap.size) (va_pl L f) := hD0.self
  have hl := lv_entry av (n := maxL) (by rw [xsl_len]; rw [← hlen, ← hloc]; simp [xloc])
  rw [lg_entry_eq]
  have hl2 : xL (lg_sl av ++ List.replicate (maxL - (lg_sl av).length) Slot.unset).toArray loc := by
    refine ⟨hl.1.trans hlen.symm, hl.2.1, fun i v h => ?_⟩
    rw [← hloc] at h
    unfold xloc at h
    by_cases hi : i < (xsl av).length
    · rw [List.getElem?_append_left hi] at h
      have := xsl_args av 0 i v h
      rw [Nat.zero_add] at this
      exact hl.2.2 _ this
    · rw [List.getElem?_append_right (by omega)] at h
      have h2 := List.mem_of_getElem? h
      have := List.eq_of_mem_replicate h2
      cases this
  have hown : s.vm.findClass own = some m.cls := by
    have := findClass_of_methodNamed B.named
    rw [← ho]; exact this
  exact body (l, p, e, (headSpec (xwm (y, cc, maxL, ret)) { frames := dep, cells := mc, slots := ms, locals := 36 * dep }).room, s, m, av.toArray, below, meth, c) (va_A (va_pl L f) s.heap.size) rfl
    ⟨B.exec, B.bytes, hown, fun w hw => hts w (List.mem_cons_of_mem _ hw), hK, Nat.le_refl _, Nat.le_refl _, Nat.le_refl _, Nat.le_refl _, fun q h => Or.inr h, hE, B.returns, B.notSynchronized, by rw [← hn]; exact (name_of_methodNamed B.named B.method).1⟩ s.heap [] _ hP hD va_S.rf hl2 (hml.trans hlen.symm)
theorem m_specF {l : Launch} {W : xW} {y : MethodName} {cc : ByteArray} {maxL : Nat} {ret : Option FieldType} {dep : Nat} {av : List Value} {d : xD} {Q : Option Value → xD → Prop} (own : String) (loc : List (Option Value)) (ho : y.cls = own) (hy : plainFor y = true) (hloc : xloc av maxL = loc) (hlen : loc.length = maxL)
    (body : ∀ K : xK, mRet W K ret Q → mG W K cc own dep d 0 loc []) : mSpec l W (y, cc, maxL, ret) dep av d Q := by
  refine x_specF own y.name loc ho rfl hy hloc hlen (fun X A _ => ?_)
  exact body (X, A, xZ W.1 X A 0 0 (mQ W Q), (0, 0, 0, 0), y.name, ret) ⟨X, A, y.name, rfl⟩ ⟨Nat.le_refl _, Nat.le_refl _⟩
/-! class Beginnings -/
def needsS : List Nat := 57 :: List.range' 96 144
theorem needs_no {o : Nat} (h : o ≠ 57) (h2 : o < 96 ∨ 240 ≤ o) : o ∉ needsS := by
  simp only [needsS, List.mem_cons, List.mem_range'_1]
  omega
theorem needs_in {a : Nat} (h : a < 144) : a + 96 ∈ needsS := by
  simp only [needsS, List.mem_cons, List.mem_range'_1]
  omega
def cntV (xs : List Nat) : Nat → Nat := fun p => xs.count p
theorem cnt_sum {xs : List Nat} (h : ∀ x ∈ xs, x < 6) : sum6 (cntV xs) = xs.length := (len_cnt xs h).symm
section BEG
variable {l : Launch} {W : xW} {dep : Nat} {d : xD} {k : Nat} {fb : Nat → Nat} {j : Nat} {xs : List Nat}
theorem s_X0_measure (hj : j < 13) (hr : rowIs d j xs) : mSpecV l W mX0_measure (dep + 2) [.ref (xad W 52), .ref (xad W (j + 4))] d (fun d' => (∀ p, p < 6 → d'.1 55 p = nI (cntV xs p) ∧ d'.1 56 p = nI (strd (cntV xs) p)) ∧ d'.1 52 7 = nI (strd (cntV xs) 6) ∧ (∀ q, q ≠ 7 → d'.1 52 q = d.1 52 q) ∧ chg [52, 55, 56] d d') := by
  have h24 := hr.1
  have hst := fun p (hp : p ≤ 6) => strd_le (c := cntV xs) (by rw [cnt_sum hr.2.2.2]; exact h24) hp
  refine m_spec RX0 [some (.ref (xad W 52)), some (.ref (xad W (j + 4))), none] rfl (by decide +kernel) rfl rfl (fun K hR => ?_)
  have loop : ∀ i, i ≤ 6 → ∀ d1, (∀ p, p < i → d1.1 55 p = nI (cntV xs p) ∧ d1.1 56 p = nI (strd (cntV xs) p)) → d1.1 52 7 = nI (strd (cntV xs) i) → (∀ q, q ≠ 7 → d1.1 52 q = d.1 52 q) → chg [52, 55, 56] d d1 → mG W K cX0_measure RX0 (dep + 2) d1 7 [some (.ref (xad W 52)), some (.ref (xad W (j + 4))), some (.int (nI i))] [] := x_up _ (fun i hi ih d1 g1 g2 g3 g4 => by
    have hr1 : rowIs d1 j xs := hr.fr g4 (by simp <;> omega) (by simp <;> omega)
    have hci : xs.count i ≤ 24 := Nat.le_trans List.count_le_length h24
    refine m_iload_n dX0_measure_7 rfl ?_
    refine m_aload_n dX0_measure_8 rfl ?_
    refine m_get fl_X0_19 (by decide) rfl rfl dX0_measure_9 ?_
    refine m_alen (by omega) (by first | rfl | exact xcell_arr _ _ _ (by omega) | exact xcell_mv _ _ (by omega) | exact xcell_fo _ _ (by omega) | exact xcell_ne _ _ (by omega)) (by decide) dX0_measure_12 ?_
    first | refine m_icmp_geN 69 dX0_measure_13 (by decide) (by omega) (by omega) (fun c13 => ?_) (fun c13 => ?_) | refine m_icmp_ge 69 dX0_measure_13 (by decide) (fun c13 => ?_) (fun c13 => ?_)
    · exact m_vret hR dX0_measure_69 (⟨fun p hp => g1 p (by omega), (show i = 6 by omega) ▸ g2, g3, g4⟩)
    · refine m_iload_n dX0_measure_16 rfl ?_
      refine m_aload_n dX0_measure_17 rfl ?_
      refine m_get fl_X0_22 (by decide) rfl rfl dX0_measure_18 ?_
      refine m_alen (by omega) (by first | rfl | exact xcell_arr _ _ _ (by omega) | exact xcell_mv _ _ (by omega) | exact xcell_fo _ _ (by omega) | exact xcell_ne _ _ (by omega)) (by decide) dX0_measure_21 ?_
      first | refine m_icmp_geN 69 dX0_measure_22 (by decide) (by omega) (by omega) (fun c22 => by exfalso; omega) (fun c22 => ?_) | refine m_icmp_ge 69 dX0_measure_22 (by decide) (fun c22 => by exfalso; omega) (fun c22 => ?_)
      refine m_aload_n dX0_measure_25 rfl ?_
      refine m_get fl_X0_19 (by decide) rfl rfl dX0_measure_26 ?_
      refine m_iload_n dX0_measure_29 rfl ?_
      refine m_aload_n dX0_measure_30 rfl ?_
      refine m_iload_n dX0_measure_31 rfl ?_
      refine m_callVIp (s_X9_howMany hj hr1 (x := i) (by omega)) cv_X0_80 dX0_measure_32 ?_
      refine m_iast (by first | exact ⟨by decide, by decide, fun _ => rfl⟩ | exact isI_arr _ (by omega) | exact isI_mv _ (by omega) | exact isI_ne _ (by omega)) (by omega) dX0_measure_35 ?_
      refine m_aload_n dX0_measure_36 rfl ?_
      refine m_get fl_X0_22 (by decide) rfl rfl dX0_measure_37 ?_
      refine m_iload_n dX0_measure_40 rfl ?_
      refine m_aload_n dX0_measure_41 rfl ?_
      refine m_get fl_X0_33 (by decide) rfl rfl dX0_measure_42 ?_
      refine m_eqi (se_e g2 (by decide)) ?_
      refine m_iast (by first | exact ⟨by decide, by decide, fun _ => rfl⟩ | exact isI_arr _ (by omega) | exact isI_mv _ (by omega) | exact isI_ne _ (by omega)) (by omega) dX0_measure_45 ?_
      refine m_aload_n dX0_measure_46 rfl ?_
      refine m_dup dX0_measure_47 rfl ?_
      refine m_get fl_X0_33 (by decide) rfl rfl dX0_measure_48 ?_
      refine m_eqi (se_e (se_e g2 (by decide)) (by decide)) ?_
      refine m_aload_n dX0_measure_51 rfl ?_
      refine m_get fl_X0_19 (by decide) rfl rfl dX0_measure_52 ?_
      refine m_iload_n dX0_measure_55 rfl ?_
      refine m_iald (by first | exact ⟨by decide, by decide, fun _ => rfl⟩ | exact isI_arr _ (by omega) | exact isI_mv _ (by omega) | exact isI_ne _ (by omega)) (by omega) dX0_measure_56 ?_
      refine m_eqi (se_e (se_s _ _ _ _) (by decide)) ?_
      refine m_iconstN 1 dX0_measure_57 (by decide) ?_
      first | refine m_iaddN dX0_measure_58 ?_ | refine m_iadd dX0_measure_58 ?_
      first | refine m_imulN dX0_measure_59 ?_ | refine m_imul dX0_measure_59 ?_
      refine m_put fl_X0_33 (by decide) rfl (Nat.le_of_ble_eq_true rfl) rfl dX0_measure_60 ?_
      first | refine m_iincN 1 dX0_measure_63 (by decide) rfl rfl ?_ | refine m_iinc dX0_measure_63 rfl rfl ?_
      refine m_goto 7 dX0_measure_66 (by decide) ?_
      refine ih (by omega) _ (fun p hp => ?_) ?_ (fun q hq => ?_) (((g4.se (by simp)).se (by simp)).se (by simp))
      · by_cases e : p = i
        · subst e
          exact ⟨se_e (se_e (se_s _ _ _ _) (by decide)) (by decide), se_e (se_s _ _ _ _) (by decide)⟩
        · exact ⟨se_e (se_e (se_e2 (g1 p (by omega)).1 e) (by decide)) (by decide), se_e (se_e2 (se_e (g1 p (by omega)).2 (by decide)) e) (by decide)⟩
      · exact se_s _ _ _ _
      · rw [se_n _ _ hq, seI_o _ _ _ _ _ (by decide), seI_o _ _ _ _ _ (by decide)]; exact g3 q hq
    )
  refine m_aload_n dX0_measure_0 rfl ?_
  refine m_iconstN 1 dX0_measure_1 (by decide) ?_
  refine m_put fl_X0_33 (by decide) rfl (Nat.le_of_ble_eq_true rfl) rfl dX0_measure_2 ?_
  refine m_iconstN 0 dX0_measure_5 (by decide) ?_
  refine m_istore_n dX0_measure_6 (Nat.le_of_ble_eq_true rfl) rfl ?_
  exact loop 0 (Nat.zero_le _) _ (fun p hp => absurd hp (Nat.not_lt_zero p)) (se_s _ _ _ _) (fun q hq => se_n _ _ hq) (chg.rf.se (by simp))
theorem s_X0_noteNeed {a b : Nat} {v : Nat → Nat} (ha : a < 144) (hb : b < 64) (hv : ∀ q, q < 6 → d.1 57 q = nI (v q)) : mSpecV l W mX0_noteNeed dep [.ref (xad W 52), .int (nI a), .int (nI b)] d (fun d' => (∀ q, q < 6 → d'.1 (a + 96) q = nI (if b.testBit q then v q else 0)) ∧ chg [a + 96] d d') := by
  refine m_spec RX0 [some (.ref (xad W 52)), some (.int (nI a)), some (.int (nI b)), none, none] rfl (by decide +kernel) rfl rfl (fun K hR => ?_)
  have loop : ∀ i, i ≤ 6 → ∀ d1, (∀ q, q < i → d1.1 (a + 96) q = nI (if b.testBit q then v q else 0)) → chg [a + 96] d d1 → mG W K cX0_noteNeed RX0 dep d1 24 [some (.ref (xad W 52)), some (.int (nI a)), some (.int (nI b)), some (.ref (xad W (a + 96))), some (.int (nI i))] [] := x_up _ (fun i hi ih d1 g1 g2 => by
    have hv1 : ∀ q, q < 6 → d1.1 57 q = nI (v q) := fun q hq => by rw [(g2 57 (by simp <;> omega)).1]; exact hv q hq
    have hb2 : (b.testBit i).toNat < 2 := Bool.toNat_lt _
    refine m_iload dX0_noteNeed_24 rfl ?_
    refine m_aload_n dX0_noteNeed_26 rfl ?_
    refine m_alen (by omega) (by first | rfl | exact xcell_arr _ _ _ (by omega) | exact xcell_mv _ _ (by omega) | exact xcell_fo _ _ (by omega) | exact xcell_ne _ _ (by omega)) (by decide) dX0_noteNeed_27 ?_
    first | refine m_icmp_geN 72 dX0_noteNeed_28 (by decide) (by omega) (by omega) (fun c28 => ?_) (fun c28 => ?_) | refine m_icmp_ge 72 dX0_noteNeed_28 (by decide) (fun c28 => ?_) (fun c28 => ?_)
    · exact m_vret hR dX0_noteNeed_72 (⟨fun q hq => g1 q (by omega), g2⟩)
    · refine m_iload dX0_noteNeed_31 rfl ?_
      refine m_aload_n dX0_noteNeed_33 rfl ?_
      refine m_get fl_X0_25 (by decide) rfl rfl dX0_noteNeed_34 ?_
      refine m_alen (by omega) (by first | rfl | exact xcell_arr _ _ _ (by omega) | exact xcell_mv _ _ (by omega) | exact xcell_fo _ _ (by omega) | exact xcell_ne _ _ (by omega)) (by decide) dX0_noteNeed_37 ?_
      first | refine m_icmp_geN 72 dX0_noteNeed_38 (by decide) (by omega) (by omega) (fun c38 => by exfalso; omega) (fun c38 => ?_) | refine m_icmp_ge 72 dX0_noteNeed_38 (by decide) (fun c38 => by exfalso; omega) (fun c38 => ?_)
      refine m_aload_n dX0_noteNeed_41 rfl ?_
      refine m_iload dX0_noteNeed_42 rfl ?_
      refine m_iload_n dX0_noteNeed_44 rfl ?_
      refine m_iload dX0_noteNeed_45 rfl ?_
      refine m_ishr dX0_noteNeed_47 ?_
      refine m_iconstN 1 dX0_noteNeed_48 (by decide) ?_
      refine m_iand dX0_noteNeed_49 ?_
      refine m_eqi (nI_bit (by omega) (by omega)) ?_
      refine m_iconstN 1 dX0_noteNeed_50 (by decide) ?_
      first | refine m_icmp_neN 64 dX0_noteNeed_51 (by decide) (by omega) (by omega) (fun c51 => ?_) (fun c51 => ?_) | refine m_icmp_ne 64 dX0_noteNeed_51 (by decide) (fun c51 => ?_) (fun c51 => ?_)
      · refine m_iconstN 0 dX0_noteNeed_64 (by decide) ?_
        refine m_iast (by first | exact ⟨by decide, by decide, fun _ => rfl⟩ | exact isI_arr _ (by omega) | exact isI_mv _ (by omega) | exact isI_ne _ (by omega)) (by omega) dX0_noteNeed_65 ?_
        first | refine m_iincN 1 dX0_noteNeed_66 (by decide) rfl rfl ?_ | refine m_iinc dX0_noteNeed_66 rfl rfl ?_
        refine m_goto 24 dX0_noteNeed_69 (by decide) ?_
        refine ih (by omega) _ (fun q hq => ?_) (g2.se (by simp))
        by_cases e : q = i
        · subst e; rw [se_s, if_neg (by cases hf : b.testBit q <;> simp_all)]
        · rw [se_n _ _ e]; exact g1 q (by omega)
      · refine m_aload_n dX0_noteNeed_54 rfl ?_
        refine m_get fl_X0_25 (by decide) rfl rfl dX0_noteNeed_55 ?_
        refine m_iload dX0_noteNeed_58 rfl ?_
        refine m_iald (by first | exact ⟨by decide, by decide, fun _ => rfl⟩ | exact isI_arr _ (by omega) | exact isI_mv _ (by omega) | exact isI_ne _ (by omega)) (by omega) dX0_noteNeed_60 ?_
        refine m_eqi (hv1 i (by omega)) ?_
        refine m_goto 65 dX0_noteNeed_61 (by decide) ?_
        refine m_iast (by first | exact ⟨by decide, by decide, fun _ => rfl⟩ | exact isI_arr _ (by omega) | exact isI_mv _ (by omega) | exact isI_ne _ (by omega)) (by omega) dX0_noteNeed_65 ?_
        first | refine m_iincN 1 dX0_noteNeed_66 (by decide) rfl rfl ?_ | refine m_iinc dX0_noteNeed_66 rfl rfl ?_
        refine m_goto 24 dX0_noteNeed_69 (by decide) ?_
        refine ih (by omega) _ (fun q hq => ?_) (g2.se (by simp))
        by_cases e : q = i
        · subst e; rw [se_s, if_pos (by cases hf : b.testBit q <;> simp_all)]
        · rw [se_n _ _ e]; exact g1 q (by omega)
    )
  refine m_iload_n dX0_noteNeed_0 rfl ?_
  refine m_if_ltN 13 dX0_noteNeed_1 (by decide) (by omega) ?_
  refine m_iload_n dX0_noteNeed_4 rfl ?_
  refine m_aload_n dX0_noteNeed_5 rfl ?_
  refine m_get fl_X0_30 (by decide) rfl rfl dX0_noteNeed_6 ?_
  refine m_alen (by omega) (by first | rfl | exact xcell_arr _ _ _ (by omega) | exact xcell_mv _ _ (by omega) | exact xcell_fo _ _ (by omega) | exact xcell_ne _ _ (by omega)) (by decide) dX0_noteNeed_9 ?_
  first | refine m_icmp_ltN 14 dX0_noteNeed_10 (by decide) (by omega) (by omega) (fun c10 => ?_) (fun c10 => by exfalso; omega) | refine m_icmp_lt 14 dX0_noteNeed_10 (by decide) (fun c10 => ?_) (fun c10 => by exfalso; omega)
  refine m_aload_n dX0_noteNeed_14 rfl ?_
  refine m_get fl_X0_30 (by decide) rfl rfl dX0_noteNeed_15 ?_
  refine m_iload_n dX0_noteNeed_18 rfl ?_
  refine m_aald (by decide) rfl (by decide) (by decide) (by omega) (if_pos (by omega)) dX0_noteNeed_19 ?_
  refine m_astore_n dX0_noteNeed_20 (Nat.le_of_ble_eq_true rfl) rfl ?_
  refine m_iconstN 0 dX0_noteNeed_21 (by decide) ?_
  refine m_istore dX0_noteNeed_22 (Nat.le_of_ble_eq_true rfl) rfl ?_
  exact loop 0 (Nat.zero_le _) d (fun q hq => absurd hq (Nat.not_lt_zero q)) chg.rf
/-- the needs of the places below i are noted -/
def needsIs (d : xD) (B : Nat → Nat) (xs : List Nat) (n : Nat) : Prop := ∀ i (hi : i < xs.length), i < n → ∀ q, q < 6 → d.1 (xs[i] * 24 + (xs.take i).count xs[i] + 96) q = nI (if (B xs[i]).testBit q then (xs.take i).count q else 0)
theorem s_X0_noteNeeds (h : letIs d k fb) (hj : j < 13) (hr : rowIs d j xs) (hx : ∀ x ∈ xs, x < k) : mSpecV l W mX0_noteNeeds (dep + 1) [.ref (xad W 52), .ref (xad W (j + 4))] d (fun d' => needsIs d' (bw k fb) xs xs.length ∧ chg needsS d d') := by
  have h24 := hr.1
  have hk := h.2.2.2.1
  refine m_spec RX0 [some (.ref (xad W 52)), some (.ref (xad W (j + 4))), none, none] rfl (by decide +kernel) rfl rfl (fun K hR => ?_)
  have loop : ∀ i, i ≤ xs.length → ∀ d1 o3, (∀ q, q < 6 → d1.1 57 q = nI ((xs.take i).count q)) → needsIs d1 (bw k fb) xs i → chg needsS d d1 → mG W K cX0_noteNeeds RX0 (dep + 1) d1 10 [some (.ref (xad W 52)), some (.ref (xad W (j + 4))), some (.int (nI i)), o3] [] := x_up _ (fun i hi ih d1 o3 g1 g2 g3 => by
    have hl1 : letIs d1 k fb := h.fr g3 (needs_no (by decide) (by decide)) (needs_no (by decide) (by decide))
    have hr1 : rowIs d1 j xs := hr.fr g3 (needs_no (by omega) (by omega)) (needs_no (by omega) (by omega))
    refine m_iload_n dX0_noteNeeds_10 rfl ?_
    refine m_aload_n dX0_noteNeeds_11 rfl ?_
    refine m_callVIp (s_X9_length hj hr1) cv_X0_85 dX0_noteNeeds_12 ?_
    first | refine m_icmp_geN 77 dX0_noteNeeds_15 (by decide) (by omega) (by omega) (fun c15 => ?_) (fun c15 => ?_) | refine m_icmp_ge 77 dX0_noteNeeds_15 (by decide) (fun c15 => ?_) (fun c15 => ?_)
    · exact m_vret hR dX0_noteNeeds_77 (⟨fun q hq _ => g2 q hq (by omega), g3⟩)
    · refine m_aload_n dX0_noteNeeds_18 rfl ?_
      refine m_iload_n dX0_noteNeeds_19 rfl ?_
      refine m_callVIp (s_X9_atI hj hr1 (n := i) (by omega)) cv_X0_89 dX0_noteNeeds_20 ?_
      have hb := hr.lt (i := i) (by omega)
      have hbk := hx xs[i] (List.getElem_mem _)
      have hbw := bw_lt64 h.2.2 hb
      have hcl : (xs.take i).count xs[i] ≤ i := Nat.le_trans List.count_le_length (by simp; omega)
      refine m_istore_n dX0_noteNeeds_23 (Nat.le_of_ble_eq_true rfl) rfl ?_
      refine m_iload_n dX0_noteNeeds_24 rfl ?_
      refine m_if_ltN 37 dX0_noteNeeds_25 (by decide) (by omega) ?_
      refine m_iload_n dX0_noteNeeds_28 rfl ?_
      refine m_aload_n dX0_noteNeeds_29 rfl ?_
      refine m_get fl_X0_25 (by decide) rfl rfl dX0_noteNeeds_30 ?_
      refine m_alen (by omega) (by first | rfl | exact xcell_arr _ _ _ (by omega) | exact xcell_mv _ _ (by omega) | exact xcell_fo _ _ (by omega) | exact xcell_ne _ _ (by omega)) (by decide) dX0_noteNeeds_33 ?_
      first | refine m_icmp_ltN 38 dX0_noteNeeds_34 (by decide) (by omega) (by omega) (fun c34 => ?_) (fun c34 => by exfalso; omega) | refine m_icmp_lt 38 dX0_noteNeeds_34 (by decide) (fun c34 => ?_) (fun c34 => by exfalso; omega)
      refine m_aload_n dX0_noteNeeds_38 rfl ?_
      refine m_iload_n dX0_noteNeeds_39 rfl ?_
      refine m_bipushN 24 dX0_noteNeeds_40 (by decide) ?_
      first | refine m_imulN dX0_noteNeeds_42 ?_ | refine m_imul dX0_noteNeeds_42 ?_
      refine m_aload_n dX0_noteNeeds_43 rfl ?_
      refine m_get fl_X0_25 (by decide) rfl rfl dX0_noteNeeds_44 ?_
      refine m_iload_n dX0_noteNeeds_47 rfl ?_
      refine m_iald (by first | exact ⟨by decide, by decide, fun _ => rfl⟩ | exact isI_arr _ (by omega) | exact isI_mv _ (by omega) | exact isI_ne _ (by omega)) (by omega) dX0_noteNeeds_48 ?_
      refine m_eqi (g1 _ (by omega)) ?_
      first | refine m_iaddN dX0_noteNeeds_49 ?_ | refine m_iadd dX0_noteNeeds_49 ?_
      refine m_aload_n dX0_noteNeeds_50 rfl ?_
      refine m_get fl_X0_43 (by decide) rfl rfl dX0_noteNeeds_51 ?_
      refine m_iload_n dX0_noteNeeds_54 rfl ?_
      refine m_callVIp (s_X3_boundWith hl1 (p := xs[i]) hb) cv_X0_92 dX0_noteNeeds_55 ?_
      refine m_callVV (s_X0_noteNeed (a := xs[i] * 24 + (xs.take i).count xs[i]) (b := bw k fb xs[i]) (v := fun q => (xs.take i).count q) (by omega) hbw g1) cv_X0_97 dX0_noteNeeds_58 (fun d58 h58 => ?_)
      refine m_aload_n dX0_noteNeeds_61 rfl ?_
      refine m_get fl_X0_25 (by decide) rfl rfl dX0_noteNeeds_62 ?_
      refine m_iload_n dX0_noteNeeds_65 rfl ?_
      first | refine m_dup2_2 dX0_noteNeeds_66 rfl ?_ | refine m_dup2_11 dX0_noteNeeds_66 rfl rfl ?_
      refine m_iald (by first | exact ⟨by decide, by decide, fun _ => rfl⟩ | exact isI_arr _ (by omega) | exact isI_mv _ (by omega) | exact isI_ne _ (by omega)) (by omega) dX0_noteNeeds_67 ?_
      refine m_eqi ((by rw [(h58.2 57 (by simp <;> omega)).1]; exact g1 _ hb : _ = nI ((xs.take i).count xs[i]))) ?_
      refine m_iconstN 1 dX0_noteNeeds_68 (by decide) ?_
      first | refine m_iaddN dX0_noteNeeds_69 ?_ | refine m_iadd dX0_noteNeeds_69 ?_
      refine m_iast (by first | exact ⟨by decide, by decide, fun _ => rfl⟩ | exact isI_arr _ (by omega) | exact isI_mv _ (by omega) | exact isI_ne _ (by omega)) (by omega) dX0_noteNeeds_70 ?_
      first | refine m_iincN 1 dX0_noteNeeds_71 (by decide) rfl rfl ?_ | refine m_iinc dX0_noteNeeds_71 rfl rfl ?_
      refine m_goto 10 dX0_noteNeeds_74 (by decide) ?_
      refine ih (by omega) _ _ (fun q hq => ?_) (fun i' hi' hlt q hq => ?_) ((g3.tr (h58.2.mono (by intro o ho; rw [List.mem_singleton.mp ho]; exact needs_in (by omega)))).se (by simp [needsS]))
      · rw [take_s (by omega), List.count_append, List.count_singleton]
        by_cases e : q = xs[i]
        · rw [e, se_s]; simp
        · rw [se_n _ _ e, (h58.2 57 (by simp <;> omega)).1, g1 q hq, if_neg (by simpa using Ne.symm e), Nat.add_zero]
      · rw [seI_o _ _ _ _ _ (by omega)]
        by_cases e : i' = i
        · subst e; exact h58.1 q hq
        · have hl' := hr.lt hi'
          have hlt' : i' < i := by omega
          have hcl' : (xs.take i').count xs[i'] ≤ i' := Nat.le_trans List.count_le_length (by simp; omega)
          have hne : xs[i'] * 24 + (xs.take i').count xs[i'] + 96 ≠ xs[i] * 24 + (xs.take i).count xs[i] + 96 := by
            intro z
            have e1 : xs[i'] = xs[i] := by omega
            have e2 : (xs.take i').count xs[i'] = (xs.take i).count xs[i'] := by rw [e1] at z ⊢; omega
            exact e (occ_un hi' (by omega) rfl e1.symm e2)
          rw [(h58.2 _ (by simpa using hne)).1]
          exact g2 i' hi' hlt' q hq
    )
  refine m_aload_n dX0_noteNeeds_0 rfl ?_
  refine m_get fl_X0_25 (by decide) rfl rfl dX0_noteNeeds_1 ?_
  refine m_iconstN 0 dX0_noteNeeds_4 (by decide) ?_
  refine m_callSV (s_J7_fillI (o := 57) (n := 6) ⟨by decide, by decide, fun _ => rfl⟩ (nI 0)) cs_X0_70 dX0_noteNeeds_5 (fun d5 h5 => ?_)
  refine m_iconstN 0 dX0_noteNeeds_8 (by decide) ?_
  refine m_istore_n dX0_noteNeeds_9 (Nat.le_of_ble_eq_true rfl) rfl ?_
  exact loop 0 (Nat.zero_le _) _ none (fun q hq => by rw [h5.1 q hq]; simp) (fun i hi hlt => absurd hlt (Nat.not_lt_zero i)) (h5.2.mono (by simp [needsS]))
theorem s_X0_reach {a w m : Nat} (ha : a < 15625) (hw : d.1 54 a = nI w) (hw2 : w < 1000000007) (hm : m < 1000000007) : mSpecV l W mX0_reach dep [.ref (xad W 52), .int (nI a), .int (nI m)] d (fun d' => d' = seI (seI d 53 a (nI 1)) 54 a (nI ((w + m) % 1000000007))) := by
  refine m_spec RX0 [some (.ref (xad W 52)), some (.int (nI a)), some (.int (nI m))] rfl (by decide +kernel) rfl rfl (fun K hR => ?_)
  refine m_iload_n dX0_reach_0 rfl ?_
  refine m_if_ltN 46 dX0_reach_1 (by decide) (by omega) ?_
  refine m_iload_n dX0_reach_4 rfl ?_
  refine m_aload_n dX0_reach_5 rfl ?_
  refine m_get fl_X0_11 (by decide) rfl rfl dX0_reach_6 ?_
  refine m_alen (by omega) (by first | rfl | exact xcell_arr _ _ _ (by omega) | exact xcell_mv _ _ (by omega) | exact xcell_fo _ _ (by omega) | exact xcell_ne _ _ (by omega)) (by decide) dX0_reach_9 ?_
  first | refine m_icmp_geN 46 dX0_reach_10 (by decide) (by omega) (by omega) (fun c10 => by exfalso; omega) (fun c10 => ?_) | refine m_icmp_ge 46 dX0_reach_10 (by decide) (fun c10 => by exfalso; omega) (fun c10 => ?_)
  refine m_iload_n dX0_reach_13 rfl ?_
  refine m_aload_n dX0_reach_14 rfl ?_
  refine m_get fl_X0_15 (by decide) rfl rfl dX0_reach_15 ?_
  refine m_alen (by omega) (by first | rfl | exact xcell_arr _ _ _ (by omega) | exact xcell_mv _ _ (by omega) | exact xcell_fo _ _ (by omega) | exact xcell_ne _ _ (by omega)) (by decide) dX0_reach_18 ?_
  first | refine m_icmp_geN 46 dX0_reach_19 (by decide) (by omega) (by omega) (fun c19 => by exfalso; omega) (fun c19 => ?_) | refine m_icmp_ge 46 dX0_reach_19 (by decide) (fun c19 => by exfalso; omega) (fun c19 => ?_)
  refine m_aload_n dX0_reach_22 rfl ?_
  refine m_get fl_X0_11 (by decide) rfl rfl dX0_reach_23 ?_
  refine m_iload_n dX0_reach_26 rfl ?_
  refine m_iconstN 1 dX0_reach_27 (by decide) ?_
  refine m_bast ⟨by decide, by decide, fun _ => rfl⟩ (by omega) (by decide +kernel) dX0_reach_28 ?_
  refine m_aload_n dX0_reach_29 rfl ?_
  refine m_get fl_X0_15 (by decide) rfl rfl dX0_reach_30 ?_
  refine m_iload_n dX0_reach_33 rfl ?_
  refine m_aload_n dX0_reach_34 rfl ?_
  refine m_get fl_X0_15 (by decide) rfl rfl dX0_reach_35 ?_
  refine m_iload_n dX0_reach_38 rfl ?_
  refine m_iald (by first | exact ⟨by decide, by decide, fun _ => rfl⟩ | exact isI_arr _ (by omega) | exact isI_mv _ (by omega) | exact isI_ne _ (by omega)) (by omega) dX0_reach_39 ?_
  refine m_eqi (se_e hw (by decide)) ?_
  refine m_iload_n dX0_reach_40 rfl ?_
  first | refine m_iaddN dX0_reach_41 ?_ | refine m_iadd dX0_reach_41 ?_
  refine m_ldc ct_X0_104 dX0_reach_42 ?_
  refine m_eqi (y := nI 1000000007) (by decide +kernel) ?_
  first | refine m_iremN dX0_reach_44 (by omega) (by omega) (by omega) ?_ | refine m_irem dX0_reach_44 (by decide) ?_
  refine m_iast (by first | exact ⟨by decide, by decide, fun _ => rfl⟩ | exact isI_arr _ (by omega) | exact isI_mv _ (by omega) | exact isI_ne _ (by omega)) (by omega) dX0_reach_45 ?_
  exact m_vret hR dX0_reach_46 (rfl)
theorem s_X0_startAtNone {sz : Nat} (hs : d.1 52 7 = nI sz) (h1 : 1 ≤ sz) (h2 : sz ≤ 15625) : mSpecV l W mX0_startAtNone (dep + 1) [.ref (xad W 52)] d (fun d' => (∀ q, q < 6 → d'.1 57 q = nI 0) ∧ (∀ i, i < sz → d'.1 53 i = nI (if i = 0 then 1 else 0) ∧ d'.1 54 i = nI (if i = 0 then 1 else 0)) ∧ chg [57, 53, 54] d d') := by
  refine m_spec RX0 [some (.ref (xad W 52)), none] rfl (by decide +kernel) rfl rfl (fun K hR => ?_)
  have loop : ∀ i, i ≤ sz → ∀ d1, (∀ q, q < 6 → d1.1 57 q = nI 0) → (∀ q, q < i → d1.1 53 q = nI 0 ∧ d1.1 54 q = nI 0) → chg [57, 53, 54] d d1 → mG W K cX0_startAtNone RX0 (dep + 1) d1 10 [some (.ref (xad W 52)), some (.int (nI i))] [] := x_up _ (fun i hi ih d1 g1 g2 g3 => by
    have hs1 : d1.1 52 7 = nI sz := by rw [(g3 52 (by simp)).1]; exact hs
    refine m_iload_n dX0_startAtNone_10 rfl ?_
    refine m_aload_n dX0_startAtNone_11 rfl ?_
    refine m_get fl_X0_33 (by decide) rfl rfl dX0_startAtNone_12 ?_
    refine m_eqi (hs1) ?_
    first | refine m_icmp_geN 56 dX0_startAtNone_15 (by decide) (by omega) (by omega) (fun c15 => ?_) (fun c15 => ?_) | refine m_icmp_ge 56 dX0_startAtNone_15 (by decide) (fun c15 => ?_) (fun c15 => ?_)
    · refine m_aload_n dX0_startAtNone_56 rfl ?_
      refine m_iconstN 0 dX0_startAtNone_57 (by decide) ?_
      refine m_iconstN 1 dX0_startAtNone_58 (by decide) ?_
      refine m_callVVp (s_X0_reach (a := 0) (w := 0) (m := 1) (by decide) (g2 0 (by omega)).2 (by decide) (by decide)) cv_X0_76 dX0_startAtNone_59 ?_
      have hpost : ∀ q, q < sz → (seI (seI d1 53 0 (nI 1)) 54 0 (nI ((0 + 1) % 1000000007))).1 53 q = nI (if q = 0 then 1 else 0) ∧ (seI (seI d1 53 0 (nI 1)) 54 0 (nI ((0 + 1) % 1000000007))).1 54 q = nI (if q = 0 then 1 else 0) := fun q hq => by
        by_cases e : q = 0
        · subst e; exact ⟨se_e (se_s _ _ _ _) (by decide), se_s _ _ _ _⟩
        · rw [if_neg e]; exact ⟨se_e (se_e2 (g2 q (by omega)).1 e) (by decide), se_e2 (se_e (g2 q (by omega)).2 (by decide)) e⟩
      exact m_vret hR dX0_startAtNone_62 (⟨fun q hq => by rw [seI_o _ _ _ _ _ (by decide), seI_o _ _ _ _ _ (by decide)]; exact g1 q hq, hpost, (g3.se (by simp)).se (by simp)⟩)
    · refine m_iload_n dX0_startAtNone_18 rfl ?_
      refine m_aload_n dX0_startAtNone_19 rfl ?_
      refine m_get fl_X0_11 (by decide) rfl rfl dX0_startAtNone_20 ?_
      refine m_alen (by omega) (by first | rfl | exact xcell_arr _ _ _ (by omega) | exact xcell_mv _ _ (by omega) | exact xcell_fo _ _ (by omega) | exact xcell_ne _ _ (by omega)) (by decide) dX0_startAtNone_23 ?_
      first | refine m_icmp_geN 56 dX0_startAtNone_24 (by decide) (by omega) (by omega) (fun c24 => by exfalso; omega) (fun c24 => ?_) | refine m_icmp_ge 56 dX0_startAtNone_24 (by decide) (fun c24 => by exfalso; omega) (fun c24 => ?_)
      refine m_iload_n dX0_startAtNone_27 rfl ?_
      refine m_aload_n dX0_startAtNone_28 rfl ?_
      refine m_get fl_X0_15 (by decide) rfl rfl dX0_startAtNone_29 ?_
      refine m_alen (by omega) (by first | rfl | exact xcell_arr _ _ _ (by omega) | exact xcell_mv _ _ (by omega) | exact xcell_fo _ _ (by omega) | exact xcell_ne _ _ (by omega)) (by decide) dX0_startAtNone_32 ?_
      first | refine m_icmp_geN 56 dX0_startAtNone_33 (by decide) (by omega) (by omega) (fun c33 => by exfalso; omega) (fun c33 => ?_) | refine m_icmp_ge 56 dX0_startAtNone_33 (by decide) (fun c33 => by exfalso; omega) (fun c33 => ?_)
      refine m_aload_n dX0_startAtNone_36 rfl ?_
      refine m_get fl_X0_11 (by decide) rfl rfl dX0_startAtNone_37 ?_
      refine m_iload_n dX0_startAtNone_40 rfl ?_
      refine m_iconstN 0 dX0_startAtNone_41 (by decide) ?_
      refine m_bast ⟨by decide, by decide, fun _ => rfl⟩ (by omega) (by decide +kernel) dX0_startAtNone_42 ?_
      refine m_aload_n dX0_startAtNone_43 rfl ?_
      refine m_get fl_X0_15 (by decide) rfl rfl dX0_startAtNone_44 ?_
      refine m_iload_n dX0_startAtNone_47 rfl ?_
      refine m_iconstN 0 dX0_startAtNone_48 (by decide) ?_
      refine m_iast (by first | exact ⟨by decide, by decide, fun _ => rfl⟩ | exact isI_arr _ (by omega) | exact isI_mv _ (by omega) | exact isI_ne _ (by omega)) (by omega) dX0_startAtNone_49 ?_
      first | refine m_iincN 1 dX0_startAtNone_50 (by decide) rfl rfl ?_ | refine m_iinc dX0_startAtNone_50 rfl rfl ?_
      refine m_goto 10 dX0_startAtNone_53 (by decide) ?_
      refine ih (by omega) _ (fun q hq => by rw [seI_o _ _ _ _ _ (by decide), seI_o _ _ _ _ _ (by decide)]; exact g1 q hq) (fun q hq => ?_) ((g3.se (by simp)).se (by simp))
      by_cases e : q = i
      · subst e; exact ⟨se_e (se_s _ _ _ _) (by decide), se_s _ _ _ _⟩
      · exact ⟨se_e (se_e2 (g2 q (by omega)).1 e) (by decide), se_e2 (se_e (g2 q (by omega)).2 (by decide)) e⟩
    )
  refine m_aload_n dX0_startAtNone_0 rfl ?_
  refine m_get fl_X0_25 (by decide) rfl rfl dX0_startAtNone_1 ?_
  refine m_iconstN 0 dX0_startAtNone_4 (by decide) ?_
  refine m_callSV (s_J7_fillI (o := 57) (n := 6) ⟨by decide, by decide, fun _ => rfl⟩ (nI 0)) cs_X0_70 dX0_startAtNone_5 (fun d5 h5 => ?_)
  refine m_iconstN 0 dX0_startAtNone_8 (by decide) ?_
  refine m_istore_n dX0_startAtNone_9 (Nat.le_of_ble_eq_true rfl) rfl ?_
  exact loop 0 (Nat.zero_le _) _ h5.1 (fun q hq => absurd hq (Nat.not_lt_zero q)) (h5.2.mono (by simp))
theorem s_X0_isOpen {a : Nat} {nd v : Nat → Nat} (ha : a < 144) (hn : ∀ q, q < 6 → d.1 (a + 96) q = nI (nd q) ∧ nd q ≤ 24) (hv : ∀ q, q < 6 → d.1 57 q = nI (v q) ∧ v q ≤ 24) : mSpecI l W mX0_isOpen dep [.ref (xad W 52), .int (nI a)] d (fun r d' => ((r = 1 ∧ ∀ q, q < 6 → nd q ≤ v q) ∨ (r = 0 ∧ ¬ ∀ q, q < 6 → nd q ≤ v q)) ∧ d' = d) := by
  refine m_spec RX0 [some (.ref (xad W 52)), some (.int (nI a)), none, none] rfl (by decide +kernel) rfl rfl (fun K hR => ?_)
  have loop : ∀ i, i ≤ 6 → (∀ q, q < i → nd q ≤ v q) → mG W K cX0_isOpen RX0 dep d 24 [some (.ref (xad W 52)), some (.int (nI a)), some (.ref (xad W (a + 96))), some (.int (nI i))] [] := x_up _ (fun i hi ih g => by
    refine m_iload_n dX0_isOpen_24 rfl ?_
    refine m_aload_n dX0_isOpen_25 rfl ?_
    refine m_alen (by omega) (by first | rfl | exact xcell_arr _ _ _ (by omega) | exact xcell_mv _ _ (by omega) | exact xcell_fo _ _ (by omega) | exact xcell_ne _ _ (by omega)) (by decide) dX0_isOpen_26 ?_
    first | refine m_icmp_geN 59 dX0_isOpen_27 (by decide) (by omega) (by omega) (fun c27 => ?_) (fun c27 => ?_) | refine m_icmp_ge 59 dX0_isOpen_27 (by decide) (fun c27 => ?_) (fun c27 => ?_)
    · refine m_iconstN 1 dX0_isOpen_59 (by decide) ?_
      exact m_iret (ty := .boolean) hR dX0_isOpen_60 (⟨Or.inl ⟨rfl, fun q hq => g q (by omega)⟩, rfl⟩)
    · refine m_iload_n dX0_isOpen_30 rfl ?_
      refine m_aload_n dX0_isOpen_31 rfl ?_
      refine m_get fl_X0_25 (by decide) rfl rfl dX0_isOpen_32 ?_
      refine m_alen (by omega) (by first | rfl | exact xcell_arr _ _ _ (by omega) | exact xcell_mv _ _ (by omega) | exact xcell_fo _ _ (by omega) | exact xcell_ne _ _ (by omega)) (by decide) dX0_isOpen_35 ?_
      first | refine m_icmp_geN 59 dX0_isOpen_36 (by decide) (by omega) (by omega) (fun c36 => by exfalso; omega) (fun c36 => ?_) | refine m_icmp_ge 59 dX0_isOpen_36 (by decide) (fun c36 => by exfalso; omega) (fun c36 => ?_)
      refine m_aload_n dX0_isOpen_39 rfl ?_
      refine m_iload_n dX0_isOpen_40 rfl ?_
      refine m_iald (by first | exact ⟨by decide, by decide, fun _ => rfl⟩ | exact isI_arr _ (by omega) | exact isI_mv _ (by omega) | exact isI_ne _ (by omega)) (by omega) dX0_isOpen_41 ?_
      refine m_eqi ((hn i (by omega)).1) ?_
      refine m_aload_n dX0_isOpen_42 rfl ?_
      refine m_get fl_X0_25 (by decide) rfl rfl dX0_isOpen_43 ?_
      refine m_iload_n dX0_isOpen_46 rfl ?_
      refine m_iald (by first | exact ⟨by decide, by decide, fun _ => rfl⟩ | exact isI_arr _ (by omega) | exact isI_mv _ (by omega) | exact isI_ne _ (by omega)) (by omega) dX0_isOpen_47 ?_
      refine m_eqi ((hv i (by omega)).1) ?_
      have h1 := (hn i (by omega)).2
      have h2 := (hv i (by omega)).2
      first | refine m_icmp_leN 53 dX0_isOpen_48 (by decide) (by omega) (by omega) (fun c48 => ?_) (fun c48 => ?_) | refine m_icmp_le 53 dX0_isOpen_48 (by decide) (fun c48 => ?_) (fun c48 => ?_)
      · first | refine m_iincN 1 dX0_isOpen_53 (by decide) rfl rfl ?_ | refine m_iinc dX0_isOpen_53 rfl rfl ?_
        refine m_goto 24 dX0_isOpen_56 (by decide) ?_
        refine ih (by omega) (fun q hq => ?_)
        by_cases e : q = i
        · subst e; exact c48
        · exact g q (by omega)
      · refine m_iconstN 0 dX0_isOpen_51 (by decide) ?_
        exact m_iret (ty := .boolean) hR dX0_isOpen_52 (⟨Or.inr ⟨rfl, fun z => c48 (z i (by omega))⟩, rfl⟩)
    )
  refine m_iload_n dX0_isOpen_0 rfl ?_
  refine m_if_ltN 13 dX0_isOpen_1 (by decide) (by omega) ?_
  refine m_iload_n dX0_isOpen_4 rfl ?_
  refine m_aload_n dX0_isOpen_5 rfl ?_
  refine m_get fl_X0_30 (by decide) rfl rfl dX0_isOpen_6 ?_
  refine m_alen (by omega) (by first | rfl | exact xcell_arr _ _ _ (by omega) | exact xcell_mv _ _ (by omega) | exact xcell_fo _ _ (by omega) | exact xcell_ne _ _ (by omega)) (by decide) dX0_isOpen_9 ?_
  first | refine m_icmp_ltN 15 dX0_isOpen_10 (by decide) (by omega) (by omega) (fun c10 => ?_) (fun c10 => by exfalso; omega) | refine m_icmp_lt 15 dX0_isOpen_10 (by decide) (fun c10 => ?_) (fun c10 => by exfalso; omega)
  refine m_aload_n dX0_isOpen_15 rfl ?_
  refine m_get fl_X0_30 (by decide) rfl rfl dX0_isOpen_16 ?_
  refine m_iload_n dX0_isOpen_19 rfl ?_
  refine m_aald (by decide) rfl (by decide) (by decide) (by omega) (if_pos (by omega)) dX0_isOpen_20 ?_
  refine m_astore_n dX0_isOpen_21 (Nat.le_of_ble_eq_true rfl) rfl ?_
  refine m_iconstN 0 dX0_isOpen_22 (by decide) ?_
  refine m_istore_n dX0_isOpen_23 (Nat.le_of_ble_eq_true rfl) rfl ?_
  exact loop 0 (Nat.zero_le _) (fun q hq => absurd hq (Nat.not_lt_zero q))
theorem s_X0_stepCounts {c : Nat → Nat} {t : Nat} (hc : ∀ q, q < 6 → d.1 55 q = nI (c q) ∧ c q ≤ 24) (hv : ∀ q, q < 6 → d.1 57 q = nI (dig c t q)) : mSpecV l W mX0_stepCounts dep [.ref (xad W 52)] d (fun d' => (∀ q, q < 6 → d'.1 57 q = nI (dig c (t + 1) q)) ∧ chg [57] d d') := by
  refine m_spec RX0 [some (.ref (xad W 52)), none] rfl (by decide +kernel) rfl rfl (fun K hR => ?_)
  have loop : ∀ i, i ≤ 6 → (∀ q, q < i → dig c t q = c q) → ∀ d1, (∀ q, q < 6 → d1.1 57 q = nI (if q < i then 0 else dig c t q)) → chg [57] d d1 → mG W K cX0_stepCounts RX0 dep d1 2 [some (.ref (xad W 52)), some (.int (nI i))] [] := x_up _ (fun i hi ih g d1 g1 g2 => by
    have hc1 : ∀ q, q < 6 → d1.1 55 q = nI (c q) := fun q hq => by rw [(g2 55 (by simp)).1]; exact (hc q hq).1
    have hdl := dig_le c t i
    have hd6 : i < 6 → d1.1 57 i = nI (dig c t i) := fun hi6 => by rw [g1 i hi6, if_neg (Nat.lt_irrefl i)]
    have hc24 : i < 6 → c i ≤ 24 := fun hi6 => (hc i hi6).2
    refine m_iload_n dX0_stepCounts_2 rfl ?_
    refine m_aload_n dX0_stepCounts_3 rfl ?_
    refine m_get fl_X0_25 (by decide) rfl rfl dX0_stepCounts_4 ?_
    refine m_alen (by omega) (by first | rfl | exact xcell_arr _ _ _ (by omega) | exact xcell_mv _ _ (by omega) | exact xcell_fo _ _ (by omega) | exact xcell_ne _ _ (by omega)) (by decide) dX0_stepCounts_7 ?_
    first | refine m_icmp_geN 59 dX0_stepCounts_8 (by decide) (by omega) (by omega) (fun c8 => ?_) (fun c8 => ?_) | refine m_icmp_ge 59 dX0_stepCounts_8 (by decide) (fun c8 => ?_) (fun c8 => ?_)
    · exact m_vret hR dX0_stepCounts_59 (⟨fun q hq => by rw [g1 q hq, if_pos (by omega), dig_succ_low (p := i) g (by omega)], g2⟩)
    · refine m_iload_n dX0_stepCounts_11 rfl ?_
      refine m_aload_n dX0_stepCounts_12 rfl ?_
      refine m_get fl_X0_19 (by decide) rfl rfl dX0_stepCounts_13 ?_
      refine m_alen (by omega) (by first | rfl | exact xcell_arr _ _ _ (by omega) | exact xcell_mv _ _ (by omega) | exact xcell_fo _ _ (by omega) | exact xcell_ne _ _ (by omega)) (by decide) dX0_stepCounts_16 ?_
      first | refine m_icmp_geN 59 dX0_stepCounts_17 (by decide) (by omega) (by omega) (fun c17 => by exfalso; omega) (fun c17 => ?_) | refine m_icmp_ge 59 dX0_stepCounts_17 (by decide) (fun c17 => by exfalso; omega) (fun c17 => ?_)
      refine m_aload_n dX0_stepCounts_20 rfl ?_
      refine m_get fl_X0_25 (by decide) rfl rfl dX0_stepCounts_21 ?_
      refine m_iload_n dX0_stepCounts_24 rfl ?_
      refine m_iald (by first | exact ⟨by decide, by decide, fun _ => rfl⟩ | exact isI_arr _ (by omega) | exact isI_mv _ (by omega) | exact isI_ne _ (by omega)) (by omega) dX0_stepCounts_25 ?_
      refine m_eqi (hd6 (by omega)) ?_
      refine m_aload_n dX0_stepCounts_26 rfl ?_
      refine m_get fl_X0_19 (by decide) rfl rfl dX0_stepCounts_27 ?_
      refine m_iload_n dX0_stepCounts_30 rfl ?_
      refine m_iald (by first | exact ⟨by decide, by decide, fun _ => rfl⟩ | exact isI_arr _ (by omega) | exact isI_mv _ (by omega) | exact isI_ne _ (by omega)) (by omega) dX0_stepCounts_31 ?_
      refine m_eqi (hc1 i (by omega)) ?_
      have hc24i := hc24 (by omega)
      first | refine m_icmp_geN 46 dX0_stepCounts_32 (by decide) (by omega) (by omega) (fun c32 => ?_) (fun c32 => ?_) | refine m_icmp_ge 46 dX0_stepCounts_32 (by decide) (fun c32 => ?_) (fun c32 => ?_)
      · refine m_aload_n dX0_stepCounts_46 rfl ?_
        refine m_get fl_X0_25 (by decide) rfl rfl dX0_stepCounts_47 ?_
        refine m_iload_n dX0_stepCounts_50 rfl ?_
        refine m_iconstN 0 dX0_stepCounts_51 (by decide) ?_
        refine m_iast (by first | exact ⟨by decide, by decide, fun _ => rfl⟩ | exact isI_arr _ (by omega) | exact isI_mv _ (by omega) | exact isI_ne _ (by omega)) (by omega) dX0_stepCounts_52 ?_
        first | refine m_iincN 1 dX0_stepCounts_53 (by decide) rfl rfl ?_ | refine m_iinc dX0_stepCounts_53 rfl rfl ?_
        refine m_goto 2 dX0_stepCounts_56 (by decide) ?_
        refine ih (by omega) (fun q hq => ?_) _ (fun q hq => ?_) (g2.se (by simp))
        · by_cases e : q = i
          · subst e; omega
          · exact g q (by omega)
        · by_cases e : q = i
          · subst e; rw [se_s, if_pos (by omega)]
          · rw [se_n _ _ e, g1 q hq]
            by_cases e2 : q < i
            · rw [if_pos e2, if_pos (by omega)]
            · rw [if_neg e2, if_neg (by omega)]
      · refine m_aload_n dX0_stepCounts_35 rfl ?_
        refine m_get fl_X0_25 (by decide) rfl rfl dX0_stepCounts_36 ?_
        refine m_iload_n dX0_stepCounts_39 rfl ?_
        first | refine m_dup2_2 dX0_stepCounts_40 rfl ?_ | refine m_dup2_11 dX0_stepCounts_40 rfl rfl ?_
        refine m_iald (by first | exact ⟨by decide, by decide, fun _ => rfl⟩ | exact isI_arr _ (by omega) | exact isI_mv _ (by omega) | exact isI_ne _ (by omega)) (by omega) dX0_stepCounts_41 ?_
        refine m_eqi (hd6 (by omega)) ?_
        refine m_iconstN 1 dX0_stepCounts_42 (by decide) ?_
        first | refine m_iaddN dX0_stepCounts_43 ?_ | refine m_iadd dX0_stepCounts_43 ?_
        refine m_iast (by first | exact ⟨by decide, by decide, fun _ => rfl⟩ | exact isI_arr _ (by omega) | exact isI_mv _ (by omega) | exact isI_ne _ (by omega)) (by omega) dX0_stepCounts_44 ?_
        have hpost : ∀ q, q < 6 → (seI d1 57 i (nI (dig c t i + 1))).1 57 q = nI (dig c (t + 1) q) := fun q hq => by
          by_cases e : q = i
          · subst e; rw [se_s, dig_succ_hi g (by omega) (Nat.le_refl _), if_pos rfl]
          · rw [se_n _ _ e, g1 q hq]
            by_cases e2 : q < i
            · rw [if_pos e2, dig_succ_low (p := i) g e2]
            · rw [if_neg e2, dig_succ_hi g (by omega) (by omega), if_neg e]
        exact m_vret hR dX0_stepCounts_45 (⟨hpost, g2.se (by simp)⟩)
    )
  refine m_iconstN 0 dX0_stepCounts_0 (by decide) ?_
  refine m_istore_n dX0_stepCounts_1 (Nat.le_of_ble_eq_true rfl) rfl ?_
  exact loop 0 (Nat.zero_le _) (fun q hq => absurd hq (Nat.not_lt_zero q)) d (fun q hq => by rw [if_neg (Nat.not_lt_zero q)]; exact hv q hq) chg.rf
theorem s_J9_max {a b : Nat} (ha : a < 2 ^ 31) (hb : b < 2 ^ 31) : mSpecI l W mJ9_max_7cf53 dep [.int (nI a), .int (nI b)] d (fun r d' => r = nI (max a b) ∧ d' = d) := by
  refine m_specF RJ9 [some (.int (nI a)), some (.int (nI b))] rfl (by decide +kernel) rfl rfl (fun K hR => ?_)
  refine m_iload_n dJ9_max_7cf53_0 rfl ?_
  refine m_iload_n dJ9_max_7cf53_1 rfl ?_
  first | refine m_icmp_ltN 9 dJ9_max_7cf53_2 (by decide) (by omega) (by omega) (fun c2 => ?_) (fun c2 => ?_) | refine m_icmp_lt 9 dJ9_max_7cf53_2 (by decide) (fun c2 => ?_) (fun c2 => ?_)
  · refine m_iload_n dJ9_max_7cf53_9 rfl ?_
    exact m_iret (ty := .int) hR dJ9_max_7cf53_10 (⟨by rw [Nat.max_eq_right (by omega)], rfl⟩)
  · refine m_iload_n dJ9_max_7cf53_5 rfl ?_
    refine m_goto 10 dJ9_max_7cf53_6 (by decide) ?_
    exact m_iret (ty := .int) hR dJ9_max_7cf53_10 (⟨by rw [Nat.max_eq_left (by omega)], rfl⟩)
end BEG
