/-! small things that the walks use -/
theorem isI_arr (W : xW) {j : Nat} (h : j < 13) : isI W (j + 17) 24 := ⟨by omega, by decide, fun d => xcell_arr W d j h⟩
theorem isI_mv (W : xW) {j : Nat} (h : j < 5) : isI W (j + 70) 6 := ⟨by omega, by decide, fun d => xcell_mv W d h⟩
theorem isI_ne (W : xW) {j : Nat} (h : j < 144) : isI W (j + 96) 6 := ⟨by omega, by decide, fun d => xcell_ne W d h⟩
theorem isL_fo (W : xW) {j : Nat} (h : j < 21) : isL W (j + 75) 64 := ⟨by omega, by decide, fun d => xcell_fo W d h⟩
theorem se_s (d : xD) (o k : Nat) (x : Int32) : (seI d o k x).1 o k = x := by rw [seI_s]; simp [upd]
theorem se_n (d : xD) {o k q : Nat} (x : Int32) (h : q ≠ k) : (seI d o k x).1 o q = d.1 o q := by rw [seI_s]; simp [upd, h]
theorem se_e {d : xD} {o k o' q : Nat} {x v : Int32} (h : d.1 o' q = v) (hne : o' ≠ o) : (seI d o k x).1 o' q = v := by rw [seI_o d o k x o' hne]; exact h
theorem se_e2 {d : xD} {o k q : Nat} {x v : Int32} (h : d.1 o q = v) (hne : q ≠ k) : (seI d o k x).1 o q = v := by rw [se_n d x hne]; exact h
theorem seL_s' (d : xD) (o k : Nat) (x : Int64) : (seL d o k x).2 o k = x := by rw [seL_s]; simp [vp_updL]
theorem seL_n (d : xD) {o k q : Nat} (x : Int64) (h : q ≠ k) : (seL d o k x).2 o q = d.2 o q := by rw [seL_s]; simp [vp_updL, h]
theorem xrow_put (W : xW) (d : xD) (j : Nat) (h : j < 13) {x : Int32} : cellOf W (seI d (j + 4) 1 x) (j + 4) = .inr (9, [.ref (xad W (j + 17)), .int x]) := by
  rw [xcell_row W _ j h, se_s]
theorem xline_put0 (W : xW) (d : xD) (j : Nat) (h : j < 16) {x : Int32} : cellOf W (seI d (j + 34) 0 x) (j + 34) = .inr (4, [.int x, .int (d.1 (j + 34) 1), .int (d.1 (j + 34) 2), .int (d.1 (j + 34) 3), .int (d.1 (j + 34) 4)]) := by
  rw [xcell_line W _ j h, se_s, se_n, se_n, se_n, se_n] <;> decide
theorem xline_put1 (W : xW) (d : xD) (j : Nat) (h : j < 16) {x : Int32} : cellOf W (seI d (j + 34) 1 x) (j + 34) = .inr (4, [.int (d.1 (j + 34) 0), .int x, .int (d.1 (j + 34) 2), .int (d.1 (j + 34) 3), .int (d.1 (j + 34) 4)]) := by
  rw [xcell_line W _ j h, se_s, se_n, se_n, se_n, se_n] <;> decide
theorem xline_put2 (W : xW) (d : xD) (j : Nat) (h : j < 16) {x : Int32} : cellOf W (seI d (j + 34) 2 x) (j + 34) = .inr (4, [.int (d.1 (j + 34) 0), .int (d.1 (j + 34) 1), .int x, .int (d.1 (j + 34) 3), .int (d.1 (j + 34) 4)]) := by
  rw [xcell_line W _ j h, se_s, se_n, se_n, se_n, se_n] <;> decide
theorem xline_put3 (W : xW) (d : xD) (j : Nat) (h : j < 16) {x : Int32} : cellOf W (seI d (j + 34) 3 x) (j + 34) = .inr (4, [.int (d.1 (j + 34) 0), .int (d.1 (j + 34) 1), .int (d.1 (j + 34) 2), .int x, .int (d.1 (j + 34) 4)]) := by
  rw [xcell_line W _ j h, se_s, se_n, se_n, se_n, se_n] <;> decide
theorem xline_put4 (W : xW) (d : xD) (j : Nat) (h : j < 16) {x : Int32} : cellOf W (seI d (j + 34) 4 x) (j + 34) = .inr (4, [.int (d.1 (j + 34) 0), .int (d.1 (j + 34) 1), .int (d.1 (j + 34) 2), .int (d.1 (j + 34) 3), .int x]) := by
  rw [xcell_line W _ j h, se_s, se_n, se_n, se_n, se_n] <;> decide
/-- nothing has changed outside the cells of S -/
def chg (S : List Nat) (d d' : xD) : Prop := ∀ o, o ∉ S → d'.1 o = d.1 o ∧ d'.2 o = d.2 o
theorem chg.rf {S : List Nat} {d : xD} : chg S d d := fun _ _ => ⟨rfl, rfl⟩
theorem chg.tr {S : List Nat} {d d' d'' : xD} (h : chg S d d') (h' : chg S d' d'') : chg S d d'' := fun o ho => ⟨(h' o ho).1.trans (h o ho).1, (h' o ho).2.trans (h o ho).2⟩
theorem chg.mono {S S' : List Nat} {d d' : xD} (h : chg S d d') (hs : ∀ o ∈ S, o ∈ S') : chg S' d d' := fun o ho => h o (fun q => ho (hs o q))
theorem chg.se {S : List Nat} {d d' : xD} {o k : Nat} {x : Int32} (h : chg S d d') (ho : o ∈ S) : chg S d (seI d' o k x) := fun q hq => by
  have hne : q ≠ o := fun e => hq (e ▸ ho)
  exact ⟨(seI_o d' o k x q hne).trans (h q hq).1, (h q hq).2⟩
theorem chg.seL {S : List Nat} {d d' : xD} {o k : Nat} {x : Int64} (h : chg S d d') (ho : o ∈ S) : chg S d (seL d' o k x) := fun q hq => by
  have hne : q ≠ o := fun e => hq (e ▸ ho)
  exact ⟨(h q hq).1, (seL_o d' o k x q hne).trans (h q hq).2⟩
/-- row j (0 .. 12) holds the letters xs -/
def rowIs (d : xD) (j : Nat) (xs : List Nat) : Prop := xs.length ≤ 24 ∧ d.1 (j + 4) 1 = nI xs.length ∧ (∀ (i : Nat) (h : i < xs.length), d.1 (j + 17) i = nI xs[i]) ∧ ∀ x ∈ xs, x < 6
theorem rowIs.of {d d' : xD} {j : Nat} {xs : List Nat} (h : rowIs d j xs) (h1 : d'.1 (j + 4) 1 = d.1 (j + 4) 1) (h2 : ∀ i, i < xs.length → d'.1 (j + 17) i = d.1 (j + 17) i) : rowIs d' j xs :=
  ⟨h.1, h1.trans h.2.1, fun i hi => (h2 i hi).trans (h.2.2.1 i hi), h.2.2.2⟩
theorem rowIs.fr {S : List Nat} {d d' : xD} {j : Nat} {xs : List Nat} (h : rowIs d j xs) (hc : chg S d d') (h1 : j + 4 ∉ S) (h2 : j + 17 ∉ S) : rowIs d' j xs :=
  h.of (by rw [(hc _ h1).1]) (fun i _ => by rw [(hc _ h2).1])
theorem rowIs.nil {d : xD} {j : Nat} (h : d.1 (j + 4) 1 = nI 0) : rowIs d j [] := ⟨by decide, h, fun i hi => absurd hi (Nat.not_lt_zero i), fun x hx => by cases hx⟩
theorem rowIs.push {d d' : xD} {j l : Nat} {xs : List Nat} (h : rowIs d j xs) (hx : l < 6) (hl : xs.length < 24) (h1 : d'.1 (j + 4) 1 = nI (xs.length + 1)) (h2 : ∀ i, i < xs.length → d'.1 (j + 17) i = d.1 (j + 17) i) (h3 : d'.1 (j + 17) xs.length = nI l) : rowIs d' j (xs ++ [l]) := by
  refine ⟨by simp; omega, by simpa using h1, fun i hi => ?_, fun x hm => ?_⟩
  by_cases e : i < xs.length
  · rw [List.getElem_append_left e, h2 i e]
    exact h.2.2.1 i e
  · have e2 : i = xs.length := by simp at hi; omega
    subst e2
    rw [h3]
    simp
  · rcases List.mem_append.mp hm with h4 | h4
    · exact h.2.2.2 x h4
    · cases List.mem_singleton.mp h4
      exact hx
theorem rowIs.lt {d : xD} {j i : Nat} {xs : List Nat} (h : rowIs d j xs) (hi : i < xs.length) : xs[i] < 6 := h.2.2.2 _ (List.getElem_mem hi)
/-- a loop that counts up to e -/
theorem x_up {P : Nat → Prop} (e : Nat) (h : ∀ i, i ≤ e → (i < e → P (i + 1)) → P i) : ∀ i, i ≤ e → P i := by
  have key : ∀ n i, i ≤ e → e - i = n → P i := by
    intro n
    induction n with
    | zero => intro i hi hn; exact h i hi (fun q => absurd q (by omega))
    | succ n ih => intro i hi hn; exact h i hi (fun q => ih (i + 1) q (by omega))
  exact fun i hi => key _ i hi rfl
section XLC
variable {W : xW} {K : xK} {cc : ByteArray} {own : String} {dep : Nat} {d : xD} {pc : Nat} {loc : List (Option Value)} {stk : List Value}
theorem m_topi {x : Int32} (k : ∀ y : Int32, y = x → mG W K cc own dep d pc loc (.int y :: stk)) : mG W K cc own dep d pc loc (.int x :: stk) := k x rfl
theorem m_topl {x : Int64} (k : ∀ y : Int64, y = x → mG W K cc own dep d pc loc (.long y :: stk)) : mG W K cc own dep d pc loc (.long x :: stk) := k x rfl
theorem m_eqi {x y : Int32} (h : x = y) (k : mG W K cc own dep d pc loc (.int y :: stk)) : mG W K cc own dep d pc loc (.int x :: stk) := h ▸ k
theorem m_eql {x y : Int64} (h : x = y) (k : mG W K cc own dep d pc loc (.long y :: stk)) : mG W K cc own dep d pc loc (.long x :: stk) := h ▸ k
theorem m_lcmp_ge {x y : Int64} {off : Int} (tgt : Nat) (d1 : decode cc pc = .ok (.lcmp, 1)) (d2 : decode cc (pc + 1) = .ok (.ifCond .ge off, 3)) (ht : ((pc + 1 : Nat) : Int) + off = (tgt : Int)) (kt : y ≤ x → mG W K cc own dep d tgt loc stk) (kf : ¬ y ≤ x → mG W K cc own dep d (pc + 4) loc stk) : mG W K cc own dep d pc loc (.long y :: .long x :: stk) :=
  m_lcmp d1 (m_if_ge tgt d2 ht (fun q => kt ((lg_cmp_ge x y).mp q)) (fun q => kf (fun z => q ((lg_cmp_ge x y).mpr z))))
theorem m_lcmp_lt {x y : Int64} {off : Int} (tgt : Nat) (d1 : decode cc pc = .ok (.lcmp, 1)) (d2 : decode cc (pc + 1) = .ok (.ifCond .lt off, 3)) (ht : ((pc + 1 : Nat) : Int) + off = (tgt : Int)) (kt : x < y → mG W K cc own dep d tgt loc stk) (kf : ¬ x < y → mG W K cc own dep d (pc + 4) loc stk) : mG W K cc own dep d pc loc (.long y :: .long x :: stk) :=
  m_lcmp d1 (m_if_lt tgt d2 ht (fun q => kt ((lg_cmp_lt x y).mp q)) (fun q => kf (fun z => q ((lg_cmp_lt x y).mpr z))))
theorem m_lcmp_eq {x y : Int64} {off : Int} (tgt : Nat) (d1 : decode cc pc = .ok (.lcmp, 1)) (d2 : decode cc (pc + 1) = .ok (.ifCond .eq off, 3)) (ht : ((pc + 1 : Nat) : Int) + off = (tgt : Int)) (kt : x = y → mG W K cc own dep d tgt loc stk) (kf : ¬ x = y → mG W K cc own dep d (pc + 4) loc stk) : mG W K cc own dep d pc loc (.long y :: .long x :: stk) :=
  m_lcmp d1 (m_if_eq tgt d2 ht (fun q => kt ((lg_cmp_eq x y).mp q)) (fun q => kf (fun z => q ((lg_cmp_eq x y).mpr z))))
theorem m_lcmp_ne {x y : Int64} {off : Int} (tgt : Nat) (d1 : decode cc pc = .ok (.lcmp, 1)) (d2 : decode cc (pc + 1) = .ok (.ifCond .ne off, 3)) (ht : ((pc + 1 : Nat) : Int) + off = (tgt : Int)) (kt : ¬ x = y → mG W K cc own dep d tgt loc stk) (kf : ¬ ¬ x = y → mG W K cc own dep d (pc + 4) loc stk) : mG W K cc own dep d pc loc (.long y :: .long x :: stk) :=
  m_lcmp d1 (m_if_ne tgt d2 ht (fun q => kt (fun z => q ((lg_cmp_eq x y).mpr z))) (fun q => kf (fun z => q (fun w => z ((lg_cmp_eq x y).mp w)))))
theorem m_lcmp_geN {x y : Nat} {off : Int} (tgt : Nat) (d1 : decode cc pc = .ok (.lcmp, 1)) (d2 : decode cc (pc + 1) = .ok (.ifCond .ge off, 3)) (ht : ((pc + 1 : Nat) : Int) + off = (tgt : Int)) (hx : x < 2 ^ 63) (hy : y < 2 ^ 63) (kt : y ≤ x → mG W K cc own dep d tgt loc stk) (kf : ¬ y ≤ x → mG W K cc own dep d (pc + 4) loc stk) : mG W K cc own dep d pc loc (.long (lN y) :: .long (lN x) :: stk) :=
  m_lcmp_ge tgt d1 d2 ht (fun q => kt ((pk_lLE hy hx).mp q)) (fun q => kf (fun z => q ((pk_lLE hy hx).mpr z)))
theorem m_lcmp_ltN {x y : Nat} {off : Int} (tgt : Nat) (d1 : decode cc pc = .ok (.lcmp, 1)) (d2 : decode cc (pc + 1) = .ok (.ifCond .lt off, 3)) (ht : ((pc + 1 : Nat) : Int) + off = (tgt : Int)) (hx : x < 2 ^ 63) (hy : y < 2 ^ 63) (kt : x < y → mG W K cc own dep d tgt loc stk) (kf : ¬ x < y → mG W K cc own dep d (pc + 4) loc stk) : mG W K cc own dep d pc loc (.long (lN y) :: .long (lN x) :: stk) :=
  m_lcmp_lt tgt d1 d2 ht (fun q => kt ((pk_lLT hx hy).mp q)) (fun q => kf (fun z => q ((pk_lLT hx hy).mpr z)))
theorem m_lcmp_eqN {x y : Nat} {off : Int} (tgt : Nat) (d1 : decode cc pc = .ok (.lcmp, 1)) (d2 : decode cc (pc + 1) = .ok (.ifCond .eq off, 3)) (ht : ((pc + 1 : Nat) : Int) + off = (tgt : Int)) (hx : x < 2 ^ 63) (hy : y < 2 ^ 63) (kt : x = y → mG W K cc own dep d tgt loc stk) (kf : ¬ x = y → mG W K cc own dep d (pc + 4) loc stk) : mG W K cc own dep d pc loc (.long (lN y) :: .long (lN x) :: stk) :=
  m_lcmp_eq tgt d1 d2 ht (fun q => kt ((pk_lEQ hx hy).mp q)) (fun q => kf (fun z => q ((pk_lEQ hx hy).mpr z)))
theorem m_lcmp_neN {x y : Nat} {off : Int} (tgt : Nat) (d1 : decode cc pc = .ok (.lcmp, 1)) (d2 : decode cc (pc + 1) = .ok (.ifCond .ne off, 3)) (ht : ((pc + 1 : Nat) : Int) + off = (tgt : Int)) (hx : x < 2 ^ 63) (hy : y < 2 ^ 63) (kt : ¬ x = y → mG W K cc own dep d tgt loc stk) (kf : ¬ ¬ x = y → mG W K cc own dep d (pc + 4) loc stk) : mG W K cc own dep d pc loc (.long (lN y) :: .long (lN x) :: stk) :=
  m_lcmp_ne tgt d1 d2 ht (fun q => kt (fun z => q ((pk_lEQ hx hy).mpr z))) (fun q => kf (fun z => q (fun w => z ((pk_lEQ hx hy).mp w))))
end XLC
