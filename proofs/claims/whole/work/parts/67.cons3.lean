/-! SwapSteps' own constructor -/
theorem ap_c {α : Type} {A A' B : List α} {x : α} (h : A = A') : A ++ x :: B = A' ++ [x] ++ B := by rw [h, List.append_assoc]; rfl
def eX11 (g : (Nat → Nat) × (Nat → Nat) × (Nat → Nat) × (Nat → Nat) × (Nat → Nat) × (Nat → Nat) × (Nat → Nat) × (Nat → Nat) × (Nat → Nat) × ((Nat → Nat) × (Nat → Nat) × (Nat → Nat) × (Nat → Nat)) × ((Nat → Nat) × (Nat → Nat) × (Nat → Nat) × (Nat → Nat)) × ((Nat → Nat) × (Nat → Nat)) × ((Nat → Nat) × (Nat → Nat) × (Nat → Nat)) × ((Nat → Nat) × (Nat → Nat)) × ((Nat → Nat) × (Nat → Nat))) : va_E := .inr (11, [.ref (g.1 0), .ref (g.1 1), .ref (g.1 6), .ref (g.1 7), .ref (g.1 8), .ref (g.1 9), .ref (g.1 10), .ref (g.1 11), .ref (g.1 12), .ref (g.1 13), .ref (g.1 14)])
def nX11 (E : xE) (g : (Nat → Nat) × (Nat → Nat) × (Nat → Nat) × (Nat → Nat) × (Nat → Nat) × (Nat → Nat) × (Nat → Nat) × (Nat → Nat) × (Nat → Nat) × ((Nat → Nat) × (Nat → Nat) × (Nat → Nat) × (Nat → Nat)) × ((Nat → Nat) × (Nat → Nat) × (Nat → Nat) × (Nat → Nat)) × ((Nat → Nat) × (Nat → Nat)) × ((Nat → Nat) × (Nat → Nat) × (Nat → Nat)) × ((Nat → Nat) × (Nat → Nat)) × ((Nat → Nat) × (Nat → Nat))) : va_W := [((g.1 0), eX3 g.2.1)] ++ nX3 E g.2.1 ++ [((g.1 1), .inl (E.2.1 4, 4, .inr (.inr (.inr (.inr (fun i => [(g.1 2), (g.1 3), (g.1 4), (g.1 5)][i]?)))))), ((g.1 2), eX9 g.2.2.1)] ++ nX9 E g.2.2.1 ++ [((g.1 3), eX9 g.2.2.2.1)] ++ nX9 E g.2.2.2.1 ++ [((g.1 4), eX9 g.2.2.2.2.1)] ++ nX9 E g.2.2.2.2.1 ++ [((g.1 5), eX9 g.2.2.2.2.2.1)] ++ nX9 E g.2.2.2.2.2.1 ++ [((g.1 6), eX9 g.2.2.2.2.2.2.1)] ++ nX9 E g.2.2.2.2.2.2.1 ++ [((g.1 7), eX10 g.2.2.2.2.2.2.2.1)] ++ nX10 E g.2.2.2.2.2.2.2.1 ++ [((g.1 8), eX5 (g.1 7) g.2.2.2.2.2.2.2.2.1)] ++ nX5 E g.2.2.2.2.2.2.2.2.1 ++ [((g.1 9), eX2 (g.1 0) g.2.2.2.2.2.2.2.2.2.1)] ++ nX2 E g.2.2.2.2.2.2.2.2.2.1 ++ [((g.1 10), eX7 (g.1 9) g.2.2.2.2.2.2.2.2.2.2.1)] ++ nX7 E g.2.2.2.2.2.2.2.2.2.2.1 ++ [((g.1 11), eX0 (g.1 0) g.2.2.2.2.2.2.2.2.2.2.2.1)] ++ nX0 E g.2.2.2.2.2.2.2.2.2.2.2.1 ++ [((g.1 12), eX1 (g.1 0) (g.1 9) g.2.2.2.2.2.2.2.2.2.2.2.2.1)] ++ nX1 E g.2.2.2.2.2.2.2.2.2.2.2.2.1 ++ [((g.1 13), eX6 (g.1 0) g.2.2.2.2.2.2.2.2.2.2.2.2.2.1)] ++ nX6 E g.2.2.2.2.2.2.2.2.2.2.2.2.2.1 ++ [((g.1 14), eX8 (g.1 0) (g.1 13) g.2.2.2.2.2.2.2.2.2.2.2.2.2.2)] ++ nX8 E g.2.2.2.2.2.2.2.2.2.2.2.2.2.2
theorem ci_X11_11 : xCI RX11 11 mX3_init 0 := ⟨x_mem 108 (by decide +kernel) (by decide +kernel), x_mem 77 (by decide +kernel) (by decide +kernel), Or.inr ⟨"SwapSteps", x_nw 106 (by decide +kernel) rfl⟩, by decide +kernel, by decide +kernel, by decide +kernel, by decide, rfl, rfl, x_mem 107 (by decide +kernel) (by decide +kernel)⟩
theorem ci_X11_22 : xCI RX11 22 mX9_init 0 := ⟨x_mem 123 (by decide +kernel) (by decide +kernel), x_mem 78 (by decide +kernel) (by decide +kernel), Or.inr ⟨"SwapSteps", x_nw 121 (by decide +kernel) rfl⟩, by decide +kernel, by decide +kernel, by decide +kernel, by decide, rfl, rfl, x_mem 122 (by decide +kernel) (by decide +kernel)⟩
theorem ci_X11_29 : xCI RX11 29 mX10_init 0 := ⟨x_mem 136 (by decide +kernel) (by decide +kernel), x_mem 79 (by decide +kernel) (by decide +kernel), Or.inr ⟨"SwapSteps", x_nw 134 (by decide +kernel) rfl⟩, by decide +kernel, by decide +kernel, by decide +kernel, by decide, rfl, rfl, x_mem 135 (by decide +kernel) (by decide +kernel)⟩
theorem ci_X11_36 : xCI RX11 36 mX5_init 1 := ⟨x_mem 155 (by decide +kernel) (by decide +kernel), x_mem 80 (by decide +kernel) (by decide +kernel), Or.inl (x_mem 153 (by decide +kernel) (by decide +kernel)), by decide +kernel, by decide +kernel, by decide +kernel, by decide, rfl, rfl, x_mem 154 (by decide +kernel) (by decide +kernel)⟩
theorem ci_X11_45 : xCI RX11 45 mX2_init 1 := ⟨x_mem 207 (by decide +kernel) (by decide +kernel), x_mem 82 (by decide +kernel) (by decide +kernel), Or.inl (x_mem 205 (by decide +kernel) (by decide +kernel)), by decide +kernel, by decide +kernel, by decide +kernel, by decide, rfl, rfl, x_mem 206 (by decide +kernel) (by decide +kernel)⟩
theorem ci_X11_54 : xCI RX11 54 mX7_init 1 := ⟨x_mem 228 (by decide +kernel) (by decide +kernel), x_mem 83 (by decide +kernel) (by decide +kernel), Or.inl (x_mem 226 (by decide +kernel) (by decide +kernel)), by decide +kernel, by decide +kernel, by decide +kernel, by decide, rfl, rfl, x_mem 227 (by decide +kernel) (by decide +kernel)⟩
theorem ci_X11_63 : xCI RX11 63 mX0_init 1 := ⟨x_mem 249 (by decide +kernel) (by decide +kernel), x_mem 84 (by decide +kernel) (by decide +kernel), Or.inl (x_mem 247 (by decide +kernel) (by decide +kernel)), by decide +kernel, by decide +kernel, by decide +kernel, by decide, rfl, rfl, x_mem 248 (by decide +kernel) (by decide +kernel)⟩
theorem ci_X11_70 : xCI RX11 70 mX1_init 2 := ⟨x_mem 289 (by decide +kernel) (by decide +kernel), x_mem 85 (by decide +kernel) (by decide +kernel), Or.inl (x_mem 287 (by decide +kernel) (by decide +kernel)), by decide +kernel, by decide +kernel, by decide +kernel, by decide, rfl, rfl, x_mem 288 (by decide +kernel) (by decide +kernel)⟩
theorem ci_X11_79 : xCI RX11 79 mX6_init 1 := ⟨x_mem 320 (by decide +kernel) (by decide +kernel), x_mem 86 (by decide +kernel) (by decide +kernel), Or.inl (x_mem 318 (by decide +kernel) (by decide +kernel)), by decide +kernel, by decide +kernel, by decide +kernel, by decide, rfl, rfl, x_mem 319 (by decide +kernel) (by decide +kernel)⟩
theorem ci_X11_86 : xCI RX11 86 mX8_init 2 := ⟨x_mem 347 (by decide +kernel) (by decide +kernel), x_mem 87 (by decide +kernel) (by decide +kernel), Or.inl (x_mem 345 (by decide +kernel) (by decide +kernel)), by decide +kernel, by decide +kernel, by decide +kernel, by decide, rfl, rfl, x_mem 346 (by decide +kernel) (by decide +kernel)⟩
theorem xn_X11_9 : xNew RX11 9 3 (RX3, TX3, 2) tyX3 := ⟨cl_3, x_mem 104 (by decide +kernel) (by decide +kernel), x_mem 105 (by decide +kernel) (by decide +kernel), x_mem 77 (by decide +kernel) (by decide +kernel)⟩
theorem xn_X11_16 : xNew RX11 16 9 (RX9, TX9, 2) tyX9 := ⟨cl_9, x_mem 118 (by decide +kernel) (by decide +kernel), x_mem 120 (by decide +kernel) (by decide +kernel), x_mem 78 (by decide +kernel) (by decide +kernel)⟩
theorem cl_X11_16 : Cond.classLink RX11 16 RX9 ∈ xws := x_mem 118 (by decide +kernel) (by decide +kernel)
theorem xn_X11_27 : xNew RX11 27 10 (RX10, TX10, 4) tyX10 := ⟨cl_10, x_mem 132 (by decide +kernel) (by decide +kernel), x_mem 133 (by decide +kernel) (by decide +kernel), x_mem 79 (by decide +kernel) (by decide +kernel)⟩
theorem xn_X11_34 : xNew RX11 34 5 (RX5, TX5, 4) tyX5 := ⟨cl_5, x_mem 151 (by decide +kernel) (by decide +kernel), x_mem 152 (by decide +kernel) (by decide +kernel), x_mem 80 (by decide +kernel) (by decide +kernel)⟩
theorem xn_X11_43 : xNew RX11 43 2 (RX2, TX2, 4) tyX2 := ⟨cl_2, x_mem 203 (by decide +kernel) (by decide +kernel), x_mem 204 (by decide +kernel) (by decide +kernel), x_mem 82 (by decide +kernel) (by decide +kernel)⟩
theorem xn_X11_52 : xNew RX11 52 7 (RX7, TX7, 4) tyX7 := ⟨cl_7, x_mem 224 (by decide +kernel) (by decide +kernel), x_mem 225 (by decide +kernel) (by decide +kernel), x_mem 83 (by decide +kernel) (by decide +kernel)⟩
theorem xn_X11_61 : xNew RX11 61 0 (RX0, TX0, 10) tyX0 := ⟨cl_0, x_mem 245 (by decide +kernel) (by decide +kernel), x_mem 246 (by decide +kernel) (by decide +kernel), x_mem 84 (by decide +kernel) (by decide +kernel)⟩
theorem xn_X11_68 : xNew RX11 68 1 (RX1, TX1, 7) tyX1 := ⟨cl_1, x_mem 285 (by decide +kernel) (by decide +kernel), x_mem 286 (by decide +kernel) (by decide +kernel), x_mem 85 (by decide +kernel) (by decide +kernel)⟩
theorem xn_X11_77 : xNew RX11 77 6 (RX6, TX6, 6) tyX6 := ⟨cl_6, x_mem 316 (by decide +kernel) (by decide +kernel), x_mem 317 (by decide +kernel) (by decide +kernel), x_mem 86 (by decide +kernel) (by decide +kernel)⟩
theorem xn_X11_84 : xNew RX11 84 8 (RX8, TX8, 7) tyX8 := ⟨cl_8, x_mem 343 (by decide +kernel) (by decide +kernel), x_mem 344 (by decide +kernel) (by decide +kernel), x_mem 87 (by decide +kernel) (by decide +kernel)⟩
theorem oi_X11 : Cond.methodLink RX11 3 Lib.objectInit ∈ xws := x_mem 101 (by decide +kernel) (by decide +kernel)
set_option maxRecDepth 20000 in
set_option maxHeartbeats 4000000 in
theorem i_X11 {l : Launch} {E : xE} (dep : Nat) : zInit l E mX11_init (dep + 3) 239 41132 [] (.inr (11, [.null, .null, .null, .null, .null, .null, .null, .null, .null, .null, .null])) (eX11) (nX11 E) := by
  refine z_spec RX11 (fun a => [some (.ref a), none]) rfl rfl (by decide +kernel) (fun _ => rfl) (fun _ => rfl) (fun X A ws k a hX hk => ?_)
  refine z_aload_n dX11_init_0 rfl ?_
  refine z_obj oi_X11 oi_m oi_c (Nat.le_of_ble_eq_true rfl) (Nat.le_of_ble_eq_true rfl) dX11_init_1 ?_
  refine z_aload_n dX11_init_4 rfl ?_
  refine z_new xn_X11_9 df_X3 (Nat.le_of_ble_eq_true rfl) (Nat.le_of_ble_eq_true rfl) dX11_init_5 (fun q0 => ?_)
  refine z_dup dX11_init_8 rfl ?_
  refine z_init (i_X3 (dep + 1)) ci_X11_11 rfl rfl (Nat.le_of_ble_eq_true rfl) (Nat.le_of_ble_eq_true rfl) (Nat.le_of_ble_eq_true rfl) dX11_init_9 (fun g0 => ?_)
  refine z_putF (fs' := [.ref q0, .null, .null, .null, .null, .null, .null, .null, .null, .null, .null]) rfl fl_X11_12 (fun _ h => by cases h; rfl) hk (Nat.le_of_ble_eq_true rfl) rfl rfl rfl dX11_init_12 ?_
  refine z_aload_n dX11_init_15 rfl ?_
  refine z_iconst (v := 4) dX11_init_16 (by decide) ?_
  refine z_anewa (t0 := 4) (N' := 4) (C := RX9) cl_X11_16 (by simp) rfl (by decide) (by decide) (by decide) (Nat.le_of_ble_eq_true rfl) (Nat.le_of_ble_eq_true rfl) dX11_init_17 (fun q1 => ?_)
  refine z_putF (fs' := [.ref q0, .ref q1, .null, .null, .null, .null, .null, .null, .null, .null, .null]) rfl fl_X11_18 (fun _ h => by cases h; rfl) hk (Nat.le_of_ble_eq_true rfl) rfl rfl rfl dX11_init_20 ?_
  refine z_iconst (v := 0) dX11_init_23 (by decide) ?_
  refine z_istore_n dX11_init_24 (Nat.le_of_ble_eq_true rfl) rfl ?_
  refine z_iload_n dX11_init_25 rfl ?_
  refine z_aload_n dX11_init_26 rfl ?_
  refine z_get fl_X11_18 hk rfl dX11_init_27 ?_
  refine z_alen (j := 2) (t0 := 4) (v := 4) rfl rfl (by first | rfl | decide) dX11_init_30 ?_
  refine z_icmp_ge 53 dX11_init_31 (by decide) (fun c => absurd c (by decide)) (fun _ => ?_)
  refine z_aload_n dX11_init_34 rfl ?_
  refine z_get fl_X11_18 hk rfl dX11_init_35 ?_
  refine z_iload_n dX11_init_38 rfl ?_
  refine z_new xn_X11_16 df_X9 (Nat.le_of_ble_eq_true rfl) (Nat.le_of_ble_eq_true rfl) dX11_init_39 (fun q2 => ?_)
  refine z_dup dX11_init_42 rfl ?_
  refine z_init (i_X9 (dep + 1)) ci_X11_22 rfl rfl (Nat.le_of_ble_eq_true rfl) (Nat.le_of_ble_eq_true rfl) (Nat.le_of_ble_eq_true rfl) dX11_init_43 (fun g1 => ?_)
  refine z_aastU [] (q0 := 2) (qk := 3) (t0 := 4) (ci := 9) (r := (RX9, TX9, 2)) rfl rfl rfl rfl (by unfold vp_in; decide) (by show _ = 0; decide) dX11_init_46 ?_
  refine z_N (N' := [(q0, eX3 g0)] ++ nX3 E g0 ++ [(q1, .inl (E.2.1 4, 4, .inr (.inr (.inr (.inr (fun i => [q2][i]?)))))), (q2, eX9 g1)] ++ nX9 E g1) rfl ?_
  refine z_iinc dX11_init_47 rfl rfl ?_
  refine z_goto 25 dX11_init_50 (by decide) ?_
  refine z_iload_n dX11_init_25 rfl ?_
  refine z_aload_n dX11_init_26 rfl ?_
  refine z_get fl_X11_18 hk rfl dX11_init_27 ?_
  refine z_alen (j := 2) (t0 := 4) (v := 4) rfl rfl (by first | rfl | decide) dX11_init_30 ?_
  refine z_icmp_ge 53 dX11_init_31 (by decide) (fun c => absurd c (by decide)) (fun _ => ?_)
  refine z_aload_n dX11_init_34 rfl ?_
  refine z_get fl_X11_18 hk rfl dX11_init_35 ?_
  refine z_iload_n dX11_init_38 rfl ?_
  refine z_new xn_X11_16 df_X9 (Nat.le_of_ble_eq_true rfl) (Nat.le_of_ble_eq_true rfl) dX11_init_39 (fun q3 => ?_)
  refine z_dup dX11_init_42 rfl ?_
  refine z_init (i_X9 (dep + 1)) ci_X11_22 rfl rfl (Nat.le_of_ble_eq_true rfl) (Nat.le_of_ble_eq_true rfl) (Nat.le_of_ble_eq_true rfl) dX11_init_43 (fun g2 => ?_)
  refine z_aastU [q2] (q0 := 2) (qk := 5) (t0 := 4) (ci := 9) (r := (RX9, TX9, 2)) rfl rfl rfl rfl (by unfold vp_in; decide) (by show _ = 1; decide) dX11_init_46 ?_
  refine z_N (N' := [(q0, eX3 g0)] ++ nX3 E g0 ++ [(q1, .inl (E.2.1 4, 4, .inr (.inr (.inr (.inr (fun i => [q2, q3][i]?)))))), (q2, eX9 g1)] ++ nX9 E g1 ++ [(q3, eX9 g2)] ++ nX9 E g2) rfl ?_
  refine z_iinc dX11_init_47 rfl rfl ?_
  refine z_goto 25 dX11_init_50 (by decide) ?_
  refine z_iload_n dX11_init_25 rfl ?_
  refine z_aload_n dX11_init_26 rfl ?_
  refine z_get fl_X11_18 hk rfl dX11_init_27 ?_
  refine z_alen (j := 2) (t0 := 4) (v := 4) rfl rfl (by first | rfl | decide) dX11_init_30 ?_
  refine z_icmp_ge 53 dX11_init_31 (by decide) (fun c => absurd c (by decide)) (fun _ => ?_)
  refine z_aload_n dX11_init_34 rfl ?_
  refine z_get fl_X11_18 hk rfl dX11_init_35 ?_
  refine z_iload_n dX11_init_38 rfl ?_
  refine z_new xn_X11_16 df_X9 (Nat.le_of_ble_eq_true rfl) (Nat.le_of_ble_eq_true rfl) dX11_init_39 (fun q4 => ?_)
  refine z_dup dX11_init_42 rfl ?_
  refine z_init (i_X9 (dep + 1)) ci_X11_22 rfl rfl (Nat.le_of_ble_eq_true rfl) (Nat.le_of_ble_eq_true rfl) (Nat.le_of_ble_eq_true rfl) dX11_init_43 (fun g3 => ?_)
  refine z_aastU [q2, q3] (q0 := 2) (qk := 7) (t0 := 4) (ci := 9) (r := (RX9, TX9, 2)) rfl rfl rfl rfl (by unfold vp_in; decide) (by show _ = 2; decide) dX11_init_46 ?_
  refine z_N (N' := [(q0, eX3 g0)] ++ nX3 E g0 ++ [(q1, .inl (E.2.1 4, 4, .inr (.inr (.inr (.inr (fun i => [q2, q3, q4][i]?)))))), (q2, eX9 g1)] ++ nX9 E g1 ++ [(q3, eX9 g2)] ++ nX9 E g2 ++ [(q4, eX9 g3)] ++ nX9 E g3) rfl ?_
  refine z_iinc dX11_init_47 rfl rfl ?_
  refine z_goto 25 dX11_init_50 (by decide) ?_
  refine z_iload_n dX11_init_25 rfl ?_
  refine z_aload_n dX11_init_26 rfl ?_
  refine z_get fl_X11_18 hk rfl dX11_init_27 ?_
  refine z_alen (j := 2) (t0 := 4) (v := 4) rfl rfl (by first | rfl | decide) dX11_init_30 ?_
  refine z_icmp_ge 53 dX11_init_31 (by decide) (fun c => absurd c (by decide)) (fun _ => ?_)
  refine z_aload_n dX11_init_34 rfl ?_
  refine z_get fl_X11_18 hk rfl dX11_init_35 ?_
  refine z_iload_n dX11_init_38 rfl ?_
  refine z_new xn_X11_16 df_X9 (Nat.le_of_ble_eq_true rfl) (Nat.le_of_ble_eq_true rfl) dX11_init_39 (fun q5 => ?_)
  refine z_dup dX11_init_42 rfl ?_
  refine z_init (i_X9 (dep + 1)) ci_X11_22 rfl rfl (Nat.le_of_ble_eq_true rfl) (Nat.le_of_ble_eq_true rfl) (Nat.le_of_ble_eq_true rfl) dX11_init_43 (fun g4 => ?_)
  refine z_aastU [q2, q3, q4] (q0 := 2) (qk := 9) (t0 := 4) (ci := 9) (r := (RX9, TX9, 2)) rfl rfl rfl rfl (by unfold vp_in; decide) (by show _ = 3; decide) dX11_init_46 ?_
  refine z_N (N' := [(q0, eX3 g0)] ++ nX3 E g0 ++ [(q1, .inl (E.2.1 4, 4, .inr (.inr (.inr (.inr (fun i => [q2, q3, q4, q5][i]?)))))), (q2, eX9 g1)] ++ nX9 E g1 ++ [(q3, eX9 g2)] ++ nX9 E g2 ++ [(q4, eX9 g3)] ++ nX9 E g3 ++ [(q5, eX9 g4)] ++ nX9 E g4) rfl ?_
  refine z_iinc dX11_init_47 rfl rfl ?_
  refine z_goto 25 dX11_init_50 (by decide) ?_
  refine z_iload_n dX11_init_25 rfl ?_
  refine z_aload_n dX11_init_26 rfl ?_
  refine z_get fl_X11_18 hk rfl dX11_init_27 ?_
  refine z_alen (j := 2) (t0 := 4) (v := 4) rfl rfl (by first | rfl | decide) dX11_init_30 ?_
  refine z_icmp_ge 53 dX11_init_31 (by decide) (fun _ => ?_) (fun c => absurd (by decide) c)
  refine z_aload_n dX11_init_53 rfl ?_
  refine z_new xn_X11_16 df_X9 (Nat.le_of_ble_eq_true rfl) (Nat.le_of_ble_eq_true rfl) dX11_init_54 (fun q6 => ?_)
  refine z_dup dX11_init_57 rfl ?_
  refine z_init (i_X9 (dep + 1)) ci_X11_22 rfl rfl (Nat.le_of_ble_eq_true rfl) (Nat.le_of_ble_eq_true rfl) (Nat.le_of_ble_eq_true rfl) dX11_init_58 (fun g5 => ?_)
  refine z_putF (fs' := [.ref q0, .ref q1, .ref q6, .null, .null, .null, .null, .null, .null, .null, .null]) rfl fl_X11_23 (fun _ h => by cases h; rfl) hk (Nat.le_of_ble_eq_true rfl) rfl rfl rfl dX11_init_61 ?_
  refine z_aload_n dX11_init_64 rfl ?_
  refine z_new xn_X11_27 df_X10 (Nat.le_of_ble_eq_true rfl) (Nat.le_of_ble_eq_true rfl) dX11_init_65 (fun q7 => ?_)
  refine z_dup dX11_init_68 rfl ?_
  refine z_init (i_X10 (dep + 1)) ci_X11_29 rfl rfl (Nat.le_of_ble_eq_true rfl) (Nat.le_of_ble_eq_true rfl) (Nat.le_of_ble_eq_true rfl) dX11_init_69 (fun g6 => ?_)
  refine z_putF (fs' := [.ref q0, .ref q1, .ref q6, .ref q7, .null, .null, .null, .null, .null, .null, .null]) rfl fl_X11_30 (fun _ h => by cases h; rfl) hk (Nat.le_of_ble_eq_true rfl) rfl rfl rfl dX11_init_72 ?_
  refine z_aload_n dX11_init_75 rfl ?_
  refine z_new xn_X11_34 df_X5 (Nat.le_of_ble_eq_true rfl) (Nat.le_of_ble_eq_true rfl) dX11_init_76 (fun q8 => ?_)
  refine z_dup dX11_init_79 rfl ?_
  refine z_aload_n dX11_init_80 rfl ?_
  refine z_get fl_X11_30 hk rfl dX11_init_81 ?_
  refine z_init (i_X5 dep q7) ci_X11_36 rfl rfl (Nat.le_of_ble_eq_true rfl) (Nat.le_of_ble_eq_true rfl) (Nat.le_of_ble_eq_true rfl) dX11_init_84 (fun g7 => ?_)
  refine z_putF (fs' := [.ref q0, .ref q1, .ref q6, .ref q7, .ref q8, .null, .null, .null, .null, .null, .null]) rfl fl_X11_39 (fun _ h => by cases h; rfl) hk (Nat.le_of_ble_eq_true rfl) rfl rfl rfl dX11_init_87 ?_
  refine z_aload_n dX11_init_90 rfl ?_
  refine z_new xn_X11_43 df_X2 (Nat.le_of_ble_eq_true rfl) (Nat.le_of_ble_eq_true rfl) dX11_init_91 (fun q9 => ?_)
  refine z_dup dX11_init_94 rfl ?_
  refine z_aload_n dX11_init_95 rfl ?_
  refine z_get fl_X11_12 hk rfl dX11_init_96 ?_
  refine z_init (i_X2 dep q0) ci_X11_45 rfl rfl (Nat.le_of_ble_eq_true rfl) (Nat.le_of_ble_eq_true rfl) (Nat.le_of_ble_eq_true rfl) dX11_init_99 (fun g8 => ?_)
  refine z_putF (fs' := [.ref q0, .ref q1, .ref q6, .ref q7, .ref q8, .ref q9, .null, .null, .null, .null, .null]) rfl fl_X11_48 (fun _ h => by cases h; rfl) hk (Nat.le_of_ble_eq_true rfl) rfl rfl rfl dX11_init_102 ?_
  refine z_aload_n dX11_init_105 rfl ?_
  refine z_new xn_X11_52 df_X7 (Nat.le_of_ble_eq_true rfl) (Nat.le_of_ble_eq_true rfl) dX11_init_106 (fun q10 => ?_)
  refine z_dup dX11_init_109 rfl ?_
  refine z_aload_n dX11_init_110 rfl ?_
  refine z_get fl_X11_48 hk rfl dX11_init_111 ?_
  refine z_init (i_X7 dep q9) ci_X11_54 rfl rfl (Nat.le_of_ble_eq_true rfl) (Nat.le_of_ble_eq_true rfl) (Nat.le_of_ble_eq_true rfl) dX11_init_114 (fun g9 => ?_)
  refine z_putF (fs' := [.ref q0, .ref q1, .ref q6, .ref q7, .ref q8, .ref q9, .ref q10, .null, .null, .null, .null]) rfl fl_X11_57 (fun _ h => by cases h; rfl) hk (Nat.le_of_ble_eq_true rfl) rfl rfl rfl dX11_init_117 ?_
  refine z_aload_n dX11_init_120 rfl ?_
  refine z_new xn_X11_61 df_X0 (Nat.le_of_ble_eq_true rfl) (Nat.le_of_ble_eq_true rfl) dX11_init_121 (fun q11 => ?_)
  refine z_dup dX11_init_124 rfl ?_
  refine z_aload_n dX11_init_125 rfl ?_
  refine z_get fl_X11_12 hk rfl dX11_init_126 ?_
  refine z_init (i_X0 (dep + 1) q0) ci_X11_63 rfl rfl (Nat.le_of_ble_eq_true rfl) (Nat.le_of_ble_eq_true rfl) (Nat.le_of_ble_eq_true rfl) dX11_init_129 (fun g10 => ?_)
  refine z_putF (fs' := [.ref q0, .ref q1, .ref q6, .ref q7, .ref q8, .ref q9, .ref q10, .ref q11, .null, .null, .null]) rfl fl_X11_64 (fun _ h => by cases h; rfl) hk (Nat.le_of_ble_eq_true rfl) rfl rfl rfl dX11_init_132 ?_
  refine z_aload_n dX11_init_135 rfl ?_
  refine z_new xn_X11_68 df_X1 (Nat.le_of_ble_eq_true rfl) (Nat.le_of_ble_eq_true rfl) dX11_init_136 (fun q12 => ?_)
  refine z_dup dX11_init_139 rfl ?_
  refine z_aload_n dX11_init_140 rfl ?_
  refine z_get fl_X11_12 hk rfl dX11_init_141 ?_
  refine z_aload_n dX11_init_144 rfl ?_
  refine z_get fl_X11_48 hk rfl dX11_init_145 ?_
  refine z_init (i_X1 dep q0 q9) ci_X11_70 rfl rfl (Nat.le_of_ble_eq_true rfl) (Nat.le_of_ble_eq_true rfl) (Nat.le_of_ble_eq_true rfl) dX11_init_148 (fun g11 => ?_)
  refine z_putF (fs' := [.ref q0, .ref q1, .ref q6, .ref q7, .ref q8, .ref q9, .ref q10, .ref q11, .ref q12, .null, .null]) rfl fl_X11_73 (fun _ h => by cases h; rfl) hk (Nat.le_of_ble_eq_true rfl) rfl rfl rfl dX11_init_151 ?_
  refine z_aload_n dX11_init_154 rfl ?_
  refine z_new xn_X11_77 df_X6 (Nat.le_of_ble_eq_true rfl) (Nat.le_of_ble_eq_true rfl) dX11_init_155 (fun q13 => ?_)
  refine z_dup dX11_init_158 rfl ?_
  refine z_aload_n dX11_init_159 rfl ?_
  refine z_get fl_X11_12 hk rfl dX11_init_160 ?_
  refine z_init (i_X6 (dep + 1) q0) ci_X11_79 rfl rfl (Nat.le_of_ble_eq_true rfl) (Nat.le_of_ble_eq_true rfl) (Nat.le_of_ble_eq_true rfl) dX11_init_163 (fun g12 => ?_)
  refine z_putF (fs' := [.ref q0, .ref q1, .ref q6, .ref q7, .ref q8, .ref q9, .ref q10, .ref q11, .ref q12, .ref q13, .null]) rfl fl_X11_80 (fun _ h => by cases h; rfl) hk (Nat.le_of_ble_eq_true rfl) rfl rfl rfl dX11_init_166 ?_
  refine z_aload_n dX11_init_169 rfl ?_
  refine z_new xn_X11_84 df_X8 (Nat.le_of_ble_eq_true rfl) (Nat.le_of_ble_eq_true rfl) dX11_init_170 (fun q14 => ?_)
  refine z_dup dX11_init_173 rfl ?_
  refine z_aload_n dX11_init_174 rfl ?_
  refine z_get fl_X11_12 hk rfl dX11_init_175 ?_
  refine z_aload_n dX11_init_178 rfl ?_
  refine z_get fl_X11_80 hk rfl dX11_init_179 ?_
  refine z_init (i_X8 (dep + 1) q0 q13) ci_X11_86 rfl rfl (Nat.le_of_ble_eq_true rfl) (Nat.le_of_ble_eq_true rfl) (Nat.le_of_ble_eq_true rfl) dX11_init_182 (fun g13 => ?_)
  refine z_putF (fs' := [.ref q0, .ref q1, .ref q6, .ref q7, .ref q8, .ref q9, .ref q10, .ref q11, .ref q12, .ref q13, .ref q14]) rfl fl_X11_89 (fun _ h => by cases h; rfl) hk (Nat.le_of_ble_eq_true rfl) rfl rfl rfl dX11_init_185 ?_
  exact z_vret (fun i => [q0, q1, q2, q3, q4, q5, q6, q7, q8, q9, q10, q11, q12, q13, q14].getD i 0, g0, g1, g2, g3, g4, g5, g6, g7, g8, g9, g10, g11, g12, g13) rfl (Nat.le_of_ble_eq_true rfl) (Nat.le_of_ble_eq_true rfl) rfl (ap_c (ap_c (ap_c (ap_c (ap_c (ap_c (ap_c (ap_c (ap_c rfl))))))))) dX11_init_188
