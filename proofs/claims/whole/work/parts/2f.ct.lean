section CT
variable {l : Launch} {D : va_G} {cI cZ : ClassId} {a : Nat → Nat} {t : Nat}
set_option maxHeartbeats 4000000 in
set_option maxRecDepth 100000 in
theorem c_Ex_leave (v1 : Int32) (σ : nS) (qv1_16 : vp_in v1 16) : CtV l D cI cZ (wC cI cZ a) (exC t) y_Ex_leave b_Ex_leave 2 { frames := 0, cells := 0, slots := 0, locals := 0 } [.ref (a 10), .int v1] σ (s_Ex_leave v1 σ) := by
  generalize hF : s_Ex_leave v1 σ = F
  refine metV (exC_ok t) (by decide) (Nat.le_of_ble_eq_true rfl) (fun p e s m args below meth c A Q ls X S hl ret => ?_)
  have hq := hF.symm
  obtain ⟨hx, hb, hml, hown, hts, hK, hA, hE, hlk, hEo⟩ := id X
  have hl : lv_has ls 2 [(0, .ref (a 10)), (1, .int v1)] := hl
  refine lv_aload_n hx hb d_Ex_leave_0 rfl (lv_at hl 0 rfl) ?_
  refine g_Ex_18 hx hb hts hown hK S.1 d_Ex_leave_1 ?_
  refine lv_iload_n hx hb d_Ex_leave_4 rfl (lv_at hl 1 rfl) ?_
  refine lv_iconst (v := 0) hx hb d_Ex_leave_5 (by decide) ?_
  refine st_C_13 (k := (v1).toNatClampNeg) (b := false) hx hb hK S qv1_16 rfl d_Ex_leave_6 (fun H locs S => ?_)
  refine lv_iload_n hx hb d_Ex_leave_7 rfl (lv_at hl 1 rfl) ?_
  refine lv_iconst (v := 2) hx hb d_Ex_leave_8 (by decide) ?_
  refine lv_icmp_eq (tgt := 17) hx hb d_Ex_leave_9 rfl (fun h9 => ?_) (fun h9 => ?_)
  · have hq := hq.trans (if_pos h9)
    exact ret _ _ _ _ _ S hq d_Ex_leave_17
  · have hq := hq.trans (if_neg h9)
    refine lv_aload_n hx hb d_Ex_leave_12 rfl (lv_at hl 0 rfl) ?_
    refine lv_iconst (v := 0) hx hb d_Ex_leave_13 (by decide) ?_
    refine p_Ex_46 (b := false) hx hb hts hown hK S d_Ex_leave_14 (fun H locs S => ?_)
    exact ret _ _ _ _ _ S hq d_Ex_leave_17
set_option maxHeartbeats 4000000 in
set_option maxRecDepth 100000 in
theorem c_Fl_unpack (v1 : Int32) (σ : nS) : CtV l D cI cZ (wC cI cZ a) (exC t) y_Fl_unpack b_Fl_unpack 2 { frames := 0, cells := 0, slots := 0, locals := 0 } [.ref (a 15), .int v1] σ (s_Fl_unpack v1 σ) := by
  generalize hF : s_Fl_unpack v1 σ = F
  refine metV (exC_ok t) (by decide) (Nat.le_of_ble_eq_true rfl) (fun p e s m args below meth c A Q ls X S hl ret => ?_)
  have hq := hF.symm
  obtain ⟨hx, hb, hml, hown, hts, hK, hA, hE, hlk, hEo⟩ := id X
  have hl : lv_has ls 2 [(0, .ref (a 15)), (1, .int v1)] := hl
  have B_Fl_unpack_58 : ∀ (k1 : Bool) (σ : nS) (H : Heap) (locs : List Loc) (ls : Array Slot), lv_has ls 2 [] → St D (wC cI cZ a) A s σ H locs → F = s_Fl_unpack_58 k1 σ → W p l e ({ frames := 0, cells := 0, slots := 0, locals := 0 } : Room) s m args below meth c H locs 0 0 Q (F0 m 58 ls [.int (bI k1), .ref (a 15)]) := by
    intro k1 σ H locs ls hl S hq
    refine p_Fl_21 (b := k1) hx hb hts hown hK S d_Fl_unpack_58 (fun H locs S => ?_)
    exact ret _ _ _ _ _ S hq d_Fl_unpack_61
  have B_Fl_unpack_43 : ∀ (v1 : Int32) (k1 : Bool) (σ : nS) (H : Heap) (locs : List Loc) (ls : Array Slot), lv_has ls 2 [(0, .ref (a 15)), (1, .int v1)] → St D (wC cI cZ a) A s σ H locs → F = s_Fl_unpack_43 v1 k1 σ → W p l e ({ frames := 0, cells := 0, slots := 0, locals := 0 } : Room) s m args below meth c H locs 0 0 Q (F0 m 43 ls [.int (bI k1), .ref (a 15)]) := by
    intro v1 k1 σ H locs ls hl S hq
    refine p_Fl_16 (b := k1) hx hb hts hown hK S d_Fl_unpack_43 (fun H locs S => ?_)
    refine lv_aload_n hx hb d_Fl_unpack_46 rfl (lv_at hl 0 rfl) ?_
    refine lv_iload_n hx hb d_Fl_unpack_47 rfl (lv_at hl 1 rfl) ?_
    refine lv_iconst (v := 1) hx hb d_Fl_unpack_48 (by decide) ?_
    refine lv_iand hx hb d_Fl_unpack_49 ?_
    refine lv_if_eq (tgt := 57) hx hb d_Fl_unpack_50 rfl (fun h50 => ?_) (fun h50 => ?_)
    · have hq := hq.trans (if_pos h50)
      refine lv_iconst (v := 0) hx hb d_Fl_unpack_57 (by decide) ?_
      exact B_Fl_unpack_58 false _ _ _ _ (lv_sub hl [] rfl) S hq
    · have hq := hq.trans (if_neg h50)
      refine lv_iconst (v := 1) hx hb d_Fl_unpack_53 (by decide) ?_
      refine lv_goto (tgt := 58) hx hb d_Fl_unpack_54 rfl ?_
      exact B_Fl_unpack_58 true _ _ _ _ (lv_sub hl [] rfl) S hq
  have B_Fl_unpack_28 : ∀ (v1 : Int32) (k1 : Bool) (σ : nS) (H : Heap) (locs : List Loc) (ls : Array Slot), lv_has ls 2 [(0, .ref (a 15)), (1, .int v1)] → St D (wC cI cZ a) A s σ H locs → F = s_Fl_unpack_28 v1 k1 σ → W p l e ({ frames := 0, cells := 0, slots := 0, locals := 0 } : Room) s m args below meth c H locs 0 0 Q (F0 m 28 ls [.int (bI k1), .ref (a 15)]) := by
    intro v1 k1 σ H locs ls hl S hq
    refine p_Fl_13 (b := k1) hx hb hts hown hK S d_Fl_unpack_28 (fun H locs S => ?_)
    refine lv_aload_n hx hb d_Fl_unpack_31 rfl (lv_at hl 0 rfl) ?_
    refine lv_iload_n hx hb d_Fl_unpack_32 rfl (lv_at hl 1 rfl) ?_
    refine lv_iconst (v := 2) hx hb d_Fl_unpack_33 (by decide) ?_
    refine lv_iand hx hb d_Fl_unpack_34 ?_
    refine lv_if_eq (tgt := 42) hx hb d_Fl_unpack_35 rfl (fun h35 => ?_) (fun h35 => ?_)
    · have hq := hq.trans (if_pos h35)
      refine lv_iconst (v := 0) hx hb d_Fl_unpack_42 (by decide) ?_
      exact B_Fl_unpack_43 _ false _ _ _ _ (lv_sub hl [0, 1] rfl) S hq
    · have hq := hq.trans (if_neg h35)
      refine lv_iconst (v := 1) hx hb d_Fl_unpack_38 (by decide) ?_
      refine lv_goto (tgt := 43) hx hb d_Fl_unpack_39 rfl ?_
      exact B_Fl_unpack_43 _ true _ _ _ _ (lv_sub hl [0, 1] rfl) S hq
  have B_Fl_unpack_13 : ∀ (v1 : Int32) (k1 : Bool) (σ : nS) (H : Heap) (locs : List Loc) (ls : Array Slot), lv_has ls 2 [(0, .ref (a 15)), (1, .int v1)] → St D (wC cI cZ a) A s σ H locs → F = s_Fl_unpack_13 v1 k1 σ → W p l e ({ frames := 0, cells := 0, slots := 0, locals := 0 } : Room) s m args below meth c H locs 0 0 Q (F0 m 13 ls [.int (bI k1), .ref (a 15)]) := by
    intro v1 k1 σ H locs ls hl S hq
    refine p_Fl_7 (b := k1) hx hb hts hown hK S d_Fl_unpack_13 (fun H locs S => ?_)
    refine lv_aload_n hx hb d_Fl_unpack_16 rfl (lv_at hl 0 rfl) ?_
    refine lv_iload_n hx hb d_Fl_unpack_17 rfl (lv_at hl 1 rfl) ?_
    refine lv_iconst (v := 4) hx hb d_Fl_unpack_18 (by decide) ?_
    refine lv_iand hx hb d_Fl_unpack_19 ?_
    refine lv_if_eq (tgt := 27) hx hb d_Fl_unpack_20 rfl (fun h20 => ?_) (fun h20 => ?_)
    · have hq := hq.trans (if_pos h20)
      refine lv_iconst (v := 0) hx hb d_Fl_unpack_27 (by decide) ?_
      exact B_Fl_unpack_28 _ false _ _ _ _ (lv_sub hl [0, 1] rfl) S hq
    · have hq := hq.trans (if_neg h20)
      refine lv_iconst (v := 1) hx hb d_Fl_unpack_23 (by decide) ?_
      refine lv_goto (tgt := 28) hx hb d_Fl_unpack_24 rfl ?_
      exact B_Fl_unpack_28 _ true _ _ _ _ (lv_sub hl [0, 1] rfl) S hq
  refine lv_aload_n hx hb d_Fl_unpack_0 rfl (lv_at hl 0 rfl) ?_
  refine lv_iload_n hx hb d_Fl_unpack_1 rfl (lv_at hl 1 rfl) ?_
  refine lv_bipush (v := 8) hx hb d_Fl_unpack_2 (by decide) ?_
  refine lv_iand hx hb d_Fl_unpack_4 ?_
  refine lv_if_eq (tgt := 12) hx hb d_Fl_unpack_5 rfl (fun h5 => ?_) (fun h5 => ?_)
  · have hq := hq.trans (if_pos h5)
    refine lv_iconst (v := 0) hx hb d_Fl_unpack_12 (by decide) ?_
    exact B_Fl_unpack_13 _ false _ _ _ _ (lv_sub hl [0, 1] rfl) S hq
  · have hq := hq.trans (if_neg h5)
    refine lv_iconst (v := 1) hx hb d_Fl_unpack_8 (by decide) ?_
    refine lv_goto (tgt := 13) hx hb d_Fl_unpack_9 rfl ?_
    exact B_Fl_unpack_13 _ true _ _ _ _ (lv_sub hl [0, 1] rfl) S hq
set_option maxHeartbeats 4000000 in
set_option maxRecDepth 100000 in
theorem c_N_unstack (v1 : Int32) (v2 : Int32) (σ : nS) : CtV l D cI cZ (wC cI cZ a) (exC t) y_N_unstack b_N_unstack 4 { frames := 1, cells := 0, slots := 0, locals := 21 } [.ref (a 0), .int v1, .int v2] σ (s_N_unstack v1 v2 σ) := by
  generalize hF : s_N_unstack v1 v2 σ = F
  refine metV (exC_ok t) (by decide) (Nat.le_of_ble_eq_true rfl) (fun p e s m args below meth c A Q ls X S hl ret => ?_)
  have hq := hF.symm
  obtain ⟨hx, hb, hml, hown, hts, hK, hA, hE, hlk, hEo⟩ := id X
  have hl : lv_has ls 4 [(0, .ref (a 0)), (1, .int v1), (2, .int v2)] := hl
  have B_N_unstack_78 : ∀ (v2 : Int32) (k2 : Int32) (k3 : Int32) (σ : nS) (H : Heap) (locs : List Loc) (ls : Array Slot), lv_has ls 4 [(0, .ref (a 0)), (2, .int v2)] → St D (wC cI cZ a) A s σ H locs → F = s_N_unstack_78 v2 k2 k3 σ → W p l e ({ frames := 1, cells := 0, slots := 0, locals := 21 } : Room) s m args below meth c H locs 0 0 Q (F0 m 78 ls [.int k3, .int k2, .int (13 : Int32), .ref (a 1)]) := by
    intro v2 k2 k3 σ H locs ls hl S hq
    refine lv_iadd hx hb d_N_unstack_78 ?_
    refine st_C_1 (k := 13) hx hb hK S (vin_dec (by decide)) (by decide) d_N_unstack_79 (fun H locs S => ?_)
    refine lv_aload_n hx hb d_N_unstack_80 rfl (lv_at hl 0 rfl) ?_
    refine g_N_40 hx hb hts hown hK S.1 d_N_unstack_81 ?_
    refine lv_iload_n hx hb d_N_unstack_84 rfl (lv_at hl 1 rfl) ?_
    refine lv_bipush (v := 28) hx hb d_N_unstack_85 (by decide) ?_
    refine r_iushr hx hb d_N_unstack_87 ?_
    refine callVV X S hl (c_Fl_unpack (ush v2 (28 : Int32)) _) v_N_208 15 4 ⟨rfl, rfl⟩ (rk_dec (by decide)) rfl rfl (Nat.le_of_ble_eq_true rfl) d_N_unstack_88 (fun σ1 H locs e1 S => ?_)
    have hq := hq.trans (ap1_eq e1)
    refine lv_aload_n hx hb d_N_unstack_91 rfl (lv_at hl 0 rfl) ?_
    refine lv_iload_n hx hb d_N_unstack_92 rfl (lv_at hl 1 rfl) ?_
    refine lv_bipush (v := 15) hx hb d_N_unstack_93 (by decide) ?_
    refine lv_iand hx hb d_N_unstack_95 ?_
    refine p_N_128 hx hb hts hown hK S d_N_unstack_96 (fun H locs S => ?_)
    exact ret _ _ _ _ _ S hq d_N_unstack_99
  have B_N_unstack_2_7 : ∀ (v1 : Int32) (v2 : Int32) (σ : nS) (H : Heap) (locs : List Loc) (ls : Array Slot), lv_has ls 4 [(0, .ref (a 0)), (1, .int v1), (2, .int v2), (3, .int (7 : Int32))] → St D (wC cI cZ a) A s σ H locs → F = s_N_unstack_2_7 v1 v2 σ → W p l e ({ frames := 1, cells := 0, slots := 0, locals := 21 } : Room) s m args below meth c H locs 0 0 Q (F0 m 2 ls []) := by
    intro v1 v2 σ H locs ls hl S hq
    refine lv_iload_n hx hb d_N_unstack_2 rfl (lv_at hl 3 rfl) ?_
    refine va_gets hx hb hE.1 S.2.2 hown (hts _ k_4) (fun _ h9 => h9) d_N_unstack_3 ?_
    refine va_tlen hx hb hE.2 S.2.2 (v := 7) rfl d_N_unstack_6 ?_
    refine lv_icmp_ge (tgt := 38) hx hb d_N_unstack_7 rfl (fun _ => ?_) (fun h9 => absurd (by decide) h9)
    refine lv_aload_n hx hb d_N_unstack_38 rfl (lv_at hl 0 rfl) ?_
    refine g_N_9 hx hb hts hown hK S.1 d_N_unstack_39 ?_
    refine lv_bipush (v := 15) hx hb d_N_unstack_42 (by decide) ?_
    refine lv_aload_n hx hb d_N_unstack_44 rfl (lv_at hl 0 rfl) ?_
    refine g_N_9 hx hb hts hown hK S.1 d_N_unstack_45 ?_
    refine lv_bipush (v := 15) hx hb d_N_unstack_48 (by decide) ?_
    refine ld_C_1 (k := 15) hx hb hK S.1 (vin_dec (by decide)) (by decide) d_N_unstack_50 ?_
    refine callSIp X S hl (c_N_even (σ 0 15) _) v_N_72 (rk_dec (by decide)) rfl rfl (Nat.le_of_ble_eq_true rfl) d_N_unstack_51 (fun H locs S => ?_)
    refine st_C_1 (k := 15) hx hb hK S (vin_dec (by decide)) (by decide) d_N_unstack_54 (fun H locs S => ?_)
    refine lv_aload_n hx hb d_N_unstack_55 rfl (lv_at hl 0 rfl) ?_
    refine g_N_9 hx hb hts hown hK S.1 d_N_unstack_56 ?_
    refine lv_bipush (v := 13) hx hb d_N_unstack_59 (by decide) ?_
    refine lv_iload_n hx hb d_N_unstack_61 rfl (lv_at hl 1 rfl) ?_
    refine lv_bipush (v := 32) hx hb d_N_unstack_62 (by decide) ?_
    refine lv_iadd hx hb d_N_unstack_64 ?_
    refine lv_iload_n hx hb d_N_unstack_65 rfl (lv_at hl 2 rfl) ?_
    refine lv_sipush (v := 512) hx hb d_N_unstack_66 (by decide) ?_
    refine lv_iand hx hb d_N_unstack_69 ?_
    refine lv_if_eq (tgt := 77) hx hb d_N_unstack_70 rfl (fun h70 => ?_) (fun h70 => ?_)
    · have hq := hq.trans (if_pos h70)
      refine lv_iconst (v := 0) hx hb d_N_unstack_77 (by decide) ?_
      exact B_N_unstack_78 _ _ _ _ _ _ _ (lv_sub hl [0, 2] rfl) S hq
    · have hq := hq.trans (if_neg h70)
      refine lv_iconst (v := 4) hx hb d_N_unstack_73 (by decide) ?_
      refine lv_goto (tgt := 78) hx hb d_N_unstack_74 rfl ?_
      exact B_N_unstack_78 _ _ _ _ _ _ _ (lv_sub hl [0, 2] rfl) S hq
  have B_N_unstack_2_6 : ∀ (v1 : Int32) (v2 : Int32) (σ : nS) (H : Heap) (locs : List Loc) (ls : Array Slot), lv_has ls 4 [(0, .ref (a 0)), (1, .int v1), (2, .int v2), (3, .int (6 : Int32))] → St D (wC cI cZ a) A s σ H locs → F = s_N_unstack_2_6 v1 v2 σ → W p l e ({ frames := 1, cells := 0, slots := 0, locals := 21 } : Room) s m args below meth c H locs 0 0 Q (F0 m 2 ls []) := by
    intro v1 v2 σ H locs ls hl S hq
    refine lv_iload_n hx hb d_N_unstack_2 rfl (lv_at hl 3 rfl) ?_
    refine va_gets hx hb hE.1 S.2.2 hown (hts _ k_4) (fun _ h9 => h9) d_N_unstack_3 ?_
    refine va_tlen hx hb hE.2 S.2.2 (v := 7) rfl d_N_unstack_6 ?_
    refine lv_icmp_ge (tgt := 38) hx hb d_N_unstack_7 rfl (fun h9 => absurd h9 (by decide)) (fun _ => ?_)
    refine lv_aload_n hx hb d_N_unstack_10 rfl (lv_at hl 0 rfl) ?_
    refine g_N_9 hx hb hts hown hK S.1 d_N_unstack_11 ?_
    refine va_gets hx hb hE.1 S.2.2 hown (hts _ k_4) (fun _ h9 => h9) d_N_unstack_14 ?_
    refine lv_iload_n hx hb d_N_unstack_17 rfl (lv_at hl 3 rfl) ?_
    refine va_ti hx hb hE.2 S.2.2 (v := .int 15) (vin_dec (by decide)) rfl d_N_unstack_18 ?_
    refine lv_aload_n hx hb d_N_unstack_19 rfl (lv_at hl 0 rfl) ?_
    refine g_N_19 hx hb hts hown hK S.1 d_N_unstack_20 ?_
    refine lv_iload_n hx hb d_N_unstack_23 rfl (lv_at hl 1 rfl) ?_
    refine lv_iconst (v := 4) hx hb d_N_unstack_24 (by decide) ?_
    refine lv_iload_n hx hb d_N_unstack_25 rfl (lv_at hl 3 rfl) ?_
    refine lv_imul hx hb d_N_unstack_26 ?_
    refine r_ci (v := 24) (by decide) ?_
    refine lv_iadd hx hb d_N_unstack_27 ?_
    refine callVIp X S hl (c_Me_load (v1 + (24 : Int32)) _) v_N_66 3 1 ⟨rfl, rfl⟩ (rk_dec (by decide)) rfl rfl (Nat.le_of_ble_eq_true rfl) d_N_unstack_28 (fun H locs S => ?_)
    refine st_C_1 (k := 15) hx hb hK S (vin_dec (by decide)) (by decide) d_N_unstack_31 (fun H locs S => ?_)
    refine lv_iinc (k := 3) (v := (7 : Int32)) hx hb d_N_unstack_32 hl rfl (by first | rfl | decide) (by decide) rfl (fun ls hl => ?_)
    refine lv_goto (tgt := 2) hx hb d_N_unstack_35 rfl ?_
    exact B_N_unstack_2_7 _ _ _ _ _ _ (lv_sub hl [1, 2, 3, 0] rfl) S hq
  have B_N_unstack_2_5 : ∀ (v1 : Int32) (v2 : Int32) (σ : nS) (H : Heap) (locs : List Loc) (ls : Array Slot), lv_has ls 4 [(0, .ref (a 0)), (1, .int v1), (2, .int v2), (3, .int (5 : Int32))] → St D (wC cI cZ a) A s σ H locs → F = s_N_unstack_2_5 v1 v2 σ → W p l e ({ frames := 1, cells := 0, slots := 0, locals := 21 } : Room) s m args below meth c H locs 0 0 Q (F0 m 2 ls []) := by
    intro v1 v2 σ H locs ls hl S hq
    refine lv_iload_n hx hb d_N_unstack_2 rfl (lv_at hl 3 rfl) ?_
    refine va_gets hx hb hE.1 S.2.2 hown (hts _ k_4) (fun _ h9 => h9) d_N_unstack_3 ?_
    refine va_tlen hx hb hE.2 S.2.2 (v := 7) rfl d_N_unstack_6 ?_
    refine lv_icmp_ge (tgt := 38) hx hb d_N_unstack_7 rfl (fun h9 => absurd h9 (by decide)) (fun _ => ?_)
    refine lv_aload_n hx hb d_N_unstack_10 rfl (lv_at hl 0 rfl) ?_
    refine g_N_9 hx hb hts hown hK S.1 d_N_unstack_11 ?_
    refine va_gets hx hb hE.1 S.2.2 hown (hts _ k_4) (fun _ h9 => h9) d_N_unstack_14 ?_
    refine lv_iload_n hx hb d_N_unstack_17 rfl (lv_at hl 3 rfl) ?_
    refine va_ti hx hb hE.2 S.2.2 (v := .int 14) (vin_dec (by decide)) rfl d_N_unstack_18 ?_
    refine lv_aload_n hx hb d_N_unstack_19 rfl (lv_at hl 0 rfl) ?_
    refine g_N_19 hx hb hts hown hK S.1 d_N_unstack_20 ?_
    refine lv_iload_n hx hb d_N_unstack_23 rfl (lv_at hl 1 rfl) ?_
    refine lv_iconst (v := 4) hx hb d_N_unstack_24 (by decide) ?_
    refine lv_iload_n hx hb d_N_unstack_25 rfl (lv_at hl 3 rfl) ?_
    refine lv_imul hx hb d_N_unstack_26 ?_
    refine r_ci (v := 20) (by decide) ?_
    refine lv_iadd hx hb d_N_unstack_27 ?_
    refine callVIp X S hl (c_Me_load (v1 + (20 : Int32)) _) v_N_66 3 1 ⟨rfl, rfl⟩ (rk_dec (by decide)) rfl rfl (Nat.le_of_ble_eq_true rfl) d_N_unstack_28 (fun H locs S => ?_)
    refine st_C_1 (k := 14) hx hb hK S (vin_dec (by decide)) (by decide) d_N_unstack_31 (fun H locs S => ?_)
    refine lv_iinc (k := 3) (v := (6 : Int32)) hx hb d_N_unstack_32 hl rfl (by first | rfl | decide) (by decide) rfl (fun ls hl => ?_)
    refine lv_goto (tgt := 2) hx hb d_N_unstack_35 rfl ?_
    exact B_N_unstack_2_6 _ _ _ _ _ _ (lv_sub hl [1, 2, 3, 0] rfl) S hq
  have B_N_unstack_2_4 : ∀ (v1 : Int32) (v2 : Int32) (σ : nS) (H : Heap) (locs : List Loc) (ls : Array Slot), lv_has ls 4 [(0, .ref (a 0)), (1, .int v1), (2, .int v2), (3, .int (4 : Int32))] → St D (wC cI cZ a) A s σ H locs → F = s_N_unstack_2_4 v1 v2 σ → W p l e ({ frames := 1, cells := 0, slots := 0, locals := 21 } : Room) s m args below meth c H locs 0 0 Q (F0 m 2 ls []) := by
    intro v1 v2 σ H locs ls hl S hq
    refine lv_iload_n hx hb d_N_unstack_2 rfl (lv_at hl 3 rfl) ?_
    refine va_gets hx hb hE.1 S.2.2 hown (hts _ k_4) (fun _ h9 => h9) d_N_unstack_3 ?_
    refine va_tlen hx hb hE.2 S.2.2 (v := 7) rfl d_N_unstack_6 ?_
    refine lv_icmp_ge (tgt := 38) hx hb d_N_unstack_7 rfl (fun h9 => absurd h9 (by decide)) (fun _ => ?_)
    refine lv_aload_n hx hb d_N_unstack_10 rfl (lv_at hl 0 rfl) ?_
    refine g_N_9 hx hb hts hown hK S.1 d_N_unstack_11 ?_
    refine va_gets hx hb hE.1 S.2.2 hown (hts _ k_4) (fun _ h9 => h9) d_N_unstack_14 ?_
    refine lv_iload_n hx hb d_N_unstack_17 rfl (lv_at hl 3 rfl) ?_
    refine va_ti hx hb hE.2 S.2.2 (v := .int 12) (vin_dec (by decide)) rfl d_N_unstack_18 ?_
    refine lv_aload_n hx hb d_N_unstack_19 rfl (lv_at hl 0 rfl) ?_
    refine g_N_19 hx hb hts hown hK S.1 d_N_unstack_20 ?_
    refine lv_iload_n hx hb d_N_unstack_23 rfl (lv_at hl 1 rfl) ?_
    refine lv_iconst (v := 4) hx hb d_N_unstack_24 (by decide) ?_
    refine lv_iload_n hx hb d_N_unstack_25 rfl (lv_at hl 3 rfl) ?_
    refine lv_imul hx hb d_N_unstack_26 ?_
    refine r_ci (v := 16) (by decide) ?_
    refine lv_iadd hx hb d_N_unstack_27 ?_
    refine callVIp X S hl (c_Me_load (v1 + (16 : Int32)) _) v_N_66 3 1 ⟨rfl, rfl⟩ (rk_dec (by decide)) rfl rfl (Nat.le_of_ble_eq_true rfl) d_N_unstack_28 (fun H locs S => ?_)
    refine st_C_1 (k := 12) hx hb hK S (vin_dec (by decide)) (by decide) d_N_unstack_31 (fun H locs S => ?_)
    refine lv_iinc (k := 3) (v := (5 : Int32)) hx hb d_N_unstack_32 hl rfl (by first | rfl | decide) (by decide) rfl (fun ls hl => ?_)
    refine lv_goto (tgt := 2) hx hb d_N_unstack_35 rfl ?_
    exact B_N_unstack_2_5 _ _ _ _ _ _ (lv_sub hl [1, 2, 3, 0] rfl) S hq
  have B_N_unstack_2_3 : ∀ (v1 : Int32) (v2 : Int32) (σ : nS) (H : Heap) (locs : List Loc) (ls : Array Slot), lv_has ls 4 [(0, .ref (a 0)), (1, .int v1), (2, .int v2), (3, .int (3 : Int32))] → St D (wC cI cZ a) A s σ H locs → F = s_N_unstack_2_3 v1 v2 σ → W p l e ({ frames := 1, cells := 0, slots := 0, locals := 21 } : Room) s m args below meth c H locs 0 0 Q (F0 m 2 ls []) := by
    intro v1 v2 σ H locs ls hl S hq
    refine lv_iload_n hx hb d_N_unstack_2 rfl (lv_at hl 3 rfl) ?_
    refine va_gets hx hb hE.1 S.2.2 hown (hts _ k_4) (fun _ h9 => h9) d_N_unstack_3 ?_
    refine va_tlen hx hb hE.2 S.2.2 (v := 7) rfl d_N_unstack_6 ?_
    refine lv_icmp_ge (tgt := 38) hx hb d_N_unstack_7 rfl (fun h9 => absurd h9 (by decide)) (fun _ => ?_)
    refine lv_aload_n hx hb d_N_unstack_10 rfl (lv_at hl 0 rfl) ?_
    refine g_N_9 hx hb hts hown hK S.1 d_N_unstack_11 ?_
    refine va_gets hx hb hE.1 S.2.2 hown (hts _ k_4) (fun _ h9 => h9) d_N_unstack_14 ?_
    refine lv_iload_n hx hb d_N_unstack_17 rfl (lv_at hl 3 rfl) ?_
    refine va_ti hx hb hE.2 S.2.2 (v := .int 3) (vin_dec (by decide)) rfl d_N_unstack_18 ?_
    refine lv_aload_n hx hb d_N_unstack_19 rfl (lv_at hl 0 rfl) ?_
    refine g_N_19 hx hb hts hown hK S.1 d_N_unstack_20 ?_
    refine lv_iload_n hx hb d_N_unstack_23 rfl (lv_at hl 1 rfl) ?_
    refine lv_iconst (v := 4) hx hb d_N_unstack_24 (by decide) ?_
    refine lv_iload_n hx hb d_N_unstack_25 rfl (lv_at hl 3 rfl) ?_
    refine lv_imul hx hb d_N_unstack_26 ?_
    refine r_ci (v := 12) (by decide) ?_
    refine lv_iadd hx hb d_N_unstack_27 ?_
    refine callVIp X S hl (c_Me_load (v1 + (12 : Int32)) _) v_N_66 3 1 ⟨rfl, rfl⟩ (rk_dec (by decide)) rfl rfl (Nat.le_of_ble_eq_true rfl) d_N_unstack_28 (fun H locs S => ?_)
    refine st_C_1 (k := 3) hx hb hK S (vin_dec (by decide)) (by decide) d_N_unstack_31 (fun H locs S => ?_)
    refine lv_iinc (k := 3) (v := (4 : Int32)) hx hb d_N_unstack_32 hl rfl (by first | rfl | decide) (by decide) rfl (fun ls hl => ?_)
    refine lv_goto (tgt := 2) hx hb d_N_unstack_35 rfl ?_
    exact B_N_unstack_2_4 _ _ _ _ _ _ (lv_sub hl [1, 2, 3, 0] rfl) S hq
  have B_N_unstack_2_2 : ∀ (v1 : Int32) (v2 : Int32) (σ : nS) (H : Heap) (locs : List Loc) (ls : Array Slot), lv_has ls 4 [(0, .ref (a 0)), (1, .int v1), (2, .int v2), (3, .int (2 : Int32))] → St D (wC cI cZ a) A s σ H locs → F = s_N_unstack_2_2 v1 v2 σ → W p l e ({ frames := 1, cells := 0, slots := 0, locals := 21 } : Room) s m args below meth c H locs 0 0 Q (F0 m 2 ls []) := by
    intro v1 v2 σ H locs ls hl S hq
    refine lv_iload_n hx hb d_N_unstack_2 rfl (lv_at hl 3 rfl) ?_
    refine va_gets hx hb hE.1 S.2.2 hown (hts _ k_4) (fun _ h9 => h9) d_N_unstack_3 ?_
    refine va_tlen hx hb hE.2 S.2.2 (v := 7) rfl d_N_unstack_6 ?_
    refine lv_icmp_ge (tgt := 38) hx hb d_N_unstack_7 rfl (fun h9 => absurd h9 (by decide)) (fun _ => ?_)
    refine lv_aload_n hx hb d_N_unstack_10 rfl (lv_at hl 0 rfl) ?_
    refine g_N_9 hx hb hts hown hK S.1 d_N_unstack_11 ?_
    refine va_gets hx hb hE.1 S.2.2 hown (hts _ k_4) (fun _ h9 => h9) d_N_unstack_14 ?_
    refine lv_iload_n hx hb d_N_unstack_17 rfl (lv_at hl 3 rfl) ?_
    refine va_ti hx hb hE.2 S.2.2 (v := .int 2) (vin_dec (by decide)) rfl d_N_unstack_18 ?_
    refine lv_aload_n hx hb d_N_unstack_19 rfl (lv_at hl 0 rfl) ?_
    refine g_N_19 hx hb hts hown hK S.1 d_N_unstack_20 ?_
    refine lv_iload_n hx hb d_N_unstack_23 rfl (lv_at hl 1 rfl) ?_
    refine lv_iconst (v := 4) hx hb d_N_unstack_24 (by decide) ?_
    refine lv_iload_n hx hb d_N_unstack_25 rfl (lv_at hl 3 rfl) ?_
    refine lv_imul hx hb d_N_unstack_26 ?_
    refine r_ci (v := 8) (by decide) ?_
    refine lv_iadd hx hb d_N_unstack_27 ?_
    refine callVIp X S hl (c_Me_load (v1 + (8 : Int32)) _) v_N_66 3 1 ⟨rfl, rfl⟩ (rk_dec (by decide)) rfl rfl (Nat.le_of_ble_eq_true rfl) d_N_unstack_28 (fun H locs S => ?_)
    refine st_C_1 (k := 2) hx hb hK S (vin_dec (by decide)) (by decide) d_N_unstack_31 (fun H locs S => ?_)
    refine lv_iinc (k := 3) (v := (3 : Int32)) hx hb d_N_unstack_32 hl rfl (by first | rfl | decide) (by decide) rfl (fun ls hl => ?_)
    refine lv_goto (tgt := 2) hx hb d_N_unstack_35 rfl ?_
    exact B_N_unstack_2_3 _ _ _ _ _ _ (lv_sub hl [1, 2, 3, 0] rfl) S hq
  have B_N_unstack_2_1 : ∀ (v1 : Int32) (v2 : Int32) (σ : nS) (H : Heap) (locs : List Loc) (ls : Array Slot), lv_has ls 4 [(0, .ref (a 0)), (1, .int v1), (2, .int v2), (3, .int (1 : Int32))] → St D (wC cI cZ a) A s σ H locs → F = s_N_unstack_2_1 v1 v2 σ → W p l e ({ frames := 1, cells := 0, slots := 0, locals := 21 } : Room) s m args below meth c H locs 0 0 Q (F0 m 2 ls []) := by
    intro v1 v2 σ H locs ls hl S hq
    refine lv_iload_n hx hb d_N_unstack_2 rfl (lv_at hl 3 rfl) ?_
    refine va_gets hx hb hE.1 S.2.2 hown (hts _ k_4) (fun _ h9 => h9) d_N_unstack_3 ?_
    refine va_tlen hx hb hE.2 S.2.2 (v := 7) rfl d_N_unstack_6 ?_
    refine lv_icmp_ge (tgt := 38) hx hb d_N_unstack_7 rfl (fun h9 => absurd h9 (by decide)) (fun _ => ?_)
    refine lv_aload_n hx hb d_N_unstack_10 rfl (lv_at hl 0 rfl) ?_
    refine g_N_9 hx hb hts hown hK S.1 d_N_unstack_11 ?_
    refine va_gets hx hb hE.1 S.2.2 hown (hts _ k_4) (fun _ h9 => h9) d_N_unstack_14 ?_
    refine lv_iload_n hx hb d_N_unstack_17 rfl (lv_at hl 3 rfl) ?_
    refine va_ti hx hb hE.2 S.2.2 (v := .int 1) (vin_dec (by decide)) rfl d_N_unstack_18 ?_
    refine lv_aload_n hx hb d_N_unstack_19 rfl (lv_at hl 0 rfl) ?_
    refine g_N_19 hx hb hts hown hK S.1 d_N_unstack_20 ?_
    refine lv_iload_n hx hb d_N_unstack_23 rfl (lv_at hl 1 rfl) ?_
    refine lv_iconst (v := 4) hx hb d_N_unstack_24 (by decide) ?_
    refine lv_iload_n hx hb d_N_unstack_25 rfl (lv_at hl 3 rfl) ?_
    refine lv_imul hx hb d_N_unstack_26 ?_
    refine r_ci (v := 4) (by decide) ?_
    refine lv_iadd hx hb d_N_unstack_27 ?_
    refine callVIp X S hl (c_Me_load (v1 + (4 : Int32)) _) v_N_66 3 1 ⟨rfl, rfl⟩ (rk_dec (by decide)) rfl rfl (Nat.le_of_ble_eq_true rfl) d_N_unstack_28 (fun H locs S => ?_)
    refine st_C_1 (k := 1) hx hb hK S (vin_dec (by decide)) (by decide) d_N_unstack_31 (fun H locs S => ?_)
    refine lv_iinc (k := 3) (v := (2 : Int32)) hx hb d_N_unstack_32 hl rfl (by first | rfl | decide) (by decide) rfl (fun ls hl => ?_)
    refine lv_goto (tgt := 2) hx hb d_N_unstack_35 rfl ?_
    exact B_N_unstack_2_2 _ _ _ _ _ _ (lv_sub hl [1, 2, 3, 0] rfl) S hq
  have B_N_unstack_2_0 : ∀ (v1 : Int32) (v2 : Int32) (σ : nS) (H : Heap) (locs : List Loc) (ls : Array Slot), lv_has ls 4 [(0, .ref (a 0)), (1, .int v1), (2, .int v2), (3, .int (0 : Int32))] → St D (wC cI cZ a) A s σ H locs → F = s_N_unstack_2_0 v1 v2 σ → W p l e ({ frames := 1, cells := 0, slots := 0, locals := 21 } : Room) s m args below meth c H locs 0 0 Q (F0 m 2 ls []) := by
    intro v1 v2 σ H locs ls hl S hq
    refine lv_iload_n hx hb d_N_unstack_2 rfl (lv_at hl 3 rfl) ?_
    refine va_gets hx hb hE.1 S.2.2 hown (hts _ k_4) (fun _ h9 => h9) d_N_unstack_3 ?_
    refine va_tlen hx hb hE.2 S.2.2 (v := 7) rfl d_N_unstack_6 ?_
    refine lv_icmp_ge (tgt := 38) hx hb d_N_unstack_7 rfl (fun h9 => absurd h9 (by decide)) (fun _ => ?_)
    refine lv_aload_n hx hb d_N_unstack_10 rfl (lv_at hl 0 rfl) ?_
    refine g_N_9 hx hb hts hown hK S.1 d_N_unstack_11 ?_
    refine va_gets hx hb hE.1 S.2.2 hown (hts _ k_4) (fun _ h9 => h9) d_N_unstack_14 ?_
    refine lv_iload_n hx hb d_N_unstack_17 rfl (lv_at hl 3 rfl) ?_
    refine va_ti hx hb hE.2 S.2.2 (v := .int 0) (vin_dec (by decide)) rfl d_N_unstack_18 ?_
    refine lv_aload_n hx hb d_N_unstack_19 rfl (lv_at hl 0 rfl) ?_
    refine g_N_19 hx hb hts hown hK S.1 d_N_unstack_20 ?_
    refine lv_iload_n hx hb d_N_unstack_23 rfl (lv_at hl 1 rfl) ?_
    refine lv_iconst (v := 4) hx hb d_N_unstack_24 (by decide) ?_
    refine lv_iload_n hx hb d_N_unstack_25 rfl (lv_at hl 3 rfl) ?_
    refine lv_imul hx hb d_N_unstack_26 ?_
    refine r_ci (v := 0) (by decide) ?_
    refine lv_iadd hx hb d_N_unstack_27 ?_
    refine callVIp X S hl (c_Me_load (v1 + (0 : Int32)) _) v_N_66 3 1 ⟨rfl, rfl⟩ (rk_dec (by decide)) rfl rfl (Nat.le_of_ble_eq_true rfl) d_N_unstack_28 (fun H locs S => ?_)
    refine st_C_1 (k := 0) hx hb hK S (vin_dec (by decide)) (by decide) d_N_unstack_31 (fun H locs S => ?_)
    refine lv_iinc (k := 3) (v := (1 : Int32)) hx hb d_N_unstack_32 hl rfl (by first | rfl | decide) (by decide) rfl (fun ls hl => ?_)
    refine lv_goto (tgt := 2) hx hb d_N_unstack_35 rfl ?_
    exact B_N_unstack_2_1 _ _ _ _ _ _ (lv_sub hl [1, 2, 3, 0] rfl) S hq
  refine lv_iconst (v := 0) hx hb d_N_unstack_0 (by decide) ?_
  refine lv_istore_n hx hb d_N_unstack_1 rfl hl (by decide) rfl (fun ls hl => ?_)
  exact B_N_unstack_2_0 _ _ _ _ _ _ (lv_sub hl [1, 2, 3, 0] rfl) S hq
set_option maxHeartbeats 4000000 in
set_option maxRecDepth 100000 in
theorem c_N_comeBack (v1 : Int32) (σ : nS) (hok : o_N_comeBack v1 σ) : CtI l D cI cZ (wC cI cZ a) (exC t) y_N_comeBack b_N_comeBack 6 { frames := 3, cells := 0, slots := 0, locals := 108 } [.ref (a 0), .int v1] σ (s_N_comeBack v1 σ) := by
  generalize hF : s_N_comeBack v1 σ = F
  refine metI (exC_ok t) (by decide) (Nat.le_of_ble_eq_true rfl) (fun p e s m args below meth c A Q ls X S hl ret => ?_)
  have hq := hF.symm
  obtain ⟨hx, hb, hml, hown, hts, hK, hA, hE, hlk, hEo⟩ := id X
  have hl : lv_has ls 6 [(0, .ref (a 0)), (1, .int v1)] := hl
  have B_N_comeBack_120 : ∀ (σ : nS) (H : Heap) (locs : List Loc) (ls : Array Slot), (o_N_comeBack_120 σ) → lv_has ls 6 [] → St D (wC cI cZ a) A s σ H locs → F = s_N_comeBack_120 σ → W p l e ({ frames := 3, cells := 0, slots := 0, locals := 108 } : Room) s m args below meth c H locs 0 0 Q (F0 m 120 ls []) := by
    intro σ H locs ls hok hl S hq
    refine lv_bipush (v := 6) hx hb d_N_comeBack_120 (by decide) ?_
    exact ret _ _ _ _ _ _ S hq d_N_comeBack_122
  have B_N_comeBack_117 : ∀ (v3 : Int32) (v4 : Int32) (k0 : Bool) (k1 : Bool) (σ : nS) (H : Heap) (locs : List Loc) (ls : Array Slot), (o_N_comeBack_117 v3 v4 k0 k1 σ) → lv_has ls 6 [(0, .ref (a 0)), (3, .int v3), (4, .int v4)] → St D (wC cI cZ a) A s σ H locs → F = s_N_comeBack_117 v3 v4 k0 k1 σ → W p l e ({ frames := 3, cells := 0, slots := 0, locals := 108 } : Room) s m args below meth c H locs 0 0 Q (F0 m 117 ls [.int (bI k1), .int (bI k0)]) := by
    intro v3 v4 k0 k1 σ H locs ls hok hl S hq
    refine lv_icmp_eq (tgt := 123) hx hb d_N_comeBack_117 rfl (fun h117 => ?_) (fun h117 => ?_)
    · have hq := hq.trans (if_pos h117)
      have hok := ok_pos h117 hok
      refine lv_aload_n hx hb d_N_comeBack_123 rfl (lv_at hl 0 rfl) ?_
      refine lv_iload_n hx hb d_N_comeBack_124 rfl (lv_at hl 1 rfl) ?_
      refine lv_iload hx hb d_N_comeBack_125 (lv_at hl 2 rfl) ?_
      refine callVV X S hl (c_N_unstack v3 v4 _) v_N_205 0 0 ⟨rfl, rfl⟩ (rk_dec (by decide)) rfl rfl (Nat.le_of_ble_eq_true rfl) d_N_comeBack_127 (fun σ1 H locs e1 S => ?_)
      have hq := hq.trans (ap1_eq e1)
      have hok := ok_ap1 e1 hok
      refine lv_iconst (v := 0) hx hb d_N_comeBack_130 (by decide) ?_
      exact ret _ _ _ _ _ _ S hq d_N_comeBack_131
    · have hq := hq.trans (if_neg h117)
      have hok := ok_neg h117 hok
      exact B_N_comeBack_120 _ _ _ _ hok (lv_sub hl [] rfl) S hq
  have B_N_comeBack_106 : ∀ (v1 : Int32) (v3 : Int32) (v4 : Int32) (k0 : Bool) (σ : nS) (H : Heap) (locs : List Loc) (ls : Array Slot), (o_N_comeBack_106 v1 v3 v4 k0 σ) → lv_has ls 6 [(0, .ref (a 0)), (1, .int v1), (3, .int v3), (4, .int v4)] → St D (wC cI cZ a) A s σ H locs → F = s_N_comeBack_106 v1 v3 v4 k0 σ → W p l e ({ frames := 3, cells := 0, slots := 0, locals := 108 } : Room) s m args below meth c H locs 0 0 Q (F0 m 106 ls [.int (bI k0)]) := by
    intro v1 v3 v4 k0 σ H locs ls hok hl S hq
    refine lv_iload_n hx hb d_N_comeBack_106 rfl (lv_at hl 1 rfl) ?_
    refine lv_bipush (v := -7) hx hb d_N_comeBack_107 (by decide) ?_
    refine lv_icmp_ne (tgt := 116) hx hb d_N_comeBack_109 rfl (fun h109 => ?_) (fun h109 => ?_)
    · have hq := hq.trans (if_neg h109)
      have hok := ok_neg h109 hok
      refine lv_iconst (v := 0) hx hb d_N_comeBack_116 (by decide) ?_
      exact B_N_comeBack_117 _ _ _ false _ _ _ _ hok (lv_sub hl [0, 2, 3] rfl) S hq
    · have hq := hq.trans (if_pos h109)
      have hok := ok_pos h109 hok
      refine lv_iconst (v := 1) hx hb d_N_comeBack_112 (by decide) ?_
      refine lv_goto (tgt := 117) hx hb d_N_comeBack_113 rfl ?_
      exact B_N_comeBack_117 _ _ _ true _ _ _ _ hok (lv_sub hl [0, 2, 3] rfl) S hq
  refine lv_aload_n hx hb d_N_comeBack_0 rfl (lv_at hl 0 rfl) ?_
  refine g_N_33 hx hb hts hown hK S.1 d_N_comeBack_1 ?_
  refine lv_aload_n hx hb d_N_comeBack_4 rfl (lv_at hl 0 rfl) ?_
  refine g_N_128 hx hb hts hown hK S.1 d_N_comeBack_5 ?_
  obtain ⟨g1, hok⟩ := hok
  refine callVV X S hl (c_Ex_leave (σ 8 10) _ g1) v_N_202 10 3 ⟨rfl, rfl⟩ (rk_dec (by decide)) rfl rfl (Nat.le_of_ble_eq_true rfl) d_N_comeBack_8 (fun σ1 H locs e1 S => ?_)
  have hq := hq.trans (ap1_eq e1)
  have hok := ok_ap1 e1 hok
  refine lv_aload_n hx hb d_N_comeBack_11 rfl (lv_at hl 0 rfl) ?_
  refine g_N_33 hx hb hts hown hK S.1 d_N_comeBack_12 ?_
  refine callVIp X S hl (c_Ex_due _) v_N_134 10 3 ⟨rfl, rfl⟩ (rk_dec (by decide)) rfl rfl (Nat.le_of_ble_eq_true rfl) d_N_comeBack_15 (fun H locs S => ?_)
  refine lv_istore_n hx hb d_N_comeBack_18 rfl hl (by decide) rfl (fun ls hl => ?_)
  refine lv_iload_n hx hb d_N_comeBack_19 rfl (lv_at hl 0 rfl) ?_
  refine lv_if_eq (tgt := 48) hx hb d_N_comeBack_20 rfl (fun h20 => ?_) (fun h20 => ?_)
  · have hq := hq.trans (if_pos h20)
    have hok := ok_pos h20 hok
    refine lv_aload_n hx hb d_N_comeBack_48 rfl (lv_at hl 1 rfl) ?_
    refine g_N_9 hx hb hts hown hK S.1 d_N_comeBack_49 ?_
    refine lv_bipush (v := 13) hx hb d_N_comeBack_52 (by decide) ?_
    refine ld_C_1 (k := 13) hx hb hK S.1 (vin_dec (by decide)) (by decide) d_N_comeBack_54 ?_
    refine lv_istore_n hx hb d_N_comeBack_55 rfl hl (by decide) rfl (fun ls hl => ?_)
    refine lv_aload_n hx hb d_N_comeBack_56 rfl (lv_at hl 2 rfl) ?_
    refine g_N_19 hx hb hts hown hK S.1 d_N_comeBack_57 ?_
    refine lv_iload_n hx hb d_N_comeBack_60 rfl (lv_at hl 0 rfl) ?_
    refine callVZp X S hl (c_Me_holdsFrame (σ1 0 13) _) v_N_181 3 1 ⟨rfl, rfl⟩ (rk_dec (by decide)) rfl rfl (Nat.le_of_ble_eq_true rfl) d_N_comeBack_61 (fun H locs S => ?_)
    refine r_ifneZ (tgt := 70) hx hb d_N_comeBack_64 rfl (fun h64 => ?_) (fun h64 => ?_)
    · have hq := hq.trans (if_pos h64)
      have hok := ok_pos h64 hok
      refine lv_aload_n hx hb d_N_comeBack_70 rfl (lv_at hl 2 rfl) ?_
      refine g_N_19 hx hb hts hown hK S.1 d_N_comeBack_71 ?_
      refine lv_iload_n hx hb d_N_comeBack_74 rfl (lv_at hl 0 rfl) ?_
      refine lv_bipush (v := 28) hx hb d_N_comeBack_75 (by decide) ?_
      refine lv_iadd hx hb d_N_comeBack_77 ?_
      refine callVIp X S hl (c_Me_load ((σ1 0 13) + (28 : Int32)) _) v_N_66 3 1 ⟨rfl, rfl⟩ (rk_dec (by decide)) rfl rfl (Nat.le_of_ble_eq_true rfl) d_N_comeBack_78 (fun H locs S => ?_)
      refine lv_istore hx hb d_N_comeBack_81 hl (by decide) rfl (fun ls hl => ?_)
      refine lv_iload hx hb d_N_comeBack_83 (lv_at hl 0 rfl) ?_
      refine lv_bipush (v := 15) hx hb d_N_comeBack_85 (by decide) ?_
      refine lv_iand hx hb d_N_comeBack_87 ?_
      refine lv_istore hx hb d_N_comeBack_88 hl (by decide) rfl (fun ls hl => ?_)
      refine lv_iload hx hb d_N_comeBack_90 (lv_at hl 0 rfl) ?_
      refine lv_iconst (v := 1) hx hb d_N_comeBack_92 (by decide) ?_
      refine lv_icmp_eq (tgt := 120) hx hb d_N_comeBack_93 rfl (fun h93 => ?_) (fun h93 => ?_)
      · have hq := hq.trans (if_pos h93)
        have hok := ok_pos h93 hok
        exact B_N_comeBack_120 _ _ _ _ hok (lv_sub hl [] rfl) S hq
      · have hq := hq.trans (if_neg h93)
        have hok := ok_neg h93 hok
        refine lv_iload hx hb d_N_comeBack_96 (lv_at hl 0 rfl) ?_
        refine lv_if_ne (tgt := 105) hx hb d_N_comeBack_98 rfl (fun h98 => ?_) (fun h98 => ?_)
        · have hq := hq.trans (if_neg h98)
          have hok := ok_neg h98 hok
          refine lv_iconst (v := 0) hx hb d_N_comeBack_105 (by decide) ?_
          exact B_N_comeBack_106 _ _ _ false _ _ _ _ hok (lv_sub hl [4, 5, 2, 1] rfl) S hq
        · have hq := hq.trans (if_pos h98)
          have hok := ok_pos h98 hok
          refine lv_iconst (v := 1) hx hb d_N_comeBack_101 (by decide) ?_
          refine lv_goto (tgt := 106) hx hb d_N_comeBack_102 rfl ?_
          exact B_N_comeBack_106 _ _ _ true _ _ _ _ hok (lv_sub hl [4, 5, 2, 1] rfl) S hq
    · have hq := hq.trans (if_neg h64)
      have hok := ok_neg h64 hok
      refine lv_bipush (v := 6) hx hb d_N_comeBack_67 (by decide) ?_
      exact ret _ _ _ _ _ _ S hq d_N_comeBack_69
  · have hq := hq.trans (if_neg h20)
    have hok := ok_neg h20 hok
    refine lv_aload_n hx hb d_N_comeBack_23 rfl (lv_at hl 1 rfl) ?_
    refine g_N_9 hx hb hts hown hK S.1 d_N_comeBack_24 ?_
    refine lv_bipush (v := 14) hx hb d_N_comeBack_27 (by decide) ?_
    refine lv_iload_n hx hb d_N_comeBack_29 rfl (lv_at hl 2 rfl) ?_
    refine st_C_1 (k := 14) hx hb hK S (vin_dec (by decide)) (by decide) d_N_comeBack_30 (fun H locs S => ?_)
    refine lv_aload_n hx hb d_N_comeBack_31 rfl (lv_at hl 1 rfl) ?_
    refine lv_dup hx hb d_N_comeBack_32 rfl ?_
    refine g_N_140 hx hb hts hown hK S.1 d_N_comeBack_33 ?_
    refine lv_iconst (v := 1) hx hb d_N_comeBack_36 (by decide) ?_
    refine lv_iadd hx hb d_N_comeBack_37 ?_
    refine p_N_140 hx hb hts hown hK S d_N_comeBack_38 (fun H locs S => ?_)
    refine lv_aload_n hx hb d_N_comeBack_41 rfl (lv_at hl 1 rfl) ?_
    refine lv_iload_n hx hb d_N_comeBack_42 rfl (lv_at hl 0 rfl) ?_
    refine callVV X S hl (c_N_enter (s_Ex_due σ1) _ (due_in _)) v_N_187 0 0 ⟨rfl, rfl⟩ (rk_dec (by decide)) rfl rfl (Nat.le_of_ble_eq_true rfl) d_N_comeBack_43 (fun σ2 H locs e2 S => ?_)
    have hq := hq.trans (ap1_eq e2)
    have hok := ok_ap1 e2 hok
    refine lv_iconst (v := 0) hx hb d_N_comeBack_46 (by decide) ?_
    exact ret _ _ _ _ _ _ S hq d_N_comeBack_47
set_option maxHeartbeats 4000000 in
set_option maxRecDepth 100000 in
theorem c_N_land (σ : nS) (hok : o_N_land σ) : CtI l D cI cZ (wC cI cZ a) (exC t) y_N_land b_N_land 2 { frames := 4, cells := 0, slots := 0, locals := 133 } [.ref (a 0)] σ (s_N_land σ) := by
  generalize hF : s_N_land σ = F
  refine metI (exC_ok t) (by decide) (Nat.le_of_ble_eq_true rfl) (fun p e s m args below meth c A Q ls X S hl ret => ?_)
  have hq := hF.symm
  obtain ⟨hx, hb, hml, hown, hts, hK, hA, hE, hlk, hEo⟩ := id X
  have hl : lv_has ls 2 [(0, .ref (a 0))] := hl
  have B_N_land_33 : ∀ (v1 : Int32) (σ : nS) (H : Heap) (locs : List Loc) (ls : Array Slot), (o_N_land_33 v1 σ) → lv_has ls 2 [(0, .ref (a 0)), (1, .int v1)] → St D (wC cI cZ a) A s σ H locs → F = s_N_land_33 v1 σ → W p l e ({ frames := 4, cells := 0, slots := 0, locals := 133 } : Room) s m args below meth c H locs 0 0 Q (F0 m 33 ls []) := by
    intro v1 σ H locs ls hok hl S hq
    refine lv_aload_n hx hb d_N_land_33 rfl (lv_at hl 0 rfl) ?_
    refine g_N_9 hx hb hts hown hK S.1 d_N_land_34 ?_
    refine lv_bipush (v := 15) hx hb d_N_land_37 (by decide) ?_
    refine lv_iload_n hx hb d_N_land_39 rfl (lv_at hl 1 rfl) ?_
    refine callSIp X S hl (c_N_even v1 _) v_N_72 (rk_dec (by decide)) rfl rfl (Nat.le_of_ble_eq_true rfl) d_N_land_40 (fun H locs S => ?_)
    refine st_C_1 (k := 15) hx hb hK S (vin_dec (by decide)) (by decide) d_N_land_43 (fun H locs S => ?_)
    refine lv_iconst (v := 0) hx hb d_N_land_44 (by decide) ?_
    exact ret _ _ _ _ _ _ S hq d_N_land_45
  have B_N_land_27 : ∀ (v1 : Int32) (σ : nS) (H : Heap) (locs : List Loc) (ls : Array Slot), (o_N_land_27 v1 σ) → lv_has ls 2 [(0, .ref (a 0)), (1, .int v1)] → St D (wC cI cZ a) A s σ H locs → F = s_N_land_27 v1 σ → W p l e ({ frames := 4, cells := 0, slots := 0, locals := 133 } : Room) s m args below meth c H locs 0 0 Q (F0 m 27 ls []) := by
    intro v1 σ H locs ls hok hl S hq
    refine lv_aload_n hx hb d_N_land_27 rfl (lv_at hl 0 rfl) ?_
    refine lv_iload_n hx hb d_N_land_28 rfl (lv_at hl 1 rfl) ?_
    obtain ⟨g1, hok⟩ := hok
    refine callVI X S hl (c_N_comeBack v1 _ g1) v_N_199 0 0 ⟨rfl, rfl⟩ (rk_dec (by decide)) rfl rfl (Nat.le_of_ble_eq_true rfl) d_N_land_29 (fun r1 σ1 H locs e1 S => ?_)
    have hq := hq.trans (ap2_eq e1)
    have hok := ok_ap2 e1 hok
    exact ret _ _ _ _ _ _ S hq d_N_land_32
  refine lv_aload_n hx hb d_N_land_0 rfl (lv_at hl 0 rfl) ?_
  refine g_N_9 hx hb hts hown hK S.1 d_N_land_1 ?_
  refine lv_bipush (v := 15) hx hb d_N_land_4 (by decide) ?_
  refine ld_C_1 (k := 15) hx hb hK S.1 (vin_dec (by decide)) (by decide) d_N_land_6 ?_
  refine lv_istore_n hx hb d_N_land_7 rfl hl (by decide) rfl (fun ls hl => ?_)
  refine lv_aload_n hx hb d_N_land_8 rfl (lv_at hl 1 rfl) ?_
  refine g_N_128 hx hb hts hown hK S.1 d_N_land_9 ?_
  refine lv_if_eq (tgt := 33) hx hb d_N_land_12 rfl (fun h12 => ?_) (fun h12 => ?_)
  · have hq := hq.trans (if_pos h12)
    have hok := ok_pos h12 hok
    exact B_N_land_33 _ _ _ _ _ hok (lv_sub hl [1, 0] rfl) S hq
  · have hq := hq.trans (if_neg h12)
    have hok := ok_neg h12 hok
    refine lv_iload_n hx hb d_N_land_15 rfl (lv_at hl 0 rfl) ?_
    refine lv_bipush (v := -7) hx hb d_N_land_16 (by decide) ?_
    refine lv_icmp_eq (tgt := 27) hx hb d_N_land_18 rfl (fun h18 => ?_) (fun h18 => ?_)
    · have hq := hq.trans (if_pos h18)
      have hok := ok_pos h18 hok
      exact B_N_land_27 _ _ _ _ _ hok (lv_sub hl [1, 0] rfl) S hq
    · have hq := hq.trans (if_neg h18)
      have hok := ok_neg h18 hok
      refine lv_iload_n hx hb d_N_land_21 rfl (lv_at hl 0 rfl) ?_
      refine lv_bipush (v := -15) hx hb d_N_land_22 (by decide) ?_
      refine lv_icmp_ne (tgt := 33) hx hb d_N_land_24 rfl (fun h24 => ?_) (fun h24 => ?_)
      · have hq := hq.trans (if_neg h24)
        have hok := ok_neg h24 hok
        exact B_N_land_33 _ _ _ _ _ hok (lv_sub hl [1, 0] rfl) S hq
      · have hq := hq.trans (if_pos h24)
        have hok := ok_pos h24 hok
        exact B_N_land_27 _ _ _ _ _ hok (lv_sub hl [1, 0] rfl) S hq
set_option maxHeartbeats 4000000 in
set_option maxRecDepth 100000 in
theorem c_N_raise (v1 : Int32) (σ : nS) (qv1_16 : vp_in v1 16) : CtV l D cI cZ (wC cI cZ a) (exC t) y_N_raise b_N_raise 3 { frames := 2, cells := 0, slots := 0, locals := 86 } [.ref (a 0), .int v1] σ (s_N_raise v1 σ) := by
  generalize hF : s_N_raise v1 σ = F
  refine metV (exC_ok t) (by decide) (Nat.le_of_ble_eq_true rfl) (fun p e s m args below meth c A Q ls X S hl ret => ?_)
  have hq := hF.symm
  obtain ⟨hx, hb, hml, hown, hts, hK, hA, hE, hlk, hEo⟩ := id X
  have hl : lv_has ls 3 [(0, .ref (a 0)), (1, .int v1)] := hl
  have B_N_raise_55 : ∀ (v2 : Int32) (σ : nS) (H : Heap) (locs : List Loc) (ls : Array Slot), lv_has ls 3 [(0, .ref (a 0)), (2, .int v2)] → St D (wC cI cZ a) A s σ H locs → F = s_N_raise_55 v2 σ → W p l e ({ frames := 2, cells := 0, slots := 0, locals := 86 } : Room) s m args below meth c H locs 0 0 Q (F0 m 55 ls []) := by
    intro v2 σ H locs ls hl S hq
    refine lv_iload_n hx hb d_N_raise_55 rfl (lv_at hl 1 rfl) ?_
    refine lv_iconst (v := -1) hx hb d_N_raise_56 (by decide) ?_
    refine lv_icmp_le (tgt := 73) hx hb d_N_raise_57 rfl (fun h57 => ?_) (fun h57 => ?_)
    · have hq := hq.trans (if_pos h57)
      refine lv_aload_n hx hb d_N_raise_73 rfl (lv_at hl 0 rfl) ?_
      refine lv_iconst (v := 1) hx hb d_N_raise_74 (by decide) ?_
      refine p_N_118 hx hb hts hown hK S d_N_raise_75 (fun H locs S => ?_)
      exact ret _ _ _ _ _ S hq d_N_raise_78
    · have hq := hq.trans (if_neg h57)
      refine lv_aload_n hx hb d_N_raise_60 rfl (lv_at hl 0 rfl) ?_
      refine g_N_33 hx hb hts hown hK S.1 d_N_raise_61 ?_
      refine g_N_104 hx hb hts hown hK S.1 d_N_raise_64 ?_
      refine lv_iconst (v := 3) hx hb d_N_raise_67 (by decide) ?_
      refine lv_iconst (v := 1) hx hb d_N_raise_68 (by decide) ?_
      refine st_C_12 (k := 3) (b := true) hx hb hK S (vin_dec (by decide)) (by decide) d_N_raise_69 (fun H locs S => ?_)
      refine lv_goto (tgt := 78) hx hb d_N_raise_70 rfl ?_
      exact ret _ _ _ _ _ S hq d_N_raise_78
  refine lv_aload_n hx hb d_N_raise_0 rfl (lv_at hl 0 rfl) ?_
  refine lv_dup hx hb d_N_raise_1 rfl ?_
  refine g_N_143 hx hb hts hown hK S.1 d_N_raise_2 ?_
  refine lv_iconst (v := 1) hx hb d_N_raise_5 (by decide) ?_
  refine lv_iadd hx hb d_N_raise_6 ?_
  refine p_N_143 hx hb hts hown hK S d_N_raise_7 (fun H locs S => ?_)
  refine lv_aload_n hx hb d_N_raise_10 rfl (lv_at hl 0 rfl) ?_
  refine g_N_33 hx hb hts hown hK S.1 d_N_raise_11 ?_
  refine callVIp X S hl (c_Ex_level _) v_N_131 10 3 ⟨rfl, rfl⟩ (rk_dec (by decide)) rfl rfl (Nat.le_of_ble_eq_true rfl) d_N_raise_14 (fun H locs S => ?_)
  refine lv_istore_n hx hb d_N_raise_17 rfl hl (by decide) rfl (fun ls hl => ?_)
  refine lv_aload_n hx hb d_N_raise_18 rfl (lv_at hl 1 rfl) ?_
  refine g_N_33 hx hb hts hown hK S.1 d_N_raise_19 ?_
  refine g_N_193 hx hb hts hown hK S.1 d_N_raise_22 ?_
  refine lv_iload_n hx hb d_N_raise_25 rfl (lv_at hl 2 rfl) ?_
  refine ld_C_11 (k := (v1).toNatClampNeg) hx hb hK S.1 qv1_16 rfl d_N_raise_26 ?_
  refine lv_if_eq (tgt := 55) hx hb d_N_raise_27 rfl (fun h27 => ?_) (fun h27 => ?_)
  · have hq := hq.trans (if_pos h27)
    exact B_N_raise_55 _ _ _ _ _ (lv_sub hl [1, 0] rfl) S hq
  · have hq := hq.trans (if_neg h27)
    refine lv_aload_n hx hb d_N_raise_30 rfl (lv_at hl 1 rfl) ?_
    refine g_N_33 hx hb hts hown hK S.1 d_N_raise_31 ?_
    refine lv_iload_n hx hb d_N_raise_34 rfl (lv_at hl 2 rfl) ?_
    refine callVIp X S hl (c_Ex_group v1 _ qv1_16) v_N_196 10 3 ⟨rfl, rfl⟩ (rk_dec (by decide)) rfl rfl (Nat.le_of_ble_eq_true rfl) d_N_raise_35 (fun H locs S => ?_)
    refine lv_iload_n hx hb d_N_raise_38 rfl (lv_at hl 0 rfl) ?_
    refine lv_icmp_ge (tgt := 55) hx hb d_N_raise_39 rfl (fun h39 => ?_) (fun h39 => ?_)
    · have hq := hq.trans (if_pos h39)
      exact B_N_raise_55 _ _ _ _ _ (lv_sub hl [1, 0] rfl) S hq
    · have hq := hq.trans (if_neg h39)
      refine lv_aload_n hx hb d_N_raise_42 rfl (lv_at hl 1 rfl) ?_
      refine g_N_33 hx hb hts hown hK S.1 d_N_raise_43 ?_
      refine g_N_104 hx hb hts hown hK S.1 d_N_raise_46 ?_
      refine lv_iload_n hx hb d_N_raise_49 rfl (lv_at hl 2 rfl) ?_
      refine lv_iconst (v := 1) hx hb d_N_raise_50 (by decide) ?_
      refine st_C_12 (k := (v1).toNatClampNeg) (b := true) hx hb hK S qv1_16 rfl d_N_raise_51 (fun H locs S => ?_)
      refine lv_goto (tgt := 78) hx hb d_N_raise_52 rfl ?_
      exact ret _ _ _ _ _ S hq d_N_raise_78
set_option maxHeartbeats 4000000 in
set_option maxRecDepth 100000 in
theorem c_N_step (σ : nS) (hok : o_N_step σ) : CtV l D cI cZ (wC cI cZ a) (exC t) y_N_step b_N_step 3 { frames := 5, cells := 0, slots := 0, locals := 154 } [.ref (a 0)] σ (s_N_step σ) := by
  generalize hF : s_N_step σ = F
  refine metV (exC_ok t) (by decide) (Nat.le_of_ble_eq_true rfl) (fun p e s m args below meth c A Q ls X S hl ret => ?_)
  have hq := hF.symm
  obtain ⟨hx, hb, hml, hown, hts, hK, hA, hE, hlk, hEo⟩ := id X
  have hl : lv_has ls 3 [(0, .ref (a 0))] := hl
  have B_N_step_81 : ∀ (v2 : Int32) (σ : nS) (H : Heap) (locs : List Loc) (ls : Array Slot), (vp_in v2 16) → (o_N_step_81 v2 σ) → lv_has ls 3 [(0, .ref (a 0)), (2, .int v2)] → St D (wC cI cZ a) A s σ H locs → F = s_N_step_81 v2 σ → W p l e ({ frames := 5, cells := 0, slots := 0, locals := 154 } : Room) s m args below meth c H locs 0 0 Q (F0 m 81 ls []) := by
    intro v2 σ H locs ls qv2_16 hok hl S hq
    refine lv_iload_n hx hb d_N_step_81 rfl (lv_at hl 1 rfl) ?_
    refine lv_if_eq (tgt := 105) hx hb d_N_step_82 rfl (fun h82 => ?_) (fun h82 => ?_)
    · have hq := hq.trans (if_pos h82)
      have hok := ok_pos h82 hok
      exact ret _ _ _ _ _ S hq d_N_step_105
    · have hq := hq.trans (if_neg h82)
      have hok := ok_neg h82 hok
      refine lv_aload_n hx hb d_N_step_85 rfl (lv_at hl 0 rfl) ?_
      refine g_N_13 hx hb hts hown hK S.1 d_N_step_86 ?_
      refine lv_iconst (v := 0) hx hb d_N_step_89 (by decide) ?_
      refine lv_aload_n hx hb d_N_step_90 rfl (lv_at hl 0 rfl) ?_
      refine g_N_9 hx hb hts hown hK S.1 d_N_step_91 ?_
      refine lv_iconst (v := 0) hx hb d_N_step_94 (by decide) ?_
      refine lv_bipush (v := 16) hx hb d_N_step_95 (by decide) ?_
      refine cp_2_1 hx hb hml hts hown hK S hl.1 k_7 d_N_step_97 (Nat.le_of_ble_eq_true rfl) (Nat.le_of_ble_eq_true rfl) (fun H locs S => ?_)
      refine lv_aload_n hx hb d_N_step_100 rfl (lv_at hl 0 rfl) ?_
      refine lv_iload_n hx hb d_N_step_101 rfl (lv_at hl 1 rfl) ?_
      refine callVV X S hl (c_N_raise v2 _ qv2_16) v_N_178 0 0 ⟨rfl, rfl⟩ (rk_dec (by decide)) rfl rfl (Nat.le_of_ble_eq_true rfl) d_N_step_102 (fun σ1 H locs e1 S => ?_)
      have hq := hq.trans (ap1_eq e1)
      have hok := ok_ap1 e1 hok
      exact ret _ _ _ _ _ S hq d_N_step_105
  have B_N_step_72 : ∀ (v2 : Int32) (σ : nS) (H : Heap) (locs : List Loc) (ls : Array Slot), (vp_in v2 16) → (o_N_step_72 v2 σ) → lv_has ls 3 [(0, .ref (a 0)), (2, .int v2)] → St D (wC cI cZ a) A s σ H locs → F = s_N_step_72 v2 σ → W p l e ({ frames := 5, cells := 0, slots := 0, locals := 154 } : Room) s m args below meth c H locs 0 0 Q (F0 m 72 ls []) := by
    intro v2 σ H locs ls qv2_16 hok hl S hq
    refine lv_iload_n hx hb d_N_step_72 rfl (lv_at hl 1 rfl) ?_
    refine lv_if_ne (tgt := 81) hx hb d_N_step_73 rfl (fun h73 => ?_) (fun h73 => ?_)
    · have hq := hq.trans (if_neg h73)
      have hok := ok_neg h73 hok
      exact B_N_step_81 _ _ _ _ _ qv2_16 hok (lv_sub hl [0, 1] rfl) S hq
    · have hq := hq.trans (if_pos h73)
      have hok := ok_pos h73 hok
      refine lv_aload_n hx hb d_N_step_76 rfl (lv_at hl 0 rfl) ?_
      obtain ⟨g1, hok⟩ := hok
      refine callVI X S hl (c_N_land _ g1) v_N_175 0 0 ⟨rfl, rfl⟩ (rk_dec (by decide)) rfl rfl (Nat.le_of_ble_eq_true rfl) d_N_step_77 (fun r1 σ1 H locs e1 S => ?_)
      have hq := hq.trans (ap2_eq e1)
      have hok := ok_ap2 e1 hok
      refine lv_istore_n hx hb d_N_step_80 rfl hl (by decide) rfl (fun ls hl => ?_)
      obtain ⟨g2, hok⟩ := hok
      exact B_N_step_81 _ _ _ _ _ g2 hok (lv_sub hl [1, 0] rfl) S hq
  have B_N_step_21 : ∀ (σ : nS) (H : Heap) (locs : List Loc) (ls : Array Slot), (o_N_step_21 σ) → lv_has ls 3 [(0, .ref (a 0))] → St D (wC cI cZ a) A s σ H locs → F = s_N_step_21 σ → W p l e ({ frames := 5, cells := 0, slots := 0, locals := 154 } : Room) s m args below meth c H locs 0 0 Q (F0 m 21 ls []) := by
    intro σ H locs ls hok hl S hq
    refine lv_aload_n hx hb d_N_step_21 rfl (lv_at hl 0 rfl) ?_
    refine g_N_33 hx hb hts hown hK S.1 d_N_step_22 ?_
    refine callVIp X S hl (c_Ex_due _) v_N_134 10 3 ⟨rfl, rfl⟩ (rk_dec (by decide)) rfl rfl (Nat.le_of_ble_eq_true rfl) d_N_step_25 (fun H locs S => ?_)
    refine lv_istore_n hx hb d_N_step_28 rfl hl (by decide) rfl (fun ls hl => ?_)
    refine lv_iload_n hx hb d_N_step_29 rfl (lv_at hl 0 rfl) ?_
    refine lv_if_eq (tgt := 39) hx hb d_N_step_30 rfl (fun h30 => ?_) (fun h30 => ?_)
    · have hq := hq.trans (if_pos h30)
      have hok := ok_pos h30 hok
      refine lv_aload_n hx hb d_N_step_39 rfl (lv_at hl 1 rfl) ?_
      refine g_N_9 hx hb hts hown hK S.1 d_N_step_40 ?_
      refine lv_iconst (v := 0) hx hb d_N_step_43 (by decide) ?_
      refine lv_aload_n hx hb d_N_step_44 rfl (lv_at hl 1 rfl) ?_
      refine g_N_13 hx hb hts hown hK S.1 d_N_step_45 ?_
      refine lv_iconst (v := 0) hx hb d_N_step_48 (by decide) ?_
      refine lv_bipush (v := 16) hx hb d_N_step_49 (by decide) ?_
      refine cp_1_2 hx hb hml hts hown hK S hl.1 k_7 d_N_step_51 (Nat.le_of_ble_eq_true rfl) (Nat.le_of_ble_eq_true rfl) (fun H locs S => ?_)
      refine lv_aload_n hx hb d_N_step_54 rfl (lv_at hl 1 rfl) ?_
      refine callVIp X S hl (c_N_fetchFault _) v_N_166 0 0 ⟨rfl, rfl⟩ (rk_dec (by decide)) rfl rfl (Nat.le_of_ble_eq_true rfl) d_N_step_55 (fun H locs S => ?_)
      refine lv_istore_n hx hb d_N_step_58 rfl hl (by decide) rfl (fun ls hl => ?_)
      refine lv_iload_n hx hb d_N_step_59 rfl (lv_at hl 0 rfl) ?_
      refine lv_if_ne (tgt := 72) hx hb d_N_step_60 rfl (fun h60 => ?_) (fun h60 => ?_)
      · have hq := hq.trans (if_neg h60)
        have hok := ok_neg h60 hok
        obtain ⟨g3, hok⟩ := hok
        exact B_N_step_72 _ _ _ _ _ g3 hok (lv_sub hl [2, 0] rfl) S hq
      · have hq := hq.trans (if_pos h60)
        have hok := ok_pos h60 hok
        refine lv_aload_n hx hb d_N_step_63 rfl (lv_at hl 2 rfl) ?_
        refine lv_aload_n hx hb d_N_step_64 rfl (lv_at hl 2 rfl) ?_
        refine callVI X S hl (c_N_fetch _) v_N_169 0 0 ⟨rfl, rfl⟩ (rk_dec (by decide)) rfl rfl (Nat.le_of_ble_eq_true rfl) d_N_step_65 (fun r1 σ1 H locs e1 S => ?_)
        have hq := hq.trans (ap2_eq e1)
        have hok := ok_ap2 e1 hok
        obtain ⟨g4, hok⟩ := hok
        refine callVI X S hl (c_N_execute r1 _ g4) v_N_172 0 0 ⟨rfl, rfl⟩ (rk_dec (by decide)) rfl rfl (Nat.le_of_ble_eq_true rfl) d_N_step_68 (fun r2 σ2 H locs e2 S => ?_)
        have hq := hq.trans (ap2_eq e2)
        have hok := ok_ap2 e2 hok
        refine lv_istore_n hx hb d_N_step_71 rfl hl (by decide) rfl (fun ls hl => ?_)
        obtain ⟨g5, hok⟩ := hok
        exact B_N_step_72 _ _ _ _ _ g5 hok (lv_sub hl [2, 0] rfl) S hq
    · have hq := hq.trans (if_neg h30)
      have hok := ok_neg h30 hok
      refine lv_aload_n hx hb d_N_step_33 rfl (lv_at hl 1 rfl) ?_
      refine lv_iload_n hx hb d_N_step_34 rfl (lv_at hl 0 rfl) ?_
      refine callVV X S hl (c_N_take (s_Ex_due σ) _ (due_in _)) v_N_157 0 0 ⟨rfl, rfl⟩ (rk_dec (by decide)) rfl rfl (Nat.le_of_ble_eq_true rfl) d_N_step_35 (fun σ1 H locs e1 S => ?_)
      have hq := hq.trans (ap1_eq e1)
      have hok := ok_ap1 e1 hok
      exact ret _ _ _ _ _ S hq d_N_step_38
  refine lv_aload_n hx hb d_N_step_0 rfl (lv_at hl 0 rfl) ?_
  refine g_N_47 hx hb hts hown hK S.1 d_N_step_1 ?_
  refine callVZ X S hl (c_Ti_fires _) v_N_153 16 5 ⟨rfl, rfl⟩ (rk_dec (by decide)) rfl rfl (Nat.le_of_ble_eq_true rfl) d_N_step_4 (fun r1 σ1 H locs e1 S => ?_)
  have hq := hq.trans (ap2_eq e1)
  have hok := ok_ap2 e1 hok
  refine r_ifeqZ (tgt := 21) hx hb d_N_step_7 rfl (fun h7 => ?_) (fun h7 => ?_)
  · have hq := hq.trans (if_neg h7)
    have hok := ok_neg h7 hok
    exact B_N_step_21 _ _ _ _ hok (lv_sub hl [0] rfl) S hq
  · have hq := hq.trans (if_pos h7)
    have hok := ok_pos h7 hok
    refine lv_aload_n hx hb d_N_step_10 rfl (lv_at hl 0 rfl) ?_
    refine g_N_33 hx hb hts hown hK S.1 d_N_step_11 ?_
    refine g_N_104 hx hb hts hown hK S.1 d_N_step_14 ?_
    refine lv_bipush (v := 9) hx hb d_N_step_17 (by decide) ?_
    refine lv_iconst (v := 1) hx hb d_N_step_19 (by decide) ?_
    refine st_C_12 (k := 9) (b := true) hx hb hK S (vin_dec (by decide)) (by decide) d_N_step_20 (fun H locs S => ?_)
    exact B_N_step_21 _ _ _ _ hok (lv_sub hl [0] rfl) S hq
set_option maxHeartbeats 4000000 in
set_option maxRecDepth 100000 in
theorem c_Ex_packed (v1 : Int32) (σ : nS) (qv1_16 : vp_in v1 16) : CtI l D cI cZ (wC cI cZ a) (exC t) y_Ex_packed b_Ex_packed 2 { frames := 0, cells := 0, slots := 0, locals := 0 } [.ref (a 10), .int v1] σ (s_Ex_packed v1 σ, σ) := by
  generalize hF : s_Ex_packed v1 σ = F
  refine metIp (exC_ok t) (by decide) (Nat.le_of_ble_eq_true rfl) (fun p e s m args below meth c A Q ls X S hl ret => ?_)
  have hq := hF.symm
  obtain ⟨hx, hb, hml, hown, hts, hK, hA, hE, hlk, hEo⟩ := id X
  have hl : lv_has ls 2 [(0, .ref (a 10)), (1, .int v1)] := hl
  have B_Ex_packed_43 : ∀ (k0 : Int32) (k1 : Int32) (H : Heap) (locs : List Loc) (ls : Array Slot), lv_has ls 2 [] → St D (wC cI cZ a) A s σ H locs → F = s_Ex_packed_43 k0 k1 σ → W p l e ({ frames := 0, cells := 0, slots := 0, locals := 0 } : Room) s m args below meth c H locs 0 0 Q (F0 m 43 ls [.int k1, .int k0]) := by
    intro k0 k1 H locs ls hl S hq
    refine lv_iadd hx hb d_Ex_packed_43 ?_
    exact ret _ _ _ _ _ S hq d_Ex_packed_44
  have B_Ex_packed_28 : ∀ (v1 : Int32) (k0 : Bool) (k1 : Int32) (H : Heap) (locs : List Loc) (ls : Array Slot), (vp_in v1 16) → lv_has ls 2 [(0, .ref (a 10)), (1, .int v1)] → St D (wC cI cZ a) A s σ H locs → F = s_Ex_packed_28 v1 k0 k1 σ → W p l e ({ frames := 0, cells := 0, slots := 0, locals := 0 } : Room) s m args below meth c H locs 0 0 Q (F0 m 28 ls [.int k1, .int (bI k0)]) := by
    intro v1 k0 k1 H locs ls qv1_16 hl S hq
    refine lv_iadd hx hb d_Ex_packed_28 ?_
    refine lv_aload_n hx hb d_Ex_packed_29 rfl (lv_at hl 0 rfl) ?_
    refine g_Ex_9 hx hb hts hown hK S.1 d_Ex_packed_30 ?_
    refine lv_iload_n hx hb d_Ex_packed_33 rfl (lv_at hl 1 rfl) ?_
    refine ld_C_11 (k := (v1).toNatClampNeg) hx hb hK S.1 qv1_16 rfl d_Ex_packed_34 ?_
    refine lv_if_eq (tgt := 42) hx hb d_Ex_packed_35 rfl (fun h35 => ?_) (fun h35 => ?_)
    · have hq := hq.trans (if_pos h35)
      refine lv_iconst (v := 0) hx hb d_Ex_packed_42 (by decide) ?_
      exact B_Ex_packed_43 _ _ _ _ _ (lv_sub hl [] rfl) S hq
    · have hq := hq.trans (if_neg h35)
      refine lv_iconst (v := 4) hx hb d_Ex_packed_38 (by decide) ?_
      refine lv_goto (tgt := 43) hx hb d_Ex_packed_39 rfl ?_
      exact B_Ex_packed_43 _ _ _ _ _ (lv_sub hl [] rfl) S hq
  have B_Ex_packed_14 : ∀ (v1 : Int32) (k0 : Bool) (H : Heap) (locs : List Loc) (ls : Array Slot), (vp_in v1 16) → lv_has ls 2 [(0, .ref (a 10)), (1, .int v1)] → St D (wC cI cZ a) A s σ H locs → F = s_Ex_packed_14 v1 k0 σ → W p l e ({ frames := 0, cells := 0, slots := 0, locals := 0 } : Room) s m args below meth c H locs 0 0 Q (F0 m 14 ls [.int (bI k0)]) := by
    intro v1 k0 H locs ls qv1_16 hl S hq
    refine lv_aload_n hx hb d_Ex_packed_14 rfl (lv_at hl 0 rfl) ?_
    refine g_Ex_18 hx hb hts hown hK S.1 d_Ex_packed_15 ?_
    refine lv_iload_n hx hb d_Ex_packed_18 rfl (lv_at hl 1 rfl) ?_
    refine ld_C_13 (k := (v1).toNatClampNeg) hx hb hK S.1 qv1_16 rfl d_Ex_packed_19 ?_
    refine lv_if_eq (tgt := 27) hx hb d_Ex_packed_20 rfl (fun h20 => ?_) (fun h20 => ?_)
    · have hq := hq.trans (if_pos h20)
      refine lv_iconst (v := 0) hx hb d_Ex_packed_27 (by decide) ?_
      exact B_Ex_packed_28 _ _ _ _ _ _ qv1_16 (lv_sub hl [0, 1] rfl) S hq
    · have hq := hq.trans (if_neg h20)
      refine lv_iconst (v := 2) hx hb d_Ex_packed_23 (by decide) ?_
      refine lv_goto (tgt := 28) hx hb d_Ex_packed_24 rfl ?_
      exact B_Ex_packed_28 _ _ _ _ _ _ qv1_16 (lv_sub hl [0, 1] rfl) S hq
  refine lv_aload_n hx hb d_Ex_packed_0 rfl (lv_at hl 0 rfl) ?_
  refine g_Ex_15 hx hb hts hown hK S.1 d_Ex_packed_1 ?_
  refine lv_iload_n hx hb d_Ex_packed_4 rfl (lv_at hl 1 rfl) ?_
  refine ld_C_12 (k := (v1).toNatClampNeg) hx hb hK S.1 qv1_16 rfl d_Ex_packed_5 ?_
  refine lv_if_eq (tgt := 13) hx hb d_Ex_packed_6 rfl (fun h6 => ?_) (fun h6 => ?_)
  · have hq := hq.trans (if_pos h6)
    refine lv_iconst (v := 0) hx hb d_Ex_packed_13 (by decide) ?_
    exact B_Ex_packed_14 _ false _ _ _ qv1_16 (lv_sub hl [0, 1] rfl) S hq
  · have hq := hq.trans (if_neg h6)
    refine lv_iconst (v := 1) hx hb d_Ex_packed_9 (by decide) ?_
    refine lv_goto (tgt := 14) hx hb d_Ex_packed_10 rfl ?_
    exact B_Ex_packed_14 _ true _ _ _ qv1_16 (lv_sub hl [0, 1] rfl) S hq
set_option maxHeartbeats 4000000 in
set_option maxRecDepth 100000 in
theorem c_Mo_thrown (σ : nS) : CtI l D cI cZ (wM cI cZ a) exM y_Mo_thrown b_Mo_thrown 1 { frames := 0, cells := 0, slots := 0, locals := 0 } [.ref (a 0)] σ (s_Mo_thrown σ, σ) := by
  generalize hF : s_Mo_thrown σ = F
  refine metIp exM_ok (by decide) (Nat.le_of_ble_eq_true rfl) (fun p e s m args below meth c A Q ls X S hl ret => ?_)
  have hq := hF.symm
  obtain ⟨hx, hb, hml, hown, hts, hK, hA, hE, hlk, hEo⟩ := id X
  have hl : lv_has ls 1 [(0, .ref (a 0))] := hl
  refine lv_aload_n hx hb d_Mo_thrown_0 rfl (lv_at hl 0 rfl) ?_
  refine g_Mo_41 hx hb hts hown hK S.1 d_Mo_thrown_1 ?_
  exact ret _ _ _ _ _ S hq d_Mo_thrown_4
set_option maxHeartbeats 4000000 in
set_option maxRecDepth 100000 in
theorem c_Mo_fails (v1 : Bool) (σ : nS) : CtZ l D cI cZ (wM cI cZ a) exM y_Mo_fails b_Mo_fails 2 { frames := 0, cells := 0, slots := 0, locals := 0 } [.ref (a 0), .int (bI v1)] σ (s_Mo_fails v1 σ) := by
  generalize hF : s_Mo_fails v1 σ = F
  refine metZ exM_ok (by decide) (Nat.le_of_ble_eq_true rfl) (fun p e s m args below meth c A Q ls X S hl ret => ?_)
  have hq := hF.symm
  obtain ⟨hx, hb, hml, hown, hts, hK, hA, hE, hlk, hEo⟩ := id X
  have hl : lv_has ls 2 [(0, .ref (a 0)), (1, .int (bI v1))] := hl
  have B_Mo_fails_10 : ∀ (v1 : Bool) (k1 : Bool) (σ : nS) (H : Heap) (locs : List Loc) (ls : Array Slot), lv_has ls 2 [(1, .int (bI v1))] → St D (wM cI cZ a) A s σ H locs → F = s_Mo_fails_10 v1 k1 σ → W p l e ({ frames := 0, cells := 0, slots := 0, locals := 0 } : Room) s m args below meth c H locs 0 0 Q (F0 m 10 ls [.int (bI k1), .ref (a 0)]) := by
    intro v1 k1 σ H locs ls hl S hq
    refine p_Mo_41 hx hb hts hown hK S d_Mo_fails_10 (fun H locs S => ?_)
    refine lv_iload_n hx hb d_Mo_fails_13 rfl (lv_at hl 0 rfl) ?_
    exact ret _ _ _ _ _ _ S hq d_Mo_fails_14
  refine lv_aload_n hx hb d_Mo_fails_0 rfl (lv_at hl 0 rfl) ?_
  refine lv_iload_n hx hb d_Mo_fails_1 rfl (lv_at hl 1 rfl) ?_
  refine r_ifeqZ (tgt := 9) hx hb d_Mo_fails_2 rfl (fun h2 => ?_) (fun h2 => ?_)
  · have hq := hq.trans (if_neg h2)
    refine lv_iconst (v := 0) hx hb d_Mo_fails_9 (by decide) ?_
    exact B_Mo_fails_10 _ false _ _ _ _ (lv_sub hl [1] rfl) S hq
  · have hq := hq.trans (if_pos h2)
    refine lv_iconst (v := 1) hx hb d_Mo_fails_5 (by decide) ?_
    refine lv_goto (tgt := 10) hx hb d_Mo_fails_6 rfl ?_
    exact B_Mo_fails_10 _ true _ _ _ _ (lv_sub hl [1] rfl) S hq
set_option maxHeartbeats 4000000 in
set_option maxRecDepth 100000 in
theorem c_Mo_isWord (v0 : Int32) (σ : nS) : CtZ l D cI cZ (wM cI cZ a) exM y_Mo_isWord b_Mo_isWord 1 { frames := 0, cells := 0, slots := 0, locals := 0 } [.int v0] σ (s_Mo_isWord v0, σ) := by
  generalize hF : s_Mo_isWord v0 = F
  refine metZp exM_ok (by decide) (Nat.le_of_ble_eq_true rfl) (fun p e s m args below meth c A Q ls X S hl ret => ?_)
  have hq := hF.symm
  obtain ⟨hx, hb, hml, hown, hts, hK, hA, hE, hlk, hEo⟩ := id X
  have hl : lv_has ls 1 [(0, .int v0)] := hl
  have B_Mo_isWord_21 : ∀ (H : Heap) (locs : List Loc) (ls : Array Slot), lv_has ls 1 [] → St D (wM cI cZ a) A s σ H locs → F = s_Mo_isWord_21 → W p l e ({ frames := 0, cells := 0, slots := 0, locals := 0 } : Room) s m args below meth c H locs 0 0 Q (F0 m 21 ls []) := by
    intro H locs ls hl S hq
    refine lv_iconst (v := 0) hx hb d_Mo_isWord_21 (by decide) ?_
    exact ret _ _ _ _ false S hq d_Mo_isWord_22
  refine lv_iload_n hx hb d_Mo_isWord_0 rfl (lv_at hl 0 rfl) ?_
  refine lv_if_lt (tgt := 21) hx hb d_Mo_isWord_1 rfl (fun h1 => ?_) (fun h1 => ?_)
  · have hq := hq.trans (if_pos h1)
    exact B_Mo_isWord_21 _ _ _ (lv_sub hl [] rfl) S hq
  · have hq := hq.trans (if_neg h1)
    refine lv_iload_n hx hb d_Mo_isWord_4 rfl (lv_at hl 0 rfl) ?_
    refine lv_sipush (v := 1020) hx hb d_Mo_isWord_5 (by decide) ?_
    refine lv_icmp_gt (tgt := 21) hx hb d_Mo_isWord_8 rfl (fun h8 => ?_) (fun h8 => ?_)
    · have hq := hq.trans (if_pos h8)
      exact B_Mo_isWord_21 _ _ _ (lv_sub hl [] rfl) S hq
    · have hq := hq.trans (if_neg h8)
      refine lv_iload_n hx hb d_Mo_isWord_11 rfl (lv_at hl 0 rfl) ?_
      refine lv_iconst (v := 3) hx hb d_Mo_isWord_12 (by decide) ?_
      refine lv_iand hx hb d_Mo_isWord_13 ?_
      refine lv_if_ne (tgt := 21) hx hb d_Mo_isWord_14 rfl (fun h14 => ?_) (fun h14 => ?_)
      · have hq := hq.trans (if_neg h14)
        exact B_Mo_isWord_21 _ _ _ (lv_sub hl [] rfl) S hq
      · have hq := hq.trans (if_pos h14)
        refine lv_iconst (v := 1) hx hb d_Mo_isWord_17 (by decide) ?_
        refine lv_goto (tgt := 22) hx hb d_Mo_isWord_18 rfl ?_
        exact ret _ _ _ _ true S hq d_Mo_isWord_22
set_option maxHeartbeats 4000000 in
set_option maxRecDepth 100000 in
theorem c_Mo_load (v1 : Int32) (σ : nS) (hok : o_Mo_load v1 σ) : CtI l D cI cZ (wM cI cZ a) exM y_Mo_load b_Mo_load 2 { frames := 0, cells := 0, slots := 0, locals := 0 } [.ref (a 0), .int v1] σ (s_Mo_load v1 σ, σ) := by
  generalize hF : s_Mo_load v1 σ = F
  refine metIp exM_ok (by decide) (Nat.le_of_ble_eq_true rfl) (fun p e s m args below meth c A Q ls X S hl ret => ?_)
  have hq := hF.symm
  obtain ⟨hx, hb, hml, hown, hts, hK, hA, hE, hlk, hEo⟩ := id X
  have hl : lv_has ls 2 [(0, .ref (a 0)), (1, .int v1)] := hl
  refine lv_aload_n hx hb d_Mo_load_0 rfl (lv_at hl 0 rfl) ?_
  refine g_Mo_7 hx hb hts hown hK S.1 d_Mo_load_1 ?_
  refine lv_iload_n hx hb d_Mo_load_4 rfl (lv_at hl 1 rfl) ?_
  obtain ⟨g1, hok⟩ := hok
  refine ld_M_1 (k := (v1).toNatClampNeg) hx hb hK S.1 g1 rfl d_Mo_load_5 ?_
  refine lv_aload_n hx hb d_Mo_load_6 rfl (lv_at hl 0 rfl) ?_
  refine g_Mo_7 hx hb hts hown hK S.1 d_Mo_load_7 ?_
  refine lv_iload_n hx hb d_Mo_load_10 rfl (lv_at hl 1 rfl) ?_
  refine lv_iconst (v := 1) hx hb d_Mo_load_11 (by decide) ?_
  refine lv_iadd hx hb d_Mo_load_12 ?_
  obtain ⟨g2, hok⟩ := hok
  refine ld_M_1 (k := ((v1 + (1 : Int32))).toNatClampNeg) hx hb hK S.1 g2 rfl d_Mo_load_13 ?_
  refine lv_bipush (v := 8) hx hb d_Mo_load_14 (by decide) ?_
  refine lv_ishl hx hb d_Mo_load_16 ?_
  refine lv_ior hx hb d_Mo_load_17 ?_
  refine lv_aload_n hx hb d_Mo_load_18 rfl (lv_at hl 0 rfl) ?_
  refine g_Mo_7 hx hb hts hown hK S.1 d_Mo_load_19 ?_
  refine lv_iload_n hx hb d_Mo_load_22 rfl (lv_at hl 1 rfl) ?_
  refine lv_iconst (v := 2) hx hb d_Mo_load_23 (by decide) ?_
  refine lv_iadd hx hb d_Mo_load_24 ?_
  obtain ⟨g3, hok⟩ := hok
  refine ld_M_1 (k := ((v1 + (2 : Int32))).toNatClampNeg) hx hb hK S.1 g3 rfl d_Mo_load_25 ?_
  refine lv_bipush (v := 16) hx hb d_Mo_load_26 (by decide) ?_
  refine lv_ishl hx hb d_Mo_load_28 ?_
  refine lv_ior hx hb d_Mo_load_29 ?_
  refine lv_aload_n hx hb d_Mo_load_30 rfl (lv_at hl 0 rfl) ?_
  refine g_Mo_7 hx hb hts hown hK S.1 d_Mo_load_31 ?_
  refine lv_iload_n hx hb d_Mo_load_34 rfl (lv_at hl 1 rfl) ?_
  refine lv_iconst (v := 3) hx hb d_Mo_load_35 (by decide) ?_
  refine lv_iadd hx hb d_Mo_load_36 ?_
  obtain ⟨g4, hok⟩ := hok
  refine ld_M_1 (k := ((v1 + (3 : Int32))).toNatClampNeg) hx hb hK S.1 g4 rfl d_Mo_load_37 ?_
  refine lv_bipush (v := 24) hx hb d_Mo_load_38 (by decide) ?_
  refine lv_ishl hx hb d_Mo_load_40 ?_
  refine lv_ior hx hb d_Mo_load_41 ?_
  exact ret _ _ _ _ _ S hq d_Mo_load_42
set_option maxHeartbeats 4000000 in
set_option maxRecDepth 100000 in
theorem c_Mo_store (v1 : Int32) (v2 : Int32) (σ : nS) (hok : o_Mo_store v1 v2 σ) : CtV l D cI cZ (wM cI cZ a) exM y_Mo_store b_Mo_store 4 { frames := 0, cells := 0, slots := 0, locals := 0 } [.ref (a 0), .int v1, .int v2] σ (s_Mo_store v1 v2 σ) := by
  generalize hF : s_Mo_store v1 v2 σ = F
  refine metV exM_ok (by decide) (Nat.le_of_ble_eq_true rfl) (fun p e s m args below meth c A Q ls X S hl ret => ?_)
  have hq := hF.symm
  obtain ⟨hx, hb, hml, hown, hts, hK, hA, hE, hlk, hEo⟩ := id X
  have hl : lv_has ls 4 [(0, .ref (a 0)), (1, .int v1), (2, .int v2)] := hl
  have B_Mo_store_2_4 : ∀ (v1 : Int32) (v2 : Int32) (σ : nS) (H : Heap) (locs : List Loc) (ls : Array Slot), (o_Mo_store_2_4 v1 v2 σ) → lv_has ls 4 [(0, .ref (a 0)), (1, .int v1), (2, .int v2), (3, .int (4 : Int32))] → St D (wM cI cZ a) A s σ H locs → F = s_Mo_store_2_4 v1 v2 σ → W p l e ({ frames := 0, cells := 0, slots := 0, locals := 0 } : Room) s m args below meth c H locs 0 0 Q (F0 m 2 ls []) := by
    intro v1 v2 σ H locs ls hok hl S hq
    refine lv_iload_n hx hb d_Mo_store_2 rfl (lv_at hl 3 rfl) ?_
    refine lv_iconst (v := 4) hx hb d_Mo_store_3 (by decide) ?_
    refine lv_icmp_ge (tgt := 31) hx hb d_Mo_store_4 rfl (fun _ => ?_) (fun h9 => absurd (by decide) h9)
    exact ret _ _ _ _ _ S hq d_Mo_store_31
  have B_Mo_store_2_3 : ∀ (v1 : Int32) (v2 : Int32) (σ : nS) (H : Heap) (locs : List Loc) (ls : Array Slot), (o_Mo_store_2_3 v1 v2 σ) → lv_has ls 4 [(0, .ref (a 0)), (1, .int v1), (2, .int v2), (3, .int (3 : Int32))] → St D (wM cI cZ a) A s σ H locs → F = s_Mo_store_2_3 v1 v2 σ → W p l e ({ frames := 0, cells := 0, slots := 0, locals := 0 } : Room) s m args below meth c H locs 0 0 Q (F0 m 2 ls []) := by
    intro v1 v2 σ H locs ls hok hl S hq
    refine lv_iload_n hx hb d_Mo_store_2 rfl (lv_at hl 3 rfl) ?_
    refine lv_iconst (v := 4) hx hb d_Mo_store_3 (by decide) ?_
    refine lv_icmp_ge (tgt := 31) hx hb d_Mo_store_4 rfl (fun h9 => absurd h9 (by decide)) (fun _ => ?_)
    refine lv_aload_n hx hb d_Mo_store_7 rfl (lv_at hl 0 rfl) ?_
    refine g_Mo_7 hx hb hts hown hK S.1 d_Mo_store_8 ?_
    refine lv_iload_n hx hb d_Mo_store_11 rfl (lv_at hl 1 rfl) ?_
    refine lv_iload_n hx hb d_Mo_store_12 rfl (lv_at hl 3 rfl) ?_
    refine lv_iadd hx hb d_Mo_store_13 ?_
    refine lv_iload_n hx hb d_Mo_store_14 rfl (lv_at hl 2 rfl) ?_
    refine lv_bipush (v := 8) hx hb d_Mo_store_15 (by decide) ?_
    refine lv_iload_n hx hb d_Mo_store_17 rfl (lv_at hl 3 rfl) ?_
    refine lv_imul hx hb d_Mo_store_18 ?_
    refine r_ci (v := 24) (by decide) ?_
    refine lv_ishr hx hb d_Mo_store_19 ?_
    refine lv_sipush (v := 255) hx hb d_Mo_store_20 (by decide) ?_
    refine lv_iand hx hb d_Mo_store_23 ?_
    obtain ⟨g1, hok⟩ := hok
    refine st_M_1 (k := ((v1 + (3 : Int32))).toNatClampNeg) hx hb hK S g1 rfl d_Mo_store_24 (fun H locs S => ?_)
    refine lv_iinc (k := 3) (v := (4 : Int32)) hx hb d_Mo_store_25 hl rfl (by first | rfl | decide) (by decide) rfl (fun ls hl => ?_)
    refine lv_goto (tgt := 2) hx hb d_Mo_store_28 rfl ?_
    exact B_Mo_store_2_4 _ _ _ _ _ _ hok (lv_sub hl [1, 2, 3, 0] rfl) S hq
  have B_Mo_store_2_2 : ∀ (v1 : Int32) (v2 : Int32) (σ : nS) (H : Heap) (locs : List Loc) (ls : Array Slot), (o_Mo_store_2_2 v1 v2 σ) → lv_has ls 4 [(0, .ref (a 0)), (1, .int v1), (2, .int v2), (3, .int (2 : Int32))] → St D (wM cI cZ a) A s σ H locs → F = s_Mo_store_2_2 v1 v2 σ → W p l e ({ frames := 0, cells := 0, slots := 0, locals := 0 } : Room) s m args below meth c H locs 0 0 Q (F0 m 2 ls []) := by
    intro v1 v2 σ H locs ls hok hl S hq
    refine lv_iload_n hx hb d_Mo_store_2 rfl (lv_at hl 3 rfl) ?_
    refine lv_iconst (v := 4) hx hb d_Mo_store_3 (by decide) ?_
    refine lv_icmp_ge (tgt := 31) hx hb d_Mo_store_4 rfl (fun h9 => absurd h9 (by decide)) (fun _ => ?_)
    refine lv_aload_n hx hb d_Mo_store_7 rfl (lv_at hl 0 rfl) ?_
    refine g_Mo_7 hx hb hts hown hK S.1 d_Mo_store_8 ?_
    refine lv_iload_n hx hb d_Mo_store_11 rfl (lv_at hl 1 rfl) ?_
    refine lv_iload_n hx hb d_Mo_store_12 rfl (lv_at hl 3 rfl) ?_
    refine lv_iadd hx hb d_Mo_store_13 ?_
    refine lv_iload_n hx hb d_Mo_store_14 rfl (lv_at hl 2 rfl) ?_
    refine lv_bipush (v := 8) hx hb d_Mo_store_15 (by decide) ?_
    refine lv_iload_n hx hb d_Mo_store_17 rfl (lv_at hl 3 rfl) ?_
    refine lv_imul hx hb d_Mo_store_18 ?_
    refine r_ci (v := 16) (by decide) ?_
    refine lv_ishr hx hb d_Mo_store_19 ?_
    refine lv_sipush (v := 255) hx hb d_Mo_store_20 (by decide) ?_
    refine lv_iand hx hb d_Mo_store_23 ?_
    obtain ⟨g2, hok⟩ := hok
    refine st_M_1 (k := ((v1 + (2 : Int32))).toNatClampNeg) hx hb hK S g2 rfl d_Mo_store_24 (fun H locs S => ?_)
    refine lv_iinc (k := 3) (v := (3 : Int32)) hx hb d_Mo_store_25 hl rfl (by first | rfl | decide) (by decide) rfl (fun ls hl => ?_)
    refine lv_goto (tgt := 2) hx hb d_Mo_store_28 rfl ?_
    exact B_Mo_store_2_3 _ _ _ _ _ _ hok (lv_sub hl [1, 2, 3, 0] rfl) S hq
  have B_Mo_store_2_1 : ∀ (v1 : Int32) (v2 : Int32) (σ : nS) (H : Heap) (locs : List Loc) (ls : Array Slot), (o_Mo_store_2_1 v1 v2 σ) → lv_has ls 4 [(0, .ref (a 0)), (1, .int v1), (2, .int v2), (3, .int (1 : Int32))] → St D (wM cI cZ a) A s σ H locs → F = s_Mo_store_2_1 v1 v2 σ → W p l e ({ frames := 0, cells := 0, slots := 0, locals := 0 } : Room) s m args below meth c H locs 0 0 Q (F0 m 2 ls []) := by
    intro v1 v2 σ H locs ls hok hl S hq
    refine lv_iload_n hx hb d_Mo_store_2 rfl (lv_at hl 3 rfl) ?_
    refine lv_iconst (v := 4) hx hb d_Mo_store_3 (by decide) ?_
    refine lv_icmp_ge (tgt := 31) hx hb d_Mo_store_4 rfl (fun h9 => absurd h9 (by decide)) (fun _ => ?_)
    refine lv_aload_n hx hb d_Mo_store_7 rfl (lv_at hl 0 rfl) ?_
    refine g_Mo_7 hx hb hts hown hK S.1 d_Mo_store_8 ?_
    refine lv_iload_n hx hb d_Mo_store_11 rfl (lv_at hl 1 rfl) ?_
    refine lv_iload_n hx hb d_Mo_store_12 rfl (lv_at hl 3 rfl) ?_
    refine lv_iadd hx hb d_Mo_store_13 ?_
    refine lv_iload_n hx hb d_Mo_store_14 rfl (lv_at hl 2 rfl) ?_
    refine lv_bipush (v := 8) hx hb d_Mo_store_15 (by decide) ?_
    refine lv_iload_n hx hb d_Mo_store_17 rfl (lv_at hl 3 rfl) ?_
    refine lv_imul hx hb d_Mo_store_18 ?_
    refine r_ci (v := 8) (by decide) ?_
    refine lv_ishr hx hb d_Mo_store_19 ?_
    refine lv_sipush (v := 255) hx hb d_Mo_store_20 (by decide) ?_
    refine lv_iand hx hb d_Mo_store_23 ?_
    obtain ⟨g3, hok⟩ := hok
    refine st_M_1 (k := ((v1 + (1 : Int32))).toNatClampNeg) hx hb hK S g3 rfl d_Mo_store_24 (fun H locs S => ?_)
    refine lv_iinc (k := 3) (v := (2 : Int32)) hx hb d_Mo_store_25 hl rfl (by first | rfl | decide) (by decide) rfl (fun ls hl => ?_)
    refine lv_goto (tgt := 2) hx hb d_Mo_store_28 rfl ?_
    exact B_Mo_store_2_2 _ _ _ _ _ _ hok (lv_sub hl [1, 2, 3, 0] rfl) S hq
  have B_Mo_store_2_0 : ∀ (v1 : Int32) (v2 : Int32) (σ : nS) (H : Heap) (locs : List Loc) (ls : Array Slot), (o_Mo_store_2_0 v1 v2 σ) → lv_has ls 4 [(0, .ref (a 0)), (1, .int v1), (2, .int v2), (3, .int (0 : Int32))] → St D (wM cI cZ a) A s σ H locs → F = s_Mo_store_2_0 v1 v2 σ → W p l e ({ frames := 0, cells := 0, slots := 0, locals := 0 } : Room) s m args below meth c H locs 0 0 Q (F0 m 2 ls []) := by
    intro v1 v2 σ H locs ls hok hl S hq
    refine lv_iload_n hx hb d_Mo_store_2 rfl (lv_at hl 3 rfl) ?_
    refine lv_iconst (v := 4) hx hb d_Mo_store_3 (by decide) ?_
    refine lv_icmp_ge (tgt := 31) hx hb d_Mo_store_4 rfl (fun h9 => absurd h9 (by decide)) (fun _ => ?_)
    refine lv_aload_n hx hb d_Mo_store_7 rfl (lv_at hl 0 rfl) ?_
    refine g_Mo_7 hx hb hts hown hK S.1 d_Mo_store_8 ?_
    refine lv_iload_n hx hb d_Mo_store_11 rfl (lv_at hl 1 rfl) ?_
    refine lv_iload_n hx hb d_Mo_store_12 rfl (lv_at hl 3 rfl) ?_
    refine lv_iadd hx hb d_Mo_store_13 ?_
    refine lv_iload_n hx hb d_Mo_store_14 rfl (lv_at hl 2 rfl) ?_
    refine lv_bipush (v := 8) hx hb d_Mo_store_15 (by decide) ?_
    refine lv_iload_n hx hb d_Mo_store_17 rfl (lv_at hl 3 rfl) ?_
    refine lv_imul hx hb d_Mo_store_18 ?_
    refine r_ci (v := 0) (by decide) ?_
    refine lv_ishr hx hb d_Mo_store_19 ?_
    refine lv_sipush (v := 255) hx hb d_Mo_store_20 (by decide) ?_
    refine lv_iand hx hb d_Mo_store_23 ?_
    obtain ⟨g4, hok⟩ := hok
    refine st_M_1 (k := ((v1 + (0 : Int32))).toNatClampNeg) hx hb hK S g4 rfl d_Mo_store_24 (fun H locs S => ?_)
    refine lv_iinc (k := 3) (v := (1 : Int32)) hx hb d_Mo_store_25 hl rfl (by first | rfl | decide) (by decide) rfl (fun ls hl => ?_)
    refine lv_goto (tgt := 2) hx hb d_Mo_store_28 rfl ?_
    exact B_Mo_store_2_1 _ _ _ _ _ _ hok (lv_sub hl [1, 2, 3, 0] rfl) S hq
  refine lv_iconst (v := 0) hx hb d_Mo_store_0 (by decide) ?_
  refine lv_istore_n hx hb d_Mo_store_1 rfl hl (by decide) rfl (fun ls hl => ?_)
  exact B_Mo_store_2_0 _ _ _ _ _ _ hok (lv_sub hl [1, 2, 3, 0] rfl) S hq
set_option maxHeartbeats 4000000 in
set_option maxRecDepth 100000 in
theorem c_Mo_barred (v1 : Int32) (v2 : Int32) (σ : nS) : CtZ l D cI cZ (wM cI cZ a) exM y_Mo_barred b_Mo_barred 5 { frames := 0, cells := 0, slots := 0, locals := 0 } [.ref (a 0), .int v1, .int v2] σ (s_Mo_barred v1 v2 σ, σ) := by
  generalize hF : s_Mo_barred v1 v2 σ = F
  refine metZp exM_ok (by decide) (Nat.le_of_ble_eq_true rfl) (fun p e s m args below meth c A Q ls X S hl ret => ?_)
  have hq := hF.symm
  obtain ⟨hx, hb, hml, hown, hts, hK, hA, hE, hlk, hEo⟩ := id X
  have hl : lv_has ls 5 [(0, .ref (a 0)), (1, .int v1), (2, .int v2)] := hl
  have B_Mo_barred_5_4 : ∀ (v1 : Int32) (v2 : Int32) (v3 : Bool) (H : Heap) (locs : List Loc) (ls : Array Slot), lv_has ls 5 [(0, .ref (a 0)), (1, .int v1), (2, .int v2), (3, .int (bI v3)), (4, .int (4 : Int32))] → St D (wM cI cZ a) A s σ H locs → F = s_Mo_barred_5_4 v1 v2 v3 σ → W p l e ({ frames := 0, cells := 0, slots := 0, locals := 0 } : Room) s m args below meth c H locs 0 0 Q (F0 m 5 ls []) := by
    intro v1 v2 v3 H locs ls hl S hq
    refine lv_iload hx hb d_Mo_barred_5 (lv_at hl 4 rfl) ?_
    refine lv_iconst (v := 4) hx hb d_Mo_barred_7 (by decide) ?_
    refine lv_icmp_ge (tgt := 90) hx hb d_Mo_barred_8 rfl (fun _ => ?_) (fun h9 => absurd (by decide) h9)
    refine lv_iload_n hx hb d_Mo_barred_90 rfl (lv_at hl 3 rfl) ?_
    exact ret _ _ _ _ _ S hq d_Mo_barred_91
  have B_Mo_barred_84_3 : ∀ (v1 : Int32) (v2 : Int32) (v3 : Bool) (H : Heap) (locs : List Loc) (ls : Array Slot), lv_has ls 5 [(0, .ref (a 0)), (1, .int v1), (2, .int v2), (3, .int (bI v3)), (4, .int (3 : Int32))] → St D (wM cI cZ a) A s σ H locs → F = s_Mo_barred_84_3 v1 v2 v3 σ → W p l e ({ frames := 0, cells := 0, slots := 0, locals := 0 } : Room) s m args below meth c H locs 0 0 Q (F0 m 84 ls []) := by
    intro v1 v2 v3 H locs ls hl S hq
    refine lv_iinc (k := 4) (v := (4 : Int32)) hx hb d_Mo_barred_84 hl rfl (by first | rfl | decide) (by decide) rfl (fun ls hl => ?_)
    refine lv_goto (tgt := 5) hx hb d_Mo_barred_87 rfl ?_
    exact B_Mo_barred_5_4 _ _ _ _ _ _ (lv_sub hl [1, 2, 3, 4, 0] rfl) S hq
  have B_Mo_barred_83_3 : ∀ (v1 : Int32) (v2 : Int32) (k0 : Bool) (H : Heap) (locs : List Loc) (ls : Array Slot), lv_has ls 5 [(0, .ref (a 0)), (1, .int v1), (2, .int v2), (4, .int (3 : Int32))] → St D (wM cI cZ a) A s σ H locs → F = s_Mo_barred_83_3 v1 v2 k0 σ → W p l e ({ frames := 0, cells := 0, slots := 0, locals := 0 } : Room) s m args below meth c H locs 0 0 Q (F0 m 83 ls [.int (bI k0)]) := by
    intro v1 v2 k0 H locs ls hl S hq
    refine lv_istore_n hx hb d_Mo_barred_83 rfl hl (by decide) rfl (fun ls hl => ?_)
    exact B_Mo_barred_84_3 _ _ _ _ _ _ (lv_sub hl [1, 2, 3, 0, 4] rfl) S hq
  have B_Mo_barred_59_3 : ∀ (v1 : Int32) (v2 : Int32) (H : Heap) (locs : List Loc) (ls : Array Slot), lv_has ls 5 [(0, .ref (a 0)), (1, .int v1), (2, .int v2), (4, .int (3 : Int32))] → St D (wM cI cZ a) A s σ H locs → F = s_Mo_barred_59_3 v1 v2 σ → W p l e ({ frames := 0, cells := 0, slots := 0, locals := 0 } : Room) s m args below meth c H locs 0 0 Q (F0 m 59 ls []) := by
    intro v1 v2 H locs ls hl S hq
    refine lv_iconst (v := 1) hx hb d_Mo_barred_59 (by decide) ?_
    refine lv_goto (tgt := 83) hx hb d_Mo_barred_60 rfl ?_
    exact B_Mo_barred_83_3 _ _ true _ _ _ (lv_sub hl [0, 1, 2, 3] rfl) S hq
  have B_Mo_barred_5_3 : ∀ (v1 : Int32) (v2 : Int32) (v3 : Bool) (H : Heap) (locs : List Loc) (ls : Array Slot), lv_has ls 5 [(0, .ref (a 0)), (1, .int v1), (2, .int v2), (3, .int (bI v3)), (4, .int (3 : Int32))] → St D (wM cI cZ a) A s σ H locs → F = s_Mo_barred_5_3 v1 v2 v3 σ → W p l e ({ frames := 0, cells := 0, slots := 0, locals := 0 } : Room) s m args below meth c H locs 0 0 Q (F0 m 5 ls []) := by
    intro v1 v2 v3 H locs ls hl S hq
    refine lv_iload hx hb d_Mo_barred_5 (lv_at hl 4 rfl) ?_
    refine lv_iconst (v := 4) hx hb d_Mo_barred_7 (by decide) ?_
    refine lv_icmp_ge (tgt := 90) hx hb d_Mo_barred_8 rfl (fun h9 => absurd h9 (by decide)) (fun _ => ?_)
    refine lv_iload_n hx hb d_Mo_barred_11 rfl (lv_at hl 1 rfl) ?_
    refine lv_aload_n hx hb d_Mo_barred_12 rfl (lv_at hl 0 rfl) ?_
    refine g_Mo_29 hx hb hts hown hK S.1 d_Mo_barred_13 ?_
    refine lv_iload hx hb d_Mo_barred_16 (lv_at hl 4 rfl) ?_
    refine ld_M_7 (k := 3) hx hb hK S.1 (vin_dec (by decide)) (by decide) d_Mo_barred_18 ?_
    refine lv_icmp_lt (tgt := 84) hx hb d_Mo_barred_19 rfl (fun h19 => ?_) (fun h19 => ?_)
    · have hq := hq.trans (if_pos h19)
      exact B_Mo_barred_84_3 _ _ _ _ _ _ (lv_sub hl [0, 1, 2, 3, 4] rfl) S hq
    · have hq := hq.trans (if_neg h19)
      refine lv_iload_n hx hb d_Mo_barred_22 rfl (lv_at hl 1 rfl) ?_
      refine lv_aload_n hx hb d_Mo_barred_23 rfl (lv_at hl 0 rfl) ?_
      refine g_Mo_32 hx hb hts hown hK S.1 d_Mo_barred_24 ?_
      refine lv_iload hx hb d_Mo_barred_27 (lv_at hl 4 rfl) ?_
      refine ld_M_8 (k := 3) hx hb hK S.1 (vin_dec (by decide)) (by decide) d_Mo_barred_29 ?_
      refine lv_icmp_ge (tgt := 84) hx hb d_Mo_barred_30 rfl (fun h30 => ?_) (fun h30 => ?_)
      · have hq := hq.trans (if_pos h30)
        exact B_Mo_barred_84_3 _ _ _ _ _ _ (lv_sub hl [0, 1, 2, 3, 4] rfl) S hq
      · have hq := hq.trans (if_neg h30)
        refine lv_iload_n hx hb d_Mo_barred_33 rfl (lv_at hl 2 rfl) ?_
        refine lv_iconst (v := 3) hx hb d_Mo_barred_34 (by decide) ?_
        refine lv_icmp_ne (tgt := 67) hx hb d_Mo_barred_35 rfl (fun h35 => ?_) (fun h35 => ?_)
        · have hq := hq.trans (if_neg h35)
          refine lv_aload_n hx hb d_Mo_barred_67 rfl (lv_at hl 0 rfl) ?_
          refine g_Mo_35 hx hb hts hown hK S.1 d_Mo_barred_68 ?_
          refine lv_iload hx hb d_Mo_barred_71 (lv_at hl 4 rfl) ?_
          refine ld_M_9 (k := 3) hx hb hK S.1 (vin_dec (by decide)) (by decide) d_Mo_barred_73 ?_
          refine lv_iload_n hx hb d_Mo_barred_74 rfl (lv_at hl 2 rfl) ?_
          refine lv_icmp_ge (tgt := 82) hx hb d_Mo_barred_75 rfl (fun h75 => ?_) (fun h75 => ?_)
          · have hq := hq.trans (if_pos h75)
            refine lv_iconst (v := 0) hx hb d_Mo_barred_82 (by decide) ?_
            exact B_Mo_barred_83_3 _ _ false _ _ _ (lv_sub hl [0, 1, 2, 4] rfl) S hq
          · have hq := hq.trans (if_neg h75)
            refine lv_iconst (v := 1) hx hb d_Mo_barred_78 (by decide) ?_
            refine lv_goto (tgt := 83) hx hb d_Mo_barred_79 rfl ?_
            exact B_Mo_barred_83_3 _ _ true _ _ _ (lv_sub hl [0, 1, 2, 4] rfl) S hq
        · have hq := hq.trans (if_pos h35)
          refine lv_aload_n hx hb d_Mo_barred_38 rfl (lv_at hl 0 rfl) ?_
          refine g_Mo_35 hx hb hts hown hK S.1 d_Mo_barred_39 ?_
          refine lv_iload hx hb d_Mo_barred_42 (lv_at hl 4 rfl) ?_
          refine ld_M_9 (k := 3) hx hb hK S.1 (vin_dec (by decide)) (by decide) d_Mo_barred_44 ?_
          refine lv_iconst (v := 1) hx hb d_Mo_barred_45 (by decide) ?_
          refine lv_icmp_lt (tgt := 59) hx hb d_Mo_barred_46 rfl (fun h46 => ?_) (fun h46 => ?_)
          · have hq := hq.trans (if_pos h46)
            exact B_Mo_barred_59_3 _ _ _ _ _ (lv_sub hl [0, 1, 2, 4] rfl) S hq
          · have hq := hq.trans (if_neg h46)
            refine lv_aload_n hx hb d_Mo_barred_49 rfl (lv_at hl 0 rfl) ?_
            refine g_Mo_38 hx hb hts hown hK S.1 d_Mo_barred_50 ?_
            refine lv_iload hx hb d_Mo_barred_53 (lv_at hl 4 rfl) ?_
            refine ld_M_10 (k := 3) hx hb hK S.1 (vin_dec (by decide)) (by decide) d_Mo_barred_55 ?_
            refine lv_if_eq (tgt := 63) hx hb d_Mo_barred_56 rfl (fun h56 => ?_) (fun h56 => ?_)
            · have hq := hq.trans (if_pos h56)
              refine lv_iconst (v := 0) hx hb d_Mo_barred_63 (by decide) ?_
              refine lv_goto (tgt := 83) hx hb d_Mo_barred_64 rfl ?_
              exact B_Mo_barred_83_3 _ _ false _ _ _ (lv_sub hl [0, 1, 2, 4] rfl) S hq
            · have hq := hq.trans (if_neg h56)
              exact B_Mo_barred_59_3 _ _ _ _ _ (lv_sub hl [0, 1, 2, 4] rfl) S hq
  have B_Mo_barred_84_2 : ∀ (v1 : Int32) (v2 : Int32) (v3 : Bool) (H : Heap) (locs : List Loc) (ls : Array Slot), lv_has ls 5 [(0, .ref (a 0)), (1, .int v1), (2, .int v2), (3, .int (bI v3)), (4, .int (2 : Int32))] → St D (wM cI cZ a) A s σ H locs → F = s_Mo_barred_84_2 v1 v2 v3 σ → W p l e ({ frames := 0, cells := 0, slots := 0, locals := 0 } : Room) s m args below meth c H locs 0 0 Q (F0 m 84 ls []) := by
    intro v1 v2 v3 H locs ls hl S hq
    refine lv_iinc (k := 4) (v := (3 : Int32)) hx hb d_Mo_barred_84 hl rfl (by first | rfl | decide) (by decide) rfl (fun ls hl => ?_)
    refine lv_goto (tgt := 5) hx hb d_Mo_barred_87 rfl ?_
    exact B_Mo_barred_5_3 _ _ _ _ _ _ (lv_sub hl [1, 2, 3, 4, 0] rfl) S hq
  have B_Mo_barred_83_2 : ∀ (v1 : Int32) (v2 : Int32) (k0 : Bool) (H : Heap) (locs : List Loc) (ls : Array Slot), lv_has ls 5 [(0, .ref (a 0)), (1, .int v1), (2, .int v2), (4, .int (2 : Int32))] → St D (wM cI cZ a) A s σ H locs → F = s_Mo_barred_83_2 v1 v2 k0 σ → W p l e ({ frames := 0, cells := 0, slots := 0, locals := 0 } : Room) s m args below meth c H locs 0 0 Q (F0 m 83 ls [.int (bI k0)]) := by
    intro v1 v2 k0 H locs ls hl S hq
    refine lv_istore_n hx hb d_Mo_barred_83 rfl hl (by decide) rfl (fun ls hl => ?_)
    exact B_Mo_barred_84_2 _ _ _ _ _ _ (lv_sub hl [1, 2, 3, 0, 4] rfl) S hq
  have B_Mo_barred_59_2 : ∀ (v1 : Int32) (v2 : Int32) (H : Heap) (locs : List Loc) (ls : Array Slot), lv_has ls 5 [(0, .ref (a 0)), (1, .int v1), (2, .int v2), (4, .int (2 : Int32))] → St D (wM cI cZ a) A s σ H locs → F = s_Mo_barred_59_2 v1 v2 σ → W p l e ({ frames := 0, cells := 0, slots := 0, locals := 0 } : Room) s m args below meth c H locs 0 0 Q (F0 m 59 ls []) := by
    intro v1 v2 H locs ls hl S hq
    refine lv_iconst (v := 1) hx hb d_Mo_barred_59 (by decide) ?_
    refine lv_goto (tgt := 83) hx hb d_Mo_barred_60 rfl ?_
    exact B_Mo_barred_83_2 _ _ true _ _ _ (lv_sub hl [0, 1, 2, 3] rfl) S hq
  have B_Mo_barred_5_2 : ∀ (v1 : Int32) (v2 : Int32) (v3 : Bool) (H : Heap) (locs : List Loc) (ls : Array Slot), lv_has ls 5 [(0, .ref (a 0)), (1, .int v1), (2, .int v2), (3, .int (bI v3)), (4, .int (2 : Int32))] → St D (wM cI cZ a) A s σ H locs → F = s_Mo_barred_5_2 v1 v2 v3 σ → W p l e ({ frames := 0, cells := 0, slots := 0, locals := 0 } : Room) s m args below meth c H locs 0 0 Q (F0 m 5 ls []) := by
    intro v1 v2 v3 H locs ls hl S hq
    refine lv_iload hx hb d_Mo_barred_5 (lv_at hl 4 rfl) ?_
    refine lv_iconst (v := 4) hx hb d_Mo_barred_7 (by decide) ?_
    refine lv_icmp_ge (tgt := 90) hx hb d_Mo_barred_8 rfl (fun h9 => absurd h9 (by decide)) (fun _ => ?_)
    refine lv_iload_n hx hb d_Mo_barred_11 rfl (lv_at hl 1 rfl) ?_
    refine lv_aload_n hx hb d_Mo_barred_12 rfl (lv_at hl 0 rfl) ?_
    refine g_Mo_29 hx hb hts hown hK S.1 d_Mo_barred_13 ?_
    refine lv_iload hx hb d_Mo_barred_16 (lv_at hl 4 rfl) ?_
    refine ld_M_7 (k := 2) hx hb hK S.1 (vin_dec (by decide)) (by decide) d_Mo_barred_18 ?_
    refine lv_icmp_lt (tgt := 84) hx hb d_Mo_barred_19 rfl (fun h19 => ?_) (fun h19 => ?_)
    · have hq := hq.trans (if_pos h19)
      exact B_Mo_barred_84_2 _ _ _ _ _ _ (lv_sub hl [0, 1, 2, 3, 4] rfl) S hq
    · have hq := hq.trans (if_neg h19)
      refine lv_iload_n hx hb d_Mo_barred_22 rfl (lv_at hl 1 rfl) ?_
      refine lv_aload_n hx hb d_Mo_barred_23 rfl (lv_at hl 0 rfl) ?_
      refine g_Mo_32 hx hb hts hown hK S.1 d_Mo_barred_24 ?_
      refine lv_iload hx hb d_Mo_barred_27 (lv_at hl 4 rfl) ?_
      refine ld_M_8 (k := 2) hx hb hK S.1 (vin_dec (by decide)) (by decide) d_Mo_barred_29 ?_
      refine lv_icmp_ge (tgt := 84) hx hb d_Mo_barred_30 rfl (fun h30 => ?_) (fun h30 => ?_)
      · have hq := hq.trans (if_pos h30)
        exact B_Mo_barred_84_2 _ _ _ _ _ _ (lv_sub hl [0, 1, 2, 3, 4] rfl) S hq
      · have hq := hq.trans (if_neg h30)
        refine lv_iload_n hx hb d_Mo_barred_33 rfl (lv_at hl 2 rfl) ?_
        refine lv_iconst (v := 3) hx hb d_Mo_barred_34 (by decide) ?_
        refine lv_icmp_ne (tgt := 67) hx hb d_Mo_barred_35 rfl (fun h35 => ?_) (fun h35 => ?_)
        · have hq := hq.trans (if_neg h35)
          refine lv_aload_n hx hb d_Mo_barred_67 rfl (lv_at hl 0 rfl) ?_
          refine g_Mo_35 hx hb hts hown hK S.1 d_Mo_barred_68 ?_
          refine lv_iload hx hb d_Mo_barred_71 (lv_at hl 4 rfl) ?_
          refine ld_M_9 (k := 2) hx hb hK S.1 (vin_dec (by decide)) (by decide) d_Mo_barred_73 ?_
          refine lv_iload_n hx hb d_Mo_barred_74 rfl (lv_at hl 2 rfl) ?_
          refine lv_icmp_ge (tgt := 82) hx hb d_Mo_barred_75 rfl (fun h75 => ?_) (fun h75 => ?_)
          · have hq := hq.trans (if_pos h75)
            refine lv_iconst (v := 0) hx hb d_Mo_barred_82 (by decide) ?_
            exact B_Mo_barred_83_2 _ _ false _ _ _ (lv_sub hl [0, 1, 2, 4] rfl) S hq
          · have hq := hq.trans (if_neg h75)
            refine lv_iconst (v := 1) hx hb d_Mo_barred_78 (by decide) ?_
            refine lv_goto (tgt := 83) hx hb d_Mo_barred_79 rfl ?_
            exact B_Mo_barred_83_2 _ _ true _ _ _ (lv_sub hl [0, 1, 2, 4] rfl) S hq
        · have hq := hq.trans (if_pos h35)
          refine lv_aload_n hx hb d_Mo_barred_38 rfl (lv_at hl 0 rfl) ?_
          refine g_Mo_35 hx hb hts hown hK S.1 d_Mo_barred_39 ?_
          refine lv_iload hx hb d_Mo_barred_42 (lv_at hl 4 rfl) ?_
          refine ld_M_9 (k := 2) hx hb hK S.1 (vin_dec (by decide)) (by decide) d_Mo_barred_44 ?_
          refine lv_iconst (v := 1) hx hb d_Mo_barred_45 (by decide) ?_
          refine lv_icmp_lt (tgt := 59) hx hb d_Mo_barred_46 rfl (fun h46 => ?_) (fun h46 => ?_)
          · have hq := hq.trans (if_pos h46)
            exact B_Mo_barred_59_2 _ _ _ _ _ (lv_sub hl [0, 1, 2, 4] rfl) S hq
          · have hq := hq.trans (if_neg h46)
            refine lv_aload_n hx hb d_Mo_barred_49 rfl (lv_at hl 0 rfl) ?_
            refine g_Mo_38 hx hb hts hown hK S.1 d_Mo_barred_50 ?_
            refine lv_iload hx hb d_Mo_barred_53 (lv_at hl 4 rfl) ?_
            refine ld_M_10 (k := 2) hx hb hK S.1 (vin_dec (by decide)) (by decide) d_Mo_barred_55 ?_
            refine lv_if_eq (tgt := 63) hx hb d_Mo_barred_56 rfl (fun h56 => ?_) (fun h56 => ?_)
            · have hq := hq.trans (if_pos h56)
              refine lv_iconst (v := 0) hx hb d_Mo_barred_63 (by decide) ?_
              refine lv_goto (tgt := 83) hx hb d_Mo_barred_64 rfl ?_
              exact B_Mo_barred_83_2 _ _ false _ _ _ (lv_sub hl [0, 1, 2, 4] rfl) S hq
            · have hq := hq.trans (if_neg h56)
              exact B_Mo_barred_59_2 _ _ _ _ _ (lv_sub hl [0, 1, 2, 4] rfl) S hq
  have B_Mo_barred_84_1 : ∀ (v1 : Int32) (v2 : Int32) (v3 : Bool) (H : Heap) (locs : List Loc) (ls : Array Slot), lv_has ls 5 [(0, .ref (a 0)), (1, .int v1), (2, .int v2), (3, .int (bI v3)), (4, .int (1 : Int32))] → St D (wM cI cZ a) A s σ H locs → F = s_Mo_barred_84_1 v1 v2 v3 σ → W p l e ({ frames := 0, cells := 0, slots := 0, locals := 0 } : Room) s m args below meth c H locs 0 0 Q (F0 m 84 ls []) := by
    intro v1 v2 v3 H locs ls hl S hq
    refine lv_iinc (k := 4) (v := (2 : Int32)) hx hb d_Mo_barred_84 hl rfl (by first | rfl | decide) (by decide) rfl (fun ls hl => ?_)
    refine lv_goto (tgt := 5) hx hb d_Mo_barred_87 rfl ?_
    exact B_Mo_barred_5_2 _ _ _ _ _ _ (lv_sub hl [1, 2, 3, 4, 0] rfl) S hq
  have B_Mo_barred_83_1 : ∀ (v1 : Int32) (v2 : Int32) (k0 : Bool) (H : Heap) (locs : List Loc) (ls : Array Slot), lv_has ls 5 [(0, .ref (a 0)), (1, .int v1), (2, .int v2), (4, .int (1 : Int32))] → St D (wM cI cZ a) A s σ H locs → F = s_Mo_barred_83_1 v1 v2 k0 σ → W p l e ({ frames := 0, cells := 0, slots := 0, locals := 0 } : Room) s m args below meth c H locs 0 0 Q (F0 m 83 ls [.int (bI k0)]) := by
    intro v1 v2 k0 H locs ls hl S hq
    refine lv_istore_n hx hb d_Mo_barred_83 rfl hl (by decide) rfl (fun ls hl => ?_)
    exact B_Mo_barred_84_1 _ _ _ _ _ _ (lv_sub hl [1, 2, 3, 0, 4] rfl) S hq
  have B_Mo_barred_59_1 : ∀ (v1 : Int32) (v2 : Int32) (H : Heap) (locs : List Loc) (ls : Array Slot), lv_has ls 5 [(0, .ref (a 0)), (1, .int v1), (2, .int v2), (4, .int (1 : Int32))] → St D (wM cI cZ a) A s σ H locs → F = s_Mo_barred_59_1 v1 v2 σ → W p l e ({ frames := 0, cells := 0, slots := 0, locals := 0 } : Room) s m args below meth c H locs 0 0 Q (F0 m 59 ls []) := by
    intro v1 v2 H locs ls hl S hq
    refine lv_iconst (v := 1) hx hb d_Mo_barred_59 (by decide) ?_
    refine lv_goto (tgt := 83) hx hb d_Mo_barred_60 rfl ?_
    exact B_Mo_barred_83_1 _ _ true _ _ _ (lv_sub hl [0, 1, 2, 3] rfl) S hq
  have B_Mo_barred_5_1 : ∀ (v1 : Int32) (v2 : Int32) (v3 : Bool) (H : Heap) (locs : List Loc) (ls : Array Slot), lv_has ls 5 [(0, .ref (a 0)), (1, .int v1), (2, .int v2), (3, .int (bI v3)), (4, .int (1 : Int32))] → St D (wM cI cZ a) A s σ H locs → F = s_Mo_barred_5_1 v1 v2 v3 σ → W p l e ({ frames := 0, cells := 0, slots := 0, locals := 0 } : Room) s m args below meth c H locs 0 0 Q (F0 m 5 ls []) := by
    intro v1 v2 v3 H locs ls hl S hq
    refine lv_iload hx hb d_Mo_barred_5 (lv_at hl 4 rfl) ?_
    refine lv_iconst (v := 4) hx hb d_Mo_barred_7 (by decide) ?_
    refine lv_icmp_ge (tgt := 90) hx hb d_Mo_barred_8 rfl (fun h9 => absurd h9 (by decide)) (fun _ => ?_)
    refine lv_iload_n hx hb d_Mo_barred_11 rfl (lv_at hl 1 rfl) ?_
    refine lv_aload_n hx hb d_Mo_barred_12 rfl (lv_at hl 0 rfl) ?_
    refine g_Mo_29 hx hb hts hown hK S.1 d_Mo_barred_13 ?_
    refine lv_iload hx hb d_Mo_barred_16 (lv_at hl 4 rfl) ?_
    refine ld_M_7 (k := 1) hx hb hK S.1 (vin_dec (by decide)) (by decide) d_Mo_barred_18 ?_
    refine lv_icmp_lt (tgt := 84) hx hb d_Mo_barred_19 rfl (fun h19 => ?_) (fun h19 => ?_)
    · have hq := hq.trans (if_pos h19)
      exact B_Mo_barred_84_1 _ _ _ _ _ _ (lv_sub hl [0, 1, 2, 3, 4] rfl) S hq
    · have hq := hq.trans (if_neg h19)
      refine lv_iload_n hx hb d_Mo_barred_22 rfl (lv_at hl 1 rfl) ?_
      refine lv_aload_n hx hb d_Mo_barred_23 rfl (lv_at hl 0 rfl) ?_
      refine g_Mo_32 hx hb hts hown hK S.1 d_Mo_barred_24 ?_
      refine lv_iload hx hb d_Mo_barred_27 (lv_at hl 4 rfl) ?_
      refine ld_M_8 (k := 1) hx hb hK S.1 (vin_dec (by decide)) (by decide) d_Mo_barred_29 ?_
      refine lv_icmp_ge (tgt := 84) hx hb d_Mo_barred_30 rfl (fun h30 => ?_) (fun h30 => ?_)
      · have hq := hq.trans (if_pos h30)
        exact B_Mo_barred_84_1 _ _ _ _ _ _ (lv_sub hl [0, 1, 2, 3, 4] rfl) S hq
      · have hq := hq.trans (if_neg h30)
        refine lv_iload_n hx hb d_Mo_barred_33 rfl (lv_at hl 2 rfl) ?_
        refine lv_iconst (v := 3) hx hb d_Mo_barred_34 (by decide) ?_
        refine lv_icmp_ne (tgt := 67) hx hb d_Mo_barred_35 rfl (fun h35 => ?_) (fun h35 => ?_)
        · have hq := hq.trans (if_neg h35)
          refine lv_aload_n hx hb d_Mo_barred_67 rfl (lv_at hl 0 rfl) ?_
          refine g_Mo_35 hx hb hts hown hK S.1 d_Mo_barred_68 ?_
          refine lv_iload hx hb d_Mo_barred_71 (lv_at hl 4 rfl) ?_
          refine ld_M_9 (k := 1) hx hb hK S.1 (vin_dec (by decide)) (by decide) d_Mo_barred_73 ?_
          refine lv_iload_n hx hb d_Mo_barred_74 rfl (lv_at hl 2 rfl) ?_
          refine lv_icmp_ge (tgt := 82) hx hb d_Mo_barred_75 rfl (fun h75 => ?_) (fun h75 => ?_)
          · have hq := hq.trans (if_pos h75)
            refine lv_iconst (v := 0) hx hb d_Mo_barred_82 (by decide) ?_
            exact B_Mo_barred_83_1 _ _ false _ _ _ (lv_sub hl [0, 1, 2, 4] rfl) S hq
          · have hq := hq.trans (if_neg h75)
            refine lv_iconst (v := 1) hx hb d_Mo_barred_78 (by decide) ?_
            refine lv_goto (tgt := 83) hx hb d_Mo_barred_79 rfl ?_
            exact B_Mo_barred_83_1 _ _ true _ _ _ (lv_sub hl [0, 1, 2, 4] rfl) S hq
        · have hq := hq.trans (if_pos h35)
          refine lv_aload_n hx hb d_Mo_barred_38 rfl (lv_at hl 0 rfl) ?_
          refine g_Mo_35 hx hb hts hown hK S.1 d_Mo_barred_39 ?_
          refine lv_iload hx hb d_Mo_barred_42 (lv_at hl 4 rfl) ?_
          refine ld_M_9 (k := 1) hx hb hK S.1 (vin_dec (by decide)) (by decide) d_Mo_barred_44 ?_
          refine lv_iconst (v := 1) hx hb d_Mo_barred_45 (by decide) ?_
          refine lv_icmp_lt (tgt := 59) hx hb d_Mo_barred_46 rfl (fun h46 => ?_) (fun h46 => ?_)
          · have hq := hq.trans (if_pos h46)
            exact B_Mo_barred_59_1 _ _ _ _ _ (lv_sub hl [0, 1, 2, 4] rfl) S hq
          · have hq := hq.trans (if_neg h46)
            refine lv_aload_n hx hb d_Mo_barred_49 rfl (lv_at hl 0 rfl) ?_
            refine g_Mo_38 hx hb hts hown hK S.1 d_Mo_barred_50 ?_
            refine lv_iload hx hb d_Mo_barred_53 (lv_at hl 4 rfl) ?_
            refine ld_M_10 (k := 1) hx hb hK S.1 (vin_dec (by decide)) (by decide) d_Mo_barred_55 ?_
            refine lv_if_eq (tgt := 63) hx hb d_Mo_barred_56 rfl (fun h56 => ?_) (fun h56 => ?_)
            · have hq := hq.trans (if_pos h56)
              refine lv_iconst (v := 0) hx hb d_Mo_barred_63 (by decide) ?_
              refine lv_goto (tgt := 83) hx hb d_Mo_barred_64 rfl ?_
              exact B_Mo_barred_83_1 _ _ false _ _ _ (lv_sub hl [0, 1, 2, 4] rfl) S hq
            · have hq := hq.trans (if_neg h56)
              exact B_Mo_barred_59_1 _ _ _ _ _ (lv_sub hl [0, 1, 2, 4] rfl) S hq
  have B_Mo_barred_84_0 : ∀ (v1 : Int32) (v2 : Int32) (v3 : Bool) (H : Heap) (locs : List Loc) (ls : Array Slot), lv_has ls 5 [(0, .ref (a 0)), (1, .int v1), (2, .int v2), (3, .int (bI v3)), (4, .int (0 : Int32))] → St D (wM cI cZ a) A s σ H locs → F = s_Mo_barred_84_0 v1 v2 v3 σ → W p l e ({ frames := 0, cells := 0, slots := 0, locals := 0 } : Room) s m args below meth c H locs 0 0 Q (F0 m 84 ls []) := by
    intro v1 v2 v3 H locs ls hl S hq
    refine lv_iinc (k := 4) (v := (1 : Int32)) hx hb d_Mo_barred_84 hl rfl (by first | rfl | decide) (by decide) rfl (fun ls hl => ?_)
    refine lv_goto (tgt := 5) hx hb d_Mo_barred_87 rfl ?_
    exact B_Mo_barred_5_1 _ _ _ _ _ _ (lv_sub hl [1, 2, 3, 4, 0] rfl) S hq
  have B_Mo_barred_83_0 : ∀ (v1 : Int32) (v2 : Int32) (k0 : Bool) (H : Heap) (locs : List Loc) (ls : Array Slot), lv_has ls 5 [(0, .ref (a 0)), (1, .int v1), (2, .int v2), (4, .int (0 : Int32))] → St D (wM cI cZ a) A s σ H locs → F = s_Mo_barred_83_0 v1 v2 k0 σ → W p l e ({ frames := 0, cells := 0, slots := 0, locals := 0 } : Room) s m args below meth c H locs 0 0 Q (F0 m 83 ls [.int (bI k0)]) := by
    intro v1 v2 k0 H locs ls hl S hq
    refine lv_istore_n hx hb d_Mo_barred_83 rfl hl (by decide) rfl (fun ls hl => ?_)
    exact B_Mo_barred_84_0 _ _ _ _ _ _ (lv_sub hl [1, 2, 3, 0, 4] rfl) S hq
  have B_Mo_barred_59_0 : ∀ (v1 : Int32) (v2 : Int32) (H : Heap) (locs : List Loc) (ls : Array Slot), lv_has ls 5 [(0, .ref (a 0)), (1, .int v1), (2, .int v2), (4, .int (0 : Int32))] → St D (wM cI cZ a) A s σ H locs → F = s_Mo_barred_59_0 v1 v2 σ → W p l e ({ frames := 0, cells := 0, slots := 0, locals := 0 } : Room) s m args below meth c H locs 0 0 Q (F0 m 59 ls []) := by
    intro v1 v2 H locs ls hl S hq
    refine lv_iconst (v := 1) hx hb d_Mo_barred_59 (by decide) ?_
    refine lv_goto (tgt := 83) hx hb d_Mo_barred_60 rfl ?_
    exact B_Mo_barred_83_0 _ _ true _ _ _ (lv_sub hl [0, 1, 2, 3] rfl) S hq
  have B_Mo_barred_5_0 : ∀ (v1 : Int32) (v2 : Int32) (H : Heap) (locs : List Loc) (ls : Array Slot), lv_has ls 5 [(0, .ref (a 0)), (1, .int v1), (2, .int v2), (3, .int (0 : Int32)), (4, .int (0 : Int32))] → St D (wM cI cZ a) A s σ H locs → F = s_Mo_barred_5_0 v1 v2 σ → W p l e ({ frames := 0, cells := 0, slots := 0, locals := 0 } : Room) s m args below meth c H locs 0 0 Q (F0 m 5 ls []) := by
    intro v1 v2 H locs ls hl S hq
    refine lv_iload hx hb d_Mo_barred_5 (lv_at hl 4 rfl) ?_
    refine lv_iconst (v := 4) hx hb d_Mo_barred_7 (by decide) ?_
    refine lv_icmp_ge (tgt := 90) hx hb d_Mo_barred_8 rfl (fun h9 => absurd h9 (by decide)) (fun _ => ?_)
    refine lv_iload_n hx hb d_Mo_barred_11 rfl (lv_at hl 1 rfl) ?_
    refine lv_aload_n hx hb d_Mo_barred_12 rfl (lv_at hl 0 rfl) ?_
    refine g_Mo_29 hx hb hts hown hK S.1 d_Mo_barred_13 ?_
    refine lv_iload hx hb d_Mo_barred_16 (lv_at hl 4 rfl) ?_
    refine ld_M_7 (k := 0) hx hb hK S.1 (vin_dec (by decide)) (by decide) d_Mo_barred_18 ?_
    refine lv_icmp_lt (tgt := 84) hx hb d_Mo_barred_19 rfl (fun h19 => ?_) (fun h19 => ?_)
    · have hq := hq.trans (if_pos h19)
      exact B_Mo_barred_84_0 _ _ false _ _ _ (lv_sub hl [0, 1, 2, 3, 4] rfl) S hq
    · have hq := hq.trans (if_neg h19)
      refine lv_iload_n hx hb d_Mo_barred_22 rfl (lv_at hl 1 rfl) ?_
      refine lv_aload_n hx hb d_Mo_barred_23 rfl (lv_at hl 0 rfl) ?_
      refine g_Mo_32 hx hb hts hown hK S.1 d_Mo_barred_24 ?_
      refine lv_iload hx hb d_Mo_barred_27 (lv_at hl 4 rfl) ?_
      refine ld_M_8 (k := 0) hx hb hK S.1 (vin_dec (by decide)) (by decide) d_Mo_barred_29 ?_
      refine lv_icmp_ge (tgt := 84) hx hb d_Mo_barred_30 rfl (fun h30 => ?_) (fun h30 => ?_)
      · have hq := hq.trans (if_pos h30)
        exact B_Mo_barred_84_0 _ _ false _ _ _ (lv_sub hl [0, 1, 2, 3, 4] rfl) S hq
      · have hq := hq.trans (if_neg h30)
        refine lv_iload_n hx hb d_Mo_barred_33 rfl (lv_at hl 2 rfl) ?_
        refine lv_iconst (v := 3) hx hb d_Mo_barred_34 (by decide) ?_
        refine lv_icmp_ne (tgt := 67) hx hb d_Mo_barred_35 rfl (fun h35 => ?_) (fun h35 => ?_)
        · have hq := hq.trans (if_neg h35)
          refine lv_aload_n hx hb d_Mo_barred_67 rfl (lv_at hl 0 rfl) ?_
          refine g_Mo_35 hx hb hts hown hK S.1 d_Mo_barred_68 ?_
          refine lv_iload hx hb d_Mo_barred_71 (lv_at hl 4 rfl) ?_
          refine ld_M_9 (k := 0) hx hb hK S.1 (vin_dec (by decide)) (by decide) d_Mo_barred_73 ?_
          refine lv_iload_n hx hb d_Mo_barred_74 rfl (lv_at hl 2 rfl) ?_
          refine lv_icmp_ge (tgt := 82) hx hb d_Mo_barred_75 rfl (fun h75 => ?_) (fun h75 => ?_)
          · have hq := hq.trans (if_pos h75)
            refine lv_iconst (v := 0) hx hb d_Mo_barred_82 (by decide) ?_
            exact B_Mo_barred_83_0 _ _ false _ _ _ (lv_sub hl [0, 1, 2, 4] rfl) S hq
          · have hq := hq.trans (if_neg h75)
            refine lv_iconst (v := 1) hx hb d_Mo_barred_78 (by decide) ?_
            refine lv_goto (tgt := 83) hx hb d_Mo_barred_79 rfl ?_
            exact B_Mo_barred_83_0 _ _ true _ _ _ (lv_sub hl [0, 1, 2, 4] rfl) S hq
        · have hq := hq.trans (if_pos h35)
          refine lv_aload_n hx hb d_Mo_barred_38 rfl (lv_at hl 0 rfl) ?_
          refine g_Mo_35 hx hb hts hown hK S.1 d_Mo_barred_39 ?_
          refine lv_iload hx hb d_Mo_barred_42 (lv_at hl 4 rfl) ?_
          refine ld_M_9 (k := 0) hx hb hK S.1 (vin_dec (by decide)) (by decide) d_Mo_barred_44 ?_
          refine lv_iconst (v := 1) hx hb d_Mo_barred_45 (by decide) ?_
          refine lv_icmp_lt (tgt := 59) hx hb d_Mo_barred_46 rfl (fun h46 => ?_) (fun h46 => ?_)
          · have hq := hq.trans (if_pos h46)
            exact B_Mo_barred_59_0 _ _ _ _ _ (lv_sub hl [0, 1, 2, 4] rfl) S hq
          · have hq := hq.trans (if_neg h46)
            refine lv_aload_n hx hb d_Mo_barred_49 rfl (lv_at hl 0 rfl) ?_
            refine g_Mo_38 hx hb hts hown hK S.1 d_Mo_barred_50 ?_
            refine lv_iload hx hb d_Mo_barred_53 (lv_at hl 4 rfl) ?_
            refine ld_M_10 (k := 0) hx hb hK S.1 (vin_dec (by decide)) (by decide) d_Mo_barred_55 ?_
            refine lv_if_eq (tgt := 63) hx hb d_Mo_barred_56 rfl (fun h56 => ?_) (fun h56 => ?_)
            · have hq := hq.trans (if_pos h56)
              refine lv_iconst (v := 0) hx hb d_Mo_barred_63 (by decide) ?_
              refine lv_goto (tgt := 83) hx hb d_Mo_barred_64 rfl ?_
              exact B_Mo_barred_83_0 _ _ false _ _ _ (lv_sub hl [0, 1, 2, 4] rfl) S hq
            · have hq := hq.trans (if_neg h56)
              exact B_Mo_barred_59_0 _ _ _ _ _ (lv_sub hl [0, 1, 2, 4] rfl) S hq
  refine lv_iconst (v := 0) hx hb d_Mo_barred_0 (by decide) ?_
  refine lv_istore_n hx hb d_Mo_barred_1 rfl hl (by decide) rfl (fun ls hl => ?_)
  refine lv_iconst (v := 0) hx hb d_Mo_barred_2 (by decide) ?_
  refine lv_istore hx hb d_Mo_barred_3 hl (by decide) rfl (fun ls hl => ?_)
  exact B_Mo_barred_5_0 _ _ _ _ _ (lv_sub hl [2, 3, 4, 1, 0] rfl) S hq
end CT
