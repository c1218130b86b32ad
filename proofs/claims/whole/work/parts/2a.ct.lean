section CT
variable {l : Launch} {D : va_G} {cI cZ : ClassId} {a : Nat → Nat} {t : Nat}
set_option maxHeartbeats 4000000 in
set_option maxRecDepth 100000 in
theorem c_In_bitCount (v0 : Int32) (σ : nS) : CtI l D cI cZ (wC cI cZ a) (exC t) y_In_bitCount b_In_bitCount 1 { frames := 0, cells := 0, slots := 0, locals := 0 } [.int v0] σ (s_In_bitCount v0, σ) := by
  generalize hF : s_In_bitCount v0 = F
  refine metIp (exC_ok t) (by decide) (Nat.le_of_ble_eq_true rfl) (fun p e s m args below meth c A Q ls X S hl ret => ?_)
  have hq := hF.symm
  obtain ⟨hx, hb, hml, hown, hts, hK, hA, hE, hlk, hEo⟩ := id X
  have hl : lv_has ls 1 [(0, .int v0)] := hl
  refine lv_iload_n hx hb d_In_bitCount_0 rfl (lv_at hl 0 rfl) ?_
  refine lv_iload_n hx hb d_In_bitCount_1 rfl (lv_at hl 0 rfl) ?_
  refine lv_iconst (v := 1) hx hb d_In_bitCount_2 (by decide) ?_
  refine r_iushr hx hb d_In_bitCount_3 ?_
  refine lv_ldcw (v := 1431655765) hx hb hown (hts _ k_0) d_In_bitCount_4 ?_
  refine lv_iand hx hb d_In_bitCount_7 ?_
  refine lv_isub hx hb d_In_bitCount_8 ?_
  refine lv_istore_n hx hb d_In_bitCount_9 rfl hl (by decide) rfl (fun ls hl => ?_)
  refine lv_iload_n hx hb d_In_bitCount_10 rfl (lv_at hl 0 rfl) ?_
  refine lv_ldcw (v := 858993459) hx hb hown (hts _ k_1) d_In_bitCount_11 ?_
  refine lv_iand hx hb d_In_bitCount_14 ?_
  refine lv_iload_n hx hb d_In_bitCount_15 rfl (lv_at hl 0 rfl) ?_
  refine lv_iconst (v := 2) hx hb d_In_bitCount_16 (by decide) ?_
  refine r_iushr hx hb d_In_bitCount_17 ?_
  refine lv_ldcw (v := 858993459) hx hb hown (hts _ k_1) d_In_bitCount_18 ?_
  refine lv_iand hx hb d_In_bitCount_21 ?_
  refine lv_iadd hx hb d_In_bitCount_22 ?_
  refine lv_istore_n hx hb d_In_bitCount_23 rfl hl (by decide) rfl (fun ls hl => ?_)
  refine lv_iload_n hx hb d_In_bitCount_24 rfl (lv_at hl 0 rfl) ?_
  refine lv_iload_n hx hb d_In_bitCount_25 rfl (lv_at hl 0 rfl) ?_
  refine lv_iconst (v := 4) hx hb d_In_bitCount_26 (by decide) ?_
  refine r_iushr hx hb d_In_bitCount_27 ?_
  refine lv_iadd hx hb d_In_bitCount_28 ?_
  refine lv_ldcw (v := 252645135) hx hb hown (hts _ k_2) d_In_bitCount_29 ?_
  refine lv_iand hx hb d_In_bitCount_32 ?_
  refine lv_istore_n hx hb d_In_bitCount_33 rfl hl (by decide) rfl (fun ls hl => ?_)
  refine lv_iload_n hx hb d_In_bitCount_34 rfl (lv_at hl 0 rfl) ?_
  refine lv_iload_n hx hb d_In_bitCount_35 rfl (lv_at hl 0 rfl) ?_
  refine lv_bipush (v := 8) hx hb d_In_bitCount_36 (by decide) ?_
  refine r_iushr hx hb d_In_bitCount_38 ?_
  refine lv_iadd hx hb d_In_bitCount_39 ?_
  refine lv_istore_n hx hb d_In_bitCount_40 rfl hl (by decide) rfl (fun ls hl => ?_)
  refine lv_iload_n hx hb d_In_bitCount_41 rfl (lv_at hl 0 rfl) ?_
  refine lv_iload_n hx hb d_In_bitCount_42 rfl (lv_at hl 0 rfl) ?_
  refine lv_bipush (v := 16) hx hb d_In_bitCount_43 (by decide) ?_
  refine r_iushr hx hb d_In_bitCount_45 ?_
  refine lv_iadd hx hb d_In_bitCount_46 ?_
  refine lv_istore_n hx hb d_In_bitCount_47 rfl hl (by decide) rfl (fun ls hl => ?_)
  refine lv_iload_n hx hb d_In_bitCount_48 rfl (lv_at hl 0 rfl) ?_
  refine lv_bipush (v := 63) hx hb d_In_bitCount_49 (by decide) ?_
  refine lv_iand hx hb d_In_bitCount_51 ?_
  exact ret _ _ _ _ _ S hq d_In_bitCount_52
set_option maxHeartbeats 4000000 in
set_option maxRecDepth 100000 in
theorem c_Me_holdsWord (v1 : Int32) (σ : nS) : CtZ l D cI cZ (wC cI cZ a) (exC t) y_Me_holdsWord b_Me_holdsWord 2 { frames := 0, cells := 0, slots := 0, locals := 0 } [.ref (a 3), .int v1] σ (s_Me_holdsWord v1, σ) := by
  generalize hF : s_Me_holdsWord v1 = F
  refine metZp (exC_ok t) (by decide) (Nat.le_of_ble_eq_true rfl) (fun p e s m args below meth c A Q ls X S hl ret => ?_)
  have hq := hF.symm
  obtain ⟨hx, hb, hml, hown, hts, hK, hA, hE, hlk, hEo⟩ := id X
  have hl : lv_has ls 2 [(0, .ref (a 3)), (1, .int v1)] := hl
  have B_Me_holdsWord_21 : ∀ (H : Heap) (locs : List Loc) (ls : Array Slot), lv_has ls 2 [] → St D (wC cI cZ a) A s σ H locs → F = s_Me_holdsWord_21 → W p l e ({ frames := 0, cells := 0, slots := 0, locals := 0 } : Room) s m args below meth c H locs 0 0 Q (F0 m 21 ls []) := by
    intro H locs ls hl S hq
    refine lv_iconst (v := 0) hx hb d_Me_holdsWord_21 (by decide) ?_
    exact ret _ _ _ _ false S hq d_Me_holdsWord_22
  refine lv_iload_n hx hb d_Me_holdsWord_0 rfl (lv_at hl 1 rfl) ?_
  refine lv_if_lt (tgt := 21) hx hb d_Me_holdsWord_1 rfl (fun h1 => ?_) (fun h1 => ?_)
  · have hq := hq.trans (if_pos h1)
    exact B_Me_holdsWord_21 _ _ _ (lv_sub hl [] rfl) S hq
  · have hq := hq.trans (if_neg h1)
    refine lv_iload_n hx hb d_Me_holdsWord_4 rfl (lv_at hl 1 rfl) ?_
    refine lv_sipush (v := 1024) hx hb d_Me_holdsWord_5 (by decide) ?_
    refine lv_icmp_ge (tgt := 21) hx hb d_Me_holdsWord_8 rfl (fun h8 => ?_) (fun h8 => ?_)
    · have hq := hq.trans (if_pos h8)
      exact B_Me_holdsWord_21 _ _ _ (lv_sub hl [] rfl) S hq
    · have hq := hq.trans (if_neg h8)
      refine lv_iload_n hx hb d_Me_holdsWord_11 rfl (lv_at hl 1 rfl) ?_
      refine lv_iconst (v := 3) hx hb d_Me_holdsWord_12 (by decide) ?_
      refine lv_iand hx hb d_Me_holdsWord_13 ?_
      refine lv_if_ne (tgt := 21) hx hb d_Me_holdsWord_14 rfl (fun h14 => ?_) (fun h14 => ?_)
      · have hq := hq.trans (if_neg h14)
        exact B_Me_holdsWord_21 _ _ _ (lv_sub hl [] rfl) S hq
      · have hq := hq.trans (if_pos h14)
        refine lv_iconst (v := 1) hx hb d_Me_holdsWord_17 (by decide) ?_
        refine lv_goto (tgt := 22) hx hb d_Me_holdsWord_18 rfl ?_
        exact ret _ _ _ _ true S hq d_Me_holdsWord_22
set_option maxHeartbeats 4000000 in
set_option maxRecDepth 100000 in
theorem c_Me_store (v1 : Int32) (v2 : Int32) (σ : nS) : CtV l D cI cZ (wC cI cZ a) (exC t) y_Me_store b_Me_store 3 { frames := 0, cells := 0, slots := 0, locals := 0 } [.ref (a 3), .int v1, .int v2] σ (s_Me_store v1 v2 σ) := by
  generalize hF : s_Me_store v1 v2 σ = F
  refine metV (exC_ok t) (by decide) (Nat.le_of_ble_eq_true rfl) (fun p e s m args below meth c A Q ls X S hl ret => ?_)
  have hq := hF.symm
  obtain ⟨hx, hb, hml, hown, hts, hK, hA, hE, hlk, hEo⟩ := id X
  have hl : lv_has ls 3 [(0, .ref (a 3)), (1, .int v1), (2, .int v2)] := hl
  refine lv_aload_n hx hb d_Me_store_0 rfl (lv_at hl 0 rfl) ?_
  refine g_Me_9 hx hb hts hown hK S.1 d_Me_store_1 ?_
  refine lv_iload_n hx hb d_Me_store_4 rfl (lv_at hl 1 rfl) ?_
  refine lv_iconst (v := 2) hx hb d_Me_store_5 (by decide) ?_
  refine lv_ishr hx hb d_Me_store_6 ?_
  refine lv_sipush (v := 255) hx hb d_Me_store_7 (by decide) ?_
  refine lv_iand hx hb d_Me_store_10 ?_
  refine lv_iload_n hx hb d_Me_store_11 rfl (lv_at hl 2 rfl) ?_
  refine st_C_4 (k := (((v1 >>> ((2 : Int32) &&& 31)) &&& (255 : Int32))).toNatClampNeg) hx hb hK S (vin_and255_256 _) rfl d_Me_store_12 (fun H locs S => ?_)
  exact ret _ _ _ _ _ S hq d_Me_store_13
set_option maxHeartbeats 4000000 in
set_option maxRecDepth 100000 in
theorem c_Me_load (v1 : Int32) (σ : nS) : CtI l D cI cZ (wC cI cZ a) (exC t) y_Me_load b_Me_load 2 { frames := 0, cells := 0, slots := 0, locals := 0 } [.ref (a 3), .int v1] σ (s_Me_load v1 σ, σ) := by
  generalize hF : s_Me_load v1 σ = F
  refine metIp (exC_ok t) (by decide) (Nat.le_of_ble_eq_true rfl) (fun p e s m args below meth c A Q ls X S hl ret => ?_)
  have hq := hF.symm
  obtain ⟨hx, hb, hml, hown, hts, hK, hA, hE, hlk, hEo⟩ := id X
  have hl : lv_has ls 2 [(0, .ref (a 3)), (1, .int v1)] := hl
  refine lv_aload_n hx hb d_Me_load_0 rfl (lv_at hl 0 rfl) ?_
  refine g_Me_9 hx hb hts hown hK S.1 d_Me_load_1 ?_
  refine lv_iload_n hx hb d_Me_load_4 rfl (lv_at hl 1 rfl) ?_
  refine lv_iconst (v := 2) hx hb d_Me_load_5 (by decide) ?_
  refine lv_ishr hx hb d_Me_load_6 ?_
  refine lv_sipush (v := 255) hx hb d_Me_load_7 (by decide) ?_
  refine lv_iand hx hb d_Me_load_10 ?_
  refine ld_C_4 (k := (((v1 >>> ((2 : Int32) &&& 31)) &&& (255 : Int32))).toNatClampNeg) hx hb hK S.1 (vin_and255_256 _) rfl d_Me_load_11 ?_
  exact ret _ _ _ _ _ S hq d_Me_load_12
set_option maxHeartbeats 4000000 in
set_option maxRecDepth 100000 in
theorem c_N_even (v0 : Int32) (σ : nS) : CtI l D cI cZ (wC cI cZ a) (exC t) y_N_even b_N_even 1 { frames := 0, cells := 0, slots := 0, locals := 0 } [.int v0] σ (s_N_even v0, σ) := by
  generalize hF : s_N_even v0 = F
  refine metIp (exC_ok t) (by decide) (Nat.le_of_ble_eq_true rfl) (fun p e s m args below meth c A Q ls X S hl ret => ?_)
  have hq := hF.symm
  obtain ⟨hx, hb, hml, hown, hts, hK, hA, hE, hlk, hEo⟩ := id X
  have hl : lv_has ls 1 [(0, .int v0)] := hl
  refine lv_iload_n hx hb d_N_even_0 rfl (lv_at hl 0 rfl) ?_
  refine lv_bipush (v := -2) hx hb d_N_even_1 (by decide) ?_
  refine lv_iand hx hb d_N_even_3 ?_
  exact ret _ _ _ _ _ S hq d_N_even_4
set_option maxHeartbeats 4000000 in
set_option maxRecDepth 100000 in
theorem c_Ti_start (v1 : Int32) (σ : nS) : CtV l D cI cZ (wC cI cZ a) (exC t) y_Ti_start b_Ti_start 2 { frames := 0, cells := 0, slots := 0, locals := 0 } [.ref (a 16), .int v1] σ (s_Ti_start v1 σ) := by
  generalize hF : s_Ti_start v1 σ = F
  refine metV (exC_ok t) (by decide) (Nat.le_of_ble_eq_true rfl) (fun p e s m args below meth c A Q ls X S hl ret => ?_)
  have hq := hF.symm
  obtain ⟨hx, hb, hml, hown, hts, hK, hA, hE, hlk, hEo⟩ := id X
  have hl : lv_has ls 2 [(0, .ref (a 16)), (1, .int v1)] := hl
  refine lv_aload_n hx hb d_Ti_start_0 rfl (lv_at hl 0 rfl) ?_
  refine lv_iload_n hx hb d_Ti_start_1 rfl (lv_at hl 1 rfl) ?_
  refine p_Ti_7 hx hb hts hown hK S d_Ti_start_2 (fun H locs S => ?_)
  refine lv_aload_n hx hb d_Ti_start_5 rfl (lv_at hl 0 rfl) ?_
  refine lv_iload_n hx hb d_Ti_start_6 rfl (lv_at hl 1 rfl) ?_
  refine p_Ti_13 hx hb hts hown hK S d_Ti_start_7 (fun H locs S => ?_)
  exact ret _ _ _ _ _ S hq d_Ti_start_10
set_option maxHeartbeats 4000000 in
set_option maxRecDepth 100000 in
theorem c_Ex_order (v1 : Int32) (v2 : Int32) (v3 : Bool) (σ : nS) (qv1_16 : vp_in v1 16) : CtV l D cI cZ (wC cI cZ a) (exC t) y_Ex_order b_Ex_order 4 { frames := 0, cells := 0, slots := 0, locals := 0 } [.ref (a 10), .int v1, .int v2, .int (bI v3)] σ (s_Ex_order v1 v2 v3 σ) := by
  generalize hF : s_Ex_order v1 v2 v3 σ = F
  refine metV (exC_ok t) (by decide) (Nat.le_of_ble_eq_true rfl) (fun p e s m args below meth c A Q ls X S hl ret => ?_)
  have hq := hF.symm
  obtain ⟨hx, hb, hml, hown, hts, hK, hA, hE, hlk, hEo⟩ := id X
  have hl : lv_has ls 4 [(0, .ref (a 10)), (1, .int v1), (2, .int v2), (3, .int (bI v3))] := hl
  have B_Ex_order_33 : ∀ (k1 : Int32) (k2 : Bool) (σ : nS) (H : Heap) (locs : List Loc) (ls : Array Slot), (vp_in k1 16) → lv_has ls 4 [] → St D (wC cI cZ a) A s σ H locs → F = s_Ex_order_33 k1 k2 σ → W p l e ({ frames := 0, cells := 0, slots := 0, locals := 0 } : Room) s m args below meth c H locs 0 0 Q (F0 m 33 ls [.int (bI k2), .int k1, .ref (a 11)]) := by
    intro k1 k2 σ H locs ls qk1_16 hl S hq
    refine st_C_11 (k := (k1).toNatClampNeg) (b := k2) hx hb hK S qk1_16 rfl d_Ex_order_33 (fun H locs S => ?_)
    exact ret _ _ _ _ _ S hq d_Ex_order_34
  have B_Ex_order_28 : ∀ (k1 : Int32) (σ : nS) (H : Heap) (locs : List Loc) (ls : Array Slot), (vp_in k1 16) → lv_has ls 4 [] → St D (wC cI cZ a) A s σ H locs → F = s_Ex_order_28 k1 σ → W p l e ({ frames := 0, cells := 0, slots := 0, locals := 0 } : Room) s m args below meth c H locs 0 0 Q (F0 m 28 ls [.int k1, .ref (a 11)]) := by
    intro k1 σ H locs ls qk1_16 hl S hq
    refine lv_iconst (v := 1) hx hb d_Ex_order_28 (by decide) ?_
    refine lv_goto (tgt := 33) hx hb d_Ex_order_29 rfl ?_
    exact B_Ex_order_33 _ true _ _ _ _ qk1_16 (lv_sub hl [] rfl) S hq
  have B_Ex_order_32 : ∀ (k1 : Int32) (σ : nS) (H : Heap) (locs : List Loc) (ls : Array Slot), (vp_in k1 16) → lv_has ls 4 [] → St D (wC cI cZ a) A s σ H locs → F = s_Ex_order_32 k1 σ → W p l e ({ frames := 0, cells := 0, slots := 0, locals := 0 } : Room) s m args below meth c H locs 0 0 Q (F0 m 32 ls [.int k1, .ref (a 11)]) := by
    intro k1 σ H locs ls qk1_16 hl S hq
    refine lv_iconst (v := 0) hx hb d_Ex_order_32 (by decide) ?_
    exact B_Ex_order_33 _ false _ _ _ _ qk1_16 (lv_sub hl [] rfl) S hq
  refine lv_aload_n hx hb d_Ex_order_0 rfl (lv_at hl 0 rfl) ?_
  refine g_Ex_21 hx hb hts hown hK S.1 d_Ex_order_1 ?_
  refine lv_iload_n hx hb d_Ex_order_4 rfl (lv_at hl 1 rfl) ?_
  refine lv_iload_n hx hb d_Ex_order_5 rfl (lv_at hl 2 rfl) ?_
  refine st_C_14 (k := (v1).toNatClampNeg) hx hb hK S qv1_16 rfl d_Ex_order_6 (fun H locs S => ?_)
  refine lv_aload_n hx hb d_Ex_order_7 rfl (lv_at hl 0 rfl) ?_
  refine g_Ex_9 hx hb hts hown hK S.1 d_Ex_order_8 ?_
  refine lv_iload_n hx hb d_Ex_order_11 rfl (lv_at hl 1 rfl) ?_
  refine lv_iload_n hx hb d_Ex_order_12 rfl (lv_at hl 3 rfl) ?_
  refine r_ifneZ (tgt := 28) hx hb d_Ex_order_13 rfl (fun h13 => ?_) (fun h13 => ?_)
  · have hq := hq.trans (if_pos h13)
    exact B_Ex_order_28 _ _ _ _ _ qv1_16 (lv_sub hl [] rfl) S hq
  · have hq := hq.trans (if_neg h13)
    refine lv_iload_n hx hb d_Ex_order_16 rfl (lv_at hl 1 rfl) ?_
    refine lv_bipush (v := 7) hx hb d_Ex_order_17 (by decide) ?_
    refine lv_icmp_lt (tgt := 32) hx hb d_Ex_order_19 rfl (fun h19 => ?_) (fun h19 => ?_)
    · have hq := hq.trans (if_pos h19)
      exact B_Ex_order_32 _ _ _ _ _ qv1_16 (lv_sub hl [] rfl) S hq
    · have hq := hq.trans (if_neg h19)
      refine lv_iload_n hx hb d_Ex_order_22 rfl (lv_at hl 1 rfl) ?_
      refine lv_bipush (v := 9) hx hb d_Ex_order_23 (by decide) ?_
      refine lv_icmp_gt (tgt := 32) hx hb d_Ex_order_25 rfl (fun h25 => ?_) (fun h25 => ?_)
      · have hq := hq.trans (if_pos h25)
        exact B_Ex_order_32 _ _ _ _ _ qv1_16 (lv_sub hl [] rfl) S hq
      · have hq := hq.trans (if_neg h25)
        exact B_Ex_order_28 _ _ _ _ _ qv1_16 (lv_sub hl [] rfl) S hq
set_option maxHeartbeats 4000000 in
set_option maxRecDepth 100000 in
theorem c_Ar_lay (v1 : Int32) (v2 : Int32) (v3 : Int32) (v4 : Int32) (v5 : Bool) (σ : nS) (qv1_4 : vp_in v1 4) : CtV l D cI cZ (wC cI cZ a) (exC t) y_Ar_lay b_Ar_lay 6 { frames := 0, cells := 0, slots := 0, locals := 0 } [.ref (a 5), .int v1, .int v2, .int v3, .int v4, .int (bI v5)] σ (s_Ar_lay v1 v2 v3 v4 v5 σ) := by
  generalize hF : s_Ar_lay v1 v2 v3 v4 v5 σ = F
  refine metV (exC_ok t) (by decide) (Nat.le_of_ble_eq_true rfl) (fun p e s m args below meth c A Q ls X S hl ret => ?_)
  have hq := hF.symm
  obtain ⟨hx, hb, hml, hown, hts, hK, hA, hE, hlk, hEo⟩ := id X
  have hl : lv_has ls 6 [(0, .ref (a 5)), (1, .int v1), (2, .int v2), (3, .int v3), (4, .int v4), (5, .int (bI v5))] := hl
  refine lv_aload_n hx hb d_Ar_lay_0 rfl (lv_at hl 0 rfl) ?_
  refine g_Ar_9 hx hb hts hown hK S.1 d_Ar_lay_1 ?_
  refine lv_iload_n hx hb d_Ar_lay_4 rfl (lv_at hl 1 rfl) ?_
  refine lv_iload_n hx hb d_Ar_lay_5 rfl (lv_at hl 2 rfl) ?_
  refine st_C_6 (k := (v1).toNatClampNeg) hx hb hK S qv1_4 rfl d_Ar_lay_6 (fun H locs S => ?_)
  refine lv_aload_n hx hb d_Ar_lay_7 rfl (lv_at hl 0 rfl) ?_
  refine g_Ar_15 hx hb hts hown hK S.1 d_Ar_lay_8 ?_
  refine lv_iload_n hx hb d_Ar_lay_11 rfl (lv_at hl 1 rfl) ?_
  refine lv_iload_n hx hb d_Ar_lay_12 rfl (lv_at hl 3 rfl) ?_
  refine st_C_7 (k := (v1).toNatClampNeg) hx hb hK S qv1_4 rfl d_Ar_lay_13 (fun H locs S => ?_)
  refine lv_aload_n hx hb d_Ar_lay_14 rfl (lv_at hl 0 rfl) ?_
  refine g_Ar_18 hx hb hts hown hK S.1 d_Ar_lay_15 ?_
  refine lv_iload_n hx hb d_Ar_lay_18 rfl (lv_at hl 1 rfl) ?_
  refine lv_iload hx hb d_Ar_lay_19 (lv_at hl 4 rfl) ?_
  refine st_C_8 (k := (v1).toNatClampNeg) hx hb hK S qv1_4 rfl d_Ar_lay_21 (fun H locs S => ?_)
  refine lv_aload_n hx hb d_Ar_lay_22 rfl (lv_at hl 0 rfl) ?_
  refine g_Ar_21 hx hb hts hown hK S.1 d_Ar_lay_23 ?_
  refine lv_iload_n hx hb d_Ar_lay_26 rfl (lv_at hl 1 rfl) ?_
  refine lv_iload hx hb d_Ar_lay_27 (lv_at hl 5 rfl) ?_
  refine st_C_9 (k := (v1).toNatClampNeg) (b := v5) hx hb hK S qv1_4 rfl d_Ar_lay_29 (fun H locs S => ?_)
  exact ret _ _ _ _ _ S hq d_Ar_lay_30
set_option maxHeartbeats 4000000 in
set_option maxRecDepth 100000 in
theorem c_Ti_fires (σ : nS) : CtZ l D cI cZ (wC cI cZ a) (exC t) y_Ti_fires b_Ti_fires 1 { frames := 0, cells := 0, slots := 0, locals := 0 } [.ref (a 16)] σ (s_Ti_fires σ) := by
  generalize hF : s_Ti_fires σ = F
  refine metZ (exC_ok t) (by decide) (Nat.le_of_ble_eq_true rfl) (fun p e s m args below meth c A Q ls X S hl ret => ?_)
  have hq := hF.symm
  obtain ⟨hx, hb, hml, hown, hts, hK, hA, hE, hlk, hEo⟩ := id X
  have hl : lv_has ls 1 [(0, .ref (a 16))] := hl
  refine lv_aload_n hx hb d_Ti_fires_0 rfl (lv_at hl 0 rfl) ?_
  refine g_Ti_7 hx hb hts hown hK S.1 d_Ti_fires_1 ?_
  refine lv_if_ne (tgt := 9) hx hb d_Ti_fires_4 rfl (fun h4 => ?_) (fun h4 => ?_)
  · have hq := hq.trans (if_neg h4)
    refine lv_aload_n hx hb d_Ti_fires_9 rfl (lv_at hl 0 rfl) ?_
    refine lv_dup hx hb d_Ti_fires_10 rfl ?_
    refine g_Ti_13 hx hb hts hown hK S.1 d_Ti_fires_11 ?_
    refine lv_iconst (v := 1) hx hb d_Ti_fires_14 (by decide) ?_
    refine lv_isub hx hb d_Ti_fires_15 ?_
    refine p_Ti_13 hx hb hts hown hK S d_Ti_fires_16 (fun H locs S => ?_)
    refine lv_aload_n hx hb d_Ti_fires_19 rfl (lv_at hl 0 rfl) ?_
    refine g_Ti_13 hx hb hts hown hK S.1 d_Ti_fires_20 ?_
    refine lv_if_eq (tgt := 28) hx hb d_Ti_fires_23 rfl (fun h23 => ?_) (fun h23 => ?_)
    · have hq := hq.trans (if_pos h23)
      refine lv_aload_n hx hb d_Ti_fires_28 rfl (lv_at hl 0 rfl) ?_
      refine lv_aload_n hx hb d_Ti_fires_29 rfl (lv_at hl 0 rfl) ?_
      refine g_Ti_7 hx hb hts hown hK S.1 d_Ti_fires_30 ?_
      refine p_Ti_13 hx hb hts hown hK S d_Ti_fires_33 (fun H locs S => ?_)
      refine lv_iconst (v := 1) hx hb d_Ti_fires_36 (by decide) ?_
      exact ret _ _ _ _ true _ S hq d_Ti_fires_37
    · have hq := hq.trans (if_neg h23)
      refine lv_iconst (v := 0) hx hb d_Ti_fires_26 (by decide) ?_
      exact ret _ _ _ _ false _ S hq d_Ti_fires_27
  · have hq := hq.trans (if_pos h4)
    refine lv_iconst (v := 0) hx hb d_Ti_fires_7 (by decide) ?_
    exact ret _ _ _ _ false _ S hq d_Ti_fires_8
set_option maxHeartbeats 4000000 in
set_option maxRecDepth 100000 in
theorem c_Ex_group (v1 : Int32) (σ : nS) (qv1_16 : vp_in v1 16) : CtI l D cI cZ (wC cI cZ a) (exC t) y_Ex_group b_Ex_group 2 { frames := 0, cells := 0, slots := 0, locals := 0 } [.ref (a 10), .int v1] σ (s_Ex_group v1 σ, σ) := by
  generalize hF : s_Ex_group v1 σ = F
  refine metIp (exC_ok t) (by decide) (Nat.le_of_ble_eq_true rfl) (fun p e s m args below meth c A Q ls X S hl ret => ?_)
  have hq := hF.symm
  obtain ⟨hx, hb, hml, hown, hts, hK, hA, hE, hlk, hEo⟩ := id X
  have hl : lv_has ls 2 [(0, .ref (a 10)), (1, .int v1)] := hl
  refine lv_aload_n hx hb d_Ex_group_0 rfl (lv_at hl 0 rfl) ?_
  refine g_Ex_21 hx hb hts hown hK S.1 d_Ex_group_1 ?_
  refine lv_iload_n hx hb d_Ex_group_4 rfl (lv_at hl 1 rfl) ?_
  refine ld_C_14 (k := (v1).toNatClampNeg) hx hb hK S.1 qv1_16 rfl d_Ex_group_5 ?_
  refine lv_if_ge (tgt := 18) hx hb d_Ex_group_6 rfl (fun h6 => ?_) (fun h6 => ?_)
  · have hq := hq.trans (if_pos h6)
    refine lv_aload_n hx hb d_Ex_group_18 rfl (lv_at hl 0 rfl) ?_
    refine g_Ex_21 hx hb hts hown hK S.1 d_Ex_group_19 ?_
    refine lv_iload_n hx hb d_Ex_group_22 rfl (lv_at hl 1 rfl) ?_
    refine ld_C_14 (k := (v1).toNatClampNeg) hx hb hK S.1 qv1_16 rfl d_Ex_group_23 ?_
    refine lv_aload_n hx hb d_Ex_group_24 rfl (lv_at hl 0 rfl) ?_
    refine g_Ex_25 hx hb hts hown hK S.1 d_Ex_group_25 ?_
    refine lv_ishr hx hb d_Ex_group_28 ?_
    exact ret _ _ _ _ _ S hq d_Ex_group_29
  · have hq := hq.trans (if_neg h6)
    refine lv_aload_n hx hb d_Ex_group_9 rfl (lv_at hl 0 rfl) ?_
    refine g_Ex_21 hx hb hts hown hK S.1 d_Ex_group_10 ?_
    refine lv_iload_n hx hb d_Ex_group_13 rfl (lv_at hl 1 rfl) ?_
    refine ld_C_14 (k := (v1).toNatClampNeg) hx hb hK S.1 qv1_16 rfl d_Ex_group_14 ?_
    refine lv_goto (tgt := 29) hx hb d_Ex_group_15 rfl ?_
    exact ret _ _ _ _ _ S hq d_Ex_group_29
set_option maxHeartbeats 4000000 in
set_option maxRecDepth 100000 in
theorem c_Ex_level (σ : nS) : CtI l D cI cZ (wC cI cZ a) (exC t) y_Ex_level b_Ex_level 3 { frames := 1, cells := 0, slots := 0, locals := 64 } [.ref (a 10)] σ (s_Ex_level σ, σ) := by
  generalize hF : s_Ex_level σ = F
  refine metIp (exC_ok t) (by decide) (Nat.le_of_ble_eq_true rfl) (fun p e s m args below meth c A Q ls X S hl ret => ?_)
  have hq := hF.symm
  obtain ⟨hx, hb, hml, hown, hts, hK, hA, hE, hlk, hEo⟩ := id X
  have hl : lv_has ls 3 [(0, .ref (a 10))] := hl
  have B_Ex_level_70 : ∀ (v1 : Int32) (H : Heap) (locs : List Loc) (ls : Array Slot), lv_has ls 3 [(0, .ref (a 10)), (1, .int v1)] → St D (wC cI cZ a) A s σ H locs → F = s_Ex_level_70 v1 σ → W p l e ({ frames := 1, cells := 0, slots := 0, locals := 64 } : Room) s m args below meth c H locs 0 0 Q (F0 m 70 ls []) := by
    intro v1 H locs ls hl S hq
    refine lv_aload_n hx hb d_Ex_level_70 rfl (lv_at hl 0 rfl) ?_
    refine g_Ex_46 hx hb hts hown hK S.1 d_Ex_level_71 ?_
    refine lv_if_eq (tgt := 85) hx hb d_Ex_level_74 rfl (fun h74 => ?_) (fun h74 => ?_)
    · have hq := hq.trans (if_pos h74)
      refine lv_iload_n hx hb d_Ex_level_85 rfl (lv_at hl 1 rfl) ?_
      exact ret _ _ _ _ _ S hq d_Ex_level_86
    · have hq := hq.trans (if_neg h74)
      refine lv_iload_n hx hb d_Ex_level_77 rfl (lv_at hl 1 rfl) ?_
      refine lv_iconst (v := -1) hx hb d_Ex_level_78 (by decide) ?_
      refine r_min hx hb hml hts hown hl.1 k_3 (Nat.le_of_ble_eq_true rfl) (Nat.le_of_ble_eq_true rfl) d_Ex_level_79 ?_
      refine lv_goto (tgt := 86) hx hb d_Ex_level_82 rfl ?_
      exact ret _ _ _ _ _ S hq d_Ex_level_86
  have B_Ex_level_57 : ∀ (v1 : Int32) (H : Heap) (locs : List Loc) (ls : Array Slot), lv_has ls 3 [(0, .ref (a 10)), (1, .int v1)] → St D (wC cI cZ a) A s σ H locs → F = s_Ex_level_57 v1 σ → W p l e ({ frames := 1, cells := 0, slots := 0, locals := 64 } : Room) s m args below meth c H locs 0 0 Q (F0 m 57 ls []) := by
    intro v1 H locs ls hl S hq
    refine lv_aload_n hx hb d_Ex_level_57 rfl (lv_at hl 0 rfl) ?_
    refine g_Ex_42 hx hb hts hown hK S.1 d_Ex_level_58 ?_
    refine lv_if_eq (tgt := 70) hx hb d_Ex_level_61 rfl (fun h61 => ?_) (fun h61 => ?_)
    · have hq := hq.trans (if_pos h61)
      exact B_Ex_level_70 _ _ _ _ (lv_sub hl [0, 1] rfl) S hq
    · have hq := hq.trans (if_neg h61)
      refine lv_iload_n hx hb d_Ex_level_64 rfl (lv_at hl 1 rfl) ?_
      refine lv_iconst (v := 0) hx hb d_Ex_level_65 (by decide) ?_
      refine r_min hx hb hml hts hown hl.1 k_3 (Nat.le_of_ble_eq_true rfl) (Nat.le_of_ble_eq_true rfl) d_Ex_level_66 ?_
      refine lv_istore_n hx hb d_Ex_level_69 rfl hl (by decide) rfl (fun ls hl => ?_)
      exact B_Ex_level_70 _ _ _ _ (lv_sub hl [1, 0] rfl) S hq
  have B_Ex_level_5_16 : ∀ (v1 : Int32) (H : Heap) (locs : List Loc) (ls : Array Slot), lv_has ls 3 [(0, .ref (a 10)), (1, .int v1), (2, .int (16 : Int32))] → St D (wC cI cZ a) A s σ H locs → F = s_Ex_level_5_16 v1 σ → W p l e ({ frames := 1, cells := 0, slots := 0, locals := 64 } : Room) s m args below meth c H locs 0 0 Q (F0 m 5 ls []) := by
    intro v1 H locs ls hl S hq
    refine lv_iload_n hx hb d_Ex_level_5 rfl (lv_at hl 2 rfl) ?_
    refine lv_bipush (v := 15) hx hb d_Ex_level_6 (by decide) ?_
    refine lv_icmp_gt (tgt := 36) hx hb d_Ex_level_8 rfl (fun _ => ?_) (fun h9 => absurd (by decide) h9)
    refine lv_aload_n hx hb d_Ex_level_36 rfl (lv_at hl 0 rfl) ?_
    refine g_Ex_39 hx hb hts hown hK S.1 d_Ex_level_37 ?_
    refine lv_if_eq (tgt := 57) hx hb d_Ex_level_40 rfl (fun h40 => ?_) (fun h40 => ?_)
    · have hq := hq.trans (if_pos h40)
      exact B_Ex_level_57 _ _ _ _ (lv_sub hl [0, 1] rfl) S hq
    · have hq := hq.trans (if_neg h40)
      refine lv_iload_n hx hb d_Ex_level_43 rfl (lv_at hl 1 rfl) ?_
      refine lv_aload_n hx hb d_Ex_level_44 rfl (lv_at hl 0 rfl) ?_
      refine g_Ex_39 hx hb hts hown hK S.1 d_Ex_level_45 ?_
      refine lv_aload_n hx hb d_Ex_level_48 rfl (lv_at hl 0 rfl) ?_
      refine g_Ex_25 hx hb hts hown hK S.1 d_Ex_level_49 ?_
      refine lv_ishr hx hb d_Ex_level_52 ?_
      refine r_min hx hb hml hts hown hl.1 k_3 (Nat.le_of_ble_eq_true rfl) (Nat.le_of_ble_eq_true rfl) d_Ex_level_53 ?_
      refine lv_istore_n hx hb d_Ex_level_56 rfl hl (by decide) rfl (fun ls hl => ?_)
      exact B_Ex_level_57 _ _ _ _ (lv_sub hl [1, 0] rfl) S hq
  have B_Ex_level_30_15 : ∀ (v1 : Int32) (H : Heap) (locs : List Loc) (ls : Array Slot), lv_has ls 3 [(0, .ref (a 10)), (1, .int v1), (2, .int (15 : Int32))] → St D (wC cI cZ a) A s σ H locs → F = s_Ex_level_30_15 v1 σ → W p l e ({ frames := 1, cells := 0, slots := 0, locals := 64 } : Room) s m args below meth c H locs 0 0 Q (F0 m 30 ls []) := by
    intro v1 H locs ls hl S hq
    refine lv_iinc (k := 2) (v := (16 : Int32)) hx hb d_Ex_level_30 hl rfl (by first | rfl | decide) (by decide) rfl (fun ls hl => ?_)
    refine lv_goto (tgt := 5) hx hb d_Ex_level_33 rfl ?_
    exact B_Ex_level_5_16 _ _ _ _ (lv_sub hl [1, 2, 0] rfl) S hq
  have B_Ex_level_5_15 : ∀ (v1 : Int32) (H : Heap) (locs : List Loc) (ls : Array Slot), lv_has ls 3 [(0, .ref (a 10)), (1, .int v1), (2, .int (15 : Int32))] → St D (wC cI cZ a) A s σ H locs → F = s_Ex_level_5_15 v1 σ → W p l e ({ frames := 1, cells := 0, slots := 0, locals := 64 } : Room) s m args below meth c H locs 0 0 Q (F0 m 5 ls []) := by
    intro v1 H locs ls hl S hq
    refine lv_iload_n hx hb d_Ex_level_5 rfl (lv_at hl 2 rfl) ?_
    refine lv_bipush (v := 15) hx hb d_Ex_level_6 (by decide) ?_
    refine lv_icmp_gt (tgt := 36) hx hb d_Ex_level_8 rfl (fun h9 => absurd h9 (by decide)) (fun _ => ?_)
    refine lv_aload_n hx hb d_Ex_level_11 rfl (lv_at hl 0 rfl) ?_
    refine g_Ex_18 hx hb hts hown hK S.1 d_Ex_level_12 ?_
    refine lv_iload_n hx hb d_Ex_level_15 rfl (lv_at hl 2 rfl) ?_
    refine ld_C_13 (k := 15) hx hb hK S.1 (vin_dec (by decide)) (by decide) d_Ex_level_16 ?_
    refine lv_if_eq (tgt := 30) hx hb d_Ex_level_17 rfl (fun h17 => ?_) (fun h17 => ?_)
    · have hq := hq.trans (if_pos h17)
      exact B_Ex_level_30_15 _ _ _ _ (lv_sub hl [0, 1, 2] rfl) S hq
    · have hq := hq.trans (if_neg h17)
      refine lv_iload_n hx hb d_Ex_level_20 rfl (lv_at hl 1 rfl) ?_
      refine lv_aload_n hx hb d_Ex_level_21 rfl (lv_at hl 0 rfl) ?_
      refine lv_iload_n hx hb d_Ex_level_22 rfl (lv_at hl 2 rfl) ?_
      refine callVIp X S hl (c_Ex_group (15 : Int32) _ (vin_dec (by decide))) v_Ex_29 10 3 ⟨rfl, rfl⟩ (rk_dec (by decide)) rfl rfl (Nat.le_of_ble_eq_true rfl) d_Ex_level_23 (fun H locs S => ?_)
      refine r_min hx hb hml hts hown hl.1 k_3 (Nat.le_of_ble_eq_true rfl) (Nat.le_of_ble_eq_true rfl) d_Ex_level_26 ?_
      refine lv_istore_n hx hb d_Ex_level_29 rfl hl (by decide) rfl (fun ls hl => ?_)
      exact B_Ex_level_30_15 _ _ _ _ (lv_sub hl [1, 0, 2] rfl) S hq
  have B_Ex_level_30_14 : ∀ (v1 : Int32) (H : Heap) (locs : List Loc) (ls : Array Slot), lv_has ls 3 [(0, .ref (a 10)), (1, .int v1), (2, .int (14 : Int32))] → St D (wC cI cZ a) A s σ H locs → F = s_Ex_level_30_14 v1 σ → W p l e ({ frames := 1, cells := 0, slots := 0, locals := 64 } : Room) s m args below meth c H locs 0 0 Q (F0 m 30 ls []) := by
    intro v1 H locs ls hl S hq
    refine lv_iinc (k := 2) (v := (15 : Int32)) hx hb d_Ex_level_30 hl rfl (by first | rfl | decide) (by decide) rfl (fun ls hl => ?_)
    refine lv_goto (tgt := 5) hx hb d_Ex_level_33 rfl ?_
    exact B_Ex_level_5_15 _ _ _ _ (lv_sub hl [1, 2, 0] rfl) S hq
  have B_Ex_level_5_14 : ∀ (v1 : Int32) (H : Heap) (locs : List Loc) (ls : Array Slot), lv_has ls 3 [(0, .ref (a 10)), (1, .int v1), (2, .int (14 : Int32))] → St D (wC cI cZ a) A s σ H locs → F = s_Ex_level_5_14 v1 σ → W p l e ({ frames := 1, cells := 0, slots := 0, locals := 64 } : Room) s m args below meth c H locs 0 0 Q (F0 m 5 ls []) := by
    intro v1 H locs ls hl S hq
    refine lv_iload_n hx hb d_Ex_level_5 rfl (lv_at hl 2 rfl) ?_
    refine lv_bipush (v := 15) hx hb d_Ex_level_6 (by decide) ?_
    refine lv_icmp_gt (tgt := 36) hx hb d_Ex_level_8 rfl (fun h9 => absurd h9 (by decide)) (fun _ => ?_)
    refine lv_aload_n hx hb d_Ex_level_11 rfl (lv_at hl 0 rfl) ?_
    refine g_Ex_18 hx hb hts hown hK S.1 d_Ex_level_12 ?_
    refine lv_iload_n hx hb d_Ex_level_15 rfl (lv_at hl 2 rfl) ?_
    refine ld_C_13 (k := 14) hx hb hK S.1 (vin_dec (by decide)) (by decide) d_Ex_level_16 ?_
    refine lv_if_eq (tgt := 30) hx hb d_Ex_level_17 rfl (fun h17 => ?_) (fun h17 => ?_)
    · have hq := hq.trans (if_pos h17)
      exact B_Ex_level_30_14 _ _ _ _ (lv_sub hl [0, 1, 2] rfl) S hq
    · have hq := hq.trans (if_neg h17)
      refine lv_iload_n hx hb d_Ex_level_20 rfl (lv_at hl 1 rfl) ?_
      refine lv_aload_n hx hb d_Ex_level_21 rfl (lv_at hl 0 rfl) ?_
      refine lv_iload_n hx hb d_Ex_level_22 rfl (lv_at hl 2 rfl) ?_
      refine callVIp X S hl (c_Ex_group (14 : Int32) _ (vin_dec (by decide))) v_Ex_29 10 3 ⟨rfl, rfl⟩ (rk_dec (by decide)) rfl rfl (Nat.le_of_ble_eq_true rfl) d_Ex_level_23 (fun H locs S => ?_)
      refine r_min hx hb hml hts hown hl.1 k_3 (Nat.le_of_ble_eq_true rfl) (Nat.le_of_ble_eq_true rfl) d_Ex_level_26 ?_
      refine lv_istore_n hx hb d_Ex_level_29 rfl hl (by decide) rfl (fun ls hl => ?_)
      exact B_Ex_level_30_14 _ _ _ _ (lv_sub hl [1, 0, 2] rfl) S hq
  have B_Ex_level_30_13 : ∀ (v1 : Int32) (H : Heap) (locs : List Loc) (ls : Array Slot), lv_has ls 3 [(0, .ref (a 10)), (1, .int v1), (2, .int (13 : Int32))] → St D (wC cI cZ a) A s σ H locs → F = s_Ex_level_30_13 v1 σ → W p l e ({ frames := 1, cells := 0, slots := 0, locals := 64 } : Room) s m args below meth c H locs 0 0 Q (F0 m 30 ls []) := by
    intro v1 H locs ls hl S hq
    refine lv_iinc (k := 2) (v := (14 : Int32)) hx hb d_Ex_level_30 hl rfl (by first | rfl | decide) (by decide) rfl (fun ls hl => ?_)
    refine lv_goto (tgt := 5) hx hb d_Ex_level_33 rfl ?_
    exact B_Ex_level_5_14 _ _ _ _ (lv_sub hl [1, 2, 0] rfl) S hq
  have B_Ex_level_5_13 : ∀ (v1 : Int32) (H : Heap) (locs : List Loc) (ls : Array Slot), lv_has ls 3 [(0, .ref (a 10)), (1, .int v1), (2, .int (13 : Int32))] → St D (wC cI cZ a) A s σ H locs → F = s_Ex_level_5_13 v1 σ → W p l e ({ frames := 1, cells := 0, slots := 0, locals := 64 } : Room) s m args below meth c H locs 0 0 Q (F0 m 5 ls []) := by
    intro v1 H locs ls hl S hq
    refine lv_iload_n hx hb d_Ex_level_5 rfl (lv_at hl 2 rfl) ?_
    refine lv_bipush (v := 15) hx hb d_Ex_level_6 (by decide) ?_
    refine lv_icmp_gt (tgt := 36) hx hb d_Ex_level_8 rfl (fun h9 => absurd h9 (by decide)) (fun _ => ?_)
    refine lv_aload_n hx hb d_Ex_level_11 rfl (lv_at hl 0 rfl) ?_
    refine g_Ex_18 hx hb hts hown hK S.1 d_Ex_level_12 ?_
    refine lv_iload_n hx hb d_Ex_level_15 rfl (lv_at hl 2 rfl) ?_
    refine ld_C_13 (k := 13) hx hb hK S.1 (vin_dec (by decide)) (by decide) d_Ex_level_16 ?_
    refine lv_if_eq (tgt := 30) hx hb d_Ex_level_17 rfl (fun h17 => ?_) (fun h17 => ?_)
    · have hq := hq.trans (if_pos h17)
      exact B_Ex_level_30_13 _ _ _ _ (lv_sub hl [0, 1, 2] rfl) S hq
    · have hq := hq.trans (if_neg h17)
      refine lv_iload_n hx hb d_Ex_level_20 rfl (lv_at hl 1 rfl) ?_
      refine lv_aload_n hx hb d_Ex_level_21 rfl (lv_at hl 0 rfl) ?_
      refine lv_iload_n hx hb d_Ex_level_22 rfl (lv_at hl 2 rfl) ?_
      refine callVIp X S hl (c_Ex_group (13 : Int32) _ (vin_dec (by decide))) v_Ex_29 10 3 ⟨rfl, rfl⟩ (rk_dec (by decide)) rfl rfl (Nat.le_of_ble_eq_true rfl) d_Ex_level_23 (fun H locs S => ?_)
      refine r_min hx hb hml hts hown hl.1 k_3 (Nat.le_of_ble_eq_true rfl) (Nat.le_of_ble_eq_true rfl) d_Ex_level_26 ?_
      refine lv_istore_n hx hb d_Ex_level_29 rfl hl (by decide) rfl (fun ls hl => ?_)
      exact B_Ex_level_30_13 _ _ _ _ (lv_sub hl [1, 0, 2] rfl) S hq
  have B_Ex_level_30_12 : ∀ (v1 : Int32) (H : Heap) (locs : List Loc) (ls : Array Slot), lv_has ls 3 [(0, .ref (a 10)), (1, .int v1), (2, .int (12 : Int32))] → St D (wC cI cZ a) A s σ H locs → F = s_Ex_level_30_12 v1 σ → W p l e ({ frames := 1, cells := 0, slots := 0, locals := 64 } : Room) s m args below meth c H locs 0 0 Q (F0 m 30 ls []) := by
    intro v1 H locs ls hl S hq
    refine lv_iinc (k := 2) (v := (13 : Int32)) hx hb d_Ex_level_30 hl rfl (by first | rfl | decide) (by decide) rfl (fun ls hl => ?_)
    refine lv_goto (tgt := 5) hx hb d_Ex_level_33 rfl ?_
    exact B_Ex_level_5_13 _ _ _ _ (lv_sub hl [1, 2, 0] rfl) S hq
  have B_Ex_level_5_12 : ∀ (v1 : Int32) (H : Heap) (locs : List Loc) (ls : Array Slot), lv_has ls 3 [(0, .ref (a 10)), (1, .int v1), (2, .int (12 : Int32))] → St D (wC cI cZ a) A s σ H locs → F = s_Ex_level_5_12 v1 σ → W p l e ({ frames := 1, cells := 0, slots := 0, locals := 64 } : Room) s m args below meth c H locs 0 0 Q (F0 m 5 ls []) := by
    intro v1 H locs ls hl S hq
    refine lv_iload_n hx hb d_Ex_level_5 rfl (lv_at hl 2 rfl) ?_
    refine lv_bipush (v := 15) hx hb d_Ex_level_6 (by decide) ?_
    refine lv_icmp_gt (tgt := 36) hx hb d_Ex_level_8 rfl (fun h9 => absurd h9 (by decide)) (fun _ => ?_)
    refine lv_aload_n hx hb d_Ex_level_11 rfl (lv_at hl 0 rfl) ?_
    refine g_Ex_18 hx hb hts hown hK S.1 d_Ex_level_12 ?_
    refine lv_iload_n hx hb d_Ex_level_15 rfl (lv_at hl 2 rfl) ?_
    refine ld_C_13 (k := 12) hx hb hK S.1 (vin_dec (by decide)) (by decide) d_Ex_level_16 ?_
    refine lv_if_eq (tgt := 30) hx hb d_Ex_level_17 rfl (fun h17 => ?_) (fun h17 => ?_)
    · have hq := hq.trans (if_pos h17)
      exact B_Ex_level_30_12 _ _ _ _ (lv_sub hl [0, 1, 2] rfl) S hq
    · have hq := hq.trans (if_neg h17)
      refine lv_iload_n hx hb d_Ex_level_20 rfl (lv_at hl 1 rfl) ?_
      refine lv_aload_n hx hb d_Ex_level_21 rfl (lv_at hl 0 rfl) ?_
      refine lv_iload_n hx hb d_Ex_level_22 rfl (lv_at hl 2 rfl) ?_
      refine callVIp X S hl (c_Ex_group (12 : Int32) _ (vin_dec (by decide))) v_Ex_29 10 3 ⟨rfl, rfl⟩ (rk_dec (by decide)) rfl rfl (Nat.le_of_ble_eq_true rfl) d_Ex_level_23 (fun H locs S => ?_)
      refine r_min hx hb hml hts hown hl.1 k_3 (Nat.le_of_ble_eq_true rfl) (Nat.le_of_ble_eq_true rfl) d_Ex_level_26 ?_
      refine lv_istore_n hx hb d_Ex_level_29 rfl hl (by decide) rfl (fun ls hl => ?_)
      exact B_Ex_level_30_12 _ _ _ _ (lv_sub hl [1, 0, 2] rfl) S hq
  have B_Ex_level_30_11 : ∀ (v1 : Int32) (H : Heap) (locs : List Loc) (ls : Array Slot), lv_has ls 3 [(0, .ref (a 10)), (1, .int v1), (2, .int (11 : Int32))] → St D (wC cI cZ a) A s σ H locs → F = s_Ex_level_30_11 v1 σ → W p l e ({ frames := 1, cells := 0, slots := 0, locals := 64 } : Room) s m args below meth c H locs 0 0 Q (F0 m 30 ls []) := by
    intro v1 H locs ls hl S hq
    refine lv_iinc (k := 2) (v := (12 : Int32)) hx hb d_Ex_level_30 hl rfl (by first | rfl | decide) (by decide) rfl (fun ls hl => ?_)
    refine lv_goto (tgt := 5) hx hb d_Ex_level_33 rfl ?_
    exact B_Ex_level_5_12 _ _ _ _ (lv_sub hl [1, 2, 0] rfl) S hq
  have B_Ex_level_5_11 : ∀ (v1 : Int32) (H : Heap) (locs : List Loc) (ls : Array Slot), lv_has ls 3 [(0, .ref (a 10)), (1, .int v1), (2, .int (11 : Int32))] → St D (wC cI cZ a) A s σ H locs → F = s_Ex_level_5_11 v1 σ → W p l e ({ frames := 1, cells := 0, slots := 0, locals := 64 } : Room) s m args below meth c H locs 0 0 Q (F0 m 5 ls []) := by
    intro v1 H locs ls hl S hq
    refine lv_iload_n hx hb d_Ex_level_5 rfl (lv_at hl 2 rfl) ?_
    refine lv_bipush (v := 15) hx hb d_Ex_level_6 (by decide) ?_
    refine lv_icmp_gt (tgt := 36) hx hb d_Ex_level_8 rfl (fun h9 => absurd h9 (by decide)) (fun _ => ?_)
    refine lv_aload_n hx hb d_Ex_level_11 rfl (lv_at hl 0 rfl) ?_
    refine g_Ex_18 hx hb hts hown hK S.1 d_Ex_level_12 ?_
    refine lv_iload_n hx hb d_Ex_level_15 rfl (lv_at hl 2 rfl) ?_
    refine ld_C_13 (k := 11) hx hb hK S.1 (vin_dec (by decide)) (by decide) d_Ex_level_16 ?_
    refine lv_if_eq (tgt := 30) hx hb d_Ex_level_17 rfl (fun h17 => ?_) (fun h17 => ?_)
    · have hq := hq.trans (if_pos h17)
      exact B_Ex_level_30_11 _ _ _ _ (lv_sub hl [0, 1, 2] rfl) S hq
    · have hq := hq.trans (if_neg h17)
      refine lv_iload_n hx hb d_Ex_level_20 rfl (lv_at hl 1 rfl) ?_
      refine lv_aload_n hx hb d_Ex_level_21 rfl (lv_at hl 0 rfl) ?_
      refine lv_iload_n hx hb d_Ex_level_22 rfl (lv_at hl 2 rfl) ?_
      refine callVIp X S hl (c_Ex_group (11 : Int32) _ (vin_dec (by decide))) v_Ex_29 10 3 ⟨rfl, rfl⟩ (rk_dec (by decide)) rfl rfl (Nat.le_of_ble_eq_true rfl) d_Ex_level_23 (fun H locs S => ?_)
      refine r_min hx hb hml hts hown hl.1 k_3 (Nat.le_of_ble_eq_true rfl) (Nat.le_of_ble_eq_true rfl) d_Ex_level_26 ?_
      refine lv_istore_n hx hb d_Ex_level_29 rfl hl (by decide) rfl (fun ls hl => ?_)
      exact B_Ex_level_30_11 _ _ _ _ (lv_sub hl [1, 0, 2] rfl) S hq
  have B_Ex_level_30_10 : ∀ (v1 : Int32) (H : Heap) (locs : List Loc) (ls : Array Slot), lv_has ls 3 [(0, .ref (a 10)), (1, .int v1), (2, .int (10 : Int32))] → St D (wC cI cZ a) A s σ H locs → F = s_Ex_level_30_10 v1 σ → W p l e ({ frames := 1, cells := 0, slots := 0, locals := 64 } : Room) s m args below meth c H locs 0 0 Q (F0 m 30 ls []) := by
    intro v1 H locs ls hl S hq
    refine lv_iinc (k := 2) (v := (11 : Int32)) hx hb d_Ex_level_30 hl rfl (by first | rfl | decide) (by decide) rfl (fun ls hl => ?_)
    refine lv_goto (tgt := 5) hx hb d_Ex_level_33 rfl ?_
    exact B_Ex_level_5_11 _ _ _ _ (lv_sub hl [1, 2, 0] rfl) S hq
  have B_Ex_level_5_10 : ∀ (v1 : Int32) (H : Heap) (locs : List Loc) (ls : Array Slot), lv_has ls 3 [(0, .ref (a 10)), (1, .int v1), (2, .int (10 : Int32))] → St D (wC cI cZ a) A s σ H locs → F = s_Ex_level_5_10 v1 σ → W p l e ({ frames := 1, cells := 0, slots := 0, locals := 64 } : Room) s m args below meth c H locs 0 0 Q (F0 m 5 ls []) := by
    intro v1 H locs ls hl S hq
    refine lv_iload_n hx hb d_Ex_level_5 rfl (lv_at hl 2 rfl) ?_
    refine lv_bipush (v := 15) hx hb d_Ex_level_6 (by decide) ?_
    refine lv_icmp_gt (tgt := 36) hx hb d_Ex_level_8 rfl (fun h9 => absurd h9 (by decide)) (fun _ => ?_)
    refine lv_aload_n hx hb d_Ex_level_11 rfl (lv_at hl 0 rfl) ?_
    refine g_Ex_18 hx hb hts hown hK S.1 d_Ex_level_12 ?_
    refine lv_iload_n hx hb d_Ex_level_15 rfl (lv_at hl 2 rfl) ?_
    refine ld_C_13 (k := 10) hx hb hK S.1 (vin_dec (by decide)) (by decide) d_Ex_level_16 ?_
    refine lv_if_eq (tgt := 30) hx hb d_Ex_level_17 rfl (fun h17 => ?_) (fun h17 => ?_)
    · have hq := hq.trans (if_pos h17)
      exact B_Ex_level_30_10 _ _ _ _ (lv_sub hl [0, 1, 2] rfl) S hq
    · have hq := hq.trans (if_neg h17)
      refine lv_iload_n hx hb d_Ex_level_20 rfl (lv_at hl 1 rfl) ?_
      refine lv_aload_n hx hb d_Ex_level_21 rfl (lv_at hl 0 rfl) ?_
      refine lv_iload_n hx hb d_Ex_level_22 rfl (lv_at hl 2 rfl) ?_
      refine callVIp X S hl (c_Ex_group (10 : Int32) _ (vin_dec (by decide))) v_Ex_29 10 3 ⟨rfl, rfl⟩ (rk_dec (by decide)) rfl rfl (Nat.le_of_ble_eq_true rfl) d_Ex_level_23 (fun H locs S => ?_)
      refine r_min hx hb hml hts hown hl.1 k_3 (Nat.le_of_ble_eq_true rfl) (Nat.le_of_ble_eq_true rfl) d_Ex_level_26 ?_
      refine lv_istore_n hx hb d_Ex_level_29 rfl hl (by decide) rfl (fun ls hl => ?_)
      exact B_Ex_level_30_10 _ _ _ _ (lv_sub hl [1, 0, 2] rfl) S hq
  have B_Ex_level_30_9 : ∀ (v1 : Int32) (H : Heap) (locs : List Loc) (ls : Array Slot), lv_has ls 3 [(0, .ref (a 10)), (1, .int v1), (2, .int (9 : Int32))] → St D (wC cI cZ a) A s σ H locs → F = s_Ex_level_30_9 v1 σ → W p l e ({ frames := 1, cells := 0, slots := 0, locals := 64 } : Room) s m args below meth c H locs 0 0 Q (F0 m 30 ls []) := by
    intro v1 H locs ls hl S hq
    refine lv_iinc (k := 2) (v := (10 : Int32)) hx hb d_Ex_level_30 hl rfl (by first | rfl | decide) (by decide) rfl (fun ls hl => ?_)
    refine lv_goto (tgt := 5) hx hb d_Ex_level_33 rfl ?_
    exact B_Ex_level_5_10 _ _ _ _ (lv_sub hl [1, 2, 0] rfl) S hq
  have B_Ex_level_5_9 : ∀ (v1 : Int32) (H : Heap) (locs : List Loc) (ls : Array Slot), lv_has ls 3 [(0, .ref (a 10)), (1, .int v1), (2, .int (9 : Int32))] → St D (wC cI cZ a) A s σ H locs → F = s_Ex_level_5_9 v1 σ → W p l e ({ frames := 1, cells := 0, slots := 0, locals := 64 } : Room) s m args below meth c H locs 0 0 Q (F0 m 5 ls []) := by
    intro v1 H locs ls hl S hq
    refine lv_iload_n hx hb d_Ex_level_5 rfl (lv_at hl 2 rfl) ?_
    refine lv_bipush (v := 15) hx hb d_Ex_level_6 (by decide) ?_
    refine lv_icmp_gt (tgt := 36) hx hb d_Ex_level_8 rfl (fun h9 => absurd h9 (by decide)) (fun _ => ?_)
    refine lv_aload_n hx hb d_Ex_level_11 rfl (lv_at hl 0 rfl) ?_
    refine g_Ex_18 hx hb hts hown hK S.1 d_Ex_level_12 ?_
    refine lv_iload_n hx hb d_Ex_level_15 rfl (lv_at hl 2 rfl) ?_
    refine ld_C_13 (k := 9) hx hb hK S.1 (vin_dec (by decide)) (by decide) d_Ex_level_16 ?_
    refine lv_if_eq (tgt := 30) hx hb d_Ex_level_17 rfl (fun h17 => ?_) (fun h17 => ?_)
    · have hq := hq.trans (if_pos h17)
      exact B_Ex_level_30_9 _ _ _ _ (lv_sub hl [0, 1, 2] rfl) S hq
    · have hq := hq.trans (if_neg h17)
      refine lv_iload_n hx hb d_Ex_level_20 rfl (lv_at hl 1 rfl) ?_
      refine lv_aload_n hx hb d_Ex_level_21 rfl (lv_at hl 0 rfl) ?_
      refine lv_iload_n hx hb d_Ex_level_22 rfl (lv_at hl 2 rfl) ?_
      refine callVIp X S hl (c_Ex_group (9 : Int32) _ (vin_dec (by decide))) v_Ex_29 10 3 ⟨rfl, rfl⟩ (rk_dec (by decide)) rfl rfl (Nat.le_of_ble_eq_true rfl) d_Ex_level_23 (fun H locs S => ?_)
      refine r_min hx hb hml hts hown hl.1 k_3 (Nat.le_of_ble_eq_true rfl) (Nat.le_of_ble_eq_true rfl) d_Ex_level_26 ?_
      refine lv_istore_n hx hb d_Ex_level_29 rfl hl (by decide) rfl (fun ls hl => ?_)
      exact B_Ex_level_30_9 _ _ _ _ (lv_sub hl [1, 0, 2] rfl) S hq
  have B_Ex_level_30_8 : ∀ (v1 : Int32) (H : Heap) (locs : List Loc) (ls : Array Slot), lv_has ls 3 [(0, .ref (a 10)), (1, .int v1), (2, .int (8 : Int32))] → St D (wC cI cZ a) A s σ H locs → F = s_Ex_level_30_8 v1 σ → W p l e ({ frames := 1, cells := 0, slots := 0, locals := 64 } : Room) s m args below meth c H locs 0 0 Q (F0 m 30 ls []) := by
    intro v1 H locs ls hl S hq
    refine lv_iinc (k := 2) (v := (9 : Int32)) hx hb d_Ex_level_30 hl rfl (by first | rfl | decide) (by decide) rfl (fun ls hl => ?_)
    refine lv_goto (tgt := 5) hx hb d_Ex_level_33 rfl ?_
    exact B_Ex_level_5_9 _ _ _ _ (lv_sub hl [1, 2, 0] rfl) S hq
  have B_Ex_level_5_8 : ∀ (v1 : Int32) (H : Heap) (locs : List Loc) (ls : Array Slot), lv_has ls 3 [(0, .ref (a 10)), (1, .int v1), (2, .int (8 : Int32))] → St D (wC cI cZ a) A s σ H locs → F = s_Ex_level_5_8 v1 σ → W p l e ({ frames := 1, cells := 0, slots := 0, locals := 64 } : Room) s m args below meth c H locs 0 0 Q (F0 m 5 ls []) := by
    intro v1 H locs ls hl S hq
    refine lv_iload_n hx hb d_Ex_level_5 rfl (lv_at hl 2 rfl) ?_
    refine lv_bipush (v := 15) hx hb d_Ex_level_6 (by decide) ?_
    refine lv_icmp_gt (tgt := 36) hx hb d_Ex_level_8 rfl (fun h9 => absurd h9 (by decide)) (fun _ => ?_)
    refine lv_aload_n hx hb d_Ex_level_11 rfl (lv_at hl 0 rfl) ?_
    refine g_Ex_18 hx hb hts hown hK S.1 d_Ex_level_12 ?_
    refine lv_iload_n hx hb d_Ex_level_15 rfl (lv_at hl 2 rfl) ?_
    refine ld_C_13 (k := 8) hx hb hK S.1 (vin_dec (by decide)) (by decide) d_Ex_level_16 ?_
    refine lv_if_eq (tgt := 30) hx hb d_Ex_level_17 rfl (fun h17 => ?_) (fun h17 => ?_)
    · have hq := hq.trans (if_pos h17)
      exact B_Ex_level_30_8 _ _ _ _ (lv_sub hl [0, 1, 2] rfl) S hq
    · have hq := hq.trans (if_neg h17)
      refine lv_iload_n hx hb d_Ex_level_20 rfl (lv_at hl 1 rfl) ?_
      refine lv_aload_n hx hb d_Ex_level_21 rfl (lv_at hl 0 rfl) ?_
      refine lv_iload_n hx hb d_Ex_level_22 rfl (lv_at hl 2 rfl) ?_
      refine callVIp X S hl (c_Ex_group (8 : Int32) _ (vin_dec (by decide))) v_Ex_29 10 3 ⟨rfl, rfl⟩ (rk_dec (by decide)) rfl rfl (Nat.le_of_ble_eq_true rfl) d_Ex_level_23 (fun H locs S => ?_)
      refine r_min hx hb hml hts hown hl.1 k_3 (Nat.le_of_ble_eq_true rfl) (Nat.le_of_ble_eq_true rfl) d_Ex_level_26 ?_
      refine lv_istore_n hx hb d_Ex_level_29 rfl hl (by decide) rfl (fun ls hl => ?_)
      exact B_Ex_level_30_8 _ _ _ _ (lv_sub hl [1, 0, 2] rfl) S hq
  have B_Ex_level_30_7 : ∀ (v1 : Int32) (H : Heap) (locs : List Loc) (ls : Array Slot), lv_has ls 3 [(0, .ref (a 10)), (1, .int v1), (2, .int (7 : Int32))] → St D (wC cI cZ a) A s σ H locs → F = s_Ex_level_30_7 v1 σ → W p l e ({ frames := 1, cells := 0, slots := 0, locals := 64 } : Room) s m args below meth c H locs 0 0 Q (F0 m 30 ls []) := by
    intro v1 H locs ls hl S hq
    refine lv_iinc (k := 2) (v := (8 : Int32)) hx hb d_Ex_level_30 hl rfl (by first | rfl | decide) (by decide) rfl (fun ls hl => ?_)
    refine lv_goto (tgt := 5) hx hb d_Ex_level_33 rfl ?_
    exact B_Ex_level_5_8 _ _ _ _ (lv_sub hl [1, 2, 0] rfl) S hq
  have B_Ex_level_5_7 : ∀ (v1 : Int32) (H : Heap) (locs : List Loc) (ls : Array Slot), lv_has ls 3 [(0, .ref (a 10)), (1, .int v1), (2, .int (7 : Int32))] → St D (wC cI cZ a) A s σ H locs → F = s_Ex_level_5_7 v1 σ → W p l e ({ frames := 1, cells := 0, slots := 0, locals := 64 } : Room) s m args below meth c H locs 0 0 Q (F0 m 5 ls []) := by
    intro v1 H locs ls hl S hq
    refine lv_iload_n hx hb d_Ex_level_5 rfl (lv_at hl 2 rfl) ?_
    refine lv_bipush (v := 15) hx hb d_Ex_level_6 (by decide) ?_
    refine lv_icmp_gt (tgt := 36) hx hb d_Ex_level_8 rfl (fun h9 => absurd h9 (by decide)) (fun _ => ?_)
    refine lv_aload_n hx hb d_Ex_level_11 rfl (lv_at hl 0 rfl) ?_
    refine g_Ex_18 hx hb hts hown hK S.1 d_Ex_level_12 ?_
    refine lv_iload_n hx hb d_Ex_level_15 rfl (lv_at hl 2 rfl) ?_
    refine ld_C_13 (k := 7) hx hb hK S.1 (vin_dec (by decide)) (by decide) d_Ex_level_16 ?_
    refine lv_if_eq (tgt := 30) hx hb d_Ex_level_17 rfl (fun h17 => ?_) (fun h17 => ?_)
    · have hq := hq.trans (if_pos h17)
      exact B_Ex_level_30_7 _ _ _ _ (lv_sub hl [0, 1, 2] rfl) S hq
    · have hq := hq.trans (if_neg h17)
      refine lv_iload_n hx hb d_Ex_level_20 rfl (lv_at hl 1 rfl) ?_
      refine lv_aload_n hx hb d_Ex_level_21 rfl (lv_at hl 0 rfl) ?_
      refine lv_iload_n hx hb d_Ex_level_22 rfl (lv_at hl 2 rfl) ?_
      refine callVIp X S hl (c_Ex_group (7 : Int32) _ (vin_dec (by decide))) v_Ex_29 10 3 ⟨rfl, rfl⟩ (rk_dec (by decide)) rfl rfl (Nat.le_of_ble_eq_true rfl) d_Ex_level_23 (fun H locs S => ?_)
      refine r_min hx hb hml hts hown hl.1 k_3 (Nat.le_of_ble_eq_true rfl) (Nat.le_of_ble_eq_true rfl) d_Ex_level_26 ?_
      refine lv_istore_n hx hb d_Ex_level_29 rfl hl (by decide) rfl (fun ls hl => ?_)
      exact B_Ex_level_30_7 _ _ _ _ (lv_sub hl [1, 0, 2] rfl) S hq
  have B_Ex_level_30_6 : ∀ (v1 : Int32) (H : Heap) (locs : List Loc) (ls : Array Slot), lv_has ls 3 [(0, .ref (a 10)), (1, .int v1), (2, .int (6 : Int32))] → St D (wC cI cZ a) A s σ H locs → F = s_Ex_level_30_6 v1 σ → W p l e ({ frames := 1, cells := 0, slots := 0, locals := 64 } : Room) s m args below meth c H locs 0 0 Q (F0 m 30 ls []) := by
    intro v1 H locs ls hl S hq
    refine lv_iinc (k := 2) (v := (7 : Int32)) hx hb d_Ex_level_30 hl rfl (by first | rfl | decide) (by decide) rfl (fun ls hl => ?_)
    refine lv_goto (tgt := 5) hx hb d_Ex_level_33 rfl ?_
    exact B_Ex_level_5_7 _ _ _ _ (lv_sub hl [1, 2, 0] rfl) S hq
  have B_Ex_level_5_6 : ∀ (v1 : Int32) (H : Heap) (locs : List Loc) (ls : Array Slot), lv_has ls 3 [(0, .ref (a 10)), (1, .int v1), (2, .int (6 : Int32))] → St D (wC cI cZ a) A s σ H locs → F = s_Ex_level_5_6 v1 σ → W p l e ({ frames := 1, cells := 0, slots := 0, locals := 64 } : Room) s m args below meth c H locs 0 0 Q (F0 m 5 ls []) := by
    intro v1 H locs ls hl S hq
    refine lv_iload_n hx hb d_Ex_level_5 rfl (lv_at hl 2 rfl) ?_
    refine lv_bipush (v := 15) hx hb d_Ex_level_6 (by decide) ?_
    refine lv_icmp_gt (tgt := 36) hx hb d_Ex_level_8 rfl (fun h9 => absurd h9 (by decide)) (fun _ => ?_)
    refine lv_aload_n hx hb d_Ex_level_11 rfl (lv_at hl 0 rfl) ?_
    refine g_Ex_18 hx hb hts hown hK S.1 d_Ex_level_12 ?_
    refine lv_iload_n hx hb d_Ex_level_15 rfl (lv_at hl 2 rfl) ?_
    refine ld_C_13 (k := 6) hx hb hK S.1 (vin_dec (by decide)) (by decide) d_Ex_level_16 ?_
    refine lv_if_eq (tgt := 30) hx hb d_Ex_level_17 rfl (fun h17 => ?_) (fun h17 => ?_)
    · have hq := hq.trans (if_pos h17)
      exact B_Ex_level_30_6 _ _ _ _ (lv_sub hl [0, 1, 2] rfl) S hq
    · have hq := hq.trans (if_neg h17)
      refine lv_iload_n hx hb d_Ex_level_20 rfl (lv_at hl 1 rfl) ?_
      refine lv_aload_n hx hb d_Ex_level_21 rfl (lv_at hl 0 rfl) ?_
      refine lv_iload_n hx hb d_Ex_level_22 rfl (lv_at hl 2 rfl) ?_
      refine callVIp X S hl (c_Ex_group (6 : Int32) _ (vin_dec (by decide))) v_Ex_29 10 3 ⟨rfl, rfl⟩ (rk_dec (by decide)) rfl rfl (Nat.le_of_ble_eq_true rfl) d_Ex_level_23 (fun H locs S => ?_)
      refine r_min hx hb hml hts hown hl.1 k_3 (Nat.le_of_ble_eq_true rfl) (Nat.le_of_ble_eq_true rfl) d_Ex_level_26 ?_
      refine lv_istore_n hx hb d_Ex_level_29 rfl hl (by decide) rfl (fun ls hl => ?_)
      exact B_Ex_level_30_6 _ _ _ _ (lv_sub hl [1, 0, 2] rfl) S hq
  have B_Ex_level_30_5 : ∀ (v1 : Int32) (H : Heap) (locs : List Loc) (ls : Array Slot), lv_has ls 3 [(0, .ref (a 10)), (1, .int v1), (2, .int (5 : Int32))] → St D (wC cI cZ a) A s σ H locs → F = s_Ex_level_30_5 v1 σ → W p l e ({ frames := 1, cells := 0, slots := 0, locals := 64 } : Room) s m args below meth c H locs 0 0 Q (F0 m 30 ls []) := by
    intro v1 H locs ls hl S hq
    refine lv_iinc (k := 2) (v := (6 : Int32)) hx hb d_Ex_level_30 hl rfl (by first | rfl | decide) (by decide) rfl (fun ls hl => ?_)
    refine lv_goto (tgt := 5) hx hb d_Ex_level_33 rfl ?_
    exact B_Ex_level_5_6 _ _ _ _ (lv_sub hl [1, 2, 0] rfl) S hq
  have B_Ex_level_5_5 : ∀ (v1 : Int32) (H : Heap) (locs : List Loc) (ls : Array Slot), lv_has ls 3 [(0, .ref (a 10)), (1, .int v1), (2, .int (5 : Int32))] → St D (wC cI cZ a) A s σ H locs → F = s_Ex_level_5_5 v1 σ → W p l e ({ frames := 1, cells := 0, slots := 0, locals := 64 } : Room) s m args below meth c H locs 0 0 Q (F0 m 5 ls []) := by
    intro v1 H locs ls hl S hq
    refine lv_iload_n hx hb d_Ex_level_5 rfl (lv_at hl 2 rfl) ?_
    refine lv_bipush (v := 15) hx hb d_Ex_level_6 (by decide) ?_
    refine lv_icmp_gt (tgt := 36) hx hb d_Ex_level_8 rfl (fun h9 => absurd h9 (by decide)) (fun _ => ?_)
    refine lv_aload_n hx hb d_Ex_level_11 rfl (lv_at hl 0 rfl) ?_
    refine g_Ex_18 hx hb hts hown hK S.1 d_Ex_level_12 ?_
    refine lv_iload_n hx hb d_Ex_level_15 rfl (lv_at hl 2 rfl) ?_
    refine ld_C_13 (k := 5) hx hb hK S.1 (vin_dec (by decide)) (by decide) d_Ex_level_16 ?_
    refine lv_if_eq (tgt := 30) hx hb d_Ex_level_17 rfl (fun h17 => ?_) (fun h17 => ?_)
    · have hq := hq.trans (if_pos h17)
      exact B_Ex_level_30_5 _ _ _ _ (lv_sub hl [0, 1, 2] rfl) S hq
    · have hq := hq.trans (if_neg h17)
      refine lv_iload_n hx hb d_Ex_level_20 rfl (lv_at hl 1 rfl) ?_
      refine lv_aload_n hx hb d_Ex_level_21 rfl (lv_at hl 0 rfl) ?_
      refine lv_iload_n hx hb d_Ex_level_22 rfl (lv_at hl 2 rfl) ?_
      refine callVIp X S hl (c_Ex_group (5 : Int32) _ (vin_dec (by decide))) v_Ex_29 10 3 ⟨rfl, rfl⟩ (rk_dec (by decide)) rfl rfl (Nat.le_of_ble_eq_true rfl) d_Ex_level_23 (fun H locs S => ?_)
      refine r_min hx hb hml hts hown hl.1 k_3 (Nat.le_of_ble_eq_true rfl) (Nat.le_of_ble_eq_true rfl) d_Ex_level_26 ?_
      refine lv_istore_n hx hb d_Ex_level_29 rfl hl (by decide) rfl (fun ls hl => ?_)
      exact B_Ex_level_30_5 _ _ _ _ (lv_sub hl [1, 0, 2] rfl) S hq
  have B_Ex_level_30_4 : ∀ (v1 : Int32) (H : Heap) (locs : List Loc) (ls : Array Slot), lv_has ls 3 [(0, .ref (a 10)), (1, .int v1), (2, .int (4 : Int32))] → St D (wC cI cZ a) A s σ H locs → F = s_Ex_level_30_4 v1 σ → W p l e ({ frames := 1, cells := 0, slots := 0, locals := 64 } : Room) s m args below meth c H locs 0 0 Q (F0 m 30 ls []) := by
    intro v1 H locs ls hl S hq
    refine lv_iinc (k := 2) (v := (5 : Int32)) hx hb d_Ex_level_30 hl rfl (by first | rfl | decide) (by decide) rfl (fun ls hl => ?_)
    refine lv_goto (tgt := 5) hx hb d_Ex_level_33 rfl ?_
    exact B_Ex_level_5_5 _ _ _ _ (lv_sub hl [1, 2, 0] rfl) S hq
  have B_Ex_level_5_4 : ∀ (v1 : Int32) (H : Heap) (locs : List Loc) (ls : Array Slot), lv_has ls 3 [(0, .ref (a 10)), (1, .int v1), (2, .int (4 : Int32))] → St D (wC cI cZ a) A s σ H locs → F = s_Ex_level_5_4 v1 σ → W p l e ({ frames := 1, cells := 0, slots := 0, locals := 64 } : Room) s m args below meth c H locs 0 0 Q (F0 m 5 ls []) := by
    intro v1 H locs ls hl S hq
    refine lv_iload_n hx hb d_Ex_level_5 rfl (lv_at hl 2 rfl) ?_
    refine lv_bipush (v := 15) hx hb d_Ex_level_6 (by decide) ?_
    refine lv_icmp_gt (tgt := 36) hx hb d_Ex_level_8 rfl (fun h9 => absurd h9 (by decide)) (fun _ => ?_)
    refine lv_aload_n hx hb d_Ex_level_11 rfl (lv_at hl 0 rfl) ?_
    refine g_Ex_18 hx hb hts hown hK S.1 d_Ex_level_12 ?_
    refine lv_iload_n hx hb d_Ex_level_15 rfl (lv_at hl 2 rfl) ?_
    refine ld_C_13 (k := 4) hx hb hK S.1 (vin_dec (by decide)) (by decide) d_Ex_level_16 ?_
    refine lv_if_eq (tgt := 30) hx hb d_Ex_level_17 rfl (fun h17 => ?_) (fun h17 => ?_)
    · have hq := hq.trans (if_pos h17)
      exact B_Ex_level_30_4 _ _ _ _ (lv_sub hl [0, 1, 2] rfl) S hq
    · have hq := hq.trans (if_neg h17)
      refine lv_iload_n hx hb d_Ex_level_20 rfl (lv_at hl 1 rfl) ?_
      refine lv_aload_n hx hb d_Ex_level_21 rfl (lv_at hl 0 rfl) ?_
      refine lv_iload_n hx hb d_Ex_level_22 rfl (lv_at hl 2 rfl) ?_
      refine callVIp X S hl (c_Ex_group (4 : Int32) _ (vin_dec (by decide))) v_Ex_29 10 3 ⟨rfl, rfl⟩ (rk_dec (by decide)) rfl rfl (Nat.le_of_ble_eq_true rfl) d_Ex_level_23 (fun H locs S => ?_)
      refine r_min hx hb hml hts hown hl.1 k_3 (Nat.le_of_ble_eq_true rfl) (Nat.le_of_ble_eq_true rfl) d_Ex_level_26 ?_
      refine lv_istore_n hx hb d_Ex_level_29 rfl hl (by decide) rfl (fun ls hl => ?_)
      exact B_Ex_level_30_4 _ _ _ _ (lv_sub hl [1, 0, 2] rfl) S hq
  have B_Ex_level_30_3 : ∀ (v1 : Int32) (H : Heap) (locs : List Loc) (ls : Array Slot), lv_has ls 3 [(0, .ref (a 10)), (1, .int v1), (2, .int (3 : Int32))] → St D (wC cI cZ a) A s σ H locs → F = s_Ex_level_30_3 v1 σ → W p l e ({ frames := 1, cells := 0, slots := 0, locals := 64 } : Room) s m args below meth c H locs 0 0 Q (F0 m 30 ls []) := by
    intro v1 H locs ls hl S hq
    refine lv_iinc (k := 2) (v := (4 : Int32)) hx hb d_Ex_level_30 hl rfl (by first | rfl | decide) (by decide) rfl (fun ls hl => ?_)
    refine lv_goto (tgt := 5) hx hb d_Ex_level_33 rfl ?_
    exact B_Ex_level_5_4 _ _ _ _ (lv_sub hl [1, 2, 0] rfl) S hq
  have B_Ex_level_5_3 : ∀ (v1 : Int32) (H : Heap) (locs : List Loc) (ls : Array Slot), lv_has ls 3 [(0, .ref (a 10)), (1, .int v1), (2, .int (3 : Int32))] → St D (wC cI cZ a) A s σ H locs → F = s_Ex_level_5_3 v1 σ → W p l e ({ frames := 1, cells := 0, slots := 0, locals := 64 } : Room) s m args below meth c H locs 0 0 Q (F0 m 5 ls []) := by
    intro v1 H locs ls hl S hq
    refine lv_iload_n hx hb d_Ex_level_5 rfl (lv_at hl 2 rfl) ?_
    refine lv_bipush (v := 15) hx hb d_Ex_level_6 (by decide) ?_
    refine lv_icmp_gt (tgt := 36) hx hb d_Ex_level_8 rfl (fun h9 => absurd h9 (by decide)) (fun _ => ?_)
    refine lv_aload_n hx hb d_Ex_level_11 rfl (lv_at hl 0 rfl) ?_
    refine g_Ex_18 hx hb hts hown hK S.1 d_Ex_level_12 ?_
    refine lv_iload_n hx hb d_Ex_level_15 rfl (lv_at hl 2 rfl) ?_
    refine ld_C_13 (k := 3) hx hb hK S.1 (vin_dec (by decide)) (by decide) d_Ex_level_16 ?_
    refine lv_if_eq (tgt := 30) hx hb d_Ex_level_17 rfl (fun h17 => ?_) (fun h17 => ?_)
    · have hq := hq.trans (if_pos h17)
      exact B_Ex_level_30_3 _ _ _ _ (lv_sub hl [0, 1, 2] rfl) S hq
    · have hq := hq.trans (if_neg h17)
      refine lv_iload_n hx hb d_Ex_level_20 rfl (lv_at hl 1 rfl) ?_
      refine lv_aload_n hx hb d_Ex_level_21 rfl (lv_at hl 0 rfl) ?_
      refine lv_iload_n hx hb d_Ex_level_22 rfl (lv_at hl 2 rfl) ?_
      refine callVIp X S hl (c_Ex_group (3 : Int32) _ (vin_dec (by decide))) v_Ex_29 10 3 ⟨rfl, rfl⟩ (rk_dec (by decide)) rfl rfl (Nat.le_of_ble_eq_true rfl) d_Ex_level_23 (fun H locs S => ?_)
      refine r_min hx hb hml hts hown hl.1 k_3 (Nat.le_of_ble_eq_true rfl) (Nat.le_of_ble_eq_true rfl) d_Ex_level_26 ?_
      refine lv_istore_n hx hb d_Ex_level_29 rfl hl (by decide) rfl (fun ls hl => ?_)
      exact B_Ex_level_30_3 _ _ _ _ (lv_sub hl [1, 0, 2] rfl) S hq
  have B_Ex_level_30_2 : ∀ (v1 : Int32) (H : Heap) (locs : List Loc) (ls : Array Slot), lv_has ls 3 [(0, .ref (a 10)), (1, .int v1), (2, .int (2 : Int32))] → St D (wC cI cZ a) A s σ H locs → F = s_Ex_level_30_2 v1 σ → W p l e ({ frames := 1, cells := 0, slots := 0, locals := 64 } : Room) s m args below meth c H locs 0 0 Q (F0 m 30 ls []) := by
    intro v1 H locs ls hl S hq
    refine lv_iinc (k := 2) (v := (3 : Int32)) hx hb d_Ex_level_30 hl rfl (by first | rfl | decide) (by decide) rfl (fun ls hl => ?_)
    refine lv_goto (tgt := 5) hx hb d_Ex_level_33 rfl ?_
    exact B_Ex_level_5_3 _ _ _ _ (lv_sub hl [1, 2, 0] rfl) S hq
  have B_Ex_level_5_2 : ∀ (H : Heap) (locs : List Loc) (ls : Array Slot), lv_has ls 3 [(0, .ref (a 10)), (1, .int (8 : Int32)), (2, .int (2 : Int32))] → St D (wC cI cZ a) A s σ H locs → F = s_Ex_level_5_2 σ → W p l e ({ frames := 1, cells := 0, slots := 0, locals := 64 } : Room) s m args below meth c H locs 0 0 Q (F0 m 5 ls []) := by
    intro H locs ls hl S hq
    refine lv_iload_n hx hb d_Ex_level_5 rfl (lv_at hl 2 rfl) ?_
    refine lv_bipush (v := 15) hx hb d_Ex_level_6 (by decide) ?_
    refine lv_icmp_gt (tgt := 36) hx hb d_Ex_level_8 rfl (fun h9 => absurd h9 (by decide)) (fun _ => ?_)
    refine lv_aload_n hx hb d_Ex_level_11 rfl (lv_at hl 0 rfl) ?_
    refine g_Ex_18 hx hb hts hown hK S.1 d_Ex_level_12 ?_
    refine lv_iload_n hx hb d_Ex_level_15 rfl (lv_at hl 2 rfl) ?_
    refine ld_C_13 (k := 2) hx hb hK S.1 (vin_dec (by decide)) (by decide) d_Ex_level_16 ?_
    refine lv_if_eq (tgt := 30) hx hb d_Ex_level_17 rfl (fun h17 => ?_) (fun h17 => ?_)
    · have hq := hq.trans (if_pos h17)
      exact B_Ex_level_30_2 _ _ _ _ (lv_sub hl [0, 1, 2] rfl) S hq
    · have hq := hq.trans (if_neg h17)
      refine lv_iload_n hx hb d_Ex_level_20 rfl (lv_at hl 1 rfl) ?_
      refine lv_aload_n hx hb d_Ex_level_21 rfl (lv_at hl 0 rfl) ?_
      refine lv_iload_n hx hb d_Ex_level_22 rfl (lv_at hl 2 rfl) ?_
      refine callVIp X S hl (c_Ex_group (2 : Int32) _ (vin_dec (by decide))) v_Ex_29 10 3 ⟨rfl, rfl⟩ (rk_dec (by decide)) rfl rfl (Nat.le_of_ble_eq_true rfl) d_Ex_level_23 (fun H locs S => ?_)
      refine r_min hx hb hml hts hown hl.1 k_3 (Nat.le_of_ble_eq_true rfl) (Nat.le_of_ble_eq_true rfl) d_Ex_level_26 ?_
      refine lv_istore_n hx hb d_Ex_level_29 rfl hl (by decide) rfl (fun ls hl => ?_)
      exact B_Ex_level_30_2 _ _ _ _ (lv_sub hl [1, 0, 2] rfl) S hq
  refine lv_bipush (v := 8) hx hb d_Ex_level_0 (by decide) ?_
  refine lv_istore_n hx hb d_Ex_level_2 rfl hl (by decide) rfl (fun ls hl => ?_)
  refine lv_iconst (v := 2) hx hb d_Ex_level_3 (by decide) ?_
  refine lv_istore_n hx hb d_Ex_level_4 rfl hl (by decide) rfl (fun ls hl => ?_)
  exact B_Ex_level_5_2 _ _ _ (lv_sub hl [2, 1, 0] rfl) S hq
end CT
