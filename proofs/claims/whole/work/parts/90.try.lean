theorem d_Me_holdsWord_0 : decode b_Me_holdsWord 0 = .ok (.iload_n 1, 1) := by decide +kernel
theorem d_Me_holdsWord_1 : decode b_Me_holdsWord 1 = .ok (.ifCond .lt (20), 3) := by decide +kernel
theorem d_Me_holdsWord_4 : decode b_Me_holdsWord 4 = .ok (.iload_n 1, 1) := by decide +kernel
theorem d_Me_holdsWord_5 : decode b_Me_holdsWord 5 = .ok (.sipush (1024), 3) := by decide +kernel
theorem d_Me_holdsWord_8 : decode b_Me_holdsWord 8 = .ok (.if_icmp .ge (13), 3) := by decide +kernel
theorem d_Me_holdsWord_11 : decode b_Me_holdsWord 11 = .ok (.iload_n 1, 1) := by decide +kernel
theorem d_Me_holdsWord_12 : decode b_Me_holdsWord 12 = .ok (.iconst 3, 1) := by decide +kernel
theorem d_Me_holdsWord_13 : decode b_Me_holdsWord 13 = .ok (.iand, 1) := by decide +kernel
theorem d_Me_holdsWord_14 : decode b_Me_holdsWord 14 = .ok (.ifCond .ne (7), 3) := by decide +kernel
theorem d_Me_holdsWord_17 : decode b_Me_holdsWord 17 = .ok (.iconst 1, 1) := by decide +kernel
theorem d_Me_holdsWord_18 : decode b_Me_holdsWord 18 = .ok (.goto (4), 3) := by decide +kernel
theorem d_Me_holdsWord_21 : decode b_Me_holdsWord 21 = .ok (.iconst 0, 1) := by decide +kernel
theorem d_Me_holdsWord_22 : decode b_Me_holdsWord 22 = .ok (.ireturn, 1) := by decide +kernel
theorem d_Me_store_0 : decode b_Me_store 0 = .ok (.aload_n 0, 1) := by decide +kernel
theorem d_Me_store_1 : decode b_Me_store 1 = .ok (.getfield 9, 3) := by decide +kernel
theorem d_Me_store_4 : decode b_Me_store 4 = .ok (.iload_n 1, 1) := by decide +kernel
theorem d_Me_store_5 : decode b_Me_store 5 = .ok (.iconst 2, 1) := by decide +kernel
theorem d_Me_store_6 : decode b_Me_store 6 = .ok (.ishr, 1) := by decide +kernel
theorem d_Me_store_7 : decode b_Me_store 7 = .ok (.sipush (255), 3) := by decide +kernel
theorem d_Me_store_10 : decode b_Me_store 10 = .ok (.iand, 1) := by decide +kernel
theorem d_Me_store_11 : decode b_Me_store 11 = .ok (.iload_n 2, 1) := by decide +kernel
theorem d_Me_store_12 : decode b_Me_store 12 = .ok (.iastore, 1) := by decide +kernel
theorem d_Me_store_13 : decode b_Me_store 13 = .ok (.return_, 1) := by decide +kernel
theorem d_Me_load_0 : decode b_Me_load 0 = .ok (.aload_n 0, 1) := by decide +kernel
theorem d_Me_load_1 : decode b_Me_load 1 = .ok (.getfield 9, 3) := by decide +kernel
theorem d_Me_load_4 : decode b_Me_load 4 = .ok (.iload_n 1, 1) := by decide +kernel
theorem d_Me_load_5 : decode b_Me_load 5 = .ok (.iconst 2, 1) := by decide +kernel
theorem d_Me_load_6 : decode b_Me_load 6 = .ok (.ishr, 1) := by decide +kernel
theorem d_Me_load_7 : decode b_Me_load 7 = .ok (.sipush (255), 3) := by decide +kernel
theorem d_Me_load_10 : decode b_Me_load 10 = .ok (.iand, 1) := by decide +kernel
theorem d_Me_load_11 : decode b_Me_load 11 = .ok (.iaload, 1) := by decide +kernel
theorem d_Me_load_12 : decode b_Me_load 12 = .ok (.ireturn, 1) := by decide +kernel
theorem d_N_even_0 : decode b_N_even 0 = .ok (.iload_n 0, 1) := by decide +kernel
theorem d_N_even_1 : decode b_N_even 1 = .ok (.bipush (-2), 2) := by decide +kernel
theorem d_N_even_3 : decode b_N_even 3 = .ok (.iand, 1) := by decide +kernel
theorem d_N_even_4 : decode b_N_even 4 = .ok (.ireturn, 1) := by decide +kernel
theorem d_Ti_start_0 : decode b_Ti_start 0 = .ok (.aload_n 0, 1) := by decide +kernel
theorem d_Ti_start_1 : decode b_Ti_start 1 = .ok (.iload_n 1, 1) := by decide +kernel
theorem d_Ti_start_2 : decode b_Ti_start 2 = .ok (.putfield 7, 3) := by decide +kernel
theorem d_Ti_start_5 : decode b_Ti_start 5 = .ok (.aload_n 0, 1) := by decide +kernel
theorem d_Ti_start_6 : decode b_Ti_start 6 = .ok (.iload_n 1, 1) := by decide +kernel
theorem d_Ti_start_7 : decode b_Ti_start 7 = .ok (.putfield 13, 3) := by decide +kernel
theorem d_Ti_start_10 : decode b_Ti_start 10 = .ok (.return_, 1) := by decide +kernel
theorem d_Ti_fires_0 : decode b_Ti_fires 0 = .ok (.aload_n 0, 1) := by decide +kernel
theorem d_Ti_fires_1 : decode b_Ti_fires 1 = .ok (.getfield 7, 3) := by decide +kernel
theorem d_Ti_fires_4 : decode b_Ti_fires 4 = .ok (.ifCond .ne (5), 3) := by decide +kernel
theorem d_Ti_fires_7 : decode b_Ti_fires 7 = .ok (.iconst 0, 1) := by decide +kernel
theorem d_Ti_fires_8 : decode b_Ti_fires 8 = .ok (.ireturn, 1) := by decide +kernel
theorem d_Ti_fires_9 : decode b_Ti_fires 9 = .ok (.aload_n 0, 1) := by decide +kernel
theorem d_Ti_fires_10 : decode b_Ti_fires 10 = .ok (.dup, 1) := by decide +kernel
theorem d_Ti_fires_11 : decode b_Ti_fires 11 = .ok (.getfield 13, 3) := by decide +kernel
theorem d_Ti_fires_14 : decode b_Ti_fires 14 = .ok (.iconst 1, 1) := by decide +kernel
theorem d_Ti_fires_15 : decode b_Ti_fires 15 = .ok (.isub, 1) := by decide +kernel
theorem d_Ti_fires_16 : decode b_Ti_fires 16 = .ok (.putfield 13, 3) := by decide +kernel
theorem d_Ti_fires_19 : decode b_Ti_fires 19 = .ok (.aload_n 0, 1) := by decide +kernel
theorem d_Ti_fires_20 : decode b_Ti_fires 20 = .ok (.getfield 13, 3) := by decide +kernel
theorem d_Ti_fires_23 : decode b_Ti_fires 23 = .ok (.ifCond .eq (5), 3) := by decide +kernel
theorem d_Ti_fires_26 : decode b_Ti_fires 26 = .ok (.iconst 0, 1) := by decide +kernel
theorem d_Ti_fires_27 : decode b_Ti_fires 27 = .ok (.ireturn, 1) := by decide +kernel
theorem d_Ti_fires_28 : decode b_Ti_fires 28 = .ok (.aload_n 0, 1) := by decide +kernel
theorem d_Ti_fires_29 : decode b_Ti_fires 29 = .ok (.aload_n 0, 1) := by decide +kernel
theorem d_Ti_fires_30 : decode b_Ti_fires 30 = .ok (.getfield 7, 3) := by decide +kernel
theorem d_Ti_fires_33 : decode b_Ti_fires 33 = .ok (.putfield 13, 3) := by decide +kernel
theorem d_Ti_fires_36 : decode b_Ti_fires 36 = .ok (.iconst 1, 1) := by decide +kernel
theorem d_Ti_fires_37 : decode b_Ti_fires 37 = .ok (.ireturn, 1) := by decide +kernel
theorem d_Ex_group_0 : decode b_Ex_group 0 = .ok (.aload_n 0, 1) := by decide +kernel
theorem d_Ex_group_1 : decode b_Ex_group 1 = .ok (.getfield 21, 3) := by decide +kernel
theorem d_Ex_group_4 : decode b_Ex_group 4 = .ok (.iload_n 1, 1) := by decide +kernel
theorem d_Ex_group_5 : decode b_Ex_group 5 = .ok (.iaload, 1) := by decide +kernel
theorem d_Ex_group_6 : decode b_Ex_group 6 = .ok (.ifCond .ge (12), 3) := by decide +kernel
theorem d_Ex_group_9 : decode b_Ex_group 9 = .ok (.aload_n 0, 1) := by decide +kernel
theorem d_Ex_group_10 : decode b_Ex_group 10 = .ok (.getfield 21, 3) := by decide +kernel
theorem d_Ex_group_13 : decode b_Ex_group 13 = .ok (.iload_n 1, 1) := by decide +kernel
theorem d_Ex_group_14 : decode b_Ex_group 14 = .ok (.iaload, 1) := by decide +kernel
theorem d_Ex_group_15 : decode b_Ex_group 15 = .ok (.goto (14), 3) := by decide +kernel
theorem d_Ex_group_18 : decode b_Ex_group 18 = .ok (.aload_n 0, 1) := by decide +kernel
theorem d_Ex_group_19 : decode b_Ex_group 19 = .ok (.getfield 21, 3) := by decide +kernel
theorem d_Ex_group_22 : decode b_Ex_group 22 = .ok (.iload_n 1, 1) := by decide +kernel
theorem d_Ex_group_23 : decode b_Ex_group 23 = .ok (.iaload, 1) := by decide +kernel
theorem d_Ex_group_24 : decode b_Ex_group 24 = .ok (.aload_n 0, 1) := by decide +kernel
theorem d_Ex_group_25 : decode b_Ex_group 25 = .ok (.getfield 25, 3) := by decide +kernel
theorem d_Ex_group_28 : decode b_Ex_group 28 = .ok (.ishr, 1) := by decide +kernel
theorem d_Ex_group_29 : decode b_Ex_group 29 = .ok (.ireturn, 1) := by decide +kernel
section CT
variable {l : Launch} {D : va_G} {cI cZ : ClassId} {a : Nat → Nat} {t : Nat}
set_option maxHeartbeats 4000000 in
set_option maxRecDepth 100000 in
theorem c_Me_holdsWord (v1 : Int32) (σ : nS) : CtZ l D cI cZ (wC cI cZ a) (exC t) y_Me_holdsWord b_Me_holdsWord 2 { frames := 0, cells := 0, slots := 0, locals := 0 } [.ref (a 3), .int v1] σ (s_Me_holdsWord v1, σ) := by
  generalize hF : s_Me_holdsWord v1 = F
  refine metZp (exC_ok t) (by decide) (Nat.le_of_ble_eq_true rfl) (fun p e s m args below meth c A Q ls X S hl ret => ?_)
  have hq := hF.symm
  obtain ⟨hx, hb, hml, hown, hts, hK, hA, hE, hlk, hEo⟩ := id X
  have hl : lv_has ls 2 [(0, .ref (a 3)), (1, .int v1)] := hl
  have B_Me_holdsWord_21 : ∀ (H : Heap) (locs : List Loc) (ls : Array Slot), lv_has ls 2 [] → St D (wC cI cZ a) A s σ H locs → F = s_Me_holdsWord_21 → W p l e _ s m args below meth c H locs 0 0 Q (F0 m 21 ls []) := by
    intro H locs ls hl S hq
    refine lv_iconst (v := 0) hx hb d_Me_holdsWord_21 (by decide) ?_
    exact ret _ _ _ _ false S hq d_Me_holdsWord_22
  refine lv_iload_n hx hb d_Me_holdsWord_0 rfl (lv_at hl 1 rfl) ?_
  refine lv_if_lt (tgt := 21) hx hb d_Me_holdsWord_1 rfl (fun h1 => ?_) (fun h1 => ?_)
  · have hq := hq.trans (if_pos h1)
    exact B_Me_holdsWord_21 _ _ _ (lv_sub hl [] rfl) S hq
  · have hq := hq.trans (if_neg h1)
    refine lv_iload_n hx hb d_Me_holdsWord_4 rfl (lv_at hl 1 rfl) ?_
    refine lv_sipush (v := 1024) hx hb d_Me_holdsWord_5 (by decide) ?_
    refine lv_icmp_ge (tgt := 21) hx hb d_Me_holdsWord_8 rfl (fun h8 => ?_) (fun h8 => ?_)
    · have hq := hq.trans (if_pos h8)
      exact B_Me_holdsWord_21 _ _ _ (lv_sub hl [] rfl) S hq
    · have hq := hq.trans (if_neg h8)
      refine lv_iload_n hx hb d_Me_holdsWord_11 rfl (lv_at hl 1 rfl) ?_
      refine lv_iconst (v := 3) hx hb d_Me_holdsWord_12 (by decide) ?_
      refine lv_iand hx hb d_Me_holdsWord_13 ?_
      refine lv_if_ne (tgt := 21) hx hb d_Me_holdsWord_14 rfl (fun h14 => ?_) (fun h14 => ?_)
      · have hq := hq.trans (if_neg h14)
        exact B_Me_holdsWord_21 _ _ _ (lv_sub hl [] rfl) S hq
      · have hq := hq.trans (if_pos h14)
        refine lv_iconst (v := 1) hx hb d_Me_holdsWord_17 (by decide) ?_
        refine lv_goto (tgt := 22) hx hb d_Me_holdsWord_18 rfl ?_
        exact ret _ _ _ _ true S hq d_Me_holdsWord_22
set_option maxHeartbeats 4000000 in
set_option maxRecDepth 100000 in
theorem c_Me_store (v1 : Int32) (v2 : Int32) (σ : nS) : CtV l D cI cZ (wC cI cZ a) (exC t) y_Me_store b_Me_store 3 { frames := 0, cells := 0, slots := 0, locals := 0 } [.ref (a 3), .int v1, .int v2] σ (s_Me_store v1 v2 σ) := by
  generalize hF : s_Me_store v1 v2 σ = F
  refine metV (exC_ok t) (by decide) (Nat.le_of_ble_eq_true rfl) (fun p e s m args below meth c A Q ls X S hl ret => ?_)
  have hq := hF.symm
  obtain ⟨hx, hb, hml, hown, hts, hK, hA, hE, hlk, hEo⟩ := id X
  have hl : lv_has ls 3 [(0, .ref (a 3)), (1, .int v1), (2, .int v2)] := hl
  refine lv_aload_n hx hb d_Me_store_0 rfl (lv_at hl 0 rfl) ?_
  refine g_Me_9 hx hb hts hown hK S.1 d_Me_store_1 ?_
  refine lv_iload_n hx hb d_Me_store_4 rfl (lv_at hl 1 rfl) ?_
  refine lv_iconst (v := 2) hx hb d_Me_store_5 (by decide) ?_
  refine lv_ishr hx hb d_Me_store_6 ?_
  refine lv_sipush (v := 255) hx hb d_Me_store_7 (by decide) ?_
  refine lv_iand hx hb d_Me_store_10 ?_
  refine lv_iload_n hx hb d_Me_store_11 rfl (lv_at hl 2 rfl) ?_
  refine st_C_4 (k := (((v1 >>> ((2 : Int32) &&& 31)) &&& (255 : Int32))).toNatClampNeg) hx hb hK S (vin_and255_256 _) rfl d_Me_store_12 (fun H locs S => ?_)
  exact ret _ _ _ _ _ S hq d_Me_store_13
set_option maxHeartbeats 4000000 in
set_option maxRecDepth 100000 in
theorem c_Me_load (v1 : Int32) (σ : nS) : CtI l D cI cZ (wC cI cZ a) (exC t) y_Me_load b_Me_load 2 { frames := 0, cells := 0, slots := 0, locals := 0 } [.ref (a 3), .int v1] σ (s_Me_load v1 σ, σ) := by
  generalize hF : s_Me_load v1 σ = F
  refine metIp (exC_ok t) (by decide) (Nat.le_of_ble_eq_true rfl) (fun p e s m args below meth c A Q ls X S hl ret => ?_)
  have hq := hF.symm
  obtain ⟨hx, hb, hml, hown, hts, hK, hA, hE, hlk, hEo⟩ := id X
  have hl : lv_has ls 2 [(0, .ref (a 3)), (1, .int v1)] := hl
  refine lv_aload_n hx hb d_Me_load_0 rfl (lv_at hl 0 rfl) ?_
  refine g_Me_9 hx hb hts hown hK S.1 d_Me_load_1 ?_
  refine lv_iload_n hx hb d_Me_load_4 rfl (lv_at hl 1 rfl) ?_
  refine lv_iconst (v := 2) hx hb d_Me_load_5 (by decide) ?_
  refine lv_ishr hx hb d_Me_load_6 ?_
  refine lv_sipush (v := 255) hx hb d_Me_load_7 (by decide) ?_
  refine lv_iand hx hb d_Me_load_10 ?_
  refine ld_C_4 (k := (((v1 >>> ((2 : Int32) &&& 31)) &&& (255 : Int32))).toNatClampNeg) hx hb hK S.1 (vin_and255_256 _) rfl d_Me_load_11 ?_
  exact ret _ _ _ _ _ S hq d_Me_load_12
set_option maxHeartbeats 4000000 in
set_option maxRecDepth 100000 in
theorem c_N_even (v0 : Int32) (σ : nS) : CtI l D cI cZ (wC cI cZ a) (exC t) y_N_even b_N_even 1 { frames := 0, cells := 0, slots := 0, locals := 0 } [.int v0] σ (s_N_even v0, σ) := by
  generalize hF : s_N_even v0 = F
  refine metIp (exC_ok t) (by decide) (Nat.le_of_ble_eq_true rfl) (fun p e s m args below meth c A Q ls X S hl ret => ?_)
  have hq := hF.symm
  obtain ⟨hx, hb, hml, hown, hts, hK, hA, hE, hlk, hEo⟩ := id X
  have hl : lv_has ls 1 [(0, .int v0)] := hl
  refine lv_iload_n hx hb d_N_even_0 rfl (lv_at hl 0 rfl) ?_
  refine lv_bipush (v := -2) hx hb d_N_even_1 (by decide) ?_
  refine lv_iand hx hb d_N_even_3 ?_
  exact ret _ _ _ _ _ S hq d_N_even_4
set_option maxHeartbeats 4000000 in
set_option maxRecDepth 100000 in
theorem c_Ti_start (v1 : Int32) (σ : nS) : CtV l D cI cZ (wC cI cZ a) (exC t) y_Ti_start b_Ti_start 2 { frames := 0, cells := 0, slots := 0, locals := 0 } [.ref (a 16), .int v1] σ (s_Ti_start v1 σ) := by
  generalize hF : s_Ti_start v1 σ = F
  refine metV (exC_ok t) (by decide) (Nat.le_of_ble_eq_true rfl) (fun p e s m args below meth c A Q ls X S hl ret => ?_)
  have hq := hF.symm
  obtain ⟨hx, hb, hml, hown, hts, hK, hA, hE, hlk, hEo⟩ := id X
  have hl : lv_has ls 2 [(0, .ref (a 16)), (1, .int v1)] := hl
  refine lv_aload_n hx hb d_Ti_start_0 rfl (lv_at hl 0 rfl) ?_
  refine lv_iload_n hx hb d_Ti_start_1 rfl (lv_at hl 1 rfl) ?_
  refine p_Ti_7 hx hb hts hown hK S d_Ti_start_2 (fun H locs S => ?_)
  refine lv_aload_n hx hb d_Ti_start_5 rfl (lv_at hl 0 rfl) ?_
  refine lv_iload_n hx hb d_Ti_start_6 rfl (lv_at hl 1 rfl) ?_
  refine p_Ti_13 hx hb hts hown hK S d_Ti_start_7 (fun H locs S => ?_)
  exact ret _ _ _ _ _ S hq d_Ti_start_10
set_option maxHeartbeats 4000000 in
set_option maxRecDepth 100000 in
theorem c_Ti_fires (σ : nS) : CtZ l D cI cZ (wC cI cZ a) (exC t) y_Ti_fires b_Ti_fires 1 { frames := 0, cells := 0, slots := 0, locals := 0 } [.ref (a 16)] σ (s_Ti_fires σ) := by
  generalize hF : s_Ti_fires σ = F
  refine metZ (exC_ok t) (by decide) (Nat.le_of_ble_eq_true rfl) (fun p e s m args below meth c A Q ls X S hl ret => ?_)
  have hq := hF.symm
  obtain ⟨hx, hb, hml, hown, hts, hK, hA, hE, hlk, hEo⟩ := id X
  have hl : lv_has ls 1 [(0, .ref (a 16))] := hl
  refine lv_aload_n hx hb d_Ti_fires_0 rfl (lv_at hl 0 rfl) ?_
  refine g_Ti_7 hx hb hts hown hK S.1 d_Ti_fires_1 ?_
  refine lv_if_ne (tgt := 9) hx hb d_Ti_fires_4 rfl (fun h4 => ?_) (fun h4 => ?_)
  · have hq := hq.trans (if_neg h4)
    refine lv_aload_n hx hb d_Ti_fires_9 rfl (lv_at hl 0 rfl) ?_
    refine lv_dup hx hb d_Ti_fires_10 rfl ?_
    refine g_Ti_13 hx hb hts hown hK S.1 d_Ti_fires_11 ?_
    refine lv_iconst (v := 1) hx hb d_Ti_fires_14 (by decide) ?_
    refine lv_isub hx hb d_Ti_fires_15 ?_
    refine p_Ti_13 hx hb hts hown hK S d_Ti_fires_16 (fun H locs S => ?_)
    refine lv_aload_n hx hb d_Ti_fires_19 rfl (lv_at hl 0 rfl) ?_
    refine g_Ti_13 hx hb hts hown hK S.1 d_Ti_fires_20 ?_
    refine lv_if_eq (tgt := 28) hx hb d_Ti_fires_23 rfl (fun h23 => ?_) (fun h23 => ?_)
    · have hq := hq.trans (if_pos h23)
      refine lv_aload_n hx hb d_Ti_fires_28 rfl (lv_at hl 0 rfl) ?_
      refine lv_aload_n hx hb d_Ti_fires_29 rfl (lv_at hl 0 rfl) ?_
      refine g_Ti_7 hx hb hts hown hK S.1 d_Ti_fires_30 ?_
      refine p_Ti_13 hx hb hts hown hK S d_Ti_fires_33 (fun H locs S => ?_)
      refine lv_iconst (v := 1) hx hb d_Ti_fires_36 (by decide) ?_
      exact ret _ _ _ _ true _ S hq d_Ti_fires_37
    · have hq := hq.trans (if_neg h23)
      refine lv_iconst (v := 0) hx hb d_Ti_fires_26 (by decide) ?_
      exact ret _ _ _ _ false _ S hq d_Ti_fires_27
  · have hq := hq.trans (if_pos h4)
    refine lv_iconst (v := 0) hx hb d_Ti_fires_7 (by decide) ?_
    exact ret _ _ _ _ false _ S hq d_Ti_fires_8
set_option maxHeartbeats 4000000 in
set_option maxRecDepth 100000 in
theorem c_Ex_group (v1 : Int32) (σ : nS) (qv1_16 : vp_in v1 16) : CtI l D cI cZ (wC cI cZ a) (exC t) y_Ex_group b_Ex_group 2 { frames := 0, cells := 0, slots := 0, locals := 0 } [.ref (a 10), .int v1] σ (s_Ex_group v1 σ, σ) := by
  generalize hF : s_Ex_group v1 σ = F
  refine metIp (exC_ok t) (by decide) (Nat.le_of_ble_eq_true rfl) (fun p e s m args below meth c A Q ls X S hl ret => ?_)
  have hq := hF.symm
  obtain ⟨hx, hb, hml, hown, hts, hK, hA, hE, hlk, hEo⟩ := id X
  have hl : lv_has ls 2 [(0, .ref (a 10)), (1, .int v1)] := hl
  refine lv_aload_n hx hb d_Ex_group_0 rfl (lv_at hl 0 rfl) ?_
  refine g_Ex_21 hx hb hts hown hK S.1 d_Ex_group_1 ?_
  refine lv_iload_n hx hb d_Ex_group_4 rfl (lv_at hl 1 rfl) ?_
  refine ld_C_14 (k := (v1).toNatClampNeg) hx hb hK S.1 qv1_16 rfl d_Ex_group_5 ?_
  refine lv_if_ge (tgt := 18) hx hb d_Ex_group_6 rfl (fun h6 => ?_) (fun h6 => ?_)
  · have hq := hq.trans (if_pos h6)
    refine lv_aload_n hx hb d_Ex_group_18 rfl (lv_at hl 0 rfl) ?_
    refine g_Ex_21 hx hb hts hown hK S.1 d_Ex_group_19 ?_
    refine lv_iload_n hx hb d_Ex_group_22 rfl (lv_at hl 1 rfl) ?_
    refine ld_C_14 (k := (v1).toNatClampNeg) hx hb hK S.1 qv1_16 rfl d_Ex_group_23 ?_
    refine lv_aload_n hx hb d_Ex_group_24 rfl (lv_at hl 0 rfl) ?_
    refine g_Ex_25 hx hb hts hown hK S.1 d_Ex_group_25 ?_
    refine lv_ishr hx hb d_Ex_group_28 ?_
    exact ret _ _ _ _ _ S hq d_Ex_group_29
  · have hq := hq.trans (if_neg h6)
    refine lv_aload_n hx hb d_Ex_group_9 rfl (lv_at hl 0 rfl) ?_
    refine g_Ex_21 hx hb hts hown hK S.1 d_Ex_group_10 ?_
    refine lv_iload_n hx hb d_Ex_group_13 rfl (lv_at hl 1 rfl) ?_
    refine ld_C_14 (k := (v1).toNatClampNeg) hx hb hK S.1 qv1_16 rfl d_Ex_group_14 ?_
    refine lv_goto (tgt := 29) hx hb d_Ex_group_15 rfl ?_
    exact ret _ _ _ _ _ S hq d_Ex_group_29
end CT
