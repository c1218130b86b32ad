section CT
variable {l : Launch} {D : va_G} {cI cZ : ClassId} {a : Nat → Nat} {t : Nat}
set_option maxHeartbeats 4000000 in
set_option maxRecDepth 100000 in
theorem c_N_faultAlong (v1 : Int32) (v2 : Int32) (v3 : Int32) (σ : nS) (hok : o_N_faultAlong v1 v2 v3 σ) : CtI l D cI cZ (wC cI cZ a) (exC t) y_N_faultAlong b_N_faultAlong 5 { frames := 1, cells := 0, slots := 0, locals := 24 } [.ref (a 0), .int v1, .int v2, .int v3] σ (s_N_faultAlong v1 v2 v3 σ, σ) := by
  generalize hF : s_N_faultAlong v1 v2 v3 σ = F
  refine metIp (exC_ok t) (by decide) (Nat.le_of_ble_eq_true rfl) (fun p e s m args below meth c A Q ls X S hl ret => ?_)
  have hq := hF.symm
  obtain ⟨hx, hb, hml, hown, hts, hK, hA, hE, hlk, hEo⟩ := id X
  have hl : lv_has ls 5 [(0, .ref (a 0)), (1, .int v1), (2, .int v2), (3, .int v3)] := hl
  have B_N_faultAlong_36_9 : ∀ (v1 : Int32) (v2 : Int32) (v3 : Int32) (H : Heap) (locs : List Loc) (ls : Array Slot), (o_N_faultAlong_36_9 v1 v2 v3 σ) → lv_has ls 5 [(0, .ref (a 0)), (1, .int v1), (2, .int v2), (3, .int v3), (4, .int (9 : Int32))] → St D (wC cI cZ a) A s σ H locs → F = s_N_faultAlong_36_9 v1 v2 v3 σ → W p l e ({ frames := 1, cells := 0, slots := 0, locals := 24 } : Room) s m args below meth c H locs 0 0 Q (F0 m 36 ls []) := by
    intro v1 v2 v3 H locs ls hok hl S hq
    refine lv_iload hx hb d_N_faultAlong_36 (lv_at hl 4 rfl) ?_
    refine lv_iload_n hx hb d_N_faultAlong_38 rfl (lv_at hl 2 rfl) ?_
    obtain ⟨g1, hok⟩ := hok
    refine lv_icmp_ge (tgt := 68) hx hb d_N_faultAlong_39 rfl (fun _ => ?_) (fun h9 => absurd (g1) h9)
    refine lv_iconst (v := 0) hx hb d_N_faultAlong_68 (by decide) ?_
    exact ret _ _ _ _ _ S hq d_N_faultAlong_69
  have B_N_faultAlong_36_8 : ∀ (v1 : Int32) (v2 : Int32) (v3 : Int32) (H : Heap) (locs : List Loc) (ls : Array Slot), (o_N_faultAlong_36_8 v1 v2 v3 σ) → lv_has ls 5 [(0, .ref (a 0)), (1, .int v1), (2, .int v2), (3, .int v3), (4, .int (8 : Int32))] → St D (wC cI cZ a) A s σ H locs → F = s_N_faultAlong_36_8 v1 v2 v3 σ → W p l e ({ frames := 1, cells := 0, slots := 0, locals := 24 } : Room) s m args below meth c H locs 0 0 Q (F0 m 36 ls []) := by
    intro v1 v2 v3 H locs ls hok hl S hq
    refine lv_iload hx hb d_N_faultAlong_36 (lv_at hl 4 rfl) ?_
    refine lv_iload_n hx hb d_N_faultAlong_38 rfl (lv_at hl 2 rfl) ?_
    refine lv_icmp_ge (tgt := 68) hx hb d_N_faultAlong_39 rfl (fun h39 => ?_) (fun h39 => ?_)
    · have hq := hq.trans (if_pos h39)
      have hok := ok_pos h39 hok
      refine lv_iconst (v := 0) hx hb d_N_faultAlong_68 (by decide) ?_
      exact ret _ _ _ _ _ S hq d_N_faultAlong_69
    · have hq := hq.trans (if_neg h39)
      have hok := ok_neg h39 hok
      refine lv_aload_n hx hb d_N_faultAlong_42 rfl (lv_at hl 0 rfl) ?_
      refine g_N_26 hx hb hts hown hK S.1 d_N_faultAlong_43 ?_
      refine lv_iload_n hx hb d_N_faultAlong_46 rfl (lv_at hl 1 rfl) ?_
      refine lv_iconst (v := 4) hx hb d_N_faultAlong_47 (by decide) ?_
      refine lv_iload hx hb d_N_faultAlong_48 (lv_at hl 4 rfl) ?_
      refine lv_imul hx hb d_N_faultAlong_50 ?_
      refine r_ci (v := 32) (by decide) ?_
      refine lv_iadd hx hb d_N_faultAlong_51 ?_
      refine lv_iload_n hx hb d_N_faultAlong_52 rfl (lv_at hl 3 rfl) ?_
      refine lv_iconst (v := 0) hx hb d_N_faultAlong_53 (by decide) ?_
      refine callVZp X S hl (c_Ar_bars (v1 + (32 : Int32)) v3 false _) v_N_214 5 2 ⟨rfl, rfl⟩ (rk_dec (by decide)) rfl rfl (Nat.le_of_ble_eq_true rfl) d_N_faultAlong_54 (fun H locs S => ?_)
      refine r_ifeqZ (tgt := 62) hx hb d_N_faultAlong_57 rfl (fun h57 => ?_) (fun h57 => ?_)
      · have hq := hq.trans (if_neg h57)
        have hok := ok_neg h57 hok
        refine lv_iinc (k := 4) (v := (9 : Int32)) hx hb d_N_faultAlong_62 hl rfl (by first | rfl | decide) (by decide) rfl (fun ls hl => ?_)
        refine lv_goto (tgt := 36) hx hb d_N_faultAlong_65 rfl ?_
        exact B_N_faultAlong_36_9 _ _ _ _ _ _ hok (lv_sub hl [1, 2, 3, 4, 0] rfl) S hq
      · have hq := hq.trans (if_pos h57)
        have hok := ok_pos h57 hok
        refine lv_iconst (v := 4) hx hb d_N_faultAlong_60 (by decide) ?_
        exact ret _ _ _ _ _ S hq d_N_faultAlong_61
  have B_N_faultAlong_36_7 : ∀ (v1 : Int32) (v2 : Int32) (v3 : Int32) (H : Heap) (locs : List Loc) (ls : Array Slot), (o_N_faultAlong_36_7 v1 v2 v3 σ) → lv_has ls 5 [(0, .ref (a 0)), (1, .int v1), (2, .int v2), (3, .int v3), (4, .int (7 : Int32))] → St D (wC cI cZ a) A s σ H locs → F = s_N_faultAlong_36_7 v1 v2 v3 σ → W p l e ({ frames := 1, cells := 0, slots := 0, locals := 24 } : Room) s m args below meth c H locs 0 0 Q (F0 m 36 ls []) := by
    intro v1 v2 v3 H locs ls hok hl S hq
    refine lv_iload hx hb d_N_faultAlong_36 (lv_at hl 4 rfl) ?_
    refine lv_iload_n hx hb d_N_faultAlong_38 rfl (lv_at hl 2 rfl) ?_
    refine lv_icmp_ge (tgt := 68) hx hb d_N_faultAlong_39 rfl (fun h39 => ?_) (fun h39 => ?_)
    · have hq := hq.trans (if_pos h39)
      have hok := ok_pos h39 hok
      refine lv_iconst (v := 0) hx hb d_N_faultAlong_68 (by decide) ?_
      exact ret _ _ _ _ _ S hq d_N_faultAlong_69
    · have hq := hq.trans (if_neg h39)
      have hok := ok_neg h39 hok
      refine lv_aload_n hx hb d_N_faultAlong_42 rfl (lv_at hl 0 rfl) ?_
      refine g_N_26 hx hb hts hown hK S.1 d_N_faultAlong_43 ?_
      refine lv_iload_n hx hb d_N_faultAlong_46 rfl (lv_at hl 1 rfl) ?_
      refine lv_iconst (v := 4) hx hb d_N_faultAlong_47 (by decide) ?_
      refine lv_iload hx hb d_N_faultAlong_48 (lv_at hl 4 rfl) ?_
      refine lv_imul hx hb d_N_faultAlong_50 ?_
      refine r_ci (v := 28) (by decide) ?_
      refine lv_iadd hx hb d_N_faultAlong_51 ?_
      refine lv_iload_n hx hb d_N_faultAlong_52 rfl (lv_at hl 3 rfl) ?_
      refine lv_iconst (v := 0) hx hb d_N_faultAlong_53 (by decide) ?_
      refine callVZp X S hl (c_Ar_bars (v1 + (28 : Int32)) v3 false _) v_N_214 5 2 ⟨rfl, rfl⟩ (rk_dec (by decide)) rfl rfl (Nat.le_of_ble_eq_true rfl) d_N_faultAlong_54 (fun H locs S => ?_)
      refine r_ifeqZ (tgt := 62) hx hb d_N_faultAlong_57 rfl (fun h57 => ?_) (fun h57 => ?_)
      · have hq := hq.trans (if_neg h57)
        have hok := ok_neg h57 hok
        refine lv_iinc (k := 4) (v := (8 : Int32)) hx hb d_N_faultAlong_62 hl rfl (by first | rfl | decide) (by decide) rfl (fun ls hl => ?_)
        refine lv_goto (tgt := 36) hx hb d_N_faultAlong_65 rfl ?_
        exact B_N_faultAlong_36_8 _ _ _ _ _ _ hok (lv_sub hl [1, 2, 3, 4, 0] rfl) S hq
      · have hq := hq.trans (if_pos h57)
        have hok := ok_pos h57 hok
        refine lv_iconst (v := 4) hx hb d_N_faultAlong_60 (by decide) ?_
        exact ret _ _ _ _ _ S hq d_N_faultAlong_61
  have B_N_faultAlong_36_6 : ∀ (v1 : Int32) (v2 : Int32) (v3 : Int32) (H : Heap) (locs : List Loc) (ls : Array Slot), (o_N_faultAlong_36_6 v1 v2 v3 σ) → lv_has ls 5 [(0, .ref (a 0)), (1, .int v1), (2, .int v2), (3, .int v3), (4, .int (6 : Int32))] → St D (wC cI cZ a) A s σ H locs → F = s_N_faultAlong_36_6 v1 v2 v3 σ → W p l e ({ frames := 1, cells := 0, slots := 0, locals := 24 } : Room) s m args below meth c H locs 0 0 Q (F0 m 36 ls []) := by
    intro v1 v2 v3 H locs ls hok hl S hq
    refine lv_iload hx hb d_N_faultAlong_36 (lv_at hl 4 rfl) ?_
    refine lv_iload_n hx hb d_N_faultAlong_38 rfl (lv_at hl 2 rfl) ?_
    refine lv_icmp_ge (tgt := 68) hx hb d_N_faultAlong_39 rfl (fun h39 => ?_) (fun h39 => ?_)
    · have hq := hq.trans (if_pos h39)
      have hok := ok_pos h39 hok
      refine lv_iconst (v := 0) hx hb d_N_faultAlong_68 (by decide) ?_
      exact ret _ _ _ _ _ S hq d_N_faultAlong_69
    · have hq := hq.trans (if_neg h39)
      have hok := ok_neg h39 hok
      refine lv_aload_n hx hb d_N_faultAlong_42 rfl (lv_at hl 0 rfl) ?_
      refine g_N_26 hx hb hts hown hK S.1 d_N_faultAlong_43 ?_
      refine lv_iload_n hx hb d_N_faultAlong_46 rfl (lv_at hl 1 rfl) ?_
      refine lv_iconst (v := 4) hx hb d_N_faultAlong_47 (by decide) ?_
      refine lv_iload hx hb d_N_faultAlong_48 (lv_at hl 4 rfl) ?_
      refine lv_imul hx hb d_N_faultAlong_50 ?_
      refine r_ci (v := 24) (by decide) ?_
      refine lv_iadd hx hb d_N_faultAlong_51 ?_
      refine lv_iload_n hx hb d_N_faultAlong_52 rfl (lv_at hl 3 rfl) ?_
      refine lv_iconst (v := 0) hx hb d_N_faultAlong_53 (by decide) ?_
      refine callVZp X S hl (c_Ar_bars (v1 + (24 : Int32)) v3 false _) v_N_214 5 2 ⟨rfl, rfl⟩ (rk_dec (by decide)) rfl rfl (Nat.le_of_ble_eq_true rfl) d_N_faultAlong_54 (fun H locs S => ?_)
      refine r_ifeqZ (tgt := 62) hx hb d_N_faultAlong_57 rfl (fun h57 => ?_) (fun h57 => ?_)
      · have hq := hq.trans (if_neg h57)
        have hok := ok_neg h57 hok
        refine lv_iinc (k := 4) (v := (7 : Int32)) hx hb d_N_faultAlong_62 hl rfl (by first | rfl | decide) (by decide) rfl (fun ls hl => ?_)
        refine lv_goto (tgt := 36) hx hb d_N_faultAlong_65 rfl ?_
        exact B_N_faultAlong_36_7 _ _ _ _ _ _ hok (lv_sub hl [1, 2, 3, 4, 0] rfl) S hq
      · have hq := hq.trans (if_pos h57)
        have hok := ok_pos h57 hok
        refine lv_iconst (v := 4) hx hb d_N_faultAlong_60 (by decide) ?_
        exact ret _ _ _ _ _ S hq d_N_faultAlong_61
  have B_N_faultAlong_36_5 : ∀ (v1 : Int32) (v2 : Int32) (v3 : Int32) (H : Heap) (locs : List Loc) (ls : Array Slot), (o_N_faultAlong_36_5 v1 v2 v3 σ) → lv_has ls 5 [(0, .ref (a 0)), (1, .int v1), (2, .int v2), (3, .int v3), (4, .int (5 : Int32))] → St D (wC cI cZ a) A s σ H locs → F = s_N_faultAlong_36_5 v1 v2 v3 σ → W p l e ({ frames := 1, cells := 0, slots := 0, locals := 24 } : Room) s m args below meth c H locs 0 0 Q (F0 m 36 ls []) := by
    intro v1 v2 v3 H locs ls hok hl S hq
    refine lv_iload hx hb d_N_faultAlong_36 (lv_at hl 4 rfl) ?_
    refine lv_iload_n hx hb d_N_faultAlong_38 rfl (lv_at hl 2 rfl) ?_
    refine lv_icmp_ge (tgt := 68) hx hb d_N_faultAlong_39 rfl (fun h39 => ?_) (fun h39 => ?_)
    · have hq := hq.trans (if_pos h39)
      have hok := ok_pos h39 hok
      refine lv_iconst (v := 0) hx hb d_N_faultAlong_68 (by decide) ?_
      exact ret _ _ _ _ _ S hq d_N_faultAlong_69
    · have hq := hq.trans (if_neg h39)
      have hok := ok_neg h39 hok
      refine lv_aload_n hx hb d_N_faultAlong_42 rfl (lv_at hl 0 rfl) ?_
      refine g_N_26 hx hb hts hown hK S.1 d_N_faultAlong_43 ?_
      refine lv_iload_n hx hb d_N_faultAlong_46 rfl (lv_at hl 1 rfl) ?_
      refine lv_iconst (v := 4) hx hb d_N_faultAlong_47 (by decide) ?_
      refine lv_iload hx hb d_N_faultAlong_48 (lv_at hl 4 rfl) ?_
      refine lv_imul hx hb d_N_faultAlong_50 ?_
      refine r_ci (v := 20) (by decide) ?_
      refine lv_iadd hx hb d_N_faultAlong_51 ?_
      refine lv_iload_n hx hb d_N_faultAlong_52 rfl (lv_at hl 3 rfl) ?_
      refine lv_iconst (v := 0) hx hb d_N_faultAlong_53 (by decide) ?_
      refine callVZp X S hl (c_Ar_bars (v1 + (20 : Int32)) v3 false _) v_N_214 5 2 ⟨rfl, rfl⟩ (rk_dec (by decide)) rfl rfl (Nat.le_of_ble_eq_true rfl) d_N_faultAlong_54 (fun H locs S => ?_)
      refine r_ifeqZ (tgt := 62) hx hb d_N_faultAlong_57 rfl (fun h57 => ?_) (fun h57 => ?_)
      · have hq := hq.trans (if_neg h57)
        have hok := ok_neg h57 hok
        refine lv_iinc (k := 4) (v := (6 : Int32)) hx hb d_N_faultAlong_62 hl rfl (by first | rfl | decide) (by decide) rfl (fun ls hl => ?_)
        refine lv_goto (tgt := 36) hx hb d_N_faultAlong_65 rfl ?_
        exact B_N_faultAlong_36_6 _ _ _ _ _ _ hok (lv_sub hl [1, 2, 3, 4, 0] rfl) S hq
      · have hq := hq.trans (if_pos h57)
        have hok := ok_pos h57 hok
        refine lv_iconst (v := 4) hx hb d_N_faultAlong_60 (by decide) ?_
        exact ret _ _ _ _ _ S hq d_N_faultAlong_61
  have B_N_faultAlong_36_4 : ∀ (v1 : Int32) (v2 : Int32) (v3 : Int32) (H : Heap) (locs : List Loc) (ls : Array Slot), (o_N_faultAlong_36_4 v1 v2 v3 σ) → lv_has ls 5 [(0, .ref (a 0)), (1, .int v1), (2, .int v2), (3, .int v3), (4, .int (4 : Int32))] → St D (wC cI cZ a) A s σ H locs → F = s_N_faultAlong_36_4 v1 v2 v3 σ → W p l e ({ frames := 1, cells := 0, slots := 0, locals := 24 } : Room) s m args below meth c H locs 0 0 Q (F0 m 36 ls []) := by
    intro v1 v2 v3 H locs ls hok hl S hq
    refine lv_iload hx hb d_N_faultAlong_36 (lv_at hl 4 rfl) ?_
    refine lv_iload_n hx hb d_N_faultAlong_38 rfl (lv_at hl 2 rfl) ?_
    refine lv_icmp_ge (tgt := 68) hx hb d_N_faultAlong_39 rfl (fun h39 => ?_) (fun h39 => ?_)
    · have hq := hq.trans (if_pos h39)
      have hok := ok_pos h39 hok
      refine lv_iconst (v := 0) hx hb d_N_faultAlong_68 (by decide) ?_
      exact ret _ _ _ _ _ S hq d_N_faultAlong_69
    · have hq := hq.trans (if_neg h39)
      have hok := ok_neg h39 hok
      refine lv_aload_n hx hb d_N_faultAlong_42 rfl (lv_at hl 0 rfl) ?_
      refine g_N_26 hx hb hts hown hK S.1 d_N_faultAlong_43 ?_
      refine lv_iload_n hx hb d_N_faultAlong_46 rfl (lv_at hl 1 rfl) ?_
      refine lv_iconst (v := 4) hx hb d_N_faultAlong_47 (by decide) ?_
      refine lv_iload hx hb d_N_faultAlong_48 (lv_at hl 4 rfl) ?_
      refine lv_imul hx hb d_N_faultAlong_50 ?_
      refine r_ci (v := 16) (by decide) ?_
      refine lv_iadd hx hb d_N_faultAlong_51 ?_
      refine lv_iload_n hx hb d_N_faultAlong_52 rfl (lv_at hl 3 rfl) ?_
      refine lv_iconst (v := 0) hx hb d_N_faultAlong_53 (by decide) ?_
      refine callVZp X S hl (c_Ar_bars (v1 + (16 : Int32)) v3 false _) v_N_214 5 2 ⟨rfl, rfl⟩ (rk_dec (by decide)) rfl rfl (Nat.le_of_ble_eq_true rfl) d_N_faultAlong_54 (fun H locs S => ?_)
      refine r_ifeqZ (tgt := 62) hx hb d_N_faultAlong_57 rfl (fun h57 => ?_) (fun h57 => ?_)
      · have hq := hq.trans (if_neg h57)
        have hok := ok_neg h57 hok
        refine lv_iinc (k := 4) (v := (5 : Int32)) hx hb d_N_faultAlong_62 hl rfl (by first | rfl | decide) (by decide) rfl (fun ls hl => ?_)
        refine lv_goto (tgt := 36) hx hb d_N_faultAlong_65 rfl ?_
        exact B_N_faultAlong_36_5 _ _ _ _ _ _ hok (lv_sub hl [1, 2, 3, 4, 0] rfl) S hq
      · have hq := hq.trans (if_pos h57)
        have hok := ok_pos h57 hok
        refine lv_iconst (v := 4) hx hb d_N_faultAlong_60 (by decide) ?_
        exact ret _ _ _ _ _ S hq d_N_faultAlong_61
  have B_N_faultAlong_36_3 : ∀ (v1 : Int32) (v2 : Int32) (v3 : Int32) (H : Heap) (locs : List Loc) (ls : Array Slot), (o_N_faultAlong_36_3 v1 v2 v3 σ) → lv_has ls 5 [(0, .ref (a 0)), (1, .int v1), (2, .int v2), (3, .int v3), (4, .int (3 : Int32))] → St D (wC cI cZ a) A s σ H locs → F = s_N_faultAlong_36_3 v1 v2 v3 σ → W p l e ({ frames := 1, cells := 0, slots := 0, locals := 24 } : Room) s m args below meth c H locs 0 0 Q (F0 m 36 ls []) := by
    intro v1 v2 v3 H locs ls hok hl S hq
    refine lv_iload hx hb d_N_faultAlong_36 (lv_at hl 4 rfl) ?_
    refine lv_iload_n hx hb d_N_faultAlong_38 rfl (lv_at hl 2 rfl) ?_
    refine lv_icmp_ge (tgt := 68) hx hb d_N_faultAlong_39 rfl (fun h39 => ?_) (fun h39 => ?_)
    · have hq := hq.trans (if_pos h39)
      have hok := ok_pos h39 hok
      refine lv_iconst (v := 0) hx hb d_N_faultAlong_68 (by decide) ?_
      exact ret _ _ _ _ _ S hq d_N_faultAlong_69
    · have hq := hq.trans (if_neg h39)
      have hok := ok_neg h39 hok
      refine lv_aload_n hx hb d_N_faultAlong_42 rfl (lv_at hl 0 rfl) ?_
      refine g_N_26 hx hb hts hown hK S.1 d_N_faultAlong_43 ?_
      refine lv_iload_n hx hb d_N_faultAlong_46 rfl (lv_at hl 1 rfl) ?_
      refine lv_iconst (v := 4) hx hb d_N_faultAlong_47 (by decide) ?_
      refine lv_iload hx hb d_N_faultAlong_48 (lv_at hl 4 rfl) ?_
      refine lv_imul hx hb d_N_faultAlong_50 ?_
      refine r_ci (v := 12) (by decide) ?_
      refine lv_iadd hx hb d_N_faultAlong_51 ?_
      refine lv_iload_n hx hb d_N_faultAlong_52 rfl (lv_at hl 3 rfl) ?_
      refine lv_iconst (v := 0) hx hb d_N_faultAlong_53 (by decide) ?_
      refine callVZp X S hl (c_Ar_bars (v1 + (12 : Int32)) v3 false _) v_N_214 5 2 ⟨rfl, rfl⟩ (rk_dec (by decide)) rfl rfl (Nat.le_of_ble_eq_true rfl) d_N_faultAlong_54 (fun H locs S => ?_)
      refine r_ifeqZ (tgt := 62) hx hb d_N_faultAlong_57 rfl (fun h57 => ?_) (fun h57 => ?_)
      · have hq := hq.trans (if_neg h57)
        have hok := ok_neg h57 hok
        refine lv_iinc (k := 4) (v := (4 : Int32)) hx hb d_N_faultAlong_62 hl rfl (by first | rfl | decide) (by decide) rfl (fun ls hl => ?_)
        refine lv_goto (tgt := 36) hx hb d_N_faultAlong_65 rfl ?_
        exact B_N_faultAlong_36_4 _ _ _ _ _ _ hok (lv_sub hl [1, 2, 3, 4, 0] rfl) S hq
      · have hq := hq.trans (if_pos h57)
        have hok := ok_pos h57 hok
        refine lv_iconst (v := 4) hx hb d_N_faultAlong_60 (by decide) ?_
        exact ret _ _ _ _ _ S hq d_N_faultAlong_61
  have B_N_faultAlong_36_2 : ∀ (v1 : Int32) (v2 : Int32) (v3 : Int32) (H : Heap) (locs : List Loc) (ls : Array Slot), (o_N_faultAlong_36_2 v1 v2 v3 σ) → lv_has ls 5 [(0, .ref (a 0)), (1, .int v1), (2, .int v2), (3, .int v3), (4, .int (2 : Int32))] → St D (wC cI cZ a) A s σ H locs → F = s_N_faultAlong_36_2 v1 v2 v3 σ → W p l e ({ frames := 1, cells := 0, slots := 0, locals := 24 } : Room) s m args below meth c H locs 0 0 Q (F0 m 36 ls []) := by
    intro v1 v2 v3 H locs ls hok hl S hq
    refine lv_iload hx hb d_N_faultAlong_36 (lv_at hl 4 rfl) ?_
    refine lv_iload_n hx hb d_N_faultAlong_38 rfl (lv_at hl 2 rfl) ?_
    refine lv_icmp_ge (tgt := 68) hx hb d_N_faultAlong_39 rfl (fun h39 => ?_) (fun h39 => ?_)
    · have hq := hq.trans (if_pos h39)
      have hok := ok_pos h39 hok
      refine lv_iconst (v := 0) hx hb d_N_faultAlong_68 (by decide) ?_
      exact ret _ _ _ _ _ S hq d_N_faultAlong_69
    · have hq := hq.trans (if_neg h39)
      have hok := ok_neg h39 hok
      refine lv_aload_n hx hb d_N_faultAlong_42 rfl (lv_at hl 0 rfl) ?_
      refine g_N_26 hx hb hts hown hK S.1 d_N_faultAlong_43 ?_
      refine lv_iload_n hx hb d_N_faultAlong_46 rfl (lv_at hl 1 rfl) ?_
      refine lv_iconst (v := 4) hx hb d_N_faultAlong_47 (by decide) ?_
      refine lv_iload hx hb d_N_faultAlong_48 (lv_at hl 4 rfl) ?_
      refine lv_imul hx hb d_N_faultAlong_50 ?_
      refine r_ci (v := 8) (by decide) ?_
      refine lv_iadd hx hb d_N_faultAlong_51 ?_
      refine lv_iload_n hx hb d_N_faultAlong_52 rfl (lv_at hl 3 rfl) ?_
      refine lv_iconst (v := 0) hx hb d_N_faultAlong_53 (by decide) ?_
      refine callVZp X S hl (c_Ar_bars (v1 + (8 : Int32)) v3 false _) v_N_214 5 2 ⟨rfl, rfl⟩ (rk_dec (by decide)) rfl rfl (Nat.le_of_ble_eq_true rfl) d_N_faultAlong_54 (fun H locs S => ?_)
      refine r_ifeqZ (tgt := 62) hx hb d_N_faultAlong_57 rfl (fun h57 => ?_) (fun h57 => ?_)
      · have hq := hq.trans (if_neg h57)
        have hok := ok_neg h57 hok
        refine lv_iinc (k := 4) (v := (3 : Int32)) hx hb d_N_faultAlong_62 hl rfl (by first | rfl | decide) (by decide) rfl (fun ls hl => ?_)
        refine lv_goto (tgt := 36) hx hb d_N_faultAlong_65 rfl ?_
        exact B_N_faultAlong_36_3 _ _ _ _ _ _ hok (lv_sub hl [1, 2, 3, 4, 0] rfl) S hq
      · have hq := hq.trans (if_pos h57)
        have hok := ok_pos h57 hok
        refine lv_iconst (v := 4) hx hb d_N_faultAlong_60 (by decide) ?_
        exact ret _ _ _ _ _ S hq d_N_faultAlong_61
  have B_N_faultAlong_36_1 : ∀ (v1 : Int32) (v2 : Int32) (v3 : Int32) (H : Heap) (locs : List Loc) (ls : Array Slot), (o_N_faultAlong_36_1 v1 v2 v3 σ) → lv_has ls 5 [(0, .ref (a 0)), (1, .int v1), (2, .int v2), (3, .int v3), (4, .int (1 : Int32))] → St D (wC cI cZ a) A s σ H locs → F = s_N_faultAlong_36_1 v1 v2 v3 σ → W p l e ({ frames := 1, cells := 0, slots := 0, locals := 24 } : Room) s m args below meth c H locs 0 0 Q (F0 m 36 ls []) := by
    intro v1 v2 v3 H locs ls hok hl S hq
    refine lv_iload hx hb d_N_faultAlong_36 (lv_at hl 4 rfl) ?_
    refine lv_iload_n hx hb d_N_faultAlong_38 rfl (lv_at hl 2 rfl) ?_
    refine lv_icmp_ge (tgt := 68) hx hb d_N_faultAlong_39 rfl (fun h39 => ?_) (fun h39 => ?_)
    · have hq := hq.trans (if_pos h39)
      have hok := ok_pos h39 hok
      refine lv_iconst (v := 0) hx hb d_N_faultAlong_68 (by decide) ?_
      exact ret _ _ _ _ _ S hq d_N_faultAlong_69
    · have hq := hq.trans (if_neg h39)
      have hok := ok_neg h39 hok
      refine lv_aload_n hx hb d_N_faultAlong_42 rfl (lv_at hl 0 rfl) ?_
      refine g_N_26 hx hb hts hown hK S.1 d_N_faultAlong_43 ?_
      refine lv_iload_n hx hb d_N_faultAlong_46 rfl (lv_at hl 1 rfl) ?_
      refine lv_iconst (v := 4) hx hb d_N_faultAlong_47 (by decide) ?_
      refine lv_iload hx hb d_N_faultAlong_48 (lv_at hl 4 rfl) ?_
      refine lv_imul hx hb d_N_faultAlong_50 ?_
      refine r_ci (v := 4) (by decide) ?_
      refine lv_iadd hx hb d_N_faultAlong_51 ?_
      refine lv_iload_n hx hb d_N_faultAlong_52 rfl (lv_at hl 3 rfl) ?_
      refine lv_iconst (v := 0) hx hb d_N_faultAlong_53 (by decide) ?_
      refine callVZp X S hl (c_Ar_bars (v1 + (4 : Int32)) v3 false _) v_N_214 5 2 ⟨rfl, rfl⟩ (rk_dec (by decide)) rfl rfl (Nat.le_of_ble_eq_true rfl) d_N_faultAlong_54 (fun H locs S => ?_)
      refine r_ifeqZ (tgt := 62) hx hb d_N_faultAlong_57 rfl (fun h57 => ?_) (fun h57 => ?_)
      · have hq := hq.trans (if_neg h57)
        have hok := ok_neg h57 hok
        refine lv_iinc (k := 4) (v := (2 : Int32)) hx hb d_N_faultAlong_62 hl rfl (by first | rfl | decide) (by decide) rfl (fun ls hl => ?_)
        refine lv_goto (tgt := 36) hx hb d_N_faultAlong_65 rfl ?_
        exact B_N_faultAlong_36_2 _ _ _ _ _ _ hok (lv_sub hl [1, 2, 3, 4, 0] rfl) S hq
      · have hq := hq.trans (if_pos h57)
        have hok := ok_pos h57 hok
        refine lv_iconst (v := 4) hx hb d_N_faultAlong_60 (by decide) ?_
        exact ret _ _ _ _ _ S hq d_N_faultAlong_61
  have B_N_faultAlong_36_0 : ∀ (v1 : Int32) (v2 : Int32) (v3 : Int32) (H : Heap) (locs : List Loc) (ls : Array Slot), (o_N_faultAlong_36_0 v1 v2 v3 σ) → lv_has ls 5 [(0, .ref (a 0)), (1, .int v1), (2, .int v2), (3, .int v3), (4, .int (0 : Int32))] → St D (wC cI cZ a) A s σ H locs → F = s_N_faultAlong_36_0 v1 v2 v3 σ → W p l e ({ frames := 1, cells := 0, slots := 0, locals := 24 } : Room) s m args below meth c H locs 0 0 Q (F0 m 36 ls []) := by
    intro v1 v2 v3 H locs ls hok hl S hq
    refine lv_iload hx hb d_N_faultAlong_36 (lv_at hl 4 rfl) ?_
    refine lv_iload_n hx hb d_N_faultAlong_38 rfl (lv_at hl 2 rfl) ?_
    refine lv_icmp_ge (tgt := 68) hx hb d_N_faultAlong_39 rfl (fun h39 => ?_) (fun h39 => ?_)
    · have hq := hq.trans (if_pos h39)
      have hok := ok_pos h39 hok
      refine lv_iconst (v := 0) hx hb d_N_faultAlong_68 (by decide) ?_
      exact ret _ _ _ _ _ S hq d_N_faultAlong_69
    · have hq := hq.trans (if_neg h39)
      have hok := ok_neg h39 hok
      refine lv_aload_n hx hb d_N_faultAlong_42 rfl (lv_at hl 0 rfl) ?_
      refine g_N_26 hx hb hts hown hK S.1 d_N_faultAlong_43 ?_
      refine lv_iload_n hx hb d_N_faultAlong_46 rfl (lv_at hl 1 rfl) ?_
      refine lv_iconst (v := 4) hx hb d_N_faultAlong_47 (by decide) ?_
      refine lv_iload hx hb d_N_faultAlong_48 (lv_at hl 4 rfl) ?_
      refine lv_imul hx hb d_N_faultAlong_50 ?_
      refine r_ci (v := 0) (by decide) ?_
      refine lv_iadd hx hb d_N_faultAlong_51 ?_
      refine lv_iload_n hx hb d_N_faultAlong_52 rfl (lv_at hl 3 rfl) ?_
      refine lv_iconst (v := 0) hx hb d_N_faultAlong_53 (by decide) ?_
      refine callVZp X S hl (c_Ar_bars (v1 + (0 : Int32)) v3 false _) v_N_214 5 2 ⟨rfl, rfl⟩ (rk_dec (by decide)) rfl rfl (Nat.le_of_ble_eq_true rfl) d_N_faultAlong_54 (fun H locs S => ?_)
      refine r_ifeqZ (tgt := 62) hx hb d_N_faultAlong_57 rfl (fun h57 => ?_) (fun h57 => ?_)
      · have hq := hq.trans (if_neg h57)
        have hok := ok_neg h57 hok
        refine lv_iinc (k := 4) (v := (1 : Int32)) hx hb d_N_faultAlong_62 hl rfl (by first | rfl | decide) (by decide) rfl (fun ls hl => ?_)
        refine lv_goto (tgt := 36) hx hb d_N_faultAlong_65 rfl ?_
        exact B_N_faultAlong_36_1 _ _ _ _ _ _ hok (lv_sub hl [1, 2, 3, 4, 0] rfl) S hq
      · have hq := hq.trans (if_pos h57)
        have hok := ok_pos h57 hok
        refine lv_iconst (v := 4) hx hb d_N_faultAlong_60 (by decide) ?_
        exact ret _ _ _ _ _ S hq d_N_faultAlong_61
  have B_N_faultAlong_3_9 : ∀ (v1 : Int32) (v2 : Int32) (v3 : Int32) (H : Heap) (locs : List Loc) (ls : Array Slot), (o_N_faultAlong_3_9 v1 v2 v3 σ) → lv_has ls 5 [(0, .ref (a 0)), (1, .int v1), (2, .int v2), (3, .int v3), (4, .int (9 : Int32))] → St D (wC cI cZ a) A s σ H locs → F = s_N_faultAlong_3_9 v1 v2 v3 σ → W p l e ({ frames := 1, cells := 0, slots := 0, locals := 24 } : Room) s m args below meth c H locs 0 0 Q (F0 m 3 ls []) := by
    intro v1 v2 v3 H locs ls hok hl S hq
    refine lv_iload hx hb d_N_faultAlong_3 (lv_at hl 4 rfl) ?_
    refine lv_iload_n hx hb d_N_faultAlong_5 rfl (lv_at hl 2 rfl) ?_
    obtain ⟨g2, hok⟩ := hok
    refine lv_icmp_ge (tgt := 33) hx hb d_N_faultAlong_6 rfl (fun _ => ?_) (fun h9 => absurd (g2) h9)
    refine lv_iconst (v := 0) hx hb d_N_faultAlong_33 (by decide) ?_
    refine lv_istore hx hb d_N_faultAlong_34 hl (by decide) rfl (fun ls hl => ?_)
    exact B_N_faultAlong_36_0 _ _ _ _ _ _ hok (lv_sub hl [1, 2, 3, 4, 0] rfl) S hq
  have B_N_faultAlong_3_8 : ∀ (v1 : Int32) (v2 : Int32) (v3 : Int32) (H : Heap) (locs : List Loc) (ls : Array Slot), (o_N_faultAlong_3_8 v1 v2 v3 σ) → lv_has ls 5 [(0, .ref (a 0)), (1, .int v1), (2, .int v2), (3, .int v3), (4, .int (8 : Int32))] → St D (wC cI cZ a) A s σ H locs → F = s_N_faultAlong_3_8 v1 v2 v3 σ → W p l e ({ frames := 1, cells := 0, slots := 0, locals := 24 } : Room) s m args below meth c H locs 0 0 Q (F0 m 3 ls []) := by
    intro v1 v2 v3 H locs ls hok hl S hq
    refine lv_iload hx hb d_N_faultAlong_3 (lv_at hl 4 rfl) ?_
    refine lv_iload_n hx hb d_N_faultAlong_5 rfl (lv_at hl 2 rfl) ?_
    refine lv_icmp_ge (tgt := 33) hx hb d_N_faultAlong_6 rfl (fun h6 => ?_) (fun h6 => ?_)
    · have hq := hq.trans (if_pos h6)
      have hok := ok_pos h6 hok
      refine lv_iconst (v := 0) hx hb d_N_faultAlong_33 (by decide) ?_
      refine lv_istore hx hb d_N_faultAlong_34 hl (by decide) rfl (fun ls hl => ?_)
      exact B_N_faultAlong_36_0 _ _ _ _ _ _ hok (lv_sub hl [1, 2, 3, 4, 0] rfl) S hq
    · have hq := hq.trans (if_neg h6)
      have hok := ok_neg h6 hok
      refine lv_aload_n hx hb d_N_faultAlong_9 rfl (lv_at hl 0 rfl) ?_
      refine g_N_19 hx hb hts hown hK S.1 d_N_faultAlong_10 ?_
      refine lv_iload_n hx hb d_N_faultAlong_13 rfl (lv_at hl 1 rfl) ?_
      refine lv_iconst (v := 4) hx hb d_N_faultAlong_14 (by decide) ?_
      refine lv_iload hx hb d_N_faultAlong_15 (lv_at hl 4 rfl) ?_
      refine lv_imul hx hb d_N_faultAlong_17 ?_
      refine r_ci (v := 32) (by decide) ?_
      refine lv_iadd hx hb d_N_faultAlong_18 ?_
      refine callVZp X S hl (c_Me_holdsWord (v1 + (32 : Int32)) _) v_N_51 3 1 ⟨rfl, rfl⟩ (rk_dec (by decide)) rfl rfl (Nat.le_of_ble_eq_true rfl) d_N_faultAlong_19 (fun H locs S => ?_)
      refine r_ifneZ (tgt := 27) hx hb d_N_faultAlong_22 rfl (fun h22 => ?_) (fun h22 => ?_)
      · have hq := hq.trans (if_pos h22)
        have hok := ok_pos h22 hok
        refine lv_iinc (k := 4) (v := (9 : Int32)) hx hb d_N_faultAlong_27 hl rfl (by first | rfl | decide) (by decide) rfl (fun ls hl => ?_)
        refine lv_goto (tgt := 3) hx hb d_N_faultAlong_30 rfl ?_
        exact B_N_faultAlong_3_9 _ _ _ _ _ _ hok (lv_sub hl [1, 2, 3, 4, 0] rfl) S hq
      · have hq := hq.trans (if_neg h22)
        have hok := ok_neg h22 hok
        refine lv_iconst (v := 5) hx hb d_N_faultAlong_25 (by decide) ?_
        exact ret _ _ _ _ _ S hq d_N_faultAlong_26
  have B_N_faultAlong_3_7 : ∀ (v1 : Int32) (v2 : Int32) (v3 : Int32) (H : Heap) (locs : List Loc) (ls : Array Slot), (o_N_faultAlong_3_7 v1 v2 v3 σ) → lv_has ls 5 [(0, .ref (a 0)), (1, .int v1), (2, .int v2), (3, .int v3), (4, .int (7 : Int32))] → St D (wC cI cZ a) A s σ H locs → F = s_N_faultAlong_3_7 v1 v2 v3 σ → W p l e ({ frames := 1, cells := 0, slots := 0, locals := 24 } : Room) s m args below meth c H locs 0 0 Q (F0 m 3 ls []) := by
    intro v1 v2 v3 H locs ls hok hl S hq
    refine lv_iload hx hb d_N_faultAlong_3 (lv_at hl 4 rfl) ?_
    refine lv_iload_n hx hb d_N_faultAlong_5 rfl (lv_at hl 2 rfl) ?_
    refine lv_icmp_ge (tgt := 33) hx hb d_N_faultAlong_6 rfl (fun h6 => ?_) (fun h6 => ?_)
    · have hq := hq.trans (if_pos h6)
      have hok := ok_pos h6 hok
      refine lv_iconst (v := 0) hx hb d_N_faultAlong_33 (by decide) ?_
      refine lv_istore hx hb d_N_faultAlong_34 hl (by decide) rfl (fun ls hl => ?_)
      exact B_N_faultAlong_36_0 _ _ _ _ _ _ hok (lv_sub hl [1, 2, 3, 4, 0] rfl) S hq
    · have hq := hq.trans (if_neg h6)
      have hok := ok_neg h6 hok
      refine lv_aload_n hx hb d_N_faultAlong_9 rfl (lv_at hl 0 rfl) ?_
      refine g_N_19 hx hb hts hown hK S.1 d_N_faultAlong_10 ?_
      refine lv_iload_n hx hb d_N_faultAlong_13 rfl (lv_at hl 1 rfl) ?_
      refine lv_iconst (v := 4) hx hb d_N_faultAlong_14 (by decide) ?_
      refine lv_iload hx hb d_N_faultAlong_15 (lv_at hl 4 rfl) ?_
      refine lv_imul hx hb d_N_faultAlong_17 ?_
      refine r_ci (v := 28) (by decide) ?_
      refine lv_iadd hx hb d_N_faultAlong_18 ?_
      refine callVZp X S hl (c_Me_holdsWord (v1 + (28 : Int32)) _) v_N_51 3 1 ⟨rfl, rfl⟩ (rk_dec (by decide)) rfl rfl (Nat.le_of_ble_eq_true rfl) d_N_faultAlong_19 (fun H locs S => ?_)
      refine r_ifneZ (tgt := 27) hx hb d_N_faultAlong_22 rfl (fun h22 => ?_) (fun h22 => ?_)
      · have hq := hq.trans (if_pos h22)
        have hok := ok_pos h22 hok
        refine lv_iinc (k := 4) (v := (8 : Int32)) hx hb d_N_faultAlong_27 hl rfl (by first | rfl | decide) (by decide) rfl (fun ls hl => ?_)
        refine lv_goto (tgt := 3) hx hb d_N_faultAlong_30 rfl ?_
        exact B_N_faultAlong_3_8 _ _ _ _ _ _ hok (lv_sub hl [1, 2, 3, 4, 0] rfl) S hq
      · have hq := hq.trans (if_neg h22)
        have hok := ok_neg h22 hok
        refine lv_iconst (v := 5) hx hb d_N_faultAlong_25 (by decide) ?_
        exact ret _ _ _ _ _ S hq d_N_faultAlong_26
  have B_N_faultAlong_3_6 : ∀ (v1 : Int32) (v2 : Int32) (v3 : Int32) (H : Heap) (locs : List Loc) (ls : Array Slot), (o_N_faultAlong_3_6 v1 v2 v3 σ) → lv_has ls 5 [(0, .ref (a 0)), (1, .int v1), (2, .int v2), (3, .int v3), (4, .int (6 : Int32))] → St D (wC cI cZ a) A s σ H locs → F = s_N_faultAlong_3_6 v1 v2 v3 σ → W p l e ({ frames := 1, cells := 0, slots := 0, locals := 24 } : Room) s m args below meth c H locs 0 0 Q (F0 m 3 ls []) := by
    intro v1 v2 v3 H locs ls hok hl S hq
    refine lv_iload hx hb d_N_faultAlong_3 (lv_at hl 4 rfl) ?_
    refine lv_iload_n hx hb d_N_faultAlong_5 rfl (lv_at hl 2 rfl) ?_
    refine lv_icmp_ge (tgt := 33) hx hb d_N_faultAlong_6 rfl (fun h6 => ?_) (fun h6 => ?_)
    · have hq := hq.trans (if_pos h6)
      have hok := ok_pos h6 hok
      refine lv_iconst (v := 0) hx hb d_N_faultAlong_33 (by decide) ?_
      refine lv_istore hx hb d_N_faultAlong_34 hl (by decide) rfl (fun ls hl => ?_)
      exact B_N_faultAlong_36_0 _ _ _ _ _ _ hok (lv_sub hl [1, 2, 3, 4, 0] rfl) S hq
    · have hq := hq.trans (if_neg h6)
      have hok := ok_neg h6 hok
      refine lv_aload_n hx hb d_N_faultAlong_9 rfl (lv_at hl 0 rfl) ?_
      refine g_N_19 hx hb hts hown hK S.1 d_N_faultAlong_10 ?_
      refine lv_iload_n hx hb d_N_faultAlong_13 rfl (lv_at hl 1 rfl) ?_
      refine lv_iconst (v := 4) hx hb d_N_faultAlong_14 (by decide) ?_
      refine lv_iload hx hb d_N_faultAlong_15 (lv_at hl 4 rfl) ?_
      refine lv_imul hx hb d_N_faultAlong_17 ?_
      refine r_ci (v := 24) (by decide) ?_
      refine lv_iadd hx hb d_N_faultAlong_18 ?_
      refine callVZp X S hl (c_Me_holdsWord (v1 + (24 : Int32)) _) v_N_51 3 1 ⟨rfl, rfl⟩ (rk_dec (by decide)) rfl rfl (Nat.le_of_ble_eq_true rfl) d_N_faultAlong_19 (fun H locs S => ?_)
      refine r_ifneZ (tgt := 27) hx hb d_N_faultAlong_22 rfl (fun h22 => ?_) (fun h22 => ?_)
      · have hq := hq.trans (if_pos h22)
        have hok := ok_pos h22 hok
        refine lv_iinc (k := 4) (v := (7 : Int32)) hx hb d_N_faultAlong_27 hl rfl (by first | rfl | decide) (by decide) rfl (fun ls hl => ?_)
        refine lv_goto (tgt := 3) hx hb d_N_faultAlong_30 rfl ?_
        exact B_N_faultAlong_3_7 _ _ _ _ _ _ hok (lv_sub hl [1, 2, 3, 4, 0] rfl) S hq
      · have hq := hq.trans (if_neg h22)
        have hok := ok_neg h22 hok
        refine lv_iconst (v := 5) hx hb d_N_faultAlong_25 (by decide) ?_
        exact ret _ _ _ _ _ S hq d_N_faultAlong_26
  have B_N_faultAlong_3_5 : ∀ (v1 : Int32) (v2 : Int32) (v3 : Int32) (H : Heap) (locs : List Loc) (ls : Array Slot), (o_N_faultAlong_3_5 v1 v2 v3 σ) → lv_has ls 5 [(0, .ref (a 0)), (1, .int v1), (2, .int v2), (3, .int v3), (4, .int (5 : Int32))] → St D (wC cI cZ a) A s σ H locs → F = s_N_faultAlong_3_5 v1 v2 v3 σ → W p l e ({ frames := 1, cells := 0, slots := 0, locals := 24 } : Room) s m args below meth c H locs 0 0 Q (F0 m 3 ls []) := by
    intro v1 v2 v3 H locs ls hok hl S hq
    refine lv_iload hx hb d_N_faultAlong_3 (lv_at hl 4 rfl) ?_
    refine lv_iload_n hx hb d_N_faultAlong_5 rfl (lv_at hl 2 rfl) ?_
    refine lv_icmp_ge (tgt := 33) hx hb d_N_faultAlong_6 rfl (fun h6 => ?_) (fun h6 => ?_)
    · have hq := hq.trans (if_pos h6)
      have hok := ok_pos h6 hok
      refine lv_iconst (v := 0) hx hb d_N_faultAlong_33 (by decide) ?_
      refine lv_istore hx hb d_N_faultAlong_34 hl (by decide) rfl (fun ls hl => ?_)
      exact B_N_faultAlong_36_0 _ _ _ _ _ _ hok (lv_sub hl [1, 2, 3, 4, 0] rfl) S hq
    · have hq := hq.trans (if_neg h6)
      have hok := ok_neg h6 hok
      refine lv_aload_n hx hb d_N_faultAlong_9 rfl (lv_at hl 0 rfl) ?_
      refine g_N_19 hx hb hts hown hK S.1 d_N_faultAlong_10 ?_
      refine lv_iload_n hx hb d_N_faultAlong_13 rfl (lv_at hl 1 rfl) ?_
      refine lv_iconst (v := 4) hx hb d_N_faultAlong_14 (by decide) ?_
      refine lv_iload hx hb d_N_faultAlong_15 (lv_at hl 4 rfl) ?_
      refine lv_imul hx hb d_N_faultAlong_17 ?_
      refine r_ci (v := 20) (by decide) ?_
      refine lv_iadd hx hb d_N_faultAlong_18 ?_
      refine callVZp X S hl (c_Me_holdsWord (v1 + (20 : Int32)) _) v_N_51 3 1 ⟨rfl, rfl⟩ (rk_dec (by decide)) rfl rfl (Nat.le_of_ble_eq_true rfl) d_N_faultAlong_19 (fun H locs S => ?_)
      refine r_ifneZ (tgt := 27) hx hb d_N_faultAlong_22 rfl (fun h22 => ?_) (fun h22 => ?_)
      · have hq := hq.trans (if_pos h22)
        have hok := ok_pos h22 hok
        refine lv_iinc (k := 4) (v := (6 : Int32)) hx hb d_N_faultAlong_27 hl rfl (by first | rfl | decide) (by decide) rfl (fun ls hl => ?_)
        refine lv_goto (tgt := 3) hx hb d_N_faultAlong_30 rfl ?_
        exact B_N_faultAlong_3_6 _ _ _ _ _ _ hok (lv_sub hl [1, 2, 3, 4, 0] rfl) S hq
      · have hq := hq.trans (if_neg h22)
        have hok := ok_neg h22 hok
        refine lv_iconst (v := 5) hx hb d_N_faultAlong_25 (by decide) ?_
        exact ret _ _ _ _ _ S hq d_N_faultAlong_26
  have B_N_faultAlong_3_4 : ∀ (v1 : Int32) (v2 : Int32) (v3 : Int32) (H : Heap) (locs : List Loc) (ls : Array Slot), (o_N_faultAlong_3_4 v1 v2 v3 σ) → lv_has ls 5 [(0, .ref (a 0)), (1, .int v1), (2, .int v2), (3, .int v3), (4, .int (4 : Int32))] → St D (wC cI cZ a) A s σ H locs → F = s_N_faultAlong_3_4 v1 v2 v3 σ → W p l e ({ frames := 1, cells := 0, slots := 0, locals := 24 } : Room) s m args below meth c H locs 0 0 Q (F0 m 3 ls []) := by
    intro v1 v2 v3 H locs ls hok hl S hq
    refine lv_iload hx hb d_N_faultAlong_3 (lv_at hl 4 rfl) ?_
    refine lv_iload_n hx hb d_N_faultAlong_5 rfl (lv_at hl 2 rfl) ?_
    refine lv_icmp_ge (tgt := 33) hx hb d_N_faultAlong_6 rfl (fun h6 => ?_) (fun h6 => ?_)
    · have hq := hq.trans (if_pos h6)
      have hok := ok_pos h6 hok
      refine lv_iconst (v := 0) hx hb d_N_faultAlong_33 (by decide) ?_
      refine lv_istore hx hb d_N_faultAlong_34 hl (by decide) rfl (fun ls hl => ?_)
      exact B_N_faultAlong_36_0 _ _ _ _ _ _ hok (lv_sub hl [1, 2, 3, 4, 0] rfl) S hq
    · have hq := hq.trans (if_neg h6)
      have hok := ok_neg h6 hok
      refine lv_aload_n hx hb d_N_faultAlong_9 rfl (lv_at hl 0 rfl) ?_
      refine g_N_19 hx hb hts hown hK S.1 d_N_faultAlong_10 ?_
      refine lv_iload_n hx hb d_N_faultAlong_13 rfl (lv_at hl 1 rfl) ?_
      refine lv_iconst (v := 4) hx hb d_N_faultAlong_14 (by decide) ?_
      refine lv_iload hx hb d_N_faultAlong_15 (lv_at hl 4 rfl) ?_
      refine lv_imul hx hb d_N_faultAlong_17 ?_
      refine r_ci (v := 16) (by decide) ?_
      refine lv_iadd hx hb d_N_faultAlong_18 ?_
      refine callVZp X S hl (c_Me_holdsWord (v1 + (16 : Int32)) _) v_N_51 3 1 ⟨rfl, rfl⟩ (rk_dec (by decide)) rfl rfl (Nat.le_of_ble_eq_true rfl) d_N_faultAlong_19 (fun H locs S => ?_)
      refine r_ifneZ (tgt := 27) hx hb d_N_faultAlong_22 rfl (fun h22 => ?_) (fun h22 => ?_)
      · have hq := hq.trans (if_pos h22)
        have hok := ok_pos h22 hok
        refine lv_iinc (k := 4) (v := (5 : Int32)) hx hb d_N_faultAlong_27 hl rfl (by first | rfl | decide) (by decide) rfl (fun ls hl => ?_)
        refine lv_goto (tgt := 3) hx hb d_N_faultAlong_30 rfl ?_
        exact B_N_faultAlong_3_5 _ _ _ _ _ _ hok (lv_sub hl [1, 2, 3, 4, 0] rfl) S hq
      · have hq := hq.trans (if_neg h22)
        have hok := ok_neg h22 hok
        refine lv_iconst (v := 5) hx hb d_N_faultAlong_25 (by decide) ?_
        exact ret _ _ _ _ _ S hq d_N_faultAlong_26
  have B_N_faultAlong_3_3 : ∀ (v1 : Int32) (v2 : Int32) (v3 : Int32) (H : Heap) (locs : List Loc) (ls : Array Slot), (o_N_faultAlong_3_3 v1 v2 v3 σ) → lv_has ls 5 [(0, .ref (a 0)), (1, .int v1), (2, .int v2), (3, .int v3), (4, .int (3 : Int32))] → St D (wC cI cZ a) A s σ H locs → F = s_N_faultAlong_3_3 v1 v2 v3 σ → W p l e ({ frames := 1, cells := 0, slots := 0, locals := 24 } : Room) s m args below meth c H locs 0 0 Q (F0 m 3 ls []) := by
    intro v1 v2 v3 H locs ls hok hl S hq
    refine lv_iload hx hb d_N_faultAlong_3 (lv_at hl 4 rfl) ?_
    refine lv_iload_n hx hb d_N_faultAlong_5 rfl (lv_at hl 2 rfl) ?_
    refine lv_icmp_ge (tgt := 33) hx hb d_N_faultAlong_6 rfl (fun h6 => ?_) (fun h6 => ?_)
    · have hq := hq.trans (if_pos h6)
      have hok := ok_pos h6 hok
      refine lv_iconst (v := 0) hx hb d_N_faultAlong_33 (by decide) ?_
      refine lv_istore hx hb d_N_faultAlong_34 hl (by decide) rfl (fun ls hl => ?_)
      exact B_N_faultAlong_36_0 _ _ _ _ _ _ hok (lv_sub hl [1, 2, 3, 4, 0] rfl) S hq
    · have hq := hq.trans (if_neg h6)
      have hok := ok_neg h6 hok
      refine lv_aload_n hx hb d_N_faultAlong_9 rfl (lv_at hl 0 rfl) ?_
      refine g_N_19 hx hb hts hown hK S.1 d_N_faultAlong_10 ?_
      refine lv_iload_n hx hb d_N_faultAlong_13 rfl (lv_at hl 1 rfl) ?_
      refine lv_iconst (v := 4) hx hb d_N_faultAlong_14 (by decide) ?_
      refine lv_iload hx hb d_N_faultAlong_15 (lv_at hl 4 rfl) ?_
      refine lv_imul hx hb d_N_faultAlong_17 ?_
      refine r_ci (v := 12) (by decide) ?_
      refine lv_iadd hx hb d_N_faultAlong_18 ?_
      refine callVZp X S hl (c_Me_holdsWord (v1 + (12 : Int32)) _) v_N_51 3 1 ⟨rfl, rfl⟩ (rk_dec (by decide)) rfl rfl (Nat.le_of_ble_eq_true rfl) d_N_faultAlong_19 (fun H locs S => ?_)
      refine r_ifneZ (tgt := 27) hx hb d_N_faultAlong_22 rfl (fun h22 => ?_) (fun h22 => ?_)
      · have hq := hq.trans (if_pos h22)
        have hok := ok_pos h22 hok
        refine lv_iinc (k := 4) (v := (4 : Int32)) hx hb d_N_faultAlong_27 hl rfl (by first | rfl | decide) (by decide) rfl (fun ls hl => ?_)
        refine lv_goto (tgt := 3) hx hb d_N_faultAlong_30 rfl ?_
        exact B_N_faultAlong_3_4 _ _ _ _ _ _ hok (lv_sub hl [1, 2, 3, 4, 0] rfl) S hq
      · have hq := hq.trans (if_neg h22)
        have hok := ok_neg h22 hok
        refine lv_iconst (v := 5) hx hb d_N_faultAlong_25 (by decide) ?_
        exact ret _ _ _ _ _ S hq d_N_faultAlong_26
  have B_N_faultAlong_3_2 : ∀ (v1 : Int32) (v2 : Int32) (v3 : Int32) (H : Heap) (locs : List Loc) (ls : Array Slot), (o_N_faultAlong_3_2 v1 v2 v3 σ) → lv_has ls 5 [(0, .ref (a 0)), (1, .int v1), (2, .int v2), (3, .int v3), (4, .int (2 : Int32))] → St D (wC cI cZ a) A s σ H locs → F = s_N_faultAlong_3_2 v1 v2 v3 σ → W p l e ({ frames := 1, cells := 0, slots := 0, locals := 24 } : Room) s m args below meth c H locs 0 0 Q (F0 m 3 ls []) := by
    intro v1 v2 v3 H locs ls hok hl S hq
    refine lv_iload hx hb d_N_faultAlong_3 (lv_at hl 4 rfl) ?_
    refine lv_iload_n hx hb d_N_faultAlong_5 rfl (lv_at hl 2 rfl) ?_
    refine lv_icmp_ge (tgt := 33) hx hb d_N_faultAlong_6 rfl (fun h6 => ?_) (fun h6 => ?_)
    · have hq := hq.trans (if_pos h6)
      have hok := ok_pos h6 hok
      refine lv_iconst (v := 0) hx hb d_N_faultAlong_33 (by decide) ?_
      refine lv_istore hx hb d_N_faultAlong_34 hl (by decide) rfl (fun ls hl => ?_)
      exact B_N_faultAlong_36_0 _ _ _ _ _ _ hok (lv_sub hl [1, 2, 3, 4, 0] rfl) S hq
    · have hq := hq.trans (if_neg h6)
      have hok := ok_neg h6 hok
      refine lv_aload_n hx hb d_N_faultAlong_9 rfl (lv_at hl 0 rfl) ?_
      refine g_N_19 hx hb hts hown hK S.1 d_N_faultAlong_10 ?_
      refine lv_iload_n hx hb d_N_faultAlong_13 rfl (lv_at hl 1 rfl) ?_
      refine lv_iconst (v := 4) hx hb d_N_faultAlong_14 (by decide) ?_
      refine lv_iload hx hb d_N_faultAlong_15 (lv_at hl 4 rfl) ?_
      refine lv_imul hx hb d_N_faultAlong_17 ?_
      refine r_ci (v := 8) (by decide) ?_
      refine lv_iadd hx hb d_N_faultAlong_18 ?_
      refine callVZp X S hl (c_Me_holdsWord (v1 + (8 : Int32)) _) v_N_51 3 1 ⟨rfl, rfl⟩ (rk_dec (by decide)) rfl rfl (Nat.le_of_ble_eq_true rfl) d_N_faultAlong_19 (fun H locs S => ?_)
      refine r_ifneZ (tgt := 27) hx hb d_N_faultAlong_22 rfl (fun h22 => ?_) (fun h22 => ?_)
      · have hq := hq.trans (if_pos h22)
        have hok := ok_pos h22 hok
        refine lv_iinc (k := 4) (v := (3 : Int32)) hx hb d_N_faultAlong_27 hl rfl (by first | rfl | decide) (by decide) rfl (fun ls hl => ?_)
        refine lv_goto (tgt := 3) hx hb d_N_faultAlong_30 rfl ?_
        exact B_N_faultAlong_3_3 _ _ _ _ _ _ hok (lv_sub hl [1, 2, 3, 4, 0] rfl) S hq
      · have hq := hq.trans (if_neg h22)
        have hok := ok_neg h22 hok
        refine lv_iconst (v := 5) hx hb d_N_faultAlong_25 (by decide) ?_
        exact ret _ _ _ _ _ S hq d_N_faultAlong_26
  have B_N_faultAlong_3_1 : ∀ (v1 : Int32) (v2 : Int32) (v3 : Int32) (H : Heap) (locs : List Loc) (ls : Array Slot), (o_N_faultAlong_3_1 v1 v2 v3 σ) → lv_has ls 5 [(0, .ref (a 0)), (1, .int v1), (2, .int v2), (3, .int v3), (4, .int (1 : Int32))] → St D (wC cI cZ a) A s σ H locs → F = s_N_faultAlong_3_1 v1 v2 v3 σ → W p l e ({ frames := 1, cells := 0, slots := 0, locals := 24 } : Room) s m args below meth c H locs 0 0 Q (F0 m 3 ls []) := by
    intro v1 v2 v3 H locs ls hok hl S hq
    refine lv_iload hx hb d_N_faultAlong_3 (lv_at hl 4 rfl) ?_
    refine lv_iload_n hx hb d_N_faultAlong_5 rfl (lv_at hl 2 rfl) ?_
    refine lv_icmp_ge (tgt := 33) hx hb d_N_faultAlong_6 rfl (fun h6 => ?_) (fun h6 => ?_)
    · have hq := hq.trans (if_pos h6)
      have hok := ok_pos h6 hok
      refine lv_iconst (v := 0) hx hb d_N_faultAlong_33 (by decide) ?_
      refine lv_istore hx hb d_N_faultAlong_34 hl (by decide) rfl (fun ls hl => ?_)
      exact B_N_faultAlong_36_0 _ _ _ _ _ _ hok (lv_sub hl [1, 2, 3, 4, 0] rfl) S hq
    · have hq := hq.trans (if_neg h6)
      have hok := ok_neg h6 hok
      refine lv_aload_n hx hb d_N_faultAlong_9 rfl (lv_at hl 0 rfl) ?_
      refine g_N_19 hx hb hts hown hK S.1 d_N_faultAlong_10 ?_
      refine lv_iload_n hx hb d_N_faultAlong_13 rfl (lv_at hl 1 rfl) ?_
      refine lv_iconst (v := 4) hx hb d_N_faultAlong_14 (by decide) ?_
      refine lv_iload hx hb d_N_faultAlong_15 (lv_at hl 4 rfl) ?_
      refine lv_imul hx hb d_N_faultAlong_17 ?_
      refine r_ci (v := 4) (by decide) ?_
      refine lv_iadd hx hb d_N_faultAlong_18 ?_
      refine callVZp X S hl (c_Me_holdsWord (v1 + (4 : Int32)) _) v_N_51 3 1 ⟨rfl, rfl⟩ (rk_dec (by decide)) rfl rfl (Nat.le_of_ble_eq_true rfl) d_N_faultAlong_19 (fun H locs S => ?_)
      refine r_ifneZ (tgt := 27) hx hb d_N_faultAlong_22 rfl (fun h22 => ?_) (fun h22 => ?_)
      · have hq := hq.trans (if_pos h22)
        have hok := ok_pos h22 hok
        refine lv_iinc (k := 4) (v := (2 : Int32)) hx hb d_N_faultAlong_27 hl rfl (by first | rfl | decide) (by decide) rfl (fun ls hl => ?_)
        refine lv_goto (tgt := 3) hx hb d_N_faultAlong_30 rfl ?_
        exact B_N_faultAlong_3_2 _ _ _ _ _ _ hok (lv_sub hl [1, 2, 3, 4, 0] rfl) S hq
      · have hq := hq.trans (if_neg h22)
        have hok := ok_neg h22 hok
        refine lv_iconst (v := 5) hx hb d_N_faultAlong_25 (by decide) ?_
        exact ret _ _ _ _ _ S hq d_N_faultAlong_26
  have B_N_faultAlong_3_0 : ∀ (v1 : Int32) (v2 : Int32) (v3 : Int32) (H : Heap) (locs : List Loc) (ls : Array Slot), (o_N_faultAlong_3_0 v1 v2 v3 σ) → lv_has ls 5 [(0, .ref (a 0)), (1, .int v1), (2, .int v2), (3, .int v3), (4, .int (0 : Int32))] → St D (wC cI cZ a) A s σ H locs → F = s_N_faultAlong_3_0 v1 v2 v3 σ → W p l e ({ frames := 1, cells := 0, slots := 0, locals := 24 } : Room) s m args below meth c H locs 0 0 Q (F0 m 3 ls []) := by
    intro v1 v2 v3 H locs ls hok hl S hq
    refine lv_iload hx hb d_N_faultAlong_3 (lv_at hl 4 rfl) ?_
    refine lv_iload_n hx hb d_N_faultAlong_5 rfl (lv_at hl 2 rfl) ?_
    refine lv_icmp_ge (tgt := 33) hx hb d_N_faultAlong_6 rfl (fun h6 => ?_) (fun h6 => ?_)
    · have hq := hq.trans (if_pos h6)
      have hok := ok_pos h6 hok
      refine lv_iconst (v := 0) hx hb d_N_faultAlong_33 (by decide) ?_
      refine lv_istore hx hb d_N_faultAlong_34 hl (by decide) rfl (fun ls hl => ?_)
      exact B_N_faultAlong_36_0 _ _ _ _ _ _ hok (lv_sub hl [1, 2, 3, 4, 0] rfl) S hq
    · have hq := hq.trans (if_neg h6)
      have hok := ok_neg h6 hok
      refine lv_aload_n hx hb d_N_faultAlong_9 rfl (lv_at hl 0 rfl) ?_
      refine g_N_19 hx hb hts hown hK S.1 d_N_faultAlong_10 ?_
      refine lv_iload_n hx hb d_N_faultAlong_13 rfl (lv_at hl 1 rfl) ?_
      refine lv_iconst (v := 4) hx hb d_N_faultAlong_14 (by decide) ?_
      refine lv_iload hx hb d_N_faultAlong_15 (lv_at hl 4 rfl) ?_
      refine lv_imul hx hb d_N_faultAlong_17 ?_
      refine r_ci (v := 0) (by decide) ?_
      refine lv_iadd hx hb d_N_faultAlong_18 ?_
      refine callVZp X S hl (c_Me_holdsWord (v1 + (0 : Int32)) _) v_N_51 3 1 ⟨rfl, rfl⟩ (rk_dec (by decide)) rfl rfl (Nat.le_of_ble_eq_true rfl) d_N_faultAlong_19 (fun H locs S => ?_)
      refine r_ifneZ (tgt := 27) hx hb d_N_faultAlong_22 rfl (fun h22 => ?_) (fun h22 => ?_)
      · have hq := hq.trans (if_pos h22)
        have hok := ok_pos h22 hok
        refine lv_iinc (k := 4) (v := (1 : Int32)) hx hb d_N_faultAlong_27 hl rfl (by first | rfl | decide) (by decide) rfl (fun ls hl => ?_)
        refine lv_goto (tgt := 3) hx hb d_N_faultAlong_30 rfl ?_
        exact B_N_faultAlong_3_1 _ _ _ _ _ _ hok (lv_sub hl [1, 2, 3, 4, 0] rfl) S hq
      · have hq := hq.trans (if_neg h22)
        have hok := ok_neg h22 hok
        refine lv_iconst (v := 5) hx hb d_N_faultAlong_25 (by decide) ?_
        exact ret _ _ _ _ _ S hq d_N_faultAlong_26
  refine lv_iconst (v := 0) hx hb d_N_faultAlong_0 (by decide) ?_
  refine lv_istore hx hb d_N_faultAlong_1 hl (by decide) rfl (fun ls hl => ?_)
  exact B_N_faultAlong_3_0 _ _ _ _ _ _ hok (lv_sub hl [1, 2, 3, 4, 0] rfl) S hq
set_option maxHeartbeats 4000000 in
set_option maxRecDepth 100000 in
theorem c_N_move (v1 : Int32) (v2 : Int32) (v3 : Int32) (σ : nS) (qv2_16 : vp_in v2 16) (hok : o_N_move v1 v2 v3 σ) : CtI l D cI cZ (wC cI cZ a) (exC t) y_N_move b_N_move 6 { frames := 2, cells := 0, slots := 0, locals := 48 } [.ref (a 0), .int v1, .int v2, .int v3] σ (s_N_move v1 v2 v3 σ) := by
  generalize hF : s_N_move v1 v2 v3 σ = F
  refine metI (exC_ok t) (by decide) (Nat.le_of_ble_eq_true rfl) (fun p e s m args below meth c A Q ls X S hl ret => ?_)
  have hq := hF.symm
  obtain ⟨hx, hb, hml, hown, hts, hK, hA, hE, hlk, hEo⟩ := id X
  have hl : lv_has ls 6 [(0, .ref (a 0)), (1, .int v1), (2, .int v2), (3, .int v3)] := hl
  have B_N_move_78 : ∀ (σ : nS) (H : Heap) (locs : List Loc) (ls : Array Slot), (o_N_move_78 σ) → lv_has ls 6 [] → St D (wC cI cZ a) A s σ H locs → F = s_N_move_78 σ → W p l e ({ frames := 2, cells := 0, slots := 0, locals := 48 } : Room) s m args below meth c H locs 0 0 Q (F0 m 78 ls []) := by
    intro σ H locs ls hok hl S hq
    refine lv_iconst (v := 0) hx hb d_N_move_78 (by decide) ?_
    exact ret _ _ _ _ _ _ S hq d_N_move_79
  have B_N_move_29 : ∀ (v2 : Int32) (v3 : Int32) (v4 : Bool) (k1 : Int32) (k3 : Int32) (σ : nS) (H : Heap) (locs : List Loc) (ls : Array Slot), (vp_in v2 16) → (o_N_move_29 v2 v3 v4 k1 k3 σ) → lv_has ls 6 [(0, .ref (a 0)), (2, .int v2), (3, .int v3), (4, .int (bI v4))] → St D (wC cI cZ a) A s σ H locs → F = s_N_move_29 v2 v3 v4 k1 k3 σ → W p l e ({ frames := 2, cells := 0, slots := 0, locals := 48 } : Room) s m args below meth c H locs 0 0 Q (F0 m 29 ls [.int k3, .int (1 : Int32), .int k1, .ref (a 0)]) := by
    intro v2 v3 v4 k1 k3 σ H locs ls qv2_16 hok hl S hq
    obtain ⟨g1, hok⟩ := hok
    refine callVIp X S hl (c_N_faultAlong k1 (1 : Int32) k3 _ g1) v_N_277 0 0 ⟨rfl, rfl⟩ (rk_dec (by decide)) rfl rfl (Nat.le_of_ble_eq_true rfl) d_N_move_29 (fun H locs S => ?_)
    refine lv_istore hx hb d_N_move_32 hl (by decide) rfl (fun ls hl => ?_)
    refine lv_iload hx hb d_N_move_34 (lv_at hl 0 rfl) ?_
    refine lv_if_eq (tgt := 42) hx hb d_N_move_36 rfl (fun h36 => ?_) (fun h36 => ?_)
    · have hq := hq.trans (if_pos h36)
      have hok := ok_pos h36 hok
      refine lv_iload hx hb d_N_move_42 (lv_at hl 4 rfl) ?_
      refine r_ifeqZ (tgt := 64) hx hb d_N_move_44 rfl (fun h44 => ?_) (fun h44 => ?_)
      · have hq := hq.trans (if_neg h44)
        have hok := ok_neg h44 hok
        refine lv_aload_n hx hb d_N_move_64 rfl (lv_at hl 1 rfl) ?_
        refine g_N_19 hx hb hts hown hK S.1 d_N_move_65 ?_
        refine lv_iload_n hx hb d_N_move_68 rfl (lv_at hl 3 rfl) ?_
        refine lv_aload_n hx hb d_N_move_69 rfl (lv_at hl 1 rfl) ?_
        refine g_N_9 hx hb hts hown hK S.1 d_N_move_70 ?_
        refine lv_iload_n hx hb d_N_move_73 rfl (lv_at hl 2 rfl) ?_
        refine ld_C_1 (k := (v2).toNatClampNeg) hx hb hK S.1 qv2_16 rfl d_N_move_74 ?_
        refine callVV X S hl (c_Me_store v3 (σ 0 (v2).toNatClampNeg) _) v_N_62 3 1 ⟨rfl, rfl⟩ (rk_dec (by decide)) rfl rfl (Nat.le_of_ble_eq_true rfl) d_N_move_75 (fun σ1 H locs e1 S => ?_)
        have hq := hq.trans (ap1_eq e1)
        have hok := ok_ap1 e1 hok
        exact B_N_move_78 _ _ _ _ hok (lv_sub hl [] rfl) S hq
      · have hq := hq.trans (if_pos h44)
        have hok := ok_pos h44 hok
        refine lv_aload_n hx hb d_N_move_47 rfl (lv_at hl 1 rfl) ?_
        refine g_N_9 hx hb hts hown hK S.1 d_N_move_48 ?_
        refine lv_iload_n hx hb d_N_move_51 rfl (lv_at hl 2 rfl) ?_
        refine lv_aload_n hx hb d_N_move_52 rfl (lv_at hl 1 rfl) ?_
        refine g_N_19 hx hb hts hown hK S.1 d_N_move_53 ?_
        refine lv_iload_n hx hb d_N_move_56 rfl (lv_at hl 3 rfl) ?_
        refine callVIp X S hl (c_Me_load v3 _) v_N_66 3 1 ⟨rfl, rfl⟩ (rk_dec (by decide)) rfl rfl (Nat.le_of_ble_eq_true rfl) d_N_move_57 (fun H locs S => ?_)
        refine st_C_1 (k := (v2).toNatClampNeg) hx hb hK S qv2_16 rfl d_N_move_60 (fun H locs S => ?_)
        refine lv_goto (tgt := 78) hx hb d_N_move_61 rfl ?_
        exact B_N_move_78 _ _ _ _ hok (lv_sub hl [] rfl) S hq
    · have hq := hq.trans (if_neg h36)
      have hok := ok_neg h36 hok
      refine lv_iload hx hb d_N_move_39 (lv_at hl 0 rfl) ?_
      exact ret _ _ _ _ _ _ S hq d_N_move_41
  have B_N_move_14 : ∀ (v2 : Int32) (v3 : Int32) (k0 : Bool) (σ : nS) (H : Heap) (locs : List Loc) (ls : Array Slot), (vp_in v2 16) → (o_N_move_14 v2 v3 k0 σ) → lv_has ls 6 [(0, .ref (a 0)), (2, .int v2), (3, .int v3)] → St D (wC cI cZ a) A s σ H locs → F = s_N_move_14 v2 v3 k0 σ → W p l e ({ frames := 2, cells := 0, slots := 0, locals := 48 } : Room) s m args below meth c H locs 0 0 Q (F0 m 14 ls [.int (bI k0)]) := by
    intro v2 v3 k0 σ H locs ls qv2_16 hok hl S hq
    refine lv_istore hx hb d_N_move_14 hl (by decide) rfl (fun ls hl => ?_)
    refine lv_aload_n hx hb d_N_move_16 rfl (lv_at hl 1 rfl) ?_
    refine lv_iload_n hx hb d_N_move_17 rfl (lv_at hl 3 rfl) ?_
    refine lv_iconst (v := 1) hx hb d_N_move_18 (by decide) ?_
    refine lv_iload hx hb d_N_move_19 (lv_at hl 0 rfl) ?_
    refine r_ifeqZ (tgt := 28) hx hb d_N_move_21 rfl (fun h21 => ?_) (fun h21 => ?_)
    · have hq := hq.trans (if_neg h21)
      have hok := ok_neg h21 hok
      refine lv_iconst (v := 2) hx hb d_N_move_28 (by decide) ?_
      exact B_N_move_29 _ _ _ _ _ _ _ _ _ qv2_16 hok (lv_sub hl [1, 2, 3, 0] rfl) S hq
    · have hq := hq.trans (if_pos h21)
      have hok := ok_pos h21 hok
      refine lv_iconst (v := 1) hx hb d_N_move_24 (by decide) ?_
      refine lv_goto (tgt := 29) hx hb d_N_move_25 rfl ?_
      exact B_N_move_29 _ _ _ _ _ _ _ _ _ qv2_16 hok (lv_sub hl [1, 2, 3, 0] rfl) S hq
  refine lv_iload_n hx hb d_N_move_0 rfl (lv_at hl 1 rfl) ?_
  refine lv_bipush (v := 11) hx hb d_N_move_1 (by decide) ?_
  refine lv_ishr hx hb d_N_move_3 ?_
  refine lv_iconst (v := 1) hx hb d_N_move_4 (by decide) ?_
  refine lv_iand hx hb d_N_move_5 ?_
  refine lv_if_eq (tgt := 13) hx hb d_N_move_6 rfl (fun h6 => ?_) (fun h6 => ?_)
  · have hq := hq.trans (if_pos h6)
    have hok := ok_pos h6 hok
    refine lv_iconst (v := 0) hx hb d_N_move_13 (by decide) ?_
    exact B_N_move_14 _ _ false _ _ _ _ qv2_16 hok (lv_sub hl [0, 2, 3] rfl) S hq
  · have hq := hq.trans (if_neg h6)
    have hok := ok_neg h6 hok
    refine lv_iconst (v := 1) hx hb d_N_move_9 (by decide) ?_
    refine lv_goto (tgt := 14) hx hb d_N_move_10 rfl ?_
    exact B_N_move_14 _ _ true _ _ _ _ qv2_16 hok (lv_sub hl [0, 2, 3] rfl) S hq
set_option maxHeartbeats 4000000 in
set_option maxRecDepth 100000 in
theorem c_N_push (v1 : Int32) (σ : nS) (hok : o_N_push v1 σ) : CtI l D cI cZ (wC cI cZ a) (exC t) y_N_push b_N_push 7 { frames := 2, cells := 0, slots := 0, locals := 48 } [.ref (a 0), .int v1] σ (s_N_push v1 σ) := by
  generalize hF : s_N_push v1 σ = F
  refine metI (exC_ok t) (by decide) (Nat.le_of_ble_eq_true rfl) (fun p e s m args below meth c A Q ls X S hl ret => ?_)
  have hq := hF.symm
  obtain ⟨hx, hb, hml, hown, hts, hK, hA, hE, hlk, hEo⟩ := id X
  have hl : lv_has ls 7 [(0, .ref (a 0)), (1, .int v1)] := hl
  have B_N_push_47_9 : ∀ (v1 : Int32) (v3 : Int32) (v5 : Int32) (σ : nS) (H : Heap) (locs : List Loc) (ls : Array Slot), (o_N_push_47_9 v1 v3 v5 σ) → lv_has ls 7 [(0, .ref (a 0)), (1, .int v1), (3, .int v3), (5, .int v5), (6, .int (9 : Int32))] → St D (wC cI cZ a) A s σ H locs → F = s_N_push_47_9 v1 v3 v5 σ → W p l e ({ frames := 2, cells := 0, slots := 0, locals := 48 } : Room) s m args below meth c H locs 0 0 Q (F0 m 47 ls []) := by
    intro v1 v3 v5 σ H locs ls hok hl S hq
    refine lv_iload hx hb d_N_push_47 (lv_at hl 4 rfl) ?_
    refine lv_bipush (v := 8) hx hb d_N_push_49 (by decide) ?_
    refine lv_icmp_gt (tgt := 100) hx hb d_N_push_51 rfl (fun _ => ?_) (fun h9 => absurd (by decide) h9)
    refine lv_aload_n hx hb d_N_push_100 rfl (lv_at hl 0 rfl) ?_
    refine g_N_9 hx hb hts hown hK S.1 d_N_push_101 ?_
    refine lv_bipush (v := 13) hx hb d_N_push_104 (by decide) ?_
    refine lv_iload_n hx hb d_N_push_106 rfl (lv_at hl 2 rfl) ?_
    refine st_C_1 (k := 13) hx hb hK S (vin_dec (by decide)) (by decide) d_N_push_107 (fun H locs S => ?_)
    refine lv_iconst (v := 0) hx hb d_N_push_108 (by decide) ?_
    exact ret _ _ _ _ _ _ S hq d_N_push_109
  have B_N_push_94_8 : ∀ (v1 : Int32) (v3 : Int32) (v5 : Int32) (σ : nS) (H : Heap) (locs : List Loc) (ls : Array Slot), (o_N_push_94_8 v1 v3 v5 σ) → lv_has ls 7 [(0, .ref (a 0)), (1, .int v1), (3, .int v3), (5, .int v5), (6, .int (8 : Int32))] → St D (wC cI cZ a) A s σ H locs → F = s_N_push_94_8 v1 v3 v5 σ → W p l e ({ frames := 2, cells := 0, slots := 0, locals := 48 } : Room) s m args below meth c H locs 0 0 Q (F0 m 94 ls []) := by
    intro v1 v3 v5 σ H locs ls hok hl S hq
    refine lv_iinc (k := 4) (v := (9 : Int32)) hx hb d_N_push_94 hl rfl (by first | rfl | decide) (by decide) rfl (fun ls hl => ?_)
    refine lv_goto (tgt := 47) hx hb d_N_push_97 rfl ?_
    exact B_N_push_47_9 _ _ _ _ _ _ _ hok (lv_sub hl [1, 2, 3, 4, 0] rfl) S hq
  have B_N_push_87_8 : ∀ (v1 : Int32) (v3 : Int32) (v5 : Int32) (k1 : Int32) (σ : nS) (H : Heap) (locs : List Loc) (ls : Array Slot), (o_N_push_87_8 v1 v3 v5 k1 σ) → lv_has ls 7 [(0, .ref (a 0)), (1, .int v1), (3, .int v3), (5, .int v5), (6, .int (8 : Int32))] → St D (wC cI cZ a) A s σ H locs → F = s_N_push_87_8 v1 v3 v5 k1 σ → W p l e ({ frames := 2, cells := 0, slots := 0, locals := 48 } : Room) s m args below meth c H locs 0 0 Q (F0 m 87 ls [.int (14 : Int32), .ref (a 1), .int k1, .ref (a 3)]) := by
    intro v1 v3 v5 k1 σ H locs ls hok hl S hq
    refine ld_C_1 (k := 14) hx hb hK S.1 (vin_dec (by decide)) (by decide) d_N_push_87 ?_
    refine callVV X S hl (c_Me_store k1 (σ 0 14) _) v_N_62 3 1 ⟨rfl, rfl⟩ (rk_dec (by decide)) rfl rfl (Nat.le_of_ble_eq_true rfl) d_N_push_88 (fun σ1 H locs e1 S => ?_)
    have hq := hq.trans (ap1_eq e1)
    have hok := ok_ap1 e1 hok
    refine lv_iinc (k := 3) (v := (v5 + (4 : Int32))) hx hb d_N_push_91 hl rfl (by first | rfl | decide) (by decide) rfl (fun ls hl => ?_)
    exact B_N_push_94_8 _ _ _ _ _ _ _ hok (lv_sub hl [1, 2, 3, 0, 4] rfl) S hq
  have B_N_push_47_8 : ∀ (v1 : Int32) (v3 : Int32) (v5 : Int32) (σ : nS) (H : Heap) (locs : List Loc) (ls : Array Slot), (o_N_push_47_8 v1 v3 v5 σ) → lv_has ls 7 [(0, .ref (a 0)), (1, .int v1), (3, .int v3), (5, .int v5), (6, .int (8 : Int32))] → St D (wC cI cZ a) A s σ H locs → F = s_N_push_47_8 v1 v3 v5 σ → W p l e ({ frames := 2, cells := 0, slots := 0, locals := 48 } : Room) s m args below meth c H locs 0 0 Q (F0 m 47 ls []) := by
    intro v1 v3 v5 σ H locs ls hok hl S hq
    refine lv_iload hx hb d_N_push_47 (lv_at hl 4 rfl) ?_
    refine lv_bipush (v := 8) hx hb d_N_push_49 (by decide) ?_
    refine lv_icmp_gt (tgt := 100) hx hb d_N_push_51 rfl (fun h9 => absurd h9 (by decide)) (fun _ => ?_)
    refine lv_iload_n hx hb d_N_push_54 rfl (lv_at hl 1 rfl) ?_
    refine lv_iload hx hb d_N_push_55 (lv_at hl 4 rfl) ?_
    refine lv_ishr hx hb d_N_push_57 ?_
    refine lv_iconst (v := 1) hx hb d_N_push_58 (by decide) ?_
    refine lv_iand hx hb d_N_push_59 ?_
    refine lv_if_eq (tgt := 94) hx hb d_N_push_60 rfl (fun h60 => ?_) (fun h60 => ?_)
    · have hq := hq.trans (if_pos h60)
      have hok := ok_pos h60 hok
      exact B_N_push_94_8 _ _ _ _ _ _ _ hok (lv_sub hl [0, 1, 2, 3, 4] rfl) S hq
    · have hq := hq.trans (if_neg h60)
      have hok := ok_neg h60 hok
      refine lv_aload_n hx hb d_N_push_63 rfl (lv_at hl 0 rfl) ?_
      refine g_N_19 hx hb hts hown hK S.1 d_N_push_64 ?_
      refine lv_iload hx hb d_N_push_67 (lv_at hl 3 rfl) ?_
      refine lv_aload_n hx hb d_N_push_69 rfl (lv_at hl 0 rfl) ?_
      refine g_N_9 hx hb hts hown hK S.1 d_N_push_70 ?_
      refine lv_iload hx hb d_N_push_73 (lv_at hl 4 rfl) ?_
      refine lv_bipush (v := 8) hx hb d_N_push_75 (by decide) ?_
      refine lv_icmp_ne (tgt := 85) hx hb d_N_push_77 rfl (fun h9 => absurd (by decide) h9) (fun _ => ?_)
      refine lv_bipush (v := 14) hx hb d_N_push_80 (by decide) ?_
      refine lv_goto (tgt := 87) hx hb d_N_push_82 rfl ?_
      exact B_N_push_87_8 _ _ _ _ _ _ _ _ hok (lv_sub hl [0, 1, 2, 3, 4] rfl) S hq
  have B_N_push_94_7 : ∀ (v1 : Int32) (v3 : Int32) (v5 : Int32) (σ : nS) (H : Heap) (locs : List Loc) (ls : Array Slot), (o_N_push_94_7 v1 v3 v5 σ) → lv_has ls 7 [(0, .ref (a 0)), (1, .int v1), (3, .int v3), (5, .int v5), (6, .int (7 : Int32))] → St D (wC cI cZ a) A s σ H locs → F = s_N_push_94_7 v1 v3 v5 σ → W p l e ({ frames := 2, cells := 0, slots := 0, locals := 48 } : Room) s m args below meth c H locs 0 0 Q (F0 m 94 ls []) := by
    intro v1 v3 v5 σ H locs ls hok hl S hq
    refine lv_iinc (k := 4) (v := (8 : Int32)) hx hb d_N_push_94 hl rfl (by first | rfl | decide) (by decide) rfl (fun ls hl => ?_)
    refine lv_goto (tgt := 47) hx hb d_N_push_97 rfl ?_
    exact B_N_push_47_8 _ _ _ _ _ _ _ hok (lv_sub hl [1, 2, 3, 4, 0] rfl) S hq
  have B_N_push_87_7 : ∀ (v1 : Int32) (v3 : Int32) (v5 : Int32) (k1 : Int32) (σ : nS) (H : Heap) (locs : List Loc) (ls : Array Slot), (o_N_push_87_7 v1 v3 v5 k1 σ) → lv_has ls 7 [(0, .ref (a 0)), (1, .int v1), (3, .int v3), (5, .int v5), (6, .int (7 : Int32))] → St D (wC cI cZ a) A s σ H locs → F = s_N_push_87_7 v1 v3 v5 k1 σ → W p l e ({ frames := 2, cells := 0, slots := 0, locals := 48 } : Room) s m args below meth c H locs 0 0 Q (F0 m 87 ls [.int (7 : Int32), .ref (a 1), .int k1, .ref (a 3)]) := by
    intro v1 v3 v5 k1 σ H locs ls hok hl S hq
    refine ld_C_1 (k := 7) hx hb hK S.1 (vin_dec (by decide)) (by decide) d_N_push_87 ?_
    refine callVV X S hl (c_Me_store k1 (σ 0 7) _) v_N_62 3 1 ⟨rfl, rfl⟩ (rk_dec (by decide)) rfl rfl (Nat.le_of_ble_eq_true rfl) d_N_push_88 (fun σ1 H locs e1 S => ?_)
    have hq := hq.trans (ap1_eq e1)
    have hok := ok_ap1 e1 hok
    refine lv_iinc (k := 3) (v := (v5 + (4 : Int32))) hx hb d_N_push_91 hl rfl (by first | rfl | decide) (by decide) rfl (fun ls hl => ?_)
    exact B_N_push_94_7 _ _ _ _ _ _ _ hok (lv_sub hl [1, 2, 3, 0, 4] rfl) S hq
  have B_N_push_47_7 : ∀ (v1 : Int32) (v3 : Int32) (v5 : Int32) (σ : nS) (H : Heap) (locs : List Loc) (ls : Array Slot), (o_N_push_47_7 v1 v3 v5 σ) → lv_has ls 7 [(0, .ref (a 0)), (1, .int v1), (3, .int v3), (5, .int v5), (6, .int (7 : Int32))] → St D (wC cI cZ a) A s σ H locs → F = s_N_push_47_7 v1 v3 v5 σ → W p l e ({ frames := 2, cells := 0, slots := 0, locals := 48 } : Room) s m args below meth c H locs 0 0 Q (F0 m 47 ls []) := by
    intro v1 v3 v5 σ H locs ls hok hl S hq
    refine lv_iload hx hb d_N_push_47 (lv_at hl 4 rfl) ?_
    refine lv_bipush (v := 8) hx hb d_N_push_49 (by decide) ?_
    refine lv_icmp_gt (tgt := 100) hx hb d_N_push_51 rfl (fun h9 => absurd h9 (by decide)) (fun _ => ?_)
    refine lv_iload_n hx hb d_N_push_54 rfl (lv_at hl 1 rfl) ?_
    refine lv_iload hx hb d_N_push_55 (lv_at hl 4 rfl) ?_
    refine lv_ishr hx hb d_N_push_57 ?_
    refine lv_iconst (v := 1) hx hb d_N_push_58 (by decide) ?_
    refine lv_iand hx hb d_N_push_59 ?_
    refine lv_if_eq (tgt := 94) hx hb d_N_push_60 rfl (fun h60 => ?_) (fun h60 => ?_)
    · have hq := hq.trans (if_pos h60)
      have hok := ok_pos h60 hok
      exact B_N_push_94_7 _ _ _ _ _ _ _ hok (lv_sub hl [0, 1, 2, 3, 4] rfl) S hq
    · have hq := hq.trans (if_neg h60)
      have hok := ok_neg h60 hok
      refine lv_aload_n hx hb d_N_push_63 rfl (lv_at hl 0 rfl) ?_
      refine g_N_19 hx hb hts hown hK S.1 d_N_push_64 ?_
      refine lv_iload hx hb d_N_push_67 (lv_at hl 3 rfl) ?_
      refine lv_aload_n hx hb d_N_push_69 rfl (lv_at hl 0 rfl) ?_
      refine g_N_9 hx hb hts hown hK S.1 d_N_push_70 ?_
      refine lv_iload hx hb d_N_push_73 (lv_at hl 4 rfl) ?_
      refine lv_bipush (v := 8) hx hb d_N_push_75 (by decide) ?_
      refine lv_icmp_ne (tgt := 85) hx hb d_N_push_77 rfl (fun _ => ?_) (fun h9 => absurd h9 (by decide))
      refine lv_iload hx hb d_N_push_85 (lv_at hl 4 rfl) ?_
      exact B_N_push_87_7 _ _ _ _ _ _ _ _ hok (lv_sub hl [0, 1, 2, 3, 4] rfl) S hq
  have B_N_push_94_6 : ∀ (v1 : Int32) (v3 : Int32) (v5 : Int32) (σ : nS) (H : Heap) (locs : List Loc) (ls : Array Slot), (o_N_push_94_6 v1 v3 v5 σ) → lv_has ls 7 [(0, .ref (a 0)), (1, .int v1), (3, .int v3), (5, .int v5), (6, .int (6 : Int32))] → St D (wC cI cZ a) A s σ H locs → F = s_N_push_94_6 v1 v3 v5 σ → W p l e ({ frames := 2, cells := 0, slots := 0, locals := 48 } : Room) s m args below meth c H locs 0 0 Q (F0 m 94 ls []) := by
    intro v1 v3 v5 σ H locs ls hok hl S hq
    refine lv_iinc (k := 4) (v := (7 : Int32)) hx hb d_N_push_94 hl rfl (by first | rfl | decide) (by decide) rfl (fun ls hl => ?_)
    refine lv_goto (tgt := 47) hx hb d_N_push_97 rfl ?_
    exact B_N_push_47_7 _ _ _ _ _ _ _ hok (lv_sub hl [1, 2, 3, 4, 0] rfl) S hq
  have B_N_push_87_6 : ∀ (v1 : Int32) (v3 : Int32) (v5 : Int32) (k1 : Int32) (σ : nS) (H : Heap) (locs : List Loc) (ls : Array Slot), (o_N_push_87_6 v1 v3 v5 k1 σ) → lv_has ls 7 [(0, .ref (a 0)), (1, .int v1), (3, .int v3), (5, .int v5), (6, .int (6 : Int32))] → St D (wC cI cZ a) A s σ H locs → F = s_N_push_87_6 v1 v3 v5 k1 σ → W p l e ({ frames := 2, cells := 0, slots := 0, locals := 48 } : Room) s m args below meth c H locs 0 0 Q (F0 m 87 ls [.int (6 : Int32), .ref (a 1), .int k1, .ref (a 3)]) := by
    intro v1 v3 v5 k1 σ H locs ls hok hl S hq
    refine ld_C_1 (k := 6) hx hb hK S.1 (vin_dec (by decide)) (by decide) d_N_push_87 ?_
    refine callVV X S hl (c_Me_store k1 (σ 0 6) _) v_N_62 3 1 ⟨rfl, rfl⟩ (rk_dec (by decide)) rfl rfl (Nat.le_of_ble_eq_true rfl) d_N_push_88 (fun σ1 H locs e1 S => ?_)
    have hq := hq.trans (ap1_eq e1)
    have hok := ok_ap1 e1 hok
    refine lv_iinc (k := 3) (v := (v5 + (4 : Int32))) hx hb d_N_push_91 hl rfl (by first | rfl | decide) (by decide) rfl (fun ls hl => ?_)
    exact B_N_push_94_6 _ _ _ _ _ _ _ hok (lv_sub hl [1, 2, 3, 0, 4] rfl) S hq
  have B_N_push_47_6 : ∀ (v1 : Int32) (v3 : Int32) (v5 : Int32) (σ : nS) (H : Heap) (locs : List Loc) (ls : Array Slot), (o_N_push_47_6 v1 v3 v5 σ) → lv_has ls 7 [(0, .ref (a 0)), (1, .int v1), (3, .int v3), (5, .int v5), (6, .int (6 : Int32))] → St D (wC cI cZ a) A s σ H locs → F = s_N_push_47_6 v1 v3 v5 σ → W p l e ({ frames := 2, cells := 0, slots := 0, locals := 48 } : Room) s m args below meth c H locs 0 0 Q (F0 m 47 ls []) := by
    intro v1 v3 v5 σ H locs ls hok hl S hq
    refine lv_iload hx hb d_N_push_47 (lv_at hl 4 rfl) ?_
    refine lv_bipush (v := 8) hx hb d_N_push_49 (by decide) ?_
    refine lv_icmp_gt (tgt := 100) hx hb d_N_push_51 rfl (fun h9 => absurd h9 (by decide)) (fun _ => ?_)
    refine lv_iload_n hx hb d_N_push_54 rfl (lv_at hl 1 rfl) ?_
    refine lv_iload hx hb d_N_push_55 (lv_at hl 4 rfl) ?_
    refine lv_ishr hx hb d_N_push_57 ?_
    refine lv_iconst (v := 1) hx hb d_N_push_58 (by decide) ?_
    refine lv_iand hx hb d_N_push_59 ?_
    refine lv_if_eq (tgt := 94) hx hb d_N_push_60 rfl (fun h60 => ?_) (fun h60 => ?_)
    · have hq := hq.trans (if_pos h60)
      have hok := ok_pos h60 hok
      exact B_N_push_94_6 _ _ _ _ _ _ _ hok (lv_sub hl [0, 1, 2, 3, 4] rfl) S hq
    · have hq := hq.trans (if_neg h60)
      have hok := ok_neg h60 hok
      refine lv_aload_n hx hb d_N_push_63 rfl (lv_at hl 0 rfl) ?_
      refine g_N_19 hx hb hts hown hK S.1 d_N_push_64 ?_
      refine lv_iload hx hb d_N_push_67 (lv_at hl 3 rfl) ?_
      refine lv_aload_n hx hb d_N_push_69 rfl (lv_at hl 0 rfl) ?_
      refine g_N_9 hx hb hts hown hK S.1 d_N_push_70 ?_
      refine lv_iload hx hb d_N_push_73 (lv_at hl 4 rfl) ?_
      refine lv_bipush (v := 8) hx hb d_N_push_75 (by decide) ?_
      refine lv_icmp_ne (tgt := 85) hx hb d_N_push_77 rfl (fun _ => ?_) (fun h9 => absurd h9 (by decide))
      refine lv_iload hx hb d_N_push_85 (lv_at hl 4 rfl) ?_
      exact B_N_push_87_6 _ _ _ _ _ _ _ _ hok (lv_sub hl [0, 1, 2, 3, 4] rfl) S hq
  have B_N_push_94_5 : ∀ (v1 : Int32) (v3 : Int32) (v5 : Int32) (σ : nS) (H : Heap) (locs : List Loc) (ls : Array Slot), (o_N_push_94_5 v1 v3 v5 σ) → lv_has ls 7 [(0, .ref (a 0)), (1, .int v1), (3, .int v3), (5, .int v5), (6, .int (5 : Int32))] → St D (wC cI cZ a) A s σ H locs → F = s_N_push_94_5 v1 v3 v5 σ → W p l e ({ frames := 2, cells := 0, slots := 0, locals := 48 } : Room) s m args below meth c H locs 0 0 Q (F0 m 94 ls []) := by
    intro v1 v3 v5 σ H locs ls hok hl S hq
    refine lv_iinc (k := 4) (v := (6 : Int32)) hx hb d_N_push_94 hl rfl (by first | rfl | decide) (by decide) rfl (fun ls hl => ?_)
    refine lv_goto (tgt := 47) hx hb d_N_push_97 rfl ?_
    exact B_N_push_47_6 _ _ _ _ _ _ _ hok (lv_sub hl [1, 2, 3, 4, 0] rfl) S hq
  have B_N_push_87_5 : ∀ (v1 : Int32) (v3 : Int32) (v5 : Int32) (k1 : Int32) (σ : nS) (H : Heap) (locs : List Loc) (ls : Array Slot), (o_N_push_87_5 v1 v3 v5 k1 σ) → lv_has ls 7 [(0, .ref (a 0)), (1, .int v1), (3, .int v3), (5, .int v5), (6, .int (5 : Int32))] → St D (wC cI cZ a) A s σ H locs → F = s_N_push_87_5 v1 v3 v5 k1 σ → W p l e ({ frames := 2, cells := 0, slots := 0, locals := 48 } : Room) s m args below meth c H locs 0 0 Q (F0 m 87 ls [.int (5 : Int32), .ref (a 1), .int k1, .ref (a 3)]) := by
    intro v1 v3 v5 k1 σ H locs ls hok hl S hq
    refine ld_C_1 (k := 5) hx hb hK S.1 (vin_dec (by decide)) (by decide) d_N_push_87 ?_
    refine callVV X S hl (c_Me_store k1 (σ 0 5) _) v_N_62 3 1 ⟨rfl, rfl⟩ (rk_dec (by decide)) rfl rfl (Nat.le_of_ble_eq_true rfl) d_N_push_88 (fun σ1 H locs e1 S => ?_)
    have hq := hq.trans (ap1_eq e1)
    have hok := ok_ap1 e1 hok
    refine lv_iinc (k := 3) (v := (v5 + (4 : Int32))) hx hb d_N_push_91 hl rfl (by first | rfl | decide) (by decide) rfl (fun ls hl => ?_)
    exact B_N_push_94_5 _ _ _ _ _ _ _ hok (lv_sub hl [1, 2, 3, 0, 4] rfl) S hq
  have B_N_push_47_5 : ∀ (v1 : Int32) (v3 : Int32) (v5 : Int32) (σ : nS) (H : Heap) (locs : List Loc) (ls : Array Slot), (o_N_push_47_5 v1 v3 v5 σ) → lv_has ls 7 [(0, .ref (a 0)), (1, .int v1), (3, .int v3), (5, .int v5), (6, .int (5 : Int32))] → St D (wC cI cZ a) A s σ H locs → F = s_N_push_47_5 v1 v3 v5 σ → W p l e ({ frames := 2, cells := 0, slots := 0, locals := 48 } : Room) s m args below meth c H locs 0 0 Q (F0 m 47 ls []) := by
    intro v1 v3 v5 σ H locs ls hok hl S hq
    refine lv_iload hx hb d_N_push_47 (lv_at hl 4 rfl) ?_
    refine lv_bipush (v := 8) hx hb d_N_push_49 (by decide) ?_
    refine lv_icmp_gt (tgt := 100) hx hb d_N_push_51 rfl (fun h9 => absurd h9 (by decide)) (fun _ => ?_)
    refine lv_iload_n hx hb d_N_push_54 rfl (lv_at hl 1 rfl) ?_
    refine lv_iload hx hb d_N_push_55 (lv_at hl 4 rfl) ?_
    refine lv_ishr hx hb d_N_push_57 ?_
    refine lv_iconst (v := 1) hx hb d_N_push_58 (by decide) ?_
    refine lv_iand hx hb d_N_push_59 ?_
    refine lv_if_eq (tgt := 94) hx hb d_N_push_60 rfl (fun h60 => ?_) (fun h60 => ?_)
    · have hq := hq.trans (if_pos h60)
      have hok := ok_pos h60 hok
      exact B_N_push_94_5 _ _ _ _ _ _ _ hok (lv_sub hl [0, 1, 2, 3, 4] rfl) S hq
    · have hq := hq.trans (if_neg h60)
      have hok := ok_neg h60 hok
      refine lv_aload_n hx hb d_N_push_63 rfl (lv_at hl 0 rfl) ?_
      refine g_N_19 hx hb hts hown hK S.1 d_N_push_64 ?_
      refine lv_iload hx hb d_N_push_67 (lv_at hl 3 rfl) ?_
      refine lv_aload_n hx hb d_N_push_69 rfl (lv_at hl 0 rfl) ?_
      refine g_N_9 hx hb hts hown hK S.1 d_N_push_70 ?_
      refine lv_iload hx hb d_N_push_73 (lv_at hl 4 rfl) ?_
      refine lv_bipush (v := 8) hx hb d_N_push_75 (by decide) ?_
      refine lv_icmp_ne (tgt := 85) hx hb d_N_push_77 rfl (fun _ => ?_) (fun h9 => absurd h9 (by decide))
      refine lv_iload hx hb d_N_push_85 (lv_at hl 4 rfl) ?_
      exact B_N_push_87_5 _ _ _ _ _ _ _ _ hok (lv_sub hl [0, 1, 2, 3, 4] rfl) S hq
  have B_N_push_94_4 : ∀ (v1 : Int32) (v3 : Int32) (v5 : Int32) (σ : nS) (H : Heap) (locs : List Loc) (ls : Array Slot), (o_N_push_94_4 v1 v3 v5 σ) → lv_has ls 7 [(0, .ref (a 0)), (1, .int v1), (3, .int v3), (5, .int v5), (6, .int (4 : Int32))] → St D (wC cI cZ a) A s σ H locs → F = s_N_push_94_4 v1 v3 v5 σ → W p l e ({ frames := 2, cells := 0, slots := 0, locals := 48 } : Room) s m args below meth c H locs 0 0 Q (F0 m 94 ls []) := by
    intro v1 v3 v5 σ H locs ls hok hl S hq
    refine lv_iinc (k := 4) (v := (5 : Int32)) hx hb d_N_push_94 hl rfl (by first | rfl | decide) (by decide) rfl (fun ls hl => ?_)
    refine lv_goto (tgt := 47) hx hb d_N_push_97 rfl ?_
    exact B_N_push_47_5 _ _ _ _ _ _ _ hok (lv_sub hl [1, 2, 3, 4, 0] rfl) S hq
  have B_N_push_87_4 : ∀ (v1 : Int32) (v3 : Int32) (v5 : Int32) (k1 : Int32) (σ : nS) (H : Heap) (locs : List Loc) (ls : Array Slot), (o_N_push_87_4 v1 v3 v5 k1 σ) → lv_has ls 7 [(0, .ref (a 0)), (1, .int v1), (3, .int v3), (5, .int v5), (6, .int (4 : Int32))] → St D (wC cI cZ a) A s σ H locs → F = s_N_push_87_4 v1 v3 v5 k1 σ → W p l e ({ frames := 2, cells := 0, slots := 0, locals := 48 } : Room) s m args below meth c H locs 0 0 Q (F0 m 87 ls [.int (4 : Int32), .ref (a 1), .int k1, .ref (a 3)]) := by
    intro v1 v3 v5 k1 σ H locs ls hok hl S hq
    refine ld_C_1 (k := 4) hx hb hK S.1 (vin_dec (by decide)) (by decide) d_N_push_87 ?_
    refine callVV X S hl (c_Me_store k1 (σ 0 4) _) v_N_62 3 1 ⟨rfl, rfl⟩ (rk_dec (by decide)) rfl rfl (Nat.le_of_ble_eq_true rfl) d_N_push_88 (fun σ1 H locs e1 S => ?_)
    have hq := hq.trans (ap1_eq e1)
    have hok := ok_ap1 e1 hok
    refine lv_iinc (k := 3) (v := (v5 + (4 : Int32))) hx hb d_N_push_91 hl rfl (by first | rfl | decide) (by decide) rfl (fun ls hl => ?_)
    exact B_N_push_94_4 _ _ _ _ _ _ _ hok (lv_sub hl [1, 2, 3, 0, 4] rfl) S hq
  have B_N_push_47_4 : ∀ (v1 : Int32) (v3 : Int32) (v5 : Int32) (σ : nS) (H : Heap) (locs : List Loc) (ls : Array Slot), (o_N_push_47_4 v1 v3 v5 σ) → lv_has ls 7 [(0, .ref (a 0)), (1, .int v1), (3, .int v3), (5, .int v5), (6, .int (4 : Int32))] → St D (wC cI cZ a) A s σ H locs → F = s_N_push_47_4 v1 v3 v5 σ → W p l e ({ frames := 2, cells := 0, slots := 0, locals := 48 } : Room) s m args below meth c H locs 0 0 Q (F0 m 47 ls []) := by
    intro v1 v3 v5 σ H locs ls hok hl S hq
    refine lv_iload hx hb d_N_push_47 (lv_at hl 4 rfl) ?_
    refine lv_bipush (v := 8) hx hb d_N_push_49 (by decide) ?_
    refine lv_icmp_gt (tgt := 100) hx hb d_N_push_51 rfl (fun h9 => absurd h9 (by decide)) (fun _ => ?_)
    refine lv_iload_n hx hb d_N_push_54 rfl (lv_at hl 1 rfl) ?_
    refine lv_iload hx hb d_N_push_55 (lv_at hl 4 rfl) ?_
    refine lv_ishr hx hb d_N_push_57 ?_
    refine lv_iconst (v := 1) hx hb d_N_push_58 (by decide) ?_
    refine lv_iand hx hb d_N_push_59 ?_
    refine lv_if_eq (tgt := 94) hx hb d_N_push_60 rfl (fun h60 => ?_) (fun h60 => ?_)
    · have hq := hq.trans (if_pos h60)
      have hok := ok_pos h60 hok
      exact B_N_push_94_4 _ _ _ _ _ _ _ hok (lv_sub hl [0, 1, 2, 3, 4] rfl) S hq
    · have hq := hq.trans (if_neg h60)
      have hok := ok_neg h60 hok
      refine lv_aload_n hx hb d_N_push_63 rfl (lv_at hl 0 rfl) ?_
      refine g_N_19 hx hb hts hown hK S.1 d_N_push_64 ?_
      refine lv_iload hx hb d_N_push_67 (lv_at hl 3 rfl) ?_
      refine lv_aload_n hx hb d_N_push_69 rfl (lv_at hl 0 rfl) ?_
      refine g_N_9 hx hb hts hown hK S.1 d_N_push_70 ?_
      refine lv_iload hx hb d_N_push_73 (lv_at hl 4 rfl) ?_
      refine lv_bipush (v := 8) hx hb d_N_push_75 (by decide) ?_
      refine lv_icmp_ne (tgt := 85) hx hb d_N_push_77 rfl (fun _ => ?_) (fun h9 => absurd h9 (by decide))
      refine lv_iload hx hb d_N_push_85 (lv_at hl 4 rfl) ?_
      exact B_N_push_87_4 _ _ _ _ _ _ _ _ hok (lv_sub hl [0, 1, 2, 3, 4] rfl) S hq
  have B_N_push_94_3 : ∀ (v1 : Int32) (v3 : Int32) (v5 : Int32) (σ : nS) (H : Heap) (locs : List Loc) (ls : Array Slot), (o_N_push_94_3 v1 v3 v5 σ) → lv_has ls 7 [(0, .ref (a 0)), (1, .int v1), (3, .int v3), (5, .int v5), (6, .int (3 : Int32))] → St D (wC cI cZ a) A s σ H locs → F = s_N_push_94_3 v1 v3 v5 σ → W p l e ({ frames := 2, cells := 0, slots := 0, locals := 48 } : Room) s m args below meth c H locs 0 0 Q (F0 m 94 ls []) := by
    intro v1 v3 v5 σ H locs ls hok hl S hq
    refine lv_iinc (k := 4) (v := (4 : Int32)) hx hb d_N_push_94 hl rfl (by first | rfl | decide) (by decide) rfl (fun ls hl => ?_)
    refine lv_goto (tgt := 47) hx hb d_N_push_97 rfl ?_
    exact B_N_push_47_4 _ _ _ _ _ _ _ hok (lv_sub hl [1, 2, 3, 4, 0] rfl) S hq
  have B_N_push_87_3 : ∀ (v1 : Int32) (v3 : Int32) (v5 : Int32) (k1 : Int32) (σ : nS) (H : Heap) (locs : List Loc) (ls : Array Slot), (o_N_push_87_3 v1 v3 v5 k1 σ) → lv_has ls 7 [(0, .ref (a 0)), (1, .int v1), (3, .int v3), (5, .int v5), (6, .int (3 : Int32))] → St D (wC cI cZ a) A s σ H locs → F = s_N_push_87_3 v1 v3 v5 k1 σ → W p l e ({ frames := 2, cells := 0, slots := 0, locals := 48 } : Room) s m args below meth c H locs 0 0 Q (F0 m 87 ls [.int (3 : Int32), .ref (a 1), .int k1, .ref (a 3)]) := by
    intro v1 v3 v5 k1 σ H locs ls hok hl S hq
    refine ld_C_1 (k := 3) hx hb hK S.1 (vin_dec (by decide)) (by decide) d_N_push_87 ?_
    refine callVV X S hl (c_Me_store k1 (σ 0 3) _) v_N_62 3 1 ⟨rfl, rfl⟩ (rk_dec (by decide)) rfl rfl (Nat.le_of_ble_eq_true rfl) d_N_push_88 (fun σ1 H locs e1 S => ?_)
    have hq := hq.trans (ap1_eq e1)
    have hok := ok_ap1 e1 hok
    refine lv_iinc (k := 3) (v := (v5 + (4 : Int32))) hx hb d_N_push_91 hl rfl (by first | rfl | decide) (by decide) rfl (fun ls hl => ?_)
    exact B_N_push_94_3 _ _ _ _ _ _ _ hok (lv_sub hl [1, 2, 3, 0, 4] rfl) S hq
  have B_N_push_47_3 : ∀ (v1 : Int32) (v3 : Int32) (v5 : Int32) (σ : nS) (H : Heap) (locs : List Loc) (ls : Array Slot), (o_N_push_47_3 v1 v3 v5 σ) → lv_has ls 7 [(0, .ref (a 0)), (1, .int v1), (3, .int v3), (5, .int v5), (6, .int (3 : Int32))] → St D (wC cI cZ a) A s σ H locs → F = s_N_push_47_3 v1 v3 v5 σ → W p l e ({ frames := 2, cells := 0, slots := 0, locals := 48 } : Room) s m args below meth c H locs 0 0 Q (F0 m 47 ls []) := by
    intro v1 v3 v5 σ H locs ls hok hl S hq
    refine lv_iload hx hb d_N_push_47 (lv_at hl 4 rfl) ?_
    refine lv_bipush (v := 8) hx hb d_N_push_49 (by decide) ?_
    refine lv_icmp_gt (tgt := 100) hx hb d_N_push_51 rfl (fun h9 => absurd h9 (by decide)) (fun _ => ?_)
    refine lv_iload_n hx hb d_N_push_54 rfl (lv_at hl 1 rfl) ?_
    refine lv_iload hx hb d_N_push_55 (lv_at hl 4 rfl) ?_
    refine lv_ishr hx hb d_N_push_57 ?_
    refine lv_iconst (v := 1) hx hb d_N_push_58 (by decide) ?_
    refine lv_iand hx hb d_N_push_59 ?_
    refine lv_if_eq (tgt := 94) hx hb d_N_push_60 rfl (fun h60 => ?_) (fun h60 => ?_)
    · have hq := hq.trans (if_pos h60)
      have hok := ok_pos h60 hok
      exact B_N_push_94_3 _ _ _ _ _ _ _ hok (lv_sub hl [0, 1, 2, 3, 4] rfl) S hq
    · have hq := hq.trans (if_neg h60)
      have hok := ok_neg h60 hok
      refine lv_aload_n hx hb d_N_push_63 rfl (lv_at hl 0 rfl) ?_
      refine g_N_19 hx hb hts hown hK S.1 d_N_push_64 ?_
      refine lv_iload hx hb d_N_push_67 (lv_at hl 3 rfl) ?_
      refine lv_aload_n hx hb d_N_push_69 rfl (lv_at hl 0 rfl) ?_
      refine g_N_9 hx hb hts hown hK S.1 d_N_push_70 ?_
      refine lv_iload hx hb d_N_push_73 (lv_at hl 4 rfl) ?_
      refine lv_bipush (v := 8) hx hb d_N_push_75 (by decide) ?_
      refine lv_icmp_ne (tgt := 85) hx hb d_N_push_77 rfl (fun _ => ?_) (fun h9 => absurd h9 (by decide))
      refine lv_iload hx hb d_N_push_85 (lv_at hl 4 rfl) ?_
      exact B_N_push_87_3 _ _ _ _ _ _ _ _ hok (lv_sub hl [0, 1, 2, 3, 4] rfl) S hq
  have B_N_push_94_2 : ∀ (v1 : Int32) (v3 : Int32) (v5 : Int32) (σ : nS) (H : Heap) (locs : List Loc) (ls : Array Slot), (o_N_push_94_2 v1 v3 v5 σ) → lv_has ls 7 [(0, .ref (a 0)), (1, .int v1), (3, .int v3), (5, .int v5), (6, .int (2 : Int32))] → St D (wC cI cZ a) A s σ H locs → F = s_N_push_94_2 v1 v3 v5 σ → W p l e ({ frames := 2, cells := 0, slots := 0, locals := 48 } : Room) s m args below meth c H locs 0 0 Q (F0 m 94 ls []) := by
    intro v1 v3 v5 σ H locs ls hok hl S hq
    refine lv_iinc (k := 4) (v := (3 : Int32)) hx hb d_N_push_94 hl rfl (by first | rfl | decide) (by decide) rfl (fun ls hl => ?_)
    refine lv_goto (tgt := 47) hx hb d_N_push_97 rfl ?_
    exact B_N_push_47_3 _ _ _ _ _ _ _ hok (lv_sub hl [1, 2, 3, 4, 0] rfl) S hq
  have B_N_push_87_2 : ∀ (v1 : Int32) (v3 : Int32) (v5 : Int32) (k1 : Int32) (σ : nS) (H : Heap) (locs : List Loc) (ls : Array Slot), (o_N_push_87_2 v1 v3 v5 k1 σ) → lv_has ls 7 [(0, .ref (a 0)), (1, .int v1), (3, .int v3), (5, .int v5), (6, .int (2 : Int32))] → St D (wC cI cZ a) A s σ H locs → F = s_N_push_87_2 v1 v3 v5 k1 σ → W p l e ({ frames := 2, cells := 0, slots := 0, locals := 48 } : Room) s m args below meth c H locs 0 0 Q (F0 m 87 ls [.int (2 : Int32), .ref (a 1), .int k1, .ref (a 3)]) := by
    intro v1 v3 v5 k1 σ H locs ls hok hl S hq
    refine ld_C_1 (k := 2) hx hb hK S.1 (vin_dec (by decide)) (by decide) d_N_push_87 ?_
    refine callVV X S hl (c_Me_store k1 (σ 0 2) _) v_N_62 3 1 ⟨rfl, rfl⟩ (rk_dec (by decide)) rfl rfl (Nat.le_of_ble_eq_true rfl) d_N_push_88 (fun σ1 H locs e1 S => ?_)
    have hq := hq.trans (ap1_eq e1)
    have hok := ok_ap1 e1 hok
    refine lv_iinc (k := 3) (v := (v5 + (4 : Int32))) hx hb d_N_push_91 hl rfl (by first | rfl | decide) (by decide) rfl (fun ls hl => ?_)
    exact B_N_push_94_2 _ _ _ _ _ _ _ hok (lv_sub hl [1, 2, 3, 0, 4] rfl) S hq
  have B_N_push_47_2 : ∀ (v1 : Int32) (v3 : Int32) (v5 : Int32) (σ : nS) (H : Heap) (locs : List Loc) (ls : Array Slot), (o_N_push_47_2 v1 v3 v5 σ) → lv_has ls 7 [(0, .ref (a 0)), (1, .int v1), (3, .int v3), (5, .int v5), (6, .int (2 : Int32))] → St D (wC cI cZ a) A s σ H locs → F = s_N_push_47_2 v1 v3 v5 σ → W p l e ({ frames := 2, cells := 0, slots := 0, locals := 48 } : Room) s m args below meth c H locs 0 0 Q (F0 m 47 ls []) := by
    intro v1 v3 v5 σ H locs ls hok hl S hq
    refine lv_iload hx hb d_N_push_47 (lv_at hl 4 rfl) ?_
    refine lv_bipush (v := 8) hx hb d_N_push_49 (by decide) ?_
    refine lv_icmp_gt (tgt := 100) hx hb d_N_push_51 rfl (fun h9 => absurd h9 (by decide)) (fun _ => ?_)
    refine lv_iload_n hx hb d_N_push_54 rfl (lv_at hl 1 rfl) ?_
    refine lv_iload hx hb d_N_push_55 (lv_at hl 4 rfl) ?_
    refine lv_ishr hx hb d_N_push_57 ?_
    refine lv_iconst (v := 1) hx hb d_N_push_58 (by decide) ?_
    refine lv_iand hx hb d_N_push_59 ?_
    refine lv_if_eq (tgt := 94) hx hb d_N_push_60 rfl (fun h60 => ?_) (fun h60 => ?_)
    · have hq := hq.trans (if_pos h60)
      have hok := ok_pos h60 hok
      exact B_N_push_94_2 _ _ _ _ _ _ _ hok (lv_sub hl [0, 1, 2, 3, 4] rfl) S hq
    · have hq := hq.trans (if_neg h60)
      have hok := ok_neg h60 hok
      refine lv_aload_n hx hb d_N_push_63 rfl (lv_at hl 0 rfl) ?_
      refine g_N_19 hx hb hts hown hK S.1 d_N_push_64 ?_
      refine lv_iload hx hb d_N_push_67 (lv_at hl 3 rfl) ?_
      refine lv_aload_n hx hb d_N_push_69 rfl (lv_at hl 0 rfl) ?_
      refine g_N_9 hx hb hts hown hK S.1 d_N_push_70 ?_
      refine lv_iload hx hb d_N_push_73 (lv_at hl 4 rfl) ?_
      refine lv_bipush (v := 8) hx hb d_N_push_75 (by decide) ?_
      refine lv_icmp_ne (tgt := 85) hx hb d_N_push_77 rfl (fun _ => ?_) (fun h9 => absurd h9 (by decide))
      refine lv_iload hx hb d_N_push_85 (lv_at hl 4 rfl) ?_
      exact B_N_push_87_2 _ _ _ _ _ _ _ _ hok (lv_sub hl [0, 1, 2, 3, 4] rfl) S hq
  have B_N_push_94_1 : ∀ (v1 : Int32) (v3 : Int32) (v5 : Int32) (σ : nS) (H : Heap) (locs : List Loc) (ls : Array Slot), (o_N_push_94_1 v1 v3 v5 σ) → lv_has ls 7 [(0, .ref (a 0)), (1, .int v1), (3, .int v3), (5, .int v5), (6, .int (1 : Int32))] → St D (wC cI cZ a) A s σ H locs → F = s_N_push_94_1 v1 v3 v5 σ → W p l e ({ frames := 2, cells := 0, slots := 0, locals := 48 } : Room) s m args below meth c H locs 0 0 Q (F0 m 94 ls []) := by
    intro v1 v3 v5 σ H locs ls hok hl S hq
    refine lv_iinc (k := 4) (v := (2 : Int32)) hx hb d_N_push_94 hl rfl (by first | rfl | decide) (by decide) rfl (fun ls hl => ?_)
    refine lv_goto (tgt := 47) hx hb d_N_push_97 rfl ?_
    exact B_N_push_47_2 _ _ _ _ _ _ _ hok (lv_sub hl [1, 2, 3, 4, 0] rfl) S hq
  have B_N_push_87_1 : ∀ (v1 : Int32) (v3 : Int32) (v5 : Int32) (k1 : Int32) (σ : nS) (H : Heap) (locs : List Loc) (ls : Array Slot), (o_N_push_87_1 v1 v3 v5 k1 σ) → lv_has ls 7 [(0, .ref (a 0)), (1, .int v1), (3, .int v3), (5, .int v5), (6, .int (1 : Int32))] → St D (wC cI cZ a) A s σ H locs → F = s_N_push_87_1 v1 v3 v5 k1 σ → W p l e ({ frames := 2, cells := 0, slots := 0, locals := 48 } : Room) s m args below meth c H locs 0 0 Q (F0 m 87 ls [.int (1 : Int32), .ref (a 1), .int k1, .ref (a 3)]) := by
    intro v1 v3 v5 k1 σ H locs ls hok hl S hq
    refine ld_C_1 (k := 1) hx hb hK S.1 (vin_dec (by decide)) (by decide) d_N_push_87 ?_
    refine callVV X S hl (c_Me_store k1 (σ 0 1) _) v_N_62 3 1 ⟨rfl, rfl⟩ (rk_dec (by decide)) rfl rfl (Nat.le_of_ble_eq_true rfl) d_N_push_88 (fun σ1 H locs e1 S => ?_)
    have hq := hq.trans (ap1_eq e1)
    have hok := ok_ap1 e1 hok
    refine lv_iinc (k := 3) (v := (v5 + (4 : Int32))) hx hb d_N_push_91 hl rfl (by first | rfl | decide) (by decide) rfl (fun ls hl => ?_)
    exact B_N_push_94_1 _ _ _ _ _ _ _ hok (lv_sub hl [1, 2, 3, 0, 4] rfl) S hq
  have B_N_push_47_1 : ∀ (v1 : Int32) (v3 : Int32) (v5 : Int32) (σ : nS) (H : Heap) (locs : List Loc) (ls : Array Slot), (o_N_push_47_1 v1 v3 v5 σ) → lv_has ls 7 [(0, .ref (a 0)), (1, .int v1), (3, .int v3), (5, .int v5), (6, .int (1 : Int32))] → St D (wC cI cZ a) A s σ H locs → F = s_N_push_47_1 v1 v3 v5 σ → W p l e ({ frames := 2, cells := 0, slots := 0, locals := 48 } : Room) s m args below meth c H locs 0 0 Q (F0 m 47 ls []) := by
    intro v1 v3 v5 σ H locs ls hok hl S hq
    refine lv_iload hx hb d_N_push_47 (lv_at hl 4 rfl) ?_
    refine lv_bipush (v := 8) hx hb d_N_push_49 (by decide) ?_
    refine lv_icmp_gt (tgt := 100) hx hb d_N_push_51 rfl (fun h9 => absurd h9 (by decide)) (fun _ => ?_)
    refine lv_iload_n hx hb d_N_push_54 rfl (lv_at hl 1 rfl) ?_
    refine lv_iload hx hb d_N_push_55 (lv_at hl 4 rfl) ?_
    refine lv_ishr hx hb d_N_push_57 ?_
    refine lv_iconst (v := 1) hx hb d_N_push_58 (by decide) ?_
    refine lv_iand hx hb d_N_push_59 ?_
    refine lv_if_eq (tgt := 94) hx hb d_N_push_60 rfl (fun h60 => ?_) (fun h60 => ?_)
    · have hq := hq.trans (if_pos h60)
      have hok := ok_pos h60 hok
      exact B_N_push_94_1 _ _ _ _ _ _ _ hok (lv_sub hl [0, 1, 2, 3, 4] rfl) S hq
    · have hq := hq.trans (if_neg h60)
      have hok := ok_neg h60 hok
      refine lv_aload_n hx hb d_N_push_63 rfl (lv_at hl 0 rfl) ?_
      refine g_N_19 hx hb hts hown hK S.1 d_N_push_64 ?_
      refine lv_iload hx hb d_N_push_67 (lv_at hl 3 rfl) ?_
      refine lv_aload_n hx hb d_N_push_69 rfl (lv_at hl 0 rfl) ?_
      refine g_N_9 hx hb hts hown hK S.1 d_N_push_70 ?_
      refine lv_iload hx hb d_N_push_73 (lv_at hl 4 rfl) ?_
      refine lv_bipush (v := 8) hx hb d_N_push_75 (by decide) ?_
      refine lv_icmp_ne (tgt := 85) hx hb d_N_push_77 rfl (fun _ => ?_) (fun h9 => absurd h9 (by decide))
      refine lv_iload hx hb d_N_push_85 (lv_at hl 4 rfl) ?_
      exact B_N_push_87_1 _ _ _ _ _ _ _ _ hok (lv_sub hl [0, 1, 2, 3, 4] rfl) S hq
  have B_N_push_94_0 : ∀ (v1 : Int32) (v3 : Int32) (v5 : Int32) (σ : nS) (H : Heap) (locs : List Loc) (ls : Array Slot), (o_N_push_94_0 v1 v3 v5 σ) → lv_has ls 7 [(0, .ref (a 0)), (1, .int v1), (3, .int v3), (5, .int v5), (6, .int (0 : Int32))] → St D (wC cI cZ a) A s σ H locs → F = s_N_push_94_0 v1 v3 v5 σ → W p l e ({ frames := 2, cells := 0, slots := 0, locals := 48 } : Room) s m args below meth c H locs 0 0 Q (F0 m 94 ls []) := by
    intro v1 v3 v5 σ H locs ls hok hl S hq
    refine lv_iinc (k := 4) (v := (1 : Int32)) hx hb d_N_push_94 hl rfl (by first | rfl | decide) (by decide) rfl (fun ls hl => ?_)
    refine lv_goto (tgt := 47) hx hb d_N_push_97 rfl ?_
    exact B_N_push_47_1 _ _ _ _ _ _ _ hok (lv_sub hl [1, 2, 3, 4, 0] rfl) S hq
  have B_N_push_87_0 : ∀ (v1 : Int32) (v3 : Int32) (v5 : Int32) (k1 : Int32) (σ : nS) (H : Heap) (locs : List Loc) (ls : Array Slot), (o_N_push_87_0 v1 v3 v5 k1 σ) → lv_has ls 7 [(0, .ref (a 0)), (1, .int v1), (3, .int v3), (5, .int v5), (6, .int (0 : Int32))] → St D (wC cI cZ a) A s σ H locs → F = s_N_push_87_0 v1 v3 v5 k1 σ → W p l e ({ frames := 2, cells := 0, slots := 0, locals := 48 } : Room) s m args below meth c H locs 0 0 Q (F0 m 87 ls [.int (0 : Int32), .ref (a 1), .int k1, .ref (a 3)]) := by
    intro v1 v3 v5 k1 σ H locs ls hok hl S hq
    refine ld_C_1 (k := 0) hx hb hK S.1 (vin_dec (by decide)) (by decide) d_N_push_87 ?_
    refine callVV X S hl (c_Me_store k1 (σ 0 0) _) v_N_62 3 1 ⟨rfl, rfl⟩ (rk_dec (by decide)) rfl rfl (Nat.le_of_ble_eq_true rfl) d_N_push_88 (fun σ1 H locs e1 S => ?_)
    have hq := hq.trans (ap1_eq e1)
    have hok := ok_ap1 e1 hok
    refine lv_iinc (k := 3) (v := (v5 + (4 : Int32))) hx hb d_N_push_91 hl rfl (by first | rfl | decide) (by decide) rfl (fun ls hl => ?_)
    exact B_N_push_94_0 _ _ _ _ _ _ _ hok (lv_sub hl [1, 2, 3, 0, 4] rfl) S hq
  have B_N_push_47_0 : ∀ (v1 : Int32) (v3 : Int32) (v5 : Int32) (σ : nS) (H : Heap) (locs : List Loc) (ls : Array Slot), (o_N_push_47_0 v1 v3 v5 σ) → lv_has ls 7 [(0, .ref (a 0)), (1, .int v1), (3, .int v3), (5, .int v5), (6, .int (0 : Int32))] → St D (wC cI cZ a) A s σ H locs → F = s_N_push_47_0 v1 v3 v5 σ → W p l e ({ frames := 2, cells := 0, slots := 0, locals := 48 } : Room) s m args below meth c H locs 0 0 Q (F0 m 47 ls []) := by
    intro v1 v3 v5 σ H locs ls hok hl S hq
    refine lv_iload hx hb d_N_push_47 (lv_at hl 4 rfl) ?_
    refine lv_bipush (v := 8) hx hb d_N_push_49 (by decide) ?_
    refine lv_icmp_gt (tgt := 100) hx hb d_N_push_51 rfl (fun h9 => absurd h9 (by decide)) (fun _ => ?_)
    refine lv_iload_n hx hb d_N_push_54 rfl (lv_at hl 1 rfl) ?_
    refine lv_iload hx hb d_N_push_55 (lv_at hl 4 rfl) ?_
    refine lv_ishr hx hb d_N_push_57 ?_
    refine lv_iconst (v := 1) hx hb d_N_push_58 (by decide) ?_
    refine lv_iand hx hb d_N_push_59 ?_
    refine lv_if_eq (tgt := 94) hx hb d_N_push_60 rfl (fun h60 => ?_) (fun h60 => ?_)
    · have hq := hq.trans (if_pos h60)
      have hok := ok_pos h60 hok
      exact B_N_push_94_0 _ _ _ _ _ _ _ hok (lv_sub hl [0, 1, 2, 3, 4] rfl) S hq
    · have hq := hq.trans (if_neg h60)
      have hok := ok_neg h60 hok
      refine lv_aload_n hx hb d_N_push_63 rfl (lv_at hl 0 rfl) ?_
      refine g_N_19 hx hb hts hown hK S.1 d_N_push_64 ?_
      refine lv_iload hx hb d_N_push_67 (lv_at hl 3 rfl) ?_
      refine lv_aload_n hx hb d_N_push_69 rfl (lv_at hl 0 rfl) ?_
      refine g_N_9 hx hb hts hown hK S.1 d_N_push_70 ?_
      refine lv_iload hx hb d_N_push_73 (lv_at hl 4 rfl) ?_
      refine lv_bipush (v := 8) hx hb d_N_push_75 (by decide) ?_
      refine lv_icmp_ne (tgt := 85) hx hb d_N_push_77 rfl (fun _ => ?_) (fun h9 => absurd h9 (by decide))
      refine lv_iload hx hb d_N_push_85 (lv_at hl 4 rfl) ?_
      exact B_N_push_87_0 _ _ _ _ _ _ _ _ hok (lv_sub hl [0, 1, 2, 3, 4] rfl) S hq
  refine lv_iload_n hx hb d_N_push_0 rfl (lv_at hl 1 rfl) ?_
  refine callSIp X S hl (c_In_bitCount v1 _) v_N_289 (rk_dec (by decide)) rfl rfl (Nat.le_of_ble_eq_true rfl) d_N_push_1 (fun H locs S => ?_)
  refine lv_istore_n hx hb d_N_push_4 rfl hl (by decide) rfl (fun ls hl => ?_)
  refine lv_iload_n hx hb d_N_push_5 rfl (lv_at hl 0 rfl) ?_
  refine lv_if_ne (tgt := 12) hx hb d_N_push_6 rfl (fun h6 => ?_) (fun h6 => ?_)
  · have hq := hq.trans (if_neg h6)
    have hok := ok_neg h6 hok
    refine lv_aload_n hx hb d_N_push_12 rfl (lv_at hl 1 rfl) ?_
    refine g_N_9 hx hb hts hown hK S.1 d_N_push_13 ?_
    refine lv_bipush (v := 13) hx hb d_N_push_16 (by decide) ?_
    refine ld_C_1 (k := 13) hx hb hK S.1 (vin_dec (by decide)) (by decide) d_N_push_18 ?_
    refine lv_iconst (v := 4) hx hb d_N_push_19 (by decide) ?_
    refine lv_iload_n hx hb d_N_push_20 rfl (lv_at hl 0 rfl) ?_
    refine lv_imul hx hb d_N_push_21 ?_
    refine lv_isub hx hb d_N_push_22 ?_
    refine lv_istore_n hx hb d_N_push_23 rfl hl (by decide) rfl (fun ls hl => ?_)
    refine lv_aload_n hx hb d_N_push_24 rfl (lv_at hl 2 rfl) ?_
    refine lv_iload_n hx hb d_N_push_25 rfl (lv_at hl 0 rfl) ?_
    refine lv_iload_n hx hb d_N_push_26 rfl (lv_at hl 1 rfl) ?_
    refine lv_iconst (v := 2) hx hb d_N_push_27 (by decide) ?_
    obtain ⟨g1, hok⟩ := hok
    refine callVIp X S hl (c_N_faultAlong ((σ 0 13) - ((4 : Int32) * (s_In_bitCount v1))) (s_In_bitCount v1) (2 : Int32) _ g1) v_N_277 0 0 ⟨rfl, rfl⟩ (rk_dec (by decide)) rfl rfl (Nat.le_of_ble_eq_true rfl) d_N_push_28 (fun H locs S => ?_)
    refine lv_istore hx hb d_N_push_31 hl (by decide) rfl (fun ls hl => ?_)
    refine lv_iload hx hb d_N_push_33 (lv_at hl 0 rfl) ?_
    refine lv_if_eq (tgt := 41) hx hb d_N_push_35 rfl (fun h35 => ?_) (fun h35 => ?_)
    · have hq := hq.trans (if_pos h35)
      have hok := ok_pos h35 hok
      refine lv_iload_n hx hb d_N_push_41 rfl (lv_at hl 1 rfl) ?_
      refine lv_istore hx hb d_N_push_42 hl (by decide) rfl (fun ls hl => ?_)
      refine lv_iconst (v := 0) hx hb d_N_push_44 (by decide) ?_
      refine lv_istore hx hb d_N_push_45 hl (by decide) rfl (fun ls hl => ?_)
      exact B_N_push_47_0 _ _ _ _ _ _ _ hok (lv_sub hl [5, 6, 3, 1, 0] rfl) S hq
    · have hq := hq.trans (if_neg h35)
      have hok := ok_neg h35 hok
      refine lv_iload hx hb d_N_push_38 (lv_at hl 0 rfl) ?_
      exact ret _ _ _ _ _ _ S hq d_N_push_40
  · have hq := hq.trans (if_pos h6)
    have hok := ok_pos h6 hok
    refine lv_bipush (v := 6) hx hb d_N_push_9 (by decide) ?_
    exact ret _ _ _ _ _ _ S hq d_N_push_11
end CT
