section CT
variable {l : Launch} {D : va_G} {cI cZ : ClassId} {a : Nat → Nat} {t : Nat}
set_option maxHeartbeats 4000000 in
set_option maxRecDepth 100000 in
theorem c_Mo_faultOf (v1 : Int32) (v2 : Int32) (v3 : Int32) (σ : nS) (hok : o_Mo_faultOf v1 v2 v3 σ) : CtI l D cI cZ (wM cI cZ a) exM y_Mo_faultOf b_Mo_faultOf 5 { frames := 1, cells := 0, slots := 0, locals := 24 } [.ref (a 0), .int v1, .int v2, .int v3] σ (s_Mo_faultOf v1 v2 v3 σ, σ) := by
  generalize hF : s_Mo_faultOf v1 v2 v3 σ = F
  refine metIp exM_ok (by decide) (Nat.le_of_ble_eq_true rfl) (fun p e s m args below meth c A Q ls X S hl ret => ?_)
  have hq := hF.symm
  obtain ⟨hx, hb, hml, hown, hts, hK, hA, hE, hlk, hEo⟩ := id X
  have hl : lv_has ls 5 [(0, .ref (a 0)), (1, .int v1), (2, .int v2), (3, .int v3)] := hl
  have B_Mo_faultOf_32_9 : ∀ (v1 : Int32) (v2 : Int32) (v3 : Int32) (H : Heap) (locs : List Loc) (ls : Array Slot), (o_Mo_faultOf_32_9 v1 v2 v3 σ) → lv_has ls 5 [(0, .ref (a 0)), (1, .int v1), (2, .int v2), (3, .int v3), (4, .int (9 : Int32))] → St D (wM cI cZ a) A s σ H locs → F = s_Mo_faultOf_32_9 v1 v2 v3 σ → W p l e ({ frames := 1, cells := 0, slots := 0, locals := 24 } : Room) s m args below meth c H locs 0 0 Q (F0 m 32 ls []) := by
    intro v1 v2 v3 H locs ls hok hl S hq
    refine lv_iload hx hb d_Mo_faultOf_32 (lv_at hl 4 rfl) ?_
    refine lv_iload_n hx hb d_Mo_faultOf_34 rfl (lv_at hl 2 rfl) ?_
    obtain ⟨g1, hok⟩ := hok
    refine lv_icmp_ge (tgt := 60) hx hb d_Mo_faultOf_35 rfl (fun _ => ?_) (fun h9 => absurd (g1) h9)
    refine lv_iconst (v := 0) hx hb d_Mo_faultOf_60 (by decide) ?_
    exact ret _ _ _ _ _ S hq d_Mo_faultOf_61
  have B_Mo_faultOf_32_8 : ∀ (v1 : Int32) (v2 : Int32) (v3 : Int32) (H : Heap) (locs : List Loc) (ls : Array Slot), (o_Mo_faultOf_32_8 v1 v2 v3 σ) → lv_has ls 5 [(0, .ref (a 0)), (1, .int v1), (2, .int v2), (3, .int v3), (4, .int (8 : Int32))] → St D (wM cI cZ a) A s σ H locs → F = s_Mo_faultOf_32_8 v1 v2 v3 σ → W p l e ({ frames := 1, cells := 0, slots := 0, locals := 24 } : Room) s m args below meth c H locs 0 0 Q (F0 m 32 ls []) := by
    intro v1 v2 v3 H locs ls hok hl S hq
    refine lv_iload hx hb d_Mo_faultOf_32 (lv_at hl 4 rfl) ?_
    refine lv_iload_n hx hb d_Mo_faultOf_34 rfl (lv_at hl 2 rfl) ?_
    refine lv_icmp_ge (tgt := 60) hx hb d_Mo_faultOf_35 rfl (fun h35 => ?_) (fun h35 => ?_)
    · have hq := hq.trans (if_pos h35)
      have hok := ok_pos h35 hok
      refine lv_iconst (v := 0) hx hb d_Mo_faultOf_60 (by decide) ?_
      exact ret _ _ _ _ _ S hq d_Mo_faultOf_61
    · have hq := hq.trans (if_neg h35)
      have hok := ok_neg h35 hok
      refine lv_aload_n hx hb d_Mo_faultOf_38 rfl (lv_at hl 0 rfl) ?_
      refine lv_iload_n hx hb d_Mo_faultOf_39 rfl (lv_at hl 1 rfl) ?_
      refine lv_iconst (v := 4) hx hb d_Mo_faultOf_40 (by decide) ?_
      refine lv_iload hx hb d_Mo_faultOf_41 (lv_at hl 4 rfl) ?_
      refine lv_imul hx hb d_Mo_faultOf_43 ?_
      refine r_ci (v := 32) (by decide) ?_
      refine lv_iadd hx hb d_Mo_faultOf_44 ?_
      refine lv_iload_n hx hb d_Mo_faultOf_45 rfl (lv_at hl 3 rfl) ?_
      refine callVZp X S hl (c_Mo_barred (v1 + (32 : Int32)) v3 _) v_Mo_49 0 6 ⟨rfl, rfl⟩ (rk_dec (by decide)) rfl rfl (Nat.le_of_ble_eq_true rfl) d_Mo_faultOf_46 (fun H locs S => ?_)
      refine r_ifeqZ (tgt := 54) hx hb d_Mo_faultOf_49 rfl (fun h49 => ?_) (fun h49 => ?_)
      · have hq := hq.trans (if_neg h49)
        have hok := ok_neg h49 hok
        refine lv_iinc (k := 4) (v := (9 : Int32)) hx hb d_Mo_faultOf_54 hl rfl (by first | rfl | decide) (by decide) rfl (fun ls hl => ?_)
        refine lv_goto (tgt := 32) hx hb d_Mo_faultOf_57 rfl ?_
        exact B_Mo_faultOf_32_9 _ _ _ _ _ _ hok (lv_sub hl [1, 2, 3, 4, 0] rfl) S hq
      · have hq := hq.trans (if_pos h49)
        have hok := ok_pos h49 hok
        refine lv_iconst (v := 4) hx hb d_Mo_faultOf_52 (by decide) ?_
        exact ret _ _ _ _ _ S hq d_Mo_faultOf_53
  have B_Mo_faultOf_32_7 : ∀ (v1 : Int32) (v2 : Int32) (v3 : Int32) (H : Heap) (locs : List Loc) (ls : Array Slot), (o_Mo_faultOf_32_7 v1 v2 v3 σ) → lv_has ls 5 [(0, .ref (a 0)), (1, .int v1), (2, .int v2), (3, .int v3), (4, .int (7 : Int32))] → St D (wM cI cZ a) A s σ H locs → F = s_Mo_faultOf_32_7 v1 v2 v3 σ → W p l e ({ frames := 1, cells := 0, slots := 0, locals := 24 } : Room) s m args below meth c H locs 0 0 Q (F0 m 32 ls []) := by
    intro v1 v2 v3 H locs ls hok hl S hq
    refine lv_iload hx hb d_Mo_faultOf_32 (lv_at hl 4 rfl) ?_
    refine lv_iload_n hx hb d_Mo_faultOf_34 rfl (lv_at hl 2 rfl) ?_
    refine lv_icmp_ge (tgt := 60) hx hb d_Mo_faultOf_35 rfl (fun h35 => ?_) (fun h35 => ?_)
    · have hq := hq.trans (if_pos h35)
      have hok := ok_pos h35 hok
      refine lv_iconst (v := 0) hx hb d_Mo_faultOf_60 (by decide) ?_
      exact ret _ _ _ _ _ S hq d_Mo_faultOf_61
    · have hq := hq.trans (if_neg h35)
      have hok := ok_neg h35 hok
      refine lv_aload_n hx hb d_Mo_faultOf_38 rfl (lv_at hl 0 rfl) ?_
      refine lv_iload_n hx hb d_Mo_faultOf_39 rfl (lv_at hl 1 rfl) ?_
      refine lv_iconst (v := 4) hx hb d_Mo_faultOf_40 (by decide) ?_
      refine lv_iload hx hb d_Mo_faultOf_41 (lv_at hl 4 rfl) ?_
      refine lv_imul hx hb d_Mo_faultOf_43 ?_
      refine r_ci (v := 28) (by decide) ?_
      refine lv_iadd hx hb d_Mo_faultOf_44 ?_
      refine lv_iload_n hx hb d_Mo_faultOf_45 rfl (lv_at hl 3 rfl) ?_
      refine callVZp X S hl (c_Mo_barred (v1 + (28 : Int32)) v3 _) v_Mo_49 0 6 ⟨rfl, rfl⟩ (rk_dec (by decide)) rfl rfl (Nat.le_of_ble_eq_true rfl) d_Mo_faultOf_46 (fun H locs S => ?_)
      refine r_ifeqZ (tgt := 54) hx hb d_Mo_faultOf_49 rfl (fun h49 => ?_) (fun h49 => ?_)
      · have hq := hq.trans (if_neg h49)
        have hok := ok_neg h49 hok
        refine lv_iinc (k := 4) (v := (8 : Int32)) hx hb d_Mo_faultOf_54 hl rfl (by first | rfl | decide) (by decide) rfl (fun ls hl => ?_)
        refine lv_goto (tgt := 32) hx hb d_Mo_faultOf_57 rfl ?_
        exact B_Mo_faultOf_32_8 _ _ _ _ _ _ hok (lv_sub hl [1, 2, 3, 4, 0] rfl) S hq
      · have hq := hq.trans (if_pos h49)
        have hok := ok_pos h49 hok
        refine lv_iconst (v := 4) hx hb d_Mo_faultOf_52 (by decide) ?_
        exact ret _ _ _ _ _ S hq d_Mo_faultOf_53
  have B_Mo_faultOf_32_6 : ∀ (v1 : Int32) (v2 : Int32) (v3 : Int32) (H : Heap) (locs : List Loc) (ls : Array Slot), (o_Mo_faultOf_32_6 v1 v2 v3 σ) → lv_has ls 5 [(0, .ref (a 0)), (1, .int v1), (2, .int v2), (3, .int v3), (4, .int (6 : Int32))] → St D (wM cI cZ a) A s σ H locs → F = s_Mo_faultOf_32_6 v1 v2 v3 σ → W p l e ({ frames := 1, cells := 0, slots := 0, locals := 24 } : Room) s m args below meth c H locs 0 0 Q (F0 m 32 ls []) := by
    intro v1 v2 v3 H locs ls hok hl S hq
    refine lv_iload hx hb d_Mo_faultOf_32 (lv_at hl 4 rfl) ?_
    refine lv_iload_n hx hb d_Mo_faultOf_34 rfl (lv_at hl 2 rfl) ?_
    refine lv_icmp_ge (tgt := 60) hx hb d_Mo_faultOf_35 rfl (fun h35 => ?_) (fun h35 => ?_)
    · have hq := hq.trans (if_pos h35)
      have hok := ok_pos h35 hok
      refine lv_iconst (v := 0) hx hb d_Mo_faultOf_60 (by decide) ?_
      exact ret _ _ _ _ _ S hq d_Mo_faultOf_61
    · have hq := hq.trans (if_neg h35)
      have hok := ok_neg h35 hok
      refine lv_aload_n hx hb d_Mo_faultOf_38 rfl (lv_at hl 0 rfl) ?_
      refine lv_iload_n hx hb d_Mo_faultOf_39 rfl (lv_at hl 1 rfl) ?_
      refine lv_iconst (v := 4) hx hb d_Mo_faultOf_40 (by decide) ?_
      refine lv_iload hx hb d_Mo_faultOf_41 (lv_at hl 4 rfl) ?_
      refine lv_imul hx hb d_Mo_faultOf_43 ?_
      refine r_ci (v := 24) (by decide) ?_
      refine lv_iadd hx hb d_Mo_faultOf_44 ?_
      refine lv_iload_n hx hb d_Mo_faultOf_45 rfl (lv_at hl 3 rfl) ?_
      refine callVZp X S hl (c_Mo_barred (v1 + (24 : Int32)) v3 _) v_Mo_49 0 6 ⟨rfl, rfl⟩ (rk_dec (by decide)) rfl rfl (Nat.le_of_ble_eq_true rfl) d_Mo_faultOf_46 (fun H locs S => ?_)
      refine r_ifeqZ (tgt := 54) hx hb d_Mo_faultOf_49 rfl (fun h49 => ?_) (fun h49 => ?_)
      · have hq := hq.trans (if_neg h49)
        have hok := ok_neg h49 hok
        refine lv_iinc (k := 4) (v := (7 : Int32)) hx hb d_Mo_faultOf_54 hl rfl (by first | rfl | decide) (by decide) rfl (fun ls hl => ?_)
        refine lv_goto (tgt := 32) hx hb d_Mo_faultOf_57 rfl ?_
        exact B_Mo_faultOf_32_7 _ _ _ _ _ _ hok (lv_sub hl [1, 2, 3, 4, 0] rfl) S hq
      · have hq := hq.trans (if_pos h49)
        have hok := ok_pos h49 hok
        refine lv_iconst (v := 4) hx hb d_Mo_faultOf_52 (by decide) ?_
        exact ret _ _ _ _ _ S hq d_Mo_faultOf_53
  have B_Mo_faultOf_32_5 : ∀ (v1 : Int32) (v2 : Int32) (v3 : Int32) (H : Heap) (locs : List Loc) (ls : Array Slot), (o_Mo_faultOf_32_5 v1 v2 v3 σ) → lv_has ls 5 [(0, .ref (a 0)), (1, .int v1), (2, .int v2), (3, .int v3), (4, .int (5 : Int32))] → St D (wM cI cZ a) A s σ H locs → F = s_Mo_faultOf_32_5 v1 v2 v3 σ → W p l e ({ frames := 1, cells := 0, slots := 0, locals := 24 } : Room) s m args below meth c H locs 0 0 Q (F0 m 32 ls []) := by
    intro v1 v2 v3 H locs ls hok hl S hq
    refine lv_iload hx hb d_Mo_faultOf_32 (lv_at hl 4 rfl) ?_
    refine lv_iload_n hx hb d_Mo_faultOf_34 rfl (lv_at hl 2 rfl) ?_
    refine lv_icmp_ge (tgt := 60) hx hb d_Mo_faultOf_35 rfl (fun h35 => ?_) (fun h35 => ?_)
    · have hq := hq.trans (if_pos h35)
      have hok := ok_pos h35 hok
      refine lv_iconst (v := 0) hx hb d_Mo_faultOf_60 (by decide) ?_
      exact ret _ _ _ _ _ S hq d_Mo_faultOf_61
    · have hq := hq.trans (if_neg h35)
      have hok := ok_neg h35 hok
      refine lv_aload_n hx hb d_Mo_faultOf_38 rfl (lv_at hl 0 rfl) ?_
      refine lv_iload_n hx hb d_Mo_faultOf_39 rfl (lv_at hl 1 rfl) ?_
      refine lv_iconst (v := 4) hx hb d_Mo_faultOf_40 (by decide) ?_
      refine lv_iload hx hb d_Mo_faultOf_41 (lv_at hl 4 rfl) ?_
      refine lv_imul hx hb d_Mo_faultOf_43 ?_
      refine r_ci (v := 20) (by decide) ?_
      refine lv_iadd hx hb d_Mo_faultOf_44 ?_
      refine lv_iload_n hx hb d_Mo_faultOf_45 rfl (lv_at hl 3 rfl) ?_
      refine callVZp X S hl (c_Mo_barred (v1 + (20 : Int32)) v3 _) v_Mo_49 0 6 ⟨rfl, rfl⟩ (rk_dec (by decide)) rfl rfl (Nat.le_of_ble_eq_true rfl) d_Mo_faultOf_46 (fun H locs S => ?_)
      refine r_ifeqZ (tgt := 54) hx hb d_Mo_faultOf_49 rfl (fun h49 => ?_) (fun h49 => ?_)
      · have hq := hq.trans (if_neg h49)
        have hok := ok_neg h49 hok
        refine lv_iinc (k := 4) (v := (6 : Int32)) hx hb d_Mo_faultOf_54 hl rfl (by first | rfl | decide) (by decide) rfl (fun ls hl => ?_)
        refine lv_goto (tgt := 32) hx hb d_Mo_faultOf_57 rfl ?_
        exact B_Mo_faultOf_32_6 _ _ _ _ _ _ hok (lv_sub hl [1, 2, 3, 4, 0] rfl) S hq
      · have hq := hq.trans (if_pos h49)
        have hok := ok_pos h49 hok
        refine lv_iconst (v := 4) hx hb d_Mo_faultOf_52 (by decide) ?_
        exact ret _ _ _ _ _ S hq d_Mo_faultOf_53
  have B_Mo_faultOf_32_4 : ∀ (v1 : Int32) (v2 : Int32) (v3 : Int32) (H : Heap) (locs : List Loc) (ls : Array Slot), (o_Mo_faultOf_32_4 v1 v2 v3 σ) → lv_has ls 5 [(0, .ref (a 0)), (1, .int v1), (2, .int v2), (3, .int v3), (4, .int (4 : Int32))] → St D (wM cI cZ a) A s σ H locs → F = s_Mo_faultOf_32_4 v1 v2 v3 σ → W p l e ({ frames := 1, cells := 0, slots := 0, locals := 24 } : Room) s m args below meth c H locs 0 0 Q (F0 m 32 ls []) := by
    intro v1 v2 v3 H locs ls hok hl S hq
    refine lv_iload hx hb d_Mo_faultOf_32 (lv_at hl 4 rfl) ?_
    refine lv_iload_n hx hb d_Mo_faultOf_34 rfl (lv_at hl 2 rfl) ?_
    refine lv_icmp_ge (tgt := 60) hx hb d_Mo_faultOf_35 rfl (fun h35 => ?_) (fun h35 => ?_)
    · have hq := hq.trans (if_pos h35)
      have hok := ok_pos h35 hok
      refine lv_iconst (v := 0) hx hb d_Mo_faultOf_60 (by decide) ?_
      exact ret _ _ _ _ _ S hq d_Mo_faultOf_61
    · have hq := hq.trans (if_neg h35)
      have hok := ok_neg h35 hok
      refine lv_aload_n hx hb d_Mo_faultOf_38 rfl (lv_at hl 0 rfl) ?_
      refine lv_iload_n hx hb d_Mo_faultOf_39 rfl (lv_at hl 1 rfl) ?_
      refine lv_iconst (v := 4) hx hb d_Mo_faultOf_40 (by decide) ?_
      refine lv_iload hx hb d_Mo_faultOf_41 (lv_at hl 4 rfl) ?_
      refine lv_imul hx hb d_Mo_faultOf_43 ?_
      refine r_ci (v := 16) (by decide) ?_
      refine lv_iadd hx hb d_Mo_faultOf_44 ?_
      refine lv_iload_n hx hb d_Mo_faultOf_45 rfl (lv_at hl 3 rfl) ?_
      refine callVZp X S hl (c_Mo_barred (v1 + (16 : Int32)) v3 _) v_Mo_49 0 6 ⟨rfl, rfl⟩ (rk_dec (by decide)) rfl rfl (Nat.le_of_ble_eq_true rfl) d_Mo_faultOf_46 (fun H locs S => ?_)
      refine r_ifeqZ (tgt := 54) hx hb d_Mo_faultOf_49 rfl (fun h49 => ?_) (fun h49 => ?_)
      · have hq := hq.trans (if_neg h49)
        have hok := ok_neg h49 hok
        refine lv_iinc (k := 4) (v := (5 : Int32)) hx hb d_Mo_faultOf_54 hl rfl (by first | rfl | decide) (by decide) rfl (fun ls hl => ?_)
        refine lv_goto (tgt := 32) hx hb d_Mo_faultOf_57 rfl ?_
        exact B_Mo_faultOf_32_5 _ _ _ _ _ _ hok (lv_sub hl [1, 2, 3, 4, 0] rfl) S hq
      · have hq := hq.trans (if_pos h49)
        have hok := ok_pos h49 hok
        refine lv_iconst (v := 4) hx hb d_Mo_faultOf_52 (by decide) ?_
        exact ret _ _ _ _ _ S hq d_Mo_faultOf_53
  have B_Mo_faultOf_32_3 : ∀ (v1 : Int32) (v2 : Int32) (v3 : Int32) (H : Heap) (locs : List Loc) (ls : Array Slot), (o_Mo_faultOf_32_3 v1 v2 v3 σ) → lv_has ls 5 [(0, .ref (a 0)), (1, .int v1), (2, .int v2), (3, .int v3), (4, .int (3 : Int32))] → St D (wM cI cZ a) A s σ H locs → F = s_Mo_faultOf_32_3 v1 v2 v3 σ → W p l e ({ frames := 1, cells := 0, slots := 0, locals := 24 } : Room) s m args below meth c H locs 0 0 Q (F0 m 32 ls []) := by
    intro v1 v2 v3 H locs ls hok hl S hq
    refine lv_iload hx hb d_Mo_faultOf_32 (lv_at hl 4 rfl) ?_
    refine lv_iload_n hx hb d_Mo_faultOf_34 rfl (lv_at hl 2 rfl) ?_
    refine lv_icmp_ge (tgt := 60) hx hb d_Mo_faultOf_35 rfl (fun h35 => ?_) (fun h35 => ?_)
    · have hq := hq.trans (if_pos h35)
      have hok := ok_pos h35 hok
      refine lv_iconst (v := 0) hx hb d_Mo_faultOf_60 (by decide) ?_
      exact ret _ _ _ _ _ S hq d_Mo_faultOf_61
    · have hq := hq.trans (if_neg h35)
      have hok := ok_neg h35 hok
      refine lv_aload_n hx hb d_Mo_faultOf_38 rfl (lv_at hl 0 rfl) ?_
      refine lv_iload_n hx hb d_Mo_faultOf_39 rfl (lv_at hl 1 rfl) ?_
      refine lv_iconst (v := 4) hx hb d_Mo_faultOf_40 (by decide) ?_
      refine lv_iload hx hb d_Mo_faultOf_41 (lv_at hl 4 rfl) ?_
      refine lv_imul hx hb d_Mo_faultOf_43 ?_
      refine r_ci (v := 12) (by decide) ?_
      refine lv_iadd hx hb d_Mo_faultOf_44 ?_
      refine lv_iload_n hx hb d_Mo_faultOf_45 rfl (lv_at hl 3 rfl) ?_
      refine callVZp X S hl (c_Mo_barred (v1 + (12 : Int32)) v3 _) v_Mo_49 0 6 ⟨rfl, rfl⟩ (rk_dec (by decide)) rfl rfl (Nat.le_of_ble_eq_true rfl) d_Mo_faultOf_46 (fun H locs S => ?_)
      refine r_ifeqZ (tgt := 54) hx hb d_Mo_faultOf_49 rfl (fun h49 => ?_) (fun h49 => ?_)
      · have hq := hq.trans (if_neg h49)
        have hok := ok_neg h49 hok
        refine lv_iinc (k := 4) (v := (4 : Int32)) hx hb d_Mo_faultOf_54 hl rfl (by first | rfl | decide) (by decide) rfl (fun ls hl => ?_)
        refine lv_goto (tgt := 32) hx hb d_Mo_faultOf_57 rfl ?_
        exact B_Mo_faultOf_32_4 _ _ _ _ _ _ hok (lv_sub hl [1, 2, 3, 4, 0] rfl) S hq
      · have hq := hq.trans (if_pos h49)
        have hok := ok_pos h49 hok
        refine lv_iconst (v := 4) hx hb d_Mo_faultOf_52 (by decide) ?_
        exact ret _ _ _ _ _ S hq d_Mo_faultOf_53
  have B_Mo_faultOf_32_2 : ∀ (v1 : Int32) (v2 : Int32) (v3 : Int32) (H : Heap) (locs : List Loc) (ls : Array Slot), (o_Mo_faultOf_32_2 v1 v2 v3 σ) → lv_has ls 5 [(0, .ref (a 0)), (1, .int v1), (2, .int v2), (3, .int v3), (4, .int (2 : Int32))] → St D (wM cI cZ a) A s σ H locs → F = s_Mo_faultOf_32_2 v1 v2 v3 σ → W p l e ({ frames := 1, cells := 0, slots := 0, locals := 24 } : Room) s m args below meth c H locs 0 0 Q (F0 m 32 ls []) := by
    intro v1 v2 v3 H locs ls hok hl S hq
    refine lv_iload hx hb d_Mo_faultOf_32 (lv_at hl 4 rfl) ?_
    refine lv_iload_n hx hb d_Mo_faultOf_34 rfl (lv_at hl 2 rfl) ?_
    refine lv_icmp_ge (tgt := 60) hx hb d_Mo_faultOf_35 rfl (fun h35 => ?_) (fun h35 => ?_)
    · have hq := hq.trans (if_pos h35)
      have hok := ok_pos h35 hok
      refine lv_iconst (v := 0) hx hb d_Mo_faultOf_60 (by decide) ?_
      exact ret _ _ _ _ _ S hq d_Mo_faultOf_61
    · have hq := hq.trans (if_neg h35)
      have hok := ok_neg h35 hok
      refine lv_aload_n hx hb d_Mo_faultOf_38 rfl (lv_at hl 0 rfl) ?_
      refine lv_iload_n hx hb d_Mo_faultOf_39 rfl (lv_at hl 1 rfl) ?_
      refine lv_iconst (v := 4) hx hb d_Mo_faultOf_40 (by decide) ?_
      refine lv_iload hx hb d_Mo_faultOf_41 (lv_at hl 4 rfl) ?_
      refine lv_imul hx hb d_Mo_faultOf_43 ?_
      refine r_ci (v := 8) (by decide) ?_
      refine lv_iadd hx hb d_Mo_faultOf_44 ?_
      refine lv_iload_n hx hb d_Mo_faultOf_45 rfl (lv_at hl 3 rfl) ?_
      refine callVZp X S hl (c_Mo_barred (v1 + (8 : Int32)) v3 _) v_Mo_49 0 6 ⟨rfl, rfl⟩ (rk_dec (by decide)) rfl rfl (Nat.le_of_ble_eq_true rfl) d_Mo_faultOf_46 (fun H locs S => ?_)
      refine r_ifeqZ (tgt := 54) hx hb d_Mo_faultOf_49 rfl (fun h49 => ?_) (fun h49 => ?_)
      · have hq := hq.trans (if_neg h49)
        have hok := ok_neg h49 hok
        refine lv_iinc (k := 4) (v := (3 : Int32)) hx hb d_Mo_faultOf_54 hl rfl (by first | rfl | decide) (by decide) rfl (fun ls hl => ?_)
        refine lv_goto (tgt := 32) hx hb d_Mo_faultOf_57 rfl ?_
        exact B_Mo_faultOf_32_3 _ _ _ _ _ _ hok (lv_sub hl [1, 2, 3, 4, 0] rfl) S hq
      · have hq := hq.trans (if_pos h49)
        have hok := ok_pos h49 hok
        refine lv_iconst (v := 4) hx hb d_Mo_faultOf_52 (by decide) ?_
        exact ret _ _ _ _ _ S hq d_Mo_faultOf_53
  have B_Mo_faultOf_32_1 : ∀ (v1 : Int32) (v2 : Int32) (v3 : Int32) (H : Heap) (locs : List Loc) (ls : Array Slot), (o_Mo_faultOf_32_1 v1 v2 v3 σ) → lv_has ls 5 [(0, .ref (a 0)), (1, .int v1), (2, .int v2), (3, .int v3), (4, .int (1 : Int32))] → St D (wM cI cZ a) A s σ H locs → F = s_Mo_faultOf_32_1 v1 v2 v3 σ → W p l e ({ frames := 1, cells := 0, slots := 0, locals := 24 } : Room) s m args below meth c H locs 0 0 Q (F0 m 32 ls []) := by
    intro v1 v2 v3 H locs ls hok hl S hq
    refine lv_iload hx hb d_Mo_faultOf_32 (lv_at hl 4 rfl) ?_
    refine lv_iload_n hx hb d_Mo_faultOf_34 rfl (lv_at hl 2 rfl) ?_
    refine lv_icmp_ge (tgt := 60) hx hb d_Mo_faultOf_35 rfl (fun h35 => ?_) (fun h35 => ?_)
    · have hq := hq.trans (if_pos h35)
      have hok := ok_pos h35 hok
      refine lv_iconst (v := 0) hx hb d_Mo_faultOf_60 (by decide) ?_
      exact ret _ _ _ _ _ S hq d_Mo_faultOf_61
    · have hq := hq.trans (if_neg h35)
      have hok := ok_neg h35 hok
      refine lv_aload_n hx hb d_Mo_faultOf_38 rfl (lv_at hl 0 rfl) ?_
      refine lv_iload_n hx hb d_Mo_faultOf_39 rfl (lv_at hl 1 rfl) ?_
      refine lv_iconst (v := 4) hx hb d_Mo_faultOf_40 (by decide) ?_
      refine lv_iload hx hb d_Mo_faultOf_41 (lv_at hl 4 rfl) ?_
      refine lv_imul hx hb d_Mo_faultOf_43 ?_
      refine r_ci (v := 4) (by decide) ?_
      refine lv_iadd hx hb d_Mo_faultOf_44 ?_
      refine lv_iload_n hx hb d_Mo_faultOf_45 rfl (lv_at hl 3 rfl) ?_
      refine callVZp X S hl (c_Mo_barred (v1 + (4 : Int32)) v3 _) v_Mo_49 0 6 ⟨rfl, rfl⟩ (rk_dec (by decide)) rfl rfl (Nat.le_of_ble_eq_true rfl) d_Mo_faultOf_46 (fun H locs S => ?_)
      refine r_ifeqZ (tgt := 54) hx hb d_Mo_faultOf_49 rfl (fun h49 => ?_) (fun h49 => ?_)
      · have hq := hq.trans (if_neg h49)
        have hok := ok_neg h49 hok
        refine lv_iinc (k := 4) (v := (2 : Int32)) hx hb d_Mo_faultOf_54 hl rfl (by first | rfl | decide) (by decide) rfl (fun ls hl => ?_)
        refine lv_goto (tgt := 32) hx hb d_Mo_faultOf_57 rfl ?_
        exact B_Mo_faultOf_32_2 _ _ _ _ _ _ hok (lv_sub hl [1, 2, 3, 4, 0] rfl) S hq
      · have hq := hq.trans (if_pos h49)
        have hok := ok_pos h49 hok
        refine lv_iconst (v := 4) hx hb d_Mo_faultOf_52 (by decide) ?_
        exact ret _ _ _ _ _ S hq d_Mo_faultOf_53
  have B_Mo_faultOf_32_0 : ∀ (v1 : Int32) (v2 : Int32) (v3 : Int32) (H : Heap) (locs : List Loc) (ls : Array Slot), (o_Mo_faultOf_32_0 v1 v2 v3 σ) → lv_has ls 5 [(0, .ref (a 0)), (1, .int v1), (2, .int v2), (3, .int v3), (4, .int (0 : Int32))] → St D (wM cI cZ a) A s σ H locs → F = s_Mo_faultOf_32_0 v1 v2 v3 σ → W p l e ({ frames := 1, cells := 0, slots := 0, locals := 24 } : Room) s m args below meth c H locs 0 0 Q (F0 m 32 ls []) := by
    intro v1 v2 v3 H locs ls hok hl S hq
    refine lv_iload hx hb d_Mo_faultOf_32 (lv_at hl 4 rfl) ?_
    refine lv_iload_n hx hb d_Mo_faultOf_34 rfl (lv_at hl 2 rfl) ?_
    refine lv_icmp_ge (tgt := 60) hx hb d_Mo_faultOf_35 rfl (fun h35 => ?_) (fun h35 => ?_)
    · have hq := hq.trans (if_pos h35)
      have hok := ok_pos h35 hok
      refine lv_iconst (v := 0) hx hb d_Mo_faultOf_60 (by decide) ?_
      exact ret _ _ _ _ _ S hq d_Mo_faultOf_61
    · have hq := hq.trans (if_neg h35)
      have hok := ok_neg h35 hok
      refine lv_aload_n hx hb d_Mo_faultOf_38 rfl (lv_at hl 0 rfl) ?_
      refine lv_iload_n hx hb d_Mo_faultOf_39 rfl (lv_at hl 1 rfl) ?_
      refine lv_iconst (v := 4) hx hb d_Mo_faultOf_40 (by decide) ?_
      refine lv_iload hx hb d_Mo_faultOf_41 (lv_at hl 4 rfl) ?_
      refine lv_imul hx hb d_Mo_faultOf_43 ?_
      refine r_ci (v := 0) (by decide) ?_
      refine lv_iadd hx hb d_Mo_faultOf_44 ?_
      refine lv_iload_n hx hb d_Mo_faultOf_45 rfl (lv_at hl 3 rfl) ?_
      refine callVZp X S hl (c_Mo_barred (v1 + (0 : Int32)) v3 _) v_Mo_49 0 6 ⟨rfl, rfl⟩ (rk_dec (by decide)) rfl rfl (Nat.le_of_ble_eq_true rfl) d_Mo_faultOf_46 (fun H locs S => ?_)
      refine r_ifeqZ (tgt := 54) hx hb d_Mo_faultOf_49 rfl (fun h49 => ?_) (fun h49 => ?_)
      · have hq := hq.trans (if_neg h49)
        have hok := ok_neg h49 hok
        refine lv_iinc (k := 4) (v := (1 : Int32)) hx hb d_Mo_faultOf_54 hl rfl (by first | rfl | decide) (by decide) rfl (fun ls hl => ?_)
        refine lv_goto (tgt := 32) hx hb d_Mo_faultOf_57 rfl ?_
        exact B_Mo_faultOf_32_1 _ _ _ _ _ _ hok (lv_sub hl [1, 2, 3, 4, 0] rfl) S hq
      · have hq := hq.trans (if_pos h49)
        have hok := ok_pos h49 hok
        refine lv_iconst (v := 4) hx hb d_Mo_faultOf_52 (by decide) ?_
        exact ret _ _ _ _ _ S hq d_Mo_faultOf_53
  have B_Mo_faultOf_3_9 : ∀ (v1 : Int32) (v2 : Int32) (v3 : Int32) (H : Heap) (locs : List Loc) (ls : Array Slot), (o_Mo_faultOf_3_9 v1 v2 v3 σ) → lv_has ls 5 [(0, .ref (a 0)), (1, .int v1), (2, .int v2), (3, .int v3), (4, .int (9 : Int32))] → St D (wM cI cZ a) A s σ H locs → F = s_Mo_faultOf_3_9 v1 v2 v3 σ → W p l e ({ frames := 1, cells := 0, slots := 0, locals := 24 } : Room) s m args below meth c H locs 0 0 Q (F0 m 3 ls []) := by
    intro v1 v2 v3 H locs ls hok hl S hq
    refine lv_iload hx hb d_Mo_faultOf_3 (lv_at hl 4 rfl) ?_
    refine lv_iload_n hx hb d_Mo_faultOf_5 rfl (lv_at hl 2 rfl) ?_
    obtain ⟨g2, hok⟩ := hok
    refine lv_icmp_ge (tgt := 29) hx hb d_Mo_faultOf_6 rfl (fun _ => ?_) (fun h9 => absurd (g2) h9)
    refine lv_iconst (v := 0) hx hb d_Mo_faultOf_29 (by decide) ?_
    refine lv_istore hx hb d_Mo_faultOf_30 hl (by decide) rfl (fun ls hl => ?_)
    exact B_Mo_faultOf_32_0 _ _ _ _ _ _ hok (lv_sub hl [1, 2, 3, 4, 0] rfl) S hq
  have B_Mo_faultOf_3_8 : ∀ (v1 : Int32) (v2 : Int32) (v3 : Int32) (H : Heap) (locs : List Loc) (ls : Array Slot), (o_Mo_faultOf_3_8 v1 v2 v3 σ) → lv_has ls 5 [(0, .ref (a 0)), (1, .int v1), (2, .int v2), (3, .int v3), (4, .int (8 : Int32))] → St D (wM cI cZ a) A s σ H locs → F = s_Mo_faultOf_3_8 v1 v2 v3 σ → W p l e ({ frames := 1, cells := 0, slots := 0, locals := 24 } : Room) s m args below meth c H locs 0 0 Q (F0 m 3 ls []) := by
    intro v1 v2 v3 H locs ls hok hl S hq
    refine lv_iload hx hb d_Mo_faultOf_3 (lv_at hl 4 rfl) ?_
    refine lv_iload_n hx hb d_Mo_faultOf_5 rfl (lv_at hl 2 rfl) ?_
    refine lv_icmp_ge (tgt := 29) hx hb d_Mo_faultOf_6 rfl (fun h6 => ?_) (fun h6 => ?_)
    · have hq := hq.trans (if_pos h6)
      have hok := ok_pos h6 hok
      refine lv_iconst (v := 0) hx hb d_Mo_faultOf_29 (by decide) ?_
      refine lv_istore hx hb d_Mo_faultOf_30 hl (by decide) rfl (fun ls hl => ?_)
      exact B_Mo_faultOf_32_0 _ _ _ _ _ _ hok (lv_sub hl [1, 2, 3, 4, 0] rfl) S hq
    · have hq := hq.trans (if_neg h6)
      have hok := ok_neg h6 hok
      refine lv_iload_n hx hb d_Mo_faultOf_9 rfl (lv_at hl 1 rfl) ?_
      refine lv_iconst (v := 4) hx hb d_Mo_faultOf_10 (by decide) ?_
      refine lv_iload hx hb d_Mo_faultOf_11 (lv_at hl 4 rfl) ?_
      refine lv_imul hx hb d_Mo_faultOf_13 ?_
      refine r_ci (v := 32) (by decide) ?_
      refine lv_iadd hx hb d_Mo_faultOf_14 ?_
      refine callSZp X S hl (c_Mo_isWord (v1 + (32 : Int32)) _) v_Mo_45 (rk_dec (by decide)) rfl rfl (Nat.le_of_ble_eq_true rfl) d_Mo_faultOf_15 (fun H locs S => ?_)
      refine r_ifneZ (tgt := 23) hx hb d_Mo_faultOf_18 rfl (fun h18 => ?_) (fun h18 => ?_)
      · have hq := hq.trans (if_pos h18)
        have hok := ok_pos h18 hok
        refine lv_iinc (k := 4) (v := (9 : Int32)) hx hb d_Mo_faultOf_23 hl rfl (by first | rfl | decide) (by decide) rfl (fun ls hl => ?_)
        refine lv_goto (tgt := 3) hx hb d_Mo_faultOf_26 rfl ?_
        exact B_Mo_faultOf_3_9 _ _ _ _ _ _ hok (lv_sub hl [1, 2, 3, 4, 0] rfl) S hq
      · have hq := hq.trans (if_neg h18)
        have hok := ok_neg h18 hok
        refine lv_iconst (v := 5) hx hb d_Mo_faultOf_21 (by decide) ?_
        exact ret _ _ _ _ _ S hq d_Mo_faultOf_22
  have B_Mo_faultOf_3_7 : ∀ (v1 : Int32) (v2 : Int32) (v3 : Int32) (H : Heap) (locs : List Loc) (ls : Array Slot), (o_Mo_faultOf_3_7 v1 v2 v3 σ) → lv_has ls 5 [(0, .ref (a 0)), (1, .int v1), (2, .int v2), (3, .int v3), (4, .int (7 : Int32))] → St D (wM cI cZ a) A s σ H locs → F = s_Mo_faultOf_3_7 v1 v2 v3 σ → W p l e ({ frames := 1, cells := 0, slots := 0, locals := 24 } : Room) s m args below meth c H locs 0 0 Q (F0 m 3 ls []) := by
    intro v1 v2 v3 H locs ls hok hl S hq
    refine lv_iload hx hb d_Mo_faultOf_3 (lv_at hl 4 rfl) ?_
    refine lv_iload_n hx hb d_Mo_faultOf_5 rfl (lv_at hl 2 rfl) ?_
    refine lv_icmp_ge (tgt := 29) hx hb d_Mo_faultOf_6 rfl (fun h6 => ?_) (fun h6 => ?_)
    · have hq := hq.trans (if_pos h6)
      have hok := ok_pos h6 hok
      refine lv_iconst (v := 0) hx hb d_Mo_faultOf_29 (by decide) ?_
      refine lv_istore hx hb d_Mo_faultOf_30 hl (by decide) rfl (fun ls hl => ?_)
      exact B_Mo_faultOf_32_0 _ _ _ _ _ _ hok (lv_sub hl [1, 2, 3, 4, 0] rfl) S hq
    · have hq := hq.trans (if_neg h6)
      have hok := ok_neg h6 hok
      refine lv_iload_n hx hb d_Mo_faultOf_9 rfl (lv_at hl 1 rfl) ?_
      refine lv_iconst (v := 4) hx hb d_Mo_faultOf_10 (by decide) ?_
      refine lv_iload hx hb d_Mo_faultOf_11 (lv_at hl 4 rfl) ?_
      refine lv_imul hx hb d_Mo_faultOf_13 ?_
      refine r_ci (v := 28) (by decide) ?_
      refine lv_iadd hx hb d_Mo_faultOf_14 ?_
      refine callSZp X S hl (c_Mo_isWord (v1 + (28 : Int32)) _) v_Mo_45 (rk_dec (by decide)) rfl rfl (Nat.le_of_ble_eq_true rfl) d_Mo_faultOf_15 (fun H locs S => ?_)
      refine r_ifneZ (tgt := 23) hx hb d_Mo_faultOf_18 rfl (fun h18 => ?_) (fun h18 => ?_)
      · have hq := hq.trans (if_pos h18)
        have hok := ok_pos h18 hok
        refine lv_iinc (k := 4) (v := (8 : Int32)) hx hb d_Mo_faultOf_23 hl rfl (by first | rfl | decide) (by decide) rfl (fun ls hl => ?_)
        refine lv_goto (tgt := 3) hx hb d_Mo_faultOf_26 rfl ?_
        exact B_Mo_faultOf_3_8 _ _ _ _ _ _ hok (lv_sub hl [1, 2, 3, 4, 0] rfl) S hq
      · have hq := hq.trans (if_neg h18)
        have hok := ok_neg h18 hok
        refine lv_iconst (v := 5) hx hb d_Mo_faultOf_21 (by decide) ?_
        exact ret _ _ _ _ _ S hq d_Mo_faultOf_22
  have B_Mo_faultOf_3_6 : ∀ (v1 : Int32) (v2 : Int32) (v3 : Int32) (H : Heap) (locs : List Loc) (ls : Array Slot), (o_Mo_faultOf_3_6 v1 v2 v3 σ) → lv_has ls 5 [(0, .ref (a 0)), (1, .int v1), (2, .int v2), (3, .int v3), (4, .int (6 : Int32))] → St D (wM cI cZ a) A s σ H locs → F = s_Mo_faultOf_3_6 v1 v2 v3 σ → W p l e ({ frames := 1, cells := 0, slots := 0, locals := 24 } : Room) s m args below meth c H locs 0 0 Q (F0 m 3 ls []) := by
    intro v1 v2 v3 H locs ls hok hl S hq
    refine lv_iload hx hb d_Mo_faultOf_3 (lv_at hl 4 rfl) ?_
    refine lv_iload_n hx hb d_Mo_faultOf_5 rfl (lv_at hl 2 rfl) ?_
    refine lv_icmp_ge (tgt := 29) hx hb d_Mo_faultOf_6 rfl (fun h6 => ?_) (fun h6 => ?_)
    · have hq := hq.trans (if_pos h6)
      have hok := ok_pos h6 hok
      refine lv_iconst (v := 0) hx hb d_Mo_faultOf_29 (by decide) ?_
      refine lv_istore hx hb d_Mo_faultOf_30 hl (by decide) rfl (fun ls hl => ?_)
      exact B_Mo_faultOf_32_0 _ _ _ _ _ _ hok (lv_sub hl [1, 2, 3, 4, 0] rfl) S hq
    · have hq := hq.trans (if_neg h6)
      have hok := ok_neg h6 hok
      refine lv_iload_n hx hb d_Mo_faultOf_9 rfl (lv_at hl 1 rfl) ?_
      refine lv_iconst (v := 4) hx hb d_Mo_faultOf_10 (by decide) ?_
      refine lv_iload hx hb d_Mo_faultOf_11 (lv_at hl 4 rfl) ?_
      refine lv_imul hx hb d_Mo_faultOf_13 ?_
      refine r_ci (v := 24) (by decide) ?_
      refine lv_iadd hx hb d_Mo_faultOf_14 ?_
      refine callSZp X S hl (c_Mo_isWord (v1 + (24 : Int32)) _) v_Mo_45 (rk_dec (by decide)) rfl rfl (Nat.le_of_ble_eq_true rfl) d_Mo_faultOf_15 (fun H locs S => ?_)
      refine r_ifneZ (tgt := 23) hx hb d_Mo_faultOf_18 rfl (fun h18 => ?_) (fun h18 => ?_)
      · have hq := hq.trans (if_pos h18)
        have hok := ok_pos h18 hok
        refine lv_iinc (k := 4) (v := (7 : Int32)) hx hb d_Mo_faultOf_23 hl rfl (by first | rfl | decide) (by decide) rfl (fun ls hl => ?_)
        refine lv_goto (tgt := 3) hx hb d_Mo_faultOf_26 rfl ?_
        exact B_Mo_faultOf_3_7 _ _ _ _ _ _ hok (lv_sub hl [1, 2, 3, 4, 0] rfl) S hq
      · have hq := hq.trans (if_neg h18)
        have hok := ok_neg h18 hok
        refine lv_iconst (v := 5) hx hb d_Mo_faultOf_21 (by decide) ?_
        exact ret _ _ _ _ _ S hq d_Mo_faultOf_22
  have B_Mo_faultOf_3_5 : ∀ (v1 : Int32) (v2 : Int32) (v3 : Int32) (H : Heap) (locs : List Loc) (ls : Array Slot), (o_Mo_faultOf_3_5 v1 v2 v3 σ) → lv_has ls 5 [(0, .ref (a 0)), (1, .int v1), (2, .int v2), (3, .int v3), (4, .int (5 : Int32))] → St D (wM cI cZ a) A s σ H locs → F = s_Mo_faultOf_3_5 v1 v2 v3 σ → W p l e ({ frames := 1, cells := 0, slots := 0, locals := 24 } : Room) s m args below meth c H locs 0 0 Q (F0 m 3 ls []) := by
    intro v1 v2 v3 H locs ls hok hl S hq
    refine lv_iload hx hb d_Mo_faultOf_3 (lv_at hl 4 rfl) ?_
    refine lv_iload_n hx hb d_Mo_faultOf_5 rfl (lv_at hl 2 rfl) ?_
    refine lv_icmp_ge (tgt := 29) hx hb d_Mo_faultOf_6 rfl (fun h6 => ?_) (fun h6 => ?_)
    · have hq := hq.trans (if_pos h6)
      have hok := ok_pos h6 hok
      refine lv_iconst (v := 0) hx hb d_Mo_faultOf_29 (by decide) ?_
      refine lv_istore hx hb d_Mo_faultOf_30 hl (by decide) rfl (fun ls hl => ?_)
      exact B_Mo_faultOf_32_0 _ _ _ _ _ _ hok (lv_sub hl [1, 2, 3, 4, 0] rfl) S hq
    · have hq := hq.trans (if_neg h6)
      have hok := ok_neg h6 hok
      refine lv_iload_n hx hb d_Mo_faultOf_9 rfl (lv_at hl 1 rfl) ?_
      refine lv_iconst (v := 4) hx hb d_Mo_faultOf_10 (by decide) ?_
      refine lv_iload hx hb d_Mo_faultOf_11 (lv_at hl 4 rfl) ?_
      refine lv_imul hx hb d_Mo_faultOf_13 ?_
      refine r_ci (v := 20) (by decide) ?_
      refine lv_iadd hx hb d_Mo_faultOf_14 ?_
      refine callSZp X S hl (c_Mo_isWord (v1 + (20 : Int32)) _) v_Mo_45 (rk_dec (by decide)) rfl rfl (Nat.le_of_ble_eq_true rfl) d_Mo_faultOf_15 (fun H locs S => ?_)
      refine r_ifneZ (tgt := 23) hx hb d_Mo_faultOf_18 rfl (fun h18 => ?_) (fun h18 => ?_)
      · have hq := hq.trans (if_pos h18)
        have hok := ok_pos h18 hok
        refine lv_iinc (k := 4) (v := (6 : Int32)) hx hb d_Mo_faultOf_23 hl rfl (by first | rfl | decide) (by decide) rfl (fun ls hl => ?_)
        refine lv_goto (tgt := 3) hx hb d_Mo_faultOf_26 rfl ?_
        exact B_Mo_faultOf_3_6 _ _ _ _ _ _ hok (lv_sub hl [1, 2, 3, 4, 0] rfl) S hq
      · have hq := hq.trans (if_neg h18)
        have hok := ok_neg h18 hok
        refine lv_iconst (v := 5) hx hb d_Mo_faultOf_21 (by decide) ?_
        exact ret _ _ _ _ _ S hq d_Mo_faultOf_22
  have B_Mo_faultOf_3_4 : ∀ (v1 : Int32) (v2 : Int32) (v3 : Int32) (H : Heap) (locs : List Loc) (ls : Array Slot), (o_Mo_faultOf_3_4 v1 v2 v3 σ) → lv_has ls 5 [(0, .ref (a 0)), (1, .int v1), (2, .int v2), (3, .int v3), (4, .int (4 : Int32))] → St D (wM cI cZ a) A s σ H locs → F = s_Mo_faultOf_3_4 v1 v2 v3 σ → W p l e ({ frames := 1, cells := 0, slots := 0, locals := 24 } : Room) s m args below meth c H locs 0 0 Q (F0 m 3 ls []) := by
    intro v1 v2 v3 H locs ls hok hl S hq
    refine lv_iload hx hb d_Mo_faultOf_3 (lv_at hl 4 rfl) ?_
    refine lv_iload_n hx hb d_Mo_faultOf_5 rfl (lv_at hl 2 rfl) ?_
    refine lv_icmp_ge (tgt := 29) hx hb d_Mo_faultOf_6 rfl (fun h6 => ?_) (fun h6 => ?_)
    · have hq := hq.trans (if_pos h6)
      have hok := ok_pos h6 hok
      refine lv_iconst (v := 0) hx hb d_Mo_faultOf_29 (by decide) ?_
      refine lv_istore hx hb d_Mo_faultOf_30 hl (by decide) rfl (fun ls hl => ?_)
      exact B_Mo_faultOf_32_0 _ _ _ _ _ _ hok (lv_sub hl [1, 2, 3, 4, 0] rfl) S hq
    · have hq := hq.trans (if_neg h6)
      have hok := ok_neg h6 hok
      refine lv_iload_n hx hb d_Mo_faultOf_9 rfl (lv_at hl 1 rfl) ?_
      refine lv_iconst (v := 4) hx hb d_Mo_faultOf_10 (by decide) ?_
      refine lv_iload hx hb d_Mo_faultOf_11 (lv_at hl 4 rfl) ?_
      refine lv_imul hx hb d_Mo_faultOf_13 ?_
      refine r_ci (v := 16) (by decide) ?_
      refine lv_iadd hx hb d_Mo_faultOf_14 ?_
      refine callSZp X S hl (c_Mo_isWord (v1 + (16 : Int32)) _) v_Mo_45 (rk_dec (by decide)) rfl rfl (Nat.le_of_ble_eq_true rfl) d_Mo_faultOf_15 (fun H locs S => ?_)
      refine r_ifneZ (tgt := 23) hx hb d_Mo_faultOf_18 rfl (fun h18 => ?_) (fun h18 => ?_)
      · have hq := hq.trans (if_pos h18)
        have hok := ok_pos h18 hok
        refine lv_iinc (k := 4) (v := (5 : Int32)) hx hb d_Mo_faultOf_23 hl rfl (by first | rfl | decide) (by decide) rfl (fun ls hl => ?_)
        refine lv_goto (tgt := 3) hx hb d_Mo_faultOf_26 rfl ?_
        exact B_Mo_faultOf_3_5 _ _ _ _ _ _ hok (lv_sub hl [1, 2, 3, 4, 0] rfl) S hq
      · have hq := hq.trans (if_neg h18)
        have hok := ok_neg h18 hok
        refine lv_iconst (v := 5) hx hb d_Mo_faultOf_21 (by decide) ?_
        exact ret _ _ _ _ _ S hq d_Mo_faultOf_22
  have B_Mo_faultOf_3_3 : ∀ (v1 : Int32) (v2 : Int32) (v3 : Int32) (H : Heap) (locs : List Loc) (ls : Array Slot), (o_Mo_faultOf_3_3 v1 v2 v3 σ) → lv_has ls 5 [(0, .ref (a 0)), (1, .int v1), (2, .int v2), (3, .int v3), (4, .int (3 : Int32))] → St D (wM cI cZ a) A s σ H locs → F = s_Mo_faultOf_3_3 v1 v2 v3 σ → W p l e ({ frames := 1, cells := 0, slots := 0, locals := 24 } : Room) s m args below meth c H locs 0 0 Q (F0 m 3 ls []) := by
    intro v1 v2 v3 H locs ls hok hl S hq
    refine lv_iload hx hb d_Mo_faultOf_3 (lv_at hl 4 rfl) ?_
    refine lv_iload_n hx hb d_Mo_faultOf_5 rfl (lv_at hl 2 rfl) ?_
    refine lv_icmp_ge (tgt := 29) hx hb d_Mo_faultOf_6 rfl (fun h6 => ?_) (fun h6 => ?_)
    · have hq := hq.trans (if_pos h6)
      have hok := ok_pos h6 hok
      refine lv_iconst (v := 0) hx hb d_Mo_faultOf_29 (by decide) ?_
      refine lv_istore hx hb d_Mo_faultOf_30 hl (by decide) rfl (fun ls hl => ?_)
      exact B_Mo_faultOf_32_0 _ _ _ _ _ _ hok (lv_sub hl [1, 2, 3, 4, 0] rfl) S hq
    · have hq := hq.trans (if_neg h6)
      have hok := ok_neg h6 hok
      refine lv_iload_n hx hb d_Mo_faultOf_9 rfl (lv_at hl 1 rfl) ?_
      refine lv_iconst (v := 4) hx hb d_Mo_faultOf_10 (by decide) ?_
      refine lv_iload hx hb d_Mo_faultOf_11 (lv_at hl 4 rfl) ?_
      refine lv_imul hx hb d_Mo_faultOf_13 ?_
      refine r_ci (v := 12) (by decide) ?_
      refine lv_iadd hx hb d_Mo_faultOf_14 ?_
      refine callSZp X S hl (c_Mo_isWord (v1 + (12 : Int32)) _) v_Mo_45 (rk_dec (by decide)) rfl rfl (Nat.le_of_ble_eq_true rfl) d_Mo_faultOf_15 (fun H locs S => ?_)
      refine r_ifneZ (tgt := 23) hx hb d_Mo_faultOf_18 rfl (fun h18 => ?_) (fun h18 => ?_)
      · have hq := hq.trans (if_pos h18)
        have hok := ok_pos h18 hok
        refine lv_iinc (k := 4) (v := (4 : Int32)) hx hb d_Mo_faultOf_23 hl rfl (by first | rfl | decide) (by decide) rfl (fun ls hl => ?_)
        refine lv_goto (tgt := 3) hx hb d_Mo_faultOf_26 rfl ?_
        exact B_Mo_faultOf_3_4 _ _ _ _ _ _ hok (lv_sub hl [1, 2, 3, 4, 0] rfl) S hq
      · have hq := hq.trans (if_neg h18)
        have hok := ok_neg h18 hok
        refine lv_iconst (v := 5) hx hb d_Mo_faultOf_21 (by decide) ?_
        exact ret _ _ _ _ _ S hq d_Mo_faultOf_22
  have B_Mo_faultOf_3_2 : ∀ (v1 : Int32) (v2 : Int32) (v3 : Int32) (H : Heap) (locs : List Loc) (ls : Array Slot), (o_Mo_faultOf_3_2 v1 v2 v3 σ) → lv_has ls 5 [(0, .ref (a 0)), (1, .int v1), (2, .int v2), (3, .int v3), (4, .int (2 : Int32))] → St D (wM cI cZ a) A s σ H locs → F = s_Mo_faultOf_3_2 v1 v2 v3 σ → W p l e ({ frames := 1, cells := 0, slots := 0, locals := 24 } : Room) s m args below meth c H locs 0 0 Q (F0 m 3 ls []) := by
    intro v1 v2 v3 H locs ls hok hl S hq
    refine lv_iload hx hb d_Mo_faultOf_3 (lv_at hl 4 rfl) ?_
    refine lv_iload_n hx hb d_Mo_faultOf_5 rfl (lv_at hl 2 rfl) ?_
    refine lv_icmp_ge (tgt := 29) hx hb d_Mo_faultOf_6 rfl (fun h6 => ?_) (fun h6 => ?_)
    · have hq := hq.trans (if_pos h6)
      have hok := ok_pos h6 hok
      refine lv_iconst (v := 0) hx hb d_Mo_faultOf_29 (by decide) ?_
      refine lv_istore hx hb d_Mo_faultOf_30 hl (by decide) rfl (fun ls hl => ?_)
      exact B_Mo_faultOf_32_0 _ _ _ _ _ _ hok (lv_sub hl [1, 2, 3, 4, 0] rfl) S hq
    · have hq := hq.trans (if_neg h6)
      have hok := ok_neg h6 hok
      refine lv_iload_n hx hb d_Mo_faultOf_9 rfl (lv_at hl 1 rfl) ?_
      refine lv_iconst (v := 4) hx hb d_Mo_faultOf_10 (by decide) ?_
      refine lv_iload hx hb d_Mo_faultOf_11 (lv_at hl 4 rfl) ?_
      refine lv_imul hx hb d_Mo_faultOf_13 ?_
      refine r_ci (v := 8) (by decide) ?_
      refine lv_iadd hx hb d_Mo_faultOf_14 ?_
      refine callSZp X S hl (c_Mo_isWord (v1 + (8 : Int32)) _) v_Mo_45 (rk_dec (by decide)) rfl rfl (Nat.le_of_ble_eq_true rfl) d_Mo_faultOf_15 (fun H locs S => ?_)
      refine r_ifneZ (tgt := 23) hx hb d_Mo_faultOf_18 rfl (fun h18 => ?_) (fun h18 => ?_)
      · have hq := hq.trans (if_pos h18)
        have hok := ok_pos h18 hok
        refine lv_iinc (k := 4) (v := (3 : Int32)) hx hb d_Mo_faultOf_23 hl rfl (by first | rfl | decide) (by decide) rfl (fun ls hl => ?_)
        refine lv_goto (tgt := 3) hx hb d_Mo_faultOf_26 rfl ?_
        exact B_Mo_faultOf_3_3 _ _ _ _ _ _ hok (lv_sub hl [1, 2, 3, 4, 0] rfl) S hq
      · have hq := hq.trans (if_neg h18)
        have hok := ok_neg h18 hok
        refine lv_iconst (v := 5) hx hb d_Mo_faultOf_21 (by decide) ?_
        exact ret _ _ _ _ _ S hq d_Mo_faultOf_22
  have B_Mo_faultOf_3_1 : ∀ (v1 : Int32) (v2 : Int32) (v3 : Int32) (H : Heap) (locs : List Loc) (ls : Array Slot), (o_Mo_faultOf_3_1 v1 v2 v3 σ) → lv_has ls 5 [(0, .ref (a 0)), (1, .int v1), (2, .int v2), (3, .int v3), (4, .int (1 : Int32))] → St D (wM cI cZ a) A s σ H locs → F = s_Mo_faultOf_3_1 v1 v2 v3 σ → W p l e ({ frames := 1, cells := 0, slots := 0, locals := 24 } : Room) s m args below meth c H locs 0 0 Q (F0 m 3 ls []) := by
    intro v1 v2 v3 H locs ls hok hl S hq
    refine lv_iload hx hb d_Mo_faultOf_3 (lv_at hl 4 rfl) ?_
    refine lv_iload_n hx hb d_Mo_faultOf_5 rfl (lv_at hl 2 rfl) ?_
    refine lv_icmp_ge (tgt := 29) hx hb d_Mo_faultOf_6 rfl (fun h6 => ?_) (fun h6 => ?_)
    · have hq := hq.trans (if_pos h6)
      have hok := ok_pos h6 hok
      refine lv_iconst (v := 0) hx hb d_Mo_faultOf_29 (by decide) ?_
      refine lv_istore hx hb d_Mo_faultOf_30 hl (by decide) rfl (fun ls hl => ?_)
      exact B_Mo_faultOf_32_0 _ _ _ _ _ _ hok (lv_sub hl [1, 2, 3, 4, 0] rfl) S hq
    · have hq := hq.trans (if_neg h6)
      have hok := ok_neg h6 hok
      refine lv_iload_n hx hb d_Mo_faultOf_9 rfl (lv_at hl 1 rfl) ?_
      refine lv_iconst (v := 4) hx hb d_Mo_faultOf_10 (by decide) ?_
      refine lv_iload hx hb d_Mo_faultOf_11 (lv_at hl 4 rfl) ?_
      refine lv_imul hx hb d_Mo_faultOf_13 ?_
      refine r_ci (v := 4) (by decide) ?_
      refine lv_iadd hx hb d_Mo_faultOf_14 ?_
      refine callSZp X S hl (c_Mo_isWord (v1 + (4 : Int32)) _) v_Mo_45 (rk_dec (by decide)) rfl rfl (Nat.le_of_ble_eq_true rfl) d_Mo_faultOf_15 (fun H locs S => ?_)
      refine r_ifneZ (tgt := 23) hx hb d_Mo_faultOf_18 rfl (fun h18 => ?_) (fun h18 => ?_)
      · have hq := hq.trans (if_pos h18)
        have hok := ok_pos h18 hok
        refine lv_iinc (k := 4) (v := (2 : Int32)) hx hb d_Mo_faultOf_23 hl rfl (by first | rfl | decide) (by decide) rfl (fun ls hl => ?_)
        refine lv_goto (tgt := 3) hx hb d_Mo_faultOf_26 rfl ?_
        exact B_Mo_faultOf_3_2 _ _ _ _ _ _ hok (lv_sub hl [1, 2, 3, 4, 0] rfl) S hq
      · have hq := hq.trans (if_neg h18)
        have hok := ok_neg h18 hok
        refine lv_iconst (v := 5) hx hb d_Mo_faultOf_21 (by decide) ?_
        exact ret _ _ _ _ _ S hq d_Mo_faultOf_22
  have B_Mo_faultOf_3_0 : ∀ (v1 : Int32) (v2 : Int32) (v3 : Int32) (H : Heap) (locs : List Loc) (ls : Array Slot), (o_Mo_faultOf_3_0 v1 v2 v3 σ) → lv_has ls 5 [(0, .ref (a 0)), (1, .int v1), (2, .int v2), (3, .int v3), (4, .int (0 : Int32))] → St D (wM cI cZ a) A s σ H locs → F = s_Mo_faultOf_3_0 v1 v2 v3 σ → W p l e ({ frames := 1, cells := 0, slots := 0, locals := 24 } : Room) s m args below meth c H locs 0 0 Q (F0 m 3 ls []) := by
    intro v1 v2 v3 H locs ls hok hl S hq
    refine lv_iload hx hb d_Mo_faultOf_3 (lv_at hl 4 rfl) ?_
    refine lv_iload_n hx hb d_Mo_faultOf_5 rfl (lv_at hl 2 rfl) ?_
    refine lv_icmp_ge (tgt := 29) hx hb d_Mo_faultOf_6 rfl (fun h6 => ?_) (fun h6 => ?_)
    · have hq := hq.trans (if_pos h6)
      have hok := ok_pos h6 hok
      refine lv_iconst (v := 0) hx hb d_Mo_faultOf_29 (by decide) ?_
      refine lv_istore hx hb d_Mo_faultOf_30 hl (by decide) rfl (fun ls hl => ?_)
      exact B_Mo_faultOf_32_0 _ _ _ _ _ _ hok (lv_sub hl [1, 2, 3, 4, 0] rfl) S hq
    · have hq := hq.trans (if_neg h6)
      have hok := ok_neg h6 hok
      refine lv_iload_n hx hb d_Mo_faultOf_9 rfl (lv_at hl 1 rfl) ?_
      refine lv_iconst (v := 4) hx hb d_Mo_faultOf_10 (by decide) ?_
      refine lv_iload hx hb d_Mo_faultOf_11 (lv_at hl 4 rfl) ?_
      refine lv_imul hx hb d_Mo_faultOf_13 ?_
      refine r_ci (v := 0) (by decide) ?_
      refine lv_iadd hx hb d_Mo_faultOf_14 ?_
      refine callSZp X S hl (c_Mo_isWord (v1 + (0 : Int32)) _) v_Mo_45 (rk_dec (by decide)) rfl rfl (Nat.le_of_ble_eq_true rfl) d_Mo_faultOf_15 (fun H locs S => ?_)
      refine r_ifneZ (tgt := 23) hx hb d_Mo_faultOf_18 rfl (fun h18 => ?_) (fun h18 => ?_)
      · have hq := hq.trans (if_pos h18)
        have hok := ok_pos h18 hok
        refine lv_iinc (k := 4) (v := (1 : Int32)) hx hb d_Mo_faultOf_23 hl rfl (by first | rfl | decide) (by decide) rfl (fun ls hl => ?_)
        refine lv_goto (tgt := 3) hx hb d_Mo_faultOf_26 rfl ?_
        exact B_Mo_faultOf_3_1 _ _ _ _ _ _ hok (lv_sub hl [1, 2, 3, 4, 0] rfl) S hq
      · have hq := hq.trans (if_neg h18)
        have hok := ok_neg h18 hok
        refine lv_iconst (v := 5) hx hb d_Mo_faultOf_21 (by decide) ?_
        exact ret _ _ _ _ _ S hq d_Mo_faultOf_22
  refine lv_iconst (v := 0) hx hb d_Mo_faultOf_0 (by decide) ?_
  refine lv_istore hx hb d_Mo_faultOf_1 hl (by decide) rfl (fun ls hl => ?_)
  exact B_Mo_faultOf_3_0 _ _ _ _ _ _ hok (lv_sub hl [1, 2, 3, 4, 0] rfl) S hq
set_option maxHeartbeats 4000000 in
set_option maxRecDepth 100000 in
theorem c_Mo_group (v1 : Int32) (σ : nS) : CtI l D cI cZ (wM cI cZ a) exM y_Mo_group b_Mo_group 2 { frames := 0, cells := 0, slots := 0, locals := 0 } [.ref (a 0), .int v1] σ (s_Mo_group v1 σ, σ) := by
  generalize hF : s_Mo_group v1 σ = F
  refine metIp exM_ok (by decide) (Nat.le_of_ble_eq_true rfl) (fun p e s m args below meth c A Q ls X S hl ret => ?_)
  have hq := hF.symm
  obtain ⟨hx, hb, hml, hown, hts, hK, hA, hE, hlk, hEo⟩ := id X
  have hl : lv_has ls 2 [(0, .ref (a 0)), (1, .int v1)] := hl
  refine lv_iload_n hx hb d_Mo_group_0 rfl (lv_at hl 1 rfl) ?_
  refine lv_if_ge (tgt := 8) hx hb d_Mo_group_1 rfl (fun h1 => ?_) (fun h1 => ?_)
  · have hq := hq.trans (if_pos h1)
    refine lv_iload_n hx hb d_Mo_group_8 rfl (lv_at hl 1 rfl) ?_
    refine lv_aload_n hx hb d_Mo_group_9 rfl (lv_at hl 0 rfl) ?_
    refine g_Mo_53 hx hb hts hown hK S.1 d_Mo_group_10 ?_
    refine lv_ishr hx hb d_Mo_group_13 ?_
    exact ret _ _ _ _ _ S hq d_Mo_group_14
  · have hq := hq.trans (if_neg h1)
    refine lv_iload_n hx hb d_Mo_group_4 rfl (lv_at hl 1 rfl) ?_
    refine lv_goto (tgt := 14) hx hb d_Mo_group_5 rfl ?_
    exact ret _ _ _ _ _ S hq d_Mo_group_14
set_option maxHeartbeats 4000000 in
set_option maxRecDepth 100000 in
theorem c_Mo_level (σ : nS) : CtI l D cI cZ (wM cI cZ a) exM y_Mo_level b_Mo_level 3 { frames := 1, cells := 0, slots := 0, locals := 21 } [.ref (a 0)] σ (s_Mo_level σ, σ) := by
  generalize hF : s_Mo_level σ = F
  refine metIp exM_ok (by decide) (Nat.le_of_ble_eq_true rfl) (fun p e s m args below meth c A Q ls X S hl ret => ?_)
  have hq := hF.symm
  obtain ⟨hx, hb, hml, hown, hts, hK, hA, hE, hlk, hEo⟩ := id X
  have hl : lv_has ls 3 [(0, .ref (a 0))] := hl
  have B_Mo_level_108 : ∀ (v1 : Int32) (H : Heap) (locs : List Loc) (ls : Array Slot), lv_has ls 3 [(1, .int v1)] → St D (wM cI cZ a) A s σ H locs → F = s_Mo_level_108 v1 σ → W p l e ({ frames := 1, cells := 0, slots := 0, locals := 21 } : Room) s m args below meth c H locs 0 0 Q (F0 m 108 ls []) := by
    intro v1 H locs ls hl S hq
    refine lv_iload_n hx hb d_Mo_level_108 rfl (lv_at hl 0 rfl) ?_
    exact ret _ _ _ _ _ S hq d_Mo_level_109
  have B_Mo_level_92 : ∀ (v1 : Int32) (H : Heap) (locs : List Loc) (ls : Array Slot), lv_has ls 3 [(0, .ref (a 0)), (1, .int v1)] → St D (wM cI cZ a) A s σ H locs → F = s_Mo_level_92 v1 σ → W p l e ({ frames := 1, cells := 0, slots := 0, locals := 21 } : Room) s m args below meth c H locs 0 0 Q (F0 m 92 ls []) := by
    intro v1 H locs ls hl S hq
    refine lv_aload_n hx hb d_Mo_level_92 rfl (lv_at hl 0 rfl) ?_
    refine g_Mo_67 hx hb hts hown hK S.1 d_Mo_level_93 ?_
    refine lv_if_eq (tgt := 108) hx hb d_Mo_level_96 rfl (fun h96 => ?_) (fun h96 => ?_)
    · have hq := hq.trans (if_pos h96)
      exact B_Mo_level_108 _ _ _ _ (lv_sub hl [1] rfl) S hq
    · have hq := hq.trans (if_neg h96)
      refine lv_iload_n hx hb d_Mo_level_99 rfl (lv_at hl 1 rfl) ?_
      refine lv_iconst (v := -1) hx hb d_Mo_level_100 (by decide) ?_
      refine lv_icmp_le (tgt := 108) hx hb d_Mo_level_101 rfl (fun h101 => ?_) (fun h101 => ?_)
      · have hq := hq.trans (if_pos h101)
        exact B_Mo_level_108 _ _ _ _ (lv_sub hl [1] rfl) S hq
      · have hq := hq.trans (if_neg h101)
        refine lv_iconst (v := -1) hx hb d_Mo_level_104 (by decide) ?_
        refine lv_goto (tgt := 109) hx hb d_Mo_level_105 rfl ?_
        exact ret _ _ _ _ _ S hq d_Mo_level_109
  have B_Mo_level_79 : ∀ (v1 : Int32) (H : Heap) (locs : List Loc) (ls : Array Slot), lv_has ls 3 [(0, .ref (a 0)), (1, .int v1)] → St D (wM cI cZ a) A s σ H locs → F = s_Mo_level_79 v1 σ → W p l e ({ frames := 1, cells := 0, slots := 0, locals := 21 } : Room) s m args below meth c H locs 0 0 Q (F0 m 79 ls []) := by
    intro v1 H locs ls hl S hq
    refine lv_aload_n hx hb d_Mo_level_79 rfl (lv_at hl 0 rfl) ?_
    refine g_Mo_63 hx hb hts hown hK S.1 d_Mo_level_80 ?_
    refine lv_if_eq (tgt := 92) hx hb d_Mo_level_83 rfl (fun h83 => ?_) (fun h83 => ?_)
    · have hq := hq.trans (if_pos h83)
      exact B_Mo_level_92 _ _ _ _ (lv_sub hl [0, 1] rfl) S hq
    · have hq := hq.trans (if_neg h83)
      refine lv_iload_n hx hb d_Mo_level_86 rfl (lv_at hl 1 rfl) ?_
      refine lv_if_le (tgt := 92) hx hb d_Mo_level_87 rfl (fun h87 => ?_) (fun h87 => ?_)
      · have hq := hq.trans (if_pos h87)
        exact B_Mo_level_92 _ _ _ _ (lv_sub hl [0, 1] rfl) S hq
      · have hq := hq.trans (if_neg h87)
        refine lv_iconst (v := 0) hx hb d_Mo_level_90 (by decide) ?_
        refine lv_istore_n hx hb d_Mo_level_91 rfl hl (by decide) rfl (fun ls hl => ?_)
        exact B_Mo_level_92 _ _ _ _ (lv_sub hl [1, 0] rfl) S hq
  have B_Mo_level_5_16 : ∀ (v1 : Int32) (H : Heap) (locs : List Loc) (ls : Array Slot), lv_has ls 3 [(0, .ref (a 0)), (1, .int v1), (2, .int (16 : Int32))] → St D (wM cI cZ a) A s σ H locs → F = s_Mo_level_5_16 v1 σ → W p l e ({ frames := 1, cells := 0, slots := 0, locals := 21 } : Room) s m args below meth c H locs 0 0 Q (F0 m 5 ls []) := by
    intro v1 H locs ls hl S hq
    refine lv_iload_n hx hb d_Mo_level_5 rfl (lv_at hl 2 rfl) ?_
    refine lv_bipush (v := 16) hx hb d_Mo_level_6 (by decide) ?_
    refine lv_icmp_ge (tgt := 51) hx hb d_Mo_level_8 rfl (fun _ => ?_) (fun h9 => absurd (by decide) h9)
    refine lv_aload_n hx hb d_Mo_level_51 rfl (lv_at hl 0 rfl) ?_
    refine g_Mo_60 hx hb hts hown hK S.1 d_Mo_level_52 ?_
    refine lv_if_eq (tgt := 79) hx hb d_Mo_level_55 rfl (fun h55 => ?_) (fun h55 => ?_)
    · have hq := hq.trans (if_pos h55)
      exact B_Mo_level_79 _ _ _ _ (lv_sub hl [0, 1] rfl) S hq
    · have hq := hq.trans (if_neg h55)
      refine lv_aload_n hx hb d_Mo_level_58 rfl (lv_at hl 0 rfl) ?_
      refine lv_aload_n hx hb d_Mo_level_59 rfl (lv_at hl 0 rfl) ?_
      refine g_Mo_60 hx hb hts hown hK S.1 d_Mo_level_60 ?_
      refine callVIp X S hl (c_Mo_group (σ 8 1) _) v_Mo_56 0 6 ⟨rfl, rfl⟩ (rk_dec (by decide)) rfl rfl (Nat.le_of_ble_eq_true rfl) d_Mo_level_63 (fun H locs S => ?_)
      refine lv_iload_n hx hb d_Mo_level_66 rfl (lv_at hl 1 rfl) ?_
      refine lv_icmp_ge (tgt := 79) hx hb d_Mo_level_67 rfl (fun h67 => ?_) (fun h67 => ?_)
      · have hq := hq.trans (if_pos h67)
        exact B_Mo_level_79 _ _ _ _ (lv_sub hl [0, 1] rfl) S hq
      · have hq := hq.trans (if_neg h67)
        refine lv_aload_n hx hb d_Mo_level_70 rfl (lv_at hl 0 rfl) ?_
        refine lv_aload_n hx hb d_Mo_level_71 rfl (lv_at hl 0 rfl) ?_
        refine g_Mo_60 hx hb hts hown hK S.1 d_Mo_level_72 ?_
        refine callVIp X S hl (c_Mo_group (σ 8 1) _) v_Mo_56 0 6 ⟨rfl, rfl⟩ (rk_dec (by decide)) rfl rfl (Nat.le_of_ble_eq_true rfl) d_Mo_level_75 (fun H locs S => ?_)
        refine lv_istore_n hx hb d_Mo_level_78 rfl hl (by decide) rfl (fun ls hl => ?_)
        exact B_Mo_level_79 _ _ _ _ (lv_sub hl [1, 0] rfl) S hq
  have B_Mo_level_45_15 : ∀ (v1 : Int32) (H : Heap) (locs : List Loc) (ls : Array Slot), lv_has ls 3 [(0, .ref (a 0)), (1, .int v1), (2, .int (15 : Int32))] → St D (wM cI cZ a) A s σ H locs → F = s_Mo_level_45_15 v1 σ → W p l e ({ frames := 1, cells := 0, slots := 0, locals := 21 } : Room) s m args below meth c H locs 0 0 Q (F0 m 45 ls []) := by
    intro v1 H locs ls hl S hq
    refine lv_iinc (k := 2) (v := (16 : Int32)) hx hb d_Mo_level_45 hl rfl (by first | rfl | decide) (by decide) rfl (fun ls hl => ?_)
    refine lv_goto (tgt := 5) hx hb d_Mo_level_48 rfl ?_
    exact B_Mo_level_5_16 _ _ _ _ (lv_sub hl [1, 2, 0] rfl) S hq
  have B_Mo_level_5_15 : ∀ (v1 : Int32) (H : Heap) (locs : List Loc) (ls : Array Slot), lv_has ls 3 [(0, .ref (a 0)), (1, .int v1), (2, .int (15 : Int32))] → St D (wM cI cZ a) A s σ H locs → F = s_Mo_level_5_15 v1 σ → W p l e ({ frames := 1, cells := 0, slots := 0, locals := 21 } : Room) s m args below meth c H locs 0 0 Q (F0 m 5 ls []) := by
    intro v1 H locs ls hl S hq
    refine lv_iload_n hx hb d_Mo_level_5 rfl (lv_at hl 2 rfl) ?_
    refine lv_bipush (v := 16) hx hb d_Mo_level_6 (by decide) ?_
    refine lv_icmp_ge (tgt := 51) hx hb d_Mo_level_8 rfl (fun h9 => absurd h9 (by decide)) (fun _ => ?_)
    refine lv_aload_n hx hb d_Mo_level_11 rfl (lv_at hl 0 rfl) ?_
    refine g_Mo_26 hx hb hts hown hK S.1 d_Mo_level_12 ?_
    refine lv_iload_n hx hb d_Mo_level_15 rfl (lv_at hl 2 rfl) ?_
    refine ld_M_6 (k := 15) hx hb hK S.1 (vin_dec (by decide)) (by decide) d_Mo_level_16 ?_
    refine lv_if_eq (tgt := 45) hx hb d_Mo_level_17 rfl (fun h17 => ?_) (fun h17 => ?_)
    · have hq := hq.trans (if_pos h17)
      exact B_Mo_level_45_15 _ _ _ _ (lv_sub hl [0, 1, 2] rfl) S hq
    · have hq := hq.trans (if_neg h17)
      refine lv_aload_n hx hb d_Mo_level_20 rfl (lv_at hl 0 rfl) ?_
      refine lv_aload_n hx hb d_Mo_level_21 rfl (lv_at hl 0 rfl) ?_
      refine g_Mo_16 hx hb hts hown hK S.1 d_Mo_level_22 ?_
      refine lv_iload_n hx hb d_Mo_level_25 rfl (lv_at hl 2 rfl) ?_
      refine ld_M_3 (k := 15) hx hb hK S.1 (vin_dec (by decide)) (by decide) d_Mo_level_26 ?_
      refine callVIp X S hl (c_Mo_group (σ 4 15) _) v_Mo_56 0 6 ⟨rfl, rfl⟩ (rk_dec (by decide)) rfl rfl (Nat.le_of_ble_eq_true rfl) d_Mo_level_27 (fun H locs S => ?_)
      refine lv_iload_n hx hb d_Mo_level_30 rfl (lv_at hl 1 rfl) ?_
      refine lv_icmp_ge (tgt := 45) hx hb d_Mo_level_31 rfl (fun h31 => ?_) (fun h31 => ?_)
      · have hq := hq.trans (if_pos h31)
        exact B_Mo_level_45_15 _ _ _ _ (lv_sub hl [0, 1, 2] rfl) S hq
      · have hq := hq.trans (if_neg h31)
        refine lv_aload_n hx hb d_Mo_level_34 rfl (lv_at hl 0 rfl) ?_
        refine lv_aload_n hx hb d_Mo_level_35 rfl (lv_at hl 0 rfl) ?_
        refine g_Mo_16 hx hb hts hown hK S.1 d_Mo_level_36 ?_
        refine lv_iload_n hx hb d_Mo_level_39 rfl (lv_at hl 2 rfl) ?_
        refine ld_M_3 (k := 15) hx hb hK S.1 (vin_dec (by decide)) (by decide) d_Mo_level_40 ?_
        refine callVIp X S hl (c_Mo_group (σ 4 15) _) v_Mo_56 0 6 ⟨rfl, rfl⟩ (rk_dec (by decide)) rfl rfl (Nat.le_of_ble_eq_true rfl) d_Mo_level_41 (fun H locs S => ?_)
        refine lv_istore_n hx hb d_Mo_level_44 rfl hl (by decide) rfl (fun ls hl => ?_)
        exact B_Mo_level_45_15 _ _ _ _ (lv_sub hl [1, 0, 2] rfl) S hq
  have B_Mo_level_45_14 : ∀ (v1 : Int32) (H : Heap) (locs : List Loc) (ls : Array Slot), lv_has ls 3 [(0, .ref (a 0)), (1, .int v1), (2, .int (14 : Int32))] → St D (wM cI cZ a) A s σ H locs → F = s_Mo_level_45_14 v1 σ → W p l e ({ frames := 1, cells := 0, slots := 0, locals := 21 } : Room) s m args below meth c H locs 0 0 Q (F0 m 45 ls []) := by
    intro v1 H locs ls hl S hq
    refine lv_iinc (k := 2) (v := (15 : Int32)) hx hb d_Mo_level_45 hl rfl (by first | rfl | decide) (by decide) rfl (fun ls hl => ?_)
    refine lv_goto (tgt := 5) hx hb d_Mo_level_48 rfl ?_
    exact B_Mo_level_5_15 _ _ _ _ (lv_sub hl [1, 2, 0] rfl) S hq
  have B_Mo_level_5_14 : ∀ (v1 : Int32) (H : Heap) (locs : List Loc) (ls : Array Slot), lv_has ls 3 [(0, .ref (a 0)), (1, .int v1), (2, .int (14 : Int32))] → St D (wM cI cZ a) A s σ H locs → F = s_Mo_level_5_14 v1 σ → W p l e ({ frames := 1, cells := 0, slots := 0, locals := 21 } : Room) s m args below meth c H locs 0 0 Q (F0 m 5 ls []) := by
    intro v1 H locs ls hl S hq
    refine lv_iload_n hx hb d_Mo_level_5 rfl (lv_at hl 2 rfl) ?_
    refine lv_bipush (v := 16) hx hb d_Mo_level_6 (by decide) ?_
    refine lv_icmp_ge (tgt := 51) hx hb d_Mo_level_8 rfl (fun h9 => absurd h9 (by decide)) (fun _ => ?_)
    refine lv_aload_n hx hb d_Mo_level_11 rfl (lv_at hl 0 rfl) ?_
    refine g_Mo_26 hx hb hts hown hK S.1 d_Mo_level_12 ?_
    refine lv_iload_n hx hb d_Mo_level_15 rfl (lv_at hl 2 rfl) ?_
    refine ld_M_6 (k := 14) hx hb hK S.1 (vin_dec (by decide)) (by decide) d_Mo_level_16 ?_
    refine lv_if_eq (tgt := 45) hx hb d_Mo_level_17 rfl (fun h17 => ?_) (fun h17 => ?_)
    · have hq := hq.trans (if_pos h17)
      exact B_Mo_level_45_14 _ _ _ _ (lv_sub hl [0, 1, 2] rfl) S hq
    · have hq := hq.trans (if_neg h17)
      refine lv_aload_n hx hb d_Mo_level_20 rfl (lv_at hl 0 rfl) ?_
      refine lv_aload_n hx hb d_Mo_level_21 rfl (lv_at hl 0 rfl) ?_
      refine g_Mo_16 hx hb hts hown hK S.1 d_Mo_level_22 ?_
      refine lv_iload_n hx hb d_Mo_level_25 rfl (lv_at hl 2 rfl) ?_
      refine ld_M_3 (k := 14) hx hb hK S.1 (vin_dec (by decide)) (by decide) d_Mo_level_26 ?_
      refine callVIp X S hl (c_Mo_group (σ 4 14) _) v_Mo_56 0 6 ⟨rfl, rfl⟩ (rk_dec (by decide)) rfl rfl (Nat.le_of_ble_eq_true rfl) d_Mo_level_27 (fun H locs S => ?_)
      refine lv_iload_n hx hb d_Mo_level_30 rfl (lv_at hl 1 rfl) ?_
      refine lv_icmp_ge (tgt := 45) hx hb d_Mo_level_31 rfl (fun h31 => ?_) (fun h31 => ?_)
      · have hq := hq.trans (if_pos h31)
        exact B_Mo_level_45_14 _ _ _ _ (lv_sub hl [0, 1, 2] rfl) S hq
      · have hq := hq.trans (if_neg h31)
        refine lv_aload_n hx hb d_Mo_level_34 rfl (lv_at hl 0 rfl) ?_
        refine lv_aload_n hx hb d_Mo_level_35 rfl (lv_at hl 0 rfl) ?_
        refine g_Mo_16 hx hb hts hown hK S.1 d_Mo_level_36 ?_
        refine lv_iload_n hx hb d_Mo_level_39 rfl (lv_at hl 2 rfl) ?_
        refine ld_M_3 (k := 14) hx hb hK S.1 (vin_dec (by decide)) (by decide) d_Mo_level_40 ?_
        refine callVIp X S hl (c_Mo_group (σ 4 14) _) v_Mo_56 0 6 ⟨rfl, rfl⟩ (rk_dec (by decide)) rfl rfl (Nat.le_of_ble_eq_true rfl) d_Mo_level_41 (fun H locs S => ?_)
        refine lv_istore_n hx hb d_Mo_level_44 rfl hl (by decide) rfl (fun ls hl => ?_)
        exact B_Mo_level_45_14 _ _ _ _ (lv_sub hl [1, 0, 2] rfl) S hq
  have B_Mo_level_45_13 : ∀ (v1 : Int32) (H : Heap) (locs : List Loc) (ls : Array Slot), lv_has ls 3 [(0, .ref (a 0)), (1, .int v1), (2, .int (13 : Int32))] → St D (wM cI cZ a) A s σ H locs → F = s_Mo_level_45_13 v1 σ → W p l e ({ frames := 1, cells := 0, slots := 0, locals := 21 } : Room) s m args below meth c H locs 0 0 Q (F0 m 45 ls []) := by
    intro v1 H locs ls hl S hq
    refine lv_iinc (k := 2) (v := (14 : Int32)) hx hb d_Mo_level_45 hl rfl (by first | rfl | decide) (by decide) rfl (fun ls hl => ?_)
    refine lv_goto (tgt := 5) hx hb d_Mo_level_48 rfl ?_
    exact B_Mo_level_5_14 _ _ _ _ (lv_sub hl [1, 2, 0] rfl) S hq
  have B_Mo_level_5_13 : ∀ (v1 : Int32) (H : Heap) (locs : List Loc) (ls : Array Slot), lv_has ls 3 [(0, .ref (a 0)), (1, .int v1), (2, .int (13 : Int32))] → St D (wM cI cZ a) A s σ H locs → F = s_Mo_level_5_13 v1 σ → W p l e ({ frames := 1, cells := 0, slots := 0, locals := 21 } : Room) s m args below meth c H locs 0 0 Q (F0 m 5 ls []) := by
    intro v1 H locs ls hl S hq
    refine lv_iload_n hx hb d_Mo_level_5 rfl (lv_at hl 2 rfl) ?_
    refine lv_bipush (v := 16) hx hb d_Mo_level_6 (by decide) ?_
    refine lv_icmp_ge (tgt := 51) hx hb d_Mo_level_8 rfl (fun h9 => absurd h9 (by decide)) (fun _ => ?_)
    refine lv_aload_n hx hb d_Mo_level_11 rfl (lv_at hl 0 rfl) ?_
    refine g_Mo_26 hx hb hts hown hK S.1 d_Mo_level_12 ?_
    refine lv_iload_n hx hb d_Mo_level_15 rfl (lv_at hl 2 rfl) ?_
    refine ld_M_6 (k := 13) hx hb hK S.1 (vin_dec (by decide)) (by decide) d_Mo_level_16 ?_
    refine lv_if_eq (tgt := 45) hx hb d_Mo_level_17 rfl (fun h17 => ?_) (fun h17 => ?_)
    · have hq := hq.trans (if_pos h17)
      exact B_Mo_level_45_13 _ _ _ _ (lv_sub hl [0, 1, 2] rfl) S hq
    · have hq := hq.trans (if_neg h17)
      refine lv_aload_n hx hb d_Mo_level_20 rfl (lv_at hl 0 rfl) ?_
      refine lv_aload_n hx hb d_Mo_level_21 rfl (lv_at hl 0 rfl) ?_
      refine g_Mo_16 hx hb hts hown hK S.1 d_Mo_level_22 ?_
      refine lv_iload_n hx hb d_Mo_level_25 rfl (lv_at hl 2 rfl) ?_
      refine ld_M_3 (k := 13) hx hb hK S.1 (vin_dec (by decide)) (by decide) d_Mo_level_26 ?_
      refine callVIp X S hl (c_Mo_group (σ 4 13) _) v_Mo_56 0 6 ⟨rfl, rfl⟩ (rk_dec (by decide)) rfl rfl (Nat.le_of_ble_eq_true rfl) d_Mo_level_27 (fun H locs S => ?_)
      refine lv_iload_n hx hb d_Mo_level_30 rfl (lv_at hl 1 rfl) ?_
      refine lv_icmp_ge (tgt := 45) hx hb d_Mo_level_31 rfl (fun h31 => ?_) (fun h31 => ?_)
      · have hq := hq.trans (if_pos h31)
        exact B_Mo_level_45_13 _ _ _ _ (lv_sub hl [0, 1, 2] rfl) S hq
      · have hq := hq.trans (if_neg h31)
        refine lv_aload_n hx hb d_Mo_level_34 rfl (lv_at hl 0 rfl) ?_
        refine lv_aload_n hx hb d_Mo_level_35 rfl (lv_at hl 0 rfl) ?_
        refine g_Mo_16 hx hb hts hown hK S.1 d_Mo_level_36 ?_
        refine lv_iload_n hx hb d_Mo_level_39 rfl (lv_at hl 2 rfl) ?_
        refine ld_M_3 (k := 13) hx hb hK S.1 (vin_dec (by decide)) (by decide) d_Mo_level_40 ?_
        refine callVIp X S hl (c_Mo_group (σ 4 13) _) v_Mo_56 0 6 ⟨rfl, rfl⟩ (rk_dec (by decide)) rfl rfl (Nat.le_of_ble_eq_true rfl) d_Mo_level_41 (fun H locs S => ?_)
        refine lv_istore_n hx hb d_Mo_level_44 rfl hl (by decide) rfl (fun ls hl => ?_)
        exact B_Mo_level_45_13 _ _ _ _ (lv_sub hl [1, 0, 2] rfl) S hq
  have B_Mo_level_45_12 : ∀ (v1 : Int32) (H : Heap) (locs : List Loc) (ls : Array Slot), lv_has ls 3 [(0, .ref (a 0)), (1, .int v1), (2, .int (12 : Int32))] → St D (wM cI cZ a) A s σ H locs → F = s_Mo_level_45_12 v1 σ → W p l e ({ frames := 1, cells := 0, slots := 0, locals := 21 } : Room) s m args below meth c H locs 0 0 Q (F0 m 45 ls []) := by
    intro v1 H locs ls hl S hq
    refine lv_iinc (k := 2) (v := (13 : Int32)) hx hb d_Mo_level_45 hl rfl (by first | rfl | decide) (by decide) rfl (fun ls hl => ?_)
    refine lv_goto (tgt := 5) hx hb d_Mo_level_48 rfl ?_
    exact B_Mo_level_5_13 _ _ _ _ (lv_sub hl [1, 2, 0] rfl) S hq
  have B_Mo_level_5_12 : ∀ (v1 : Int32) (H : Heap) (locs : List Loc) (ls : Array Slot), lv_has ls 3 [(0, .ref (a 0)), (1, .int v1), (2, .int (12 : Int32))] → St D (wM cI cZ a) A s σ H locs → F = s_Mo_level_5_12 v1 σ → W p l e ({ frames := 1, cells := 0, slots := 0, locals := 21 } : Room) s m args below meth c H locs 0 0 Q (F0 m 5 ls []) := by
    intro v1 H locs ls hl S hq
    refine lv_iload_n hx hb d_Mo_level_5 rfl (lv_at hl 2 rfl) ?_
    refine lv_bipush (v := 16) hx hb d_Mo_level_6 (by decide) ?_
    refine lv_icmp_ge (tgt := 51) hx hb d_Mo_level_8 rfl (fun h9 => absurd h9 (by decide)) (fun _ => ?_)
    refine lv_aload_n hx hb d_Mo_level_11 rfl (lv_at hl 0 rfl) ?_
    refine g_Mo_26 hx hb hts hown hK S.1 d_Mo_level_12 ?_
    refine lv_iload_n hx hb d_Mo_level_15 rfl (lv_at hl 2 rfl) ?_
    refine ld_M_6 (k := 12) hx hb hK S.1 (vin_dec (by decide)) (by decide) d_Mo_level_16 ?_
    refine lv_if_eq (tgt := 45) hx hb d_Mo_level_17 rfl (fun h17 => ?_) (fun h17 => ?_)
    · have hq := hq.trans (if_pos h17)
      exact B_Mo_level_45_12 _ _ _ _ (lv_sub hl [0, 1, 2] rfl) S hq
    · have hq := hq.trans (if_neg h17)
      refine lv_aload_n hx hb d_Mo_level_20 rfl (lv_at hl 0 rfl) ?_
      refine lv_aload_n hx hb d_Mo_level_21 rfl (lv_at hl 0 rfl) ?_
      refine g_Mo_16 hx hb hts hown hK S.1 d_Mo_level_22 ?_
      refine lv_iload_n hx hb d_Mo_level_25 rfl (lv_at hl 2 rfl) ?_
      refine ld_M_3 (k := 12) hx hb hK S.1 (vin_dec (by decide)) (by decide) d_Mo_level_26 ?_
      refine callVIp X S hl (c_Mo_group (σ 4 12) _) v_Mo_56 0 6 ⟨rfl, rfl⟩ (rk_dec (by decide)) rfl rfl (Nat.le_of_ble_eq_true rfl) d_Mo_level_27 (fun H locs S => ?_)
      refine lv_iload_n hx hb d_Mo_level_30 rfl (lv_at hl 1 rfl) ?_
      refine lv_icmp_ge (tgt := 45) hx hb d_Mo_level_31 rfl (fun h31 => ?_) (fun h31 => ?_)
      · have hq := hq.trans (if_pos h31)
        exact B_Mo_level_45_12 _ _ _ _ (lv_sub hl [0, 1, 2] rfl) S hq
      · have hq := hq.trans (if_neg h31)
        refine lv_aload_n hx hb d_Mo_level_34 rfl (lv_at hl 0 rfl) ?_
        refine lv_aload_n hx hb d_Mo_level_35 rfl (lv_at hl 0 rfl) ?_
        refine g_Mo_16 hx hb hts hown hK S.1 d_Mo_level_36 ?_
        refine lv_iload_n hx hb d_Mo_level_39 rfl (lv_at hl 2 rfl) ?_
        refine ld_M_3 (k := 12) hx hb hK S.1 (vin_dec (by decide)) (by decide) d_Mo_level_40 ?_
        refine callVIp X S hl (c_Mo_group (σ 4 12) _) v_Mo_56 0 6 ⟨rfl, rfl⟩ (rk_dec (by decide)) rfl rfl (Nat.le_of_ble_eq_true rfl) d_Mo_level_41 (fun H locs S => ?_)
        refine lv_istore_n hx hb d_Mo_level_44 rfl hl (by decide) rfl (fun ls hl => ?_)
        exact B_Mo_level_45_12 _ _ _ _ (lv_sub hl [1, 0, 2] rfl) S hq
  have B_Mo_level_45_11 : ∀ (v1 : Int32) (H : Heap) (locs : List Loc) (ls : Array Slot), lv_has ls 3 [(0, .ref (a 0)), (1, .int v1), (2, .int (11 : Int32))] → St D (wM cI cZ a) A s σ H locs → F = s_Mo_level_45_11 v1 σ → W p l e ({ frames := 1, cells := 0, slots := 0, locals := 21 } : Room) s m args below meth c H locs 0 0 Q (F0 m 45 ls []) := by
    intro v1 H locs ls hl S hq
    refine lv_iinc (k := 2) (v := (12 : Int32)) hx hb d_Mo_level_45 hl rfl (by first | rfl | decide) (by decide) rfl (fun ls hl => ?_)
    refine lv_goto (tgt := 5) hx hb d_Mo_level_48 rfl ?_
    exact B_Mo_level_5_12 _ _ _ _ (lv_sub hl [1, 2, 0] rfl) S hq
  have B_Mo_level_5_11 : ∀ (v1 : Int32) (H : Heap) (locs : List Loc) (ls : Array Slot), lv_has ls 3 [(0, .ref (a 0)), (1, .int v1), (2, .int (11 : Int32))] → St D (wM cI cZ a) A s σ H locs → F = s_Mo_level_5_11 v1 σ → W p l e ({ frames := 1, cells := 0, slots := 0, locals := 21 } : Room) s m args below meth c H locs 0 0 Q (F0 m 5 ls []) := by
    intro v1 H locs ls hl S hq
    refine lv_iload_n hx hb d_Mo_level_5 rfl (lv_at hl 2 rfl) ?_
    refine lv_bipush (v := 16) hx hb d_Mo_level_6 (by decide) ?_
    refine lv_icmp_ge (tgt := 51) hx hb d_Mo_level_8 rfl (fun h9 => absurd h9 (by decide)) (fun _ => ?_)
    refine lv_aload_n hx hb d_Mo_level_11 rfl (lv_at hl 0 rfl) ?_
    refine g_Mo_26 hx hb hts hown hK S.1 d_Mo_level_12 ?_
    refine lv_iload_n hx hb d_Mo_level_15 rfl (lv_at hl 2 rfl) ?_
    refine ld_M_6 (k := 11) hx hb hK S.1 (vin_dec (by decide)) (by decide) d_Mo_level_16 ?_
    refine lv_if_eq (tgt := 45) hx hb d_Mo_level_17 rfl (fun h17 => ?_) (fun h17 => ?_)
    · have hq := hq.trans (if_pos h17)
      exact B_Mo_level_45_11 _ _ _ _ (lv_sub hl [0, 1, 2] rfl) S hq
    · have hq := hq.trans (if_neg h17)
      refine lv_aload_n hx hb d_Mo_level_20 rfl (lv_at hl 0 rfl) ?_
      refine lv_aload_n hx hb d_Mo_level_21 rfl (lv_at hl 0 rfl) ?_
      refine g_Mo_16 hx hb hts hown hK S.1 d_Mo_level_22 ?_
      refine lv_iload_n hx hb d_Mo_level_25 rfl (lv_at hl 2 rfl) ?_
      refine ld_M_3 (k := 11) hx hb hK S.1 (vin_dec (by decide)) (by decide) d_Mo_level_26 ?_
      refine callVIp X S hl (c_Mo_group (σ 4 11) _) v_Mo_56 0 6 ⟨rfl, rfl⟩ (rk_dec (by decide)) rfl rfl (Nat.le_of_ble_eq_true rfl) d_Mo_level_27 (fun H locs S => ?_)
      refine lv_iload_n hx hb d_Mo_level_30 rfl (lv_at hl 1 rfl) ?_
      refine lv_icmp_ge (tgt := 45) hx hb d_Mo_level_31 rfl (fun h31 => ?_) (fun h31 => ?_)
      · have hq := hq.trans (if_pos h31)
        exact B_Mo_level_45_11 _ _ _ _ (lv_sub hl [0, 1, 2] rfl) S hq
      · have hq := hq.trans (if_neg h31)
        refine lv_aload_n hx hb d_Mo_level_34 rfl (lv_at hl 0 rfl) ?_
        refine lv_aload_n hx hb d_Mo_level_35 rfl (lv_at hl 0 rfl) ?_
        refine g_Mo_16 hx hb hts hown hK S.1 d_Mo_level_36 ?_
        refine lv_iload_n hx hb d_Mo_level_39 rfl (lv_at hl 2 rfl) ?_
        refine ld_M_3 (k := 11) hx hb hK S.1 (vin_dec (by decide)) (by decide) d_Mo_level_40 ?_
        refine callVIp X S hl (c_Mo_group (σ 4 11) _) v_Mo_56 0 6 ⟨rfl, rfl⟩ (rk_dec (by decide)) rfl rfl (Nat.le_of_ble_eq_true rfl) d_Mo_level_41 (fun H locs S => ?_)
        refine lv_istore_n hx hb d_Mo_level_44 rfl hl (by decide) rfl (fun ls hl => ?_)
        exact B_Mo_level_45_11 _ _ _ _ (lv_sub hl [1, 0, 2] rfl) S hq
  have B_Mo_level_45_10 : ∀ (v1 : Int32) (H : Heap) (locs : List Loc) (ls : Array Slot), lv_has ls 3 [(0, .ref (a 0)), (1, .int v1), (2, .int (10 : Int32))] → St D (wM cI cZ a) A s σ H locs → F = s_Mo_level_45_10 v1 σ → W p l e ({ frames := 1, cells := 0, slots := 0, locals := 21 } : Room) s m args below meth c H locs 0 0 Q (F0 m 45 ls []) := by
    intro v1 H locs ls hl S hq
    refine lv_iinc (k := 2) (v := (11 : Int32)) hx hb d_Mo_level_45 hl rfl (by first | rfl | decide) (by decide) rfl (fun ls hl => ?_)
    refine lv_goto (tgt := 5) hx hb d_Mo_level_48 rfl ?_
    exact B_Mo_level_5_11 _ _ _ _ (lv_sub hl [1, 2, 0] rfl) S hq
  have B_Mo_level_5_10 : ∀ (v1 : Int32) (H : Heap) (locs : List Loc) (ls : Array Slot), lv_has ls 3 [(0, .ref (a 0)), (1, .int v1), (2, .int (10 : Int32))] → St D (wM cI cZ a) A s σ H locs → F = s_Mo_level_5_10 v1 σ → W p l e ({ frames := 1, cells := 0, slots := 0, locals := 21 } : Room) s m args below meth c H locs 0 0 Q (F0 m 5 ls []) := by
    intro v1 H locs ls hl S hq
    refine lv_iload_n hx hb d_Mo_level_5 rfl (lv_at hl 2 rfl) ?_
    refine lv_bipush (v := 16) hx hb d_Mo_level_6 (by decide) ?_
    refine lv_icmp_ge (tgt := 51) hx hb d_Mo_level_8 rfl (fun h9 => absurd h9 (by decide)) (fun _ => ?_)
    refine lv_aload_n hx hb d_Mo_level_11 rfl (lv_at hl 0 rfl) ?_
    refine g_Mo_26 hx hb hts hown hK S.1 d_Mo_level_12 ?_
    refine lv_iload_n hx hb d_Mo_level_15 rfl (lv_at hl 2 rfl) ?_
    refine ld_M_6 (k := 10) hx hb hK S.1 (vin_dec (by decide)) (by decide) d_Mo_level_16 ?_
    refine lv_if_eq (tgt := 45) hx hb d_Mo_level_17 rfl (fun h17 => ?_) (fun h17 => ?_)
    · have hq := hq.trans (if_pos h17)
      exact B_Mo_level_45_10 _ _ _ _ (lv_sub hl [0, 1, 2] rfl) S hq
    · have hq := hq.trans (if_neg h17)
      refine lv_aload_n hx hb d_Mo_level_20 rfl (lv_at hl 0 rfl) ?_
      refine lv_aload_n hx hb d_Mo_level_21 rfl (lv_at hl 0 rfl) ?_
      refine g_Mo_16 hx hb hts hown hK S.1 d_Mo_level_22 ?_
      refine lv_iload_n hx hb d_Mo_level_25 rfl (lv_at hl 2 rfl) ?_
      refine ld_M_3 (k := 10) hx hb hK S.1 (vin_dec (by decide)) (by decide) d_Mo_level_26 ?_
      refine callVIp X S hl (c_Mo_group (σ 4 10) _) v_Mo_56 0 6 ⟨rfl, rfl⟩ (rk_dec (by decide)) rfl rfl (Nat.le_of_ble_eq_true rfl) d_Mo_level_27 (fun H locs S => ?_)
      refine lv_iload_n hx hb d_Mo_level_30 rfl (lv_at hl 1 rfl) ?_
      refine lv_icmp_ge (tgt := 45) hx hb d_Mo_level_31 rfl (fun h31 => ?_) (fun h31 => ?_)
      · have hq := hq.trans (if_pos h31)
        exact B_Mo_level_45_10 _ _ _ _ (lv_sub hl [0, 1, 2] rfl) S hq
      · have hq := hq.trans (if_neg h31)
        refine lv_aload_n hx hb d_Mo_level_34 rfl (lv_at hl 0 rfl) ?_
        refine lv_aload_n hx hb d_Mo_level_35 rfl (lv_at hl 0 rfl) ?_
        refine g_Mo_16 hx hb hts hown hK S.1 d_Mo_level_36 ?_
        refine lv_iload_n hx hb d_Mo_level_39 rfl (lv_at hl 2 rfl) ?_
        refine ld_M_3 (k := 10) hx hb hK S.1 (vin_dec (by decide)) (by decide) d_Mo_level_40 ?_
        refine callVIp X S hl (c_Mo_group (σ 4 10) _) v_Mo_56 0 6 ⟨rfl, rfl⟩ (rk_dec (by decide)) rfl rfl (Nat.le_of_ble_eq_true rfl) d_Mo_level_41 (fun H locs S => ?_)
        refine lv_istore_n hx hb d_Mo_level_44 rfl hl (by decide) rfl (fun ls hl => ?_)
        exact B_Mo_level_45_10 _ _ _ _ (lv_sub hl [1, 0, 2] rfl) S hq
  have B_Mo_level_45_9 : ∀ (v1 : Int32) (H : Heap) (locs : List Loc) (ls : Array Slot), lv_has ls 3 [(0, .ref (a 0)), (1, .int v1), (2, .int (9 : Int32))] → St D (wM cI cZ a) A s σ H locs → F = s_Mo_level_45_9 v1 σ → W p l e ({ frames := 1, cells := 0, slots := 0, locals := 21 } : Room) s m args below meth c H locs 0 0 Q (F0 m 45 ls []) := by
    intro v1 H locs ls hl S hq
    refine lv_iinc (k := 2) (v := (10 : Int32)) hx hb d_Mo_level_45 hl rfl (by first | rfl | decide) (by decide) rfl (fun ls hl => ?_)
    refine lv_goto (tgt := 5) hx hb d_Mo_level_48 rfl ?_
    exact B_Mo_level_5_10 _ _ _ _ (lv_sub hl [1, 2, 0] rfl) S hq
  have B_Mo_level_5_9 : ∀ (v1 : Int32) (H : Heap) (locs : List Loc) (ls : Array Slot), lv_has ls 3 [(0, .ref (a 0)), (1, .int v1), (2, .int (9 : Int32))] → St D (wM cI cZ a) A s σ H locs → F = s_Mo_level_5_9 v1 σ → W p l e ({ frames := 1, cells := 0, slots := 0, locals := 21 } : Room) s m args below meth c H locs 0 0 Q (F0 m 5 ls []) := by
    intro v1 H locs ls hl S hq
    refine lv_iload_n hx hb d_Mo_level_5 rfl (lv_at hl 2 rfl) ?_
    refine lv_bipush (v := 16) hx hb d_Mo_level_6 (by decide) ?_
    refine lv_icmp_ge (tgt := 51) hx hb d_Mo_level_8 rfl (fun h9 => absurd h9 (by decide)) (fun _ => ?_)
    refine lv_aload_n hx hb d_Mo_level_11 rfl (lv_at hl 0 rfl) ?_
    refine g_Mo_26 hx hb hts hown hK S.1 d_Mo_level_12 ?_
    refine lv_iload_n hx hb d_Mo_level_15 rfl (lv_at hl 2 rfl) ?_
    refine ld_M_6 (k := 9) hx hb hK S.1 (vin_dec (by decide)) (by decide) d_Mo_level_16 ?_
    refine lv_if_eq (tgt := 45) hx hb d_Mo_level_17 rfl (fun h17 => ?_) (fun h17 => ?_)
    · have hq := hq.trans (if_pos h17)
      exact B_Mo_level_45_9 _ _ _ _ (lv_sub hl [0, 1, 2] rfl) S hq
    · have hq := hq.trans (if_neg h17)
      refine lv_aload_n hx hb d_Mo_level_20 rfl (lv_at hl 0 rfl) ?_
      refine lv_aload_n hx hb d_Mo_level_21 rfl (lv_at hl 0 rfl) ?_
      refine g_Mo_16 hx hb hts hown hK S.1 d_Mo_level_22 ?_
      refine lv_iload_n hx hb d_Mo_level_25 rfl (lv_at hl 2 rfl) ?_
      refine ld_M_3 (k := 9) hx hb hK S.1 (vin_dec (by decide)) (by decide) d_Mo_level_26 ?_
      refine callVIp X S hl (c_Mo_group (σ 4 9) _) v_Mo_56 0 6 ⟨rfl, rfl⟩ (rk_dec (by decide)) rfl rfl (Nat.le_of_ble_eq_true rfl) d_Mo_level_27 (fun H locs S => ?_)
      refine lv_iload_n hx hb d_Mo_level_30 rfl (lv_at hl 1 rfl) ?_
      refine lv_icmp_ge (tgt := 45) hx hb d_Mo_level_31 rfl (fun h31 => ?_) (fun h31 => ?_)
      · have hq := hq.trans (if_pos h31)
        exact B_Mo_level_45_9 _ _ _ _ (lv_sub hl [0, 1, 2] rfl) S hq
      · have hq := hq.trans (if_neg h31)
        refine lv_aload_n hx hb d_Mo_level_34 rfl (lv_at hl 0 rfl) ?_
        refine lv_aload_n hx hb d_Mo_level_35 rfl (lv_at hl 0 rfl) ?_
        refine g_Mo_16 hx hb hts hown hK S.1 d_Mo_level_36 ?_
        refine lv_iload_n hx hb d_Mo_level_39 rfl (lv_at hl 2 rfl) ?_
        refine ld_M_3 (k := 9) hx hb hK S.1 (vin_dec (by decide)) (by decide) d_Mo_level_40 ?_
        refine callVIp X S hl (c_Mo_group (σ 4 9) _) v_Mo_56 0 6 ⟨rfl, rfl⟩ (rk_dec (by decide)) rfl rfl (Nat.le_of_ble_eq_true rfl) d_Mo_level_41 (fun H locs S => ?_)
        refine lv_istore_n hx hb d_Mo_level_44 rfl hl (by decide) rfl (fun ls hl => ?_)
        exact B_Mo_level_45_9 _ _ _ _ (lv_sub hl [1, 0, 2] rfl) S hq
  have B_Mo_level_45_8 : ∀ (v1 : Int32) (H : Heap) (locs : List Loc) (ls : Array Slot), lv_has ls 3 [(0, .ref (a 0)), (1, .int v1), (2, .int (8 : Int32))] → St D (wM cI cZ a) A s σ H locs → F = s_Mo_level_45_8 v1 σ → W p l e ({ frames := 1, cells := 0, slots := 0, locals := 21 } : Room) s m args below meth c H locs 0 0 Q (F0 m 45 ls []) := by
    intro v1 H locs ls hl S hq
    refine lv_iinc (k := 2) (v := (9 : Int32)) hx hb d_Mo_level_45 hl rfl (by first | rfl | decide) (by decide) rfl (fun ls hl => ?_)
    refine lv_goto (tgt := 5) hx hb d_Mo_level_48 rfl ?_
    exact B_Mo_level_5_9 _ _ _ _ (lv_sub hl [1, 2, 0] rfl) S hq
  have B_Mo_level_5_8 : ∀ (v1 : Int32) (H : Heap) (locs : List Loc) (ls : Array Slot), lv_has ls 3 [(0, .ref (a 0)), (1, .int v1), (2, .int (8 : Int32))] → St D (wM cI cZ a) A s σ H locs → F = s_Mo_level_5_8 v1 σ → W p l e ({ frames := 1, cells := 0, slots := 0, locals := 21 } : Room) s m args below meth c H locs 0 0 Q (F0 m 5 ls []) := by
    intro v1 H locs ls hl S hq
    refine lv_iload_n hx hb d_Mo_level_5 rfl (lv_at hl 2 rfl) ?_
    refine lv_bipush (v := 16) hx hb d_Mo_level_6 (by decide) ?_
    refine lv_icmp_ge (tgt := 51) hx hb d_Mo_level_8 rfl (fun h9 => absurd h9 (by decide)) (fun _ => ?_)
    refine lv_aload_n hx hb d_Mo_level_11 rfl (lv_at hl 0 rfl) ?_
    refine g_Mo_26 hx hb hts hown hK S.1 d_Mo_level_12 ?_
    refine lv_iload_n hx hb d_Mo_level_15 rfl (lv_at hl 2 rfl) ?_
    refine ld_M_6 (k := 8) hx hb hK S.1 (vin_dec (by decide)) (by decide) d_Mo_level_16 ?_
    refine lv_if_eq (tgt := 45) hx hb d_Mo_level_17 rfl (fun h17 => ?_) (fun h17 => ?_)
    · have hq := hq.trans (if_pos h17)
      exact B_Mo_level_45_8 _ _ _ _ (lv_sub hl [0, 1, 2] rfl) S hq
    · have hq := hq.trans (if_neg h17)
      refine lv_aload_n hx hb d_Mo_level_20 rfl (lv_at hl 0 rfl) ?_
      refine lv_aload_n hx hb d_Mo_level_21 rfl (lv_at hl 0 rfl) ?_
      refine g_Mo_16 hx hb hts hown hK S.1 d_Mo_level_22 ?_
      refine lv_iload_n hx hb d_Mo_level_25 rfl (lv_at hl 2 rfl) ?_
      refine ld_M_3 (k := 8) hx hb hK S.1 (vin_dec (by decide)) (by decide) d_Mo_level_26 ?_
      refine callVIp X S hl (c_Mo_group (σ 4 8) _) v_Mo_56 0 6 ⟨rfl, rfl⟩ (rk_dec (by decide)) rfl rfl (Nat.le_of_ble_eq_true rfl) d_Mo_level_27 (fun H locs S => ?_)
      refine lv_iload_n hx hb d_Mo_level_30 rfl (lv_at hl 1 rfl) ?_
      refine lv_icmp_ge (tgt := 45) hx hb d_Mo_level_31 rfl (fun h31 => ?_) (fun h31 => ?_)
      · have hq := hq.trans (if_pos h31)
        exact B_Mo_level_45_8 _ _ _ _ (lv_sub hl [0, 1, 2] rfl) S hq
      · have hq := hq.trans (if_neg h31)
        refine lv_aload_n hx hb d_Mo_level_34 rfl (lv_at hl 0 rfl) ?_
        refine lv_aload_n hx hb d_Mo_level_35 rfl (lv_at hl 0 rfl) ?_
        refine g_Mo_16 hx hb hts hown hK S.1 d_Mo_level_36 ?_
        refine lv_iload_n hx hb d_Mo_level_39 rfl (lv_at hl 2 rfl) ?_
        refine ld_M_3 (k := 8) hx hb hK S.1 (vin_dec (by decide)) (by decide) d_Mo_level_40 ?_
        refine callVIp X S hl (c_Mo_group (σ 4 8) _) v_Mo_56 0 6 ⟨rfl, rfl⟩ (rk_dec (by decide)) rfl rfl (Nat.le_of_ble_eq_true rfl) d_Mo_level_41 (fun H locs S => ?_)
        refine lv_istore_n hx hb d_Mo_level_44 rfl hl (by decide) rfl (fun ls hl => ?_)
        exact B_Mo_level_45_8 _ _ _ _ (lv_sub hl [1, 0, 2] rfl) S hq
  have B_Mo_level_45_7 : ∀ (v1 : Int32) (H : Heap) (locs : List Loc) (ls : Array Slot), lv_has ls 3 [(0, .ref (a 0)), (1, .int v1), (2, .int (7 : Int32))] → St D (wM cI cZ a) A s σ H locs → F = s_Mo_level_45_7 v1 σ → W p l e ({ frames := 1, cells := 0, slots := 0, locals := 21 } : Room) s m args below meth c H locs 0 0 Q (F0 m 45 ls []) := by
    intro v1 H locs ls hl S hq
    refine lv_iinc (k := 2) (v := (8 : Int32)) hx hb d_Mo_level_45 hl rfl (by first | rfl | decide) (by decide) rfl (fun ls hl => ?_)
    refine lv_goto (tgt := 5) hx hb d_Mo_level_48 rfl ?_
    exact B_Mo_level_5_8 _ _ _ _ (lv_sub hl [1, 2, 0] rfl) S hq
  have B_Mo_level_5_7 : ∀ (v1 : Int32) (H : Heap) (locs : List Loc) (ls : Array Slot), lv_has ls 3 [(0, .ref (a 0)), (1, .int v1), (2, .int (7 : Int32))] → St D (wM cI cZ a) A s σ H locs → F = s_Mo_level_5_7 v1 σ → W p l e ({ frames := 1, cells := 0, slots := 0, locals := 21 } : Room) s m args below meth c H locs 0 0 Q (F0 m 5 ls []) := by
    intro v1 H locs ls hl S hq
    refine lv_iload_n hx hb d_Mo_level_5 rfl (lv_at hl 2 rfl) ?_
    refine lv_bipush (v := 16) hx hb d_Mo_level_6 (by decide) ?_
    refine lv_icmp_ge (tgt := 51) hx hb d_Mo_level_8 rfl (fun h9 => absurd h9 (by decide)) (fun _ => ?_)
    refine lv_aload_n hx hb d_Mo_level_11 rfl (lv_at hl 0 rfl) ?_
    refine g_Mo_26 hx hb hts hown hK S.1 d_Mo_level_12 ?_
    refine lv_iload_n hx hb d_Mo_level_15 rfl (lv_at hl 2 rfl) ?_
    refine ld_M_6 (k := 7) hx hb hK S.1 (vin_dec (by decide)) (by decide) d_Mo_level_16 ?_
    refine lv_if_eq (tgt := 45) hx hb d_Mo_level_17 rfl (fun h17 => ?_) (fun h17 => ?_)
    · have hq := hq.trans (if_pos h17)
      exact B_Mo_level_45_7 _ _ _ _ (lv_sub hl [0, 1, 2] rfl) S hq
    · have hq := hq.trans (if_neg h17)
      refine lv_aload_n hx hb d_Mo_level_20 rfl (lv_at hl 0 rfl) ?_
      refine lv_aload_n hx hb d_Mo_level_21 rfl (lv_at hl 0 rfl) ?_
      refine g_Mo_16 hx hb hts hown hK S.1 d_Mo_level_22 ?_
      refine lv_iload_n hx hb d_Mo_level_25 rfl (lv_at hl 2 rfl) ?_
      refine ld_M_3 (k := 7) hx hb hK S.1 (vin_dec (by decide)) (by decide) d_Mo_level_26 ?_
      refine callVIp X S hl (c_Mo_group (σ 4 7) _) v_Mo_56 0 6 ⟨rfl, rfl⟩ (rk_dec (by decide)) rfl rfl (Nat.le_of_ble_eq_true rfl) d_Mo_level_27 (fun H locs S => ?_)
      refine lv_iload_n hx hb d_Mo_level_30 rfl (lv_at hl 1 rfl) ?_
      refine lv_icmp_ge (tgt := 45) hx hb d_Mo_level_31 rfl (fun h31 => ?_) (fun h31 => ?_)
      · have hq := hq.trans (if_pos h31)
        exact B_Mo_level_45_7 _ _ _ _ (lv_sub hl [0, 1, 2] rfl) S hq
      · have hq := hq.trans (if_neg h31)
        refine lv_aload_n hx hb d_Mo_level_34 rfl (lv_at hl 0 rfl) ?_
        refine lv_aload_n hx hb d_Mo_level_35 rfl (lv_at hl 0 rfl) ?_
        refine g_Mo_16 hx hb hts hown hK S.1 d_Mo_level_36 ?_
        refine lv_iload_n hx hb d_Mo_level_39 rfl (lv_at hl 2 rfl) ?_
        refine ld_M_3 (k := 7) hx hb hK S.1 (vin_dec (by decide)) (by decide) d_Mo_level_40 ?_
        refine callVIp X S hl (c_Mo_group (σ 4 7) _) v_Mo_56 0 6 ⟨rfl, rfl⟩ (rk_dec (by decide)) rfl rfl (Nat.le_of_ble_eq_true rfl) d_Mo_level_41 (fun H locs S => ?_)
        refine lv_istore_n hx hb d_Mo_level_44 rfl hl (by decide) rfl (fun ls hl => ?_)
        exact B_Mo_level_45_7 _ _ _ _ (lv_sub hl [1, 0, 2] rfl) S hq
  have B_Mo_level_45_6 : ∀ (v1 : Int32) (H : Heap) (locs : List Loc) (ls : Array Slot), lv_has ls 3 [(0, .ref (a 0)), (1, .int v1), (2, .int (6 : Int32))] → St D (wM cI cZ a) A s σ H locs → F = s_Mo_level_45_6 v1 σ → W p l e ({ frames := 1, cells := 0, slots := 0, locals := 21 } : Room) s m args below meth c H locs 0 0 Q (F0 m 45 ls []) := by
    intro v1 H locs ls hl S hq
    refine lv_iinc (k := 2) (v := (7 : Int32)) hx hb d_Mo_level_45 hl rfl (by first | rfl | decide) (by decide) rfl (fun ls hl => ?_)
    refine lv_goto (tgt := 5) hx hb d_Mo_level_48 rfl ?_
    exact B_Mo_level_5_7 _ _ _ _ (lv_sub hl [1, 2, 0] rfl) S hq
  have B_Mo_level_5_6 : ∀ (v1 : Int32) (H : Heap) (locs : List Loc) (ls : Array Slot), lv_has ls 3 [(0, .ref (a 0)), (1, .int v1), (2, .int (6 : Int32))] → St D (wM cI cZ a) A s σ H locs → F = s_Mo_level_5_6 v1 σ → W p l e ({ frames := 1, cells := 0, slots := 0, locals := 21 } : Room) s m args below meth c H locs 0 0 Q (F0 m 5 ls []) := by
    intro v1 H locs ls hl S hq
    refine lv_iload_n hx hb d_Mo_level_5 rfl (lv_at hl 2 rfl) ?_
    refine lv_bipush (v := 16) hx hb d_Mo_level_6 (by decide) ?_
    refine lv_icmp_ge (tgt := 51) hx hb d_Mo_level_8 rfl (fun h9 => absurd h9 (by decide)) (fun _ => ?_)
    refine lv_aload_n hx hb d_Mo_level_11 rfl (lv_at hl 0 rfl) ?_
    refine g_Mo_26 hx hb hts hown hK S.1 d_Mo_level_12 ?_
    refine lv_iload_n hx hb d_Mo_level_15 rfl (lv_at hl 2 rfl) ?_
    refine ld_M_6 (k := 6) hx hb hK S.1 (vin_dec (by decide)) (by decide) d_Mo_level_16 ?_
    refine lv_if_eq (tgt := 45) hx hb d_Mo_level_17 rfl (fun h17 => ?_) (fun h17 => ?_)
    · have hq := hq.trans (if_pos h17)
      exact B_Mo_level_45_6 _ _ _ _ (lv_sub hl [0, 1, 2] rfl) S hq
    · have hq := hq.trans (if_neg h17)
      refine lv_aload_n hx hb d_Mo_level_20 rfl (lv_at hl 0 rfl) ?_
      refine lv_aload_n hx hb d_Mo_level_21 rfl (lv_at hl 0 rfl) ?_
      refine g_Mo_16 hx hb hts hown hK S.1 d_Mo_level_22 ?_
      refine lv_iload_n hx hb d_Mo_level_25 rfl (lv_at hl 2 rfl) ?_
      refine ld_M_3 (k := 6) hx hb hK S.1 (vin_dec (by decide)) (by decide) d_Mo_level_26 ?_
      refine callVIp X S hl (c_Mo_group (σ 4 6) _) v_Mo_56 0 6 ⟨rfl, rfl⟩ (rk_dec (by decide)) rfl rfl (Nat.le_of_ble_eq_true rfl) d_Mo_level_27 (fun H locs S => ?_)
      refine lv_iload_n hx hb d_Mo_level_30 rfl (lv_at hl 1 rfl) ?_
      refine lv_icmp_ge (tgt := 45) hx hb d_Mo_level_31 rfl (fun h31 => ?_) (fun h31 => ?_)
      · have hq := hq.trans (if_pos h31)
        exact B_Mo_level_45_6 _ _ _ _ (lv_sub hl [0, 1, 2] rfl) S hq
      · have hq := hq.trans (if_neg h31)
        refine lv_aload_n hx hb d_Mo_level_34 rfl (lv_at hl 0 rfl) ?_
        refine lv_aload_n hx hb d_Mo_level_35 rfl (lv_at hl 0 rfl) ?_
        refine g_Mo_16 hx hb hts hown hK S.1 d_Mo_level_36 ?_
        refine lv_iload_n hx hb d_Mo_level_39 rfl (lv_at hl 2 rfl) ?_
        refine ld_M_3 (k := 6) hx hb hK S.1 (vin_dec (by decide)) (by decide) d_Mo_level_40 ?_
        refine callVIp X S hl (c_Mo_group (σ 4 6) _) v_Mo_56 0 6 ⟨rfl, rfl⟩ (rk_dec (by decide)) rfl rfl (Nat.le_of_ble_eq_true rfl) d_Mo_level_41 (fun H locs S => ?_)
        refine lv_istore_n hx hb d_Mo_level_44 rfl hl (by decide) rfl (fun ls hl => ?_)
        exact B_Mo_level_45_6 _ _ _ _ (lv_sub hl [1, 0, 2] rfl) S hq
  have B_Mo_level_45_5 : ∀ (v1 : Int32) (H : Heap) (locs : List Loc) (ls : Array Slot), lv_has ls 3 [(0, .ref (a 0)), (1, .int v1), (2, .int (5 : Int32))] → St D (wM cI cZ a) A s σ H locs → F = s_Mo_level_45_5 v1 σ → W p l e ({ frames := 1, cells := 0, slots := 0, locals := 21 } : Room) s m args below meth c H locs 0 0 Q (F0 m 45 ls []) := by
    intro v1 H locs ls hl S hq
    refine lv_iinc (k := 2) (v := (6 : Int32)) hx hb d_Mo_level_45 hl rfl (by first | rfl | decide) (by decide) rfl (fun ls hl => ?_)
    refine lv_goto (tgt := 5) hx hb d_Mo_level_48 rfl ?_
    exact B_Mo_level_5_6 _ _ _ _ (lv_sub hl [1, 2, 0] rfl) S hq
  have B_Mo_level_5_5 : ∀ (v1 : Int32) (H : Heap) (locs : List Loc) (ls : Array Slot), lv_has ls 3 [(0, .ref (a 0)), (1, .int v1), (2, .int (5 : Int32))] → St D (wM cI cZ a) A s σ H locs → F = s_Mo_level_5_5 v1 σ → W p l e ({ frames := 1, cells := 0, slots := 0, locals := 21 } : Room) s m args below meth c H locs 0 0 Q (F0 m 5 ls []) := by
    intro v1 H locs ls hl S hq
    refine lv_iload_n hx hb d_Mo_level_5 rfl (lv_at hl 2 rfl) ?_
    refine lv_bipush (v := 16) hx hb d_Mo_level_6 (by decide) ?_
    refine lv_icmp_ge (tgt := 51) hx hb d_Mo_level_8 rfl (fun h9 => absurd h9 (by decide)) (fun _ => ?_)
    refine lv_aload_n hx hb d_Mo_level_11 rfl (lv_at hl 0 rfl) ?_
    refine g_Mo_26 hx hb hts hown hK S.1 d_Mo_level_12 ?_
    refine lv_iload_n hx hb d_Mo_level_15 rfl (lv_at hl 2 rfl) ?_
    refine ld_M_6 (k := 5) hx hb hK S.1 (vin_dec (by decide)) (by decide) d_Mo_level_16 ?_
    refine lv_if_eq (tgt := 45) hx hb d_Mo_level_17 rfl (fun h17 => ?_) (fun h17 => ?_)
    · have hq := hq.trans (if_pos h17)
      exact B_Mo_level_45_5 _ _ _ _ (lv_sub hl [0, 1, 2] rfl) S hq
    · have hq := hq.trans (if_neg h17)
      refine lv_aload_n hx hb d_Mo_level_20 rfl (lv_at hl 0 rfl) ?_
      refine lv_aload_n hx hb d_Mo_level_21 rfl (lv_at hl 0 rfl) ?_
      refine g_Mo_16 hx hb hts hown hK S.1 d_Mo_level_22 ?_
      refine lv_iload_n hx hb d_Mo_level_25 rfl (lv_at hl 2 rfl) ?_
      refine ld_M_3 (k := 5) hx hb hK S.1 (vin_dec (by decide)) (by decide) d_Mo_level_26 ?_
      refine callVIp X S hl (c_Mo_group (σ 4 5) _) v_Mo_56 0 6 ⟨rfl, rfl⟩ (rk_dec (by decide)) rfl rfl (Nat.le_of_ble_eq_true rfl) d_Mo_level_27 (fun H locs S => ?_)
      refine lv_iload_n hx hb d_Mo_level_30 rfl (lv_at hl 1 rfl) ?_
      refine lv_icmp_ge (tgt := 45) hx hb d_Mo_level_31 rfl (fun h31 => ?_) (fun h31 => ?_)
      · have hq := hq.trans (if_pos h31)
        exact B_Mo_level_45_5 _ _ _ _ (lv_sub hl [0, 1, 2] rfl) S hq
      · have hq := hq.trans (if_neg h31)
        refine lv_aload_n hx hb d_Mo_level_34 rfl (lv_at hl 0 rfl) ?_
        refine lv_aload_n hx hb d_Mo_level_35 rfl (lv_at hl 0 rfl) ?_
        refine g_Mo_16 hx hb hts hown hK S.1 d_Mo_level_36 ?_
        refine lv_iload_n hx hb d_Mo_level_39 rfl (lv_at hl 2 rfl) ?_
        refine ld_M_3 (k := 5) hx hb hK S.1 (vin_dec (by decide)) (by decide) d_Mo_level_40 ?_
        refine callVIp X S hl (c_Mo_group (σ 4 5) _) v_Mo_56 0 6 ⟨rfl, rfl⟩ (rk_dec (by decide)) rfl rfl (Nat.le_of_ble_eq_true rfl) d_Mo_level_41 (fun H locs S => ?_)
        refine lv_istore_n hx hb d_Mo_level_44 rfl hl (by decide) rfl (fun ls hl => ?_)
        exact B_Mo_level_45_5 _ _ _ _ (lv_sub hl [1, 0, 2] rfl) S hq
  have B_Mo_level_45_4 : ∀ (v1 : Int32) (H : Heap) (locs : List Loc) (ls : Array Slot), lv_has ls 3 [(0, .ref (a 0)), (1, .int v1), (2, .int (4 : Int32))] → St D (wM cI cZ a) A s σ H locs → F = s_Mo_level_45_4 v1 σ → W p l e ({ frames := 1, cells := 0, slots := 0, locals := 21 } : Room) s m args below meth c H locs 0 0 Q (F0 m 45 ls []) := by
    intro v1 H locs ls hl S hq
    refine lv_iinc (k := 2) (v := (5 : Int32)) hx hb d_Mo_level_45 hl rfl (by first | rfl | decide) (by decide) rfl (fun ls hl => ?_)
    refine lv_goto (tgt := 5) hx hb d_Mo_level_48 rfl ?_
    exact B_Mo_level_5_5 _ _ _ _ (lv_sub hl [1, 2, 0] rfl) S hq
  have B_Mo_level_5_4 : ∀ (v1 : Int32) (H : Heap) (locs : List Loc) (ls : Array Slot), lv_has ls 3 [(0, .ref (a 0)), (1, .int v1), (2, .int (4 : Int32))] → St D (wM cI cZ a) A s σ H locs → F = s_Mo_level_5_4 v1 σ → W p l e ({ frames := 1, cells := 0, slots := 0, locals := 21 } : Room) s m args below meth c H locs 0 0 Q (F0 m 5 ls []) := by
    intro v1 H locs ls hl S hq
    refine lv_iload_n hx hb d_Mo_level_5 rfl (lv_at hl 2 rfl) ?_
    refine lv_bipush (v := 16) hx hb d_Mo_level_6 (by decide) ?_
    refine lv_icmp_ge (tgt := 51) hx hb d_Mo_level_8 rfl (fun h9 => absurd h9 (by decide)) (fun _ => ?_)
    refine lv_aload_n hx hb d_Mo_level_11 rfl (lv_at hl 0 rfl) ?_
    refine g_Mo_26 hx hb hts hown hK S.1 d_Mo_level_12 ?_
    refine lv_iload_n hx hb d_Mo_level_15 rfl (lv_at hl 2 rfl) ?_
    refine ld_M_6 (k := 4) hx hb hK S.1 (vin_dec (by decide)) (by decide) d_Mo_level_16 ?_
    refine lv_if_eq (tgt := 45) hx hb d_Mo_level_17 rfl (fun h17 => ?_) (fun h17 => ?_)
    · have hq := hq.trans (if_pos h17)
      exact B_Mo_level_45_4 _ _ _ _ (lv_sub hl [0, 1, 2] rfl) S hq
    · have hq := hq.trans (if_neg h17)
      refine lv_aload_n hx hb d_Mo_level_20 rfl (lv_at hl 0 rfl) ?_
      refine lv_aload_n hx hb d_Mo_level_21 rfl (lv_at hl 0 rfl) ?_
      refine g_Mo_16 hx hb hts hown hK S.1 d_Mo_level_22 ?_
      refine lv_iload_n hx hb d_Mo_level_25 rfl (lv_at hl 2 rfl) ?_
      refine ld_M_3 (k := 4) hx hb hK S.1 (vin_dec (by decide)) (by decide) d_Mo_level_26 ?_
      refine callVIp X S hl (c_Mo_group (σ 4 4) _) v_Mo_56 0 6 ⟨rfl, rfl⟩ (rk_dec (by decide)) rfl rfl (Nat.le_of_ble_eq_true rfl) d_Mo_level_27 (fun H locs S => ?_)
      refine lv_iload_n hx hb d_Mo_level_30 rfl (lv_at hl 1 rfl) ?_
      refine lv_icmp_ge (tgt := 45) hx hb d_Mo_level_31 rfl (fun h31 => ?_) (fun h31 => ?_)
      · have hq := hq.trans (if_pos h31)
        exact B_Mo_level_45_4 _ _ _ _ (lv_sub hl [0, 1, 2] rfl) S hq
      · have hq := hq.trans (if_neg h31)
        refine lv_aload_n hx hb d_Mo_level_34 rfl (lv_at hl 0 rfl) ?_
        refine lv_aload_n hx hb d_Mo_level_35 rfl (lv_at hl 0 rfl) ?_
        refine g_Mo_16 hx hb hts hown hK S.1 d_Mo_level_36 ?_
        refine lv_iload_n hx hb d_Mo_level_39 rfl (lv_at hl 2 rfl) ?_
        refine ld_M_3 (k := 4) hx hb hK S.1 (vin_dec (by decide)) (by decide) d_Mo_level_40 ?_
        refine callVIp X S hl (c_Mo_group (σ 4 4) _) v_Mo_56 0 6 ⟨rfl, rfl⟩ (rk_dec (by decide)) rfl rfl (Nat.le_of_ble_eq_true rfl) d_Mo_level_41 (fun H locs S => ?_)
        refine lv_istore_n hx hb d_Mo_level_44 rfl hl (by decide) rfl (fun ls hl => ?_)
        exact B_Mo_level_45_4 _ _ _ _ (lv_sub hl [1, 0, 2] rfl) S hq
  have B_Mo_level_45_3 : ∀ (v1 : Int32) (H : Heap) (locs : List Loc) (ls : Array Slot), lv_has ls 3 [(0, .ref (a 0)), (1, .int v1), (2, .int (3 : Int32))] → St D (wM cI cZ a) A s σ H locs → F = s_Mo_level_45_3 v1 σ → W p l e ({ frames := 1, cells := 0, slots := 0, locals := 21 } : Room) s m args below meth c H locs 0 0 Q (F0 m 45 ls []) := by
    intro v1 H locs ls hl S hq
    refine lv_iinc (k := 2) (v := (4 : Int32)) hx hb d_Mo_level_45 hl rfl (by first | rfl | decide) (by decide) rfl (fun ls hl => ?_)
    refine lv_goto (tgt := 5) hx hb d_Mo_level_48 rfl ?_
    exact B_Mo_level_5_4 _ _ _ _ (lv_sub hl [1, 2, 0] rfl) S hq
  have B_Mo_level_5_3 : ∀ (v1 : Int32) (H : Heap) (locs : List Loc) (ls : Array Slot), lv_has ls 3 [(0, .ref (a 0)), (1, .int v1), (2, .int (3 : Int32))] → St D (wM cI cZ a) A s σ H locs → F = s_Mo_level_5_3 v1 σ → W p l e ({ frames := 1, cells := 0, slots := 0, locals := 21 } : Room) s m args below meth c H locs 0 0 Q (F0 m 5 ls []) := by
    intro v1 H locs ls hl S hq
    refine lv_iload_n hx hb d_Mo_level_5 rfl (lv_at hl 2 rfl) ?_
    refine lv_bipush (v := 16) hx hb d_Mo_level_6 (by decide) ?_
    refine lv_icmp_ge (tgt := 51) hx hb d_Mo_level_8 rfl (fun h9 => absurd h9 (by decide)) (fun _ => ?_)
    refine lv_aload_n hx hb d_Mo_level_11 rfl (lv_at hl 0 rfl) ?_
    refine g_Mo_26 hx hb hts hown hK S.1 d_Mo_level_12 ?_
    refine lv_iload_n hx hb d_Mo_level_15 rfl (lv_at hl 2 rfl) ?_
    refine ld_M_6 (k := 3) hx hb hK S.1 (vin_dec (by decide)) (by decide) d_Mo_level_16 ?_
    refine lv_if_eq (tgt := 45) hx hb d_Mo_level_17 rfl (fun h17 => ?_) (fun h17 => ?_)
    · have hq := hq.trans (if_pos h17)
      exact B_Mo_level_45_3 _ _ _ _ (lv_sub hl [0, 1, 2] rfl) S hq
    · have hq := hq.trans (if_neg h17)
      refine lv_aload_n hx hb d_Mo_level_20 rfl (lv_at hl 0 rfl) ?_
      refine lv_aload_n hx hb d_Mo_level_21 rfl (lv_at hl 0 rfl) ?_
      refine g_Mo_16 hx hb hts hown hK S.1 d_Mo_level_22 ?_
      refine lv_iload_n hx hb d_Mo_level_25 rfl (lv_at hl 2 rfl) ?_
      refine ld_M_3 (k := 3) hx hb hK S.1 (vin_dec (by decide)) (by decide) d_Mo_level_26 ?_
      refine callVIp X S hl (c_Mo_group (σ 4 3) _) v_Mo_56 0 6 ⟨rfl, rfl⟩ (rk_dec (by decide)) rfl rfl (Nat.le_of_ble_eq_true rfl) d_Mo_level_27 (fun H locs S => ?_)
      refine lv_iload_n hx hb d_Mo_level_30 rfl (lv_at hl 1 rfl) ?_
      refine lv_icmp_ge (tgt := 45) hx hb d_Mo_level_31 rfl (fun h31 => ?_) (fun h31 => ?_)
      · have hq := hq.trans (if_pos h31)
        exact B_Mo_level_45_3 _ _ _ _ (lv_sub hl [0, 1, 2] rfl) S hq
      · have hq := hq.trans (if_neg h31)
        refine lv_aload_n hx hb d_Mo_level_34 rfl (lv_at hl 0 rfl) ?_
        refine lv_aload_n hx hb d_Mo_level_35 rfl (lv_at hl 0 rfl) ?_
        refine g_Mo_16 hx hb hts hown hK S.1 d_Mo_level_36 ?_
        refine lv_iload_n hx hb d_Mo_level_39 rfl (lv_at hl 2 rfl) ?_
        refine ld_M_3 (k := 3) hx hb hK S.1 (vin_dec (by decide)) (by decide) d_Mo_level_40 ?_
        refine callVIp X S hl (c_Mo_group (σ 4 3) _) v_Mo_56 0 6 ⟨rfl, rfl⟩ (rk_dec (by decide)) rfl rfl (Nat.le_of_ble_eq_true rfl) d_Mo_level_41 (fun H locs S => ?_)
        refine lv_istore_n hx hb d_Mo_level_44 rfl hl (by decide) rfl (fun ls hl => ?_)
        exact B_Mo_level_45_3 _ _ _ _ (lv_sub hl [1, 0, 2] rfl) S hq
  have B_Mo_level_45_2 : ∀ (v1 : Int32) (H : Heap) (locs : List Loc) (ls : Array Slot), lv_has ls 3 [(0, .ref (a 0)), (1, .int v1), (2, .int (2 : Int32))] → St D (wM cI cZ a) A s σ H locs → F = s_Mo_level_45_2 v1 σ → W p l e ({ frames := 1, cells := 0, slots := 0, locals := 21 } : Room) s m args below meth c H locs 0 0 Q (F0 m 45 ls []) := by
    intro v1 H locs ls hl S hq
    refine lv_iinc (k := 2) (v := (3 : Int32)) hx hb d_Mo_level_45 hl rfl (by first | rfl | decide) (by decide) rfl (fun ls hl => ?_)
    refine lv_goto (tgt := 5) hx hb d_Mo_level_48 rfl ?_
    exact B_Mo_level_5_3 _ _ _ _ (lv_sub hl [1, 2, 0] rfl) S hq
  have B_Mo_level_5_2 : ∀ (H : Heap) (locs : List Loc) (ls : Array Slot), lv_has ls 3 [(0, .ref (a 0)), (1, .int (8 : Int32)), (2, .int (2 : Int32))] → St D (wM cI cZ a) A s σ H locs → F = s_Mo_level_5_2 σ → W p l e ({ frames := 1, cells := 0, slots := 0, locals := 21 } : Room) s m args below meth c H locs 0 0 Q (F0 m 5 ls []) := by
    intro H locs ls hl S hq
    refine lv_iload_n hx hb d_Mo_level_5 rfl (lv_at hl 2 rfl) ?_
    refine lv_bipush (v := 16) hx hb d_Mo_level_6 (by decide) ?_
    refine lv_icmp_ge (tgt := 51) hx hb d_Mo_level_8 rfl (fun h9 => absurd h9 (by decide)) (fun _ => ?_)
    refine lv_aload_n hx hb d_Mo_level_11 rfl (lv_at hl 0 rfl) ?_
    refine g_Mo_26 hx hb hts hown hK S.1 d_Mo_level_12 ?_
    refine lv_iload_n hx hb d_Mo_level_15 rfl (lv_at hl 2 rfl) ?_
    refine ld_M_6 (k := 2) hx hb hK S.1 (vin_dec (by decide)) (by decide) d_Mo_level_16 ?_
    refine lv_if_eq (tgt := 45) hx hb d_Mo_level_17 rfl (fun h17 => ?_) (fun h17 => ?_)
    · have hq := hq.trans (if_pos h17)
      exact B_Mo_level_45_2 _ _ _ _ (lv_sub hl [0, 1, 2] rfl) S hq
    · have hq := hq.trans (if_neg h17)
      refine lv_aload_n hx hb d_Mo_level_20 rfl (lv_at hl 0 rfl) ?_
      refine lv_aload_n hx hb d_Mo_level_21 rfl (lv_at hl 0 rfl) ?_
      refine g_Mo_16 hx hb hts hown hK S.1 d_Mo_level_22 ?_
      refine lv_iload_n hx hb d_Mo_level_25 rfl (lv_at hl 2 rfl) ?_
      refine ld_M_3 (k := 2) hx hb hK S.1 (vin_dec (by decide)) (by decide) d_Mo_level_26 ?_
      refine callVIp X S hl (c_Mo_group (σ 4 2) _) v_Mo_56 0 6 ⟨rfl, rfl⟩ (rk_dec (by decide)) rfl rfl (Nat.le_of_ble_eq_true rfl) d_Mo_level_27 (fun H locs S => ?_)
      refine lv_iload_n hx hb d_Mo_level_30 rfl (lv_at hl 1 rfl) ?_
      refine lv_icmp_ge (tgt := 45) hx hb d_Mo_level_31 rfl (fun h31 => ?_) (fun h31 => ?_)
      · have hq := hq.trans (if_pos h31)
        exact B_Mo_level_45_2 _ _ _ _ (lv_sub hl [0, 1, 2] rfl) S hq
      · have hq := hq.trans (if_neg h31)
        refine lv_aload_n hx hb d_Mo_level_34 rfl (lv_at hl 0 rfl) ?_
        refine lv_aload_n hx hb d_Mo_level_35 rfl (lv_at hl 0 rfl) ?_
        refine g_Mo_16 hx hb hts hown hK S.1 d_Mo_level_36 ?_
        refine lv_iload_n hx hb d_Mo_level_39 rfl (lv_at hl 2 rfl) ?_
        refine ld_M_3 (k := 2) hx hb hK S.1 (vin_dec (by decide)) (by decide) d_Mo_level_40 ?_
        refine callVIp X S hl (c_Mo_group (σ 4 2) _) v_Mo_56 0 6 ⟨rfl, rfl⟩ (rk_dec (by decide)) rfl rfl (Nat.le_of_ble_eq_true rfl) d_Mo_level_41 (fun H locs S => ?_)
        refine lv_istore_n hx hb d_Mo_level_44 rfl hl (by decide) rfl (fun ls hl => ?_)
        exact B_Mo_level_45_2 _ _ _ _ (lv_sub hl [1, 0, 2] rfl) S hq
  refine lv_bipush (v := 8) hx hb d_Mo_level_0 (by decide) ?_
  refine lv_istore_n hx hb d_Mo_level_2 rfl hl (by decide) rfl (fun ls hl => ?_)
  refine lv_iconst (v := 2) hx hb d_Mo_level_3 (by decide) ?_
  refine lv_istore_n hx hb d_Mo_level_4 rfl hl (by decide) rfl (fun ls hl => ?_)
  exact B_Mo_level_5_2 _ _ _ (lv_sub hl [2, 1, 0] rfl) S hq
end CT
