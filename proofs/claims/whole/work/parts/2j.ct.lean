section CT
variable {l : Launch} {D : va_G} {cI cZ : ClassId} {a : Nat → Nat} {t : Nat}
set_option maxHeartbeats 4000000 in
set_option maxRecDepth 100000 in
theorem c_Mo_push (v1 : Int32) (σ : nS) (hok : o_Mo_push v1 σ) : CtI l D cI cZ (wM cI cZ a) exM y_Mo_push b_Mo_push 6 { frames := 2, cells := 0, slots := 0, locals := 48 } [.ref (a 0), .int v1] σ (s_Mo_push v1 σ) := by
  generalize hF : s_Mo_push v1 σ = F
  refine metI exM_ok (by decide) (Nat.le_of_ble_eq_true rfl) (fun p e s m args below meth c A Q ls X S hl ret => ?_)
  have hq := hF.symm
  obtain ⟨hx, hb, hml, hown, hts, hK, hA, hE, hlk, hEo⟩ := id X
  have hl : lv_has ls 6 [(0, .ref (a 0)), (1, .int v1)] := hl
  have B_Mo_push_54_9 : ∀ (v1 : Int32) (v3 : Int32) (σ : nS) (H : Heap) (locs : List Loc) (ls : Array Slot), (o_Mo_push_54_9 v1 v3 σ) → lv_has ls 6 [(0, .ref (a 0)), (1, .int v1), (3, .int v3), (5, .int (9 : Int32))] → St D (wM cI cZ a) A s σ H locs → F = s_Mo_push_54_9 v1 v3 σ → W p l e ({ frames := 2, cells := 0, slots := 0, locals := 48 } : Room) s m args below meth c H locs 0 0 Q (F0 m 54 ls []) := by
    intro v1 v3 σ H locs ls hok hl S hq
    refine lv_iload hx hb d_Mo_push_54 (lv_at hl 3 rfl) ?_
    refine lv_bipush (v := 9) hx hb d_Mo_push_56 (by decide) ?_
    refine lv_icmp_ge (tgt := 104) hx hb d_Mo_push_58 rfl (fun _ => ?_) (fun h9 => absurd (by decide) h9)
    refine lv_iconst (v := 0) hx hb d_Mo_push_104 (by decide) ?_
    exact ret _ _ _ _ _ _ S hq d_Mo_push_105
  have B_Mo_push_98_8 : ∀ (v1 : Int32) (v3 : Int32) (σ : nS) (H : Heap) (locs : List Loc) (ls : Array Slot), (o_Mo_push_98_8 v1 v3 σ) → lv_has ls 6 [(0, .ref (a 0)), (1, .int v1), (3, .int v3), (5, .int (8 : Int32))] → St D (wM cI cZ a) A s σ H locs → F = s_Mo_push_98_8 v1 v3 σ → W p l e ({ frames := 2, cells := 0, slots := 0, locals := 48 } : Room) s m args below meth c H locs 0 0 Q (F0 m 98 ls []) := by
    intro v1 v3 σ H locs ls hok hl S hq
    refine lv_iinc (k := 3) (v := (9 : Int32)) hx hb d_Mo_push_98 hl rfl (by first | rfl | decide) (by decide) rfl (fun ls hl => ?_)
    refine lv_goto (tgt := 54) hx hb d_Mo_push_101 rfl ?_
    exact B_Mo_push_54_9 _ _ _ _ _ _ hok (lv_sub hl [1, 2, 3, 0] rfl) S hq
  have B_Mo_push_91_8 : ∀ (v1 : Int32) (v3 : Int32) (k1 : Int32) (σ : nS) (H : Heap) (locs : List Loc) (ls : Array Slot), (o_Mo_push_91_8 v1 v3 k1 σ) → lv_has ls 6 [(0, .ref (a 0)), (1, .int v1), (3, .int v3), (5, .int (8 : Int32))] → St D (wM cI cZ a) A s σ H locs → F = s_Mo_push_91_8 v1 v3 k1 σ → W p l e ({ frames := 2, cells := 0, slots := 0, locals := 48 } : Room) s m args below meth c H locs 0 0 Q (F0 m 91 ls [.int (14 : Int32), .ref (a 2), .int k1, .ref (a 0)]) := by
    intro v1 v3 k1 σ H locs ls hok hl S hq
    refine ld_M_2 (k := 14) hx hb hK S.1 (vin_dec (by decide)) (by decide) d_Mo_push_91 ?_
    obtain ⟨g1, hok⟩ := hok
    refine callVV X S hl (c_Mo_store k1 (σ 0 14) _ g1) v_Mo_102 0 6 ⟨rfl, rfl⟩ (rk_dec (by decide)) rfl rfl (Nat.le_of_ble_eq_true rfl) d_Mo_push_92 (fun σ1 H locs e1 S => ?_)
    have hq := hq.trans (ap1_eq e1)
    have hok := ok_ap1 e1 hok
    refine lv_iinc (k := 2) (v := (v3 + (4 : Int32))) hx hb d_Mo_push_95 hl rfl (by first | rfl | decide) (by decide) rfl (fun ls hl => ?_)
    exact B_Mo_push_98_8 _ _ _ _ _ _ hok (lv_sub hl [1, 2, 0, 3] rfl) S hq
  have B_Mo_push_54_8 : ∀ (v1 : Int32) (v3 : Int32) (σ : nS) (H : Heap) (locs : List Loc) (ls : Array Slot), (o_Mo_push_54_8 v1 v3 σ) → lv_has ls 6 [(0, .ref (a 0)), (1, .int v1), (3, .int v3), (5, .int (8 : Int32))] → St D (wM cI cZ a) A s σ H locs → F = s_Mo_push_54_8 v1 v3 σ → W p l e ({ frames := 2, cells := 0, slots := 0, locals := 48 } : Room) s m args below meth c H locs 0 0 Q (F0 m 54 ls []) := by
    intro v1 v3 σ H locs ls hok hl S hq
    refine lv_iload hx hb d_Mo_push_54 (lv_at hl 3 rfl) ?_
    refine lv_bipush (v := 9) hx hb d_Mo_push_56 (by decide) ?_
    refine lv_icmp_ge (tgt := 104) hx hb d_Mo_push_58 rfl (fun h9 => absurd h9 (by decide)) (fun _ => ?_)
    refine lv_iload_n hx hb d_Mo_push_61 rfl (lv_at hl 1 rfl) ?_
    refine lv_iload hx hb d_Mo_push_62 (lv_at hl 3 rfl) ?_
    refine lv_ishr hx hb d_Mo_push_64 ?_
    refine lv_iconst (v := 1) hx hb d_Mo_push_65 (by decide) ?_
    refine lv_iand hx hb d_Mo_push_66 ?_
    refine lv_iconst (v := 1) hx hb d_Mo_push_67 (by decide) ?_
    refine lv_icmp_ne (tgt := 98) hx hb d_Mo_push_68 rfl (fun h68 => ?_) (fun h68 => ?_)
    · have hq := hq.trans (if_neg h68)
      have hok := ok_neg h68 hok
      exact B_Mo_push_98_8 _ _ _ _ _ _ hok (lv_sub hl [0, 1, 2, 3] rfl) S hq
    · have hq := hq.trans (if_pos h68)
      have hok := ok_pos h68 hok
      refine lv_aload_n hx hb d_Mo_push_71 rfl (lv_at hl 0 rfl) ?_
      refine lv_iload_n hx hb d_Mo_push_72 rfl (lv_at hl 2 rfl) ?_
      refine lv_aload_n hx hb d_Mo_push_73 rfl (lv_at hl 0 rfl) ?_
      refine g_Mo_13 hx hb hts hown hK S.1 d_Mo_push_74 ?_
      refine lv_iload hx hb d_Mo_push_77 (lv_at hl 3 rfl) ?_
      refine lv_bipush (v := 8) hx hb d_Mo_push_79 (by decide) ?_
      refine lv_icmp_ne (tgt := 89) hx hb d_Mo_push_81 rfl (fun h9 => absurd (by decide) h9) (fun _ => ?_)
      refine lv_bipush (v := 14) hx hb d_Mo_push_84 (by decide) ?_
      refine lv_goto (tgt := 91) hx hb d_Mo_push_86 rfl ?_
      exact B_Mo_push_91_8 _ _ _ _ _ _ _ hok (lv_sub hl [0, 1, 2, 3] rfl) S hq
  have B_Mo_push_98_7 : ∀ (v1 : Int32) (v3 : Int32) (σ : nS) (H : Heap) (locs : List Loc) (ls : Array Slot), (o_Mo_push_98_7 v1 v3 σ) → lv_has ls 6 [(0, .ref (a 0)), (1, .int v1), (3, .int v3), (5, .int (7 : Int32))] → St D (wM cI cZ a) A s σ H locs → F = s_Mo_push_98_7 v1 v3 σ → W p l e ({ frames := 2, cells := 0, slots := 0, locals := 48 } : Room) s m args below meth c H locs 0 0 Q (F0 m 98 ls []) := by
    intro v1 v3 σ H locs ls hok hl S hq
    refine lv_iinc (k := 3) (v := (8 : Int32)) hx hb d_Mo_push_98 hl rfl (by first | rfl | decide) (by decide) rfl (fun ls hl => ?_)
    refine lv_goto (tgt := 54) hx hb d_Mo_push_101 rfl ?_
    exact B_Mo_push_54_8 _ _ _ _ _ _ hok (lv_sub hl [1, 2, 3, 0] rfl) S hq
  have B_Mo_push_91_7 : ∀ (v1 : Int32) (v3 : Int32) (k1 : Int32) (σ : nS) (H : Heap) (locs : List Loc) (ls : Array Slot), (o_Mo_push_91_7 v1 v3 k1 σ) → lv_has ls 6 [(0, .ref (a 0)), (1, .int v1), (3, .int v3), (5, .int (7 : Int32))] → St D (wM cI cZ a) A s σ H locs → F = s_Mo_push_91_7 v1 v3 k1 σ → W p l e ({ frames := 2, cells := 0, slots := 0, locals := 48 } : Room) s m args below meth c H locs 0 0 Q (F0 m 91 ls [.int (7 : Int32), .ref (a 2), .int k1, .ref (a 0)]) := by
    intro v1 v3 k1 σ H locs ls hok hl S hq
    refine ld_M_2 (k := 7) hx hb hK S.1 (vin_dec (by decide)) (by decide) d_Mo_push_91 ?_
    obtain ⟨g2, hok⟩ := hok
    refine callVV X S hl (c_Mo_store k1 (σ 0 7) _ g2) v_Mo_102 0 6 ⟨rfl, rfl⟩ (rk_dec (by decide)) rfl rfl (Nat.le_of_ble_eq_true rfl) d_Mo_push_92 (fun σ1 H locs e1 S => ?_)
    have hq := hq.trans (ap1_eq e1)
    have hok := ok_ap1 e1 hok
    refine lv_iinc (k := 2) (v := (v3 + (4 : Int32))) hx hb d_Mo_push_95 hl rfl (by first | rfl | decide) (by decide) rfl (fun ls hl => ?_)
    exact B_Mo_push_98_7 _ _ _ _ _ _ hok (lv_sub hl [1, 2, 0, 3] rfl) S hq
  have B_Mo_push_54_7 : ∀ (v1 : Int32) (v3 : Int32) (σ : nS) (H : Heap) (locs : List Loc) (ls : Array Slot), (o_Mo_push_54_7 v1 v3 σ) → lv_has ls 6 [(0, .ref (a 0)), (1, .int v1), (3, .int v3), (5, .int (7 : Int32))] → St D (wM cI cZ a) A s σ H locs → F = s_Mo_push_54_7 v1 v3 σ → W p l e ({ frames := 2, cells := 0, slots := 0, locals := 48 } : Room) s m args below meth c H locs 0 0 Q (F0 m 54 ls []) := by
    intro v1 v3 σ H locs ls hok hl S hq
    refine lv_iload hx hb d_Mo_push_54 (lv_at hl 3 rfl) ?_
    refine lv_bipush (v := 9) hx hb d_Mo_push_56 (by decide) ?_
    refine lv_icmp_ge (tgt := 104) hx hb d_Mo_push_58 rfl (fun h9 => absurd h9 (by decide)) (fun _ => ?_)
    refine lv_iload_n hx hb d_Mo_push_61 rfl (lv_at hl 1 rfl) ?_
    refine lv_iload hx hb d_Mo_push_62 (lv_at hl 3 rfl) ?_
    refine lv_ishr hx hb d_Mo_push_64 ?_
    refine lv_iconst (v := 1) hx hb d_Mo_push_65 (by decide) ?_
    refine lv_iand hx hb d_Mo_push_66 ?_
    refine lv_iconst (v := 1) hx hb d_Mo_push_67 (by decide) ?_
    refine lv_icmp_ne (tgt := 98) hx hb d_Mo_push_68 rfl (fun h68 => ?_) (fun h68 => ?_)
    · have hq := hq.trans (if_neg h68)
      have hok := ok_neg h68 hok
      exact B_Mo_push_98_7 _ _ _ _ _ _ hok (lv_sub hl [0, 1, 2, 3] rfl) S hq
    · have hq := hq.trans (if_pos h68)
      have hok := ok_pos h68 hok
      refine lv_aload_n hx hb d_Mo_push_71 rfl (lv_at hl 0 rfl) ?_
      refine lv_iload_n hx hb d_Mo_push_72 rfl (lv_at hl 2 rfl) ?_
      refine lv_aload_n hx hb d_Mo_push_73 rfl (lv_at hl 0 rfl) ?_
      refine g_Mo_13 hx hb hts hown hK S.1 d_Mo_push_74 ?_
      refine lv_iload hx hb d_Mo_push_77 (lv_at hl 3 rfl) ?_
      refine lv_bipush (v := 8) hx hb d_Mo_push_79 (by decide) ?_
      refine lv_icmp_ne (tgt := 89) hx hb d_Mo_push_81 rfl (fun _ => ?_) (fun h9 => absurd h9 (by decide))
      refine lv_iload hx hb d_Mo_push_89 (lv_at hl 3 rfl) ?_
      exact B_Mo_push_91_7 _ _ _ _ _ _ _ hok (lv_sub hl [0, 1, 2, 3] rfl) S hq
  have B_Mo_push_98_6 : ∀ (v1 : Int32) (v3 : Int32) (σ : nS) (H : Heap) (locs : List Loc) (ls : Array Slot), (o_Mo_push_98_6 v1 v3 σ) → lv_has ls 6 [(0, .ref (a 0)), (1, .int v1), (3, .int v3), (5, .int (6 : Int32))] → St D (wM cI cZ a) A s σ H locs → F = s_Mo_push_98_6 v1 v3 σ → W p l e ({ frames := 2, cells := 0, slots := 0, locals := 48 } : Room) s m args below meth c H locs 0 0 Q (F0 m 98 ls []) := by
    intro v1 v3 σ H locs ls hok hl S hq
    refine lv_iinc (k := 3) (v := (7 : Int32)) hx hb d_Mo_push_98 hl rfl (by first | rfl | decide) (by decide) rfl (fun ls hl => ?_)
    refine lv_goto (tgt := 54) hx hb d_Mo_push_101 rfl ?_
    exact B_Mo_push_54_7 _ _ _ _ _ _ hok (lv_sub hl [1, 2, 3, 0] rfl) S hq
  have B_Mo_push_91_6 : ∀ (v1 : Int32) (v3 : Int32) (k1 : Int32) (σ : nS) (H : Heap) (locs : List Loc) (ls : Array Slot), (o_Mo_push_91_6 v1 v3 k1 σ) → lv_has ls 6 [(0, .ref (a 0)), (1, .int v1), (3, .int v3), (5, .int (6 : Int32))] → St D (wM cI cZ a) A s σ H locs → F = s_Mo_push_91_6 v1 v3 k1 σ → W p l e ({ frames := 2, cells := 0, slots := 0, locals := 48 } : Room) s m args below meth c H locs 0 0 Q (F0 m 91 ls [.int (6 : Int32), .ref (a 2), .int k1, .ref (a 0)]) := by
    intro v1 v3 k1 σ H locs ls hok hl S hq
    refine ld_M_2 (k := 6) hx hb hK S.1 (vin_dec (by decide)) (by decide) d_Mo_push_91 ?_
    obtain ⟨g3, hok⟩ := hok
    refine callVV X S hl (c_Mo_store k1 (σ 0 6) _ g3) v_Mo_102 0 6 ⟨rfl, rfl⟩ (rk_dec (by decide)) rfl rfl (Nat.le_of_ble_eq_true rfl) d_Mo_push_92 (fun σ1 H locs e1 S => ?_)
    have hq := hq.trans (ap1_eq e1)
    have hok := ok_ap1 e1 hok
    refine lv_iinc (k := 2) (v := (v3 + (4 : Int32))) hx hb d_Mo_push_95 hl rfl (by first | rfl | decide) (by decide) rfl (fun ls hl => ?_)
    exact B_Mo_push_98_6 _ _ _ _ _ _ hok (lv_sub hl [1, 2, 0, 3] rfl) S hq
  have B_Mo_push_54_6 : ∀ (v1 : Int32) (v3 : Int32) (σ : nS) (H : Heap) (locs : List Loc) (ls : Array Slot), (o_Mo_push_54_6 v1 v3 σ) → lv_has ls 6 [(0, .ref (a 0)), (1, .int v1), (3, .int v3), (5, .int (6 : Int32))] → St D (wM cI cZ a) A s σ H locs → F = s_Mo_push_54_6 v1 v3 σ → W p l e ({ frames := 2, cells := 0, slots := 0, locals := 48 } : Room) s m args below meth c H locs 0 0 Q (F0 m 54 ls []) := by
    intro v1 v3 σ H locs ls hok hl S hq
    refine lv_iload hx hb d_Mo_push_54 (lv_at hl 3 rfl) ?_
    refine lv_bipush (v := 9) hx hb d_Mo_push_56 (by decide) ?_
    refine lv_icmp_ge (tgt := 104) hx hb d_Mo_push_58 rfl (fun h9 => absurd h9 (by decide)) (fun _ => ?_)
    refine lv_iload_n hx hb d_Mo_push_61 rfl (lv_at hl 1 rfl) ?_
    refine lv_iload hx hb d_Mo_push_62 (lv_at hl 3 rfl) ?_
    refine lv_ishr hx hb d_Mo_push_64 ?_
    refine lv_iconst (v := 1) hx hb d_Mo_push_65 (by decide) ?_
    refine lv_iand hx hb d_Mo_push_66 ?_
    refine lv_iconst (v := 1) hx hb d_Mo_push_67 (by decide) ?_
    refine lv_icmp_ne (tgt := 98) hx hb d_Mo_push_68 rfl (fun h68 => ?_) (fun h68 => ?_)
    · have hq := hq.trans (if_neg h68)
      have hok := ok_neg h68 hok
      exact B_Mo_push_98_6 _ _ _ _ _ _ hok (lv_sub hl [0, 1, 2, 3] rfl) S hq
    · have hq := hq.trans (if_pos h68)
      have hok := ok_pos h68 hok
      refine lv_aload_n hx hb d_Mo_push_71 rfl (lv_at hl 0 rfl) ?_
      refine lv_iload_n hx hb d_Mo_push_72 rfl (lv_at hl 2 rfl) ?_
      refine lv_aload_n hx hb d_Mo_push_73 rfl (lv_at hl 0 rfl) ?_
      refine g_Mo_13 hx hb hts hown hK S.1 d_Mo_push_74 ?_
      refine lv_iload hx hb d_Mo_push_77 (lv_at hl 3 rfl) ?_
      refine lv_bipush (v := 8) hx hb d_Mo_push_79 (by decide) ?_
      refine lv_icmp_ne (tgt := 89) hx hb d_Mo_push_81 rfl (fun _ => ?_) (fun h9 => absurd h9 (by decide))
      refine lv_iload hx hb d_Mo_push_89 (lv_at hl 3 rfl) ?_
      exact B_Mo_push_91_6 _ _ _ _ _ _ _ hok (lv_sub hl [0, 1, 2, 3] rfl) S hq
  have B_Mo_push_98_5 : ∀ (v1 : Int32) (v3 : Int32) (σ : nS) (H : Heap) (locs : List Loc) (ls : Array Slot), (o_Mo_push_98_5 v1 v3 σ) → lv_has ls 6 [(0, .ref (a 0)), (1, .int v1), (3, .int v3), (5, .int (5 : Int32))] → St D (wM cI cZ a) A s σ H locs → F = s_Mo_push_98_5 v1 v3 σ → W p l e ({ frames := 2, cells := 0, slots := 0, locals := 48 } : Room) s m args below meth c H locs 0 0 Q (F0 m 98 ls []) := by
    intro v1 v3 σ H locs ls hok hl S hq
    refine lv_iinc (k := 3) (v := (6 : Int32)) hx hb d_Mo_push_98 hl rfl (by first | rfl | decide) (by decide) rfl (fun ls hl => ?_)
    refine lv_goto (tgt := 54) hx hb d_Mo_push_101 rfl ?_
    exact B_Mo_push_54_6 _ _ _ _ _ _ hok (lv_sub hl [1, 2, 3, 0] rfl) S hq
  have B_Mo_push_91_5 : ∀ (v1 : Int32) (v3 : Int32) (k1 : Int32) (σ : nS) (H : Heap) (locs : List Loc) (ls : Array Slot), (o_Mo_push_91_5 v1 v3 k1 σ) → lv_has ls 6 [(0, .ref (a 0)), (1, .int v1), (3, .int v3), (5, .int (5 : Int32))] → St D (wM cI cZ a) A s σ H locs → F = s_Mo_push_91_5 v1 v3 k1 σ → W p l e ({ frames := 2, cells := 0, slots := 0, locals := 48 } : Room) s m args below meth c H locs 0 0 Q (F0 m 91 ls [.int (5 : Int32), .ref (a 2), .int k1, .ref (a 0)]) := by
    intro v1 v3 k1 σ H locs ls hok hl S hq
    refine ld_M_2 (k := 5) hx hb hK S.1 (vin_dec (by decide)) (by decide) d_Mo_push_91 ?_
    obtain ⟨g4, hok⟩ := hok
    refine callVV X S hl (c_Mo_store k1 (σ 0 5) _ g4) v_Mo_102 0 6 ⟨rfl, rfl⟩ (rk_dec (by decide)) rfl rfl (Nat.le_of_ble_eq_true rfl) d_Mo_push_92 (fun σ1 H locs e1 S => ?_)
    have hq := hq.trans (ap1_eq e1)
    have hok := ok_ap1 e1 hok
    refine lv_iinc (k := 2) (v := (v3 + (4 : Int32))) hx hb d_Mo_push_95 hl rfl (by first | rfl | decide) (by decide) rfl (fun ls hl => ?_)
    exact B_Mo_push_98_5 _ _ _ _ _ _ hok (lv_sub hl [1, 2, 0, 3] rfl) S hq
  have B_Mo_push_54_5 : ∀ (v1 : Int32) (v3 : Int32) (σ : nS) (H : Heap) (locs : List Loc) (ls : Array Slot), (o_Mo_push_54_5 v1 v3 σ) → lv_has ls 6 [(0, .ref (a 0)), (1, .int v1), (3, .int v3), (5, .int (5 : Int32))] → St D (wM cI cZ a) A s σ H locs → F = s_Mo_push_54_5 v1 v3 σ → W p l e ({ frames := 2, cells := 0, slots := 0, locals := 48 } : Room) s m args below meth c H locs 0 0 Q (F0 m 54 ls []) := by
    intro v1 v3 σ H locs ls hok hl S hq
    refine lv_iload hx hb d_Mo_push_54 (lv_at hl 3 rfl) ?_
    refine lv_bipush (v := 9) hx hb d_Mo_push_56 (by decide) ?_
    refine lv_icmp_ge (tgt := 104) hx hb d_Mo_push_58 rfl (fun h9 => absurd h9 (by decide)) (fun _ => ?_)
    refine lv_iload_n hx hb d_Mo_push_61 rfl (lv_at hl 1 rfl) ?_
    refine lv_iload hx hb d_Mo_push_62 (lv_at hl 3 rfl) ?_
    refine lv_ishr hx hb d_Mo_push_64 ?_
    refine lv_iconst (v := 1) hx hb d_Mo_push_65 (by decide) ?_
    refine lv_iand hx hb d_Mo_push_66 ?_
    refine lv_iconst (v := 1) hx hb d_Mo_push_67 (by decide) ?_
    refine lv_icmp_ne (tgt := 98) hx hb d_Mo_push_68 rfl (fun h68 => ?_) (fun h68 => ?_)
    · have hq := hq.trans (if_neg h68)
      have hok := ok_neg h68 hok
      exact B_Mo_push_98_5 _ _ _ _ _ _ hok (lv_sub hl [0, 1, 2, 3] rfl) S hq
    · have hq := hq.trans (if_pos h68)
      have hok := ok_pos h68 hok
      refine lv_aload_n hx hb d_Mo_push_71 rfl (lv_at hl 0 rfl) ?_
      refine lv_iload_n hx hb d_Mo_push_72 rfl (lv_at hl 2 rfl) ?_
      refine lv_aload_n hx hb d_Mo_push_73 rfl (lv_at hl 0 rfl) ?_
      refine g_Mo_13 hx hb hts hown hK S.1 d_Mo_push_74 ?_
      refine lv_iload hx hb d_Mo_push_77 (lv_at hl 3 rfl) ?_
      refine lv_bipush (v := 8) hx hb d_Mo_push_79 (by decide) ?_
      refine lv_icmp_ne (tgt := 89) hx hb d_Mo_push_81 rfl (fun _ => ?_) (fun h9 => absurd h9 (by decide))
      refine lv_iload hx hb d_Mo_push_89 (lv_at hl 3 rfl) ?_
      exact B_Mo_push_91_5 _ _ _ _ _ _ _ hok (lv_sub hl [0, 1, 2, 3] rfl) S hq
  have B_Mo_push_98_4 : ∀ (v1 : Int32) (v3 : Int32) (σ : nS) (H : Heap) (locs : List Loc) (ls : Array Slot), (o_Mo_push_98_4 v1 v3 σ) → lv_has ls 6 [(0, .ref (a 0)), (1, .int v1), (3, .int v3), (5, .int (4 : Int32))] → St D (wM cI cZ a) A s σ H locs → F = s_Mo_push_98_4 v1 v3 σ → W p l e ({ frames := 2, cells := 0, slots := 0, locals := 48 } : Room) s m args below meth c H locs 0 0 Q (F0 m 98 ls []) := by
    intro v1 v3 σ H locs ls hok hl S hq
    refine lv_iinc (k := 3) (v := (5 : Int32)) hx hb d_Mo_push_98 hl rfl (by first | rfl | decide) (by decide) rfl (fun ls hl => ?_)
    refine lv_goto (tgt := 54) hx hb d_Mo_push_101 rfl ?_
    exact B_Mo_push_54_5 _ _ _ _ _ _ hok (lv_sub hl [1, 2, 3, 0] rfl) S hq
  have B_Mo_push_91_4 : ∀ (v1 : Int32) (v3 : Int32) (k1 : Int32) (σ : nS) (H : Heap) (locs : List Loc) (ls : Array Slot), (o_Mo_push_91_4 v1 v3 k1 σ) → lv_has ls 6 [(0, .ref (a 0)), (1, .int v1), (3, .int v3), (5, .int (4 : Int32))] → St D (wM cI cZ a) A s σ H locs → F = s_Mo_push_91_4 v1 v3 k1 σ → W p l e ({ frames := 2, cells := 0, slots := 0, locals := 48 } : Room) s m args below meth c H locs 0 0 Q (F0 m 91 ls [.int (4 : Int32), .ref (a 2), .int k1, .ref (a 0)]) := by
    intro v1 v3 k1 σ H locs ls hok hl S hq
    refine ld_M_2 (k := 4) hx hb hK S.1 (vin_dec (by decide)) (by decide) d_Mo_push_91 ?_
    obtain ⟨g5, hok⟩ := hok
    refine callVV X S hl (c_Mo_store k1 (σ 0 4) _ g5) v_Mo_102 0 6 ⟨rfl, rfl⟩ (rk_dec (by decide)) rfl rfl (Nat.le_of_ble_eq_true rfl) d_Mo_push_92 (fun σ1 H locs e1 S => ?_)
    have hq := hq.trans (ap1_eq e1)
    have hok := ok_ap1 e1 hok
    refine lv_iinc (k := 2) (v := (v3 + (4 : Int32))) hx hb d_Mo_push_95 hl rfl (by first | rfl | decide) (by decide) rfl (fun ls hl => ?_)
    exact B_Mo_push_98_4 _ _ _ _ _ _ hok (lv_sub hl [1, 2, 0, 3] rfl) S hq
  have B_Mo_push_54_4 : ∀ (v1 : Int32) (v3 : Int32) (σ : nS) (H : Heap) (locs : List Loc) (ls : Array Slot), (o_Mo_push_54_4 v1 v3 σ) → lv_has ls 6 [(0, .ref (a 0)), (1, .int v1), (3, .int v3), (5, .int (4 : Int32))] → St D (wM cI cZ a) A s σ H locs → F = s_Mo_push_54_4 v1 v3 σ → W p l e ({ frames := 2, cells := 0, slots := 0, locals := 48 } : Room) s m args below meth c H locs 0 0 Q (F0 m 54 ls []) := by
    intro v1 v3 σ H locs ls hok hl S hq
    refine lv_iload hx hb d_Mo_push_54 (lv_at hl 3 rfl) ?_
    refine lv_bipush (v := 9) hx hb d_Mo_push_56 (by decide) ?_
    refine lv_icmp_ge (tgt := 104) hx hb d_Mo_push_58 rfl (fun h9 => absurd h9 (by decide)) (fun _ => ?_)
    refine lv_iload_n hx hb d_Mo_push_61 rfl (lv_at hl 1 rfl) ?_
    refine lv_iload hx hb d_Mo_push_62 (lv_at hl 3 rfl) ?_
    refine lv_ishr hx hb d_Mo_push_64 ?_
    refine lv_iconst (v := 1) hx hb d_Mo_push_65 (by decide) ?_
    refine lv_iand hx hb d_Mo_push_66 ?_
    refine lv_iconst (v := 1) hx hb d_Mo_push_67 (by decide) ?_
    refine lv_icmp_ne (tgt := 98) hx hb d_Mo_push_68 rfl (fun h68 => ?_) (fun h68 => ?_)
    · have hq := hq.trans (if_neg h68)
      have hok := ok_neg h68 hok
      exact B_Mo_push_98_4 _ _ _ _ _ _ hok (lv_sub hl [0, 1, 2, 3] rfl) S hq
    · have hq := hq.trans (if_pos h68)
      have hok := ok_pos h68 hok
      refine lv_aload_n hx hb d_Mo_push_71 rfl (lv_at hl 0 rfl) ?_
      refine lv_iload_n hx hb d_Mo_push_72 rfl (lv_at hl 2 rfl) ?_
      refine lv_aload_n hx hb d_Mo_push_73 rfl (lv_at hl 0 rfl) ?_
      refine g_Mo_13 hx hb hts hown hK S.1 d_Mo_push_74 ?_
      refine lv_iload hx hb d_Mo_push_77 (lv_at hl 3 rfl) ?_
      refine lv_bipush (v := 8) hx hb d_Mo_push_79 (by decide) ?_
      refine lv_icmp_ne (tgt := 89) hx hb d_Mo_push_81 rfl (fun _ => ?_) (fun h9 => absurd h9 (by decide))
      refine lv_iload hx hb d_Mo_push_89 (lv_at hl 3 rfl) ?_
      exact B_Mo_push_91_4 _ _ _ _ _ _ _ hok (lv_sub hl [0, 1, 2, 3] rfl) S hq
  have B_Mo_push_98_3 : ∀ (v1 : Int32) (v3 : Int32) (σ : nS) (H : Heap) (locs : List Loc) (ls : Array Slot), (o_Mo_push_98_3 v1 v3 σ) → lv_has ls 6 [(0, .ref (a 0)), (1, .int v1), (3, .int v3), (5, .int (3 : Int32))] → St D (wM cI cZ a) A s σ H locs → F = s_Mo_push_98_3 v1 v3 σ → W p l e ({ frames := 2, cells := 0, slots := 0, locals := 48 } : Room) s m args below meth c H locs 0 0 Q (F0 m 98 ls []) := by
    intro v1 v3 σ H locs ls hok hl S hq
    refine lv_iinc (k := 3) (v := (4 : Int32)) hx hb d_Mo_push_98 hl rfl (by first | rfl | decide) (by decide) rfl (fun ls hl => ?_)
    refine lv_goto (tgt := 54) hx hb d_Mo_push_101 rfl ?_
    exact B_Mo_push_54_4 _ _ _ _ _ _ hok (lv_sub hl [1, 2, 3, 0] rfl) S hq
  have B_Mo_push_91_3 : ∀ (v1 : Int32) (v3 : Int32) (k1 : Int32) (σ : nS) (H : Heap) (locs : List Loc) (ls : Array Slot), (o_Mo_push_91_3 v1 v3 k1 σ) → lv_has ls 6 [(0, .ref (a 0)), (1, .int v1), (3, .int v3), (5, .int (3 : Int32))] → St D (wM cI cZ a) A s σ H locs → F = s_Mo_push_91_3 v1 v3 k1 σ → W p l e ({ frames := 2, cells := 0, slots := 0, locals := 48 } : Room) s m args below meth c H locs 0 0 Q (F0 m 91 ls [.int (3 : Int32), .ref (a 2), .int k1, .ref (a 0)]) := by
    intro v1 v3 k1 σ H locs ls hok hl S hq
    refine ld_M_2 (k := 3) hx hb hK S.1 (vin_dec (by decide)) (by decide) d_Mo_push_91 ?_
    obtain ⟨g6, hok⟩ := hok
    refine callVV X S hl (c_Mo_store k1 (σ 0 3) _ g6) v_Mo_102 0 6 ⟨rfl, rfl⟩ (rk_dec (by decide)) rfl rfl (Nat.le_of_ble_eq_true rfl) d_Mo_push_92 (fun σ1 H locs e1 S => ?_)
    have hq := hq.trans (ap1_eq e1)
    have hok := ok_ap1 e1 hok
    refine lv_iinc (k := 2) (v := (v3 + (4 : Int32))) hx hb d_Mo_push_95 hl rfl (by first | rfl | decide) (by decide) rfl (fun ls hl => ?_)
    exact B_Mo_push_98_3 _ _ _ _ _ _ hok (lv_sub hl [1, 2, 0, 3] rfl) S hq
  have B_Mo_push_54_3 : ∀ (v1 : Int32) (v3 : Int32) (σ : nS) (H : Heap) (locs : List Loc) (ls : Array Slot), (o_Mo_push_54_3 v1 v3 σ) → lv_has ls 6 [(0, .ref (a 0)), (1, .int v1), (3, .int v3), (5, .int (3 : Int32))] → St D (wM cI cZ a) A s σ H locs → F = s_Mo_push_54_3 v1 v3 σ → W p l e ({ frames := 2, cells := 0, slots := 0, locals := 48 } : Room) s m args below meth c H locs 0 0 Q (F0 m 54 ls []) := by
    intro v1 v3 σ H locs ls hok hl S hq
    refine lv_iload hx hb d_Mo_push_54 (lv_at hl 3 rfl) ?_
    refine lv_bipush (v := 9) hx hb d_Mo_push_56 (by decide) ?_
    refine lv_icmp_ge (tgt := 104) hx hb d_Mo_push_58 rfl (fun h9 => absurd h9 (by decide)) (fun _ => ?_)
    refine lv_iload_n hx hb d_Mo_push_61 rfl (lv_at hl 1 rfl) ?_
    refine lv_iload hx hb d_Mo_push_62 (lv_at hl 3 rfl) ?_
    refine lv_ishr hx hb d_Mo_push_64 ?_
    refine lv_iconst (v := 1) hx hb d_Mo_push_65 (by decide) ?_
    refine lv_iand hx hb d_Mo_push_66 ?_
    refine lv_iconst (v := 1) hx hb d_Mo_push_67 (by decide) ?_
    refine lv_icmp_ne (tgt := 98) hx hb d_Mo_push_68 rfl (fun h68 => ?_) (fun h68 => ?_)
    · have hq := hq.trans (if_neg h68)
      have hok := ok_neg h68 hok
      exact B_Mo_push_98_3 _ _ _ _ _ _ hok (lv_sub hl [0, 1, 2, 3] rfl) S hq
    · have hq := hq.trans (if_pos h68)
      have hok := ok_pos h68 hok
      refine lv_aload_n hx hb d_Mo_push_71 rfl (lv_at hl 0 rfl) ?_
      refine lv_iload_n hx hb d_Mo_push_72 rfl (lv_at hl 2 rfl) ?_
      refine lv_aload_n hx hb d_Mo_push_73 rfl (lv_at hl 0 rfl) ?_
      refine g_Mo_13 hx hb hts hown hK S.1 d_Mo_push_74 ?_
      refine lv_iload hx hb d_Mo_push_77 (lv_at hl 3 rfl) ?_
      refine lv_bipush (v := 8) hx hb d_Mo_push_79 (by decide) ?_
      refine lv_icmp_ne (tgt := 89) hx hb d_Mo_push_81 rfl (fun _ => ?_) (fun h9 => absurd h9 (by decide))
      refine lv_iload hx hb d_Mo_push_89 (lv_at hl 3 rfl) ?_
      exact B_Mo_push_91_3 _ _ _ _ _ _ _ hok (lv_sub hl [0, 1, 2, 3] rfl) S hq
  have B_Mo_push_98_2 : ∀ (v1 : Int32) (v3 : Int32) (σ : nS) (H : Heap) (locs : List Loc) (ls : Array Slot), (o_Mo_push_98_2 v1 v3 σ) → lv_has ls 6 [(0, .ref (a 0)), (1, .int v1), (3, .int v3), (5, .int (2 : Int32))] → St D (wM cI cZ a) A s σ H locs → F = s_Mo_push_98_2 v1 v3 σ → W p l e ({ frames := 2, cells := 0, slots := 0, locals := 48 } : Room) s m args below meth c H locs 0 0 Q (F0 m 98 ls []) := by
    intro v1 v3 σ H locs ls hok hl S hq
    refine lv_iinc (k := 3) (v := (3 : Int32)) hx hb d_Mo_push_98 hl rfl (by first | rfl | decide) (by decide) rfl (fun ls hl => ?_)
    refine lv_goto (tgt := 54) hx hb d_Mo_push_101 rfl ?_
    exact B_Mo_push_54_3 _ _ _ _ _ _ hok (lv_sub hl [1, 2, 3, 0] rfl) S hq
  have B_Mo_push_91_2 : ∀ (v1 : Int32) (v3 : Int32) (k1 : Int32) (σ : nS) (H : Heap) (locs : List Loc) (ls : Array Slot), (o_Mo_push_91_2 v1 v3 k1 σ) → lv_has ls 6 [(0, .ref (a 0)), (1, .int v1), (3, .int v3), (5, .int (2 : Int32))] → St D (wM cI cZ a) A s σ H locs → F = s_Mo_push_91_2 v1 v3 k1 σ → W p l e ({ frames := 2, cells := 0, slots := 0, locals := 48 } : Room) s m args below meth c H locs 0 0 Q (F0 m 91 ls [.int (2 : Int32), .ref (a 2), .int k1, .ref (a 0)]) := by
    intro v1 v3 k1 σ H locs ls hok hl S hq
    refine ld_M_2 (k := 2) hx hb hK S.1 (vin_dec (by decide)) (by decide) d_Mo_push_91 ?_
    obtain ⟨g7, hok⟩ := hok
    refine callVV X S hl (c_Mo_store k1 (σ 0 2) _ g7) v_Mo_102 0 6 ⟨rfl, rfl⟩ (rk_dec (by decide)) rfl rfl (Nat.le_of_ble_eq_true rfl) d_Mo_push_92 (fun σ1 H locs e1 S => ?_)
    have hq := hq.trans (ap1_eq e1)
    have hok := ok_ap1 e1 hok
    refine lv_iinc (k := 2) (v := (v3 + (4 : Int32))) hx hb d_Mo_push_95 hl rfl (by first | rfl | decide) (by decide) rfl (fun ls hl => ?_)
    exact B_Mo_push_98_2 _ _ _ _ _ _ hok (lv_sub hl [1, 2, 0, 3] rfl) S hq
  have B_Mo_push_54_2 : ∀ (v1 : Int32) (v3 : Int32) (σ : nS) (H : Heap) (locs : List Loc) (ls : Array Slot), (o_Mo_push_54_2 v1 v3 σ) → lv_has ls 6 [(0, .ref (a 0)), (1, .int v1), (3, .int v3), (5, .int (2 : Int32))] → St D (wM cI cZ a) A s σ H locs → F = s_Mo_push_54_2 v1 v3 σ → W p l e ({ frames := 2, cells := 0, slots := 0, locals := 48 } : Room) s m args below meth c H locs 0 0 Q (F0 m 54 ls []) := by
    intro v1 v3 σ H locs ls hok hl S hq
    refine lv_iload hx hb d_Mo_push_54 (lv_at hl 3 rfl) ?_
    refine lv_bipush (v := 9) hx hb d_Mo_push_56 (by decide) ?_
    refine lv_icmp_ge (tgt := 104) hx hb d_Mo_push_58 rfl (fun h9 => absurd h9 (by decide)) (fun _ => ?_)
    refine lv_iload_n hx hb d_Mo_push_61 rfl (lv_at hl 1 rfl) ?_
    refine lv_iload hx hb d_Mo_push_62 (lv_at hl 3 rfl) ?_
    refine lv_ishr hx hb d_Mo_push_64 ?_
    refine lv_iconst (v := 1) hx hb d_Mo_push_65 (by decide) ?_
    refine lv_iand hx hb d_Mo_push_66 ?_
    refine lv_iconst (v := 1) hx hb d_Mo_push_67 (by decide) ?_
    refine lv_icmp_ne (tgt := 98) hx hb d_Mo_push_68 rfl (fun h68 => ?_) (fun h68 => ?_)
    · have hq := hq.trans (if_neg h68)
      have hok := ok_neg h68 hok
      exact B_Mo_push_98_2 _ _ _ _ _ _ hok (lv_sub hl [0, 1, 2, 3] rfl) S hq
    · have hq := hq.trans (if_pos h68)
      have hok := ok_pos h68 hok
      refine lv_aload_n hx hb d_Mo_push_71 rfl (lv_at hl 0 rfl) ?_
      refine lv_iload_n hx hb d_Mo_push_72 rfl (lv_at hl 2 rfl) ?_
      refine lv_aload_n hx hb d_Mo_push_73 rfl (lv_at hl 0 rfl) ?_
      refine g_Mo_13 hx hb hts hown hK S.1 d_Mo_push_74 ?_
      refine lv_iload hx hb d_Mo_push_77 (lv_at hl 3 rfl) ?_
      refine lv_bipush (v := 8) hx hb d_Mo_push_79 (by decide) ?_
      refine lv_icmp_ne (tgt := 89) hx hb d_Mo_push_81 rfl (fun _ => ?_) (fun h9 => absurd h9 (by decide))
      refine lv_iload hx hb d_Mo_push_89 (lv_at hl 3 rfl) ?_
      exact B_Mo_push_91_2 _ _ _ _ _ _ _ hok (lv_sub hl [0, 1, 2, 3] rfl) S hq
  have B_Mo_push_98_1 : ∀ (v1 : Int32) (v3 : Int32) (σ : nS) (H : Heap) (locs : List Loc) (ls : Array Slot), (o_Mo_push_98_1 v1 v3 σ) → lv_has ls 6 [(0, .ref (a 0)), (1, .int v1), (3, .int v3), (5, .int (1 : Int32))] → St D (wM cI cZ a) A s σ H locs → F = s_Mo_push_98_1 v1 v3 σ → W p l e ({ frames := 2, cells := 0, slots := 0, locals := 48 } : Room) s m args below meth c H locs 0 0 Q (F0 m 98 ls []) := by
    intro v1 v3 σ H locs ls hok hl S hq
    refine lv_iinc (k := 3) (v := (2 : Int32)) hx hb d_Mo_push_98 hl rfl (by first | rfl | decide) (by decide) rfl (fun ls hl => ?_)
    refine lv_goto (tgt := 54) hx hb d_Mo_push_101 rfl ?_
    exact B_Mo_push_54_2 _ _ _ _ _ _ hok (lv_sub hl [1, 2, 3, 0] rfl) S hq
  have B_Mo_push_91_1 : ∀ (v1 : Int32) (v3 : Int32) (k1 : Int32) (σ : nS) (H : Heap) (locs : List Loc) (ls : Array Slot), (o_Mo_push_91_1 v1 v3 k1 σ) → lv_has ls 6 [(0, .ref (a 0)), (1, .int v1), (3, .int v3), (5, .int (1 : Int32))] → St D (wM cI cZ a) A s σ H locs → F = s_Mo_push_91_1 v1 v3 k1 σ → W p l e ({ frames := 2, cells := 0, slots := 0, locals := 48 } : Room) s m args below meth c H locs 0 0 Q (F0 m 91 ls [.int (1 : Int32), .ref (a 2), .int k1, .ref (a 0)]) := by
    intro v1 v3 k1 σ H locs ls hok hl S hq
    refine ld_M_2 (k := 1) hx hb hK S.1 (vin_dec (by decide)) (by decide) d_Mo_push_91 ?_
    obtain ⟨g8, hok⟩ := hok
    refine callVV X S hl (c_Mo_store k1 (σ 0 1) _ g8) v_Mo_102 0 6 ⟨rfl, rfl⟩ (rk_dec (by decide)) rfl rfl (Nat.le_of_ble_eq_true rfl) d_Mo_push_92 (fun σ1 H locs e1 S => ?_)
    have hq := hq.trans (ap1_eq e1)
    have hok := ok_ap1 e1 hok
    refine lv_iinc (k := 2) (v := (v3 + (4 : Int32))) hx hb d_Mo_push_95 hl rfl (by first | rfl | decide) (by decide) rfl (fun ls hl => ?_)
    exact B_Mo_push_98_1 _ _ _ _ _ _ hok (lv_sub hl [1, 2, 0, 3] rfl) S hq
  have B_Mo_push_54_1 : ∀ (v1 : Int32) (v3 : Int32) (σ : nS) (H : Heap) (locs : List Loc) (ls : Array Slot), (o_Mo_push_54_1 v1 v3 σ) → lv_has ls 6 [(0, .ref (a 0)), (1, .int v1), (3, .int v3), (5, .int (1 : Int32))] → St D (wM cI cZ a) A s σ H locs → F = s_Mo_push_54_1 v1 v3 σ → W p l e ({ frames := 2, cells := 0, slots := 0, locals := 48 } : Room) s m args below meth c H locs 0 0 Q (F0 m 54 ls []) := by
    intro v1 v3 σ H locs ls hok hl S hq
    refine lv_iload hx hb d_Mo_push_54 (lv_at hl 3 rfl) ?_
    refine lv_bipush (v := 9) hx hb d_Mo_push_56 (by decide) ?_
    refine lv_icmp_ge (tgt := 104) hx hb d_Mo_push_58 rfl (fun h9 => absurd h9 (by decide)) (fun _ => ?_)
    refine lv_iload_n hx hb d_Mo_push_61 rfl (lv_at hl 1 rfl) ?_
    refine lv_iload hx hb d_Mo_push_62 (lv_at hl 3 rfl) ?_
    refine lv_ishr hx hb d_Mo_push_64 ?_
    refine lv_iconst (v := 1) hx hb d_Mo_push_65 (by decide) ?_
    refine lv_iand hx hb d_Mo_push_66 ?_
    refine lv_iconst (v := 1) hx hb d_Mo_push_67 (by decide) ?_
    refine lv_icmp_ne (tgt := 98) hx hb d_Mo_push_68 rfl (fun h68 => ?_) (fun h68 => ?_)
    · have hq := hq.trans (if_neg h68)
      have hok := ok_neg h68 hok
      exact B_Mo_push_98_1 _ _ _ _ _ _ hok (lv_sub hl [0, 1, 2, 3] rfl) S hq
    · have hq := hq.trans (if_pos h68)
      have hok := ok_pos h68 hok
      refine lv_aload_n hx hb d_Mo_push_71 rfl (lv_at hl 0 rfl) ?_
      refine lv_iload_n hx hb d_Mo_push_72 rfl (lv_at hl 2 rfl) ?_
      refine lv_aload_n hx hb d_Mo_push_73 rfl (lv_at hl 0 rfl) ?_
      refine g_Mo_13 hx hb hts hown hK S.1 d_Mo_push_74 ?_
      refine lv_iload hx hb d_Mo_push_77 (lv_at hl 3 rfl) ?_
      refine lv_bipush (v := 8) hx hb d_Mo_push_79 (by decide) ?_
      refine lv_icmp_ne (tgt := 89) hx hb d_Mo_push_81 rfl (fun _ => ?_) (fun h9 => absurd h9 (by decide))
      refine lv_iload hx hb d_Mo_push_89 (lv_at hl 3 rfl) ?_
      exact B_Mo_push_91_1 _ _ _ _ _ _ _ hok (lv_sub hl [0, 1, 2, 3] rfl) S hq
  have B_Mo_push_98_0 : ∀ (v1 : Int32) (v3 : Int32) (σ : nS) (H : Heap) (locs : List Loc) (ls : Array Slot), (o_Mo_push_98_0 v1 v3 σ) → lv_has ls 6 [(0, .ref (a 0)), (1, .int v1), (3, .int v3), (5, .int (0 : Int32))] → St D (wM cI cZ a) A s σ H locs → F = s_Mo_push_98_0 v1 v3 σ → W p l e ({ frames := 2, cells := 0, slots := 0, locals := 48 } : Room) s m args below meth c H locs 0 0 Q (F0 m 98 ls []) := by
    intro v1 v3 σ H locs ls hok hl S hq
    refine lv_iinc (k := 3) (v := (1 : Int32)) hx hb d_Mo_push_98 hl rfl (by first | rfl | decide) (by decide) rfl (fun ls hl => ?_)
    refine lv_goto (tgt := 54) hx hb d_Mo_push_101 rfl ?_
    exact B_Mo_push_54_1 _ _ _ _ _ _ hok (lv_sub hl [1, 2, 3, 0] rfl) S hq
  have B_Mo_push_91_0 : ∀ (v1 : Int32) (v3 : Int32) (k1 : Int32) (σ : nS) (H : Heap) (locs : List Loc) (ls : Array Slot), (o_Mo_push_91_0 v1 v3 k1 σ) → lv_has ls 6 [(0, .ref (a 0)), (1, .int v1), (3, .int v3), (5, .int (0 : Int32))] → St D (wM cI cZ a) A s σ H locs → F = s_Mo_push_91_0 v1 v3 k1 σ → W p l e ({ frames := 2, cells := 0, slots := 0, locals := 48 } : Room) s m args below meth c H locs 0 0 Q (F0 m 91 ls [.int (0 : Int32), .ref (a 2), .int k1, .ref (a 0)]) := by
    intro v1 v3 k1 σ H locs ls hok hl S hq
    refine ld_M_2 (k := 0) hx hb hK S.1 (vin_dec (by decide)) (by decide) d_Mo_push_91 ?_
    obtain ⟨g9, hok⟩ := hok
    refine callVV X S hl (c_Mo_store k1 (σ 0 0) _ g9) v_Mo_102 0 6 ⟨rfl, rfl⟩ (rk_dec (by decide)) rfl rfl (Nat.le_of_ble_eq_true rfl) d_Mo_push_92 (fun σ1 H locs e1 S => ?_)
    have hq := hq.trans (ap1_eq e1)
    have hok := ok_ap1 e1 hok
    refine lv_iinc (k := 2) (v := (v3 + (4 : Int32))) hx hb d_Mo_push_95 hl rfl (by first | rfl | decide) (by decide) rfl (fun ls hl => ?_)
    exact B_Mo_push_98_0 _ _ _ _ _ _ hok (lv_sub hl [1, 2, 0, 3] rfl) S hq
  have B_Mo_push_54_0 : ∀ (v1 : Int32) (v3 : Int32) (σ : nS) (H : Heap) (locs : List Loc) (ls : Array Slot), (o_Mo_push_54_0 v1 v3 σ) → lv_has ls 6 [(0, .ref (a 0)), (1, .int v1), (3, .int v3), (5, .int (0 : Int32))] → St D (wM cI cZ a) A s σ H locs → F = s_Mo_push_54_0 v1 v3 σ → W p l e ({ frames := 2, cells := 0, slots := 0, locals := 48 } : Room) s m args below meth c H locs 0 0 Q (F0 m 54 ls []) := by
    intro v1 v3 σ H locs ls hok hl S hq
    refine lv_iload hx hb d_Mo_push_54 (lv_at hl 3 rfl) ?_
    refine lv_bipush (v := 9) hx hb d_Mo_push_56 (by decide) ?_
    refine lv_icmp_ge (tgt := 104) hx hb d_Mo_push_58 rfl (fun h9 => absurd h9 (by decide)) (fun _ => ?_)
    refine lv_iload_n hx hb d_Mo_push_61 rfl (lv_at hl 1 rfl) ?_
    refine lv_iload hx hb d_Mo_push_62 (lv_at hl 3 rfl) ?_
    refine lv_ishr hx hb d_Mo_push_64 ?_
    refine lv_iconst (v := 1) hx hb d_Mo_push_65 (by decide) ?_
    refine lv_iand hx hb d_Mo_push_66 ?_
    refine lv_iconst (v := 1) hx hb d_Mo_push_67 (by decide) ?_
    refine lv_icmp_ne (tgt := 98) hx hb d_Mo_push_68 rfl (fun h68 => ?_) (fun h68 => ?_)
    · have hq := hq.trans (if_neg h68)
      have hok := ok_neg h68 hok
      exact B_Mo_push_98_0 _ _ _ _ _ _ hok (lv_sub hl [0, 1, 2, 3] rfl) S hq
    · have hq := hq.trans (if_pos h68)
      have hok := ok_pos h68 hok
      refine lv_aload_n hx hb d_Mo_push_71 rfl (lv_at hl 0 rfl) ?_
      refine lv_iload_n hx hb d_Mo_push_72 rfl (lv_at hl 2 rfl) ?_
      refine lv_aload_n hx hb d_Mo_push_73 rfl (lv_at hl 0 rfl) ?_
      refine g_Mo_13 hx hb hts hown hK S.1 d_Mo_push_74 ?_
      refine lv_iload hx hb d_Mo_push_77 (lv_at hl 3 rfl) ?_
      refine lv_bipush (v := 8) hx hb d_Mo_push_79 (by decide) ?_
      refine lv_icmp_ne (tgt := 89) hx hb d_Mo_push_81 rfl (fun _ => ?_) (fun h9 => absurd h9 (by decide))
      refine lv_iload hx hb d_Mo_push_89 (lv_at hl 3 rfl) ?_
      exact B_Mo_push_91_0 _ _ _ _ _ _ _ hok (lv_sub hl [0, 1, 2, 3] rfl) S hq
  have B_Mo_push_33 : ∀ (v1 : Int32) (v3 : Int32) (k0 : Int32) (σ : nS) (H : Heap) (locs : List Loc) (ls : Array Slot), (o_Mo_push_33 v1 v3 k0 σ) → lv_has ls 6 [(0, .ref (a 0)), (1, .int v1), (3, .int v3)] → St D (wM cI cZ a) A s σ H locs → F = s_Mo_push_33 v1 v3 k0 σ → W p l e ({ frames := 2, cells := 0, slots := 0, locals := 48 } : Room) s m args below meth c H locs 0 0 Q (F0 m 33 ls [.int k0]) := by
    intro v1 v3 k0 σ H locs ls hok hl S hq
    refine lv_istore hx hb d_Mo_push_33 hl (by decide) rfl (fun ls hl => ?_)
    refine lv_iload hx hb d_Mo_push_35 (lv_at hl 0 rfl) ?_
    refine lv_if_le (tgt := 43) hx hb d_Mo_push_37 rfl (fun h37 => ?_) (fun h37 => ?_)
    · have hq := hq.trans (if_pos h37)
      have hok := ok_pos h37 hok
      refine lv_aload_n hx hb d_Mo_push_43 rfl (lv_at hl 1 rfl) ?_
      refine g_Mo_13 hx hb hts hown hK S.1 d_Mo_push_44 ?_
      refine lv_bipush (v := 13) hx hb d_Mo_push_47 (by decide) ?_
      refine lv_iload_n hx hb d_Mo_push_49 rfl (lv_at hl 3 rfl) ?_
      refine st_M_2 (k := 13) hx hb hK S (vin_dec (by decide)) (by decide) d_Mo_push_50 (fun H locs S => ?_)
      refine lv_iconst (v := 0) hx hb d_Mo_push_51 (by decide) ?_
      refine lv_istore hx hb d_Mo_push_52 hl (by decide) rfl (fun ls hl => ?_)
      exact B_Mo_push_54_0 _ _ _ _ _ _ hok (lv_sub hl [2, 3, 4, 0] rfl) S hq
    · have hq := hq.trans (if_neg h37)
      have hok := ok_neg h37 hok
      refine lv_iload hx hb d_Mo_push_40 (lv_at hl 0 rfl) ?_
      exact ret _ _ _ _ _ _ S hq d_Mo_push_42
  refine lv_iload_n hx hb d_Mo_push_0 rfl (lv_at hl 1 rfl) ?_
  refine callSIp X S hl (c_Mo_ones v1 _) v_Mo_154 (rk_dec (by decide)) rfl rfl (Nat.le_of_ble_eq_true rfl) d_Mo_push_1 (fun H locs S => ?_)
  refine lv_istore_n hx hb d_Mo_push_4 rfl hl (by decide) rfl (fun ls hl => ?_)
  refine lv_aload_n hx hb d_Mo_push_5 rfl (lv_at hl 1 rfl) ?_
  refine g_Mo_13 hx hb hts hown hK S.1 d_Mo_push_6 ?_
  refine lv_bipush (v := 13) hx hb d_Mo_push_9 (by decide) ?_
  refine ld_M_2 (k := 13) hx hb hK S.1 (vin_dec (by decide)) (by decide) d_Mo_push_11 ?_
  refine lv_iconst (v := 4) hx hb d_Mo_push_12 (by decide) ?_
  refine lv_iload_n hx hb d_Mo_push_13 rfl (lv_at hl 0 rfl) ?_
  refine lv_imul hx hb d_Mo_push_14 ?_
  refine lv_isub hx hb d_Mo_push_15 ?_
  refine lv_istore_n hx hb d_Mo_push_16 rfl hl (by decide) rfl (fun ls hl => ?_)
  refine lv_iload_n hx hb d_Mo_push_17 rfl (lv_at hl 1 rfl) ?_
  refine lv_if_ne (tgt := 26) hx hb d_Mo_push_18 rfl (fun h18 => ?_) (fun h18 => ?_)
  · have hq := hq.trans (if_neg h18)
    have hok := ok_neg h18 hok
    refine lv_aload_n hx hb d_Mo_push_26 rfl (lv_at hl 2 rfl) ?_
    refine lv_iload_n hx hb d_Mo_push_27 rfl (lv_at hl 0 rfl) ?_
    refine lv_iload_n hx hb d_Mo_push_28 rfl (lv_at hl 1 rfl) ?_
    refine lv_iconst (v := 2) hx hb d_Mo_push_29 (by decide) ?_
    obtain ⟨g10, hok⟩ := hok
    refine callVIp X S hl (c_Mo_faultOf ((σ 0 13) - ((4 : Int32) * (s_Mo_ones v1))) (s_Mo_ones v1) (2 : Int32) _ g10) v_Mo_151 0 6 ⟨rfl, rfl⟩ (rk_dec (by decide)) rfl rfl (Nat.le_of_ble_eq_true rfl) d_Mo_push_30 (fun H locs S => ?_)
    exact B_Mo_push_33 _ _ _ _ _ _ _ hok (lv_sub hl [2, 3, 0] rfl) S hq
  · have hq := hq.trans (if_pos h18)
    have hok := ok_pos h18 hok
    refine lv_bipush (v := 6) hx hb d_Mo_push_21 (by decide) ?_
    refine lv_goto (tgt := 33) hx hb d_Mo_push_23 rfl ?_
    exact B_Mo_push_33 _ _ _ _ _ _ _ hok (lv_sub hl [2, 3, 0] rfl) S hq
set_option maxHeartbeats 4000000 in
set_option maxRecDepth 100000 in
theorem c_Mo_pop (v1 : Int32) (σ : nS) (hok : o_Mo_pop v1 σ) : CtI l D cI cZ (wM cI cZ a) exM y_Mo_pop b_Mo_pop 10 { frames := 4, cells := 0, slots := 0, locals := 88 } [.ref (a 0), .int v1] σ (s_Mo_pop v1 σ) := by
  generalize hF : s_Mo_pop v1 σ = F
  refine metI exM_ok (by decide) (Nat.le_of_ble_eq_true rfl) (fun p e s m args below meth c A Q ls X S hl ret => ?_)
  have hq := hF.symm
  obtain ⟨hx, hb, hml, hown, hts, hK, hA, hE, hlk, hEo⟩ := id X
  have hl : lv_has ls 10 [(0, .ref (a 0)), (1, .int v1)] := hl
  have B_Mo_pop_215 : ∀ (σ : nS) (H : Heap) (locs : List Loc) (ls : Array Slot), (o_Mo_pop_215 σ) → lv_has ls 10 [] → St D (wM cI cZ a) A s σ H locs → F = s_Mo_pop_215 σ → W p l e ({ frames := 4, cells := 0, slots := 0, locals := 88 } : Room) s m args below meth c H locs 0 0 Q (F0 m 215 ls []) := by
    intro σ H locs ls hok hl S hq
    refine lv_iconst (v := 0) hx hb d_Mo_pop_215 (by decide) ?_
    exact ret _ _ _ _ _ _ S hq d_Mo_pop_216
  have B_Mo_pop_122_8 : ∀ (v1 : Int32) (v3 : Int32) (v5 : Int32) (v6 : Int32) (v7 : Bool) (v8 : Int32) (σ : nS) (H : Heap) (locs : List Loc) (ls : Array Slot), (o_Mo_pop_122_8 v1 v3 v5 v6 v7 v8 σ) → lv_has ls 10 [(0, .ref (a 0)), (1, .int v1), (3, .int v3), (5, .int v5), (6, .int v6), (7, .int (bI v7)), (8, .int v8), (9, .int (8 : Int32))] → St D (wM cI cZ a) A s σ H locs → F = s_Mo_pop_122_8 v1 v3 v5 v6 v7 v8 σ → W p l e ({ frames := 4, cells := 0, slots := 0, locals := 88 } : Room) s m args below meth c H locs 0 0 Q (F0 m 122 ls []) := by
    intro v1 v3 v5 v6 v7 v8 σ H locs ls hok hl S hq
    refine lv_iload hx hb d_Mo_pop_122 (lv_at hl 7 rfl) ?_
    refine lv_bipush (v := 8) hx hb d_Mo_pop_124 (by decide) ?_
    refine lv_icmp_ge (tgt := 180) hx hb d_Mo_pop_126 rfl (fun _ => ?_) (fun h9 => absurd (by decide) h9)
    refine lv_iload hx hb d_Mo_pop_180 (lv_at hl 5 rfl) ?_
    refine r_ifeqZ (tgt := 187) hx hb d_Mo_pop_182 rfl (fun h182 => ?_) (fun h182 => ?_)
    · have hq := hq.trans (if_neg h182)
      have hok := ok_neg h182 hok
      refine lv_aload_n hx hb d_Mo_pop_187 rfl (lv_at hl 0 rfl) ?_
      refine g_Mo_13 hx hb hts hown hK S.1 d_Mo_pop_188 ?_
      refine lv_bipush (v := 13) hx hb d_Mo_pop_191 (by decide) ?_
      refine lv_iload hx hb d_Mo_pop_193 (lv_at hl 3 rfl) ?_
      refine st_M_2 (k := 13) hx hb hK S (vin_dec (by decide)) (by decide) d_Mo_pop_195 (fun H locs S => ?_)
      refine lv_iload_n hx hb d_Mo_pop_196 rfl (lv_at hl 1 rfl) ?_
      refine lv_sipush (v := 255) hx hb d_Mo_pop_197 (by decide) ?_
      refine lv_icmp_le (tgt := 215) hx hb d_Mo_pop_200 rfl (fun h200 => ?_) (fun h200 => ?_)
      · have hq := hq.trans (if_pos h200)
        have hok := ok_pos h200 hok
        exact B_Mo_pop_215 _ _ _ _ hok (lv_sub hl [] rfl) S hq
      · have hq := hq.trans (if_neg h200)
        have hok := ok_neg h200 hok
        refine lv_aload_n hx hb d_Mo_pop_203 rfl (lv_at hl 0 rfl) ?_
        refine g_Mo_13 hx hb hts hown hK S.1 d_Mo_pop_204 ?_
        refine lv_bipush (v := 15) hx hb d_Mo_pop_207 (by decide) ?_
        refine lv_iload hx hb d_Mo_pop_209 (lv_at hl 4 rfl) ?_
        refine lv_bipush (v := -2) hx hb d_Mo_pop_211 (by decide) ?_
        refine lv_iand hx hb d_Mo_pop_213 ?_
        refine st_M_2 (k := 15) hx hb hK S (vin_dec (by decide)) (by decide) d_Mo_pop_214 (fun H locs S => ?_)
        exact B_Mo_pop_215 _ _ _ _ hok (lv_sub hl [] rfl) S hq
    · have hq := hq.trans (if_pos h182)
      have hok := ok_pos h182 hok
      refine lv_iconst (v := 0) hx hb d_Mo_pop_185 (by decide) ?_
      exact ret _ _ _ _ _ _ S hq d_Mo_pop_186
  have B_Mo_pop_174_7 : ∀ (v1 : Int32) (v3 : Int32) (v5 : Int32) (v6 : Int32) (v7 : Bool) (v8 : Int32) (σ : nS) (H : Heap) (locs : List Loc) (ls : Array Slot), (o_Mo_pop_174_7 v1 v3 v5 v6 v7 v8 σ) → lv_has ls 10 [(0, .ref (a 0)), (1, .int v1), (3, .int v3), (5, .int v5), (6, .int v6), (7, .int (bI v7)), (8, .int v8), (9, .int (7 : Int32))] → St D (wM cI cZ a) A s σ H locs → F = s_Mo_pop_174_7 v1 v3 v5 v6 v7 v8 σ → W p l e ({ frames := 4, cells := 0, slots := 0, locals := 88 } : Room) s m args below meth c H locs 0 0 Q (F0 m 174 ls []) := by
    intro v1 v3 v5 v6 v7 v8 σ H locs ls hok hl S hq
    refine lv_iinc (k := 7) (v := (8 : Int32)) hx hb d_Mo_pop_174 hl rfl (by first | rfl | decide) (by decide) rfl (fun ls hl => ?_)
    refine lv_goto (tgt := 122) hx hb d_Mo_pop_177 rfl ?_
    exact B_Mo_pop_122_8 _ _ _ _ _ _ _ _ _ _ hok (lv_sub hl [1, 2, 3, 4, 5, 6, 7, 0] rfl) S hq
  have B_Mo_pop_171_7 : ∀ (v1 : Int32) (v3 : Int32) (v5 : Int32) (v6 : Int32) (v7 : Bool) (v8 : Int32) (σ : nS) (H : Heap) (locs : List Loc) (ls : Array Slot), (o_Mo_pop_171_7 v1 v3 v5 v6 v7 v8 σ) → lv_has ls 10 [(0, .ref (a 0)), (1, .int v1), (3, .int v3), (5, .int v5), (6, .int v6), (7, .int (bI v7)), (8, .int v8), (9, .int (7 : Int32))] → St D (wM cI cZ a) A s σ H locs → F = s_Mo_pop_171_7 v1 v3 v5 v6 v7 v8 σ → W p l e ({ frames := 4, cells := 0, slots := 0, locals := 88 } : Room) s m args below meth c H locs 0 0 Q (F0 m 171 ls []) := by
    intro v1 v3 v5 v6 v7 v8 σ H locs ls hok hl S hq
    refine lv_iinc (k := 2) (v := (v3 + (4 : Int32))) hx hb d_Mo_pop_171 hl rfl (by first | rfl | decide) (by decide) rfl (fun ls hl => ?_)
    exact B_Mo_pop_174_7 _ _ _ _ _ _ _ _ _ _ hok (lv_sub hl [1, 2, 0, 3, 4, 5, 6, 7] rfl) S hq
  have B_Mo_pop_159_7 : ∀ (v1 : Int32) (v3 : Int32) (v5 : Int32) (v6 : Int32) (v7 : Bool) (v8 : Int32) (σ : nS) (H : Heap) (locs : List Loc) (ls : Array Slot), (o_Mo_pop_159_7 v1 v3 v5 v6 v7 v8 σ) → lv_has ls 10 [(0, .ref (a 0)), (1, .int v1), (3, .int v3), (5, .int v5), (6, .int v6), (7, .int (bI v7)), (8, .int v8), (9, .int (7 : Int32))] → St D (wM cI cZ a) A s σ H locs → F = s_Mo_pop_159_7 v1 v3 v5 v6 v7 v8 σ → W p l e ({ frames := 4, cells := 0, slots := 0, locals := 88 } : Room) s m args below meth c H locs 0 0 Q (F0 m 159 ls []) := by
    intro v1 v3 v5 v6 v7 v8 σ H locs ls hok hl S hq
    refine lv_aload_n hx hb d_Mo_pop_159 rfl (lv_at hl 0 rfl) ?_
    refine g_Mo_13 hx hb hts hown hK S.1 d_Mo_pop_160 ?_
    refine lv_iload hx hb d_Mo_pop_163 (lv_at hl 7 rfl) ?_
    refine lv_aload_n hx hb d_Mo_pop_165 rfl (lv_at hl 0 rfl) ?_
    refine lv_iload_n hx hb d_Mo_pop_166 rfl (lv_at hl 2 rfl) ?_
    obtain ⟨g1, hok⟩ := hok
    refine callVIp X S hl (c_Mo_load v3 _ g1) v_Mo_77 0 6 ⟨rfl, rfl⟩ (rk_dec (by decide)) rfl rfl (Nat.le_of_ble_eq_true rfl) d_Mo_pop_167 (fun H locs S => ?_)
    refine st_M_2 (k := 7) hx hb hK S (vin_dec (by decide)) (by decide) d_Mo_pop_170 (fun H locs S => ?_)
    exact B_Mo_pop_171_7 _ _ _ _ _ _ _ _ _ _ hok (lv_sub hl [0, 1, 2, 3, 4, 5, 6, 7] rfl) S hq
  have B_Mo_pop_122_7 : ∀ (v1 : Int32) (v3 : Int32) (v5 : Int32) (v6 : Int32) (v7 : Bool) (v8 : Int32) (σ : nS) (H : Heap) (locs : List Loc) (ls : Array Slot), (o_Mo_pop_122_7 v1 v3 v5 v6 v7 v8 σ) → lv_has ls 10 [(0, .ref (a 0)), (1, .int v1), (3, .int v3), (5, .int v5), (6, .int v6), (7, .int (bI v7)), (8, .int v8), (9, .int (7 : Int32))] → St D (wM cI cZ a) A s σ H locs → F = s_Mo_pop_122_7 v1 v3 v5 v6 v7 v8 σ → W p l e ({ frames := 4, cells := 0, slots := 0, locals := 88 } : Room) s m args below meth c H locs 0 0 Q (F0 m 122 ls []) := by
    intro v1 v3 v5 v6 v7 v8 σ H locs ls hok hl S hq
    refine lv_iload hx hb d_Mo_pop_122 (lv_at hl 7 rfl) ?_
    refine lv_bipush (v := 8) hx hb d_Mo_pop_124 (by decide) ?_
    refine lv_icmp_ge (tgt := 180) hx hb d_Mo_pop_126 rfl (fun h9 => absurd h9 (by decide)) (fun _ => ?_)
    refine lv_iload_n hx hb d_Mo_pop_129 rfl (lv_at hl 1 rfl) ?_
    refine lv_iload hx hb d_Mo_pop_130 (lv_at hl 7 rfl) ?_
    refine lv_ishr hx hb d_Mo_pop_132 ?_
    refine lv_iconst (v := 1) hx hb d_Mo_pop_133 (by decide) ?_
    refine lv_iand hx hb d_Mo_pop_134 ?_
    refine lv_iconst (v := 1) hx hb d_Mo_pop_135 (by decide) ?_
    refine lv_icmp_ne (tgt := 174) hx hb d_Mo_pop_136 rfl (fun h136 => ?_) (fun h136 => ?_)
    · have hq := hq.trans (if_neg h136)
      have hok := ok_neg h136 hok
      exact B_Mo_pop_174_7 _ _ _ _ _ _ _ _ _ _ hok (lv_sub hl [0, 1, 2, 3, 4, 5, 6, 7] rfl) S hq
    · have hq := hq.trans (if_pos h136)
      have hok := ok_pos h136 hok
      refine lv_iload hx hb d_Mo_pop_139 (lv_at hl 5 rfl) ?_
      refine r_ifeqZ (tgt := 159) hx hb d_Mo_pop_141 rfl (fun h141 => ?_) (fun h141 => ?_)
      · have hq := hq.trans (if_neg h141)
        have hok := ok_neg h141 hok
        exact B_Mo_pop_159_7 _ _ _ _ _ _ _ _ _ _ hok (lv_sub hl [0, 1, 2, 3, 4, 5, 6, 7] rfl) S hq
      · have hq := hq.trans (if_pos h141)
        have hok := ok_pos h141 hok
        refine lv_iload hx hb d_Mo_pop_144 (lv_at hl 7 rfl) ?_
        refine lv_iconst (v := 3) hx hb d_Mo_pop_146 (by decide) ?_
        refine lv_icmp_gt (tgt := 159) hx hb d_Mo_pop_147 rfl (fun _ => ?_) (fun h9 => absurd (by decide) h9)
        exact B_Mo_pop_159_7 _ _ _ _ _ _ _ _ _ _ hok (lv_sub hl [0, 1, 2, 3, 4, 5, 6, 7] rfl) S hq
  have B_Mo_pop_174_6 : ∀ (v1 : Int32) (v3 : Int32) (v5 : Int32) (v6 : Int32) (v7 : Bool) (v8 : Int32) (σ : nS) (H : Heap) (locs : List Loc) (ls : Array Slot), (o_Mo_pop_174_6 v1 v3 v5 v6 v7 v8 σ) → lv_has ls 10 [(0, .ref (a 0)), (1, .int v1), (3, .int v3), (5, .int v5), (6, .int v6), (7, .int (bI v7)), (8, .int v8), (9, .int (6 : Int32))] → St D (wM cI cZ a) A s σ H locs → F = s_Mo_pop_174_6 v1 v3 v5 v6 v7 v8 σ → W p l e ({ frames := 4, cells := 0, slots := 0, locals := 88 } : Room) s m args below meth c H locs 0 0 Q (F0 m 174 ls []) := by
    intro v1 v3 v5 v6 v7 v8 σ H locs ls hok hl S hq
    refine lv_iinc (k := 7) (v := (7 : Int32)) hx hb d_Mo_pop_174 hl rfl (by first | rfl | decide) (by decide) rfl (fun ls hl => ?_)
    refine lv_goto (tgt := 122) hx hb d_Mo_pop_177 rfl ?_
    exact B_Mo_pop_122_7 _ _ _ _ _ _ _ _ _ _ hok (lv_sub hl [1, 2, 3, 4, 5, 6, 7, 0] rfl) S hq
  have B_Mo_pop_171_6 : ∀ (v1 : Int32) (v3 : Int32) (v5 : Int32) (v6 : Int32) (v7 : Bool) (v8 : Int32) (σ : nS) (H : Heap) (locs : List Loc) (ls : Array Slot), (o_Mo_pop_171_6 v1 v3 v5 v6 v7 v8 σ) → lv_has ls 10 [(0, .ref (a 0)), (1, .int v1), (3, .int v3), (5, .int v5), (6, .int v6), (7, .int (bI v7)), (8, .int v8), (9, .int (6 : Int32))] → St D (wM cI cZ a) A s σ H locs → F = s_Mo_pop_171_6 v1 v3 v5 v6 v7 v8 σ → W p l e ({ frames := 4, cells := 0, slots := 0, locals := 88 } : Room) s m args below meth c H locs 0 0 Q (F0 m 171 ls []) := by
    intro v1 v3 v5 v6 v7 v8 σ H locs ls hok hl S hq
    refine lv_iinc (k := 2) (v := (v3 + (4 : Int32))) hx hb d_Mo_pop_171 hl rfl (by first | rfl | decide) (by decide) rfl (fun ls hl => ?_)
    exact B_Mo_pop_174_6 _ _ _ _ _ _ _ _ _ _ hok (lv_sub hl [1, 2, 0, 3, 4, 5, 6, 7] rfl) S hq
  have B_Mo_pop_159_6 : ∀ (v1 : Int32) (v3 : Int32) (v5 : Int32) (v6 : Int32) (v7 : Bool) (v8 : Int32) (σ : nS) (H : Heap) (locs : List Loc) (ls : Array Slot), (o_Mo_pop_159_6 v1 v3 v5 v6 v7 v8 σ) → lv_has ls 10 [(0, .ref (a 0)), (1, .int v1), (3, .int v3), (5, .int v5), (6, .int v6), (7, .int (bI v7)), (8, .int v8), (9, .int (6 : Int32))] → St D (wM cI cZ a) A s σ H locs → F = s_Mo_pop_159_6 v1 v3 v5 v6 v7 v8 σ → W p l e ({ frames := 4, cells := 0, slots := 0, locals := 88 } : Room) s m args below meth c H locs 0 0 Q (F0 m 159 ls []) := by
    intro v1 v3 v5 v6 v7 v8 σ H locs ls hok hl S hq
    refine lv_aload_n hx hb d_Mo_pop_159 rfl (lv_at hl 0 rfl) ?_
    refine g_Mo_13 hx hb hts hown hK S.1 d_Mo_pop_160 ?_
    refine lv_iload hx hb d_Mo_pop_163 (lv_at hl 7 rfl) ?_
    refine lv_aload_n hx hb d_Mo_pop_165 rfl (lv_at hl 0 rfl) ?_
    refine lv_iload_n hx hb d_Mo_pop_166 rfl (lv_at hl 2 rfl) ?_
    obtain ⟨g2, hok⟩ := hok
    refine callVIp X S hl (c_Mo_load v3 _ g2) v_Mo_77 0 6 ⟨rfl, rfl⟩ (rk_dec (by decide)) rfl rfl (Nat.le_of_ble_eq_true rfl) d_Mo_pop_167 (fun H locs S => ?_)
    refine st_M_2 (k := 6) hx hb hK S (vin_dec (by decide)) (by decide) d_Mo_pop_170 (fun H locs S => ?_)
    exact B_Mo_pop_171_6 _ _ _ _ _ _ _ _ _ _ hok (lv_sub hl [0, 1, 2, 3, 4, 5, 6, 7] rfl) S hq
  have B_Mo_pop_122_6 : ∀ (v1 : Int32) (v3 : Int32) (v5 : Int32) (v6 : Int32) (v7 : Bool) (v8 : Int32) (σ : nS) (H : Heap) (locs : List Loc) (ls : Array Slot), (o_Mo_pop_122_6 v1 v3 v5 v6 v7 v8 σ) → lv_has ls 10 [(0, .ref (a 0)), (1, .int v1), (3, .int v3), (5, .int v5), (6, .int v6), (7, .int (bI v7)), (8, .int v8), (9, .int (6 : Int32))] → St D (wM cI cZ a) A s σ H locs → F = s_Mo_pop_122_6 v1 v3 v5 v6 v7 v8 σ → W p l e ({ frames := 4, cells := 0, slots := 0, locals := 88 } : Room) s m args below meth c H locs 0 0 Q (F0 m 122 ls []) := by
    intro v1 v3 v5 v6 v7 v8 σ H locs ls hok hl S hq
    refine lv_iload hx hb d_Mo_pop_122 (lv_at hl 7 rfl) ?_
    refine lv_bipush (v := 8) hx hb d_Mo_pop_124 (by decide) ?_
    refine lv_icmp_ge (tgt := 180) hx hb d_Mo_pop_126 rfl (fun h9 => absurd h9 (by decide)) (fun _ => ?_)
    refine lv_iload_n hx hb d_Mo_pop_129 rfl (lv_at hl 1 rfl) ?_
    refine lv_iload hx hb d_Mo_pop_130 (lv_at hl 7 rfl) ?_
    refine lv_ishr hx hb d_Mo_pop_132 ?_
    refine lv_iconst (v := 1) hx hb d_Mo_pop_133 (by decide) ?_
    refine lv_iand hx hb d_Mo_pop_134 ?_
    refine lv_iconst (v := 1) hx hb d_Mo_pop_135 (by decide) ?_
    refine lv_icmp_ne (tgt := 174) hx hb d_Mo_pop_136 rfl (fun h136 => ?_) (fun h136 => ?_)
    · have hq := hq.trans (if_neg h136)
      have hok := ok_neg h136 hok
      exact B_Mo_pop_174_6 _ _ _ _ _ _ _ _ _ _ hok (lv_sub hl [0, 1, 2, 3, 4, 5, 6, 7] rfl) S hq
    · have hq := hq.trans (if_pos h136)
      have hok := ok_pos h136 hok
      refine lv_iload hx hb d_Mo_pop_139 (lv_at hl 5 rfl) ?_
      refine r_ifeqZ (tgt := 159) hx hb d_Mo_pop_141 rfl (fun h141 => ?_) (fun h141 => ?_)
      · have hq := hq.trans (if_neg h141)
        have hok := ok_neg h141 hok
        exact B_Mo_pop_159_6 _ _ _ _ _ _ _ _ _ _ hok (lv_sub hl [0, 1, 2, 3, 4, 5, 6, 7] rfl) S hq
      · have hq := hq.trans (if_pos h141)
        have hok := ok_pos h141 hok
        refine lv_iload hx hb d_Mo_pop_144 (lv_at hl 7 rfl) ?_
        refine lv_iconst (v := 3) hx hb d_Mo_pop_146 (by decide) ?_
        refine lv_icmp_gt (tgt := 159) hx hb d_Mo_pop_147 rfl (fun _ => ?_) (fun h9 => absurd (by decide) h9)
        exact B_Mo_pop_159_6 _ _ _ _ _ _ _ _ _ _ hok (lv_sub hl [0, 1, 2, 3, 4, 5, 6, 7] rfl) S hq
  have B_Mo_pop_174_5 : ∀ (v1 : Int32) (v3 : Int32) (v5 : Int32) (v6 : Int32) (v7 : Bool) (v8 : Int32) (σ : nS) (H : Heap) (locs : List Loc) (ls : Array Slot), (o_Mo_pop_174_5 v1 v3 v5 v6 v7 v8 σ) → lv_has ls 10 [(0, .ref (a 0)), (1, .int v1), (3, .int v3), (5, .int v5), (6, .int v6), (7, .int (bI v7)), (8, .int v8), (9, .int (5 : Int32))] → St D (wM cI cZ a) A s σ H locs → F = s_Mo_pop_174_5 v1 v3 v5 v6 v7 v8 σ → W p l e ({ frames := 4, cells := 0, slots := 0, locals := 88 } : Room) s m args below meth c H locs 0 0 Q (F0 m 174 ls []) := by
    intro v1 v3 v5 v6 v7 v8 σ H locs ls hok hl S hq
    refine lv_iinc (k := 7) (v := (6 : Int32)) hx hb d_Mo_pop_174 hl rfl (by first | rfl | decide) (by decide) rfl (fun ls hl => ?_)
    refine lv_goto (tgt := 122) hx hb d_Mo_pop_177 rfl ?_
    exact B_Mo_pop_122_6 _ _ _ _ _ _ _ _ _ _ hok (lv_sub hl [1, 2, 3, 4, 5, 6, 7, 0] rfl) S hq
  have B_Mo_pop_171_5 : ∀ (v1 : Int32) (v3 : Int32) (v5 : Int32) (v6 : Int32) (v7 : Bool) (v8 : Int32) (σ : nS) (H : Heap) (locs : List Loc) (ls : Array Slot), (o_Mo_pop_171_5 v1 v3 v5 v6 v7 v8 σ) → lv_has ls 10 [(0, .ref (a 0)), (1, .int v1), (3, .int v3), (5, .int v5), (6, .int v6), (7, .int (bI v7)), (8, .int v8), (9, .int (5 : Int32))] → St D (wM cI cZ a) A s σ H locs → F = s_Mo_pop_171_5 v1 v3 v5 v6 v7 v8 σ → W p l e ({ frames := 4, cells := 0, slots := 0, locals := 88 } : Room) s m args below meth c H locs 0 0 Q (F0 m 171 ls []) := by
    intro v1 v3 v5 v6 v7 v8 σ H locs ls hok hl S hq
    refine lv_iinc (k := 2) (v := (v3 + (4 : Int32))) hx hb d_Mo_pop_171 hl rfl (by first | rfl | decide) (by decide) rfl (fun ls hl => ?_)
    exact B_Mo_pop_174_5 _ _ _ _ _ _ _ _ _ _ hok (lv_sub hl [1, 2, 0, 3, 4, 5, 6, 7] rfl) S hq
  have B_Mo_pop_159_5 : ∀ (v1 : Int32) (v3 : Int32) (v5 : Int32) (v6 : Int32) (v7 : Bool) (v8 : Int32) (σ : nS) (H : Heap) (locs : List Loc) (ls : Array Slot), (o_Mo_pop_159_5 v1 v3 v5 v6 v7 v8 σ) → lv_has ls 10 [(0, .ref (a 0)), (1, .int v1), (3, .int v3), (5, .int v5), (6, .int v6), (7, .int (bI v7)), (8, .int v8), (9, .int (5 : Int32))] → St D (wM cI cZ a) A s σ H locs → F = s_Mo_pop_159_5 v1 v3 v5 v6 v7 v8 σ → W p l e ({ frames := 4, cells := 0, slots := 0, locals := 88 } : Room) s m args below meth c H locs 0 0 Q (F0 m 159 ls []) := by
    intro v1 v3 v5 v6 v7 v8 σ H locs ls hok hl S hq
    refine lv_aload_n hx hb d_Mo_pop_159 rfl (lv_at hl 0 rfl) ?_
    refine g_Mo_13 hx hb hts hown hK S.1 d_Mo_pop_160 ?_
    refine lv_iload hx hb d_Mo_pop_163 (lv_at hl 7 rfl) ?_
    refine lv_aload_n hx hb d_Mo_pop_165 rfl (lv_at hl 0 rfl) ?_
    refine lv_iload_n hx hb d_Mo_pop_166 rfl (lv_at hl 2 rfl) ?_
    obtain ⟨g3, hok⟩ := hok
    refine callVIp X S hl (c_Mo_load v3 _ g3) v_Mo_77 0 6 ⟨rfl, rfl⟩ (rk_dec (by decide)) rfl rfl (Nat.le_of_ble_eq_true rfl) d_Mo_pop_167 (fun H locs S => ?_)
    refine st_M_2 (k := 5) hx hb hK S (vin_dec (by decide)) (by decide) d_Mo_pop_170 (fun H locs S => ?_)
    exact B_Mo_pop_171_5 _ _ _ _ _ _ _ _ _ _ hok (lv_sub hl [0, 1, 2, 3, 4, 5, 6, 7] rfl) S hq
  have B_Mo_pop_122_5 : ∀ (v1 : Int32) (v3 : Int32) (v5 : Int32) (v6 : Int32) (v7 : Bool) (v8 : Int32) (σ : nS) (H : Heap) (locs : List Loc) (ls : Array Slot), (o_Mo_pop_122_5 v1 v3 v5 v6 v7 v8 σ) → lv_has ls 10 [(0, .ref (a 0)), (1, .int v1), (3, .int v3), (5, .int v5), (6, .int v6), (7, .int (bI v7)), (8, .int v8), (9, .int (5 : Int32))] → St D (wM cI cZ a) A s σ H locs → F = s_Mo_pop_122_5 v1 v3 v5 v6 v7 v8 σ → W p l e ({ frames := 4, cells := 0, slots := 0, locals := 88 } : Room) s m args below meth c H locs 0 0 Q (F0 m 122 ls []) := by
    intro v1 v3 v5 v6 v7 v8 σ H locs ls hok hl S hq
    refine lv_iload hx hb d_Mo_pop_122 (lv_at hl 7 rfl) ?_
    refine lv_bipush (v := 8) hx hb d_Mo_pop_124 (by decide) ?_
    refine lv_icmp_ge (tgt := 180) hx hb d_Mo_pop_126 rfl (fun h9 => absurd h9 (by decide)) (fun _ => ?_)
    refine lv_iload_n hx hb d_Mo_pop_129 rfl (lv_at hl 1 rfl) ?_
    refine lv_iload hx hb d_Mo_pop_130 (lv_at hl 7 rfl) ?_
    refine lv_ishr hx hb d_Mo_pop_132 ?_
    refine lv_iconst (v := 1) hx hb d_Mo_pop_133 (by decide) ?_
    refine lv_iand hx hb d_Mo_pop_134 ?_
    refine lv_iconst (v := 1) hx hb d_Mo_pop_135 (by decide) ?_
    refine lv_icmp_ne (tgt := 174) hx hb d_Mo_pop_136 rfl (fun h136 => ?_) (fun h136 => ?_)
    · have hq := hq.trans (if_neg h136)
      have hok := ok_neg h136 hok
      exact B_Mo_pop_174_5 _ _ _ _ _ _ _ _ _ _ hok (lv_sub hl [0, 1, 2, 3, 4, 5, 6, 7] rfl) S hq
    · have hq := hq.trans (if_pos h136)
      have hok := ok_pos h136 hok
      refine lv_iload hx hb d_Mo_pop_139 (lv_at hl 5 rfl) ?_
      refine r_ifeqZ (tgt := 159) hx hb d_Mo_pop_141 rfl (fun h141 => ?_) (fun h141 => ?_)
      · have hq := hq.trans (if_neg h141)
        have hok := ok_neg h141 hok
        exact B_Mo_pop_159_5 _ _ _ _ _ _ _ _ _ _ hok (lv_sub hl [0, 1, 2, 3, 4, 5, 6, 7] rfl) S hq
      · have hq := hq.trans (if_pos h141)
        have hok := ok_pos h141 hok
        refine lv_iload hx hb d_Mo_pop_144 (lv_at hl 7 rfl) ?_
        refine lv_iconst (v := 3) hx hb d_Mo_pop_146 (by decide) ?_
        refine lv_icmp_gt (tgt := 159) hx hb d_Mo_pop_147 rfl (fun _ => ?_) (fun h9 => absurd (by decide) h9)
        exact B_Mo_pop_159_5 _ _ _ _ _ _ _ _ _ _ hok (lv_sub hl [0, 1, 2, 3, 4, 5, 6, 7] rfl) S hq
  have B_Mo_pop_174_4 : ∀ (v1 : Int32) (v3 : Int32) (v5 : Int32) (v6 : Int32) (v7 : Bool) (v8 : Int32) (σ : nS) (H : Heap) (locs : List Loc) (ls : Array Slot), (o_Mo_pop_174_4 v1 v3 v5 v6 v7 v8 σ) → lv_has ls 10 [(0, .ref (a 0)), (1, .int v1), (3, .int v3), (5, .int v5), (6, .int v6), (7, .int (bI v7)), (8, .int v8), (9, .int (4 : Int32))] → St D (wM cI cZ a) A s σ H locs → F = s_Mo_pop_174_4 v1 v3 v5 v6 v7 v8 σ → W p l e ({ frames := 4, cells := 0, slots := 0, locals := 88 } : Room) s m args below meth c H locs 0 0 Q (F0 m 174 ls []) := by
    intro v1 v3 v5 v6 v7 v8 σ H locs ls hok hl S hq
    refine lv_iinc (k := 7) (v := (5 : Int32)) hx hb d_Mo_pop_174 hl rfl (by first | rfl | decide) (by decide) rfl (fun ls hl => ?_)
    refine lv_goto (tgt := 122) hx hb d_Mo_pop_177 rfl ?_
    exact B_Mo_pop_122_5 _ _ _ _ _ _ _ _ _ _ hok (lv_sub hl [1, 2, 3, 4, 5, 6, 7, 0] rfl) S hq
  have B_Mo_pop_171_4 : ∀ (v1 : Int32) (v3 : Int32) (v5 : Int32) (v6 : Int32) (v7 : Bool) (v8 : Int32) (σ : nS) (H : Heap) (locs : List Loc) (ls : Array Slot), (o_Mo_pop_171_4 v1 v3 v5 v6 v7 v8 σ) → lv_has ls 10 [(0, .ref (a 0)), (1, .int v1), (3, .int v3), (5, .int v5), (6, .int v6), (7, .int (bI v7)), (8, .int v8), (9, .int (4 : Int32))] → St D (wM cI cZ a) A s σ H locs → F = s_Mo_pop_171_4 v1 v3 v5 v6 v7 v8 σ → W p l e ({ frames := 4, cells := 0, slots := 0, locals := 88 } : Room) s m args below meth c H locs 0 0 Q (F0 m 171 ls []) := by
    intro v1 v3 v5 v6 v7 v8 σ H locs ls hok hl S hq
    refine lv_iinc (k := 2) (v := (v3 + (4 : Int32))) hx hb d_Mo_pop_171 hl rfl (by first | rfl | decide) (by decide) rfl (fun ls hl => ?_)
    exact B_Mo_pop_174_4 _ _ _ _ _ _ _ _ _ _ hok (lv_sub hl [1, 2, 0, 3, 4, 5, 6, 7] rfl) S hq
  have B_Mo_pop_159_4 : ∀ (v1 : Int32) (v3 : Int32) (v5 : Int32) (v6 : Int32) (v7 : Bool) (v8 : Int32) (σ : nS) (H : Heap) (locs : List Loc) (ls : Array Slot), (o_Mo_pop_159_4 v1 v3 v5 v6 v7 v8 σ) → lv_has ls 10 [(0, .ref (a 0)), (1, .int v1), (3, .int v3), (5, .int v5), (6, .int v6), (7, .int (bI v7)), (8, .int v8), (9, .int (4 : Int32))] → St D (wM cI cZ a) A s σ H locs → F = s_Mo_pop_159_4 v1 v3 v5 v6 v7 v8 σ → W p l e ({ frames := 4, cells := 0, slots := 0, locals := 88 } : Room) s m args below meth c H locs 0 0 Q (F0 m 159 ls []) := by
    intro v1 v3 v5 v6 v7 v8 σ H locs ls hok hl S hq
    refine lv_aload_n hx hb d_Mo_pop_159 rfl (lv_at hl 0 rfl) ?_
    refine g_Mo_13 hx hb hts hown hK S.1 d_Mo_pop_160 ?_
    refine lv_iload hx hb d_Mo_pop_163 (lv_at hl 7 rfl) ?_
    refine lv_aload_n hx hb d_Mo_pop_165 rfl (lv_at hl 0 rfl) ?_
    refine lv_iload_n hx hb d_Mo_pop_166 rfl (lv_at hl 2 rfl) ?_
    obtain ⟨g4, hok⟩ := hok
    refine callVIp X S hl (c_Mo_load v3 _ g4) v_Mo_77 0 6 ⟨rfl, rfl⟩ (rk_dec (by decide)) rfl rfl (Nat.le_of_ble_eq_true rfl) d_Mo_pop_167 (fun H locs S => ?_)
    refine st_M_2 (k := 4) hx hb hK S (vin_dec (by decide)) (by decide) d_Mo_pop_170 (fun H locs S => ?_)
    exact B_Mo_pop_171_4 _ _ _ _ _ _ _ _ _ _ hok (lv_sub hl [0, 1, 2, 3, 4, 5, 6, 7] rfl) S hq
  have B_Mo_pop_122_4 : ∀ (v1 : Int32) (v3 : Int32) (v5 : Int32) (v6 : Int32) (v7 : Bool) (v8 : Int32) (σ : nS) (H : Heap) (locs : List Loc) (ls : Array Slot), (o_Mo_pop_122_4 v1 v3 v5 v6 v7 v8 σ) → lv_has ls 10 [(0, .ref (a 0)), (1, .int v1), (3, .int v3), (5, .int v5), (6, .int v6), (7, .int (bI v7)), (8, .int v8), (9, .int (4 : Int32))] → St D (wM cI cZ a) A s σ H locs → F = s_Mo_pop_122_4 v1 v3 v5 v6 v7 v8 σ → W p l e ({ frames := 4, cells := 0, slots := 0, locals := 88 } : Room) s m args below meth c H locs 0 0 Q (F0 m 122 ls []) := by
    intro v1 v3 v5 v6 v7 v8 σ H locs ls hok hl S hq
    refine lv_iload hx hb d_Mo_pop_122 (lv_at hl 7 rfl) ?_
    refine lv_bipush (v := 8) hx hb d_Mo_pop_124 (by decide) ?_
    refine lv_icmp_ge (tgt := 180) hx hb d_Mo_pop_126 rfl (fun h9 => absurd h9 (by decide)) (fun _ => ?_)
    refine lv_iload_n hx hb d_Mo_pop_129 rfl (lv_at hl 1 rfl) ?_
    refine lv_iload hx hb d_Mo_pop_130 (lv_at hl 7 rfl) ?_
    refine lv_ishr hx hb d_Mo_pop_132 ?_
    refine lv_iconst (v := 1) hx hb d_Mo_pop_133 (by decide) ?_
    refine lv_iand hx hb d_Mo_pop_134 ?_
    refine lv_iconst (v := 1) hx hb d_Mo_pop_135 (by decide) ?_
    refine lv_icmp_ne (tgt := 174) hx hb d_Mo_pop_136 rfl (fun h136 => ?_) (fun h136 => ?_)
    · have hq := hq.trans (if_neg h136)
      have hok := ok_neg h136 hok
      exact B_Mo_pop_174_4 _ _ _ _ _ _ _ _ _ _ hok (lv_sub hl [0, 1, 2, 3, 4, 5, 6, 7] rfl) S hq
    · have hq := hq.trans (if_pos h136)
      have hok := ok_pos h136 hok
      refine lv_iload hx hb d_Mo_pop_139 (lv_at hl 5 rfl) ?_
      refine r_ifeqZ (tgt := 159) hx hb d_Mo_pop_141 rfl (fun h141 => ?_) (fun h141 => ?_)
      · have hq := hq.trans (if_neg h141)
        have hok := ok_neg h141 hok
        exact B_Mo_pop_159_4 _ _ _ _ _ _ _ _ _ _ hok (lv_sub hl [0, 1, 2, 3, 4, 5, 6, 7] rfl) S hq
      · have hq := hq.trans (if_pos h141)
        have hok := ok_pos h141 hok
        refine lv_iload hx hb d_Mo_pop_144 (lv_at hl 7 rfl) ?_
        refine lv_iconst (v := 3) hx hb d_Mo_pop_146 (by decide) ?_
        refine lv_icmp_gt (tgt := 159) hx hb d_Mo_pop_147 rfl (fun _ => ?_) (fun h9 => absurd (by decide) h9)
        exact B_Mo_pop_159_4 _ _ _ _ _ _ _ _ _ _ hok (lv_sub hl [0, 1, 2, 3, 4, 5, 6, 7] rfl) S hq
  have B_Mo_pop_174_3 : ∀ (v1 : Int32) (v3 : Int32) (v5 : Int32) (v6 : Int32) (v7 : Bool) (v8 : Int32) (σ : nS) (H : Heap) (locs : List Loc) (ls : Array Slot), (o_Mo_pop_174_3 v1 v3 v5 v6 v7 v8 σ) → lv_has ls 10 [(0, .ref (a 0)), (1, .int v1), (3, .int v3), (5, .int v5), (6, .int v6), (7, .int (bI v7)), (8, .int v8), (9, .int (3 : Int32))] → St D (wM cI cZ a) A s σ H locs → F = s_Mo_pop_174_3 v1 v3 v5 v6 v7 v8 σ → W p l e ({ frames := 4, cells := 0, slots := 0, locals := 88 } : Room) s m args below meth c H locs 0 0 Q (F0 m 174 ls []) := by
    intro v1 v3 v5 v6 v7 v8 σ H locs ls hok hl S hq
    refine lv_iinc (k := 7) (v := (4 : Int32)) hx hb d_Mo_pop_174 hl rfl (by first | rfl | decide) (by decide) rfl (fun ls hl => ?_)
    refine lv_goto (tgt := 122) hx hb d_Mo_pop_177 rfl ?_
    exact B_Mo_pop_122_4 _ _ _ _ _ _ _ _ _ _ hok (lv_sub hl [1, 2, 3, 4, 5, 6, 7, 0] rfl) S hq
  have B_Mo_pop_171_3 : ∀ (v1 : Int32) (v3 : Int32) (v5 : Int32) (v6 : Int32) (v7 : Bool) (v8 : Int32) (σ : nS) (H : Heap) (locs : List Loc) (ls : Array Slot), (o_Mo_pop_171_3 v1 v3 v5 v6 v7 v8 σ) → lv_has ls 10 [(0, .ref (a 0)), (1, .int v1), (3, .int v3), (5, .int v5), (6, .int v6), (7, .int (bI v7)), (8, .int v8), (9, .int (3 : Int32))] → St D (wM cI cZ a) A s σ H locs → F = s_Mo_pop_171_3 v1 v3 v5 v6 v7 v8 σ → W p l e ({ frames := 4, cells := 0, slots := 0, locals := 88 } : Room) s m args below meth c H locs 0 0 Q (F0 m 171 ls []) := by
    intro v1 v3 v5 v6 v7 v8 σ H locs ls hok hl S hq
    refine lv_iinc (k := 2) (v := (v3 + (4 : Int32))) hx hb d_Mo_pop_171 hl rfl (by first | rfl | decide) (by decide) rfl (fun ls hl => ?_)
    exact B_Mo_pop_174_3 _ _ _ _ _ _ _ _ _ _ hok (lv_sub hl [1, 2, 0, 3, 4, 5, 6, 7] rfl) S hq
  have B_Mo_pop_159_3 : ∀ (v1 : Int32) (v3 : Int32) (v5 : Int32) (v6 : Int32) (v7 : Bool) (v8 : Int32) (σ : nS) (H : Heap) (locs : List Loc) (ls : Array Slot), (o_Mo_pop_159_3 v1 v3 v5 v6 v7 v8 σ) → lv_has ls 10 [(0, .ref (a 0)), (1, .int v1), (3, .int v3), (5, .int v5), (6, .int v6), (7, .int (bI v7)), (8, .int v8), (9, .int (3 : Int32))] → St D (wM cI cZ a) A s σ H locs → F = s_Mo_pop_159_3 v1 v3 v5 v6 v7 v8 σ → W p l e ({ frames := 4, cells := 0, slots := 0, locals := 88 } : Room) s m args below meth c H locs 0 0 Q (F0 m 159 ls []) := by
    intro v1 v3 v5 v6 v7 v8 σ H locs ls hok hl S hq
    refine lv_aload_n hx hb d_Mo_pop_159 rfl (lv_at hl 0 rfl) ?_
    refine g_Mo_13 hx hb hts hown hK S.1 d_Mo_pop_160 ?_
    refine lv_iload hx hb d_Mo_pop_163 (lv_at hl 7 rfl) ?_
    refine lv_aload_n hx hb d_Mo_pop_165 rfl (lv_at hl 0 rfl) ?_
    refine lv_iload_n hx hb d_Mo_pop_166 rfl (lv_at hl 2 rfl) ?_
    obtain ⟨g5, hok⟩ := hok
    refine callVIp X S hl (c_Mo_load v3 _ g5) v_Mo_77 0 6 ⟨rfl, rfl⟩ (rk_dec (by decide)) rfl rfl (Nat.le_of_ble_eq_true rfl) d_Mo_pop_167 (fun H locs S => ?_)
    refine st_M_2 (k := 3) hx hb hK S (vin_dec (by decide)) (by decide) d_Mo_pop_170 (fun H locs S => ?_)
    exact B_Mo_pop_171_3 _ _ _ _ _ _ _ _ _ _ hok (lv_sub hl [0, 1, 2, 3, 4, 5, 6, 7] rfl) S hq
  have B_Mo_pop_122_3 : ∀ (v1 : Int32) (v3 : Int32) (v5 : Int32) (v6 : Int32) (v7 : Bool) (v8 : Int32) (σ : nS) (H : Heap) (locs : List Loc) (ls : Array Slot), (o_Mo_pop_122_3 v1 v3 v5 v6 v7 v8 σ) → lv_has ls 10 [(0, .ref (a 0)), (1, .int v1), (3, .int v3), (5, .int v5), (6, .int v6), (7, .int (bI v7)), (8, .int v8), (9, .int (3 : Int32))] → St D (wM cI cZ a) A s σ H locs → F = s_Mo_pop_122_3 v1 v3 v5 v6 v7 v8 σ → W p l e ({ frames := 4, cells := 0, slots := 0, locals := 88 } : Room) s m args below meth c H locs 0 0 Q (F0 m 122 ls []) := by
    intro v1 v3 v5 v6 v7 v8 σ H locs ls hok hl S hq
    refine lv_iload hx hb d_Mo_pop_122 (lv_at hl 7 rfl) ?_
    refine lv_bipush (v := 8) hx hb d_Mo_pop_124 (by decide) ?_
    refine lv_icmp_ge (tgt := 180) hx hb d_Mo_pop_126 rfl (fun h9 => absurd h9 (by decide)) (fun _ => ?_)
    refine lv_iload_n hx hb d_Mo_pop_129 rfl (lv_at hl 1 rfl) ?_
    refine lv_iload hx hb d_Mo_pop_130 (lv_at hl 7 rfl) ?_
    refine lv_ishr hx hb d_Mo_pop_132 ?_
    refine lv_iconst (v := 1) hx hb d_Mo_pop_133 (by decide) ?_
    refine lv_iand hx hb d_Mo_pop_134 ?_
    refine lv_iconst (v := 1) hx hb d_Mo_pop_135 (by decide) ?_
    refine lv_icmp_ne (tgt := 174) hx hb d_Mo_pop_136 rfl (fun h136 => ?_) (fun h136 => ?_)
    · have hq := hq.trans (if_neg h136)
      have hok := ok_neg h136 hok
      exact B_Mo_pop_174_3 _ _ _ _ _ _ _ _ _ _ hok (lv_sub hl [0, 1, 2, 3, 4, 5, 6, 7] rfl) S hq
    · have hq := hq.trans (if_pos h136)
      have hok := ok_pos h136 hok
      refine lv_iload hx hb d_Mo_pop_139 (lv_at hl 5 rfl) ?_
      refine r_ifeqZ (tgt := 159) hx hb d_Mo_pop_141 rfl (fun h141 => ?_) (fun h141 => ?_)
      · have hq := hq.trans (if_neg h141)
        have hok := ok_neg h141 hok
        exact B_Mo_pop_159_3 _ _ _ _ _ _ _ _ _ _ hok (lv_sub hl [0, 1, 2, 3, 4, 5, 6, 7] rfl) S hq
      · have hq := hq.trans (if_pos h141)
        have hok := ok_pos h141 hok
        refine lv_iload hx hb d_Mo_pop_144 (lv_at hl 7 rfl) ?_
        refine lv_iconst (v := 3) hx hb d_Mo_pop_146 (by decide) ?_
        refine lv_icmp_gt (tgt := 159) hx hb d_Mo_pop_147 rfl (fun h9 => absurd h9 (by decide)) (fun _ => ?_)
        refine lv_aload_n hx hb d_Mo_pop_150 rfl (lv_at hl 0 rfl) ?_
        refine g_Mo_141 hx hb hts hown hK S.1 d_Mo_pop_151 ?_
        refine lv_iload hx hb d_Mo_pop_154 (lv_at hl 6 rfl) ?_
        refine lv_icmp_le (tgt := 171) hx hb d_Mo_pop_156 rfl (fun h156 => ?_) (fun h156 => ?_)
        · have hq := hq.trans (if_pos h156)
          have hok := ok_pos h156 hok
          exact B_Mo_pop_171_3 _ _ _ _ _ _ _ _ _ _ hok (lv_sub hl [0, 1, 2, 3, 4, 5, 6, 7] rfl) S hq
        · have hq := hq.trans (if_neg h156)
          have hok := ok_neg h156 hok
          exact B_Mo_pop_159_3 _ _ _ _ _ _ _ _ _ _ hok (lv_sub hl [0, 1, 2, 3, 4, 5, 6, 7] rfl) S hq
  have B_Mo_pop_174_2 : ∀ (v1 : Int32) (v3 : Int32) (v5 : Int32) (v6 : Int32) (v7 : Bool) (v8 : Int32) (σ : nS) (H : Heap) (locs : List Loc) (ls : Array Slot), (o_Mo_pop_174_2 v1 v3 v5 v6 v7 v8 σ) → lv_has ls 10 [(0, .ref (a 0)), (1, .int v1), (3, .int v3), (5, .int v5), (6, .int v6), (7, .int (bI v7)), (8, .int v8), (9, .int (2 : Int32))] → St D (wM cI cZ a) A s σ H locs → F = s_Mo_pop_174_2 v1 v3 v5 v6 v7 v8 σ → W p l e ({ frames := 4, cells := 0, slots := 0, locals := 88 } : Room) s m args below meth c H locs 0 0 Q (F0 m 174 ls []) := by
    intro v1 v3 v5 v6 v7 v8 σ H locs ls hok hl S hq
    refine lv_iinc (k := 7) (v := (3 : Int32)) hx hb d_Mo_pop_174 hl rfl (by first | rfl | decide) (by decide) rfl (fun ls hl => ?_)
    refine lv_goto (tgt := 122) hx hb d_Mo_pop_177 rfl ?_
    exact B_Mo_pop_122_3 _ _ _ _ _ _ _ _ _ _ hok (lv_sub hl [1, 2, 3, 4, 5, 6, 7, 0] rfl) S hq
  have B_Mo_pop_171_2 : ∀ (v1 : Int32) (v3 : Int32) (v5 : Int32) (v6 : Int32) (v7 : Bool) (v8 : Int32) (σ : nS) (H : Heap) (locs : List Loc) (ls : Array Slot), (o_Mo_pop_171_2 v1 v3 v5 v6 v7 v8 σ) → lv_has ls 10 [(0, .ref (a 0)), (1, .int v1), (3, .int v3), (5, .int v5), (6, .int v6), (7, .int (bI v7)), (8, .int v8), (9, .int (2 : Int32))] → St D (wM cI cZ a) A s σ H locs → F = s_Mo_pop_171_2 v1 v3 v5 v6 v7 v8 σ → W p l e ({ frames := 4, cells := 0, slots := 0, locals := 88 } : Room) s m args below meth c H locs 0 0 Q (F0 m 171 ls []) := by
    intro v1 v3 v5 v6 v7 v8 σ H locs ls hok hl S hq
    refine lv_iinc (k := 2) (v := (v3 + (4 : Int32))) hx hb d_Mo_pop_171 hl rfl (by first | rfl | decide) (by decide) rfl (fun ls hl => ?_)
    exact B_Mo_pop_174_2 _ _ _ _ _ _ _ _ _ _ hok (lv_sub hl [1, 2, 0, 3, 4, 5, 6, 7] rfl) S hq
  have B_Mo_pop_159_2 : ∀ (v1 : Int32) (v3 : Int32) (v5 : Int32) (v6 : Int32) (v7 : Bool) (v8 : Int32) (σ : nS) (H : Heap) (locs : List Loc) (ls : Array Slot), (o_Mo_pop_159_2 v1 v3 v5 v6 v7 v8 σ) → lv_has ls 10 [(0, .ref (a 0)), (1, .int v1), (3, .int v3), (5, .int v5), (6, .int v6), (7, .int (bI v7)), (8, .int v8), (9, .int (2 : Int32))] → St D (wM cI cZ a) A s σ H locs → F = s_Mo_pop_159_2 v1 v3 v5 v6 v7 v8 σ → W p l e ({ frames := 4, cells := 0, slots := 0, locals := 88 } : Room) s m args below meth c H locs 0 0 Q (F0 m 159 ls []) := by
    intro v1 v3 v5 v6 v7 v8 σ H locs ls hok hl S hq
    refine lv_aload_n hx hb d_Mo_pop_159 rfl (lv_at hl 0 rfl) ?_
    refine g_Mo_13 hx hb hts hown hK S.1 d_Mo_pop_160 ?_
    refine lv_iload hx hb d_Mo_pop_163 (lv_at hl 7 rfl) ?_
    refine lv_aload_n hx hb d_Mo_pop_165 rfl (lv_at hl 0 rfl) ?_
    refine lv_iload_n hx hb d_Mo_pop_166 rfl (lv_at hl 2 rfl) ?_
    obtain ⟨g6, hok⟩ := hok
    refine callVIp X S hl (c_Mo_load v3 _ g6) v_Mo_77 0 6 ⟨rfl, rfl⟩ (rk_dec (by decide)) rfl rfl (Nat.le_of_ble_eq_true rfl) d_Mo_pop_167 (fun H locs S => ?_)
    refine st_M_2 (k := 2) hx hb hK S (vin_dec (by decide)) (by decide) d_Mo_pop_170 (fun H locs S => ?_)
    exact B_Mo_pop_171_2 _ _ _ _ _ _ _ _ _ _ hok (lv_sub hl [0, 1, 2, 3, 4, 5, 6, 7] rfl) S hq
  have B_Mo_pop_122_2 : ∀ (v1 : Int32) (v3 : Int32) (v5 : Int32) (v6 : Int32) (v7 : Bool) (v8 : Int32) (σ : nS) (H : Heap) (locs : List Loc) (ls : Array Slot), (o_Mo_pop_122_2 v1 v3 v5 v6 v7 v8 σ) → lv_has ls 10 [(0, .ref (a 0)), (1, .int v1), (3, .int v3), (5, .int v5), (6, .int v6), (7, .int (bI v7)), (8, .int v8), (9, .int (2 : Int32))] → St D (wM cI cZ a) A s σ H locs → F = s_Mo_pop_122_2 v1 v3 v5 v6 v7 v8 σ → W p l e ({ frames := 4, cells := 0, slots := 0, locals := 88 } : Room) s m args below meth c H locs 0 0 Q (F0 m 122 ls []) := by
    intro v1 v3 v5 v6 v7 v8 σ H locs ls hok hl S hq
    refine lv_iload hx hb d_Mo_pop_122 (lv_at hl 7 rfl) ?_
    refine lv_bipush (v := 8) hx hb d_Mo_pop_124 (by decide) ?_
    refine lv_icmp_ge (tgt := 180) hx hb d_Mo_pop_126 rfl (fun h9 => absurd h9 (by decide)) (fun _ => ?_)
    refine lv_iload_n hx hb d_Mo_pop_129 rfl (lv_at hl 1 rfl) ?_
    refine lv_iload hx hb d_Mo_pop_130 (lv_at hl 7 rfl) ?_
    refine lv_ishr hx hb d_Mo_pop_132 ?_
    refine lv_iconst (v := 1) hx hb d_Mo_pop_133 (by decide) ?_
    refine lv_iand hx hb d_Mo_pop_134 ?_
    refine lv_iconst (v := 1) hx hb d_Mo_pop_135 (by decide) ?_
    refine lv_icmp_ne (tgt := 174) hx hb d_Mo_pop_136 rfl (fun h136 => ?_) (fun h136 => ?_)
    · have hq := hq.trans (if_neg h136)
      have hok := ok_neg h136 hok
      exact B_Mo_pop_174_2 _ _ _ _ _ _ _ _ _ _ hok (lv_sub hl [0, 1, 2, 3, 4, 5, 6, 7] rfl) S hq
    · have hq := hq.trans (if_pos h136)
      have hok := ok_pos h136 hok
      refine lv_iload hx hb d_Mo_pop_139 (lv_at hl 5 rfl) ?_
      refine r_ifeqZ (tgt := 159) hx hb d_Mo_pop_141 rfl (fun h141 => ?_) (fun h141 => ?_)
      · have hq := hq.trans (if_neg h141)
        have hok := ok_neg h141 hok
        exact B_Mo_pop_159_2 _ _ _ _ _ _ _ _ _ _ hok (lv_sub hl [0, 1, 2, 3, 4, 5, 6, 7] rfl) S hq
      · have hq := hq.trans (if_pos h141)
        have hok := ok_pos h141 hok
        refine lv_iload hx hb d_Mo_pop_144 (lv_at hl 7 rfl) ?_
        refine lv_iconst (v := 3) hx hb d_Mo_pop_146 (by decide) ?_
        refine lv_icmp_gt (tgt := 159) hx hb d_Mo_pop_147 rfl (fun h9 => absurd h9 (by decide)) (fun _ => ?_)
        refine lv_aload_n hx hb d_Mo_pop_150 rfl (lv_at hl 0 rfl) ?_
        refine g_Mo_141 hx hb hts hown hK S.1 d_Mo_pop_151 ?_
        refine lv_iload hx hb d_Mo_pop_154 (lv_at hl 6 rfl) ?_
        refine lv_icmp_le (tgt := 171) hx hb d_Mo_pop_156 rfl (fun h156 => ?_) (fun h156 => ?_)
        · have hq := hq.trans (if_pos h156)
          have hok := ok_pos h156 hok
          exact B_Mo_pop_171_2 _ _ _ _ _ _ _ _ _ _ hok (lv_sub hl [0, 1, 2, 3, 4, 5, 6, 7] rfl) S hq
        · have hq := hq.trans (if_neg h156)
          have hok := ok_neg h156 hok
          exact B_Mo_pop_159_2 _ _ _ _ _ _ _ _ _ _ hok (lv_sub hl [0, 1, 2, 3, 4, 5, 6, 7] rfl) S hq
  have B_Mo_pop_174_1 : ∀ (v1 : Int32) (v3 : Int32) (v5 : Int32) (v6 : Int32) (v7 : Bool) (v8 : Int32) (σ : nS) (H : Heap) (locs : List Loc) (ls : Array Slot), (o_Mo_pop_174_1 v1 v3 v5 v6 v7 v8 σ) → lv_has ls 10 [(0, .ref (a 0)), (1, .int v1), (3, .int v3), (5, .int v5), (6, .int v6), (7, .int (bI v7)), (8, .int v8), (9, .int (1 : Int32))] → St D (wM cI cZ a) A s σ H locs → F = s_Mo_pop_174_1 v1 v3 v5 v6 v7 v8 σ → W p l e ({ frames := 4, cells := 0, slots := 0, locals := 88 } : Room) s m args below meth c H locs 0 0 Q (F0 m 174 ls []) := by
    intro v1 v3 v5 v6 v7 v8 σ H locs ls hok hl S hq
    refine lv_iinc (k := 7) (v := (2 : Int32)) hx hb d_Mo_pop_174 hl rfl (by first | rfl | decide) (by decide) rfl (fun ls hl => ?_)
    refine lv_goto (tgt := 122) hx hb d_Mo_pop_177 rfl ?_
    exact B_Mo_pop_122_2 _ _ _ _ _ _ _ _ _ _ hok (lv_sub hl [1, 2, 3, 4, 5, 6, 7, 0] rfl) S hq
  have B_Mo_pop_171_1 : ∀ (v1 : Int32) (v3 : Int32) (v5 : Int32) (v6 : Int32) (v7 : Bool) (v8 : Int32) (σ : nS) (H : Heap) (locs : List Loc) (ls : Array Slot), (o_Mo_pop_171_1 v1 v3 v5 v6 v7 v8 σ) → lv_has ls 10 [(0, .ref (a 0)), (1, .int v1), (3, .int v3), (5, .int v5), (6, .int v6), (7, .int (bI v7)), (8, .int v8), (9, .int (1 : Int32))] → St D (wM cI cZ a) A s σ H locs → F = s_Mo_pop_171_1 v1 v3 v5 v6 v7 v8 σ → W p l e ({ frames := 4, cells := 0, slots := 0, locals := 88 } : Room) s m args below meth c H locs 0 0 Q (F0 m 171 ls []) := by
    intro v1 v3 v5 v6 v7 v8 σ H locs ls hok hl S hq
    refine lv_iinc (k := 2) (v := (v3 + (4 : Int32))) hx hb d_Mo_pop_171 hl rfl (by first | rfl | decide) (by decide) rfl (fun ls hl => ?_)
    exact B_Mo_pop_174_1 _ _ _ _ _ _ _ _ _ _ hok (lv_sub hl [1, 2, 0, 3, 4, 5, 6, 7] rfl) S hq
  have B_Mo_pop_159_1 : ∀ (v1 : Int32) (v3 : Int32) (v5 : Int32) (v6 : Int32) (v7 : Bool) (v8 : Int32) (σ : nS) (H : Heap) (locs : List Loc) (ls : Array Slot), (o_Mo_pop_159_1 v1 v3 v5 v6 v7 v8 σ) → lv_has ls 10 [(0, .ref (a 0)), (1, .int v1), (3, .int v3), (5, .int v5), (6, .int v6), (7, .int (bI v7)), (8, .int v8), (9, .int (1 : Int32))] → St D (wM cI cZ a) A s σ H locs → F = s_Mo_pop_159_1 v1 v3 v5 v6 v7 v8 σ → W p l e ({ frames := 4, cells := 0, slots := 0, locals := 88 } : Room) s m args below meth c H locs 0 0 Q (F0 m 159 ls []) := by
    intro v1 v3 v5 v6 v7 v8 σ H locs ls hok hl S hq
    refine lv_aload_n hx hb d_Mo_pop_159 rfl (lv_at hl 0 rfl) ?_
    refine g_Mo_13 hx hb hts hown hK S.1 d_Mo_pop_160 ?_
    refine lv_iload hx hb d_Mo_pop_163 (lv_at hl 7 rfl) ?_
    refine lv_aload_n hx hb d_Mo_pop_165 rfl (lv_at hl 0 rfl) ?_
    refine lv_iload_n hx hb d_Mo_pop_166 rfl (lv_at hl 2 rfl) ?_
    obtain ⟨g7, hok⟩ := hok
    refine callVIp X S hl (c_Mo_load v3 _ g7) v_Mo_77 0 6 ⟨rfl, rfl⟩ (rk_dec (by decide)) rfl rfl (Nat.le_of_ble_eq_true rfl) d_Mo_pop_167 (fun H locs S => ?_)
    refine st_M_2 (k := 1) hx hb hK S (vin_dec (by decide)) (by decide) d_Mo_pop_170 (fun H locs S => ?_)
    exact B_Mo_pop_171_1 _ _ _ _ _ _ _ _ _ _ hok (lv_sub hl [0, 1, 2, 3, 4, 5, 6, 7] rfl) S hq
  have B_Mo_pop_122_1 : ∀ (v1 : Int32) (v3 : Int32) (v5 : Int32) (v6 : Int32) (v7 : Bool) (v8 : Int32) (σ : nS) (H : Heap) (locs : List Loc) (ls : Array Slot), (o_Mo_pop_122_1 v1 v3 v5 v6 v7 v8 σ) → lv_has ls 10 [(0, .ref (a 0)), (1, .int v1), (3, .int v3), (5, .int v5), (6, .int v6), (7, .int (bI v7)), (8, .int v8), (9, .int (1 : Int32))] → St D (wM cI cZ a) A s σ H locs → F = s_Mo_pop_122_1 v1 v3 v5 v6 v7 v8 σ → W p l e ({ frames := 4, cells := 0, slots := 0, locals := 88 } : Room) s m args below meth c H locs 0 0 Q (F0 m 122 ls []) := by
    intro v1 v3 v5 v6 v7 v8 σ H locs ls hok hl S hq
    refine lv_iload hx hb d_Mo_pop_122 (lv_at hl 7 rfl) ?_
    refine lv_bipush (v := 8) hx hb d_Mo_pop_124 (by decide) ?_
    refine lv_icmp_ge (tgt := 180) hx hb d_Mo_pop_126 rfl (fun h9 => absurd h9 (by decide)) (fun _ => ?_)
    refine lv_iload_n hx hb d_Mo_pop_129 rfl (lv_at hl 1 rfl) ?_
    refine lv_iload hx hb d_Mo_pop_130 (lv_at hl 7 rfl) ?_
    refine lv_ishr hx hb d_Mo_pop_132 ?_
    refine lv_iconst (v := 1) hx hb d_Mo_pop_133 (by decide) ?_
    refine lv_iand hx hb d_Mo_pop_134 ?_
    refine lv_iconst (v := 1) hx hb d_Mo_pop_135 (by decide) ?_
    refine lv_icmp_ne (tgt := 174) hx hb d_Mo_pop_136 rfl (fun h136 => ?_) (fun h136 => ?_)
    · have hq := hq.trans (if_neg h136)
      have hok := ok_neg h136 hok
      exact B_Mo_pop_174_1 _ _ _ _ _ _ _ _ _ _ hok (lv_sub hl [0, 1, 2, 3, 4, 5, 6, 7] rfl) S hq
    · have hq := hq.trans (if_pos h136)
      have hok := ok_pos h136 hok
      refine lv_iload hx hb d_Mo_pop_139 (lv_at hl 5 rfl) ?_
      refine r_ifeqZ (tgt := 159) hx hb d_Mo_pop_141 rfl (fun h141 => ?_) (fun h141 => ?_)
      · have hq := hq.trans (if_neg h141)
        have hok := ok_neg h141 hok
        exact B_Mo_pop_159_1 _ _ _ _ _ _ _ _ _ _ hok (lv_sub hl [0, 1, 2, 3, 4, 5, 6, 7] rfl) S hq
      · have hq := hq.trans (if_pos h141)
        have hok := ok_pos h141 hok
        refine lv_iload hx hb d_Mo_pop_144 (lv_at hl 7 rfl) ?_
        refine lv_iconst (v := 3) hx hb d_Mo_pop_146 (by decide) ?_
        refine lv_icmp_gt (tgt := 159) hx hb d_Mo_pop_147 rfl (fun h9 => absurd h9 (by decide)) (fun _ => ?_)
        refine lv_aload_n hx hb d_Mo_pop_150 rfl (lv_at hl 0 rfl) ?_
        refine g_Mo_141 hx hb hts hown hK S.1 d_Mo_pop_151 ?_
        refine lv_iload hx hb d_Mo_pop_154 (lv_at hl 6 rfl) ?_
        refine lv_icmp_le (tgt := 171) hx hb d_Mo_pop_156 rfl (fun h156 => ?_) (fun h156 => ?_)
        · have hq := hq.trans (if_pos h156)
          have hok := ok_pos h156 hok
          exact B_Mo_pop_171_1 _ _ _ _ _ _ _ _ _ _ hok (lv_sub hl [0, 1, 2, 3, 4, 5, 6, 7] rfl) S hq
        · have hq := hq.trans (if_neg h156)
          have hok := ok_neg h156 hok
          exact B_Mo_pop_159_1 _ _ _ _ _ _ _ _ _ _ hok (lv_sub hl [0, 1, 2, 3, 4, 5, 6, 7] rfl) S hq
  have B_Mo_pop_174_0 : ∀ (v1 : Int32) (v3 : Int32) (v5 : Int32) (v6 : Int32) (v7 : Bool) (v8 : Int32) (σ : nS) (H : Heap) (locs : List Loc) (ls : Array Slot), (o_Mo_pop_174_0 v1 v3 v5 v6 v7 v8 σ) → lv_has ls 10 [(0, .ref (a 0)), (1, .int v1), (3, .int v3), (5, .int v5), (6, .int v6), (7, .int (bI v7)), (8, .int v8), (9, .int (0 : Int32))] → St D (wM cI cZ a) A s σ H locs → F = s_Mo_pop_174_0 v1 v3 v5 v6 v7 v8 σ → W p l e ({ frames := 4, cells := 0, slots := 0, locals := 88 } : Room) s m args below meth c H locs 0 0 Q (F0 m 174 ls []) := by
    intro v1 v3 v5 v6 v7 v8 σ H locs ls hok hl S hq
    refine lv_iinc (k := 7) (v := (1 : Int32)) hx hb d_Mo_pop_174 hl rfl (by first | rfl | decide) (by decide) rfl (fun ls hl => ?_)
    refine lv_goto (tgt := 122) hx hb d_Mo_pop_177 rfl ?_
    exact B_Mo_pop_122_1 _ _ _ _ _ _ _ _ _ _ hok (lv_sub hl [1, 2, 3, 4, 5, 6, 7, 0] rfl) S hq
  have B_Mo_pop_171_0 : ∀ (v1 : Int32) (v3 : Int32) (v5 : Int32) (v6 : Int32) (v7 : Bool) (v8 : Int32) (σ : nS) (H : Heap) (locs : List Loc) (ls : Array Slot), (o_Mo_pop_171_0 v1 v3 v5 v6 v7 v8 σ) → lv_has ls 10 [(0, .ref (a 0)), (1, .int v1), (3, .int v3), (5, .int v5), (6, .int v6), (7, .int (bI v7)), (8, .int v8), (9, .int (0 : Int32))] → St D (wM cI cZ a) A s σ H locs → F = s_Mo_pop_171_0 v1 v3 v5 v6 v7 v8 σ → W p l e ({ frames := 4, cells := 0, slots := 0, locals := 88 } : Room) s m args below meth c H locs 0 0 Q (F0 m 171 ls []) := by
    intro v1 v3 v5 v6 v7 v8 σ H locs ls hok hl S hq
    refine lv_iinc (k := 2) (v := (v3 + (4 : Int32))) hx hb d_Mo_pop_171 hl rfl (by first | rfl | decide) (by decide) rfl (fun ls hl => ?_)
    exact B_Mo_pop_174_0 _ _ _ _ _ _ _ _ _ _ hok (lv_sub hl [1, 2, 0, 3, 4, 5, 6, 7] rfl) S hq
  have B_Mo_pop_159_0 : ∀ (v1 : Int32) (v3 : Int32) (v5 : Int32) (v6 : Int32) (v7 : Bool) (v8 : Int32) (σ : nS) (H : Heap) (locs : List Loc) (ls : Array Slot), (o_Mo_pop_159_0 v1 v3 v5 v6 v7 v8 σ) → lv_has ls 10 [(0, .ref (a 0)), (1, .int v1), (3, .int v3), (5, .int v5), (6, .int v6), (7, .int (bI v7)), (8, .int v8), (9, .int (0 : Int32))] → St D (wM cI cZ a) A s σ H locs → F = s_Mo_pop_159_0 v1 v3 v5 v6 v7 v8 σ → W p l e ({ frames := 4, cells := 0, slots := 0, locals := 88 } : Room) s m args below meth c H locs 0 0 Q (F0 m 159 ls []) := by
    intro v1 v3 v5 v6 v7 v8 σ H locs ls hok hl S hq
    refine lv_aload_n hx hb d_Mo_pop_159 rfl (lv_at hl 0 rfl) ?_
    refine g_Mo_13 hx hb hts hown hK S.1 d_Mo_pop_160 ?_
    refine lv_iload hx hb d_Mo_pop_163 (lv_at hl 7 rfl) ?_
    refine lv_aload_n hx hb d_Mo_pop_165 rfl (lv_at hl 0 rfl) ?_
    refine lv_iload_n hx hb d_Mo_pop_166 rfl (lv_at hl 2 rfl) ?_
    obtain ⟨g8, hok⟩ := hok
    refine callVIp X S hl (c_Mo_load v3 _ g8) v_Mo_77 0 6 ⟨rfl, rfl⟩ (rk_dec (by decide)) rfl rfl (Nat.le_of_ble_eq_true rfl) d_Mo_pop_167 (fun H locs S => ?_)
    refine st_M_2 (k := 0) hx hb hK S (vin_dec (by decide)) (by decide) d_Mo_pop_170 (fun H locs S => ?_)
    exact B_Mo_pop_171_0 _ _ _ _ _ _ _ _ _ _ hok (lv_sub hl [0, 1, 2, 3, 4, 5, 6, 7] rfl) S hq
  have B_Mo_pop_122_0 : ∀ (v1 : Int32) (v3 : Int32) (v5 : Int32) (v6 : Int32) (v7 : Bool) (v8 : Int32) (σ : nS) (H : Heap) (locs : List Loc) (ls : Array Slot), (o_Mo_pop_122_0 v1 v3 v5 v6 v7 v8 σ) → lv_has ls 10 [(0, .ref (a 0)), (1, .int v1), (3, .int v3), (5, .int v5), (6, .int v6), (7, .int (bI v7)), (8, .int v8), (9, .int (0 : Int32))] → St D (wM cI cZ a) A s σ H locs → F = s_Mo_pop_122_0 v1 v3 v5 v6 v7 v8 σ → W p l e ({ frames := 4, cells := 0, slots := 0, locals := 88 } : Room) s m args below meth c H locs 0 0 Q (F0 m 122 ls []) := by
    intro v1 v3 v5 v6 v7 v8 σ H locs ls hok hl S hq
    refine lv_iload hx hb d_Mo_pop_122 (lv_at hl 7 rfl) ?_
    refine lv_bipush (v := 8) hx hb d_Mo_pop_124 (by decide) ?_
    refine lv_icmp_ge (tgt := 180) hx hb d_Mo_pop_126 rfl (fun h9 => absurd h9 (by decide)) (fun _ => ?_)
    refine lv_iload_n hx hb d_Mo_pop_129 rfl (lv_at hl 1 rfl) ?_
    refine lv_iload hx hb d_Mo_pop_130 (lv_at hl 7 rfl) ?_
    refine lv_ishr hx hb d_Mo_pop_132 ?_
    refine lv_iconst (v := 1) hx hb d_Mo_pop_133 (by decide) ?_
    refine lv_iand hx hb d_Mo_pop_134 ?_
    refine lv_iconst (v := 1) hx hb d_Mo_pop_135 (by decide) ?_
    refine lv_icmp_ne (tgt := 174) hx hb d_Mo_pop_136 rfl (fun h136 => ?_) (fun h136 => ?_)
    · have hq := hq.trans (if_neg h136)
      have hok := ok_neg h136 hok
      exact B_Mo_pop_174_0 _ _ _ _ _ _ _ _ _ _ hok (lv_sub hl [0, 1, 2, 3, 4, 5, 6, 7] rfl) S hq
    · have hq := hq.trans (if_pos h136)
      have hok := ok_pos h136 hok
      refine lv_iload hx hb d_Mo_pop_139 (lv_at hl 5 rfl) ?_
      refine r_ifeqZ (tgt := 159) hx hb d_Mo_pop_141 rfl (fun h141 => ?_) (fun h141 => ?_)
      · have hq := hq.trans (if_neg h141)
        have hok := ok_neg h141 hok
        exact B_Mo_pop_159_0 _ _ _ _ _ _ _ _ _ _ hok (lv_sub hl [0, 1, 2, 3, 4, 5, 6, 7] rfl) S hq
      · have hq := hq.trans (if_pos h141)
        have hok := ok_pos h141 hok
        refine lv_iload hx hb d_Mo_pop_144 (lv_at hl 7 rfl) ?_
        refine lv_iconst (v := 3) hx hb d_Mo_pop_146 (by decide) ?_
        refine lv_icmp_gt (tgt := 159) hx hb d_Mo_pop_147 rfl (fun h9 => absurd h9 (by decide)) (fun _ => ?_)
        refine lv_aload_n hx hb d_Mo_pop_150 rfl (lv_at hl 0 rfl) ?_
        refine g_Mo_141 hx hb hts hown hK S.1 d_Mo_pop_151 ?_
        refine lv_iload hx hb d_Mo_pop_154 (lv_at hl 6 rfl) ?_
        refine lv_icmp_le (tgt := 171) hx hb d_Mo_pop_156 rfl (fun h156 => ?_) (fun h156 => ?_)
        · have hq := hq.trans (if_pos h156)
          have hok := ok_pos h156 hok
          exact B_Mo_pop_171_0 _ _ _ _ _ _ _ _ _ _ hok (lv_sub hl [0, 1, 2, 3, 4, 5, 6, 7] rfl) S hq
        · have hq := hq.trans (if_neg h156)
          have hok := ok_neg h156 hok
          exact B_Mo_pop_159_0 _ _ _ _ _ _ _ _ _ _ hok (lv_sub hl [0, 1, 2, 3, 4, 5, 6, 7] rfl) S hq
  have B_Mo_pop_119 : ∀ (v1 : Int32) (v3 : Int32) (v5 : Int32) (v6 : Int32) (v7 : Bool) (v8 : Int32) (σ : nS) (H : Heap) (locs : List Loc) (ls : Array Slot), (o_Mo_pop_119 v1 v3 v5 v6 v7 v8 σ) → lv_has ls 10 [(0, .ref (a 0)), (1, .int v1), (3, .int v3), (5, .int v5), (6, .int v6), (7, .int (bI v7)), (8, .int v8)] → St D (wM cI cZ a) A s σ H locs → F = s_Mo_pop_119 v1 v3 v5 v6 v7 v8 σ → W p l e ({ frames := 4, cells := 0, slots := 0, locals := 88 } : Room) s m args below meth c H locs 0 0 Q (F0 m 119 ls []) := by
    intro v1 v3 v5 v6 v7 v8 σ H locs ls hok hl S hq
    refine lv_iconst (v := 0) hx hb d_Mo_pop_119 (by decide) ?_
    refine lv_istore hx hb d_Mo_pop_120 hl (by decide) rfl (fun ls hl => ?_)
    exact B_Mo_pop_122_0 _ _ _ _ _ _ _ _ _ _ hok (lv_sub hl [1, 2, 3, 4, 5, 6, 7, 0] rfl) S hq
  have B_Mo_pop_88 : ∀ (v1 : Int32) (v3 : Int32) (v5 : Int32) (v6 : Int32) (k0 : Bool) (σ : nS) (H : Heap) (locs : List Loc) (ls : Array Slot), (o_Mo_pop_88 v1 v3 v5 v6 k0 σ) → lv_has ls 10 [(0, .ref (a 0)), (1, .int v1), (3, .int v3), (5, .int v5), (6, .int v6)] → St D (wM cI cZ a) A s σ H locs → F = s_Mo_pop_88 v1 v3 v5 v6 k0 σ → W p l e ({ frames := 4, cells := 0, slots := 0, locals := 88 } : Room) s m args below meth c H locs 0 0 Q (F0 m 88 ls [.int (bI k0)]) := by
    intro v1 v3 v5 v6 k0 σ H locs ls hok hl S hq
    refine lv_istore hx hb d_Mo_pop_88 hl (by decide) rfl (fun ls hl => ?_)
    refine lv_aload_n hx hb d_Mo_pop_90 rfl (lv_at hl 1 rfl) ?_
    refine g_Mo_141 hx hb hts hown hK S.1 d_Mo_pop_91 ?_
    refine lv_istore hx hb d_Mo_pop_94 hl (by decide) rfl (fun ls hl => ?_)
    refine lv_iload hx hb d_Mo_pop_96 (lv_at hl 1 rfl) ?_
    refine r_ifeqZ (tgt := 119) hx hb d_Mo_pop_98 rfl (fun h98 => ?_) (fun h98 => ?_)
    · have hq := hq.trans (if_neg h98)
      have hok := ok_neg h98 hok
      exact B_Mo_pop_119 _ _ _ _ _ _ _ _ _ _ hok (lv_sub hl [2, 3, 4, 5, 6, 1, 0] rfl) S hq
    · have hq := hq.trans (if_pos h98)
      have hok := ok_pos h98 hok
      refine lv_aload_n hx hb d_Mo_pop_101 rfl (lv_at hl 2 rfl) ?_
      refine lv_iload hx hb d_Mo_pop_102 (lv_at hl 6 rfl) ?_
      refine lv_iload hx hb d_Mo_pop_104 (lv_at hl 5 rfl) ?_
      obtain ⟨g9, hok⟩ := hok
      refine callVI X S hl (c_Mo_jump v6 v5 _ g9) v_Mo_147 0 6 ⟨rfl, rfl⟩ (rk_dec (by decide)) rfl rfl (Nat.le_of_ble_eq_true rfl) d_Mo_pop_106 (fun r1 σ1 H locs e1 S => ?_)
      have hq := hq.trans (ap2_eq e1)
      have hok := ok_ap2 e1 hok
      refine lv_istore hx hb d_Mo_pop_109 hl (by decide) rfl (fun ls hl => ?_)
      refine lv_iload hx hb d_Mo_pop_111 (lv_at hl 0 rfl) ?_
      refine lv_if_le (tgt := 119) hx hb d_Mo_pop_113 rfl (fun h113 => ?_) (fun h113 => ?_)
      · have hq := hq.trans (if_pos h113)
        have hok := ok_pos h113 hok
        exact B_Mo_pop_119 _ _ _ _ _ _ _ _ _ _ hok (lv_sub hl [3, 4, 5, 6, 7, 2, 1] rfl) S hq
      · have hq := hq.trans (if_neg h113)
        have hok := ok_neg h113 hok
        refine lv_iload hx hb d_Mo_pop_116 (lv_at hl 0 rfl) ?_
        exact ret _ _ _ _ _ _ S hq d_Mo_pop_118
  have B_Mo_pop_87 : ∀ (v1 : Int32) (v3 : Int32) (v5 : Int32) (v6 : Int32) (σ : nS) (H : Heap) (locs : List Loc) (ls : Array Slot), (o_Mo_pop_87 v1 v3 v5 v6 σ) → lv_has ls 10 [(0, .ref (a 0)), (1, .int v1), (3, .int v3), (5, .int v5), (6, .int v6)] → St D (wM cI cZ a) A s σ H locs → F = s_Mo_pop_87 v1 v3 v5 v6 σ → W p l e ({ frames := 4, cells := 0, slots := 0, locals := 88 } : Room) s m args below meth c H locs 0 0 Q (F0 m 87 ls []) := by
    intro v1 v3 v5 v6 σ H locs ls hok hl S hq
    refine lv_iconst (v := 0) hx hb d_Mo_pop_87 (by decide) ?_
    exact B_Mo_pop_88 _ _ _ _ false _ _ _ _ hok (lv_sub hl [0, 1, 2, 3, 4] rfl) S hq
  have B_Mo_pop_65 : ∀ (v1 : Int32) (v3 : Int32) (v5 : Int32) (k0 : Int32) (σ : nS) (H : Heap) (locs : List Loc) (ls : Array Slot), (o_Mo_pop_65 v1 v3 v5 k0 σ) → lv_has ls 10 [(0, .ref (a 0)), (1, .int v1), (3, .int v3), (5, .int v5)] → St D (wM cI cZ a) A s σ H locs → F = s_Mo_pop_65 v1 v3 v5 k0 σ → W p l e ({ frames := 4, cells := 0, slots := 0, locals := 88 } : Room) s m args below meth c H locs 0 0 Q (F0 m 65 ls [.int k0]) := by
    intro v1 v3 v5 k0 σ H locs ls hok hl S hq
    refine lv_istore hx hb d_Mo_pop_65 hl (by decide) rfl (fun ls hl => ?_)
    refine lv_iload_n hx hb d_Mo_pop_67 rfl (lv_at hl 2 rfl) ?_
    refine lv_sipush (v := 255) hx hb d_Mo_pop_68 (by decide) ?_
    refine lv_icmp_le (tgt := 87) hx hb d_Mo_pop_71 rfl (fun h71 => ?_) (fun h71 => ?_)
    · have hq := hq.trans (if_pos h71)
      have hok := ok_pos h71 hok
      exact B_Mo_pop_87 _ _ _ _ _ _ _ _ hok (lv_sub hl [1, 2, 3, 4, 0] rfl) S hq
    · have hq := hq.trans (if_neg h71)
      have hok := ok_neg h71 hok
      refine lv_aload_n hx hb d_Mo_pop_74 rfl (lv_at hl 1 rfl) ?_
      refine lv_iload hx hb d_Mo_pop_75 (lv_at hl 0 rfl) ?_
      refine callVZp X S hl (c_Mo_isReturn k0 _) v_Mo_132 0 6 ⟨rfl, rfl⟩ (rk_dec (by decide)) rfl rfl (Nat.le_of_ble_eq_true rfl) d_Mo_pop_77 (fun H locs S => ?_)
      refine r_ifeqZ (tgt := 87) hx hb d_Mo_pop_80 rfl (fun h80 => ?_) (fun h80 => ?_)
      · have hq := hq.trans (if_neg h80)
        have hok := ok_neg h80 hok
        exact B_Mo_pop_87 _ _ _ _ _ _ _ _ hok (lv_sub hl [1, 2, 3, 4, 0] rfl) S hq
      · have hq := hq.trans (if_pos h80)
        have hok := ok_pos h80 hok
        refine lv_iconst (v := 1) hx hb d_Mo_pop_83 (by decide) ?_
        refine lv_goto (tgt := 88) hx hb d_Mo_pop_84 rfl ?_
        exact B_Mo_pop_88 _ _ _ _ true _ _ _ _ hok (lv_sub hl [1, 2, 3, 4, 0] rfl) S hq
  have B_Mo_pop_29 : ∀ (v1 : Int32) (v2 : Int32) (v3 : Int32) (k0 : Int32) (σ : nS) (H : Heap) (locs : List Loc) (ls : Array Slot), (o_Mo_pop_29 v1 v2 v3 k0 σ) → lv_has ls 10 [(0, .ref (a 0)), (1, .int v1), (2, .int v2), (3, .int v3)] → St D (wM cI cZ a) A s σ H locs → F = s_Mo_pop_29 v1 v2 v3 k0 σ → W p l e ({ frames := 4, cells := 0, slots := 0, locals := 88 } : Room) s m args below meth c H locs 0 0 Q (F0 m 29 ls [.int k0]) := by
    intro v1 v2 v3 k0 σ H locs ls hok hl S hq
    refine lv_istore hx hb d_Mo_pop_29 hl (by decide) rfl (fun ls hl => ?_)
    refine lv_iload hx hb d_Mo_pop_31 (lv_at hl 0 rfl) ?_
    refine lv_if_le (tgt := 39) hx hb d_Mo_pop_33 rfl (fun h33 => ?_) (fun h33 => ?_)
    · have hq := hq.trans (if_pos h33)
      have hok := ok_pos h33 hok
      refine lv_iload_n hx hb d_Mo_pop_39 rfl (lv_at hl 4 rfl) ?_
      refine lv_iconst (v := 4) hx hb d_Mo_pop_40 (by decide) ?_
      refine lv_iload_n hx hb d_Mo_pop_41 rfl (lv_at hl 3 rfl) ?_
      refine lv_imul hx hb d_Mo_pop_42 ?_
      refine lv_iadd hx hb d_Mo_pop_43 ?_
      refine lv_istore hx hb d_Mo_pop_44 hl (by decide) rfl (fun ls hl => ?_)
      refine lv_iload_n hx hb d_Mo_pop_46 rfl (lv_at hl 3 rfl) ?_
      refine lv_sipush (v := 255) hx hb d_Mo_pop_47 (by decide) ?_
      refine lv_icmp_le (tgt := 64) hx hb d_Mo_pop_50 rfl (fun h50 => ?_) (fun h50 => ?_)
      · have hq := hq.trans (if_pos h50)
        have hok := ok_pos h50 hok
        refine lv_iconst (v := 0) hx hb d_Mo_pop_64 (by decide) ?_
        exact B_Mo_pop_65 _ _ _ _ _ _ _ _ hok (lv_sub hl [2, 3, 5, 0] rfl) S hq
      · have hq := hq.trans (if_neg h50)
        have hok := ok_neg h50 hok
        refine lv_aload_n hx hb d_Mo_pop_53 rfl (lv_at hl 2 rfl) ?_
        refine lv_iload hx hb d_Mo_pop_54 (lv_at hl 0 rfl) ?_
        refine lv_iconst (v := 4) hx hb d_Mo_pop_56 (by decide) ?_
        refine lv_isub hx hb d_Mo_pop_57 ?_
        obtain ⟨g10, hok⟩ := hok
        refine callVIp X S hl (c_Mo_load ((v3 + ((4 : Int32) * v2)) - (4 : Int32)) _ g10) v_Mo_77 0 6 ⟨rfl, rfl⟩ (rk_dec (by decide)) rfl rfl (Nat.le_of_ble_eq_true rfl) d_Mo_pop_58 (fun H locs S => ?_)
        refine lv_goto (tgt := 65) hx hb d_Mo_pop_61 rfl ?_
        exact B_Mo_pop_65 _ _ _ _ _ _ _ _ hok (lv_sub hl [2, 3, 5, 0] rfl) S hq
    · have hq := hq.trans (if_neg h33)
      have hok := ok_neg h33 hok
      refine lv_iload hx hb d_Mo_pop_36 (lv_at hl 0 rfl) ?_
      exact ret _ _ _ _ _ _ S hq d_Mo_pop_38
  refine lv_iload_n hx hb d_Mo_pop_0 rfl (lv_at hl 1 rfl) ?_
  refine callSIp X S hl (c_Mo_ones v1 _) v_Mo_154 (rk_dec (by decide)) rfl rfl (Nat.le_of_ble_eq_true rfl) d_Mo_pop_1 (fun H locs S => ?_)
  refine lv_istore_n hx hb d_Mo_pop_4 rfl hl (by decide) rfl (fun ls hl => ?_)
  refine lv_aload_n hx hb d_Mo_pop_5 rfl (lv_at hl 1 rfl) ?_
  refine g_Mo_13 hx hb hts hown hK S.1 d_Mo_pop_6 ?_
  refine lv_bipush (v := 13) hx hb d_Mo_pop_9 (by decide) ?_
  refine ld_M_2 (k := 13) hx hb hK S.1 (vin_dec (by decide)) (by decide) d_Mo_pop_11 ?_
  refine lv_istore_n hx hb d_Mo_pop_12 rfl hl (by decide) rfl (fun ls hl => ?_)
  refine lv_iload_n hx hb d_Mo_pop_13 rfl (lv_at hl 1 rfl) ?_
  refine lv_if_ne (tgt := 22) hx hb d_Mo_pop_14 rfl (fun h14 => ?_) (fun h14 => ?_)
  · have hq := hq.trans (if_neg h14)
    have hok := ok_neg h14 hok
    refine lv_aload_n hx hb d_Mo_pop_22 rfl (lv_at hl 2 rfl) ?_
    refine lv_iload_n hx hb d_Mo_pop_23 rfl (lv_at hl 0 rfl) ?_
    refine lv_iload_n hx hb d_Mo_pop_24 rfl (lv_at hl 1 rfl) ?_
    refine lv_iconst (v := 1) hx hb d_Mo_pop_25 (by decide) ?_
    obtain ⟨g11, hok⟩ := hok
    refine callVIp X S hl (c_Mo_faultOf (σ 0 13) (s_Mo_ones v1) (1 : Int32) _ g11) v_Mo_151 0 6 ⟨rfl, rfl⟩ (rk_dec (by decide)) rfl rfl (Nat.le_of_ble_eq_true rfl) d_Mo_pop_26 (fun H locs S => ?_)
    exact B_Mo_pop_29 _ _ _ _ _ _ _ _ hok (lv_sub hl [2, 3, 1, 0] rfl) S hq
  · have hq := hq.trans (if_pos h14)
    have hok := ok_pos h14 hok
    refine lv_bipush (v := 6) hx hb d_Mo_pop_17 (by decide) ?_
    refine lv_goto (tgt := 29) hx hb d_Mo_pop_19 rfl ?_
    exact B_Mo_pop_29 _ _ _ _ _ _ _ _ hok (lv_sub hl [2, 3, 1, 0] rfl) S hq
set_option maxHeartbeats 4000000 in
set_option maxRecDepth 100000 in
theorem c_Mo_holds (v1 : Int32) (σ : nS) : CtZ l D cI cZ (wM cI cZ a) exM y_Mo_holds b_Mo_holds 2 { frames := 0, cells := 0, slots := 0, locals := 0 } [.ref (a 0), .int v1] σ (s_Mo_holds v1 σ, σ) := by
  generalize hF : s_Mo_holds v1 σ = F
  refine metZp exM_ok (by decide) (Nat.le_of_ble_eq_true rfl) (fun p e s m args below meth c A Q ls X S hl ret => ?_)
  have hq := hF.symm
  obtain ⟨hx, hb, hml, hown, hts, hK, hA, hE, hlk, hEo⟩ := id X
  have hl : lv_has ls 2 [(0, .ref (a 0)), (1, .int v1)] := hl
  have B_Mo_holds_53 : ∀ (k0 : Int32) (k1 : Bool) (H : Heap) (locs : List Loc) (ls : Array Slot), lv_has ls 2 [] → St D (wM cI cZ a) A s σ H locs → F = s_Mo_holds_53 k0 k1 σ → W p l e ({ frames := 0, cells := 0, slots := 0, locals := 0 } : Room) s m args below meth c H locs 0 0 Q (F0 m 53 ls [.int (bI k1), .int k0]) := by
    intro k0 k1 H locs ls hl S hq
    refine lv_icmp_ne (tgt := 60) hx hb d_Mo_holds_53 rfl (fun h53 => ?_) (fun h53 => ?_)
    · have hq := hq.trans (if_neg h53)
      refine lv_iconst (v := 0) hx hb d_Mo_holds_60 (by decide) ?_
      exact ret _ _ _ _ false S hq d_Mo_holds_61
    · have hq := hq.trans (if_pos h53)
      refine lv_iconst (v := 1) hx hb d_Mo_holds_56 (by decide) ?_
      refine lv_goto (tgt := 61) hx hb d_Mo_holds_57 rfl ?_
      exact ret _ _ _ _ true S hq d_Mo_holds_61
  have B_Mo_holds_76 : ∀ (k0 : Int32) (k1 : Bool) (H : Heap) (locs : List Loc) (ls : Array Slot), lv_has ls 2 [] → St D (wM cI cZ a) A s σ H locs → F = s_Mo_holds_76 k0 k1 σ → W p l e ({ frames := 0, cells := 0, slots := 0, locals := 0 } : Room) s m args below meth c H locs 0 0 Q (F0 m 76 ls [.int (bI k1), .int k0]) := by
    intro k0 k1 H locs ls hl S hq
    refine lv_icmp_ne (tgt := 83) hx hb d_Mo_holds_76 rfl (fun h76 => ?_) (fun h76 => ?_)
    · have hq := hq.trans (if_neg h76)
      refine lv_iconst (v := 0) hx hb d_Mo_holds_83 (by decide) ?_
      exact ret _ _ _ _ false S hq d_Mo_holds_84
    · have hq := hq.trans (if_pos h76)
      refine lv_iconst (v := 1) hx hb d_Mo_holds_79 (by decide) ?_
      refine lv_goto (tgt := 84) hx hb d_Mo_holds_80 rfl ?_
      exact ret _ _ _ _ true S hq d_Mo_holds_84
  have B_Mo_holds_99 : ∀ (k0 : Int32) (k1 : Bool) (H : Heap) (locs : List Loc) (ls : Array Slot), lv_has ls 2 [] → St D (wM cI cZ a) A s σ H locs → F = s_Mo_holds_99 k0 k1 σ → W p l e ({ frames := 0, cells := 0, slots := 0, locals := 0 } : Room) s m args below meth c H locs 0 0 Q (F0 m 99 ls [.int (bI k1), .int k0]) := by
    intro k0 k1 H locs ls hl S hq
    refine lv_icmp_ne (tgt := 106) hx hb d_Mo_holds_99 rfl (fun h99 => ?_) (fun h99 => ?_)
    · have hq := hq.trans (if_neg h99)
      refine lv_iconst (v := 0) hx hb d_Mo_holds_106 (by decide) ?_
      exact ret _ _ _ _ false S hq d_Mo_holds_107
    · have hq := hq.trans (if_pos h99)
      refine lv_iconst (v := 1) hx hb d_Mo_holds_102 (by decide) ?_
      refine lv_goto (tgt := 107) hx hb d_Mo_holds_103 rfl ?_
      exact ret _ _ _ _ true S hq d_Mo_holds_107
  have B_Mo_holds_123 : ∀ (k0 : Int32) (k1 : Bool) (H : Heap) (locs : List Loc) (ls : Array Slot), lv_has ls 2 [] → St D (wM cI cZ a) A s σ H locs → F = s_Mo_holds_123 k0 k1 σ → W p l e ({ frames := 0, cells := 0, slots := 0, locals := 0 } : Room) s m args below meth c H locs 0 0 Q (F0 m 123 ls [.int (bI k1), .int k0]) := by
    intro k0 k1 H locs ls hl S hq
    refine lv_icmp_ne (tgt := 130) hx hb d_Mo_holds_123 rfl (fun h123 => ?_) (fun h123 => ?_)
    · have hq := hq.trans (if_neg h123)
      refine lv_iconst (v := 0) hx hb d_Mo_holds_130 (by decide) ?_
      exact ret _ _ _ _ false S hq d_Mo_holds_131
    · have hq := hq.trans (if_pos h123)
      refine lv_iconst (v := 1) hx hb d_Mo_holds_126 (by decide) ?_
      refine lv_goto (tgt := 131) hx hb d_Mo_holds_127 rfl ?_
      exact ret _ _ _ _ true S hq d_Mo_holds_131
  have B_Mo_holds_162 : ∀ (k0 : Bool) (k1 : Bool) (H : Heap) (locs : List Loc) (ls : Array Slot), lv_has ls 2 [] → St D (wM cI cZ a) A s σ H locs → F = s_Mo_holds_162 k0 k1 σ → W p l e ({ frames := 0, cells := 0, slots := 0, locals := 0 } : Room) s m args below meth c H locs 0 0 Q (F0 m 162 ls [.int (bI k1), .int (bI k0)]) := by
    intro k0 k1 H locs ls hl S hq
    refine lv_icmp_ne (tgt := 169) hx hb d_Mo_holds_162 rfl (fun h162 => ?_) (fun h162 => ?_)
    · have hq := hq.trans (if_neg h162)
      refine lv_iconst (v := 0) hx hb d_Mo_holds_169 (by decide) ?_
      exact ret _ _ _ _ false S hq d_Mo_holds_170
    · have hq := hq.trans (if_pos h162)
      refine lv_iconst (v := 1) hx hb d_Mo_holds_165 (by decide) ?_
      refine lv_goto (tgt := 170) hx hb d_Mo_holds_166 rfl ?_
      exact ret _ _ _ _ true S hq d_Mo_holds_170
  have B_Mo_holds_151 : ∀ (v1 : Int32) (k0 : Bool) (H : Heap) (locs : List Loc) (ls : Array Slot), lv_has ls 2 [(1, .int v1)] → St D (wM cI cZ a) A s σ H locs → F = s_Mo_holds_151 v1 k0 σ → W p l e ({ frames := 0, cells := 0, slots := 0, locals := 0 } : Room) s m args below meth c H locs 0 0 Q (F0 m 151 ls [.int (bI k0)]) := by
    intro v1 k0 H locs ls hl S hq
    refine lv_iload_n hx hb d_Mo_holds_151 rfl (lv_at hl 0 rfl) ?_
    refine lv_bipush (v := 8) hx hb d_Mo_holds_152 (by decide) ?_
    refine lv_icmp_ne (tgt := 161) hx hb d_Mo_holds_154 rfl (fun h154 => ?_) (fun h154 => ?_)
    · have hq := hq.trans (if_neg h154)
      refine lv_iconst (v := 0) hx hb d_Mo_holds_161 (by decide) ?_
      exact B_Mo_holds_162 _ false _ _ _ (lv_sub hl [] rfl) S hq
    · have hq := hq.trans (if_pos h154)
      refine lv_iconst (v := 1) hx hb d_Mo_holds_157 (by decide) ?_
      refine lv_goto (tgt := 162) hx hb d_Mo_holds_158 rfl ?_
      exact B_Mo_holds_162 _ true _ _ _ (lv_sub hl [] rfl) S hq
  have B_Mo_holds_150 : ∀ (v1 : Int32) (H : Heap) (locs : List Loc) (ls : Array Slot), lv_has ls 2 [(1, .int v1)] → St D (wM cI cZ a) A s σ H locs → F = s_Mo_holds_150 v1 σ → W p l e ({ frames := 0, cells := 0, slots := 0, locals := 0 } : Room) s m args below meth c H locs 0 0 Q (F0 m 150 ls []) := by
    intro v1 H locs ls hl S hq
    refine lv_iconst (v := 0) hx hb d_Mo_holds_150 (by decide) ?_
    exact B_Mo_holds_151 _ false _ _ _ (lv_sub hl [0] rfl) S hq
  have B_Mo_holds_198 : ∀ (k0 : Bool) (k1 : Bool) (H : Heap) (locs : List Loc) (ls : Array Slot), lv_has ls 2 [] → St D (wM cI cZ a) A s σ H locs → F = s_Mo_holds_198 k0 k1 σ → W p l e ({ frames := 0, cells := 0, slots := 0, locals := 0 } : Room) s m args below meth c H locs 0 0 Q (F0 m 198 ls [.int (bI k1), .int (bI k0)]) := by
    intro k0 k1 H locs ls hl S hq
    refine lv_icmp_ne (tgt := 205) hx hb d_Mo_holds_198 rfl (fun h198 => ?_) (fun h198 => ?_)
    · have hq := hq.trans (if_neg h198)
      refine lv_iconst (v := 0) hx hb d_Mo_holds_205 (by decide) ?_
      exact ret _ _ _ _ false S hq d_Mo_holds_206
    · have hq := hq.trans (if_pos h198)
      refine lv_iconst (v := 1) hx hb d_Mo_holds_201 (by decide) ?_
      refine lv_goto (tgt := 206) hx hb d_Mo_holds_202 rfl ?_
      exact ret _ _ _ _ true S hq d_Mo_holds_206
  have B_Mo_holds_187 : ∀ (v1 : Int32) (k0 : Bool) (H : Heap) (locs : List Loc) (ls : Array Slot), lv_has ls 2 [(1, .int v1)] → St D (wM cI cZ a) A s σ H locs → F = s_Mo_holds_187 v1 k0 σ → W p l e ({ frames := 0, cells := 0, slots := 0, locals := 0 } : Room) s m args below meth c H locs 0 0 Q (F0 m 187 ls [.int (bI k0)]) := by
    intro v1 k0 H locs ls hl S hq
    refine lv_iload_n hx hb d_Mo_holds_187 rfl (lv_at hl 0 rfl) ?_
    refine lv_bipush (v := 10) hx hb d_Mo_holds_188 (by decide) ?_
    refine lv_icmp_ne (tgt := 197) hx hb d_Mo_holds_190 rfl (fun h190 => ?_) (fun h190 => ?_)
    · have hq := hq.trans (if_neg h190)
      refine lv_iconst (v := 0) hx hb d_Mo_holds_197 (by decide) ?_
      exact B_Mo_holds_198 _ false _ _ _ (lv_sub hl [] rfl) S hq
    · have hq := hq.trans (if_pos h190)
      refine lv_iconst (v := 1) hx hb d_Mo_holds_193 (by decide) ?_
      refine lv_goto (tgt := 198) hx hb d_Mo_holds_194 rfl ?_
      exact B_Mo_holds_198 _ true _ _ _ (lv_sub hl [] rfl) S hq
  have B_Mo_holds_241 : ∀ (k0 : Bool) (k1 : Bool) (H : Heap) (locs : List Loc) (ls : Array Slot), lv_has ls 2 [] → St D (wM cI cZ a) A s σ H locs → F = s_Mo_holds_241 k0 k1 σ → W p l e ({ frames := 0, cells := 0, slots := 0, locals := 0 } : Room) s m args below meth c H locs 0 0 Q (F0 m 241 ls [.int (bI k1), .int (bI k0)]) := by
    intro k0 k1 H locs ls hl S hq
    refine lv_icmp_ne (tgt := 248) hx hb d_Mo_holds_241 rfl (fun h241 => ?_) (fun h241 => ?_)
    · have hq := hq.trans (if_neg h241)
      refine lv_iconst (v := 0) hx hb d_Mo_holds_248 (by decide) ?_
      exact ret _ _ _ _ false S hq d_Mo_holds_249
    · have hq := hq.trans (if_pos h241)
      refine lv_iconst (v := 1) hx hb d_Mo_holds_244 (by decide) ?_
      refine lv_goto (tgt := 249) hx hb d_Mo_holds_245 rfl ?_
      exact ret _ _ _ _ true S hq d_Mo_holds_249
  have B_Mo_holds_230 : ∀ (v1 : Int32) (k0 : Bool) (H : Heap) (locs : List Loc) (ls : Array Slot), lv_has ls 2 [(1, .int v1)] → St D (wM cI cZ a) A s σ H locs → F = s_Mo_holds_230 v1 k0 σ → W p l e ({ frames := 0, cells := 0, slots := 0, locals := 0 } : Room) s m args below meth c H locs 0 0 Q (F0 m 230 ls [.int (bI k0)]) := by
    intro v1 k0 H locs ls hl S hq
    refine lv_iload_n hx hb d_Mo_holds_230 rfl (lv_at hl 0 rfl) ?_
    refine lv_bipush (v := 12) hx hb d_Mo_holds_231 (by decide) ?_
    refine lv_icmp_ne (tgt := 240) hx hb d_Mo_holds_233 rfl (fun h233 => ?_) (fun h233 => ?_)
    · have hq := hq.trans (if_neg h233)
      refine lv_iconst (v := 0) hx hb d_Mo_holds_240 (by decide) ?_
      exact B_Mo_holds_241 _ false _ _ _ (lv_sub hl [] rfl) S hq
    · have hq := hq.trans (if_pos h233)
      refine lv_iconst (v := 1) hx hb d_Mo_holds_236 (by decide) ?_
      refine lv_goto (tgt := 241) hx hb d_Mo_holds_237 rfl ?_
      exact B_Mo_holds_241 _ true _ _ _ (lv_sub hl [] rfl) S hq
  have B_Mo_holds_229 : ∀ (v1 : Int32) (H : Heap) (locs : List Loc) (ls : Array Slot), lv_has ls 2 [(1, .int v1)] → St D (wM cI cZ a) A s σ H locs → F = s_Mo_holds_229 v1 σ → W p l e ({ frames := 0, cells := 0, slots := 0, locals := 0 } : Room) s m args below meth c H locs 0 0 Q (F0 m 229 ls []) := by
    intro v1 H locs ls hl S hq
    refine lv_iconst (v := 0) hx hb d_Mo_holds_229 (by decide) ?_
    exact B_Mo_holds_230 _ false _ _ _ (lv_sub hl [0] rfl) S hq
  refine lv_iload_n hx hb d_Mo_holds_0 rfl (lv_at hl 1 rfl) ?_
  refine lv_iconst (v := 1) hx hb d_Mo_holds_1 (by decide) ?_
  refine lv_ishr hx hb d_Mo_holds_2 ?_
  by_cases h3_0 : (v1 >>> ((1 : Int32) &&& 31)) = (0 : Int32)
  · have hq := hq.trans (if_pos h3_0)
    refine lv_tableIn (off := 37) (tgt := 40) hx hb d_Mo_holds_3 (by rw [h3_0]; decide) (by rw [h3_0]; decide) (by rw [h3_0]; rfl) rfl ?_
    refine lv_aload_n hx hb d_Mo_holds_40 rfl (lv_at hl 0 rfl) ?_
    refine g_Mo_84 hx hb hts hown hK S.1 d_Mo_holds_41 ?_
    refine lv_iload_n hx hb d_Mo_holds_44 rfl (lv_at hl 1 rfl) ?_
    refine lv_if_ne (tgt := 52) hx hb d_Mo_holds_45 rfl (fun h45 => ?_) (fun h45 => ?_)
    · have hq := hq.trans (if_neg h45)
      refine lv_iconst (v := 0) hx hb d_Mo_holds_52 (by decide) ?_
      exact B_Mo_holds_53 _ false _ _ _ (lv_sub hl [] rfl) S hq
    · have hq := hq.trans (if_pos h45)
      refine lv_iconst (v := 1) hx hb d_Mo_holds_48 (by decide) ?_
      refine lv_goto (tgt := 53) hx hb d_Mo_holds_49 rfl ?_
      exact B_Mo_holds_53 _ true _ _ _ (lv_sub hl [] rfl) S hq
  · have hq := hq.trans (if_neg h3_0)
    by_cases h3_1 : (v1 >>> ((1 : Int32) &&& 31)) = (1 : Int32)
    · have hq := hq.trans (if_pos h3_1)
      refine lv_tableIn (off := 59) (tgt := 62) hx hb d_Mo_holds_3 (by rw [h3_1]; decide) (by rw [h3_1]; decide) (by rw [h3_1]; rfl) rfl ?_
      refine lv_aload_n hx hb d_Mo_holds_62 rfl (lv_at hl 0 rfl) ?_
      refine g_Mo_88 hx hb hts hown hK S.1 d_Mo_holds_63 ?_
      refine lv_iload_n hx hb d_Mo_holds_66 rfl (lv_at hl 1 rfl) ?_
      refine lv_iconst (v := 2) hx hb d_Mo_holds_67 (by decide) ?_
      refine lv_icmp_ne (tgt := 75) hx hb d_Mo_holds_68 rfl (fun h68 => ?_) (fun h68 => ?_)
      · have hq := hq.trans (if_neg h68)
        refine lv_iconst (v := 0) hx hb d_Mo_holds_75 (by decide) ?_
        exact B_Mo_holds_76 _ false _ _ _ (lv_sub hl [] rfl) S hq
      · have hq := hq.trans (if_pos h68)
        refine lv_iconst (v := 1) hx hb d_Mo_holds_71 (by decide) ?_
        refine lv_goto (tgt := 76) hx hb d_Mo_holds_72 rfl ?_
        exact B_Mo_holds_76 _ true _ _ _ (lv_sub hl [] rfl) S hq
    · have hq := hq.trans (if_neg h3_1)
      by_cases h3_2 : (v1 >>> ((1 : Int32) &&& 31)) = (2 : Int32)
      · have hq := hq.trans (if_pos h3_2)
        refine lv_tableIn (off := 82) (tgt := 85) hx hb d_Mo_holds_3 (by rw [h3_2]; decide) (by rw [h3_2]; decide) (by rw [h3_2]; rfl) rfl ?_
        refine lv_aload_n hx hb d_Mo_holds_85 rfl (lv_at hl 0 rfl) ?_
        refine g_Mo_80 hx hb hts hown hK S.1 d_Mo_holds_86 ?_
        refine lv_iload_n hx hb d_Mo_holds_89 rfl (lv_at hl 1 rfl) ?_
        refine lv_iconst (v := 4) hx hb d_Mo_holds_90 (by decide) ?_
        refine lv_icmp_ne (tgt := 98) hx hb d_Mo_holds_91 rfl (fun h91 => ?_) (fun h91 => ?_)
        · have hq := hq.trans (if_neg h91)
          refine lv_iconst (v := 0) hx hb d_Mo_holds_98 (by decide) ?_
          exact B_Mo_holds_99 _ false _ _ _ (lv_sub hl [] rfl) S hq
        · have hq := hq.trans (if_pos h91)
          refine lv_iconst (v := 1) hx hb d_Mo_holds_94 (by decide) ?_
          refine lv_goto (tgt := 99) hx hb d_Mo_holds_95 rfl ?_
          exact B_Mo_holds_99 _ true _ _ _ (lv_sub hl [] rfl) S hq
      · have hq := hq.trans (if_neg h3_2)
        by_cases h3_3 : (v1 >>> ((1 : Int32) &&& 31)) = (3 : Int32)
        · have hq := hq.trans (if_pos h3_3)
          refine lv_tableIn (off := 105) (tgt := 108) hx hb d_Mo_holds_3 (by rw [h3_3]; decide) (by rw [h3_3]; decide) (by rw [h3_3]; rfl) rfl ?_
          refine lv_aload_n hx hb d_Mo_holds_108 rfl (lv_at hl 0 rfl) ?_
          refine g_Mo_92 hx hb hts hown hK S.1 d_Mo_holds_109 ?_
          refine lv_iload_n hx hb d_Mo_holds_112 rfl (lv_at hl 1 rfl) ?_
          refine lv_bipush (v := 6) hx hb d_Mo_holds_113 (by decide) ?_
          refine lv_icmp_ne (tgt := 122) hx hb d_Mo_holds_115 rfl (fun h115 => ?_) (fun h115 => ?_)
          · have hq := hq.trans (if_neg h115)
            refine lv_iconst (v := 0) hx hb d_Mo_holds_122 (by decide) ?_
            exact B_Mo_holds_123 _ false _ _ _ (lv_sub hl [] rfl) S hq
          · have hq := hq.trans (if_pos h115)
            refine lv_iconst (v := 1) hx hb d_Mo_holds_118 (by decide) ?_
            refine lv_goto (tgt := 123) hx hb d_Mo_holds_119 rfl ?_
            exact B_Mo_holds_123 _ true _ _ _ (lv_sub hl [] rfl) S hq
        · have hq := hq.trans (if_neg h3_3)
          by_cases h3_4 : (v1 >>> ((1 : Int32) &&& 31)) = (4 : Int32)
          · have hq := hq.trans (if_pos h3_4)
            refine lv_tableIn (off := 129) (tgt := 132) hx hb d_Mo_holds_3 (by rw [h3_4]; decide) (by rw [h3_4]; decide) (by rw [h3_4]; rfl) rfl ?_
            refine lv_aload_n hx hb d_Mo_holds_132 rfl (lv_at hl 0 rfl) ?_
            refine g_Mo_88 hx hb hts hown hK S.1 d_Mo_holds_133 ?_
            refine lv_if_eq (tgt := 150) hx hb d_Mo_holds_136 rfl (fun h136 => ?_) (fun h136 => ?_)
            · have hq := hq.trans (if_pos h136)
              exact B_Mo_holds_150 _ _ _ _ (lv_sub hl [1] rfl) S hq
            · have hq := hq.trans (if_neg h136)
              refine lv_aload_n hx hb d_Mo_holds_139 rfl (lv_at hl 0 rfl) ?_
              refine g_Mo_84 hx hb hts hown hK S.1 d_Mo_holds_140 ?_
              refine lv_if_ne (tgt := 150) hx hb d_Mo_holds_143 rfl (fun h143 => ?_) (fun h143 => ?_)
              · have hq := hq.trans (if_neg h143)
                exact B_Mo_holds_150 _ _ _ _ (lv_sub hl [1] rfl) S hq
              · have hq := hq.trans (if_pos h143)
                refine lv_iconst (v := 1) hx hb d_Mo_holds_146 (by decide) ?_
                refine lv_goto (tgt := 151) hx hb d_Mo_holds_147 rfl ?_
                exact B_Mo_holds_151 _ true _ _ _ (lv_sub hl [1] rfl) S hq
          · have hq := hq.trans (if_neg h3_4)
            by_cases h3_5 : (v1 >>> ((1 : Int32) &&& 31)) = (5 : Int32)
            · have hq := hq.trans (if_pos h3_5)
              refine lv_tableIn (off := 168) (tgt := 171) hx hb d_Mo_holds_3 (by rw [h3_5]; decide) (by rw [h3_5]; decide) (by rw [h3_5]; rfl) rfl ?_
              refine lv_aload_n hx hb d_Mo_holds_171 rfl (lv_at hl 0 rfl) ?_
              refine g_Mo_80 hx hb hts hown hK S.1 d_Mo_holds_172 ?_
              refine lv_aload_n hx hb d_Mo_holds_175 rfl (lv_at hl 0 rfl) ?_
              refine g_Mo_92 hx hb hts hown hK S.1 d_Mo_holds_176 ?_
              refine lv_icmp_ne (tgt := 186) hx hb d_Mo_holds_179 rfl (fun h179 => ?_) (fun h179 => ?_)
              · have hq := hq.trans (if_neg h179)
                refine lv_iconst (v := 0) hx hb d_Mo_holds_186 (by decide) ?_
                exact B_Mo_holds_187 _ false _ _ _ (lv_sub hl [1] rfl) S hq
              · have hq := hq.trans (if_pos h179)
                refine lv_iconst (v := 1) hx hb d_Mo_holds_182 (by decide) ?_
                refine lv_goto (tgt := 187) hx hb d_Mo_holds_183 rfl ?_
                exact B_Mo_holds_187 _ true _ _ _ (lv_sub hl [1] rfl) S hq
            · have hq := hq.trans (if_neg h3_5)
              have h3_0T := lv_neT (a := 0) h3_0 (by decide)
              have h3_1T := lv_neT (a := 1) h3_1 (by decide)
              have h3_2T := lv_neT (a := 2) h3_2 (by decide)
              have h3_3T := lv_neT (a := 3) h3_3 (by decide)
              have h3_4T := lv_neT (a := 4) h3_4 (by decide)
              have h3_5T := lv_neT (a := 5) h3_5 (by decide)
              refine lv_tableOut (tgt := 207) hx hb d_Mo_holds_3 (by omega) rfl ?_
              refine lv_aload_n hx hb d_Mo_holds_207 rfl (lv_at hl 0 rfl) ?_
              refine g_Mo_84 hx hb hts hown hK S.1 d_Mo_holds_208 ?_
              refine lv_if_ne (tgt := 229) hx hb d_Mo_holds_211 rfl (fun h211 => ?_) (fun h211 => ?_)
              · have hq := hq.trans (if_neg h211)
                exact B_Mo_holds_229 _ _ _ _ (lv_sub hl [1] rfl) S hq
              · have hq := hq.trans (if_pos h211)
                refine lv_aload_n hx hb d_Mo_holds_214 rfl (lv_at hl 0 rfl) ?_
                refine g_Mo_80 hx hb hts hown hK S.1 d_Mo_holds_215 ?_
                refine lv_aload_n hx hb d_Mo_holds_218 rfl (lv_at hl 0 rfl) ?_
                refine g_Mo_92 hx hb hts hown hK S.1 d_Mo_holds_219 ?_
                refine lv_icmp_ne (tgt := 229) hx hb d_Mo_holds_222 rfl (fun h222 => ?_) (fun h222 => ?_)
                · have hq := hq.trans (if_neg h222)
                  exact B_Mo_holds_229 _ _ _ _ (lv_sub hl [1] rfl) S hq
                · have hq := hq.trans (if_pos h222)
                  refine lv_iconst (v := 1) hx hb d_Mo_holds_225 (by decide) ?_
                  refine lv_goto (tgt := 230) hx hb d_Mo_holds_226 rfl ?_
                  exact B_Mo_holds_230 _ true _ _ _ (lv_sub hl [1] rfl) S hq
end CT
