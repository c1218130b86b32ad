def s_In_bitCount (v0 : Int32) : Int32 := ((((((((v0 - ((ush v0 (1 : Int32)) &&& (1431655765 : Int32))) &&& (858993459 : Int32)) + ((ush (v0 - ((ush v0 (1 : Int32)) &&& (1431655765 : Int32))) (2 : Int32)) &&& (858993459 : Int32))) + (ush (((v0 - ((ush v0 (1 : Int32)) &&& (1431655765 : Int32))) &&& (858993459 : Int32)) + ((ush (v0 - ((ush v0 (1 : Int32)) &&& (1431655765 : Int32))) (2 : Int32)) &&& (858993459 : Int32))) (4 : Int32))) &&& (252645135 : Int32)) + (ush (((((v0 - ((ush v0 (1 : Int32)) &&& (1431655765 : Int32))) &&& (858993459 : Int32)) + ((ush (v0 - ((ush v0 (1 : Int32)) &&& (1431655765 : Int32))) (2 : Int32)) &&& (858993459 : Int32))) + (ush (((v0 - ((ush v0 (1 : Int32)) &&& (1431655765 : Int32))) &&& (858993459 : Int32)) + ((ush (v0 - ((ush v0 (1 : Int32)) &&& (1431655765 : Int32))) (2 : Int32)) &&& (858993459 : Int32))) (4 : Int32))) &&& (252645135 : Int32)) (8 : Int32))) + (ush ((((((v0 - ((ush v0 (1 : Int32)) &&& (1431655765 : Int32))) &&& (858993459 : Int32)) + ((ush (v0 - ((ush v0 (1 : Int32)) &&& (1431655765 : Int32))) (2 : Int32)) &&& (858993459 : Int32))) + (ush (((v0 - ((ush v0 (1 : Int32)) &&& (1431655765 : Int32))) &&& (858993459 : Int32)) + ((ush (v0 - ((ush v0 (1 : Int32)) &&& (1431655765 : Int32))) (2 : Int32)) &&& (858993459 : Int32))) (4 : Int32))) &&& (252645135 : Int32)) + (ush (((((v0 - ((ush v0 (1 : Int32)) &&& (1431655765 : Int32))) &&& (858993459 : Int32)) + ((ush (v0 - ((ush v0 (1 : Int32)) &&& (1431655765 : Int32))) (2 : Int32)) &&& (858993459 : Int32))) + (ush (((v0 - ((ush v0 (1 : Int32)) &&& (1431655765 : Int32))) &&& (858993459 : Int32)) + ((ush (v0 - ((ush v0 (1 : Int32)) &&& (1431655765 : Int32))) (2 : Int32)) &&& (858993459 : Int32))) (4 : Int32))) &&& (252645135 : Int32)) (8 : Int32))) (16 : Int32))) &&& (63 : Int32))
def s_Me_holdsWord_21 : Bool := false
def s_Me_holdsWord (v1 : Int32) : Bool := if v1 < (0 : Int32) then (s_Me_holdsWord_21) else (if (1024 : Int32) ≤ v1 then (s_Me_holdsWord_21) else (if (v1 &&& (3 : Int32)) = (0 : Int32) then (true) else (s_Me_holdsWord_21)))
def s_Me_store (v1 : Int32) (v2 : Int32) (σ : nS) : nS := (up2 σ 9 (((v1 >>> ((2 : Int32) &&& 31)) &&& (255 : Int32))).toNatClampNeg v2)
def s_N_set (v1 : Int32) (v2 : Int32) (σ : nS) : Option (nS) := if (s_Me_holdsWord v1) = true then (ap1 (s_Me_store v1 v2 σ) fun σ1 => some σ1) else (none)
def s_Me_load (v1 : Int32) (σ : nS) : Int32 := (σ 9 (((v1 >>> ((2 : Int32) &&& 31)) &&& (255 : Int32))).toNatClampNeg)
def s_N_word (v1 : Int32) (σ : nS) : Option (Int32 × nS) := if (s_Me_holdsWord v1) = true then (some ((s_Me_load v1 σ), σ)) else (none)
def s_N_even (v0 : Int32) : Int32 := (v0 &&& (-2 : Int32))
def s_Ti_start (v1 : Int32) (σ : nS) : nS := (up2 (up2 σ 8 8 v1) 8 9 v1)
def s_N_put_10 (σ : nS) : Option (nS) := none
def s_N_put_87 (k1 : Bool) (σ : nS) : Option (nS) := some (up2 σ 8 2 (bI k1))
def s_N_put_106 (k1 : Bool) (σ : nS) : Option (nS) := some (up2 σ 8 3 (bI k1))
def s_N_put (v1 : Int32) (v2 : Int32) (σ : nS) : Option (nS) := if v1 < (0 : Int32) then (s_N_put_10 σ) else (if v1 ≤ (20 : Int32) then (if v1 = (15 : Int32) then (some (up2 σ 0 15 (s_N_even v2))) else if v1 = (16 : Int32) then (if v2 = (0 : Int32) then (s_N_put_87 false σ) else (s_N_put_87 true σ)) else if v1 = (17 : Int32) then (if v2 = (0 : Int32) then (s_N_put_106 false σ) else (s_N_put_106 true σ)) else if v1 = (18 : Int32) then (some (up2 σ 8 1 (v2 &&& (7 : Int32)))) else if v1 = (19 : Int32) then (some (up2 σ 8 0 (v2 &&& (3 : Int32)))) else if v1 = (20 : Int32) then (ap1 (s_Ti_start (v2 &&& (255 : Int32)) σ) fun σ1 => some σ1) else (some (up2 σ 0 (v1).toNatClampNeg v2))) else (s_N_put_10 σ))
def o_N_put_10 (σ : nS) : Prop := True
def o_N_put_87 (k1 : Bool) (σ : nS) : Prop := True
def o_N_put_106 (k1 : Bool) (σ : nS) : Prop := True
def o_N_put (v1 : Int32) (v2 : Int32) (σ : nS) : Prop := if v1 < (0 : Int32) then (o_N_put_10 σ) else (if v1 ≤ (20 : Int32) then (if v1 = (15 : Int32) then (True) else if v1 = (16 : Int32) then (if v2 = (0 : Int32) then (o_N_put_87 false σ) else (o_N_put_87 true σ)) else if v1 = (17 : Int32) then (if v2 = (0 : Int32) then (o_N_put_106 false σ) else (o_N_put_106 true σ)) else if v1 = (18 : Int32) then (True) else if v1 = (19 : Int32) then (True) else if v1 = (20 : Int32) then (ap1 (s_Ti_start (v2 &&& (255 : Int32)) σ) fun σ1 => (True)) else (vp_in v1 16 ∧ (True))) else (o_N_put_10 σ))
def s_N_register_10 (σ : nS) : Option (Int32 × nS) := none
def s_N_register (v1 : Int32) (σ : nS) : Option (Int32 × nS) := if v1 < (0 : Int32) then (s_N_register_10 σ) else (if v1 ≤ (20 : Int32) then (if v1 = (16 : Int32) then (if (σ 8 2) = (0 : Int32) then (some ((0 : Int32), σ)) else (some ((1 : Int32), σ))) else if v1 = (17 : Int32) then (if (σ 8 3) = (0 : Int32) then (some ((0 : Int32), σ)) else (some ((1 : Int32), σ))) else if v1 = (18 : Int32) then (some ((σ 8 1), σ)) else if v1 = (19 : Int32) then (some ((σ 8 0), σ)) else if v1 = (20 : Int32) then (some ((σ 8 8), σ)) else (some ((σ 0 (v1).toNatClampNeg), σ))) else (s_N_register_10 σ))
def o_N_register_10 (σ : nS) : Prop := True
def o_N_register (v1 : Int32) (σ : nS) : Prop := if v1 < (0 : Int32) then (o_N_register_10 σ) else (if v1 ≤ (20 : Int32) then (if v1 = (16 : Int32) then (if (σ 8 2) = (0 : Int32) then (True) else (True)) else if v1 = (17 : Int32) then (if (σ 8 3) = (0 : Int32) then (True) else (True)) else if v1 = (18 : Int32) then (True) else if v1 = (19 : Int32) then (True) else if v1 = (20 : Int32) then (True) else (vp_in v1 16 ∧ (True))) else (o_N_register_10 σ))
def s_Ex_order_33 (k1 : Int32) (k2 : Bool) (σ : nS) : nS := (up2 σ 1 (k1).toNatClampNeg (bI k2))
def s_Ex_order_28 (k1 : Int32) (σ : nS) : nS := s_Ex_order_33 k1 true σ
def s_Ex_order_32 (k1 : Int32) (σ : nS) : nS := s_Ex_order_33 k1 false σ
def s_Ex_order (v1 : Int32) (v2 : Int32) (v3 : Bool) (σ : nS) : nS := if v3 = true then (s_Ex_order_28 v1 (up2 σ 4 (v1).toNatClampNeg v2)) else (if v1 < (7 : Int32) then (s_Ex_order_32 v1 (up2 σ 4 (v1).toNatClampNeg v2)) else (if (9 : Int32) < v1 then (s_Ex_order_32 v1 (up2 σ 4 (v1).toNatClampNeg v2)) else (s_Ex_order_28 v1 (up2 σ 4 (v1).toNatClampNeg v2))))
def s_N_rank_21 (σ : nS) : Option (nS) := none
def s_N_rank (v1 : Int32) (v2 : Int32) (v3 : Bool) (σ : nS) : Option (nS) := if v1 < (4 : Int32) then (s_N_rank_21 σ) else (if (15 : Int32) < v1 then (s_N_rank_21 σ) else (if v2 < (0 : Int32) then (s_N_rank_21 σ) else (if v2 ≤ (7 : Int32) then (ap1 (s_Ex_order v1 v2 v3 σ) fun σ1 => some σ1) else (s_N_rank_21 σ))))
def o_N_rank_21 (σ : nS) : Prop := True
def o_N_rank (v1 : Int32) (v2 : Int32) (v3 : Bool) (σ : nS) : Prop := if v1 < (4 : Int32) then (o_N_rank_21 σ) else (if (15 : Int32) < v1 then (o_N_rank_21 σ) else (if v2 < (0 : Int32) then (o_N_rank_21 σ) else (if v2 ≤ (7 : Int32) then (vp_in v1 16 ∧ (ap1 (s_Ex_order v1 v2 v3 σ) fun σ1 => (True))) else (o_N_rank_21 σ))))
def s_N_pend_11 (σ : nS) : Option (nS) := none
def s_N_pend (v1 : Int32) (v2 : Bool) (σ : nS) : Option (nS) := if v1 < (2 : Int32) then (s_N_pend_11 σ) else (if v1 ≤ (15 : Int32) then (some (up2 σ 2 (v1).toNatClampNeg (bI v2))) else (s_N_pend_11 σ))
def o_N_pend_11 (σ : nS) : Prop := True
def o_N_pend (v1 : Int32) (v2 : Bool) (σ : nS) : Prop := if v1 < (2 : Int32) then (o_N_pend_11 σ) else (if v1 ≤ (15 : Int32) then (vp_in v1 16 ∧ (True)) else (o_N_pend_11 σ))
def s_Ar_lay (v1 : Int32) (v2 : Int32) (v3 : Int32) (v4 : Int32) (v5 : Bool) (σ : nS) : nS := (up2 (up2 (up2 (up2 σ 5 (v1).toNatClampNeg v2) 10 (v1).toNatClampNeg v3) 6 (v1).toNatClampNeg v4) 7 (v1).toNatClampNeg (bI v5))
def s_N_area_20 (σ : nS) : Option (nS) := none
def s_N_area_47 (σ : nS) : Option (nS) := none
def s_N_area (v1 : Int32) (v2 : Int32) (v3 : Int32) (v4 : Int32) (v5 : Bool) (σ : nS) : Option (nS) := if v1 < (0 : Int32) then (s_N_area_20 σ) else (if (4 : Int32) ≤ v1 then (s_N_area_20 σ) else (if v4 < (0 : Int32) then (s_N_area_20 σ) else (if v4 ≤ (2 : Int32) then (if v2 < (0 : Int32) then (s_N_area_47 σ) else (if v3 < (0 : Int32) then (s_N_area_47 σ) else (if v2 ≤ ((1024 : Int32) - v3) then (ap1 (s_Ar_lay v1 v2 v3 v4 v5 σ) fun σ1 => some σ1) else (s_N_area_47 σ)))) else (s_N_area_20 σ))))
def o_N_area_20 (σ : nS) : Prop := True
def o_N_area_47 (σ : nS) : Prop := True
def o_N_area (v1 : Int32) (v2 : Int32) (v3 : Int32) (v4 : Int32) (v5 : Bool) (σ : nS) : Prop := if v1 < (0 : Int32) then (o_N_area_20 σ) else (if (4 : Int32) ≤ v1 then (o_N_area_20 σ) else (if v4 < (0 : Int32) then (o_N_area_20 σ) else (if v4 ≤ (2 : Int32) then (if v2 < (0 : Int32) then (o_N_area_47 σ) else (if v3 < (0 : Int32) then (o_N_area_47 σ) else (if v2 ≤ ((1024 : Int32) - v3) then (vp_in v1 4 ∧ (ap1 (s_Ar_lay v1 v2 v3 v4 v5 σ) fun σ1 => (True))) else (o_N_area_47 σ)))) else (o_N_area_20 σ))))
def s_Ti_fires (σ : nS) : Bool × nS := if (σ 8 8) = (0 : Int32) then ((false, σ)) else (if ((up2 σ 8 9 ((σ 8 9) - (1 : Int32))) 8 9) = (0 : Int32) then ((true, (up2 (up2 σ 8 9 ((σ 8 9) - (1 : Int32))) 8 9 ((up2 σ 8 9 ((σ 8 9) - (1 : Int32))) 8 8)))) else ((false, (up2 σ 8 9 ((σ 8 9) - (1 : Int32))))))
def s_Ex_group (v1 : Int32) (σ : nS) : Int32 := if (0 : Int32) ≤ (σ 4 (v1).toNatClampNeg) then (((σ 4 (v1).toNatClampNeg) >>> ((σ 8 0) &&& 31))) else ((σ 4 (v1).toNatClampNeg))
def s_Ex_level_70 (v1 : Int32) (σ : nS) : Int32 := if (σ 8 3) = (0 : Int32) then (v1) else ((if (-1 : Int32) < v1 then (-1 : Int32) else v1))
def s_Ex_level_57 (v1 : Int32) (σ : nS) : Int32 := if (σ 8 2) = (0 : Int32) then (s_Ex_level_70 v1 σ) else (s_Ex_level_70 (if (0 : Int32) < v1 then (0 : Int32) else v1) σ)
def s_Ex_level_5_16 (v1 : Int32) (σ : nS) : Int32 := if (σ 8 1) = (0 : Int32) then (s_Ex_level_57 v1 σ) else (s_Ex_level_57 (if ((σ 8 1) >>> ((σ 8 0) &&& 31)) < v1 then ((σ 8 1) >>> ((σ 8 0) &&& 31)) else v1) σ)
def s_Ex_level_30_15 (v1 : Int32) (σ : nS) : Int32 := s_Ex_level_5_16 v1 σ
def s_Ex_level_5_15 (v1 : Int32) (σ : nS) : Int32 := if (σ 3 15) = (0 : Int32) then (s_Ex_level_30_15 v1 σ) else (s_Ex_level_30_15 (if (s_Ex_group (15 : Int32) σ) < v1 then (s_Ex_group (15 : Int32) σ) else v1) σ)
def s_Ex_level_30_14 (v1 : Int32) (σ : nS) : Int32 := s_Ex_level_5_15 v1 σ
def s_Ex_level_5_14 (v1 : Int32) (σ : nS) : Int32 := if (σ 3 14) = (0 : Int32) then (s_Ex_level_30_14 v1 σ) else (s_Ex_level_30_14 (if (s_Ex_group (14 : Int32) σ) < v1 then (s_Ex_group (14 : Int32) σ) else v1) σ)
def s_Ex_level_30_13 (v1 : Int32) (σ : nS) : Int32 := s_Ex_level_5_14 v1 σ
def s_Ex_level_5_13 (v1 : Int32) (σ : nS) : Int32 := if (σ 3 13) = (0 : Int32) then (s_Ex_level_30_13 v1 σ) else (s_Ex_level_30_13 (if (s_Ex_group (13 : Int32) σ) < v1 then (s_Ex_group (13 : Int32) σ) else v1) σ)
def s_Ex_level_30_12 (v1 : Int32) (σ : nS) : Int32 := s_Ex_level_5_13 v1 σ
def s_Ex_level_5_12 (v1 : Int32) (σ : nS) : Int32 := if (σ 3 12) = (0 : Int32) then (s_Ex_level_30_12 v1 σ) else (s_Ex_level_30_12 (if (s_Ex_group (12 : Int32) σ) < v1 then (s_Ex_group (12 : Int32) σ) else v1) σ)
def s_Ex_level_30_11 (v1 : Int32) (σ : nS) : Int32 := s_Ex_level_5_12 v1 σ
def s_Ex_level_5_11 (v1 : Int32) (σ : nS) : Int32 := if (σ 3 11) = (0 : Int32) then (s_Ex_level_30_11 v1 σ) else (s_Ex_level_30_11 (if (s_Ex_group (11 : Int32) σ) < v1 then (s_Ex_group (11 : Int32) σ) else v1) σ)
def s_Ex_level_30_10 (v1 : Int32) (σ : nS) : Int32 := s_Ex_level_5_11 v1 σ
def s_Ex_level_5_10 (v1 : Int32) (σ : nS) : Int32 := if (σ 3 10) = (0 : Int32) then (s_Ex_level_30_10 v1 σ) else (s_Ex_level_30_10 (if (s_Ex_group (10 : Int32) σ) < v1 then (s_Ex_group (10 : Int32) σ) else v1) σ)
def s_Ex_level_30_9 (v1 : Int32) (σ : nS) : Int32 := s_Ex_level_5_10 v1 σ
def s_Ex_level_5_9 (v1 : Int32) (σ : nS) : Int32 := if (σ 3 9) = (0 : Int32) then (s_Ex_level_30_9 v1 σ) else (s_Ex_level_30_9 (if (s_Ex_group (9 : Int32) σ) < v1 then (s_Ex_group (9 : Int32) σ) else v1) σ)
def s_Ex_level_30_8 (v1 : Int32) (σ : nS) : Int32 := s_Ex_level_5_9 v1 σ
def s_Ex_level_5_8 (v1 : Int32) (σ : nS) : Int32 := if (σ 3 8) = (0 : Int32) then (s_Ex_level_30_8 v1 σ) else (s_Ex_level_30_8 (if (s_Ex_group (8 : Int32) σ) < v1 then (s_Ex_group (8 : Int32) σ) else v1) σ)
def s_Ex_level_30_7 (v1 : Int32) (σ : nS) : Int32 := s_Ex_level_5_8 v1 σ
def s_Ex_level_5_7 (v1 : Int32) (σ : nS) : Int32 := if (σ 3 7) = (0 : Int32) then (s_Ex_level_30_7 v1 σ) else (s_Ex_level_30_7 (if (s_Ex_group (7 : Int32) σ) < v1 then (s_Ex_group (7 : Int32) σ) else v1) σ)
def s_Ex_level_30_6 (v1 : Int32) (σ : nS) : Int32 := s_Ex_level_5_7 v1 σ
def s_Ex_level_5_6 (v1 : Int32) (σ : nS) : Int32 := if (σ 3 6) = (0 : Int32) then (s_Ex_level_30_6 v1 σ) else (s_Ex_level_30_6 (if (s_Ex_group (6 : Int32) σ) < v1 then (s_Ex_group (6 : Int32) σ) else v1) σ)
def s_Ex_level_30_5 (v1 : Int32) (σ : nS) : Int32 := s_Ex_level_5_6 v1 σ
def s_Ex_level_5_5 (v1 : Int32) (σ : nS) : Int32 := if (σ 3 5) = (0 : Int32) then (s_Ex_level_30_5 v1 σ) else (s_Ex_level_30_5 (if (s_Ex_group (5 : Int32) σ) < v1 then (s_Ex_group (5 : Int32) σ) else v1) σ)
def s_Ex_level_30_4 (v1 : Int32) (σ : nS) : Int32 := s_Ex_level_5_5 v1 σ
def s_Ex_level_5_4 (v1 : Int32) (σ : nS) : Int32 := if (σ 3 4) = (0 : Int32) then (s_Ex_level_30_4 v1 σ) else (s_Ex_level_30_4 (if (s_Ex_group (4 : Int32) σ) < v1 then (s_Ex_group (4 : Int32) σ) else v1) σ)
def s_Ex_level_30_3 (v1 : Int32) (σ : nS) : Int32 := s_Ex_level_5_4 v1 σ
def s_Ex_level_5_3 (v1 : Int32) (σ : nS) : Int32 := if (σ 3 3) = (0 : Int32) then (s_Ex_level_30_3 v1 σ) else (s_Ex_level_30_3 (if (s_Ex_group (3 : Int32) σ) < v1 then (s_Ex_group (3 : Int32) σ) else v1) σ)
def s_Ex_level_30_2 (v1 : Int32) (σ : nS) : Int32 := s_Ex_level_5_3 v1 σ
def s_Ex_level_5_2 (σ : nS) : Int32 := if (σ 3 2) = (0 : Int32) then (s_Ex_level_30_2 (8 : Int32) σ) else (s_Ex_level_30_2 (if (s_Ex_group (2 : Int32) σ) < (8 : Int32) then (s_Ex_group (2 : Int32) σ) else (8 : Int32)) σ)
def s_Ex_level (σ : nS) : Int32 := s_Ex_level_5_2 σ
def s_Ex_due_75 (σ : nS) : Int32 := (0 : Int32)
def s_Ex_due_4_16 (v1 : Int32) (σ : nS) : Int32 := if v1 = (0 : Int32) then (s_Ex_due_75 σ) else (if (s_Ex_level σ) ≤ (s_Ex_group v1 σ) then (s_Ex_due_75 σ) else (v1))
def s_Ex_due_49_15 (v1 : Int32) (σ : nS) : Int32 := s_Ex_due_4_16 v1 σ
def s_Ex_due_47_15 (σ : nS) : Int32 := s_Ex_due_49_15 (15 : Int32) σ
def s_Ex_due_4_15 (v1 : Int32) (σ : nS) : Int32 := if (σ 2 15) = (0 : Int32) then (s_Ex_due_49_15 v1 σ) else (if (σ 1 15) = (0 : Int32) then (s_Ex_due_49_15 v1 σ) else (if v1 = (0 : Int32) then (s_Ex_due_47_15 σ) else (if (σ 4 (v1).toNatClampNeg) ≤ (σ 4 15) then (s_Ex_due_49_15 v1 σ) else (s_Ex_due_47_15 σ))))
def s_Ex_due_49_14 (v1 : Int32) (σ : nS) : Int32 := s_Ex_due_4_15 v1 σ
def s_Ex_due_47_14 (σ : nS) : Int32 := s_Ex_due_49_14 (14 : Int32) σ
def s_Ex_due_4_14 (v1 : Int32) (σ : nS) : Int32 := if (σ 2 14) = (0 : Int32) then (s_Ex_due_49_14 v1 σ) else (if (σ 1 14) = (0 : Int32) then (s_Ex_due_49_14 v1 σ) else (if v1 = (0 : Int32) then (s_Ex_due_47_14 σ) else (if (σ 4 (v1).toNatClampNeg) ≤ (σ 4 14) then (s_Ex_due_49_14 v1 σ) else (s_Ex_due_47_14 σ))))
def s_Ex_due_49_13 (v1 : Int32) (σ : nS) : Int32 := s_Ex_due_4_14 v1 σ
def s_Ex_due_47_13 (σ : nS) : Int32 := s_Ex_due_49_13 (13 : Int32) σ
def s_Ex_due_4_13 (v1 : Int32) (σ : nS) : Int32 := if (σ 2 13) = (0 : Int32) then (s_Ex_due_49_13 v1 σ) else (if (σ 1 13) = (0 : Int32) then (s_Ex_due_49_13 v1 σ) else (if v1 = (0 : Int32) then (s_Ex_due_47_13 σ) else (if (σ 4 (v1).toNatClampNeg) ≤ (σ 4 13) then (s_Ex_due_49_13 v1 σ) else (s_Ex_due_47_13 σ))))
def s_Ex_due_49_12 (v1 : Int32) (σ : nS) : Int32 := s_Ex_due_4_13 v1 σ
def s_Ex_due_47_12 (σ : nS) : Int32 := s_Ex_due_49_12 (12 : Int32) σ
def s_Ex_due_4_12 (v1 : Int32) (σ : nS) : Int32 := if (σ 2 12) = (0 : Int32) then (s_Ex_due_49_12 v1 σ) else (if (σ 1 12) = (0 : Int32) then (s_Ex_due_49_12 v1 σ) else (if v1 = (0 : Int32) then (s_Ex_due_47_12 σ) else (if (σ 4 (v1).toNatClampNeg) ≤ (σ 4 12) then (s_Ex_due_49_12 v1 σ) else (s_Ex_due_47_12 σ))))
def s_Ex_due_49_11 (v1 : Int32) (σ : nS) : Int32 := s_Ex_due_4_12 v1 σ
def s_Ex_due_47_11 (σ : nS) : Int32 := s_Ex_due_49_11 (11 : Int32) σ
def s_Ex_due_4_11 (v1 : Int32) (σ : nS) : Int32 := if (σ 2 11) = (0 : Int32) then (s_Ex_due_49_11 v1 σ) else (if (σ 1 11) = (0 : Int32) then (s_Ex_due_49_11 v1 σ) else (if v1 = (0 : Int32) then (s_Ex_due_47_11 σ) else (if (σ 4 (v1).toNatClampNeg) ≤ (σ 4 11) then (s_Ex_due_49_11 v1 σ) else (s_Ex_due_47_11 σ))))
def s_Ex_due_49_10 (v1 : Int32) (σ : nS) : Int32 := s_Ex_due_4_11 v1 σ
def s_Ex_due_47_10 (σ : nS) : Int32 := s_Ex_due_49_10 (10 : Int32) σ
def s_Ex_due_4_10 (v1 : Int32) (σ : nS) : Int32 := if (σ 2 10) = (0 : Int32) then (s_Ex_due_49_10 v1 σ) else (if (σ 1 10) = (0 : Int32) then (s_Ex_due_49_10 v1 σ) else (if v1 = (0 : Int32) then (s_Ex_due_47_10 σ) else (if (σ 4 (v1).toNatClampNeg) ≤ (σ 4 10) then (s_Ex_due_49_10 v1 σ) else (s_Ex_due_47_10 σ))))
def s_Ex_due_49_9 (v1 : Int32) (σ : nS) : Int32 := s_Ex_due_4_10 v1 σ
def s_Ex_due_47_9 (σ : nS) : Int32 := s_Ex_due_49_9 (9 : Int32) σ
def s_Ex_due_4_9 (v1 : Int32) (σ : nS) : Int32 := if (σ 2 9) = (0 : Int32) then (s_Ex_due_49_9 v1 σ) else (if (σ 1 9) = (0 : Int32) then (s_Ex_due_49_9 v1 σ) else (if v1 = (0 : Int32) then (s_Ex_due_47_9 σ) else (if (σ 4 (v1).toNatClampNeg) ≤ (σ 4 9) then (s_Ex_due_49_9 v1 σ) else (s_Ex_due_47_9 σ))))
def s_Ex_due_49_8 (v1 : Int32) (σ : nS) : Int32 := s_Ex_due_4_9 v1 σ
def s_Ex_due_47_8 (σ : nS) : Int32 := s_Ex_due_49_8 (8 : Int32) σ
def s_Ex_due_4_8 (v1 : Int32) (σ : nS) : Int32 := if (σ 2 8) = (0 : Int32) then (s_Ex_due_49_8 v1 σ) else (if (σ 1 8) = (0 : Int32) then (s_Ex_due_49_8 v1 σ) else (if v1 = (0 : Int32) then (s_Ex_due_47_8 σ) else (if (σ 4 (v1).toNatClampNeg) ≤ (σ 4 8) then (s_Ex_due_49_8 v1 σ) else (s_Ex_due_47_8 σ))))
def s_Ex_due_49_7 (v1 : Int32) (σ : nS) : Int32 := s_Ex_due_4_8 v1 σ
def s_Ex_due_47_7 (σ : nS) : Int32 := s_Ex_due_49_7 (7 : Int32) σ
def s_Ex_due_4_7 (v1 : Int32) (σ : nS) : Int32 := if (σ 2 7) = (0 : Int32) then (s_Ex_due_49_7 v1 σ) else (if (σ 1 7) = (0 : Int32) then (s_Ex_due_49_7 v1 σ) else (if v1 = (0 : Int32) then (s_Ex_due_47_7 σ) else (if (σ 4 (v1).toNatClampNeg) ≤ (σ 4 7) then (s_Ex_due_49_7 v1 σ) else (s_Ex_due_47_7 σ))))
def s_Ex_due_49_6 (v1 : Int32) (σ : nS) : Int32 := s_Ex_due_4_7 v1 σ
def s_Ex_due_47_6 (σ : nS) : Int32 := s_Ex_due_49_6 (6 : Int32) σ
def s_Ex_due_4_6 (v1 : Int32) (σ : nS) : Int32 := if (σ 2 6) = (0 : Int32) then (s_Ex_due_49_6 v1 σ) else (if (σ 1 6) = (0 : Int32) then (s_Ex_due_49_6 v1 σ) else (if v1 = (0 : Int32) then (s_Ex_due_47_6 σ) else (if (σ 4 (v1).toNatClampNeg) ≤ (σ 4 6) then (s_Ex_due_49_6 v1 σ) else (s_Ex_due_47_6 σ))))
def s_Ex_due_49_5 (v1 : Int32) (σ : nS) : Int32 := s_Ex_due_4_6 v1 σ
def s_Ex_due_47_5 (σ : nS) : Int32 := s_Ex_due_49_5 (5 : Int32) σ
def s_Ex_due_4_5 (v1 : Int32) (σ : nS) : Int32 := if (σ 2 5) = (0 : Int32) then (s_Ex_due_49_5 v1 σ) else (if (σ 1 5) = (0 : Int32) then (s_Ex_due_49_5 v1 σ) else (if v1 = (0 : Int32) then (s_Ex_due_47_5 σ) else (if (σ 4 (v1).toNatClampNeg) ≤ (σ 4 5) then (s_Ex_due_49_5 v1 σ) else (s_Ex_due_47_5 σ))))
def s_Ex_due_49_4 (v1 : Int32) (σ : nS) : Int32 := s_Ex_due_4_5 v1 σ
def s_Ex_due_47_4 (σ : nS) : Int32 := s_Ex_due_49_4 (4 : Int32) σ
def s_Ex_due_4_4 (v1 : Int32) (σ : nS) : Int32 := if (σ 2 4) = (0 : Int32) then (s_Ex_due_49_4 v1 σ) else (if (σ 1 4) = (0 : Int32) then (s_Ex_due_49_4 v1 σ) else (if v1 = (0 : Int32) then (s_Ex_due_47_4 σ) else (if (σ 4 (v1).toNatClampNeg) ≤ (σ 4 4) then (s_Ex_due_49_4 v1 σ) else (s_Ex_due_47_4 σ))))
def s_Ex_due_49_3 (v1 : Int32) (σ : nS) : Int32 := s_Ex_due_4_4 v1 σ
def s_Ex_due_47_3 (σ : nS) : Int32 := s_Ex_due_49_3 (3 : Int32) σ
def s_Ex_due_4_3 (v1 : Int32) (σ : nS) : Int32 := if (σ 2 3) = (0 : Int32) then (s_Ex_due_49_3 v1 σ) else (if (σ 1 3) = (0 : Int32) then (s_Ex_due_49_3 v1 σ) else (if v1 = (0 : Int32) then (s_Ex_due_47_3 σ) else (if (σ 4 (v1).toNatClampNeg) ≤ (σ 4 3) then (s_Ex_due_49_3 v1 σ) else (s_Ex_due_47_3 σ))))
def s_Ex_due_49_2 (v1 : Int32) (σ : nS) : Int32 := s_Ex_due_4_3 v1 σ
def s_Ex_due_47_2 (σ : nS) : Int32 := s_Ex_due_49_2 (2 : Int32) σ
def s_Ex_due_4_2 (σ : nS) : Int32 := if (σ 2 2) = (0 : Int32) then (s_Ex_due_49_2 (0 : Int32) σ) else (if (σ 1 2) = (0 : Int32) then (s_Ex_due_49_2 (0 : Int32) σ) else (s_Ex_due_47_2 σ))
def s_Ex_due (σ : nS) : Int32 := s_Ex_due_4_2 σ
def s_Me_holdsFrame_21 : Bool := false
def s_Me_holdsFrame (v1 : Int32) : Bool := if v1 < (0 : Int32) then (s_Me_holdsFrame_21) else (if (992 : Int32) < v1 then (s_Me_holdsFrame_21) else (if (v1 &&& (3 : Int32)) = (0 : Int32) then (true) else (s_Me_holdsFrame_21)))
def s_Fl_packed_51 (k0 : Int32) (k1 : Bool) (σ : nS) : Int32 := (k0 + (bI k1))
def s_Fl_packed_38 (k0 : Int32) (k1 : Int32) (σ : nS) : Int32 := if (σ 8 7) = (0 : Int32) then (s_Fl_packed_51 (k0 + k1) false σ) else (s_Fl_packed_51 (k0 + k1) true σ)
def s_Fl_packed_25 (k0 : Int32) (k1 : Int32) (σ : nS) : Int32 := if (σ 8 6) = (0 : Int32) then (s_Fl_packed_38 (k0 + k1) (0 : Int32) σ) else (s_Fl_packed_38 (k0 + k1) (2 : Int32) σ)
def s_Fl_packed_13 (k0 : Int32) (σ : nS) : Int32 := if (σ 8 5) = (0 : Int32) then (s_Fl_packed_25 k0 (0 : Int32) σ) else (s_Fl_packed_25 k0 (4 : Int32) σ)
def s_Fl_packed (σ : nS) : Int32 := if (σ 8 4) = (0 : Int32) then (s_Fl_packed_13 (0 : Int32) σ) else (s_Fl_packed_13 (8 : Int32) σ)
def s_N_enter (v1 : Int32) (σ : nS) : nS := (up2 (up2 (up2 (up2 σ 3 (v1).toNatClampNeg (bI true)) 2 (v1).toNatClampNeg (bI false)) 8 10 v1) 0 15 (s_N_even (s_Me_load ((4 : Int32) * v1) (up2 (up2 (up2 σ 3 (v1).toNatClampNeg (bI true)) 2 (v1).toNatClampNeg (bI false)) 8 10 v1))))
def s_N_take_165 (v1 : Int32) (k2 : Int32) (σ : nS) : nS := ap1 (s_N_enter v1 (up2 (up2 σ 0 14 k2) 8 12 (((up2 σ 0 14 k2) 8 12) + (1 : Int32)))) fun σ1 => σ1
def s_N_take_128 (v1 : Int32) (v3 : Int32) (k1 : Int32) (k2 : Int32) (k3 : Int32) (σ : nS) : nS := ap1 (s_Me_store k1 ((k2 ||| k3) ||| (σ 8 10)) σ) fun σ1 => if ((up2 σ1 0 13 v3) 8 10) = (0 : Int32) then (s_N_take_165 v1 (-7 : Int32) (up2 σ1 0 13 v3)) else (s_N_take_165 v1 (-15 : Int32) (up2 σ1 0 13 v3))
def s_N_take_60_7 (v1 : Int32) (v2 : Bool) (v3 : Int32) (σ : nS) : nS := if v2 = true then (s_N_take_128 v1 v3 (v3 + (28 : Int32)) ((s_Fl_packed σ) <<< ((28 : Int32) &&& 31)) (512 : Int32) σ) else (s_N_take_128 v1 v3 (v3 + (28 : Int32)) ((s_Fl_packed σ) <<< ((28 : Int32) &&& 31)) (0 : Int32) σ)
def s_N_take_60_6 (v1 : Int32) (v2 : Bool) (v3 : Int32) (σ : nS) : nS := ap1 (s_Me_store (v3 + (24 : Int32)) (σ 0 15) σ) fun σ1 => s_N_take_60_7 v1 v2 v3 σ1
def s_N_take_60_5 (v1 : Int32) (v2 : Bool) (v3 : Int32) (σ : nS) : nS := ap1 (s_Me_store (v3 + (20 : Int32)) (σ 0 14) σ) fun σ1 => s_N_take_60_6 v1 v2 v3 σ1
def s_N_take_60_4 (v1 : Int32) (v2 : Bool) (v3 : Int32) (σ : nS) : nS := ap1 (s_Me_store (v3 + (16 : Int32)) (σ 0 12) σ) fun σ1 => s_N_take_60_5 v1 v2 v3 σ1
def s_N_take_60_3 (v1 : Int32) (v2 : Bool) (v3 : Int32) (σ : nS) : nS := ap1 (s_Me_store (v3 + (12 : Int32)) (σ 0 3) σ) fun σ1 => s_N_take_60_4 v1 v2 v3 σ1
def s_N_take_60_2 (v1 : Int32) (v2 : Bool) (v3 : Int32) (σ : nS) : nS := ap1 (s_Me_store (v3 + (8 : Int32)) (σ 0 2) σ) fun σ1 => s_N_take_60_3 v1 v2 v3 σ1
def s_N_take_60_1 (v1 : Int32) (v2 : Bool) (v3 : Int32) (σ : nS) : nS := ap1 (s_Me_store (v3 + (4 : Int32)) (σ 0 1) σ) fun σ1 => s_N_take_60_2 v1 v2 v3 σ1
def s_N_take_60_0 (v1 : Int32) (v2 : Bool) (v3 : Int32) (σ : nS) : nS := ap1 (s_Me_store (v3 + (0 : Int32)) (σ 0 0) σ) fun σ1 => s_N_take_60_1 v1 v2 v3 σ1
def s_N_take_38 (v1 : Int32) (v2 : Bool) (k0 : Int32) (k1 : Int32) (σ : nS) : nS := if (s_Me_holdsFrame (k0 - k1)) = true then (s_N_take_60_0 v1 v2 (k0 - k1) σ) else ((up2 σ 8 11 (2 : Int32)))
def s_N_take_18 (v1 : Int32) (k0 : Bool) (σ : nS) : nS := if k0 = true then (s_N_take_38 v1 k0 ((σ 0 13) - (32 : Int32)) (4 : Int32) σ) else (s_N_take_38 v1 k0 ((σ 0 13) - (32 : Int32)) (0 : Int32) σ)
def s_N_take (v1 : Int32) (σ : nS) : nS := if ((σ 0 13) &&& (7 : Int32)) = (0 : Int32) then (s_N_take_18 v1 false σ) else (s_N_take_18 v1 true σ)
def s_Me_holdsHalf_21 : Bool := false
def s_Me_holdsHalf (v1 : Int32) : Bool := if v1 < (0 : Int32) then (s_Me_holdsHalf_21) else (if (1024 : Int32) ≤ v1 then (s_Me_holdsHalf_21) else (if (v1 &&& (1 : Int32)) = (0 : Int32) then (true) else (s_Me_holdsHalf_21)))
def s_Ar_bars_3_m1 (v1 : Int32) (v2 : Int32) (v3 : Bool) (σ : nS) : Bool := false
def s_Ar_bars_69_0 (v1 : Int32) (v2 : Int32) (v3 : Bool) (σ : nS) : Bool := s_Ar_bars_3_m1 v1 v2 v3 σ
def s_Ar_bars_63 (σ : nS) : Bool := true
def s_Ar_bars_67 (σ : nS) : Bool := false
def s_Ar_bars_3_0 (v1 : Int32) (v2 : Int32) (v3 : Bool) (σ : nS) : Bool := if v1 < (σ 5 0) then (s_Ar_bars_69_0 v1 v2 v3 σ) else (if ((σ 5 0) + (σ 10 0)) ≤ v1 then (s_Ar_bars_69_0 v1 v2 v3 σ) else (if (σ 6 0) < v2 then (s_Ar_bars_63 σ) else (if v3 = true then (if (σ 7 0) = (0 : Int32) then (s_Ar_bars_67 σ) else (s_Ar_bars_63 σ)) else (s_Ar_bars_67 σ))))
def s_Ar_bars_69_1 (v1 : Int32) (v2 : Int32) (v3 : Bool) (σ : nS) : Bool := s_Ar_bars_3_0 v1 v2 v3 σ
def s_Ar_bars_3_1 (v1 : Int32) (v2 : Int32) (v3 : Bool) (σ : nS) : Bool := if v1 < (σ 5 1) then (s_Ar_bars_69_1 v1 v2 v3 σ) else (if ((σ 5 1) + (σ 10 1)) ≤ v1 then (s_Ar_bars_69_1 v1 v2 v3 σ) else (if (σ 6 1) < v2 then (s_Ar_bars_63 σ) else (if v3 = true then (if (σ 7 1) = (0 : Int32) then (s_Ar_bars_67 σ) else (s_Ar_bars_63 σ)) else (s_Ar_bars_67 σ))))
def s_Ar_bars_69_2 (v1 : Int32) (v2 : Int32) (v3 : Bool) (σ : nS) : Bool := s_Ar_bars_3_1 v1 v2 v3 σ
def s_Ar_bars_3_2 (v1 : Int32) (v2 : Int32) (v3 : Bool) (σ : nS) : Bool := if v1 < (σ 5 2) then (s_Ar_bars_69_2 v1 v2 v3 σ) else (if ((σ 5 2) + (σ 10 2)) ≤ v1 then (s_Ar_bars_69_2 v1 v2 v3 σ) else (if (σ 6 2) < v2 then (s_Ar_bars_63 σ) else (if v3 = true then (if (σ 7 2) = (0 : Int32) then (s_Ar_bars_67 σ) else (s_Ar_bars_63 σ)) else (s_Ar_bars_67 σ))))
def s_Ar_bars_69_3 (v1 : Int32) (v2 : Int32) (v3 : Bool) (σ : nS) : Bool := s_Ar_bars_3_2 v1 v2 v3 σ
def s_Ar_bars_3_3 (v1 : Int32) (v2 : Int32) (v3 : Bool) (σ : nS) : Bool := if v1 < (σ 5 3) then (s_Ar_bars_69_3 v1 v2 v3 σ) else (if ((σ 5 3) + (σ 10 3)) ≤ v1 then (s_Ar_bars_69_3 v1 v2 v3 σ) else (if (σ 6 3) < v2 then (s_Ar_bars_63 σ) else (if v3 = true then (if (σ 7 3) = (0 : Int32) then (s_Ar_bars_67 σ) else (s_Ar_bars_63 σ)) else (s_Ar_bars_67 σ))))
def s_Ar_bars (v1 : Int32) (v2 : Int32) (v3 : Bool) (σ : nS) : Bool := s_Ar_bars_3_3 v1 v2 v3 σ
def s_N_fetchFault (σ : nS) : Int32 := if (s_Me_holdsHalf (σ 0 15)) = true then (if (s_Ar_bars (σ 0 15) (1 : Int32) true σ) = true then ((4 : Int32)) else ((0 : Int32))) else ((5 : Int32))
def s_Me_half (v1 : Int32) (σ : nS) : Int32 := ((ush (s_Me_load v1 σ) ((8 : Int32) * (v1 &&& (2 : Int32)))) &&& (65535 : Int32))
def s_N_fetch (σ : nS) : Int32 × nS := ((s_Me_half (σ 0 15) (up2 σ 0 15 ((σ 0 15) + (2 : Int32)))), (up2 σ 0 15 ((σ 0 15) + (2 : Int32))))
def s_Fl_ofResult_23 (k1 : Bool) (σ : nS) : nS := (up2 σ 8 5 (bI k1))
def s_Fl_ofResult_10 (v1 : Int32) (k1 : Bool) (σ : nS) : nS := if v1 = (0 : Int32) then (s_Fl_ofResult_23 true (up2 σ 8 4 (bI k1))) else (s_Fl_ofResult_23 false (up2 σ 8 4 (bI k1)))
def s_Fl_ofResult (v1 : Int32) (σ : nS) : nS := if (0 : Int32) ≤ v1 then (s_Fl_ofResult_10 v1 false σ) else (s_Fl_ofResult_10 v1 true σ)
def s_N_shift_107 (v2 : Int32) (k1 : Int32) (k2 : Int32) (σ : nS) : Int32 × nS := ap1 (s_Fl_ofResult ((up2 σ 0 (k1).toNatClampNeg k2) 0 (v2).toNatClampNeg) (up2 σ 0 (k1).toNatClampNeg k2)) fun σ1 => ((0 : Int32), σ1)
def s_N_shift_73 (v2 : Int32) (v3 : Int32) (v4 : Int32) (v5 : Int32) (σ : nS) : Int32 × nS := if v5 = (0 : Int32) then (s_N_shift_107 v2 v2 (v3 <<< (v4 &&& 31)) σ) else (if v5 = (1 : Int32) then (s_N_shift_107 v2 v2 (ush v3 v4) σ) else (s_N_shift_107 v2 v2 (v3 >>> (v4 &&& 31)) σ))
def s_N_shift_70 (v2 : Int32) (v3 : Int32) (v4 : Int32) (v5 : Int32) (k1 : Bool) (σ : nS) : Int32 × nS := s_N_shift_73 v2 v3 v4 v5 (up2 σ 8 6 (bI k1))
def s_N_shift_59 (v2 : Int32) (v3 : Int32) (v4 : Int32) (v5 : Int32) (k1 : Int32) (k2 : Int32) (σ : nS) : Int32 × nS := if ((ush k1 k2) &&& (1 : Int32)) = (0 : Int32) then (s_N_shift_70 v2 v3 v4 v5 false σ) else (s_N_shift_70 v2 v3 v4 v5 true σ)
def s_N_shift (v1 : Int32) (σ : nS) : Int32 × nS := if ((v1 >>> ((6 : Int32) &&& 31)) &&& (31 : Int32)) = (0 : Int32) then (s_N_shift_73 (v1 &&& (7 : Int32)) (σ 0 (((v1 >>> ((3 : Int32) &&& 31)) &&& (7 : Int32))).toNatClampNeg) ((v1 >>> ((6 : Int32) &&& 31)) &&& (31 : Int32)) (v1 >>> ((11 : Int32) &&& 31)) σ) else (if (v1 >>> ((11 : Int32) &&& 31)) = (0 : Int32) then (s_N_shift_59 (v1 &&& (7 : Int32)) (σ 0 (((v1 >>> ((3 : Int32) &&& 31)) &&& (7 : Int32))).toNatClampNeg) ((v1 >>> ((6 : Int32) &&& 31)) &&& (31 : Int32)) (v1 >>> ((11 : Int32) &&& 31)) (σ 0 (((v1 >>> ((3 : Int32) &&& 31)) &&& (7 : Int32))).toNatClampNeg) ((32 : Int32) - ((v1 >>> ((6 : Int32) &&& 31)) &&& (31 : Int32))) σ) else (s_N_shift_59 (v1 &&& (7 : Int32)) (σ 0 (((v1 >>> ((3 : Int32) &&& 31)) &&& (7 : Int32))).toNatClampNeg) ((v1 >>> ((6 : Int32) &&& 31)) &&& (31 : Int32)) (v1 >>> ((11 : Int32) &&& 31)) (σ 0 (((v1 >>> ((3 : Int32) &&& 31)) &&& (7 : Int32))).toNatClampNeg) (((v1 >>> ((6 : Int32) &&& 31)) &&& (31 : Int32)) - (1 : Int32)) σ))
def s_Fl_sum_67 (v8 : Int32) (k1 : Bool) (σ : nS) : Int32 × nS := ap1 (s_Fl_ofResult v8 (up2 σ 8 7 (bI k1))) fun σ1 => (v8, σ1)
def s_Fl_sum_49 (v4 : Int64) (v8 : Int32) (k1 : Bool) (σ : nS) : Int32 × nS := if (lg_cmp v4 (v8).toInt64) = (0 : Int32) then (s_Fl_sum_67 v8 false (up2 σ 8 6 (bI k1))) else (s_Fl_sum_67 v8 true (up2 σ 8 6 (bI k1)))
def s_Fl_sum (v1 : Int32) (v2 : Int32) (v3 : Int32) (σ : nS) : Int32 × nS := if (lg_cmp (lush ((((v1).toInt64 &&& (4294967295 : Int64)) + ((v2).toInt64 &&& (4294967295 : Int64))) + (v3).toInt64) (32 : Int32)) (0 : Int64)) = (0 : Int32) then (s_Fl_sum_49 (((v1).toInt64 + (v2).toInt64) + (v3).toInt64) ((((v1).toInt64 + (v2).toInt64) + (v3).toInt64)).toInt32 false σ) else (s_Fl_sum_49 (((v1).toInt64 + (v2).toInt64) + (v3).toInt64) ((((v1).toInt64 + (v2).toInt64) + (v3).toInt64)).toInt32 true σ)
def s_Fl_difference (v1 : Int32) (v2 : Int32) (σ : nS) : Int32 × nS := ap2 (s_Fl_sum v1 (v2 ^^^ (-1 : Int32)) (1 : Int32) σ) fun r1 σ1 => (r1, σ1)
def s_N_addThree (v1 : Int32) (σ : nS) : Int32 × nS := if ((v1 >>> ((9 : Int32) &&& 31)) &&& (3 : Int32)) = (0 : Int32) then (ap2 (s_Fl_sum (σ 0 (((v1 >>> ((3 : Int32) &&& 31)) &&& (7 : Int32))).toNatClampNeg) (σ 0 (((v1 >>> ((6 : Int32) &&& 31)) &&& (7 : Int32))).toNatClampNeg) (0 : Int32) σ) fun r1 σ1 => ((0 : Int32), (up2 σ1 0 ((v1 &&& (7 : Int32))).toNatClampNeg r1))) else if ((v1 >>> ((9 : Int32) &&& 31)) &&& (3 : Int32)) = (1 : Int32) then (ap2 (s_Fl_difference (σ 0 (((v1 >>> ((3 : Int32) &&& 31)) &&& (7 : Int32))).toNatClampNeg) (σ 0 (((v1 >>> ((6 : Int32) &&& 31)) &&& (7 : Int32))).toNatClampNeg) σ) fun r1 σ1 => ((0 : Int32), (up2 σ1 0 ((v1 &&& (7 : Int32))).toNatClampNeg r1))) else (((6 : Int32), σ))
def s_N_withNumber_128 (σ : nS) : Int32 × nS := ((0 : Int32), σ)
def s_N_withNumber (v1 : Int32) (σ : nS) : Int32 × nS := if ((v1 >>> ((11 : Int32) &&& 31)) &&& (3 : Int32)) = (0 : Int32) then (ap1 (s_Fl_ofResult (v1 &&& (255 : Int32)) (up2 σ 0 (((v1 >>> ((8 : Int32) &&& 31)) &&& (7 : Int32))).toNatClampNeg (v1 &&& (255 : Int32)))) fun σ1 => s_N_withNumber_128 σ1) else if ((v1 >>> ((11 : Int32) &&& 31)) &&& (3 : Int32)) = (1 : Int32) then (ap2 (s_Fl_difference (σ 0 (((v1 >>> ((8 : Int32) &&& 31)) &&& (7 : Int32))).toNatClampNeg) (v1 &&& (255 : Int32)) σ) fun r1 σ1 => s_N_withNumber_128 σ1) else if ((v1 >>> ((11 : Int32) &&& 31)) &&& (3 : Int32)) = (2 : Int32) then (ap2 (s_Fl_sum (σ 0 (((v1 >>> ((8 : Int32) &&& 31)) &&& (7 : Int32))).toNatClampNeg) (v1 &&& (255 : Int32)) (0 : Int32) σ) fun r1 σ1 => s_N_withNumber_128 (up2 σ1 0 (((v1 >>> ((8 : Int32) &&& 31)) &&& (7 : Int32))).toNatClampNeg r1)) else (ap2 (s_Fl_difference (σ 0 (((v1 >>> ((8 : Int32) &&& 31)) &&& (7 : Int32))).toNatClampNeg) (v1 &&& (255 : Int32)) σ) fun r1 σ1 => s_N_withNumber_128 (up2 σ1 0 (((v1 >>> ((8 : Int32) &&& 31)) &&& (7 : Int32))).toNatClampNeg r1))
def s_N_bits (v1 : Int32) (v2 : Int32) (σ : nS) : Int32 × nS := ap1 (s_Fl_ofResult v2 (up2 σ 0 (v1).toNatClampNeg v2)) fun σ1 => ((0 : Int32), σ1)
def s_Fl_carry (σ : nS) : Int32 := if (σ 8 6) = (0 : Int32) then ((0 : Int32)) else ((1 : Int32))
def s_N_combine (v1 : Int32) (σ : nS) : Int32 × nS := if ((v1 >>> ((6 : Int32) &&& 31)) &&& (15 : Int32)) = (0 : Int32) then (ap2 (s_N_bits (v1 &&& (7 : Int32)) ((σ 0 ((v1 &&& (7 : Int32))).toNatClampNeg) &&& (σ 0 (((v1 >>> ((3 : Int32) &&& 31)) &&& (7 : Int32))).toNatClampNeg)) σ) fun r1 σ1 => (r1, σ1)) else if ((v1 >>> ((6 : Int32) &&& 31)) &&& (15 : Int32)) = (1 : Int32) then (ap2 (s_N_bits (v1 &&& (7 : Int32)) ((σ 0 ((v1 &&& (7 : Int32))).toNatClampNeg) ^^^ (σ 0 (((v1 >>> ((3 : Int32) &&& 31)) &&& (7 : Int32))).toNatClampNeg)) σ) fun r1 σ1 => (r1, σ1)) else if ((v1 >>> ((6 : Int32) &&& 31)) &&& (15 : Int32)) = (2 : Int32) then (((6 : Int32), σ)) else if ((v1 >>> ((6 : Int32) &&& 31)) &&& (15 : Int32)) = (3 : Int32) then (((6 : Int32), σ)) else if ((v1 >>> ((6 : Int32) &&& 31)) &&& (15 : Int32)) = (4 : Int32) then (((6 : Int32), σ)) else if ((v1 >>> ((6 : Int32) &&& 31)) &&& (15 : Int32)) = (5 : Int32) then (ap2 (s_Fl_sum (σ 0 ((v1 &&& (7 : Int32))).toNatClampNeg) (σ 0 (((v1 >>> ((3 : Int32) &&& 31)) &&& (7 : Int32))).toNatClampNeg) (s_Fl_carry σ) σ) fun r1 σ1 => ((0 : Int32), (up2 σ1 0 ((v1 &&& (7 : Int32))).toNatClampNeg r1))) else if ((v1 >>> ((6 : Int32) &&& 31)) &&& (15 : Int32)) = (6 : Int32) then (ap2 (s_Fl_sum (σ 0 ((v1 &&& (7 : Int32))).toNatClampNeg) ((σ 0 (((v1 >>> ((3 : Int32) &&& 31)) &&& (7 : Int32))).toNatClampNeg) ^^^ (-1 : Int32)) (s_Fl_carry σ) σ) fun r1 σ1 => ((0 : Int32), (up2 σ1 0 ((v1 &&& (7 : Int32))).toNatClampNeg r1))) else if ((v1 >>> ((6 : Int32) &&& 31)) &&& (15 : Int32)) = (7 : Int32) then (((6 : Int32), σ)) else if ((v1 >>> ((6 : Int32) &&& 31)) &&& (15 : Int32)) = (8 : Int32) then (ap1 (s_Fl_ofResult ((σ 0 ((v1 &&& (7 : Int32))).toNatClampNeg) &&& (σ 0 (((v1 >>> ((3 : Int32) &&& 31)) &&& (7 : Int32))).toNatClampNeg)) σ) fun σ1 => ((0 : Int32), σ1)) else if ((v1 >>> ((6 : Int32) &&& 31)) &&& (15 : Int32)) = (9 : Int32) then (ap2 (s_Fl_difference (0 : Int32) (σ 0 (((v1 >>> ((3 : Int32) &&& 31)) &&& (7 : Int32))).toNatClampNeg) σ) fun r1 σ1 => ((0 : Int32), (up2 σ1 0 ((v1 &&& (7 : Int32))).toNatClampNeg r1))) else if ((v1 >>> ((6 : Int32) &&& 31)) &&& (15 : Int32)) = (10 : Int32) then (ap2 (s_Fl_difference (σ 0 ((v1 &&& (7 : Int32))).toNatClampNeg) (σ 0 (((v1 >>> ((3 : Int32) &&& 31)) &&& (7 : Int32))).toNatClampNeg) σ) fun r1 σ1 => ((0 : Int32), σ1)) else if ((v1 >>> ((6 : Int32) &&& 31)) &&& (15 : Int32)) = (11 : Int32) then (((6 : Int32), σ)) else if ((v1 >>> ((6 : Int32) &&& 31)) &&& (15 : Int32)) = (12 : Int32) then (ap2 (s_N_bits (v1 &&& (7 : Int32)) ((σ 0 ((v1 &&& (7 : Int32))).toNatClampNeg) ||| (σ 0 (((v1 >>> ((3 : Int32) &&& 31)) &&& (7 : Int32))).toNatClampNeg)) σ) fun r1 σ1 => (r1, σ1)) else if ((v1 >>> ((6 : Int32) &&& 31)) &&& (15 : Int32)) = (13 : Int32) then (ap2 (s_N_bits (v1 &&& (7 : Int32)) ((σ 0 ((v1 &&& (7 : Int32))).toNatClampNeg) * (σ 0 (((v1 >>> ((3 : Int32) &&& 31)) &&& (7 : Int32))).toNatClampNeg)) σ) fun r1 σ1 => (r1, σ1)) else if ((v1 >>> ((6 : Int32) &&& 31)) &&& (15 : Int32)) = (14 : Int32) then (ap2 (s_N_bits (v1 &&& (7 : Int32)) ((σ 0 ((v1 &&& (7 : Int32))).toNatClampNeg) &&& ((σ 0 (((v1 >>> ((3 : Int32) &&& 31)) &&& (7 : Int32))).toNatClampNeg) ^^^ (-1 : Int32))) σ) fun r1 σ1 => (r1, σ1)) else if ((v1 >>> ((6 : Int32) &&& 31)) &&& (15 : Int32)) = (15 : Int32) then (ap2 (s_N_bits (v1 &&& (7 : Int32)) ((σ 0 (((v1 >>> ((3 : Int32) &&& 31)) &&& (7 : Int32))).toNatClampNeg) ^^^ (-1 : Int32)) σ) fun r1 σ1 => (r1, σ1)) else (((6 : Int32), σ))
def s_N_copyAny_57 (k1 : Int32) (k2 : Int32) (σ : nS) : Int32 × nS := ((0 : Int32), (up2 σ 0 (k1).toNatClampNeg k2))
def s_N_copyAny (v1 : Int32) (σ : nS) : Int32 × nS := if (((v1 >>> ((4 : Int32) &&& 31)) &&& (8 : Int32)) + (v1 &&& (7 : Int32))) = (15 : Int32) then (((6 : Int32), σ)) else (if ((v1 >>> ((3 : Int32) &&& 31)) &&& (15 : Int32)) = (15 : Int32) then (s_N_copyAny_57 (((v1 >>> ((4 : Int32) &&& 31)) &&& (8 : Int32)) + (v1 &&& (7 : Int32))) ((σ 0 15) + (2 : Int32)) σ) else (s_N_copyAny_57 (((v1 >>> ((4 : Int32) &&& 31)) &&& (8 : Int32)) + (v1 &&& (7 : Int32))) (σ 0 (((v1 >>> ((3 : Int32) &&& 31)) &&& (15 : Int32))).toNatClampNeg) σ))
def s_N_branchTo_21 (σ : nS) : Int32 × nS := ((6 : Int32), σ)
def s_N_branchTo (v1 : Int32) (σ : nS) : Int32 × nS := if (v1 &&& (135 : Int32)) = (0 : Int32) then (if ((v1 >>> ((3 : Int32) &&& 31)) &&& (15 : Int32)) = (15 : Int32) then (s_N_branchTo_21 σ) else (((0 : Int32), (up2 σ 0 15 (σ 0 (((v1 >>> ((3 : Int32) &&& 31)) &&& (15 : Int32))).toNatClampNeg))))) else (s_N_branchTo_21 σ)
def s_N_copyOrBranch (v1 : Int32) (σ : nS) : Int32 × nS := if (v1 >>> ((8 : Int32) &&& 31)) = (70 : Int32) then (ap2 (s_N_copyAny v1 σ) fun r1 σ1 => (r1, σ1)) else if (v1 >>> ((8 : Int32) &&& 31)) = (71 : Int32) then (ap2 (s_N_branchTo v1 σ) fun r1 σ1 => (r1, σ1)) else (((6 : Int32), σ))
def s_N_faultAlong_36_9 (v1 : Int32) (v2 : Int32) (v3 : Int32) (σ : nS) : Int32 := (0 : Int32)
def s_N_faultAlong_36_8 (v1 : Int32) (v2 : Int32) (v3 : Int32) (σ : nS) : Int32 := if v2 ≤ (8 : Int32) then ((0 : Int32)) else (if (s_Ar_bars (v1 + (32 : Int32)) v3 false σ) = true then ((4 : Int32)) else (s_N_faultAlong_36_9 v1 v2 v3 σ))
def s_N_faultAlong_36_7 (v1 : Int32) (v2 : Int32) (v3 : Int32) (σ : nS) : Int32 := if v2 ≤ (7 : Int32) then ((0 : Int32)) else (if (s_Ar_bars (v1 + (28 : Int32)) v3 false σ) = true then ((4 : Int32)) else (s_N_faultAlong_36_8 v1 v2 v3 σ))
def s_N_faultAlong_36_6 (v1 : Int32) (v2 : Int32) (v3 : Int32) (σ : nS) : Int32 := if v2 ≤ (6 : Int32) then ((0 : Int32)) else (if (s_Ar_bars (v1 + (24 : Int32)) v3 false σ) = true then ((4 : Int32)) else (s_N_faultAlong_36_7 v1 v2 v3 σ))
def s_N_faultAlong_36_5 (v1 : Int32) (v2 : Int32) (v3 : Int32) (σ : nS) : Int32 := if v2 ≤ (5 : Int32) then ((0 : Int32)) else (if (s_Ar_bars (v1 + (20 : Int32)) v3 false σ) = true then ((4 : Int32)) else (s_N_faultAlong_36_6 v1 v2 v3 σ))
def s_N_faultAlong_36_4 (v1 : Int32) (v2 : Int32) (v3 : Int32) (σ : nS) : Int32 := if v2 ≤ (4 : Int32) then ((0 : Int32)) else (if (s_Ar_bars (v1 + (16 : Int32)) v3 false σ) = true then ((4 : Int32)) else (s_N_faultAlong_36_5 v1 v2 v3 σ))
def s_N_faultAlong_36_3 (v1 : Int32) (v2 : Int32) (v3 : Int32) (σ : nS) : Int32 := if v2 ≤ (3 : Int32) then ((0 : Int32)) else (if (s_Ar_bars (v1 + (12 : Int32)) v3 false σ) = true then ((4 : Int32)) else (s_N_faultAlong_36_4 v1 v2 v3 σ))
def s_N_faultAlong_36_2 (v1 : Int32) (v2 : Int32) (v3 : Int32) (σ : nS) : Int32 := if v2 ≤ (2 : Int32) then ((0 : Int32)) else (if (s_Ar_bars (v1 + (8 : Int32)) v3 false σ) = true then ((4 : Int32)) else (s_N_faultAlong_36_3 v1 v2 v3 σ))
def s_N_faultAlong_36_1 (v1 : Int32) (v2 : Int32) (v3 : Int32) (σ : nS) : Int32 := if v2 ≤ (1 : Int32) then ((0 : Int32)) else (if (s_Ar_bars (v1 + (4 : Int32)) v3 false σ) = true then ((4 : Int32)) else (s_N_faultAlong_36_2 v1 v2 v3 σ))
def s_N_faultAlong_36_0 (v1 : Int32) (v2 : Int32) (v3 : Int32) (σ : nS) : Int32 := if v2 ≤ (0 : Int32) then ((0 : Int32)) else (if (s_Ar_bars (v1 + (0 : Int32)) v3 false σ) = true then ((4 : Int32)) else (s_N_faultAlong_36_1 v1 v2 v3 σ))
def s_N_faultAlong_3_9 (v1 : Int32) (v2 : Int32) (v3 : Int32) (σ : nS) : Int32 := s_N_faultAlong_36_0 v1 v2 v3 σ
def s_N_faultAlong_3_8 (v1 : Int32) (v2 : Int32) (v3 : Int32) (σ : nS) : Int32 := if v2 ≤ (8 : Int32) then (s_N_faultAlong_36_0 v1 v2 v3 σ) else (if (s_Me_holdsWord (v1 + (32 : Int32))) = true then (s_N_faultAlong_3_9 v1 v2 v3 σ) else ((5 : Int32)))
def s_N_faultAlong_3_7 (v1 : Int32) (v2 : Int32) (v3 : Int32) (σ : nS) : Int32 := if v2 ≤ (7 : Int32) then (s_N_faultAlong_36_0 v1 v2 v3 σ) else (if (s_Me_holdsWord (v1 + (28 : Int32))) = true then (s_N_faultAlong_3_8 v1 v2 v3 σ) else ((5 : Int32)))
def s_N_faultAlong_3_6 (v1 : Int32) (v2 : Int32) (v3 : Int32) (σ : nS) : Int32 := if v2 ≤ (6 : Int32) then (s_N_faultAlong_36_0 v1 v2 v3 σ) else (if (s_Me_holdsWord (v1 + (24 : Int32))) = true then (s_N_faultAlong_3_7 v1 v2 v3 σ) else ((5 : Int32)))
def s_N_faultAlong_3_5 (v1 : Int32) (v2 : Int32) (v3 : Int32) (σ : nS) : Int32 := if v2 ≤ (5 : Int32) then (s_N_faultAlong_36_0 v1 v2 v3 σ) else (if (s_Me_holdsWord (v1 + (20 : Int32))) = true then (s_N_faultAlong_3_6 v1 v2 v3 σ) else ((5 : Int32)))
def s_N_faultAlong_3_4 (v1 : Int32) (v2 : Int32) (v3 : Int32) (σ : nS) : Int32 := if v2 ≤ (4 : Int32) then (s_N_faultAlong_36_0 v1 v2 v3 σ) else (if (s_Me_holdsWord (v1 + (16 : Int32))) = true then (s_N_faultAlong_3_5 v1 v2 v3 σ) else ((5 : Int32)))
def s_N_faultAlong_3_3 (v1 : Int32) (v2 : Int32) (v3 : Int32) (σ : nS) : Int32 := if v2 ≤ (3 : Int32) then (s_N_faultAlong_36_0 v1 v2 v3 σ) else (if (s_Me_holdsWord (v1 + (12 : Int32))) = true then (s_N_faultAlong_3_4 v1 v2 v3 σ) else ((5 : Int32)))
def s_N_faultAlong_3_2 (v1 : Int32) (v2 : Int32) (v3 : Int32) (σ : nS) : Int32 := if v2 ≤ (2 : Int32) then (s_N_faultAlong_36_0 v1 v2 v3 σ) else (if (s_Me_holdsWord (v1 + (8 : Int32))) = true then (s_N_faultAlong_3_3 v1 v2 v3 σ) else ((5 : Int32)))
def s_N_faultAlong_3_1 (v1 : Int32) (v2 : Int32) (v3 : Int32) (σ : nS) : Int32 := if v2 ≤ (1 : Int32) then (s_N_faultAlong_36_0 v1 v2 v3 σ) else (if (s_Me_holdsWord (v1 + (4 : Int32))) = true then (s_N_faultAlong_3_2 v1 v2 v3 σ) else ((5 : Int32)))
def s_N_faultAlong_3_0 (v1 : Int32) (v2 : Int32) (v3 : Int32) (σ : nS) : Int32 := if v2 ≤ (0 : Int32) then (s_N_faultAlong_36_0 v1 v2 v3 σ) else (if (s_Me_holdsWord (v1 + (0 : Int32))) = true then (s_N_faultAlong_3_1 v1 v2 v3 σ) else ((5 : Int32)))
def s_N_faultAlong (v1 : Int32) (v2 : Int32) (v3 : Int32) (σ : nS) : Int32 := s_N_faultAlong_3_0 v1 v2 v3 σ
def o_N_faultAlong_36_9 (v1 : Int32) (v2 : Int32) (v3 : Int32) (σ : nS) : Prop := v2 ≤ (9 : Int32) ∧ (True)
def o_N_faultAlong_36_8 (v1 : Int32) (v2 : Int32) (v3 : Int32) (σ : nS) : Prop := if v2 ≤ (8 : Int32) then (True) else (if (s_Ar_bars (v1 + (32 : Int32)) v3 false σ) = true then (True) else (o_N_faultAlong_36_9 v1 v2 v3 σ))
def o_N_faultAlong_36_7 (v1 : Int32) (v2 : Int32) (v3 : Int32) (σ : nS) : Prop := if v2 ≤ (7 : Int32) then (True) else (if (s_Ar_bars (v1 + (28 : Int32)) v3 false σ) = true then (True) else (o_N_faultAlong_36_8 v1 v2 v3 σ))
def o_N_faultAlong_36_6 (v1 : Int32) (v2 : Int32) (v3 : Int32) (σ : nS) : Prop := if v2 ≤ (6 : Int32) then (True) else (if (s_Ar_bars (v1 + (24 : Int32)) v3 false σ) = true then (True) else (o_N_faultAlong_36_7 v1 v2 v3 σ))
def o_N_faultAlong_36_5 (v1 : Int32) (v2 : Int32) (v3 : Int32) (σ : nS) : Prop := if v2 ≤ (5 : Int32) then (True) else (if (s_Ar_bars (v1 + (20 : Int32)) v3 false σ) = true then (True) else (o_N_faultAlong_36_6 v1 v2 v3 σ))
def o_N_faultAlong_36_4 (v1 : Int32) (v2 : Int32) (v3 : Int32) (σ : nS) : Prop := if v2 ≤ (4 : Int32) then (True) else (if (s_Ar_bars (v1 + (16 : Int32)) v3 false σ) = true then (True) else (o_N_faultAlong_36_5 v1 v2 v3 σ))
def o_N_faultAlong_36_3 (v1 : Int32) (v2 : Int32) (v3 : Int32) (σ : nS) : Prop := if v2 ≤ (3 : Int32) then (True) else (if (s_Ar_bars (v1 + (12 : Int32)) v3 false σ) = true then (True) else (o_N_faultAlong_36_4 v1 v2 v3 σ))
def o_N_faultAlong_36_2 (v1 : Int32) (v2 : Int32) (v3 : Int32) (σ : nS) : Prop := if v2 ≤ (2 : Int32) then (True) else (if (s_Ar_bars (v1 + (8 : Int32)) v3 false σ) = true then (True) else (o_N_faultAlong_36_3 v1 v2 v3 σ))
def o_N_faultAlong_36_1 (v1 : Int32) (v2 : Int32) (v3 : Int32) (σ : nS) : Prop := if v2 ≤ (1 : Int32) then (True) else (if (s_Ar_bars (v1 + (4 : Int32)) v3 false σ) = true then (True) else (o_N_faultAlong_36_2 v1 v2 v3 σ))
def o_N_faultAlong_36_0 (v1 : Int32) (v2 : Int32) (v3 : Int32) (σ : nS) : Prop := if v2 ≤ (0 : Int32) then (True) else (if (s_Ar_bars (v1 + (0 : Int32)) v3 false σ) = true then (True) else (o_N_faultAlong_36_1 v1 v2 v3 σ))
def o_N_faultAlong_3_9 (v1 : Int32) (v2 : Int32) (v3 : Int32) (σ : nS) : Prop := v2 ≤ (9 : Int32) ∧ (o_N_faultAlong_36_0 v1 v2 v3 σ)
def o_N_faultAlong_3_8 (v1 : Int32) (v2 : Int32) (v3 : Int32) (σ : nS) : Prop := if v2 ≤ (8 : Int32) then (o_N_faultAlong_36_0 v1 v2 v3 σ) else (if (s_Me_holdsWord (v1 + (32 : Int32))) = true then (o_N_faultAlong_3_9 v1 v2 v3 σ) else (True))
def o_N_faultAlong_3_7 (v1 : Int32) (v2 : Int32) (v3 : Int32) (σ : nS) : Prop := if v2 ≤ (7 : Int32) then (o_N_faultAlong_36_0 v1 v2 v3 σ) else (if (s_Me_holdsWord (v1 + (28 : Int32))) = true then (o_N_faultAlong_3_8 v1 v2 v3 σ) else (True))
def o_N_faultAlong_3_6 (v1 : Int32) (v2 : Int32) (v3 : Int32) (σ : nS) : Prop := if v2 ≤ (6 : Int32) then (o_N_faultAlong_36_0 v1 v2 v3 σ) else (if (s_Me_holdsWord (v1 + (24 : Int32))) = true then (o_N_faultAlong_3_7 v1 v2 v3 σ) else (True))
def o_N_faultAlong_3_5 (v1 : Int32) (v2 : Int32) (v3 : Int32) (σ : nS) : Prop := if v2 ≤ (5 : Int32) then (o_N_faultAlong_36_0 v1 v2 v3 σ) else (if (s_Me_holdsWord (v1 + (20 : Int32))) = true then (o_N_faultAlong_3_6 v1 v2 v3 σ) else (True))
def o_N_faultAlong_3_4 (v1 : Int32) (v2 : Int32) (v3 : Int32) (σ : nS) : Prop := if v2 ≤ (4 : Int32) then (o_N_faultAlong_36_0 v1 v2 v3 σ) else (if (s_Me_holdsWord (v1 + (16 : Int32))) = true then (o_N_faultAlong_3_5 v1 v2 v3 σ) else (True))
def o_N_faultAlong_3_3 (v1 : Int32) (v2 : Int32) (v3 : Int32) (σ : nS) : Prop := if v2 ≤ (3 : Int32) then (o_N_faultAlong_36_0 v1 v2 v3 σ) else (if (s_Me_holdsWord (v1 + (12 : Int32))) = true then (o_N_faultAlong_3_4 v1 v2 v3 σ) else (True))
def o_N_faultAlong_3_2 (v1 : Int32) (v2 : Int32) (v3 : Int32) (σ : nS) : Prop := if v2 ≤ (2 : Int32) then (o_N_faultAlong_36_0 v1 v2 v3 σ) else (if (s_Me_holdsWord (v1 + (8 : Int32))) = true then (o_N_faultAlong_3_3 v1 v2 v3 σ) else (True))
def o_N_faultAlong_3_1 (v1 : Int32) (v2 : Int32) (v3 : Int32) (σ : nS) : Prop := if v2 ≤ (1 : Int32) then (o_N_faultAlong_36_0 v1 v2 v3 σ) else (if (s_Me_holdsWord (v1 + (4 : Int32))) = true then (o_N_faultAlong_3_2 v1 v2 v3 σ) else (True))
def o_N_faultAlong_3_0 (v1 : Int32) (v2 : Int32) (v3 : Int32) (σ : nS) : Prop := if v2 ≤ (0 : Int32) then (o_N_faultAlong_36_0 v1 v2 v3 σ) else (if (s_Me_holdsWord (v1 + (0 : Int32))) = true then (o_N_faultAlong_3_1 v1 v2 v3 σ) else (True))
def o_N_faultAlong (v1 : Int32) (v2 : Int32) (v3 : Int32) (σ : nS) : Prop := o_N_faultAlong_3_0 v1 v2 v3 σ
def s_N_move_78 (σ : nS) : Int32 × nS := ((0 : Int32), σ)
def s_N_move_29 (v2 : Int32) (v3 : Int32) (v4 : Bool) (k1 : Int32) (k3 : Int32) (σ : nS) : Int32 × nS := if (s_N_faultAlong k1 (1 : Int32) k3 σ) = (0 : Int32) then (if v4 = true then (s_N_move_78 (up2 σ 0 (v2).toNatClampNeg (s_Me_load v3 σ))) else (ap1 (s_Me_store v3 (σ 0 (v2).toNatClampNeg) σ) fun σ1 => s_N_move_78 σ1)) else (((s_N_faultAlong k1 (1 : Int32) k3 σ), σ))
def s_N_move_14 (v2 : Int32) (v3 : Int32) (k0 : Bool) (σ : nS) : Int32 × nS := if k0 = true then (s_N_move_29 v2 v3 k0 v3 (1 : Int32) σ) else (s_N_move_29 v2 v3 k0 v3 (2 : Int32) σ)
def s_N_move (v1 : Int32) (v2 : Int32) (v3 : Int32) (σ : nS) : Int32 × nS := if ((v1 >>> ((11 : Int32) &&& 31)) &&& (1 : Int32)) = (0 : Int32) then (s_N_move_14 v2 v3 false σ) else (s_N_move_14 v2 v3 true σ)
def o_N_move_78 (σ : nS) : Prop := True
def o_N_move_29 (v2 : Int32) (v3 : Int32) (v4 : Bool) (k1 : Int32) (k3 : Int32) (σ : nS) : Prop := o_N_faultAlong k1 (1 : Int32) k3 σ ∧ (if (s_N_faultAlong k1 (1 : Int32) k3 σ) = (0 : Int32) then (if v4 = true then (o_N_move_78 (up2 σ 0 (v2).toNatClampNeg (s_Me_load v3 σ))) else (ap1 (s_Me_store v3 (σ 0 (v2).toNatClampNeg) σ) fun σ1 => (o_N_move_78 σ1))) else (True))
def o_N_move_14 (v2 : Int32) (v3 : Int32) (k0 : Bool) (σ : nS) : Prop := if k0 = true then (o_N_move_29 v2 v3 k0 v3 (1 : Int32) σ) else (o_N_move_29 v2 v3 k0 v3 (2 : Int32) σ)
def o_N_move (v1 : Int32) (v2 : Int32) (v3 : Int32) (σ : nS) : Prop := if ((v1 >>> ((11 : Int32) &&& 31)) &&& (1 : Int32)) = (0 : Int32) then (o_N_move_14 v2 v3 false σ) else (o_N_move_14 v2 v3 true σ)
def s_N_push_47_9 (v1 : Int32) (v3 : Int32) (v5 : Int32) (σ : nS) : Int32 × nS := ((0 : Int32), (up2 σ 0 13 v3))
def s_N_push_94_8 (v1 : Int32) (v3 : Int32) (v5 : Int32) (σ : nS) : Int32 × nS := s_N_push_47_9 v1 v3 v5 σ
def s_N_push_87_8 (v1 : Int32) (v3 : Int32) (v5 : Int32) (k1 : Int32) (σ : nS) : Int32 × nS := ap1 (s_Me_store k1 (σ 0 14) σ) fun σ1 => s_N_push_94_8 v1 v3 (v5 + (4 : Int32)) σ1
def s_N_push_47_8 (v1 : Int32) (v3 : Int32) (v5 : Int32) (σ : nS) : Int32 × nS := if ((v1 >>> ((8 : Int32) &&& 31)) &&& (1 : Int32)) = (0 : Int32) then (s_N_push_94_8 v1 v3 v5 σ) else (s_N_push_87_8 v1 v3 v5 v5 σ)
def s_N_push_94_7 (v1 : Int32) (v3 : Int32) (v5 : Int32) (σ : nS) : Int32 × nS := s_N_push_47_8 v1 v3 v5 σ
def s_N_push_87_7 (v1 : Int32) (v3 : Int32) (v5 : Int32) (k1 : Int32) (σ : nS) : Int32 × nS := ap1 (s_Me_store k1 (σ 0 7) σ) fun σ1 => s_N_push_94_7 v1 v3 (v5 + (4 : Int32)) σ1
def s_N_push_47_7 (v1 : Int32) (v3 : Int32) (v5 : Int32) (σ : nS) : Int32 × nS := if ((v1 >>> ((7 : Int32) &&& 31)) &&& (1 : Int32)) = (0 : Int32) then (s_N_push_94_7 v1 v3 v5 σ) else (s_N_push_87_7 v1 v3 v5 v5 σ)
def s_N_push_94_6 (v1 : Int32) (v3 : Int32) (v5 : Int32) (σ : nS) : Int32 × nS := s_N_push_47_7 v1 v3 v5 σ
def s_N_push_87_6 (v1 : Int32) (v3 : Int32) (v5 : Int32) (k1 : Int32) (σ : nS) : Int32 × nS := ap1 (s_Me_store k1 (σ 0 6) σ) fun σ1 => s_N_push_94_6 v1 v3 (v5 + (4 : Int32)) σ1
def s_N_push_47_6 (v1 : Int32) (v3 : Int32) (v5 : Int32) (σ : nS) : Int32 × nS := if ((v1 >>> ((6 : Int32) &&& 31)) &&& (1 : Int32)) = (0 : Int32) then (s_N_push_94_6 v1 v3 v5 σ) else (s_N_push_87_6 v1 v3 v5 v5 σ)
def s_N_push_94_5 (v1 : Int32) (v3 : Int32) (v5 : Int32) (σ : nS) : Int32 × nS := s_N_push_47_6 v1 v3 v5 σ
def s_N_push_87_5 (v1 : Int32) (v3 : Int32) (v5 : Int32) (k1 : Int32) (σ : nS) : Int32 × nS := ap1 (s_Me_store k1 (σ 0 5) σ) fun σ1 => s_N_push_94_5 v1 v3 (v5 + (4 : Int32)) σ1
def s_N_push_47_5 (v1 : Int32) (v3 : Int32) (v5 : Int32) (σ : nS) : Int32 × nS := if ((v1 >>> ((5 : Int32) &&& 31)) &&& (1 : Int32)) = (0 : Int32) then (s_N_push_94_5 v1 v3 v5 σ) else (s_N_push_87_5 v1 v3 v5 v5 σ)
def s_N_push_94_4 (v1 : Int32) (v3 : Int32) (v5 : Int32) (σ : nS) : Int32 × nS := s_N_push_47_5 v1 v3 v5 σ
def s_N_push_87_4 (v1 : Int32) (v3 : Int32) (v5 : Int32) (k1 : Int32) (σ : nS) : Int32 × nS := ap1 (s_Me_store k1 (σ 0 4) σ) fun σ1 => s_N_push_94_4 v1 v3 (v5 + (4 : Int32)) σ1
def s_N_push_47_4 (v1 : Int32) (v3 : Int32) (v5 : Int32) (σ : nS) : Int32 × nS := if ((v1 >>> ((4 : Int32) &&& 31)) &&& (1 : Int32)) = (0 : Int32) then (s_N_push_94_4 v1 v3 v5 σ) else (s_N_push_87_4 v1 v3 v5 v5 σ)
def s_N_push_94_3 (v1 : Int32) (v3 : Int32) (v5 : Int32) (σ : nS) : Int32 × nS := s_N_push_47_4 v1 v3 v5 σ
def s_N_push_87_3 (v1 : Int32) (v3 : Int32) (v5 : Int32) (k1 : Int32) (σ : nS) : Int32 × nS := ap1 (s_Me_store k1 (σ 0 3) σ) fun σ1 => s_N_push_94_3 v1 v3 (v5 + (4 : Int32)) σ1
def s_N_push_47_3 (v1 : Int32) (v3 : Int32) (v5 : Int32) (σ : nS) : Int32 × nS := if ((v1 >>> ((3 : Int32) &&& 31)) &&& (1 : Int32)) = (0 : Int32) then (s_N_push_94_3 v1 v3 v5 σ) else (s_N_push_87_3 v1 v3 v5 v5 σ)
def s_N_push_94_2 (v1 : Int32) (v3 : Int32) (v5 : Int32) (σ : nS) : Int32 × nS := s_N_push_47_3 v1 v3 v5 σ
def s_N_push_87_2 (v1 : Int32) (v3 : Int32) (v5 : Int32) (k1 : Int32) (σ : nS) : Int32 × nS := ap1 (s_Me_store k1 (σ 0 2) σ) fun σ1 => s_N_push_94_2 v1 v3 (v5 + (4 : Int32)) σ1
def s_N_push_47_2 (v1 : Int32) (v3 : Int32) (v5 : Int32) (σ : nS) : Int32 × nS := if ((v1 >>> ((2 : Int32) &&& 31)) &&& (1 : Int32)) = (0 : Int32) then (s_N_push_94_2 v1 v3 v5 σ) else (s_N_push_87_2 v1 v3 v5 v5 σ)
def s_N_push_94_1 (v1 : Int32) (v3 : Int32) (v5 : Int32) (σ : nS) : Int32 × nS := s_N_push_47_2 v1 v3 v5 σ
def s_N_push_87_1 (v1 : Int32) (v3 : Int32) (v5 : Int32) (k1 : Int32) (σ : nS) : Int32 × nS := ap1 (s_Me_store k1 (σ 0 1) σ) fun σ1 => s_N_push_94_1 v1 v3 (v5 + (4 : Int32)) σ1
def s_N_push_47_1 (v1 : Int32) (v3 : Int32) (v5 : Int32) (σ : nS) : Int32 × nS := if ((v1 >>> ((1 : Int32) &&& 31)) &&& (1 : Int32)) = (0 : Int32) then (s_N_push_94_1 v1 v3 v5 σ) else (s_N_push_87_1 v1 v3 v5 v5 σ)
def s_N_push_94_0 (v1 : Int32) (v3 : Int32) (v5 : Int32) (σ : nS) : Int32 × nS := s_N_push_47_1 v1 v3 v5 σ
def s_N_push_87_0 (v1 : Int32) (v3 : Int32) (v5 : Int32) (k1 : Int32) (σ : nS) : Int32 × nS := ap1 (s_Me_store k1 (σ 0 0) σ) fun σ1 => s_N_push_94_0 v1 v3 (v5 + (4 : Int32)) σ1
def s_N_push_47_0 (v1 : Int32) (v3 : Int32) (v5 : Int32) (σ : nS) : Int32 × nS := if ((v1 >>> ((0 : Int32) &&& 31)) &&& (1 : Int32)) = (0 : Int32) then (s_N_push_94_0 v1 v3 v5 σ) else (s_N_push_87_0 v1 v3 v5 v5 σ)
def s_N_push (v1 : Int32) (σ : nS) : Int32 × nS := if (s_In_bitCount v1) = (0 : Int32) then (((6 : Int32), σ)) else (if (s_N_faultAlong ((σ 0 13) - ((4 : Int32) * (s_In_bitCount v1))) (s_In_bitCount v1) (2 : Int32) σ) = (0 : Int32) then (s_N_push_47_0 v1 ((σ 0 13) - ((4 : Int32) * (s_In_bitCount v1))) ((σ 0 13) - ((4 : Int32) * (s_In_bitCount v1))) σ) else (((s_N_faultAlong ((σ 0 13) - ((4 : Int32) * (s_In_bitCount v1))) (s_In_bitCount v1) (2 : Int32) σ), σ)))
def o_N_push_47_9 (v1 : Int32) (v3 : Int32) (v5 : Int32) (σ : nS) : Prop := True
def o_N_push_94_8 (v1 : Int32) (v3 : Int32) (v5 : Int32) (σ : nS) : Prop := o_N_push_47_9 v1 v3 v5 σ
def o_N_push_87_8 (v1 : Int32) (v3 : Int32) (v5 : Int32) (k1 : Int32) (σ : nS) : Prop := ap1 (s_Me_store k1 (σ 0 14) σ) fun σ1 => (o_N_push_94_8 v1 v3 (v5 + (4 : Int32)) σ1)
def o_N_push_47_8 (v1 : Int32) (v3 : Int32) (v5 : Int32) (σ : nS) : Prop := if ((v1 >>> ((8 : Int32) &&& 31)) &&& (1 : Int32)) = (0 : Int32) then (o_N_push_94_8 v1 v3 v5 σ) else (o_N_push_87_8 v1 v3 v5 v5 σ)
def o_N_push_94_7 (v1 : Int32) (v3 : Int32) (v5 : Int32) (σ : nS) : Prop := o_N_push_47_8 v1 v3 v5 σ
def o_N_push_87_7 (v1 : Int32) (v3 : Int32) (v5 : Int32) (k1 : Int32) (σ : nS) : Prop := ap1 (s_Me_store k1 (σ 0 7) σ) fun σ1 => (o_N_push_94_7 v1 v3 (v5 + (4 : Int32)) σ1)
def o_N_push_47_7 (v1 : Int32) (v3 : Int32) (v5 : Int32) (σ : nS) : Prop := if ((v1 >>> ((7 : Int32) &&& 31)) &&& (1 : Int32)) = (0 : Int32) then (o_N_push_94_7 v1 v3 v5 σ) else (o_N_push_87_7 v1 v3 v5 v5 σ)
def o_N_push_94_6 (v1 : Int32) (v3 : Int32) (v5 : Int32) (σ : nS) : Prop := o_N_push_47_7 v1 v3 v5 σ
def o_N_push_87_6 (v1 : Int32) (v3 : Int32) (v5 : Int32) (k1 : Int32) (σ : nS) : Prop := ap1 (s_Me_store k1 (σ 0 6) σ) fun σ1 => (o_N_push_94_6 v1 v3 (v5 + (4 : Int32)) σ1)
def o_N_push_47_6 (v1 : Int32) (v3 : Int32) (v5 : Int32) (σ : nS) : Prop := if ((v1 >>> ((6 : Int32) &&& 31)) &&& (1 : Int32)) = (0 : Int32) then (o_N_push_94_6 v1 v3 v5 σ) else (o_N_push_87_6 v1 v3 v5 v5 σ)
def o_N_push_94_5 (v1 : Int32) (v3 : Int32) (v5 : Int32) (σ : nS) : Prop := o_N_push_47_6 v1 v3 v5 σ
def o_N_push_87_5 (v1 : Int32) (v3 : Int32) (v5 : Int32) (k1 : Int32) (σ : nS) : Prop := ap1 (s_Me_store k1 (σ 0 5) σ) fun σ1 => (o_N_push_94_5 v1 v3 (v5 + (4 : Int32)) σ1)
def o_N_push_47_5 (v1 : Int32) (v3 : Int32) (v5 : Int32) (σ : nS) : Prop := if ((v1 >>> ((5 : Int32) &&& 31)) &&& (1 : Int32)) = (0 : Int32) then (o_N_push_94_5 v1 v3 v5 σ) else (o_N_push_87_5 v1 v3 v5 v5 σ)
def o_N_push_94_4 (v1 : Int32) (v3 : Int32) (v5 : Int32) (σ : nS) : Prop := o_N_push_47_5 v1 v3 v5 σ
def o_N_push_87_4 (v1 : Int32) (v3 : Int32) (v5 : Int32) (k1 : Int32) (σ : nS) : Prop := ap1 (s_Me_store k1 (σ 0 4) σ) fun σ1 => (o_N_push_94_4 v1 v3 (v5 + (4 : Int32)) σ1)
def o_N_push_47_4 (v1 : Int32) (v3 : Int32) (v5 : Int32) (σ : nS) : Prop := if ((v1 >>> ((4 : Int32) &&& 31)) &&& (1 : Int32)) = (0 : Int32) then (o_N_push_94_4 v1 v3 v5 σ) else (o_N_push_87_4 v1 v3 v5 v5 σ)
def o_N_push_94_3 (v1 : Int32) (v3 : Int32) (v5 : Int32) (σ : nS) : Prop := o_N_push_47_4 v1 v3 v5 σ
def o_N_push_87_3 (v1 : Int32) (v3 : Int32) (v5 : Int32) (k1 : Int32) (σ : nS) : Prop := ap1 (s_Me_store k1 (σ 0 3) σ) fun σ1 => (o_N_push_94_3 v1 v3 (v5 + (4 : Int32)) σ1)
def o_N_push_47_3 (v1 : Int32) (v3 : Int32) (v5 : Int32) (σ : nS) : Prop := if ((v1 >>> ((3 : Int32) &&& 31)) &&& (1 : Int32)) = (0 : Int32) then (o_N_push_94_3 v1 v3 v5 σ) else (o_N_push_87_3 v1 v3 v5 v5 σ)
def o_N_push_94_2 (v1 : Int32) (v3 : Int32) (v5 : Int32) (σ : nS) : Prop := o_N_push_47_3 v1 v3 v5 σ
def o_N_push_87_2 (v1 : Int32) (v3 : Int32) (v5 : Int32) (k1 : Int32) (σ : nS) : Prop := ap1 (s_Me_store k1 (σ 0 2) σ) fun σ1 => (o_N_push_94_2 v1 v3 (v5 + (4 : Int32)) σ1)
def o_N_push_47_2 (v1 : Int32) (v3 : Int32) (v5 : Int32) (σ : nS) : Prop := if ((v1 >>> ((2 : Int32) &&& 31)) &&& (1 : Int32)) = (0 : Int32) then (o_N_push_94_2 v1 v3 v5 σ) else (o_N_push_87_2 v1 v3 v5 v5 σ)
def o_N_push_94_1 (v1 : Int32) (v3 : Int32) (v5 : Int32) (σ : nS) : Prop := o_N_push_47_2 v1 v3 v5 σ
def o_N_push_87_1 (v1 : Int32) (v3 : Int32) (v5 : Int32) (k1 : Int32) (σ : nS) : Prop := ap1 (s_Me_store k1 (σ 0 1) σ) fun σ1 => (o_N_push_94_1 v1 v3 (v5 + (4 : Int32)) σ1)
def o_N_push_47_1 (v1 : Int32) (v3 : Int32) (v5 : Int32) (σ : nS) : Prop := if ((v1 >>> ((1 : Int32) &&& 31)) &&& (1 : Int32)) = (0 : Int32) then (o_N_push_94_1 v1 v3 v5 σ) else (o_N_push_87_1 v1 v3 v5 v5 σ)
def o_N_push_94_0 (v1 : Int32) (v3 : Int32) (v5 : Int32) (σ : nS) : Prop := o_N_push_47_1 v1 v3 v5 σ
def o_N_push_87_0 (v1 : Int32) (v3 : Int32) (v5 : Int32) (k1 : Int32) (σ : nS) : Prop := ap1 (s_Me_store k1 (σ 0 0) σ) fun σ1 => (o_N_push_94_0 v1 v3 (v5 + (4 : Int32)) σ1)
def o_N_push_47_0 (v1 : Int32) (v3 : Int32) (v5 : Int32) (σ : nS) : Prop := if ((v1 >>> ((0 : Int32) &&& 31)) &&& (1 : Int32)) = (0 : Int32) then (o_N_push_94_0 v1 v3 v5 σ) else (o_N_push_87_0 v1 v3 v5 v5 σ)
def o_N_push (v1 : Int32) (σ : nS) : Prop := if (s_In_bitCount v1) = (0 : Int32) then (True) else (o_N_faultAlong ((σ 0 13) - ((4 : Int32) * (s_In_bitCount v1))) (s_In_bitCount v1) (2 : Int32) σ ∧ (if (s_N_faultAlong ((σ 0 13) - ((4 : Int32) * (s_In_bitCount v1))) (s_In_bitCount v1) (2 : Int32) σ) = (0 : Int32) then (o_N_push_47_0 v1 ((σ 0 13) - ((4 : Int32) * (s_In_bitCount v1))) ((σ 0 13) - ((4 : Int32) * (s_In_bitCount v1))) σ) else (True)))
def s_N_pop_40_9 (v1 : Int32) (v3 : Int32) (σ : nS) : Int32 × nS := ((0 : Int32), (up2 σ 0 13 v3))
def s_N_pop_86_8 (v1 : Int32) (v3 : Int32) (σ : nS) : Int32 × nS := s_N_pop_40_9 v1 v3 σ
def s_N_pop_74_8 (v1 : Int32) (v3 : Int32) (σ : nS) : Int32 × nS := s_N_pop_86_8 v1 (v3 + (4 : Int32)) (up2 σ 0 15 (s_Me_load v3 σ))
def s_N_pop_40_8 (v1 : Int32) (v3 : Int32) (σ : nS) : Int32 × nS := if ((v1 >>> ((8 : Int32) &&& 31)) &&& (1 : Int32)) = (0 : Int32) then (s_N_pop_86_8 v1 v3 σ) else (s_N_pop_74_8 v1 v3 σ)
def s_N_pop_86_7 (v1 : Int32) (v3 : Int32) (σ : nS) : Int32 × nS := s_N_pop_40_8 v1 v3 σ
def s_N_pop_74_7 (v1 : Int32) (v3 : Int32) (σ : nS) : Int32 × nS := s_N_pop_86_7 v1 (v3 + (4 : Int32)) (up2 σ 0 7 (s_Me_load v3 σ))
def s_N_pop_40_7 (v1 : Int32) (v3 : Int32) (σ : nS) : Int32 × nS := if ((v1 >>> ((7 : Int32) &&& 31)) &&& (1 : Int32)) = (0 : Int32) then (s_N_pop_86_7 v1 v3 σ) else (s_N_pop_74_7 v1 v3 σ)
def s_N_pop_86_6 (v1 : Int32) (v3 : Int32) (σ : nS) : Int32 × nS := s_N_pop_40_7 v1 v3 σ
def s_N_pop_74_6 (v1 : Int32) (v3 : Int32) (σ : nS) : Int32 × nS := s_N_pop_86_6 v1 (v3 + (4 : Int32)) (up2 σ 0 6 (s_Me_load v3 σ))
def s_N_pop_40_6 (v1 : Int32) (v3 : Int32) (σ : nS) : Int32 × nS := if ((v1 >>> ((6 : Int32) &&& 31)) &&& (1 : Int32)) = (0 : Int32) then (s_N_pop_86_6 v1 v3 σ) else (s_N_pop_74_6 v1 v3 σ)
def s_N_pop_86_5 (v1 : Int32) (v3 : Int32) (σ : nS) : Int32 × nS := s_N_pop_40_6 v1 v3 σ
def s_N_pop_74_5 (v1 : Int32) (v3 : Int32) (σ : nS) : Int32 × nS := s_N_pop_86_5 v1 (v3 + (4 : Int32)) (up2 σ 0 5 (s_Me_load v3 σ))
def s_N_pop_40_5 (v1 : Int32) (v3 : Int32) (σ : nS) : Int32 × nS := if ((v1 >>> ((5 : Int32) &&& 31)) &&& (1 : Int32)) = (0 : Int32) then (s_N_pop_86_5 v1 v3 σ) else (s_N_pop_74_5 v1 v3 σ)
def s_N_pop_86_4 (v1 : Int32) (v3 : Int32) (σ : nS) : Int32 × nS := s_N_pop_40_5 v1 v3 σ
def s_N_pop_74_4 (v1 : Int32) (v3 : Int32) (σ : nS) : Int32 × nS := s_N_pop_86_4 v1 (v3 + (4 : Int32)) (up2 σ 0 4 (s_Me_load v3 σ))
def s_N_pop_40_4 (v1 : Int32) (v3 : Int32) (σ : nS) : Int32 × nS := if ((v1 >>> ((4 : Int32) &&& 31)) &&& (1 : Int32)) = (0 : Int32) then (s_N_pop_86_4 v1 v3 σ) else (s_N_pop_74_4 v1 v3 σ)
def s_N_pop_86_3 (v1 : Int32) (v3 : Int32) (σ : nS) : Int32 × nS := s_N_pop_40_4 v1 v3 σ
def s_N_pop_74_3 (v1 : Int32) (v3 : Int32) (σ : nS) : Int32 × nS := s_N_pop_86_3 v1 (v3 + (4 : Int32)) (up2 σ 0 3 (s_Me_load v3 σ))
def s_N_pop_40_3 (v1 : Int32) (v3 : Int32) (σ : nS) : Int32 × nS := if ((v1 >>> ((3 : Int32) &&& 31)) &&& (1 : Int32)) = (0 : Int32) then (s_N_pop_86_3 v1 v3 σ) else (s_N_pop_74_3 v1 v3 σ)
def s_N_pop_86_2 (v1 : Int32) (v3 : Int32) (σ : nS) : Int32 × nS := s_N_pop_40_3 v1 v3 σ
def s_N_pop_74_2 (v1 : Int32) (v3 : Int32) (σ : nS) : Int32 × nS := s_N_pop_86_2 v1 (v3 + (4 : Int32)) (up2 σ 0 2 (s_Me_load v3 σ))
def s_N_pop_40_2 (v1 : Int32) (v3 : Int32) (σ : nS) : Int32 × nS := if ((v1 >>> ((2 : Int32) &&& 31)) &&& (1 : Int32)) = (0 : Int32) then (s_N_pop_86_2 v1 v3 σ) else (s_N_pop_74_2 v1 v3 σ)
def s_N_pop_86_1 (v1 : Int32) (v3 : Int32) (σ : nS) : Int32 × nS := s_N_pop_40_2 v1 v3 σ
def s_N_pop_74_1 (v1 : Int32) (v3 : Int32) (σ : nS) : Int32 × nS := s_N_pop_86_1 v1 (v3 + (4 : Int32)) (up2 σ 0 1 (s_Me_load v3 σ))
def s_N_pop_40_1 (v1 : Int32) (v3 : Int32) (σ : nS) : Int32 × nS := if ((v1 >>> ((1 : Int32) &&& 31)) &&& (1 : Int32)) = (0 : Int32) then (s_N_pop_86_1 v1 v3 σ) else (s_N_pop_74_1 v1 v3 σ)
def s_N_pop_86_0 (v1 : Int32) (v3 : Int32) (σ : nS) : Int32 × nS := s_N_pop_40_1 v1 v3 σ
def s_N_pop_74_0 (v1 : Int32) (v3 : Int32) (σ : nS) : Int32 × nS := s_N_pop_86_0 v1 (v3 + (4 : Int32)) (up2 σ 0 0 (s_Me_load v3 σ))
def s_N_pop_40_0 (v1 : Int32) (v3 : Int32) (σ : nS) : Int32 × nS := if ((v1 >>> ((0 : Int32) &&& 31)) &&& (1 : Int32)) = (0 : Int32) then (s_N_pop_86_0 v1 v3 σ) else (s_N_pop_74_0 v1 v3 σ)
def s_N_pop (v1 : Int32) (σ : nS) : Int32 × nS := if (s_In_bitCount v1) = (0 : Int32) then (((6 : Int32), σ)) else (if (s_N_faultAlong (σ 0 13) (s_In_bitCount v1) (1 : Int32) σ) = (0 : Int32) then (s_N_pop_40_0 v1 (σ 0 13) σ) else (((s_N_faultAlong (σ 0 13) (s_In_bitCount v1) (1 : Int32) σ), σ)))
def o_N_pop_40_9 (v1 : Int32) (v3 : Int32) (σ : nS) : Prop := True
def o_N_pop_86_8 (v1 : Int32) (v3 : Int32) (σ : nS) : Prop := o_N_pop_40_9 v1 v3 σ
def o_N_pop_74_8 (v1 : Int32) (v3 : Int32) (σ : nS) : Prop := o_N_pop_86_8 v1 (v3 + (4 : Int32)) (up2 σ 0 15 (s_Me_load v3 σ))
def o_N_pop_40_8 (v1 : Int32) (v3 : Int32) (σ : nS) : Prop := if ((v1 >>> ((8 : Int32) &&& 31)) &&& (1 : Int32)) = (0 : Int32) then (o_N_pop_86_8 v1 v3 σ) else (o_N_pop_74_8 v1 v3 σ)
def o_N_pop_86_7 (v1 : Int32) (v3 : Int32) (σ : nS) : Prop := o_N_pop_40_8 v1 v3 σ
def o_N_pop_74_7 (v1 : Int32) (v3 : Int32) (σ : nS) : Prop := o_N_pop_86_7 v1 (v3 + (4 : Int32)) (up2 σ 0 7 (s_Me_load v3 σ))
def o_N_pop_40_7 (v1 : Int32) (v3 : Int32) (σ : nS) : Prop := if ((v1 >>> ((7 : Int32) &&& 31)) &&& (1 : Int32)) = (0 : Int32) then (o_N_pop_86_7 v1 v3 σ) else (o_N_pop_74_7 v1 v3 σ)
def o_N_pop_86_6 (v1 : Int32) (v3 : Int32) (σ : nS) : Prop := o_N_pop_40_7 v1 v3 σ
def o_N_pop_74_6 (v1 : Int32) (v3 : Int32) (σ : nS) : Prop := o_N_pop_86_6 v1 (v3 + (4 : Int32)) (up2 σ 0 6 (s_Me_load v3 σ))
def o_N_pop_40_6 (v1 : Int32) (v3 : Int32) (σ : nS) : Prop := if ((v1 >>> ((6 : Int32) &&& 31)) &&& (1 : Int32)) = (0 : Int32) then (o_N_pop_86_6 v1 v3 σ) else (o_N_pop_74_6 v1 v3 σ)
def o_N_pop_86_5 (v1 : Int32) (v3 : Int32) (σ : nS) : Prop := o_N_pop_40_6 v1 v3 σ
def o_N_pop_74_5 (v1 : Int32) (v3 : Int32) (σ : nS) : Prop := o_N_pop_86_5 v1 (v3 + (4 : Int32)) (up2 σ 0 5 (s_Me_load v3 σ))
def o_N_pop_40_5 (v1 : Int32) (v3 : Int32) (σ : nS) : Prop := if ((v1 >>> ((5 : Int32) &&& 31)) &&& (1 : Int32)) = (0 : Int32) then (o_N_pop_86_5 v1 v3 σ) else (o_N_pop_74_5 v1 v3 σ)
def o_N_pop_86_4 (v1 : Int32) (v3 : Int32) (σ : nS) : Prop := o_N_pop_40_5 v1 v3 σ
def o_N_pop_74_4 (v1 : Int32) (v3 : Int32) (σ : nS) : Prop := o_N_pop_86_4 v1 (v3 + (4 : Int32)) (up2 σ 0 4 (s_Me_load v3 σ))
def o_N_pop_40_4 (v1 : Int32) (v3 : Int32) (σ : nS) : Prop := if ((v1 >>> ((4 : Int32) &&& 31)) &&& (1 : Int32)) = (0 : Int32) then (o_N_pop_86_4 v1 v3 σ) else (o_N_pop_74_4 v1 v3 σ)
def o_N_pop_86_3 (v1 : Int32) (v3 : Int32) (σ : nS) : Prop := o_N_pop_40_4 v1 v3 σ
def o_N_pop_74_3 (v1 : Int32) (v3 : Int32) (σ : nS) : Prop := o_N_pop_86_3 v1 (v3 + (4 : Int32)) (up2 σ 0 3 (s_Me_load v3 σ))
def o_N_pop_40_3 (v1 : Int32) (v3 : Int32) (σ : nS) : Prop := if ((v1 >>> ((3 : Int32) &&& 31)) &&& (1 : Int32)) = (0 : Int32) then (o_N_pop_86_3 v1 v3 σ) else (o_N_pop_74_3 v1 v3 σ)
def o_N_pop_86_2 (v1 : Int32) (v3 : Int32) (σ : nS) : Prop := o_N_pop_40_3 v1 v3 σ
def o_N_pop_74_2 (v1 : Int32) (v3 : Int32) (σ : nS) : Prop := o_N_pop_86_2 v1 (v3 + (4 : Int32)) (up2 σ 0 2 (s_Me_load v3 σ))
def o_N_pop_40_2 (v1 : Int32) (v3 : Int32) (σ : nS) : Prop := if ((v1 >>> ((2 : Int32) &&& 31)) &&& (1 : Int32)) = (0 : Int32) then (o_N_pop_86_2 v1 v3 σ) else (o_N_pop_74_2 v1 v3 σ)
def o_N_pop_86_1 (v1 : Int32) (v3 : Int32) (σ : nS) : Prop := o_N_pop_40_2 v1 v3 σ
def o_N_pop_74_1 (v1 : Int32) (v3 : Int32) (σ : nS) : Prop := o_N_pop_86_1 v1 (v3 + (4 : Int32)) (up2 σ 0 1 (s_Me_load v3 σ))
def o_N_pop_40_1 (v1 : Int32) (v3 : Int32) (σ : nS) : Prop := if ((v1 >>> ((1 : Int32) &&& 31)) &&& (1 : Int32)) = (0 : Int32) then (o_N_pop_86_1 v1 v3 σ) else (o_N_pop_74_1 v1 v3 σ)
def o_N_pop_86_0 (v1 : Int32) (v3 : Int32) (σ : nS) : Prop := o_N_pop_40_1 v1 v3 σ
def o_N_pop_74_0 (v1 : Int32) (v3 : Int32) (σ : nS) : Prop := o_N_pop_86_0 v1 (v3 + (4 : Int32)) (up2 σ 0 0 (s_Me_load v3 σ))
def o_N_pop_40_0 (v1 : Int32) (v3 : Int32) (σ : nS) : Prop := if ((v1 >>> ((0 : Int32) &&& 31)) &&& (1 : Int32)) = (0 : Int32) then (o_N_pop_86_0 v1 v3 σ) else (o_N_pop_74_0 v1 v3 σ)
def o_N_pop (v1 : Int32) (σ : nS) : Prop := if (s_In_bitCount v1) = (0 : Int32) then (True) else (o_N_faultAlong (σ 0 13) (s_In_bitCount v1) (1 : Int32) σ ∧ (if (s_N_faultAlong (σ 0 13) (s_In_bitCount v1) (1 : Int32) σ) = (0 : Int32) then (o_N_pop_40_0 v1 (σ 0 13) σ) else (True)))
def s_N_switchOrNothing_103 (σ : nS) : Int32 × nS := ((0 : Int32), σ)
def s_N_switchOrNothing (v1 : Int32) (σ : nS) : Int32 × nS := if v1 = (46689 : Int32) then (((0 : Int32), (up2 σ 8 3 (bI false)))) else if v1 = (46690 : Int32) then (((0 : Int32), (up2 σ 8 2 (bI false)))) else if v1 = (46705 : Int32) then (if (s_Ex_level σ) ≤ (-1 : Int32) then (s_N_switchOrNothing_103 σ) else (s_N_switchOrNothing_103 (up2 σ 8 3 (bI true)))) else if v1 = (46706 : Int32) then (((0 : Int32), (up2 σ 8 2 (bI true)))) else if v1 = (48896 : Int32) then (((0 : Int32), σ)) else (((6 : Int32), σ))
def s_N_stackOrSwitch_105 (k2 : Int32) (k3 : Int32) (σ : nS) : Int32 × nS := ((0 : Int32), (up2 σ 0 13 (k2 + k3)))
def s_N_stackOrSwitch (v1 : Int32) (σ : nS) : Int32 × nS := if ((v1 >>> ((8 : Int32) &&& 31)) &&& (15 : Int32)) = (0 : Int32) then (if (v1 &&& (128 : Int32)) = (0 : Int32) then (s_N_stackOrSwitch_105 (σ 0 13) ((4 : Int32) * (v1 &&& (127 : Int32))) σ) else (s_N_stackOrSwitch_105 (σ 0 13) (-((4 : Int32) * (v1 &&& (127 : Int32)))) σ)) else if ((v1 >>> ((8 : Int32) &&& 31)) &&& (15 : Int32)) = (1 : Int32) then (ap2 (s_N_switchOrNothing v1 σ) fun r1 σ1 => (r1, σ1)) else if ((v1 >>> ((8 : Int32) &&& 31)) &&& (15 : Int32)) = (2 : Int32) then (ap2 (s_N_switchOrNothing v1 σ) fun r1 σ1 => (r1, σ1)) else if ((v1 >>> ((8 : Int32) &&& 31)) &&& (15 : Int32)) = (3 : Int32) then (ap2 (s_N_switchOrNothing v1 σ) fun r1 σ1 => (r1, σ1)) else if ((v1 >>> ((8 : Int32) &&& 31)) &&& (15 : Int32)) = (4 : Int32) then (ap2 (s_N_push (v1 &&& (511 : Int32)) σ) fun r1 σ1 => (r1, σ1)) else if ((v1 >>> ((8 : Int32) &&& 31)) &&& (15 : Int32)) = (5 : Int32) then (ap2 (s_N_push (v1 &&& (511 : Int32)) σ) fun r1 σ1 => (r1, σ1)) else if ((v1 >>> ((8 : Int32) &&& 31)) &&& (15 : Int32)) = (6 : Int32) then (ap2 (s_N_switchOrNothing v1 σ) fun r1 σ1 => (r1, σ1)) else if ((v1 >>> ((8 : Int32) &&& 31)) &&& (15 : Int32)) = (7 : Int32) then (ap2 (s_N_switchOrNothing v1 σ) fun r1 σ1 => (r1, σ1)) else if ((v1 >>> ((8 : Int32) &&& 31)) &&& (15 : Int32)) = (8 : Int32) then (ap2 (s_N_switchOrNothing v1 σ) fun r1 σ1 => (r1, σ1)) else if ((v1 >>> ((8 : Int32) &&& 31)) &&& (15 : Int32)) = (9 : Int32) then (ap2 (s_N_switchOrNothing v1 σ) fun r1 σ1 => (r1, σ1)) else if ((v1 >>> ((8 : Int32) &&& 31)) &&& (15 : Int32)) = (10 : Int32) then (ap2 (s_N_switchOrNothing v1 σ) fun r1 σ1 => (r1, σ1)) else if ((v1 >>> ((8 : Int32) &&& 31)) &&& (15 : Int32)) = (11 : Int32) then (ap2 (s_N_switchOrNothing v1 σ) fun r1 σ1 => (r1, σ1)) else if ((v1 >>> ((8 : Int32) &&& 31)) &&& (15 : Int32)) = (12 : Int32) then (ap2 (s_N_pop (v1 &&& (511 : Int32)) σ) fun r1 σ1 => (r1, σ1)) else if ((v1 >>> ((8 : Int32) &&& 31)) &&& (15 : Int32)) = (13 : Int32) then (ap2 (s_N_pop (v1 &&& (511 : Int32)) σ) fun r1 σ1 => (r1, σ1)) else (ap2 (s_N_switchOrNothing v1 σ) fun r1 σ1 => (r1, σ1))
def o_N_stackOrSwitch_105 (k2 : Int32) (k3 : Int32) (σ : nS) : Prop := True
def o_N_stackOrSwitch (v1 : Int32) (σ : nS) : Prop := if ((v1 >>> ((8 : Int32) &&& 31)) &&& (15 : Int32)) = (0 : Int32) then (if (v1 &&& (128 : Int32)) = (0 : Int32) then (o_N_stackOrSwitch_105 (σ 0 13) ((4 : Int32) * (v1 &&& (127 : Int32))) σ) else (o_N_stackOrSwitch_105 (σ 0 13) (-((4 : Int32) * (v1 &&& (127 : Int32)))) σ)) else if ((v1 >>> ((8 : Int32) &&& 31)) &&& (15 : Int32)) = (1 : Int32) then (ap2 (s_N_switchOrNothing v1 σ) fun r1 σ1 => (True)) else if ((v1 >>> ((8 : Int32) &&& 31)) &&& (15 : Int32)) = (2 : Int32) then (ap2 (s_N_switchOrNothing v1 σ) fun r1 σ1 => (True)) else if ((v1 >>> ((8 : Int32) &&& 31)) &&& (15 : Int32)) = (3 : Int32) then (ap2 (s_N_switchOrNothing v1 σ) fun r1 σ1 => (True)) else if ((v1 >>> ((8 : Int32) &&& 31)) &&& (15 : Int32)) = (4 : Int32) then (o_N_push (v1 &&& (511 : Int32)) σ ∧ (ap2 (s_N_push (v1 &&& (511 : Int32)) σ) fun r1 σ1 => (True))) else if ((v1 >>> ((8 : Int32) &&& 31)) &&& (15 : Int32)) = (5 : Int32) then (o_N_push (v1 &&& (511 : Int32)) σ ∧ (ap2 (s_N_push (v1 &&& (511 : Int32)) σ) fun r1 σ1 => (True))) else if ((v1 >>> ((8 : Int32) &&& 31)) &&& (15 : Int32)) = (6 : Int32) then (ap2 (s_N_switchOrNothing v1 σ) fun r1 σ1 => (True)) else if ((v1 >>> ((8 : Int32) &&& 31)) &&& (15 : Int32)) = (7 : Int32) then (ap2 (s_N_switchOrNothing v1 σ) fun r1 σ1 => (True)) else if ((v1 >>> ((8 : Int32) &&& 31)) &&& (15 : Int32)) = (8 : Int32) then (ap2 (s_N_switchOrNothing v1 σ) fun r1 σ1 => (True)) else if ((v1 >>> ((8 : Int32) &&& 31)) &&& (15 : Int32)) = (9 : Int32) then (ap2 (s_N_switchOrNothing v1 σ) fun r1 σ1 => (True)) else if ((v1 >>> ((8 : Int32) &&& 31)) &&& (15 : Int32)) = (10 : Int32) then (ap2 (s_N_switchOrNothing v1 σ) fun r1 σ1 => (True)) else if ((v1 >>> ((8 : Int32) &&& 31)) &&& (15 : Int32)) = (11 : Int32) then (ap2 (s_N_switchOrNothing v1 σ) fun r1 σ1 => (True)) else if ((v1 >>> ((8 : Int32) &&& 31)) &&& (15 : Int32)) = (12 : Int32) then (o_N_pop (v1 &&& (511 : Int32)) σ ∧ (ap2 (s_N_pop (v1 &&& (511 : Int32)) σ) fun r1 σ1 => (True))) else if ((v1 >>> ((8 : Int32) &&& 31)) &&& (15 : Int32)) = (13 : Int32) then (o_N_pop (v1 &&& (511 : Int32)) σ ∧ (ap2 (s_N_pop (v1 &&& (511 : Int32)) σ) fun r1 σ1 => (True))) else (ap2 (s_N_switchOrNothing v1 σ) fun r1 σ1 => (True))
def s_N_callOut (σ : nS) : Int32 × nS := if (s_Ex_group (7 : Int32) σ) < (s_Ex_level σ) then (((0 : Int32), (up2 σ 2 7 (bI true)))) else (((6 : Int32), σ))
def s_Fl_meet_127 (v2 : Bool) (k0 : Bool) (σ : nS) : Bool := if (bI k0) = (bI v2) then (false) else (true)
def s_Fl_meet_126 (v2 : Bool) (σ : nS) : Bool := s_Fl_meet_127 v2 false σ
def s_Fl_meet_153 (v2 : Bool) (k0 : Bool) (σ : nS) : Bool := if (bI k0) = (bI v2) then (false) else (true)
def s_Fl_meet_186 (v2 : Bool) (k0 : Bool) (σ : nS) : Bool := if (bI k0) = (bI v2) then (false) else (true)
def s_Fl_meet_185 (v2 : Bool) (σ : nS) : Bool := s_Fl_meet_186 v2 false σ
def s_Fl_meet_11 (v1 : Int32) (k0 : Bool) (σ : nS) : Bool := if (v1 >>> ((1 : Int32) &&& 31)) = (0 : Int32) then (if (σ 8 5) = (bI k0) then (false) else (true)) else if (v1 >>> ((1 : Int32) &&& 31)) = (1 : Int32) then (if (σ 8 6) = (bI k0) then (false) else (true)) else if (v1 >>> ((1 : Int32) &&& 31)) = (2 : Int32) then (if (σ 8 4) = (bI k0) then (false) else (true)) else if (v1 >>> ((1 : Int32) &&& 31)) = (3 : Int32) then (if (σ 8 7) = (bI k0) then (false) else (true)) else if (v1 >>> ((1 : Int32) &&& 31)) = (4 : Int32) then (if (σ 8 6) = (0 : Int32) then (s_Fl_meet_126 k0 σ) else (if (σ 8 5) = (0 : Int32) then (s_Fl_meet_127 k0 true σ) else (s_Fl_meet_126 k0 σ))) else if (v1 >>> ((1 : Int32) &&& 31)) = (5 : Int32) then (if (σ 8 4) = (σ 8 7) then (s_Fl_meet_153 k0 true σ) else (s_Fl_meet_153 k0 false σ)) else (if (σ 8 5) = (0 : Int32) then (if (σ 8 4) = (σ 8 7) then (s_Fl_meet_186 k0 true σ) else (s_Fl_meet_185 k0 σ)) else (s_Fl_meet_185 k0 σ))
def s_Fl_meet (v1 : Int32) (σ : nS) : Bool := if (v1 &&& (1 : Int32)) = (0 : Int32) then (s_Fl_meet_11 v1 false σ) else (s_Fl_meet_11 v1 true σ)
def s_N_branchIf_44 (σ : nS) : Int32 × nS := ((0 : Int32), σ)
def s_N_branchIf (v1 : Int32) (σ : nS) : Int32 × nS := if ((v1 >>> ((8 : Int32) &&& 31)) &&& (15 : Int32)) ≤ (13 : Int32) then (if (s_Fl_meet ((v1 >>> ((8 : Int32) &&& 31)) &&& (15 : Int32)) σ) = true then (s_N_branchIf_44 (up2 σ 0 15 ((σ 0 15) + ((2 : Int32) + ((2 : Int32) * (v1).toInt8.toInt32))))) else (s_N_branchIf_44 σ)) else (((6 : Int32), σ))
def s_N_branch (v1 : Int32) (σ : nS) : Int32 × nS := if ((v1 >>> ((11 : Int32) &&& 31)) &&& (1 : Int32)) = (0 : Int32) then (((0 : Int32), (up2 σ 0 15 ((σ 0 15) + ((2 : Int32) + ((2 : Int32) * ((v1 <<< ((21 : Int32) &&& 31)) >>> ((21 : Int32) &&& 31)))))))) else (((6 : Int32), σ))
def s_N_execute (v1 : Int32) (σ : nS) : Int32 × nS := if (v1 >>> ((12 : Int32) &&& 31)) = (0 : Int32) then (if (3 : Int32) ≤ (v1 >>> ((11 : Int32) &&& 31)) then (ap2 (s_N_addThree v1 σ) fun r1 σ1 => (r1, σ1)) else (ap2 (s_N_shift v1 σ) fun r1 σ1 => (r1, σ1))) else if (v1 >>> ((12 : Int32) &&& 31)) = (1 : Int32) then (if (3 : Int32) ≤ (v1 >>> ((11 : Int32) &&& 31)) then (ap2 (s_N_addThree v1 σ) fun r1 σ1 => (r1, σ1)) else (ap2 (s_N_shift v1 σ) fun r1 σ1 => (r1, σ1))) else if (v1 >>> ((12 : Int32) &&& 31)) = (2 : Int32) then (ap2 (s_N_withNumber v1 σ) fun r1 σ1 => (r1, σ1)) else if (v1 >>> ((12 : Int32) &&& 31)) = (3 : Int32) then (ap2 (s_N_withNumber v1 σ) fun r1 σ1 => (r1, σ1)) else if (v1 >>> ((12 : Int32) &&& 31)) = (4 : Int32) then (if (v1 >>> ((10 : Int32) &&& 31)) = (16 : Int32) then (ap2 (s_N_combine v1 σ) fun r1 σ1 => (r1, σ1)) else (ap2 (s_N_copyOrBranch v1 σ) fun r1 σ1 => (r1, σ1))) else if (v1 >>> ((12 : Int32) &&& 31)) = (5 : Int32) then (((6 : Int32), σ)) else if (v1 >>> ((12 : Int32) &&& 31)) = (6 : Int32) then (ap2 (s_N_move v1 (v1 &&& (7 : Int32)) ((σ 0 (((v1 >>> ((3 : Int32) &&& 31)) &&& (7 : Int32))).toNatClampNeg) + ((4 : Int32) * ((v1 >>> ((6 : Int32) &&& 31)) &&& (31 : Int32)))) σ) fun r1 σ1 => (r1, σ1)) else if (v1 >>> ((12 : Int32) &&& 31)) = (7 : Int32) then (((6 : Int32), σ)) else if (v1 >>> ((12 : Int32) &&& 31)) = (8 : Int32) then (((6 : Int32), σ)) else if (v1 >>> ((12 : Int32) &&& 31)) = (9 : Int32) then (ap2 (s_N_move v1 ((v1 >>> ((8 : Int32) &&& 31)) &&& (7 : Int32)) ((σ 0 13) + ((4 : Int32) * (v1 &&& (255 : Int32)))) σ) fun r1 σ1 => (r1, σ1)) else if (v1 >>> ((12 : Int32) &&& 31)) = (10 : Int32) then (((6 : Int32), σ)) else if (v1 >>> ((12 : Int32) &&& 31)) = (11 : Int32) then (ap2 (s_N_stackOrSwitch v1 σ) fun r1 σ1 => (r1, σ1)) else if (v1 >>> ((12 : Int32) &&& 31)) = (12 : Int32) then (((6 : Int32), σ)) else if (v1 >>> ((12 : Int32) &&& 31)) = (13 : Int32) then (if (v1 >>> ((8 : Int32) &&& 31)) = (223 : Int32) then (ap2 (s_N_callOut σ) fun r1 σ1 => (r1, σ1)) else (ap2 (s_N_branchIf v1 σ) fun r1 σ1 => (r1, σ1))) else if (v1 >>> ((12 : Int32) &&& 31)) = (14 : Int32) then (ap2 (s_N_branch v1 σ) fun r1 σ1 => (r1, σ1)) else (((6 : Int32), σ))
def o_N_execute (v1 : Int32) (σ : nS) : Prop := if (v1 >>> ((12 : Int32) &&& 31)) = (0 : Int32) then (if (3 : Int32) ≤ (v1 >>> ((11 : Int32) &&& 31)) then (ap2 (s_N_addThree v1 σ) fun r1 σ1 => (True)) else (ap2 (s_N_shift v1 σ) fun r1 σ1 => (True))) else if (v1 >>> ((12 : Int32) &&& 31)) = (1 : Int32) then (if (3 : Int32) ≤ (v1 >>> ((11 : Int32) &&& 31)) then (ap2 (s_N_addThree v1 σ) fun r1 σ1 => (True)) else (ap2 (s_N_shift v1 σ) fun r1 σ1 => (True))) else if (v1 >>> ((12 : Int32) &&& 31)) = (2 : Int32) then (ap2 (s_N_withNumber v1 σ) fun r1 σ1 => (True)) else if (v1 >>> ((12 : Int32) &&& 31)) = (3 : Int32) then (ap2 (s_N_withNumber v1 σ) fun r1 σ1 => (True)) else if (v1 >>> ((12 : Int32) &&& 31)) = (4 : Int32) then (if (v1 >>> ((10 : Int32) &&& 31)) = (16 : Int32) then (ap2 (s_N_combine v1 σ) fun r1 σ1 => (True)) else (ap2 (s_N_copyOrBranch v1 σ) fun r1 σ1 => (True))) else if (v1 >>> ((12 : Int32) &&& 31)) = (5 : Int32) then (True) else if (v1 >>> ((12 : Int32) &&& 31)) = (6 : Int32) then (o_N_move v1 (v1 &&& (7 : Int32)) ((σ 0 (((v1 >>> ((3 : Int32) &&& 31)) &&& (7 : Int32))).toNatClampNeg) + ((4 : Int32) * ((v1 >>> ((6 : Int32) &&& 31)) &&& (31 : Int32)))) σ ∧ (ap2 (s_N_move v1 (v1 &&& (7 : Int32)) ((σ 0 (((v1 >>> ((3 : Int32) &&& 31)) &&& (7 : Int32))).toNatClampNeg) + ((4 : Int32) * ((v1 >>> ((6 : Int32) &&& 31)) &&& (31 : Int32)))) σ) fun r1 σ1 => (True))) else if (v1 >>> ((12 : Int32) &&& 31)) = (7 : Int32) then (True) else if (v1 >>> ((12 : Int32) &&& 31)) = (8 : Int32) then (True) else if (v1 >>> ((12 : Int32) &&& 31)) = (9 : Int32) then (o_N_move v1 ((v1 >>> ((8 : Int32) &&& 31)) &&& (7 : Int32)) ((σ 0 13) + ((4 : Int32) * (v1 &&& (255 : Int32)))) σ ∧ (ap2 (s_N_move v1 ((v1 >>> ((8 : Int32) &&& 31)) &&& (7 : Int32)) ((σ 0 13) + ((4 : Int32) * (v1 &&& (255 : Int32)))) σ) fun r1 σ1 => (True))) else if (v1 >>> ((12 : Int32) &&& 31)) = (10 : Int32) then (True) else if (v1 >>> ((12 : Int32) &&& 31)) = (11 : Int32) then (o_N_stackOrSwitch v1 σ ∧ (ap2 (s_N_stackOrSwitch v1 σ) fun r1 σ1 => (True))) else if (v1 >>> ((12 : Int32) &&& 31)) = (12 : Int32) then (True) else if (v1 >>> ((12 : Int32) &&& 31)) = (13 : Int32) then (if (v1 >>> ((8 : Int32) &&& 31)) = (223 : Int32) then (ap2 (s_N_callOut σ) fun r1 σ1 => (True)) else (ap2 (s_N_branchIf v1 σ) fun r1 σ1 => (True))) else if (v1 >>> ((12 : Int32) &&& 31)) = (14 : Int32) then (ap2 (s_N_branch v1 σ) fun r1 σ1 => (True)) else (True)
def s_Ex_leave (v1 : Int32) (σ : nS) : nS := if v1 = (2 : Int32) then ((up2 σ 3 (v1).toNatClampNeg (bI false))) else ((up2 (up2 σ 3 (v1).toNatClampNeg (bI false)) 8 3 (bI false)))
def s_Fl_unpack_58 (k1 : Bool) (σ : nS) : nS := (up2 σ 8 7 (bI k1))
def s_Fl_unpack_43 (v1 : Int32) (k1 : Bool) (σ : nS) : nS := if (v1 &&& (1 : Int32)) = (0 : Int32) then (s_Fl_unpack_58 false (up2 σ 8 6 (bI k1))) else (s_Fl_unpack_58 true (up2 σ 8 6 (bI k1)))
def s_Fl_unpack_28 (v1 : Int32) (k1 : Bool) (σ : nS) : nS := if (v1 &&& (2 : Int32)) = (0 : Int32) then (s_Fl_unpack_43 v1 false (up2 σ 8 5 (bI k1))) else (s_Fl_unpack_43 v1 true (up2 σ 8 5 (bI k1)))
def s_Fl_unpack_13 (v1 : Int32) (k1 : Bool) (σ : nS) : nS := if (v1 &&& (4 : Int32)) = (0 : Int32) then (s_Fl_unpack_28 v1 false (up2 σ 8 4 (bI k1))) else (s_Fl_unpack_28 v1 true (up2 σ 8 4 (bI k1)))
def s_Fl_unpack (v1 : Int32) (σ : nS) : nS := if (v1 &&& (8 : Int32)) = (0 : Int32) then (s_Fl_unpack_13 v1 false σ) else (s_Fl_unpack_13 v1 true σ)
def s_N_unstack_78 (v2 : Int32) (k2 : Int32) (k3 : Int32) (σ : nS) : nS := ap1 (s_Fl_unpack (ush v2 (28 : Int32)) (up2 σ 0 13 (k2 + k3))) fun σ1 => (up2 σ1 8 10 (v2 &&& (15 : Int32)))
def s_N_unstack_2_7 (v1 : Int32) (v2 : Int32) (σ : nS) : nS := if (v2 &&& (512 : Int32)) = (0 : Int32) then (s_N_unstack_78 v2 (v1 + (32 : Int32)) (0 : Int32) (up2 σ 0 15 (s_N_even (σ 0 15)))) else (s_N_unstack_78 v2 (v1 + (32 : Int32)) (4 : Int32) (up2 σ 0 15 (s_N_even (σ 0 15))))
def s_N_unstack_2_6 (v1 : Int32) (v2 : Int32) (σ : nS) : nS := s_N_unstack_2_7 v1 v2 (up2 σ 0 15 (s_Me_load (v1 + (24 : Int32)) σ))
def s_N_unstack_2_5 (v1 : Int32) (v2 : Int32) (σ : nS) : nS := s_N_unstack_2_6 v1 v2 (up2 σ 0 14 (s_Me_load (v1 + (20 : Int32)) σ))
def s_N_unstack_2_4 (v1 : Int32) (v2 : Int32) (σ : nS) : nS := s_N_unstack_2_5 v1 v2 (up2 σ 0 12 (s_Me_load (v1 + (16 : Int32)) σ))
def s_N_unstack_2_3 (v1 : Int32) (v2 : Int32) (σ : nS) : nS := s_N_unstack_2_4 v1 v2 (up2 σ 0 3 (s_Me_load (v1 + (12 : Int32)) σ))
def s_N_unstack_2_2 (v1 : Int32) (v2 : Int32) (σ : nS) : nS := s_N_unstack_2_3 v1 v2 (up2 σ 0 2 (s_Me_load (v1 + (8 : Int32)) σ))
def s_N_unstack_2_1 (v1 : Int32) (v2 : Int32) (σ : nS) : nS := s_N_unstack_2_2 v1 v2 (up2 σ 0 1 (s_Me_load (v1 + (4 : Int32)) σ))
def s_N_unstack_2_0 (v1 : Int32) (v2 : Int32) (σ : nS) : nS := s_N_unstack_2_1 v1 v2 (up2 σ 0 0 (s_Me_load (v1 + (0 : Int32)) σ))
def s_N_unstack (v1 : Int32) (v2 : Int32) (σ : nS) : nS := s_N_unstack_2_0 v1 v2 σ
def s_N_comeBack_120 (σ : nS) : Int32 × nS := ((6 : Int32), σ)
def s_N_comeBack_117 (v3 : Int32) (v4 : Int32) (k0 : Bool) (k1 : Bool) (σ : nS) : Int32 × nS := if (bI k0) = (bI k1) then (ap1 (s_N_unstack v3 v4 σ) fun σ1 => ((0 : Int32), σ1)) else (s_N_comeBack_120 σ)
def s_N_comeBack_106 (v1 : Int32) (v3 : Int32) (v4 : Int32) (k0 : Bool) (σ : nS) : Int32 × nS := if v1 = (-7 : Int32) then (s_N_comeBack_117 v3 v4 k0 true σ) else (s_N_comeBack_117 v3 v4 k0 false σ)
def s_N_comeBack (v1 : Int32) (σ : nS) : Int32 × nS := ap1 (s_Ex_leave (σ 8 10) σ) fun σ1 => if (s_Ex_due σ1) = (0 : Int32) then (if (s_Me_holdsFrame (σ1 0 13)) = true then (if ((s_Me_load ((σ1 0 13) + (28 : Int32)) σ1) &&& (15 : Int32)) = (1 : Int32) then (s_N_comeBack_120 σ1) else (if ((s_Me_load ((σ1 0 13) + (28 : Int32)) σ1) &&& (15 : Int32)) = (0 : Int32) then (s_N_comeBack_106 v1 (σ1 0 13) (s_Me_load ((σ1 0 13) + (28 : Int32)) σ1) true σ1) else (s_N_comeBack_106 v1 (σ1 0 13) (s_Me_load ((σ1 0 13) + (28 : Int32)) σ1) false σ1))) else (((6 : Int32), σ1))) else (ap1 (s_N_enter (s_Ex_due σ1) (up2 (up2 σ1 0 14 v1) 8 13 (((up2 σ1 0 14 v1) 8 13) + (1 : Int32)))) fun σ2 => ((0 : Int32), σ2))
def o_N_comeBack_120 (σ : nS) : Prop := True
def o_N_comeBack_117 (v3 : Int32) (v4 : Int32) (k0 : Bool) (k1 : Bool) (σ : nS) : Prop := if (bI k0) = (bI k1) then (ap1 (s_N_unstack v3 v4 σ) fun σ1 => (True)) else (o_N_comeBack_120 σ)
def o_N_comeBack_106 (v1 : Int32) (v3 : Int32) (v4 : Int32) (k0 : Bool) (σ : nS) : Prop := if v1 = (-7 : Int32) then (o_N_comeBack_117 v3 v4 k0 true σ) else (o_N_comeBack_117 v3 v4 k0 false σ)
def o_N_comeBack (v1 : Int32) (σ : nS) : Prop := vp_in (σ 8 10) 16 ∧ (ap1 (s_Ex_leave (σ 8 10) σ) fun σ1 => (if (s_Ex_due σ1) = (0 : Int32) then (if (s_Me_holdsFrame (σ1 0 13)) = true then (if ((s_Me_load ((σ1 0 13) + (28 : Int32)) σ1) &&& (15 : Int32)) = (1 : Int32) then (o_N_comeBack_120 σ1) else (if ((s_Me_load ((σ1 0 13) + (28 : Int32)) σ1) &&& (15 : Int32)) = (0 : Int32) then (o_N_comeBack_106 v1 (σ1 0 13) (s_Me_load ((σ1 0 13) + (28 : Int32)) σ1) true σ1) else (o_N_comeBack_106 v1 (σ1 0 13) (s_Me_load ((σ1 0 13) + (28 : Int32)) σ1) false σ1))) else (True)) else (ap1 (s_N_enter (s_Ex_due σ1) (up2 (up2 σ1 0 14 v1) 8 13 (((up2 σ1 0 14 v1) 8 13) + (1 : Int32)))) fun σ2 => (True))))
def s_N_land_33 (v1 : Int32) (σ : nS) : Int32 × nS := ((0 : Int32), (up2 σ 0 15 (s_N_even v1)))
def s_N_land_27 (v1 : Int32) (σ : nS) : Int32 × nS := ap2 (s_N_comeBack v1 σ) fun r1 σ1 => (r1, σ1)
def s_N_land (σ : nS) : Int32 × nS := if (σ 8 10) = (0 : Int32) then (s_N_land_33 (σ 0 15) σ) else (if (σ 0 15) = (-7 : Int32) then (s_N_land_27 (σ 0 15) σ) else (if (σ 0 15) = (-15 : Int32) then (s_N_land_27 (σ 0 15) σ) else (s_N_land_33 (σ 0 15) σ)))
def o_N_land_33 (v1 : Int32) (σ : nS) : Prop := True
def o_N_land_27 (v1 : Int32) (σ : nS) : Prop := o_N_comeBack v1 σ ∧ (ap2 (s_N_comeBack v1 σ) fun r1 σ1 => (True))
def o_N_land (σ : nS) : Prop := if (σ 8 10) = (0 : Int32) then (o_N_land_33 (σ 0 15) σ) else (if (σ 0 15) = (-7 : Int32) then (o_N_land_27 (σ 0 15) σ) else (if (σ 0 15) = (-15 : Int32) then (o_N_land_27 (σ 0 15) σ) else (o_N_land_33 (σ 0 15) σ)))
def s_N_raise_55 (v2 : Int32) (σ : nS) : nS := if v2 ≤ (-1 : Int32) then ((up2 σ 8 11 (1 : Int32))) else ((up2 σ 2 3 (bI true)))
def s_N_raise (v1 : Int32) (σ : nS) : nS := if ((up2 σ 8 14 ((σ 8 14) + (1 : Int32))) 1 (v1).toNatClampNeg) = (0 : Int32) then (s_N_raise_55 (s_Ex_level (up2 σ 8 14 ((σ 8 14) + (1 : Int32)))) (up2 σ 8 14 ((σ 8 14) + (1 : Int32)))) else (if (s_Ex_level (up2 σ 8 14 ((σ 8 14) + (1 : Int32)))) ≤ (s_Ex_group v1 (up2 σ 8 14 ((σ 8 14) + (1 : Int32)))) then (s_N_raise_55 (s_Ex_level (up2 σ 8 14 ((σ 8 14) + (1 : Int32)))) (up2 σ 8 14 ((σ 8 14) + (1 : Int32)))) else ((up2 (up2 σ 8 14 ((σ 8 14) + (1 : Int32))) 2 (v1).toNatClampNeg (bI true))))
def s_N_step_81 (v2 : Int32) (σ : nS) : nS := if v2 = (0 : Int32) then (σ) else (ap1 (s_N_raise v2 (upC σ 11 0)) fun σ1 => σ1)
def s_N_step_72 (v2 : Int32) (σ : nS) : nS := if v2 = (0 : Int32) then (ap2 (s_N_land σ) fun r1 σ1 => s_N_step_81 r1 σ1) else (s_N_step_81 v2 σ)
def s_N_step_21 (σ : nS) : nS := if (s_Ex_due σ) = (0 : Int32) then (if (s_N_fetchFault (upC σ 0 11)) = (0 : Int32) then (ap2 (s_N_fetch (upC σ 0 11)) fun r1 σ1 => ap2 (s_N_execute r1 σ1) fun r2 σ2 => s_N_step_72 r2 σ2) else (s_N_step_72 (s_N_fetchFault (upC σ 0 11)) (upC σ 0 11))) else (ap1 (s_N_take (s_Ex_due σ) σ) fun σ1 => σ1)
def s_N_step (σ : nS) : nS := ap2 (s_Ti_fires σ) fun r1 σ1 => if r1 = true then (s_N_step_21 (up2 σ1 2 9 (bI true))) else (s_N_step_21 σ1)
def o_N_step_81 (v2 : Int32) (σ : nS) : Prop := if v2 = (0 : Int32) then (True) else (ap1 (s_N_raise v2 (upC σ 11 0)) fun σ1 => (True))
def o_N_step_72 (v2 : Int32) (σ : nS) : Prop := if v2 = (0 : Int32) then (o_N_land σ ∧ (ap2 (s_N_land σ) fun r1 σ1 => (vp_in r1 16 ∧ (o_N_step_81 r1 σ1)))) else (o_N_step_81 v2 σ)
def o_N_step_21 (σ : nS) : Prop := if (s_Ex_due σ) = (0 : Int32) then (if (s_N_fetchFault (upC σ 0 11)) = (0 : Int32) then (ap2 (s_N_fetch (upC σ 0 11)) fun r1 σ1 => (o_N_execute r1 σ1 ∧ (ap2 (s_N_execute r1 σ1) fun r2 σ2 => (vp_in r2 16 ∧ (o_N_step_72 r2 σ2))))) else (vp_in (s_N_fetchFault (upC σ 0 11)) 16 ∧ (o_N_step_72 (s_N_fetchFault (upC σ 0 11)) (upC σ 0 11)))) else (ap1 (s_N_take (s_Ex_due σ) σ) fun σ1 => (True))
def o_N_step (σ : nS) : Prop := ap2 (s_Ti_fires σ) fun r1 σ1 => (if r1 = true then (o_N_step_21 (up2 σ1 2 9 (bI true))) else (o_N_step_21 σ1))
def s_N_run_11 (σ : nS) : Option (Int32 × nS) := none
def s_N_run_45_0 (σ : nS) : Option (Int32 × nS) := some ((0 : Int32), σ)
def s_N_run_45_1 (σ : nS) : Option (Int32 × nS) := some ((1 : Int32), σ)
def s_N_run_45_2 (σ : nS) : Option (Int32 × nS) := some ((2 : Int32), σ)
def s_N_run_45_3 (σ : nS) : Option (Int32 × nS) := some ((3 : Int32), σ)
def s_N_run_45_4 (σ : nS) : Option (Int32 × nS) := some ((4 : Int32), σ)
def s_N_run_45_5 (σ : nS) : Option (Int32 × nS) := some ((5 : Int32), σ)
def s_N_run_45_6 (σ : nS) : Option (Int32 × nS) := some ((6 : Int32), σ)
def s_N_run_45_7 (σ : nS) : Option (Int32 × nS) := some ((7 : Int32), σ)
def s_N_run_45_8 (σ : nS) : Option (Int32 × nS) := some ((8 : Int32), σ)
def s_N_run_45_9 (σ : nS) : Option (Int32 × nS) := some ((9 : Int32), σ)
def s_N_run_45_10 (σ : nS) : Option (Int32 × nS) := some ((10 : Int32), σ)
def s_N_run_45_11 (σ : nS) : Option (Int32 × nS) := some ((11 : Int32), σ)
def s_N_run_45_12 (σ : nS) : Option (Int32 × nS) := some ((12 : Int32), σ)
def s_N_run_45_13 (σ : nS) : Option (Int32 × nS) := some ((13 : Int32), σ)
def s_N_run_45_14 (σ : nS) : Option (Int32 × nS) := some ((14 : Int32), σ)
def s_N_run_45_15 (σ : nS) : Option (Int32 × nS) := some ((15 : Int32), σ)
def s_N_run_45_16 (σ : nS) : Option (Int32 × nS) := some ((16 : Int32), σ)
def s_N_run_45_17 (σ : nS) : Option (Int32 × nS) := some ((17 : Int32), σ)
def s_N_run_45_18 (σ : nS) : Option (Int32 × nS) := some ((18 : Int32), σ)
def s_N_run_45_19 (σ : nS) : Option (Int32 × nS) := some ((19 : Int32), σ)
def s_N_run_45_20 (σ : nS) : Option (Int32 × nS) := some ((20 : Int32), σ)
def s_N_run_45_21 (σ : nS) : Option (Int32 × nS) := some ((21 : Int32), σ)
def s_N_run_45_22 (σ : nS) : Option (Int32 × nS) := some ((22 : Int32), σ)
def s_N_run_45_23 (σ : nS) : Option (Int32 × nS) := some ((23 : Int32), σ)
def s_N_run_45_24 (σ : nS) : Option (Int32 × nS) := some ((24 : Int32), σ)
def s_N_run_45_25 (σ : nS) : Option (Int32 × nS) := some ((25 : Int32), σ)
def s_N_run_23_25 (v1 : Int32) (σ : nS) : Option (Int32 × nS) := s_N_run_45_25 σ
def s_N_run_23_24 (v1 : Int32) (σ : nS) : Option (Int32 × nS) := if v1 ≤ (24 : Int32) then (s_N_run_45_24 σ) else (if (σ 8 11) = (0 : Int32) then (ap1 (s_N_step σ) fun σ1 => s_N_run_23_25 v1 σ1) else (s_N_run_45_24 σ))
def s_N_run_23_23 (v1 : Int32) (σ : nS) : Option (Int32 × nS) := if v1 ≤ (23 : Int32) then (s_N_run_45_23 σ) else (if (σ 8 11) = (0 : Int32) then (ap1 (s_N_step σ) fun σ1 => s_N_run_23_24 v1 σ1) else (s_N_run_45_23 σ))
def s_N_run_23_22 (v1 : Int32) (σ : nS) : Option (Int32 × nS) := if v1 ≤ (22 : Int32) then (s_N_run_45_22 σ) else (if (σ 8 11) = (0 : Int32) then (ap1 (s_N_step σ) fun σ1 => s_N_run_23_23 v1 σ1) else (s_N_run_45_22 σ))
def s_N_run_23_21 (v1 : Int32) (σ : nS) : Option (Int32 × nS) := if v1 ≤ (21 : Int32) then (s_N_run_45_21 σ) else (if (σ 8 11) = (0 : Int32) then (ap1 (s_N_step σ) fun σ1 => s_N_run_23_22 v1 σ1) else (s_N_run_45_21 σ))
def s_N_run_23_20 (v1 : Int32) (σ : nS) : Option (Int32 × nS) := if v1 ≤ (20 : Int32) then (s_N_run_45_20 σ) else (if (σ 8 11) = (0 : Int32) then (ap1 (s_N_step σ) fun σ1 => s_N_run_23_21 v1 σ1) else (s_N_run_45_20 σ))
def s_N_run_23_19 (v1 : Int32) (σ : nS) : Option (Int32 × nS) := if v1 ≤ (19 : Int32) then (s_N_run_45_19 σ) else (if (σ 8 11) = (0 : Int32) then (ap1 (s_N_step σ) fun σ1 => s_N_run_23_20 v1 σ1) else (s_N_run_45_19 σ))
def s_N_run_23_18 (v1 : Int32) (σ : nS) : Option (Int32 × nS) := if v1 ≤ (18 : Int32) then (s_N_run_45_18 σ) else (if (σ 8 11) = (0 : Int32) then (ap1 (s_N_step σ) fun σ1 => s_N_run_23_19 v1 σ1) else (s_N_run_45_18 σ))
def s_N_run_23_17 (v1 : Int32) (σ : nS) : Option (Int32 × nS) := if v1 ≤ (17 : Int32) then (s_N_run_45_17 σ) else (if (σ 8 11) = (0 : Int32) then (ap1 (s_N_step σ) fun σ1 => s_N_run_23_18 v1 σ1) else (s_N_run_45_17 σ))
def s_N_run_23_16 (v1 : Int32) (σ : nS) : Option (Int32 × nS) := if v1 ≤ (16 : Int32) then (s_N_run_45_16 σ) else (if (σ 8 11) = (0 : Int32) then (ap1 (s_N_step σ) fun σ1 => s_N_run_23_17 v1 σ1) else (s_N_run_45_16 σ))
def s_N_run_23_15 (v1 : Int32) (σ : nS) : Option (Int32 × nS) := if v1 ≤ (15 : Int32) then (s_N_run_45_15 σ) else (if (σ 8 11) = (0 : Int32) then (ap1 (s_N_step σ) fun σ1 => s_N_run_23_16 v1 σ1) else (s_N_run_45_15 σ))
def s_N_run_23_14 (v1 : Int32) (σ : nS) : Option (Int32 × nS) := if v1 ≤ (14 : Int32) then (s_N_run_45_14 σ) else (if (σ 8 11) = (0 : Int32) then (ap1 (s_N_step σ) fun σ1 => s_N_run_23_15 v1 σ1) else (s_N_run_45_14 σ))
def s_N_run_23_13 (v1 : Int32) (σ : nS) : Option (Int32 × nS) := if v1 ≤ (13 : Int32) then (s_N_run_45_13 σ) else (if (σ 8 11) = (0 : Int32) then (ap1 (s_N_step σ) fun σ1 => s_N_run_23_14 v1 σ1) else (s_N_run_45_13 σ))
def s_N_run_23_12 (v1 : Int32) (σ : nS) : Option (Int32 × nS) := if v1 ≤ (12 : Int32) then (s_N_run_45_12 σ) else (if (σ 8 11) = (0 : Int32) then (ap1 (s_N_step σ) fun σ1 => s_N_run_23_13 v1 σ1) else (s_N_run_45_12 σ))
def s_N_run_23_11 (v1 : Int32) (σ : nS) : Option (Int32 × nS) := if v1 ≤ (11 : Int32) then (s_N_run_45_11 σ) else (if (σ 8 11) = (0 : Int32) then (ap1 (s_N_step σ) fun σ1 => s_N_run_23_12 v1 σ1) else (s_N_run_45_11 σ))
def s_N_run_23_10 (v1 : Int32) (σ : nS) : Option (Int32 × nS) := if v1 ≤ (10 : Int32) then (s_N_run_45_10 σ) else (if (σ 8 11) = (0 : Int32) then (ap1 (s_N_step σ) fun σ1 => s_N_run_23_11 v1 σ1) else (s_N_run_45_10 σ))
def s_N_run_23_9 (v1 : Int32) (σ : nS) : Option (Int32 × nS) := if v1 ≤ (9 : Int32) then (s_N_run_45_9 σ) else (if (σ 8 11) = (0 : Int32) then (ap1 (s_N_step σ) fun σ1 => s_N_run_23_10 v1 σ1) else (s_N_run_45_9 σ))
def s_N_run_23_8 (v1 : Int32) (σ : nS) : Option (Int32 × nS) := if v1 ≤ (8 : Int32) then (s_N_run_45_8 σ) else (if (σ 8 11) = (0 : Int32) then (ap1 (s_N_step σ) fun σ1 => s_N_run_23_9 v1 σ1) else (s_N_run_45_8 σ))
def s_N_run_23_7 (v1 : Int32) (σ : nS) : Option (Int32 × nS) := if v1 ≤ (7 : Int32) then (s_N_run_45_7 σ) else (if (σ 8 11) = (0 : Int32) then (ap1 (s_N_step σ) fun σ1 => s_N_run_23_8 v1 σ1) else (s_N_run_45_7 σ))
def s_N_run_23_6 (v1 : Int32) (σ : nS) : Option (Int32 × nS) := if v1 ≤ (6 : Int32) then (s_N_run_45_6 σ) else (if (σ 8 11) = (0 : Int32) then (ap1 (s_N_step σ) fun σ1 => s_N_run_23_7 v1 σ1) else (s_N_run_45_6 σ))
def s_N_run_23_5 (v1 : Int32) (σ : nS) : Option (Int32 × nS) := if v1 ≤ (5 : Int32) then (s_N_run_45_5 σ) else (if (σ 8 11) = (0 : Int32) then (ap1 (s_N_step σ) fun σ1 => s_N_run_23_6 v1 σ1) else (s_N_run_45_5 σ))
def s_N_run_23_4 (v1 : Int32) (σ : nS) : Option (Int32 × nS) := if v1 ≤ (4 : Int32) then (s_N_run_45_4 σ) else (if (σ 8 11) = (0 : Int32) then (ap1 (s_N_step σ) fun σ1 => s_N_run_23_5 v1 σ1) else (s_N_run_45_4 σ))
def s_N_run_23_3 (v1 : Int32) (σ : nS) : Option (Int32 × nS) := if v1 ≤ (3 : Int32) then (s_N_run_45_3 σ) else (if (σ 8 11) = (0 : Int32) then (ap1 (s_N_step σ) fun σ1 => s_N_run_23_4 v1 σ1) else (s_N_run_45_3 σ))
def s_N_run_23_2 (v1 : Int32) (σ : nS) : Option (Int32 × nS) := if v1 ≤ (2 : Int32) then (s_N_run_45_2 σ) else (if (σ 8 11) = (0 : Int32) then (ap1 (s_N_step σ) fun σ1 => s_N_run_23_3 v1 σ1) else (s_N_run_45_2 σ))
def s_N_run_23_1 (v1 : Int32) (σ : nS) : Option (Int32 × nS) := if v1 ≤ (1 : Int32) then (s_N_run_45_1 σ) else (if (σ 8 11) = (0 : Int32) then (ap1 (s_N_step σ) fun σ1 => s_N_run_23_2 v1 σ1) else (s_N_run_45_1 σ))
def s_N_run_23_0 (v1 : Int32) (σ : nS) : Option (Int32 × nS) := if v1 ≤ (0 : Int32) then (s_N_run_45_0 σ) else (if (σ 8 11) = (0 : Int32) then (ap1 (s_N_step σ) fun σ1 => s_N_run_23_1 v1 σ1) else (s_N_run_45_0 σ))
def s_N_run (v1 : Int32) (σ : nS) : Option (Int32 × nS) := if v1 < (1 : Int32) then (s_N_run_11 σ) else (if v1 ≤ (25 : Int32) then (s_N_run_23_0 v1 σ) else (s_N_run_11 σ))
def o_N_run_11 (σ : nS) : Prop := True
def o_N_run_45_0 (σ : nS) : Prop := True
def o_N_run_45_1 (σ : nS) : Prop := True
def o_N_run_45_2 (σ : nS) : Prop := True
def o_N_run_45_3 (σ : nS) : Prop := True
def o_N_run_45_4 (σ : nS) : Prop := True
def o_N_run_45_5 (σ : nS) : Prop := True
def o_N_run_45_6 (σ : nS) : Prop := True
def o_N_run_45_7 (σ : nS) : Prop := True
def o_N_run_45_8 (σ : nS) : Prop := True
def o_N_run_45_9 (σ : nS) : Prop := True
def o_N_run_45_10 (σ : nS) : Prop := True
def o_N_run_45_11 (σ : nS) : Prop := True
def o_N_run_45_12 (σ : nS) : Prop := True
def o_N_run_45_13 (σ : nS) : Prop := True
def o_N_run_45_14 (σ : nS) : Prop := True
def o_N_run_45_15 (σ : nS) : Prop := True
def o_N_run_45_16 (σ : nS) : Prop := True
def o_N_run_45_17 (σ : nS) : Prop := True
def o_N_run_45_18 (σ : nS) : Prop := True
def o_N_run_45_19 (σ : nS) : Prop := True
def o_N_run_45_20 (σ : nS) : Prop := True
def o_N_run_45_21 (σ : nS) : Prop := True
def o_N_run_45_22 (σ : nS) : Prop := True
def o_N_run_45_23 (σ : nS) : Prop := True
def o_N_run_45_24 (σ : nS) : Prop := True
def o_N_run_45_25 (σ : nS) : Prop := True
def o_N_run_23_25 (v1 : Int32) (σ : nS) : Prop := v1 ≤ (25 : Int32) ∧ (o_N_run_45_25 σ)
def o_N_run_23_24 (v1 : Int32) (σ : nS) : Prop := if v1 ≤ (24 : Int32) then (o_N_run_45_24 σ) else (if (σ 8 11) = (0 : Int32) then (o_N_step σ ∧ (ap1 (s_N_step σ) fun σ1 => (o_N_run_23_25 v1 σ1))) else (o_N_run_45_24 σ))
def o_N_run_23_23 (v1 : Int32) (σ : nS) : Prop := if v1 ≤ (23 : Int32) then (o_N_run_45_23 σ) else (if (σ 8 11) = (0 : Int32) then (o_N_step σ ∧ (ap1 (s_N_step σ) fun σ1 => (o_N_run_23_24 v1 σ1))) else (o_N_run_45_23 σ))
def o_N_run_23_22 (v1 : Int32) (σ : nS) : Prop := if v1 ≤ (22 : Int32) then (o_N_run_45_22 σ) else (if (σ 8 11) = (0 : Int32) then (o_N_step σ ∧ (ap1 (s_N_step σ) fun σ1 => (o_N_run_23_23 v1 σ1))) else (o_N_run_45_22 σ))
def o_N_run_23_21 (v1 : Int32) (σ : nS) : Prop := if v1 ≤ (21 : Int32) then (o_N_run_45_21 σ) else (if (σ 8 11) = (0 : Int32) then (o_N_step σ ∧ (ap1 (s_N_step σ) fun σ1 => (o_N_run_23_22 v1 σ1))) else (o_N_run_45_21 σ))
def o_N_run_23_20 (v1 : Int32) (σ : nS) : Prop := if v1 ≤ (20 : Int32) then (o_N_run_45_20 σ) else (if (σ 8 11) = (0 : Int32) then (o_N_step σ ∧ (ap1 (s_N_step σ) fun σ1 => (o_N_run_23_21 v1 σ1))) else (o_N_run_45_20 σ))
def o_N_run_23_19 (v1 : Int32) (σ : nS) : Prop := if v1 ≤ (19 : Int32) then (o_N_run_45_19 σ) else (if (σ 8 11) = (0 : Int32) then (o_N_step σ ∧ (ap1 (s_N_step σ) fun σ1 => (o_N_run_23_20 v1 σ1))) else (o_N_run_45_19 σ))
def o_N_run_23_18 (v1 : Int32) (σ : nS) : Prop := if v1 ≤ (18 : Int32) then (o_N_run_45_18 σ) else (if (σ 8 11) = (0 : Int32) then (o_N_step σ ∧ (ap1 (s_N_step σ) fun σ1 => (o_N_run_23_19 v1 σ1))) else (o_N_run_45_18 σ))
def o_N_run_23_17 (v1 : Int32) (σ : nS) : Prop := if v1 ≤ (17 : Int32) then (o_N_run_45_17 σ) else (if (σ 8 11) = (0 : Int32) then (o_N_step σ ∧ (ap1 (s_N_step σ) fun σ1 => (o_N_run_23_18 v1 σ1))) else (o_N_run_45_17 σ))
def o_N_run_23_16 (v1 : Int32) (σ : nS) : Prop := if v1 ≤ (16 : Int32) then (o_N_run_45_16 σ) else (if (σ 8 11) = (0 : Int32) then (o_N_step σ ∧ (ap1 (s_N_step σ) fun σ1 => (o_N_run_23_17 v1 σ1))) else (o_N_run_45_16 σ))
def o_N_run_23_15 (v1 : Int32) (σ : nS) : Prop := if v1 ≤ (15 : Int32) then (o_N_run_45_15 σ) else (if (σ 8 11) = (0 : Int32) then (o_N_step σ ∧ (ap1 (s_N_step σ) fun σ1 => (o_N_run_23_16 v1 σ1))) else (o_N_run_45_15 σ))
def o_N_run_23_14 (v1 : Int32) (σ : nS) : Prop := if v1 ≤ (14 : Int32) then (o_N_run_45_14 σ) else (if (σ 8 11) = (0 : Int32) then (o_N_step σ ∧ (ap1 (s_N_step σ) fun σ1 => (o_N_run_23_15 v1 σ1))) else (o_N_run_45_14 σ))
def o_N_run_23_13 (v1 : Int32) (σ : nS) : Prop := if v1 ≤ (13 : Int32) then (o_N_run_45_13 σ) else (if (σ 8 11) = (0 : Int32) then (o_N_step σ ∧ (ap1 (s_N_step σ) fun σ1 => (o_N_run_23_14 v1 σ1))) else (o_N_run_45_13 σ))
def o_N_run_23_12 (v1 : Int32) (σ : nS) : Prop := if v1 ≤ (12 : Int32) then (o_N_run_45_12 σ) else (if (σ 8 11) = (0 : Int32) then (o_N_step σ ∧ (ap1 (s_N_step σ) fun σ1 => (o_N_run_23_13 v1 σ1))) else (o_N_run_45_12 σ))
def o_N_run_23_11 (v1 : Int32) (σ : nS) : Prop := if v1 ≤ (11 : Int32) then (o_N_run_45_11 σ) else (if (σ 8 11) = (0 : Int32) then (o_N_step σ ∧ (ap1 (s_N_step σ) fun σ1 => (o_N_run_23_12 v1 σ1))) else (o_N_run_45_11 σ))
def o_N_run_23_10 (v1 : Int32) (σ : nS) : Prop := if v1 ≤ (10 : Int32) then (o_N_run_45_10 σ) else (if (σ 8 11) = (0 : Int32) then (o_N_step σ ∧ (ap1 (s_N_step σ) fun σ1 => (o_N_run_23_11 v1 σ1))) else (o_N_run_45_10 σ))
def o_N_run_23_9 (v1 : Int32) (σ : nS) : Prop := if v1 ≤ (9 : Int32) then (o_N_run_45_9 σ) else (if (σ 8 11) = (0 : Int32) then (o_N_step σ ∧ (ap1 (s_N_step σ) fun σ1 => (o_N_run_23_10 v1 σ1))) else (o_N_run_45_9 σ))
def o_N_run_23_8 (v1 : Int32) (σ : nS) : Prop := if v1 ≤ (8 : Int32) then (o_N_run_45_8 σ) else (if (σ 8 11) = (0 : Int32) then (o_N_step σ ∧ (ap1 (s_N_step σ) fun σ1 => (o_N_run_23_9 v1 σ1))) else (o_N_run_45_8 σ))
def o_N_run_23_7 (v1 : Int32) (σ : nS) : Prop := if v1 ≤ (7 : Int32) then (o_N_run_45_7 σ) else (if (σ 8 11) = (0 : Int32) then (o_N_step σ ∧ (ap1 (s_N_step σ) fun σ1 => (o_N_run_23_8 v1 σ1))) else (o_N_run_45_7 σ))
def o_N_run_23_6 (v1 : Int32) (σ : nS) : Prop := if v1 ≤ (6 : Int32) then (o_N_run_45_6 σ) else (if (σ 8 11) = (0 : Int32) then (o_N_step σ ∧ (ap1 (s_N_step σ) fun σ1 => (o_N_run_23_7 v1 σ1))) else (o_N_run_45_6 σ))
def o_N_run_23_5 (v1 : Int32) (σ : nS) : Prop := if v1 ≤ (5 : Int32) then (o_N_run_45_5 σ) else (if (σ 8 11) = (0 : Int32) then (o_N_step σ ∧ (ap1 (s_N_step σ) fun σ1 => (o_N_run_23_6 v1 σ1))) else (o_N_run_45_5 σ))
def o_N_run_23_4 (v1 : Int32) (σ : nS) : Prop := if v1 ≤ (4 : Int32) then (o_N_run_45_4 σ) else (if (σ 8 11) = (0 : Int32) then (o_N_step σ ∧ (ap1 (s_N_step σ) fun σ1 => (o_N_run_23_5 v1 σ1))) else (o_N_run_45_4 σ))
def o_N_run_23_3 (v1 : Int32) (σ : nS) : Prop := if v1 ≤ (3 : Int32) then (o_N_run_45_3 σ) else (if (σ 8 11) = (0 : Int32) then (o_N_step σ ∧ (ap1 (s_N_step σ) fun σ1 => (o_N_run_23_4 v1 σ1))) else (o_N_run_45_3 σ))
def o_N_run_23_2 (v1 : Int32) (σ : nS) : Prop := if v1 ≤ (2 : Int32) then (o_N_run_45_2 σ) else (if (σ 8 11) = (0 : Int32) then (o_N_step σ ∧ (ap1 (s_N_step σ) fun σ1 => (o_N_run_23_3 v1 σ1))) else (o_N_run_45_2 σ))
def o_N_run_23_1 (v1 : Int32) (σ : nS) : Prop := if v1 ≤ (1 : Int32) then (o_N_run_45_1 σ) else (if (σ 8 11) = (0 : Int32) then (o_N_step σ ∧ (ap1 (s_N_step σ) fun σ1 => (o_N_run_23_2 v1 σ1))) else (o_N_run_45_1 σ))
def o_N_run_23_0 (v1 : Int32) (σ : nS) : Prop := if v1 ≤ (0 : Int32) then (o_N_run_45_0 σ) else (if (σ 8 11) = (0 : Int32) then (o_N_step σ ∧ (ap1 (s_N_step σ) fun σ1 => (o_N_run_23_1 v1 σ1))) else (o_N_run_45_0 σ))
def o_N_run (v1 : Int32) (σ : nS) : Prop := if v1 < (1 : Int32) then (o_N_run_11 σ) else (if v1 ≤ (25 : Int32) then (o_N_run_23_0 v1 σ) else (o_N_run_11 σ))
def s_Ex_packed_43 (k0 : Int32) (k1 : Int32) (σ : nS) : Int32 := (k0 + k1)
def s_Ex_packed_28 (v1 : Int32) (k0 : Bool) (k1 : Int32) (σ : nS) : Int32 := if (σ 1 (v1).toNatClampNeg) = (0 : Int32) then (s_Ex_packed_43 ((bI k0) + k1) (0 : Int32) σ) else (s_Ex_packed_43 ((bI k0) + k1) (4 : Int32) σ)
def s_Ex_packed_14 (v1 : Int32) (k0 : Bool) (σ : nS) : Int32 := if (σ 3 (v1).toNatClampNeg) = (0 : Int32) then (s_Ex_packed_28 v1 k0 (0 : Int32) σ) else (s_Ex_packed_28 v1 k0 (2 : Int32) σ)
def s_Ex_packed (v1 : Int32) (σ : nS) : Int32 := if (σ 2 (v1).toNatClampNeg) = (0 : Int32) then (s_Ex_packed_14 v1 false σ) else (s_Ex_packed_14 v1 true σ)
def s_N_state_121 (σ : nS) : Option (Int32 × nS) := none
def s_N_state (v1 : Int32) (σ : nS) : Option (Int32 × nS) := if v1 = (0 : Int32) then (some ((s_Fl_packed σ), σ)) else if v1 = (1 : Int32) then (some ((σ 8 10), σ)) else if v1 = (2 : Int32) then (some ((s_Ex_level σ), σ)) else if v1 = (3 : Int32) then (some ((s_Ex_due σ), σ)) else if v1 = (4 : Int32) then (some ((σ 8 12), σ)) else if v1 = (5 : Int32) then (some ((σ 8 13), σ)) else if v1 = (6 : Int32) then (some ((σ 8 11), σ)) else if v1 = (7 : Int32) then (some ((σ 8 14), σ)) else if v1 = (8 : Int32) then (some ((σ 8 9), σ)) else (if v1 < (18 : Int32) then (s_N_state_121 σ) else (if v1 ≤ (31 : Int32) then (some ((s_Ex_packed (v1 - (16 : Int32)) σ), σ)) else (s_N_state_121 σ)))
def o_N_state_121 (σ : nS) : Prop := True
def o_N_state (v1 : Int32) (σ : nS) : Prop := if v1 = (0 : Int32) then (True) else if v1 = (1 : Int32) then (True) else if v1 = (2 : Int32) then (True) else if v1 = (3 : Int32) then (True) else if v1 = (4 : Int32) then (True) else if v1 = (5 : Int32) then (True) else if v1 = (6 : Int32) then (True) else if v1 = (7 : Int32) then (True) else if v1 = (8 : Int32) then (True) else (if v1 < (18 : Int32) then (o_N_state_121 σ) else (if v1 ≤ (31 : Int32) then (vp_in (v1 - (16 : Int32)) 16 ∧ (True)) else (o_N_state_121 σ)))
def s_Mo_thrown (σ : nS) : Int32 := (σ 8 15)
def s_Mo_fails_10 (v1 : Bool) (k1 : Bool) (σ : nS) : Bool × nS := (v1, (up2 σ 8 15 (bI k1)))
def s_Mo_fails (v1 : Bool) (σ : nS) : Bool × nS := if v1 = true then (s_Mo_fails_10 v1 true σ) else (s_Mo_fails_10 v1 false σ)
def s_Mo_isWord_21 : Bool := false
def s_Mo_isWord (v0 : Int32) : Bool := if v0 < (0 : Int32) then (s_Mo_isWord_21) else (if (1020 : Int32) < v0 then (s_Mo_isWord_21) else (if (v0 &&& (3 : Int32)) = (0 : Int32) then (true) else (s_Mo_isWord_21)))
def s_Mo_load (v1 : Int32) (σ : nS) : Int32 := ((((σ 9 (v1).toNatClampNeg) ||| ((σ 9 ((v1 + (1 : Int32))).toNatClampNeg) <<< ((8 : Int32) &&& 31))) ||| ((σ 9 ((v1 + (2 : Int32))).toNatClampNeg) <<< ((16 : Int32) &&& 31))) ||| ((σ 9 ((v1 + (3 : Int32))).toNatClampNeg) <<< ((24 : Int32) &&& 31)))
def o_Mo_load (v1 : Int32) (σ : nS) : Prop := vp_in v1 1024 ∧ (vp_in (v1 + (1 : Int32)) 1024 ∧ (vp_in (v1 + (2 : Int32)) 1024 ∧ (vp_in (v1 + (3 : Int32)) 1024 ∧ (True))))
def s_Mo_store_2_4 (v1 : Int32) (v2 : Int32) (σ : nS) : nS := σ
def s_Mo_store_2_3 (v1 : Int32) (v2 : Int32) (σ : nS) : nS := s_Mo_store_2_4 v1 v2 (up2 σ 9 ((v1 + (3 : Int32))).toNatClampNeg ((v2 >>> ((24 : Int32) &&& 31)) &&& (255 : Int32)))
def s_Mo_store_2_2 (v1 : Int32) (v2 : Int32) (σ : nS) : nS := s_Mo_store_2_3 v1 v2 (up2 σ 9 ((v1 + (2 : Int32))).toNatClampNeg ((v2 >>> ((16 : Int32) &&& 31)) &&& (255 : Int32)))
def s_Mo_store_2_1 (v1 : Int32) (v2 : Int32) (σ : nS) : nS := s_Mo_store_2_2 v1 v2 (up2 σ 9 ((v1 + (1 : Int32))).toNatClampNeg ((v2 >>> ((8 : Int32) &&& 31)) &&& (255 : Int32)))
def s_Mo_store_2_0 (v1 : Int32) (v2 : Int32) (σ : nS) : nS := s_Mo_store_2_1 v1 v2 (up2 σ 9 ((v1 + (0 : Int32))).toNatClampNeg ((v2 >>> ((0 : Int32) &&& 31)) &&& (255 : Int32)))
def s_Mo_store (v1 : Int32) (v2 : Int32) (σ : nS) : nS := s_Mo_store_2_0 v1 v2 σ
def o_Mo_store_2_4 (v1 : Int32) (v2 : Int32) (σ : nS) : Prop := True
def o_Mo_store_2_3 (v1 : Int32) (v2 : Int32) (σ : nS) : Prop := vp_in (v1 + (3 : Int32)) 1024 ∧ (o_Mo_store_2_4 v1 v2 (up2 σ 9 ((v1 + (3 : Int32))).toNatClampNeg ((v2 >>> ((24 : Int32) &&& 31)) &&& (255 : Int32))))
def o_Mo_store_2_2 (v1 : Int32) (v2 : Int32) (σ : nS) : Prop := vp_in (v1 + (2 : Int32)) 1024 ∧ (o_Mo_store_2_3 v1 v2 (up2 σ 9 ((v1 + (2 : Int32))).toNatClampNeg ((v2 >>> ((16 : Int32) &&& 31)) &&& (255 : Int32))))
def o_Mo_store_2_1 (v1 : Int32) (v2 : Int32) (σ : nS) : Prop := vp_in (v1 + (1 : Int32)) 1024 ∧ (o_Mo_store_2_2 v1 v2 (up2 σ 9 ((v1 + (1 : Int32))).toNatClampNeg ((v2 >>> ((8 : Int32) &&& 31)) &&& (255 : Int32))))
def o_Mo_store_2_0 (v1 : Int32) (v2 : Int32) (σ : nS) : Prop := vp_in (v1 + (0 : Int32)) 1024 ∧ (o_Mo_store_2_1 v1 v2 (up2 σ 9 ((v1 + (0 : Int32))).toNatClampNeg ((v2 >>> ((0 : Int32) &&& 31)) &&& (255 : Int32))))
def o_Mo_store (v1 : Int32) (v2 : Int32) (σ : nS) : Prop := o_Mo_store_2_0 v1 v2 σ
def s_Mo_barred_5_4 (v1 : Int32) (v2 : Int32) (v3 : Bool) (σ : nS) : Bool := v3
def s_Mo_barred_84_3 (v1 : Int32) (v2 : Int32) (v3 : Bool) (σ : nS) : Bool := s_Mo_barred_5_4 v1 v2 v3 σ
def s_Mo_barred_83_3 (v1 : Int32) (v2 : Int32) (k0 : Bool) (σ : nS) : Bool := s_Mo_barred_84_3 v1 v2 k0 σ
def s_Mo_barred_59_3 (v1 : Int32) (v2 : Int32) (σ : nS) : Bool := s_Mo_barred_83_3 v1 v2 true σ
def s_Mo_barred_5_3 (v1 : Int32) (v2 : Int32) (v3 : Bool) (σ : nS) : Bool := if v1 < (σ 5 3) then (s_Mo_barred_84_3 v1 v2 v3 σ) else (if (σ 10 3) ≤ v1 then (s_Mo_barred_84_3 v1 v2 v3 σ) else (if v2 = (3 : Int32) then (if (σ 6 3) < (1 : Int32) then (s_Mo_barred_59_3 v1 v2 σ) else (if (σ 7 3) = (0 : Int32) then (s_Mo_barred_83_3 v1 v2 false σ) else (s_Mo_barred_59_3 v1 v2 σ))) else (if v2 ≤ (σ 6 3) then (s_Mo_barred_83_3 v1 v2 false σ) else (s_Mo_barred_83_3 v1 v2 true σ))))
def s_Mo_barred_84_2 (v1 : Int32) (v2 : Int32) (v3 : Bool) (σ : nS) : Bool := s_Mo_barred_5_3 v1 v2 v3 σ
def s_Mo_barred_83_2 (v1 : Int32) (v2 : Int32) (k0 : Bool) (σ : nS) : Bool := s_Mo_barred_84_2 v1 v2 k0 σ
def s_Mo_barred_59_2 (v1 : Int32) (v2 : Int32) (σ : nS) : Bool := s_Mo_barred_83_2 v1 v2 true σ
def s_Mo_barred_5_2 (v1 : Int32) (v2 : Int32) (v3 : Bool) (σ : nS) : Bool := if v1 < (σ 5 2) then (s_Mo_barred_84_2 v1 v2 v3 σ) else (if (σ 10 2) ≤ v1 then (s_Mo_barred_84_2 v1 v2 v3 σ) else (if v2 = (3 : Int32) then (if (σ 6 2) < (1 : Int32) then (s_Mo_barred_59_2 v1 v2 σ) else (if (σ 7 2) = (0 : Int32) then (s_Mo_barred_83_2 v1 v2 false σ) else (s_Mo_barred_59_2 v1 v2 σ))) else (if v2 ≤ (σ 6 2) then (s_Mo_barred_83_2 v1 v2 false σ) else (s_Mo_barred_83_2 v1 v2 true σ))))
def s_Mo_barred_84_1 (v1 : Int32) (v2 : Int32) (v3 : Bool) (σ : nS) : Bool := s_Mo_barred_5_2 v1 v2 v3 σ
def s_Mo_barred_83_1 (v1 : Int32) (v2 : Int32) (k0 : Bool) (σ : nS) : Bool := s_Mo_barred_84_1 v1 v2 k0 σ
def s_Mo_barred_59_1 (v1 : Int32) (v2 : Int32) (σ : nS) : Bool := s_Mo_barred_83_1 v1 v2 true σ
def s_Mo_barred_5_1 (v1 : Int32) (v2 : Int32) (v3 : Bool) (σ : nS) : Bool := if v1 < (σ 5 1) then (s_Mo_barred_84_1 v1 v2 v3 σ) else (if (σ 10 1) ≤ v1 then (s_Mo_barred_84_1 v1 v2 v3 σ) else (if v2 = (3 : Int32) then (if (σ 6 1) < (1 : Int32) then (s_Mo_barred_59_1 v1 v2 σ) else (if (σ 7 1) = (0 : Int32) then (s_Mo_barred_83_1 v1 v2 false σ) else (s_Mo_barred_59_1 v1 v2 σ))) else (if v2 ≤ (σ 6 1) then (s_Mo_barred_83_1 v1 v2 false σ) else (s_Mo_barred_83_1 v1 v2 true σ))))
def s_Mo_barred_84_0 (v1 : Int32) (v2 : Int32) (v3 : Bool) (σ : nS) : Bool := s_Mo_barred_5_1 v1 v2 v3 σ
def s_Mo_barred_83_0 (v1 : Int32) (v2 : Int32) (k0 : Bool) (σ : nS) : Bool := s_Mo_barred_84_0 v1 v2 k0 σ
def s_Mo_barred_59_0 (v1 : Int32) (v2 : Int32) (σ : nS) : Bool := s_Mo_barred_83_0 v1 v2 true σ
def s_Mo_barred_5_0 (v1 : Int32) (v2 : Int32) (σ : nS) : Bool := if v1 < (σ 5 0) then (s_Mo_barred_84_0 v1 v2 false σ) else (if (σ 10 0) ≤ v1 then (s_Mo_barred_84_0 v1 v2 false σ) else (if v2 = (3 : Int32) then (if (σ 6 0) < (1 : Int32) then (s_Mo_barred_59_0 v1 v2 σ) else (if (σ 7 0) = (0 : Int32) then (s_Mo_barred_83_0 v1 v2 false σ) else (s_Mo_barred_59_0 v1 v2 σ))) else (if v2 ≤ (σ 6 0) then (s_Mo_barred_83_0 v1 v2 false σ) else (s_Mo_barred_83_0 v1 v2 true σ))))
def s_Mo_barred (v1 : Int32) (v2 : Int32) (σ : nS) : Bool := s_Mo_barred_5_0 v1 v2 σ
def s_Mo_faultOf_32_9 (v1 : Int32) (v2 : Int32) (v3 : Int32) (σ : nS) : Int32 := (0 : Int32)
def s_Mo_faultOf_32_8 (v1 : Int32) (v2 : Int32) (v3 : Int32) (σ : nS) : Int32 := if v2 ≤ (8 : Int32) then ((0 : Int32)) else (if (s_Mo_barred (v1 + (32 : Int32)) v3 σ) = true then ((4 : Int32)) else (s_Mo_faultOf_32_9 v1 v2 v3 σ))
def s_Mo_faultOf_32_7 (v1 : Int32) (v2 : Int32) (v3 : Int32) (σ : nS) : Int32 := if v2 ≤ (7 : Int32) then ((0 : Int32)) else (if (s_Mo_barred (v1 + (28 : Int32)) v3 σ) = true then ((4 : Int32)) else (s_Mo_faultOf_32_8 v1 v2 v3 σ))
def s_Mo_faultOf_32_6 (v1 : Int32) (v2 : Int32) (v3 : Int32) (σ : nS) : Int32 := if v2 ≤ (6 : Int32) then ((0 : Int32)) else (if (s_Mo_barred (v1 + (24 : Int32)) v3 σ) = true then ((4 : Int32)) else (s_Mo_faultOf_32_7 v1 v2 v3 σ))
def s_Mo_faultOf_32_5 (v1 : Int32) (v2 : Int32) (v3 : Int32) (σ : nS) : Int32 := if v2 ≤ (5 : Int32) then ((0 : Int32)) else (if (s_Mo_barred (v1 + (20 : Int32)) v3 σ) = true then ((4 : Int32)) else (s_Mo_faultOf_32_6 v1 v2 v3 σ))
def s_Mo_faultOf_32_4 (v1 : Int32) (v2 : Int32) (v3 : Int32) (σ : nS) : Int32 := if v2 ≤ (4 : Int32) then ((0 : Int32)) else (if (s_Mo_barred (v1 + (16 : Int32)) v3 σ) = true then ((4 : Int32)) else (s_Mo_faultOf_32_5 v1 v2 v3 σ))
def s_Mo_faultOf_32_3 (v1 : Int32) (v2 : Int32) (v3 : Int32) (σ : nS) : Int32 := if v2 ≤ (3 : Int32) then ((0 : Int32)) else (if (s_Mo_barred (v1 + (12 : Int32)) v3 σ) = true then ((4 : Int32)) else (s_Mo_faultOf_32_4 v1 v2 v3 σ))
def s_Mo_faultOf_32_2 (v1 : Int32) (v2 : Int32) (v3 : Int32) (σ : nS) : Int32 := if v2 ≤ (2 : Int32) then ((0 : Int32)) else (if (s_Mo_barred (v1 + (8 : Int32)) v3 σ) = true then ((4 : Int32)) else (s_Mo_faultOf_32_3 v1 v2 v3 σ))
def s_Mo_faultOf_32_1 (v1 : Int32) (v2 : Int32) (v3 : Int32) (σ : nS) : Int32 := if v2 ≤ (1 : Int32) then ((0 : Int32)) else (if (s_Mo_barred (v1 + (4 : Int32)) v3 σ) = true then ((4 : Int32)) else (s_Mo_faultOf_32_2 v1 v2 v3 σ))
def s_Mo_faultOf_32_0 (v1 : Int32) (v2 : Int32) (v3 : Int32) (σ : nS) : Int32 := if v2 ≤ (0 : Int32) then ((0 : Int32)) else (if (s_Mo_barred (v1 + (0 : Int32)) v3 σ) = true then ((4 : Int32)) else (s_Mo_faultOf_32_1 v1 v2 v3 σ))
def s_Mo_faultOf_3_9 (v1 : Int32) (v2 : Int32) (v3 : Int32) (σ : nS) : Int32 := s_Mo_faultOf_32_0 v1 v2 v3 σ
def s_Mo_faultOf_3_8 (v1 : Int32) (v2 : Int32) (v3 : Int32) (σ : nS) : Int32 := if v2 ≤ (8 : Int32) then (s_Mo_faultOf_32_0 v1 v2 v3 σ) else (if (s_Mo_isWord (v1 + (32 : Int32))) = true then (s_Mo_faultOf_3_9 v1 v2 v3 σ) else ((5 : Int32)))
def s_Mo_faultOf_3_7 (v1 : Int32) (v2 : Int32) (v3 : Int32) (σ : nS) : Int32 := if v2 ≤ (7 : Int32) then (s_Mo_faultOf_32_0 v1 v2 v3 σ) else (if (s_Mo_isWord (v1 + (28 : Int32))) = true then (s_Mo_faultOf_3_8 v1 v2 v3 σ) else ((5 : Int32)))
def s_Mo_faultOf_3_6 (v1 : Int32) (v2 : Int32) (v3 : Int32) (σ : nS) : Int32 := if v2 ≤ (6 : Int32) then (s_Mo_faultOf_32_0 v1 v2 v3 σ) else (if (s_Mo_isWord (v1 + (24 : Int32))) = true then (s_Mo_faultOf_3_7 v1 v2 v3 σ) else ((5 : Int32)))
def s_Mo_faultOf_3_5 (v1 : Int32) (v2 : Int32) (v3 : Int32) (σ : nS) : Int32 := if v2 ≤ (5 : Int32) then (s_Mo_faultOf_32_0 v1 v2 v3 σ) else (if (s_Mo_isWord (v1 + (20 : Int32))) = true then (s_Mo_faultOf_3_6 v1 v2 v3 σ) else ((5 : Int32)))
def s_Mo_faultOf_3_4 (v1 : Int32) (v2 : Int32) (v3 : Int32) (σ : nS) : Int32 := if v2 ≤ (4 : Int32) then (s_Mo_faultOf_32_0 v1 v2 v3 σ) else (if (s_Mo_isWord (v1 + (16 : Int32))) = true then (s_Mo_faultOf_3_5 v1 v2 v3 σ) else ((5 : Int32)))
def s_Mo_faultOf_3_3 (v1 : Int32) (v2 : Int32) (v3 : Int32) (σ : nS) : Int32 := if v2 ≤ (3 : Int32) then (s_Mo_faultOf_32_0 v1 v2 v3 σ) else (if (s_Mo_isWord (v1 + (12 : Int32))) = true then (s_Mo_faultOf_3_4 v1 v2 v3 σ) else ((5 : Int32)))
def s_Mo_faultOf_3_2 (v1 : Int32) (v2 : Int32) (v3 : Int32) (σ : nS) : Int32 := if v2 ≤ (2 : Int32) then (s_Mo_faultOf_32_0 v1 v2 v3 σ) else (if (s_Mo_isWord (v1 + (8 : Int32))) = true then (s_Mo_faultOf_3_3 v1 v2 v3 σ) else ((5 : Int32)))
def s_Mo_faultOf_3_1 (v1 : Int32) (v2 : Int32) (v3 : Int32) (σ : nS) : Int32 := if v2 ≤ (1 : Int32) then (s_Mo_faultOf_32_0 v1 v2 v3 σ) else (if (s_Mo_isWord (v1 + (4 : Int32))) = true then (s_Mo_faultOf_3_2 v1 v2 v3 σ) else ((5 : Int32)))
def s_Mo_faultOf_3_0 (v1 : Int32) (v2 : Int32) (v3 : Int32) (σ : nS) : Int32 := if v2 ≤ (0 : Int32) then (s_Mo_faultOf_32_0 v1 v2 v3 σ) else (if (s_Mo_isWord (v1 + (0 : Int32))) = true then (s_Mo_faultOf_3_1 v1 v2 v3 σ) else ((5 : Int32)))
def s_Mo_faultOf (v1 : Int32) (v2 : Int32) (v3 : Int32) (σ : nS) : Int32 := s_Mo_faultOf_3_0 v1 v2 v3 σ
def o_Mo_faultOf_32_9 (v1 : Int32) (v2 : Int32) (v3 : Int32) (σ : nS) : Prop := v2 ≤ (9 : Int32) ∧ (True)
def o_Mo_faultOf_32_8 (v1 : Int32) (v2 : Int32) (v3 : Int32) (σ : nS) : Prop := if v2 ≤ (8 : Int32) then (True) else (if (s_Mo_barred (v1 + (32 : Int32)) v3 σ) = true then (True) else (o_Mo_faultOf_32_9 v1 v2 v3 σ))
def o_Mo_faultOf_32_7 (v1 : Int32) (v2 : Int32) (v3 : Int32) (σ : nS) : Prop := if v2 ≤ (7 : Int32) then (True) else (if (s_Mo_barred (v1 + (28 : Int32)) v3 σ) = true then (True) else (o_Mo_faultOf_32_8 v1 v2 v3 σ))
def o_Mo_faultOf_32_6 (v1 : Int32) (v2 : Int32) (v3 : Int32) (σ : nS) : Prop := if v2 ≤ (6 : Int32) then (True) else (if (s_Mo_barred (v1 + (24 : Int32)) v3 σ) = true then (True) else (o_Mo_faultOf_32_7 v1 v2 v3 σ))
def o_Mo_faultOf_32_5 (v1 : Int32) (v2 : Int32) (v3 : Int32) (σ : nS) : Prop := if v2 ≤ (5 : Int32) then (True) else (if (s_Mo_barred (v1 + (20 : Int32)) v3 σ) = true then (True) else (o_Mo_faultOf_32_6 v1 v2 v3 σ))
def o_Mo_faultOf_32_4 (v1 : Int32) (v2 : Int32) (v3 : Int32) (σ : nS) : Prop := if v2 ≤ (4 : Int32) then (True) else (if (s_Mo_barred (v1 + (16 : Int32)) v3 σ) = true then (True) else (o_Mo_faultOf_32_5 v1 v2 v3 σ))
def o_Mo_faultOf_32_3 (v1 : Int32) (v2 : Int32) (v3 : Int32) (σ : nS) : Prop := if v2 ≤ (3 : Int32) then (True) else (if (s_Mo_barred (v1 + (12 : Int32)) v3 σ) = true then (True) else (o_Mo_faultOf_32_4 v1 v2 v3 σ))
def o_Mo_faultOf_32_2 (v1 : Int32) (v2 : Int32) (v3 : Int32) (σ : nS) : Prop := if v2 ≤ (2 : Int32) then (True) else (if (s_Mo_barred (v1 + (8 : Int32)) v3 σ) = true then (True) else (o_Mo_faultOf_32_3 v1 v2 v3 σ))
def o_Mo_faultOf_32_1 (v1 : Int32) (v2 : Int32) (v3 : Int32) (σ : nS) : Prop := if v2 ≤ (1 : Int32) then (True) else (if (s_Mo_barred (v1 + (4 : Int32)) v3 σ) = true then (True) else (o_Mo_faultOf_32_2 v1 v2 v3 σ))
def o_Mo_faultOf_32_0 (v1 : Int32) (v2 : Int32) (v3 : Int32) (σ : nS) : Prop := if v2 ≤ (0 : Int32) then (True) else (if (s_Mo_barred (v1 + (0 : Int32)) v3 σ) = true then (True) else (o_Mo_faultOf_32_1 v1 v2 v3 σ))
def o_Mo_faultOf_3_9 (v1 : Int32) (v2 : Int32) (v3 : Int32) (σ : nS) : Prop := v2 ≤ (9 : Int32) ∧ (o_Mo_faultOf_32_0 v1 v2 v3 σ)
def o_Mo_faultOf_3_8 (v1 : Int32) (v2 : Int32) (v3 : Int32) (σ : nS) : Prop := if v2 ≤ (8 : Int32) then (o_Mo_faultOf_32_0 v1 v2 v3 σ) else (if (s_Mo_isWord (v1 + (32 : Int32))) = true then (o_Mo_faultOf_3_9 v1 v2 v3 σ) else (True))
def o_Mo_faultOf_3_7 (v1 : Int32) (v2 : Int32) (v3 : Int32) (σ : nS) : Prop := if v2 ≤ (7 : Int32) then (o_Mo_faultOf_32_0 v1 v2 v3 σ) else (if (s_Mo_isWord (v1 + (28 : Int32))) = true then (o_Mo_faultOf_3_8 v1 v2 v3 σ) else (True))
def o_Mo_faultOf_3_6 (v1 : Int32) (v2 : Int32) (v3 : Int32) (σ : nS) : Prop := if v2 ≤ (6 : Int32) then (o_Mo_faultOf_32_0 v1 v2 v3 σ) else (if (s_Mo_isWord (v1 + (24 : Int32))) = true then (o_Mo_faultOf_3_7 v1 v2 v3 σ) else (True))
def o_Mo_faultOf_3_5 (v1 : Int32) (v2 : Int32) (v3 : Int32) (σ : nS) : Prop := if v2 ≤ (5 : Int32) then (o_Mo_faultOf_32_0 v1 v2 v3 σ) else (if (s_Mo_isWord (v1 + (20 : Int32))) = true then (o_Mo_faultOf_3_6 v1 v2 v3 σ) else (True))
def o_Mo_faultOf_3_4 (v1 : Int32) (v2 : Int32) (v3 : Int32) (σ : nS) : Prop := if v2 ≤ (4 : Int32) then (o_Mo_faultOf_32_0 v1 v2 v3 σ) else (if (s_Mo_isWord (v1 + (16 : Int32))) = true then (o_Mo_faultOf_3_5 v1 v2 v3 σ) else (True))
def o_Mo_faultOf_3_3 (v1 : Int32) (v2 : Int32) (v3 : Int32) (σ : nS) : Prop := if v2 ≤ (3 : Int32) then (o_Mo_faultOf_32_0 v1 v2 v3 σ) else (if (s_Mo_isWord (v1 + (12 : Int32))) = true then (o_Mo_faultOf_3_4 v1 v2 v3 σ) else (True))
def o_Mo_faultOf_3_2 (v1 : Int32) (v2 : Int32) (v3 : Int32) (σ : nS) : Prop := if v2 ≤ (2 : Int32) then (o_Mo_faultOf_32_0 v1 v2 v3 σ) else (if (s_Mo_isWord (v1 + (8 : Int32))) = true then (o_Mo_faultOf_3_3 v1 v2 v3 σ) else (True))
def o_Mo_faultOf_3_1 (v1 : Int32) (v2 : Int32) (v3 : Int32) (σ : nS) : Prop := if v2 ≤ (1 : Int32) then (o_Mo_faultOf_32_0 v1 v2 v3 σ) else (if (s_Mo_isWord (v1 + (4 : Int32))) = true then (o_Mo_faultOf_3_2 v1 v2 v3 σ) else (True))
def o_Mo_faultOf_3_0 (v1 : Int32) (v2 : Int32) (v3 : Int32) (σ : nS) : Prop := if v2 ≤ (0 : Int32) then (o_Mo_faultOf_32_0 v1 v2 v3 σ) else (if (s_Mo_isWord (v1 + (0 : Int32))) = true then (o_Mo_faultOf_3_1 v1 v2 v3 σ) else (True))
def o_Mo_faultOf (v1 : Int32) (v2 : Int32) (v3 : Int32) (σ : nS) : Prop := o_Mo_faultOf_3_0 v1 v2 v3 σ
def s_Mo_group (v1 : Int32) (σ : nS) : Int32 := if (0 : Int32) ≤ v1 then ((v1 >>> ((σ 8 0) &&& 31))) else (v1)
def s_Mo_level_108 (v1 : Int32) (σ : nS) : Int32 := v1
def s_Mo_level_92 (v1 : Int32) (σ : nS) : Int32 := if (σ 8 3) = (0 : Int32) then (s_Mo_level_108 v1 σ) else (if v1 ≤ (-1 : Int32) then (s_Mo_level_108 v1 σ) else ((-1 : Int32)))
def s_Mo_level_79 (v1 : Int32) (σ : nS) : Int32 := if (σ 8 2) = (0 : Int32) then (s_Mo_level_92 v1 σ) else (if v1 ≤ (0 : Int32) then (s_Mo_level_92 v1 σ) else (s_Mo_level_92 (0 : Int32) σ))
def s_Mo_level_5_16 (v1 : Int32) (σ : nS) : Int32 := if (σ 8 1) = (0 : Int32) then (s_Mo_level_79 v1 σ) else (if v1 ≤ (s_Mo_group (σ 8 1) σ) then (s_Mo_level_79 v1 σ) else (s_Mo_level_79 (s_Mo_group (σ 8 1) σ) σ))
def s_Mo_level_45_15 (v1 : Int32) (σ : nS) : Int32 := s_Mo_level_5_16 v1 σ
def s_Mo_level_5_15 (v1 : Int32) (σ : nS) : Int32 := if (σ 3 15) = (0 : Int32) then (s_Mo_level_45_15 v1 σ) else (if v1 ≤ (s_Mo_group (σ 4 15) σ) then (s_Mo_level_45_15 v1 σ) else (s_Mo_level_45_15 (s_Mo_group (σ 4 15) σ) σ))
def s_Mo_level_45_14 (v1 : Int32) (σ : nS) : Int32 := s_Mo_level_5_15 v1 σ
def s_Mo_level_5_14 (v1 : Int32) (σ : nS) : Int32 := if (σ 3 14) = (0 : Int32) then (s_Mo_level_45_14 v1 σ) else (if v1 ≤ (s_Mo_group (σ 4 14) σ) then (s_Mo_level_45_14 v1 σ) else (s_Mo_level_45_14 (s_Mo_group (σ 4 14) σ) σ))
def s_Mo_level_45_13 (v1 : Int32) (σ : nS) : Int32 := s_Mo_level_5_14 v1 σ
def s_Mo_level_5_13 (v1 : Int32) (σ : nS) : Int32 := if (σ 3 13) = (0 : Int32) then (s_Mo_level_45_13 v1 σ) else (if v1 ≤ (s_Mo_group (σ 4 13) σ) then (s_Mo_level_45_13 v1 σ) else (s_Mo_level_45_13 (s_Mo_group (σ 4 13) σ) σ))
def s_Mo_level_45_12 (v1 : Int32) (σ : nS) : Int32 := s_Mo_level_5_13 v1 σ
def s_Mo_level_5_12 (v1 : Int32) (σ : nS) : Int32 := if (σ 3 12) = (0 : Int32) then (s_Mo_level_45_12 v1 σ) else (if v1 ≤ (s_Mo_group (σ 4 12) σ) then (s_Mo_level_45_12 v1 σ) else (s_Mo_level_45_12 (s_Mo_group (σ 4 12) σ) σ))
def s_Mo_level_45_11 (v1 : Int32) (σ : nS) : Int32 := s_Mo_level_5_12 v1 σ
def s_Mo_level_5_11 (v1 : Int32) (σ : nS) : Int32 := if (σ 3 11) = (0 : Int32) then (s_Mo_level_45_11 v1 σ) else (if v1 ≤ (s_Mo_group (σ 4 11) σ) then (s_Mo_level_45_11 v1 σ) else (s_Mo_level_45_11 (s_Mo_group (σ 4 11) σ) σ))
def s_Mo_level_45_10 (v1 : Int32) (σ : nS) : Int32 := s_Mo_level_5_11 v1 σ
def s_Mo_level_5_10 (v1 : Int32) (σ : nS) : Int32 := if (σ 3 10) = (0 : Int32) then (s_Mo_level_45_10 v1 σ) else (if v1 ≤ (s_Mo_group (σ 4 10) σ) then (s_Mo_level_45_10 v1 σ) else (s_Mo_level_45_10 (s_Mo_group (σ 4 10) σ) σ))
def s_Mo_level_45_9 (v1 : Int32) (σ : nS) : Int32 := s_Mo_level_5_10 v1 σ
def s_Mo_level_5_9 (v1 : Int32) (σ : nS) : Int32 := if (σ 3 9) = (0 : Int32) then (s_Mo_level_45_9 v1 σ) else (if v1 ≤ (s_Mo_group (σ 4 9) σ) then (s_Mo_level_45_9 v1 σ) else (s_Mo_level_45_9 (s_Mo_group (σ 4 9) σ) σ))
def s_Mo_level_45_8 (v1 : Int32) (σ : nS) : Int32 := s_Mo_level_5_9 v1 σ
def s_Mo_level_5_8 (v1 : Int32) (σ : nS) : Int32 := if (σ 3 8) = (0 : Int32) then (s_Mo_level_45_8 v1 σ) else (if v1 ≤ (s_Mo_group (σ 4 8) σ) then (s_Mo_level_45_8 v1 σ) else (s_Mo_level_45_8 (s_Mo_group (σ 4 8) σ) σ))
def s_Mo_level_45_7 (v1 : Int32) (σ : nS) : Int32 := s_Mo_level_5_8 v1 σ
def s_Mo_level_5_7 (v1 : Int32) (σ : nS) : Int32 := if (σ 3 7) = (0 : Int32) then (s_Mo_level_45_7 v1 σ) else (if v1 ≤ (s_Mo_group (σ 4 7) σ) then (s_Mo_level_45_7 v1 σ) else (s_Mo_level_45_7 (s_Mo_group (σ 4 7) σ) σ))
def s_Mo_level_45_6 (v1 : Int32) (σ : nS) : Int32 := s_Mo_level_5_7 v1 σ
def s_Mo_level_5_6 (v1 : Int32) (σ : nS) : Int32 := if (σ 3 6) = (0 : Int32) then (s_Mo_level_45_6 v1 σ) else (if v1 ≤ (s_Mo_group (σ 4 6) σ) then (s_Mo_level_45_6 v1 σ) else (s_Mo_level_45_6 (s_Mo_group (σ 4 6) σ) σ))
def s_Mo_level_45_5 (v1 : Int32) (σ : nS) : Int32 := s_Mo_level_5_6 v1 σ
def s_Mo_level_5_5 (v1 : Int32) (σ : nS) : Int32 := if (σ 3 5) = (0 : Int32) then (s_Mo_level_45_5 v1 σ) else (if v1 ≤ (s_Mo_group (σ 4 5) σ) then (s_Mo_level_45_5 v1 σ) else (s_Mo_level_45_5 (s_Mo_group (σ 4 5) σ) σ))
def s_Mo_level_45_4 (v1 : Int32) (σ : nS) : Int32 := s_Mo_level_5_5 v1 σ
def s_Mo_level_5_4 (v1 : Int32) (σ : nS) : Int32 := if (σ 3 4) = (0 : Int32) then (s_Mo_level_45_4 v1 σ) else (if v1 ≤ (s_Mo_group (σ 4 4) σ) then (s_Mo_level_45_4 v1 σ) else (s_Mo_level_45_4 (s_Mo_group (σ 4 4) σ) σ))
def s_Mo_level_45_3 (v1 : Int32) (σ : nS) : Int32 := s_Mo_level_5_4 v1 σ
def s_Mo_level_5_3 (v1 : Int32) (σ : nS) : Int32 := if (σ 3 3) = (0 : Int32) then (s_Mo_level_45_3 v1 σ) else (if v1 ≤ (s_Mo_group (σ 4 3) σ) then (s_Mo_level_45_3 v1 σ) else (s_Mo_level_45_3 (s_Mo_group (σ 4 3) σ) σ))
def s_Mo_level_45_2 (v1 : Int32) (σ : nS) : Int32 := s_Mo_level_5_3 v1 σ
def s_Mo_level_5_2 (σ : nS) : Int32 := if (σ 3 2) = (0 : Int32) then (s_Mo_level_45_2 (8 : Int32) σ) else (if (8 : Int32) ≤ (s_Mo_group (σ 4 2) σ) then (s_Mo_level_45_2 (8 : Int32) σ) else (s_Mo_level_45_2 (s_Mo_group (σ 4 2) σ) σ))
def s_Mo_level (σ : nS) : Int32 := s_Mo_level_5_2 σ
def s_Mo_due_80 (σ : nS) : Int32 := (0 : Int32)
def s_Mo_due_5_1 (v1 : Int32) (σ : nS) : Int32 := if v1 ≤ (0 : Int32) then (s_Mo_due_80 σ) else (if (s_Mo_level σ) ≤ (s_Mo_group (σ 4 (v1).toNatClampNeg) σ) then (s_Mo_due_80 σ) else (v1))
def s_Mo_due_49_2 (v1 : Int32) (σ : nS) : Int32 := s_Mo_due_5_1 v1 σ
def s_Mo_due_47_2 (σ : nS) : Int32 := s_Mo_due_49_2 (2 : Int32) σ
def s_Mo_due_5_2 (v1 : Int32) (σ : nS) : Int32 := if (σ 2 2) = (0 : Int32) then (s_Mo_due_49_2 v1 σ) else (if (σ 1 2) = (0 : Int32) then (s_Mo_due_49_2 v1 σ) else (if v1 = (0 : Int32) then (s_Mo_due_47_2 σ) else (if (σ 4 (v1).toNatClampNeg) < (σ 4 2) then (s_Mo_due_49_2 v1 σ) else (s_Mo_due_47_2 σ))))
def s_Mo_due_49_3 (v1 : Int32) (σ : nS) : Int32 := s_Mo_due_5_2 v1 σ
def s_Mo_due_47_3 (σ : nS) : Int32 := s_Mo_due_49_3 (3 : Int32) σ
def s_Mo_due_5_3 (v1 : Int32) (σ : nS) : Int32 := if (σ 2 3) = (0 : Int32) then (s_Mo_due_49_3 v1 σ) else (if (σ 1 3) = (0 : Int32) then (s_Mo_due_49_3 v1 σ) else (if v1 = (0 : Int32) then (s_Mo_due_47_3 σ) else (if (σ 4 (v1).toNatClampNeg) < (σ 4 3) then (s_Mo_due_49_3 v1 σ) else (s_Mo_due_47_3 σ))))
def s_Mo_due_49_4 (v1 : Int32) (σ : nS) : Int32 := s_Mo_due_5_3 v1 σ
def s_Mo_due_47_4 (σ : nS) : Int32 := s_Mo_due_49_4 (4 : Int32) σ
def s_Mo_due_5_4 (v1 : Int32) (σ : nS) : Int32 := if (σ 2 4) = (0 : Int32) then (s_Mo_due_49_4 v1 σ) else (if (σ 1 4) = (0 : Int32) then (s_Mo_due_49_4 v1 σ) else (if v1 = (0 : Int32) then (s_Mo_due_47_4 σ) else (if (σ 4 (v1).toNatClampNeg) < (σ 4 4) then (s_Mo_due_49_4 v1 σ) else (s_Mo_due_47_4 σ))))
def s_Mo_due_49_5 (v1 : Int32) (σ : nS) : Int32 := s_Mo_due_5_4 v1 σ
def s_Mo_due_47_5 (σ : nS) : Int32 := s_Mo_due_49_5 (5 : Int32) σ
def s_Mo_due_5_5 (v1 : Int32) (σ : nS) : Int32 := if (σ 2 5) = (0 : Int32) then (s_Mo_due_49_5 v1 σ) else (if (σ 1 5) = (0 : Int32) then (s_Mo_due_49_5 v1 σ) else (if v1 = (0 : Int32) then (s_Mo_due_47_5 σ) else (if (σ 4 (v1).toNatClampNeg) < (σ 4 5) then (s_Mo_due_49_5 v1 σ) else (s_Mo_due_47_5 σ))))
def s_Mo_due_49_6 (v1 : Int32) (σ : nS) : Int32 := s_Mo_due_5_5 v1 σ
def s_Mo_due_47_6 (σ : nS) : Int32 := s_Mo_due_49_6 (6 : Int32) σ
def s_Mo_due_5_6 (v1 : Int32) (σ : nS) : Int32 := if (σ 2 6) = (0 : Int32) then (s_Mo_due_49_6 v1 σ) else (if (σ 1 6) = (0 : Int32) then (s_Mo_due_49_6 v1 σ) else (if v1 = (0 : Int32) then (s_Mo_due_47_6 σ) else (if (σ 4 (v1).toNatClampNeg) < (σ 4 6) then (s_Mo_due_49_6 v1 σ) else (s_Mo_due_47_6 σ))))
def s_Mo_due_49_7 (v1 : Int32) (σ : nS) : Int32 := s_Mo_due_5_6 v1 σ
def s_Mo_due_47_7 (σ : nS) : Int32 := s_Mo_due_49_7 (7 : Int32) σ
def s_Mo_due_5_7 (v1 : Int32) (σ : nS) : Int32 := if (σ 2 7) = (0 : Int32) then (s_Mo_due_49_7 v1 σ) else (if (σ 1 7) = (0 : Int32) then (s_Mo_due_49_7 v1 σ) else (if v1 = (0 : Int32) then (s_Mo_due_47_7 σ) else (if (σ 4 (v1).toNatClampNeg) < (σ 4 7) then (s_Mo_due_49_7 v1 σ) else (s_Mo_due_47_7 σ))))
def s_Mo_due_49_8 (v1 : Int32) (σ : nS) : Int32 := s_Mo_due_5_7 v1 σ
def s_Mo_due_47_8 (σ : nS) : Int32 := s_Mo_due_49_8 (8 : Int32) σ
def s_Mo_due_5_8 (v1 : Int32) (σ : nS) : Int32 := if (σ 2 8) = (0 : Int32) then (s_Mo_due_49_8 v1 σ) else (if (σ 1 8) = (0 : Int32) then (s_Mo_due_49_8 v1 σ) else (if v1 = (0 : Int32) then (s_Mo_due_47_8 σ) else (if (σ 4 (v1).toNatClampNeg) < (σ 4 8) then (s_Mo_due_49_8 v1 σ) else (s_Mo_due_47_8 σ))))
def s_Mo_due_49_9 (v1 : Int32) (σ : nS) : Int32 := s_Mo_due_5_8 v1 σ
def s_Mo_due_47_9 (σ : nS) : Int32 := s_Mo_due_49_9 (9 : Int32) σ
def s_Mo_due_5_9 (v1 : Int32) (σ : nS) : Int32 := if (σ 2 9) = (0 : Int32) then (s_Mo_due_49_9 v1 σ) else (if (σ 1 9) = (0 : Int32) then (s_Mo_due_49_9 v1 σ) else (if v1 = (0 : Int32) then (s_Mo_due_47_9 σ) else (if (σ 4 (v1).toNatClampNeg) < (σ 4 9) then (s_Mo_due_49_9 v1 σ) else (s_Mo_due_47_9 σ))))
def s_Mo_due_49_10 (v1 : Int32) (σ : nS) : Int32 := s_Mo_due_5_9 v1 σ
def s_Mo_due_47_10 (σ : nS) : Int32 := s_Mo_due_49_10 (10 : Int32) σ
def s_Mo_due_5_10 (v1 : Int32) (σ : nS) : Int32 := if (σ 2 10) = (0 : Int32) then (s_Mo_due_49_10 v1 σ) else (if (σ 1 10) = (0 : Int32) then (s_Mo_due_49_10 v1 σ) else (if v1 = (0 : Int32) then (s_Mo_due_47_10 σ) else (if (σ 4 (v1).toNatClampNeg) < (σ 4 10) then (s_Mo_due_49_10 v1 σ) else (s_Mo_due_47_10 σ))))
def s_Mo_due_49_11 (v1 : Int32) (σ : nS) : Int32 := s_Mo_due_5_10 v1 σ
def s_Mo_due_47_11 (σ : nS) : Int32 := s_Mo_due_49_11 (11 : Int32) σ
def s_Mo_due_5_11 (v1 : Int32) (σ : nS) : Int32 := if (σ 2 11) = (0 : Int32) then (s_Mo_due_49_11 v1 σ) else (if (σ 1 11) = (0 : Int32) then (s_Mo_due_49_11 v1 σ) else (if v1 = (0 : Int32) then (s_Mo_due_47_11 σ) else (if (σ 4 (v1).toNatClampNeg) < (σ 4 11) then (s_Mo_due_49_11 v1 σ) else (s_Mo_due_47_11 σ))))
def s_Mo_due_49_12 (v1 : Int32) (σ : nS) : Int32 := s_Mo_due_5_11 v1 σ
def s_Mo_due_47_12 (σ : nS) : Int32 := s_Mo_due_49_12 (12 : Int32) σ
def s_Mo_due_5_12 (v1 : Int32) (σ : nS) : Int32 := if (σ 2 12) = (0 : Int32) then (s_Mo_due_49_12 v1 σ) else (if (σ 1 12) = (0 : Int32) then (s_Mo_due_49_12 v1 σ) else (if v1 = (0 : Int32) then (s_Mo_due_47_12 σ) else (if (σ 4 (v1).toNatClampNeg) < (σ 4 12) then (s_Mo_due_49_12 v1 σ) else (s_Mo_due_47_12 σ))))
def s_Mo_due_49_13 (v1 : Int32) (σ : nS) : Int32 := s_Mo_due_5_12 v1 σ
def s_Mo_due_47_13 (σ : nS) : Int32 := s_Mo_due_49_13 (13 : Int32) σ
def s_Mo_due_5_13 (v1 : Int32) (σ : nS) : Int32 := if (σ 2 13) = (0 : Int32) then (s_Mo_due_49_13 v1 σ) else (if (σ 1 13) = (0 : Int32) then (s_Mo_due_49_13 v1 σ) else (if v1 = (0 : Int32) then (s_Mo_due_47_13 σ) else (if (σ 4 (v1).toNatClampNeg) < (σ 4 13) then (s_Mo_due_49_13 v1 σ) else (s_Mo_due_47_13 σ))))
def s_Mo_due_49_14 (v1 : Int32) (σ : nS) : Int32 := s_Mo_due_5_13 v1 σ
def s_Mo_due_47_14 (σ : nS) : Int32 := s_Mo_due_49_14 (14 : Int32) σ
def s_Mo_due_5_14 (v1 : Int32) (σ : nS) : Int32 := if (σ 2 14) = (0 : Int32) then (s_Mo_due_49_14 v1 σ) else (if (σ 1 14) = (0 : Int32) then (s_Mo_due_49_14 v1 σ) else (if v1 = (0 : Int32) then (s_Mo_due_47_14 σ) else (if (σ 4 (v1).toNatClampNeg) < (σ 4 14) then (s_Mo_due_49_14 v1 σ) else (s_Mo_due_47_14 σ))))
def s_Mo_due_49_15 (v1 : Int32) (σ : nS) : Int32 := s_Mo_due_5_14 v1 σ
def s_Mo_due_47_15 (σ : nS) : Int32 := s_Mo_due_49_15 (15 : Int32) σ
def s_Mo_due_5_15 (σ : nS) : Int32 := if (σ 2 15) = (0 : Int32) then (s_Mo_due_49_15 (0 : Int32) σ) else (if (σ 1 15) = (0 : Int32) then (s_Mo_due_49_15 (0 : Int32) σ) else (s_Mo_due_47_15 σ))
def s_Mo_due (σ : nS) : Int32 := s_Mo_due_5_15 σ
def s_Mo_enter (v1 : Int32) (σ : nS) : nS := (up2 (up2 (up2 (up2 σ 3 (v1).toNatClampNeg (bI true)) 2 (v1).toNatClampNeg (bI false)) 8 10 v1) 0 15 ((s_Mo_load ((4 : Int32) * v1) (up2 (up2 (up2 σ 3 (v1).toNatClampNeg (bI true)) 2 (v1).toNatClampNeg (bI false)) 8 10 v1)) &&& (-2 : Int32)))
def o_Mo_enter (v1 : Int32) (σ : nS) : Prop := o_Mo_load ((4 : Int32) * v1) (up2 (up2 (up2 σ 3 (v1).toNatClampNeg (bI true)) 2 (v1).toNatClampNeg (bI false)) 8 10 v1) ∧ (True)
def s_Mo_status_66 (k0 : Int32) (k1 : Int32) (σ : nS) : Int32 := ((k0 ||| k1) ||| (σ 8 10))
def s_Mo_status_54 (v1 : Bool) (k0 : Int32) (k1 : Int32) (σ : nS) : Int32 := if v1 = true then (s_Mo_status_66 (k0 ||| k1) (512 : Int32) σ) else (s_Mo_status_66 (k0 ||| k1) (0 : Int32) σ)
def s_Mo_status_40 (v1 : Bool) (k0 : Int32) (k1 : Int32) (σ : nS) : Int32 := if (σ 8 7) = (0 : Int32) then (s_Mo_status_54 v1 (k0 ||| k1) (0 : Int32) σ) else (s_Mo_status_54 v1 (k0 ||| k1) (268435456 : Int32) σ)
def s_Mo_status_26 (v1 : Bool) (k0 : Int32) (k1 : Int32) (σ : nS) : Int32 := if (σ 8 6) = (0 : Int32) then (s_Mo_status_40 v1 (k0 ||| k1) (0 : Int32) σ) else (s_Mo_status_40 v1 (k0 ||| k1) (536870912 : Int32) σ)
def s_Mo_status_13 (v1 : Bool) (k0 : Int32) (σ : nS) : Int32 := if (σ 8 5) = (0 : Int32) then (s_Mo_status_26 v1 k0 (0 : Int32) σ) else (s_Mo_status_26 v1 k0 (1073741824 : Int32) σ)
def s_Mo_status (v1 : Bool) (σ : nS) : Int32 := if (σ 8 4) = (0 : Int32) then (s_Mo_status_13 v1 (0 : Int32) σ) else (s_Mo_status_13 v1 (-2147483648 : Int32) σ)
def s_Mo_isFrame_21 : Bool := false
def s_Mo_isFrame (v0 : Int32) : Bool := if v0 < (0 : Int32) then (s_Mo_isFrame_21) else (if (992 : Int32) < v0 then (s_Mo_isFrame_21) else (if (v0 &&& (3 : Int32)) = (0 : Int32) then (true) else (s_Mo_isFrame_21)))
def s_Mo_take_170 (v1 : Int32) (k2 : Int32) (σ : nS) : nS := ap1 (s_Mo_enter v1 (up2 σ 0 14 k2)) fun σ1 => (up2 σ1 8 12 ((σ1 8 12) + (1 : Int32)))
def s_Mo_take_55_4 (v1 : Int32) (v2 : Bool) (v3 : Int32) (σ : nS) : nS := ap1 (s_Mo_store (v3 + (16 : Int32)) (σ 0 12) σ) fun σ1 => ap1 (s_Mo_store (v3 + (20 : Int32)) (σ1 0 14) σ1) fun σ2 => ap1 (s_Mo_store (v3 + (24 : Int32)) (σ2 0 15) σ2) fun σ3 => ap1 (s_Mo_store (v3 + (28 : Int32)) (s_Mo_status v2 σ3) σ3) fun σ4 => if ((up2 σ4 0 13 v3) 8 10) = (0 : Int32) then (s_Mo_take_170 v1 (-7 : Int32) (up2 σ4 0 13 v3)) else (s_Mo_take_170 v1 (-15 : Int32) (up2 σ4 0 13 v3))
def s_Mo_take_55_3 (v1 : Int32) (v2 : Bool) (v3 : Int32) (σ : nS) : nS := ap1 (s_Mo_store (v3 + (12 : Int32)) (σ 0 3) σ) fun σ1 => s_Mo_take_55_4 v1 v2 v3 σ1
def s_Mo_take_55_2 (v1 : Int32) (v2 : Bool) (v3 : Int32) (σ : nS) : nS := ap1 (s_Mo_store (v3 + (8 : Int32)) (σ 0 2) σ) fun σ1 => s_Mo_take_55_3 v1 v2 v3 σ1
def s_Mo_take_55_1 (v1 : Int32) (v2 : Bool) (v3 : Int32) (σ : nS) : nS := ap1 (s_Mo_store (v3 + (4 : Int32)) (σ 0 1) σ) fun σ1 => s_Mo_take_55_2 v1 v2 v3 σ1
def s_Mo_take_55_0 (v1 : Int32) (v2 : Bool) (v3 : Int32) (σ : nS) : nS := ap1 (s_Mo_store (v3 + (0 : Int32)) (σ 0 0) σ) fun σ1 => s_Mo_take_55_1 v1 v2 v3 σ1
def s_Mo_take_37 (v1 : Int32) (v2 : Bool) (k0 : Int32) (k1 : Int32) (σ : nS) : nS := if (s_Mo_isFrame (k0 - k1)) = true then (s_Mo_take_55_0 v1 v2 (k0 - k1) σ) else ((up2 σ 8 11 (2 : Int32)))
def s_Mo_take_18 (v1 : Int32) (k0 : Bool) (σ : nS) : nS := if k0 = true then (s_Mo_take_37 v1 k0 (σ 0 13) (36 : Int32) σ) else (s_Mo_take_37 v1 k0 (σ 0 13) (32 : Int32) σ)
def s_Mo_take (v1 : Int32) (σ : nS) : nS := if ((σ 0 13) &&& (7 : Int32)) = (0 : Int32) then (s_Mo_take_18 v1 false σ) else (s_Mo_take_18 v1 true σ)
def o_Mo_take_170 (v1 : Int32) (k2 : Int32) (σ : nS) : Prop := o_Mo_enter v1 (up2 σ 0 14 k2) ∧ (ap1 (s_Mo_enter v1 (up2 σ 0 14 k2)) fun σ1 => (True))
def o_Mo_take_55_4 (v1 : Int32) (v2 : Bool) (v3 : Int32) (σ : nS) : Prop := o_Mo_store (v3 + (16 : Int32)) (σ 0 12) σ ∧ (ap1 (s_Mo_store (v3 + (16 : Int32)) (σ 0 12) σ) fun σ1 => (o_Mo_store (v3 + (20 : Int32)) (σ1 0 14) σ1 ∧ (ap1 (s_Mo_store (v3 + (20 : Int32)) (σ1 0 14) σ1) fun σ2 => (o_Mo_store (v3 + (24 : Int32)) (σ2 0 15) σ2 ∧ (ap1 (s_Mo_store (v3 + (24 : Int32)) (σ2 0 15) σ2) fun σ3 => (o_Mo_store (v3 + (28 : Int32)) (s_Mo_status v2 σ3) σ3 ∧ (ap1 (s_Mo_store (v3 + (28 : Int32)) (s_Mo_status v2 σ3) σ3) fun σ4 => (if ((up2 σ4 0 13 v3) 8 10) = (0 : Int32) then (o_Mo_take_170 v1 (-7 : Int32) (up2 σ4 0 13 v3)) else (o_Mo_take_170 v1 (-15 : Int32) (up2 σ4 0 13 v3))))))))))
def o_Mo_take_55_3 (v1 : Int32) (v2 : Bool) (v3 : Int32) (σ : nS) : Prop := o_Mo_store (v3 + (12 : Int32)) (σ 0 3) σ ∧ (ap1 (s_Mo_store (v3 + (12 : Int32)) (σ 0 3) σ) fun σ1 => (o_Mo_take_55_4 v1 v2 v3 σ1))
def o_Mo_take_55_2 (v1 : Int32) (v2 : Bool) (v3 : Int32) (σ : nS) : Prop := o_Mo_store (v3 + (8 : Int32)) (σ 0 2) σ ∧ (ap1 (s_Mo_store (v3 + (8 : Int32)) (σ 0 2) σ) fun σ1 => (o_Mo_take_55_3 v1 v2 v3 σ1))
def o_Mo_take_55_1 (v1 : Int32) (v2 : Bool) (v3 : Int32) (σ : nS) : Prop := o_Mo_store (v3 + (4 : Int32)) (σ 0 1) σ ∧ (ap1 (s_Mo_store (v3 + (4 : Int32)) (σ 0 1) σ) fun σ1 => (o_Mo_take_55_2 v1 v2 v3 σ1))
def o_Mo_take_55_0 (v1 : Int32) (v2 : Bool) (v3 : Int32) (σ : nS) : Prop := o_Mo_store (v3 + (0 : Int32)) (σ 0 0) σ ∧ (ap1 (s_Mo_store (v3 + (0 : Int32)) (σ 0 0) σ) fun σ1 => (o_Mo_take_55_1 v1 v2 v3 σ1))
def o_Mo_take_37 (v1 : Int32) (v2 : Bool) (k0 : Int32) (k1 : Int32) (σ : nS) : Prop := if (s_Mo_isFrame (k0 - k1)) = true then (o_Mo_take_55_0 v1 v2 (k0 - k1) σ) else (True)
def o_Mo_take_18 (v1 : Int32) (k0 : Bool) (σ : nS) : Prop := if k0 = true then (o_Mo_take_37 v1 k0 (σ 0 13) (36 : Int32) σ) else (o_Mo_take_37 v1 k0 (σ 0 13) (32 : Int32) σ)
def o_Mo_take (v1 : Int32) (σ : nS) : Prop := if ((σ 0 13) &&& (7 : Int32)) = (0 : Int32) then (o_Mo_take_18 v1 false σ) else (o_Mo_take_18 v1 true σ)
def s_Mo_isBack_53 (σ : nS) : Bool := false
def s_Mo_isBack_46 (k0 : Bool) (k1 : Bool) (σ : nS) : Bool := if (bI k0) = (bI k1) then (true) else (s_Mo_isBack_53 σ)
def s_Mo_isBack_35 (v2 : Int32) (k0 : Bool) (σ : nS) : Bool := if v2 = (-7 : Int32) then (s_Mo_isBack_46 k0 true σ) else (s_Mo_isBack_46 k0 false σ)
def s_Mo_isBack (v1 : Int32) (v2 : Int32) (σ : nS) : Bool := if (s_Mo_isFrame v1) = true then (if ((s_Mo_load (v1 + (28 : Int32)) σ) &&& (15 : Int32)) = (1 : Int32) then (s_Mo_isBack_53 σ) else (if ((s_Mo_load (v1 + (28 : Int32)) σ) &&& (15 : Int32)) = (0 : Int32) then (s_Mo_isBack_35 v2 true σ) else (s_Mo_isBack_35 v2 false σ))) else (false)
def o_Mo_isBack_53 (σ : nS) : Prop := True
def o_Mo_isBack_46 (k0 : Bool) (k1 : Bool) (σ : nS) : Prop := if (bI k0) = (bI k1) then (True) else (o_Mo_isBack_53 σ)
def o_Mo_isBack_35 (v2 : Int32) (k0 : Bool) (σ : nS) : Prop := if v2 = (-7 : Int32) then (o_Mo_isBack_46 k0 true σ) else (o_Mo_isBack_46 k0 false σ)
def o_Mo_isBack (v1 : Int32) (v2 : Int32) (σ : nS) : Prop := if (s_Mo_isFrame v1) = true then (o_Mo_load (v1 + (28 : Int32)) σ ∧ (if ((s_Mo_load (v1 + (28 : Int32)) σ) &&& (15 : Int32)) = (1 : Int32) then (o_Mo_isBack_53 σ) else (if ((s_Mo_load (v1 + (28 : Int32)) σ) &&& (15 : Int32)) = (0 : Int32) then (o_Mo_isBack_35 v2 true σ) else (o_Mo_isBack_35 v2 false σ)))) else (True)
def s_Mo_flags_58 (k1 : Bool) (σ : nS) : nS := (up2 σ 8 7 (bI k1))
def s_Mo_flags_43 (v1 : Int32) (k1 : Bool) (σ : nS) : nS := if (v1 &&& (1 : Int32)) = (0 : Int32) then (s_Mo_flags_58 false (up2 σ 8 6 (bI k1))) else (s_Mo_flags_58 true (up2 σ 8 6 (bI k1)))
def s_Mo_flags_28 (v1 : Int32) (k1 : Bool) (σ : nS) : nS := if (v1 &&& (2 : Int32)) = (0 : Int32) then (s_Mo_flags_43 v1 false (up2 σ 8 5 (bI k1))) else (s_Mo_flags_43 v1 true (up2 σ 8 5 (bI k1)))
def s_Mo_flags_13 (v1 : Int32) (k1 : Bool) (σ : nS) : nS := if (v1 &&& (4 : Int32)) = (0 : Int32) then (s_Mo_flags_28 v1 false (up2 σ 8 4 (bI k1))) else (s_Mo_flags_28 v1 true (up2 σ 8 4 (bI k1)))
def s_Mo_flags (v1 : Int32) (σ : nS) : nS := if (v1 &&& (8 : Int32)) = (0 : Int32) then (s_Mo_flags_13 v1 false σ) else (s_Mo_flags_13 v1 true σ)
def s_Mo_comeBack_123 (k2 : Int32) (k3 : Int32) (σ : nS) : nS := (up2 σ 0 13 (k2 + k3))
def s_Mo_comeBack_11_4 (v1 : Int32) (v2 : Int32) (σ : nS) : nS := ap1 (s_Mo_flags (ush v2 (28 : Int32)) (up2 (up2 (up2 σ 0 12 (s_Mo_load (v1 + (16 : Int32)) σ)) 0 14 (s_Mo_load (v1 + (20 : Int32)) (up2 σ 0 12 (s_Mo_load (v1 + (16 : Int32)) σ)))) 0 15 ((s_Mo_load (v1 + (24 : Int32)) (up2 (up2 σ 0 12 (s_Mo_load (v1 + (16 : Int32)) σ)) 0 14 (s_Mo_load (v1 + (20 : Int32)) (up2 σ 0 12 (s_Mo_load (v1 + (16 : Int32)) σ))))) &&& (-2 : Int32)))) fun σ1 => if (v2 &&& (512 : Int32)) = (0 : Int32) then (s_Mo_comeBack_123 v1 (32 : Int32) (up2 σ1 8 10 (v2 &&& (15 : Int32)))) else (s_Mo_comeBack_123 v1 (36 : Int32) (up2 σ1 8 10 (v2 &&& (15 : Int32))))
def s_Mo_comeBack_11_3 (v1 : Int32) (v2 : Int32) (σ : nS) : nS := s_Mo_comeBack_11_4 v1 v2 (up2 σ 0 3 (s_Mo_load (v1 + (12 : Int32)) σ))
def s_Mo_comeBack_11_2 (v1 : Int32) (v2 : Int32) (σ : nS) : nS := s_Mo_comeBack_11_3 v1 v2 (up2 σ 0 2 (s_Mo_load (v1 + (8 : Int32)) σ))
def s_Mo_comeBack_11_1 (v1 : Int32) (v2 : Int32) (σ : nS) : nS := s_Mo_comeBack_11_2 v1 v2 (up2 σ 0 1 (s_Mo_load (v1 + (4 : Int32)) σ))
def s_Mo_comeBack_11_0 (v1 : Int32) (v2 : Int32) (σ : nS) : nS := s_Mo_comeBack_11_1 v1 v2 (up2 σ 0 0 (s_Mo_load (v1 + (0 : Int32)) σ))
def s_Mo_comeBack (v1 : Int32) (σ : nS) : nS := s_Mo_comeBack_11_0 v1 (s_Mo_load (v1 + (28 : Int32)) σ) σ
def o_Mo_comeBack_123 (k2 : Int32) (k3 : Int32) (σ : nS) : Prop := True
def o_Mo_comeBack_11_4 (v1 : Int32) (v2 : Int32) (σ : nS) : Prop := o_Mo_load (v1 + (16 : Int32)) σ ∧ (o_Mo_load (v1 + (20 : Int32)) (up2 σ 0 12 (s_Mo_load (v1 + (16 : Int32)) σ)) ∧ (o_Mo_load (v1 + (24 : Int32)) (up2 (up2 σ 0 12 (s_Mo_load (v1 + (16 : Int32)) σ)) 0 14 (s_Mo_load (v1 + (20 : Int32)) (up2 σ 0 12 (s_Mo_load (v1 + (16 : Int32)) σ)))) ∧ (ap1 (s_Mo_flags (ush v2 (28 : Int32)) (up2 (up2 (up2 σ 0 12 (s_Mo_load (v1 + (16 : Int32)) σ)) 0 14 (s_Mo_load (v1 + (20 : Int32)) (up2 σ 0 12 (s_Mo_load (v1 + (16 : Int32)) σ)))) 0 15 ((s_Mo_load (v1 + (24 : Int32)) (up2 (up2 σ 0 12 (s_Mo_load (v1 + (16 : Int32)) σ)) 0 14 (s_Mo_load (v1 + (20 : Int32)) (up2 σ 0 12 (s_Mo_load (v1 + (16 : Int32)) σ))))) &&& (-2 : Int32)))) fun σ1 => (if (v2 &&& (512 : Int32)) = (0 : Int32) then (o_Mo_comeBack_123 v1 (32 : Int32) (up2 σ1 8 10 (v2 &&& (15 : Int32)))) else (o_Mo_comeBack_123 v1 (36 : Int32) (up2 σ1 8 10 (v2 &&& (15 : Int32))))))))
def o_Mo_comeBack_11_3 (v1 : Int32) (v2 : Int32) (σ : nS) : Prop := o_Mo_load (v1 + (12 : Int32)) σ ∧ (o_Mo_comeBack_11_4 v1 v2 (up2 σ 0 3 (s_Mo_load (v1 + (12 : Int32)) σ)))
def o_Mo_comeBack_11_2 (v1 : Int32) (v2 : Int32) (σ : nS) : Prop := o_Mo_load (v1 + (8 : Int32)) σ ∧ (o_Mo_comeBack_11_3 v1 v2 (up2 σ 0 2 (s_Mo_load (v1 + (8 : Int32)) σ)))
def o_Mo_comeBack_11_1 (v1 : Int32) (v2 : Int32) (σ : nS) : Prop := o_Mo_load (v1 + (4 : Int32)) σ ∧ (o_Mo_comeBack_11_2 v1 v2 (up2 σ 0 1 (s_Mo_load (v1 + (4 : Int32)) σ)))
def o_Mo_comeBack_11_0 (v1 : Int32) (v2 : Int32) (σ : nS) : Prop := o_Mo_load (v1 + (0 : Int32)) σ ∧ (o_Mo_comeBack_11_1 v1 v2 (up2 σ 0 0 (s_Mo_load (v1 + (0 : Int32)) σ)))
def o_Mo_comeBack (v1 : Int32) (σ : nS) : Prop := o_Mo_load (v1 + (28 : Int32)) σ ∧ (o_Mo_comeBack_11_0 v1 (s_Mo_load (v1 + (28 : Int32)) σ) σ)
def s_Mo_isReturn_23 (σ : nS) : Bool := false
def s_Mo_isReturn_19 (σ : nS) : Bool := true
def s_Mo_isReturn (v1 : Int32) (σ : nS) : Bool := if (σ 8 10) = (0 : Int32) then (s_Mo_isReturn_23 σ) else (if v1 = (-7 : Int32) then (s_Mo_isReturn_19 σ) else (if v1 = (-15 : Int32) then (s_Mo_isReturn_19 σ) else (s_Mo_isReturn_23 σ)))
def s_Mo_fault_48 (v2 : Int32) (σ : nS) : nS := if v2 ≤ (-1 : Int32) then ((up2 σ 8 11 (1 : Int32))) else ((up2 σ 2 3 (bI true)))
def s_Mo_fault (v1 : Int32) (σ : nS) : nS := if ((up2 σ 8 14 ((σ 8 14) + (1 : Int32))) 1 (v1).toNatClampNeg) = (0 : Int32) then (s_Mo_fault_48 (s_Mo_level (up2 σ 8 14 ((σ 8 14) + (1 : Int32)))) (up2 σ 8 14 ((σ 8 14) + (1 : Int32)))) else (if (s_Mo_level (up2 σ 8 14 ((σ 8 14) + (1 : Int32)))) ≤ (s_Mo_group ((up2 σ 8 14 ((σ 8 14) + (1 : Int32))) 4 (v1).toNatClampNeg) (up2 σ 8 14 ((σ 8 14) + (1 : Int32)))) then (s_Mo_fault_48 (s_Mo_level (up2 σ 8 14 ((σ 8 14) + (1 : Int32)))) (up2 σ 8 14 ((σ 8 14) + (1 : Int32)))) else ((up2 (up2 σ 8 14 ((σ 8 14) + (1 : Int32))) 2 (v1).toNatClampNeg (bI true))))
def s_Mo_test_23 (k1 : Bool) (σ : nS) : nS := (up2 σ 8 5 (bI k1))
def s_Mo_test_10 (v1 : Int32) (k1 : Bool) (σ : nS) : nS := if v1 = (0 : Int32) then (s_Mo_test_23 true (up2 σ 8 4 (bI k1))) else (s_Mo_test_23 false (up2 σ 8 4 (bI k1)))
def s_Mo_test (v1 : Int32) (σ : nS) : nS := if (0 : Int32) ≤ v1 then (s_Mo_test_10 v1 false σ) else (s_Mo_test_10 v1 true σ)
def s_Mo_sum_73 (v8 : Int32) (k1 : Bool) (σ : nS) : Int32 × nS := (v8, (up2 σ 8 7 (bI k1)))
def s_Mo_sum_55 (v6 : Int64) (v8 : Int32) (k1 : Bool) (σ : nS) : Int32 × nS := if (lg_cmp v6 (v8).toInt64) = (0 : Int32) then (s_Mo_sum_73 v8 false (up2 σ 8 6 (bI k1))) else (s_Mo_sum_73 v8 true (up2 σ 8 6 (bI k1)))
def s_Mo_sum (v1 : Int32) (v2 : Int32) (v3 : Int32) (σ : nS) : Int32 × nS := ap1 (s_Mo_test (((((v1).toInt64 &&& (4294967295 : Int64)) + ((v2).toInt64 &&& (4294967295 : Int64))) + (v3).toInt64)).toInt32 σ) fun σ1 => if (lg_cmp (((((v1).toInt64 &&& (4294967295 : Int64)) + ((v2).toInt64 &&& (4294967295 : Int64))) + (v3).toInt64) >>> (((32 : Int32)).toInt64 &&& 63)) (0 : Int64)) = (0 : Int32) then (s_Mo_sum_55 (((v1).toInt64 + (v2).toInt64) + (v3).toInt64) (((((v1).toInt64 &&& (4294967295 : Int64)) + ((v2).toInt64 &&& (4294967295 : Int64))) + (v3).toInt64)).toInt32 false σ1) else (s_Mo_sum_55 (((v1).toInt64 + (v2).toInt64) + (v3).toInt64) (((((v1).toInt64 &&& (4294967295 : Int64)) + ((v2).toInt64 &&& (4294967295 : Int64))) + (v3).toInt64)).toInt32 true σ1)
def s_Mo_shift_98 (v1 : Int32) (k0 : Int32) (σ : nS) : Int32 × nS := ap1 (s_Mo_test k0 σ) fun σ1 => ((0 : Int32), (up2 σ1 0 ((v1 &&& (7 : Int32))).toNatClampNeg k0))
def s_Mo_shift_64 (v1 : Int32) (v2 : Int32) (v3 : Int32) (v4 : Int32) (σ : nS) : Int32 × nS := if v2 = (0 : Int32) then (s_Mo_shift_98 v1 v3 σ) else (if v4 = (0 : Int32) then (s_Mo_shift_98 v1 (v3 <<< (v2 &&& 31)) σ) else (if v4 = (1 : Int32) then (s_Mo_shift_98 v1 (ush v3 v2) σ) else (s_Mo_shift_98 v1 (v3 >>> (v2 &&& 31)) σ)))
def s_Mo_shift_61 (v1 : Int32) (v2 : Int32) (v3 : Int32) (v4 : Int32) (k1 : Bool) (σ : nS) : Int32 × nS := s_Mo_shift_64 v1 v2 v3 v4 (up2 σ 8 6 (bI k1))
def s_Mo_shift_50 (v1 : Int32) (v2 : Int32) (v3 : Int32) (v4 : Int32) (k1 : Int32) (σ : nS) : Int32 × nS := if (k1 &&& (1 : Int32)) = (1 : Int32) then (s_Mo_shift_61 v1 v2 v3 v4 true σ) else (s_Mo_shift_61 v1 v2 v3 v4 false σ)
def s_Mo_shift (v1 : Int32) (σ : nS) : Int32 × nS := if ((v1 >>> ((6 : Int32) &&& 31)) &&& (31 : Int32)) ≤ (0 : Int32) then (s_Mo_shift_64 v1 ((v1 >>> ((6 : Int32) &&& 31)) &&& (31 : Int32)) (σ 0 (((v1 >>> ((3 : Int32) &&& 31)) &&& (7 : Int32))).toNatClampNeg) (v1 >>> ((11 : Int32) &&& 31)) σ) else (if (v1 >>> ((11 : Int32) &&& 31)) = (0 : Int32) then (s_Mo_shift_50 v1 ((v1 >>> ((6 : Int32) &&& 31)) &&& (31 : Int32)) (σ 0 (((v1 >>> ((3 : Int32) &&& 31)) &&& (7 : Int32))).toNatClampNeg) (v1 >>> ((11 : Int32) &&& 31)) (ush (σ 0 (((v1 >>> ((3 : Int32) &&& 31)) &&& (7 : Int32))).toNatClampNeg) ((32 : Int32) - ((v1 >>> ((6 : Int32) &&& 31)) &&& (31 : Int32)))) σ) else (s_Mo_shift_50 v1 ((v1 >>> ((6 : Int32) &&& 31)) &&& (31 : Int32)) (σ 0 (((v1 >>> ((3 : Int32) &&& 31)) &&& (7 : Int32))).toNatClampNeg) (v1 >>> ((11 : Int32) &&& 31)) ((σ 0 (((v1 >>> ((3 : Int32) &&& 31)) &&& (7 : Int32))).toNatClampNeg) >>> ((((v1 >>> ((6 : Int32) &&& 31)) &&& (31 : Int32)) - (1 : Int32)) &&& 31)) σ))
def s_Mo_immediate_92 (σ : nS) : Int32 × nS := ((0 : Int32), σ)
def s_Mo_immediate_76 (v2 : Int32) (v4 : Int32) (k0 : Int32) (σ : nS) : Int32 × nS := if v4 = (1 : Int32) then (s_Mo_immediate_92 σ) else (s_Mo_immediate_92 (up2 σ 0 (v2).toNatClampNeg k0))
def s_Mo_immediate_32 (v2 : Int32) (v3 : Int32) (v4 : Int32) (σ : nS) : Int32 × nS := if v4 = (0 : Int32) then (s_Mo_immediate_76 v2 v4 v3 σ) else (if v4 = (2 : Int32) then (ap2 (s_Mo_sum (σ 0 (v2).toNatClampNeg) v3 (0 : Int32) σ) fun r1 σ1 => s_Mo_immediate_76 v2 v4 r1 σ1) else (ap2 (s_Mo_sum (σ 0 (v2).toNatClampNeg) (v3 ^^^ (-1 : Int32)) (1 : Int32) σ) fun r1 σ1 => s_Mo_immediate_76 v2 v4 r1 σ1))
def s_Mo_immediate (v1 : Int32) (σ : nS) : Int32 × nS := if ((v1 >>> ((11 : Int32) &&& 31)) &&& (3 : Int32)) = (0 : Int32) then (ap1 (s_Mo_test (v1 &&& (255 : Int32)) σ) fun σ1 => s_Mo_immediate_32 ((v1 >>> ((8 : Int32) &&& 31)) &&& (7 : Int32)) (v1 &&& (255 : Int32)) ((v1 >>> ((11 : Int32) &&& 31)) &&& (3 : Int32)) σ1) else (s_Mo_immediate_32 ((v1 >>> ((8 : Int32) &&& 31)) &&& (7 : Int32)) (v1 &&& (255 : Int32)) ((v1 >>> ((11 : Int32) &&& 31)) &&& (3 : Int32)) σ)
def s_Mo_logic_269 (σ : nS) : Int32 × nS := ((0 : Int32), σ)
def s_Mo_logic_252 (v3 : Int32) (k1 : Int32) (k2 : Int32) (σ : nS) : Int32 × nS := ap1 (s_Mo_test ((up2 σ 0 (k1).toNatClampNeg k2) 0 (v3).toNatClampNeg) (up2 σ 0 (k1).toNatClampNeg k2)) fun σ1 => s_Mo_logic_269 σ1
def s_Mo_logic_174 (v2 : Int32) (v3 : Int32) (v4 : Int32) (v5 : Int32) (σ : nS) : Int32 × nS := if v2 = (0 : Int32) then (s_Mo_logic_252 v3 v3 (v4 &&& v5) σ) else (if v2 = (1 : Int32) then (s_Mo_logic_252 v3 v3 (v4 ^^^ v5) σ) else (if v2 = (12 : Int32) then (s_Mo_logic_252 v3 v3 (v4 ||| v5) σ) else (if v2 = (13 : Int32) then (s_Mo_logic_252 v3 v3 (v4 * v5) σ) else (if v2 = (14 : Int32) then (s_Mo_logic_252 v3 v3 (v4 &&& (v5 ^^^ (-1 : Int32))) σ) else (s_Mo_logic_252 v3 v3 (v5 ^^^ (-1 : Int32)) σ)))))
def s_Mo_logic_46 (v2 : Int32) (v3 : Int32) (v4 : Int32) (v5 : Int32) (k0 : Bool) (σ : nS) : Int32 × nS := if v2 = (5 : Int32) then (ap2 (s_Mo_sum v4 v5 (bI k0) σ) fun r1 σ1 => s_Mo_logic_269 (up2 σ1 0 (v3).toNatClampNeg r1)) else (if v2 = (6 : Int32) then (ap2 (s_Mo_sum v4 (v5 ^^^ (-1 : Int32)) (bI k0) σ) fun r1 σ1 => s_Mo_logic_269 (up2 σ1 0 (v3).toNatClampNeg r1)) else (if v2 = (9 : Int32) then (ap2 (s_Mo_sum (0 : Int32) (v5 ^^^ (-1 : Int32)) (1 : Int32) σ) fun r1 σ1 => s_Mo_logic_269 (up2 σ1 0 (v3).toNatClampNeg r1)) else (if v2 = (10 : Int32) then (ap2 (s_Mo_sum v4 (v5 ^^^ (-1 : Int32)) (1 : Int32) σ) fun r1 σ1 => s_Mo_logic_269 σ1) else (if v2 = (8 : Int32) then (ap1 (s_Mo_test (v4 &&& v5) σ) fun σ1 => s_Mo_logic_269 σ1) else (if v2 < (2 : Int32) then (s_Mo_logic_174 v2 v3 v4 v5 σ) else (if v2 ≤ (11 : Int32) then (((6 : Int32), σ)) else (s_Mo_logic_174 v2 v3 v4 v5 σ)))))))
def s_Mo_logic (v1 : Int32) (σ : nS) : Int32 × nS := if (σ 8 6) = (0 : Int32) then (s_Mo_logic_46 ((v1 >>> ((6 : Int32) &&& 31)) &&& (15 : Int32)) (v1 &&& (7 : Int32)) (σ 0 ((v1 &&& (7 : Int32))).toNatClampNeg) (σ 0 (((v1 >>> ((3 : Int32) &&& 31)) &&& (7 : Int32))).toNatClampNeg) false σ) else (s_Mo_logic_46 ((v1 >>> ((6 : Int32) &&& 31)) &&& (15 : Int32)) (v1 &&& (7 : Int32)) (σ 0 ((v1 &&& (7 : Int32))).toNatClampNeg) (σ 0 (((v1 >>> ((3 : Int32) &&& 31)) &&& (7 : Int32))).toNatClampNeg) true σ)
def s_Mo_moveHigh_57 (k1 : Int32) (k2 : Int32) (σ : nS) : Int32 × nS := ((0 : Int32), (up2 σ 0 (k1).toNatClampNeg k2))
def s_Mo_moveHigh (v1 : Int32) (σ : nS) : Int32 × nS := if (((v1 >>> ((4 : Int32) &&& 31)) &&& (8 : Int32)) ||| (v1 &&& (7 : Int32))) = (15 : Int32) then (((6 : Int32), σ)) else (if ((v1 >>> ((3 : Int32) &&& 31)) &&& (15 : Int32)) = (15 : Int32) then (s_Mo_moveHigh_57 (((v1 >>> ((4 : Int32) &&& 31)) &&& (8 : Int32)) ||| (v1 &&& (7 : Int32))) ((σ 0 15) + (4 : Int32)) σ) else (s_Mo_moveHigh_57 (((v1 >>> ((4 : Int32) &&& 31)) &&& (8 : Int32)) ||| (v1 &&& (7 : Int32))) (σ 0 (((v1 >>> ((3 : Int32) &&& 31)) &&& (15 : Int32))).toNatClampNeg) σ))
def s_Mo_jump_116 (σ : nS) : Int32 × nS := ((0 : Int32), σ)
def s_Mo_jump_73 (v1 : Int32) (v2 : Int32) (v3 : Int32) (σ : nS) : Int32 × nS := if v3 ≤ (0 : Int32) then (ap1 (s_Mo_comeBack v2 (up2 σ 0 13 v2)) fun σ1 => s_Mo_jump_116 σ1) else (ap1 (s_Mo_enter v3 (up2 (up2 (up2 σ 0 13 v2) 8 13 (((up2 σ 0 13 v2) 8 13) + (1 : Int32))) 0 14 v1)) fun σ1 => s_Mo_jump_116 σ1)
def s_Mo_jump_52 (v1 : Int32) (v2 : Int32) (σ : nS) : Int32 × nS := if (s_Mo_due σ) = (0 : Int32) then (if (s_Mo_isBack v2 v1 σ) = true then (s_Mo_jump_73 v1 v2 (s_Mo_due σ) σ) else (((6 : Int32), σ))) else (s_Mo_jump_73 v1 v2 (s_Mo_due σ) σ)
def s_Mo_jump (v1 : Int32) (v2 : Int32) (σ : nS) : Int32 × nS := if (s_Mo_isReturn v1 σ) = true then (if ((up2 σ 3 ((σ 8 10)).toNatClampNeg (bI false)) 8 10) = (2 : Int32) then (s_Mo_jump_52 v1 v2 (up2 σ 3 ((σ 8 10)).toNatClampNeg (bI false))) else (s_Mo_jump_52 v1 v2 (up2 (up2 σ 3 ((σ 8 10)).toNatClampNeg (bI false)) 8 3 (bI false)))) else (((0 : Int32), (up2 (up2 σ 0 13 v2) 0 15 (v1 &&& (-2 : Int32)))))
def o_Mo_jump_116 (σ : nS) : Prop := True
def o_Mo_jump_73 (v1 : Int32) (v2 : Int32) (v3 : Int32) (σ : nS) : Prop := if v3 ≤ (0 : Int32) then (o_Mo_comeBack v2 (up2 σ 0 13 v2) ∧ (ap1 (s_Mo_comeBack v2 (up2 σ 0 13 v2)) fun σ1 => (o_Mo_jump_116 σ1))) else (o_Mo_enter v3 (up2 (up2 (up2 σ 0 13 v2) 8 13 (((up2 σ 0 13 v2) 8 13) + (1 : Int32))) 0 14 v1) ∧ (ap1 (s_Mo_enter v3 (up2 (up2 (up2 σ 0 13 v2) 8 13 (((up2 σ 0 13 v2) 8 13) + (1 : Int32))) 0 14 v1)) fun σ1 => (o_Mo_jump_116 σ1)))
def o_Mo_jump_52 (v1 : Int32) (v2 : Int32) (σ : nS) : Prop := if (s_Mo_due σ) = (0 : Int32) then (o_Mo_isBack v2 v1 σ ∧ (if (s_Mo_isBack v2 v1 σ) = true then (o_Mo_jump_73 v1 v2 (s_Mo_due σ) σ) else (True))) else (o_Mo_jump_73 v1 v2 (s_Mo_due σ) σ)
def o_Mo_jump (v1 : Int32) (v2 : Int32) (σ : nS) : Prop := if (s_Mo_isReturn v1 σ) = true then (vp_in (σ 8 10) 16 ∧ (if ((up2 σ 3 ((σ 8 10)).toNatClampNeg (bI false)) 8 10) = (2 : Int32) then (o_Mo_jump_52 v1 v2 (up2 σ 3 ((σ 8 10)).toNatClampNeg (bI false))) else (o_Mo_jump_52 v1 v2 (up2 (up2 σ 3 ((σ 8 10)).toNatClampNeg (bI false)) 8 3 (bI false))))) else (True)
def s_Mo_exchange (v1 : Int32) (σ : nS) : Int32 × nS := if ((v1 >>> ((3 : Int32) &&& 31)) &&& (15 : Int32)) = (15 : Int32) then (((6 : Int32), σ)) else (ap2 (s_Mo_jump (σ 0 (((v1 >>> ((3 : Int32) &&& 31)) &&& (15 : Int32))).toNatClampNeg) (σ 0 13) σ) fun r1 σ1 => (r1, σ1))
def o_Mo_exchange (v1 : Int32) (σ : nS) : Prop := if ((v1 >>> ((3 : Int32) &&& 31)) &&& (15 : Int32)) = (15 : Int32) then (True) else (o_Mo_jump (σ 0 (((v1 >>> ((3 : Int32) &&& 31)) &&& (15 : Int32))).toNatClampNeg) (σ 0 13) σ ∧ (ap2 (s_Mo_jump (σ 0 (((v1 >>> ((3 : Int32) &&& 31)) &&& (15 : Int32))).toNatClampNeg) (σ 0 13) σ) fun r1 σ1 => (True)))
def s_Mo_move_54 (σ : nS) : Int32 × nS := ((0 : Int32), σ)
def s_Mo_move_12 (v1 : Int32) (v2 : Int32) (v3 : Bool) (k1 : Int32) (k3 : Int32) (σ : nS) : Int32 × nS := if (s_Mo_faultOf k1 (1 : Int32) k3 σ) ≤ (0 : Int32) then (if v3 = true then (s_Mo_move_54 (up2 σ 0 (v1).toNatClampNeg (s_Mo_load v2 σ))) else (ap1 (s_Mo_store v2 (σ 0 (v1).toNatClampNeg) σ) fun σ1 => s_Mo_move_54 σ1)) else (((s_Mo_faultOf k1 (1 : Int32) k3 σ), σ))
def s_Mo_move (v1 : Int32) (v2 : Int32) (v3 : Bool) (σ : nS) : Int32 × nS := if v3 = true then (s_Mo_move_12 v1 v2 v3 v2 (1 : Int32) σ) else (s_Mo_move_12 v1 v2 v3 v2 (2 : Int32) σ)
def o_Mo_move_54 (σ : nS) : Prop := True
def o_Mo_move_12 (v1 : Int32) (v2 : Int32) (v3 : Bool) (k1 : Int32) (k3 : Int32) (σ : nS) : Prop := o_Mo_faultOf k1 (1 : Int32) k3 σ ∧ (if (s_Mo_faultOf k1 (1 : Int32) k3 σ) ≤ (0 : Int32) then (if v3 = true then (o_Mo_load v2 σ ∧ (o_Mo_move_54 (up2 σ 0 (v1).toNatClampNeg (s_Mo_load v2 σ)))) else (o_Mo_store v2 (σ 0 (v1).toNatClampNeg) σ ∧ (ap1 (s_Mo_store v2 (σ 0 (v1).toNatClampNeg) σ) fun σ1 => (o_Mo_move_54 σ1)))) else (True))
def o_Mo_move (v1 : Int32) (v2 : Int32) (v3 : Bool) (σ : nS) : Prop := if v3 = true then (o_Mo_move_12 v1 v2 v3 v2 (1 : Int32) σ) else (o_Mo_move_12 v1 v2 v3 v2 (2 : Int32) σ)
def s_Mo_ones_4_9 (v0 : Int32) (v1 : Int32) : Int32 := v1
def s_Mo_ones_4_8 (v0 : Int32) (v1 : Int32) : Int32 := s_Mo_ones_4_9 v0 (v1 + ((v0 >>> ((8 : Int32) &&& 31)) &&& (1 : Int32)))
def s_Mo_ones_4_7 (v0 : Int32) (v1 : Int32) : Int32 := s_Mo_ones_4_8 v0 (v1 + ((v0 >>> ((7 : Int32) &&& 31)) &&& (1 : Int32)))
def s_Mo_ones_4_6 (v0 : Int32) (v1 : Int32) : Int32 := s_Mo_ones_4_7 v0 (v1 + ((v0 >>> ((6 : Int32) &&& 31)) &&& (1 : Int32)))
def s_Mo_ones_4_5 (v0 : Int32) (v1 : Int32) : Int32 := s_Mo_ones_4_6 v0 (v1 + ((v0 >>> ((5 : Int32) &&& 31)) &&& (1 : Int32)))
def s_Mo_ones_4_4 (v0 : Int32) (v1 : Int32) : Int32 := s_Mo_ones_4_5 v0 (v1 + ((v0 >>> ((4 : Int32) &&& 31)) &&& (1 : Int32)))
def s_Mo_ones_4_3 (v0 : Int32) (v1 : Int32) : Int32 := s_Mo_ones_4_4 v0 (v1 + ((v0 >>> ((3 : Int32) &&& 31)) &&& (1 : Int32)))
def s_Mo_ones_4_2 (v0 : Int32) (v1 : Int32) : Int32 := s_Mo_ones_4_3 v0 (v1 + ((v0 >>> ((2 : Int32) &&& 31)) &&& (1 : Int32)))
def s_Mo_ones_4_1 (v0 : Int32) (v1 : Int32) : Int32 := s_Mo_ones_4_2 v0 (v1 + ((v0 >>> ((1 : Int32) &&& 31)) &&& (1 : Int32)))
def s_Mo_ones_4_0 (v0 : Int32) : Int32 := s_Mo_ones_4_1 v0 ((0 : Int32) + ((v0 >>> ((0 : Int32) &&& 31)) &&& (1 : Int32)))
def s_Mo_ones (v0 : Int32) : Int32 := s_Mo_ones_4_0 v0
def s_Mo_push_54_9 (v1 : Int32) (v3 : Int32) (σ : nS) : Int32 × nS := ((0 : Int32), σ)
def s_Mo_push_98_8 (v1 : Int32) (v3 : Int32) (σ : nS) : Int32 × nS := s_Mo_push_54_9 v1 v3 σ
def s_Mo_push_91_8 (v1 : Int32) (v3 : Int32) (k1 : Int32) (σ : nS) : Int32 × nS := ap1 (s_Mo_store k1 (σ 0 14) σ) fun σ1 => s_Mo_push_98_8 v1 (v3 + (4 : Int32)) σ1
def s_Mo_push_54_8 (v1 : Int32) (v3 : Int32) (σ : nS) : Int32 × nS := if ((v1 >>> ((8 : Int32) &&& 31)) &&& (1 : Int32)) = (1 : Int32) then (s_Mo_push_91_8 v1 v3 v3 σ) else (s_Mo_push_98_8 v1 v3 σ)
def s_Mo_push_98_7 (v1 : Int32) (v3 : Int32) (σ : nS) : Int32 × nS := s_Mo_push_54_8 v1 v3 σ
def s_Mo_push_91_7 (v1 : Int32) (v3 : Int32) (k1 : Int32) (σ : nS) : Int32 × nS := ap1 (s_Mo_store k1 (σ 0 7) σ) fun σ1 => s_Mo_push_98_7 v1 (v3 + (4 : Int32)) σ1
def s_Mo_push_54_7 (v1 : Int32) (v3 : Int32) (σ : nS) : Int32 × nS := if ((v1 >>> ((7 : Int32) &&& 31)) &&& (1 : Int32)) = (1 : Int32) then (s_Mo_push_91_7 v1 v3 v3 σ) else (s_Mo_push_98_7 v1 v3 σ)
def s_Mo_push_98_6 (v1 : Int32) (v3 : Int32) (σ : nS) : Int32 × nS := s_Mo_push_54_7 v1 v3 σ
def s_Mo_push_91_6 (v1 : Int32) (v3 : Int32) (k1 : Int32) (σ : nS) : Int32 × nS := ap1 (s_Mo_store k1 (σ 0 6) σ) fun σ1 => s_Mo_push_98_6 v1 (v3 + (4 : Int32)) σ1
def s_Mo_push_54_6 (v1 : Int32) (v3 : Int32) (σ : nS) : Int32 × nS := if ((v1 >>> ((6 : Int32) &&& 31)) &&& (1 : Int32)) = (1 : Int32) then (s_Mo_push_91_6 v1 v3 v3 σ) else (s_Mo_push_98_6 v1 v3 σ)
def s_Mo_push_98_5 (v1 : Int32) (v3 : Int32) (σ : nS) : Int32 × nS := s_Mo_push_54_6 v1 v3 σ
def s_Mo_push_91_5 (v1 : Int32) (v3 : Int32) (k1 : Int32) (σ : nS) : Int32 × nS := ap1 (s_Mo_store k1 (σ 0 5) σ) fun σ1 => s_Mo_push_98_5 v1 (v3 + (4 : Int32)) σ1
def s_Mo_push_54_5 (v1 : Int32) (v3 : Int32) (σ : nS) : Int32 × nS := if ((v1 >>> ((5 : Int32) &&& 31)) &&& (1 : Int32)) = (1 : Int32) then (s_Mo_push_91_5 v1 v3 v3 σ) else (s_Mo_push_98_5 v1 v3 σ)
def s_Mo_push_98_4 (v1 : Int32) (v3 : Int32) (σ : nS) : Int32 × nS := s_Mo_push_54_5 v1 v3 σ
def s_Mo_push_91_4 (v1 : Int32) (v3 : Int32) (k1 : Int32) (σ : nS) : Int32 × nS := ap1 (s_Mo_store k1 (σ 0 4) σ) fun σ1 => s_Mo_push_98_4 v1 (v3 + (4 : Int32)) σ1
def s_Mo_push_54_4 (v1 : Int32) (v3 : Int32) (σ : nS) : Int32 × nS := if ((v1 >>> ((4 : Int32) &&& 31)) &&& (1 : Int32)) = (1 : Int32) then (s_Mo_push_91_4 v1 v3 v3 σ) else (s_Mo_push_98_4 v1 v3 σ)
def s_Mo_push_98_3 (v1 : Int32) (v3 : Int32) (σ : nS) : Int32 × nS := s_Mo_push_54_4 v1 v3 σ
def s_Mo_push_91_3 (v1 : Int32) (v3 : Int32) (k1 : Int32) (σ : nS) : Int32 × nS := ap1 (s_Mo_store k1 (σ 0 3) σ) fun σ1 => s_Mo_push_98_3 v1 (v3 + (4 : Int32)) σ1
def s_Mo_push_54_3 (v1 : Int32) (v3 : Int32) (σ : nS) : Int32 × nS := if ((v1 >>> ((3 : Int32) &&& 31)) &&& (1 : Int32)) = (1 : Int32) then (s_Mo_push_91_3 v1 v3 v3 σ) else (s_Mo_push_98_3 v1 v3 σ)
def s_Mo_push_98_2 (v1 : Int32) (v3 : Int32) (σ : nS) : Int32 × nS := s_Mo_push_54_3 v1 v3 σ
def s_Mo_push_91_2 (v1 : Int32) (v3 : Int32) (k1 : Int32) (σ : nS) : Int32 × nS := ap1 (s_Mo_store k1 (σ 0 2) σ) fun σ1 => s_Mo_push_98_2 v1 (v3 + (4 : Int32)) σ1
def s_Mo_push_54_2 (v1 : Int32) (v3 : Int32) (σ : nS) : Int32 × nS := if ((v1 >>> ((2 : Int32) &&& 31)) &&& (1 : Int32)) = (1 : Int32) then (s_Mo_push_91_2 v1 v3 v3 σ) else (s_Mo_push_98_2 v1 v3 σ)
def s_Mo_push_98_1 (v1 : Int32) (v3 : Int32) (σ : nS) : Int32 × nS := s_Mo_push_54_2 v1 v3 σ
def s_Mo_push_91_1 (v1 : Int32) (v3 : Int32) (k1 : Int32) (σ : nS) : Int32 × nS := ap1 (s_Mo_store k1 (σ 0 1) σ) fun σ1 => s_Mo_push_98_1 v1 (v3 + (4 : Int32)) σ1
def s_Mo_push_54_1 (v1 : Int32) (v3 : Int32) (σ : nS) : Int32 × nS := if ((v1 >>> ((1 : Int32) &&& 31)) &&& (1 : Int32)) = (1 : Int32) then (s_Mo_push_91_1 v1 v3 v3 σ) else (s_Mo_push_98_1 v1 v3 σ)
def s_Mo_push_98_0 (v1 : Int32) (v3 : Int32) (σ : nS) : Int32 × nS := s_Mo_push_54_1 v1 v3 σ
def s_Mo_push_91_0 (v1 : Int32) (v3 : Int32) (k1 : Int32) (σ : nS) : Int32 × nS := ap1 (s_Mo_store k1 (σ 0 0) σ) fun σ1 => s_Mo_push_98_0 v1 (v3 + (4 : Int32)) σ1
def s_Mo_push_54_0 (v1 : Int32) (v3 : Int32) (σ : nS) : Int32 × nS := if ((v1 >>> ((0 : Int32) &&& 31)) &&& (1 : Int32)) = (1 : Int32) then (s_Mo_push_91_0 v1 v3 v3 σ) else (s_Mo_push_98_0 v1 v3 σ)
def s_Mo_push_33 (v1 : Int32) (v3 : Int32) (k0 : Int32) (σ : nS) : Int32 × nS := if k0 ≤ (0 : Int32) then (s_Mo_push_54_0 v1 v3 (up2 σ 0 13 v3)) else ((k0, σ))
def s_Mo_push (v1 : Int32) (σ : nS) : Int32 × nS := if (s_Mo_ones v1) = (0 : Int32) then (s_Mo_push_33 v1 ((σ 0 13) - ((4 : Int32) * (s_Mo_ones v1))) (6 : Int32) σ) else (s_Mo_push_33 v1 ((σ 0 13) - ((4 : Int32) * (s_Mo_ones v1))) (s_Mo_faultOf ((σ 0 13) - ((4 : Int32) * (s_Mo_ones v1))) (s_Mo_ones v1) (2 : Int32) σ) σ)
def o_Mo_push_54_9 (v1 : Int32) (v3 : Int32) (σ : nS) : Prop := True
def o_Mo_push_98_8 (v1 : Int32) (v3 : Int32) (σ : nS) : Prop := o_Mo_push_54_9 v1 v3 σ
def o_Mo_push_91_8 (v1 : Int32) (v3 : Int32) (k1 : Int32) (σ : nS) : Prop := o_Mo_store k1 (σ 0 14) σ ∧ (ap1 (s_Mo_store k1 (σ 0 14) σ) fun σ1 => (o_Mo_push_98_8 v1 (v3 + (4 : Int32)) σ1))
def o_Mo_push_54_8 (v1 : Int32) (v3 : Int32) (σ : nS) : Prop := if ((v1 >>> ((8 : Int32) &&& 31)) &&& (1 : Int32)) = (1 : Int32) then (o_Mo_push_91_8 v1 v3 v3 σ) else (o_Mo_push_98_8 v1 v3 σ)
def o_Mo_push_98_7 (v1 : Int32) (v3 : Int32) (σ : nS) : Prop := o_Mo_push_54_8 v1 v3 σ
def o_Mo_push_91_7 (v1 : Int32) (v3 : Int32) (k1 : Int32) (σ : nS) : Prop := o_Mo_store k1 (σ 0 7) σ ∧ (ap1 (s_Mo_store k1 (σ 0 7) σ) fun σ1 => (o_Mo_push_98_7 v1 (v3 + (4 : Int32)) σ1))
def o_Mo_push_54_7 (v1 : Int32) (v3 : Int32) (σ : nS) : Prop := if ((v1 >>> ((7 : Int32) &&& 31)) &&& (1 : Int32)) = (1 : Int32) then (o_Mo_push_91_7 v1 v3 v3 σ) else (o_Mo_push_98_7 v1 v3 σ)
def o_Mo_push_98_6 (v1 : Int32) (v3 : Int32) (σ : nS) : Prop := o_Mo_push_54_7 v1 v3 σ
def o_Mo_push_91_6 (v1 : Int32) (v3 : Int32) (k1 : Int32) (σ : nS) : Prop := o_Mo_store k1 (σ 0 6) σ ∧ (ap1 (s_Mo_store k1 (σ 0 6) σ) fun σ1 => (o_Mo_push_98_6 v1 (v3 + (4 : Int32)) σ1))
def o_Mo_push_54_6 (v1 : Int32) (v3 : Int32) (σ : nS) : Prop := if ((v1 >>> ((6 : Int32) &&& 31)) &&& (1 : Int32)) = (1 : Int32) then (o_Mo_push_91_6 v1 v3 v3 σ) else (o_Mo_push_98_6 v1 v3 σ)
def o_Mo_push_98_5 (v1 : Int32) (v3 : Int32) (σ : nS) : Prop := o_Mo_push_54_6 v1 v3 σ
def o_Mo_push_91_5 (v1 : Int32) (v3 : Int32) (k1 : Int32) (σ : nS) : Prop := o_Mo_store k1 (σ 0 5) σ ∧ (ap1 (s_Mo_store k1 (σ 0 5) σ) fun σ1 => (o_Mo_push_98_5 v1 (v3 + (4 : Int32)) σ1))
def o_Mo_push_54_5 (v1 : Int32) (v3 : Int32) (σ : nS) : Prop := if ((v1 >>> ((5 : Int32) &&& 31)) &&& (1 : Int32)) = (1 : Int32) then (o_Mo_push_91_5 v1 v3 v3 σ) else (o_Mo_push_98_5 v1 v3 σ)
def o_Mo_push_98_4 (v1 : Int32) (v3 : Int32) (σ : nS) : Prop := o_Mo_push_54_5 v1 v3 σ
def o_Mo_push_91_4 (v1 : Int32) (v3 : Int32) (k1 : Int32) (σ : nS) : Prop := o_Mo_store k1 (σ 0 4) σ ∧ (ap1 (s_Mo_store k1 (σ 0 4) σ) fun σ1 => (o_Mo_push_98_4 v1 (v3 + (4 : Int32)) σ1))
def o_Mo_push_54_4 (v1 : Int32) (v3 : Int32) (σ : nS) : Prop := if ((v1 >>> ((4 : Int32) &&& 31)) &&& (1 : Int32)) = (1 : Int32) then (o_Mo_push_91_4 v1 v3 v3 σ) else (o_Mo_push_98_4 v1 v3 σ)
def o_Mo_push_98_3 (v1 : Int32) (v3 : Int32) (σ : nS) : Prop := o_Mo_push_54_4 v1 v3 σ
def o_Mo_push_91_3 (v1 : Int32) (v3 : Int32) (k1 : Int32) (σ : nS) : Prop := o_Mo_store k1 (σ 0 3) σ ∧ (ap1 (s_Mo_store k1 (σ 0 3) σ) fun σ1 => (o_Mo_push_98_3 v1 (v3 + (4 : Int32)) σ1))
def o_Mo_push_54_3 (v1 : Int32) (v3 : Int32) (σ : nS) : Prop := if ((v1 >>> ((3 : Int32) &&& 31)) &&& (1 : Int32)) = (1 : Int32) then (o_Mo_push_91_3 v1 v3 v3 σ) else (o_Mo_push_98_3 v1 v3 σ)
def o_Mo_push_98_2 (v1 : Int32) (v3 : Int32) (σ : nS) : Prop := o_Mo_push_54_3 v1 v3 σ
def o_Mo_push_91_2 (v1 : Int32) (v3 : Int32) (k1 : Int32) (σ : nS) : Prop := o_Mo_store k1 (σ 0 2) σ ∧ (ap1 (s_Mo_store k1 (σ 0 2) σ) fun σ1 => (o_Mo_push_98_2 v1 (v3 + (4 : Int32)) σ1))
def o_Mo_push_54_2 (v1 : Int32) (v3 : Int32) (σ : nS) : Prop := if ((v1 >>> ((2 : Int32) &&& 31)) &&& (1 : Int32)) = (1 : Int32) then (o_Mo_push_91_2 v1 v3 v3 σ) else (o_Mo_push_98_2 v1 v3 σ)
def o_Mo_push_98_1 (v1 : Int32) (v3 : Int32) (σ : nS) : Prop := o_Mo_push_54_2 v1 v3 σ
def o_Mo_push_91_1 (v1 : Int32) (v3 : Int32) (k1 : Int32) (σ : nS) : Prop := o_Mo_store k1 (σ 0 1) σ ∧ (ap1 (s_Mo_store k1 (σ 0 1) σ) fun σ1 => (o_Mo_push_98_1 v1 (v3 + (4 : Int32)) σ1))
def o_Mo_push_54_1 (v1 : Int32) (v3 : Int32) (σ : nS) : Prop := if ((v1 >>> ((1 : Int32) &&& 31)) &&& (1 : Int32)) = (1 : Int32) then (o_Mo_push_91_1 v1 v3 v3 σ) else (o_Mo_push_98_1 v1 v3 σ)
def o_Mo_push_98_0 (v1 : Int32) (v3 : Int32) (σ : nS) : Prop := o_Mo_push_54_1 v1 v3 σ
def o_Mo_push_91_0 (v1 : Int32) (v3 : Int32) (k1 : Int32) (σ : nS) : Prop := o_Mo_store k1 (σ 0 0) σ ∧ (ap1 (s_Mo_store k1 (σ 0 0) σ) fun σ1 => (o_Mo_push_98_0 v1 (v3 + (4 : Int32)) σ1))
def o_Mo_push_54_0 (v1 : Int32) (v3 : Int32) (σ : nS) : Prop := if ((v1 >>> ((0 : Int32) &&& 31)) &&& (1 : Int32)) = (1 : Int32) then (o_Mo_push_91_0 v1 v3 v3 σ) else (o_Mo_push_98_0 v1 v3 σ)
def o_Mo_push_33 (v1 : Int32) (v3 : Int32) (k0 : Int32) (σ : nS) : Prop := if k0 ≤ (0 : Int32) then (o_Mo_push_54_0 v1 v3 (up2 σ 0 13 v3)) else (True)
def o_Mo_push (v1 : Int32) (σ : nS) : Prop := if (s_Mo_ones v1) = (0 : Int32) then (o_Mo_push_33 v1 ((σ 0 13) - ((4 : Int32) * (s_Mo_ones v1))) (6 : Int32) σ) else (o_Mo_faultOf ((σ 0 13) - ((4 : Int32) * (s_Mo_ones v1))) (s_Mo_ones v1) (2 : Int32) σ ∧ (o_Mo_push_33 v1 ((σ 0 13) - ((4 : Int32) * (s_Mo_ones v1))) (s_Mo_faultOf ((σ 0 13) - ((4 : Int32) * (s_Mo_ones v1))) (s_Mo_ones v1) (2 : Int32) σ) σ))
def s_Mo_pop_215 (σ : nS) : Int32 × nS := ((0 : Int32), σ)
def s_Mo_pop_122_8 (v1 : Int32) (v3 : Int32) (v5 : Int32) (v6 : Int32) (v7 : Bool) (v8 : Int32) (σ : nS) : Int32 × nS := if v7 = true then (((0 : Int32), σ)) else (if v1 ≤ (255 : Int32) then (s_Mo_pop_215 (up2 σ 0 13 v5)) else (s_Mo_pop_215 (up2 (up2 σ 0 13 v5) 0 15 (v6 &&& (-2 : Int32)))))
def s_Mo_pop_174_7 (v1 : Int32) (v3 : Int32) (v5 : Int32) (v6 : Int32) (v7 : Bool) (v8 : Int32) (σ : nS) : Int32 × nS := s_Mo_pop_122_8 v1 v3 v5 v6 v7 v8 σ
def s_Mo_pop_171_7 (v1 : Int32) (v3 : Int32) (v5 : Int32) (v6 : Int32) (v7 : Bool) (v8 : Int32) (σ : nS) : Int32 × nS := s_Mo_pop_174_7 v1 (v3 + (4 : Int32)) v5 v6 v7 v8 σ
def s_Mo_pop_159_7 (v1 : Int32) (v3 : Int32) (v5 : Int32) (v6 : Int32) (v7 : Bool) (v8 : Int32) (σ : nS) : Int32 × nS := s_Mo_pop_171_7 v1 v3 v5 v6 v7 v8 (up2 σ 0 7 (s_Mo_load v3 σ))
def s_Mo_pop_122_7 (v1 : Int32) (v3 : Int32) (v5 : Int32) (v6 : Int32) (v7 : Bool) (v8 : Int32) (σ : nS) : Int32 × nS := if ((v1 >>> ((7 : Int32) &&& 31)) &&& (1 : Int32)) = (1 : Int32) then (if v7 = true then (s_Mo_pop_159_7 v1 v3 v5 v6 v7 v8 σ) else (s_Mo_pop_159_7 v1 v3 v5 v6 v7 v8 σ)) else (s_Mo_pop_174_7 v1 v3 v5 v6 v7 v8 σ)
def s_Mo_pop_174_6 (v1 : Int32) (v3 : Int32) (v5 : Int32) (v6 : Int32) (v7 : Bool) (v8 : Int32) (σ : nS) : Int32 × nS := s_Mo_pop_122_7 v1 v3 v5 v6 v7 v8 σ
def s_Mo_pop_171_6 (v1 : Int32) (v3 : Int32) (v5 : Int32) (v6 : Int32) (v7 : Bool) (v8 : Int32) (σ : nS) : Int32 × nS := s_Mo_pop_174_6 v1 (v3 + (4 : Int32)) v5 v6 v7 v8 σ
def s_Mo_pop_159_6 (v1 : Int32) (v3 : Int32) (v5 : Int32) (v6 : Int32) (v7 : Bool) (v8 : Int32) (σ : nS) : Int32 × nS := s_Mo_pop_171_6 v1 v3 v5 v6 v7 v8 (up2 σ 0 6 (s_Mo_load v3 σ))
def s_Mo_pop_122_6 (v1 : Int32) (v3 : Int32) (v5 : Int32) (v6 : Int32) (v7 : Bool) (v8 : Int32) (σ : nS) : Int32 × nS := if ((v1 >>> ((6 : Int32) &&& 31)) &&& (1 : Int32)) = (1 : Int32) then (if v7 = true then (s_Mo_pop_159_6 v1 v3 v5 v6 v7 v8 σ) else (s_Mo_pop_159_6 v1 v3 v5 v6 v7 v8 σ)) else (s_Mo_pop_174_6 v1 v3 v5 v6 v7 v8 σ)
def s_Mo_pop_174_5 (v1 : Int32) (v3 : Int32) (v5 : Int32) (v6 : Int32) (v7 : Bool) (v8 : Int32) (σ : nS) : Int32 × nS := s_Mo_pop_122_6 v1 v3 v5 v6 v7 v8 σ
def s_Mo_pop_171_5 (v1 : Int32) (v3 : Int32) (v5 : Int32) (v6 : Int32) (v7 : Bool) (v8 : Int32) (σ : nS) : Int32 × nS := s_Mo_pop_174_5 v1 (v3 + (4 : Int32)) v5 v6 v7 v8 σ
def s_Mo_pop_159_5 (v1 : Int32) (v3 : Int32) (v5 : Int32) (v6 : Int32) (v7 : Bool) (v8 : Int32) (σ : nS) : Int32 × nS := s_Mo_pop_171_5 v1 v3 v5 v6 v7 v8 (up2 σ 0 5 (s_Mo_load v3 σ))
def s_Mo_pop_122_5 (v1 : Int32) (v3 : Int32) (v5 : Int32) (v6 : Int32) (v7 : Bool) (v8 : Int32) (σ : nS) : Int32 × nS := if ((v1 >>> ((5 : Int32) &&& 31)) &&& (1 : Int32)) = (1 : Int32) then (if v7 = true then (s_Mo_pop_159_5 v1 v3 v5 v6 v7 v8 σ) else (s_Mo_pop_159_5 v1 v3 v5 v6 v7 v8 σ)) else (s_Mo_pop_174_5 v1 v3 v5 v6 v7 v8 σ)
def s_Mo_pop_174_4 (v1 : Int32) (v3 : Int32) (v5 : Int32) (v6 : Int32) (v7 : Bool) (v8 : Int32) (σ : nS) : Int32 × nS := s_Mo_pop_122_5 v1 v3 v5 v6 v7 v8 σ
def s_Mo_pop_171_4 (v1 : Int32) (v3 : Int32) (v5 : Int32) (v6 : Int32) (v7 : Bool) (v8 : Int32) (σ : nS) : Int32 × nS := s_Mo_pop_174_4 v1 (v3 + (4 : Int32)) v5 v6 v7 v8 σ
def s_Mo_pop_159_4 (v1 : Int32) (v3 : Int32) (v5 : Int32) (v6 : Int32) (v7 : Bool) (v8 : Int32) (σ : nS) : Int32 × nS := s_Mo_pop_171_4 v1 v3 v5 v6 v7 v8 (up2 σ 0 4 (s_Mo_load v3 σ))
def s_Mo_pop_122_4 (v1 : Int32) (v3 : Int32) (v5 : Int32) (v6 : Int32) (v7 : Bool) (v8 : Int32) (σ : nS) : Int32 × nS := if ((v1 >>> ((4 : Int32) &&& 31)) &&& (1 : Int32)) = (1 : Int32) then (if v7 = true then (s_Mo_pop_159_4 v1 v3 v5 v6 v7 v8 σ) else (s_Mo_pop_159_4 v1 v3 v5 v6 v7 v8 σ)) else (s_Mo_pop_174_4 v1 v3 v5 v6 v7 v8 σ)
def s_Mo_pop_174_3 (v1 : Int32) (v3 : Int32) (v5 : Int32) (v6 : Int32) (v7 : Bool) (v8 : Int32) (σ : nS) : Int32 × nS := s_Mo_pop_122_4 v1 v3 v5 v6 v7 v8 σ
def s_Mo_pop_171_3 (v1 : Int32) (v3 : Int32) (v5 : Int32) (v6 : Int32) (v7 : Bool) (v8 : Int32) (σ : nS) : Int32 × nS := s_Mo_pop_174_3 v1 (v3 + (4 : Int32)) v5 v6 v7 v8 σ
def s_Mo_pop_159_3 (v1 : Int32) (v3 : Int32) (v5 : Int32) (v6 : Int32) (v7 : Bool) (v8 : Int32) (σ : nS) : Int32 × nS := s_Mo_pop_171_3 v1 v3 v5 v6 v7 v8 (up2 σ 0 3 (s_Mo_load v3 σ))
def s_Mo_pop_122_3 (v1 : Int32) (v3 : Int32) (v5 : Int32) (v6 : Int32) (v7 : Bool) (v8 : Int32) (σ : nS) : Int32 × nS := if ((v1 >>> ((3 : Int32) &&& 31)) &&& (1 : Int32)) = (1 : Int32) then (if v7 = true then (if (σ 8 13) ≤ v8 then (s_Mo_pop_171_3 v1 v3 v5 v6 v7 v8 σ) else (s_Mo_pop_159_3 v1 v3 v5 v6 v7 v8 σ)) else (s_Mo_pop_159_3 v1 v3 v5 v6 v7 v8 σ)) else (s_Mo_pop_174_3 v1 v3 v5 v6 v7 v8 σ)
def s_Mo_pop_174_2 (v1 : Int32) (v3 : Int32) (v5 : Int32) (v6 : Int32) (v7 : Bool) (v8 : Int32) (σ : nS) : Int32 × nS := s_Mo_pop_122_3 v1 v3 v5 v6 v7 v8 σ
def s_Mo_pop_171_2 (v1 : Int32) (v3 : Int32) (v5 : Int32) (v6 : Int32) (v7 : Bool) (v8 : Int32) (σ : nS) : Int32 × nS := s_Mo_pop_174_2 v1 (v3 + (4 : Int32)) v5 v6 v7 v8 σ
def s_Mo_pop_159_2 (v1 : Int32) (v3 : Int32) (v5 : Int32) (v6 : Int32) (v7 : Bool) (v8 : Int32) (σ : nS) : Int32 × nS := s_Mo_pop_171_2 v1 v3 v5 v6 v7 v8 (up2 σ 0 2 (s_Mo_load v3 σ))
def s_Mo_pop_122_2 (v1 : Int32) (v3 : Int32) (v5 : Int32) (v6 : Int32) (v7 : Bool) (v8 : Int32) (σ : nS) : Int32 × nS := if ((v1 >>> ((2 : Int32) &&& 31)) &&& (1 : Int32)) = (1 : Int32) then (if v7 = true then (if (σ 8 13) ≤ v8 then (s_Mo_pop_171_2 v1 v3 v5 v6 v7 v8 σ) else (s_Mo_pop_159_2 v1 v3 v5 v6 v7 v8 σ)) else (s_Mo_pop_159_2 v1 v3 v5 v6 v7 v8 σ)) else (s_Mo_pop_174_2 v1 v3 v5 v6 v7 v8 σ)
def s_Mo_pop_174_1 (v1 : Int32) (v3 : Int32) (v5 : Int32) (v6 : Int32) (v7 : Bool) (v8 : Int32) (σ : nS) : Int32 × nS := s_Mo_pop_122_2 v1 v3 v5 v6 v7 v8 σ
def s_Mo_pop_171_1 (v1 : Int32) (v3 : Int32) (v5 : Int32) (v6 : Int32) (v7 : Bool) (v8 : Int32) (σ : nS) : Int32 × nS := s_Mo_pop_174_1 v1 (v3 + (4 : Int32)) v5 v6 v7 v8 σ
def s_Mo_pop_159_1 (v1 : Int32) (v3 : Int32) (v5 : Int32) (v6 : Int32) (v7 : Bool) (v8 : Int32) (σ : nS) : Int32 × nS := s_Mo_pop_171_1 v1 v3 v5 v6 v7 v8 (up2 σ 0 1 (s_Mo_load v3 σ))
def s_Mo_pop_122_1 (v1 : Int32) (v3 : Int32) (v5 : Int32) (v6 : Int32) (v7 : Bool) (v8 : Int32) (σ : nS) : Int32 × nS := if ((v1 >>> ((1 : Int32) &&& 31)) &&& (1 : Int32)) = (1 : Int32) then (if v7 = true then (if (σ 8 13) ≤ v8 then (s_Mo_pop_171_1 v1 v3 v5 v6 v7 v8 σ) else (s_Mo_pop_159_1 v1 v3 v5 v6 v7 v8 σ)) else (s_Mo_pop_159_1 v1 v3 v5 v6 v7 v8 σ)) else (s_Mo_pop_174_1 v1 v3 v5 v6 v7 v8 σ)
def s_Mo_pop_174_0 (v1 : Int32) (v3 : Int32) (v5 : Int32) (v6 : Int32) (v7 : Bool) (v8 : Int32) (σ : nS) : Int32 × nS := s_Mo_pop_122_1 v1 v3 v5 v6 v7 v8 σ
def s_Mo_pop_171_0 (v1 : Int32) (v3 : Int32) (v5 : Int32) (v6 : Int32) (v7 : Bool) (v8 : Int32) (σ : nS) : Int32 × nS := s_Mo_pop_174_0 v1 (v3 + (4 : Int32)) v5 v6 v7 v8 σ
def s_Mo_pop_159_0 (v1 : Int32) (v3 : Int32) (v5 : Int32) (v6 : Int32) (v7 : Bool) (v8 : Int32) (σ : nS) : Int32 × nS := s_Mo_pop_171_0 v1 v3 v5 v6 v7 v8 (up2 σ 0 0 (s_Mo_load v3 σ))
def s_Mo_pop_122_0 (v1 : Int32) (v3 : Int32) (v5 : Int32) (v6 : Int32) (v7 : Bool) (v8 : Int32) (σ : nS) : Int32 × nS := if ((v1 >>> ((0 : Int32) &&& 31)) &&& (1 : Int32)) = (1 : Int32) then (if v7 = true then (if (σ 8 13) ≤ v8 then (s_Mo_pop_171_0 v1 v3 v5 v6 v7 v8 σ) else (s_Mo_pop_159_0 v1 v3 v5 v6 v7 v8 σ)) else (s_Mo_pop_159_0 v1 v3 v5 v6 v7 v8 σ)) else (s_Mo_pop_174_0 v1 v3 v5 v6 v7 v8 σ)
def s_Mo_pop_119 (v1 : Int32) (v3 : Int32) (v5 : Int32) (v6 : Int32) (v7 : Bool) (v8 : Int32) (σ : nS) : Int32 × nS := s_Mo_pop_122_0 v1 v3 v5 v6 v7 v8 σ
def s_Mo_pop_88 (v1 : Int32) (v3 : Int32) (v5 : Int32) (v6 : Int32) (k0 : Bool) (σ : nS) : Int32 × nS := if k0 = true then (ap2 (s_Mo_jump v6 v5 σ) fun r1 σ1 => if r1 ≤ (0 : Int32) then (s_Mo_pop_119 v1 v3 v5 v6 k0 (σ 8 13) σ1) else ((r1, σ1))) else (s_Mo_pop_119 v1 v3 v5 v6 k0 (σ 8 13) σ)
def s_Mo_pop_87 (v1 : Int32) (v3 : Int32) (v5 : Int32) (v6 : Int32) (σ : nS) : Int32 × nS := s_Mo_pop_88 v1 v3 v5 v6 false σ
def s_Mo_pop_65 (v1 : Int32) (v3 : Int32) (v5 : Int32) (k0 : Int32) (σ : nS) : Int32 × nS := if v1 ≤ (255 : Int32) then (s_Mo_pop_87 v1 v3 v5 k0 σ) else (if (s_Mo_isReturn k0 σ) = true then (s_Mo_pop_88 v1 v3 v5 k0 true σ) else (s_Mo_pop_87 v1 v3 v5 k0 σ))
def s_Mo_pop_29 (v1 : Int32) (v2 : Int32) (v3 : Int32) (k0 : Int32) (σ : nS) : Int32 × nS := if k0 ≤ (0 : Int32) then (if v1 ≤ (255 : Int32) then (s_Mo_pop_65 v1 v3 (v3 + ((4 : Int32) * v2)) (0 : Int32) σ) else (s_Mo_pop_65 v1 v3 (v3 + ((4 : Int32) * v2)) (s_Mo_load ((v3 + ((4 : Int32) * v2)) - (4 : Int32)) σ) σ)) else ((k0, σ))
def s_Mo_pop (v1 : Int32) (σ : nS) : Int32 × nS := if (s_Mo_ones v1) = (0 : Int32) then (s_Mo_pop_29 v1 (s_Mo_ones v1) (σ 0 13) (6 : Int32) σ) else (s_Mo_pop_29 v1 (s_Mo_ones v1) (σ 0 13) (s_Mo_faultOf (σ 0 13) (s_Mo_ones v1) (1 : Int32) σ) σ)
def o_Mo_pop_215 (σ : nS) : Prop := True
def o_Mo_pop_122_8 (v1 : Int32) (v3 : Int32) (v5 : Int32) (v6 : Int32) (v7 : Bool) (v8 : Int32) (σ : nS) : Prop := if v7 = true then (True) else (if v1 ≤ (255 : Int32) then (o_Mo_pop_215 (up2 σ 0 13 v5)) else (o_Mo_pop_215 (up2 (up2 σ 0 13 v5) 0 15 (v6 &&& (-2 : Int32)))))
def o_Mo_pop_174_7 (v1 : Int32) (v3 : Int32) (v5 : Int32) (v6 : Int32) (v7 : Bool) (v8 : Int32) (σ : nS) : Prop := o_Mo_pop_122_8 v1 v3 v5 v6 v7 v8 σ
def o_Mo_pop_171_7 (v1 : Int32) (v3 : Int32) (v5 : Int32) (v6 : Int32) (v7 : Bool) (v8 : Int32) (σ : nS) : Prop := o_Mo_pop_174_7 v1 (v3 + (4 : Int32)) v5 v6 v7 v8 σ
def o_Mo_pop_159_7 (v1 : Int32) (v3 : Int32) (v5 : Int32) (v6 : Int32) (v7 : Bool) (v8 : Int32) (σ : nS) : Prop := o_Mo_load v3 σ ∧ (o_Mo_pop_171_7 v1 v3 v5 v6 v7 v8 (up2 σ 0 7 (s_Mo_load v3 σ)))
def o_Mo_pop_122_7 (v1 : Int32) (v3 : Int32) (v5 : Int32) (v6 : Int32) (v7 : Bool) (v8 : Int32) (σ : nS) : Prop := if ((v1 >>> ((7 : Int32) &&& 31)) &&& (1 : Int32)) = (1 : Int32) then (if v7 = true then (o_Mo_pop_159_7 v1 v3 v5 v6 v7 v8 σ) else (o_Mo_pop_159_7 v1 v3 v5 v6 v7 v8 σ)) else (o_Mo_pop_174_7 v1 v3 v5 v6 v7 v8 σ)
def o_Mo_pop_174_6 (v1 : Int32) (v3 : Int32) (v5 : Int32) (v6 : Int32) (v7 : Bool) (v8 : Int32) (σ : nS) : Prop := o_Mo_pop_122_7 v1 v3 v5 v6 v7 v8 σ
def o_Mo_pop_171_6 (v1 : Int32) (v3 : Int32) (v5 : Int32) (v6 : Int32) (v7 : Bool) (v8 : Int32) (σ : nS) : Prop := o_Mo_pop_174_6 v1 (v3 + (4 : Int32)) v5 v6 v7 v8 σ
def o_Mo_pop_159_6 (v1 : Int32) (v3 : Int32) (v5 : Int32) (v6 : Int32) (v7 : Bool) (v8 : Int32) (σ : nS) : Prop := o_Mo_load v3 σ ∧ (o_Mo_pop_171_6 v1 v3 v5 v6 v7 v8 (up2 σ 0 6 (s_Mo_load v3 σ)))
def o_Mo_pop_122_6 (v1 : Int32) (v3 : Int32) (v5 : Int32) (v6 : Int32) (v7 : Bool) (v8 : Int32) (σ : nS) : Prop := if ((v1 >>> ((6 : Int32) &&& 31)) &&& (1 : Int32)) = (1 : Int32) then (if v7 = true then (o_Mo_pop_159_6 v1 v3 v5 v6 v7 v8 σ) else (o_Mo_pop_159_6 v1 v3 v5 v6 v7 v8 σ)) else (o_Mo_pop_174_6 v1 v3 v5 v6 v7 v8 σ)
def o_Mo_pop_174_5 (v1 : Int32) (v3 : Int32) (v5 : Int32) (v6 : Int32) (v7 : Bool) (v8 : Int32) (σ : nS) : Prop := o_Mo_pop_122_6 v1 v3 v5 v6 v7 v8 σ
def o_Mo_pop_171_5 (v1 : Int32) (v3 : Int32) (v5 : Int32) (v6 : Int32) (v7 : Bool) (v8 : Int32) (σ : nS) : Prop := o_Mo_pop_174_5 v1 (v3 + (4 : Int32)) v5 v6 v7 v8 σ
def o_Mo_pop_159_5 (v1 : Int32) (v3 : Int32) (v5 : Int32) (v6 : Int32) (v7 : Bool) (v8 : Int32) (σ : nS) : Prop := o_Mo_load v3 σ ∧ (o_Mo_pop_171_5 v1 v3 v5 v6 v7 v8 (up2 σ 0 5 (s_Mo_load v3 σ)))
def o_Mo_pop_122_5 (v1 : Int32) (v3 : Int32) (v5 : Int32) (v6 : Int32) (v7 : Bool) (v8 : Int32) (σ : nS) : Prop := if ((v1 >>> ((5 : Int32) &&& 31)) &&& (1 : Int32)) = (1 : Int32) then (if v7 = true then (o_Mo_pop_159_5 v1 v3 v5 v6 v7 v8 σ) else (o_Mo_pop_159_5 v1 v3 v5 v6 v7 v8 σ)) else (o_Mo_pop_174_5 v1 v3 v5 v6 v7 v8 σ)
def o_Mo_pop_174_4 (v1 : Int32) (v3 : Int32) (v5 : Int32) (v6 : Int32) (v7 : Bool) (v8 : Int32) (σ : nS) : Prop := o_Mo_pop_122_5 v1 v3 v5 v6 v7 v8 σ
def o_Mo_pop_171_4 (v1 : Int32) (v3 : Int32) (v5 : Int32) (v6 : Int32) (v7 : Bool) (v8 : Int32) (σ : nS) : Prop := o_Mo_pop_174_4 v1 (v3 + (4 : Int32)) v5 v6 v7 v8 σ
def o_Mo_pop_159_4 (v1 : Int32) (v3 : Int32) (v5 : Int32) (v6 : Int32) (v7 : Bool) (v8 : Int32) (σ : nS) : Prop := o_Mo_load v3 σ ∧ (o_Mo_pop_171_4 v1 v3 v5 v6 v7 v8 (up2 σ 0 4 (s_Mo_load v3 σ)))
def o_Mo_pop_122_4 (v1 : Int32) (v3 : Int32) (v5 : Int32) (v6 : Int32) (v7 : Bool) (v8 : Int32) (σ : nS) : Prop := if ((v1 >>> ((4 : Int32) &&& 31)) &&& (1 : Int32)) = (1 : Int32) then (if v7 = true then (o_Mo_pop_159_4 v1 v3 v5 v6 v7 v8 σ) else (o_Mo_pop_159_4 v1 v3 v5 v6 v7 v8 σ)) else (o_Mo_pop_174_4 v1 v3 v5 v6 v7 v8 σ)
def o_Mo_pop_174_3 (v1 : Int32) (v3 : Int32) (v5 : Int32) (v6 : Int32) (v7 : Bool) (v8 : Int32) (σ : nS) : Prop := o_Mo_pop_122_4 v1 v3 v5 v6 v7 v8 σ
def o_Mo_pop_171_3 (v1 : Int32) (v3 : Int32) (v5 : Int32) (v6 : Int32) (v7 : Bool) (v8 : Int32) (σ : nS) : Prop := o_Mo_pop_174_3 v1 (v3 + (4 : Int32)) v5 v6 v7 v8 σ
def o_Mo_pop_159_3 (v1 : Int32) (v3 : Int32) (v5 : Int32) (v6 : Int32) (v7 : Bool) (v8 : Int32) (σ : nS) : Prop := o_Mo_load v3 σ ∧ (o_Mo_pop_171_3 v1 v3 v5 v6 v7 v8 (up2 σ 0 3 (s_Mo_load v3 σ)))
def o_Mo_pop_122_3 (v1 : Int32) (v3 : Int32) (v5 : Int32) (v6 : Int32) (v7 : Bool) (v8 : Int32) (σ : nS) : Prop := if ((v1 >>> ((3 : Int32) &&& 31)) &&& (1 : Int32)) = (1 : Int32) then (if v7 = true then (if (σ 8 13) ≤ v8 then (o_Mo_pop_171_3 v1 v3 v5 v6 v7 v8 σ) else (o_Mo_pop_159_3 v1 v3 v5 v6 v7 v8 σ)) else (o_Mo_pop_159_3 v1 v3 v5 v6 v7 v8 σ)) else (o_Mo_pop_174_3 v1 v3 v5 v6 v7 v8 σ)
def o_Mo_pop_174_2 (v1 : Int32) (v3 : Int32) (v5 : Int32) (v6 : Int32) (v7 : Bool) (v8 : Int32) (σ : nS) : Prop := o_Mo_pop_122_3 v1 v3 v5 v6 v7 v8 σ
def o_Mo_pop_171_2 (v1 : Int32) (v3 : Int32) (v5 : Int32) (v6 : Int32) (v7 : Bool) (v8 : Int32) (σ : nS) : Prop := o_Mo_pop_174_2 v1 (v3 + (4 : Int32)) v5 v6 v7 v8 σ
def o_Mo_pop_159_2 (v1 : Int32) (v3 : Int32) (v5 : Int32) (v6 : Int32) (v7 : Bool) (v8 : Int32) (σ : nS) : Prop := o_Mo_load v3 σ ∧ (o_Mo_pop_171_2 v1 v3 v5 v6 v7 v8 (up2 σ 0 2 (s_Mo_load v3 σ)))
def o_Mo_pop_122_2 (v1 : Int32) (v3 : Int32) (v5 : Int32) (v6 : Int32) (v7 : Bool) (v8 : Int32) (σ : nS) : Prop := if ((v1 >>> ((2 : Int32) &&& 31)) &&& (1 : Int32)) = (1 : Int32) then (if v7 = true then (if (σ 8 13) ≤ v8 then (o_Mo_pop_171_2 v1 v3 v5 v6 v7 v8 σ) else (o_Mo_pop_159_2 v1 v3 v5 v6 v7 v8 σ)) else (o_Mo_pop_159_2 v1 v3 v5 v6 v7 v8 σ)) else (o_Mo_pop_174_2 v1 v3 v5 v6 v7 v8 σ)
def o_Mo_pop_174_1 (v1 : Int32) (v3 : Int32) (v5 : Int32) (v6 : Int32) (v7 : Bool) (v8 : Int32) (σ : nS) : Prop := o_Mo_pop_122_2 v1 v3 v5 v6 v7 v8 σ
def o_Mo_pop_171_1 (v1 : Int32) (v3 : Int32) (v5 : Int32) (v6 : Int32) (v7 : Bool) (v8 : Int32) (σ : nS) : Prop := o_Mo_pop_174_1 v1 (v3 + (4 : Int32)) v5 v6 v7 v8 σ
def o_Mo_pop_159_1 (v1 : Int32) (v3 : Int32) (v5 : Int32) (v6 : Int32) (v7 : Bool) (v8 : Int32) (σ : nS) : Prop := o_Mo_load v3 σ ∧ (o_Mo_pop_171_1 v1 v3 v5 v6 v7 v8 (up2 σ 0 1 (s_Mo_load v3 σ)))
def o_Mo_pop_122_1 (v1 : Int32) (v3 : Int32) (v5 : Int32) (v6 : Int32) (v7 : Bool) (v8 : Int32) (σ : nS) : Prop := if ((v1 >>> ((1 : Int32) &&& 31)) &&& (1 : Int32)) = (1 : Int32) then (if v7 = true then (if (σ 8 13) ≤ v8 then (o_Mo_pop_171_1 v1 v3 v5 v6 v7 v8 σ) else (o_Mo_pop_159_1 v1 v3 v5 v6 v7 v8 σ)) else (o_Mo_pop_159_1 v1 v3 v5 v6 v7 v8 σ)) else (o_Mo_pop_174_1 v1 v3 v5 v6 v7 v8 σ)
def o_Mo_pop_174_0 (v1 : Int32) (v3 : Int32) (v5 : Int32) (v6 : Int32) (v7 : Bool) (v8 : Int32) (σ : nS) : Prop := o_Mo_pop_122_1 v1 v3 v5 v6 v7 v8 σ
def o_Mo_pop_171_0 (v1 : Int32) (v3 : Int32) (v5 : Int32) (v6 : Int32) (v7 : Bool) (v8 : Int32) (σ : nS) : Prop := o_Mo_pop_174_0 v1 (v3 + (4 : Int32)) v5 v6 v7 v8 σ
def o_Mo_pop_159_0 (v1 : Int32) (v3 : Int32) (v5 : Int32) (v6 : Int32) (v7 : Bool) (v8 : Int32) (σ : nS) : Prop := o_Mo_load v3 σ ∧ (o_Mo_pop_171_0 v1 v3 v5 v6 v7 v8 (up2 σ 0 0 (s_Mo_load v3 σ)))
def o_Mo_pop_122_0 (v1 : Int32) (v3 : Int32) (v5 : Int32) (v6 : Int32) (v7 : Bool) (v8 : Int32) (σ : nS) : Prop := if ((v1 >>> ((0 : Int32) &&& 31)) &&& (1 : Int32)) = (1 : Int32) then (if v7 = true then (if (σ 8 13) ≤ v8 then (o_Mo_pop_171_0 v1 v3 v5 v6 v7 v8 σ) else (o_Mo_pop_159_0 v1 v3 v5 v6 v7 v8 σ)) else (o_Mo_pop_159_0 v1 v3 v5 v6 v7 v8 σ)) else (o_Mo_pop_174_0 v1 v3 v5 v6 v7 v8 σ)
def o_Mo_pop_119 (v1 : Int32) (v3 : Int32) (v5 : Int32) (v6 : Int32) (v7 : Bool) (v8 : Int32) (σ : nS) : Prop := o_Mo_pop_122_0 v1 v3 v5 v6 v7 v8 σ
def o_Mo_pop_88 (v1 : Int32) (v3 : Int32) (v5 : Int32) (v6 : Int32) (k0 : Bool) (σ : nS) : Prop := if k0 = true then (o_Mo_jump v6 v5 σ ∧ (ap2 (s_Mo_jump v6 v5 σ) fun r1 σ1 => (if r1 ≤ (0 : Int32) then (o_Mo_pop_119 v1 v3 v5 v6 k0 (σ 8 13) σ1) else (True)))) else (o_Mo_pop_119 v1 v3 v5 v6 k0 (σ 8 13) σ)
def o_Mo_pop_87 (v1 : Int32) (v3 : Int32) (v5 : Int32) (v6 : Int32) (σ : nS) : Prop := o_Mo_pop_88 v1 v3 v5 v6 false σ
def o_Mo_pop_65 (v1 : Int32) (v3 : Int32) (v5 : Int32) (k0 : Int32) (σ : nS) : Prop := if v1 ≤ (255 : Int32) then (o_Mo_pop_87 v1 v3 v5 k0 σ) else (if (s_Mo_isReturn k0 σ) = true then (o_Mo_pop_88 v1 v3 v5 k0 true σ) else (o_Mo_pop_87 v1 v3 v5 k0 σ))
def o_Mo_pop_29 (v1 : Int32) (v2 : Int32) (v3 : Int32) (k0 : Int32) (σ : nS) : Prop := if k0 ≤ (0 : Int32) then (if v1 ≤ (255 : Int32) then (o_Mo_pop_65 v1 v3 (v3 + ((4 : Int32) * v2)) (0 : Int32) σ) else (o_Mo_load ((v3 + ((4 : Int32) * v2)) - (4 : Int32)) σ ∧ (o_Mo_pop_65 v1 v3 (v3 + ((4 : Int32) * v2)) (s_Mo_load ((v3 + ((4 : Int32) * v2)) - (4 : Int32)) σ) σ))) else (True)
def o_Mo_pop (v1 : Int32) (σ : nS) : Prop := if (s_Mo_ones v1) = (0 : Int32) then (o_Mo_pop_29 v1 (s_Mo_ones v1) (σ 0 13) (6 : Int32) σ) else (o_Mo_faultOf (σ 0 13) (s_Mo_ones v1) (1 : Int32) σ ∧ (o_Mo_pop_29 v1 (s_Mo_ones v1) (σ 0 13) (s_Mo_faultOf (σ 0 13) (s_Mo_ones v1) (1 : Int32) σ) σ))
def s_Mo_holds_53 (k0 : Int32) (k1 : Bool) (σ : nS) : Bool := if k0 = (bI k1) then (true) else (false)
def s_Mo_holds_76 (k0 : Int32) (k1 : Bool) (σ : nS) : Bool := if k0 = (bI k1) then (true) else (false)
def s_Mo_holds_99 (k0 : Int32) (k1 : Bool) (σ : nS) : Bool := if k0 = (bI k1) then (true) else (false)
def s_Mo_holds_123 (k0 : Int32) (k1 : Bool) (σ : nS) : Bool := if k0 = (bI k1) then (true) else (false)
def s_Mo_holds_162 (k0 : Bool) (k1 : Bool) (σ : nS) : Bool := if (bI k0) = (bI k1) then (true) else (false)
def s_Mo_holds_151 (v1 : Int32) (k0 : Bool) (σ : nS) : Bool := if v1 = (8 : Int32) then (s_Mo_holds_162 k0 true σ) else (s_Mo_holds_162 k0 false σ)
def s_Mo_holds_150 (v1 : Int32) (σ : nS) : Bool := s_Mo_holds_151 v1 false σ
def s_Mo_holds_198 (k0 : Bool) (k1 : Bool) (σ : nS) : Bool := if (bI k0) = (bI k1) then (true) else (false)
def s_Mo_holds_187 (v1 : Int32) (k0 : Bool) (σ : nS) : Bool := if v1 = (10 : Int32) then (s_Mo_holds_198 k0 true σ) else (s_Mo_holds_198 k0 false σ)
def s_Mo_holds_241 (k0 : Bool) (k1 : Bool) (σ : nS) : Bool := if (bI k0) = (bI k1) then (true) else (false)
def s_Mo_holds_230 (v1 : Int32) (k0 : Bool) (σ : nS) : Bool := if v1 = (12 : Int32) then (s_Mo_holds_241 k0 true σ) else (s_Mo_holds_241 k0 false σ)
def s_Mo_holds_229 (v1 : Int32) (σ : nS) : Bool := s_Mo_holds_230 v1 false σ
def s_Mo_holds (v1 : Int32) (σ : nS) : Bool := if (v1 >>> ((1 : Int32) &&& 31)) = (0 : Int32) then (if v1 = (0 : Int32) then (s_Mo_holds_53 (σ 8 5) true σ) else (s_Mo_holds_53 (σ 8 5) false σ)) else if (v1 >>> ((1 : Int32) &&& 31)) = (1 : Int32) then (if v1 = (2 : Int32) then (s_Mo_holds_76 (σ 8 6) true σ) else (s_Mo_holds_76 (σ 8 6) false σ)) else if (v1 >>> ((1 : Int32) &&& 31)) = (2 : Int32) then (if v1 = (4 : Int32) then (s_Mo_holds_99 (σ 8 4) true σ) else (s_Mo_holds_99 (σ 8 4) false σ)) else if (v1 >>> ((1 : Int32) &&& 31)) = (3 : Int32) then (if v1 = (6 : Int32) then (s_Mo_holds_123 (σ 8 7) true σ) else (s_Mo_holds_123 (σ 8 7) false σ)) else if (v1 >>> ((1 : Int32) &&& 31)) = (4 : Int32) then (if (σ 8 6) = (0 : Int32) then (s_Mo_holds_150 v1 σ) else (if (σ 8 5) = (0 : Int32) then (s_Mo_holds_151 v1 true σ) else (s_Mo_holds_150 v1 σ))) else if (v1 >>> ((1 : Int32) &&& 31)) = (5 : Int32) then (if (σ 8 4) = (σ 8 7) then (s_Mo_holds_187 v1 true σ) else (s_Mo_holds_187 v1 false σ)) else (if (σ 8 5) = (0 : Int32) then (if (σ 8 4) = (σ 8 7) then (s_Mo_holds_230 v1 true σ) else (s_Mo_holds_229 v1 σ)) else (s_Mo_holds_229 v1 σ))
def s_Mo_conditional_112 (k2 : Int32) (k3 : Int32) (σ : nS) : Int32 × nS := ((0 : Int32), (up2 σ 0 15 (k2 + k3)))
def s_Mo_conditional_86 (v2 : Int32) (k0 : Int32) (σ : nS) : Int32 × nS := if (s_Mo_holds v2 σ) = true then (s_Mo_conditional_112 (σ 0 15) ((4 : Int32) + ((2 : Int32) * k0)) σ) else (s_Mo_conditional_112 (σ 0 15) (2 : Int32) σ)
def s_Mo_conditional (v1 : Int32) (σ : nS) : Int32 × nS := if ((v1 >>> ((8 : Int32) &&& 31)) &&& (15 : Int32)) = (14 : Int32) then (((6 : Int32), σ)) else (if ((v1 >>> ((8 : Int32) &&& 31)) &&& (15 : Int32)) = (15 : Int32) then (if (s_Mo_group (σ 4 7) σ) < (s_Mo_level σ) then (((0 : Int32), (up2 (up2 σ 2 7 (bI true)) 0 15 (((up2 σ 2 7 (bI true)) 0 15) + (2 : Int32))))) else (((6 : Int32), σ))) else (if (v1 &&& (255 : Int32)) ≤ (127 : Int32) then (s_Mo_conditional_86 ((v1 >>> ((8 : Int32) &&& 31)) &&& (15 : Int32)) (v1 &&& (255 : Int32)) σ) else (s_Mo_conditional_86 ((v1 >>> ((8 : Int32) &&& 31)) &&& (15 : Int32)) ((v1 &&& (255 : Int32)) - (256 : Int32)) σ)))
def s_Mo_special_152 (σ : nS) : Int32 × nS := ((0 : Int32), σ)
def s_Mo_special_24 (k1 : Bool) (σ : nS) : Int32 × nS := s_Mo_special_152 (up2 σ 8 2 (bI k1))
def s_Mo_special_12 (v1 : Int32) (σ : nS) : Int32 × nS := if v1 = (46706 : Int32) then (s_Mo_special_24 true σ) else (s_Mo_special_24 false σ)
def s_Mo_special_119 (k2 : Int32) (k3 : Int32) (σ : nS) : Int32 × nS := s_Mo_special_152 (up2 σ 0 13 (k2 + k3))
def s_Mo_special_71 (k1 : Bool) (σ : nS) : Int32 × nS := s_Mo_special_152 (up2 σ 8 3 (bI k1))
def s_Mo_special_66 (σ : nS) : Int32 × nS := s_Mo_special_71 true σ
def s_Mo_special (v1 : Int32) (σ : nS) : Int32 × nS := if v1 = (46690 : Int32) then (s_Mo_special_12 v1 σ) else (if v1 = (46706 : Int32) then (s_Mo_special_12 v1 σ) else (if v1 = (46689 : Int32) then (s_Mo_special_152 (up2 σ 8 3 (bI false))) else (if v1 = (46705 : Int32) then (if (σ 8 3) = (0 : Int32) then (if (s_Mo_level σ) ≤ (-1 : Int32) then (s_Mo_special_71 false σ) else (s_Mo_special_66 σ)) else (s_Mo_special_66 σ)) else (if (v1 >>> ((8 : Int32) &&& 31)) = (176 : Int32) then (if (v1 &&& (128 : Int32)) = (0 : Int32) then (s_Mo_special_119 (σ 0 13) ((4 : Int32) * (v1 &&& (127 : Int32))) σ) else (s_Mo_special_119 (σ 0 13) ((-4 : Int32) * (v1 &&& (127 : Int32))) σ)) else (if (v1 >>> ((9 : Int32) &&& 31)) = (90 : Int32) then (ap2 (s_Mo_push (v1 &&& (511 : Int32)) σ) fun r1 σ1 => (r1, σ1)) else (if v1 = (48896 : Int32) then (s_Mo_special_152 σ) else (((6 : Int32), σ))))))))
def o_Mo_special_152 (σ : nS) : Prop := True
def o_Mo_special_24 (k1 : Bool) (σ : nS) : Prop := o_Mo_special_152 (up2 σ 8 2 (bI k1))
def o_Mo_special_12 (v1 : Int32) (σ : nS) : Prop := if v1 = (46706 : Int32) then (o_Mo_special_24 true σ) else (o_Mo_special_24 false σ)
def o_Mo_special_119 (k2 : Int32) (k3 : Int32) (σ : nS) : Prop := o_Mo_special_152 (up2 σ 0 13 (k2 + k3))
def o_Mo_special_71 (k1 : Bool) (σ : nS) : Prop := o_Mo_special_152 (up2 σ 8 3 (bI k1))
def o_Mo_special_66 (σ : nS) : Prop := o_Mo_special_71 true σ
def o_Mo_special (v1 : Int32) (σ : nS) : Prop := if v1 = (46690 : Int32) then (o_Mo_special_12 v1 σ) else (if v1 = (46706 : Int32) then (o_Mo_special_12 v1 σ) else (if v1 = (46689 : Int32) then (o_Mo_special_152 (up2 σ 8 3 (bI false))) else (if v1 = (46705 : Int32) then (if (σ 8 3) = (0 : Int32) then (if (s_Mo_level σ) ≤ (-1 : Int32) then (o_Mo_special_71 false σ) else (o_Mo_special_66 σ)) else (o_Mo_special_66 σ)) else (if (v1 >>> ((8 : Int32) &&& 31)) = (176 : Int32) then (if (v1 &&& (128 : Int32)) = (0 : Int32) then (o_Mo_special_119 (σ 0 13) ((4 : Int32) * (v1 &&& (127 : Int32))) σ) else (o_Mo_special_119 (σ 0 13) ((-4 : Int32) * (v1 &&& (127 : Int32))) σ)) else (if (v1 >>> ((9 : Int32) &&& 31)) = (90 : Int32) then (o_Mo_push (v1 &&& (511 : Int32)) σ ∧ (ap2 (s_Mo_push (v1 &&& (511 : Int32)) σ) fun r1 σ1 => (True))) else (if v1 = (48896 : Int32) then (o_Mo_special_152 σ) else (True)))))))
def s_Mo_plain_188 (k1 : Int32) (k2 : Int32) (k3 : Bool) (σ : nS) : Int32 × nS := ap2 (s_Mo_move k1 k2 k3 σ) fun r1 σ1 => (r1, σ1)
def s_Mo_plain_151 (v1 : Int32) (v2 : Int32) (σ : nS) : Int32 × nS := if v2 = (13 : Int32) then (s_Mo_plain_188 (v1 &&& (7 : Int32)) ((σ 0 (((v1 >>> ((3 : Int32) &&& 31)) &&& (7 : Int32))).toNatClampNeg) + ((4 : Int32) * ((v1 >>> ((6 : Int32) &&& 31)) &&& (31 : Int32)))) true σ) else (s_Mo_plain_188 (v1 &&& (7 : Int32)) ((σ 0 (((v1 >>> ((3 : Int32) &&& 31)) &&& (7 : Int32))).toNatClampNeg) + ((4 : Int32) * ((v1 >>> ((6 : Int32) &&& 31)) &&& (31 : Int32)))) false σ)
def s_Mo_plain_238 (k1 : Int32) (k2 : Int32) (k3 : Bool) (σ : nS) : Int32 × nS := ap2 (s_Mo_move k1 k2 k3 σ) fun r1 σ1 => (r1, σ1)
def s_Mo_plain_204 (v1 : Int32) (v2 : Int32) (σ : nS) : Int32 × nS := if v2 = (19 : Int32) then (s_Mo_plain_238 ((v1 >>> ((8 : Int32) &&& 31)) &&& (7 : Int32)) ((σ 0 13) + ((4 : Int32) * (v1 &&& (255 : Int32)))) true σ) else (s_Mo_plain_238 ((v1 >>> ((8 : Int32) &&& 31)) &&& (7 : Int32)) ((σ 0 13) + ((4 : Int32) * (v1 &&& (255 : Int32)))) false σ)
def s_Mo_plain_109 (v1 : Int32) (v2 : Int32) (σ : nS) : Int32 × nS := if (v1 >>> ((10 : Int32) &&& 31)) = (16 : Int32) then (ap2 (s_Mo_logic v1 σ) fun r1 σ1 => (r1, σ1)) else (if (v1 >>> ((8 : Int32) &&& 31)) = (70 : Int32) then (ap2 (s_Mo_moveHigh v1 σ) fun r1 σ1 => (r1, σ1)) else (if v2 = (12 : Int32) then (s_Mo_plain_151 v1 v2 σ) else (if v2 = (13 : Int32) then (s_Mo_plain_151 v1 v2 σ) else (if v2 = (18 : Int32) then (s_Mo_plain_204 v1 v2 σ) else (if v2 = (19 : Int32) then (s_Mo_plain_204 v1 v2 σ) else (if (v1 >>> ((12 : Int32) &&& 31)) = (11 : Int32) then (ap2 (s_Mo_special v1 σ) fun r1 σ1 => (r1, σ1)) else (((6 : Int32), σ))))))))
def s_Mo_plain_89 (k1 : Int32) (k2 : Int32) (σ : nS) : Int32 × nS := ((0 : Int32), (up2 σ 0 (k1).toNatClampNeg k2))
def s_Mo_plain (v1 : Int32) (σ : nS) : Int32 × nS := if (3 : Int32) ≤ (v1 >>> ((11 : Int32) &&& 31)) then (if (v1 >>> ((10 : Int32) &&& 31)) = (6 : Int32) then (if ((v1 >>> ((9 : Int32) &&& 31)) &&& (1 : Int32)) = (0 : Int32) then (ap2 (s_Mo_sum (σ 0 (((v1 >>> ((3 : Int32) &&& 31)) &&& (7 : Int32))).toNatClampNeg) (σ 0 (((v1 >>> ((6 : Int32) &&& 31)) &&& (7 : Int32))).toNatClampNeg) (0 : Int32) σ) fun r1 σ1 => s_Mo_plain_89 (v1 &&& (7 : Int32)) r1 σ1) else (ap2 (s_Mo_sum (σ 0 (((v1 >>> ((3 : Int32) &&& 31)) &&& (7 : Int32))).toNatClampNeg) ((σ 0 (((v1 >>> ((6 : Int32) &&& 31)) &&& (7 : Int32))).toNatClampNeg) ^^^ (-1 : Int32)) (1 : Int32) σ) fun r1 σ1 => s_Mo_plain_89 (v1 &&& (7 : Int32)) r1 σ1)) else (if (v1 >>> ((11 : Int32) &&& 31)) ≤ (3 : Int32) then (s_Mo_plain_109 v1 (v1 >>> ((11 : Int32) &&& 31)) σ) else (if (8 : Int32) ≤ (v1 >>> ((11 : Int32) &&& 31)) then (s_Mo_plain_109 v1 (v1 >>> ((11 : Int32) &&& 31)) σ) else (ap2 (s_Mo_immediate v1 σ) fun r1 σ1 => (r1, σ1))))) else (ap2 (s_Mo_shift v1 σ) fun r1 σ1 => (r1, σ1))
def o_Mo_plain_188 (k1 : Int32) (k2 : Int32) (k3 : Bool) (σ : nS) : Prop := o_Mo_move k1 k2 k3 σ ∧ (ap2 (s_Mo_move k1 k2 k3 σ) fun r1 σ1 => (True))
def o_Mo_plain_151 (v1 : Int32) (v2 : Int32) (σ : nS) : Prop := if v2 = (13 : Int32) then (o_Mo_plain_188 (v1 &&& (7 : Int32)) ((σ 0 (((v1 >>> ((3 : Int32) &&& 31)) &&& (7 : Int32))).toNatClampNeg) + ((4 : Int32) * ((v1 >>> ((6 : Int32) &&& 31)) &&& (31 : Int32)))) true σ) else (o_Mo_plain_188 (v1 &&& (7 : Int32)) ((σ 0 (((v1 >>> ((3 : Int32) &&& 31)) &&& (7 : Int32))).toNatClampNeg) + ((4 : Int32) * ((v1 >>> ((6 : Int32) &&& 31)) &&& (31 : Int32)))) false σ)
def o_Mo_plain_238 (k1 : Int32) (k2 : Int32) (k3 : Bool) (σ : nS) : Prop := o_Mo_move k1 k2 k3 σ ∧ (ap2 (s_Mo_move k1 k2 k3 σ) fun r1 σ1 => (True))
def o_Mo_plain_204 (v1 : Int32) (v2 : Int32) (σ : nS) : Prop := if v2 = (19 : Int32) then (o_Mo_plain_238 ((v1 >>> ((8 : Int32) &&& 31)) &&& (7 : Int32)) ((σ 0 13) + ((4 : Int32) * (v1 &&& (255 : Int32)))) true σ) else (o_Mo_plain_238 ((v1 >>> ((8 : Int32) &&& 31)) &&& (7 : Int32)) ((σ 0 13) + ((4 : Int32) * (v1 &&& (255 : Int32)))) false σ)
def o_Mo_plain_109 (v1 : Int32) (v2 : Int32) (σ : nS) : Prop := if (v1 >>> ((10 : Int32) &&& 31)) = (16 : Int32) then (ap2 (s_Mo_logic v1 σ) fun r1 σ1 => (True)) else (if (v1 >>> ((8 : Int32) &&& 31)) = (70 : Int32) then (ap2 (s_Mo_moveHigh v1 σ) fun r1 σ1 => (True)) else (if v2 = (12 : Int32) then (o_Mo_plain_151 v1 v2 σ) else (if v2 = (13 : Int32) then (o_Mo_plain_151 v1 v2 σ) else (if v2 = (18 : Int32) then (o_Mo_plain_204 v1 v2 σ) else (if v2 = (19 : Int32) then (o_Mo_plain_204 v1 v2 σ) else (if (v1 >>> ((12 : Int32) &&& 31)) = (11 : Int32) then (o_Mo_special v1 σ ∧ (ap2 (s_Mo_special v1 σ) fun r1 σ1 => (True))) else (True)))))))
def o_Mo_plain_89 (k1 : Int32) (k2 : Int32) (σ : nS) : Prop := True
def o_Mo_plain (v1 : Int32) (σ : nS) : Prop := if (3 : Int32) ≤ (v1 >>> ((11 : Int32) &&& 31)) then (if (v1 >>> ((10 : Int32) &&& 31)) = (6 : Int32) then (if ((v1 >>> ((9 : Int32) &&& 31)) &&& (1 : Int32)) = (0 : Int32) then (ap2 (s_Mo_sum (σ 0 (((v1 >>> ((3 : Int32) &&& 31)) &&& (7 : Int32))).toNatClampNeg) (σ 0 (((v1 >>> ((6 : Int32) &&& 31)) &&& (7 : Int32))).toNatClampNeg) (0 : Int32) σ) fun r1 σ1 => (o_Mo_plain_89 (v1 &&& (7 : Int32)) r1 σ1)) else (ap2 (s_Mo_sum (σ 0 (((v1 >>> ((3 : Int32) &&& 31)) &&& (7 : Int32))).toNatClampNeg) ((σ 0 (((v1 >>> ((6 : Int32) &&& 31)) &&& (7 : Int32))).toNatClampNeg) ^^^ (-1 : Int32)) (1 : Int32) σ) fun r1 σ1 => (o_Mo_plain_89 (v1 &&& (7 : Int32)) r1 σ1))) else (if (v1 >>> ((11 : Int32) &&& 31)) ≤ (3 : Int32) then (o_Mo_plain_109 v1 (v1 >>> ((11 : Int32) &&& 31)) σ) else (if (8 : Int32) ≤ (v1 >>> ((11 : Int32) &&& 31)) then (o_Mo_plain_109 v1 (v1 >>> ((11 : Int32) &&& 31)) σ) else (ap2 (s_Mo_immediate v1 σ) fun r1 σ1 => (True))))) else (ap2 (s_Mo_shift v1 σ) fun r1 σ1 => (True))
def s_Mo_does_143 (v2 : Int32) (σ : nS) : Int32 × nS := (v2, σ)
def s_Mo_does_116 (k2 : Int32) (k5 : Int32) (σ : nS) : Int32 × nS := ((0 : Int32), (up2 σ 0 15 (k2 + ((4 : Int32) + ((2 : Int32) * k5)))))
def s_Mo_does_58 (v2 : Int32) (σ : nS) : Int32 × nS := (v2, σ)
def s_Mo_does (v1 : Int32) (σ : nS) : Int32 × nS := if (v1 &&& (65415 : Int32)) = (18176 : Int32) then (ap2 (s_Mo_exchange v1 σ) fun r1 σ1 => (r1, σ1)) else (if (v1 >>> ((9 : Int32) &&& 31)) = (94 : Int32) then (ap2 (s_Mo_pop (v1 &&& (511 : Int32)) σ) fun r1 σ1 => if r1 = (0 : Int32) then (if (v1 &&& (256 : Int32)) = (0 : Int32) then (s_Mo_does_58 r1 (up2 σ1 0 15 ((σ1 0 15) + (2 : Int32)))) else (s_Mo_does_58 r1 σ1)) else (s_Mo_does_58 r1 σ1)) else (if (v1 >>> ((12 : Int32) &&& 31)) = (13 : Int32) then (ap2 (s_Mo_conditional v1 σ) fun r1 σ1 => (r1, σ1)) else (if (v1 >>> ((11 : Int32) &&& 31)) = (28 : Int32) then (if (v1 &&& (2047 : Int32)) ≤ (1023 : Int32) then (s_Mo_does_116 (σ 0 15) (v1 &&& (2047 : Int32)) σ) else (s_Mo_does_116 (σ 0 15) ((v1 &&& (2047 : Int32)) - (2048 : Int32)) σ)) else (ap2 (s_Mo_plain v1 σ) fun r1 σ1 => if r1 = (0 : Int32) then (s_Mo_does_143 r1 (up2 σ1 0 15 ((σ1 0 15) + (2 : Int32)))) else (s_Mo_does_143 r1 σ1)))))
def o_Mo_does_143 (v2 : Int32) (σ : nS) : Prop := True
def o_Mo_does_116 (k2 : Int32) (k5 : Int32) (σ : nS) : Prop := True
def o_Mo_does_58 (v2 : Int32) (σ : nS) : Prop := True
def o_Mo_does (v1 : Int32) (σ : nS) : Prop := if (v1 &&& (65415 : Int32)) = (18176 : Int32) then (o_Mo_exchange v1 σ ∧ (ap2 (s_Mo_exchange v1 σ) fun r1 σ1 => (True))) else (if (v1 >>> ((9 : Int32) &&& 31)) = (94 : Int32) then (o_Mo_pop (v1 &&& (511 : Int32)) σ ∧ (ap2 (s_Mo_pop (v1 &&& (511 : Int32)) σ) fun r1 σ1 => (if r1 = (0 : Int32) then (if (v1 &&& (256 : Int32)) = (0 : Int32) then (o_Mo_does_58 r1 (up2 σ1 0 15 ((σ1 0 15) + (2 : Int32)))) else (o_Mo_does_58 r1 σ1)) else (o_Mo_does_58 r1 σ1)))) else (if (v1 >>> ((12 : Int32) &&& 31)) = (13 : Int32) then (ap2 (s_Mo_conditional v1 σ) fun r1 σ1 => (True)) else (if (v1 >>> ((11 : Int32) &&& 31)) = (28 : Int32) then (if (v1 &&& (2047 : Int32)) ≤ (1023 : Int32) then (o_Mo_does_116 (σ 0 15) (v1 &&& (2047 : Int32)) σ) else (o_Mo_does_116 (σ 0 15) ((v1 &&& (2047 : Int32)) - (2048 : Int32)) σ)) else (o_Mo_plain v1 σ ∧ (ap2 (s_Mo_plain v1 σ) fun r1 σ1 => (if r1 = (0 : Int32) then (o_Mo_does_143 r1 (up2 σ1 0 15 ((σ1 0 15) + (2 : Int32)))) else (o_Mo_does_143 r1 σ1)))))))
def s_Mo_fetched_19 (σ : nS) : Int32 × nS := ((5 : Int32), σ)
def s_Mo_fetched (σ : nS) : Int32 × nS := if (σ 0 15) < (0 : Int32) then (s_Mo_fetched_19 σ) else (if (σ 0 15) ≤ (1022 : Int32) then (if (s_Mo_barred (σ 0 15) (3 : Int32) σ) = true then (((4 : Int32), σ)) else (ap2 (s_Mo_does ((σ 9 ((σ 0 15)).toNatClampNeg) ||| ((σ 9 (((σ 0 15) + (1 : Int32))).toNatClampNeg) <<< ((8 : Int32) &&& 31))) σ) fun r1 σ1 => (r1, σ1))) else (s_Mo_fetched_19 σ))
def o_Mo_fetched_19 (σ : nS) : Prop := True
def o_Mo_fetched (σ : nS) : Prop := if (σ 0 15) < (0 : Int32) then (o_Mo_fetched_19 σ) else (if (σ 0 15) ≤ (1022 : Int32) then (if (s_Mo_barred (σ 0 15) (3 : Int32) σ) = true then (True) else (vp_in (σ 0 15) 1024 ∧ (vp_in ((σ 0 15) + (1 : Int32)) 1024 ∧ (o_Mo_does ((σ 9 ((σ 0 15)).toNatClampNeg) ||| ((σ 9 (((σ 0 15) + (1 : Int32))).toNatClampNeg) <<< ((8 : Int32) &&& 31))) σ ∧ (ap2 (s_Mo_does ((σ 9 ((σ 0 15)).toNatClampNeg) ||| ((σ 9 (((σ 0 15) + (1 : Int32))).toNatClampNeg) <<< ((8 : Int32) &&& 31))) σ) fun r1 σ1 => (True)))))) else (o_Mo_fetched_19 σ))
def s_Mo_step_40 (σ : nS) : nS := if (s_Mo_due σ) ≤ (0 : Int32) then (ap2 (s_Mo_fetched σ) fun r1 σ1 => if r1 ≤ (0 : Int32) then (σ1) else (ap1 (s_Mo_fault r1 σ1) fun σ2 => σ2)) else (ap1 (s_Mo_take (s_Mo_due σ) σ) fun σ1 => σ1)
def s_Mo_step (σ : nS) : nS := if (σ 8 8) = (0 : Int32) then (s_Mo_step_40 σ) else (if ((up2 σ 8 9 ((σ 8 9) - (1 : Int32))) 8 9) = (0 : Int32) then (s_Mo_step_40 (up2 (up2 (up2 σ 8 9 ((σ 8 9) - (1 : Int32))) 8 9 ((up2 σ 8 9 ((σ 8 9) - (1 : Int32))) 8 8)) 2 9 (bI true))) else (s_Mo_step_40 (up2 σ 8 9 ((σ 8 9) - (1 : Int32)))))
def o_Mo_step_40 (σ : nS) : Prop := if (s_Mo_due σ) ≤ (0 : Int32) then (o_Mo_fetched σ ∧ (ap2 (s_Mo_fetched σ) fun r1 σ1 => (if r1 ≤ (0 : Int32) then (True) else (vp_in r1 16 ∧ (ap1 (s_Mo_fault r1 σ1) fun σ2 => (True)))))) else (o_Mo_take (s_Mo_due σ) σ ∧ (ap1 (s_Mo_take (s_Mo_due σ) σ) fun σ1 => (True)))
def o_Mo_step (σ : nS) : Prop := if (σ 8 8) = (0 : Int32) then (o_Mo_step_40 σ) else (if ((up2 σ 8 9 ((σ 8 9) - (1 : Int32))) 8 9) = (0 : Int32) then (o_Mo_step_40 (up2 (up2 (up2 σ 8 9 ((σ 8 9) - (1 : Int32))) 8 9 ((up2 σ 8 9 ((σ 8 9) - (1 : Int32))) 8 8)) 2 9 (bI true))) else (o_Mo_step_40 (up2 σ 8 9 ((σ 8 9) - (1 : Int32)))))
def s_Mo_set_13 (v1 : Int32) (v2 : Int32) (k1 : Bool) (σ : nS) : nS := ap2 (s_Mo_fails k1 σ) fun r1 σ1 => if r1 = true then (σ1) else (ap1 (s_Mo_store v1 v2 σ1) fun σ2 => σ2)
def s_Mo_set (v1 : Int32) (v2 : Int32) (σ : nS) : nS := if (s_Mo_isWord v1) = true then (s_Mo_set_13 v1 v2 false σ) else (s_Mo_set_13 v1 v2 true σ)
def o_Mo_set_13 (v1 : Int32) (v2 : Int32) (k1 : Bool) (σ : nS) : Prop := ap2 (s_Mo_fails k1 σ) fun r1 σ1 => (if r1 = true then (True) else (o_Mo_store v1 v2 σ1 ∧ (ap1 (s_Mo_store v1 v2 σ1) fun σ2 => (True))))
def o_Mo_set (v1 : Int32) (v2 : Int32) (σ : nS) : Prop := if (s_Mo_isWord v1) = true then (o_Mo_set_13 v1 v2 false σ) else (o_Mo_set_13 v1 v2 true σ)
def s_Mo_word_13 (v1 : Int32) (k1 : Bool) (σ : nS) : Int32 × nS := ap2 (s_Mo_fails k1 σ) fun r1 σ1 => if r1 = true then (((0 : Int32), σ1)) else (((s_Mo_load v1 σ1), σ1))
def s_Mo_word (v1 : Int32) (σ : nS) : Int32 × nS := if (s_Mo_isWord v1) = true then (s_Mo_word_13 v1 false σ) else (s_Mo_word_13 v1 true σ)
def o_Mo_word_13 (v1 : Int32) (k1 : Bool) (σ : nS) : Prop := ap2 (s_Mo_fails k1 σ) fun r1 σ1 => (if r1 = true then (True) else (o_Mo_load v1 σ1 ∧ (True)))
def o_Mo_word (v1 : Int32) (σ : nS) : Prop := if (s_Mo_isWord v1) = true then (o_Mo_word_13 v1 false σ) else (o_Mo_word_13 v1 true σ)
def s_Mo_put_114 (v1 : Int32) (v2 : Int32) (σ : nS) : nS := if v1 = (20 : Int32) then ((up2 (up2 σ 8 8 (v2 &&& (255 : Int32))) 8 9 ((up2 σ 8 8 (v2 &&& (255 : Int32))) 8 8))) else (σ)
def s_Mo_put_101 (v1 : Int32) (v2 : Int32) (σ : nS) : nS := if v1 = (19 : Int32) then (s_Mo_put_114 v1 v2 (up2 σ 8 0 (v2 &&& (3 : Int32)))) else (s_Mo_put_114 v1 v2 σ)
def s_Mo_put_87 (v1 : Int32) (v2 : Int32) (σ : nS) : nS := if v1 = (18 : Int32) then (s_Mo_put_101 v1 v2 (up2 σ 8 1 (v2 &&& (7 : Int32)))) else (s_Mo_put_101 v1 v2 σ)
def s_Mo_put_84 (v1 : Int32) (v2 : Int32) (k1 : Bool) (σ : nS) : nS := s_Mo_put_87 v1 v2 (up2 σ 8 3 (bI k1))
def s_Mo_put_68 (v1 : Int32) (v2 : Int32) (σ : nS) : nS := if v1 = (17 : Int32) then (if v2 = (0 : Int32) then (s_Mo_put_84 v1 v2 false σ) else (s_Mo_put_84 v1 v2 true σ)) else (s_Mo_put_87 v1 v2 σ)
def s_Mo_put_65 (v1 : Int32) (v2 : Int32) (k1 : Bool) (σ : nS) : nS := s_Mo_put_68 v1 v2 (up2 σ 8 2 (bI k1))
def s_Mo_put_49 (v1 : Int32) (v2 : Int32) (σ : nS) : nS := if v1 = (16 : Int32) then (if v2 = (0 : Int32) then (s_Mo_put_65 v1 v2 false σ) else (s_Mo_put_65 v1 v2 true σ)) else (s_Mo_put_68 v1 v2 σ)
def s_Mo_put_48 (v1 : Int32) (v2 : Int32) (k1 : Int32) (k2 : Int32) (σ : nS) : nS := s_Mo_put_49 v1 v2 (up2 σ 0 (k1).toNatClampNeg k2)
def s_Mo_put_16 (v1 : Int32) (v2 : Int32) (k1 : Bool) (σ : nS) : nS := ap2 (s_Mo_fails k1 σ) fun r1 σ1 => if r1 = true then (σ1) else (if (16 : Int32) ≤ v1 then (s_Mo_put_49 v1 v2 σ1) else (if v1 = (15 : Int32) then (s_Mo_put_48 v1 v2 v1 (v2 &&& (-2 : Int32)) σ1) else (s_Mo_put_48 v1 v2 v1 v2 σ1)))
def s_Mo_put_11 (v1 : Int32) (v2 : Int32) (σ : nS) : nS := s_Mo_put_16 v1 v2 true σ
def s_Mo_put (v1 : Int32) (v2 : Int32) (σ : nS) : nS := if v1 < (0 : Int32) then (s_Mo_put_11 v1 v2 σ) else (if v1 ≤ (20 : Int32) then (s_Mo_put_16 v1 v2 false σ) else (s_Mo_put_11 v1 v2 σ))
def o_Mo_put_114 (v1 : Int32) (v2 : Int32) (σ : nS) : Prop := if v1 = (20 : Int32) then (True) else (True)
def o_Mo_put_101 (v1 : Int32) (v2 : Int32) (σ : nS) : Prop := if v1 = (19 : Int32) then (o_Mo_put_114 v1 v2 (up2 σ 8 0 (v2 &&& (3 : Int32)))) else (o_Mo_put_114 v1 v2 σ)
def o_Mo_put_87 (v1 : Int32) (v2 : Int32) (σ : nS) : Prop := if v1 = (18 : Int32) then (o_Mo_put_101 v1 v2 (up2 σ 8 1 (v2 &&& (7 : Int32)))) else (o_Mo_put_101 v1 v2 σ)
def o_Mo_put_84 (v1 : Int32) (v2 : Int32) (k1 : Bool) (σ : nS) : Prop := o_Mo_put_87 v1 v2 (up2 σ 8 3 (bI k1))
def o_Mo_put_68 (v1 : Int32) (v2 : Int32) (σ : nS) : Prop := if v1 = (17 : Int32) then (if v2 = (0 : Int32) then (o_Mo_put_84 v1 v2 false σ) else (o_Mo_put_84 v1 v2 true σ)) else (o_Mo_put_87 v1 v2 σ)
def o_Mo_put_65 (v1 : Int32) (v2 : Int32) (k1 : Bool) (σ : nS) : Prop := o_Mo_put_68 v1 v2 (up2 σ 8 2 (bI k1))
def o_Mo_put_49 (v1 : Int32) (v2 : Int32) (σ : nS) : Prop := if v1 = (16 : Int32) then (if v2 = (0 : Int32) then (o_Mo_put_65 v1 v2 false σ) else (o_Mo_put_65 v1 v2 true σ)) else (o_Mo_put_68 v1 v2 σ)
def o_Mo_put_48 (v1 : Int32) (v2 : Int32) (k1 : Int32) (k2 : Int32) (σ : nS) : Prop := vp_in k1 16 ∧ (o_Mo_put_49 v1 v2 (up2 σ 0 (k1).toNatClampNeg k2))
def o_Mo_put_16 (v1 : Int32) (v2 : Int32) (k1 : Bool) (σ : nS) : Prop := ap2 (s_Mo_fails k1 σ) fun r1 σ1 => (if r1 = true then (True) else (if (16 : Int32) ≤ v1 then (o_Mo_put_49 v1 v2 σ1) else (if v1 = (15 : Int32) then (o_Mo_put_48 v1 v2 v1 (v2 &&& (-2 : Int32)) σ1) else (o_Mo_put_48 v1 v2 v1 v2 σ1))))
def o_Mo_put_11 (v1 : Int32) (v2 : Int32) (σ : nS) : Prop := o_Mo_put_16 v1 v2 true σ
def o_Mo_put (v1 : Int32) (v2 : Int32) (σ : nS) : Prop := if v1 < (0 : Int32) then (o_Mo_put_11 v1 v2 σ) else (if v1 ≤ (20 : Int32) then (o_Mo_put_16 v1 v2 false σ) else (o_Mo_put_11 v1 v2 σ))
def s_Mo_register_70 (σ : nS) : Int32 × nS := ((0 : Int32), σ)
def s_Mo_register_66 (σ : nS) : Int32 × nS := ((1 : Int32), σ)
def s_Mo_register_16 (v1 : Int32) (k1 : Bool) (σ : nS) : Int32 × nS := ap2 (s_Mo_fails k1 σ) fun r1 σ1 => if r1 = true then (((0 : Int32), σ1)) else (if (16 : Int32) ≤ v1 then (if (18 : Int32) ≤ v1 then (if v1 = (18 : Int32) then (((σ1 8 1), σ1)) else (if v1 = (19 : Int32) then (((σ1 8 0), σ1)) else (((σ1 8 8), σ1)))) else (if v1 = (16 : Int32) then (if (σ1 8 2) = (0 : Int32) then (s_Mo_register_70 σ1) else (s_Mo_register_66 σ1)) else (if (σ1 8 3) = (0 : Int32) then (s_Mo_register_70 σ1) else (s_Mo_register_66 σ1)))) else (((σ1 0 (v1).toNatClampNeg), σ1)))
def s_Mo_register_11 (v1 : Int32) (σ : nS) : Int32 × nS := s_Mo_register_16 v1 true σ
def s_Mo_register (v1 : Int32) (σ : nS) : Int32 × nS := if v1 < (0 : Int32) then (s_Mo_register_11 v1 σ) else (if v1 ≤ (20 : Int32) then (s_Mo_register_16 v1 false σ) else (s_Mo_register_11 v1 σ))
def o_Mo_register_70 (σ : nS) : Prop := True
def o_Mo_register_66 (σ : nS) : Prop := True
def o_Mo_register_16 (v1 : Int32) (k1 : Bool) (σ : nS) : Prop := ap2 (s_Mo_fails k1 σ) fun r1 σ1 => (if r1 = true then (True) else (if (16 : Int32) ≤ v1 then (if (18 : Int32) ≤ v1 then (if v1 = (18 : Int32) then (True) else (if v1 = (19 : Int32) then (True) else (True))) else (if v1 = (16 : Int32) then (if (σ1 8 2) = (0 : Int32) then (o_Mo_register_70 σ1) else (o_Mo_register_66 σ1)) else (if (σ1 8 3) = (0 : Int32) then (o_Mo_register_70 σ1) else (o_Mo_register_66 σ1)))) else (vp_in v1 16 ∧ (True))))
def o_Mo_register_11 (v1 : Int32) (σ : nS) : Prop := o_Mo_register_16 v1 true σ
def o_Mo_register (v1 : Int32) (σ : nS) : Prop := if v1 < (0 : Int32) then (o_Mo_register_11 v1 σ) else (if v1 ≤ (20 : Int32) then (o_Mo_register_16 v1 false σ) else (o_Mo_register_11 v1 σ))
def s_Mo_rank_67 (k1 : Int32) (k2 : Bool) (σ : nS) : nS := (up2 σ 1 (k1).toNatClampNeg (bI k2))
def s_Mo_rank_62 (k1 : Int32) (σ : nS) : nS := s_Mo_rank_67 k1 true σ
def s_Mo_rank_66 (k1 : Int32) (σ : nS) : nS := s_Mo_rank_67 k1 false σ
def s_Mo_rank_27 (v1 : Int32) (v2 : Int32) (v3 : Bool) (k1 : Bool) (σ : nS) : nS := ap2 (s_Mo_fails k1 σ) fun r1 σ1 => if r1 = true then (σ1) else (if v3 = true then (s_Mo_rank_62 v1 (up2 σ1 4 (v1).toNatClampNeg v2)) else (if v1 < (7 : Int32) then (s_Mo_rank_66 v1 (up2 σ1 4 (v1).toNatClampNeg v2)) else (if (9 : Int32) < v1 then (s_Mo_rank_66 v1 (up2 σ1 4 (v1).toNatClampNeg v2)) else (s_Mo_rank_62 v1 (up2 σ1 4 (v1).toNatClampNeg v2)))))
def s_Mo_rank_22 (v1 : Int32) (v2 : Int32) (v3 : Bool) (σ : nS) : nS := s_Mo_rank_27 v1 v2 v3 true σ
def s_Mo_rank (v1 : Int32) (v2 : Int32) (v3 : Bool) (σ : nS) : nS := if v1 < (4 : Int32) then (s_Mo_rank_22 v1 v2 v3 σ) else (if (15 : Int32) < v1 then (s_Mo_rank_22 v1 v2 v3 σ) else (if v2 < (0 : Int32) then (s_Mo_rank_22 v1 v2 v3 σ) else (if v2 ≤ (7 : Int32) then (s_Mo_rank_27 v1 v2 v3 false σ) else (s_Mo_rank_22 v1 v2 v3 σ))))
def o_Mo_rank_67 (k1 : Int32) (k2 : Bool) (σ : nS) : Prop := vp_in k1 16 ∧ (True)
def o_Mo_rank_62 (k1 : Int32) (σ : nS) : Prop := o_Mo_rank_67 k1 true σ
def o_Mo_rank_66 (k1 : Int32) (σ : nS) : Prop := o_Mo_rank_67 k1 false σ
def o_Mo_rank_27 (v1 : Int32) (v2 : Int32) (v3 : Bool) (k1 : Bool) (σ : nS) : Prop := ap2 (s_Mo_fails k1 σ) fun r1 σ1 => (if r1 = true then (True) else (vp_in v1 16 ∧ (if v3 = true then (o_Mo_rank_62 v1 (up2 σ1 4 (v1).toNatClampNeg v2)) else (if v1 < (7 : Int32) then (o_Mo_rank_66 v1 (up2 σ1 4 (v1).toNatClampNeg v2)) else (if (9 : Int32) < v1 then (o_Mo_rank_66 v1 (up2 σ1 4 (v1).toNatClampNeg v2)) else (o_Mo_rank_62 v1 (up2 σ1 4 (v1).toNatClampNeg v2)))))))
def o_Mo_rank_22 (v1 : Int32) (v2 : Int32) (v3 : Bool) (σ : nS) : Prop := o_Mo_rank_27 v1 v2 v3 true σ
def o_Mo_rank (v1 : Int32) (v2 : Int32) (v3 : Bool) (σ : nS) : Prop := if v1 < (4 : Int32) then (o_Mo_rank_22 v1 v2 v3 σ) else (if (15 : Int32) < v1 then (o_Mo_rank_22 v1 v2 v3 σ) else (if v2 < (0 : Int32) then (o_Mo_rank_22 v1 v2 v3 σ) else (if v2 ≤ (7 : Int32) then (o_Mo_rank_27 v1 v2 v3 false σ) else (o_Mo_rank_22 v1 v2 v3 σ))))
def s_Mo_pend_17 (v1 : Int32) (v2 : Bool) (k1 : Bool) (σ : nS) : nS := ap2 (s_Mo_fails k1 σ) fun r1 σ1 => if r1 = true then (σ1) else ((up2 σ1 2 (v1).toNatClampNeg (bI v2)))
def s_Mo_pend_12 (v1 : Int32) (v2 : Bool) (σ : nS) : nS := s_Mo_pend_17 v1 v2 true σ
def s_Mo_pend (v1 : Int32) (v2 : Bool) (σ : nS) : nS := if v1 < (2 : Int32) then (s_Mo_pend_12 v1 v2 σ) else (if v1 ≤ (15 : Int32) then (s_Mo_pend_17 v1 v2 false σ) else (s_Mo_pend_12 v1 v2 σ))
def o_Mo_pend_17 (v1 : Int32) (v2 : Bool) (k1 : Bool) (σ : nS) : Prop := ap2 (s_Mo_fails k1 σ) fun r1 σ1 => (if r1 = true then (True) else (vp_in v1 16 ∧ (True)))
def o_Mo_pend_12 (v1 : Int32) (v2 : Bool) (σ : nS) : Prop := o_Mo_pend_17 v1 v2 true σ
def o_Mo_pend (v1 : Int32) (v2 : Bool) (σ : nS) : Prop := if v1 < (2 : Int32) then (o_Mo_pend_12 v1 v2 σ) else (if v1 ≤ (15 : Int32) then (o_Mo_pend_17 v1 v2 false σ) else (o_Mo_pend_12 v1 v2 σ))
def s_Mo_area_62 (v1 : Int32) (v2 : Int32) (v3 : Int32) (v4 : Int32) (v5 : Bool) (k1 : Bool) (σ : nS) : nS := ap2 (s_Mo_fails k1 σ) fun r1 σ1 => if r1 = true then (σ1) else ((up2 (up2 (up2 (up2 σ1 5 (v1).toNatClampNeg v2) 10 (v1).toNatClampNeg (v2 + v3)) 6 (v1).toNatClampNeg v4) 7 (v1).toNatClampNeg (bI v5)))
def s_Mo_area_49 (v1 : Int32) (v2 : Int32) (v3 : Int32) (v4 : Int32) (v5 : Bool) (k0 : Bool) (σ : nS) : nS := if k0 = true then (s_Mo_area_62 v1 v2 v3 v4 v5 false σ) else (s_Mo_area_62 v1 v2 v3 v4 v5 true σ)
def s_Mo_area_48 (v1 : Int32) (v2 : Int32) (v3 : Int32) (v4 : Int32) (v5 : Bool) (σ : nS) : nS := s_Mo_area_49 v1 v2 v3 v4 v5 false σ
def s_Mo_area (v1 : Int32) (v2 : Int32) (v3 : Int32) (v4 : Int32) (v5 : Bool) (σ : nS) : nS := if v1 < (0 : Int32) then (s_Mo_area_48 v1 v2 v3 v4 v5 σ) else (if (4 : Int32) ≤ v1 then (s_Mo_area_48 v1 v2 v3 v4 v5 σ) else (if v4 < (0 : Int32) then (s_Mo_area_48 v1 v2 v3 v4 v5 σ) else (if (3 : Int32) ≤ v4 then (s_Mo_area_48 v1 v2 v3 v4 v5 σ) else (if v2 < (0 : Int32) then (s_Mo_area_48 v1 v2 v3 v4 v5 σ) else (if (1024 : Int32) < v2 then (s_Mo_area_48 v1 v2 v3 v4 v5 σ) else (if v3 < (0 : Int32) then (s_Mo_area_48 v1 v2 v3 v4 v5 σ) else (if ((1024 : Int32) - v2) < v3 then (s_Mo_area_48 v1 v2 v3 v4 v5 σ) else (s_Mo_area_49 v1 v2 v3 v4 v5 true σ))))))))
def o_Mo_area_62 (v1 : Int32) (v2 : Int32) (v3 : Int32) (v4 : Int32) (v5 : Bool) (k1 : Bool) (σ : nS) : Prop := ap2 (s_Mo_fails k1 σ) fun r1 σ1 => (if r1 = true then (True) else (vp_in v1 4 ∧ (vp_in v1 4 ∧ (vp_in v1 4 ∧ (vp_in v1 4 ∧ (True))))))
def o_Mo_area_49 (v1 : Int32) (v2 : Int32) (v3 : Int32) (v4 : Int32) (v5 : Bool) (k0 : Bool) (σ : nS) : Prop := if k0 = true then (o_Mo_area_62 v1 v2 v3 v4 v5 false σ) else (o_Mo_area_62 v1 v2 v3 v4 v5 true σ)
def o_Mo_area_48 (v1 : Int32) (v2 : Int32) (v3 : Int32) (v4 : Int32) (v5 : Bool) (σ : nS) : Prop := o_Mo_area_49 v1 v2 v3 v4 v5 false σ
def o_Mo_area (v1 : Int32) (v2 : Int32) (v3 : Int32) (v4 : Int32) (v5 : Bool) (σ : nS) : Prop := if v1 < (0 : Int32) then (o_Mo_area_48 v1 v2 v3 v4 v5 σ) else (if (4 : Int32) ≤ v1 then (o_Mo_area_48 v1 v2 v3 v4 v5 σ) else (if v4 < (0 : Int32) then (o_Mo_area_48 v1 v2 v3 v4 v5 σ) else (if (3 : Int32) ≤ v4 then (o_Mo_area_48 v1 v2 v3 v4 v5 σ) else (if v2 < (0 : Int32) then (o_Mo_area_48 v1 v2 v3 v4 v5 σ) else (if (1024 : Int32) < v2 then (o_Mo_area_48 v1 v2 v3 v4 v5 σ) else (if v3 < (0 : Int32) then (o_Mo_area_48 v1 v2 v3 v4 v5 σ) else (if ((1024 : Int32) - v2) < v3 then (o_Mo_area_48 v1 v2 v3 v4 v5 σ) else (o_Mo_area_49 v1 v2 v3 v4 v5 true σ))))))))
def s_Mo_run_49_0 (σ : nS) : Int32 × nS := ((0 : Int32), σ)
def s_Mo_run_49_1 (σ : nS) : Int32 × nS := ((1 : Int32), σ)
def s_Mo_run_49_2 (σ : nS) : Int32 × nS := ((2 : Int32), σ)
def s_Mo_run_49_3 (σ : nS) : Int32 × nS := ((3 : Int32), σ)
def s_Mo_run_49_4 (σ : nS) : Int32 × nS := ((4 : Int32), σ)
def s_Mo_run_49_5 (σ : nS) : Int32 × nS := ((5 : Int32), σ)
def s_Mo_run_49_6 (σ : nS) : Int32 × nS := ((6 : Int32), σ)
def s_Mo_run_49_7 (σ : nS) : Int32 × nS := ((7 : Int32), σ)
def s_Mo_run_49_8 (σ : nS) : Int32 × nS := ((8 : Int32), σ)
def s_Mo_run_49_9 (σ : nS) : Int32 × nS := ((9 : Int32), σ)
def s_Mo_run_49_10 (σ : nS) : Int32 × nS := ((10 : Int32), σ)
def s_Mo_run_49_11 (σ : nS) : Int32 × nS := ((11 : Int32), σ)
def s_Mo_run_49_12 (σ : nS) : Int32 × nS := ((12 : Int32), σ)
def s_Mo_run_49_13 (σ : nS) : Int32 × nS := ((13 : Int32), σ)
def s_Mo_run_49_14 (σ : nS) : Int32 × nS := ((14 : Int32), σ)
def s_Mo_run_49_15 (σ : nS) : Int32 × nS := ((15 : Int32), σ)
def s_Mo_run_49_16 (σ : nS) : Int32 × nS := ((16 : Int32), σ)
def s_Mo_run_49_17 (σ : nS) : Int32 × nS := ((17 : Int32), σ)
def s_Mo_run_49_18 (σ : nS) : Int32 × nS := ((18 : Int32), σ)
def s_Mo_run_49_19 (σ : nS) : Int32 × nS := ((19 : Int32), σ)
def s_Mo_run_49_20 (σ : nS) : Int32 × nS := ((20 : Int32), σ)
def s_Mo_run_49_21 (σ : nS) : Int32 × nS := ((21 : Int32), σ)
def s_Mo_run_49_22 (σ : nS) : Int32 × nS := ((22 : Int32), σ)
def s_Mo_run_49_23 (σ : nS) : Int32 × nS := ((23 : Int32), σ)
def s_Mo_run_49_24 (σ : nS) : Int32 × nS := ((24 : Int32), σ)
def s_Mo_run_49_25 (σ : nS) : Int32 × nS := ((25 : Int32), σ)
def s_Mo_run_27_25 (v1 : Int32) (σ : nS) : Int32 × nS := s_Mo_run_49_25 σ
def s_Mo_run_27_24 (v1 : Int32) (σ : nS) : Int32 × nS := if v1 ≤ (24 : Int32) then (s_Mo_run_49_24 σ) else (if (σ 8 11) = (0 : Int32) then (ap1 (s_Mo_step σ) fun σ1 => s_Mo_run_27_25 v1 σ1) else (s_Mo_run_49_24 σ))
def s_Mo_run_27_23 (v1 : Int32) (σ : nS) : Int32 × nS := if v1 ≤ (23 : Int32) then (s_Mo_run_49_23 σ) else (if (σ 8 11) = (0 : Int32) then (ap1 (s_Mo_step σ) fun σ1 => s_Mo_run_27_24 v1 σ1) else (s_Mo_run_49_23 σ))
def s_Mo_run_27_22 (v1 : Int32) (σ : nS) : Int32 × nS := if v1 ≤ (22 : Int32) then (s_Mo_run_49_22 σ) else (if (σ 8 11) = (0 : Int32) then (ap1 (s_Mo_step σ) fun σ1 => s_Mo_run_27_23 v1 σ1) else (s_Mo_run_49_22 σ))
def s_Mo_run_27_21 (v1 : Int32) (σ : nS) : Int32 × nS := if v1 ≤ (21 : Int32) then (s_Mo_run_49_21 σ) else (if (σ 8 11) = (0 : Int32) then (ap1 (s_Mo_step σ) fun σ1 => s_Mo_run_27_22 v1 σ1) else (s_Mo_run_49_21 σ))
def s_Mo_run_27_20 (v1 : Int32) (σ : nS) : Int32 × nS := if v1 ≤ (20 : Int32) then (s_Mo_run_49_20 σ) else (if (σ 8 11) = (0 : Int32) then (ap1 (s_Mo_step σ) fun σ1 => s_Mo_run_27_21 v1 σ1) else (s_Mo_run_49_20 σ))
def s_Mo_run_27_19 (v1 : Int32) (σ : nS) : Int32 × nS := if v1 ≤ (19 : Int32) then (s_Mo_run_49_19 σ) else (if (σ 8 11) = (0 : Int32) then (ap1 (s_Mo_step σ) fun σ1 => s_Mo_run_27_20 v1 σ1) else (s_Mo_run_49_19 σ))
def s_Mo_run_27_18 (v1 : Int32) (σ : nS) : Int32 × nS := if v1 ≤ (18 : Int32) then (s_Mo_run_49_18 σ) else (if (σ 8 11) = (0 : Int32) then (ap1 (s_Mo_step σ) fun σ1 => s_Mo_run_27_19 v1 σ1) else (s_Mo_run_49_18 σ))
def s_Mo_run_27_17 (v1 : Int32) (σ : nS) : Int32 × nS := if v1 ≤ (17 : Int32) then (s_Mo_run_49_17 σ) else (if (σ 8 11) = (0 : Int32) then (ap1 (s_Mo_step σ) fun σ1 => s_Mo_run_27_18 v1 σ1) else (s_Mo_run_49_17 σ))
def s_Mo_run_27_16 (v1 : Int32) (σ : nS) : Int32 × nS := if v1 ≤ (16 : Int32) then (s_Mo_run_49_16 σ) else (if (σ 8 11) = (0 : Int32) then (ap1 (s_Mo_step σ) fun σ1 => s_Mo_run_27_17 v1 σ1) else (s_Mo_run_49_16 σ))
def s_Mo_run_27_15 (v1 : Int32) (σ : nS) : Int32 × nS := if v1 ≤ (15 : Int32) then (s_Mo_run_49_15 σ) else (if (σ 8 11) = (0 : Int32) then (ap1 (s_Mo_step σ) fun σ1 => s_Mo_run_27_16 v1 σ1) else (s_Mo_run_49_15 σ))
def s_Mo_run_27_14 (v1 : Int32) (σ : nS) : Int32 × nS := if v1 ≤ (14 : Int32) then (s_Mo_run_49_14 σ) else (if (σ 8 11) = (0 : Int32) then (ap1 (s_Mo_step σ) fun σ1 => s_Mo_run_27_15 v1 σ1) else (s_Mo_run_49_14 σ))
def s_Mo_run_27_13 (v1 : Int32) (σ : nS) : Int32 × nS := if v1 ≤ (13 : Int32) then (s_Mo_run_49_13 σ) else (if (σ 8 11) = (0 : Int32) then (ap1 (s_Mo_step σ) fun σ1 => s_Mo_run_27_14 v1 σ1) else (s_Mo_run_49_13 σ))
def s_Mo_run_27_12 (v1 : Int32) (σ : nS) : Int32 × nS := if v1 ≤ (12 : Int32) then (s_Mo_run_49_12 σ) else (if (σ 8 11) = (0 : Int32) then (ap1 (s_Mo_step σ) fun σ1 => s_Mo_run_27_13 v1 σ1) else (s_Mo_run_49_12 σ))
def s_Mo_run_27_11 (v1 : Int32) (σ : nS) : Int32 × nS := if v1 ≤ (11 : Int32) then (s_Mo_run_49_11 σ) else (if (σ 8 11) = (0 : Int32) then (ap1 (s_Mo_step σ) fun σ1 => s_Mo_run_27_12 v1 σ1) else (s_Mo_run_49_11 σ))
def s_Mo_run_27_10 (v1 : Int32) (σ : nS) : Int32 × nS := if v1 ≤ (10 : Int32) then (s_Mo_run_49_10 σ) else (if (σ 8 11) = (0 : Int32) then (ap1 (s_Mo_step σ) fun σ1 => s_Mo_run_27_11 v1 σ1) else (s_Mo_run_49_10 σ))
def s_Mo_run_27_9 (v1 : Int32) (σ : nS) : Int32 × nS := if v1 ≤ (9 : Int32) then (s_Mo_run_49_9 σ) else (if (σ 8 11) = (0 : Int32) then (ap1 (s_Mo_step σ) fun σ1 => s_Mo_run_27_10 v1 σ1) else (s_Mo_run_49_9 σ))
def s_Mo_run_27_8 (v1 : Int32) (σ : nS) : Int32 × nS := if v1 ≤ (8 : Int32) then (s_Mo_run_49_8 σ) else (if (σ 8 11) = (0 : Int32) then (ap1 (s_Mo_step σ) fun σ1 => s_Mo_run_27_9 v1 σ1) else (s_Mo_run_49_8 σ))
def s_Mo_run_27_7 (v1 : Int32) (σ : nS) : Int32 × nS := if v1 ≤ (7 : Int32) then (s_Mo_run_49_7 σ) else (if (σ 8 11) = (0 : Int32) then (ap1 (s_Mo_step σ) fun σ1 => s_Mo_run_27_8 v1 σ1) else (s_Mo_run_49_7 σ))
def s_Mo_run_27_6 (v1 : Int32) (σ : nS) : Int32 × nS := if v1 ≤ (6 : Int32) then (s_Mo_run_49_6 σ) else (if (σ 8 11) = (0 : Int32) then (ap1 (s_Mo_step σ) fun σ1 => s_Mo_run_27_7 v1 σ1) else (s_Mo_run_49_6 σ))
def s_Mo_run_27_5 (v1 : Int32) (σ : nS) : Int32 × nS := if v1 ≤ (5 : Int32) then (s_Mo_run_49_5 σ) else (if (σ 8 11) = (0 : Int32) then (ap1 (s_Mo_step σ) fun σ1 => s_Mo_run_27_6 v1 σ1) else (s_Mo_run_49_5 σ))
def s_Mo_run_27_4 (v1 : Int32) (σ : nS) : Int32 × nS := if v1 ≤ (4 : Int32) then (s_Mo_run_49_4 σ) else (if (σ 8 11) = (0 : Int32) then (ap1 (s_Mo_step σ) fun σ1 => s_Mo_run_27_5 v1 σ1) else (s_Mo_run_49_4 σ))
def s_Mo_run_27_3 (v1 : Int32) (σ : nS) : Int32 × nS := if v1 ≤ (3 : Int32) then (s_Mo_run_49_3 σ) else (if (σ 8 11) = (0 : Int32) then (ap1 (s_Mo_step σ) fun σ1 => s_Mo_run_27_4 v1 σ1) else (s_Mo_run_49_3 σ))
def s_Mo_run_27_2 (v1 : Int32) (σ : nS) : Int32 × nS := if v1 ≤ (2 : Int32) then (s_Mo_run_49_2 σ) else (if (σ 8 11) = (0 : Int32) then (ap1 (s_Mo_step σ) fun σ1 => s_Mo_run_27_3 v1 σ1) else (s_Mo_run_49_2 σ))
def s_Mo_run_27_1 (v1 : Int32) (σ : nS) : Int32 × nS := if v1 ≤ (1 : Int32) then (s_Mo_run_49_1 σ) else (if (σ 8 11) = (0 : Int32) then (ap1 (s_Mo_step σ) fun σ1 => s_Mo_run_27_2 v1 σ1) else (s_Mo_run_49_1 σ))
def s_Mo_run_27_0 (v1 : Int32) (σ : nS) : Int32 × nS := if v1 ≤ (0 : Int32) then (s_Mo_run_49_0 σ) else (if (σ 8 11) = (0 : Int32) then (ap1 (s_Mo_step σ) fun σ1 => s_Mo_run_27_1 v1 σ1) else (s_Mo_run_49_0 σ))
def s_Mo_run_17 (v1 : Int32) (k1 : Bool) (σ : nS) : Int32 × nS := ap2 (s_Mo_fails k1 σ) fun r1 σ1 => if r1 = true then (((0 : Int32), σ1)) else (s_Mo_run_27_0 v1 σ1)
def s_Mo_run_12 (v1 : Int32) (σ : nS) : Int32 × nS := s_Mo_run_17 v1 true σ
def s_Mo_run (v1 : Int32) (σ : nS) : Int32 × nS := if v1 < (1 : Int32) then (s_Mo_run_12 v1 σ) else (if v1 ≤ (25 : Int32) then (s_Mo_run_17 v1 false σ) else (s_Mo_run_12 v1 σ))
def o_Mo_run_49_0 (σ : nS) : Prop := True
def o_Mo_run_49_1 (σ : nS) : Prop := True
def o_Mo_run_49_2 (σ : nS) : Prop := True
def o_Mo_run_49_3 (σ : nS) : Prop := True
def o_Mo_run_49_4 (σ : nS) : Prop := True
def o_Mo_run_49_5 (σ : nS) : Prop := True
def o_Mo_run_49_6 (σ : nS) : Prop := True
def o_Mo_run_49_7 (σ : nS) : Prop := True
def o_Mo_run_49_8 (σ : nS) : Prop := True
def o_Mo_run_49_9 (σ : nS) : Prop := True
def o_Mo_run_49_10 (σ : nS) : Prop := True
def o_Mo_run_49_11 (σ : nS) : Prop := True
def o_Mo_run_49_12 (σ : nS) : Prop := True
def o_Mo_run_49_13 (σ : nS) : Prop := True
def o_Mo_run_49_14 (σ : nS) : Prop := True
def o_Mo_run_49_15 (σ : nS) : Prop := True
def o_Mo_run_49_16 (σ : nS) : Prop := True
def o_Mo_run_49_17 (σ : nS) : Prop := True
def o_Mo_run_49_18 (σ : nS) : Prop := True
def o_Mo_run_49_19 (σ : nS) : Prop := True
def o_Mo_run_49_20 (σ : nS) : Prop := True
def o_Mo_run_49_21 (σ : nS) : Prop := True
def o_Mo_run_49_22 (σ : nS) : Prop := True
def o_Mo_run_49_23 (σ : nS) : Prop := True
def o_Mo_run_49_24 (σ : nS) : Prop := True
def o_Mo_run_49_25 (σ : nS) : Prop := True
def o_Mo_run_27_25 (v1 : Int32) (σ : nS) : Prop := v1 ≤ (25 : Int32) ∧ (o_Mo_run_49_25 σ)
def o_Mo_run_27_24 (v1 : Int32) (σ : nS) : Prop := if v1 ≤ (24 : Int32) then (o_Mo_run_49_24 σ) else (if (σ 8 11) = (0 : Int32) then (o_Mo_step σ ∧ (ap1 (s_Mo_step σ) fun σ1 => (o_Mo_run_27_25 v1 σ1))) else (o_Mo_run_49_24 σ))
def o_Mo_run_27_23 (v1 : Int32) (σ : nS) : Prop := if v1 ≤ (23 : Int32) then (o_Mo_run_49_23 σ) else (if (σ 8 11) = (0 : Int32) then (o_Mo_step σ ∧ (ap1 (s_Mo_step σ) fun σ1 => (o_Mo_run_27_24 v1 σ1))) else (o_Mo_run_49_23 σ))
def o_Mo_run_27_22 (v1 : Int32) (σ : nS) : Prop := if v1 ≤ (22 : Int32) then (o_Mo_run_49_22 σ) else (if (σ 8 11) = (0 : Int32) then (o_Mo_step σ ∧ (ap1 (s_Mo_step σ) fun σ1 => (o_Mo_run_27_23 v1 σ1))) else (o_Mo_run_49_22 σ))
def o_Mo_run_27_21 (v1 : Int32) (σ : nS) : Prop := if v1 ≤ (21 : Int32) then (o_Mo_run_49_21 σ) else (if (σ 8 11) = (0 : Int32) then (o_Mo_step σ ∧ (ap1 (s_Mo_step σ) fun σ1 => (o_Mo_run_27_22 v1 σ1))) else (o_Mo_run_49_21 σ))
def o_Mo_run_27_20 (v1 : Int32) (σ : nS) : Prop := if v1 ≤ (20 : Int32) then (o_Mo_run_49_20 σ) else (if (σ 8 11) = (0 : Int32) then (o_Mo_step σ ∧ (ap1 (s_Mo_step σ) fun σ1 => (o_Mo_run_27_21 v1 σ1))) else (o_Mo_run_49_20 σ))
def o_Mo_run_27_19 (v1 : Int32) (σ : nS) : Prop := if v1 ≤ (19 : Int32) then (o_Mo_run_49_19 σ) else (if (σ 8 11) = (0 : Int32) then (o_Mo_step σ ∧ (ap1 (s_Mo_step σ) fun σ1 => (o_Mo_run_27_20 v1 σ1))) else (o_Mo_run_49_19 σ))
def o_Mo_run_27_18 (v1 : Int32) (σ : nS) : Prop := if v1 ≤ (18 : Int32) then (o_Mo_run_49_18 σ) else (if (σ 8 11) = (0 : Int32) then (o_Mo_step σ ∧ (ap1 (s_Mo_step σ) fun σ1 => (o_Mo_run_27_19 v1 σ1))) else (o_Mo_run_49_18 σ))
def o_Mo_run_27_17 (v1 : Int32) (σ : nS) : Prop := if v1 ≤ (17 : Int32) then (o_Mo_run_49_17 σ) else (if (σ 8 11) = (0 : Int32) then (o_Mo_step σ ∧ (ap1 (s_Mo_step σ) fun σ1 => (o_Mo_run_27_18 v1 σ1))) else (o_Mo_run_49_17 σ))
def o_Mo_run_27_16 (v1 : Int32) (σ : nS) : Prop := if v1 ≤ (16 : Int32) then (o_Mo_run_49_16 σ) else (if (σ 8 11) = (0 : Int32) then (o_Mo_step σ ∧ (ap1 (s_Mo_step σ) fun σ1 => (o_Mo_run_27_17 v1 σ1))) else (o_Mo_run_49_16 σ))
def o_Mo_run_27_15 (v1 : Int32) (σ : nS) : Prop := if v1 ≤ (15 : Int32) then (o_Mo_run_49_15 σ) else (if (σ 8 11) = (0 : Int32) then (o_Mo_step σ ∧ (ap1 (s_Mo_step σ) fun σ1 => (o_Mo_run_27_16 v1 σ1))) else (o_Mo_run_49_15 σ))
def o_Mo_run_27_14 (v1 : Int32) (σ : nS) : Prop := if v1 ≤ (14 : Int32) then (o_Mo_run_49_14 σ) else (if (σ 8 11) = (0 : Int32) then (o_Mo_step σ ∧ (ap1 (s_Mo_step σ) fun σ1 => (o_Mo_run_27_15 v1 σ1))) else (o_Mo_run_49_14 σ))
def o_Mo_run_27_13 (v1 : Int32) (σ : nS) : Prop := if v1 ≤ (13 : Int32) then (o_Mo_run_49_13 σ) else (if (σ 8 11) = (0 : Int32) then (o_Mo_step σ ∧ (ap1 (s_Mo_step σ) fun σ1 => (o_Mo_run_27_14 v1 σ1))) else (o_Mo_run_49_13 σ))
def o_Mo_run_27_12 (v1 : Int32) (σ : nS) : Prop := if v1 ≤ (12 : Int32) then (o_Mo_run_49_12 σ) else (if (σ 8 11) = (0 : Int32) then (o_Mo_step σ ∧ (ap1 (s_Mo_step σ) fun σ1 => (o_Mo_run_27_13 v1 σ1))) else (o_Mo_run_49_12 σ))
def o_Mo_run_27_11 (v1 : Int32) (σ : nS) : Prop := if v1 ≤ (11 : Int32) then (o_Mo_run_49_11 σ) else (if (σ 8 11) = (0 : Int32) then (o_Mo_step σ ∧ (ap1 (s_Mo_step σ) fun σ1 => (o_Mo_run_27_12 v1 σ1))) else (o_Mo_run_49_11 σ))
def o_Mo_run_27_10 (v1 : Int32) (σ : nS) : Prop := if v1 ≤ (10 : Int32) then (o_Mo_run_49_10 σ) else (if (σ 8 11) = (0 : Int32) then (o_Mo_step σ ∧ (ap1 (s_Mo_step σ) fun σ1 => (o_Mo_run_27_11 v1 σ1))) else (o_Mo_run_49_10 σ))
def o_Mo_run_27_9 (v1 : Int32) (σ : nS) : Prop := if v1 ≤ (9 : Int32) then (o_Mo_run_49_9 σ) else (if (σ 8 11) = (0 : Int32) then (o_Mo_step σ ∧ (ap1 (s_Mo_step σ) fun σ1 => (o_Mo_run_27_10 v1 σ1))) else (o_Mo_run_49_9 σ))
def o_Mo_run_27_8 (v1 : Int32) (σ : nS) : Prop := if v1 ≤ (8 : Int32) then (o_Mo_run_49_8 σ) else (if (σ 8 11) = (0 : Int32) then (o_Mo_step σ ∧ (ap1 (s_Mo_step σ) fun σ1 => (o_Mo_run_27_9 v1 σ1))) else (o_Mo_run_49_8 σ))
def o_Mo_run_27_7 (v1 : Int32) (σ : nS) : Prop := if v1 ≤ (7 : Int32) then (o_Mo_run_49_7 σ) else (if (σ 8 11) = (0 : Int32) then (o_Mo_step σ ∧ (ap1 (s_Mo_step σ) fun σ1 => (o_Mo_run_27_8 v1 σ1))) else (o_Mo_run_49_7 σ))
def o_Mo_run_27_6 (v1 : Int32) (σ : nS) : Prop := if v1 ≤ (6 : Int32) then (o_Mo_run_49_6 σ) else (if (σ 8 11) = (0 : Int32) then (o_Mo_step σ ∧ (ap1 (s_Mo_step σ) fun σ1 => (o_Mo_run_27_7 v1 σ1))) else (o_Mo_run_49_6 σ))
def o_Mo_run_27_5 (v1 : Int32) (σ : nS) : Prop := if v1 ≤ (5 : Int32) then (o_Mo_run_49_5 σ) else (if (σ 8 11) = (0 : Int32) then (o_Mo_step σ ∧ (ap1 (s_Mo_step σ) fun σ1 => (o_Mo_run_27_6 v1 σ1))) else (o_Mo_run_49_5 σ))
def o_Mo_run_27_4 (v1 : Int32) (σ : nS) : Prop := if v1 ≤ (4 : Int32) then (o_Mo_run_49_4 σ) else (if (σ 8 11) = (0 : Int32) then (o_Mo_step σ ∧ (ap1 (s_Mo_step σ) fun σ1 => (o_Mo_run_27_5 v1 σ1))) else (o_Mo_run_49_4 σ))
def o_Mo_run_27_3 (v1 : Int32) (σ : nS) : Prop := if v1 ≤ (3 : Int32) then (o_Mo_run_49_3 σ) else (if (σ 8 11) = (0 : Int32) then (o_Mo_step σ ∧ (ap1 (s_Mo_step σ) fun σ1 => (o_Mo_run_27_4 v1 σ1))) else (o_Mo_run_49_3 σ))
def o_Mo_run_27_2 (v1 : Int32) (σ : nS) : Prop := if v1 ≤ (2 : Int32) then (o_Mo_run_49_2 σ) else (if (σ 8 11) = (0 : Int32) then (o_Mo_step σ ∧ (ap1 (s_Mo_step σ) fun σ1 => (o_Mo_run_27_3 v1 σ1))) else (o_Mo_run_49_2 σ))
def o_Mo_run_27_1 (v1 : Int32) (σ : nS) : Prop := if v1 ≤ (1 : Int32) then (o_Mo_run_49_1 σ) else (if (σ 8 11) = (0 : Int32) then (o_Mo_step σ ∧ (ap1 (s_Mo_step σ) fun σ1 => (o_Mo_run_27_2 v1 σ1))) else (o_Mo_run_49_1 σ))
def o_Mo_run_27_0 (v1 : Int32) (σ : nS) : Prop := if v1 ≤ (0 : Int32) then (o_Mo_run_49_0 σ) else (if (σ 8 11) = (0 : Int32) then (o_Mo_step σ ∧ (ap1 (s_Mo_step σ) fun σ1 => (o_Mo_run_27_1 v1 σ1))) else (o_Mo_run_49_0 σ))
def o_Mo_run_17 (v1 : Int32) (k1 : Bool) (σ : nS) : Prop := ap2 (s_Mo_fails k1 σ) fun r1 σ1 => (if r1 = true then (True) else (o_Mo_run_27_0 v1 σ1))
def o_Mo_run_12 (v1 : Int32) (σ : nS) : Prop := o_Mo_run_17 v1 true σ
def o_Mo_run (v1 : Int32) (σ : nS) : Prop := if v1 < (1 : Int32) then (o_Mo_run_12 v1 σ) else (if v1 ≤ (25 : Int32) then (o_Mo_run_17 v1 false σ) else (o_Mo_run_12 v1 σ))
def s_Mo_state_157 (k0 : Int32) (k1 : Bool) (σ : nS) : Int32 × nS := ((k0 + (bI k1)), σ)
def s_Mo_state_144 (k0 : Int32) (k1 : Int32) (σ : nS) : Int32 × nS := if (σ 8 7) = (0 : Int32) then (s_Mo_state_157 (k0 + k1) false σ) else (s_Mo_state_157 (k0 + k1) true σ)
def s_Mo_state_131 (k0 : Int32) (k1 : Int32) (σ : nS) : Int32 × nS := if (σ 8 6) = (0 : Int32) then (s_Mo_state_144 (k0 + k1) (0 : Int32) σ) else (s_Mo_state_144 (k0 + k1) (2 : Int32) σ)
def s_Mo_state_119 (k0 : Int32) (σ : nS) : Int32 × nS := if (σ 8 5) = (0 : Int32) then (s_Mo_state_131 k0 (0 : Int32) σ) else (s_Mo_state_131 k0 (4 : Int32) σ)
def s_Mo_state_100 (k0 : Int32) (k1 : Int32) (σ : nS) : Int32 × nS := ((k0 + k1), σ)
def s_Mo_state_85 (v3 : Int32) (k0 : Bool) (k1 : Int32) (σ : nS) : Int32 × nS := if (σ 1 (v3).toNatClampNeg) = (0 : Int32) then (s_Mo_state_100 ((bI k0) + k1) (0 : Int32) σ) else (s_Mo_state_100 ((bI k0) + k1) (4 : Int32) σ)
def s_Mo_state_71 (v3 : Int32) (k0 : Bool) (σ : nS) : Int32 × nS := if (σ 3 (v3).toNatClampNeg) = (0 : Int32) then (s_Mo_state_85 v3 k0 (0 : Int32) σ) else (s_Mo_state_85 v3 k0 (2 : Int32) σ)
def s_Mo_state_38 (v1 : Int32) (k1 : Bool) (σ : nS) : Int32 × nS := ap2 (s_Mo_fails k1 σ) fun r1 σ1 => if r1 = true then (((0 : Int32), σ1)) else (if v1 ≤ (17 : Int32) then (if v1 = (0 : Int32) then (if (σ1 8 4) = (0 : Int32) then (s_Mo_state_119 (0 : Int32) σ1) else (s_Mo_state_119 (8 : Int32) σ1)) else (if v1 = (1 : Int32) then (((σ1 8 10), σ1)) else (if v1 = (2 : Int32) then (((s_Mo_level σ1), σ1)) else (if v1 = (3 : Int32) then (((s_Mo_due σ1), σ1)) else (if v1 = (4 : Int32) then (((σ1 8 12), σ1)) else (if v1 = (5 : Int32) then (((σ1 8 13), σ1)) else (if v1 = (6 : Int32) then (((σ1 8 11), σ1)) else (if v1 = (7 : Int32) then (((σ1 8 14), σ1)) else (((σ1 8 9), σ1)))))))))) else (if (σ1 2 ((v1 - (16 : Int32))).toNatClampNeg) = (0 : Int32) then (s_Mo_state_71 (v1 - (16 : Int32)) false σ1) else (s_Mo_state_71 (v1 - (16 : Int32)) true σ1)))
def s_Mo_state_27 (v1 : Int32) (k0 : Bool) (σ : nS) : Int32 × nS := if k0 = true then (s_Mo_state_38 v1 false σ) else (s_Mo_state_38 v1 true σ)
def s_Mo_state_26 (v1 : Int32) (σ : nS) : Int32 × nS := s_Mo_state_27 v1 false σ
def s_Mo_state_22 (v1 : Int32) (σ : nS) : Int32 × nS := s_Mo_state_27 v1 true σ
def s_Mo_state_10 (v1 : Int32) (σ : nS) : Int32 × nS := if v1 < (18 : Int32) then (s_Mo_state_26 v1 σ) else (if (32 : Int32) ≤ v1 then (s_Mo_state_26 v1 σ) else (s_Mo_state_22 v1 σ))
def s_Mo_state (v1 : Int32) (σ : nS) : Int32 × nS := if v1 < (0 : Int32) then (s_Mo_state_10 v1 σ) else (if v1 < (9 : Int32) then (s_Mo_state_22 v1 σ) else (s_Mo_state_10 v1 σ))
def o_Mo_state_157 (k0 : Int32) (k1 : Bool) (σ : nS) : Prop := True
def o_Mo_state_144 (k0 : Int32) (k1 : Int32) (σ : nS) : Prop := if (σ 8 7) = (0 : Int32) then (o_Mo_state_157 (k0 + k1) false σ) else (o_Mo_state_157 (k0 + k1) true σ)
def o_Mo_state_131 (k0 : Int32) (k1 : Int32) (σ : nS) : Prop := if (σ 8 6) = (0 : Int32) then (o_Mo_state_144 (k0 + k1) (0 : Int32) σ) else (o_Mo_state_144 (k0 + k1) (2 : Int32) σ)
def o_Mo_state_119 (k0 : Int32) (σ : nS) : Prop := if (σ 8 5) = (0 : Int32) then (o_Mo_state_131 k0 (0 : Int32) σ) else (o_Mo_state_131 k0 (4 : Int32) σ)
def o_Mo_state_100 (k0 : Int32) (k1 : Int32) (σ : nS) : Prop := True
def o_Mo_state_85 (v3 : Int32) (k0 : Bool) (k1 : Int32) (σ : nS) : Prop := vp_in v3 16 ∧ (if (σ 1 (v3).toNatClampNeg) = (0 : Int32) then (o_Mo_state_100 ((bI k0) + k1) (0 : Int32) σ) else (o_Mo_state_100 ((bI k0) + k1) (4 : Int32) σ))
def o_Mo_state_71 (v3 : Int32) (k0 : Bool) (σ : nS) : Prop := vp_in v3 16 ∧ (if (σ 3 (v3).toNatClampNeg) = (0 : Int32) then (o_Mo_state_85 v3 k0 (0 : Int32) σ) else (o_Mo_state_85 v3 k0 (2 : Int32) σ))
def o_Mo_state_38 (v1 : Int32) (k1 : Bool) (σ : nS) : Prop := ap2 (s_Mo_fails k1 σ) fun r1 σ1 => (if r1 = true then (True) else (if v1 ≤ (17 : Int32) then (if v1 = (0 : Int32) then (if (σ1 8 4) = (0 : Int32) then (o_Mo_state_119 (0 : Int32) σ1) else (o_Mo_state_119 (8 : Int32) σ1)) else (if v1 = (1 : Int32) then (True) else (if v1 = (2 : Int32) then (True) else (if v1 = (3 : Int32) then (True) else (if v1 = (4 : Int32) then (True) else (if v1 = (5 : Int32) then (True) else (if v1 = (6 : Int32) then (True) else (if v1 = (7 : Int32) then (True) else (True))))))))) else (vp_in (v1 - (16 : Int32)) 16 ∧ (if (σ1 2 ((v1 - (16 : Int32))).toNatClampNeg) = (0 : Int32) then (o_Mo_state_71 (v1 - (16 : Int32)) false σ1) else (o_Mo_state_71 (v1 - (16 : Int32)) true σ1)))))
def o_Mo_state_27 (v1 : Int32) (k0 : Bool) (σ : nS) : Prop := if k0 = true then (o_Mo_state_38 v1 false σ) else (o_Mo_state_38 v1 true σ)
def o_Mo_state_26 (v1 : Int32) (σ : nS) : Prop := o_Mo_state_27 v1 false σ
def o_Mo_state_22 (v1 : Int32) (σ : nS) : Prop := o_Mo_state_27 v1 true σ
def o_Mo_state_10 (v1 : Int32) (σ : nS) : Prop := if v1 < (18 : Int32) then (o_Mo_state_26 v1 σ) else (if (32 : Int32) ≤ v1 then (o_Mo_state_26 v1 σ) else (o_Mo_state_22 v1 σ))
def o_Mo_state (v1 : Int32) (σ : nS) : Prop := if v1 < (0 : Int32) then (o_Mo_state_10 v1 σ) else (if v1 < (9 : Int32) then (o_Mo_state_22 v1 σ) else (o_Mo_state_10 v1 σ))
