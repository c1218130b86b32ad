abbrev oS9 : Type := oS
def x_N_set (v1 : Int32) (v2 : Int32) (σ : nS) : oS := if (s_Me_holdsWord v1) = true then (ap1 (s_Me_store v1 v2 σ) fun σ1 => (some 0, σ1)) else ((none, σ))
def x_N_word (v1 : Int32) (σ : nS) : oS := if (s_Me_holdsWord v1) = true then ((some (s_Me_load v1 σ), σ)) else ((none, σ))
def x_N_put_10 (σ : nS) : oS := (none, σ)
def x_N_put_87 (k1 : Bool) (σ : nS) : oS := (some 0, (up2 σ 8 2 (bI k1)))
def x_N_put_106 (k1 : Bool) (σ : nS) : oS := (some 0, (up2 σ 8 3 (bI k1)))
def x_N_put (v1 : Int32) (v2 : Int32) (σ : nS) : oS := if v1 < (0 : Int32) then (x_N_put_10 σ) else (if v1 ≤ (20 : Int32) then (if v1 = (15 : Int32) then ((some 0, (up2 σ 0 15 (s_N_even v2)))) else if v1 = (16 : Int32) then (if v2 = (0 : Int32) then (x_N_put_87 false σ) else (x_N_put_87 true σ)) else if v1 = (17 : Int32) then (if v2 = (0 : Int32) then (x_N_put_106 false σ) else (x_N_put_106 true σ)) else if v1 = (18 : Int32) then ((some 0, (up2 σ 8 1 (v2 &&& (7 : Int32))))) else if v1 = (19 : Int32) then ((some 0, (up2 σ 8 0 (v2 &&& (3 : Int32))))) else if v1 = (20 : Int32) then (ap1 (s_Ti_start (v2 &&& (255 : Int32)) σ) fun σ1 => (some 0, σ1)) else ((some 0, (up2 σ 0 (v1).toNatClampNeg v2)))) else (x_N_put_10 σ))
def ox_N_put_10 (σ : nS) : Prop := True
def ox_N_put_87 (k1 : Bool) (σ : nS) : Prop := True
def ox_N_put_106 (k1 : Bool) (σ : nS) : Prop := True
def ox_N_put (v1 : Int32) (v2 : Int32) (σ : nS) : Prop := if v1 < (0 : Int32) then (ox_N_put_10 σ) else (if v1 ≤ (20 : Int32) then (if v1 = (15 : Int32) then (True) else if v1 = (16 : Int32) then (if v2 = (0 : Int32) then (ox_N_put_87 false σ) else (ox_N_put_87 true σ)) else if v1 = (17 : Int32) then (if v2 = (0 : Int32) then (ox_N_put_106 false σ) else (ox_N_put_106 true σ)) else if v1 = (18 : Int32) then (True) else if v1 = (19 : Int32) then (True) else if v1 = (20 : Int32) then (ap1 (s_Ti_start (v2 &&& (255 : Int32)) σ) fun σ1 => (True)) else (vp_in v1 16 ∧ (True))) else (ox_N_put_10 σ))
def x_N_register_10 (σ : nS) : oS := (none, σ)
def x_N_register (v1 : Int32) (σ : nS) : oS := if v1 < (0 : Int32) then (x_N_register_10 σ) else (if v1 ≤ (20 : Int32) then (if v1 = (16 : Int32) then (if (σ 8 2) = (0 : Int32) then ((some (0 : Int32), σ)) else ((some (1 : Int32), σ))) else if v1 = (17 : Int32) then (if (σ 8 3) = (0 : Int32) then ((some (0 : Int32), σ)) else ((some (1 : Int32), σ))) else if v1 = (18 : Int32) then ((some (σ 8 1), σ)) else if v1 = (19 : Int32) then ((some (σ 8 0), σ)) else if v1 = (20 : Int32) then ((some (σ 8 8), σ)) else ((some (σ 0 (v1).toNatClampNeg), σ))) else (x_N_register_10 σ))
def ox_N_register_10 (σ : nS) : Prop := True
def ox_N_register (v1 : Int32) (σ : nS) : Prop := if v1 < (0 : Int32) then (ox_N_register_10 σ) else (if v1 ≤ (20 : Int32) then (if v1 = (16 : Int32) then (if (σ 8 2) = (0 : Int32) then (True) else (True)) else if v1 = (17 : Int32) then (if (σ 8 3) = (0 : Int32) then (True) else (True)) else if v1 = (18 : Int32) then (True) else if v1 = (19 : Int32) then (True) else if v1 = (20 : Int32) then (True) else (vp_in v1 16 ∧ (True))) else (ox_N_register_10 σ))
def x_N_rank_21 (σ : nS) : oS := (none, σ)
def x_N_rank (v1 : Int32) (v2 : Int32) (v3 : Bool) (σ : nS) : oS := if v1 < (4 : Int32) then (x_N_rank_21 σ) else (if (15 : Int32) < v1 then (x_N_rank_21 σ) else (if v2 < (0 : Int32) then (x_N_rank_21 σ) else (if v2 ≤ (7 : Int32) then (ap1 (s_Ex_order v1 v2 v3 σ) fun σ1 => (some 0, σ1)) else (x_N_rank_21 σ))))
def ox_N_rank_21 (σ : nS) : Prop := True
def ox_N_rank (v1 : Int32) (v2 : Int32) (v3 : Bool) (σ : nS) : Prop := if v1 < (4 : Int32) then (ox_N_rank_21 σ) else (if (15 : Int32) < v1 then (ox_N_rank_21 σ) else (if v2 < (0 : Int32) then (ox_N_rank_21 σ) else (if v2 ≤ (7 : Int32) then (vp_in v1 16 ∧ (ap1 (s_Ex_order v1 v2 v3 σ) fun σ1 => (True))) else (ox_N_rank_21 σ))))
def x_N_pend_11 (σ : nS) : oS := (none, σ)
def x_N_pend (v1 : Int32) (v2 : Bool) (σ : nS) : oS := if v1 < (2 : Int32) then (x_N_pend_11 σ) else (if v1 ≤ (15 : Int32) then ((some 0, (up2 σ 2 (v1).toNatClampNeg (bI v2)))) else (x_N_pend_11 σ))
def ox_N_pend_11 (σ : nS) : Prop := True
def ox_N_pend (v1 : Int32) (v2 : Bool) (σ : nS) : Prop := if v1 < (2 : Int32) then (ox_N_pend_11 σ) else (if v1 ≤ (15 : Int32) then (vp_in v1 16 ∧ (True)) else (ox_N_pend_11 σ))
def x_N_area_20 (σ : nS) : oS := (none, σ)
def x_N_area_47 (σ : nS) : oS := (none, σ)
def x_N_area (v1 : Int32) (v2 : Int32) (v3 : Int32) (v4 : Int32) (v5 : Bool) (σ : nS) : oS := if v1 < (0 : Int32) then (x_N_area_20 σ) else (if (4 : Int32) ≤ v1 then (x_N_area_20 σ) else (if v4 < (0 : Int32) then (x_N_area_20 σ) else (if v4 ≤ (2 : Int32) then (if v2 < (0 : Int32) then (x_N_area_47 σ) else (if v3 < (0 : Int32) then (x_N_area_47 σ) else (if v2 ≤ ((1024 : Int32) - v3) then (ap1 (s_Ar_lay v1 v2 v3 v4 v5 σ) fun σ1 => (some 0, σ1)) else (x_N_area_47 σ)))) else (x_N_area_20 σ))))
def ox_N_area_20 (σ : nS) : Prop := True
def ox_N_area_47 (σ : nS) : Prop := True
def ox_N_area (v1 : Int32) (v2 : Int32) (v3 : Int32) (v4 : Int32) (v5 : Bool) (σ : nS) : Prop := if v1 < (0 : Int32) then (ox_N_area_20 σ) else (if (4 : Int32) ≤ v1 then (ox_N_area_20 σ) else (if v4 < (0 : Int32) then (ox_N_area_20 σ) else (if v4 ≤ (2 : Int32) then (if v2 < (0 : Int32) then (ox_N_area_47 σ) else (if v3 < (0 : Int32) then (ox_N_area_47 σ) else (if v2 ≤ ((1024 : Int32) - v3) then (vp_in v1 4 ∧ (ap1 (s_Ar_lay v1 v2 v3 v4 v5 σ) fun σ1 => (True))) else (ox_N_area_47 σ)))) else (ox_N_area_20 σ))))
def x_N_run_11 (σ : nS) : oS := (none, σ)
def x_N_run_45_0 (σ : nS) : oS := (some (0 : Int32), σ)
def x_N_run_45_1 (σ : nS) : oS := (some (1 : Int32), σ)
def x_N_run_45_2 (σ : nS) : oS := (some (2 : Int32), σ)
def x_N_run_45_3 (σ : nS) : oS := (some (3 : Int32), σ)
def x_N_run_45_4 (σ : nS) : oS := (some (4 : Int32), σ)
def x_N_run_45_5 (σ : nS) : oS := (some (5 : Int32), σ)
def x_N_run_45_6 (σ : nS) : oS := (some (6 : Int32), σ)
def x_N_run_45_7 (σ : nS) : oS := (some (7 : Int32), σ)
def x_N_run_45_8 (σ : nS) : oS := (some (8 : Int32), σ)
def x_N_run_45_9 (σ : nS) : oS := (some (9 : Int32), σ)
def x_N_run_45_10 (σ : nS) : oS := (some (10 : Int32), σ)
def x_N_run_45_11 (σ : nS) : oS := (some (11 : Int32), σ)
def x_N_run_45_12 (σ : nS) : oS := (some (12 : Int32), σ)
def x_N_run_45_13 (σ : nS) : oS := (some (13 : Int32), σ)
def x_N_run_45_14 (σ : nS) : oS := (some (14 : Int32), σ)
def x_N_run_45_15 (σ : nS) : oS := (some (15 : Int32), σ)
def x_N_run_45_16 (σ : nS) : oS := (some (16 : Int32), σ)
def x_N_run_45_17 (σ : nS) : oS := (some (17 : Int32), σ)
def x_N_run_45_18 (σ : nS) : oS := (some (18 : Int32), σ)
def x_N_run_45_19 (σ : nS) : oS := (some (19 : Int32), σ)
def x_N_run_45_20 (σ : nS) : oS := (some (20 : Int32), σ)
def x_N_run_45_21 (σ : nS) : oS := (some (21 : Int32), σ)
def x_N_run_45_22 (σ : nS) : oS := (some (22 : Int32), σ)
def x_N_run_45_23 (σ : nS) : oS := (some (23 : Int32), σ)
def x_N_run_45_24 (σ : nS) : oS := (some (24 : Int32), σ)
def x_N_run_45_25 (σ : nS) : oS := (some (25 : Int32), σ)
def x_N_run_23_25 (v1 : Int32) (σ : nS) : oS := x_N_run_45_25 σ
def x_N_run_23_24 (v1 : Int32) (σ : nS) : oS := if v1 ≤ (24 : Int32) then (x_N_run_45_24 σ) else (if (σ 8 11) = (0 : Int32) then (ap1 (s_N_step σ) fun σ1 => x_N_run_23_25 v1 σ1) else (x_N_run_45_24 σ))
def x_N_run_23_23 (v1 : Int32) (σ : nS) : oS := if v1 ≤ (23 : Int32) then (x_N_run_45_23 σ) else (if (σ 8 11) = (0 : Int32) then (ap1 (s_N_step σ) fun σ1 => x_N_run_23_24 v1 σ1) else (x_N_run_45_23 σ))
def x_N_run_23_22 (v1 : Int32) (σ : nS) : oS := if v1 ≤ (22 : Int32) then (x_N_run_45_22 σ) else (if (σ 8 11) = (0 : Int32) then (ap1 (s_N_step σ) fun σ1 => x_N_run_23_23 v1 σ1) else (x_N_run_45_22 σ))
def x_N_run_23_21 (v1 : Int32) (σ : nS) : oS := if v1 ≤ (21 : Int32) then (x_N_run_45_21 σ) else (if (σ 8 11) = (0 : Int32) then (ap1 (s_N_step σ) fun σ1 => x_N_run_23_22 v1 σ1) else (x_N_run_45_21 σ))
def x_N_run_23_20 (v1 : Int32) (σ : nS) : oS := if v1 ≤ (20 : Int32) then (x_N_run_45_20 σ) else (if (σ 8 11) = (0 : Int32) then (ap1 (s_N_step σ) fun σ1 => x_N_run_23_21 v1 σ1) else (x_N_run_45_20 σ))
def x_N_run_23_19 (v1 : Int32) (σ : nS) : oS := if v1 ≤ (19 : Int32) then (x_N_run_45_19 σ) else (if (σ 8 11) = (0 : Int32) then (ap1 (s_N_step σ) fun σ1 => x_N_run_23_20 v1 σ1) else (x_N_run_45_19 σ))
def x_N_run_23_18 (v1 : Int32) (σ : nS) : oS := if v1 ≤ (18 : Int32) then (x_N_run_45_18 σ) else (if (σ 8 11) = (0 : Int32) then (ap1 (s_N_step σ) fun σ1 => x_N_run_23_19 v1 σ1) else (x_N_run_45_18 σ))
def x_N_run_23_17 (v1 : Int32) (σ : nS) : oS := if v1 ≤ (17 : Int32) then (x_N_run_45_17 σ) else (if (σ 8 11) = (0 : Int32) then (ap1 (s_N_step σ) fun σ1 => x_N_run_23_18 v1 σ1) else (x_N_run_45_17 σ))
def x_N_run_23_16 (v1 : Int32) (σ : nS) : oS := if v1 ≤ (16 : Int32) then (x_N_run_45_16 σ) else (if (σ 8 11) = (0 : Int32) then (ap1 (s_N_step σ) fun σ1 => x_N_run_23_17 v1 σ1) else (x_N_run_45_16 σ))
def x_N_run_23_15 (v1 : Int32) (σ : nS) : oS := if v1 ≤ (15 : Int32) then (x_N_run_45_15 σ) else (if (σ 8 11) = (0 : Int32) then (ap1 (s_N_step σ) fun σ1 => x_N_run_23_16 v1 σ1) else (x_N_run_45_15 σ))
def x_N_run_23_14 (v1 : Int32) (σ : nS) : oS := if v1 ≤ (14 : Int32) then (x_N_run_45_14 σ) else (if (σ 8 11) = (0 : Int32) then (ap1 (s_N_step σ) fun σ1 => x_N_run_23_15 v1 σ1) else (x_N_run_45_14 σ))
def x_N_run_23_13 (v1 : Int32) (σ : nS) : oS := if v1 ≤ (13 : Int32) then (x_N_run_45_13 σ) else (if (σ 8 11) = (0 : Int32) then (ap1 (s_N_step σ) fun σ1 => x_N_run_23_14 v1 σ1) else (x_N_run_45_13 σ))
def x_N_run_23_12 (v1 : Int32) (σ : nS) : oS := if v1 ≤ (12 : Int32) then (x_N_run_45_12 σ) else (if (σ 8 11) = (0 : Int32) then (ap1 (s_N_step σ) fun σ1 => x_N_run_23_13 v1 σ1) else (x_N_run_45_12 σ))
def x_N_run_23_11 (v1 : Int32) (σ : nS) : oS := if v1 ≤ (11 : Int32) then (x_N_run_45_11 σ) else (if (σ 8 11) = (0 : Int32) then (ap1 (s_N_step σ) fun σ1 => x_N_run_23_12 v1 σ1) else (x_N_run_45_11 σ))
def x_N_run_23_10 (v1 : Int32) (σ : nS) : oS := if v1 ≤ (10 : Int32) then (x_N_run_45_10 σ) else (if (σ 8 11) = (0 : Int32) then (ap1 (s_N_step σ) fun σ1 => x_N_run_23_11 v1 σ1) else (x_N_run_45_10 σ))
def x_N_run_23_9 (v1 : Int32) (σ : nS) : oS := if v1 ≤ (9 : Int32) then (x_N_run_45_9 σ) else (if (σ 8 11) = (0 : Int32) then (ap1 (s_N_step σ) fun σ1 => x_N_run_23_10 v1 σ1) else (x_N_run_45_9 σ))
def x_N_run_23_8 (v1 : Int32) (σ : nS) : oS := if v1 ≤ (8 : Int32) then (x_N_run_45_8 σ) else (if (σ 8 11) = (0 : Int32) then (ap1 (s_N_step σ) fun σ1 => x_N_run_23_9 v1 σ1) else (x_N_run_45_8 σ))
def x_N_run_23_7 (v1 : Int32) (σ : nS) : oS := if v1 ≤ (7 : Int32) then (x_N_run_45_7 σ) else (if (σ 8 11) = (0 : Int32) then (ap1 (s_N_step σ) fun σ1 => x_N_run_23_8 v1 σ1) else (x_N_run_45_7 σ))
def x_N_run_23_6 (v1 : Int32) (σ : nS) : oS := if v1 ≤ (6 : Int32) then (x_N_run_45_6 σ) else (if (σ 8 11) = (0 : Int32) then (ap1 (s_N_step σ) fun σ1 => x_N_run_23_7 v1 σ1) else (x_N_run_45_6 σ))
def x_N_run_23_5 (v1 : Int32) (σ : nS) : oS := if v1 ≤ (5 : Int32) then (x_N_run_45_5 σ) else (if (σ 8 11) = (0 : Int32) then (ap1 (s_N_step σ) fun σ1 => x_N_run_23_6 v1 σ1) else (x_N_run_45_5 σ))
def x_N_run_23_4 (v1 : Int32) (σ : nS) : oS := if v1 ≤ (4 : Int32) then (x_N_run_45_4 σ) else (if (σ 8 11) = (0 : Int32) then (ap1 (s_N_step σ) fun σ1 => x_N_run_23_5 v1 σ1) else (x_N_run_45_4 σ))
def x_N_run_23_3 (v1 : Int32) (σ : nS) : oS := if v1 ≤ (3 : Int32) then (x_N_run_45_3 σ) else (if (σ 8 11) = (0 : Int32) then (ap1 (s_N_step σ) fun σ1 => x_N_run_23_4 v1 σ1) else (x_N_run_45_3 σ))
def x_N_run_23_2 (v1 : Int32) (σ : nS) : oS := if v1 ≤ (2 : Int32) then (x_N_run_45_2 σ) else (if (σ 8 11) = (0 : Int32) then (ap1 (s_N_step σ) fun σ1 => x_N_run_23_3 v1 σ1) else (x_N_run_45_2 σ))
def x_N_run_23_1 (v1 : Int32) (σ : nS) : oS := if v1 ≤ (1 : Int32) then (x_N_run_45_1 σ) else (if (σ 8 11) = (0 : Int32) then (ap1 (s_N_step σ) fun σ1 => x_N_run_23_2 v1 σ1) else (x_N_run_45_1 σ))
def x_N_run_23_0 (v1 : Int32) (σ : nS) : oS := if v1 ≤ (0 : Int32) then (x_N_run_45_0 σ) else (if (σ 8 11) = (0 : Int32) then (ap1 (s_N_step σ) fun σ1 => x_N_run_23_1 v1 σ1) else (x_N_run_45_0 σ))
def x_N_run (v1 : Int32) (σ : nS) : oS := if v1 < (1 : Int32) then (x_N_run_11 σ) else (if v1 ≤ (25 : Int32) then (x_N_run_23_0 v1 σ) else (x_N_run_11 σ))
def ox_N_run_11 (σ : nS) : Prop := True
def ox_N_run_45_0 (σ : nS) : Prop := True
def ox_N_run_45_1 (σ : nS) : Prop := True
def ox_N_run_45_2 (σ : nS) : Prop := True
def ox_N_run_45_3 (σ : nS) : Prop := True
def ox_N_run_45_4 (σ : nS) : Prop := True
def ox_N_run_45_5 (σ : nS) : Prop := True
def ox_N_run_45_6 (σ : nS) : Prop := True
def ox_N_run_45_7 (σ : nS) : Prop := True
def ox_N_run_45_8 (σ : nS) : Prop := True
def ox_N_run_45_9 (σ : nS) : Prop := True
def ox_N_run_45_10 (σ : nS) : Prop := True
def ox_N_run_45_11 (σ : nS) : Prop := True
def ox_N_run_45_12 (σ : nS) : Prop := True
def ox_N_run_45_13 (σ : nS) : Prop := True
def ox_N_run_45_14 (σ : nS) : Prop := True
def ox_N_run_45_15 (σ : nS) : Prop := True
def ox_N_run_45_16 (σ : nS) : Prop := True
def ox_N_run_45_17 (σ : nS) : Prop := True
def ox_N_run_45_18 (σ : nS) : Prop := True
def ox_N_run_45_19 (σ : nS) : Prop := True
def ox_N_run_45_20 (σ : nS) : Prop := True
def ox_N_run_45_21 (σ : nS) : Prop := True
def ox_N_run_45_22 (σ : nS) : Prop := True
def ox_N_run_45_23 (σ : nS) : Prop := True
def ox_N_run_45_24 (σ : nS) : Prop := True
def ox_N_run_45_25 (σ : nS) : Prop := True
def ox_N_run_23_25 (v1 : Int32) (σ : nS) : Prop := v1 ≤ (25 : Int32) ∧ (ox_N_run_45_25 σ)
def ox_N_run_23_24 (v1 : Int32) (σ : nS) : Prop := if v1 ≤ (24 : Int32) then (ox_N_run_45_24 σ) else (if (σ 8 11) = (0 : Int32) then (o_N_step σ ∧ (ap1 (s_N_step σ) fun σ1 => (ox_N_run_23_25 v1 σ1))) else (ox_N_run_45_24 σ))
def ox_N_run_23_23 (v1 : Int32) (σ : nS) : Prop := if v1 ≤ (23 : Int32) then (ox_N_run_45_23 σ) else (if (σ 8 11) = (0 : Int32) then (o_N_step σ ∧ (ap1 (s_N_step σ) fun σ1 => (ox_N_run_23_24 v1 σ1))) else (ox_N_run_45_23 σ))
def ox_N_run_23_22 (v1 : Int32) (σ : nS) : Prop := if v1 ≤ (22 : Int32) then (ox_N_run_45_22 σ) else (if (σ 8 11) = (0 : Int32) then (o_N_step σ ∧ (ap1 (s_N_step σ) fun σ1 => (ox_N_run_23_23 v1 σ1))) else (ox_N_run_45_22 σ))
def ox_N_run_23_21 (v1 : Int32) (σ : nS) : Prop := if v1 ≤ (21 : Int32) then (ox_N_run_45_21 σ) else (if (σ 8 11) = (0 : Int32) then (o_N_step σ ∧ (ap1 (s_N_step σ) fun σ1 => (ox_N_run_23_22 v1 σ1))) else (ox_N_run_45_21 σ))
def ox_N_run_23_20 (v1 : Int32) (σ : nS) : Prop := if v1 ≤ (20 : Int32) then (ox_N_run_45_20 σ) else (if (σ 8 11) = (0 : Int32) then (o_N_step σ ∧ (ap1 (s_N_step σ) fun σ1 => (ox_N_run_23_21 v1 σ1))) else (ox_N_run_45_20 σ))
def ox_N_run_23_19 (v1 : Int32) (σ : nS) : Prop := if v1 ≤ (19 : Int32) then (ox_N_run_45_19 σ) else (if (σ 8 11) = (0 : Int32) then (o_N_step σ ∧ (ap1 (s_N_step σ) fun σ1 => (ox_N_run_23_20 v1 σ1))) else (ox_N_run_45_19 σ))
def ox_N_run_23_18 (v1 : Int32) (σ : nS) : Prop := if v1 ≤ (18 : Int32) then (ox_N_run_45_18 σ) else (if (σ 8 11) = (0 : Int32) then (o_N_step σ ∧ (ap1 (s_N_step σ) fun σ1 => (ox_N_run_23_19 v1 σ1))) else (ox_N_run_45_18 σ))
def ox_N_run_23_17 (v1 : Int32) (σ : nS) : Prop := if v1 ≤ (17 : Int32) then (ox_N_run_45_17 σ) else (if (σ 8 11) = (0 : Int32) then (o_N_step σ ∧ (ap1 (s_N_step σ) fun σ1 => (ox_N_run_23_18 v1 σ1))) else (ox_N_run_45_17 σ))
def ox_N_run_23_16 (v1 : Int32) (σ : nS) : Prop := if v1 ≤ (16 : Int32) then (ox_N_run_45_16 σ) else (if (σ 8 11) = (0 : Int32) then (o_N_step σ ∧ (ap1 (s_N_step σ) fun σ1 => (ox_N_run_23_17 v1 σ1))) else (ox_N_run_45_16 σ))
def ox_N_run_23_15 (v1 : Int32) (σ : nS) : Prop := if v1 ≤ (15 : Int32) then (ox_N_run_45_15 σ) else (if (σ 8 11) = (0 : Int32) then (o_N_step σ ∧ (ap1 (s_N_step σ) fun σ1 => (ox_N_run_23_16 v1 σ1))) else (ox_N_run_45_15 σ))
def ox_N_run_23_14 (v1 : Int32) (σ : nS) : Prop := if v1 ≤ (14 : Int32) then (ox_N_run_45_14 σ) else (if (σ 8 11) = (0 : Int32) then (o_N_step σ ∧ (ap1 (s_N_step σ) fun σ1 => (ox_N_run_23_15 v1 σ1))) else (ox_N_run_45_14 σ))
def ox_N_run_23_13 (v1 : Int32) (σ : nS) : Prop := if v1 ≤ (13 : Int32) then (ox_N_run_45_13 σ) else (if (σ 8 11) = (0 : Int32) then (o_N_step σ ∧ (ap1 (s_N_step σ) fun σ1 => (ox_N_run_23_14 v1 σ1))) else (ox_N_run_45_13 σ))
def ox_N_run_23_12 (v1 : Int32) (σ : nS) : Prop := if v1 ≤ (12 : Int32) then (ox_N_run_45_12 σ) else (if (σ 8 11) = (0 : Int32) then (o_N_step σ ∧ (ap1 (s_N_step σ) fun σ1 => (ox_N_run_23_13 v1 σ1))) else (ox_N_run_45_12 σ))
def ox_N_run_23_11 (v1 : Int32) (σ : nS) : Prop := if v1 ≤ (11 : Int32) then (ox_N_run_45_11 σ) else (if (σ 8 11) = (0 : Int32) then (o_N_step σ ∧ (ap1 (s_N_step σ) fun σ1 => (ox_N_run_23_12 v1 σ1))) else (ox_N_run_45_11 σ))
def ox_N_run_23_10 (v1 : Int32) (σ : nS) : Prop := if v1 ≤ (10 : Int32) then (ox_N_run_45_10 σ) else (if (σ 8 11) = (0 : Int32) then (o_N_step σ ∧ (ap1 (s_N_step σ) fun σ1 => (ox_N_run_23_11 v1 σ1))) else (ox_N_run_45_10 σ))
def ox_N_run_23_9 (v1 : Int32) (σ : nS) : Prop := if v1 ≤ (9 : Int32) then (ox_N_run_45_9 σ) else (if (σ 8 11) = (0 : Int32) then (o_N_step σ ∧ (ap1 (s_N_step σ) fun σ1 => (ox_N_run_23_10 v1 σ1))) else (ox_N_run_45_9 σ))
def ox_N_run_23_8 (v1 : Int32) (σ : nS) : Prop := if v1 ≤ (8 : Int32) then (ox_N_run_45_8 σ) else (if (σ 8 11) = (0 : Int32) then (o_N_step σ ∧ (ap1 (s_N_step σ) fun σ1 => (ox_N_run_23_9 v1 σ1))) else (ox_N_run_45_8 σ))
def ox_N_run_23_7 (v1 : Int32) (σ : nS) : Prop := if v1 ≤ (7 : Int32) then (ox_N_run_45_7 σ) else (if (σ 8 11) = (0 : Int32) then (o_N_step σ ∧ (ap1 (s_N_step σ) fun σ1 => (ox_N_run_23_8 v1 σ1))) else (ox_N_run_45_7 σ))
def ox_N_run_23_6 (v1 : Int32) (σ : nS) : Prop := if v1 ≤ (6 : Int32) then (ox_N_run_45_6 σ) else (if (σ 8 11) = (0 : Int32) then (o_N_step σ ∧ (ap1 (s_N_step σ) fun σ1 => (ox_N_run_23_7 v1 σ1))) else (ox_N_run_45_6 σ))
def ox_N_run_23_5 (v1 : Int32) (σ : nS) : Prop := if v1 ≤ (5 : Int32) then (ox_N_run_45_5 σ) else (if (σ 8 11) = (0 : Int32) then (o_N_step σ ∧ (ap1 (s_N_step σ) fun σ1 => (ox_N_run_23_6 v1 σ1))) else (ox_N_run_45_5 σ))
def ox_N_run_23_4 (v1 : Int32) (σ : nS) : Prop := if v1 ≤ (4 : Int32) then (ox_N_run_45_4 σ) else (if (σ 8 11) = (0 : Int32) then (o_N_step σ ∧ (ap1 (s_N_step σ) fun σ1 => (ox_N_run_23_5 v1 σ1))) else (ox_N_run_45_4 σ))
def ox_N_run_23_3 (v1 : Int32) (σ : nS) : Prop := if v1 ≤ (3 : Int32) then (ox_N_run_45_3 σ) else (if (σ 8 11) = (0 : Int32) then (o_N_step σ ∧ (ap1 (s_N_step σ) fun σ1 => (ox_N_run_23_4 v1 σ1))) else (ox_N_run_45_3 σ))
def ox_N_run_23_2 (v1 : Int32) (σ : nS) : Prop := if v1 ≤ (2 : Int32) then (ox_N_run_45_2 σ) else (if (σ 8 11) = (0 : Int32) then (o_N_step σ ∧ (ap1 (s_N_step σ) fun σ1 => (ox_N_run_23_3 v1 σ1))) else (ox_N_run_45_2 σ))
def ox_N_run_23_1 (v1 : Int32) (σ : nS) : Prop := if v1 ≤ (1 : Int32) then (ox_N_run_45_1 σ) else (if (σ 8 11) = (0 : Int32) then (o_N_step σ ∧ (ap1 (s_N_step σ) fun σ1 => (ox_N_run_23_2 v1 σ1))) else (ox_N_run_45_1 σ))
def ox_N_run_23_0 (v1 : Int32) (σ : nS) : Prop := if v1 ≤ (0 : Int32) then (ox_N_run_45_0 σ) else (if (σ 8 11) = (0 : Int32) then (o_N_step σ ∧ (ap1 (s_N_step σ) fun σ1 => (ox_N_run_23_1 v1 σ1))) else (ox_N_run_45_0 σ))
def ox_N_run (v1 : Int32) (σ : nS) : Prop := if v1 < (1 : Int32) then (ox_N_run_11 σ) else (if v1 ≤ (25 : Int32) then (ox_N_run_23_0 v1 σ) else (ox_N_run_11 σ))
def x_N_state_121 (σ : nS) : oS := (none, σ)
def x_N_state (v1 : Int32) (σ : nS) : oS := if v1 = (0 : Int32) then ((some (s_Fl_packed σ), σ)) else if v1 = (1 : Int32) then ((some (σ 8 10), σ)) else if v1 = (2 : Int32) then ((some (s_Ex_level σ), σ)) else if v1 = (3 : Int32) then ((some (s_Ex_due σ), σ)) else if v1 = (4 : Int32) then ((some (σ 8 12), σ)) else if v1 = (5 : Int32) then ((some (σ 8 13), σ)) else if v1 = (6 : Int32) then ((some (σ 8 11), σ)) else if v1 = (7 : Int32) then ((some (σ 8 14), σ)) else if v1 = (8 : Int32) then ((some (σ 8 9), σ)) else (if v1 < (18 : Int32) then (x_N_state_121 σ) else (if v1 ≤ (31 : Int32) then ((some (s_Ex_packed (v1 - (16 : Int32)) σ), σ)) else (x_N_state_121 σ)))
def ox_N_state_121 (σ : nS) : Prop := True
def ox_N_state (v1 : Int32) (σ : nS) : Prop := if v1 = (0 : Int32) then (True) else if v1 = (1 : Int32) then (True) else if v1 = (2 : Int32) then (True) else if v1 = (3 : Int32) then (True) else if v1 = (4 : Int32) then (True) else if v1 = (5 : Int32) then (True) else if v1 = (6 : Int32) then (True) else if v1 = (7 : Int32) then (True) else if v1 = (8 : Int32) then (True) else (if v1 < (18 : Int32) then (ox_N_state_121 σ) else (if v1 ≤ (31 : Int32) then (vp_in (v1 - (16 : Int32)) 16 ∧ (True)) else (ox_N_state_121 σ)))
