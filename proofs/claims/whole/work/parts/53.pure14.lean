-- no index out of its array, every loop ends: the class
theorem O_ite {c : Prop} [Decidable c] {P Q : Prop} (h : c → P) (g : ¬ c → Q) : if c then P else Q := by
  by_cases q : c
  · rw [if_pos q]; exact h q
  · rw [if_neg q]; exact g q
theorem of36_9 (v c n : Int32) (σ : nS) (h : c ≤ 9) : o_N_faultAlong_36_9 v c n σ := ⟨h, trivial⟩
theorem of36_8 (v c n : Int32) (σ : nS) (h : c ≤ 9) : o_N_faultAlong_36_8 v c n σ := O_ite (fun _ => True.intro) (fun _ => O_ite (fun _ => True.intro) (fun _ => of36_9 v c n σ h))
theorem of36_7 (v c n : Int32) (σ : nS) (h : c ≤ 9) : o_N_faultAlong_36_7 v c n σ := O_ite (fun _ => True.intro) (fun _ => O_ite (fun _ => True.intro) (fun _ => of36_8 v c n σ h))
theorem of36_6 (v c n : Int32) (σ : nS) (h : c ≤ 9) : o_N_faultAlong_36_6 v c n σ := O_ite (fun _ => True.intro) (fun _ => O_ite (fun _ => True.intro) (fun _ => of36_7 v c n σ h))
theorem of36_5 (v c n : Int32) (σ : nS) (h : c ≤ 9) : o_N_faultAlong_36_5 v c n σ := O_ite (fun _ => True.intro) (fun _ => O_ite (fun _ => True.intro) (fun _ => of36_6 v c n σ h))
theorem of36_4 (v c n : Int32) (σ : nS) (h : c ≤ 9) : o_N_faultAlong_36_4 v c n σ := O_ite (fun _ => True.intro) (fun _ => O_ite (fun _ => True.intro) (fun _ => of36_5 v c n σ h))
theorem of36_3 (v c n : Int32) (σ : nS) (h : c ≤ 9) : o_N_faultAlong_36_3 v c n σ := O_ite (fun _ => True.intro) (fun _ => O_ite (fun _ => True.intro) (fun _ => of36_4 v c n σ h))
theorem of36_2 (v c n : Int32) (σ : nS) (h : c ≤ 9) : o_N_faultAlong_36_2 v c n σ := O_ite (fun _ => True.intro) (fun _ => O_ite (fun _ => True.intro) (fun _ => of36_3 v c n σ h))
theorem of36_1 (v c n : Int32) (σ : nS) (h : c ≤ 9) : o_N_faultAlong_36_1 v c n σ := O_ite (fun _ => True.intro) (fun _ => O_ite (fun _ => True.intro) (fun _ => of36_2 v c n σ h))
theorem of36_0 (v c n : Int32) (σ : nS) (h : c ≤ 9) : o_N_faultAlong_36_0 v c n σ := O_ite (fun _ => True.intro) (fun _ => O_ite (fun _ => True.intro) (fun _ => of36_1 v c n σ h))
theorem of3_9 (v c n : Int32) (σ : nS) (h : c ≤ 9) : o_N_faultAlong_3_9 v c n σ := ⟨h, of36_0 v c n σ h⟩
theorem of3_8 (v c n : Int32) (σ : nS) (h : c ≤ 9) : o_N_faultAlong_3_8 v c n σ := O_ite (fun _ => of36_0 v c n σ h) (fun _ => O_ite (fun _ => of3_9 v c n σ h) (fun _ => True.intro))
theorem of3_7 (v c n : Int32) (σ : nS) (h : c ≤ 9) : o_N_faultAlong_3_7 v c n σ := O_ite (fun _ => of36_0 v c n σ h) (fun _ => O_ite (fun _ => of3_8 v c n σ h) (fun _ => True.intro))
theorem of3_6 (v c n : Int32) (σ : nS) (h : c ≤ 9) : o_N_faultAlong_3_6 v c n σ := O_ite (fun _ => of36_0 v c n σ h) (fun _ => O_ite (fun _ => of3_7 v c n σ h) (fun _ => True.intro))
theorem of3_5 (v c n : Int32) (σ : nS) (h : c ≤ 9) : o_N_faultAlong_3_5 v c n σ := O_ite (fun _ => of36_0 v c n σ h) (fun _ => O_ite (fun _ => of3_6 v c n σ h) (fun _ => True.intro))
theorem of3_4 (v c n : Int32) (σ : nS) (h : c ≤ 9) : o_N_faultAlong_3_4 v c n σ := O_ite (fun _ => of36_0 v c n σ h) (fun _ => O_ite (fun _ => of3_5 v c n σ h) (fun _ => True.intro))
theorem of3_3 (v c n : Int32) (σ : nS) (h : c ≤ 9) : o_N_faultAlong_3_3 v c n σ := O_ite (fun _ => of36_0 v c n σ h) (fun _ => O_ite (fun _ => of3_4 v c n σ h) (fun _ => True.intro))
theorem of3_2 (v c n : Int32) (σ : nS) (h : c ≤ 9) : o_N_faultAlong_3_2 v c n σ := O_ite (fun _ => of36_0 v c n σ h) (fun _ => O_ite (fun _ => of3_3 v c n σ h) (fun _ => True.intro))
theorem of3_1 (v c n : Int32) (σ : nS) (h : c ≤ 9) : o_N_faultAlong_3_1 v c n σ := O_ite (fun _ => of36_0 v c n σ h) (fun _ => O_ite (fun _ => of3_2 v c n σ h) (fun _ => True.intro))
theorem of3_0 (v c n : Int32) (σ : nS) (h : c ≤ 9) : o_N_faultAlong_3_0 v c n σ := O_ite (fun _ => of36_0 v c n σ h) (fun _ => O_ite (fun _ => of3_1 v c n σ h) (fun _ => True.intro))
theorem on_fault (v c n : Int32) (σ : nS) (h : c ≤ 9) : o_N_faultAlong v c n σ := of3_0 v c n σ h
theorem on_move (v x a : Int32) (σ : nS) : o_N_move v x a σ := by
  have k : ∀ (b : Bool) (n : Int32), o_N_move_29 x a b a n σ := fun b n => ⟨on_fault _ _ _ σ (by decide), O_ite (fun _ => O_ite (fun _ => True.intro) (fun _ => True.intro)) (fun _ => True.intro)⟩
  exact O_ite (fun _ => O_ite (fun _ => k _ _) (fun _ => k _ _)) (fun _ => O_ite (fun _ => k _ _) (fun _ => k _ _))
theorem op_9 (l s a : Int32) (σ : nS) : o_N_push_47_9 l s a σ := True.intro
theorem op_8 (l s a : Int32) (σ : nS) : o_N_push_47_8 l s a σ := O_ite (fun _ => op_9 l s a σ) (fun _ => op_9 l s (a + 4) σ)
theorem op_7 (l s a : Int32) (σ : nS) : o_N_push_47_7 l s a σ := O_ite (fun _ => op_8 l s a σ) (fun _ => op_8 l s (a + 4) _)
theorem op_6 (l s a : Int32) (σ : nS) : o_N_push_47_6 l s a σ := O_ite (fun _ => op_7 l s a σ) (fun _ => op_7 l s (a + 4) _)
theorem op_5 (l s a : Int32) (σ : nS) : o_N_push_47_5 l s a σ := O_ite (fun _ => op_6 l s a σ) (fun _ => op_6 l s (a + 4) _)
theorem op_4 (l s a : Int32) (σ : nS) : o_N_push_47_4 l s a σ := O_ite (fun _ => op_5 l s a σ) (fun _ => op_5 l s (a + 4) _)
theorem op_3 (l s a : Int32) (σ : nS) : o_N_push_47_3 l s a σ := O_ite (fun _ => op_4 l s a σ) (fun _ => op_4 l s (a + 4) _)
theorem op_2 (l s a : Int32) (σ : nS) : o_N_push_47_2 l s a σ := O_ite (fun _ => op_3 l s a σ) (fun _ => op_3 l s (a + 4) _)
theorem op_1 (l s a : Int32) (σ : nS) : o_N_push_47_1 l s a σ := O_ite (fun _ => op_2 l s a σ) (fun _ => op_2 l s (a + 4) _)
theorem op_0 (l s a : Int32) (σ : nS) : o_N_push_47_0 l s a σ := O_ite (fun _ => op_1 l s a σ) (fun _ => op_1 l s (a + 4) _)
theorem oq_9 (l a : Int32) (σ : nS) : o_N_pop_40_9 l a σ := True.intro
theorem oq_8 (l a : Int32) (σ : nS) : o_N_pop_40_8 l a σ := O_ite (fun _ => oq_9 l a σ) (fun _ => oq_9 l (a + 4) σ)
theorem oq_7 (l a : Int32) (σ : nS) : o_N_pop_40_7 l a σ := O_ite (fun _ => oq_8 l a σ) (fun _ => oq_8 l (a + 4) _)
theorem oq_6 (l a : Int32) (σ : nS) : o_N_pop_40_6 l a σ := O_ite (fun _ => oq_7 l a σ) (fun _ => oq_7 l (a + 4) _)
theorem oq_5 (l a : Int32) (σ : nS) : o_N_pop_40_5 l a σ := O_ite (fun _ => oq_6 l a σ) (fun _ => oq_6 l (a + 4) _)
theorem oq_4 (l a : Int32) (σ : nS) : o_N_pop_40_4 l a σ := O_ite (fun _ => oq_5 l a σ) (fun _ => oq_5 l (a + 4) _)
theorem oq_3 (l a : Int32) (σ : nS) : o_N_pop_40_3 l a σ := O_ite (fun _ => oq_4 l a σ) (fun _ => oq_4 l (a + 4) _)
theorem oq_2 (l a : Int32) (σ : nS) : o_N_pop_40_2 l a σ := O_ite (fun _ => oq_3 l a σ) (fun _ => oq_3 l (a + 4) _)
theorem oq_1 (l a : Int32) (σ : nS) : o_N_pop_40_1 l a σ := O_ite (fun _ => oq_2 l a σ) (fun _ => oq_2 l (a + 4) _)
theorem oq_0 (l a : Int32) (σ : nS) : o_N_pop_40_0 l a σ := O_ite (fun _ => oq_1 l a σ) (fun _ => oq_1 l (a + 4) _)
theorem ap2_mk9 {α β : Type} {γ : Sort _} (x : α) (y : β) (k : α → β → γ) : ap2 (x, y) k = k x y := rfl
theorem bc9 (v : Int32) : s_In_bitCount (v &&& 511) ≤ 9 := by
  rw [bc_cq]
  exact nI_le (b := 9) (cq_le _ 9) (by decide)
theorem on_push (v : Int32) (σ : nS) : o_N_push (v &&& 511) σ := O_ite (fun _ => True.intro) (fun _ => ⟨on_fault _ _ _ σ (bc9 v), O_ite (fun _ => op_0 _ _ _ σ) (fun _ => True.intro)⟩)
theorem on_pop (v : Int32) (σ : nS) : o_N_pop (v &&& 511) σ := O_ite (fun _ => True.intro) (fun _ => ⟨on_fault _ _ _ σ (bc9 v), O_ite (fun _ => oq_0 _ _ σ) (fun _ => True.intro)⟩)
theorem on_stack (v : Int32) (σ : nS) : o_N_stackOrSwitch v σ := O_ite (fun _ => O_ite (fun _ => True.intro) (fun _ => True.intro)) (fun _ => O_ite (fun _ => True.intro) (fun _ => O_ite (fun _ => True.intro) (fun _ => O_ite (fun _ => True.intro) (fun _ => O_ite (fun _ => ⟨on_push v σ, True.intro⟩) (fun _ => O_ite (fun _ => ⟨on_push v σ, True.intro⟩) (fun _ => O_ite (fun _ => True.intro) (fun _ => O_ite (fun _ => True.intro) (fun _ => O_ite (fun _ => True.intro) (fun _ => O_ite (fun _ => True.intro) (fun _ => O_ite (fun _ => True.intro) (fun _ => O_ite (fun _ => True.intro) (fun _ => O_ite (fun _ => ⟨on_pop v σ, True.intro⟩) (fun _ => O_ite (fun _ => ⟨on_pop v σ, True.intro⟩) (fun _ => True.intro))))))))))))))
theorem on_exec (v : Int32) (σ : nS) : o_N_execute v σ := O_ite (fun _ => O_ite (fun _ => True.intro) (fun _ => True.intro)) (fun _ => O_ite (fun _ => O_ite (fun _ => True.intro) (fun _ => True.intro)) (fun _ => O_ite (fun _ => True.intro) (fun _ => O_ite (fun _ => True.intro) (fun _ => O_ite (fun _ => O_ite (fun _ => True.intro) (fun _ => True.intro)) (fun _ => O_ite (fun _ => True.intro) (fun _ => O_ite (fun _ => ⟨on_move _ _ _ σ, True.intro⟩) (fun _ => O_ite (fun _ => True.intro) (fun _ => O_ite (fun _ => True.intro) (fun _ => O_ite (fun _ => ⟨on_move _ _ _ σ, True.intro⟩) (fun _ => O_ite (fun _ => True.intro) (fun _ => O_ite (fun _ => ⟨on_stack v σ, True.intro⟩) (fun _ => O_ite (fun _ => True.intro) (fun _ => O_ite (fun _ => O_ite (fun _ => True.intro) (fun _ => True.intro)) (fun _ => O_ite (fun _ => True.intro) (fun _ => True.intro)))))))))))))))
theorem on_back (v : Int32) (σ : nS) (h : vp_in (σ 8 10) 16) : o_N_comeBack v σ := by
  have k : ∀ (a b : Int32) (x y : Bool) (τ : nS), o_N_comeBack_117 a b x y τ := fun a b x y τ => O_ite (fun _ => True.intro) (fun _ => True.intro)
  have k2 : ∀ (a b : Int32) (x : Bool) (τ : nS), o_N_comeBack_106 v a b x τ := fun a b x τ => O_ite (fun _ => k _ _ _ _ _) (fun _ => k _ _ _ _ _)
  exact ⟨h, O_ite (fun _ => O_ite (fun _ => O_ite (fun _ => True.intro) (fun _ => O_ite (fun _ => k2 _ _ _ _) (fun _ => k2 _ _ _ _))) (fun _ => True.intro)) (fun _ => True.intro)⟩
theorem on_land (σ : nS) (h : vp_in (σ 8 10) 16) : o_N_land σ := by
  have k : ∀ v, o_N_land_27 v σ := fun v => ⟨on_back v σ h, True.intro⟩
  exact O_ite (fun _ => True.intro) (fun _ => O_ite (fun _ => k _) (fun _ => O_ite (fun _ => k _) (fun _ => True.intro)))
theorem vin_f {r : Int32} (h : r = 0 ∨ r = 4 ∨ r = 5 ∨ r = 6) : vp_in r 16 := by
  rcases h with rfl | rfl | rfl | rfl
  · exact vin16 (i := 0) (by decide)
  · exact vin16 (i := 4) (by decide)
  · exact vin16 (i := 5) (by decide)
  · exact vin16 (i := 6) (by decide)
theorem on_81 (r : Int32) (σ : nS) : o_N_step_81 r σ := O_ite (fun _ => True.intro) (fun _ => True.intro)
theorem on_72 (c : Nat) (r : Int32) (σ : nS) (h : Iw c σ) : o_N_step_72 r σ := by
  refine O_ite (fun _ => ⟨on_land σ h.2.1, ?_⟩) (fun _ => on_81 r σ)
  show vp_in (s_N_land σ).1 16 ∧ o_N_step_81 (s_N_land σ).1 (s_N_land σ).2
  refine ⟨vin_f ?_, on_81 _ _⟩
  rcases lp σ h with z | z
  · exact Or.inl z.1
  · exact Or.inr (Or.inr (Or.inr z.1))
theorem half_nI (a : Int32) (σ : nS) : ∃ n : Nat, n < 65536 ∧ s_Me_half a σ = nI n := pk_andE _ 16 (by decide)
theorem on_step21 (c : Nat) (σ : nS) (h : Iv c σ) : o_N_step_21 σ := by
  have h0 : Iw c (upC σ 0 11) := Iw_row h.2 (by rw [upC_row _ _ _ _ (by decide)]) (by rw [upC_row _ _ _ _ (by decide)]) (fun j _ _ => by rw [upC_row _ _ _ _ (by decide)]) (by rw [upC_row _ _ _ _ (by decide)])
  refine O_ite (fun _ => O_ite (fun _ => ?_) (fun _ => ⟨?_, on_72 c _ _ h0⟩)) (fun _ => True.intro)
  · unfold s_N_fetch
    rw [ap2_mk9]
    refine ⟨on_exec _ _, ?_⟩
    obtain ⟨n, hn, e⟩ := half_nI (upC σ 0 11 0 15) (up2 (upC σ 0 11) 0 15 (upC σ 0 11 0 15 + 2))
    rw [e]
    have h1 : Iw c (up2 (upC σ 0 11) 0 15 (upC σ 0 11 0 15 + 2)) := Iw_u h0 0 15 _ (Or.inl (by decide))
    have p := pk_exec n hn (up2 (upC σ 0 11) 0 15 (upC σ 0 11 0 15 + 2))
    generalize up2 (upC σ 0 11) 0 15 (upC σ 0 11 0 15 + 2) = υ at *
    generalize s_N_execute (nI n) υ = F at p
    obtain ⟨r, τ⟩ := F
    rw [ap2_mk9]
    rcases p with ⟨p0, pk⟩ | ⟨pr, ps⟩
    · exact ⟨vin_f (Or.inl p0), on_72 c r τ (Iw_K pk h1)⟩
    · have ps : τ = υ := ps
      subst ps
      exact ⟨vin_f (Or.inr pr), on_72 c r τ h1⟩
  · rcases ff_range (upC σ 0 11) with q | q | q <;> rw [q] <;> exact vin_f (by decide)
theorem Iv_tick (c : Nat) (σ : nS) (h : Iv c σ) : Iv c (s_Ti_fires σ).2 := by
  have uI : ∀ (τ : nS) (v : Int32), Iv c τ → Iv c (up2 τ 8 9 v) := fun τ v q => ⟨by rw [up2_row _ _ _ (by decide)]; exact q.1, Iw_u q.2 8 9 v (Or.inr (by decide))⟩
  unfold s_Ti_fires
  by_cases a : σ 8 8 = 0
  · rw [if_pos a]; exact h
  · rw [if_neg a]
    by_cases b : up2 σ 8 9 (σ 8 9 - 1) 8 9 = 0
    · rw [if_pos b]; exact uI _ _ (uI _ _ h)
    · rw [if_neg b]; exact uI _ _ h
theorem on_step (c : Nat) (σ : nS) (h : Iv c σ) : o_N_step σ := by
  have z := Iv_tick c σ h
  unfold o_N_step
  generalize s_Ti_fires σ = F at z
  obtain ⟨r, τ⟩ := F
  rw [ap2_mk9]
  have z : Iv c τ := z
  exact O_ite (fun _ => on_step21 c _ ⟨by rw [up2_row _ _ _ (by decide)]; exact z.1, Iw_u z.2 2 9 _ (Or.inl (by decide))⟩) (fun _ => on_step21 c _ z)
-- the reference
theorem mdue_nI (τ : nS) : ∃ i : Nat, i ≤ 15 ∧ s_Mo_due τ = nI i := by
  have h := dA_le τ 14 0 (by decide)
  rw [dAD] at h
  have e : s_Mo_due τ = s_Mo_due_5_1 (nI (dD τ 14 0)) τ := dD_15 τ
  rw [e]
  unfold s_Mo_due_5_1 s_Mo_due_80
  by_cases a : nI (dD τ 14 0) ≤ 0
  · rw [if_pos a]; exact ⟨0, by decide, rfl⟩
  · rw [if_neg a]
    by_cases b : s_Mo_level τ ≤ s_Mo_group (τ 4 (nI (dD τ 14 0)).toNatClampNeg) τ
    · rw [if_pos b]; exact ⟨0, by decide, rfl⟩
    · rw [if_neg b]; exact ⟨_, h, rfl⟩
theorem vin1k {i : Nat} (h : i < 1024) : vp_in (nI i) 1024 := by
  intro q
  rcases q with q | q
  · exact absurd q (nI_nlt (b := 0) (by omega) (by omega))
  · rw [nI_clamp (by omega)] at q; omega
theorem wok_in {v : Int32} (h : wok v) (k : Nat) (hk : k < 4) (c : Int32) (hc : c = nI k) : vp_in (v + c) 1024 := by
  obtain ⟨i, hi, rfl⟩ := h
  rw [hc, nI_add]
  exact vin1k (by omega)
theorem om_load {v : Int32} (h : wok v) (σ : nS) : o_Mo_load v σ := by
  refine ⟨?_, wok_in h 1 (by decide) 1 rfl, wok_in h 2 (by decide) 2 rfl, wok_in h 3 (by decide) 3 rfl, trivial⟩
  obtain ⟨i, hi, rfl⟩ := h
  exact vin1k (by omega)
theorem om_store {v : Int32} (h : wok v) (x : Int32) (σ : nS) : o_Mo_store v x σ := ⟨wok_in h 0 (by decide) 0 rfl, wok_in h 1 (by decide) 1 rfl, wok_in h 2 (by decide) 2 rfl, wok_in h 3 (by decide) 3 rfl, True.intro⟩
theorem om32_9 (v c n : Int32) (σ : nS) (h : c ≤ 9) : o_Mo_faultOf_32_9 v c n σ := ⟨h, trivial⟩
theorem om32_8 (v c n : Int32) (σ : nS) (h : c ≤ 9) : o_Mo_faultOf_32_8 v c n σ := O_ite (fun _ => True.intro) (fun _ => O_ite (fun _ => True.intro) (fun _ => om32_9 v c n σ h))
theorem om32_7 (v c n : Int32) (σ : nS) (h : c ≤ 9) : o_Mo_faultOf_32_7 v c n σ := O_ite (fun _ => True.intro) (fun _ => O_ite (fun _ => True.intro) (fun _ => om32_8 v c n σ h))
theorem om32_6 (v c n : Int32) (σ : nS) (h : c ≤ 9) : o_Mo_faultOf_32_6 v c n σ := O_ite (fun _ => True.intro) (fun _ => O_ite (fun _ => True.intro) (fun _ => om32_7 v c n σ h))
theorem om32_5 (v c n : Int32) (σ : nS) (h : c ≤ 9) : o_Mo_faultOf_32_5 v c n σ := O_ite (fun _ => True.intro) (fun _ => O_ite (fun _ => True.intro) (fun _ => om32_6 v c n σ h))
theorem om32_4 (v c n : Int32) (σ : nS) (h : c ≤ 9) : o_Mo_faultOf_32_4 v c n σ := O_ite (fun _ => True.intro) (fun _ => O_ite (fun _ => True.intro) (fun _ => om32_5 v c n σ h))
theorem om32_3 (v c n : Int32) (σ : nS) (h : c ≤ 9) : o_Mo_faultOf_32_3 v c n σ := O_ite (fun _ => True.intro) (fun _ => O_ite (fun _ => True.intro) (fun _ => om32_4 v c n σ h))
theorem om32_2 (v c n : Int32) (σ : nS) (h : c ≤ 9) : o_Mo_faultOf_32_2 v c n σ := O_ite (fun _ => True.intro) (fun _ => O_ite (fun _ => True.intro) (fun _ => om32_3 v c n σ h))
theorem om32_1 (v c n : Int32) (σ : nS) (h : c ≤ 9) : o_Mo_faultOf_32_1 v c n σ := O_ite (fun _ => True.intro) (fun _ => O_ite (fun _ => True.intro) (fun _ => om32_2 v c n σ h))
theorem om32_0 (v c n : Int32) (σ : nS) (h : c ≤ 9) : o_Mo_faultOf_32_0 v c n σ := O_ite (fun _ => True.intro) (fun _ => O_ite (fun _ => True.intro) (fun _ => om32_1 v c n σ h))
theorem om3_9 (v c n : Int32) (σ : nS) (h : c ≤ 9) : o_Mo_faultOf_3_9 v c n σ := ⟨h, om32_0 v c n σ h⟩
theorem om3_8 (v c n : Int32) (σ : nS) (h : c ≤ 9) : o_Mo_faultOf_3_8 v c n σ := O_ite (fun _ => om32_0 v c n σ h) (fun _ => O_ite (fun _ => om3_9 v c n σ h) (fun _ => True.intro))
theorem om3_7 (v c n : Int32) (σ : nS) (h : c ≤ 9) : o_Mo_faultOf_3_7 v c n σ := O_ite (fun _ => om32_0 v c n σ h) (fun _ => O_ite (fun _ => om3_8 v c n σ h) (fun _ => True.intro))
theorem om3_6 (v c n : Int32) (σ : nS) (h : c ≤ 9) : o_Mo_faultOf_3_6 v c n σ := O_ite (fun _ => om32_0 v c n σ h) (fun _ => O_ite (fun _ => om3_7 v c n σ h) (fun _ => True.intro))
theorem om3_5 (v c n : Int32) (σ : nS) (h : c ≤ 9) : o_Mo_faultOf_3_5 v c n σ := O_ite (fun _ => om32_0 v c n σ h) (fun _ => O_ite (fun _ => om3_6 v c n σ h) (fun _ => True.intro))
theorem om3_4 (v c n : Int32) (σ : nS) (h : c ≤ 9) : o_Mo_faultOf_3_4 v c n σ := O_ite (fun _ => om32_0 v c n σ h) (fun _ => O_ite (fun _ => om3_5 v c n σ h) (fun _ => True.intro))
theorem om3_3 (v c n : Int32) (σ : nS) (h : c ≤ 9) : o_Mo_faultOf_3_3 v c n σ := O_ite (fun _ => om32_0 v c n σ h) (fun _ => O_ite (fun _ => om3_4 v c n σ h) (fun _ => True.intro))
theorem om3_2 (v c n : Int32) (σ : nS) (h : c ≤ 9) : o_Mo_faultOf_3_2 v c n σ := O_ite (fun _ => om32_0 v c n σ h) (fun _ => O_ite (fun _ => om3_3 v c n σ h) (fun _ => True.intro))
theorem om3_1 (v c n : Int32) (σ : nS) (h : c ≤ 9) : o_Mo_faultOf_3_1 v c n σ := O_ite (fun _ => om32_0 v c n σ h) (fun _ => O_ite (fun _ => om3_2 v c n σ h) (fun _ => True.intro))
theorem om3_0 (v c n : Int32) (σ : nS) (h : c ≤ 9) : o_Mo_faultOf_3_0 v c n σ := O_ite (fun _ => om32_0 v c n σ h) (fun _ => O_ite (fun _ => om3_1 v c n σ h) (fun _ => True.intro))
theorem om_fault (v c n : Int32) (σ : nS) (h : c ≤ 9) : o_Mo_faultOf v c n σ := om3_0 v c n σ h
theorem om_enter {e : Int32} (he : ∃ i : Nat, i ≤ 15 ∧ e = nI i) (σ : nS) : o_Mo_enter e σ := by
  obtain ⟨i, hi, rfl⟩ := he
  exact ⟨om_load ⟨i, by omega, mul4 i⟩ _, trivial⟩
theorem om_take {e : Int32} (he : ∃ i : Nat, i ≤ 15 ∧ e = nI i) (σ : nS) : o_Mo_take e σ := by
  have z1 : ∀ (x : Int32) (τ : nS), o_Mo_take_170 e x τ := fun x τ => ⟨om_enter he _, True.intro⟩
  have z2 : ∀ (o : Bool) (sp : Int32) (τ : nS), s_Me_holdsFrame sp = true → o_Mo_take_55_0 e o sp τ := by
    intro o sp τ hs
    have w : ∀ (k : Nat) (c : Int32), k < 8 → c = nI (4 * k) → wok (sp + c) := fun k c h q => frame_wok hs k h c q
    exact ⟨om_store (w 0 0 (by decide) rfl) _ _, om_store (w 1 4 (by decide) rfl) _ _, om_store (w 2 8 (by decide) rfl) _ _, om_store (w 3 12 (by decide) rfl) _ _, om_store (w 4 16 (by decide) rfl) _ _, om_store (w 5 20 (by decide) rfl) _ _, om_store (w 6 24 (by decide) rfl) _ _, om_store (w 7 28 (by decide) rfl) _ _, O_ite (fun _ => z1 _ _) (fun _ => z1 _ _)⟩
  have z3 : ∀ (o : Bool) (a b : Int32), o_Mo_take_37 e o a b σ := fun o a b => O_ite (fun q => z2 o _ σ q) (fun _ => True.intro)
  exact O_ite (fun _ => O_ite (fun _ => z3 _ _ _) (fun _ => z3 _ _ _)) (fun _ => O_ite (fun _ => z3 _ _ _) (fun _ => z3 _ _ _))
theorem om_isBack (sp v : Int32) (σ : nS) : o_Mo_isBack sp v σ := by
  have k : ∀ (x y : Bool), o_Mo_isBack_46 x y σ := fun x y => O_ite (fun _ => True.intro) (fun _ => True.intro)
  have k2 : ∀ (x : Bool), o_Mo_isBack_35 v x σ := fun x => O_ite (fun _ => k _ _) (fun _ => k _ _)
  exact O_ite (fun h => ⟨om_load (frame_wok h 7 (by decide) 28 rfl) σ, O_ite (fun _ => True.intro) (fun _ => O_ite (fun _ => k2 _) (fun _ => k2 _))⟩) (fun _ => True.intro)
theorem om_back {sp : Int32} (hs : s_Me_holdsFrame sp = true) (σ : nS) : o_Mo_comeBack sp σ := by
  have w : ∀ (k : Nat) (c : Int32) (τ : nS), k < 8 → c = nI (4 * k) → o_Mo_load (sp + c) τ := fun k c τ h q => om_load (frame_wok hs k h c q) τ
  exact ⟨w 7 28 _ (by decide) rfl, w 0 0 _ (by decide) rfl, w 1 4 _ (by decide) rfl, w 2 8 _ (by decide) rfl, w 3 12 _ (by decide) rfl, w 4 16 _ (by decide) rfl, w 5 20 _ (by decide) rfl, w 6 24 _ (by decide) rfl, O_ite (fun _ => True.intro) (fun _ => True.intro)⟩
theorem back_frame {sp v : Int32} {σ : nS} (h : s_Mo_isBack sp v σ = true) : s_Me_holdsFrame sp = true := by
  unfold s_Mo_isBack at h
  by_cases q : s_Mo_isFrame sp = true
  · exact q
  · rw [if_neg q] at h; cases h
theorem om_jump (v sp : Int32) (σ : nS) (hn : vp_in (σ 8 10) 16) : o_Mo_jump v sp σ := by
  have k73 : ∀ (e : Int32) (τ : nS), (∃ i : Nat, i ≤ 15 ∧ e = nI i) → (e = 0 → s_Me_holdsFrame sp = true) → o_Mo_jump_73 v sp e τ := by
    intro e τ he hs
    refine O_ite (fun q => ⟨om_back (hs ?_) _, True.intro⟩) (fun _ => ⟨om_enter he _, True.intro⟩)
    obtain ⟨i, hi, rfl⟩ := he
    rcases Nat.eq_zero_or_pos i with z | z
    · subst z; rfl
    · exact absurd q (nI_nle z (by omega))
  have k52 : ∀ τ : nS, o_Mo_jump_52 v sp τ := fun τ => O_ite (fun d => ⟨om_isBack sp v τ, O_ite (fun b => k73 _ τ (mdue_nI τ) (fun _ => back_frame b)) (fun _ => True.intro)⟩) (fun d => k73 _ τ (mdue_nI τ) (fun q => absurd q d))
  exact O_ite (fun _ => ⟨hn, O_ite (fun _ => k52 _) (fun _ => k52 _)⟩) (fun _ => True.intro)
theorem om_move (th x a : Int32) (b : Bool) (σ : nS) : o_Mo_move x a b (Pf th σ) := by
  have k : ∀ n : Int32, n ≠ 3 → o_Mo_move_12 x a b a n (Pf th σ) := by
    intro n hn
    refine ⟨om_fault _ _ _ _ (by decide), O_ite (fun f => ?_) (fun _ => True.intro)⟩
    rw [q_fault (Pf_gd th) a 1 n hn σ] at f
    have w : wok a := wok0 (fa_wok a 1 n σ ((pos45 (fa_range _ _ _ _)).mp f) 0 (by decide) (by decide))
    exact O_ite (fun _ => ⟨om_load w _, True.intro⟩) (fun _ => ⟨om_store w _ _, True.intro⟩)
  exact O_ite (fun _ => k 1 (by decide)) (fun _ => k 2 (by decide))
theorem oh_9 (l a : Int32) (σ : nS) : o_Mo_push_54_9 l a σ := True.intro
theorem oh_8 (l a : Int32) (σ : nS) (W : ∀ j, j < cq l 1 → wok (a + nI (4 * j))) : o_Mo_push_54_8 l a σ := by
  have e : cq l 1 = bq l 8 + cq l 0 := rfl
  refine O_ite (fun h => ?_) (fun h => ?_)
  · have b : bq l 8 = 1 := if_neg ((and1 _).mp h)
    exact ⟨om_store (wok0 (W 0 (by omega))) _ _, oh_9 l (a + 4) σ⟩
  · exact oh_9 l a σ
theorem oh_7 (l a : Int32) (σ : nS) (W : ∀ j, j < cq l 2 → wok (a + nI (4 * j))) : o_Mo_push_54_7 l a σ := by
  have e : cq l 2 = bq l 7 + cq l 1 := rfl
  refine O_ite (fun h => ?_) (fun h => ?_)
  · have b : bq l 7 = 1 := if_neg ((and1 _).mp h)
    exact ⟨om_store (wok0 (W 0 (by omega))) _ _, oh_8 l (a + 4) _ (w_next (fun j hj => W j (by omega)))⟩
  · exact oh_8 l a σ (fun j hj => W j (by omega))
theorem oh_6 (l a : Int32) (σ : nS) (W : ∀ j, j < cq l 3 → wok (a + nI (4 * j))) : o_Mo_push_54_6 l a σ := by
  have e : cq l 3 = bq l 6 + cq l 2 := rfl
  refine O_ite (fun h => ?_) (fun h => ?_)
  · have b : bq l 6 = 1 := if_neg ((and1 _).mp h)
    exact ⟨om_store (wok0 (W 0 (by omega))) _ _, oh_7 l (a + 4) _ (w_next (fun j hj => W j (by omega)))⟩
  · exact oh_7 l a σ (fun j hj => W j (by omega))
theorem oh_5 (l a : Int32) (σ : nS) (W : ∀ j, j < cq l 4 → wok (a + nI (4 * j))) : o_Mo_push_54_5 l a σ := by
  have e : cq l 4 = bq l 5 + cq l 3 := rfl
  refine O_ite (fun h => ?_) (fun h => ?_)
  · have b : bq l 5 = 1 := if_neg ((and1 _).mp h)
    exact ⟨om_store (wok0 (W 0 (by omega))) _ _, oh_6 l (a + 4) _ (w_next (fun j hj => W j (by omega)))⟩
  · exact oh_6 l a σ (fun j hj => W j (by omega))
theorem oh_4 (l a : Int32) (σ : nS) (W : ∀ j, j < cq l 5 → wok (a + nI (4 * j))) : o_Mo_push_54_4 l a σ := by
  have e : cq l 5 = bq l 4 + cq l 4 := rfl
  refine O_ite (fun h => ?_) (fun h => ?_)
  · have b : bq l 4 = 1 := if_neg ((and1 _).mp h)
    exact ⟨om_store (wok0 (W 0 (by omega))) _ _, oh_5 l (a + 4) _ (w_next (fun j hj => W j (by omega)))⟩
  · exact oh_5 l a σ (fun j hj => W j (by omega))
theorem oh_3 (l a : Int32) (σ : nS) (W : ∀ j, j < cq l 6 → wok (a + nI (4 * j))) : o_Mo_push_54_3 l a σ := by
  have e : cq l 6 = bq l 3 + cq l 5 := rfl
  refine O_ite (fun h => ?_) (fun h => ?_)
  · have b : bq l 3 = 1 := if_neg ((and1 _).mp h)
    exact ⟨om_store (wok0 (W 0 (by omega))) _ _, oh_4 l (a + 4) _ (w_next (fun j hj => W j (by omega)))⟩
  · exact oh_4 l a σ (fun j hj => W j (by omega))
theorem oh_2 (l a : Int32) (σ : nS) (W : ∀ j, j < cq l 7 → wok (a + nI (4 * j))) : o_Mo_push_54_2 l a σ := by
  have e : cq l 7 = bq l 2 + cq l 6 := rfl
  refine O_ite (fun h => ?_) (fun h => ?_)
  · have b : bq l 2 = 1 := if_neg ((and1 _).mp h)
    exact ⟨om_store (wok0 (W 0 (by omega))) _ _, oh_3 l (a + 4) _ (w_next (fun j hj => W j (by omega)))⟩
  · exact oh_3 l a σ (fun j hj => W j (by omega))
theorem oh_1 (l a : Int32) (σ : nS) (W : ∀ j, j < cq l 8 → wok (a + nI (4 * j))) : o_Mo_push_54_1 l a σ := by
  have e : cq l 8 = bq l 1 + cq l 7 := rfl
  refine O_ite (fun h => ?_) (fun h => ?_)
  · have b : bq l 1 = 1 := if_neg ((and1 _).mp h)
    exact ⟨om_store (wok0 (W 0 (by omega))) _ _, oh_2 l (a + 4) _ (w_next (fun j hj => W j (by omega)))⟩
  · exact oh_2 l a σ (fun j hj => W j (by omega))
theorem oh_0 (l a : Int32) (σ : nS) (W : ∀ j, j < cq l 9 → wok (a + nI (4 * j))) : o_Mo_push_54_0 l a σ := by
  have e : cq l 9 = bq l 0 + cq l 8 := rfl
  refine O_ite (fun h => ?_) (fun h => ?_)
  · have b : bq l 0 = 1 := if_neg ((and1 _).mp h)
    exact ⟨om_store (wok0 (W 0 (by omega))) _ _, oh_1 l (a + 4) _ (w_next (fun j hj => W j (by omega)))⟩
  · exact oh_1 l a σ (fun j hj => W j (by omega))
theorem om_push (th v : Int32) (σ : nS) : o_Mo_push (v &&& 511) (Pf th σ) := by
  have c9 := cq_le (v &&& 511) 9
  unfold o_Mo_push
  rw [ones_cq, Pf_r th σ (j := 13) (by decide), q_fault (Pf_gd th) _ _ 2 (by decide)]
  refine O_ite (fun _ => O_ite (fun q => absurd q (by decide)) (fun _ => True.intro)) (fun _ => ⟨om_fault _ _ _ _ (nI_le (b := 9) c9 (by decide)), O_ite (fun f => ?_) (fun _ => True.intro)⟩)
  exact oh_0 _ _ _ (fun j hj => fa_wok _ _ _ σ ((pos45 (fa_range _ _ _ _)).mp f) j (by omega) (nI_lt hj (by omega)))
theorem ok_8 (l a v5 v6 : Int32) (v7 : Bool) (v8 : Int32) (σ : nS) : o_Mo_pop_122_8 l a v5 v6 v7 v8 σ := O_ite (fun _ => True.intro) (fun _ => O_ite (fun _ => True.intro) (fun _ => True.intro))
theorem ok_7 (l a v5 v6 : Int32) (v7 : Bool) (v8 : Int32) (σ : nS) (W : ∀ j, j < cq l 2 → wok (a + nI (4 * j))) : o_Mo_pop_122_7 l a v5 v6 v7 v8 σ := by
  have e : cq l 2 = bq l 7 + cq l 1 := rfl
  refine O_ite (fun h => ?_) (fun h => ?_)
  · have b : bq l 7 = 1 := if_neg ((and1 _).mp h)
    exact O_ite (fun _ => ⟨om_load (wok0 (W 0 (by omega))) _, ok_8 l (a + 4) v5 v6 v7 v8 _⟩) (fun _ => ⟨om_load (wok0 (W 0 (by omega))) _, ok_8 l (a + 4) v5 v6 v7 v8 _⟩)
  · exact ok_8 l a v5 v6 v7 v8 σ
theorem ok_6 (l a v5 v6 : Int32) (v7 : Bool) (v8 : Int32) (σ : nS) (W : ∀ j, j < cq l 3 → wok (a + nI (4 * j))) : o_Mo_pop_122_6 l a v5 v6 v7 v8 σ := by
  have e : cq l 3 = bq l 6 + cq l 2 := rfl
  refine O_ite (fun h => ?_) (fun h => ?_)
  · have b : bq l 6 = 1 := if_neg ((and1 _).mp h)
    exact O_ite (fun _ => ⟨om_load (wok0 (W 0 (by omega))) _, ok_7 l (a + 4) v5 v6 v7 v8 _ (w_next (fun j hj => W j (by omega)))⟩) (fun _ => ⟨om_load (wok0 (W 0 (by omega))) _, ok_7 l (a + 4) v5 v6 v7 v8 _ (w_next (fun j hj => W j (by omega)))⟩)
  · exact ok_7 l a v5 v6 v7 v8 σ (fun j hj => W j (by omega))
theorem ok_5 (l a v5 v6 : Int32) (v7 : Bool) (v8 : Int32) (σ : nS) (W : ∀ j, j < cq l 4 → wok (a + nI (4 * j))) : o_Mo_pop_122_5 l a v5 v6 v7 v8 σ := by
  have e : cq l 4 = bq l 5 + cq l 3 := rfl
  refine O_ite (fun h => ?_) (fun h => ?_)
  · have b : bq l 5 = 1 := if_neg ((and1 _).mp h)
    exact O_ite (fun _ => ⟨om_load (wok0 (W 0 (by omega))) _, ok_6 l (a + 4) v5 v6 v7 v8 _ (w_next (fun j hj => W j (by omega)))⟩) (fun _ => ⟨om_load (wok0 (W 0 (by omega))) _, ok_6 l (a + 4) v5 v6 v7 v8 _ (w_next (fun j hj => W j (by omega)))⟩)
  · exact ok_6 l a v5 v6 v7 v8 σ (fun j hj => W j (by omega))
theorem ok_4 (l a v5 v6 : Int32) (v7 : Bool) (v8 : Int32) (σ : nS) (W : ∀ j, j < cq l 5 → wok (a + nI (4 * j))) : o_Mo_pop_122_4 l a v5 v6 v7 v8 σ := by
  have e : cq l 5 = bq l 4 + cq l 4 := rfl
  refine O_ite (fun h => ?_) (fun h => ?_)
  · have b : bq l 4 = 1 := if_neg ((and1 _).mp h)
    exact O_ite (fun _ => ⟨om_load (wok0 (W 0 (by omega))) _, ok_5 l (a + 4) v5 v6 v7 v8 _ (w_next (fun j hj => W j (by omega)))⟩) (fun _ => ⟨om_load (wok0 (W 0 (by omega))) _, ok_5 l (a + 4) v5 v6 v7 v8 _ (w_next (fun j hj => W j (by omega)))⟩)
  · exact ok_5 l a v5 v6 v7 v8 σ (fun j hj => W j (by omega))
theorem ok_3 (l a v5 v6 : Int32) (v7 : Bool) (v8 : Int32) (σ : nS) (W : ∀ j, j < cq l 6 → wok (a + nI (4 * j))) : o_Mo_pop_122_3 l a v5 v6 v7 v8 σ := by
  have e : cq l 6 = bq l 3 + cq l 5 := rfl
  refine O_ite (fun h => ?_) (fun h => ?_)
  · have b : bq l 3 = 1 := if_neg ((and1 _).mp h)
    exact O_ite (fun _ => O_ite (fun _ => ok_4 l (a + 4) v5 v6 v7 v8 _ (w_next (fun j hj => W j (by omega)))) (fun _ => ⟨om_load (wok0 (W 0 (by omega))) _, ok_4 l (a + 4) v5 v6 v7 v8 _ (w_next (fun j hj => W j (by omega)))⟩)) (fun _ => ⟨om_load (wok0 (W 0 (by omega))) _, ok_4 l (a + 4) v5 v6 v7 v8 _ (w_next (fun j hj => W j (by omega)))⟩)
  · exact ok_4 l a v5 v6 v7 v8 σ (fun j hj => W j (by omega))
theorem ok_2 (l a v5 v6 : Int32) (v7 : Bool) (v8 : Int32) (σ : nS) (W : ∀ j, j < cq l 7 → wok (a + nI (4 * j))) : o_Mo_pop_122_2 l a v5 v6 v7 v8 σ := by
  have e : cq l 7 = bq l 2 + cq l 6 := rfl
  refine O_ite (fun h => ?_) (fun h => ?_)
  · have b : bq l 2 = 1 := if_neg ((and1 _).mp h)
    exact O_ite (fun _ => O_ite (fun _ => ok_3 l (a + 4) v5 v6 v7 v8 _ (w_next (fun j hj => W j (by omega)))) (fun _ => ⟨om_load (wok0 (W 0 (by omega))) _, ok_3 l (a + 4) v5 v6 v7 v8 _ (w_next (fun j hj => W j (by omega)))⟩)) (fun _ => ⟨om_load (wok0 (W 0 (by omega))) _, ok_3 l (a + 4) v5 v6 v7 v8 _ (w_next (fun j hj => W j (by omega)))⟩)
  · exact ok_3 l a v5 v6 v7 v8 σ (fun j hj => W j (by omega))
theorem ok_1 (l a v5 v6 : Int32) (v7 : Bool) (v8 : Int32) (σ : nS) (W : ∀ j, j < cq l 8 → wok (a + nI (4 * j))) : o_Mo_pop_122_1 l a v5 v6 v7 v8 σ := by
  have e : cq l 8 = bq l 1 + cq l 7 := rfl
  refine O_ite (fun h => ?_) (fun h => ?_)
  · have b : bq l 1 = 1 := if_neg ((and1 _).mp h)
    exact O_ite (fun _ => O_ite (fun _ => ok_2 l (a + 4) v5 v6 v7 v8 _ (w_next (fun j hj => W j (by omega)))) (fun _ => ⟨om_load (wok0 (W 0 (by omega))) _, ok_2 l (a + 4) v5 v6 v7 v8 _ (w_next (fun j hj => W j (by omega)))⟩)) (fun _ => ⟨om_load (wok0 (W 0 (by omega))) _, ok_2 l (a + 4) v5 v6 v7 v8 _ (w_next (fun j hj => W j (by omega)))⟩)
  · exact ok_2 l a v5 v6 v7 v8 σ (fun j hj => W j (by omega))
theorem ok_0 (l a v5 v6 : Int32) (v7 : Bool) (v8 : Int32) (σ : nS) (W : ∀ j, j < cq l 9 → wok (a + nI (4 * j))) : o_Mo_pop_122_0 l a v5 v6 v7 v8 σ := by
  have e : cq l 9 = bq l 0 + cq l 8 := rfl
  refine O_ite (fun h => ?_) (fun h => ?_)
  · have b : bq l 0 = 1 := if_neg ((and1 _).mp h)
    exact O_ite (fun _ => O_ite (fun _ => ok_1 l (a + 4) v5 v6 v7 v8 _ (w_next (fun j hj => W j (by omega)))) (fun _ => ⟨om_load (wok0 (W 0 (by omega))) _, ok_1 l (a + 4) v5 v6 v7 v8 _ (w_next (fun j hj => W j (by omega)))⟩)) (fun _ => ⟨om_load (wok0 (W 0 (by omega))) _, ok_1 l (a + 4) v5 v6 v7 v8 _ (w_next (fun j hj => W j (by omega)))⟩)
  · exact ok_1 l a v5 v6 v7 v8 σ (fun j hj => W j (by omega))
theorem om_pop (th v : Int32) (σ : nS) (hn : vp_in (σ 8 10) 16) : o_Mo_pop (v &&& 511) (Pf th σ) := by
  have G := Pf_gd th
  have c9 := cq_le (v &&& 511) 9
  have el : ∃ j : Nat, j < 512 ∧ v &&& 511 = nI j := pk_andE v (m := 511) 9 (by decide)
  unfold o_Mo_pop
  rw [ones_cq, Pf_r th σ (j := 13) (by decide), q_fault G _ _ 1 (by decide)]
  refine O_ite (fun _ => O_ite (fun q => absurd q (by decide)) (fun _ => True.intro)) (fun h0 => ⟨om_fault _ _ _ _ (nI_le (b := 9) c9 (by decide)), O_ite (fun f => ?_) (fun _ => True.intro)⟩)
  have W : ∀ j, j < cq (v &&& 511) 9 → wok (σ 0 13 + nI (4 * j)) := fun j hj => fa_wok _ _ _ σ ((pos45 (fa_range _ _ _ _)).mp f) j (by omega) (nI_lt hj (by omega))
  generalize v &&& 511 = l at *
  generalize σ 0 13 = a at *
  rw [mul4]
  have k88 : ∀ (b : Bool) (x y : Int32), o_Mo_pop_88 l a x y b (Pf th σ) := by
    intro b x y
    refine O_ite (fun _ => ⟨om_jump _ _ _ (by rw [gd8 G σ (j := 10) (by decide)]; exact hn), ?_⟩) (fun _ => ok_0 _ _ _ _ _ _ _ W)
    exact O_ite (fun _ => ok_0 _ _ _ _ _ _ _ W) (fun _ => True.intro)
  have k65 : ∀ (x y : Int32), o_Mo_pop_65 l a x y (Pf th σ) := fun x y => O_ite (fun _ => k88 _ _ _) (fun _ => O_ite (fun _ => k88 _ _ _) (fun _ => k88 _ _ _))
  refine O_ite (fun _ => k65 _ _) (fun hle => ⟨om_load ?_ _, k65 _ _⟩)
  have cp : 0 < cq l 9 := by
    rcases Nat.eq_zero_or_pos (cq l 9) with z | z
    · rw [z] at h0; exact absurd nI_0 h0
    · exact z
  have := W (cq l 9 - 1) (by omega)
  rw [show cq l 9 = cq l 9 - 1 + 1 by omega, end4]
  exact this
theorem om_special (th v : Int32) (σ : nS) : o_Mo_special v (Pf th σ) := by
  have z : ∀ τ : nS, o_Mo_special_12 v τ := fun τ => O_ite (fun _ => True.intro) (fun _ => True.intro)
  exact O_ite (fun _ => z _) (fun _ => O_ite (fun _ => z _) (fun _ => O_ite (fun _ => True.intro) (fun _ => O_ite (fun _ => O_ite (fun _ => O_ite (fun _ => True.intro) (fun _ => True.intro)) (fun _ => True.intro)) (fun _ => O_ite (fun _ => O_ite (fun _ => True.intro) (fun _ => True.intro)) (fun _ => O_ite (fun _ => ⟨om_push th v σ, True.intro⟩) (fun _ => O_ite (fun _ => True.intro) (fun _ => True.intro)))))))
theorem om_plain (th v : Int32) (σ : nS) : o_Mo_plain v (Pf th σ) := by
  have a : ∀ (x y : Int32) (b : Bool), o_Mo_plain_188 x y b (Pf th σ) := fun x y b => ⟨om_move th x y b σ, True.intro⟩
  have b : ∀ (x y : Int32) (b : Bool), o_Mo_plain_238 x y b (Pf th σ) := fun x y b => ⟨om_move th x y b σ, True.intro⟩
  have c : ∀ x : Int32, o_Mo_plain_151 v x (Pf th σ) := fun x => O_ite (fun _ => a _ _ _) (fun _ => a _ _ _)
  have d : ∀ x : Int32, o_Mo_plain_204 v x (Pf th σ) := fun x => O_ite (fun _ => b _ _ _) (fun _ => b _ _ _)
  have e : ∀ x : Int32, o_Mo_plain_109 v x (Pf th σ) := fun x => O_ite (fun _ => True.intro) (fun _ => O_ite (fun _ => True.intro) (fun _ => O_ite (fun _ => c x) (fun _ => O_ite (fun _ => c x) (fun _ => O_ite (fun _ => d x) (fun _ => O_ite (fun _ => d x) (fun _ => O_ite (fun _ => ⟨om_special th v σ, True.intro⟩) (fun _ => True.intro)))))))
  exact O_ite (fun _ => O_ite (fun _ => O_ite (fun _ => True.intro) (fun _ => True.intro)) (fun _ => O_ite (fun _ => e _) (fun _ => O_ite (fun _ => e _) (fun _ => True.intro)))) (fun _ => True.intro)
theorem om_does (th v : Int32) (σ : nS) (hn : vp_in (σ 8 10) 16) : o_Mo_does v (Pf th σ) := by
  have G := Pf_gd th
  have j : ∀ x y : Int32, o_Mo_jump x y (Pf th σ) := fun x y => om_jump x y _ (by rw [gd8 G σ (j := 10) (by decide)]; exact hn)
  refine O_ite (fun _ => ⟨O_ite (fun _ => True.intro) (fun _ => ⟨j _ _, True.intro⟩), True.intro⟩) (fun _ => O_ite (fun _ => ⟨om_pop th v σ hn, ?_⟩) (fun _ => O_ite (fun _ => True.intro) (fun _ => O_ite (fun _ => O_ite (fun _ => True.intro) (fun _ => True.intro)) (fun _ => ⟨om_plain th v σ, ?_⟩))))
  · exact O_ite (fun _ => O_ite (fun _ => True.intro) (fun _ => True.intro)) (fun _ => True.intro)
  · exact O_ite (fun _ => True.intro) (fun _ => True.intro)
theorem om_fetched (th : Int32) (σ : nS) (hn : vp_in (σ 8 10) 16) : o_Mo_fetched (Rf th σ) := by
  have d : ∀ v : Int32, o_Mo_does v (Rf th σ) := by
    intro v
    rw [← Pf_fetch th σ]
    exact om_does th v _ (by rw [up2_row _ _ _ (by decide)]; exact hn)
  refine O_ite (fun _ => True.intro) (fun h => O_ite (fun g => O_ite (fun _ => True.intro) (fun _ => ?_)) (fun _ => True.intro))
  obtain ⟨p, hp, e⟩ := nI_of h
  rw [e] at g
  have pl : p ≤ 1022 := (nI_leI (b := 1022) hp (by decide)).mp g
  refine ⟨by rw [e]; exact vin1k (by omega), by rw [e, show (1 : Int32) = nI 1 from rfl, nI_add]; exact vin1k (by omega), d _, True.intro⟩
theorem fetched_range (th : Int32) (c : Nat) (σ : nS) (h : Iv c σ) (hc : c + 1 < 2 ^ 31) : (s_Mo_fetched (Rf th σ)).1 = 0 ∨ (s_Mo_fetched (Rf th σ)).1 = 4 ∨ (s_Mo_fetched (Rf th σ)).1 = 5 ∨ (s_Mo_fetched (Rf th σ)).1 = 6 := by
  rw [q_fetched th σ h.1]
  by_cases f : s_N_fetchFault σ = 0
  · rw [if_pos f]
    obtain ⟨n, hn, e⟩ := half_nI (σ 0 15) σ
    have h1 : Iv c (up2 σ 0 15 (σ 0 15 + 2)) := by
      refine ⟨?_, Iw_u h.2 0 15 _ (Or.inl (by decide))⟩
      rw [up2_self]
      exact ev_add h.1 (show (2 : Int32) &&& 1 = 0 by decide)
    rw [e, ← Pf_fetch th σ, i_all th n hn _ h1.2.1 h1.2.2.2.1 h1.1 (ch_ok h1.2 hc)]
    rcases xp_all c n hn _ h1.2 with x | x
    · exact Or.inl x.1
    · exact Or.inr x.1
  · rw [if_neg f]
    rcases ff_range σ with q | q | q
    · exact absurd q f
    · exact Or.inr (Or.inl q)
    · exact Or.inr (Or.inr (Or.inl q))
theorem om_step40 (th : Int32) (c : Nat) (σ : nS) (h : Iv c σ) (hc : c + 1 < 2 ^ 31) : o_Mo_step_40 (Rf th σ) := by
  refine O_ite (fun _ => ⟨om_fetched th σ h.2.2.1, ?_⟩) (fun _ => ⟨om_take (mdue_nI _) _, True.intro⟩)
  have z := fetched_range th c σ h hc
  generalize s_Mo_fetched (Rf th σ) = F at z
  obtain ⟨r, τ⟩ := F
  rw [ap2_mk9]
  exact O_ite (fun _ => True.intro) (fun _ => ⟨vin_f z, True.intro⟩)
theorem om_step (th : Int32) (c : Nat) (σ : nS) (h : Iv c σ) (hc : c + 1 < 2 ^ 31) : o_Mo_step (Rf th σ) := by
  have G := Rf_gd th
  have uI : ∀ (τ : nS) (v : Int32), Iv c τ → Iv c (up2 τ 8 9 v) := fun τ v q => ⟨by rw [up2_row _ _ _ (by decide)]; exact q.1, Iw_u q.2 8 9 v (Or.inr (by decide))⟩
  have uJ : ∀ (τ : nS) (v : Int32), Iv c τ → Iv c (up2 τ 2 9 v) := fun τ v q => ⟨by rw [up2_row _ _ _ (by decide)]; exact q.1, Iw_u q.2 2 9 v (Or.inl (by decide))⟩
  unfold o_Mo_step
  rw [← G.u8 _ _ _ (by decide), ← G.u8 _ _ _ (by decide), ← G.2.2.1 _ 2 _ _ (by decide) (by decide) (by decide)]
  exact O_ite (fun _ => om_step40 th c _ h hc) (fun _ => O_ite (fun _ => om_step40 th c _ (uJ _ _ (uI _ _ (uI _ _ h))) hc) (fun _ => om_step40 th c _ (uI _ _ h) hc))
