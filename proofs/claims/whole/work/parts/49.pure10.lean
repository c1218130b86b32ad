-- what an instruction leaves as it was
/-- all but the registers (below 16), what is pending, the memory, and the numbers 2 to 7 -/
def K (σ τ : nS) : Prop := (∀ k, k ≠ 0 → k ≠ 2 → k ≠ 8 → k ≠ 9 → τ k = σ k) ∧ (∀ j, j < 2 ∨ 8 ≤ j → τ 8 j = σ 8 j) ∧ (∀ j, 3 ≤ j → j ≤ 7 → b01 (σ 8 j) → b01 (τ 8 j)) ∧ ∀ j, 16 ≤ j → τ 0 j = σ 0 j
theorem K_refl (σ : nS) : K σ σ := ⟨fun _ _ _ _ _ => rfl, fun _ _ => rfl, fun _ _ _ h => h, fun _ _ => rfl⟩
theorem K_u0 {σ τ : nS} (h : K σ τ) (j : Nat) (hj : j < 16) (v : Int32) : K σ (up2 τ 0 j v) := by
  refine ⟨fun k h0 h2 h8 h9 => by rw [up2_row _ _ _ h0]; exact h.1 k h0 h2 h8 h9, fun i hi => by rw [up2_row _ _ _ (by decide)]; exact h.2.1 i hi, fun i h1 h2 => by rw [up2_row _ _ _ (by decide)]; exact h.2.2.1 i h1 h2, fun i hi => ?_⟩
  rw [up2_at, if_neg (fun q => by omega)]
  exact h.2.2.2 i hi
theorem K_ux {σ τ : nS} (h : K σ τ) (x : Nat) (hx : x = 2 ∨ x = 9) (j : Nat) (v : Int32) : K σ (up2 τ x j v) := by
  refine ⟨fun k h0 h2 h8 h9 => by rw [up2_row _ _ _ (by omega)]; exact h.1 k h0 h2 h8 h9, fun i hi => by rw [up2_row _ _ _ (by omega)]; exact h.2.1 i hi, fun i h1 h2 => by rw [up2_row _ _ _ (by omega)]; exact h.2.2.1 i h1 h2, fun i hi => by rw [up2_row _ _ _ (by omega)]; exact h.2.2.2 i hi⟩
theorem b01_b (b : Bool) : b01 (bI b) := by
  cases b
  · exact Or.inl rfl
  · exact Or.inr rfl
theorem K_u8 {σ τ : nS} (h : K σ τ) (j : Nat) (h2 : 2 ≤ j) (h7 : j ≤ 7) (b : Bool) : K σ (up2 τ 8 j (bI b)) := by
  refine ⟨fun k h0 h2 h8 h9 => by rw [up2_row _ _ _ h8]; exact h.1 k h0 h2 h8 h9, fun i hi => by rw [up2_at, if_neg (fun q => by omega)]; exact h.2.1 i hi, fun i h1 h2 hb => ?_, fun i hi => by rw [up2_row _ _ _ (by decide)]; exact h.2.2.2 i hi⟩
  rw [up2_at]
  by_cases q : 8 = 8 ∧ i = j
  · rw [if_pos q]; exact b01_b b
  · rw [if_neg q]; exact h.2.2.1 i h1 h2 hb
theorem K_trans {σ τ υ : nS} (h : K σ τ) (g : K τ υ) : K σ υ := ⟨fun k h0 h2 h8 h9 => (g.1 k h0 h2 h8 h9).trans (h.1 k h0 h2 h8 h9), fun j hj => (g.2.1 j hj).trans (h.2.1 j hj), fun j h1 h2 hb => g.2.2.1 j h1 h2 (h.2.2.1 j h1 h2 hb), fun j hj => (g.2.2.2 j hj).trans (h.2.2.2 j hj)⟩
def KP (σ τ : nS) : Prop := K σ τ ∧ τ 0 15 = σ 0 15
theorem KP_refl (σ : nS) : KP σ σ := ⟨K_refl σ, rfl⟩
theorem KP_u0 {σ τ : nS} (h : KP σ τ) (j : Nat) (hj : j < 16) (h15 : j ≠ 15) (v : Int32) : KP σ (up2 τ 0 j v) := ⟨K_u0 h.1 j hj v, by rw [up2_at, if_neg (fun q => h15 q.2.symm)]; exact h.2⟩
theorem KP_u7 {σ τ : nS} (h : KP σ τ) (x v : Int32) : KP σ (up2 τ 0 (x &&& 7).toNatClampNeg v) := KP_u0 h _ (by have := n7 x; omega) (n7' x) v
theorem KP_ux {σ τ : nS} (h : KP σ τ) (x : Nat) (hx : x = 2 ∨ x = 9) (j : Nat) (v : Int32) : KP σ (up2 τ x j v) := ⟨K_ux h.1 x hx j v, by rw [up2_row _ _ _ (by omega)]; exact h.2⟩
theorem KP_u8 {σ τ : nS} (h : KP σ τ) (j : Nat) (h2 : 2 ≤ j) (h7 : j ≤ 7) (b : Bool) : KP σ (up2 τ 8 j (bI b)) := ⟨K_u8 h.1 j h2 h7 b, by rw [up2_row _ _ _ (by decide)]; exact h.2⟩
theorem KP_ite {σ : nS} {c : Prop} [Decidable c] {x y : nS} (h : KP σ x) (g : KP σ y) : KP σ (if c then x else y) := by
  by_cases q : c
  · rw [if_pos q]; exact h
  · rw [if_neg q]; exact g
theorem KP_of {σ τ : nS} (h : KP σ τ) (v : Int32) : KP σ (s_Fl_ofResult v τ) := by
  unfold s_Fl_ofResult s_Fl_ofResult_10 s_Fl_ofResult_23
  exact KP_ite (KP_ite (KP_u8 (KP_u8 h 4 (by decide) (by decide) _) 5 (by decide) (by decide) _) (KP_u8 (KP_u8 h 4 (by decide) (by decide) _) 5 (by decide) (by decide) _)) (KP_ite (KP_u8 (KP_u8 h 4 (by decide) (by decide) _) 5 (by decide) (by decide) _) (KP_u8 (KP_u8 h 4 (by decide) (by decide) _) 5 (by decide) (by decide) _))
/-- no fault, and so much is left; or a fault, and all is left -/
def PP (σ : nS) (F : Int32 × nS) : Prop := (F.1 = 0 ∧ KP σ F.2) ∨ ((F.1 = 4 ∨ F.1 = 5 ∨ F.1 = 6) ∧ F.2 = σ)
theorem PP_ite {σ : nS} {c : Prop} [Decidable c] {x y : Int32 × nS} (h : PP σ x) (g : PP σ y) : PP σ (if c then x else y) := by
  by_cases q : c
  · rw [if_pos q]; exact h
  · rw [if_neg q]; exact g
theorem PP_6 (σ : nS) : PP σ (6, σ) := Or.inr ⟨Or.inr (Or.inr rfl), rfl⟩
theorem PP_0 {σ τ : nS} (h : KP σ τ) : PP σ (0, τ) := Or.inl ⟨rfl, h⟩
theorem PP_id {σ : nS} {F : Int32 × nS} (h : PP σ F) : PP σ (ap2 F fun r1 σ1 => (r1, σ1)) := h
def SKv (σ : nS) (F : Int32 × nS) : Prop := KP σ F.2
theorem SKv_ite {σ : nS} {c : Prop} [Decidable c] {x y : Int32 × nS} (h : SKv σ x) (g : SKv σ y) : SKv σ (if c then x else y) := by
  by_cases q : c
  · rw [if_pos q]; exact h
  · rw [if_neg q]; exact g
theorem SKv_sum (a b c : Int32) (σ : nS) : SKv σ (s_Fl_sum a b c σ) := by
  have z : ∀ (v : Int32) (k : Bool) (τ : nS), KP σ τ → SKv σ (s_Fl_sum_67 v k τ) := fun v k τ h => KP_of (KP_u8 h 7 (by decide) (by decide) k) v
  have y : ∀ (w : Int64) (v : Int32) (k : Bool) (τ : nS), KP σ τ → SKv σ (s_Fl_sum_49 w v k τ) := fun w v k τ h => SKv_ite (z _ _ _ (KP_u8 h 6 (by decide) (by decide) k)) (z _ _ _ (KP_u8 h 6 (by decide) (by decide) k))
  exact SKv_ite (y _ _ _ _ (KP_refl σ)) (y _ _ _ _ (KP_refl σ))
theorem SKv_diff (a b : Int32) (σ : nS) : SKv σ (s_Fl_difference a b σ) := SKv_sum a _ 1 σ
theorem PP_put {σ : nS} {F : Int32 × nS} (h : SKv σ F) (x : Int32) : PP σ (ap2 F fun r1 σ1 => (0, up2 σ1 0 (x &&& 7).toNatClampNeg r1)) := PP_0 (KP_u7 h x F.1)
theorem pp_shift (v : Int32) (σ : nS) : PP σ (s_N_shift v σ) := by
  have a : ∀ (r : Int32) (τ : nS), KP σ τ → PP σ (s_N_shift_107 (v &&& 7) (v &&& 7) r τ) := fun r τ h => PP_0 (KP_of (KP_u7 h v r) _)
  have b : ∀ (y i k : Int32) (τ : nS), KP σ τ → PP σ (s_N_shift_73 (v &&& 7) y i k τ) := fun y i k τ h => PP_ite (a _ _ h) (PP_ite (a _ _ h) (a _ _ h))
  have c : ∀ (y i k : Int32) (q : Bool) (τ : nS), KP σ τ → PP σ (s_N_shift_70 (v &&& 7) y i k q τ) := fun y i k q τ h => b _ _ _ _ (KP_u8 h 6 (by decide) (by decide) q)
  have d : ∀ (y i k k1 k2 : Int32) (τ : nS), KP σ τ → PP σ (s_N_shift_59 (v &&& 7) y i k k1 k2 τ) := fun y i k k1 k2 τ h => PP_ite (c _ _ _ _ _ h) (c _ _ _ _ _ h)
  exact PP_ite (b _ _ _ _ (KP_refl σ)) (PP_ite (d _ _ _ _ _ _ (KP_refl σ)) (d _ _ _ _ _ _ (KP_refl σ)))
theorem pp_add (v : Int32) (σ : nS) : PP σ (s_N_addThree v σ) := PP_ite (PP_put (SKv_sum _ _ _ σ) v) (PP_ite (PP_put (SKv_diff _ _ σ) v) (PP_6 σ))
theorem pp_num (v : Int32) (σ : nS) : PP σ (s_N_withNumber v σ) := PP_ite (PP_0 (KP_of (KP_u7 (KP_refl σ) _ _) _)) (PP_ite (PP_0 (SKv_diff _ _ σ)) (PP_ite (PP_put (SKv_sum _ _ _ σ) _) (PP_put (SKv_diff _ _ σ) _)))
theorem pp_bits (v r : Int32) (σ : nS) : PP σ (s_N_bits (v &&& 7) r σ) := PP_0 (KP_of (KP_u7 (KP_refl σ) v r) r)
theorem pp_comb (v : Int32) (σ : nS) : PP σ (s_N_combine v σ) := PP_ite (pp_bits v _ σ) (PP_ite (pp_bits v _ σ) (PP_ite (PP_6 σ) (PP_ite (PP_6 σ) (PP_ite (PP_6 σ) (PP_ite (PP_put (SKv_sum _ _ _ σ) v) (PP_ite (PP_put (SKv_sum _ _ _ σ) v) (PP_ite (PP_6 σ) (PP_ite (PP_0 (KP_of (KP_refl σ) _)) (PP_ite (PP_put (SKv_diff _ _ σ) v) (PP_ite (PP_0 (SKv_diff _ _ σ)) (PP_ite (PP_6 σ) (PP_ite (pp_bits v _ σ) (PP_ite (pp_bits v _ σ) (PP_ite (pp_bits v _ σ) (PP_ite (pp_bits v _ σ) (PP_6 σ))))))))))))))))
theorem vin_lt {x : Int32} (h : vp_in x 16) : x.toNatClampNeg < 16 := by
  obtain ⟨j, hj, e⟩ := vp_in_of h (by decide)
  subst e
  rw [nI_clamp (by omega)]
  exact hj
theorem pp_copy (v : Int32) (σ : nS) : PP σ (s_N_copyAny v σ) := by
  unfold s_N_copyAny s_N_copyAny_57
  by_cases h : ((v >>> ((4 : Int32) &&& 31)) &&& 8) + (v &&& 7) = 15
  · rw [if_pos h]; exact PP_6 σ
  · rw [if_neg h]
    have k : ∀ y : Int32, PP σ (0, up2 σ 0 (((v >>> ((4 : Int32) &&& 31)) &&& 8) + (v &&& 7)).toNatClampNeg y) := fun y => PP_0 (KP_u0 (KP_refl σ) _ (vin_lt (vin_cp v)) (vin_ne (vin_cp v) h) y)
    exact PP_ite (k _) (k _)
theorem PP_fa {σ : nS} {a c n : Int32} {F : Int32 × nS} (h : PP σ F) : PP σ (if s_N_faultAlong a c n σ = 0 then F else (s_N_faultAlong a c n σ, σ)) := by
  by_cases q : s_N_faultAlong a c n σ = 0
  · rw [if_pos q]; exact h
  · rw [if_neg q]
    rcases fa_range a c n σ with e | e | e
    · exact absurd e q
    · exact Or.inr ⟨Or.inl e, rfl⟩
    · exact Or.inr ⟨Or.inr (Or.inl e), rfl⟩
theorem KP_st {σ τ : nS} (h : KP σ τ) (a x : Int32) : KP σ (s_Me_store a x τ) := KP_ux h 9 (Or.inr rfl) _ _
theorem pp_move (v x a : Int32) (hx : ∃ y : Int32, x = y &&& 7) (σ : nS) : PP σ (s_N_move v x a σ) := by
  obtain ⟨y, rfl⟩ := hx
  have k : ∀ (b : Bool) (n : Int32), PP σ (s_N_move_29 (y &&& 7) a b a n σ) := fun b n => PP_fa (PP_ite (PP_0 (KP_u7 (KP_refl σ) y _)) (PP_0 (KP_st (KP_refl σ) _ _)))
  exact PP_ite (PP_ite (k _ _) (k _ _)) (PP_ite (k _ _) (k _ _))
theorem pq_9 (l s a : Int32) (σ τ : nS) (h : KP σ τ) : PP σ (s_N_push_47_9 l s a τ) := PP_0 (KP_u0 h 13 (by decide) (by decide) s)
theorem pq_8 (l s a : Int32) (σ τ : nS) (h : KP σ τ) : PP σ (s_N_push_47_8 l s a τ) := PP_ite (pq_9 l s a σ τ h) (pq_9 l s (a + 4) σ _ (KP_st h _ _))
theorem pq_7 (l s a : Int32) (σ τ : nS) (h : KP σ τ) : PP σ (s_N_push_47_7 l s a τ) := PP_ite (pq_8 l s a σ τ h) (pq_8 l s (a + 4) σ _ (KP_st h _ _))
theorem pq_6 (l s a : Int32) (σ τ : nS) (h : KP σ τ) : PP σ (s_N_push_47_6 l s a τ) := PP_ite (pq_7 l s a σ τ h) (pq_7 l s (a + 4) σ _ (KP_st h _ _))
theorem pq_5 (l s a : Int32) (σ τ : nS) (h : KP σ τ) : PP σ (s_N_push_47_5 l s a τ) := PP_ite (pq_6 l s a σ τ h) (pq_6 l s (a + 4) σ _ (KP_st h _ _))
theorem pq_4 (l s a : Int32) (σ τ : nS) (h : KP σ τ) : PP σ (s_N_push_47_4 l s a τ) := PP_ite (pq_5 l s a σ τ h) (pq_5 l s (a + 4) σ _ (KP_st h _ _))
theorem pq_3 (l s a : Int32) (σ τ : nS) (h : KP σ τ) : PP σ (s_N_push_47_3 l s a τ) := PP_ite (pq_4 l s a σ τ h) (pq_4 l s (a + 4) σ _ (KP_st h _ _))
theorem pq_2 (l s a : Int32) (σ τ : nS) (h : KP σ τ) : PP σ (s_N_push_47_2 l s a τ) := PP_ite (pq_3 l s a σ τ h) (pq_3 l s (a + 4) σ _ (KP_st h _ _))
theorem pq_1 (l s a : Int32) (σ τ : nS) (h : KP σ τ) : PP σ (s_N_push_47_1 l s a τ) := PP_ite (pq_2 l s a σ τ h) (pq_2 l s (a + 4) σ _ (KP_st h _ _))
theorem pq_0 (l s a : Int32) (σ τ : nS) (h : KP σ τ) : PP σ (s_N_push_47_0 l s a τ) := PP_ite (pq_1 l s a σ τ h) (pq_1 l s (a + 4) σ _ (KP_st h _ _))
theorem pp_push (v : Int32) (σ : nS) : PP σ (s_N_push v σ) := PP_ite (PP_6 σ) (PP_fa (pq_0 _ _ _ σ σ (KP_refl σ)))
theorem pp_switch (v : Int32) (σ : nS) : PP σ (s_N_switchOrNothing v σ) := PP_ite (PP_0 (KP_u8 (KP_refl σ) 3 (by decide) (by decide) _)) (PP_ite (PP_0 (KP_u8 (KP_refl σ) 2 (by decide) (by decide) _)) (PP_ite (PP_ite (PP_0 (KP_refl σ)) (PP_0 (KP_u8 (KP_refl σ) 3 (by decide) (by decide) _))) (PP_ite (PP_0 (KP_u8 (KP_refl σ) 2 (by decide) (by decide) _)) (PP_ite (PP_0 (KP_refl σ)) (PP_6 σ)))))
theorem pp_call (σ : nS) : PP σ (s_N_callOut σ) := PP_ite (PP_0 (KP_ux (KP_refl σ) 2 (Or.inl rfl) _ _)) (PP_6 σ)
theorem pp_stack (n : Nat) (hn : n < 65536) (hm : n / 4096 = 11) (hp : n / 512 ≠ 94) (σ : nS) : PP σ (s_N_stackOrSwitch (nI n) σ) := by
  have e8 : nI n >>> ((8 : Int32) &&& 31) = nI (n / 256) := by rw [w_sh hn 8 8 (by decide)]
  have ea : nI (n / 256) &&& 15 = nI (n / 256 % 16) := by rw [pk_andN (by omega) 4 (by decide)]
  have sp : ∀ x y : Int32, PP σ (s_N_stackOrSwitch_105 x y σ) := fun x y => PP_0 (KP_u0 (KP_refl σ) 13 (by decide) (by decide) _)
  unfold s_N_stackOrSwitch
  rw [e8, ea]
  have n12 : ¬ nI (n / 256 % 16) = 12 := ne_lit (m := 12) (by omega) (by omega) (by decide)
  have n13 : ¬ nI (n / 256 % 16) = 13 := ne_lit (m := 13) (by omega) (by omega) (by decide)
  rw [if_neg n12, if_neg n13]
  exact PP_ite (PP_ite (sp _ _) (sp _ _)) (PP_ite (pp_switch _ σ) (PP_ite (pp_switch _ σ) (PP_ite (pp_switch _ σ) (PP_ite (pp_push _ σ) (PP_ite (pp_push _ σ) (PP_ite (pp_switch _ σ) (PP_ite (pp_switch _ σ) (PP_ite (pp_switch _ σ) (PP_ite (pp_switch _ σ) (PP_ite (pp_switch _ σ) (PP_ite (pp_switch _ σ) (pp_switch _ σ))))))))))))
/-- an even number -/
def ev (x : Int32) : Prop := x &&& 1 = 0
theorem ev_add {x y : Int32} (h : ev x) (g : ev y) : ev (x + y) := by
  unfold ev at *
  apply Int32.toBitVec_inj.mp
  apply BitVec.eq_of_toNat_eq
  have hx : (x.toBitVec &&& 1#32).toNat = 0 := congrArg (fun z : Int32 => z.toBitVec.toNat) h
  have hy : (y.toBitVec &&& 1#32).toNat = 0 := congrArg (fun z : Int32 => z.toBitVec.toNat) g
  show ((x.toBitVec + y.toBitVec) &&& 1#32).toNat = 0
  rw [BitVec.toNat_and] at *
  rw [show (1#32).toNat = 2 ^ 1 - 1 from rfl, Nat.and_two_pow_sub_one_eq_mod] at *
  rw [BitVec.toNat_add]
  omega
theorem ev_2 (x : Int32) : ev (2 * x) := by
  unfold ev
  apply Int32.toBitVec_inj.mp
  apply BitVec.eq_of_toNat_eq
  show ((2#32 * x.toBitVec) &&& 1#32).toNat = 0
  rw [BitVec.toNat_and, show (1#32).toNat = 2 ^ 1 - 1 from rfl, Nat.and_two_pow_sub_one_eq_mod, BitVec.toNat_mul, show (2#32).toNat = 2 from rfl]
  omega
theorem ev_even (x : Int32) : ev (s_N_even x) := by
  unfold ev s_N_even
  apply b_ext
  intro i hi
  rw [b_and, b_and, b_0]
  by_cases z : i = 0
  · subst z
    rw [show bt (-2) 0 = false by decide, Bool.and_false, Bool.false_and]
  · have : ∀ i, i < 32 → i ≠ 0 → bt 1 i = false := by decide
    rw [this i hi z, Bool.and_false]
theorem even_ev {x : Int32} (h : ev x) : s_N_even x = x := by
  unfold s_N_even
  apply b_ext
  intro i hi
  rw [b_and]
  by_cases z : i = 0
  · subst z
    rw [(bt_1 x).mp h, Bool.false_and]
  · have : ∀ i, i < 32 → i ≠ 0 → bt (-2) i = true := by decide
    rw [this i hi z, Bool.and_true]
theorem ev_ne {x : Int32} (h : ev x) : x ≠ -7 ∧ x ≠ -15 := by
  constructor
  · intro q; subst q; exact absurd h (show ¬ (-7 : Int32) &&& 1 = 0 by decide)
  · intro q; subst q; exact absurd h (show ¬ (-15 : Int32) &&& 1 = 0 by decide)
/-- as PP, but PC may change, and stays even -/
def PE (σ : nS) (F : Int32 × nS) : Prop := (F.1 = 0 ∧ K σ F.2 ∧ (ev (σ 0 15) → ev (F.2 0 15))) ∨ ((F.1 = 4 ∨ F.1 = 5 ∨ F.1 = 6) ∧ F.2 = σ)
theorem PE_of {σ : nS} {F : Int32 × nS} (h : PP σ F) : PE σ F := h.elim (fun q => Or.inl ⟨q.1, q.2.1, fun z => by rw [q.2.2]; exact z⟩) Or.inr
theorem PE_br (σ : nS) (y : Int32) : PE σ (0, up2 σ 0 15 (σ 0 15 + (2 + 2 * y))) := Or.inl ⟨rfl, K_u0 (K_refl σ) 15 (by decide) _, fun h => by
  show ev (up2 σ 0 15 (σ 0 15 + (2 + 2 * y)) 0 15)
  rw [up2_self]
  exact ev_add h (ev_add (show (2 : Int32) &&& 1 = 0 by decide) (ev_2 y))⟩
theorem PE_ite {σ : nS} {c : Prop} [Decidable c] {x y : Int32 × nS} (h : PE σ x) (g : PE σ y) : PE σ (if c then x else y) := by
  by_cases q : c
  · rw [if_pos q]; exact h
  · rw [if_neg q]; exact g
theorem pe_branch (v : Int32) (σ : nS) : PE σ (s_N_branch v σ) := PE_ite (PE_br σ _) (PE_of (PP_6 σ))
theorem pe_branchIf (v : Int32) (σ : nS) : PE σ (s_N_branchIf v σ) := PE_ite (PE_ite (PE_br σ _) (PE_of (PP_0 (KP_refl σ)))) (PE_of (PP_6 σ))
/-- everything but BX and POP -/
theorem pe_exec (n : Nat) (hn : n < 65536) (hp : n / 512 ≠ 94) (hx : ¬ (nI n) &&& 65415 = 18176) (σ : nS) : PE σ (s_N_execute (nI n) σ) := by
  have e12 : nI n >>> ((12 : Int32) &&& 31) = nI (n / 4096) := by rw [w_sh hn 12 12 (by decide)]
  have e8 : nI n >>> ((8 : Int32) &&& 31) = nI (n / 256) := by rw [w_sh hn 8 8 (by decide)]
  have cb : PE σ (s_N_copyOrBranch (nI n) σ) := by
    unfold s_N_copyOrBranch
    rw [e8]
    by_cases a : nI (n / 256) = 70
    · rw [if_pos a]; exact PE_of (pp_copy _ σ)
    · rw [if_neg a]
      by_cases b : nI (n / 256) = 71
      · rw [if_pos b]
        have q : n / 256 = 71 := (nI_eq (b := 71) (by omega) (by decide)).mp b
        have hz : ¬ (nI n) &&& 135 = 0 := fun z => hx (bx_ok n q z)
        unfold s_N_branchTo s_N_branchTo_21
        rw [if_neg hz]
        exact PE_of (PP_6 σ)
      · rw [if_neg b]; exact PE_of (PP_6 σ)
  have st : nI (n / 4096) = 11 → PE σ (s_N_stackOrSwitch (nI n) σ) := fun q => PE_of (pp_stack n hn ((nI_eq (b := 11) (by omega) (by decide)).mp q) hp σ)
  unfold s_N_execute
  rw [e12]
  by_cases h : nI (n / 4096) = 11
  · rw [h]
    simp (decide := true) only [↓reduceIte]
    exact st h
  · rw [if_neg (c := nI (n / 4096) = 11) h]
    exact PE_ite (PE_ite (PE_of (pp_add _ σ)) (PE_of (pp_shift _ σ))) (PE_ite (PE_ite (PE_of (pp_add _ σ)) (PE_of (pp_shift _ σ))) (PE_ite (PE_of (pp_num _ σ)) (PE_ite (PE_of (pp_num _ σ)) (PE_ite (PE_ite (PE_of (pp_comb _ σ)) cb) (PE_ite (PE_of (PP_6 σ)) (PE_ite (PE_of (pp_move _ _ _ ⟨_, rfl⟩ σ)) (PE_ite (PE_of (PP_6 σ)) (PE_ite (PE_of (PP_6 σ)) (PE_ite (PE_of (pp_move _ _ _ ⟨_, rfl⟩ σ)) (PE_ite (PE_of (PP_6 σ)) (PE_ite (PE_of (PP_6 σ)) (PE_ite (PE_ite (PE_of (pp_call σ)) (pe_branchIf _ σ)) (PE_ite (pe_branch _ σ) (PE_of (PP_6 σ)))))))))))))))
