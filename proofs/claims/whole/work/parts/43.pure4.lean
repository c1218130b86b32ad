-- sums, numbers, logic, copies
theorem ap2_M2 {M : nS → nS} {γ : Type} (F : Int32 × nS) (k : Int32 → nS → γ) : ap2 (M2 M F) k = k F.1 (M F.2) := rfl
theorem put_M2 (th : Int32) {j : Nat} (h : j ≠ 15) (F : Int32 × nS) : ((0 : Int32), up2 (Pf th F.2) 0 j F.1) = M2 (Pf th) (ap2 F fun r σ => (0, up2 σ 0 j r)) := by
  unfold M2 ap2
  simp only []
  rw [Pf_u0 th _ _ h]
theorem n2_3 (x : Int32) : (x &&& 3) = 0 ∨ (x &&& 3) = 1 ∨ (x &&& 3) = 2 ∨ (x &&& 3) = 3 := by
  obtain ⟨j, hj, e⟩ := pk_andE x (m := 3) 2 (by decide)
  rw [e]
  have : j = 0 ∨ j = 1 ∨ j = 2 ∨ j = 3 := by omega
  rcases this with rfl | rfl | rfl | rfl <;> decide
theorem q_imm (th : Int32) (v : Int32) (σ : nS) : s_Mo_immediate v (Pf th σ) = M2 (Pf th) (s_N_withNumber v σ) := by
  have G := Pf_gd th
  unfold s_Mo_immediate s_N_withNumber s_Mo_immediate_32 s_Mo_immediate_76 s_Mo_immediate_92 s_N_withNumber_128
  rcases n2_3 (v >>> ((11 : Int32) &&& 31)) with e | e | e | e <;> rw [e]
  · simp (decide := true) only [↓reduceIte]
    unfold ap1 M2
    simp only []
    rw [q_test G, ofR_row0, Pf_u0 th _ _ (n7' _)]
  · simp (decide := true) only [↓reduceIte]
    rw [Pf_r th σ (n7' _), q_diff G]
    rfl
  · simp (decide := true) only [↓reduceIte]
    rw [Pf_r th σ (n7' _), q_sum G, ap2_M2]
    exact put_M2 th (n7' _) _
  · simp (decide := true) only [↓reduceIte]
    rw [Pf_r th σ (n7' _), q_diff G, ap2_M2]
    exact put_M2 th (n7' _) _
theorem n4_15 (x : Int32) : ∃ n : Nat, n < 16 ∧ (x &&& 15) = nI n := by
  obtain ⟨j, hj, e⟩ := pk_andE x (m := 15) 4 (by decide)
  exact ⟨j, by omega, e⟩
theorem q_bits (th : Int32) (v r : Int32) (σ : nS) : s_Mo_logic_252 (v &&& 7) (v &&& 7) r (Pf th σ) = M2 (Pf th) (s_N_bits (v &&& 7) r σ) := by
  unfold s_Mo_logic_252 s_N_bits s_Mo_logic_269 ap1 M2
  simp only []
  rw [up2_self, ← Pf_u0 th _ _ (n7' _), q_test (Pf_gd th)]
theorem q_logic (th : Int32) (v : Int32) (σ : nS) : s_Mo_logic v (Pf th σ) = M2 (Pf th) (s_N_combine v σ) := by
  have G := Pf_gd th
  have hb : ∀ F : Int32 × nS, ap2 F (fun r1 σ1 => (r1, σ1)) = F := fun _ => rfl
  unfold s_Mo_logic s_N_combine
  rw [Pf_r th σ (n7' _), Pf_r th σ (n7' _), gd8 G σ (j := 6) (by decide)]
  have key : ∀ b : Bool, (bI b = s_Fl_carry σ) → s_Mo_logic_46 ((v >>> ((6 : Int32) &&& 31)) &&& 15) (v &&& 7) (σ 0 (v &&& 7).toNatClampNeg) (σ 0 ((v >>> ((3 : Int32) &&& 31)) &&& 7).toNatClampNeg) b (Pf th σ) = M2 (Pf th) (s_N_combine v σ) := by
    intro b hc
    unfold s_Mo_logic_46 s_Mo_logic_174 s_Mo_logic_269 s_N_combine
    rw [← hc]
    obtain ⟨n, hn, e⟩ := n4_15 (v >>> ((6 : Int32) &&& 31))
    rw [e]
    generalize (σ 0 (v &&& 7).toNatClampNeg) = x
    generalize (σ 0 ((v >>> ((3 : Int32) &&& 31)) &&& 7).toNatClampNeg) = y
    have : n = 0 ∨ n = 1 ∨ n = 2 ∨ n = 3 ∨ n = 4 ∨ n = 5 ∨ n = 6 ∨ n = 7 ∨ n = 8 ∨ n = 9 ∨ n = 10 ∨ n = 11 ∨ n = 12 ∨ n = 13 ∨ n = 14 ∨ n = 15 := by omega
    rcases this with rfl | rfl | rfl | rfl | rfl | rfl | rfl | rfl | rfl | rfl | rfl | rfl | rfl | rfl | rfl | rfl <;> simp (decide := true) only [↓reduceIte]
    · rw [hb]; exact q_bits th v _ σ
    · rw [hb]; exact q_bits th v _ σ
    · rfl
    · rfl
    · rfl
    · rw [q_sum G, ap2_M2]; exact put_M2 th (n7' _) _
    · rw [q_sum G, ap2_M2]; exact put_M2 th (n7' _) _
    · rfl
    · unfold ap1 M2
      rw [q_test G]
    · rw [q_diff G, ap2_M2]; exact put_M2 th (n7' _) _
    · rw [q_diff G]; rfl
    · rfl
    · rw [hb]; exact q_bits th v _ σ
    · rw [hb]; exact q_bits th v _ σ
    · rw [hb]; exact q_bits th v _ σ
    · rw [hb]; exact q_bits th v _ σ
  have k2 := fun b h => key b h
  unfold s_N_combine at k2
  by_cases h : σ 8 6 = 0
  · rw [if_pos h]; exact k2 false (by unfold s_Fl_carry; rw [if_pos h]; rfl)
  · rw [if_neg h]; exact k2 true (by unfold s_Fl_carry; rw [if_neg h]; rfl)
theorem hi_or (v : Int32) : ((v >>> ((4 : Int32) &&& 31)) &&& 8) ||| (v &&& 7) = ((v >>> ((4 : Int32) &&& 31)) &&& 8) + (v &&& 7) := by
  obtain ⟨n, hn, e1⟩ := cp_hi (v >>> ((4 : Int32) &&& 31))
  obtain ⟨j, hj, e2⟩ := pk_andE v (m := 7) 3 (by decide)
  rw [e1, e2, or_87 n (by omega) j (by omega), nI_add]
theorem sub2_4 (x : Int32) : x - 2 + 4 = x + 2 := by
  rw [Int32.sub_eq_add_neg, Int32.add_assoc]
  rfl
theorem vin_ne {x : Int32} (h : vp_in x 16) (h15 : ¬ x = 15) : x.toNatClampNeg ≠ 15 := by
  obtain ⟨j, hj, e⟩ := vp_in_of h (by decide)
  subst e
  rw [nI_clamp (by omega)]
  intro q
  subst q
  exact h15 rfl
theorem q_copy (th : Int32) (v : Int32) (σ : nS) : s_Mo_moveHigh v (Pf th σ) = M2 (Pf th) (s_N_copyAny v σ) := by
  unfold s_Mo_moveHigh s_N_copyAny s_Mo_moveHigh_57 s_N_copyAny_57
  rw [hi_or]
  by_cases h : ((v >>> ((4 : Int32) &&& 31)) &&& 8) + (v &&& 7) = 15
  · rw [if_pos h, if_pos h]; rfl
  · rw [if_neg h, if_neg h]
    have hn := vin_ne (vin_cp v) h
    by_cases g : (v >>> ((3 : Int32) &&& 31)) &&& 15 = 15
    · rw [if_pos g, if_pos g, Pf_pc, sub2_4]
      unfold M2
      simp only []
      rw [Pf_u0 th _ _ hn]
    · rw [if_neg g, if_neg g, Pf_r th σ (vin_ne (vin_and15_16 _) g)]
      unfold M2
      simp only []
      rw [Pf_u0 th _ _ hn]
