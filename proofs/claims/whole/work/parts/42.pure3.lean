-- instructions on the state behind fetch
theorem Pf_r (th : Int32) (σ : nS) {j : Nat} (h : j ≠ 15) : Pf th σ 0 j = σ 0 j := by
  unfold Pf
  rw [up2_at, if_neg (fun q => h q.2)]
  rfl
theorem Pf_pc (th : Int32) (σ : nS) : Pf th σ 0 15 = σ 0 15 - 2 := by
  unfold Pf
  rw [up2_at, if_pos ⟨rfl, rfl⟩]
theorem Pf_u0 (th : Int32) (σ : nS) {j : Nat} (v : Int32) (h : j ≠ 15) : Pf th (up2 σ 0 j v) = up2 (Pf th σ) 0 j v := by
  unfold Pf
  rw [Rf_upk th σ 0 j v (by decide) (by decide), up2_comm _ _ _ (Or.inr h), up2_at, if_neg (fun q => h q.2.symm)]
theorem Pf_u15 (th : Int32) (σ : nS) (v : Int32) : Pf th (up2 σ 0 15 v) = up2 (Pf th σ) 0 15 (v - 2) := by
  unfold Pf
  rw [Rf_upk th σ 0 15 v (by decide) (by decide), up2_same, up2_same, up2_at, if_pos ⟨rfl, rfl⟩]
theorem n7 (x : Int32) : (x &&& 7).toNatClampNeg < 8 := by
  obtain ⟨j, hj, e⟩ := pk_andE x (m := 7) 3 (by decide)
  rw [e, nI_clamp (by omega)]
  omega
theorem n7' (x : Int32) : (x &&& 7).toNatClampNeg ≠ 15 := by have := n7 x; omega
theorem up2_self (σ : nS) (k j : Nat) (v : Int32) : up2 σ k j v k j = v := by rw [up2_at, if_pos ⟨rfl, rfl⟩]
theorem ofR_row0 (v : Int32) (σ : nS) (j : Nat) (r : Int32) : s_Fl_ofResult v (up2 σ 0 j r) = up2 (s_Fl_ofResult v σ) 0 j r := by
  unfold s_Fl_ofResult s_Fl_ofResult_10 s_Fl_ofResult_23
  by_cases c0 : 0 ≤ v
  · (try simp only [if_pos c0])
    by_cases c1 : v = 0
    · (try simp only [if_pos c1])
      rw [up2_comm σ _ _ (Or.inl (by decide)), up2_comm _ _ _ (Or.inl (by decide))]
    · (try simp only [if_neg c1])
      rw [up2_comm σ _ _ (Or.inl (by decide)), up2_comm _ _ _ (Or.inl (by decide))]
  · (try simp only [if_neg c0])
    by_cases c1 : v = 0
    · (try simp only [if_pos c1])
      rw [up2_comm σ _ _ (Or.inl (by decide)), up2_comm _ _ _ (Or.inl (by decide))]
    · (try simp only [if_neg c1])
      rw [up2_comm σ _ _ (Or.inl (by decide)), up2_comm _ _ _ (Or.inl (by decide))]
theorem and1 (x : Int32) : (x &&& 1) = 1 ↔ ¬ (x &&& 1) = 0 := by
  obtain ⟨j, hj, e⟩ := pk_andE x (m := 1) 1 (by decide)
  rw [e]
  have : j = 0 ∨ j = 1 := by omega
  rcases this with rfl | rfl <;> decide
theorem i31 (x : Int32) : ∃ n : Nat, n < 32 ∧ (x &&& 31) = nI n := by
  obtain ⟨j, hj, e⟩ := pk_andE x (m := 31) 5 (by decide)
  exact ⟨j, by omega, e⟩
theorem bt_1 (x : Int32) : (x &&& 1) = 0 ↔ bt x 0 = false := by
  constructor
  · intro h
    have q := b_and x 1 0
    rw [h, b_0] at q
    have : bt 1 0 = true := by decide
    rw [this, Bool.and_true] at q
    exact q.symm
  · intro h
    apply b_ext
    intro i hi
    rw [b_and, b_0]
    by_cases z : i = 0
    · subst z; rw [h]; rfl
    · have : ∀ i, i < 32 → i ≠ 0 → bt 1 i = false := by decide
      rw [this i hi z, Bool.and_false]
theorem sh_bit (y : Int32) (n : Nat) (hn : n < 32) : ((y >>> (nI n &&& 31)) &&& 1) = 0 ↔ ((ush y (nI n)) &&& 1) = 0 := by
  rw [bt_1, bt_1, b_sshr n hn y (by decide)]
  unfold ush
  rw [b_ushr n hn y 0, if_pos (by omega)]
theorem q_shift (th : Int32) (v : Int32) (σ : nS) : s_Mo_shift v (Pf th σ) = M2 (Pf th) (s_N_shift v σ) := by
  have G := Pf_gd th
  unfold s_Mo_shift s_N_shift
  rw [Pf_r th σ (n7' _)]
  obtain ⟨n, hn, e⟩ := i31 (v >>> ((6 : Int32) &&& 31))
  rw [e]
  generalize (σ 0 ((v >>> ((3 : Int32) &&& 31)) &&& 7).toNatClampNeg) = y
  generalize v >>> ((11 : Int32) &&& 31) = k
  have fin : ∀ (r : Int32) (ρ : nS), s_Mo_shift_98 v r (Pf th ρ) = M2 (Pf th) (s_N_shift_107 (v &&& 7) (v &&& 7) r ρ) := by
    intro r ρ
    unfold s_Mo_shift_98 s_N_shift_107 M2 ap1
    simp only []
    rw [q_test G, up2_self, ofR_row0, Pf_u0 th _ _ (n7' v)]
  have mid : ∀ (ρ : nS), s_Mo_shift_64 v (nI n) y k (Pf th ρ) = M2 (Pf th) (s_N_shift_73 (v &&& 7) y (nI n) k ρ) := by
    intro ρ
    unfold s_Mo_shift_64 s_N_shift_73
    by_cases h0 : nI n = 0
    · rw [if_pos h0, h0]
      have e1 : y <<< ((0 : Int32) &&& 31) = y := sb_shl0 y
      have e2 : y >>> ((0 : Int32) &&& 31) = y := sb_shr0 y
      have e3 : ush y 0 = y := by
        apply b_ext
        intro i hi
        have := b_ushr 0 (by decide) y i
        unfold ush
        rw [show (0 : Int32) = nI 0 from rfl, this, Nat.zero_add]
      rw [e1, e2, e3]
      by_cases c0 : k = 0
      · (try simp only [if_pos c0])
        by_cases c1 : k = 1
        · (try simp only [if_pos c1])
          exact fin _ _
        · (try simp only [if_neg c1])
          exact fin _ _
      · (try simp only [if_neg c0])
        by_cases c1 : k = 1
        · (try simp only [if_pos c1])
          exact fin _ _
        · (try simp only [if_neg c1])
          exact fin _ _
    · rw [if_neg h0]
      by_cases c0 : k = 0
      · (try simp only [if_pos c0])
        by_cases c1 : k = 1
        · (try simp only [if_pos c1])
          exact fin _ _
        · (try simp only [if_neg c1])
          exact fin _ _
      · (try simp only [if_neg c0])
        by_cases c1 : k = 1
        · (try simp only [if_pos c1])
          exact fin _ _
        · (try simp only [if_neg c1])
          exact fin _ _
  by_cases h0 : nI n = 0
  · rw [if_pos (by rw [h0]; decide), if_pos h0]
    exact mid σ
  · have hn0 : 0 < n := by
      rcases Nat.eq_zero_or_pos n with z | z
      · subst z; exact absurd nI_0 h0
      · exact z
    rw [if_neg (nI_nle hn0 (by omega)), if_neg h0]
    have mid2 : ∀ (b : Bool), s_Mo_shift_61 v (nI n) y k b (Pf th σ) = M2 (Pf th) (s_N_shift_70 (v &&& 7) y (nI n) k b σ) := by
      intro b
      unfold s_Mo_shift_61 s_N_shift_70
      rw [← G.u8 _ _ _ (by decide)]
      exact mid _
    unfold s_Mo_shift_50 s_N_shift_59
    simp only [and1]
    have e1 : nI n - 1 = nI (n - 1) := by
      have := nI_pred (n - 1)
      rw [show n - 1 + 1 = n by omega] at this
      exact this
    rw [e1]
    by_cases hk : k = 0
    · rw [if_pos hk, if_pos hk]
      by_cases q : ((ush y (32 - nI n)) &&& 1) = 0
      · rw [if_neg (fun z => z q), if_pos q]; exact mid2 false
      · rw [if_pos q, if_neg q]; exact mid2 true
    · rw [if_neg hk, if_neg hk]
      by_cases q : ((ush y (nI (n - 1))) &&& 1) = 0
      · rw [if_neg (fun z => z ((sh_bit y (n - 1) (by omega)).mpr q)), if_pos q]; exact mid2 false
      · rw [if_pos (fun z => q ((sh_bit y (n - 1) (by omega)).mp z)), if_neg q]; exact mid2 true
