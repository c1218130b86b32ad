-- run and state
theorem halt_eq (th : Int32) (σ : nS) : Rf th σ 8 11 = σ 8 11 := gd8 (Rf_gd th) σ (by decide)
theorem rn_25 (v : Int32) (c : Nat) (σ : nS) (h : Iv c σ) (hc : c + 26 < 2 ^ 31) (hv : v ≤ 25) : s_Mo_run_27_25 v (Rf 0 σ) = Ra (x_N_run_23_25 v σ) ∧ Iv (c + 0) (x_N_run_23_25 v σ).2 ∧ ox_N_run_23_25 v σ ∧ o_Mo_run_27_25 v (Rf 0 σ) := ⟨rfl, h, ⟨hv, True.intro⟩, ⟨hv, True.intro⟩⟩
theorem rn_24 (v : Int32) (c : Nat) (σ : nS) (h : Iv c σ) (hc : c + 27 < 2 ^ 31) (hv : v ≤ 25) : s_Mo_run_27_24 v (Rf 0 σ) = Ra (x_N_run_23_24 v σ) ∧ Iv (c + 1) (x_N_run_23_24 v σ).2 ∧ ox_N_run_23_24 v σ ∧ o_Mo_run_27_24 v (Rf 0 σ) := by
  unfold s_Mo_run_27_24 x_N_run_23_24 ox_N_run_23_24 o_Mo_run_27_24
  rw [halt_eq]
  by_cases a : v ≤ 24
  · rw [if_pos a, if_pos a, if_pos a, if_pos a]
    exact ⟨rfl, Iv_mono h (by omega), True.intro, True.intro⟩
  · rw [if_neg a, if_neg a, if_neg a, if_neg a]
    by_cases b : σ 8 11 = 0
    · rw [if_pos b, if_pos b, if_pos b, if_pos b]
      have s := q_step 0 c σ h (by omega)
      have z := rn_25 v (c + 1) (s_N_step σ) s.2 (by omega) hv
      rw [← s.1] at z
      exact ⟨z.1, Iv_mono z.2.1 (by omega), ⟨on_step c σ h, z.2.2.1⟩, ⟨om_step 0 c σ h (by omega), z.2.2.2⟩⟩
    · rw [if_neg b, if_neg b, if_neg b, if_neg b]
      exact ⟨rfl, Iv_mono h (by omega), True.intro, True.intro⟩
theorem rn_23 (v : Int32) (c : Nat) (σ : nS) (h : Iv c σ) (hc : c + 28 < 2 ^ 31) (hv : v ≤ 25) : s_Mo_run_27_23 v (Rf 0 σ) = Ra (x_N_run_23_23 v σ) ∧ Iv (c + 2) (x_N_run_23_23 v σ).2 ∧ ox_N_run_23_23 v σ ∧ o_Mo_run_27_23 v (Rf 0 σ) := by
  unfold s_Mo_run_27_23 x_N_run_23_23 ox_N_run_23_23 o_Mo_run_27_23
  rw [halt_eq]
  by_cases a : v ≤ 23
  · rw [if_pos a, if_pos a, if_pos a, if_pos a]
    exact ⟨rfl, Iv_mono h (by omega), True.intro, True.intro⟩
  · rw [if_neg a, if_neg a, if_neg a, if_neg a]
    by_cases b : σ 8 11 = 0
    · rw [if_pos b, if_pos b, if_pos b, if_pos b]
      have s := q_step 0 c σ h (by omega)
      have z := rn_24 v (c + 1) (s_N_step σ) s.2 (by omega) hv
      rw [← s.1] at z
      exact ⟨z.1, Iv_mono z.2.1 (by omega), ⟨on_step c σ h, z.2.2.1⟩, ⟨om_step 0 c σ h (by omega), z.2.2.2⟩⟩
    · rw [if_neg b, if_neg b, if_neg b, if_neg b]
      exact ⟨rfl, Iv_mono h (by omega), True.intro, True.intro⟩
theorem rn_22 (v : Int32) (c : Nat) (σ : nS) (h : Iv c σ) (hc : c + 29 < 2 ^ 31) (hv : v ≤ 25) : s_Mo_run_27_22 v (Rf 0 σ) = Ra (x_N_run_23_22 v σ) ∧ Iv (c + 3) (x_N_run_23_22 v σ).2 ∧ ox_N_run_23_22 v σ ∧ o_Mo_run_27_22 v (Rf 0 σ) := by
  unfold s_Mo_run_27_22 x_N_run_23_22 ox_N_run_23_22 o_Mo_run_27_22
  rw [halt_eq]
  by_cases a : v ≤ 22
  · rw [if_pos a, if_pos a, if_pos a, if_pos a]
    exact ⟨rfl, Iv_mono h (by omega), True.intro, True.intro⟩
  · rw [if_neg a, if_neg a, if_neg a, if_neg a]
    by_cases b : σ 8 11 = 0
    · rw [if_pos b, if_pos b, if_pos b, if_pos b]
      have s := q_step 0 c σ h (by omega)
      have z := rn_23 v (c + 1) (s_N_step σ) s.2 (by omega) hv
      rw [← s.1] at z
      exact ⟨z.1, Iv_mono z.2.1 (by omega), ⟨on_step c σ h, z.2.2.1⟩, ⟨om_step 0 c σ h (by omega), z.2.2.2⟩⟩
    · rw [if_neg b, if_neg b, if_neg b, if_neg b]
      exact ⟨rfl, Iv_mono h (by omega), True.intro, True.intro⟩
theorem rn_21 (v : Int32) (c : Nat) (σ : nS) (h : Iv c σ) (hc : c + 30 < 2 ^ 31) (hv : v ≤ 25) : s_Mo_run_27_21 v (Rf 0 σ) = Ra (x_N_run_23_21 v σ) ∧ Iv (c + 4) (x_N_run_23_21 v σ).2 ∧ ox_N_run_23_21 v σ ∧ o_Mo_run_27_21 v (Rf 0 σ) := by
  unfold s_Mo_run_27_21 x_N_run_23_21 ox_N_run_23_21 o_Mo_run_27_21
  rw [halt_eq]
  by_cases a : v ≤ 21
  · rw [if_pos a, if_pos a, if_pos a, if_pos a]
    exact ⟨rfl, Iv_mono h (by omega), True.intro, True.intro⟩
  · rw [if_neg a, if_neg a, if_neg a, if_neg a]
    by_cases b : σ 8 11 = 0
    · rw [if_pos b, if_pos b, if_pos b, if_pos b]
      have s := q_step 0 c σ h (by omega)
      have z := rn_22 v (c + 1) (s_N_step σ) s.2 (by omega) hv
      rw [← s.1] at z
      exact ⟨z.1, Iv_mono z.2.1 (by omega), ⟨on_step c σ h, z.2.2.1⟩, ⟨om_step 0 c σ h (by omega), z.2.2.2⟩⟩
    · rw [if_neg b, if_neg b, if_neg b, if_neg b]
      exact ⟨rfl, Iv_mono h (by omega), True.intro, True.intro⟩
theorem rn_20 (v : Int32) (c : Nat) (σ : nS) (h : Iv c σ) (hc : c + 31 < 2 ^ 31) (hv : v ≤ 25) : s_Mo_run_27_20 v (Rf 0 σ) = Ra (x_N_run_23_20 v σ) ∧ Iv (c + 5) (x_N_run_23_20 v σ).2 ∧ ox_N_run_23_20 v σ ∧ o_Mo_run_27_20 v (Rf 0 σ) := by
  unfold s_Mo_run_27_20 x_N_run_23_20 ox_N_run_23_20 o_Mo_run_27_20
  rw [halt_eq]
  by_cases a : v ≤ 20
  · rw [if_pos a, if_pos a, if_pos a, if_pos a]
    exact ⟨rfl, Iv_mono h (by omega), True.intro, True.intro⟩
  · rw [if_neg a, if_neg a, if_neg a, if_neg a]
    by_cases b : σ 8 11 = 0
    · rw [if_pos b, if_pos b, if_pos b, if_pos b]
      have s := q_step 0 c σ h (by omega)
      have z := rn_21 v (c + 1) (s_N_step σ) s.2 (by omega) hv
      rw [← s.1] at z
      exact ⟨z.1, Iv_mono z.2.1 (by omega), ⟨on_step c σ h, z.2.2.1⟩, ⟨om_step 0 c σ h (by omega), z.2.2.2⟩⟩
    · rw [if_neg b, if_neg b, if_neg b, if_neg b]
      exact ⟨rfl, Iv_mono h (by omega), True.intro, True.intro⟩
theorem rn_19 (v : Int32) (c : Nat) (σ : nS) (h : Iv c σ) (hc : c + 32 < 2 ^ 31) (hv : v ≤ 25) : s_Mo_run_27_19 v (Rf 0 σ) = Ra (x_N_run_23_19 v σ) ∧ Iv (c + 6) (x_N_run_23_19 v σ).2 ∧ ox_N_run_23_19 v σ ∧ o_Mo_run_27_19 v (Rf 0 σ) := by
  unfold s_Mo_run_27_19 x_N_run_23_19 ox_N_run_23_19 o_Mo_run_27_19
  rw [halt_eq]
  by_cases a : v ≤ 19
  · rw [if_pos a, if_pos a, if_pos a, if_pos a]
    exact ⟨rfl, Iv_mono h (by omega), True.intro, True.intro⟩
  · rw [if_neg a, if_neg a, if_neg a, if_neg a]
    by_cases b : σ 8 11 = 0
    · rw [if_pos b, if_pos b, if_pos b, if_pos b]
      have s := q_step 0 c σ h (by omega)
      have z := rn_20 v (c + 1) (s_N_step σ) s.2 (by omega) hv
      rw [← s.1] at z
      exact ⟨z.1, Iv_mono z.2.1 (by omega), ⟨on_step c σ h, z.2.2.1⟩, ⟨om_step 0 c σ h (by omega), z.2.2.2⟩⟩
    · rw [if_neg b, if_neg b, if_neg b, if_neg b]
      exact ⟨rfl, Iv_mono h (by omega), True.intro, True.intro⟩
theorem rn_18 (v : Int32) (c : Nat) (σ : nS) (h : Iv c σ) (hc : c + 33 < 2 ^ 31) (hv : v ≤ 25) : s_Mo_run_27_18 v (Rf 0 σ) = Ra (x_N_run_23_18 v σ) ∧ Iv (c + 7) (x_N_run_23_18 v σ).2 ∧ ox_N_run_23_18 v σ ∧ o_Mo_run_27_18 v (Rf 0 σ) := by
  unfold s_Mo_run_27_18 x_N_run_23_18 ox_N_run_23_18 o_Mo_run_27_18
  rw [halt_eq]
  by_cases a : v ≤ 18
  · rw [if_pos a, if_pos a, if_pos a, if_pos a]
    exact ⟨rfl, Iv_mono h (by omega), True.intro, True.intro⟩
  · rw [if_neg a, if_neg a, if_neg a, if_neg a]
    by_cases b : σ 8 11 = 0
    · rw [if_pos b, if_pos b, if_pos b, if_pos b]
      have s := q_step 0 c σ h (by omega)
      have z := rn_19 v (c + 1) (s_N_step σ) s.2 (by omega) hv
      rw [← s.1] at z
      exact ⟨z.1, Iv_mono z.2.1 (by omega), ⟨on_step c σ h, z.2.2.1⟩, ⟨om_step 0 c σ h (by omega), z.2.2.2⟩⟩
    · rw [if_neg b, if_neg b, if_neg b, if_neg b]
      exact ⟨rfl, Iv_mono h (by omega), True.intro, True.intro⟩
theorem rn_17 (v : Int32) (c : Nat) (σ : nS) (h : Iv c σ) (hc : c + 34 < 2 ^ 31) (hv : v ≤ 25) : s_Mo_run_27_17 v (Rf 0 σ) = Ra (x_N_run_23_17 v σ) ∧ Iv (c + 8) (x_N_run_23_17 v σ).2 ∧ ox_N_run_23_17 v σ ∧ o_Mo_run_27_17 v (Rf 0 σ) := by
  unfold s_Mo_run_27_17 x_N_run_23_17 ox_N_run_23_17 o_Mo_run_27_17
  rw [halt_eq]
  by_cases a : v ≤ 17
  · rw [if_pos a, if_pos a, if_pos a, if_pos a]
    exact ⟨rfl, Iv_mono h (by omega), True.intro, True.intro⟩
  · rw [if_neg a, if_neg a, if_neg a, if_neg a]
    by_cases b : σ 8 11 = 0
    · rw [if_pos b, if_pos b, if_pos b, if_pos b]
      have s := q_step 0 c σ h (by omega)
      have z := rn_18 v (c + 1) (s_N_step σ) s.2 (by omega) hv
      rw [← s.1] at z
      exact ⟨z.1, Iv_mono z.2.1 (by omega), ⟨on_step c σ h, z.2.2.1⟩, ⟨om_step 0 c σ h (by omega), z.2.2.2⟩⟩
    · rw [if_neg b, if_neg b, if_neg b, if_neg b]
      exact ⟨rfl, Iv_mono h (by omega), True.intro, True.intro⟩
theorem rn_16 (v : Int32) (c : Nat) (σ : nS) (h : Iv c σ) (hc : c + 35 < 2 ^ 31) (hv : v ≤ 25) : s_Mo_run_27_16 v (Rf 0 σ) = Ra (x_N_run_23_16 v σ) ∧ Iv (c + 9) (x_N_run_23_16 v σ).2 ∧ ox_N_run_23_16 v σ ∧ o_Mo_run_27_16 v (Rf 0 σ) := by
  unfold s_Mo_run_27_16 x_N_run_23_16 ox_N_run_23_16 o_Mo_run_27_16
  rw [halt_eq]
  by_cases a : v ≤ 16
  · rw [if_pos a, if_pos a, if_pos a, if_pos a]
    exact ⟨rfl, Iv_mono h (by omega), True.intro, True.intro⟩
  · rw [if_neg a, if_neg a, if_neg a, if_neg a]
    by_cases b : σ 8 11 = 0
    · rw [if_pos b, if_pos b, if_pos b, if_pos b]
      have s := q_step 0 c σ h (by omega)
      have z := rn_17 v (c + 1) (s_N_step σ) s.2 (by omega) hv
      rw [← s.1] at z
      exact ⟨z.1, Iv_mono z.2.1 (by omega), ⟨on_step c σ h, z.2.2.1⟩, ⟨om_step 0 c σ h (by omega), z.2.2.2⟩⟩
    · rw [if_neg b, if_neg b, if_neg b, if_neg b]
      exact ⟨rfl, Iv_mono h (by omega), True.intro, True.intro⟩
theorem rn_15 (v : Int32) (c : Nat) (σ : nS) (h : Iv c σ) (hc : c + 36 < 2 ^ 31) (hv : v ≤ 25) : s_Mo_run_27_15 v (Rf 0 σ) = Ra (x_N_run_23_15 v σ) ∧ Iv (c + 10) (x_N_run_23_15 v σ).2 ∧ ox_N_run_23_15 v σ ∧ o_Mo_run_27_15 v (Rf 0 σ) := by
  unfold s_Mo_run_27_15 x_N_run_23_15 ox_N_run_23_15 o_Mo_run_27_15
  rw [halt_eq]
  by_cases a : v ≤ 15
  · rw [if_pos a, if_pos a, if_pos a, if_pos a]
    exact ⟨rfl, Iv_mono h (by omega), True.intro, True.intro⟩
  · rw [if_neg a, if_neg a, if_neg a, if_neg a]
    by_cases b : σ 8 11 = 0
    · rw [if_pos b, if_pos b, if_pos b, if_pos b]
      have s := q_step 0 c σ h (by omega)
      have z := rn_16 v (c + 1) (s_N_step σ) s.2 (by omega) hv
      rw [← s.1] at z
      exact ⟨z.1, Iv_mono z.2.1 (by omega), ⟨on_step c σ h, z.2.2.1⟩, ⟨om_step 0 c σ h (by omega), z.2.2.2⟩⟩
    · rw [if_neg b, if_neg b, if_neg b, if_neg b]
      exact ⟨rfl, Iv_mono h (by omega), True.intro, True.intro⟩
theorem rn_14 (v : Int32) (c : Nat) (σ : nS) (h : Iv c σ) (hc : c + 37 < 2 ^ 31) (hv : v ≤ 25) : s_Mo_run_27_14 v (Rf 0 σ) = Ra (x_N_run_23_14 v σ) ∧ Iv (c + 11) (x_N_run_23_14 v σ).2 ∧ ox_N_run_23_14 v σ ∧ o_Mo_run_27_14 v (Rf 0 σ) := by
  unfold s_Mo_run_27_14 x_N_run_23_14 ox_N_run_23_14 o_Mo_run_27_14
  rw [halt_eq]
  by_cases a : v ≤ 14
  · rw [if_pos a, if_pos a, if_pos a, if_pos a]
    exact ⟨rfl, Iv_mono h (by omega), True.intro, True.intro⟩
  · rw [if_neg a, if_neg a, if_neg a, if_neg a]
    by_cases b : σ 8 11 = 0
    · rw [if_pos b, if_pos b, if_pos b, if_pos b]
      have s := q_step 0 c σ h (by omega)
      have z := rn_15 v (c + 1) (s_N_step σ) s.2 (by omega) hv
      rw [← s.1] at z
      exact ⟨z.1, Iv_mono z.2.1 (by omega), ⟨on_step c σ h, z.2.2.1⟩, ⟨om_step 0 c σ h (by omega), z.2.2.2⟩⟩
    · rw [if_neg b, if_neg b, if_neg b, if_neg b]
      exact ⟨rfl, Iv_mono h (by omega), True.intro, True.intro⟩
theorem rn_13 (v : Int32) (c : Nat) (σ : nS) (h : Iv c σ) (hc : c + 38 < 2 ^ 31) (hv : v ≤ 25) : s_Mo_run_27_13 v (Rf 0 σ) = Ra (x_N_run_23_13 v σ) ∧ Iv (c + 12) (x_N_run_23_13 v σ).2 ∧ ox_N_run_23_13 v σ ∧ o_Mo_run_27_13 v (Rf 0 σ) := by
  unfold s_Mo_run_27_13 x_N_run_23_13 ox_N_run_23_13 o_Mo_run_27_13
  rw [halt_eq]
  by_cases a : v ≤ 13
  · rw [if_pos a, if_pos a, if_pos a, if_pos a]
    exact ⟨rfl, Iv_mono h (by omega), True.intro, True.intro⟩
  · rw [if_neg a, if_neg a, if_neg a, if_neg a]
    by_cases b : σ 8 11 = 0
    · rw [if_pos b, if_pos b, if_pos b, if_pos b]
      have s := q_step 0 c σ h (by omega)
      have z := rn_14 v (c + 1) (s_N_step σ) s.2 (by omega) hv
      rw [← s.1] at z
      exact ⟨z.1, Iv_mono z.2.1 (by omega), ⟨on_step c σ h, z.2.2.1⟩, ⟨om_step 0 c σ h (by omega), z.2.2.2⟩⟩
    · rw [if_neg b, if_neg b, if_neg b, if_neg b]
      exact ⟨rfl, Iv_mono h (by omega), True.intro, True.intro⟩
theorem rn_12 (v : Int32) (c : Nat) (σ : nS) (h : Iv c σ) (hc : c + 39 < 2 ^ 31) (hv : v ≤ 25) : s_Mo_run_27_12 v (Rf 0 σ) = Ra (x_N_run_23_12 v σ) ∧ Iv (c + 13) (x_N_run_23_12 v σ).2 ∧ ox_N_run_23_12 v σ ∧ o_Mo_run_27_12 v (Rf 0 σ) := by
  unfold s_Mo_run_27_12 x_N_run_23_12 ox_N_run_23_12 o_Mo_run_27_12
  rw [halt_eq]
  by_cases a : v ≤ 12
  · rw [if_pos a, if_pos a, if_pos a, if_pos a]
    exact ⟨rfl, Iv_mono h (by omega), True.intro, True.intro⟩
  · rw [if_neg a, if_neg a, if_neg a, if_neg a]
    by_cases b : σ 8 11 = 0
    · rw [if_pos b, if_pos b, if_pos b, if_pos b]
      have s := q_step 0 c σ h (by omega)
      have z := rn_13 v (c + 1) (s_N_step σ) s.2 (by omega) hv
      rw [← s.1] at z
      exact ⟨z.1, Iv_mono z.2.1 (by omega), ⟨on_step c σ h, z.2.2.1⟩, ⟨om_step 0 c σ h (by omega), z.2.2.2⟩⟩
    · rw [if_neg b, if_neg b, if_neg b, if_neg b]
      exact ⟨rfl, Iv_mono h (by omega), True.intro, True.intro⟩
theorem rn_11 (v : Int32) (c : Nat) (σ : nS) (h : Iv c σ) (hc : c + 40 < 2 ^ 31) (hv : v ≤ 25) : s_Mo_run_27_11 v (Rf 0 σ) = Ra (x_N_run_23_11 v σ) ∧ Iv (c + 14) (x_N_run_23_11 v σ).2 ∧ ox_N_run_23_11 v σ ∧ o_Mo_run_27_11 v (Rf 0 σ) := by
  unfold s_Mo_run_27_11 x_N_run_23_11 ox_N_run_23_11 o_Mo_run_27_11
  rw [halt_eq]
  by_cases a : v ≤ 11
  · rw [if_pos a, if_pos a, if_pos a, if_pos a]
    exact ⟨rfl, Iv_mono h (by omega), True.intro, True.intro⟩
  · rw [if_neg a, if_neg a, if_neg a, if_neg a]
    by_cases b : σ 8 11 = 0
    · rw [if_pos b, if_pos b, if_pos b, if_pos b]
      have s := q_step 0 c σ h (by omega)
      have z := rn_12 v (c + 1) (s_N_step σ) s.2 (by omega) hv
      rw [← s.1] at z
      exact ⟨z.1, Iv_mono z.2.1 (by omega), ⟨on_step c σ h, z.2.2.1⟩, ⟨om_step 0 c σ h (by omega), z.2.2.2⟩⟩
    · rw [if_neg b, if_neg b, if_neg b, if_neg b]
      exact ⟨rfl, Iv_mono h (by omega), True.intro, True.intro⟩
theorem rn_10 (v : Int32) (c : Nat) (σ : nS) (h : Iv c σ) (hc : c + 41 < 2 ^ 31) (hv : v ≤ 25) : s_Mo_run_27_10 v (Rf 0 σ) = Ra (x_N_run_23_10 v σ) ∧ Iv (c + 15) (x_N_run_23_10 v σ).2 ∧ ox_N_run_23_10 v σ ∧ o_Mo_run_27_10 v (Rf 0 σ) := by
  unfold s_Mo_run_27_10 x_N_run_23_10 ox_N_run_23_10 o_Mo_run_27_10
  rw [halt_eq]
  by_cases a : v ≤ 10
  · rw [if_pos a, if_pos a, if_pos a, if_pos a]
    exact ⟨rfl, Iv_mono h (by omega), True.intro, True.intro⟩
  · rw [if_neg a, if_neg a, if_neg a, if_neg a]
    by_cases b : σ 8 11 = 0
    · rw [if_pos b, if_pos b, if_pos b, if_pos b]
      have s := q_step 0 c σ h (by omega)
      have z := rn_11 v (c + 1) (s_N_step σ) s.2 (by omega) hv
      rw [← s.1] at z
      exact ⟨z.1, Iv_mono z.2.1 (by omega), ⟨on_step c σ h, z.2.2.1⟩, ⟨om_step 0 c σ h (by omega), z.2.2.2⟩⟩
    · rw [if_neg b, if_neg b, if_neg b, if_neg b]
      exact ⟨rfl, Iv_mono h (by omega), True.intro, True.intro⟩
theorem rn_9 (v : Int32) (c : Nat) (σ : nS) (h : Iv c σ) (hc : c + 42 < 2 ^ 31) (hv : v ≤ 25) : s_Mo_run_27_9 v (Rf 0 σ) = Ra (x_N_run_23_9 v σ) ∧ Iv (c + 16) (x_N_run_23_9 v σ).2 ∧ ox_N_run_23_9 v σ ∧ o_Mo_run_27_9 v (Rf 0 σ) := by
  unfold s_Mo_run_27_9 x_N_run_23_9 ox_N_run_23_9 o_Mo_run_27_9
  rw [halt_eq]
  by_cases a : v ≤ 9
  · rw [if_pos a, if_pos a, if_pos a, if_pos a]
    exact ⟨rfl, Iv_mono h (by omega), True.intro, True.intro⟩
  · rw [if_neg a, if_neg a, if_neg a, if_neg a]
    by_cases b : σ 8 11 = 0
    · rw [if_pos b, if_pos b, if_pos b, if_pos b]
      have s := q_step 0 c σ h (by omega)
      have z := rn_10 v (c + 1) (s_N_step σ) s.2 (by omega) hv
      rw [← s.1] at z
      exact ⟨z.1, Iv_mono z.2.1 (by omega), ⟨on_step c σ h, z.2.2.1⟩, ⟨om_step 0 c σ h (by omega), z.2.2.2⟩⟩
    · rw [if_neg b, if_neg b, if_neg b, if_neg b]
      exact ⟨rfl, Iv_mono h (by omega), True.intro, True.intro⟩
theorem rn_8 (v : Int32) (c : Nat) (σ : nS) (h : Iv c σ) (hc : c + 43 < 2 ^ 31) (hv : v ≤ 25) : s_Mo_run_27_8 v (Rf 0 σ) = Ra (x_N_run_23_8 v σ) ∧ Iv (c + 17) (x_N_run_23_8 v σ).2 ∧ ox_N_run_23_8 v σ ∧ o_Mo_run_27_8 v (Rf 0 σ) := by
  unfold s_Mo_run_27_8 x_N_run_23_8 ox_N_run_23_8 o_Mo_run_27_8
  rw [halt_eq]
  by_cases a : v ≤ 8
  · rw [if_pos a, if_pos a, if_pos a, if_pos a]
    exact ⟨rfl, Iv_mono h (by omega), True.intro, True.intro⟩
  · rw [if_neg a, if_neg a, if_neg a, if_neg a]
    by_cases b : σ 8 11 = 0
    · rw [if_pos b, if_pos b, if_pos b, if_pos b]
      have s := q_step 0 c σ h (by omega)
      have z := rn_9 v (c + 1) (s_N_step σ) s.2 (by omega) hv
      rw [← s.1] at z
      exact ⟨z.1, Iv_mono z.2.1 (by omega), ⟨on_step c σ h, z.2.2.1⟩, ⟨om_step 0 c σ h (by omega), z.2.2.2⟩⟩
    · rw [if_neg b, if_neg b, if_neg b, if_neg b]
      exact ⟨rfl, Iv_mono h (by omega), True.intro, True.intro⟩
theorem rn_7 (v : Int32) (c : Nat) (σ : nS) (h : Iv c σ) (hc : c + 44 < 2 ^ 31) (hv : v ≤ 25) : s_Mo_run_27_7 v (Rf 0 σ) = Ra (x_N_run_23_7 v σ) ∧ Iv (c + 18) (x_N_run_23_7 v σ).2 ∧ ox_N_run_23_7 v σ ∧ o_Mo_run_27_7 v (Rf 0 σ) := by
  unfold s_Mo_run_27_7 x_N_run_23_7 ox_N_run_23_7 o_Mo_run_27_7
  rw [halt_eq]
  by_cases a : v ≤ 7
  · rw [if_pos a, if_pos a, if_pos a, if_pos a]
    exact ⟨rfl, Iv_mono h (by omega), True.intro, True.intro⟩
  · rw [if_neg a, if_neg a, if_neg a, if_neg a]
    by_cases b : σ 8 11 = 0
    · rw [if_pos b, if_pos b, if_pos b, if_pos b]
      have s := q_step 0 c σ h (by omega)
      have z := rn_8 v (c + 1) (s_N_step σ) s.2 (by omega) hv
      rw [← s.1] at z
      exact ⟨z.1, Iv_mono z.2.1 (by omega), ⟨on_step c σ h, z.2.2.1⟩, ⟨om_step 0 c σ h (by omega), z.2.2.2⟩⟩
    · rw [if_neg b, if_neg b, if_neg b, if_neg b]
      exact ⟨rfl, Iv_mono h (by omega), True.intro, True.intro⟩
theorem rn_6 (v : Int32) (c : Nat) (σ : nS) (h : Iv c σ) (hc : c + 45 < 2 ^ 31) (hv : v ≤ 25) : s_Mo_run_27_6 v (Rf 0 σ) = Ra (x_N_run_23_6 v σ) ∧ Iv (c + 19) (x_N_run_23_6 v σ).2 ∧ ox_N_run_23_6 v σ ∧ o_Mo_run_27_6 v (Rf 0 σ) := by
  unfold s_Mo_run_27_6 x_N_run_23_6 ox_N_run_23_6 o_Mo_run_27_6
  rw [halt_eq]
  by_cases a : v ≤ 6
  · rw [if_pos a, if_pos a, if_pos a, if_pos a]
    exact ⟨rfl, Iv_mono h (by omega), True.intro, True.intro⟩
  · rw [if_neg a, if_neg a, if_neg a, if_neg a]
    by_cases b : σ 8 11 = 0
    · rw [if_pos b, if_pos b, if_pos b, if_pos b]
      have s := q_step 0 c σ h (by omega)
      have z := rn_7 v (c + 1) (s_N_step σ) s.2 (by omega) hv
      rw [← s.1] at z
      exact ⟨z.1, Iv_mono z.2.1 (by omega), ⟨on_step c σ h, z.2.2.1⟩, ⟨om_step 0 c σ h (by omega), z.2.2.2⟩⟩
    · rw [if_neg b, if_neg b, if_neg b, if_neg b]
      exact ⟨rfl, Iv_mono h (by omega), True.intro, True.intro⟩
theorem rn_5 (v : Int32) (c : Nat) (σ : nS) (h : Iv c σ) (hc : c + 46 < 2 ^ 31) (hv : v ≤ 25) : s_Mo_run_27_5 v (Rf 0 σ) = Ra (x_N_run_23_5 v σ) ∧ Iv (c + 20) (x_N_run_23_5 v σ).2 ∧ ox_N_run_23_5 v σ ∧ o_Mo_run_27_5 v (Rf 0 σ) := by
  unfold s_Mo_run_27_5 x_N_run_23_5 ox_N_run_23_5 o_Mo_run_27_5
  rw [halt_eq]
  by_cases a : v ≤ 5
  · rw [if_pos a, if_pos a, if_pos a, if_pos a]
    exact ⟨rfl, Iv_mono h (by omega), True.intro, True.intro⟩
  · rw [if_neg a, if_neg a, if_neg a, if_neg a]
    by_cases b : σ 8 11 = 0
    · rw [if_pos b, if_pos b, if_pos b, if_pos b]
      have s := q_step 0 c σ h (by omega)
      have z := rn_6 v (c + 1) (s_N_step σ) s.2 (by omega) hv
      rw [← s.1] at z
      exact ⟨z.1, Iv_mono z.2.1 (by omega), ⟨on_step c σ h, z.2.2.1⟩, ⟨om_step 0 c σ h (by omega), z.2.2.2⟩⟩
    · rw [if_neg b, if_neg b, if_neg b, if_neg b]
      exact ⟨rfl, Iv_mono h (by omega), True.intro, True.intro⟩
theorem rn_4 (v : Int32) (c : Nat) (σ : nS) (h : Iv c σ) (hc : c + 47 < 2 ^ 31) (hv : v ≤ 25) : s_Mo_run_27_4 v (Rf 0 σ) = Ra (x_N_run_23_4 v σ) ∧ Iv (c + 21) (x_N_run_23_4 v σ).2 ∧ ox_N_run_23_4 v σ ∧ o_Mo_run_27_4 v (Rf 0 σ) := by
  unfold s_Mo_run_27_4 x_N_run_23_4 ox_N_run_23_4 o_Mo_run_27_4
  rw [halt_eq]
  by_cases a : v ≤ 4
  · rw [if_pos a, if_pos a, if_pos a, if_pos a]
    exact ⟨rfl, Iv_mono h (by omega), True.intro, True.intro⟩
  · rw [if_neg a, if_neg a, if_neg a, if_neg a]
    by_cases b : σ 8 11 = 0
    · rw [if_pos b, if_pos b, if_pos b, if_pos b]
      have s := q_step 0 c σ h (by omega)
      have z := rn_5 v (c + 1) (s_N_step σ) s.2 (by omega) hv
      rw [← s.1] at z
      exact ⟨z.1, Iv_mono z.2.1 (by omega), ⟨on_step c σ h, z.2.2.1⟩, ⟨om_step 0 c σ h (by omega), z.2.2.2⟩⟩
    · rw [if_neg b, if_neg b, if_neg b, if_neg b]
      exact ⟨rfl, Iv_mono h (by omega), True.intro, True.intro⟩
theorem rn_3 (v : Int32) (c : Nat) (σ : nS) (h : Iv c σ) (hc : c + 48 < 2 ^ 31) (hv : v ≤ 25) : s_Mo_run_27_3 v (Rf 0 σ) = Ra (x_N_run_23_3 v σ) ∧ Iv (c + 22) (x_N_run_23_3 v σ).2 ∧ ox_N_run_23_3 v σ ∧ o_Mo_run_27_3 v (Rf 0 σ) := by
  unfold s_Mo_run_27_3 x_N_run_23_3 ox_N_run_23_3 o_Mo_run_27_3
  rw [halt_eq]
  by_cases a : v ≤ 3
  · rw [if_pos a, if_pos a, if_pos a, if_pos a]
    exact ⟨rfl, Iv_mono h (by omega), True.intro, True.intro⟩
  · rw [if_neg a, if_neg a, if_neg a, if_neg a]
    by_cases b : σ 8 11 = 0
    · rw [if_pos b, if_pos b, if_pos b, if_pos b]
      have s := q_step 0 c σ h (by omega)
      have z := rn_4 v (c + 1) (s_N_step σ) s.2 (by omega) hv
      rw [← s.1] at z
      exact ⟨z.1, Iv_mono z.2.1 (by omega), ⟨on_step c σ h, z.2.2.1⟩, ⟨om_step 0 c σ h (by omega), z.2.2.2⟩⟩
    · rw [if_neg b, if_neg b, if_neg b, if_neg b]
      exact ⟨rfl, Iv_mono h (by omega), True.intro, True.intro⟩
theorem rn_2 (v : Int32) (c : Nat) (σ : nS) (h : Iv c σ) (hc : c + 49 < 2 ^ 31) (hv : v ≤ 25) : s_Mo_run_27_2 v (Rf 0 σ) = Ra (x_N_run_23_2 v σ) ∧ Iv (c + 23) (x_N_run_23_2 v σ).2 ∧ ox_N_run_23_2 v σ ∧ o_Mo_run_27_2 v (Rf 0 σ) := by
  unfold s_Mo_run_27_2 x_N_run_23_2 ox_N_run_23_2 o_Mo_run_27_2
  rw [halt_eq]
  by_cases a : v ≤ 2
  · rw [if_pos a, if_pos a, if_pos a, if_pos a]
    exact ⟨rfl, Iv_mono h (by omega), True.intro, True.intro⟩
  · rw [if_neg a, if_neg a, if_neg a, if_neg a]
    by_cases b : σ 8 11 = 0
    · rw [if_pos b, if_pos b, if_pos b, if_pos b]
      have s := q_step 0 c σ h (by omega)
      have z := rn_3 v (c + 1) (s_N_step σ) s.2 (by omega) hv
      rw [← s.1] at z
      exact ⟨z.1, Iv_mono z.2.1 (by omega), ⟨on_step c σ h, z.2.2.1⟩, ⟨om_step 0 c σ h (by omega), z.2.2.2⟩⟩
    · rw [if_neg b, if_neg b, if_neg b, if_neg b]
      exact ⟨rfl, Iv_mono h (by omega), True.intro, True.intro⟩
theorem rn_1 (v : Int32) (c : Nat) (σ : nS) (h : Iv c σ) (hc : c + 50 < 2 ^ 31) (hv : v ≤ 25) : s_Mo_run_27_1 v (Rf 0 σ) = Ra (x_N_run_23_1 v σ) ∧ Iv (c + 24) (x_N_run_23_1 v σ).2 ∧ ox_N_run_23_1 v σ ∧ o_Mo_run_27_1 v (Rf 0 σ) := by
  unfold s_Mo_run_27_1 x_N_run_23_1 ox_N_run_23_1 o_Mo_run_27_1
  rw [halt_eq]
  by_cases a : v ≤ 1
  · rw [if_pos a, if_pos a, if_pos a, if_pos a]
    exact ⟨rfl, Iv_mono h (by omega), True.intro, True.intro⟩
  · rw [if_neg a, if_neg a, if_neg a, if_neg a]
    by_cases b : σ 8 11 = 0
    · rw [if_pos b, if_pos b, if_pos b, if_pos b]
      have s := q_step 0 c σ h (by omega)
      have z := rn_2 v (c + 1) (s_N_step σ) s.2 (by omega) hv
      rw [← s.1] at z
      exact ⟨z.1, Iv_mono z.2.1 (by omega), ⟨on_step c σ h, z.2.2.1⟩, ⟨om_step 0 c σ h (by omega), z.2.2.2⟩⟩
    · rw [if_neg b, if_neg b, if_neg b, if_neg b]
      exact ⟨rfl, Iv_mono h (by omega), True.intro, True.intro⟩
theorem rn_0 (v : Int32) (c : Nat) (σ : nS) (h : Iv c σ) (hc : c + 51 < 2 ^ 31) (hv : v ≤ 25) : s_Mo_run_27_0 v (Rf 0 σ) = Ra (x_N_run_23_0 v σ) ∧ Iv (c + 25) (x_N_run_23_0 v σ).2 ∧ ox_N_run_23_0 v σ ∧ o_Mo_run_27_0 v (Rf 0 σ) := by
  unfold s_Mo_run_27_0 x_N_run_23_0 ox_N_run_23_0 o_Mo_run_27_0
  rw [halt_eq]
  by_cases a : v ≤ 0
  · rw [if_pos a, if_pos a, if_pos a, if_pos a]
    exact ⟨rfl, Iv_mono h (by omega), True.intro, True.intro⟩
  · rw [if_neg a, if_neg a, if_neg a, if_neg a]
    by_cases b : σ 8 11 = 0
    · rw [if_pos b, if_pos b, if_pos b, if_pos b]
      have s := q_step 0 c σ h (by omega)
      have z := rn_1 v (c + 1) (s_N_step σ) s.2 (by omega) hv
      rw [← s.1] at z
      exact ⟨z.1, Iv_mono z.2.1 (by omega), ⟨on_step c σ h, z.2.2.1⟩, ⟨om_step 0 c σ h (by omega), z.2.2.2⟩⟩
    · rw [if_neg b, if_neg b, if_neg b, if_neg b]
      exact ⟨rfl, Iv_mono h (by omega), True.intro, True.intro⟩
theorem q_run (th v : Int32) (c : Nat) (σ : nS) (h : Iv c σ) (hc : c + 51 < 2 ^ 31) : s_Mo_run v (Rf th σ) = Ra (x_N_run v σ) ∧ Iv (c + 25) (x_N_run v σ).2 ∧ ox_N_run v σ ∧ o_Mo_run v (Rf th σ) := by
  unfold s_Mo_run x_N_run ox_N_run o_Mo_run s_Mo_run_12 s_Mo_run_17 x_N_run_11 o_Mo_run_12 o_Mo_run_17 ox_N_run_11
  rw [fails_t, fails_f, ap2_mk, ap2_mk, ap2_mk9, ap2_mk9]
  have ff : ¬ false = true := by decide
  rw [if_neg ff, if_neg ff, if_pos rfl, if_pos rfl]
  by_cases a : v < 1
  · rw [if_pos a, if_pos a, if_pos a, if_pos a]
    exact ⟨rfl, Iv_mono h (by omega), True.intro, True.intro⟩
  · rw [if_neg a, if_neg a, if_neg a, if_neg a]
    by_cases b : v ≤ 25
    · rw [if_pos b, if_pos b, if_pos b, if_pos b]
      exact rn_0 v c σ h (by omega) b
    · rw [if_neg b, if_neg b, if_neg b, if_neg b]
      exact ⟨rfl, Iv_mono h (by omega), True.intro, True.intro⟩
theorem q_packed (σ : nS) : (if (Rf 0 σ 8 4) = 0 then (s_Mo_state_119 0 (Rf 0 σ)) else (s_Mo_state_119 8 (Rf 0 σ))) = (s_Fl_packed σ, Rf 0 σ) := by
  have G := Rf_gd 0
  unfold s_Mo_state_119 s_Mo_state_131 s_Mo_state_144 s_Mo_state_157 s_Fl_packed s_Fl_packed_13 s_Fl_packed_25 s_Fl_packed_38 s_Fl_packed_51
  rw [gd8 G σ (j := 4) (by decide), gd8 G σ (j := 5) (by decide), gd8 G σ (j := 6) (by decide), gd8 G σ (j := 7) (by decide)]
  by_cases a : σ 8 4 = 0 <;> by_cases b : σ 8 5 = 0 <;> by_cases c : σ 8 6 = 0 <;> by_cases d : σ 8 7 = 0 <;> simp only [a, b, c, d, if_true, if_false]
theorem q_pack3 (e : Int32) (σ : nS) : (if (Rf 0 σ 2 (e).toNatClampNeg) = 0 then (s_Mo_state_71 e false (Rf 0 σ)) else (s_Mo_state_71 e true (Rf 0 σ))) = (s_Ex_packed e σ, Rf 0 σ) := by
  have G := Rf_gd 0
  unfold s_Mo_state_71 s_Mo_state_85 s_Mo_state_100 s_Ex_packed s_Ex_packed_14 s_Ex_packed_28 s_Ex_packed_43
  rw [gdk G σ (k := 1) (by decide) (by decide), gdk G σ (k := 2) (by decide) (by decide), gdk G σ (k := 3) (by decide) (by decide)]
  by_cases a : σ 2 e.toNatClampNeg = 0 <;> by_cases b : σ 3 e.toNatClampNeg = 0 <;> by_cases c : σ 1 e.toNatClampNeg = 0 <;> simp only [a, b, c, if_true, if_false]
theorem st_9 {v : Int32} (h0 : ¬ v < 0) (h : v < 9) : v = 0 ∨ v = 1 ∨ v = 2 ∨ v = 3 ∨ v = 4 ∨ v = 5 ∨ v = 6 ∨ v = 7 ∨ v = 8 := by
  obtain ⟨j, hj, rfl⟩ := nI_of h0
  have := (nI_ltI (b := 9) hj (by decide)).mp h
  have cl : j = 0 ∨ j = 1 ∨ j = 2 ∨ j = 3 ∨ j = 4 ∨ j = 5 ∨ j = 6 ∨ j = 7 ∨ j = 8 := by omega
  rcases cl with rfl | rfl | rfl | rfl | rfl | rfl | rfl | rfl | rfl
  · exact Or.inl rfl
  · exact Or.inr (Or.inl rfl)
  · exact Or.inr (Or.inr (Or.inl rfl))
  · exact Or.inr (Or.inr (Or.inr (Or.inl rfl)))
  · exact Or.inr (Or.inr (Or.inr (Or.inr (Or.inl rfl))))
  · exact Or.inr (Or.inr (Or.inr (Or.inr (Or.inr (Or.inl rfl)))))
  · exact Or.inr (Or.inr (Or.inr (Or.inr (Or.inr (Or.inr (Or.inl rfl))))))
  · exact Or.inr (Or.inr (Or.inr (Or.inr (Or.inr (Or.inr (Or.inr (Or.inl rfl)))))))
  · exact Or.inr (Or.inr (Or.inr (Or.inr (Or.inr (Or.inr (Or.inr (Or.inr rfl)))))))
theorem st_no {v : Int32} (h : v < 0 ∨ ¬ v < 9) : ¬ v = 0 ∧ ¬ v = 1 ∧ ¬ v = 2 ∧ ¬ v = 3 ∧ ¬ v = 4 ∧ ¬ v = 5 ∧ ¬ v = 6 ∧ ¬ v = 7 ∧ ¬ v = 8 := by
  refine ⟨?_, ?_, ?_, ?_, ?_, ?_, ?_, ?_, ?_⟩ <;> (intro q; subst q; revert h; decide)
theorem sub16 {v : Int32} (h1 : ¬ v < 18) (h2 : v ≤ 31) : vp_in (v - 16) 16 := by
  have h0 : ¬ v < 0 := fun q => h1 (Int32.lt_of_lt_of_le q (by decide))
  obtain ⟨j, hj, rfl⟩ := nI_of h0
  have a := (nI_leI (b := 31) hj (by decide)).mp h2
  have b : 18 ≤ j := by
    rcases Nat.lt_or_ge j 18 with q | q
    · exact absurd (nI_lt (b := 18) q (by decide)) h1
    · exact q
  have e : nI j - 16 = nI (j - 16) := by
    have q : nI (j - 16) + 16 = nI j := by rw [show (16 : Int32) = nI 16 from rfl, nI_add, show j - 16 + 16 = j by omega]
    rw [← q, Int32.sub_eq_add_neg, Int32.add_assoc]
    show nI (j - 16) + 0 = _
    rw [Int32.add_zero]
  rw [e]
  exact vin16 (by omega)
theorem le31 {v : Int32} : (32 : Int32) ≤ v ↔ ¬ v ≤ 31 := by
  rw [Int32.le_iff_toInt_le, Int32.le_iff_toInt_le, show (32 : Int32).toInt = 32 from rfl, show (31 : Int32).toInt = 31 from rfl]
  omega
theorem q_state (th v : Int32) (σ : nS) (hf : 0 ≤ σ 8 1) : s_Mo_state v (Rf th σ) = Ra (x_N_state v σ) := by
  have G := Rf_gd 0
  have ff : ¬ false = true := by decide
  unfold s_Mo_state s_Mo_state_10 s_Mo_state_22 s_Mo_state_26 s_Mo_state_27 s_Mo_state_38
  rw [fails_t, fails_f, ap2_mk, ap2_mk, if_pos rfl, if_neg ff, if_pos rfl, if_neg ff, q_packed, q_pack3, level_eq (G.1 σ) hf, due_eq (G.1 σ) hf, gd8 G σ (j := 9) (by decide), gd8 G σ (j := 10) (by decide), gd8 G σ (j := 11) (by decide), gd8 G σ (j := 12) (by decide), gd8 G σ (j := 13) (by decide), gd8 G σ (j := 14) (by decide)]
  unfold x_N_state x_N_state_121
  have far : (v < 0 ∨ ¬ v < 9) → (if v < 18 then ((0 : Int32), Rf 1 σ) else if 32 ≤ v then (0, Rf 1 σ) else (if v ≤ 17 then (if v = 0 then (s_Fl_packed σ, Rf 0 σ) else if v = 1 then (σ 8 10, Rf 0 σ) else if v = 2 then (s_Ex_level σ, Rf 0 σ) else if v = 3 then (s_Ex_due σ, Rf 0 σ) else if v = 4 then (σ 8 12, Rf 0 σ) else if v = 5 then (σ 8 13, Rf 0 σ) else if v = 6 then (σ 8 11, Rf 0 σ) else if v = 7 then (σ 8 14, Rf 0 σ) else (σ 8 9, Rf 0 σ)) else (s_Ex_packed (v - 16) σ, Rf 0 σ))) = Ra (if v = 0 then (some (s_Fl_packed σ), σ) else if v = 1 then (some (σ 8 10), σ) else if v = 2 then (some (s_Ex_level σ), σ) else if v = 3 then (some (s_Ex_due σ), σ) else if v = 4 then (some (σ 8 12), σ) else if v = 5 then (some (σ 8 13), σ) else if v = 6 then (some (σ 8 11), σ) else if v = 7 then (some (σ 8 14), σ) else if v = 8 then (some (σ 8 9), σ) else if v < 18 then (none, σ) else if v ≤ 31 then (some (s_Ex_packed (v - 16) σ), σ) else (none, σ)) := by
    intro h
    obtain ⟨n0, n1, n2, n3, n4, n5, n6, n7, n8⟩ := st_no h
    rw [if_neg n0, if_neg n0, if_neg n1, if_neg n1, if_neg n2, if_neg n2, if_neg n3, if_neg n3, if_neg n4, if_neg n4, if_neg n5, if_neg n5, if_neg n6, if_neg n6, if_neg n7, if_neg n7, if_neg n8]
    by_cases a : v < 18
    · rw [if_pos a, if_pos a]; rfl
    · rw [if_neg a, if_neg a]
      by_cases b : v ≤ 31
      · have c : ¬ v ≤ 17 := fun q => absurd (Int32.lt_of_le_of_lt q (by decide)) a
        rw [if_pos b, if_neg (fun q => le31.mp q b), if_neg c]; rfl
      · rw [if_neg b, if_pos (le31.mpr b)]; rfl
  by_cases a : v < 0
  · rw [if_pos a]; exact far (Or.inl a)
  · rw [if_neg a]
    by_cases b : v < 9
    · rw [if_pos b]
      rcases st_9 a b with rfl | rfl | rfl | rfl | rfl | rfl | rfl | rfl | rfl <;> (simp (decide := true) only [↓reduceIte]; rfl)
    · rw [if_neg b]; exact far (Or.inr b)
theorem o_state (th v : Int32) (σ : nS) : o_Mo_state v (Rf th σ) := by
  have z119 : ∀ (x : Int32) (τ : nS), o_Mo_state_119 x τ := fun x τ => O_ite (fun _ => O_ite (fun _ => O_ite (fun _ => True.intro) (fun _ => True.intro)) (fun _ => O_ite (fun _ => True.intro) (fun _ => True.intro))) (fun _ => O_ite (fun _ => O_ite (fun _ => True.intro) (fun _ => True.intro)) (fun _ => O_ite (fun _ => True.intro) (fun _ => True.intro)))
  have z26 : o_Mo_state_26 v (Rf th σ) := by
    unfold o_Mo_state_26 o_Mo_state_27 o_Mo_state_38
    rw [fails_t, fails_f, ap2_mk9, ap2_mk9]
    exact O_ite (fun q => absurd q (by decide)) (fun _ => O_ite (fun _ => trivial) (fun q => absurd rfl q))
  have z22 : (v ≤ 17 ∨ vp_in (v - 16) 16) → o_Mo_state_22 v (Rf th σ) := by
    intro hv
    unfold o_Mo_state_22 o_Mo_state_27 o_Mo_state_38
    rw [fails_t, fails_f, ap2_mk9, ap2_mk9]
    refine O_ite (fun _ => O_ite (fun q => absurd q (by decide)) (fun _ => ?_)) (fun q => absurd rfl q)
    refine O_ite (fun _ => O_ite (fun _ => O_ite (fun _ => z119 _ _) (fun _ => z119 _ _)) (fun _ => O_ite (fun _ => trivial) (fun _ => O_ite (fun _ => trivial) (fun _ => O_ite (fun _ => trivial) (fun _ => O_ite (fun _ => trivial) (fun _ => O_ite (fun _ => trivial) (fun _ => O_ite (fun _ => trivial) (fun _ => O_ite (fun _ => trivial) (fun _ => trivial))))))))) (fun q => ?_)
    have i : vp_in (v - 16) 16 := hv.elim (fun w => absurd w q) (fun w => w)
    have z85 : ∀ (b : Bool) (x : Int32), o_Mo_state_85 (v - 16) b x (Rf 0 σ) := fun b x => ⟨i, O_ite (fun _ => True.intro) (fun _ => True.intro)⟩
    have z71 : ∀ b : Bool, o_Mo_state_71 (v - 16) b (Rf 0 σ) := fun b => ⟨i, O_ite (fun _ => z85 _ _) (fun _ => z85 _ _)⟩
    exact ⟨i, O_ite (fun _ => z71 _) (fun _ => z71 _)⟩
  have z10 : o_Mo_state_10 v (Rf th σ) := O_ite (fun _ => z26) (fun a => O_ite (fun _ => z26) (fun b => z22 (Or.inr (sub16 a (Classical.byContradiction fun w => b (le31.mpr w))))))
  refine O_ite (fun _ => z10) (fun a => O_ite (fun b => z22 (Or.inl ?_)) (fun _ => z10))
  rcases st_9 a b with rfl | rfl | rfl | rfl | rfl | rfl | rfl | rfl | rfl <;> decide
theorem ox_state (v : Int32) (σ : nS) : ox_N_state v σ := by
  unfold ox_N_state
  refine O_ite (fun _ => trivial) (fun _ => O_ite (fun _ => trivial) (fun _ => O_ite (fun _ => trivial) (fun _ => O_ite (fun _ => trivial) (fun _ => O_ite (fun _ => trivial) (fun _ => O_ite (fun _ => trivial) (fun _ => O_ite (fun _ => trivial) (fun _ => O_ite (fun _ => trivial) (fun _ => O_ite (fun _ => trivial) (fun _ => O_ite (fun _ => True.intro) (fun a => O_ite (fun b => ⟨sub16 a b, trivial⟩) (fun _ => True.intro)))))))))))
theorem I_state {c : Nat} (v : Int32) (σ : nS) (h : Iv c σ) : Iv c (x_N_state v σ).2 := by
  have k : ∀ x : Option Int32, Io c (x, σ) := fun _ => h
  exact (Io_ite (k _) (Io_ite (k _) (Io_ite (k _) (Io_ite (k _) (Io_ite (k _) (Io_ite (k _) (Io_ite (k _) (Io_ite (k _) (Io_ite (k _) (Io_ite (k _) (Io_ite (k _) (k _))))))))))) : Io c (x_N_state v σ))
