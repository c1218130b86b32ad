-- loading registers from the stack
/-- bits 8-m to 7 of the list, loaded from a on -/
def ldr (l : Int32) : Nat → Int32 → nS → nS
  | 0, _, σ => σ
  | m + 1, a, σ => if ((l >>> (nI (7 - m) &&& 31)) &&& 1) = 0 then ldr l m a σ else ldr l m (a + 4) (up2 σ 0 (7 - m) (s_Me_load a σ))
def dq (l : Int32) : Nat → Nat
  | 0 => 0
  | m + 1 => bq l (7 - m) + dq l m
theorem cq_dq (l : Int32) : ∀ m, m ≤ 8 → cq l (m + 1) = dq l m + bq l 8
  | 0, _ => by show bq l 8 + 0 = 0 + bq l 8; omega
  | m + 1, h => by
    have := cq_dq l m (by omega)
    show bq l (8 - (m + 1)) + cq l (m + 1) = bq l (7 - m) + dq l m + bq l 8
    rw [this, show 8 - (m + 1) = 7 - m by omega]
    omega
theorem ldr_9 (l : Int32) : ∀ m a σ k, k ≠ 0 → ldr l m a σ k = σ k
  | 0, _, _, _, _ => rfl
  | m + 1, a, σ, k, hk => by
    show (if ((l >>> (nI (7 - m) &&& 31)) &&& 1) = 0 then ldr l m a σ else ldr l m (a + 4) (up2 σ 0 (7 - m) (s_Me_load a σ))) k = σ k
    by_cases h : ((l >>> (nI (7 - m) &&& 31)) &&& 1) = 0
    · rw [if_pos h]; exact ldr_9 l m a σ k hk
    · rw [if_neg h, ldr_9 l m _ _ k hk, up2_row _ _ _ hk]
theorem ldr_load (l : Int32) (m : Nat) (a : Int32) (σ : nS) (x : Int32) : s_Me_load x (ldr l m a σ) = s_Me_load x σ := by
  unfold s_Me_load
  rw [ldr_9 l m a σ 9 (by decide)]
theorem ldr_comm (l : Int32) (f : nS → nS) (h9 : ∀ σ, f σ 9 = σ 9) : ∀ m, m ≤ 8 → (∀ σ j v, 8 - m ≤ j → j < 8 → f (up2 σ 0 j v) = up2 (f σ) 0 j v) → ∀ a σ, f (ldr l m a σ) = ldr l m a (f σ)
  | 0, _, _, _, _ => rfl
  | m + 1, hm, hf, a, σ => by
    have ih := ldr_comm l f h9 m (by omega) (fun σ j v h1 h2 => hf σ j v (by omega) h2)
    show f (if ((l >>> (nI (7 - m) &&& 31)) &&& 1) = 0 then ldr l m a σ else ldr l m (a + 4) (up2 σ 0 (7 - m) (s_Me_load a σ))) = (if ((l >>> (nI (7 - m) &&& 31)) &&& 1) = 0 then ldr l m a (f σ) else ldr l m (a + 4) (up2 (f σ) 0 (7 - m) (s_Me_load a (f σ))))
    by_cases h : ((l >>> (nI (7 - m) &&& 31)) &&& 1) = 0
    · rw [if_pos h, if_pos h]; exact ih a σ
    · rw [if_neg h, if_neg h, ih, hf σ _ _ (by omega) (by omega)]
      have : s_Me_load a (f σ) = s_Me_load a σ := by
        unfold s_Me_load
        rw [h9]
      rw [this]
theorem ldr_same (l : Int32) {β : Type} (g : nS → β) : ∀ m, m ≤ 8 → (∀ σ j v, 8 - m ≤ j → j < 8 → g (up2 σ 0 j v) = g σ) → ∀ a σ, g (ldr l m a σ) = g σ
  | 0, _, _, _, _ => rfl
  | m + 1, hm, hf, a, σ => by
    have ih := ldr_same l g m (by omega) (fun σ j v h1 h2 => hf σ j v (by omega) h2)
    show g (if ((l >>> (nI (7 - m) &&& 31)) &&& 1) = 0 then ldr l m a σ else ldr l m (a + 4) (up2 σ 0 (7 - m) (s_Me_load a σ))) = g σ
    by_cases h : ((l >>> (nI (7 - m) &&& 31)) &&& 1) = 0
    · rw [if_pos h]; exact ih a σ
    · rw [if_neg h, ih, hf σ _ _ (by omega) (by omega)]
theorem at4 (a : Int32) (c : Nat) : a + 4 + nI (4 * c) = a + nI (4 * (1 + c)) := by
  rw [show 4 * (1 + c) = 4 + 4 * c by omega, ← nI_add, ← Int32.add_assoc]
  rfl
theorem at0 (a : Int32) : a + nI (4 * 0) = a := by
  show a + 0 = a
  exact Int32.add_zero a
theorem np_7 (l a : Int32) (σ : nS) : s_N_pop_40_7 l a σ = s_N_pop_40_8 l (a + nI (4 * dq l 1)) (ldr l 1 a σ) := by
  have e : dq l 1 = bq l 7 + dq l 0 := rfl
  have r : ldr l 1 a σ = if ((l >>> ((7 : Int32) &&& 31)) &&& 1) = 0 then ldr l 0 a σ else ldr l 0 (a + 4) (up2 σ 0 7 (s_Me_load a σ)) := rfl
  unfold s_N_pop_40_7 s_N_pop_86_7 s_N_pop_74_7 s_N_pop_86_7
  rw [r, e]
  by_cases h : ((l >>> ((7 : Int32) &&& 31)) &&& 1) = 0
  · have b : bq l 7 = 0 := if_pos h
    rw [if_pos h, if_pos h, b, Nat.zero_add]
    show _ = s_N_pop_40_8 l (a + nI (4 * 0)) σ; rw [at0]
  · have b : bq l 7 = 1 := if_neg h
    rw [if_neg h, if_neg h, b, ← at4]
    show _ = s_N_pop_40_8 l (a + 4 + nI (4 * 0)) _; rw [at0]; rfl
theorem np_6 (l a : Int32) (σ : nS) : s_N_pop_40_6 l a σ = s_N_pop_40_8 l (a + nI (4 * dq l 2)) (ldr l 2 a σ) := by
  have e : dq l 2 = bq l 6 + dq l 1 := rfl
  have r : ldr l 2 a σ = if ((l >>> ((6 : Int32) &&& 31)) &&& 1) = 0 then ldr l 1 a σ else ldr l 1 (a + 4) (up2 σ 0 6 (s_Me_load a σ)) := rfl
  unfold s_N_pop_40_6 s_N_pop_86_6 s_N_pop_74_6 s_N_pop_86_6
  rw [r, e]
  by_cases h : ((l >>> ((6 : Int32) &&& 31)) &&& 1) = 0
  · have b : bq l 6 = 0 := if_pos h
    rw [if_pos h, if_pos h, b, Nat.zero_add]
    exact np_7 l a σ
  · have b : bq l 6 = 1 := if_neg h
    rw [if_neg h, if_neg h, b, ← at4]
    exact np_7 l (a + 4) _
theorem np_5 (l a : Int32) (σ : nS) : s_N_pop_40_5 l a σ = s_N_pop_40_8 l (a + nI (4 * dq l 3)) (ldr l 3 a σ) := by
  have e : dq l 3 = bq l 5 + dq l 2 := rfl
  have r : ldr l 3 a σ = if ((l >>> ((5 : Int32) &&& 31)) &&& 1) = 0 then ldr l 2 a σ else ldr l 2 (a + 4) (up2 σ 0 5 (s_Me_load a σ)) := rfl
  unfold s_N_pop_40_5 s_N_pop_86_5 s_N_pop_74_5 s_N_pop_86_5
  rw [r, e]
  by_cases h : ((l >>> ((5 : Int32) &&& 31)) &&& 1) = 0
  · have b : bq l 5 = 0 := if_pos h
    rw [if_pos h, if_pos h, b, Nat.zero_add]
    exact np_6 l a σ
  · have b : bq l 5 = 1 := if_neg h
    rw [if_neg h, if_neg h, b, ← at4]
    exact np_6 l (a + 4) _
theorem np_4 (l a : Int32) (σ : nS) : s_N_pop_40_4 l a σ = s_N_pop_40_8 l (a + nI (4 * dq l 4)) (ldr l 4 a σ) := by
  have e : dq l 4 = bq l 4 + dq l 3 := rfl
  have r : ldr l 4 a σ = if ((l >>> ((4 : Int32) &&& 31)) &&& 1) = 0 then ldr l 3 a σ else ldr l 3 (a + 4) (up2 σ 0 4 (s_Me_load a σ)) := rfl
  unfold s_N_pop_40_4 s_N_pop_86_4 s_N_pop_74_4 s_N_pop_86_4
  rw [r, e]
  by_cases h : ((l >>> ((4 : Int32) &&& 31)) &&& 1) = 0
  · have b : bq l 4 = 0 := if_pos h
    rw [if_pos h, if_pos h, b, Nat.zero_add]
    exact np_5 l a σ
  · have b : bq l 4 = 1 := if_neg h
    rw [if_neg h, if_neg h, b, ← at4]
    exact np_5 l (a + 4) _
theorem np_3 (l a : Int32) (σ : nS) : s_N_pop_40_3 l a σ = s_N_pop_40_8 l (a + nI (4 * dq l 5)) (ldr l 5 a σ) := by
  have e : dq l 5 = bq l 3 + dq l 4 := rfl
  have r : ldr l 5 a σ = if ((l >>> ((3 : Int32) &&& 31)) &&& 1) = 0 then ldr l 4 a σ else ldr l 4 (a + 4) (up2 σ 0 3 (s_Me_load a σ)) := rfl
  unfold s_N_pop_40_3 s_N_pop_86_3 s_N_pop_74_3 s_N_pop_86_3
  rw [r, e]
  by_cases h : ((l >>> ((3 : Int32) &&& 31)) &&& 1) = 0
  · have b : bq l 3 = 0 := if_pos h
    rw [if_pos h, if_pos h, b, Nat.zero_add]
    exact np_4 l a σ
  · have b : bq l 3 = 1 := if_neg h
    rw [if_neg h, if_neg h, b, ← at4]
    exact np_4 l (a + 4) _
theorem np_2 (l a : Int32) (σ : nS) : s_N_pop_40_2 l a σ = s_N_pop_40_8 l (a + nI (4 * dq l 6)) (ldr l 6 a σ) := by
  have e : dq l 6 = bq l 2 + dq l 5 := rfl
  have r : ldr l 6 a σ = if ((l >>> ((2 : Int32) &&& 31)) &&& 1) = 0 then ldr l 5 a σ else ldr l 5 (a + 4) (up2 σ 0 2 (s_Me_load a σ)) := rfl
  unfold s_N_pop_40_2 s_N_pop_86_2 s_N_pop_74_2 s_N_pop_86_2
  rw [r, e]
  by_cases h : ((l >>> ((2 : Int32) &&& 31)) &&& 1) = 0
  · have b : bq l 2 = 0 := if_pos h
    rw [if_pos h, if_pos h, b, Nat.zero_add]
    exact np_3 l a σ
  · have b : bq l 2 = 1 := if_neg h
    rw [if_neg h, if_neg h, b, ← at4]
    exact np_3 l (a + 4) _
theorem np_1 (l a : Int32) (σ : nS) : s_N_pop_40_1 l a σ = s_N_pop_40_8 l (a + nI (4 * dq l 7)) (ldr l 7 a σ) := by
  have e : dq l 7 = bq l 1 + dq l 6 := rfl
  have r : ldr l 7 a σ = if ((l >>> ((1 : Int32) &&& 31)) &&& 1) = 0 then ldr l 6 a σ else ldr l 6 (a + 4) (up2 σ 0 1 (s_Me_load a σ)) := rfl
  unfold s_N_pop_40_1 s_N_pop_86_1 s_N_pop_74_1 s_N_pop_86_1
  rw [r, e]
  by_cases h : ((l >>> ((1 : Int32) &&& 31)) &&& 1) = 0
  · have b : bq l 1 = 0 := if_pos h
    rw [if_pos h, if_pos h, b, Nat.zero_add]
    exact np_2 l a σ
  · have b : bq l 1 = 1 := if_neg h
    rw [if_neg h, if_neg h, b, ← at4]
    exact np_2 l (a + 4) _
theorem np_0 (l a : Int32) (σ : nS) : s_N_pop_40_0 l a σ = s_N_pop_40_8 l (a + nI (4 * dq l 8)) (ldr l 8 a σ) := by
  have e : dq l 8 = bq l 0 + dq l 7 := rfl
  have r : ldr l 8 a σ = if ((l >>> ((0 : Int32) &&& 31)) &&& 1) = 0 then ldr l 7 a σ else ldr l 7 (a + 4) (up2 σ 0 0 (s_Me_load a σ)) := rfl
  unfold s_N_pop_40_0 s_N_pop_86_0 s_N_pop_74_0 s_N_pop_86_0
  rw [r, e]
  by_cases h : ((l >>> ((0 : Int32) &&& 31)) &&& 1) = 0
  · have b : bq l 0 = 0 := if_pos h
    rw [if_pos h, if_pos h, b, Nat.zero_add]
    exact np_1 l a σ
  · have b : bq l 0 = 1 := if_neg h
    rw [if_neg h, if_neg h, b, ← at4]
    exact np_1 l (a + 4) _
def G0 (M : nS → nS) : Prop := ∀ σ j v, j ≠ 15 → M (up2 σ 0 j v) = up2 (M σ) 0 j v
theorem Pf_g0 (th : Int32) : G0 (Pf th) := fun σ _ v h => Pf_u0 th σ v h
theorem Rf_g0 (th : Int32) : G0 (Rf th) := fun σ j v _ => Rf_upk th σ 0 j v (by decide) (by decide)
section LDR
variable {M : nS → nS}
theorem mp_7 (G : Gd M) (H : G0 M) (l a v5 v6 v8 : Int32) (σ : nS) (v7 : Bool) (W : ∀ j, j < cq l 2 → wok (a + nI (4 * j))) : s_Mo_pop_122_7 l a v5 v6 v7 v8 (M σ) = s_Mo_pop_122_8 l a v5 v6 v7 v8 (M (ldr l 1 a σ)) := by
  have r : ldr l 1 a σ = if ((l >>> ((7 : Int32) &&& 31)) &&& 1) = 0 then ldr l 0 a σ else ldr l 0 (a + 4) (up2 σ 0 7 (s_Me_load a σ)) := rfl
  have e : cq l 2 = bq l 7 + cq l 1 := rfl
  unfold s_Mo_pop_122_7 s_Mo_pop_174_7 s_Mo_pop_159_7 s_Mo_pop_171_7 s_Mo_pop_174_7
  rw [r]
  by_cases h : ((l >>> ((7 : Int32) &&& 31)) &&& 1) = 0
  · have b : bq l 7 = 0 := if_pos h
    rw [if_neg (fun q => (and1 _).mp q h), if_pos h]
    exact rfl
  · have b : bq l 7 = 1 := if_neg h
    have w : wok a := wok0 (W 0 (by omega))
    rw [if_pos ((and1 _).mpr h), if_neg h, q_load G w, ← H σ 7 _ (by decide)]
    rw [ite_self]
    exact rfl
theorem mp_6 (G : Gd M) (H : G0 M) (l a v5 v6 v8 : Int32) (σ : nS) (v7 : Bool) (W : ∀ j, j < cq l 3 → wok (a + nI (4 * j))) : s_Mo_pop_122_6 l a v5 v6 v7 v8 (M σ) = s_Mo_pop_122_8 l a v5 v6 v7 v8 (M (ldr l 2 a σ)) := by
  have r : ldr l 2 a σ = if ((l >>> ((6 : Int32) &&& 31)) &&& 1) = 0 then ldr l 1 a σ else ldr l 1 (a + 4) (up2 σ 0 6 (s_Me_load a σ)) := rfl
  have e : cq l 3 = bq l 6 + cq l 2 := rfl
  unfold s_Mo_pop_122_6 s_Mo_pop_174_6 s_Mo_pop_159_6 s_Mo_pop_171_6 s_Mo_pop_174_6
  rw [r]
  by_cases h : ((l >>> ((6 : Int32) &&& 31)) &&& 1) = 0
  · have b : bq l 6 = 0 := if_pos h
    rw [if_neg (fun q => (and1 _).mp q h), if_pos h]
    exact mp_7 G H l a v5 v6 v8 σ v7 (fun j hj => W j (by omega))
  · have b : bq l 6 = 1 := if_neg h
    have w : wok a := wok0 (W 0 (by omega))
    rw [if_pos ((and1 _).mpr h), if_neg h, q_load G w, ← H σ 6 _ (by decide)]
    rw [ite_self]
    exact mp_7 G H l (a + 4) v5 v6 v8 _ v7 (w_next (fun j hj => W j (by omega)))
theorem mp_5 (G : Gd M) (H : G0 M) (l a v5 v6 v8 : Int32) (σ : nS) (v7 : Bool) (W : ∀ j, j < cq l 4 → wok (a + nI (4 * j))) : s_Mo_pop_122_5 l a v5 v6 v7 v8 (M σ) = s_Mo_pop_122_8 l a v5 v6 v7 v8 (M (ldr l 3 a σ)) := by
  have r : ldr l 3 a σ = if ((l >>> ((5 : Int32) &&& 31)) &&& 1) = 0 then ldr l 2 a σ else ldr l 2 (a + 4) (up2 σ 0 5 (s_Me_load a σ)) := rfl
  have e : cq l 4 = bq l 5 + cq l 3 := rfl
  unfold s_Mo_pop_122_5 s_Mo_pop_174_5 s_Mo_pop_159_5 s_Mo_pop_171_5 s_Mo_pop_174_5
  rw [r]
  by_cases h : ((l >>> ((5 : Int32) &&& 31)) &&& 1) = 0
  · have b : bq l 5 = 0 := if_pos h
    rw [if_neg (fun q => (and1 _).mp q h), if_pos h]
    exact mp_6 G H l a v5 v6 v8 σ v7 (fun j hj => W j (by omega))
  · have b : bq l 5 = 1 := if_neg h
    have w : wok a := wok0 (W 0 (by omega))
    rw [if_pos ((and1 _).mpr h), if_neg h, q_load G w, ← H σ 5 _ (by decide)]
    rw [ite_self]
    exact mp_6 G H l (a + 4) v5 v6 v8 _ v7 (w_next (fun j hj => W j (by omega)))
theorem mp_4 (G : Gd M) (H : G0 M) (l a v5 v6 v8 : Int32) (σ : nS) (v7 : Bool) (W : ∀ j, j < cq l 5 → wok (a + nI (4 * j))) : s_Mo_pop_122_4 l a v5 v6 v7 v8 (M σ) = s_Mo_pop_122_8 l a v5 v6 v7 v8 (M (ldr l 4 a σ)) := by
  have r : ldr l 4 a σ = if ((l >>> ((4 : Int32) &&& 31)) &&& 1) = 0 then ldr l 3 a σ else ldr l 3 (a + 4) (up2 σ 0 4 (s_Me_load a σ)) := rfl
  have e : cq l 5 = bq l 4 + cq l 4 := rfl
  unfold s_Mo_pop_122_4 s_Mo_pop_174_4 s_Mo_pop_159_4 s_Mo_pop_171_4 s_Mo_pop_174_4
  rw [r]
  by_cases h : ((l >>> ((4 : Int32) &&& 31)) &&& 1) = 0
  · have b : bq l 4 = 0 := if_pos h
    rw [if_neg (fun q => (and1 _).mp q h), if_pos h]
    exact mp_5 G H l a v5 v6 v8 σ v7 (fun j hj => W j (by omega))
  · have b : bq l 4 = 1 := if_neg h
    have w : wok a := wok0 (W 0 (by omega))
    rw [if_pos ((and1 _).mpr h), if_neg h, q_load G w, ← H σ 4 _ (by decide)]
    rw [ite_self]
    exact mp_5 G H l (a + 4) v5 v6 v8 _ v7 (w_next (fun j hj => W j (by omega)))
theorem mp_3 (G : Gd M) (H : G0 M) (l a v5 v6 v8 : Int32) (σ : nS) (W : ∀ j, j < cq l 6 → wok (a + nI (4 * j))) : s_Mo_pop_122_3 l a v5 v6 false v8 (M σ) = s_Mo_pop_122_8 l a v5 v6 false v8 (M (ldr l 5 a σ)) := by
  have r : ldr l 5 a σ = if ((l >>> ((3 : Int32) &&& 31)) &&& 1) = 0 then ldr l 4 a σ else ldr l 4 (a + 4) (up2 σ 0 3 (s_Me_load a σ)) := rfl
  have e : cq l 6 = bq l 3 + cq l 5 := rfl
  unfold s_Mo_pop_122_3 s_Mo_pop_174_3 s_Mo_pop_159_3 s_Mo_pop_171_3 s_Mo_pop_174_3
  rw [r]
  by_cases h : ((l >>> ((3 : Int32) &&& 31)) &&& 1) = 0
  · have b : bq l 3 = 0 := if_pos h
    rw [if_neg (fun q => (and1 _).mp q h), if_pos h]
    exact mp_4 G H l a v5 v6 v8 σ false (fun j hj => W j (by omega))
  · have b : bq l 3 = 1 := if_neg h
    have w : wok a := wok0 (W 0 (by omega))
    rw [if_pos ((and1 _).mpr h), if_neg h, q_load G w, ← H σ 3 _ (by decide)]
    rw [if_neg (by decide)]
    exact mp_4 G H l (a + 4) v5 v6 v8 _ false (w_next (fun j hj => W j (by omega)))
theorem mp_2 (G : Gd M) (H : G0 M) (l a v5 v6 v8 : Int32) (σ : nS) (W : ∀ j, j < cq l 7 → wok (a + nI (4 * j))) : s_Mo_pop_122_2 l a v5 v6 false v8 (M σ) = s_Mo_pop_122_8 l a v5 v6 false v8 (M (ldr l 6 a σ)) := by
  have r : ldr l 6 a σ = if ((l >>> ((2 : Int32) &&& 31)) &&& 1) = 0 then ldr l 5 a σ else ldr l 5 (a + 4) (up2 σ 0 2 (s_Me_load a σ)) := rfl
  have e : cq l 7 = bq l 2 + cq l 6 := rfl
  unfold s_Mo_pop_122_2 s_Mo_pop_174_2 s_Mo_pop_159_2 s_Mo_pop_171_2 s_Mo_pop_174_2
  rw [r]
  by_cases h : ((l >>> ((2 : Int32) &&& 31)) &&& 1) = 0
  · have b : bq l 2 = 0 := if_pos h
    rw [if_neg (fun q => (and1 _).mp q h), if_pos h]
    exact mp_3 G H l a v5 v6 v8 σ  (fun j hj => W j (by omega))
  · have b : bq l 2 = 1 := if_neg h
    have w : wok a := wok0 (W 0 (by omega))
    rw [if_pos ((and1 _).mpr h), if_neg h, q_load G w, ← H σ 2 _ (by decide)]
    rw [if_neg (by decide)]
    exact mp_3 G H l (a + 4) v5 v6 v8 _  (w_next (fun j hj => W j (by omega)))
theorem mp_1 (G : Gd M) (H : G0 M) (l a v5 v6 v8 : Int32) (σ : nS) (W : ∀ j, j < cq l 8 → wok (a + nI (4 * j))) : s_Mo_pop_122_1 l a v5 v6 false v8 (M σ) = s_Mo_pop_122_8 l a v5 v6 false v8 (M (ldr l 7 a σ)) := by
  have r : ldr l 7 a σ = if ((l >>> ((1 : Int32) &&& 31)) &&& 1) = 0 then ldr l 6 a σ else ldr l 6 (a + 4) (up2 σ 0 1 (s_Me_load a σ)) := rfl
  have e : cq l 8 = bq l 1 + cq l 7 := rfl
  unfold s_Mo_pop_122_1 s_Mo_pop_174_1 s_Mo_pop_159_1 s_Mo_pop_171_1 s_Mo_pop_174_1
  rw [r]
  by_cases h : ((l >>> ((1 : Int32) &&& 31)) &&& 1) = 0
  · have b : bq l 1 = 0 := if_pos h
    rw [if_neg (fun q => (and1 _).mp q h), if_pos h]
    exact mp_2 G H l a v5 v6 v8 σ  (fun j hj => W j (by omega))
  · have b : bq l 1 = 1 := if_neg h
    have w : wok a := wok0 (W 0 (by omega))
    rw [if_pos ((and1 _).mpr h), if_neg h, q_load G w, ← H σ 1 _ (by decide)]
    rw [if_neg (by decide)]
    exact mp_2 G H l (a + 4) v5 v6 v8 _  (w_next (fun j hj => W j (by omega)))
theorem mp_0 (G : Gd M) (H : G0 M) (l a v5 v6 v8 : Int32) (σ : nS) (W : ∀ j, j < cq l 9 → wok (a + nI (4 * j))) : s_Mo_pop_122_0 l a v5 v6 false v8 (M σ) = s_Mo_pop_122_8 l a v5 v6 false v8 (M (ldr l 8 a σ)) := by
  have r : ldr l 8 a σ = if ((l >>> ((0 : Int32) &&& 31)) &&& 1) = 0 then ldr l 7 a σ else ldr l 7 (a + 4) (up2 σ 0 0 (s_Me_load a σ)) := rfl
  have e : cq l 9 = bq l 0 + cq l 8 := rfl
  unfold s_Mo_pop_122_0 s_Mo_pop_174_0 s_Mo_pop_159_0 s_Mo_pop_171_0 s_Mo_pop_174_0
  rw [r]
  by_cases h : ((l >>> ((0 : Int32) &&& 31)) &&& 1) = 0
  · have b : bq l 0 = 0 := if_pos h
    rw [if_neg (fun q => (and1 _).mp q h), if_pos h]
    exact mp_1 G H l a v5 v6 v8 σ  (fun j hj => W j (by omega))
  · have b : bq l 0 = 1 := if_neg h
    have w : wok a := wok0 (W 0 (by omega))
    rw [if_pos ((and1 _).mpr h), if_neg h, q_load G w, ← H σ 0 _ (by decide)]
    rw [if_neg (by decide)]
    exact mp_1 G H l (a + 4) v5 v6 v8 _  (w_next (fun j hj => W j (by omega)))
theorem mc_3 (G : Gd M) (H : G0 M) (l a v5 v6 v8 : Int32) (σ : nS) (hc : ¬ σ 8 13 ≤ v8) (W : ∀ j, j < cq l 6 → wok (a + nI (4 * j))) : s_Mo_pop_122_3 l a v5 v6 true v8 (M σ) = s_Mo_pop_122_8 l a v5 v6 true v8 (M (ldr l 5 a σ)) := by
  have r : ldr l 5 a σ = if ((l >>> ((3 : Int32) &&& 31)) &&& 1) = 0 then ldr l 4 a σ else ldr l 4 (a + 4) (up2 σ 0 3 (s_Me_load a σ)) := rfl
  have e : cq l 6 = bq l 3 + cq l 5 := rfl
  unfold s_Mo_pop_122_3 s_Mo_pop_174_3 s_Mo_pop_159_3 s_Mo_pop_171_3 s_Mo_pop_174_3
  rw [r]
  by_cases h : ((l >>> ((3 : Int32) &&& 31)) &&& 1) = 0
  · have b : bq l 3 = 0 := if_pos h
    rw [if_neg (fun q => (and1 _).mp q h), if_pos h]
    exact mp_4 G H l a v5 v6 v8 σ true (fun j hj => W j (by omega))
  · have b : bq l 3 = 1 := if_neg h
    have w : wok a := wok0 (W 0 (by omega))
    rw [if_pos ((and1 _).mpr h), if_neg h, if_pos rfl, gd8 G σ (j := 13) (by decide), if_neg hc, q_load G w, ← H σ 3 _ (by decide)]
    exact mp_4 G H l (a + 4) v5 v6 v8 _ true (w_next (fun j hj => W j (by omega)))
theorem mb_3 (G : Gd M) (H : G0 M) (l a v5 v6 v8 : Int32) (σ : nS) (hc : σ 8 13 ≤ v8) (W : ∀ j, j < cq l 6 → wok (a + nI (4 * j))) : s_Mo_pop_122_3 l a v5 v6 true v8 (M σ) = s_Mo_pop_122_8 l a v5 v6 true v8 (M (ldr l 4 (a + nI (4 * (bq l 3))) σ)) := by
  have e : cq l 6 = bq l 3 + cq l 5 := rfl
  unfold s_Mo_pop_122_3 s_Mo_pop_174_3 s_Mo_pop_159_3 s_Mo_pop_171_3 s_Mo_pop_174_3
  by_cases h : ((l >>> ((3 : Int32) &&& 31)) &&& 1) = 0
  · have b : bq l 3 = 0 := if_pos h
    rw [if_neg (fun q => (and1 _).mp q h), b]
    rw [at0]; exact mp_4 G H l a v5 v6 v8 σ true (fun j hj => W j (by omega))
  · have b : bq l 3 = 1 := if_neg h
    rw [if_pos ((and1 _).mpr h), if_pos rfl, gd8 G σ (j := 13) (by decide), if_pos hc, b]
    have z := mp_4 G H l (a + 4) v5 v6 v8 σ true (w_next (fun j hj => W j (by omega)))
    skip
    refine z.trans ?_
    skip
    rfl
theorem mc_2 (G : Gd M) (H : G0 M) (l a v5 v6 v8 : Int32) (σ : nS) (hc : ¬ σ 8 13 ≤ v8) (W : ∀ j, j < cq l 7 → wok (a + nI (4 * j))) : s_Mo_pop_122_2 l a v5 v6 true v8 (M σ) = s_Mo_pop_122_8 l a v5 v6 true v8 (M (ldr l 6 a σ)) := by
  have r : ldr l 6 a σ = if ((l >>> ((2 : Int32) &&& 31)) &&& 1) = 0 then ldr l 5 a σ else ldr l 5 (a + 4) (up2 σ 0 2 (s_Me_load a σ)) := rfl
  have e : cq l 7 = bq l 2 + cq l 6 := rfl
  unfold s_Mo_pop_122_2 s_Mo_pop_174_2 s_Mo_pop_159_2 s_Mo_pop_171_2 s_Mo_pop_174_2
  rw [r]
  by_cases h : ((l >>> ((2 : Int32) &&& 31)) &&& 1) = 0
  · have b : bq l 2 = 0 := if_pos h
    rw [if_neg (fun q => (and1 _).mp q h), if_pos h]
    exact mc_3 G H l a v5 v6 v8 σ hc (fun j hj => W j (by omega))
  · have b : bq l 2 = 1 := if_neg h
    have w : wok a := wok0 (W 0 (by omega))
    rw [if_pos ((and1 _).mpr h), if_neg h, if_pos rfl, gd8 G σ (j := 13) (by decide), if_neg hc, q_load G w, ← H σ 2 _ (by decide)]
    exact mc_3 G H l (a + 4) v5 v6 v8 _ (by rw [up2_row _ _ _ (by decide)]; exact hc) (w_next (fun j hj => W j (by omega)))
theorem mb_2 (G : Gd M) (H : G0 M) (l a v5 v6 v8 : Int32) (σ : nS) (hc : σ 8 13 ≤ v8) (W : ∀ j, j < cq l 7 → wok (a + nI (4 * j))) : s_Mo_pop_122_2 l a v5 v6 true v8 (M σ) = s_Mo_pop_122_8 l a v5 v6 true v8 (M (ldr l 4 (a + nI (4 * (bq l 2 + bq l 3))) σ)) := by
  have e : cq l 7 = bq l 2 + cq l 6 := rfl
  unfold s_Mo_pop_122_2 s_Mo_pop_174_2 s_Mo_pop_159_2 s_Mo_pop_171_2 s_Mo_pop_174_2
  by_cases h : ((l >>> ((2 : Int32) &&& 31)) &&& 1) = 0
  · have b : bq l 2 = 0 := if_pos h
    rw [if_neg (fun q => (and1 _).mp q h), b, Nat.zero_add]
    exact mb_3 G H l a v5 v6 v8 σ hc (fun j hj => W j (by omega))
  · have b : bq l 2 = 1 := if_neg h
    rw [if_pos ((and1 _).mpr h), if_pos rfl, gd8 G σ (j := 13) (by decide), if_pos hc, b]
    have z := mb_3 G H l (a + 4) v5 v6 v8 σ hc (w_next (fun j hj => W j (by omega)))
    rw [at4] at z
    refine z.trans ?_
    skip
    rfl
theorem mc_1 (G : Gd M) (H : G0 M) (l a v5 v6 v8 : Int32) (σ : nS) (hc : ¬ σ 8 13 ≤ v8) (W : ∀ j, j < cq l 8 → wok (a + nI (4 * j))) : s_Mo_pop_122_1 l a v5 v6 true v8 (M σ) = s_Mo_pop_122_8 l a v5 v6 true v8 (M (ldr l 7 a σ)) := by
  have r : ldr l 7 a σ = if ((l >>> ((1 : Int32) &&& 31)) &&& 1) = 0 then ldr l 6 a σ else ldr l 6 (a + 4) (up2 σ 0 1 (s_Me_load a σ)) := rfl
  have e : cq l 8 = bq l 1 + cq l 7 := rfl
  unfold s_Mo_pop_122_1 s_Mo_pop_174_1 s_Mo_pop_159_1 s_Mo_pop_171_1 s_Mo_pop_174_1
  rw [r]
  by_cases h : ((l >>> ((1 : Int32) &&& 31)) &&& 1) = 0
  · have b : bq l 1 = 0 := if_pos h
    rw [if_neg (fun q => (and1 _).mp q h), if_pos h]
    exact mc_2 G H l a v5 v6 v8 σ hc (fun j hj => W j (by omega))
  · have b : bq l 1 = 1 := if_neg h
    have w : wok a := wok0 (W 0 (by omega))
    rw [if_pos ((and1 _).mpr h), if_neg h, if_pos rfl, gd8 G σ (j := 13) (by decide), if_neg hc, q_load G w, ← H σ 1 _ (by decide)]
    exact mc_2 G H l (a + 4) v5 v6 v8 _ (by rw [up2_row _ _ _ (by decide)]; exact hc) (w_next (fun j hj => W j (by omega)))
theorem mb_1 (G : Gd M) (H : G0 M) (l a v5 v6 v8 : Int32) (σ : nS) (hc : σ 8 13 ≤ v8) (W : ∀ j, j < cq l 8 → wok (a + nI (4 * j))) : s_Mo_pop_122_1 l a v5 v6 true v8 (M σ) = s_Mo_pop_122_8 l a v5 v6 true v8 (M (ldr l 4 (a + nI (4 * (bq l 1 + bq l 2 + bq l 3))) σ)) := by
  have e : cq l 8 = bq l 1 + cq l 7 := rfl
  unfold s_Mo_pop_122_1 s_Mo_pop_174_1 s_Mo_pop_159_1 s_Mo_pop_171_1 s_Mo_pop_174_1
  by_cases h : ((l >>> ((1 : Int32) &&& 31)) &&& 1) = 0
  · have b : bq l 1 = 0 := if_pos h
    rw [if_neg (fun q => (and1 _).mp q h), b, Nat.zero_add]
    exact mb_2 G H l a v5 v6 v8 σ hc (fun j hj => W j (by omega))
  · have b : bq l 1 = 1 := if_neg h
    rw [if_pos ((and1 _).mpr h), if_pos rfl, gd8 G σ (j := 13) (by decide), if_pos hc, b]
    have z := mb_2 G H l (a + 4) v5 v6 v8 σ hc (w_next (fun j hj => W j (by omega)))
    rw [at4] at z
    refine z.trans ?_
    rw [show 1 + (bq l 2 + bq l 3) = 1 + bq l 2 + bq l 3 by omega]
    rfl
theorem mc_0 (G : Gd M) (H : G0 M) (l a v5 v6 v8 : Int32) (σ : nS) (hc : ¬ σ 8 13 ≤ v8) (W : ∀ j, j < cq l 9 → wok (a + nI (4 * j))) : s_Mo_pop_122_0 l a v5 v6 true v8 (M σ) = s_Mo_pop_122_8 l a v5 v6 true v8 (M (ldr l 8 a σ)) := by
  have r : ldr l 8 a σ = if ((l >>> ((0 : Int32) &&& 31)) &&& 1) = 0 then ldr l 7 a σ else ldr l 7 (a + 4) (up2 σ 0 0 (s_Me_load a σ)) := rfl
  have e : cq l 9 = bq l 0 + cq l 8 := rfl
  unfold s_Mo_pop_122_0 s_Mo_pop_174_0 s_Mo_pop_159_0 s_Mo_pop_171_0 s_Mo_pop_174_0
  rw [r]
  by_cases h : ((l >>> ((0 : Int32) &&& 31)) &&& 1) = 0
  · have b : bq l 0 = 0 := if_pos h
    rw [if_neg (fun q => (and1 _).mp q h), if_pos h]
    exact mc_1 G H l a v5 v6 v8 σ hc (fun j hj => W j (by omega))
  · have b : bq l 0 = 1 := if_neg h
    have w : wok a := wok0 (W 0 (by omega))
    rw [if_pos ((and1 _).mpr h), if_neg h, if_pos rfl, gd8 G σ (j := 13) (by decide), if_neg hc, q_load G w, ← H σ 0 _ (by decide)]
    exact mc_1 G H l (a + 4) v5 v6 v8 _ (by rw [up2_row _ _ _ (by decide)]; exact hc) (w_next (fun j hj => W j (by omega)))
theorem mb_0 (G : Gd M) (H : G0 M) (l a v5 v6 v8 : Int32) (σ : nS) (hc : σ 8 13 ≤ v8) (W : ∀ j, j < cq l 9 → wok (a + nI (4 * j))) : s_Mo_pop_122_0 l a v5 v6 true v8 (M σ) = s_Mo_pop_122_8 l a v5 v6 true v8 (M (ldr l 4 (a + nI (4 * (bq l 0 + bq l 1 + bq l 2 + bq l 3))) σ)) := by
  have e : cq l 9 = bq l 0 + cq l 8 := rfl
  unfold s_Mo_pop_122_0 s_Mo_pop_174_0 s_Mo_pop_159_0 s_Mo_pop_171_0 s_Mo_pop_174_0
  by_cases h : ((l >>> ((0 : Int32) &&& 31)) &&& 1) = 0
  · have b : bq l 0 = 0 := if_pos h
    rw [if_neg (fun q => (and1 _).mp q h), b, Nat.zero_add]
    exact mb_1 G H l a v5 v6 v8 σ hc (fun j hj => W j (by omega))
  · have b : bq l 0 = 1 := if_neg h
    rw [if_pos ((and1 _).mpr h), if_pos rfl, gd8 G σ (j := 13) (by decide), if_pos hc, b]
    have z := mb_1 G H l (a + 4) v5 v6 v8 σ hc (w_next (fun j hj => W j (by omega)))
    rw [at4] at z
    refine z.trans ?_
    rw [show 1 + (bq l 1 + bq l 2 + bq l 3) = 1 + bq l 1 + bq l 2 + bq l 3 by omega]
    rfl
end LDR
