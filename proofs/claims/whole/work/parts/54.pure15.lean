-- the nine calls
def tf : Option Int32 → Int32
  | none => 1
  | some _ => 0
def Ra (F : oS) : Int32 × nS := (F.1.getD 0, Rf (tf F.1) F.2)
theorem Ra_n (σ : nS) : Ra (none, σ) = (0, Rf 1 σ) := rfl
theorem Ra_s (v : Int32) (σ : nS) : Ra (some v, σ) = (v, Rf 0 σ) := rfl
theorem Rf_th (th v : Int32) (σ : nS) : up2 (Rf th σ) 8 15 v = Rf v σ := by
  funext x y
  rw [up2_at]
  by_cases h : x = 8 ∧ y = 15
  · obtain ⟨rfl, rfl⟩ := h
    rw [if_pos ⟨rfl, rfl⟩]
    show v = upd (σ 8) 15 v 15
    unfold upd
    rw [if_pos rfl]
  · rw [if_neg h]
    unfold Rf
    by_cases a : x ≤ 7
    · rw [if_pos a, if_pos a]
    · rw [if_neg a, if_neg a]
      by_cases b : x = 8
      · rw [if_pos b, if_pos b]
        unfold upd
        rw [if_neg (fun q => h ⟨b, q⟩), if_neg (fun q => h ⟨b, q⟩)]
      · rw [if_neg b, if_neg b]
theorem fails_t (th : Int32) (σ : nS) : s_Mo_fails true (Rf th σ) = (true, Rf 1 σ) := by
  unfold s_Mo_fails s_Mo_fails_10
  rw [if_pos rfl, Rf_th]
  rfl
theorem fails_f (th : Int32) (σ : nS) : s_Mo_fails false (Rf th σ) = (false, Rf 0 σ) := by
  unfold s_Mo_fails s_Mo_fails_10
  rw [if_neg (by decide), Rf_th]
  rfl
theorem Iv_u {c : Nat} {σ : nS} (h : Iv c σ) (k j : Nat) (v : Int32) (hk : k ≠ 0 ∧ (k ≠ 8 ∨ (8 ≤ j ∧ j ≠ 10 ∧ j ≠ 13))) : Iv c (up2 σ k j v) := ⟨by rw [up2_row _ _ _ (fun q => hk.1 q.symm)]; exact h.1, Iw_u h.2 k j v hk.2⟩
theorem Iv_mono {c d : Nat} {σ : nS} (h : Iv c σ) (hd : c ≤ d) : Iv d σ := ⟨h.1, Iw_mono h.2 hd⟩
-- set, word
theorem q_set (th a v : Int32) (σ : nS) : s_Mo_set a v (Rf th σ) = (Ra (x_N_set a v σ)).2 := by
  unfold s_Mo_set x_N_set s_Mo_set_13
  rw [q_isWord]
  by_cases h : s_Me_holdsWord a = true
  · rw [if_pos h, if_pos h, fails_f, ap2_mk, if_neg (by decide)]
    unfold ap1
    dsimp only
    rw [q_store (Rf_gd 0) (Rf_gm 0) (wok_of h)]
    rfl
  · rw [if_neg h, if_neg h, fails_t, ap2_mk, if_pos rfl]
    rfl
theorem o_set (th a v : Int32) (σ : nS) : o_Mo_set a v (Rf th σ) := by
  unfold o_Mo_set o_Mo_set_13
  rw [q_isWord, fails_f, fails_t, ap2_mk9, ap2_mk9]
  exact O_ite (fun h => ⟨om_store (wok_of h) _ _, True.intro⟩) (fun _ => True.intro)
theorem I_set {c : Nat} (a v : Int32) (σ : nS) (h : Iv c σ) : Iv c (x_N_set a v σ).2 := by
  unfold x_N_set
  by_cases q : s_Me_holdsWord a = true
  · rw [if_pos q]; exact Iv_u h 9 _ _ ⟨by decide, Or.inl (by decide)⟩
  · rw [if_neg q]; exact h
theorem q_word (th a : Int32) (σ : nS) : s_Mo_word a (Rf th σ) = Ra (x_N_word a σ) := by
  unfold s_Mo_word x_N_word s_Mo_word_13
  rw [q_isWord]
  by_cases h : s_Me_holdsWord a = true
  · rw [if_pos h, if_pos h, fails_f, ap2_mk, if_neg (by decide), q_load (Rf_gd 0) (wok_of h)]
    rfl
  · rw [if_neg h, if_neg h, fails_t, ap2_mk, if_pos rfl]
    rfl
theorem o_word (th a : Int32) (σ : nS) : o_Mo_word a (Rf th σ) := by
  unfold o_Mo_word o_Mo_word_13
  rw [q_isWord, fails_f, fails_t, ap2_mk9, ap2_mk9]
  exact O_ite (fun h => ⟨om_load (wok_of h) _, True.intro⟩) (fun _ => True.intro)
theorem I_word {c : Nat} (a : Int32) (σ : nS) (h : Iv c σ) : Iv c (x_N_word a σ).2 := by
  unfold x_N_word
  by_cases q : s_Me_holdsWord a = true
  · rw [if_pos q]; exact h
  · rw [if_neg q]; exact h
-- put, register
theorem le20 {v : Int32} (h0 : ¬ v < 0) (h : v ≤ 20) : v = 15 ∨ v = 16 ∨ v = 17 ∨ v = 18 ∨ v = 19 ∨ v = 20 ∨ ∃ j : Nat, j < 15 ∧ v = nI j := by
  obtain ⟨j, hj, rfl⟩ := nI_of h0
  have := (nI_leI (b := 20) hj (by decide)).mp h
  have cl : j = 15 ∨ j = 16 ∨ j = 17 ∨ j = 18 ∨ j = 19 ∨ j = 20 ∨ j < 15 := by omega
  rcases cl with rfl | rfl | rfl | rfl | rfl | rfl | q
  · exact Or.inl rfl
  · exact Or.inr (Or.inl rfl)
  · exact Or.inr (Or.inr (Or.inl rfl))
  · exact Or.inr (Or.inr (Or.inr (Or.inl rfl)))
  · exact Or.inr (Or.inr (Or.inr (Or.inr (Or.inl rfl))))
  · exact Or.inr (Or.inr (Or.inr (Or.inr (Or.inr (Or.inl rfl)))))
  · exact Or.inr (Or.inr (Or.inr (Or.inr (Or.inr (Or.inr ⟨j, q, rfl⟩)))))
theorem R0_u8 (σ : nS) (j : Nat) (v : Int32) (h : j < 15) : up2 (Rf 0 σ) 8 j v = Rf 0 (up2 σ 8 j v) := (Rf_up8 0 σ j v h).symm
theorem R0_u0 (σ : nS) (j : Nat) (v : Int32) : up2 (Rf 0 σ) 0 j v = Rf 0 (up2 σ 0 j v) := (Rf_upk 0 σ 0 j v (by decide) (by decide)).symm
theorem q_put (th r v : Int32) (σ : nS) : s_Mo_put r v (Rf th σ) = (Ra (x_N_put r v σ)).2 := by
  unfold s_Mo_put x_N_put s_Mo_put_11 x_N_put_10 s_Mo_put_16
  by_cases a : r < 0
  · rw [if_pos a, if_pos a, fails_t, ap2_mk, if_pos rfl]; rfl
  rw [if_neg a, if_neg a]
  by_cases b : r ≤ 20
  · rw [if_pos b, if_pos b, fails_f, ap2_mk, if_neg (by decide)]
    unfold s_Mo_put_48 s_Mo_put_49 s_Mo_put_68 s_Mo_put_65 s_Mo_put_68 s_Mo_put_87 s_Mo_put_84 s_Mo_put_87 s_Mo_put_101 s_Mo_put_114 x_N_put_87 x_N_put_106 s_Ti_start ap1
    rcases le20 a b with rfl | rfl | rfl | rfl | rfl | rfl | ⟨j, hj, rfl⟩
    · simp (decide := true) only [↓reduceIte]
      rw [show (15 : Int32).toNatClampNeg = 15 from rfl, R0_u0]
      rfl
    · simp (decide := true) only [↓reduceIte]
      by_cases z : v = 0
      · rw [if_pos z, if_pos z, R0_u8 _ _ _ (by decide)]; rfl
      · rw [if_neg z, if_neg z, R0_u8 _ _ _ (by decide)]; rfl
    · simp (decide := true) only [↓reduceIte]
      by_cases z : v = 0
      · rw [if_pos z, if_pos z, R0_u8 _ _ _ (by decide)]; rfl
      · rw [if_neg z, if_neg z, R0_u8 _ _ _ (by decide)]; rfl
    · simp (decide := true) only [↓reduceIte]
      rw [R0_u8 _ _ _ (by decide)]
      rfl
    · simp (decide := true) only [↓reduceIte]
      rw [R0_u8 _ _ _ (by decide)]
      rfl
    · simp (decide := true) only [↓reduceIte]
      rw [up2_self, R0_u8 _ _ _ (by decide), R0_u8 _ _ _ (by decide)]
      rfl
    · have n : ∀ m : Nat, 15 ≤ m → m < 2 ^ 31 → ¬ nI j = nI m := fun m h1 h2 => ne_lit (by omega) (by omega) h2
      rw [if_neg (show ¬ (16 : Int32) ≤ nI j from nI_ge (b := 16) (by omega) (by decide))]
      simp only [show ¬ nI j = 15 from n 15 (by decide) (by decide), show ¬ nI j = 16 from n 16 (by decide) (by decide), show ¬ nI j = 17 from n 17 (by decide) (by decide), show ¬ nI j = 18 from n 18 (by decide) (by decide), show ¬ nI j = 19 from n 19 (by decide) (by decide), show ¬ nI j = 20 from n 20 (by decide) (by decide), if_false]
      rw [R0_u0]
      rfl
  · rw [if_neg b, if_neg b, fails_t, ap2_mk, if_pos rfl]; rfl
theorem o_put (th r v : Int32) (σ : nS) : o_Mo_put r v (Rf th σ) := by
  unfold o_Mo_put o_Mo_put_11 o_Mo_put_16
  rw [fails_f, fails_t, ap2_mk9, ap2_mk9]
  have z114 : ∀ τ : nS, o_Mo_put_114 r v τ := fun τ => O_ite (fun _ => True.intro) (fun _ => True.intro)
  have z101 : ∀ τ : nS, o_Mo_put_101 r v τ := fun τ => O_ite (fun _ => z114 _) (fun _ => z114 _)
  have z87 : ∀ τ : nS, o_Mo_put_87 r v τ := fun τ => O_ite (fun _ => z101 _) (fun _ => z101 _)
  have z68 : ∀ τ : nS, o_Mo_put_68 r v τ := fun τ => O_ite (fun _ => O_ite (fun _ => z87 _) (fun _ => z87 _)) (fun _ => z87 _)
  have z49 : ∀ τ : nS, o_Mo_put_49 r v τ := fun τ => O_ite (fun _ => O_ite (fun _ => z68 _) (fun _ => z68 _)) (fun _ => z68 _)
  refine O_ite (fun _ => True.intro) (fun a => O_ite (fun b => ?_) (fun _ => True.intro))
  show (if 16 ≤ r then o_Mo_put_49 r v (Rf 0 σ) else if r = 15 then o_Mo_put_48 r v r (v &&& -2) (Rf 0 σ) else o_Mo_put_48 r v r v (Rf 0 σ))
  refine O_ite (fun _ => z49 _) (fun c => ?_)
  have i : vp_in r 16 := by
    obtain ⟨j, hj, rfl⟩ := nI_of a
    have : j < 16 := by
      rcases Nat.lt_or_ge j 16 with q | q
      · exact q
      · exact absurd (nI_le (a := 16) q hj) c
    exact vin16 this
  exact O_ite (fun _ => ⟨i, z49 _⟩) (fun _ => ⟨i, z49 _⟩)
theorem ox_put (r v : Int32) (σ : nS) : ox_N_put r v σ := by
  unfold ox_N_put
  refine O_ite (fun _ => True.intro) (fun a => O_ite (fun b => ?_) (fun _ => True.intro))
  refine O_ite (fun _ => True.intro) (fun n1 => O_ite (fun _ => O_ite (fun _ => True.intro) (fun _ => True.intro)) (fun n2 => O_ite (fun _ => O_ite (fun _ => True.intro) (fun _ => True.intro)) (fun n3 => O_ite (fun _ => True.intro) (fun n4 => O_ite (fun _ => True.intro) (fun n5 => O_ite (fun _ => True.intro) (fun n6 => ⟨?_, trivial⟩))))))
  rcases le20 a b with q | q | q | q | q | q | ⟨j, hj, rfl⟩
  · exact absurd q n1
  · exact absurd q n2
  · exact absurd q n3
  · exact absurd q n4
  · exact absurd q n5
  · exact absurd q n6
  · exact vin16 (by omega)
theorem I_put {c : Nat} (r v : Int32) (σ : nS) (h : Iv c σ) : Iv c (x_N_put r v σ).2 := by
  have kb : ∀ (j : Nat) (b : Bool), j = 2 ∨ j = 3 → Iv c (up2 σ 8 j (bI b)) := fun j b hj => ⟨by rw [up2_row _ _ _ (by decide)]; exact h.1, Iw_K (K_u8 (K_refl σ) j (by omega) (by omega) b) h.2⟩
  unfold x_N_put x_N_put_10 x_N_put_87 x_N_put_106
  by_cases a : r < 0
  · rw [if_pos a]; exact h
  rw [if_neg a]
  by_cases b : r ≤ 20
  · rw [if_pos b]
    rcases le20 a b with rfl | rfl | rfl | rfl | rfl | rfl | ⟨j, hj, rfl⟩
    · simp (decide := true) only [↓reduceIte]
      refine ⟨?_, Iw_u h.2 0 15 _ (Or.inl (by decide))⟩
      rw [up2_self]
      exact ev_even v
    · simp (decide := true) only [↓reduceIte]
      by_cases z : v = 0
      · rw [if_pos z]; exact kb 2 _ (Or.inl rfl)
      · rw [if_neg z]; exact kb 2 _ (Or.inl rfl)
    · simp (decide := true) only [↓reduceIte]
      by_cases z : v = 0
      · rw [if_pos z]; exact kb 3 _ (Or.inr rfl)
      · rw [if_neg z]; exact kb 3 _ (Or.inr rfl)
    · simp (decide := true) only [↓reduceIte]
      obtain ⟨h0, h1, h2, h3, m, hm, h4⟩ := h
      refine ⟨by rw [up2_row _ _ _ (by decide)]; exact h0, ?_, by rw [up2_at, if_neg (by decide)]; exact h2, fun j a b => by rw [up2_at, if_neg (fun q => by omega)]; exact h3 j a b, m, hm, by rw [up2_at, if_neg (by decide)]; exact h4⟩
      rw [up2_self]
      obtain ⟨j, hj, e⟩ := pk_andE v (m := 7) 3 (by decide)
      rw [e]
      exact nI_le (a := 0) (by omega) (by omega)
    · simp (decide := true) only [↓reduceIte]
      refine ⟨by rw [up2_row _ _ _ (by decide)]; exact h.1, Iw_row h.2 ?_ ?_ (fun j a b => ?_) ?_⟩
      · rw [up2_at, if_neg (by decide)]
      · rw [up2_at, if_neg (by decide)]
      · rw [up2_at, if_neg (fun q => by omega)]
      · rw [up2_at, if_neg (by decide)]
    · simp (decide := true) only [↓reduceIte]
      exact Iv_u (Iv_u h 8 8 _ (by decide)) 8 9 _ (by decide)
    · have n : ∀ m : Nat, 15 ≤ m → m < 2 ^ 31 → ¬ nI j = nI m := fun m h1 h2 => ne_lit (by omega) (by omega) h2
      simp only [show ¬ nI j = 15 from n 15 (by decide) (by decide), show ¬ nI j = 16 from n 16 (by decide) (by decide), show ¬ nI j = 17 from n 17 (by decide) (by decide), show ¬ nI j = 18 from n 18 (by decide) (by decide), show ¬ nI j = 19 from n 19 (by decide) (by decide), show ¬ nI j = 20 from n 20 (by decide) (by decide), if_false]
      refine ⟨?_, Iw_u h.2 0 _ _ (Or.inl (by decide))⟩
      rw [up2_at, if_neg (fun q => by rw [nI_clamp (by omega)] at q; omega)]
      exact h.1
  · rw [if_neg b]; exact h
theorem q_register (th r : Int32) (σ : nS) : s_Mo_register r (Rf th σ) = Ra (x_N_register r σ) := by
  have G := Rf_gd 0
  unfold s_Mo_register x_N_register s_Mo_register_11 x_N_register_10 s_Mo_register_16
  by_cases a : r < 0
  · rw [if_pos a, if_pos a, fails_t, ap2_mk, if_pos rfl]; rfl
  rw [if_neg a, if_neg a]
  by_cases b : r ≤ 20
  · rw [if_pos b, if_pos b, fails_f, ap2_mk, if_neg (by decide), gd8 G σ (j := 0) (by decide), gd8 G σ (j := 1) (by decide), gd8 G σ (j := 2) (by decide), gd8 G σ (j := 3) (by decide), gd8 G σ (j := 8) (by decide)]
    unfold s_Mo_register_70 s_Mo_register_66
    rcases le20 a b with rfl | rfl | rfl | rfl | rfl | rfl | ⟨j, hj, rfl⟩
    · simp (decide := true) only [↓reduceIte]
      rfl
    · simp (decide := true) only [↓reduceIte]
      by_cases z : σ 8 2 = 0
      · rw [if_pos z, if_pos z]; rfl
      · rw [if_neg z, if_neg z]; rfl
    · simp (decide := true) only [↓reduceIte]
      by_cases z : σ 8 3 = 0
      · rw [if_pos z, if_pos z]; rfl
      · rw [if_neg z, if_neg z]; rfl
    · simp (decide := true) only [↓reduceIte]
      rfl
    · simp (decide := true) only [↓reduceIte]
      rfl
    · simp (decide := true) only [↓reduceIte]
      rfl
    · have n : ∀ m : Nat, 15 ≤ m → m < 2 ^ 31 → ¬ nI j = nI m := fun m h1 h2 => ne_lit (by omega) (by omega) h2
      rw [if_neg (show ¬ (16 : Int32) ≤ nI j from nI_ge (b := 16) (by omega) (by decide))]
      simp only [show ¬ nI j = 16 from n 16 (by decide) (by decide), show ¬ nI j = 17 from n 17 (by decide) (by decide), show ¬ nI j = 18 from n 18 (by decide) (by decide), show ¬ nI j = 19 from n 19 (by decide) (by decide), show ¬ nI j = 20 from n 20 (by decide) (by decide), if_false]
      rfl
  · rw [if_neg b, if_neg b, fails_t, ap2_mk, if_pos rfl]; rfl
theorem o_register (th r : Int32) (σ : nS) : o_Mo_register r (Rf th σ) := by
  unfold o_Mo_register o_Mo_register_11 o_Mo_register_16
  rw [fails_f, fails_t, ap2_mk9, ap2_mk9]
  refine O_ite (fun _ => True.intro) (fun a => O_ite (fun b => ?_) (fun _ => True.intro))
  refine O_ite (fun q => absurd q (by decide)) (fun _ => O_ite (fun _ => O_ite (fun _ => O_ite (fun _ => True.intro) (fun _ => O_ite (fun _ => True.intro) (fun _ => True.intro))) (fun _ => O_ite (fun _ => O_ite (fun _ => True.intro) (fun _ => True.intro)) (fun _ => O_ite (fun _ => True.intro) (fun _ => True.intro)))) (fun c => ⟨?_, trivial⟩))
  obtain ⟨j, hj, rfl⟩ := nI_of a
  have : j < 16 := by
    rcases Nat.lt_or_ge j 16 with q | q
    · exact q
    · exact absurd (nI_le (a := 16) q hj) c
  exact vin16 this
theorem ox_register (r : Int32) (σ : nS) : ox_N_register r σ := by
  unfold ox_N_register
  refine O_ite (fun _ => True.intro) (fun a => O_ite (fun b => ?_) (fun _ => True.intro))
  refine O_ite (fun _ => O_ite (fun _ => True.intro) (fun _ => True.intro)) (fun n2 => O_ite (fun _ => O_ite (fun _ => True.intro) (fun _ => True.intro)) (fun n3 => O_ite (fun _ => True.intro) (fun n4 => O_ite (fun _ => True.intro) (fun n5 => O_ite (fun _ => True.intro) (fun n6 => ⟨?_, trivial⟩)))))
  rcases le20 a b with q | q | q | q | q | q | ⟨j, hj, rfl⟩
  · rw [q]; exact vin16 (i := 15) (by decide)
  · exact absurd q n2
  · exact absurd q n3
  · exact absurd q n4
  · exact absurd q n5
  · exact absurd q n6
  · exact vin16 (by omega)
theorem ite_P {α : Type} {P : α → Prop} {c : Prop} [Decidable c] {x y : α} (h : P x) (g : P y) : P (if c then x else y) := by
  by_cases q : c
  · rw [if_pos q]; exact h
  · rw [if_neg q]; exact g
def Io (c : Nat) (F : oS) : Prop := Iv c F.2
theorem Io_ite {n : Nat} {c : Prop} [Decidable c] {x y : oS} (h : Io n x) (g : Io n y) : Io n (if c then x else y) := ite_P (P := Io n) h g
theorem I_register {c : Nat} (r : Int32) (σ : nS) (h : Iv c σ) : Iv c (x_N_register r σ).2 := by
  have k : ∀ x : Option Int32, Io c (x, σ) := fun _ => h
  show Io c (x_N_register r σ)
  exact Io_ite (k _) (Io_ite (Io_ite (Io_ite (k _) (k _)) (Io_ite (Io_ite (k _) (k _)) (Io_ite (k _) (Io_ite (k _) (Io_ite (k _) (k _)))))) (k _))
-- rank, pend, area
theorem nI_15 {v : Int32} {lo : Nat} (h0 : ¬ v < nI lo) (hl : lo < 16) (h : ¬ (15 : Int32) < v) : ∃ j : Nat, lo ≤ j ∧ j < 16 ∧ v = nI j := by
  have p : ¬ v < 0 := by
    intro q
    exact h0 (Int32.lt_of_lt_of_le q (nI_le (a := 0) (by omega) (by omega)))
  obtain ⟨j, hj, rfl⟩ := nI_of p
  refine ⟨j, ?_, ?_, rfl⟩
  · rcases Nat.lt_or_ge j lo with q | q
    · exact absurd (nI_lt q (by omega)) h0
    · exact q
  · rcases Nat.lt_or_ge j 16 with q | q
    · exact q
    · exact absurd (nI_lt (a := 15) (by omega) hj) h
theorem q_rank (th e p : Int32) (b : Bool) (σ : nS) : s_Mo_rank e p b (Rf th σ) = (Ra (x_N_rank e p b σ)).2 := by
  unfold s_Mo_rank x_N_rank s_Mo_rank_22 x_N_rank_21 s_Mo_rank_27
  rw [fails_t, fails_f, ap2_mk, ap2_mk, if_pos rfl, if_neg (show ¬ false = true by decide)]
  have tt : (Ra ((none : Option Int32), σ)).2 = Rf 1 σ := rfl
  have ok : (if b = true then (s_Mo_rank_62 e (up2 (Rf 0 σ) 4 (e).toNatClampNeg p)) else (if e < 7 then (s_Mo_rank_66 e (up2 (Rf 0 σ) 4 (e).toNatClampNeg p)) else (if 9 < e then (s_Mo_rank_66 e (up2 (Rf 0 σ) 4 (e).toNatClampNeg p)) else (s_Mo_rank_62 e (up2 (Rf 0 σ) 4 (e).toNatClampNeg p))))) = Rf 0 (s_Ex_order e p b σ) := by
    unfold s_Mo_rank_62 s_Mo_rank_66 s_Mo_rank_67 s_Ex_order s_Ex_order_28 s_Ex_order_32 s_Ex_order_33
    have u : ∀ k : Bool, up2 (up2 (Rf 0 σ) 4 e.toNatClampNeg p) 1 e.toNatClampNeg (bI k) = Rf 0 (up2 (up2 σ 4 e.toNatClampNeg p) 1 e.toNatClampNeg (bI k)) := fun k => by rw [← Rf_upk 0 σ 4 _ _ (by decide) (by decide), ← Rf_upk 0 _ 1 _ _ (by decide) (by decide)]
    rw [u, u]
    by_cases x : b = true
    · rw [if_pos x, if_pos x]
    · rw [if_neg x, if_neg x]
      by_cases y : e < 7
      · rw [if_pos y, if_pos y]
      · rw [if_neg y, if_neg y]
        by_cases z : 9 < e
        · rw [if_pos z, if_pos z]
        · rw [if_neg z, if_neg z]
  rw [ok]
  by_cases h1 : e < 4
  · rw [if_pos h1, if_pos h1]; rfl
  · rw [if_neg h1, if_neg h1]
    by_cases h2 : 15 < e
    · rw [if_pos h2, if_pos h2]; rfl
    · rw [if_neg h2, if_neg h2]
      by_cases h3 : p < 0
      · rw [if_pos h3, if_pos h3]; rfl
      · rw [if_neg h3, if_neg h3]
        by_cases h4 : p ≤ 7
        · rw [if_pos h4, if_pos h4]; rfl
        · rw [if_neg h4, if_neg h4]; rfl
theorem o_rank (th e p : Int32) (b : Bool) (σ : nS) : o_Mo_rank e p b (Rf th σ) := by
  unfold o_Mo_rank o_Mo_rank_22 o_Mo_rank_27
  rw [fails_t, fails_f, ap2_mk9, ap2_mk9]
  have t : (if true = true then True else (vp_in e 16 ∧ (if b = true then (o_Mo_rank_62 e (up2 (Rf 1 σ) 4 (e).toNatClampNeg p)) else (if e < 7 then (o_Mo_rank_66 e (up2 (Rf 1 σ) 4 (e).toNatClampNeg p)) else (if 9 < e then (o_Mo_rank_66 e (up2 (Rf 1 σ) 4 (e).toNatClampNeg p)) else (o_Mo_rank_62 e (up2 (Rf 1 σ) 4 (e).toNatClampNeg p))))))) := by
    rw [if_pos rfl]
    trivial
  refine O_ite (fun _ => t) (fun h1 => O_ite (fun _ => t) (fun h2 => O_ite (fun _ => t) (fun _ => O_ite (fun _ => ?_) (fun _ => t))))
  obtain ⟨j, h4, h16, rfl⟩ := nI_15 (lo := 4) h1 (by decide) h2
  have i : vp_in (nI j) 16 := vin16 h16
  exact O_ite (fun q => absurd q (by decide)) (fun _ => ⟨i, O_ite (fun _ => ⟨i, trivial⟩) (fun _ => O_ite (fun _ => ⟨i, trivial⟩) (fun _ => O_ite (fun _ => ⟨i, trivial⟩) (fun _ => ⟨i, trivial⟩)))⟩)
theorem ox_rank (e p : Int32) (b : Bool) (σ : nS) : ox_N_rank e p b σ := by
  refine O_ite (fun _ => True.intro) (fun h1 => O_ite (fun _ => True.intro) (fun h2 => O_ite (fun _ => True.intro) (fun _ => O_ite (fun _ => ⟨?_, True.intro⟩) (fun _ => True.intro))))
  obtain ⟨j, h4, h16, rfl⟩ := nI_15 (lo := 4) h1 (by decide) h2
  exact vin16 h16
theorem I_rank {c : Nat} (e p : Int32) (b : Bool) (σ : nS) (h : Iv c σ) : Iv c (x_N_rank e p b σ).2 := by
  have u : ∀ k : Bool, Iv c (up2 (up2 σ 4 e.toNatClampNeg p) 1 e.toNatClampNeg (bI k)) := fun k => Iv_u (Iv_u h 4 _ _ ⟨by decide, Or.inl (by decide)⟩) 1 _ _ ⟨by decide, Or.inl (by decide)⟩
  have ok : Iv c (s_Ex_order e p b σ) := by
    unfold s_Ex_order s_Ex_order_28 s_Ex_order_32 s_Ex_order_33
    exact ite_P (P := Iv c) (u _) (ite_P (u _) (ite_P (u _) (u _)))
  have h0 : Io c (none, σ) := h
  exact (Io_ite h0 (Io_ite h0 (Io_ite h0 (Io_ite (show Io c (some 0, s_Ex_order e p b σ) from ok) h0))) : Io c (x_N_rank e p b σ))
theorem q_pend (th e : Int32) (b : Bool) (σ : nS) : s_Mo_pend e b (Rf th σ) = (Ra (x_N_pend e b σ)).2 := by
  unfold s_Mo_pend x_N_pend s_Mo_pend_12 x_N_pend_11 s_Mo_pend_17
  rw [fails_t, fails_f, ap2_mk, ap2_mk, if_pos rfl, if_neg (show ¬ false = true by decide), ← Rf_upk 0 σ 2 _ _ (by decide) (by decide)]
  by_cases h1 : e < 2
  · rw [if_pos h1, if_pos h1]; rfl
  · rw [if_neg h1, if_neg h1]
    by_cases h2 : e ≤ 15
    · rw [if_pos h2, if_pos h2]; rfl
    · rw [if_neg h2, if_neg h2]; rfl
theorem o_pend (th e : Int32) (b : Bool) (σ : nS) : o_Mo_pend e b (Rf th σ) := by
  unfold o_Mo_pend o_Mo_pend_12 o_Mo_pend_17
  rw [fails_t, fails_f, ap2_mk9, ap2_mk9]
  refine O_ite (fun _ => O_ite (fun _ => trivial) (fun q => absurd rfl q)) (fun h1 => O_ite (fun h2 => O_ite (fun _ => trivial) (fun _ => ⟨?_, trivial⟩)) (fun _ => O_ite (fun _ => trivial) (fun q => absurd rfl q)))
  obtain ⟨j, h4, h16, rfl⟩ := nI_15 (lo := 2) h1 (by decide) (Int32.not_lt.mpr h2)
  exact vin16 h16
theorem ox_pend (e : Int32) (b : Bool) (σ : nS) : ox_N_pend e b σ := by
  refine O_ite (fun _ => True.intro) (fun h1 => O_ite (fun h2 => ⟨?_, trivial⟩) (fun _ => True.intro))
  obtain ⟨j, h4, h16, rfl⟩ := nI_15 (lo := 2) h1 (by decide) (Int32.not_lt.mpr h2)
  exact vin16 h16
theorem I_pend {c : Nat} (e : Int32) (b : Bool) (σ : nS) (h : Iv c σ) : Iv c (x_N_pend e b σ).2 := by
  have h0 : Io c (none, σ) := h
  exact (Io_ite h0 (Io_ite (show Io c (some 0, up2 σ 2 e.toNatClampNeg (bI b)) from Iv_u h 2 _ _ ⟨by decide, Or.inl (by decide)⟩) h0) : Io c (x_N_pend e b σ))
theorem lay_eq (k a s r : Int32) (b : Bool) (σ : nS) : up2 (up2 (up2 (up2 (Rf 0 σ) 5 k.toNatClampNeg a) 10 k.toNatClampNeg (a + s)) 6 k.toNatClampNeg r) 7 k.toNatClampNeg (bI b) = Rf 0 (s_Ar_lay k a s r b σ) := by
  unfold s_Ar_lay
  rw [Rf_upk 0 _ 7 _ _ (by decide) (by decide), Rf_upk 0 _ 6 _ _ (by decide) (by decide)]
  refine congrArg (fun z => up2 (up2 z 6 k.toNatClampNeg r) 7 k.toNatClampNeg (bI b)) ?_
  funext x y
  rw [up2_at, up2_at]
  by_cases h : x = 10
  · subst h
    show _ = (up2 (up2 σ 5 k.toNatClampNeg a) 10 k.toNatClampNeg s) 5 y + (up2 (up2 σ 5 k.toNatClampNeg a) 10 k.toNatClampNeg s) 10 y
    rw [up2_row _ (x := 5) _ _ (by decide), up2_at, up2_at, up2_row _ (x := 10) _ _ (by decide)]
    by_cases g : y = k.toNatClampNeg
    · rw [if_pos ⟨rfl, g⟩, if_pos ⟨rfl, g⟩, if_pos ⟨rfl, g⟩]
    · rw [if_neg (fun q => g q.2), if_neg (fun q => g q.2), if_neg (fun q => g q.2), if_neg (fun q => g q.2)]
      rfl
  · rw [if_neg (fun q => h q.1)]
    unfold Rf
    by_cases b1 : x ≤ 7
    · rw [if_pos b1, if_pos b1, up2_row _ _ _ h, up2_at]
    · rw [if_neg b1, if_neg b1, if_neg (fun q => by omega)]
      rw [up2_row _ (x := 8) _ _ (by decide), up2_row _ (x := 8) _ _ (by decide), up2_row _ (x := 9) _ _ (by decide), up2_row _ (x := 9) _ _ (by decide)]
      by_cases b8 : x = 8
      · rw [if_pos b8, if_pos b8]
      · rw [if_neg b8, if_neg b8, if_neg h, if_neg h]
theorem nI_tI9 {n : Nat} (h : n < 2 ^ 31) : (nI n).toInt = n := by
  show (Int32.ofNat n).toInt = n
  exact Int32.toInt_ofNat_of_lt (by omega)
theorem sub_toInt {a : Nat} (h : a < 2 ^ 31) : ((1024 : Int32) - nI a).toInt = 1024 - (a : Int) := by
  rw [Int32.toInt_sub, nI_tI9 h, show (1024 : Int32).toInt = 1024 from rfl]
  exact Int.bmod_eq_of_le (by omega) (by omega)
theorem area_cond {a s : Int32} (ha : ¬ a < 0) (hs : ¬ s < 0) : a ≤ 1024 - s ↔ (¬ (1024 : Int32) < a ∧ ¬ 1024 - a < s) := by
  obtain ⟨i, hi, rfl⟩ := nI_of ha
  obtain ⟨j, hj, rfl⟩ := nI_of hs
  rw [Int32.le_iff_toInt_le, Int32.lt_iff_toInt_lt, Int32.lt_iff_toInt_lt, sub_toInt hi, sub_toInt hj, nI_tI9 hi, nI_tI9 hj, show (1024 : Int32).toInt = 1024 from rfl]
  omega
theorem q_area (th k a s r : Int32) (b : Bool) (σ : nS) : s_Mo_area k a s r b (Rf th σ) = (Ra (x_N_area k a s r b σ)).2 := by
  unfold s_Mo_area x_N_area s_Mo_area_48 s_Mo_area_49 s_Mo_area_62 x_N_area_20 x_N_area_47
  rw [fails_t, fails_f, ap2_mk, ap2_mk, if_pos rfl, if_neg (show ¬ false = true by decide), if_neg (show ¬ false = true by decide), if_pos rfl, lay_eq]
  by_cases h1 : k < 0
  · rw [if_pos h1, if_pos h1]; rfl
  rw [if_neg h1, if_neg h1]
  by_cases h2 : 4 ≤ k
  · rw [if_pos h2, if_pos h2]; rfl
  rw [if_neg h2, if_neg h2]
  by_cases h3 : r < 0
  · rw [if_pos h3, if_pos h3]; rfl
  rw [if_neg h3, if_neg h3]
  by_cases h4 : r ≤ 2
  · have h4' : ¬ (3 : Int32) ≤ r := by
      intro q
      exact absurd (Int32.le_trans q h4) (by decide)
    rw [if_pos h4, if_neg h4']
    by_cases h5 : a < 0
    · rw [if_pos h5, if_pos h5]; rfl
    rw [if_neg h5, if_neg h5]
    by_cases h6 : s < 0
    · rw [if_pos h6, if_pos h6, ite_self]; rfl
    rw [if_neg h6, if_neg h6]
    by_cases h7 : a ≤ 1024 - s
    · have q := (area_cond h5 h6).mp h7
      rw [if_pos h7, if_neg q.1, if_neg q.2]; rfl
    · rw [if_neg h7]
      by_cases g : (1024 : Int32) < a
      · rw [if_pos g]; rfl
      · rw [if_neg g, if_pos (Classical.byContradiction fun w => h7 ((area_cond h5 h6).mpr ⟨g, w⟩))]; rfl
  · have h4' : (3 : Int32) ≤ r := by
      have := Int32.not_le.mp h4
      obtain ⟨j, hj, rfl⟩ := nI_of h3
      have q := (nI_ltI (a := 2) (by decide) hj).mp this
      exact nI_le (a := 3) (by omega) hj
    rw [if_neg h4, if_pos h4']; rfl
theorem vin4 {k : Int32} (h1 : ¬ k < 0) (h2 : ¬ (4 : Int32) ≤ k) : vp_in k 4 := by
  obtain ⟨j, hj, rfl⟩ := nI_of h1
  have : j < 4 := by
    rcases Nat.lt_or_ge j 4 with q | q
    · exact q
    · exact absurd (nI_le (a := 4) q hj) h2
  intro q
  rcases q with q | q
  · exact h1 q
  · rw [nI_clamp (by omega)] at q; omega
theorem o_area (th k a s r : Int32) (b : Bool) (σ : nS) : o_Mo_area k a s r b (Rf th σ) := by
  have z : o_Mo_area_48 k a s r b (Rf th σ) := by
    unfold o_Mo_area_48 o_Mo_area_49 o_Mo_area_62
    rw [fails_t, fails_f, ap2_mk9, ap2_mk9]
    exact O_ite (fun q => absurd q (by decide)) (fun _ => O_ite (fun _ => trivial) (fun q => absurd rfl q))
  refine O_ite (fun _ => z) (fun h1 => O_ite (fun _ => z) (fun h2 => O_ite (fun _ => z) (fun _ => O_ite (fun _ => z) (fun _ => O_ite (fun _ => z) (fun _ => O_ite (fun _ => z) (fun _ => O_ite (fun _ => z) (fun _ => O_ite (fun _ => z) (fun _ => ?_))))))))
  unfold o_Mo_area_49 o_Mo_area_62
  rw [fails_t, fails_f, ap2_mk9, ap2_mk9]
  have v := vin4 h1 h2
  exact O_ite (fun _ => O_ite (fun q => absurd q (by decide)) (fun _ => ⟨v, v, v, v, trivial⟩)) (fun q => absurd rfl q)
theorem ox_area (k a s r : Int32) (b : Bool) (σ : nS) : ox_N_area k a s r b σ := by
  have z : ox_N_area_20 σ := True.intro
  have y : ox_N_area_47 σ := True.intro
  unfold ox_N_area
  generalize (1024 : Int32) - s = t
  refine O_ite (fun _ => z) (fun h1 => O_ite (fun _ => z) (fun h2 => O_ite (fun _ => z) (fun _ => O_ite (fun _ => ?_) (fun _ => z))))
  refine O_ite (fun _ => y) (fun _ => O_ite (fun _ => y) (fun _ => ?_))
  by_cases h7 : a ≤ t
  · rw [if_pos h7]
    refine ⟨vin4 h1 h2, ?_⟩
    unfold ap1
    trivial
  · rw [if_neg h7]; exact y
theorem I_area {c : Nat} (k a s r : Int32) (b : Bool) (σ : nS) (h : Iv c σ) : Iv c (x_N_area k a s r b σ).2 := by
  have ok : Iv c (s_Ar_lay k a s r b σ) := Iv_u (Iv_u (Iv_u (Iv_u h 5 _ _ ⟨by decide, Or.inl (by decide)⟩) 10 _ _ ⟨by decide, Or.inl (by decide)⟩) 6 _ _ ⟨by decide, Or.inl (by decide)⟩) 7 _ _ ⟨by decide, Or.inl (by decide)⟩
  have h0 : Io c (none, σ) := h
  exact (Io_ite h0 (Io_ite h0 (Io_ite h0 (Io_ite (Io_ite h0 (Io_ite h0 (Io_ite (show Io c (some 0, s_Ar_lay k a s r b σ) from ok) h0))) h0))) : Io c (x_N_area k a s r b σ))
