-- public methods that may throw: their contracts
def strs : List (Nat × String) := [(57, "no word at this address"), (70, "no such register"), (96, "no such exception or priority"), (102, "no such exception"), (108, "no such area or right"), (110, "not all in memory"), (116, "not 1 to 25 steps"), (149, "no such state")]
abbrev IAE : String := "java/lang/IllegalArgumentException"
abbrev thN : List String := ["java/lang/RuntimeException", "java/lang/Exception"]
def dcls : List MethodName := [Bundle.initS "java/lang/RuntimeException", Bundle.initS "java/lang/Exception", Bundle.initS "java/lang/Throwable"]
def SR (U : State) : Prop := (∀ q ∈ strs, ∃ sa : Nat, vk_R "NestedCore" q.1 q.2 sa U) ∧ (∀ x ∈ dcls, va_Nw (.declares x) U) ∧ va_Nw (.castable IAE IAE) U
theorem SR.warm {s U : State} (hW : s.WarmedH U.vm) (h : SR s) : SR U := ⟨fun q hq => by
  obtain ⟨sa, h1⟩ := h.1 q hq
  exact ⟨sa, vk_R.warm hW h1⟩, fun x hx => va_Nw.warmD hW (h.2.1 x hx), va_Nw.warmC hW h.2.2⟩
theorem SR.same {u U : State} (hv : U.vm = u.vm) (h : SR u) : SR U := ⟨fun q hq => by
  obtain ⟨sa, h1⟩ := h.1 q hq
  exact ⟨sa, vk_R.same hv h1⟩, fun x hx => va_tabs rfl hv.symm (h.2.1 x hx), va_tabs rfl hv.symm h.2.2⟩
set_option maxRecDepth 100000 in
theorem kt_new : Jvm.Cond.classLink "NestedCore" 55 IAE ∈ WS := in_of (l := [Jvm.Cond.classLink "NestedCore" 55 IAE]) (by decide +kernel) _ List.mem_cons_self
theorem kt_ini : Jvm.Cond.initialized IAE ∈ WS := in_of (l := [Jvm.Cond.initialized IAE]) (by decide +kernel) _ List.mem_cons_self
set_option maxRecDepth 100000 in
theorem kt_good : ∀ w ∈ (vx_atS "NestedCore" 59 IAE thN).filter goodWord, w ∈ WS := in_of (by decide +kernel)
set_option maxRecDepth 100000 in
theorem kt_bad : ∀ w ∈ (vx_atS "NestedCore" 59 IAE thN).filter (fun w => !goodWord w), w ∈ Jvm.Cond.castable IAE IAE :: dcls.map Jvm.Cond.declares := by decide +kernel
set_option maxRecDepth 100000 in
theorem kt_ot : ∀ w ∈ Jvm.Cond.classLink "NestedCore" 55 IAE :: Jvm.Cond.initialized IAE :: vx_atS "NestedCore" 59 IAE thN, vx_ot w = true := by decide +kernel
theorem kt_at {args : Array Value} {s : State} (hts : ∀ z ∈ WS, z.before args s = true) (h : SR s) : ∀ w ∈ vx_atS "NestedCore" 59 IAE thN, w.before args s = true := by
  refine vx_hat (fun w hw => hts _ (kt_good w hw)) kt_bad (fun w hw => ?_)
  rcases List.mem_cons.mp hw with rfl | hw
  · exact va_tabs rfl rfl h.2.2
  · obtain ⟨x, hx, rfl⟩ := List.mem_map.mp hw
    exact va_tabs rfl rfl (h.2.1 x hx)
def exT (t : Nat) : (Nat → Prop) → State → Heap → Prop := fun A U H => exC t A U H ∧ vx_Zq Bundle.tN "UNASSIGNED_STACK" Bundle.steD A U H ∧ vx_Zq Bundle.tN "SUPPRESSED_SENTINEL" Bundle.listD A U H
theorem exT_ok (t : Nat) : ExOK (exT t) := ⟨fun A u U H hv h => ⟨(exC_ok t).1 A u U H hv h.1, vx_Zq.moved hv h.2.1, vx_Zq.moved hv h.2.2⟩, fun A U H H1 h hq => ⟨(exC_ok t).2.1 A U H H1 h.1 hq, h.2.1.kept hq, h.2.2.kept hq⟩, fun A B U H h hq => ⟨(exC_ok t).2.2 A B U H h.1 hq, h.2.1.narrow hq, h.2.2.narrow hq⟩⟩
def PcX (D : va_G) (cI cZ : ClassId) (w : nS → va_W) (t : Nat) (avs : List Value) (σ : nS) (sz : Nat) : Array Value → State → Prop := va_Pc avs (fun U => Pre D cI cZ w (exT t) σ sz U ∧ SR U)
abbrev oS : Type := Option Int32 × nS
def XX (D : va_G) (cI cZ : ClassId) (w : nS → va_W) (A : Nat → Prop) (F : oS) : String → State → State → Prop := vx_X (fun u : nS => F = (none, u)) (fun E u t => E = IAE ∧ Pst D cI cZ w A u t) A
def CxV (l : Launch) (D : va_G) (cI cZ : ClassId) (w : nS → va_W) (t : Nat) (y : MethodName) (b : ByteArray) (n : Nat) (rm : Room) (avs : List Value) (σ : nS) (F : oS) : Prop :=
  ∀ sz : Nat, vx_Met l y (cdw y b n none) rm (PcX D cI cZ w t avs σ sz) (va_Qv (fun u => F = (some 0, u)) (Pst D cI cZ w (va_A (w σ) sz)) (va_A (w σ) sz)) (XX D cI cZ w (va_A (w σ) sz) F) 1 6 (va_A (w σ) sz)
def CxI (l : Launch) (D : va_G) (cI cZ : ClassId) (w : nS → va_W) (t : Nat) (y : MethodName) (b : ByteArray) (n : Nat) (rm : Room) (avs : List Value) (σ : nS) (F : oS) : Prop :=
  ∀ sz : Nat, vx_Met l y (cdw y b n (some .int)) rm (PcX D cI cZ w t avs σ sz) (va_Qi (fun r u => F = (some r, u)) (Pst D cI cZ w (va_A (w σ) sz)) (va_A (w σ) sz)) (XX D cI cZ w (va_A (w σ) sz) F) 1 6 (va_A (w σ) sz)
def THR (p : Program) (l : Launch) (e : Env) (rm : Room) (s : State) (m : MethodId) (args : Array Value) (below : List Frame) (meth : Method) (c : Code) (D : va_G) (w : nS → va_W) (A : Nat → Prop) (b : ByteArray) (n : Nat) (F : oS) (Q : State → Prop) : Prop :=
  ∀ (H : Heap) (locs : List Loc) (ls : Array Slot) (pc : Nat) (σ : nS) (isx : Nat) (text : String), St D w A s σ H locs → F = (none, σ) → ls.size = n → (isx, text) ∈ strs → decode b pc = .ok (.new 55, 3) → decode b (pc + 3) = .ok (.dup, 1) → decode b (pc + 4) = .ok (.ldc isx, 2) → decode b (pc + 6) = .ok (.invokespecial 59, 3) → decode b (pc + 9) = .ok (.athrow, 1) → W p l e rm s m args below meth c H locs 0 0 Q (F0 m pc ls [])
section THROWS
variable {p : Program} {l : Launch} {e : Env} {s : State} {m : MethodId} {args : Array Value} {below : List Frame} {meth : Method} {c : Code} {D : va_G} {cI cZ : ClassId} {w : nS → va_W} {A : Nat → Prop} {σ : nS} {b : ByteArray} {n t : Nat} {rm : Room}
theorem thr_of {Qc : Array Value → State → Outcome → State → Prop} {F : oS} (hl : l.stackTraces = false) (hx : p.tables.exec = Jvm.exec) (hb : c.code = b) (hml : c.maxLocals = n) (hown : s.vm.findClass "NestedCore" = some m.cls) (hts : ∀ z ∈ WS, z.before args s = true) (hK : va_K D clS (tyS cI cZ) s) (hE : exT t A s s.heap) (hsr : SR s) (hlk : meth.locks = false) (hnt : ∀ x ∈ c.exceptionTable.toList, False)
    (hR1 : 5 < rm.frames) (hR2 : 82 ≤ rm.locals) (hR3 : 1 ≤ rm.cells) (hR4 : 6 ≤ rm.slots) : THR p l e rm s m args below meth c D w A b n F (vx_MQ below Qc (XX D cI cZ w A F) args s 1 6 A) := by
  intro H locs ls pc σ isx text S hP hsz hmem d0 d3 d4 d6 d9
  obtain ⟨sa, hstr⟩ := hsr.1 _ hmem
  refine vx_throwS (names := thN) (cls := IAE) (own := "NestedCore") (text := text) (sa := sa) (A := A) hx hb hl hown (by decide +kernel) (by decide +kernel) (hts _ kt_new) (hts _ kt_ini) hstr (kt_at hts hsr) kt_ot hE.2.1 hE.2.2 S.2.2 (hsz.trans hml.symm) d0 d3 d4 d6 d9 (fun x hx9 => (hnt x hx9).elim) (by show 2 + 3 < _; exact hR1) (by show 0 + (13 * (2 + 1) + 43) ≤ _; exact hR2) (by omega) (by omega) hlk (fun u hvm hz hq => ?_) S.2.2.2.2 (by omega) (by omega)
  · refine ⟨σ, hP, ⟨rfl, S.1.kept (fun k q hk => hq _ ((S.1 k q hk).lt)), va_K.moved hvm hK, S.2.1⟩, Nat.le_trans S.2.2.1 hz, fun q h1 h2 => ?_⟩
    rw [hq q (Nat.lt_of_lt_of_le h1 S.2.2.1)]
    exact S.2.2.2.1 q h1 h2
theorem mexV {y : MethodName} {avs : List Value} {F : oS} (hl : l.stackTraces = false) (hy : y.cls = "NestedCore") (hlen : (lg_sl avs).length ≤ n) (hR1 : 5 < rm.frames) (hR2 : 82 ≤ rm.locals) (hR3 : 1 ≤ rm.cells) (hR4 : 6 ≤ rm.slots)
    (body : ∀ (p : Program) (e : Env) (s : State) (m : MethodId) (args : Array Value) (below : List Frame) (meth : Method) (c : Code) (A : Nat → Prop) (Q : State → Prop) (ls : Array Slot), Fx p s m args meth c b n y.cls D cI cZ A (exC t) → St D w A s σ s.heap [] → lv_has ls n (lv_args 0 avs) →
      (∀ (H : Heap) (locs : List Loc) (ls : Array Slot) (pc : Nat) (σ' : nS), St D w A s σ' H locs → F = (some 0, σ') → decode b pc = .ok (.return_, 1) → W p l e rm s m args below meth c H locs 0 0 Q (F0 m pc ls [])) → THR p l e rm s m args below meth c D w A b n F Q →
      W p l e rm s m args below meth c s.heap [] 0 0 Q (F0 m 0 ls [])) : CxV l D cI cZ w t y b n rm avs σ F := by
  intro sz
  refine vx_ofW (cc := b) (maxL := n) (ret := none) (by rw [hy]; decide) rfl ?_
  intro p e s m args below meth c s₁ B hml hnt hv
  obtain ⟨rfl, ⟨hsz, hP, hK, hD0, hE⟩, hsr⟩ := hv
  subst hsz
  have hl0 := lv_entry avs (n := n) hlen
  rw [lg_entry_eq]
  generalize (lg_sl avs ++ List.replicate (n - (lg_sl avs).length) Slot.unset).toArray = ls at hl0 ⊢
  have hlk : meth.locks = false := B.notSynchronized
  have hts : ∀ z ∈ WS, z.before _ s = true := fun z hz => atoms_spec (ws := cdw y b n none) B.pre z (List.mem_cons_of_mem _ hz)
  have hown : s.vm.findClass y.cls = some m.cls := findClass_of_methodNamed B.named
  refine body p e s m _ below meth c (va_A (w σ) s.heap.size) _ ls ⟨B.exec, B.bytes, hml, hown, hts, hK, fun q h => Or.inr h, hE.1, hlk, exC_ok t⟩ ⟨hP, hD0.self, va_S.rf⟩ hl0 ?_ (thr_of hl B.exec B.bytes hml (by rw [← hy]; exact hown) hts hK hE hsr hlk hnt hR1 hR2 hR3 hR4)
  intro H locs ls pc σ' S hq hd
  refine vx_ret (W.widen (k := 1) (n := 6) (by omega) (by omega) ?_)
  exact W.vret B.exec B.bytes B.returns (fun t ht hW => ⟨⟨σ', rfl, hq, by rw [ht]; exact S.1, va_K.moved hW.alike hK, S.2.1⟩, S.2.2.F ht⟩) S.2.2.2.2 hd
theorem mexI {y : MethodName} {avs : List Value} {F : oS} (hl : l.stackTraces = false) (hy : y.cls = "NestedCore") (hlen : (lg_sl avs).length ≤ n) (hR1 : 5 < rm.frames) (hR2 : 82 ≤ rm.locals) (hR3 : 1 ≤ rm.cells) (hR4 : 6 ≤ rm.slots)
    (body : ∀ (p : Program) (e : Env) (s : State) (m : MethodId) (args : Array Value) (below : List Frame) (meth : Method) (c : Code) (A : Nat → Prop) (Q : State → Prop) (ls : Array Slot), Fx p s m args meth c b n y.cls D cI cZ A (exC t) → St D w A s σ s.heap [] → lv_has ls n (lv_args 0 avs) →
      (∀ (H : Heap) (locs : List Loc) (ls : Array Slot) (pc : Nat) (r : Int32) (σ' : nS), St D w A s σ' H locs → F = (some r, σ') → decode b pc = .ok (.ireturn, 1) → W p l e rm s m args below meth c H locs 0 0 Q (F0 m pc ls [.int r])) → THR p l e rm s m args below meth c D w A b n F Q →
      W p l e rm s m args below meth c s.heap [] 0 0 Q (F0 m 0 ls [])) : CxI l D cI cZ w t y b n rm avs σ F := by
  intro sz
  refine vx_ofW (cc := b) (maxL := n) (ret := some .int) (by rw [hy]; decide) rfl ?_
  intro p e s m args below meth c s₁ B hml hnt hv
  obtain ⟨rfl, ⟨hsz, hP, hK, hD0, hE⟩, hsr⟩ := hv
  subst hsz
  have hl0 := lv_entry avs (n := n) hlen
  rw [lg_entry_eq]
  generalize (lg_sl avs ++ List.replicate (n - (lg_sl avs).length) Slot.unset).toArray = ls at hl0 ⊢
  have hlk : meth.locks = false := B.notSynchronized
  have hts : ∀ z ∈ WS, z.before _ s = true := fun z hz => atoms_spec (ws := cdw y b n (some .int)) B.pre z (List.mem_cons_of_mem _ hz)
  have hown : s.vm.findClass y.cls = some m.cls := findClass_of_methodNamed B.named
  refine body p e s m _ below meth c (va_A (w σ) s.heap.size) _ ls ⟨B.exec, B.bytes, hml, hown, hts, hK, fun q h => Or.inr h, hE.1, hlk, exC_ok t⟩ ⟨hP, hD0.self, va_S.rf⟩ hl0 ?_ (thr_of hl B.exec B.bytes hml (by rw [← hy]; exact hown) hts hK hE hsr hlk hnt hR1 hR2 hR3 hR4)
  intro H locs ls pc r σ' S hq hd
  refine vx_ret (W.widen (k := 1) (n := 6) (by omega) (by omega) ?_)
  exact W.iret B.exec B.bytes B.returns (fun t ht hW => ⟨⟨r, σ', rfl, hq, by rw [ht]; exact S.1, va_K.moved hW.alike hK, S.2.1⟩, S.2.2.F ht⟩) S.2.2.2.2 hd
end THROWS
