-- one new interval: the world of the methods that make one
def aB (dC : Nat → ClassId) (dI : Nat → Nat → Nat) (ad : Nat → Nat) (sz : Nat) (U : State) : Prop := U.heap.size = sz ∧ va_K (dC, dI) vwCl [] U ∧ kA ad nA U U.heap
def aWs (ad : Nat → Nat) (k : Nat) (u : Int64 × Int64) (a : Nat) : va_W := [(a, .inr (0, [.ref (ad k), .long u.1, .long u.2]))]
def aE (dC : Nat → ClassId) (dI : Nat → Nat → Nat) (ad : Nat → Nat) (k : Nat) (A : Nat → Prop) (u : Int64 × Int64) (a : Nat) (t : State) : Prop := va_P (dC, dI) vwCl (aWs ad k u a) t.heap ∧ va_K (dC, dI) vwCl [] t ∧ va_D A (aWs ad k u a)
section AW
variable {dC : Nat → ClassId} {dI : Nat → Nat → Nat} {ad : Nat → Nat} {sz : Nat} {U s : State} {H H1 : Heap} {g : JFrame} {m : MethodId} {a : Array Value} {A A0 : Nat → Prop} {locs : List Loc} {tys : List (ClassId × FieldType)}
theorem aB_bl (h : aB dC dI ad sz U) : aB dC dI ad sz (U.calling g m a) := ⟨h.1, va_K.moved (u := U) (U := U.calling g m a) (Vm.Alike.refl U.vm) h.2.1, kA.moved (u := U) (U := U.calling g m a) (Vm.Alike.refl U.vm) h.2.2⟩
theorem aB_mv (hk : kA ad nA s H) (hK : va_K (dC, dI) vwCl tys s) (hU : U.heap = H) (hW : s.WarmedH U.vm) : aB dC dI ad H.size U := ⟨by rw [hU], va_K.moved hW.alike (hK.sub [] rfl), by rw [hU]; exact kA.moved hW.alike hk⟩
theorem va_O.new {E : String} {t : Nat} (h : va_O E t nA s H) (hn : ¬ A t) : va_O E t A s H := by
  obtain ⟨cell, h1, h2, h3, -⟩ := h
  exact ⟨cell, h1, h2, h3, hn⟩
theorem va_OF.new {o n d : String} {v : Value} {t : Nat} (h : va_OF o n d v t nA s H) (hn : ¬ A t) : va_OF o n d v t A s H := by
  obtain ⟨cf, k, i, f, cell, h1, h2, h3, h4, h5, -⟩ := h
  exact ⟨cf, k, i, f, cell, h1, h2, h3, h4, h5, hn⟩
theorem va_T.new {ty : FieldType} {t N : Nat} {f : Nat → Value} (h : va_T ty t N f nA s H) (hn : ¬ A t) : va_T ty t N f A s H := by
  obtain ⟨cell, h1, h2, h3, h4, h5, h6, -⟩ := h
  exact ⟨cell, h1, h2, h3, h4, h5, h6, hn⟩
theorem va_O.lt {E : String} {t : Nat} (h : va_O E t A s H) : t < H.size := by
  obtain ⟨cell, h1, -⟩ := h
  exact (Array.getElem?_eq_some_iff.mp h1).1
theorem va_T.lt {ty : FieldType} {t N : Nat} {f : Nat → Value} (h : va_T ty t N f A s H) : t < H.size := by
  obtain ⟨cell, h1, -⟩ := h
  exact (Array.getElem?_eq_some_iff.mp h1).1
theorem va_nil {q : Nat} (h : va_A [] sz q) : sz ≤ q := by
  rcases h with ⟨k, e, h⟩ | h
  · simp at h
  · exact h
theorem va_nil_not {q : Nat} (h : q < H.size) : ¬ va_A [] H.size q := fun z => absurd (va_nil z) (Nat.not_le.mpr h)
theorem kA_new (h : kA ad nA s H) : kA ad (va_A [] H.size) s H := fun i hi => by
  obtain ⟨h0, h1, h2, h3, h4, h5, h6⟩ := h i hi
  have hn := va_nil_not h0.lt
  exact ⟨h0.new hn, h1.new hn, h2.new hn, h3.new hn, h4.new hn, h5.new hn, h6.new hn⟩
theorem iH_new {h k : Nat} {lo hi : Int64} (q : iH h ad k lo hi s H) (hn : ¬ A h) : iA h ad k lo hi A s H := ⟨q.1.new hn, q.2.1.new hn, q.2.2.1.new hn, q.2.2.2.new hn⟩
theorem iH_new0 {h k : Nat} {lo hi : Int64} (q : iH h ad k lo hi s H) : iA h ad k lo hi (va_A [] H.size) s H := iH_new q (va_nil_not q.1.lt)
def rA (h : Nat) (ad : Nat → Nat) (k na n : Nat) (f : Nat → Int64) (A : Nat → Prop) (U : State) (H : Heap) : Prop := va_O "ReckonBench$Row" h A U H ∧ va_OF "ReckonBench$Row" "kind" "LReckonBench$Kind;" (.ref (ad k)) h A U H ∧ va_OF "ReckonBench$Row" "numbers" "[J" (.ref na) h A U H ∧ va_T .long na n (fun j => .long (f j)) A U H
theorem rH_new0 {h k na n : Nat} {f : Nat → Int64} (q : rH h ad k na n f s H) : rA h ad k na n f (va_A [] H.size) s H := ⟨q.1.new (va_nil_not q.1.lt), q.2.1.new (va_nil_not q.1.lt), q.2.2.1.new (va_nil_not q.1.lt), q.2.2.2.new (va_nil_not q.2.2.2.lt)⟩
theorem rA_at {h k na n : Nat} {f : Nat → Int64} (q : rA h ad k na n f A s s.heap) (hS : va_S A s.heap H locs) : rH h ad k na n f s H := ⟨(q.1.kept hS.2.1).narrow (fun _ h => h.elim), (q.2.1.kept hS.2.1).narrow (fun _ h => h.elim), (q.2.2.1.kept hS.2.1).narrow (fun _ h => h.elim), (q.2.2.2.kept hS.2.1).narrow (fun _ h => h.elim)⟩
theorem aI_of {args : Array Value} {k : Nat} {u : Int64 × Int64} {q : Nat} (hts : ∀ w ∈ zall, w.before args s = true) (hK : va_K (dC, dI) vwCl tys s) (hP : va_P (dC, dI) vwCl (aWs ad k u q) H) : iH q ad k u.1 u.2 s H := by
  have F := fun (i : Nat) (hi : i < 3) (v : Value) (hv : _) => oF_of (T := TX0) (C := RX0) (N := 3) (ci := 0) hts zin_X0 hK hP 0 rfl rfl i hi (v := v) hv
  exact ⟨oO_of hK hP 0 (ci := 0) rfl rfl, F 0 (by decide) _ rfl, F 1 (by decide) _ rfl, F 2 (by decide) _ rfl⟩
end AW
theorem iX0_init : Cond.instanceMethod yX0_init ∈ zall ∧ Cond.initialized yX0_init.cls ∈ zall ∧ (.code yX0_init cX0_init 6 none) ∈ zall := ⟨(zin__r13 (.instanceMethod yX0_init) (List.mem_of_getElem? (i := 10) rfl)), (zin__r13 (.initialized RX0) (List.mem_of_getElem? (i := 8) rfl)), (zin__r13 (.code yX0_init cX0_init 6 none) (List.mem_of_getElem? (i := 11) rfl))⟩
def zX0_init : List Cond := .code yX0_init cX0_init 6 none :: zall
set_option maxHeartbeats 4000000 in
set_option maxRecDepth 100000 in
theorem c_X0_init (l : Launch) (dC : Nat → ClassId) (dI : Nat → Nat → Nat) (ad : Nat → Nat) (q k : Nat) (lo hi : Int64) (sz : Nat) : Met l yX0_init zX0_init ({ frames := 1, cells := 0, slots := 0, locals := 12 }) (va_Pc [.ref q, .ref (ad k), .long lo, .long hi] (fun U => U.heap.size = sz ∧ va_P (dC, dI) vwCl [(q, .inr (0, [.null, .long 0, .long 0]))] U.heap ∧ va_K (dC, dI) vwCl [] U ∧ va_D (fun _ => True) [(q, .inr (0, [.null, .long 0, .long 0]))])) (va_Qv (fun u : Int64 × Int64 => u = (lo, hi)) (fun u t => aE dC dI ad k (va_A [(q, .inr (0, [.null, .long 0, .long 0]))] sz) u q t) (va_A [(q, .inr (0, [.null, .long 0, .long 0]))] sz)) 0 0 (va_A [(q, .inr (0, [.null, .long 0, .long 0]))] sz) := by
  refine Met.ofW (cc := cX0_init) (maxL := 6) (ret := none) (by decide) rfl ?_
  intro p e s m args below meth c s₁ B hml hv
  obtain ⟨rfl, hsz, hP, hK, hD0⟩ := hv
  have hx := B.exec
  have hb := B.bytes
  have hr := B.returns
  have hts : ∀ w ∈ zall, w.before _ s = true := fun w h => atoms_spec (ws := zX0_init) B.pre w (List.mem_cons_of_mem _ h)
  have hown : s.vm.findClass RX0 = some m.cls := findClass_of_methodNamed B.named
  have hlocks := B.notSynchronized
  have hin : meth.name = "<init>" := (name_of_methodNamed B.named B.method).1
  subst hsz
  have hD := hD0.self (sz := s.heap.size)
  generalize hAe : va_A [(q, .inr (0, [.null, .long 0, .long 0]))] s.heap.size = A at hD ⊢
  have hA : ∀ q : Nat, s.heap.size ≤ q → A q := fun q h => by rw [← hAe]; exact Or.inr h
  have hS : va_S A s.heap s.heap [] := va_S.rf
  have hP : va_P (dC, dI) vwCl [(q, .inr (0, [.null, .long 0, .long 0]))] s.heap := hP
  have hl := lv_entry ([.ref q, .ref (ad k), .long lo, .long hi]) (n := 6) (Nat.le_of_ble_eq_true rfl)
  rw [lg_entry_eq]
  generalize (lg_sl ([.ref q, .ref (ad k), .long lo, .long hi]) ++ List.replicate (6 - (lg_sl ([.ref q, .ref (ad k), .long lo, .long hi])).length) Slot.unset).toArray = ls at hl ⊢
  have hl : lv_has ls 6 [(0, .ref q), (1, .ref (ad k)), (2, .long lo), (4, .long hi)] := hl
  refine lv_aload_n hx hb dX0_init_0 rfl (lv_at hl 0 rfl) ?_
  refine W.objInit hx hb hown (hts _ (zin__r13 (.methodLink RX0 3 objectInit) (List.mem_of_getElem? (i := 12) rfl))) (hts _ (zin__r1 (.instanceMethod objectInit) (List.mem_of_getElem? (i := 8) rfl))) (hts _ (zin__r1 (.code objectInit ⟨#[0xb1]⟩ 1 none) (List.mem_of_getElem? (i := 9) rfl))) rfl (by rw [hml]; exact hl.1) rfl dX0_init_1 (Nat.le_of_ble_eq_true rfl) (Nat.le_of_ble_eq_true rfl) ?_
  refine W.eq (g2 := F0 m 4 ls []) rfl ?_
  refine lv_aload_n hx hb dX0_init_4 rfl (lv_at hl 0 rfl) ?_
  refine lv_aload_n hx hb dX0_init_5 rfl (lv_at hl 1 rfl) ?_
  refine va_putF (D := (dC, dI)) (ci := 0) (v := .ref (ad k)) (ty := .object "ReckonBench$Kind") (C := RX0) (T := TX0) (N := 3) hx hb hts zin_X0 tyX0 tyX0_ok nmX0 hown hK hP hD hS 0 rfl rfl 0 (by decide) (hts _ (zin__r13 (.fieldLink RX0 9 "ReckonBench$Interval" "kind" "LReckonBench$Kind;") (List.mem_of_getElem? (i := 13) rfl))) (fun _ h9 => h9) rfl hin rfl (by decide +kernel) rfl rfl (Nat.le_of_ble_eq_true rfl) dX0_init_6 (fun H locs hP hD hS => ?_)
  have hP : va_P (dC, dI) vwCl [(q, .inr (0, [.ref (ad k), .long 0, .long 0]))] H := hP
  have hD : va_D A [(q, .inr (0, [.ref (ad k), .long 0, .long 0]))] := hD
  refine lv_aload_n hx hb dX0_init_9 rfl (lv_at hl 0 rfl) ?_
  refine lv_lload_n hx hb dX0_init_10 rfl (lv_at hl 2 rfl) ?_
  refine va_putF (D := (dC, dI)) (ci := 0) (v := .long lo) (ty := .long) (C := RX0) (T := TX0) (N := 3) hx hb hts zin_X0 tyX0 tyX0_ok nmX0 hown hK hP hD hS 0 rfl rfl 1 (by decide) (hts _ (zin__r13 (.fieldLink RX0 13 "ReckonBench$Interval" "low" "J") (List.mem_of_getElem? (i := 14) rfl))) (fun _ h9 => h9) rfl hin rfl (by decide +kernel) rfl rfl (Nat.le_of_ble_eq_true rfl) dX0_init_11 (fun H locs hP hD hS => ?_)
  have hP : va_P (dC, dI) vwCl [(q, .inr (0, [.ref (ad k), .long lo, .long 0]))] H := hP
  have hD : va_D A [(q, .inr (0, [.ref (ad k), .long lo, .long 0]))] := hD
  refine lv_aload_n hx hb dX0_init_14 rfl (lv_at hl 0 rfl) ?_
  refine lv_lload hx hb dX0_init_15 (lv_at hl 3 rfl) ?_
  refine va_putF (D := (dC, dI)) (ci := 0) (v := .long hi) (ty := .long) (C := RX0) (T := TX0) (N := 3) hx hb hts zin_X0 tyX0 tyX0_ok nmX0 hown hK hP hD hS 0 rfl rfl 2 (by decide) (hts _ (zin__r13 (.fieldLink RX0 17 "ReckonBench$Interval" "high" "J") (List.mem_of_getElem? (i := 15) rfl))) (fun _ h9 => h9) rfl hin rfl (by decide +kernel) rfl rfl (Nat.le_of_ble_eq_true rfl) dX0_init_17 (fun H locs hP hD hS => ?_)
  have hP : va_P (dC, dI) vwCl (aWs ad k (lo, hi) q) H := hP
  have hD : va_D A (aWs ad k (lo, hi) q) := hD
  exact W.vret hx hb hr (fun t ht hW => ⟨⟨(lo, hi), rfl, rfl, by rw [ht]; exact hP, va_K.moved hW.alike hK, hD⟩, hS.F ht⟩) hS.2.2 dX0_init_20

