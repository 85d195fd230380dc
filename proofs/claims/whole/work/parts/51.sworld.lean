-- the sorter's world: its two rows, and the row that it sorts
abbrev SSt : Type := (Nat → Int64) × (Nat → Int64) × (Nat → Int64)
abbrev sf (S : SSt) : Nat → Int64 := S.1
abbrev sb (S : SSt) : Nat → Int64 := S.2.1
abbrev sm (S : SSt) : Nat → Int64 := S.2.2
abbrev sset_f (S : SSt) (v : Nat → Int64) : SSt := (v, sb S, sm S)
abbrev sset_b (S : SSt) (v : Nat → Int64) : SSt := (sf S, v, sm S)
abbrev sset_m (S : SSt) (v : Nat → Int64) : SSt := (sf S, sb S, v)
def sWs (ad : Nat → Nat) (w w_k w_na w_n so ba ma : Nat) (cJ : ClassId) (S : SSt) : va_W := [(so, .inr (3, [.ref ba, .ref ma])), (ba, .inl (cJ, 500, .inr (.inl (sb S)))), (ma, .inl (cJ, 500, .inr (.inl (sm S)))), (w, .inr (2, [.ref (ad w_k), .ref w_na])), (w_na, .inl (cJ, w_n, .inr (.inl (sf S))))]
def sH (dC : Nat → ClassId) (dI : Nat → Nat → Nat) (ad : Nat → Nat) (w w_k w_na w_n so ba ma : Nat) (cJ : ClassId) (S : SSt) (U : State) (H : Heap) : Prop := va_P (dC, dI) vwCl (sWs ad w w_k w_na w_n so ba ma cJ S) H ∧ va_K (dC, dI) vwCl [(cJ, .long)] U
def sB (dC : Nat → ClassId) (dI : Nat → Nat → Nat) (ad : Nat → Nat) (w w_k w_na w_n so ba ma : Nat) (cJ : ClassId) (sz : Nat) (S : SSt) (U : State) : Prop := U.heap.size = sz ∧ va_P (dC, dI) vwCl (sWs ad w w_k w_na w_n so ba ma cJ S) U.heap ∧ va_K (dC, dI) vwCl [(cJ, .long)] U ∧ va_D (fun _ => True) (sWs ad w w_k w_na w_n so ba ma cJ S) ∧ kA ad (va_A (sWs ad w w_k w_na w_n so ba ma cJ S) sz) U U.heap
def sE (dC : Nat → ClassId) (dI : Nat → Nat → Nat) (ad : Nat → Nat) (w w_k w_na w_n so ba ma : Nat) (cJ : ClassId) (A : Nat → Prop) (S : SSt) (t : State) : Prop := va_P (dC, dI) vwCl (sWs ad w w_k w_na w_n so ba ma cJ S) t.heap ∧ va_K (dC, dI) vwCl [(cJ, .long)] t ∧ va_D A (sWs ad w w_k w_na w_n so ba ma cJ S)
def tsU (so ba : Nat) (be : Nat → Int64) (U : State) : Prop := va_O "ReckonBench$Sorter" so nA U U.heap ∧ va_OF "ReckonBench$Sorter" "before" "[J" (.ref ba) so nA U U.heap ∧ va_T .long ba 500 (fun j => .long (be j)) nA U U.heap
def tsH (so ba : Nat) (be : Nat → Int64) (U : State) (H : Heap) : Prop := va_O "ReckonBench$Sorter" so nA U H ∧ va_OF "ReckonBench$Sorter" "before" "[J" (.ref ba) so nA U H ∧ va_T .long ba 500 (fun j => .long (be j)) nA U H
section SWs
variable {dC : Nat → ClassId} {dI : Nat → Nat → Nat} {ad : Nat → Nat} {w w_k w_na w_n so ba ma : Nat} {cJ : ClassId} {S : SSt} {s U : State} {H : Heap} {sz : Nat} {g : JFrame} {m : MethodId} {a : Array Value} {A : Nat → Prop} {be : Nat → Int64}
theorem tsU_bl (q : tsU so ba be U) : tsU so ba be (U.calling g m a) := ⟨va_O.moved (u := U) (U := U.calling g m a) (Vm.Alike.refl U.vm) q.1, va_OF.moved (u := U) (U := U.calling g m a) (Vm.Alike.refl U.vm) q.2.1, va_T.moved (u := U) (U := U.calling g m a) (Vm.Alike.refl U.vm) q.2.2⟩
theorem tsU_mvH (q : tsH so ba be s H) (hU : U.heap = H) (hW : s.WarmedH U.vm) : tsU so ba be U := by
  unfold tsU
  rw [hU]
  exact ⟨q.1.moved hW.alike, q.2.1.moved hW.alike, q.2.2.moved hW.alike⟩
theorem sB_bl (h : sB dC dI ad w w_k w_na w_n so ba ma cJ sz S U) : sB dC dI ad w w_k w_na w_n so ba ma cJ sz S (U.calling g m a) := ⟨h.1, h.2.1, va_K.moved (u := U) (U := U.calling g m a) (Vm.Alike.refl U.vm) h.2.2.1, h.2.2.2.1, kA.moved (u := U) (U := U.calling g m a) (Vm.Alike.refl U.vm) h.2.2.2.2⟩
theorem sB_mv (h : sH dC dI ad w w_k w_na w_n so ba ma cJ S s H) (hD : va_D A (sWs ad w w_k w_na w_n so ba ma cJ S)) (hk : kA ad (va_A (sWs ad w w_k w_na w_n so ba ma cJ S) H.size) s H) (hU : U.heap = H) (hW : s.WarmedH U.vm) : sB dC dI ad w w_k w_na w_n so ba ma cJ H.size S U := by
  refine ⟨by rw [hU], by rw [hU]; exact h.1, va_K.moved hW.alike h.2, hD.weaken (fun _ _ _ _ => trivial), ?_⟩
  rw [hU]
  exact kA.moved hW.alike hk
theorem sW_rv (h : sH dC dI ad w w_k w_na w_n so ba ma cJ S s H) : ∃ cell : Cell, H[so]? = some cell ∧ cell.vm.isStatics = false ∧ s.vm.findClass RX4 = some cell.cls := va_recv h.2 h.1 (ci := 3) (q0 := 0) rfl rfl
theorem sR_of {args : Array Value} (hts : ∀ w ∈ zall, w.before args s = true) (h : sH dC dI ad w w_k w_na w_n so ba ma cJ S s H) : rH w ad w_k w_na w_n (sf S) s H := by
  obtain ⟨hP, hK⟩ := h
  have F := fun (k : Nat) (hk : k < 2) (v : Value) (hv : _) => oF_of (T := TX3) (C := RX3) (N := 2) (ci := 2) hts zin_X3 hK hP 3 rfl rfl k hk (v := v) hv
  exact ⟨oO_of hK hP 3 (ci := 2) rfl rfl, F 0 (by decide) _ rfl, F 1 (by decide) _ rfl, oT_long hK hP 4 0 rfl rfl⟩
theorem sT_of {args : Array Value} (hts : ∀ w ∈ zall, w.before args s = true) (h : sH dC dI ad w w_k w_na w_n so ba ma cJ S s H) : tsH so ba (sb S) s H := by
  obtain ⟨hP, hK⟩ := h
  have F := fun (k : Nat) (hk : k < 2) (v : Value) (hv : _) => oF_of (T := TX4) (C := RX4) (N := 2) (ci := 3) hts zin_X4 hK hP 0 rfl rfl k hk (v := v) hv
  exact ⟨oO_of hK hP 0 (ci := 3) rfl rfl, F 0 (by decide) _ rfl, oT_long hK hP 1 0 rfl rfl⟩
end SWs
theorem gInv.at500 {lo w : Nat} {q : Int32} {n : Nat} (h : gInv lo q n) (hn : w ≤ 500) (hc : ¬ nI w ≤ q) : vp_in q 500 := by
  have := vp_in_iff.mp (h.at hn hc)
  exact vp_in_iff.mpr ⟨this.1, by omega⟩
-- merging
def mgP (a b c : Int32) (n : Nat) : Prop := 0 ≤ a.toInt ∧ a.toInt ≤ b.toInt ∧ b.toInt ≤ c.toInt ∧ c.toInt ≤ (n : Int)
def mgI (a b c q7 q8 q9 : Int32) (n : Nat) : Prop := a.toInt ≤ q7.toInt ∧ q7.toInt ≤ b.toInt ∧ b.toInt ≤ q8.toInt ∧ q8.toInt ≤ c.toInt ∧ q9.toInt = q7.toInt + q8.toInt - b.toInt ∧ 501 ≤ q9.toInt + n
section MG
variable {a b c q7 q8 q9 : Int32} {n w : Nat}
theorem mgI.init (hn : w ≤ 500) (hg : mgP a b c w) : mgI a b c a b a 501 := by
  obtain ⟨h1, h2, h3, h4⟩ := hg
  exact ⟨by omega, by omega, by omega, by omega, by omega, by omega⟩
theorem mgI.zero (hn : w ≤ 500) (hg : mgP a b c w) (h : mgI a b c q7 q8 q9 0) : False := by
  obtain ⟨h1, h2, h3, h4⟩ := hg
  obtain ⟨g1, g2, g3, g4, g5, g6⟩ := h
  omega
theorem nle_i {x y : Int32} (h : ¬ x ≤ y) : y.toInt < x.toInt := by
  rw [Int32.le_iff_toInt_le] at h
  omega
theorem mgI.m (h : mgI a b c q7 q8 q9 n) (h1 : ¬ c ≤ q9) (h2 : c ≤ q8) : ¬ b ≤ q7 := by
  obtain ⟨g1, g2, g3, g4, g5, g6⟩ := h
  have h1 := nle_i h1
  rw [Int32.le_iff_toInt_le] at h2 ⊢
  omega
theorem mgI.l (hg : mgP a b c w) (h : mgI a b c q7 q8 q9 n) (h1 : ¬ b ≤ q7) : vp_in q7 w := by
  obtain ⟨h2, h3, h4, h5⟩ := hg
  obtain ⟨g1, g2, g3, g4, g5, g6⟩ := h
  have h1 := nle_i h1
  exact vp_in_iff.mpr ⟨by omega, by omega⟩
theorem mgI.r (hg : mgP a b c w) (h : mgI a b c q7 q8 q9 n) (h1 : ¬ c ≤ q8) : vp_in q8 w := by
  obtain ⟨h2, h3, h4, h5⟩ := hg
  obtain ⟨g1, g2, g3, g4, g5, g6⟩ := h
  have h1 := nle_i h1
  exact vp_in_iff.mpr ⟨by omega, by omega⟩
theorem mgI.at9 (hn : w ≤ 500) (hg : mgP a b c w) (h : mgI a b c q7 q8 q9 n) (h1 : ¬ c ≤ q9) : vp_in q9 500 := by
  obtain ⟨h2, h3, h4, h5⟩ := hg
  obtain ⟨g1, g2, g3, g4, g5, g6⟩ := h
  have h1 := nle_i h1
  exact vp_in_iff.mpr ⟨by omega, by omega⟩
theorem mgI.left (hn : w ≤ 500) (hg : mgP a b c w) (h : mgI a b c q7 q8 q9 (Nat.succ n)) (h1 : ¬ c ≤ q9) (h6 : ¬ b ≤ q7) : mgI a b c (q7 + (1 : Int32)) q8 (q9 + (1 : Int32)) n := by
  obtain ⟨h2, h3, h4, h5⟩ := hg
  obtain ⟨g1, g2, g3, g4, g5, g6⟩ := h
  have h1 := nle_i h1
  have h6 := nle_i h6
  have e7 := inc_val (q := q7) (by omega)
  have e9 := inc_val (q := q9) (by omega)
  exact ⟨by omega, by omega, by omega, by omega, by omega, by omega⟩
theorem mgI.right (hn : w ≤ 500) (hg : mgP a b c w) (h : mgI a b c q7 q8 q9 (Nat.succ n)) (h1 : ¬ c ≤ q9) (h6 : ¬ c ≤ q8) : mgI a b c q7 (q8 + (1 : Int32)) (q9 + (1 : Int32)) n := by
  obtain ⟨h2, h3, h4, h5⟩ := hg
  obtain ⟨g1, g2, g3, g4, g5, g6⟩ := h
  have h1 := nle_i h1
  have h6 := nle_i h6
  have e8 := inc_val (q := q8) (by omega)
  have e9 := inc_val (q := q9) (by omega)
  exact ⟨by omega, by omega, by omega, by omega, by omega, by omega⟩
end MG
