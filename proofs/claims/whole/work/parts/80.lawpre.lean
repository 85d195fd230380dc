theorem kZ_at {ad : Nat → Nat} {A B : Nat → Prop} {s U : State} {H : Heap} {locs : List Loc} (h : kZ ad A s s.heap) (hS : va_S A s.heap H locs) (hB : ∀ q, B q → A q) (hU : U.heap = H) (hW : s.WarmedH U.vm) : kZ ad B U U.heap := by
  rw [hU]
  exact kZ.moved hW.alike ⟨(h.1.kept hS.2.1).narrow hB, (h.2.kept hS.2.1).narrow hB⟩
-- the law's state: both worlds, apart
def LA0 (s : State) : Nat → Prop := fun q => s.heap.size ≤ q
def lI (s : State) (dC : Nat → ClassId) (dI : Nat → Nat → Nat) (ad : Nat → Nat) (o rw so ba ma o2 : Nat) (r : Nat → Nat) (cR cJ cI cJ2 : ClassId) (S : CSt) (M : MSt) (H : Heap) (locs : List Loc) : Prop := cH dC dI ad o rw so ba ma cR cJ S s H ∧ va_D (LA0 s) (cWs ad o rw so ba ma cR cJ S) ∧ mH dC dI o2 r cI cJ2 M s H ∧ va_D (LA0 s) (mWs o2 r cI cJ2 M) ∧ (∀ (i j : Nat) (x y : Nat × va_E), (cWs ad o rw so ba ma cR cJ S)[i]? = some x → (mWs o2 r cI cJ2 M)[j]? = some y → x.1 ≠ y.1) ∧ va_S (LA0 s) s.heap H locs
section LI
variable {s : State} {dC : Nat → ClassId} {dI : Nat → Nat → Nat} {ad : Nat → Nat} {o rw so ba ma o2 : Nat} {r : Nat → Nat} {cR cJ cI cJ2 : ClassId} {S S' : CSt} {M M' : MSt} {H H1 : Heap} {locs locs1 : List Loc} {t : State}
theorem lI.freeC (h : lI s dC dI ad o rw so ba ma o2 r cR cJ cI cJ2 S M H locs) : ∀ q, va_A (cWs ad o rw so ba ma cR cJ S) H.size q → LA0 s q := va_freeAll h.2.1 h.2.2.2.2.2 (fun _ h => h)
theorem lI.freeM (h : lI s dC dI ad o rw so ba ma o2 r cR cJ cI cJ2 S M H locs) : ∀ q, va_A (mWs o2 r cI cJ2 M) H.size q → LA0 s q := va_freeAll h.2.2.2.1 h.2.2.2.2.2 (fun _ h => h)
theorem lI.callC (h : lI s dC dI ad o rw so ba ma o2 r cR cJ cI cJ2 S M H locs) (ht : t.heap = H1) (hB : cE dC dI ad o rw so ba ma cR cJ (va_A (cWs ad o rw so ba ma cR cJ S) H.size) S' t) (hk : ∀ q : Nat, q < H.size → ¬ va_A (cWs ad o rw so ba ma cR cJ S) H.size q → H1[q]? = H[q]?) (hS : va_S (LA0 s) s.heap H1 locs1) : lI s dC dI ad o rw so ba ma o2 r cR cJ cI cJ2 S' M H1 locs1 := by
  have hF := h.freeC
  obtain ⟨⟨hP, hK⟩, hD, ⟨hPm, hKm⟩, hDm, hx, hS0⟩ := h
  obtain ⟨hP1, -, hD1⟩ := hB
  rw [ht] at hP1
  have ap : ∀ (j : Nat) (y : Nat × va_E), (mWs o2 r cI cJ2 M)[j]? = some y → y.1 < H.size ∧ ¬ va_A (cWs ad o rw so ba ma cR cJ S) H.size y.1 := fun j y hy => by
    have hl := va_at.lt (hPm j y hy)
    refine ⟨hl, fun z => ?_⟩
    rcases z with ⟨k, e, z⟩ | z
    · exact hx k j _ y z hy rfl
    · omega
  refine ⟨⟨hP1, hK⟩, hD1.weaken (fun k q _ h => hF q.1 h), ⟨hPm.kept (fun j y hy => hk y.1 (ap j y hy).1 (ap j y hy).2), hKm⟩, hDm, fun i j x y h1 h2 e => ?_, hS⟩
  exact (ap j y h2).2 (by rw [← e]; exact hD1.2 i x h1)
theorem lI.callM (h : lI s dC dI ad o rw so ba ma o2 r cR cJ cI cJ2 S M H locs) (ht : t.heap = H1) (hB : mE dC dI o2 r cI cJ2 (va_A (mWs o2 r cI cJ2 M) H.size) M' t) (hk : ∀ q : Nat, q < H.size → ¬ va_A (mWs o2 r cI cJ2 M) H.size q → H1[q]? = H[q]?) (hS : va_S (LA0 s) s.heap H1 locs1) : lI s dC dI ad o rw so ba ma o2 r cR cJ cI cJ2 S M' H1 locs1 := by
  have hF := h.freeM
  obtain ⟨⟨hP, hK⟩, hD, ⟨hPm, hKm⟩, hDm, hx, hS0⟩ := h
  obtain ⟨hP1, -, hD1⟩ := hB
  rw [ht] at hP1
  have ap : ∀ (j : Nat) (y : Nat × va_E), (cWs ad o rw so ba ma cR cJ S)[j]? = some y → y.1 < H.size ∧ ¬ va_A (mWs o2 r cI cJ2 M) H.size y.1 := fun j y hy => by
    have hl := va_at.lt (hP j y hy)
    refine ⟨hl, fun z => ?_⟩
    rcases z with ⟨k, e, z⟩ | z
    · exact hx j k y _ hy z rfl
    · omega
  refine ⟨⟨hP.kept (fun j y hy => hk y.1 (ap j y hy).1 (ap j y hy).2), hK⟩, hD, ⟨hP1, hKm⟩, hD1.weaken (fun k q _ h => hF q.1 h), fun i j x y h1 h2 e => ?_, hS⟩
  exact (ap i x h1).2 (by rw [e]; exact hD1.2 j y h2)
end LI
-- what holds all along
def lF (p : Program) (m : MethodId) (meth : Method) (c : Code) (b L : Nat) (xs : Nat → Int32) (s : State) (ad : Nat → Nat) : Prop := p.tables.exec = Jvm.exec ∧ c.code = code ∧ c.maxLocals = 4 ∧ s.vm.findClass RL = some m.cls ∧ (∀ w ∈ zall, w.before #[Value.ref b] s = true) ∧ va_X b L xs s s.heap ∧ b < s.heap.size ∧ kA ad (LA0 s) s s.heap ∧ kZ ad (LA0 s) s s.heap ∧ ¬ ad 0 = ad 1 ∧ L ≤ 3072
theorem l_in {x : Int32} {L : Nat} (hL : L ≤ 3072) (hx : 0 ≤ x.toInt ∧ x.toInt + 6 ≤ (L : Int)) {k : Int32} (hk : 0 ≤ k.toInt ∧ k.toInt ≤ 5) : vp_in (x + k) L := by
  refine vp_in_iff.mpr ?_
  rw [Kit.i32_add (by omega) (by omega)]
  omega
theorem l_in0 {x : Int32} {L : Nat} (hx : 0 ≤ x.toInt ∧ x.toInt + 6 ≤ (L : Int)) : vp_in x L := vp_in_iff.mpr ⟨hx.1, by omega⟩
