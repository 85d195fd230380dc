-- both states tell the same
def b01 (x : Int32) : Int32 := if x = 0 then 0 else 1
def Rel (S : CSt) (M : MSt) : Prop := cInv S ∧ mInv M ∧ cn S = mn M ∧ ccn S = nI (mf M (mn M)) ∧ crs S = ms M ∧ (∀ j, j < cn S → ckd S j = mk M j ∧ cln S j = mf M (j + 1) - mf M j ∧ ∀ p, p < cln S j → cbt S j p = mb M (mf M j + p)) ∧ ∀ i, mf M (mn M) ≤ i → mb M i = 0
def R2i (p : Int32 × CSt) (q : Int32 × MSt) : Prop := p.1 = q.1 ∧ Rel p.2 q.2
def R2l (p : Int64 × CSt) (q : Int64 × MSt) : Prop := p.1 = q.1 ∧ Rel p.2 q.2
