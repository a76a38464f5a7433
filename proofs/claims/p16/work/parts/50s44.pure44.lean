/-! the tree's functions read the half at hand alone -/
def WIN (t X : ST) (S : Int) : Prop := X.1 70 6 = t.1 70 6 ∧ (∀ q i, 77 ≤ q → q ≤ 88 → CJ t S i → gI X q i = gI t q i) ∧ (∀ q b, 90 ≤ q → q ≤ 92 → CB t S b → gI X q b = gI t q b) ∧ (∀ k, 0 ≤ k → k < gI t 75 S → gI X 93 (40 * S + k) = gI t 93 (40 * S + k)) ∧ (∀ q, 73 ≤ q → q ≤ 76 → gI X q S = gI t q S)
