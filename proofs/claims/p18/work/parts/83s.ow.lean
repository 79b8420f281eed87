/-- the class's cells: closed under references, no two references to one cell -/
def OW (Q P : List Nat) (O : WO) (x mo : Nat) : Prop := x ∈ Q ∧ mo ∉ Q ∧ (∀ b, b ∈ Q → b ∈ P) ∧ (∀ b f c, b ∈ Q → O b f = some c → c ∈ Q) ∧ (∀ b f b' f' c, b ∈ Q → b' ∈ Q → O b f = some c → O b' f' = some c → b = b' ∧ f = f')
