/-! what a method of the reference leaves as it was -/
def fr1 (l : List Nat) (F F' : rf_f) : Prop := ∀ k : Nat, k ∉ l → F' k = F k
def fr2 (l : List Nat) (A A' : rf_A) : Prop := ∀ k : Nat, k ∉ l → A' k = A k
section FR
variable {l l' : List Nat} {F F' F2 : rf_f} {A A' A2 : rf_A} {k : Nat} {q v : Int}
theorem fr1.rf : fr1 l F F := fun _ _ => rfl
theorem fr2.rf : fr2 l A A := fun _ _ => rfl
theorem fr1.up (hk : k ∈ l) (p : fr1 l F F') : fr1 l F (up1 F' k v) := fun j hj => (up1_ne (fun e => hj (by rw [e]; exact hk))).trans (p j hj)
theorem fr2.up (hk : k ∈ l) (p : fr2 l A A') : fr2 l A (up2 A' k q v) := fun j hj => (up2_k (fun e => hj (by rw [e]; exact hk))).trans (p j hj)
theorem fr1.tr (hl : ∀ x ∈ l', x ∈ l) (p : fr1 l F F') (r : fr1 l' F' F2) : fr1 l F F2 := fun j hj => (r j (fun e => hj (hl j e))).trans (p j hj)
theorem fr2.tr (hl : ∀ x ∈ l', x ∈ l) (p : fr2 l A A') (r : fr2 l' A' A2) : fr2 l A A2 := fun j hj => (r j (fun e => hj (hl j e))).trans (p j hj)
theorem fr1.nil (p : fr1 [] F F') : F = F' := (funext (fun k => p k (fun z => by cases z))).symm
theorem fr2.nil (p : fr2 [] A A') : A = A' := (funext (fun k => p k (fun z => by cases z))).symm
end FR
