/-! how many nodes a term is laid of, and which variables it uses -/
def ss (t : Int → Int) : Nat → Int → Nat
  | 0, _ => 0
  | k + 1, i => if t i = 0 then ss t k (i + 1) + ss t k (i + 1 + ss t k (i + 1)) + 1 else if t i = 1 then ss t k (i + 1) + 1 else 1
def us (t : Int → Int) : Nat → Int → Int → Int → Bool
  | 0, _, _, _ => false
  | k + 1, d, i, v => if t i = 0 then (us t k d (i + 1) v || us t k d (i + 1 + ss t k (i + 1)) v) else if t i = 1 then us t k (d + 1) (i + 1) v else decide (v = d - 1 - (t i - 2))
def cu (g : Int → Bool) : Nat → Nat
  | 0 => 0
  | n + 1 => cu g n + (if g n = true then 1 else 0)
def ca (g1 g2 : Int → Bool) (c1 c2 n : Nat) : Nat := 1 + c1 + c2 + cu g2 n + cu (fun v => g1 v && g2 v) n
def cl (g : Int → Bool) (c : Nat) (d : Int) : Nat := 1 + c + (if g d = true then 0 else 1)
def cs (t : Int → Int) : Nat → Int → Int → Nat
  | 0, _, _ => 0
  | k + 1, d, i => if t i = 0 then ca (us t k d (i + 1)) (us t k d (i + 1 + ss t k (i + 1))) (cs t k d (i + 1)) (cs t k d (i + 1 + ss t k (i + 1))) d.toNat else if t i = 1 then cl (us t k (d + 1) (i + 1)) (cs t k (d + 1) (i + 1)) d else 1
theorem cu_nx {g : Int → Bool} {i : Int} (hi : 0 ≤ i) : (g i = true → cu g (i + 1).toNat = cu g i.toNat + 1) ∧ (g i ≠ true → cu g (i + 1).toNat = cu g i.toNat) := by
  rw [show (i + 1).toNat = i.toNat + 1 by omega]
  have h : ((i.toNat : Nat) : Int) = i := by omega
  have h2 : cu g (i.toNat + 1) = cu g i.toNat + (if g (i.toNat : Int) = true then 1 else 0) := rfl
  rw [h2, h]
  exact ⟨fun z => by rw [if_pos z], fun z => by rw [if_neg z]; omega⟩
theorem cu_eq {g g' : Int → Bool} : ∀ n : Nat, (∀ v : Int, 0 ≤ v → v < n → g' v = g v) → cu g' n = cu g n
  | 0, _ => rfl
  | n + 1, h => by
    have h1 := cu_eq n (fun v a b => h v a (by omega))
    unfold cu
    rw [h1, h n (by omega) (by omega)]
