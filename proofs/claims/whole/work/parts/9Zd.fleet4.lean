section FLd
variable {n : Nat} {h : xH} {r : xR} {H : xH} {a w : Int} {F : Nat → Int}
theorem tFl_len {B : Nat} : ∀ (f k : Nat) (a : Int), 0 ≤ a → B + k ≤ 6 → (tFl r B f k a (-1)).2.2 = -1 → B + k + (tFl r B f k a (-1)).1.length ≤ 6
  | 0, k, a, h0, h1, h2 => h1
  | f + 1, k, a, h0, h1, h2 => by
    have hat := tFl1_at (r := r) (B := B) (n := k) (a := a) (w := -1)
    have hp := tPs_at (r := r) (k := 59) (a := (tFl1 r B k a (-1)).2.1) (w := (tFl1 r B k a (-1)).2.2)
    have hz : B + k = 6 → (tFl1 r B k a (-1)).2.2 ≠ -1 := by
      intro c
      unfold tFl1
      rw [if_pos c]
      show (if (-1 : Int) = -1 then a else -1) ≠ -1
      rw [if_pos rfl]
      omega
    have hw : (tPs r 59 (tFl1 r B k a (-1)).2.1 (tFl1 r B k a (-1)).2.2).2.2 = (tFl1 r B k a (-1)).2.2 := by
      unfold tPs
      split <;> rfl
    unfold tFl at h2 ⊢
    split at h2
    · rename_i z
      have hm := tPs_1 z
      rw [if_pos z]
      rw [hm] at h2 ⊢
      have c6 : ¬ B + k = 6 := fun c => hz c (by rw [← hw]; exact hm)
      have := tFl_len f (k + 1) (tPs r 59 (tFl1 r B k a (-1)).2.1 (tFl1 r B k a (-1)).2.2).2.1 (by omega) (by omega) h2
      rw [List.length_cons]
      omega
    · rename_i z
      rw [if_neg z]
      have c6 : ¬ B + k = 6 := fun c => hz c (by rw [← hw]; exact h2)
      show B + k + 1 ≤ 6
      omega
end FLd
