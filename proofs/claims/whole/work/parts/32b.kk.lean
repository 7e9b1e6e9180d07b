/-! ===== pieces go on through branches ===== -/
def k_sq (o : Option (xF × xS)) (b : xP) : Option (xF × xS) := match o with
  | some (.inl 0, t) => b t
  | some (.inl (k + 1), t) => some (.inl (k + 1), t)
  | some (.inr v, t) => some (.inr v, t)
  | none => none
def k_blk (o : Option (xF × xS)) : Option (xF × xS) := match o with
  | some (.inl 0, t) => some (.inl 0, t)
  | some (.inl (k + 1), t) => some (.inl k, t)
  | some (.inr v, t) => some (.inr v, t)
  | none => none
def k_fin (o : Option (xF × xS)) : Option (Option xV × xH) := match o with
  | some (.inr v, t) => some (v, t.2.2)
  | _ => none
section KK
variable {a b : xP} {s t : xS} {o o1 o2 : Option (xF × xS)} {k : Nat} {v : Option xV}
theorem k_p_sq : p_sq a b s = k_sq (a s) b := rfl
theorem k_p_blk : p_blk a s = k_blk (a s) := rfl
theorem k_sq0 : k_sq (some (.inl 0, t)) b = b t := rfl
theorem k_sq1 : k_sq (some (.inl (k + 1), t)) b = some (.inl (k + 1), t) := rfl
theorem k_sq11 : k_sq (some (.inl 1, t)) b = some (.inl 1, t) := rfl
theorem k_sq12 : k_sq (some (.inl 2, t)) b = some (.inl 2, t) := rfl
theorem k_sq13 : k_sq (some (.inl 3, t)) b = some (.inl 3, t) := rfl
theorem k_sq14 : k_sq (some (.inl 4, t)) b = some (.inl 4, t) := rfl
theorem k_sq15 : k_sq (some (.inl 5, t)) b = some (.inl 5, t) := rfl
theorem k_sq16 : k_sq (some (.inl 6, t)) b = some (.inl 6, t) := rfl
theorem k_sq17 : k_sq (some (.inl 7, t)) b = some (.inl 7, t) := rfl
theorem k_sq18 : k_sq (some (.inl 8, t)) b = some (.inl 8, t) := rfl
theorem k_sq19 : k_sq (some (.inl 9, t)) b = some (.inl 9, t) := rfl
theorem k_sq20 : k_sq (some (.inl 10, t)) b = some (.inl 10, t) := rfl
theorem k_sq21 : k_sq (some (.inl 11, t)) b = some (.inl 11, t) := rfl
theorem k_sq22 : k_sq (some (.inl 12, t)) b = some (.inl 12, t) := rfl
theorem k_sq23 : k_sq (some (.inl 13, t)) b = some (.inl 13, t) := rfl
theorem k_sq24 : k_sq (some (.inl 14, t)) b = some (.inl 14, t) := rfl
theorem k_sq25 : k_sq (some (.inl 15, t)) b = some (.inl 15, t) := rfl
theorem k_sqr : k_sq (some (.inr v, t)) b = some (.inr v, t) := rfl
theorem k_sqi {c : Prop} [Decidable c] : k_sq (if c then o1 else o2) b = if c then k_sq o1 b else k_sq o2 b := by split <;> rfl
theorem k_blk0 : k_blk (some (.inl 0, t)) = some (.inl 0, t) := rfl
theorem k_blk1 : k_blk (some (.inl 1, t)) = some (.inl 0, t) := rfl
theorem k_blk2 : k_blk (some (.inl 2, t)) = some (.inl 1, t) := rfl
theorem k_blk3 : k_blk (some (.inl 3, t)) = some (.inl 2, t) := rfl
theorem k_blk4 : k_blk (some (.inl 4, t)) = some (.inl 3, t) := rfl
theorem k_blk5 : k_blk (some (.inl 5, t)) = some (.inl 4, t) := rfl
theorem k_blk6 : k_blk (some (.inl 6, t)) = some (.inl 5, t) := rfl
theorem k_blk7 : k_blk (some (.inl 7, t)) = some (.inl 6, t) := rfl
theorem k_blk8 : k_blk (some (.inl 8, t)) = some (.inl 7, t) := rfl
theorem k_blk9 : k_blk (some (.inl 9, t)) = some (.inl 8, t) := rfl
theorem k_blk10 : k_blk (some (.inl 10, t)) = some (.inl 9, t) := rfl
theorem k_blk11 : k_blk (some (.inl 11, t)) = some (.inl 10, t) := rfl
theorem k_blk12 : k_blk (some (.inl 12, t)) = some (.inl 11, t) := rfl
theorem k_blk13 : k_blk (some (.inl 13, t)) = some (.inl 12, t) := rfl
theorem k_blk14 : k_blk (some (.inl 14, t)) = some (.inl 13, t) := rfl
theorem k_blk15 : k_blk (some (.inl 15, t)) = some (.inl 14, t) := rfl
theorem k_blkr : k_blk (some (.inr v, t)) = some (.inr v, t) := rfl
theorem k_blki {c : Prop} [Decidable c] : k_blk (if c then o1 else o2) = if c then k_blk o1 else k_blk o2 := by split <;> rfl
theorem k_finr : k_fin (some (.inr v, t)) = some (v, t.2.2) := rfl
theorem k_fini {c : Prop} [Decidable c] : k_fin (if c then o1 else o2) = if c then k_fin o1 else k_fin o2 := by split <;> rfl
theorem k_run {nL : Nat} {f : xP} {a L : List xV} {H : xH} (hL : x_args a ++ List.replicate (nL - (x_args a).length) (.inr (.inr (.inr 2))) = L) (hl : (x_args a).length ≤ nL) : x_run nL f a H = k_fin (f (L, [], H)) := by
  unfold x_run
  rw [if_pos hl, hL]
  unfold k_fin
  rfl
theorem k_mapi {α β : Type} {f : α → β} {c : Prop} [Decidable c] {x y : Option α} : Option.map f (if c then x else y) = if c then Option.map f x else Option.map f y := by split <;> rfl
theorem k_bindi {α β : Type} {f : α → Option β} {c : Prop} [Decidable c] {x y : Option α} : Option.bind (if c then x else y) f = if c then Option.bind x f else Option.bind y f := by split <;> rfl
theorem k_if1 {cd : Jvm.ClassFile.Cond} {L S : List xV} {y : Int} {H : xH} : p_if1 cd a b (L, .inl y :: S, H) = if x_cmp cd y 0 = true then b (L, S, H) else a (L, S, H) := rfl
theorem k_if2 {cd : Jvm.ClassFile.Cond} {L S : List xV} {y z : Int} {H : xH} : p_if2 cd a b (L, .inl z :: .inl y :: S, H) = if x_cmp cd y z = true then b (L, S, H) else a (L, S, H) := rfl
theorem k_ops {G : xG} {rg : Nat} {l : List Instr} {L S : List xV} {H : xH} : p_ops x_dd G rg l (L, S, H) = Option.map (fun t => (.inl 0, t)) (xIs x_dd G rg l (L, S, H)) := rfl
theorem k_br : p_br k s = some (.inl k, s) := rfl
theorem k_rv {L : List xV} {H : xH} : p_rv (L, [], H) = some (.inr none, (L, [], H)) := rfl
theorem k_ri {L : List xV} {H : xH} {n : Int} : p_ri (L, [.inl n], H) = some (.inr (some (.inl n)), (L, [], H)) := rfl
theorem k_rl {L : List xV} {H : xH} {n : Int} : p_rl (L, [.inr (.inl n)], H) = some (.inr (some (.inr (.inl n))), (L, [], H)) := rfl
theorem k_rz {L : List xV} {H : xH} {n : Int} (h : n = 0 ∨ n = 1) : p_rz (L, [.inl n], H) = some (.inr (some (.inl n)), (L, [], H)) := by simp [p_rz, h]
theorem k_rzi {L : List xV} {H : xH} {c : Prop} [Decidable c] : p_rz (L, [.inl (if c then 1 else 0)], H) = some (.inr (some (.inl (if c then 1 else 0))), (L, [], H)) := by by_cases h : c <;> simp [p_rz, h]
theorem k_01d {c : Prop} [Decidable c] : ((if c then (1 : Int) else 0) = 1) = c := by by_cases h : c <;> simp [h]
theorem k_sw {ks : List (Int × Nat)} {d : Nat} {L S : List xV} {n : Int} {H : xH} : p_sw ks d (L, .inl n :: S, H) = some (.inl (x_key ks d n), (L, S, H)) := rfl
theorem k_01a {c : Prop} [Decidable c] : ((if c then (1 : Int) else 0) = 0) = ¬ c := by by_cases h : c <;> simp [h]
theorem k_01b {c : Prop} [Decidable c] : (¬ (if c then (1 : Int) else 0) = 0) = c := by by_cases h : c <;> simp [h]
theorem k_01c {c : Prop} [Decidable c] : ((if c then (1 : Int) else 0) = 0 ∨ (if c then (1 : Int) else 0) = 1) = True := by by_cases h : c <;> simp [h]
theorem k_ifn {α : Type} {c : Prop} [Decidable c] {x y : α} : (if ¬ c then x else y) = if c then y else x := by by_cases h : c <;> simp [h]
end KK
/-- a loop that counts, from a state that is its first -/
theorem k_for {a : xP} (s : Nat → xS) (N : Nat) {k : Nat} {t e : xS} (h0 : s 0 = t) (he : a (s N) = some (.inl (k + 2), e)) (hs : ∀ i, i < N → a (s i) = some (.inl 1, s (i + 1))) : p_lop a t = some (.inl (k + 1), e) := by
  rw [← h0]
  exact e_for hs he
