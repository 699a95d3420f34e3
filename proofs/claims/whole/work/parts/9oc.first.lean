/-! ===== the first memory ===== -/
def S00 : Mem := fun o i => if o = 0 ∧ i = 8 then 10 else if o = 18 ∧ i = 15 then 10 else 0
theorem S00_0 {o : Nat} (h : o ≠ 0) (h2 : o ≠ 18) : S00 o = fun _ => 0 := by
  funext i
  unfold S00
  rw [if_neg (fun q => h q.1), if_neg (fun q => h2 q.1)]
def Z0 : Fn := fun _ => 0
theorem sI_Z (n : Nat) : sI (fun _ => 0) n = 0 := sI_zero (fun _ _ _ => rfl)
theorem row_Z (x : Int) : row Z0 x = 0 := sI_Z 9
theorem col_Z (x : Int) : col Z0 x = 0 := sI_Z 9
theorem tot_Z : tot Z0 = 0 := sI_zero (fun k _ _ => row_Z k)
theorem bl_Z (x : Int) : bl Z0 x = 0 := by
  unfold bl
  rw [row_Z, col_Z]; rfl
theorem tg_Z {R Cn r c : Int} : tg R Cn Z0 r c = 0 := by
  unfold tg Z0
  split <;> rfl
theorem Iv_00 : Iv S00 := by
  have e2 : S00 2 = Z0 := S00_0 (by decide) (by decide)
  have e3 : S00 3 = Z0 := S00_0 (by decide) (by decide)
  have e5 : S00 5 = Z0 := S00_0 (by decide) (by decide)
  have e8 : S00 8 = Z0 := S00_0 (by decide) (by decide)
  have e10 : S00 10 = Z0 := S00_0 (by decide) (by decide)
  have e12 : S00 12 = Z0 := S00_0 (by decide) (by decide)
  have e14 : S00 14 = Z0 := S00_0 (by decide) (by decide)
  have e15 : S00 15 = Z0 := S00_0 (by decide) (by decide)
  have e19 : S00 19 = Z0 := S00_0 (by decide) (by decide)
  have e20 : S00 20 = Z0 := S00_0 (by decide) (by decide)
  have e21 : S00 21 = Z0 := S00_0 (by decide) (by decide)
  have e22 : S00 22 = Z0 := S00_0 (by decide) (by decide)
  have e23 : S00 23 = Z0 := S00_0 (by decide) (by decide)
  have e24 : S00 24 = Z0 := S00_0 (by decide) (by decide)
  have e25 : S00 25 = Z0 := S00_0 (by decide) (by decide)
  have e26 : S00 26 = Z0 := S00_0 (by decide) (by decide)
  have e27 : S00 27 = Z0 := S00_0 (by decide) (by decide)
  have e28 : S00 28 = Z0 := S00_0 (by decide) (by decide)
  have e29 : S00 29 = Z0 := S00_0 (by decide) (by decide)
  have e31 : S00 31 = Z0 := S00_0 (by decide) (by decide)
  have j0 : S00 0 6 = 0 := by decide
  have f1 : S00 18 1 = 0 := by decide
  have f7 : S00 18 7 = 0 := by decide
  have f14 : S00 18 14 = 0 := by decide
  have f15 : S00 18 15 = 10 := by decide
  have f16 : S00 18 16 = 0 := by decide
  have td : ∀ t w : Int, trd S00 t w = 0 := fun t w => by unfold trd; rw [e5]; exact tg_Z
  have z : ∀ x : Int, Z0 x = 0 := fun _ => rfl
  refine ⟨⟨by rw [e8, e20], by rw [e10, e21], by rw [e12, e22], by decide, by decide, by decide, by decide, by decide, fun t t0 t1 => ?_, fun r w r0 r1 => ?_, fun s s0 s1 => ?_⟩, ⟨by omega, by omega, by omega, by omega, by omega, fun i => by rw [e19, z]; omega, fun t => by rw [e24, e25, e26, e27, e28, e29, z]; omega⟩, ⟨fun i j _ _ _ _ => by rw [e20, z]; omega, fun i _ _ => by rw [e20, z], ?_⟩, ⟨fun i j _ _ _ _ => by rw [e20, e21, z]; omega, fun x y _ _ _ _ => ?_⟩, ⟨fun s _ _ _ k _ _ => by rw [e20, z, z]; exact ⟨rfl, rfl⟩, fun k _ _ => by rw [e20, z]⟩, ⟨fun i _ _ => by rw [e22, z], fun k _ _ => by rw [e22, z, z]; exact ⟨rfl, rfl⟩, fun s _ _ _ k _ _ => by rw [e22, z, z]; exact ⟨rfl, rfl⟩, fun i j _ _ _ _ => by rw [e22, z]; omega⟩, fun t t0 t1 => ?_, fun t t0 t1 => by rw [td, e29, z]; exact ⟨rfl, rfl⟩, fun s _ _ => by rw [e23, z]; exact ⟨fun _ => rfl, by omega⟩, fun x x0 x9 => ?_, fun s _ _ => by rw [e2, tg_Z, tg_Z]; exact ⟨rfl, rfl⟩, ⟨fun i => by rw [e2, tg_Z]; omega, fun t w => by rw [td]; omega⟩, fun k => by rw [e31, z]; omega, fun r w r0 r1 => ?_⟩
  · rw [e3, z] at t1; omega
  · rw [e15, z] at r1; omega
  · rw [j0] at s1; omega
  · rw [e20, tot_Z, f7]
    exact Int.le_of_eq rfl
  · rw [e21, f7, z]
    rfl
  · rw [f7] at t1; omega
  · rw [e20, e14, bl_Z, f7]
    rfl
  · rw [f16] at r1; omega
