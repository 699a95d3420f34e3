/-! ===== leaving: class and reference do the same ===== -/
theorem tclr_is {S : Mem} {a : Nat} {s : Int} (hs : 0 ≤ s ∧ s < 9) : ∀ n : Nat, n ≤ 9 → tclr a 9 9 s S n = mput S a (wpF s n n (S a))
  | 0, _ => by
    rw [wpF_0]
    exact (mput_self S a).symm
  | n + 1, hn => by
    show ts (ts (tclr a 9 9 s S n) a 9 9 s n 0) a 9 9 n s 0 = _
    rw [tclr_is hs n (by omega), ts_ix hs (by omega), ts_ix (by omega) hs]
    simp only [mput_mput, mput_same]
    rw [wpF_row, wpF_col]
def r8 (f : Fn) : Prop := ∀ k : Int, 0 ≤ k → k < 9 → f (ix 8 k) = 0
theorem psF_r8 {s d c : Int} {f : Fn} (hs : 0 ≤ s ∧ s < 8) (hd : 0 ≤ d ∧ d < 8) (hc : 0 ≤ c ∧ c < 9) (h : r8 f) : r8 (psF s d c f) := fun k k0 k9 => by
  rw [psF_get (by omega) hc ⟨k0, k9⟩, if_neg (fun q => absurd q.1 (by omega)), if_neg (fun q => absurd q.1 (by omega)), if_neg (fun q => absurd q.2.1 (by omega)), h k k0 k9]
  rfl
theorem psO_r8 {s : Int} {f : Fn} (hs : 0 ≤ s ∧ s < 8) (h : r8 f) : r8 (psO s f 8) := it_inv h (fun d y d0 d8 hy => it_inv hy (fun c z c0 c9 hz => psF_r8 hs (by omega) (by omega) hz))
theorem lgF_r8 {s c g : Int} {x : Fn × Fn × Fn} (hs : 0 ≤ s ∧ s < 8) (hg : 0 ≤ g ∧ g < 8) (hc : 0 ≤ c ∧ c < 9) (h : r8 x.1) : r8 (lgF s c g x).1 := fun k k0 k9 => by
  show tkF x.1 g s c _ (ix 8 k) = 0
  rw [tkF_get hc ⟨k0, k9⟩, if_neg (fun q => absurd q.1 (by omega)), if_neg (fun q => absurd q.2.1 (by omega)), h k k0 k9]
  rfl
theorem lgI_r8 {s c : Int} {x : Fn × Fn × Fn} (hs : 0 ≤ s ∧ s < 8) (hc : 0 ≤ c ∧ c < 9) (h : r8 x.1) : r8 (lgI s c x 8).1 := it_inv (P := fun y : Fn × Fn × Fn => r8 y.1) (n := 8) h (fun g z g0 g8 hz => lgF_r8 hs (by omega) hc hz)
theorem lgO_r8 {s : Int} {x : Fn × Fn × Fn} (hs : 0 ≤ s ∧ s < 8) (h : r8 x.1) : r8 (lgO s x 9).1 := it_inv (P := fun y : Fn × Fn × Fn => r8 y.1) (n := 9) h (fun c y c0 c9 hy => lgI_r8 hs (by omega) hy)
/-- what is owed and guaranteed, behind passing on and the guarantors -/
def lvP (S : Mem) (s : Int) : Fn × Fn × Fn := lgO s (psE s (S 20), S 22, S 14) 9
theorem lvA_is {S : Mem} {s : Int} (hr : Rel S) (hs : 0 ≤ s ∧ s < 8) (hok : OkD (S 20)) : lvA S s 8 = (lvP S s).1 ∧ lvA S s 12 = (lvP S s).2.1 := by
  have e : psO s (S 8) 8 = psE s (S 20) := by
    rw [hr.1]
    exact psO_is (by omega) hok
  unfold lvA lvP
  rw [e, hr.2.2.1]
  exact ⟨rfl, rfl⟩
theorem leave_is {S : Mem} {s : Int} (hr : Rel S) (hs : 0 ≤ s ∧ s < 8) (hok : OkD (S 20)) (hgu : OkD (S 22)) (h8 : r8 (S 20)) (hg0 : S 23 s = 0) : lvE S s 8 = (rlX S s).1 ∧ wpF s 9 9 (lvE S s 12) = (rlX S s).2.1 ∧ (lvB S s).2.2 + (lvD S s).2.2 = (rlX S s).2.2.2 ∧ (lvB S s).2.2 - (lvD S s).2.2 = (rlX S s).2.2.1 := by
  have hs9 : 0 ≤ s ∧ s < 9 := by omega
  obtain ⟨a1, a2⟩ := lvA_is hr hs hok
  have hlg : lgOk (psE s (S 20), S 22, S 14) := ⟨psE_ok hs9 hok, hgu⟩
  have hP := lgO_ok hs9 hlg (n := 9) (by omega)
  have hz : (lvP S s).1 (ix s s) = 0 := hP.1.2 s hs9.1 hs9.2
  have h8P : r8 (lvP S s).1 := lgO_r8 hs (by
    show r8 (psE s (S 20))
    rw [← psO_is hs9 hok]
    exact psO_r8 hs h8)
  have h88 := h8P s hs9.1 hs9.2
  have b := gbI_is (s := s) (f := (lvP S s).1) (gu := lvA S s 14) 9 (by omega)
  have hB : lvB S s = gbI s ((lvP S s).1, lvA S s 14, 0) 9 := by unfold lvB; rw [a1]
  have hC8 : lvC S s 8 = wpF s 9 0 (lvP S s).1 := by
    show (lvB S s).1 = _
    rw [hB, b.1]
  have d := gtI_is (s := s) (f := (lvP S s).1) (gu := lvC S s 14) hs9 hz 8 (by omega)
  have hD : lvD S s = gtI s (wpF s 9 0 (lvP S s).1, lvC S s 14, 0) 8 := by unfold lvD; rw [hC8]
  have r := rlI_is (s := s) (f := (lvP S s).1) (u := (lvP S s).2.1) (g0 := 0) hs9 9 (by omega)
  have hX : rlX S s = rlI s ((lvP S s).1, (lvP S s).2.1, 0, 0) 9 := by unfold rlX; rw [hg0]; rfl
  have r3 := r.2.2 hz
  refine ⟨?_, ?_, ?_, ?_⟩
  · show (lvD S s).1 = _
    rw [hD, d.1, hX, r.1, wpF_89 h88]
  · show wpF s 9 9 (lvA S s 12) = _
    rw [a2, hX, r.2.1]
  · rw [hB, hD, b.2, d.2, hX, r3.2, sI_add, show sI (fun c => (lvP S s).1 (ix c s)) 9 = sI (fun c => (lvP S s).1 (ix c s)) 8 + (lvP S s).1 (ix 8 s) from rfl, h88]
    omega
  · rw [hB, hD, b.2, d.2, hX, r3.1, sI_sub, show sI (fun c => (lvP S s).1 (ix c s)) 9 = sI (fun c => (lvP S s).1 (ix c s)) 8 + (lvP S s).1 (ix 8 s) from rfl, h88]
    omega
