/-! small words for worlds -/
def setB (h : zH) (k n : Nat) (f : Nat → Int) : zH := fun a b => if a = k ∧ b < n then f b else h a b
theorem setB_0 {h : zH} {k : Nat} {f : Nat → Int} : setB h k 0 f = h := by
  funext a b
  simp [setB]
theorem setB_s {h : zH} {k j : Nat} {f : Nat → Int} : up (setB h k j f) k j (f j) = setB h k (j + 1) f := by
  funext a b
  by_cases ha : a = k
  · subst ha
    by_cases hb : b = j
    · subst hb
      simp [up, setB]
    · by_cases h2 : b < j
      · simp [up, setB, hb, h2, show b < j + 1 by omega]
      · simp [up, setB, hb, h2, show ¬ b < j + 1 by omega]
  · simp [up, setB, ha]
theorem setB_n {h : zH} {k n a b : Nat} {f : Nat → Int} (q : a ≠ k) : setB h k n f a b = h a b := by simp [setB, q]
theorem setB_i {h : zH} {k n b : Nat} {f : Nat → Int} (q : b < n) : setB h k n f k b = f b := by simp [setB, q]
theorem setB_o {h : zH} {k n b : Nat} {f : Nat → Int} (q : n ≤ b) : setB h k n f k b = h k b := by simp [setB, show ¬ b < n by omega]
def z01 (c : Prop) [Decidable c] : Int := if c then 1 else 0
theorem z01_t {c : Prop} [Decidable c] (h : c) : z01 c = 1 := if_pos h
theorem z01_f {c : Prop} [Decidable c] (h : ¬ c) : z01 c = 0 := if_neg h
theorem z01_n {c : Prop} [Decidable c] : z01 c = 0 ↔ ¬ c := by
  unfold z01; split <;> simp_all
theorem z01_y {c : Prop} [Decidable c] : ¬ z01 c = 0 ↔ c := by
  rw [z01_n]; exact Decidable.not_not
theorem z01_c {c : Prop} [Decidable c] : z01 c = 0 ∨ z01 c = 1 := by
  unfold z01; split <;> simp
theorem z01_iff {c e : Prop} [Decidable c] [Decidable e] (h : c ↔ e) : z01 c = z01 e := by
  unfold z01; simp only [h]
