/-! PURE: numbers and branches -/
def bI (c : Prop) [Decidable c] : Int32 := if c then 1 else 0
theorem bI_t {c : Prop} [Decidable c] (h : c) : bI c = 1 := if_pos h
theorem bI_f {c : Prop} [Decidable c] (h : ¬ c) : bI c = 0 := if_neg h
theorem bI_bool (c : Prop) [Decidable c] : zw_bool (bI c) := by
  unfold bI zw_bool
  by_cases h : c
  · rw [if_pos h]; exact Or.inr rfl
  · rw [if_neg h]; exact Or.inl rfl
theorem bI_iff {c d : Prop} [Decidable c] [Decidable d] (h : c ↔ d) : bI c = bI d := by
  unfold bI
  by_cases hc : c
  · rw [if_pos hc, if_pos (h.mp hc)]
  · rw [if_neg hc, if_neg (fun q => hc (h.mpr q))]
theorem bI_0 {c : Prop} [Decidable c] : bI c = 0 ↔ ¬ c := by
  unfold bI
  by_cases hc : c
  · rw [if_pos hc]; exact ⟨fun h => absurd h (by decide), fun h => absurd hc h⟩
  · rw [if_neg hc]; exact ⟨fun _ => hc, fun _ => rfl⟩
theorem i_lt {x y : Int32} : x < y ↔ x.toInt < y.toInt := Int32.lt_iff_toInt_lt
theorem i_le {x y : Int32} : x ≤ y ↔ x.toInt ≤ y.toInt := Int32.le_iff_toInt_le
theorem l_lt {x y : Int64} : x < y ↔ x.toInt < y.toInt := Int64.lt_iff_toInt_lt
theorem l_le {x y : Int64} : x ≤ y ↔ x.toInt ≤ y.toInt := Int64.le_iff_toInt_le
theorem i_l (x : Int32) : x.toInt64.toInt = x.toInt := Int32.toInt_toInt64 x
theorem i_eq {x y : Int32} : x = y ↔ x.toInt = y.toInt := Int32.toInt_inj.symm
theorem i_rng (x : Int32) : -2147483648 ≤ x.toInt ∧ x.toInt ≤ 2147483647 := ⟨Int32.le_toInt x, by have := Int32.toInt_lt x; omega⟩
theorem i_add {x y : Int32} (h : -2147483648 ≤ x.toInt + y.toInt ∧ x.toInt + y.toInt ≤ 2147483647) : (x + y).toInt = x.toInt + y.toInt := by
  rw [Int32.toInt_add, Int.bmod_eq_of_le (by omega) (by omega)]
theorem i_sub {x y : Int32} (h : -2147483648 ≤ x.toInt - y.toInt ∧ x.toInt - y.toInt ≤ 2147483647) : (x - y).toInt = x.toInt - y.toInt := by
  rw [Int32.toInt_sub, Int.bmod_eq_of_le (by omega) (by omega)]
theorem i_mul {x y : Int32} (h : -2147483648 ≤ x.toInt * y.toInt ∧ x.toInt * y.toInt ≤ 2147483647) : (x * y).toInt = x.toInt * y.toInt := by
  rw [Int32.toInt_mul, Int.bmod_eq_of_le (by omega) (by omega)]
theorem nT {n : Nat} (h : n < 2147483648) : (nI n).toInt = (n : Int) := nI_toInt h
theorem nC {n : Nat} (h : n < 2147483648) : (nI n).toNatClampNeg = n := nI_clamp h
theorem nS {n k : Nat} {c : Int32} (hc : c = nI k) (h : k ≤ n) (hn : n < 2147483648) : nI n - c = nI (n - k) := by rw [hc]; exact pk_sub h
abbrev isP (p : Nat) (x : Int32) : Prop := 0 ≤ x.toInt ∧ x.toInt < (p : Int)
abbrev isR (a b : Int) (x : Int32) : Prop := a ≤ x.toInt ∧ x.toInt ≤ b
theorem isP_of {p : Nat} {x : Int32} (h : isP p x) : ∃ i : Nat, i < p ∧ i < 2147483648 ∧ x = nI i := by
  have hr := i_rng x
  refine ⟨x.toInt.toNat, by omega, by omega, ?_⟩
  rw [i_eq, nT (by omega)]
  omega
theorem isP_nI {p i : Nat} (h : i < p) (h2 : i < 2147483648) : isP p (nI i) := by
  rw [isP, nT h2]; omega
theorem SS_within_r {x lo hi : Int32} {a b : Int} {K : Int32 → Prop} (ha : lo.toInt = a) (hb : hi.toInt = b) (h : K (bI (isR a b x))) : SS_within_w x lo hi K := by
  subst ha hb
  unfold SS_within_w
  by_cases h1 : x < lo
  · rw [if_pos h1]
    rw [bI_f (fun q => by rw [i_lt] at h1; have := q.1; omega)] at h
    exact h
  · rw [if_neg h1]
    by_cases h2 : hi < x
    · rw [if_pos h2]
      rw [bI_f (fun q => by rw [i_lt] at h2; have := q.2; omega)] at h
      exact h
    · rw [if_neg h2]
      rw [i_lt] at h1 h2
      rw [bI_t ⟨by omega, by omega⟩] at h
      exact h
theorem Mo_in_g {x lo hi : Int64} {K : Int32 → Prop} (h : K (bI (lo.toInt ≤ x.toInt ∧ x.toInt ≤ hi.toInt))) : Mo_in_w x lo hi K := by
  unfold Mo_in_w
  by_cases h1 : x < lo
  · rw [if_pos h1]
    rw [bI_f (fun q => by rw [l_lt] at h1; have := q.1; omega)] at h
    exact h
  · rw [if_neg h1]
    by_cases h2 : hi < x
    · rw [if_pos h2]
      rw [bI_f (fun q => by rw [l_lt] at h2; have := q.2; omega)] at h
      exact h
    · rw [if_neg h2]
      rw [l_lt] at h1 h2
      rw [bI_t ⟨by omega, by omega⟩] at h
      exact h
theorem Mo_in_r {x : Int32} {lo hi : Int64} {a b : Int} {K : Int32 → Prop} (ha : lo.toInt = a) (hb : hi.toInt = b) (h : K (bI (isR a b x))) : Mo_in_w x.toInt64 lo hi K := by
  subst ha hb
  apply Mo_in_g
  rw [bI_iff (show (lo.toInt ≤ x.toInt64.toInt ∧ x.toInt64.toInt ≤ hi.toInt) ↔ isR lo.toInt hi.toInt x by rw [i_l])]
  exact h
theorem isP_R {p : Nat} {x : Int32} : isR 0 ((p : Int) - 1) x ↔ isP p x := by
  unfold isR isP; omega
theorem nI_m1 {n : Nat} (h : n ≤ 1000) : (nI n - (1 : Int32)).toInt = (n : Int) - 1 := by
  rw [i_sub (by rw [nT (by omega), show (1 : Int32).toInt = 1 from rfl]; omega), nT (by omega)]; rfl
theorem nI_m2 {n : Nat} (h : n ≤ 1000) : (nI n - (2 : Int32)).toInt = (n : Int) - 2 := by
  rw [i_sub (by rw [nT (by omega), show (2 : Int32).toInt = 2 from rfl]; omega), nT (by omega)]; rfl
section PS
variable {fi : Nat → Int32} {fl : Nat → Int64} {ai : Nat → Nat → Int32} {al : Nat → Nat → Int64} {x : Int32} {K : Int32 → Prop} {p : Nat}
theorem Gi_hasPart_s (hp : fi 7 = nI p) (h6 : p ≤ 6) (h : K (bI (isP p x))) : Gi_hasPart_w fi fl ai al x K := by
  unfold Gi_hasPart_w
  refine SS_within_r (a := 0) (b := (p : Int) - 1) rfl (by rw [hp]; exact nI_m1 (by omega)) ?_
  rw [bI_iff isP_R]
  exact ⟨bI_bool _, h⟩
theorem Mo_isPart_s (hp : fi 0 = nI p) (h6 : p ≤ 6) (h : K (bI (isP p x))) : Mo_isPart_w fi fl ai al x K := by
  unfold Mo_isPart_w
  refine Mo_in_r (a := 0) (b := (p : Int) - 1) rfl (by rw [i_l, hp]; exact nI_m1 (by omega)) ?_
  rw [bI_iff isP_R]
  exact ⟨bI_bool _, h⟩
theorem Pl_hasStage_s (hp : fi 2 = nI p) (h6 : p ≤ 12) (h : K (bI (isP p x))) : Pl_hasStage_w fi fl ai al x K := by
  unfold Pl_hasStage_w
  refine SS_within_r (a := 0) (b := (p : Int) - 1) rfl (by rw [hp]; exact nI_m1 (by omega)) ?_
  rw [bI_iff isP_R]
  exact ⟨bI_bool _, h⟩
theorem Mo_isStage_s (hp : fi 2 = nI p) (h6 : p ≤ 12) (h : K (bI (isP p x))) : Mo_isStage_w fi fl ai al x K := by
  unfold Mo_isStage_w
  refine Mo_in_r (a := 0) (b := (p : Int) - 1) rfl (by rw [i_l, hp]; exact nI_m1 (by omega)) ?_
  rw [bI_iff isP_R]
  exact ⟨bI_bool _, h⟩
theorem SS_isFactor_s (h : K (bI (isR (-1000) 1000 x))) : SS_isFactor_w x K := by
  unfold SS_isFactor_w
  exact SS_within_r (a := -1000) (b := 1000) rfl rfl ⟨bI_bool _, h⟩
theorem SS_isSupport_s (h : K (bI (isP 3 x))) : SS_isSupport_w x K := by
  unfold SS_isSupport_w
  refine SS_within_r (a := 0) (b := 2) rfl rfl ?_
  rw [bI_iff (show isR 0 2 x ↔ isP 3 x by unfold isR isP; omega)]
  exact ⟨bI_bool _, h⟩
end PS
/-- the branch behind a test -/
theorem br_b {c : Prop} [Decidable c] {A B : Prop} (ht : c → B) (hf : ¬ c → A) : if bI c = 0 then A else B := by
  by_cases h : c
  · rw [if_neg (by rw [bI_0]; exact fun q => q h)]; exact ht h
  · rw [if_pos (bI_0.mpr h)]; exact hf h
