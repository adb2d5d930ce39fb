/-! zw_: a method's weakest precondition by combinators: a name, a join, a loop; a branch -/
def zw_nm {α : Type} (e : α) (F : α → Prop) : Prop := F e
theorem zw_nm_x {α : Type} {e x : α} {F : α → Prop} (h : x = e) (w : zw_nm e F) : F x := by subst h; exact w
theorem zw_ite_t {c : Prop} [Decidable c] {A B : Prop} (h : c) (w : if c then A else B) : A := by rwa [if_pos h] at w
theorem zw_ite_f {c : Prop} [Decidable c] {A B : Prop} (h : ¬ c) (w : if c then A else B) : B := by rwa [if_neg h] at w
def zw_bool (v : Int32) : Prop := v = 0 ∨ v = 1
theorem zw_bool_n {v : Int32} (h : zw_bool v) : narrow .boolean (.int v) = .int v := by
  rcases h with rfl | rfl <;> rfl
def zw_jn0 (R : Prop) (B : Prop → Prop) : Prop := B R
theorem zw_jn0_i {R : Prop} {B : Prop → Prop} {P G : Prop} (hw : zw_jn0 R B) (h : R → P) (g : ∀ J : Prop, (J → P) → B J → G) : G := g R h hw
def zw_jn1 {A1 : Type} (R : A1 → Prop) (B : (A1 → Prop) → Prop) : Prop := B R
theorem zw_jn1_i {A1 : Type} {R : A1 → Prop} {B : (A1 → Prop) → Prop} {P : A1 → Prop} {G : Prop} (hw : zw_jn1 R B) (h : ∀ (x1 : A1), R x1 → P x1) (g : ∀ J : A1 → Prop, (∀ (x1 : A1), J x1 → P x1) → B J → G) : G := g R h hw
def zw_lpN1 {A1 : Type} (f : (A1 → Prop) → A1 → Prop) : Nat → A1 → Prop
  | 0 => fun _ => False
  | n + 1 => f (zw_lpN1 f n)
def zw_lp1 {A1 : Type} (f : (A1 → Prop) → A1 → Prop) (x1 : A1) : Prop := ∃ n, zw_lpN1 f n x1
theorem zw_lp1_i {A1 : Type} {f : (A1 → Prop) → A1 → Prop} {P : A1 → Prop} {x1 : A1} (hw : zw_lp1 f x1) (h : ∀ (L : A1 → Prop) (x1 : A1), (∀ (x1 : A1), L x1 → P x1) → f L x1 → P x1) : P x1 := by
  obtain ⟨n, hw⟩ := hw
  have key : ∀ (n : Nat) (x1 : A1), zw_lpN1 f n x1 → P x1 := by
    intro n
    induction n with
    | zero => intro x1 h; exact h.elim
    | succ n ih => intro x1 hw; exact h (zw_lpN1 f n) x1 ih hw
  exact key n x1 hw
theorem zw_lp1_m {A1 : Type} {f : (A1 → Prop) → A1 → Prop} (I : A1 → Prop) (μ : A1 → Nat) (h : ∀ (L : A1 → Prop) (x1 : A1), I x1 → (∀ (y1 : A1), I y1 → μ y1 < μ x1 → L y1) → f L x1) (x1 : A1) (h0 : I x1) : zw_lp1 f x1 := by
  have key : ∀ (n : Nat) (x1 : A1), μ x1 < n → I x1 → zw_lpN1 f n x1 := by
    intro n
    induction n with
    | zero => intro x1 h; exact absurd h (Nat.not_lt_zero _)
    | succ n ih => intro x1 hn hI; exact h (zw_lpN1 f n) x1 hI (fun y1 hJ hm => ih y1 (Nat.lt_of_lt_of_le hm (Nat.le_of_lt_succ hn)) hJ)
  exact ⟨μ x1 + 1, key _ x1 (Nat.lt_succ_self _) h0⟩
def zw_jn2 {A1 A2 : Type} (R : A1 → A2 → Prop) (B : (A1 → A2 → Prop) → Prop) : Prop := B R
theorem zw_jn2_i {A1 A2 : Type} {R : A1 → A2 → Prop} {B : (A1 → A2 → Prop) → Prop} {P : A1 → A2 → Prop} {G : Prop} (hw : zw_jn2 R B) (h : ∀ (x1 : A1) (x2 : A2), R x1 x2 → P x1 x2) (g : ∀ J : A1 → A2 → Prop, (∀ (x1 : A1) (x2 : A2), J x1 x2 → P x1 x2) → B J → G) : G := g R h hw
def zw_lpN2 {A1 A2 : Type} (f : (A1 → A2 → Prop) → A1 → A2 → Prop) : Nat → A1 → A2 → Prop
  | 0 => fun _ _ => False
  | n + 1 => f (zw_lpN2 f n)
def zw_lp2 {A1 A2 : Type} (f : (A1 → A2 → Prop) → A1 → A2 → Prop) (x1 : A1) (x2 : A2) : Prop := ∃ n, zw_lpN2 f n x1 x2
theorem zw_lp2_i {A1 A2 : Type} {f : (A1 → A2 → Prop) → A1 → A2 → Prop} {P : A1 → A2 → Prop} {x1 : A1} {x2 : A2} (hw : zw_lp2 f x1 x2) (h : ∀ (L : A1 → A2 → Prop) (x1 : A1) (x2 : A2), (∀ (x1 : A1) (x2 : A2), L x1 x2 → P x1 x2) → f L x1 x2 → P x1 x2) : P x1 x2 := by
  obtain ⟨n, hw⟩ := hw
  have key : ∀ (n : Nat) (x1 : A1) (x2 : A2), zw_lpN2 f n x1 x2 → P x1 x2 := by
    intro n
    induction n with
    | zero => intro x1 x2 h; exact h.elim
    | succ n ih => intro x1 x2 hw; exact h (zw_lpN2 f n) x1 x2 ih hw
  exact key n x1 x2 hw
theorem zw_lp2_m {A1 A2 : Type} {f : (A1 → A2 → Prop) → A1 → A2 → Prop} (I : A1 → A2 → Prop) (μ : A1 → A2 → Nat) (h : ∀ (L : A1 → A2 → Prop) (x1 : A1) (x2 : A2), I x1 x2 → (∀ (y1 : A1) (y2 : A2), I y1 y2 → μ y1 y2 < μ x1 x2 → L y1 y2) → f L x1 x2) (x1 : A1) (x2 : A2) (h0 : I x1 x2) : zw_lp2 f x1 x2 := by
  have key : ∀ (n : Nat) (x1 : A1) (x2 : A2), μ x1 x2 < n → I x1 x2 → zw_lpN2 f n x1 x2 := by
    intro n
    induction n with
    | zero => intro x1 x2 h; exact absurd h (Nat.not_lt_zero _)
    | succ n ih => intro x1 x2 hn hI; exact h (zw_lpN2 f n) x1 x2 hI (fun y1 y2 hJ hm => ih y1 y2 (Nat.lt_of_lt_of_le hm (Nat.le_of_lt_succ hn)) hJ)
  exact ⟨μ x1 x2 + 1, key _ x1 x2 (Nat.lt_succ_self _) h0⟩
def zw_jn3 {A1 A2 A3 : Type} (R : A1 → A2 → A3 → Prop) (B : (A1 → A2 → A3 → Prop) → Prop) : Prop := B R
theorem zw_jn3_i {A1 A2 A3 : Type} {R : A1 → A2 → A3 → Prop} {B : (A1 → A2 → A3 → Prop) → Prop} {P : A1 → A2 → A3 → Prop} {G : Prop} (hw : zw_jn3 R B) (h : ∀ (x1 : A1) (x2 : A2) (x3 : A3), R x1 x2 x3 → P x1 x2 x3) (g : ∀ J : A1 → A2 → A3 → Prop, (∀ (x1 : A1) (x2 : A2) (x3 : A3), J x1 x2 x3 → P x1 x2 x3) → B J → G) : G := g R h hw
def zw_lpN3 {A1 A2 A3 : Type} (f : (A1 → A2 → A3 → Prop) → A1 → A2 → A3 → Prop) : Nat → A1 → A2 → A3 → Prop
  | 0 => fun _ _ _ => False
  | n + 1 => f (zw_lpN3 f n)
def zw_lp3 {A1 A2 A3 : Type} (f : (A1 → A2 → A3 → Prop) → A1 → A2 → A3 → Prop) (x1 : A1) (x2 : A2) (x3 : A3) : Prop := ∃ n, zw_lpN3 f n x1 x2 x3
theorem zw_lp3_i {A1 A2 A3 : Type} {f : (A1 → A2 → A3 → Prop) → A1 → A2 → A3 → Prop} {P : A1 → A2 → A3 → Prop} {x1 : A1} {x2 : A2} {x3 : A3} (hw : zw_lp3 f x1 x2 x3) (h : ∀ (L : A1 → A2 → A3 → Prop) (x1 : A1) (x2 : A2) (x3 : A3), (∀ (x1 : A1) (x2 : A2) (x3 : A3), L x1 x2 x3 → P x1 x2 x3) → f L x1 x2 x3 → P x1 x2 x3) : P x1 x2 x3 := by
  obtain ⟨n, hw⟩ := hw
  have key : ∀ (n : Nat) (x1 : A1) (x2 : A2) (x3 : A3), zw_lpN3 f n x1 x2 x3 → P x1 x2 x3 := by
    intro n
    induction n with
    | zero => intro x1 x2 x3 h; exact h.elim
    | succ n ih => intro x1 x2 x3 hw; exact h (zw_lpN3 f n) x1 x2 x3 ih hw
  exact key n x1 x2 x3 hw
theorem zw_lp3_m {A1 A2 A3 : Type} {f : (A1 → A2 → A3 → Prop) → A1 → A2 → A3 → Prop} (I : A1 → A2 → A3 → Prop) (μ : A1 → A2 → A3 → Nat) (h : ∀ (L : A1 → A2 → A3 → Prop) (x1 : A1) (x2 : A2) (x3 : A3), I x1 x2 x3 → (∀ (y1 : A1) (y2 : A2) (y3 : A3), I y1 y2 y3 → μ y1 y2 y3 < μ x1 x2 x3 → L y1 y2 y3) → f L x1 x2 x3) (x1 : A1) (x2 : A2) (x3 : A3) (h0 : I x1 x2 x3) : zw_lp3 f x1 x2 x3 := by
  have key : ∀ (n : Nat) (x1 : A1) (x2 : A2) (x3 : A3), μ x1 x2 x3 < n → I x1 x2 x3 → zw_lpN3 f n x1 x2 x3 := by
    intro n
    induction n with
    | zero => intro x1 x2 x3 h; exact absurd h (Nat.not_lt_zero _)
    | succ n ih => intro x1 x2 x3 hn hI; exact h (zw_lpN3 f n) x1 x2 x3 hI (fun y1 y2 y3 hJ hm => ih y1 y2 y3 (Nat.lt_of_lt_of_le hm (Nat.le_of_lt_succ hn)) hJ)
  exact ⟨μ x1 x2 x3 + 1, key _ x1 x2 x3 (Nat.lt_succ_self _) h0⟩
def zw_jn4 {A1 A2 A3 A4 : Type} (R : A1 → A2 → A3 → A4 → Prop) (B : (A1 → A2 → A3 → A4 → Prop) → Prop) : Prop := B R
theorem zw_jn4_i {A1 A2 A3 A4 : Type} {R : A1 → A2 → A3 → A4 → Prop} {B : (A1 → A2 → A3 → A4 → Prop) → Prop} {P : A1 → A2 → A3 → A4 → Prop} {G : Prop} (hw : zw_jn4 R B) (h : ∀ (x1 : A1) (x2 : A2) (x3 : A3) (x4 : A4), R x1 x2 x3 x4 → P x1 x2 x3 x4) (g : ∀ J : A1 → A2 → A3 → A4 → Prop, (∀ (x1 : A1) (x2 : A2) (x3 : A3) (x4 : A4), J x1 x2 x3 x4 → P x1 x2 x3 x4) → B J → G) : G := g R h hw
def zw_lpN4 {A1 A2 A3 A4 : Type} (f : (A1 → A2 → A3 → A4 → Prop) → A1 → A2 → A3 → A4 → Prop) : Nat → A1 → A2 → A3 → A4 → Prop
  | 0 => fun _ _ _ _ => False
  | n + 1 => f (zw_lpN4 f n)
def zw_lp4 {A1 A2 A3 A4 : Type} (f : (A1 → A2 → A3 → A4 → Prop) → A1 → A2 → A3 → A4 → Prop) (x1 : A1) (x2 : A2) (x3 : A3) (x4 : A4) : Prop := ∃ n, zw_lpN4 f n x1 x2 x3 x4
theorem zw_lp4_i {A1 A2 A3 A4 : Type} {f : (A1 → A2 → A3 → A4 → Prop) → A1 → A2 → A3 → A4 → Prop} {P : A1 → A2 → A3 → A4 → Prop} {x1 : A1} {x2 : A2} {x3 : A3} {x4 : A4} (hw : zw_lp4 f x1 x2 x3 x4) (h : ∀ (L : A1 → A2 → A3 → A4 → Prop) (x1 : A1) (x2 : A2) (x3 : A3) (x4 : A4), (∀ (x1 : A1) (x2 : A2) (x3 : A3) (x4 : A4), L x1 x2 x3 x4 → P x1 x2 x3 x4) → f L x1 x2 x3 x4 → P x1 x2 x3 x4) : P x1 x2 x3 x4 := by
  obtain ⟨n, hw⟩ := hw
  have key : ∀ (n : Nat) (x1 : A1) (x2 : A2) (x3 : A3) (x4 : A4), zw_lpN4 f n x1 x2 x3 x4 → P x1 x2 x3 x4 := by
    intro n
    induction n with
    | zero => intro x1 x2 x3 x4 h; exact h.elim
    | succ n ih => intro x1 x2 x3 x4 hw; exact h (zw_lpN4 f n) x1 x2 x3 x4 ih hw
  exact key n x1 x2 x3 x4 hw
theorem zw_lp4_m {A1 A2 A3 A4 : Type} {f : (A1 → A2 → A3 → A4 → Prop) → A1 → A2 → A3 → A4 → Prop} (I : A1 → A2 → A3 → A4 → Prop) (μ : A1 → A2 → A3 → A4 → Nat) (h : ∀ (L : A1 → A2 → A3 → A4 → Prop) (x1 : A1) (x2 : A2) (x3 : A3) (x4 : A4), I x1 x2 x3 x4 → (∀ (y1 : A1) (y2 : A2) (y3 : A3) (y4 : A4), I y1 y2 y3 y4 → μ y1 y2 y3 y4 < μ x1 x2 x3 x4 → L y1 y2 y3 y4) → f L x1 x2 x3 x4) (x1 : A1) (x2 : A2) (x3 : A3) (x4 : A4) (h0 : I x1 x2 x3 x4) : zw_lp4 f x1 x2 x3 x4 := by
  have key : ∀ (n : Nat) (x1 : A1) (x2 : A2) (x3 : A3) (x4 : A4), μ x1 x2 x3 x4 < n → I x1 x2 x3 x4 → zw_lpN4 f n x1 x2 x3 x4 := by
    intro n
    induction n with
    | zero => intro x1 x2 x3 x4 h; exact absurd h (Nat.not_lt_zero _)
    | succ n ih => intro x1 x2 x3 x4 hn hI; exact h (zw_lpN4 f n) x1 x2 x3 x4 hI (fun y1 y2 y3 y4 hJ hm => ih y1 y2 y3 y4 (Nat.lt_of_lt_of_le hm (Nat.le_of_lt_succ hn)) hJ)
  exact ⟨μ x1 x2 x3 x4 + 1, key _ x1 x2 x3 x4 (Nat.lt_succ_self _) h0⟩
def zw_jn5 {A1 A2 A3 A4 A5 : Type} (R : A1 → A2 → A3 → A4 → A5 → Prop) (B : (A1 → A2 → A3 → A4 → A5 → Prop) → Prop) : Prop := B R
theorem zw_jn5_i {A1 A2 A3 A4 A5 : Type} {R : A1 → A2 → A3 → A4 → A5 → Prop} {B : (A1 → A2 → A3 → A4 → A5 → Prop) → Prop} {P : A1 → A2 → A3 → A4 → A5 → Prop} {G : Prop} (hw : zw_jn5 R B) (h : ∀ (x1 : A1) (x2 : A2) (x3 : A3) (x4 : A4) (x5 : A5), R x1 x2 x3 x4 x5 → P x1 x2 x3 x4 x5) (g : ∀ J : A1 → A2 → A3 → A4 → A5 → Prop, (∀ (x1 : A1) (x2 : A2) (x3 : A3) (x4 : A4) (x5 : A5), J x1 x2 x3 x4 x5 → P x1 x2 x3 x4 x5) → B J → G) : G := g R h hw
def zw_lpN5 {A1 A2 A3 A4 A5 : Type} (f : (A1 → A2 → A3 → A4 → A5 → Prop) → A1 → A2 → A3 → A4 → A5 → Prop) : Nat → A1 → A2 → A3 → A4 → A5 → Prop
  | 0 => fun _ _ _ _ _ => False
  | n + 1 => f (zw_lpN5 f n)
def zw_lp5 {A1 A2 A3 A4 A5 : Type} (f : (A1 → A2 → A3 → A4 → A5 → Prop) → A1 → A2 → A3 → A4 → A5 → Prop) (x1 : A1) (x2 : A2) (x3 : A3) (x4 : A4) (x5 : A5) : Prop := ∃ n, zw_lpN5 f n x1 x2 x3 x4 x5
theorem zw_lp5_i {A1 A2 A3 A4 A5 : Type} {f : (A1 → A2 → A3 → A4 → A5 → Prop) → A1 → A2 → A3 → A4 → A5 → Prop} {P : A1 → A2 → A3 → A4 → A5 → Prop} {x1 : A1} {x2 : A2} {x3 : A3} {x4 : A4} {x5 : A5} (hw : zw_lp5 f x1 x2 x3 x4 x5) (h : ∀ (L : A1 → A2 → A3 → A4 → A5 → Prop) (x1 : A1) (x2 : A2) (x3 : A3) (x4 : A4) (x5 : A5), (∀ (x1 : A1) (x2 : A2) (x3 : A3) (x4 : A4) (x5 : A5), L x1 x2 x3 x4 x5 → P x1 x2 x3 x4 x5) → f L x1 x2 x3 x4 x5 → P x1 x2 x3 x4 x5) : P x1 x2 x3 x4 x5 := by
  obtain ⟨n, hw⟩ := hw
  have key : ∀ (n : Nat) (x1 : A1) (x2 : A2) (x3 : A3) (x4 : A4) (x5 : A5), zw_lpN5 f n x1 x2 x3 x4 x5 → P x1 x2 x3 x4 x5 := by
    intro n
    induction n with
    | zero => intro x1 x2 x3 x4 x5 h; exact h.elim
    | succ n ih => intro x1 x2 x3 x4 x5 hw; exact h (zw_lpN5 f n) x1 x2 x3 x4 x5 ih hw
  exact key n x1 x2 x3 x4 x5 hw
theorem zw_lp5_m {A1 A2 A3 A4 A5 : Type} {f : (A1 → A2 → A3 → A4 → A5 → Prop) → A1 → A2 → A3 → A4 → A5 → Prop} (I : A1 → A2 → A3 → A4 → A5 → Prop) (μ : A1 → A2 → A3 → A4 → A5 → Nat) (h : ∀ (L : A1 → A2 → A3 → A4 → A5 → Prop) (x1 : A1) (x2 : A2) (x3 : A3) (x4 : A4) (x5 : A5), I x1 x2 x3 x4 x5 → (∀ (y1 : A1) (y2 : A2) (y3 : A3) (y4 : A4) (y5 : A5), I y1 y2 y3 y4 y5 → μ y1 y2 y3 y4 y5 < μ x1 x2 x3 x4 x5 → L y1 y2 y3 y4 y5) → f L x1 x2 x3 x4 x5) (x1 : A1) (x2 : A2) (x3 : A3) (x4 : A4) (x5 : A5) (h0 : I x1 x2 x3 x4 x5) : zw_lp5 f x1 x2 x3 x4 x5 := by
  have key : ∀ (n : Nat) (x1 : A1) (x2 : A2) (x3 : A3) (x4 : A4) (x5 : A5), μ x1 x2 x3 x4 x5 < n → I x1 x2 x3 x4 x5 → zw_lpN5 f n x1 x2 x3 x4 x5 := by
    intro n
    induction n with
    | zero => intro x1 x2 x3 x4 x5 h; exact absurd h (Nat.not_lt_zero _)
    | succ n ih => intro x1 x2 x3 x4 x5 hn hI; exact h (zw_lpN5 f n) x1 x2 x3 x4 x5 hI (fun y1 y2 y3 y4 y5 hJ hm => ih y1 y2 y3 y4 y5 (Nat.lt_of_lt_of_le hm (Nat.le_of_lt_succ hn)) hJ)
  exact ⟨μ x1 x2 x3 x4 x5 + 1, key _ x1 x2 x3 x4 x5 (Nat.lt_succ_self _) h0⟩
def zw_jn6 {A1 A2 A3 A4 A5 A6 : Type} (R : A1 → A2 → A3 → A4 → A5 → A6 → Prop) (B : (A1 → A2 → A3 → A4 → A5 → A6 → Prop) → Prop) : Prop := B R
theorem zw_jn6_i {A1 A2 A3 A4 A5 A6 : Type} {R : A1 → A2 → A3 → A4 → A5 → A6 → Prop} {B : (A1 → A2 → A3 → A4 → A5 → A6 → Prop) → Prop} {P : A1 → A2 → A3 → A4 → A5 → A6 → Prop} {G : Prop} (hw : zw_jn6 R B) (h : ∀ (x1 : A1) (x2 : A2) (x3 : A3) (x4 : A4) (x5 : A5) (x6 : A6), R x1 x2 x3 x4 x5 x6 → P x1 x2 x3 x4 x5 x6) (g : ∀ J : A1 → A2 → A3 → A4 → A5 → A6 → Prop, (∀ (x1 : A1) (x2 : A2) (x3 : A3) (x4 : A4) (x5 : A5) (x6 : A6), J x1 x2 x3 x4 x5 x6 → P x1 x2 x3 x4 x5 x6) → B J → G) : G := g R h hw
def zw_lpN6 {A1 A2 A3 A4 A5 A6 : Type} (f : (A1 → A2 → A3 → A4 → A5 → A6 → Prop) → A1 → A2 → A3 → A4 → A5 → A6 → Prop) : Nat → A1 → A2 → A3 → A4 → A5 → A6 → Prop
  | 0 => fun _ _ _ _ _ _ => False
  | n + 1 => f (zw_lpN6 f n)
def zw_lp6 {A1 A2 A3 A4 A5 A6 : Type} (f : (A1 → A2 → A3 → A4 → A5 → A6 → Prop) → A1 → A2 → A3 → A4 → A5 → A6 → Prop) (x1 : A1) (x2 : A2) (x3 : A3) (x4 : A4) (x5 : A5) (x6 : A6) : Prop := ∃ n, zw_lpN6 f n x1 x2 x3 x4 x5 x6
theorem zw_lp6_i {A1 A2 A3 A4 A5 A6 : Type} {f : (A1 → A2 → A3 → A4 → A5 → A6 → Prop) → A1 → A2 → A3 → A4 → A5 → A6 → Prop} {P : A1 → A2 → A3 → A4 → A5 → A6 → Prop} {x1 : A1} {x2 : A2} {x3 : A3} {x4 : A4} {x5 : A5} {x6 : A6} (hw : zw_lp6 f x1 x2 x3 x4 x5 x6) (h : ∀ (L : A1 → A2 → A3 → A4 → A5 → A6 → Prop) (x1 : A1) (x2 : A2) (x3 : A3) (x4 : A4) (x5 : A5) (x6 : A6), (∀ (x1 : A1) (x2 : A2) (x3 : A3) (x4 : A4) (x5 : A5) (x6 : A6), L x1 x2 x3 x4 x5 x6 → P x1 x2 x3 x4 x5 x6) → f L x1 x2 x3 x4 x5 x6 → P x1 x2 x3 x4 x5 x6) : P x1 x2 x3 x4 x5 x6 := by
  obtain ⟨n, hw⟩ := hw
  have key : ∀ (n : Nat) (x1 : A1) (x2 : A2) (x3 : A3) (x4 : A4) (x5 : A5) (x6 : A6), zw_lpN6 f n x1 x2 x3 x4 x5 x6 → P x1 x2 x3 x4 x5 x6 := by
    intro n
    induction n with
    | zero => intro x1 x2 x3 x4 x5 x6 h; exact h.elim
    | succ n ih => intro x1 x2 x3 x4 x5 x6 hw; exact h (zw_lpN6 f n) x1 x2 x3 x4 x5 x6 ih hw
  exact key n x1 x2 x3 x4 x5 x6 hw
theorem zw_lp6_m {A1 A2 A3 A4 A5 A6 : Type} {f : (A1 → A2 → A3 → A4 → A5 → A6 → Prop) → A1 → A2 → A3 → A4 → A5 → A6 → Prop} (I : A1 → A2 → A3 → A4 → A5 → A6 → Prop) (μ : A1 → A2 → A3 → A4 → A5 → A6 → Nat) (h : ∀ (L : A1 → A2 → A3 → A4 → A5 → A6 → Prop) (x1 : A1) (x2 : A2) (x3 : A3) (x4 : A4) (x5 : A5) (x6 : A6), I x1 x2 x3 x4 x5 x6 → (∀ (y1 : A1) (y2 : A2) (y3 : A3) (y4 : A4) (y5 : A5) (y6 : A6), I y1 y2 y3 y4 y5 y6 → μ y1 y2 y3 y4 y5 y6 < μ x1 x2 x3 x4 x5 x6 → L y1 y2 y3 y4 y5 y6) → f L x1 x2 x3 x4 x5 x6) (x1 : A1) (x2 : A2) (x3 : A3) (x4 : A4) (x5 : A5) (x6 : A6) (h0 : I x1 x2 x3 x4 x5 x6) : zw_lp6 f x1 x2 x3 x4 x5 x6 := by
  have key : ∀ (n : Nat) (x1 : A1) (x2 : A2) (x3 : A3) (x4 : A4) (x5 : A5) (x6 : A6), μ x1 x2 x3 x4 x5 x6 < n → I x1 x2 x3 x4 x5 x6 → zw_lpN6 f n x1 x2 x3 x4 x5 x6 := by
    intro n
    induction n with
    | zero => intro x1 x2 x3 x4 x5 x6 h; exact absurd h (Nat.not_lt_zero _)
    | succ n ih => intro x1 x2 x3 x4 x5 x6 hn hI; exact h (zw_lpN6 f n) x1 x2 x3 x4 x5 x6 hI (fun y1 y2 y3 y4 y5 y6 hJ hm => ih y1 y2 y3 y4 y5 y6 (Nat.lt_of_lt_of_le hm (Nat.le_of_lt_succ hn)) hJ)
  exact ⟨μ x1 x2 x3 x4 x5 x6 + 1, key _ x1 x2 x3 x4 x5 x6 (Nat.lt_succ_self _) h0⟩
def zw_jn7 {A1 A2 A3 A4 A5 A6 A7 : Type} (R : A1 → A2 → A3 → A4 → A5 → A6 → A7 → Prop) (B : (A1 → A2 → A3 → A4 → A5 → A6 → A7 → Prop) → Prop) : Prop := B R
theorem zw_jn7_i {A1 A2 A3 A4 A5 A6 A7 : Type} {R : A1 → A2 → A3 → A4 → A5 → A6 → A7 → Prop} {B : (A1 → A2 → A3 → A4 → A5 → A6 → A7 → Prop) → Prop} {P : A1 → A2 → A3 → A4 → A5 → A6 → A7 → Prop} {G : Prop} (hw : zw_jn7 R B) (h : ∀ (x1 : A1) (x2 : A2) (x3 : A3) (x4 : A4) (x5 : A5) (x6 : A6) (x7 : A7), R x1 x2 x3 x4 x5 x6 x7 → P x1 x2 x3 x4 x5 x6 x7) (g : ∀ J : A1 → A2 → A3 → A4 → A5 → A6 → A7 → Prop, (∀ (x1 : A1) (x2 : A2) (x3 : A3) (x4 : A4) (x5 : A5) (x6 : A6) (x7 : A7), J x1 x2 x3 x4 x5 x6 x7 → P x1 x2 x3 x4 x5 x6 x7) → B J → G) : G := g R h hw
def zw_lpN7 {A1 A2 A3 A4 A5 A6 A7 : Type} (f : (A1 → A2 → A3 → A4 → A5 → A6 → A7 → Prop) → A1 → A2 → A3 → A4 → A5 → A6 → A7 → Prop) : Nat → A1 → A2 → A3 → A4 → A5 → A6 → A7 → Prop
  | 0 => fun _ _ _ _ _ _ _ => False
  | n + 1 => f (zw_lpN7 f n)
def zw_lp7 {A1 A2 A3 A4 A5 A6 A7 : Type} (f : (A1 → A2 → A3 → A4 → A5 → A6 → A7 → Prop) → A1 → A2 → A3 → A4 → A5 → A6 → A7 → Prop) (x1 : A1) (x2 : A2) (x3 : A3) (x4 : A4) (x5 : A5) (x6 : A6) (x7 : A7) : Prop := ∃ n, zw_lpN7 f n x1 x2 x3 x4 x5 x6 x7
theorem zw_lp7_i {A1 A2 A3 A4 A5 A6 A7 : Type} {f : (A1 → A2 → A3 → A4 → A5 → A6 → A7 → Prop) → A1 → A2 → A3 → A4 → A5 → A6 → A7 → Prop} {P : A1 → A2 → A3 → A4 → A5 → A6 → A7 → Prop} {x1 : A1} {x2 : A2} {x3 : A3} {x4 : A4} {x5 : A5} {x6 : A6} {x7 : A7} (hw : zw_lp7 f x1 x2 x3 x4 x5 x6 x7) (h : ∀ (L : A1 → A2 → A3 → A4 → A5 → A6 → A7 → Prop) (x1 : A1) (x2 : A2) (x3 : A3) (x4 : A4) (x5 : A5) (x6 : A6) (x7 : A7), (∀ (x1 : A1) (x2 : A2) (x3 : A3) (x4 : A4) (x5 : A5) (x6 : A6) (x7 : A7), L x1 x2 x3 x4 x5 x6 x7 → P x1 x2 x3 x4 x5 x6 x7) → f L x1 x2 x3 x4 x5 x6 x7 → P x1 x2 x3 x4 x5 x6 x7) : P x1 x2 x3 x4 x5 x6 x7 := by
  obtain ⟨n, hw⟩ := hw
  have key : ∀ (n : Nat) (x1 : A1) (x2 : A2) (x3 : A3) (x4 : A4) (x5 : A5) (x6 : A6) (x7 : A7), zw_lpN7 f n x1 x2 x3 x4 x5 x6 x7 → P x1 x2 x3 x4 x5 x6 x7 := by
    intro n
    induction n with
    | zero => intro x1 x2 x3 x4 x5 x6 x7 h; exact h.elim
    | succ n ih => intro x1 x2 x3 x4 x5 x6 x7 hw; exact h (zw_lpN7 f n) x1 x2 x3 x4 x5 x6 x7 ih hw
  exact key n x1 x2 x3 x4 x5 x6 x7 hw
theorem zw_lp7_m {A1 A2 A3 A4 A5 A6 A7 : Type} {f : (A1 → A2 → A3 → A4 → A5 → A6 → A7 → Prop) → A1 → A2 → A3 → A4 → A5 → A6 → A7 → Prop} (I : A1 → A2 → A3 → A4 → A5 → A6 → A7 → Prop) (μ : A1 → A2 → A3 → A4 → A5 → A6 → A7 → Nat) (h : ∀ (L : A1 → A2 → A3 → A4 → A5 → A6 → A7 → Prop) (x1 : A1) (x2 : A2) (x3 : A3) (x4 : A4) (x5 : A5) (x6 : A6) (x7 : A7), I x1 x2 x3 x4 x5 x6 x7 → (∀ (y1 : A1) (y2 : A2) (y3 : A3) (y4 : A4) (y5 : A5) (y6 : A6) (y7 : A7), I y1 y2 y3 y4 y5 y6 y7 → μ y1 y2 y3 y4 y5 y6 y7 < μ x1 x2 x3 x4 x5 x6 x7 → L y1 y2 y3 y4 y5 y6 y7) → f L x1 x2 x3 x4 x5 x6 x7) (x1 : A1) (x2 : A2) (x3 : A3) (x4 : A4) (x5 : A5) (x6 : A6) (x7 : A7) (h0 : I x1 x2 x3 x4 x5 x6 x7) : zw_lp7 f x1 x2 x3 x4 x5 x6 x7 := by
  have key : ∀ (n : Nat) (x1 : A1) (x2 : A2) (x3 : A3) (x4 : A4) (x5 : A5) (x6 : A6) (x7 : A7), μ x1 x2 x3 x4 x5 x6 x7 < n → I x1 x2 x3 x4 x5 x6 x7 → zw_lpN7 f n x1 x2 x3 x4 x5 x6 x7 := by
    intro n
    induction n with
    | zero => intro x1 x2 x3 x4 x5 x6 x7 h; exact absurd h (Nat.not_lt_zero _)
    | succ n ih => intro x1 x2 x3 x4 x5 x6 x7 hn hI; exact h (zw_lpN7 f n) x1 x2 x3 x4 x5 x6 x7 hI (fun y1 y2 y3 y4 y5 y6 y7 hJ hm => ih y1 y2 y3 y4 y5 y6 y7 (Nat.lt_of_lt_of_le hm (Nat.le_of_lt_succ hn)) hJ)
  exact ⟨μ x1 x2 x3 x4 x5 x6 x7 + 1, key _ x1 x2 x3 x4 x5 x6 x7 (Nat.lt_succ_self _) h0⟩
def zw_jn8 {A1 A2 A3 A4 A5 A6 A7 A8 : Type} (R : A1 → A2 → A3 → A4 → A5 → A6 → A7 → A8 → Prop) (B : (A1 → A2 → A3 → A4 → A5 → A6 → A7 → A8 → Prop) → Prop) : Prop := B R
theorem zw_jn8_i {A1 A2 A3 A4 A5 A6 A7 A8 : Type} {R : A1 → A2 → A3 → A4 → A5 → A6 → A7 → A8 → Prop} {B : (A1 → A2 → A3 → A4 → A5 → A6 → A7 → A8 → Prop) → Prop} {P : A1 → A2 → A3 → A4 → A5 → A6 → A7 → A8 → Prop} {G : Prop} (hw : zw_jn8 R B) (h : ∀ (x1 : A1) (x2 : A2) (x3 : A3) (x4 : A4) (x5 : A5) (x6 : A6) (x7 : A7) (x8 : A8), R x1 x2 x3 x4 x5 x6 x7 x8 → P x1 x2 x3 x4 x5 x6 x7 x8) (g : ∀ J : A1 → A2 → A3 → A4 → A5 → A6 → A7 → A8 → Prop, (∀ (x1 : A1) (x2 : A2) (x3 : A3) (x4 : A4) (x5 : A5) (x6 : A6) (x7 : A7) (x8 : A8), J x1 x2 x3 x4 x5 x6 x7 x8 → P x1 x2 x3 x4 x5 x6 x7 x8) → B J → G) : G := g R h hw
def zw_lpN8 {A1 A2 A3 A4 A5 A6 A7 A8 : Type} (f : (A1 → A2 → A3 → A4 → A5 → A6 → A7 → A8 → Prop) → A1 → A2 → A3 → A4 → A5 → A6 → A7 → A8 → Prop) : Nat → A1 → A2 → A3 → A4 → A5 → A6 → A7 → A8 → Prop
  | 0 => fun _ _ _ _ _ _ _ _ => False
  | n + 1 => f (zw_lpN8 f n)
def zw_lp8 {A1 A2 A3 A4 A5 A6 A7 A8 : Type} (f : (A1 → A2 → A3 → A4 → A5 → A6 → A7 → A8 → Prop) → A1 → A2 → A3 → A4 → A5 → A6 → A7 → A8 → Prop) (x1 : A1) (x2 : A2) (x3 : A3) (x4 : A4) (x5 : A5) (x6 : A6) (x7 : A7) (x8 : A8) : Prop := ∃ n, zw_lpN8 f n x1 x2 x3 x4 x5 x6 x7 x8
theorem zw_lp8_i {A1 A2 A3 A4 A5 A6 A7 A8 : Type} {f : (A1 → A2 → A3 → A4 → A5 → A6 → A7 → A8 → Prop) → A1 → A2 → A3 → A4 → A5 → A6 → A7 → A8 → Prop} {P : A1 → A2 → A3 → A4 → A5 → A6 → A7 → A8 → Prop} {x1 : A1} {x2 : A2} {x3 : A3} {x4 : A4} {x5 : A5} {x6 : A6} {x7 : A7} {x8 : A8} (hw : zw_lp8 f x1 x2 x3 x4 x5 x6 x7 x8) (h : ∀ (L : A1 → A2 → A3 → A4 → A5 → A6 → A7 → A8 → Prop) (x1 : A1) (x2 : A2) (x3 : A3) (x4 : A4) (x5 : A5) (x6 : A6) (x7 : A7) (x8 : A8), (∀ (x1 : A1) (x2 : A2) (x3 : A3) (x4 : A4) (x5 : A5) (x6 : A6) (x7 : A7) (x8 : A8), L x1 x2 x3 x4 x5 x6 x7 x8 → P x1 x2 x3 x4 x5 x6 x7 x8) → f L x1 x2 x3 x4 x5 x6 x7 x8 → P x1 x2 x3 x4 x5 x6 x7 x8) : P x1 x2 x3 x4 x5 x6 x7 x8 := by
  obtain ⟨n, hw⟩ := hw
  have key : ∀ (n : Nat) (x1 : A1) (x2 : A2) (x3 : A3) (x4 : A4) (x5 : A5) (x6 : A6) (x7 : A7) (x8 : A8), zw_lpN8 f n x1 x2 x3 x4 x5 x6 x7 x8 → P x1 x2 x3 x4 x5 x6 x7 x8 := by
    intro n
    induction n with
    | zero => intro x1 x2 x3 x4 x5 x6 x7 x8 h; exact h.elim
    | succ n ih => intro x1 x2 x3 x4 x5 x6 x7 x8 hw; exact h (zw_lpN8 f n) x1 x2 x3 x4 x5 x6 x7 x8 ih hw
  exact key n x1 x2 x3 x4 x5 x6 x7 x8 hw
theorem zw_lp8_m {A1 A2 A3 A4 A5 A6 A7 A8 : Type} {f : (A1 → A2 → A3 → A4 → A5 → A6 → A7 → A8 → Prop) → A1 → A2 → A3 → A4 → A5 → A6 → A7 → A8 → Prop} (I : A1 → A2 → A3 → A4 → A5 → A6 → A7 → A8 → Prop) (μ : A1 → A2 → A3 → A4 → A5 → A6 → A7 → A8 → Nat) (h : ∀ (L : A1 → A2 → A3 → A4 → A5 → A6 → A7 → A8 → Prop) (x1 : A1) (x2 : A2) (x3 : A3) (x4 : A4) (x5 : A5) (x6 : A6) (x7 : A7) (x8 : A8), I x1 x2 x3 x4 x5 x6 x7 x8 → (∀ (y1 : A1) (y2 : A2) (y3 : A3) (y4 : A4) (y5 : A5) (y6 : A6) (y7 : A7) (y8 : A8), I y1 y2 y3 y4 y5 y6 y7 y8 → μ y1 y2 y3 y4 y5 y6 y7 y8 < μ x1 x2 x3 x4 x5 x6 x7 x8 → L y1 y2 y3 y4 y5 y6 y7 y8) → f L x1 x2 x3 x4 x5 x6 x7 x8) (x1 : A1) (x2 : A2) (x3 : A3) (x4 : A4) (x5 : A5) (x6 : A6) (x7 : A7) (x8 : A8) (h0 : I x1 x2 x3 x4 x5 x6 x7 x8) : zw_lp8 f x1 x2 x3 x4 x5 x6 x7 x8 := by
  have key : ∀ (n : Nat) (x1 : A1) (x2 : A2) (x3 : A3) (x4 : A4) (x5 : A5) (x6 : A6) (x7 : A7) (x8 : A8), μ x1 x2 x3 x4 x5 x6 x7 x8 < n → I x1 x2 x3 x4 x5 x6 x7 x8 → zw_lpN8 f n x1 x2 x3 x4 x5 x6 x7 x8 := by
    intro n
    induction n with
    | zero => intro x1 x2 x3 x4 x5 x6 x7 x8 h; exact absurd h (Nat.not_lt_zero _)
    | succ n ih => intro x1 x2 x3 x4 x5 x6 x7 x8 hn hI; exact h (zw_lpN8 f n) x1 x2 x3 x4 x5 x6 x7 x8 hI (fun y1 y2 y3 y4 y5 y6 y7 y8 hJ hm => ih y1 y2 y3 y4 y5 y6 y7 y8 (Nat.lt_of_lt_of_le hm (Nat.le_of_lt_succ hn)) hJ)
  exact ⟨μ x1 x2 x3 x4 x5 x6 x7 x8 + 1, key _ x1 x2 x3 x4 x5 x6 x7 x8 (Nat.lt_succ_self _) h0⟩
def zw_jn9 {A1 A2 A3 A4 A5 A6 A7 A8 A9 : Type} (R : A1 → A2 → A3 → A4 → A5 → A6 → A7 → A8 → A9 → Prop) (B : (A1 → A2 → A3 → A4 → A5 → A6 → A7 → A8 → A9 → Prop) → Prop) : Prop := B R
theorem zw_jn9_i {A1 A2 A3 A4 A5 A6 A7 A8 A9 : Type} {R : A1 → A2 → A3 → A4 → A5 → A6 → A7 → A8 → A9 → Prop} {B : (A1 → A2 → A3 → A4 → A5 → A6 → A7 → A8 → A9 → Prop) → Prop} {P : A1 → A2 → A3 → A4 → A5 → A6 → A7 → A8 → A9 → Prop} {G : Prop} (hw : zw_jn9 R B) (h : ∀ (x1 : A1) (x2 : A2) (x3 : A3) (x4 : A4) (x5 : A5) (x6 : A6) (x7 : A7) (x8 : A8) (x9 : A9), R x1 x2 x3 x4 x5 x6 x7 x8 x9 → P x1 x2 x3 x4 x5 x6 x7 x8 x9) (g : ∀ J : A1 → A2 → A3 → A4 → A5 → A6 → A7 → A8 → A9 → Prop, (∀ (x1 : A1) (x2 : A2) (x3 : A3) (x4 : A4) (x5 : A5) (x6 : A6) (x7 : A7) (x8 : A8) (x9 : A9), J x1 x2 x3 x4 x5 x6 x7 x8 x9 → P x1 x2 x3 x4 x5 x6 x7 x8 x9) → B J → G) : G := g R h hw
def zw_lpN9 {A1 A2 A3 A4 A5 A6 A7 A8 A9 : Type} (f : (A1 → A2 → A3 → A4 → A5 → A6 → A7 → A8 → A9 → Prop) → A1 → A2 → A3 → A4 → A5 → A6 → A7 → A8 → A9 → Prop) : Nat → A1 → A2 → A3 → A4 → A5 → A6 → A7 → A8 → A9 → Prop
  | 0 => fun _ _ _ _ _ _ _ _ _ => False
  | n + 1 => f (zw_lpN9 f n)
def zw_lp9 {A1 A2 A3 A4 A5 A6 A7 A8 A9 : Type} (f : (A1 → A2 → A3 → A4 → A5 → A6 → A7 → A8 → A9 → Prop) → A1 → A2 → A3 → A4 → A5 → A6 → A7 → A8 → A9 → Prop) (x1 : A1) (x2 : A2) (x3 : A3) (x4 : A4) (x5 : A5) (x6 : A6) (x7 : A7) (x8 : A8) (x9 : A9) : Prop := ∃ n, zw_lpN9 f n x1 x2 x3 x4 x5 x6 x7 x8 x9
theorem zw_lp9_i {A1 A2 A3 A4 A5 A6 A7 A8 A9 : Type} {f : (A1 → A2 → A3 → A4 → A5 → A6 → A7 → A8 → A9 → Prop) → A1 → A2 → A3 → A4 → A5 → A6 → A7 → A8 → A9 → Prop} {P : A1 → A2 → A3 → A4 → A5 → A6 → A7 → A8 → A9 → Prop} {x1 : A1} {x2 : A2} {x3 : A3} {x4 : A4} {x5 : A5} {x6 : A6} {x7 : A7} {x8 : A8} {x9 : A9} (hw : zw_lp9 f x1 x2 x3 x4 x5 x6 x7 x8 x9) (h : ∀ (L : A1 → A2 → A3 → A4 → A5 → A6 → A7 → A8 → A9 → Prop) (x1 : A1) (x2 : A2) (x3 : A3) (x4 : A4) (x5 : A5) (x6 : A6) (x7 : A7) (x8 : A8) (x9 : A9), (∀ (x1 : A1) (x2 : A2) (x3 : A3) (x4 : A4) (x5 : A5) (x6 : A6) (x7 : A7) (x8 : A8) (x9 : A9), L x1 x2 x3 x4 x5 x6 x7 x8 x9 → P x1 x2 x3 x4 x5 x6 x7 x8 x9) → f L x1 x2 x3 x4 x5 x6 x7 x8 x9 → P x1 x2 x3 x4 x5 x6 x7 x8 x9) : P x1 x2 x3 x4 x5 x6 x7 x8 x9 := by
  obtain ⟨n, hw⟩ := hw
  have key : ∀ (n : Nat) (x1 : A1) (x2 : A2) (x3 : A3) (x4 : A4) (x5 : A5) (x6 : A6) (x7 : A7) (x8 : A8) (x9 : A9), zw_lpN9 f n x1 x2 x3 x4 x5 x6 x7 x8 x9 → P x1 x2 x3 x4 x5 x6 x7 x8 x9 := by
    intro n
    induction n with
    | zero => intro x1 x2 x3 x4 x5 x6 x7 x8 x9 h; exact h.elim
    | succ n ih => intro x1 x2 x3 x4 x5 x6 x7 x8 x9 hw; exact h (zw_lpN9 f n) x1 x2 x3 x4 x5 x6 x7 x8 x9 ih hw
  exact key n x1 x2 x3 x4 x5 x6 x7 x8 x9 hw
theorem zw_lp9_m {A1 A2 A3 A4 A5 A6 A7 A8 A9 : Type} {f : (A1 → A2 → A3 → A4 → A5 → A6 → A7 → A8 → A9 → Prop) → A1 → A2 → A3 → A4 → A5 → A6 → A7 → A8 → A9 → Prop} (I : A1 → A2 → A3 → A4 → A5 → A6 → A7 → A8 → A9 → Prop) (μ : A1 → A2 → A3 → A4 → A5 → A6 → A7 → A8 → A9 → Nat) (h : ∀ (L : A1 → A2 → A3 → A4 → A5 → A6 → A7 → A8 → A9 → Prop) (x1 : A1) (x2 : A2) (x3 : A3) (x4 : A4) (x5 : A5) (x6 : A6) (x7 : A7) (x8 : A8) (x9 : A9), I x1 x2 x3 x4 x5 x6 x7 x8 x9 → (∀ (y1 : A1) (y2 : A2) (y3 : A3) (y4 : A4) (y5 : A5) (y6 : A6) (y7 : A7) (y8 : A8) (y9 : A9), I y1 y2 y3 y4 y5 y6 y7 y8 y9 → μ y1 y2 y3 y4 y5 y6 y7 y8 y9 < μ x1 x2 x3 x4 x5 x6 x7 x8 x9 → L y1 y2 y3 y4 y5 y6 y7 y8 y9) → f L x1 x2 x3 x4 x5 x6 x7 x8 x9) (x1 : A1) (x2 : A2) (x3 : A3) (x4 : A4) (x5 : A5) (x6 : A6) (x7 : A7) (x8 : A8) (x9 : A9) (h0 : I x1 x2 x3 x4 x5 x6 x7 x8 x9) : zw_lp9 f x1 x2 x3 x4 x5 x6 x7 x8 x9 := by
  have key : ∀ (n : Nat) (x1 : A1) (x2 : A2) (x3 : A3) (x4 : A4) (x5 : A5) (x6 : A6) (x7 : A7) (x8 : A8) (x9 : A9), μ x1 x2 x3 x4 x5 x6 x7 x8 x9 < n → I x1 x2 x3 x4 x5 x6 x7 x8 x9 → zw_lpN9 f n x1 x2 x3 x4 x5 x6 x7 x8 x9 := by
    intro n
    induction n with
    | zero => intro x1 x2 x3 x4 x5 x6 x7 x8 x9 h; exact absurd h (Nat.not_lt_zero _)
    | succ n ih => intro x1 x2 x3 x4 x5 x6 x7 x8 x9 hn hI; exact h (zw_lpN9 f n) x1 x2 x3 x4 x5 x6 x7 x8 x9 hI (fun y1 y2 y3 y4 y5 y6 y7 y8 y9 hJ hm => ih y1 y2 y3 y4 y5 y6 y7 y8 y9 (Nat.lt_of_lt_of_le hm (Nat.le_of_lt_succ hn)) hJ)
  exact ⟨μ x1 x2 x3 x4 x5 x6 x7 x8 x9 + 1, key _ x1 x2 x3 x4 x5 x6 x7 x8 x9 (Nat.lt_succ_self _) h0⟩
theorem zw_lt {i : Int32} {n : Nat} (h : vp_in i n) : i.toNatClampNeg < n := Nat.not_le.mp fun q => h (Or.inr q)
theorem zw_lg_eq {x y : Int64} : lg_cmp x y = 0 ↔ x = y := by
  unfold lg_cmp
  by_cases h1 : y < x
  · rw [if_pos h1]
    exact ⟨fun h => absurd h (by decide), fun h => absurd h1 (by rw [h]; exact Int64.lt_irrefl)⟩
  · by_cases h2 : x = y
    · simp [h1, h2]
    · simp [h1, h2]
theorem zw_lg_lt {x y : Int64} : lg_cmp x y < 0 ↔ x < y := by
  unfold lg_cmp
  by_cases h1 : y < x
  · rw [if_pos h1]
    exact ⟨fun h => absurd h (by decide), fun h => absurd h1 (by rw [Int64.lt_iff_toInt_lt] at h ⊢; omega)⟩
  · by_cases h2 : x = y
    · subst h2
      simp [h1]
    · rw [if_neg h1, if_neg h2]
      refine ⟨fun _ => ?_, fun _ => by decide⟩
      rw [Int64.lt_iff_toInt_lt] at h1 ⊢
      have h3 : x.toInt ≠ y.toInt := fun q => h2 (Int64.toInt_inj.mp q)
      omega
theorem zw_lg_gt {x y : Int64} : 0 < lg_cmp x y ↔ y < x := by
  unfold lg_cmp
  by_cases h1 : y < x
  · rw [if_pos h1]
    exact ⟨fun _ => h1, fun _ => by decide⟩
  · by_cases h2 : x = y
    · subst h2
      simp [h1]
    · rw [if_neg h1, if_neg h2]
      exact ⟨fun h => absurd h (by decide), fun h => absurd h h1⟩
theorem zw_lg_ge {x y : Int64} : 0 ≤ lg_cmp x y ↔ y ≤ x := by
  have h := zw_lg_lt (x := x) (y := y)
  rw [← Int32.not_lt, ← Int64.not_lt, h]
theorem zw_lg_le {x y : Int64} : lg_cmp x y ≤ 0 ↔ x ≤ y := by
  have h := zw_lg_gt (x := x) (y := y)
  rw [← Int32.not_lt, ← Int64.not_lt, h]
/-! zw_: worlds that a whole system's methods share: their starts, their calls -/
abbrev zw_Z : Type := (Nat → Int32) × (Nat → Int64) × (Nat → Nat → Int32) × (Nat → Nat → Int64)
def zw_N (U : State) : Prop := ∀ q ∈ zw_nw, va_Nw (.methodLinkNest q.1 q.2.1 q.2.2.1 q.2.2.2) U
theorem zw_N.same {u U : State} (h : u.vm = U.vm) (hN : zw_N u) : zw_N U := fun q hq => va_Nw.same rfl h (hN q hq)
theorem zw_N.warm {s U : State} (hW : s.WarmedH U.vm) (hN : zw_N s) : zw_N U := fun q hq => va_Nw.warmM hW (hN q hq)
def zw_B (D : va_G) (cl : List vw_C) (tys : List (ClassId × FieldType)) (ws : va_W) (U : State) : Prop := va_P D cl ws U.heap ∧ va_K D cl tys U ∧ zw_N U
def zw_Bw (D : va_G) (cl : List vw_C) (tys : List (ClassId × FieldType)) (ws : va_W) (sz : Nat) (U : State) : Prop := U.heap.size = sz ∧ va_P D cl ws U.heap ∧ va_K D cl tys U ∧ va_D (fun _ => True) ws ∧ zw_N U
def zw_E (D : va_G) (cl : List vw_C) (tys : List (ClassId × FieldType)) (A : Nat → Prop) (ws : va_W) (t : State) : Prop := va_P D cl ws t.heap ∧ va_K D cl tys t ∧ va_D A ws
theorem zw_blind {av : List Value} {D : va_G} {cl : List vw_C} {tys : List (ClassId × FieldType)} {ws : va_W} : FrameBlind (va_Pc av (zw_B D cl tys ws)) := fun a U g mk q => ⟨q.1, q.2.1, va_K.moved (u := U) (U := U.calling g mk a) (Vm.Alike.refl U.vm) q.2.2.1, zw_N.same (u := U) rfl q.2.2.2⟩
theorem zw_blindw {av : List Value} {D : va_G} {cl : List vw_C} {tys : List (ClassId × FieldType)} {ws : va_W} {sz : Nat} : FrameBlind (va_Pc av (zw_Bw D cl tys ws sz)) := fun a U g mk q => ⟨q.1, q.2.1, q.2.2.1, va_K.moved (u := U) (U := U.calling g mk a) (Vm.Alike.refl U.vm) q.2.2.2.1, q.2.2.2.2.1, zw_N.same (u := U) rfl q.2.2.2.2.2⟩
theorem zw_preS0 {s : State} {H : Heap} {As : List Value} : PreS s H (va_Pc As (fun _ => True)) As := ⟨fun _ _ _ _ q => q, fun _ _ _ => ⟨rfl, trivial⟩⟩
theorem zw_preS {s : State} {H : Heap} {As : List Value} {D : va_G} {cl : List vw_C} {tys : List (ClassId × FieldType)} {ws : va_W} (hK : va_K D cl tys s) (hN : zw_N s) (hP : va_P D cl ws H) : PreS s H (va_Pc As (zw_B D cl tys ws)) As :=
  ⟨zw_blind, fun U hU hW => ⟨rfl, by rw [hU]; exact hP, va_K.moved hW.alike hK, hN.warm hW⟩⟩
theorem zw_preV {s : State} {H : Heap} {As : List Value} {D : va_G} {cl : List vw_C} {tys : List (ClassId × FieldType)} {ws : va_W} (hK : va_K D cl tys s) (hN : zw_N s) (hP : va_P D cl ws H) {q : vw_C} {ci q0 b : Nat} {fs : List Value} (hc : cl[ci]? = some q) (he : ws[q0]? = some (b, .inr (ci, fs))) : PreV s H q.1 b (va_Pc (.ref b :: As) (zw_B D cl tys ws)) As :=
  ⟨zw_blind, va_recv hK hP hc he, fun U hU hW => ⟨rfl, by rw [hU]; exact hP, va_K.moved hW.alike hK, hN.warm hW⟩⟩
theorem zw_preSw {s : State} {H : Heap} {As : List Value} {D : va_G} {cl : List vw_C} {tys : List (ClassId × FieldType)} {ws : va_W} {A : Nat → Prop} (hK : va_K D cl tys s) (hN : zw_N s) (hP : va_P D cl ws H) (hD : va_D A ws) : PreS s H (va_Pc As (zw_Bw D cl tys ws H.size)) As :=
  ⟨zw_blindw, fun U hU hW => ⟨rfl, by rw [hU], by rw [hU]; exact hP, va_K.moved hW.alike hK, hD.weaken (fun _ _ _ _ => trivial), hN.warm hW⟩⟩
theorem zw_preVw {s : State} {H : Heap} {As : List Value} {D : va_G} {cl : List vw_C} {tys : List (ClassId × FieldType)} {ws : va_W} {A : Nat → Prop} (hK : va_K D cl tys s) (hN : zw_N s) (hP : va_P D cl ws H) (hD : va_D A ws) {q : vw_C} {ci q0 b : Nat} {fs : List Value} (hc : cl[ci]? = some q) (he : ws[q0]? = some (b, .inr (ci, fs))) : PreV s H q.1 b (va_Pc (.ref b :: As) (zw_Bw D cl tys ws H.size)) As :=
  ⟨zw_blindw, va_recv hK hP hc he, fun U hU hW => ⟨rfl, by rw [hU], by rw [hU]; exact hP, va_K.moved hW.alike hK, hD.weaken (fun _ _ _ _ => trivial), hN.warm hW⟩⟩
section ZWC
variable {p : Program} {l : Launch} {e : Env} {R : Room} {s : State} {m : MethodId} {args : Array Value} {below : List Frame} {meth : Method} {c : Code} {H : Heap} {locs : List Loc} {cells slots : Nat} {Q : State → Prop}
variable {cc : ByteArray} {pc : Nat} {ls : Array Slot} {rest st0 : List Value} {a : Array Value} {A : Nat → Prop} {H0 : Heap} {D : va_G} {cl : List vw_C} {tys : List (ClassId × FieldType)} {w0 : va_W} {Wd : (Nat → Int32) → (Nat → Int64) → (Nat → Nat → Int32) → (Nat → Nat → Int64) → va_W}
theorem zw_free (hD : va_D A w0) (hS : va_S A H0 H locs) (hA : ∀ q, H0.size ≤ q → A q) : ∀ q, va_A w0 H.size q → A q := by
  rintro q (⟨k, e, h⟩ | h)
  · exact hD.2 k _ h
  · exact hA q (Nat.le_trans hS.1 h)
theorem zw_cv {K : (Nat → Int32) → (Nat → Int64) → (Nat → Nat → Int32) → (Nat → Nat → Int64) → Prop} (hr : va_Run p l e R s m args below meth c H locs cells slots 0 0 (F0 m pc ls st0) rest (va_Qv (fun u : zw_Z => K u.1 u.2.1 u.2.2.1 u.2.2.2) (fun u t => zw_E D cl tys (va_A w0 H.size) (Wd u.1 u.2.1 u.2.2.1 u.2.2.2) t) (va_A w0 H.size) a) (va_A w0 H.size)) (hD : va_D A w0) (hS : va_S A H0 H locs) (hA : ∀ q, H0.size ≤ q → A q)
    (kk : ∀ fi fl ai al (H1 : Heap) (locs1 : List Loc), K fi fl ai al → va_P D cl (Wd fi fl ai al) H1 → va_D A (Wd fi fl ai al) → va_S A H0 H1 locs1 → W p l e R s m args below meth c H1 locs1 cells slots Q (F0 m (pc + 3) ls rest)) : W p l e R s m args below meth c H locs cells slots Q (F0 m pc ls st0) := by
  have hF := zw_free hD hS hA
  refine va_callv hr hS (fun q _ h => hF q h) hF (fun u t H1 locs1 ht hvm hw hB hz hk hS1 => ?_)
  obtain ⟨hP1, hK1, hD1⟩ := hB
  rw [ht] at hP1
  exact kk _ _ _ _ H1 locs1 hw hP1 (hD1.weaken (fun k q _ h => hF q.1 h)) hS1
theorem zw_ci {K : Int32 → (Nat → Int32) → (Nat → Int64) → (Nat → Nat → Int32) → (Nat → Nat → Int64) → Prop} (hr : va_Run p l e R s m args below meth c H locs cells slots 0 0 (F0 m pc ls st0) rest (va_Qi (fun r (u : zw_Z) => K r u.1 u.2.1 u.2.2.1 u.2.2.2) (fun u t => zw_E D cl tys (va_A w0 H.size) (Wd u.1 u.2.1 u.2.2.1 u.2.2.2) t) (va_A w0 H.size) a) (va_A w0 H.size)) (hD : va_D A w0) (hS : va_S A H0 H locs) (hA : ∀ q, H0.size ≤ q → A q)
    (kk : ∀ r fi fl ai al (H1 : Heap) (locs1 : List Loc), K r fi fl ai al → va_P D cl (Wd fi fl ai al) H1 → va_D A (Wd fi fl ai al) → va_S A H0 H1 locs1 → W p l e R s m args below meth c H1 locs1 cells slots Q (F0 m (pc + 3) ls (.int r :: rest))) : W p l e R s m args below meth c H locs cells slots Q (F0 m pc ls st0) := by
  have hF := zw_free hD hS hA
  refine va_calli hr hS (fun q _ h => hF q h) hF (fun r u t H1 locs1 ht hvm hw hB hz hk hS1 => ?_)
  obtain ⟨hP1, hK1, hD1⟩ := hB
  rw [ht] at hP1
  exact kk r _ _ _ _ H1 locs1 hw hP1 (hD1.weaken (fun k q _ h => hF q.1 h)) hS1
theorem zw_cl {K : Int64 → (Nat → Int32) → (Nat → Int64) → (Nat → Nat → Int32) → (Nat → Nat → Int64) → Prop} (hr : va_Run p l e R s m args below meth c H locs cells slots 0 0 (F0 m pc ls st0) rest (va_Ql (fun r (u : zw_Z) => K r u.1 u.2.1 u.2.2.1 u.2.2.2) (fun u t => zw_E D cl tys (va_A w0 H.size) (Wd u.1 u.2.1 u.2.2.1 u.2.2.2) t) (va_A w0 H.size) a) (va_A w0 H.size)) (hD : va_D A w0) (hS : va_S A H0 H locs) (hA : ∀ q, H0.size ≤ q → A q)
    (kk : ∀ r fi fl ai al (H1 : Heap) (locs1 : List Loc), K r fi fl ai al → va_P D cl (Wd fi fl ai al) H1 → va_D A (Wd fi fl ai al) → va_S A H0 H1 locs1 → W p l e R s m args below meth c H1 locs1 cells slots Q (F0 m (pc + 3) ls (.long r :: rest))) : W p l e R s m args below meth c H locs cells slots Q (F0 m pc ls st0) := by
  have hF := zw_free hD hS hA
  refine va_calll hr hS (fun q _ h => hF q h) hF (fun r u t H1 locs1 ht hvm hw hB hz hk hS1 => ?_)
  obtain ⟨hP1, hK1, hD1⟩ := hB
  rw [ht] at hP1
  exact kk r _ _ _ _ H1 locs1 hw hP1 (hD1.weaken (fun k q _ h => hF q.1 h)) hS1
theorem zw_aald (hexec : p.tables.exec = Jvm.exec) (hb : c.code = cc) (hK : va_K D cl tys s) (hP : va_P D cl w0 H) (q0 t0 : Nat) {cA : ClassId} {ty : FieldType} {n b o : Nat} {f : Nat → Option Nat} (ha : w0[q0]? = some (o, .inl (cA, n, .inr (.inr (.inr (.inr f)))))) (ht : tys[t0]? = some (cA, .array ty)) {i : Int32} (hin : vp_in i n) (hf : f i.toNatClampNeg = some b) (hdg : decode cc pc = .ok (.aaload, 1))
    (kk : W p l e R s m args below meth c H locs cells slots Q (F0 m (pc + 1) ls (.ref b :: rest))) : W p l e R s m args below meth c H locs cells slots Q (F0 m pc ls (.int i :: .ref o :: rest)) := by
  have hlt : i.toNatClampNeg < n := Nat.not_le.mp fun q => hin (Or.inr q)
  exact W.aald (v := .ref b) (ty := .array ty) hexec hb (hP q0 _ ha) ((hK.2 t0 _ ht).1 n (fun j => va_rf (f j))) rfl (fun q => by cases q) (by show ¬ (i < 0 ∨ (arrV _ _ _).slots.size ≤ _); rw [arrV_size]; exact hin) (by show (arrV _ _ _).slots[_]? = _; rw [arrV_read _ _ hlt, hf]; rfl) rfl rfl hdg kk
end ZWC
/-! the tables' words as one list for every method -/
theorem zw_good1 {w c0 : Cond} (h : w ∈ zw_tbl) : w ∈ (c0 :: zw_tbl) ∧ ((w.onTables && w.keeps) = true ∨ ∃ ty, w = .arrayClass ty) := ⟨List.mem_cons_of_mem _ h, good_of_word (List.mem_filter.mp h).2⟩
theorem zw_goodC {c0 c1 : Cond} (h : c1 ∈ zw_tbl) : GoodIn (c0 :: zw_tbl) (c1 :: zw_tbl) := fun w hw => (List.mem_cons.mp hw).elim (fun e => e ▸ zw_good1 h) zw_good1
theorem zw_goodV {c0 c1 : Cond} {own C : String} {idx : Nat} {y : MethodName} (h1 : Cond.methodLink own idx y ∈ zw_tbl) (h2 : Cond.instanceMethod y ∈ zw_tbl) (h3 : Cond.selects C y y ∈ zw_tbl) (h4 : Cond.initialized C ∈ zw_tbl) (h : c1 ∈ zw_tbl) : GoodIn (c0 :: zw_tbl) (wsV own idx C y (c1 :: zw_tbl)) := by
  intro w hw
  unfold wsV at hw
  rcases List.mem_append.mp hw with hw | hw
  · rcases List.mem_cons.mp hw with rfl | hw
    · exact zw_good1 h1
    rcases List.mem_cons.mp hw with rfl | hw
    · exact zw_good1 h2
    rcases List.mem_cons.mp hw with rfl | hw
    · exact zw_good1 h3
    rcases List.mem_cons.mp hw with rfl | hw
    · exact zw_good1 h4
    · exact absurd hw List.not_mem_nil
  · exact zw_goodC h w hw
theorem zw_goodS {c0 c1 : Cond} {own : String} {idx : Nat} {y : MethodName} (h1 : Cond.methodLink own idx y ∈ zw_tbl) (h2 : Cond.static y ∈ zw_tbl) (h4 : Cond.initialized y.cls ∈ zw_tbl) (h : c1 ∈ zw_tbl) : GoodIn (c0 :: zw_tbl) (va_wsS own idx y (c1 :: zw_tbl)) := by
  intro w hw
  unfold va_wsS at hw
  rcases List.mem_append.mp hw with hw | hw
  · rcases List.mem_cons.mp hw with rfl | hw
    · exact zw_good1 h1
    rcases List.mem_cons.mp hw with rfl | hw
    · exact zw_good1 h2
    rcases List.mem_cons.mp hw with rfl | hw
    · exact zw_good1 h4
    · exact absurd hw List.not_mem_nil
  · exact zw_goodC h w hw
