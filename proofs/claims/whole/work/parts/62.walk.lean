/-! PURE: the walk over the acts, as numbers; the class's walk. A: the class's arrays that a plan is told in -/
/-- how far a load of age d has crept -/
def crA (A : Nat → Nat → Int32) (d : Int32) : Nat → Int32
  | 0 => 0
  | k + 1 => if d < A 2 k then crA A d k else A 3 k
theorem crA_s {A : Nat → Nat → Int32} {d : Int32} {k : Nat} : crA A d (k + 1) = if d < A 2 k then crA A d k else A 3 k := rfl
theorem Rk.mono {nc : Nat} {ai bi : Nat → Nat → Int32} (h : Rk nc ai bi) {i j : Nat} (hij : i ≤ j) (hj : j < nc) : (ai 2 i).toInt ≤ (ai 2 j).toInt := by
  induction hij with
  | refl => exact Int.le_refl _
  | @step m _ ih =>
    have h1 := h.2 m hj
    have h2 := ih (by omega)
    show (ai 2 i).toInt ≤ (ai 2 (m + 1)).toInt
    omega
theorem crA_stop {nc : Nat} {A bi : Nat → Nat → Int32} (h : Rk nc A bi) {d : Int32} {k : Nat} (hk : k < nc) (e : d < A 2 k) : ∀ n, k ≤ n → n ≤ nc → crA A d n = crA A d k := by
  intro n hn
  induction hn with
  | refl => intro _; rfl
  | @step m hm ih =>
    intro h1
    show crA A d (m + 1) = _
    have hm : k ≤ m := hm
    have := h.mono hm (show m < nc by omega)
    rw [crA_s, if_pos (show d < A 2 m by rw [i_lt] at e ⊢; omega)]
    exact ih (by omega)
theorem crA_rng {nc : Nat} {A bi : Nat → Nat → Int32} (h : Rk nc A bi) {d : Int32} : ∀ n, n ≤ nc → isR 0 5000 (crA A d n) := by
  intro n
  induction n with
  | zero => intro _; exact (show isR 0 5000 0 from ⟨by decide, by decide⟩)
  | succ n ih =>
    intro h1
    rw [crA_s]
    by_cases e : d < A 2 n
    · rw [if_pos e]; exact ih (by omega)
    · rw [if_neg e]; exact (h.1 n (by omega)).2.2
/-- whether part x is among the first k of the row -/
def hasR (row : Nat → Int32) (x : Int32) : Nat → Bool
  | 0 => false
  | k + 1 => hasR row x k || decide (row k = x)
theorem hasR_s {row : Nat → Int32} {x : Int32} {k : Nat} : hasR row x (k + 1) = (hasR row x k || decide (row k = x)) := rfl
theorem hasR_i {row : Nat → Int32} {x : Int32} : ∀ n, hasR row x n = true ↔ ∃ k, k < n ∧ row k = x := by
  intro n
  induction n with
  | zero => exact ⟨fun h => (by cases h), fun ⟨k, h, _⟩ => absurd h (Nat.not_lt_zero _)⟩
  | succ n ih =>
    rw [hasR_s, Bool.or_eq_true, ih, decide_eq_true_iff]
    constructor
    · rintro (⟨k, h1, h2⟩ | h)
      · exact ⟨k, by omega, h2⟩
      · exact ⟨n, by omega, h⟩
    · rintro ⟨k, h1, h2⟩
      by_cases q : k = n
      · rw [q] at h2; exact Or.inr h2
      · exact Or.inl ⟨k, by omega, h2⟩
/-- the part that act a loads, and by how much -/
def wA (A : Nat → Nat → Int32) (row : Nat → Int32) (a : Nat) : Int32 := if A 6 a = 0 then row (cnt (A 6) a) else A 7 a
def tA (A : Nat → Nat → Int32) (row : Nat → Int32) (a : Nat) : Int32 := if A 6 a = 0 then A 20 (row (cnt (A 6) a)).toNatClampNeg else A 8 a
/-- the supports that are on before act a, as a number -/
def obA (A : Nat → Nat → Int32) (a : Nat) : Nat := (if onk (A 6) (A 7) 0 a = true then 1 else 0) + (if onk (A 6) (A 7) 1 a = true then 2 else 0) + (if onk (A 6) (A 7) 2 a = true then 4 else 0)
theorem obA_8 {A : Nat → Nat → Int32} {a : Nat} : obA A a < 8 := by
  unfold obA
  cases onk (A 6) (A 7) 0 a <;> cases onk (A 6) (A 7) 1 a <;> cases onk (A 6) (A 7) 2 a <;> decide
/-- what support k carries behind the first a acts -/
def carA (A : Nat → Nat → Int32) (row : Nat → Int32) (k : Nat) : Nat → Int64
  | 0 => 0
  | a + 1 => if A 6 a = 0 ∨ A 6 a = 1 then (if onk (A 6) (A 7) k a = true then carA A row k a + (tA A row a).toInt64 * (A (32 + k) (wA A row a).toNatClampNeg).toInt64 else carA A row k a) else if A 6 a = 3 ∧ A 7 a = nI k then 0 else carA A row k a
theorem carA_s {A : Nat → Nat → Int32} {row : Nat → Int32} {k a : Nat} : carA A row k (a + 1) = if A 6 a = 0 ∨ A 6 a = 1 then (if onk (A 6) (A 7) k a = true then carA A row k a + (tA A row a).toInt64 * (A (32 + k) (wA A row a).toNatClampNeg).toInt64 else carA A row k a) else if A 6 a = 3 ∧ A 7 a = nI k then 0 else carA A row k a := rfl
/-- what act a gives part i, before age -/
def gnA (A : Nat → Nat → Int32) (row : Nat → Int32) (i a : Nat) : Int64 := if A 6 a = 0 ∨ A 6 a = 1 then (tA A row a).toInt64 * (A (23 + obA A a) (6 * i + (wA A row a).toNatClampNeg)).toInt64 * 1000 else if A 6 a = 3 then carA A row (A 7 a).toNatClampNeg a * (A (36 + (A 7 a).toNatClampNeg) i).toInt64 else 0
/-- by what age multiplies it -/
def faA (A : Nat → Nat → Int32) (row : Nat → Int32) (nc : Nat) (D sa : Int32) (i a : Nat) : Int64 := if hasR row (nI i) (cnt (A 6) (a + 1)) = true then ((1000 : Int32) + crA A (D - A 5 (A 9 a).toNatClampNeg) nc).toInt64 else (crA A (D - A 5 (A 9 a).toNatClampNeg) nc - crA A (A 5 sa.toNatClampNeg - A 5 (A 9 a).toNatClampNeg) nc).toInt64
/-- how part i, added in stage sa, has risen on day D behind the first a acts -/
def rsA (A : Nat → Nat → Int32) (row : Nat → Int32) (nc : Nat) (D sa : Int32) (i : Nat) : Nat → Int64
  | 0 => 0
  | a + 1 => rsA A row nc D sa i a + gnA A row i a * faA A row nc D sa i a
theorem rsA_s {A : Nat → Nat → Int32} {row : Nat → Int32} {nc : Nat} {D sa : Int32} {i a : Nat} : rsA A row nc D sa i (a + 1) = rsA A row nc D sa i a + gnA A row i a * faA A row nc D sa i a := rfl
section WK
variable {fi : Nat → Int32} {fl : Nat → Int64} {ai A : Nat → Nat → Int32} {al : Nat → Nat → Int64} {p nc ns na nd nr no : Nat} {v1 v2 v3 v4 x D : Int32}
theorem Cr_at_s {K : Int32 → Prop} {bi : Nat → Nat → Int32} {d : Int32} (h1 : fi 1 = nI nc) (h8 : nc ≤ 8) (hk : Rk nc A bi) (e2 : ai 2 = A 2) (e3 : ai 3 = A 3) (h : K (crA A d nc)) : Cr_at_w fi fl ai al d K := by
  unfold Cr_at_w
  rw [h1, e2, e3]
  refine lp2_d nc (by omega) (fun k b => b = crA A d k) (fun L k b hkn hI hL => ?_) 0 0 (by omega) rfl
  refine br_n (by omega) (by omega) (fun q => ?_) (fun q => ⟨vp_in_nI (by omega) (by omega), ?_⟩)
  · rw [hI, show k = nc by omega]; exact h
  · rw [nC (by omega)]
    refine br_i Iff.rfl (fun e => ?_) (fun e => ⟨vp_in_nI (by omega) (by omega), ?_⟩)
    · rw [hI, ← crA_stop hk q e nc (by omega) (Nat.le_refl _)]; exact h
    · unfold zw_nm
      rw [nI_p1]
      refine hL _ q ?_
      rw [crA_s, if_neg e]
theorem Wa_aim_s {K : (Nat → Int32) → (Nat → Nat → Int32) → Prop} {bi : Nat → Nat → Int32} (h1 : fi 1 = nI nc) (h8 : nc ≤ 8) (h2 : fi 2 = nI ns) (h12 : ns ≤ 12) (hk : Rk nc A bi) (e2 : ai 2 = A 2) (e3 : ai 3 = A 3) (e5 : ai 5 = A 5)
    (hy : ∀ ai', (∀ q, q < 44 ∨ q = 45 ∨ 58 ≤ q → ai' q = ai q) → (∀ s, s < ns → ai' 44 s = crA A (D - A 5 s) nc) → (∀ t s, t < ns → s ≤ t → ai' (46 + t) s = crA A (A 5 t - A 5 s) nc) → K (va_up fi 8 v1) ai') : Wa_aim_w fi fl ai al v1 D K := by
  unfold Wa_aim_w
  simp only [zw_nm]
  have f1 : va_up fi 8 v1 1 = nI nc := by rw [va_n _ _ (show 1 ≠ 8 by omega)]; exact h1
  have f2 : va_up fi 8 v1 2 = nI ns := by rw [va_n _ _ (show 2 ≠ 8 by omega)]; exact h2
  rw [f2]
  refine lp2_c ns (by omega) (fun k ai' => (∀ q, q < 44 ∨ q = 45 ∨ 58 ≤ q → ai' q = ai q) ∧ (∀ s, s < k → ai' 44 s = crA A (D - A 5 s) nc) ∧ (∀ t s, t < k → s ≤ t → ai' (46 + t) s = crA A (A 5 t - A 5 s) nc)) (fun L k ai1 hkn hI hL => ?_) 0 ai (by omega) ⟨fun _ _ => rfl, fun s h => absurd h (Nat.not_lt_zero _), fun t s h => absurd h (Nat.not_lt_zero _)⟩
  obtain ⟨i1, i2, i3⟩ := hI
  refine br_n (by omega) (by omega) (fun q => hy ai1 i1 (fun s h => i2 s (by omega)) (fun t s h h3 => i3 t s (by omega) h3)) (fun q => ⟨vp_in_nI (by omega) (by omega), ?_⟩)
  refine Cr_at_s (A := A) f1 h8 hk ((i1 2 (by omega)).trans e2) ((i1 3 (by omega)).trans e3) ⟨vp_in_nI (by omega) (by omega), ?_⟩
  rw [nC (by omega), i1 5 (by omega), e5]
  refine lp2_c (k + 1) (by omega) (fun m ai' => (∀ q, q < 44 ∨ q = 45 ∨ 58 ≤ q → ai' q = ai q) ∧ (∀ s, s < k + 1 → ai' 44 s = crA A (D - A 5 s) nc) ∧ (∀ t s, t < k → s ≤ t → ai' (46 + t) s = crA A (A 5 t - A 5 s) nc) ∧ (∀ s, s < m → ai' (46 + k) s = crA A (A 5 k - A 5 s) nc)) (fun L2 m ai2 hm hI2 hL2 => ?_) 0 _ (by omega) ⟨fun q hq => ?_, fun s hs => ?_, fun t s ht hs => ?_, fun s h => absurd h (Nat.not_lt_zero _)⟩
  · obtain ⟨j1, j2, j3, j4⟩ := hI2
    refine br_i (lt_nI rfl (by omega) (by omega)) (fun q2 => ?_) (fun q2 => ⟨vp_in_nI (by omega) (by omega), vp_in_nI (by omega) (by omega), vp_in_nI (by omega) (by omega), ?_⟩)
    · rw [nI_p1]
      refine hL ai2 q ⟨j1, j2, fun t s ht hs => ?_⟩
      by_cases z : t = k
      · rw [z]; exact j4 s (by omega)
      · exact j3 t s (by omega) hs
    · refine Cr_at_s (A := A) f1 h8 hk ((j1 2 (by omega)).trans e2) ((j1 3 (by omega)).trans e3) ⟨vp_in_nI (by omega) (by omega), ?_⟩
      rw [nC (show m < 2147483648 by omega), j1 5 (by omega), e5, nI_p1]
      refine hL2 _ (by omega) ⟨fun r hr => ?_, fun s hs => ?_, fun t s ht hs => ?_, fun s hs => ?_⟩
      · rw [va_n _ _ (show r ≠ 46 + k by omega)]; exact j1 r hr
      · rw [va_n _ _ (show 44 ≠ 46 + k by omega)]; exact j2 s hs
      · rw [va_n _ _ (show 46 + t ≠ 46 + k by omega)]; exact j3 t s ht hs
      · rw [va_s]
        by_cases z : s = m
        · rw [z, pk_us]
        · rw [pk_un z]; exact j4 s (by omega)
  · rw [va_n _ _ (show q ≠ 44 by omega)]; exact i1 q hq
  · rw [va_s]
    by_cases z : s = k
    · rw [z, pk_us]
    · rw [pk_un z]; exact i2 s (by omega)
  · rw [va_n _ _ (show 46 + t ≠ 44 by omega)]; exact i3 t s ht hs
theorem Wa_begin_s {K : (Nat → Int32) → (Nat → Nat → Int32) → (Nat → Nat → Int64) → Prop} {P0 : Nat} (hP : P0 = 10 ∨ P0 = 59) (h4 : fi 4 = nI nd) (h6 : nd ≤ 6) (hr : ∀ k, k < nd → isP 6 (ai P0 k)) (un : ∀ j k, j < nd → k < nd → ai P0 j = ai P0 k → j = k)
    (hy : ∀ ai' al', (∀ q, q ≠ 43 → ai' q = ai q) → (∀ i k, i < 6 → k < nd → ai P0 k = nI i → ai' 43 i = ai 11 k) → (∀ i, i < 6 → (∀ k, k < nd → ¬ ai P0 k = nI i) → ai' 43 i = -1) → (∀ q, q ≠ 41 → q ≠ 42 → al' q = al q) → (∀ i, i < 6 → al' 41 i = 0) → (∀ i, i < 3 → al' 42 i = 0) → K (va_up (va_up fi 9 0) 10 0) ai' al') : Wa_begin_w fi fl ai al P0 K := by
  unfold Wa_begin_w
  simp only [zw_nm]
  rw [show va_up (va_up fi 9 0) 10 0 4 = nI nd by rw [va_n _ _ (show 4 ≠ 10 by omega), va_n _ _ (show 4 ≠ 9 by omega)]; exact h4]
  refine lp2_c nd (by omega) (fun m ai' => (∀ q, q ≠ 43 → ai' q = ai q) ∧ (∀ i k, i < 6 → k < m → ai P0 k = nI i → ai' 43 i = ai 11 k) ∧ (∀ i, i < 6 → (∀ k, k < m → ¬ ai P0 k = nI i) → ai' 43 i = -1)) (fun L m ai1 hm hI hL => ?_) 0 _ (by omega) ⟨fun q hq => va_n _ _ hq, fun i k _ h => absurd h (Nat.not_lt_zero _), fun i hi _ => ?_⟩
  · obtain ⟨i1, i2, i3⟩ := hI
    refine br_n (by omega) (by omega) (fun q => ?_) (fun q => ⟨vp_in_nI (by omega) (by omega), vp_in_nI (by omega) (by omega), ?_⟩)
    · refine hy ai1 _ i1 (fun i k hi h => i2 i k hi (by omega)) (fun i hi h => i3 i hi (fun k hk => h k (by omega))) (fun q h1 h2 => ?_) (fun i hi => ?_) (fun i hi => ?_)
      · rw [va_n _ _ h2, va_n _ _ h1]
      · rw [va_n _ _ (show 41 ≠ 42 by omega), va_s]; exact if_pos hi
      · rw [va_s]; exact if_pos hi
    · obtain ⟨w, w1, w2, w3⟩ := isP_of (hr m q)
      rw [nC (by omega), i1 P0 (by omega), i1 11 (by omega), w3, nC w2, nI_p1]
      refine ⟨vp_in_nI (by omega) (by omega), hL _ q ⟨fun r hr2 => by rw [va_n _ _ hr2]; exact i1 r hr2, fun i k hi hk e => ?_, fun i hi h => ?_⟩⟩
      · rw [va_s]
        by_cases z : k = m
        · subst z
          rw [w3] at e
          rw [nI_inj (by omega) (by omega) e, pk_us]
        · have ne : i ≠ w := fun u => by
            rw [u, ← w3] at e
            exact z (un k m (by omega) q e)
          rw [pk_un ne]; exact i2 i k hi (by omega) e
      · rw [va_s]
        have ne : i ≠ w := fun u => h m (by omega) (by rw [w3, u])
        rw [pk_un ne]; exact i3 i hi (fun k hk => h k (by omega))
  · rw [va_s]; exact if_pos hi
/-- what a lift makes of a height -/
def lfF (fi : Nat → Int32) (ai : Nat → Nat → Int32) (s i : Nat) (g v0 v : Int64) : Prop :=
  (bt (fi 9) i = true → v = v0 + g * ((1000 : Int32) + ai 44 s).toInt64) ∧ (bt (fi 9) i = false → ∀ t, t < 12 → ai 43 i = nI t → v = v0 + g * (ai 44 s - ai (46 + t) s).toInt64)
theorem Wa_lift_s {K : (Nat → Nat → Int64) → Prop} {s i : Nat} {g : Int64} (hs : s < 12) (hi : i < 6) (h43 : ai 43 i = -1 ∨ isP 12 (ai 43 i))
    (hy : ∀ v, lfF fi ai s i g (al 41 i) v → K (va_up al 41 (vp_updL (al 41) i v))) : Wa_lift_w fi fl ai al (nI s) (nI i) g K := by
  unfold Wa_lift_w
  refine SS_hasBit_s (by omega) (br_b (fun e => ?_) (fun e => ?_))
  · rw [nC (by omega), nC (by omega)]
    exact ⟨vp_in_nI (by omega) (by omega), vp_in_nI (by omega) (by omega), vp_in_nI (by omega) (by omega), hy _ ⟨fun _ => rfl, fun q => by rw [e] at q; cases q⟩⟩
  · rw [nC (by omega), nC (by omega)]
    refine ⟨vp_in_nI (by omega) (by omega), ?_⟩
    rcases h43 with h | h
    · rw [h, if_pos (show (-1 : Int32) < 0 by decide)]
      have := hy (al 41 i) ⟨fun q => absurd q e, fun _ t ht q => by
        rw [h] at q
        have := congrArg Int32.toInt q
        rw [nT (by omega), show (-1 : Int32).toInt = -1 from rfl] at this
        omega⟩
      rw [show vp_updL (al 41) i (al 41 i) = al 41 from funext fun j => by
        by_cases z : j = i
        · rw [z, pk_uLs]
        · rw [pk_uLn z], va_self] at this
      exact this
    · obtain ⟨t, t1, t2, t3⟩ := isP_of h
      rw [t3, if_neg (show ¬ nI t < 0 by rw [i_lt, nT t2, show (0 : Int32).toInt = 0 from rfl]; omega), nC t2]
      refine ⟨vp_in_nI (by omega) (by omega), vp_in_nI (by omega) (by omega), vp_in_nI (by omega) (by omega), vp_in_nI (by omega) (by omega), vp_in_nI (by omega) (by omega), vp_in_nI (by omega) (by omega), hy _ ⟨fun q => absurd q e, fun _ t' ht q => ?_⟩⟩
      rw [t3] at q
      obtain rfl : t = t' := nI_inj (by omega) (by omega) q
      rfl
theorem Wa_press_s {K : (Nat → Nat → Int64) → Prop} {s w o : Nat} {t : Int32} (hp : fi 7 = nI p) (hp6 : p ≤ 6) (h10 : fi 10 = nI o) (ho : o < 8) (hs : s < 12) (hw : w < 6) (h43 : ∀ i, i < 6 → ai 43 i = -1 ∨ isP 12 (ai 43 i))
    (hy : ∀ al', (∀ q, q ≠ 41 → q ≠ 42 → al' q = al q) → (∀ i, i < p → lfF fi ai s i ((t.toInt64 * 1000) * (ai (23 + o) (6 * i + w)).toInt64) (al 41 i) (al' 41 i)) → (∀ k, k < 3 → al' 42 k = if bt (fi 10) k = true then al 42 k + (t * ai (32 + k) w).toInt64 else al 42 k) → K al') : Wa_press_w fi fl ai al (nI s) (nI w) t K := by
  unfold Wa_press_w
  rw [hp]
  refine lp2_c p (by omega) (fun m al' => (∀ q, q ≠ 41 → al' q = al q) ∧ (∀ i, i < m → lfF fi ai s i ((t.toInt64 * 1000) * (ai (23 + o) (6 * i + w)).toInt64) (al 41 i) (al' 41 i)) ∧ (∀ i, m ≤ i → al' 41 i = al 41 i)) (fun L m al1 hm hI hL => ?_) 0 al (by omega) ⟨fun _ _ => rfl, fun i h => absurd h (Nat.not_lt_zero _), fun _ _ => rfl⟩
  obtain ⟨i1, i2, i3⟩ := hI
  refine br_n (by omega) (by omega) (fun q => ?_) (fun q => ?_)
  · refine lp2_c 3 (by omega) (fun m al' => (∀ q, q ≠ 42 → al' q = al1 q) ∧ (∀ k, k < m → al' 42 k = if bt (fi 10) k = true then al 42 k + (t * ai (32 + k) w).toInt64 else al 42 k) ∧ (∀ k, m ≤ k → al' 42 k = al 42 k)) (fun L2 m2 al2 hm2 hI2 hL2 => ?_) 0 al1 (by omega) ⟨fun _ _ => rfl, fun k h => absurd h (Nat.not_lt_zero _), fun k _ => by rw [i1 42 (by decide)]⟩
    obtain ⟨j1, j2, j3⟩ := hI2
    refine br_n (n := 3) (by omega) (by omega) (fun q2 => ?_) (fun q2 => ?_)
    · refine hy al2 (fun r h1 h2 => (j1 r h2).trans (i1 r h1)) (fun i hi => ?_) (fun k hk => j2 k (by omega))
      rw [j1 41 (by decide)]; exact i2 i (by omega)
    · refine SS_hasBit_s (by omega) ?_
      refine jn1_o (fun al' => (∀ q, q ≠ 42 → al' q = al1 q) ∧ (∀ k, k < m2 + 1 → al' 42 k = if bt (fi 10) k = true then al 42 k + (t * ai (32 + k) w).toInt64 else al 42 k) ∧ (∀ k, m2 + 1 ≤ k → al' 42 k = al 42 k)) (fun al' hY => ?_) (fun J hJ => ?_)
      · unfold zw_nm; rw [nI_p1]; exact hL2 al' q2 hY
      · refine br_b (fun e => ?_) (fun e => hJ _ ⟨j1, fun k hk => ?_, fun k hk => j3 k (by omega)⟩)
        · rw [nC (by omega), nC (by omega)]
          refine ⟨vp_in_nI (by omega) (by omega), vp_in_nI (by omega) (by omega), vp_in_nI (by omega) (by omega), vp_in_nI (by omega) (by omega), hJ _ ⟨fun r hr => by rw [va_n _ _ hr]; exact j1 r hr, fun k hk => ?_, fun k hk => ?_⟩⟩
          · rw [va_s]
            by_cases z : k = m2
            · rw [z, pk_uLs, if_pos e, j3 m2 (by omega)]
            · rw [pk_uLn z]; exact j2 k (by omega)
          · rw [va_s, pk_uLn (show k ≠ m2 by omega)]; exact j3 k (by omega)
        · by_cases z : k = m2
          · rw [z, if_neg e]; exact j3 m2 (by omega)
          · exact j2 k (by omega)
  · rw [h10, nC (show o < 2147483648 by omega), ix6, nC (show 6 * m + w < 2147483648 by omega)]
    refine ⟨vp_in_nI (by omega) (by omega), vp_in_nI (by omega) (by omega), Wa_lift_s hs (by omega) (h43 m (by omega)) (fun v hv => ?_)⟩
    unfold zw_nm
    rw [nI_p1]
    refine hL _ q ⟨fun r hr => by rw [va_n _ _ hr]; exact i1 r hr, fun i hi => ?_, fun i hi => ?_⟩
    · rw [va_s]
      by_cases z : i = m
      · rw [z, pk_uLs, ← i3 m (by omega)]; exact hv
      · rw [pk_uLn z]; exact i2 i (by omega)
    · rw [va_s, pk_uLn (show i ≠ m by omega)]; exact i3 i (by omega)
theorem Wa_letGo_s {K : (Nat → Int32) → (Nat → Nat → Int64) → Prop} {s w : Nat} (hp : fi 7 = nI p) (hp6 : p ≤ 6) (hs : s < 12) (hw : w < 3) (h43 : ∀ i, i < 6 → ai 43 i = -1 ∨ isP 12 (ai 43 i))
    (hy : ∀ al', (∀ q, q ≠ 41 → q ≠ 42 → al' q = al q) → (∀ i, i < p → lfF fi ai s i (al 42 w * (ai (36 + w) i).toInt64) (al 41 i) (al' 41 i)) → al' 42 = vp_updL (al 42) w 0 → K (va_up fi 10 (fi 10 &&& (((1 : Int32) <<< (nI w &&& 31)) ^^^ (-1)))) al') : Wa_letGo_w fi fl ai al (nI s) (nI w) K := by
  unfold Wa_letGo_w
  rw [hp]
  refine lp2_c p (by omega) (fun m al' => (∀ q, q ≠ 41 → al' q = al q) ∧ (∀ i, i < m → lfF fi ai s i (al 42 w * (ai (36 + w) i).toInt64) (al 41 i) (al' 41 i)) ∧ (∀ i, m ≤ i → al' 41 i = al 41 i)) (fun L m al1 hm hI hL => ?_) 0 al (by omega) ⟨fun _ _ => rfl, fun i h => absurd h (Nat.not_lt_zero _), fun _ _ => rfl⟩
  obtain ⟨i1, i2, i3⟩ := hI
  rw [nC (show w < 2147483648 by omega)]
  refine br_n (by omega) (by omega) (fun q => ⟨vp_in_nI (by omega) (by omega), ?_⟩) (fun q => ⟨vp_in_nI (by omega) (by omega), vp_in_nI (by omega) (by omega), vp_in_nI (by omega) (by omega), ?_⟩)
  · refine hy _ (fun r h1 h2 => by rw [va_n _ _ h2]; exact i1 r h1) (fun i hi => ?_) (by rw [va_s, i1 42 (by decide)])
    rw [va_n _ _ (show 41 ≠ 42 by decide)]; exact i2 i (by omega)
  · rw [nC (show m < 2147483648 by omega), i1 42 (by decide)]
    refine Wa_lift_s hs (by omega) (h43 m (by omega)) (fun v hv => ?_)
    unfold zw_nm
    rw [nI_p1]
    refine hL _ q ⟨fun r hr => by rw [va_n _ _ hr]; exact i1 r hr, fun i hi => ?_, fun i hi => ?_⟩
    · rw [va_s]
      by_cases z : i = m
      · rw [z, pk_uLs, ← i3 m (by omega)]; exact hv
      · rw [pk_uLn z]; exact i2 i (by omega)
    · rw [va_s, pk_uLn (show i ≠ m by omega)]; exact i3 i (by omega)
end WK
