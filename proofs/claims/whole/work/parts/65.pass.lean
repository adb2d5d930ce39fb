/-! PURE: the reference's pass over the acts -/
/-- the act that adds each part of the row -/
def Ab (A : Nat → Nat → Int32) (row : Nat → Int32) (n : Nat) (f : Nat → Int32) : Prop :=
  (∀ i a, i < 6 → a < n → A 6 a = 0 → row (cnt (A 6) a) = nI i → f i = nI a) ∧ (∀ i, i < 6 → (∀ a, a < n → A 6 a = 0 → ¬ row (cnt (A 6) a) = nI i) → f i = -1)
theorem Ab.same {A : Nat → Nat → Int32} {row : Nat → Int32} {n : Nat} {f : Nat → Int32} (h : Ab A row n f) (k0 : ¬ A 6 n = 0) : Ab A row (n + 1) f :=
  ⟨fun i a hi ha e1 e2 => h.1 i a hi (by rcases Nat.lt_or_ge a n with q | q; exact q; exact absurd (by rw [show n = a by omega]; exact e1) k0) e1 e2, fun i hi q => h.2 i hi (fun a ha => q a (by omega))⟩
def obF (on : Nat → Bool) : Nat := (if on 0 = true then 1 else 0) + (if on 1 = true then 2 else 0) + (if on 2 = true then 4 else 0)
theorem obF_8 {on : Nat → Bool} : obF on < 8 := by
  unfold obF
  cases on 0 <;> cases on 1 <;> cases on 2 <;> decide
theorem obF_I {on : Nat → Bool} : nI (if on 0 = true then 1 else 0) + nI (if on 1 = true then 2 else 0) + nI (if on 2 = true then 4 else 0) = nI (obF on) := by
  unfold obF
  cases on 0 <;> cases on 1 <;> cases on 2 <;> decide
section PA
variable {gi gi0 fi0 : Nat → Int32} {gl : Nat → Int64} {bi A bi0 : Nat → Nat → Int32} {bl al0 bl0 : Nat → Nat → Int64} {p nc ns na nd nr no : Nat} {D : Int32} {row : Nat → Int32}
theorem Mo_creepAt_s {K : Int32 → Prop} {d : Int32} (h1 : gi 1 = nI nc) (h8 : nc ≤ 8) (e : ∀ k, k < nc → bi 6 k = A 2 k ∧ bi 7 k = A 3 k) (h : K (crA A d nc)) : Mo_creepAt_w gi gl bi bl d K := by
  unfold Mo_creepAt_w
  rw [h1]
  refine lp2_d nc (by omega) (fun k b => b = crA A d k) (fun L k b hk hI hL => ?_) 0 0 (by omega) rfl
  refine br_n (by omega) (by omega) (fun q => by rw [hI, show k = nc by omega]; exact h) (fun q => ⟨vp_in_nI (by omega) (by omega), ?_⟩)
  rw [nC (by omega), (e k q).1, (e k q).2]
  refine jn1_o (fun y => y = crA A d (k + 1)) (fun y hY => ?_) (fun J hJ => br_i Iff.rfl (fun z => hJ _ ?_) (fun z => ⟨vp_in_nI (by omega) (by omega), hJ _ ?_⟩))
  · unfold zw_nm; rw [nI_p1]; exact hL y q hY
  · rw [crA_s, if_pos z, hI]
  · rw [crA_s, if_neg z]
theorem Mo_loadOn_s {K : (Nat → Nat → Int64) → Prop} {a w : Nat} {t : Int64} {on : Nat → Bool} (hp : gi 0 = nI p) (hp6 : p ≤ 6) (ha : a < 40) (hw : w < 6) (h24 : ∀ k, k < 3 → (bi 24 k = 0 ↔ on k = false))
    (hy : ∀ bl', (∀ q, q ≠ 21 → q ≠ 25 → bl' q = bl q) → (∀ i, i < p → bl' 21 (6 * a + i) = (t * (bi 3 (36 * obF on + 6 * i + w)).toInt64) * 1000) → (∀ j, j < 6 * a → bl' 21 j = bl 21 j) → (∀ k, k < 3 → bl' 25 k = if on k = true then bl 25 k + t * (bi 4 (6 * k + w)).toInt64 else bl 25 k) → K bl') : Mo_loadOn_w gi gl bi bl (nI a) (nI w) t K := by
  unfold Mo_loadOn_w
  have o8 := obF_8 (on := on)
  rw [show (0 : Int32).toNatClampNeg = 0 from rfl, show (1 : Int32).toNatClampNeg = 1 from rfl, show (2 : Int32).toNatClampNeg = 2 from rfl, hp]
  refine ⟨vp_in_nI (n := 0) (by omega) (by omega), jn1_o (fun y => y = nI (if on 0 = true then 1 else 0)) (fun y0 hY0 => ?_) (fun J hJ => br_i (h24 0 (by omega)) (fun e => hJ _ (by rw [e]; rfl)) (fun e => hJ _ (by rw [Bool.not_eq_false] at e; rw [e]; rfl)))⟩
  refine ⟨vp_in_nI (n := 1) (by omega) (by omega), jn1_o (fun y => y = nI (if on 1 = true then 2 else 0)) (fun y1 hY1 => ?_) (fun J hJ => br_i (h24 1 (by omega)) (fun e => hJ _ (by rw [e]; rfl)) (fun e => hJ _ (by rw [Bool.not_eq_false] at e; rw [e]; rfl)))⟩
  refine ⟨vp_in_nI (n := 2) (by omega) (by omega), jn1_o (fun y => y = nI (if on 2 = true then 4 else 0)) (fun y2 hY2 => ?_) (fun J hJ => br_i (h24 2 (by omega)) (fun e => hJ _ (by rw [e]; rfl)) (fun e => hJ _ (by rw [Bool.not_eq_false] at e; rw [e]; rfl)))⟩
  rw [hY0, hY1, hY2, obF_I]
  simp only [zw_nm]
  refine lp2_c p (by omega) (fun m bl' => (∀ q, q ≠ 21 → bl' q = bl q) ∧ (∀ i, i < m → bl' 21 (6 * a + i) = (t * (bi 3 (36 * obF on + 6 * i + w)).toInt64) * 1000) ∧ (∀ j, j < 6 * a → bl' 21 j = bl 21 j)) (fun L m bl1 hm hI hL => ?_) 0 bl (by omega) ⟨fun _ _ => rfl, fun i h => absurd h (Nat.not_lt_zero _), fun _ _ => rfl⟩
  obtain ⟨i1, i2, i3⟩ := hI
  refine br_n (by omega) (by omega) (fun q => ?_) (fun q => ?_)
  · refine lp2_c 3 (by omega) (fun m bl' => (∀ q, q ≠ 25 → bl' q = bl1 q) ∧ (∀ k, k < m → bl' 25 k = if on k = true then bl 25 k + t * (bi 4 (6 * k + w)).toInt64 else bl 25 k) ∧ (∀ k, m ≤ k → bl' 25 k = bl 25 k)) (fun L2 m2 bl2 hm2 hI2 hL2 => ?_) 0 bl1 (by omega) ⟨fun _ _ => rfl, fun k h => absurd h (Nat.not_lt_zero _), fun k _ => by rw [i1 25 (by decide)]⟩
    obtain ⟨j1, j2, j3⟩ := hI2
    refine br_n (n := 3) (by omega) (by omega) (fun q2 => ?_) (fun q2 => ⟨vp_in_nI (by omega) (by omega), ?_⟩)
    · refine hy bl2 (fun r h1 h2 => (j1 r h2).trans (i1 r h1)) (fun i hi => ?_) (fun j hj => ?_) (fun k hk => j2 k (by omega))
      · rw [j1 21 (by decide)]; exact i2 i (by omega)
      · rw [j1 21 (by decide)]; exact i3 j hj
    · rw [nC (by omega)]
      refine jn1_o (fun y => y = if on m2 = true then bl 25 m2 + t * (bi 4 (6 * m2 + w)).toInt64 else bl 25 m2) (fun y hY => ⟨vp_in_nI (by omega) (by omega), ?_⟩) (fun J hJ => br_i (h24 m2 q2) (fun e => ⟨vp_in_nI (by omega) (by omega), hJ _ ?_⟩) (fun e => ⟨vp_in_nI (by omega) (by omega), ?_⟩))
      · rw [nI_p1]
        refine hL2 _ q2 ⟨fun r hr => by rw [va_n _ _ hr]; exact j1 r hr, fun k hk => ?_, fun k hk => ?_⟩
        · rw [va_s]
          by_cases z : k = m2
          · rw [z, pk_uLs]; exact hY
          · rw [pk_uLn z]; exact j2 k (by omega)
        · rw [va_s, pk_uLn (show k ≠ m2 by omega)]; exact j3 k (by omega)
      · rw [e, if_neg (by decide)]; exact j3 m2 (by omega)
      · rw [Bool.not_eq_false] at e
        rw [xi6, nC (by omega)]
        refine ⟨vp_in_nI (by omega) (by omega), hJ _ ?_⟩
        rw [if_pos e, j3 m2 (by omega)]
  · rw [xi36, xi6, nC (by omega), nC (by omega)]
    refine ⟨vp_in_nI (by omega) (by omega), vp_in_nI (by omega) (by omega), ?_⟩
    rw [nI_p1]
    refine hL _ q ⟨fun r hr => by rw [va_n _ _ hr]; exact i1 r hr, fun i hi => ?_, fun j hj => ?_⟩
    · rw [va_s]
      by_cases z : i = m
      · rw [z, pk_uLs]
      · rw [pk_uLn (show 6 * a + i ≠ 6 * a + m by omega)]; exact i2 i (by omega)
    · rw [va_s, pk_uLn (show j ≠ 6 * a + m by omega)]; exact i3 j hj
/-- where the reference's pass stands behind the first n acts -/
def Mi (A : Nat → Nat → Int32) (row : Nat → Int32) (p n m : Nat) (bi : Nat → Nat → Int32) (bl : Nat → Nat → Int64) (bi' : Nat → Nat → Int32) (bl' : Nat → Nat → Int64) : Prop :=
  (∀ q, q ≠ 22 → q ≠ 24 → bi' q = bi q) ∧ (∀ q, q ≠ 21 → q ≠ 23 → q ≠ 25 → bl' q = bl q) ∧ (∀ k, k < 3 → (bi' 24 k = 0 ↔ onk (A 6) (A 7) k n = false)) ∧ (∀ k, k < 3 → bl' 25 k = carA A row k n) ∧ (∀ a i, a < n → i < p → bl' 21 (6 * a + i) = gnA A row i a) ∧ (∀ a k, a < m → k < 3 → bl' 23 (3 * a + k) = carA A row k (a + 1)) ∧ Ab A row n (bi' 22)
theorem Mo_pass_s {K : (Nat → Nat → Int32) → (Nat → Nat → Int64) → Prop} (hN : RlN p nc ns na nd nr no fi0 A al0 gi0 bi0 bl0) (hK : Km gi0 bi0 bl0 gi bi bl) (hrow : ∀ k, k < nd → bi 20 k = row k) (hr : ∀ k, k < nd → isP p (row k)) (un : ∀ j k, j < nd → k < nd → row j = row k → j = k)
    (hy : ∀ bi' bl', Mi A row p na na bi bl bi' bl' → K bi' bl') : Mo_pass_w gi gl bi bl K := by
  obtain ⟨hn, hC, hg, hk, hd, ha, hw, hf0, he, ho, hr0, hq⟩ := id hN
  obtain ⟨n1, n2, n3, n4, n5, n6, n7, n8⟩ := id hn
  obtain ⟨c7, g0, c1, g1, c2, g2, c3, g3, c4, c6, g6, c11, g7, c5, c0, c0r⟩ := id hC
  have gp : gi 0 = nI p := (hK.1 0 (by omega)).trans g0
  unfold Mo_pass_w
  simp only [zw_nm]
  rw [hK.1 3 (by omega), g3]
  refine lp3_c 3 (by omega) (fun m bi' bl' => (∀ q, q ≠ 24 → bi' q = bi q) ∧ (∀ q, q ≠ 25 → bl' q = bl q) ∧ (∀ k, k < m → bi' 24 k = 0) ∧ (∀ k, k < m → bl' 25 k = 0)) (fun L m bi1 bl1 hm hI hL => ?_) 0 bi bl (by omega) ⟨fun _ _ => rfl, fun _ _ => rfl, fun k h => absurd h (Nat.not_lt_zero _), fun k h => absurd h (Nat.not_lt_zero _)⟩
  obtain ⟨i1, i2, i3, i4⟩ := hI
  refine br_n (n := 3) (by omega) (by omega) (fun q => ?_) (fun q => ?_)
  · refine lp2_c 6 (by omega) (fun m bi' => (∀ q, q ≠ 22 → bi' q = bi1 q) ∧ (∀ i, i < m → bi' 22 i = -1)) (fun L2 m2 bi2 hm2 hI2 hL2 => ?_) 0 bi1 (by omega) ⟨fun _ _ => rfl, fun k h => absurd h (Nat.not_lt_zero _)⟩
    obtain ⟨j1, j2⟩ := hI2
    refine br_n (n := 6) (by omega) (by omega) (fun q2 => ?_) (fun q2 => ⟨vp_in_nI (by omega) (by omega), ?_⟩)
    · refine lp4_d na (by omega) (fun n c bi' bl' => c = nI (cnt (A 6) n) ∧ Mi A row p n n bi bl bi' bl') (fun L3 n c bi3 bl3 hnn hI3 hL3 => ?_) 0 0 bi2 bl1 (by omega) ⟨rfl, fun r h1 h2 => (j1 r h1).trans (i1 r h2), fun r _ _ h3 => i2 r h3, fun k hk2 => ⟨fun _ => rfl, fun _ => by rw [j1 24 (by omega)]; exact i3 k (by omega)⟩, fun k hk2 => i4 k (by omega), fun a i h => absurd h (Nat.not_lt_zero _), fun a i h => absurd h (Nat.not_lt_zero _), fun i a _ h => absurd h (Nat.not_lt_zero _), fun i hi _ => j2 i (by omega)⟩
      obtain ⟨rfl, hM⟩ := hI3
      refine br_n (by omega) (by omega) (fun q3 => ?_) (fun q3 => ?_)
      · obtain rfl : n = na := by omega
        exact hy bi3 bl3 hM
      · obtain ⟨m1, m2', m3, m4, m5, m6, m7⟩ := hM
        refine lp2_c 6 (by omega) (fun m bl' => (∀ q, q ≠ 21 → bl' q = bl3 q) ∧ (∀ i, i < m → bl' 21 (6 * n + i) = 0) ∧ (∀ j, j < 6 * n → bl' 21 j = bl3 21 j)) (fun L4 m4' bl4 hm4 hI4 hL4 => ?_) 0 bl3 (by omega) ⟨fun _ _ => rfl, fun k h => absurd h (Nat.not_lt_zero _), fun _ _ => rfl⟩
        obtain ⟨k1, k2, k3⟩ := hI4
        refine br_n (n := 6) (by omega) (by omega) (fun q4 => ⟨vp_in_nI (by omega) (by omega), ?_⟩) (fun q4 => ?_)
        · have z21 : ∀ i, i < 6 → bl4 21 (6 * n + i) = 0 := fun i hi => k2 i (by omega)
          have o21 : ∀ a i, a < n → i < p → bl4 21 (6 * a + i) = gnA A row i a := fun a i h1 h2 => by rw [k3 (6 * a + i) (by omega)]; exact m5 a i h1 h2
          have B : ∀ r, r < 20 → bi3 r = bi0 r := fun r hr2 => (m1 r (by omega) (by omega)).trans (hK.2.1 r hr2)
          obtain ⟨x1, x2, x3, x4, x5, kind⟩ := ha.1 n q3
          rw [nC (show n < 2147483648 by omega), B 10 (by omega), B 11 (by omega), B 12 (by omega), x1, x2, x3]
          refine jn3_o (fun c bi' bl' => c = nI (cnt (A 6) (n + 1)) ∧ Mi A row p (n + 1) n bi bl bi' bl') (fun c bi' bl' hY => ?_) (fun J hJ => ?_)
          · obtain ⟨rfl, hM⟩ := hY
            obtain ⟨y1, y2, y3, y4, y5, y6, y7⟩ := hM
            refine lp2_c 3 (by omega) (fun m bl'' => (∀ q, q ≠ 23 → bl'' q = bl' q) ∧ (∀ k, k < m → bl'' 23 (3 * n + k) = carA A row k (n + 1)) ∧ (∀ j, j < 3 * n → bl'' 23 j = bl' 23 j)) (fun L5 m5' bl5 hm5 hI5 hL5 => ?_) 0 bl' (by omega) ⟨fun _ _ => rfl, fun k h => absurd h (Nat.not_lt_zero _), fun _ _ => rfl⟩
            obtain ⟨u1, u2, u3⟩ := hI5
            refine br_n (n := 3) (by omega) (by omega) (fun q5 => ?_) (fun q5 => ⟨vp_in_nI (by omega) (by omega), ?_⟩)
            · rw [nI_p1]
              refine hL3 _ _ _ q3 ⟨rfl, y1, fun r h1 h2 h3 => (u1 r h2).trans (y2 r h1 h2 h3), y3, fun k hk2 => by rw [u1 25 (by omega)]; exact y4 k hk2, fun a i h1 h2 => by rw [u1 21 (by omega)]; exact y5 a i h1 h2, fun a k h1 h2 => ?_, y7⟩
              by_cases z : a = n
              · rw [z]; exact u2 k (by omega)
              · rw [u3 _ (by omega)]; exact y6 a k (by omega) h2
            · rw [xi3, nC (by omega), nC (by omega), nI_p1]
              refine ⟨vp_in_nI (by omega) (by omega), hL5 _ q5 ⟨fun r hr2 => by rw [va_n _ _ hr2]; exact u1 r hr2, fun k hk2 => ?_, fun j hj => ?_⟩⟩
              · rw [va_s]
                by_cases z : k = m5'
                · rw [z, pk_uLs, u1 25 (by omega)]; exact y4 m5' (by omega)
                · rw [pk_uLn (show 3 * n + k ≠ 3 * n + m5' by omega)]; exact u2 k (by omega)
              · rw [va_s, pk_uLn (show j ≠ 3 * n + m5' by omega)]; exact u3 j hj
          · have ld : ∀ (w : Nat) (t : Int32) (bi5 : Nat → Nat → Int32) (bl5 : Nat → Nat → Int64), w < p → (A 6 n = 0 ∨ A 6 n = 1) → tA A row n = t → wA A row n = nI w → (∀ q, q ≠ 22 → bi5 q = bi3 q) → Ab A row (n + 1) (bi5 22) →
                (∀ q, q ≠ 21 → q ≠ 25 → bl5 q = bl4 q) → (∀ i, i < p → bl5 21 (6 * n + i) = (t.toInt64 * (bi5 3 (36 * obF (fun k => onk (A 6) (A 7) k n) + 6 * i + w)).toInt64) * 1000) → (∀ j, j < 6 * n → bl5 21 j = bl4 21 j) → (∀ k, k < 3 → bl5 25 k = if (fun k => onk (A 6) (A 7) k n) k = true then bl4 25 k + t.toInt64 * (bi5 4 (6 * k + w)).toInt64 else bl4 25 k) → Mi A row p (n + 1) n bi bl bi5 bl5 := by
              intro w t bi5 bl5 hw2 k01 et ew b5 hab l1 l2 l3 l4
              have t2 : ¬ A 6 n = 2 := fun e => by rcases k01 with z | z <;> rw [z] at e <;> exact absurd e (by decide)
              have t3 : ¬ A 6 n = 3 := fun e => by rcases k01 with z | z <;> rw [z] at e <;> exact absurd e (by decide)
              refine ⟨fun r h1 h2 => (b5 r h1).trans (m1 r h1 h2), fun r h1 h2 h3 => (l1 r h1 h3).trans ((k1 r h1).trans (m2' r h1 h2 h3)), fun k hk2 => ?_, fun k hk2 => ?_, fun a i h1 h2 => ?_, fun a k h1 h2 => ?_, hab⟩
              · rw [b5 24 (by omega), m3 k hk2, onk_s, if_neg (fun z => t2 z.1), if_neg (fun z => t3 z.1)]
              · rw [l4 k hk2, carA_s, if_pos k01, et, ew, nC (show w < 2147483648 by omega), k1 25 (by omega), m4 k hk2, b5 4 (by omega), B 4 (by omega), (hg.2.2.2.1 k w hk2 (by omega)).1]
              · by_cases z : a = n
                · subst z
                  have o8 := obF_8 (on := fun k => onk (A 6) (A 7) k a)
                  rw [l2 i h2, b5 3 (by omega), B 3 (by omega), hg.2.2.1 _ i w o8 (by omega) (by omega)]
                  unfold gnA
                  rw [if_pos k01, et, ew, nC (show w < 2147483648 by omega)]
                  rfl
                · rw [l3 _ (by omega)]; exact o21 a i (by omega) h2
              · rw [l1 23 (by omega) (by omega), k1 23 (by omega)]; exact m6 a k h1 h2
            rcases kind with ⟨kd, kp⟩ | ⟨kd, kp, kt⟩ | ⟨kd, kp⟩ | ⟨kd, kp⟩
            · have ck : cnt (A 6) n < nd := by rw [hw.1]; exact cnt_lt q3 kd
              obtain ⟨w, w1, w2, w3⟩ := isP_of (hr _ ck)
              rw [if_pos kd, nC (show cnt (A 6) n < 2147483648 by omega), m1 20 (by omega) (by omega), hrow _ ck, w3, nC w2, nI_p1]
              refine ⟨vp_in_nI (by omega) (by omega), vp_in_nI (by omega) (by omega), vp_in_nI (by omega) (by omega), ?_⟩
              rw [va_n _ _ (show 1 ≠ 22 by omega), B 1 (by omega), (hg.1 w (by omega)).1]
              refine Mo_loadOn_s (p := p) (on := fun k => onk (A 6) (A 7) k n) gp n2 (by omega) (by omega) (fun k hk2 => by rw [va_n _ _ (show 24 ≠ 22 by omega)]; exact m3 k hk2) (fun bl5 l1 l2 l3 l4 => hJ _ _ _ ⟨by rw [cnt_s0 kd], ld w (A 20 w) _ bl5 w1 (Or.inl kd) ?_ ?_ (fun r hr2 => va_n _ _ hr2) ?_ l1 l2 l3 l4⟩)
              · unfold tA; rw [if_pos kd, w3, nC w2]
              · unfold wA; rw [if_pos kd, w3]
              · rw [va_s]
                refine ⟨fun i a hi h1 e1 e2 => ?_, fun i hi z => ?_⟩
                · by_cases z : a = n
                  · subst z
                    rw [w3] at e2
                    rw [nI_inj (by omega) (by omega) e2, pk_us]
                  · have ne : i ≠ w := fun u => by
                      have lt := cnt_lt (kd := A 6) (show a < n by omega) e1
                      rw [u, ← w3] at e2
                      have := un _ _ (by omega) ck e2
                      omega
                    rw [pk_un ne]; exact m7.1 i a hi (by omega) e1 e2
                · have ne : i ≠ w := fun u => z n (by omega) kd (by rw [w3, u])
                  rw [pk_un ne]; exact m7.2 i hi (fun a h1 => z a (by omega))
            · obtain ⟨w, w1, w2, w3⟩ := isP_of kp
              have k0 : ¬ A 6 n = 0 := by rw [kd]; decide
              rw [if_neg k0, if_pos kd, w3]
              refine ⟨vp_in_nI (by omega) (by omega), vp_in_nI (by omega) (by omega), vp_in_nI (by omega) (by omega), ?_⟩
              refine Mo_loadOn_s (p := p) (on := fun k => onk (A 6) (A 7) k n) gp n2 (by omega) (by omega) m3 (fun bl5 l1 l2 l3 l4 => hJ _ _ _ ⟨by rw [cnt_s1 k0], ld w (A 8 n) _ bl5 w1 (Or.inr kd) ?_ ?_ (fun _ _ => rfl) (m7.same k0) l1 l2 l3 l4⟩)
              · unfold tA; rw [if_neg k0]
              · unfold wA; rw [if_neg k0, w3]
            · obtain ⟨w, w1, w2, w3⟩ := isP_of kp
              have k0 : ¬ A 6 n = 0 := by rw [kd]; decide
              have k1' : ¬ A 6 n = 1 := by rw [kd]; decide
              have k3' : ¬ A 6 n = 3 := by rw [kd]; decide
              rw [if_neg k0, if_neg k1', if_pos kd, w3, nC w2, nar1]
              refine ⟨vp_in_nI (by omega) (by omega), vp_in_nI (by omega) (by omega), vp_in_nI (by omega) (by omega), vp_in_nI (by omega) (by omega), hJ _ _ _ ⟨by rw [cnt_s1 k0], fun r h1 h2 => by rw [va_n _ _ h2]; exact m1 r h1 h2, fun r h1 h2 h3 => (k1 r h1).trans (m2' r h1 h2 h3), fun k hk2 => ?_, fun k hk2 => ?_, fun a i h1 h2 => ?_, fun a k h1 h2 => ?_, ?_⟩⟩
              · rw [va_s, onk_s, w3]
                by_cases z : k = w
                · rw [z, pk_us, if_pos ⟨kd, rfl⟩]
                  exact ⟨fun y => absurd y (by decide), fun y => absurd y (by decide)⟩
                · have z2 : ¬ nI w = nI k := fun y => z (nI_inj (by omega) (by omega) y).symm
                  rw [pk_un z, if_neg (fun y => z2 y.2), if_neg (fun y => z2 y.2)]; exact m3 k hk2
              · rw [k1 25 (by omega), m4 k hk2, carA_s, if_neg (fun y => y.elim k0 k1'), if_neg (fun y => k3' y.1)]
              · by_cases z : a = n
                · rw [z, z21 i (by omega)]
                  unfold gnA
                  rw [if_neg (fun y => y.elim k0 k1'), if_neg k3']
                · exact o21 a i (by omega) h2
              · rw [k1 23 (by omega)]; exact m6 a k h1 h2
              · rw [va_n _ _ (show 22 ≠ 24 by omega)]; exact m7.same k0
            · obtain ⟨w, w1, w2, w3⟩ := isP_of kp
              have k0 : ¬ A 6 n = 0 := by rw [kd]; decide
              have k1' : ¬ A 6 n = 1 := by rw [kd]; decide
              have k2' : ¬ A 6 n = 2 := by rw [kd]; decide
              rw [if_neg k0, if_neg k1', if_neg k2', w3, nC w2, nar0, gp]
              refine ⟨vp_in_nI (by omega) (by omega), vp_in_nI (by omega) (by omega), vp_in_nI (by omega) (by omega), ?_⟩
              refine lp2_c p (by omega) (fun m bl' => (∀ q, q ≠ 21 → bl' q = bl4 q) ∧ (∀ i, i < m → bl' 21 (6 * n + i) = gnA A row i n) ∧ (∀ j, j < 6 * n → bl' 21 j = bl4 21 j)) (fun L6 m6' bl6 hm6 hI6 hL6 => ?_) 0 bl4 (by omega) ⟨fun _ _ => rfl, fun k h => absurd h (Nat.not_lt_zero _), fun _ _ => rfl⟩
              obtain ⟨u1, u2, u3⟩ := hI6
              refine br_n (by omega) (by omega) (fun q6 => ⟨vp_in_nI (by omega) (by omega), vp_in_nI (by omega) (by omega), hJ _ _ _ ⟨by rw [cnt_s1 k0], fun r h1 h2 => by rw [va_n _ _ h2]; exact m1 r h1 h2, fun r h1 h2 h3 => by rw [va_n _ _ h3]; exact (u1 r h1).trans ((k1 r h1).trans (m2' r h1 h2 h3)), fun k hk2 => ?_, fun k hk2 => ?_, fun a i h1 h2 => ?_, fun a k h1 h2 => ?_, ?_⟩⟩) (fun q6 => ⟨vp_in_nI (by omega) (by omega), ?_⟩)
              · rw [va_s, onk_s, w3, if_neg (fun y => k2' y.1)]
                by_cases z : k = w
                · rw [z, pk_us, if_pos ⟨kd, rfl⟩]
                  exact ⟨fun _ => rfl, fun _ => rfl⟩
                · have z2 : ¬ nI w = nI k := fun y => z (nI_inj (by omega) (by omega) y).symm
                  rw [pk_un z, if_neg (fun y => z2 y.2)]; exact m3 k hk2
              · rw [va_s, u1 25 (by omega), k1 25 (by omega), carA_s, if_neg (fun y => y.elim k0 k1'), w3]
                by_cases z : k = w
                · rw [z, pk_uLs, if_pos ⟨kd, rfl⟩]
                · have z2 : ¬ nI w = nI k := fun y => z (nI_inj (by omega) (by omega) y).symm
                  rw [pk_uLn z, if_neg (fun y => z2 y.2)]; exact m4 k hk2
              · rw [va_n _ _ (show 21 ≠ 25 by omega)]
                by_cases z : a = n
                · rw [z]; exact u2 i (by omega)
                · rw [u3 _ (by omega)]; exact o21 a i (by omega) h2
              · rw [va_n _ _ (show 23 ≠ 25 by omega), u1 23 (by omega), k1 23 (by omega)]; exact m6 a k h1 h2
              · rw [va_n _ _ (show 22 ≠ 24 by omega)]; exact m7.same k0
              · rw [xi6, xi6, nC (by omega), nC (by omega), nI_p1]
                refine ⟨vp_in_nI (by omega) (by omega), vp_in_nI (by omega) (by omega), hL6 _ q6 ⟨fun r hr2 => by rw [va_n _ _ hr2]; exact u1 r hr2, fun i hi => ?_, fun j hj => ?_⟩⟩
                · rw [va_s]
                  by_cases z : i = m6'
                  · rw [z, pk_uLs, u1 25 (by omega), k1 25 (by omega), m4 w w1, B 5 (by omega), hg.2.2.2.2 w m6' w1 (by omega)]
                    unfold gnA
                    rw [if_neg (fun y => y.elim k0 k1'), if_pos kd, w3, nC w2]
                  · rw [pk_uLn (show 6 * n + i ≠ 6 * n + m6' by omega)]; exact u2 i (by omega)
                · rw [va_s, pk_uLn (show j ≠ 6 * n + m6' by omega)]; exact u3 j hj
        · rw [xi6, nC (by omega), nI_p1]
          refine ⟨vp_in_nI (by omega) (by omega), hL4 _ q4 ⟨fun r hr2 => by rw [va_n _ _ hr2]; exact k1 r hr2, fun i hi => ?_, fun j hj => ?_⟩⟩
          · rw [va_s]
            by_cases z : i = m4'
            · rw [z, pk_uLs]
            · rw [pk_uLn (show 6 * n + i ≠ 6 * n + m4' by omega)]; exact k2 i (by omega)
          · rw [va_s, pk_uLn (show j ≠ 6 * n + m4' by omega)]; exact k3 j hj
    · rw [nC (by omega), nI_p1]
      refine hL2 _ q2 ⟨fun r hr2 => by rw [va_n _ _ hr2]; exact j1 r hr2, fun i hi => ?_⟩
      rw [va_s]
      by_cases z : i = m2
      · rw [z, pk_us]
      · rw [pk_un z]; exact j2 i (by omega)
  · rw [nC (by omega), nar0, nI_p1]
    refine ⟨vp_in_nI (by omega) (by omega), vp_in_nI (by omega) (by omega), hL _ _ q ⟨fun r hr2 => by rw [va_n _ _ hr2]; exact i1 r hr2, fun r hr2 => by rw [va_n _ _ hr2]; exact i2 r hr2, fun k hk2 => ?_, fun k hk2 => ?_⟩⟩
    · rw [va_s]
      by_cases z : k = m
      · rw [z, pk_us]
      · rw [pk_un z]; exact i3 k (by omega)
    · rw [va_s]
      by_cases z : k = m
      · rw [z, pk_uLs]
      · rw [pk_uLn z]; exact i4 k (by omega)
end PA
