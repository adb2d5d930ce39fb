/-! PURE: the reference: whether a row is allowed, its greatest camber -/
theorem lp4_r {A1 A2 A3 A4 : Type} {f : (A1 → A2 → A3 → A4 → Prop) → A1 → A2 → A3 → A4 → Prop} (I : Nat → A1 → A2 → A3 → A4 → Prop) (h : ∀ (L : A1 → A2 → A3 → A4 → Prop) (n : Nat) (x1 : A1) (x2 : A2) (x3 : A3) (x4 : A4), I n x1 x2 x3 x4 → (∀ (m : Nat) (y1 : A1) (y2 : A2) (y3 : A3) (y4 : A4), m < n → I m y1 y2 y3 y4 → L y1 y2 y3 y4) → f L x1 x2 x3 x4) (n : Nat) (x1 : A1) (x2 : A2) (x3 : A3) (x4 : A4) (h0 : I n x1 x2 x3 x4) : zw_lp4 f x1 x2 x3 x4 := by
  have key : ∀ (N n : Nat) (x1 : A1) (x2 : A2) (x3 : A3) (x4 : A4), n < N → I n x1 x2 x3 x4 → zw_lpN4 f N x1 x2 x3 x4 := by
    intro N
    induction N with
    | zero => intro n x1 x2 x3 x4 h; exact absurd h (Nat.not_lt_zero _)
    | succ N ih => intro n x1 x2 x3 x4 hn hI; exact h (zw_lpN4 f N) n x1 x2 x3 x4 hI (fun m y1 y2 y3 y4 hm hJ => ih m y1 y2 y3 y4 (by omega) hJ)
  exact ⟨n + 1, key _ n x1 x2 x3 x4 (Nat.lt_succ_self _) h0⟩
/-- row r keeps what must come before what, and each load has its part -/
def OkR (A bi : Nat → Nat → Int32) (na nd : Nat) (r : Nat → Nat) : Prop :=
  (∀ k, k < nd → ∀ x, Ed bi x (r k) → ∃ j, j < k ∧ r j = x) ∧ (∀ b, b < na → A 6 b = 1 → ∃ k, k < cnt (A 6) b ∧ nI (r k) = A 7 b)
def szA (r : Int64) : Int64 := if 0 < r then r else -r
def mxA (g v : Int64) : Int64 := if v < g then g else v
def gxA (A : Nat → Nat → Int32) (row : Nat → Int32) (nc : Nat) (D : Int32) (na : Nat) : Nat → Int64
  | 0 => 0
  | k + 1 => mxA (gxA A row nc D na k) (szA (rsA A row nc D (A 11 k) (row k).toNatClampNeg na))
theorem gxA_s {A : Nat → Nat → Int32} {row : Nat → Int32} {nc : Nat} {D : Int32} {na k : Nat} : gxA A row nc D na (k + 1) = mxA (gxA A row nc D na k) (szA (rsA A row nc D (A 11 k) (row k).toNatClampNeg na)) := rfl
theorem sz_m (r : Int64) : szA r = if (0 : Int64) ≤ -r then -r else r := by
  unfold szA
  have rr := l_rng r
  have z0 : (0 : Int64).toInt = 0 := rfl
  by_cases h : (0 : Int64) < r
  · rw [if_pos h]
    rw [l_lt, z0] at h
    rw [if_neg (by rw [l_le, z0, l_negR (by omega)]; omega)]
  · rw [if_neg h]
    rw [l_lt, z0] at h
    by_cases g : (0 : Int64) ≤ -r
    · rw [if_pos g]
    · rw [if_neg g]
      by_cases q : r.toInt = -9223372036854775808
      · rw [l_eq, Int64.toInt_neg, q]; decide
      · exact absurd (by rw [l_le, z0, l_negR (by omega)]; omega) g
theorem mx_m {g v : Int64} : mxA g v = if v ≤ g then g else v := by
  unfold mxA
  by_cases h : v < g
  · rw [if_pos h, if_pos (by rw [l_le]; rw [l_lt] at h; omega)]
  · rw [if_neg h]
    by_cases q : v ≤ g
    · rw [if_pos q, l_eq]; rw [l_lt] at h; rw [l_le] at q; omega
    · rw [if_neg q]
theorem mx_ge {g v : Int64} : g.toInt ≤ (mxA g v).toInt ∧ v.toInt ≤ (mxA g v).toInt ∧ (mxA g v = g ∨ mxA g v = v) := by
  unfold mxA
  by_cases h : v < g
  · rw [if_pos h]; rw [l_lt] at h; exact ⟨by omega, by omega, Or.inl rfl⟩
  · rw [if_neg h]; rw [l_lt] at h; exact ⟨by omega, by omega, Or.inr rfl⟩
/-- g is the greatest of the sizes, or 0 -/
def isG (sz : Nat → Int64) (n : Nat) (g : Int64) : Prop := 0 ≤ g.toInt ∧ (∀ k, k < n → (sz k).toInt ≤ g.toInt) ∧ (g = 0 ∨ ∃ k, k < n ∧ g = sz k)
theorem isG_u {sz : Nat → Int64} {n : Nat} {g h : Int64} (a : isG sz n g) (b : isG sz n h) : g = h := by
  obtain ⟨a1, a2, a3⟩ := a
  obtain ⟨b1, b2, b3⟩ := b
  have z0 : (0 : Int64).toInt = 0 := rfl
  rw [l_eq]
  have le1 : g.toInt ≤ h.toInt := by
    rcases a3 with q | ⟨k, q1, q2⟩
    · rw [q, z0]; exact b1
    · rw [q2]; exact b2 k q1
  have le2 : h.toInt ≤ g.toInt := by
    rcases b3 with q | ⟨k, q1, q2⟩
    · rw [q, z0]; exact a1
    · rw [q2]; exact a2 k q1
  omega
theorem gxA_g {A : Nat → Nat → Int32} {row : Nat → Int32} {nc : Nat} {D : Int32} {na : Nat} : ∀ n, isG (fun k => szA (rsA A row nc D (A 11 k) (row k).toNatClampNeg na)) n (gxA A row nc D na n) := by
  intro n
  induction n with
  | zero => exact ⟨(show 0 ≤ (0 : Int64).toInt by decide), fun k h => absurd h (Nat.not_lt_zero _), Or.inl rfl⟩
  | succ n ih =>
    obtain ⟨i1, i2, i3⟩ := ih
    obtain ⟨m1, m2, m3⟩ := mx_ge (g := gxA A row nc D na n) (v := szA (rsA A row nc D (A 11 n) (row n).toNatClampNeg na))
    rw [gxA_s]
    refine ⟨by omega, fun k hk => ?_, ?_⟩
    · by_cases q : k = n
      · rw [q]; exact m2
      · have := i2 k (by omega); omega
    · rcases m3 with q | q
      · rw [q]
        rcases i3 with z | ⟨k, z1, z2⟩
        · exact Or.inl z
        · exact Or.inr ⟨k, by omega, z2⟩
      · rw [q]; exact Or.inr ⟨n, by omega, rfl⟩
section MR
variable {gi gi' fi : Nat → Int32} {gl : Nat → Int64} {bi A bi' : Nat → Nat → Int32} {bl al bl' : Nat → Nat → Int64} {p nc ns na nd nr no : Nat} {r : Nat → Nat}
theorem Mo_isAllowed_s {K : Int32 → (Nat → Nat → Int32) → Prop} (hN : RlN p nc ns na nd nr no fi A al gi bi bl) (hK : Km gi bi bl gi' bi' bl') (hr : ∀ k, k < nd → bi' 20 k = nI (r k)) (hp : ∀ k, k < nd → r k < 6)
    (hy : OkR A bi na nd r → ∀ bi2, (∀ q, q ≠ 27 → bi2 q = bi' q) → K 1 bi2) (hno : ¬ OkR A bi na nd r → ∀ bi2, (∀ q, q ≠ 27 → bi2 q = bi' q) → K 0 bi2) : Mo_isAllowed_w gi' gl bi' bl' K := by
  obtain ⟨hn, hC, hg, hk, hd, ha, hw, hf, he, ho, hr0, hq⟩ := id hN
  obtain ⟨n1, n2, n3, n4, n5, n6, n7, n8⟩ := id hn
  obtain ⟨c7, g0, c1, g1, c2, g2, c3, g3, c4, c6, g6, c11, g7, c5, c0, c0r⟩ := id hC
  unfold Mo_isAllowed_w
  rw [(hK.1 3 (by omega)).trans g3]
  refine nm_i ?_
  refine lp2_c 6 (by omega) (fun m b => (∀ q, q ≠ 27 → b q = bi' q) ∧ ∀ i, i < m → b 27 i = 0) (fun L m b1 hm hI hL => ?_) 0 bi' (by omega) ⟨fun _ _ => rfl, fun i h => absurd h (Nat.not_lt_zero _)⟩
  obtain ⟨i1, i2⟩ := hI
  refine br_n (n := 6) (by omega) (by omega) (fun q => nm_i (nm_i ?_)) (fun q => ?_)
  · refine lp3_d na (by omega) (fun n c b => c = nI (cnt (A 6) n) ∧ (∀ q, q ≠ 27 → b q = bi' q) ∧ (∀ i, i < 6 → (¬ b 27 i = 0 ↔ ∃ k, k < cnt (A 6) n ∧ r k = i)) ∧ (∀ k, k < cnt (A 6) n → ∀ x, Ed bi x (r k) → ∃ j, j < k ∧ r j = x) ∧ (∀ b, b < n → A 6 b = 1 → ∃ k, k < cnt (A 6) b ∧ nI (r k) = A 7 b)) (fun L2 n c b2 hnn hI2 hL2 => ?_) 0 0 b1 (by omega) ⟨rfl, i1, fun i hi => ⟨fun z => absurd (i2 i (by omega)) z, fun ⟨k, h, _⟩ => absurd h (Nat.not_lt_zero _)⟩, fun k h => absurd h (Nat.not_lt_zero _), fun b h => absurd h (Nat.not_lt_zero _)⟩
    obtain ⟨rfl, j1, j2, j3, j4⟩ := hI2
    refine br_n (by omega) (by omega) (fun q2 => ?_) (fun q2 => ⟨vp_in_nI (by omega) (by omega), ?_⟩)
    · obtain rfl : n = na := by omega
      rw [← hw.1] at j3
      exact hy ⟨j3, j4⟩ b2 j1
    · obtain ⟨x1, x2, x3, x4, x5, kind⟩ := ha.1 n q2
      rw [nC (show n < 2147483648 by omega), j1 10 (by omega), hK.2.1 10 (by omega), x1, j1 11 (by omega), hK.2.1 11 (by omega), x2, j1 20 (by omega), j1 8 (by omega), hK.2.1 8 (by omega)]
      refine jn2_o (fun c b => c = nI (cnt (A 6) (n + 1)) ∧ (∀ q, q ≠ 27 → b q = bi' q) ∧ (∀ i, i < 6 → (¬ b 27 i = 0 ↔ ∃ k, k < cnt (A 6) (n + 1) ∧ r k = i)) ∧ (∀ k, k < cnt (A 6) (n + 1) → ∀ x, Ed bi x (r k) → ∃ j, j < k ∧ r j = x) ∧ (A 6 n = 1 → ∃ k, k < cnt (A 6) n ∧ nI (r k) = A 7 n)) (fun c b hY => nm_i ?_) (fun J hJ => br_i Iff.rfl (fun kd => ?_) (fun k0 => ⟨vp_in_nI (by omega) (by omega), br_i Iff.rfl (fun kd => ⟨vp_in_nI (by omega) (by omega), ?_⟩) (fun k1 => hJ _ _ ⟨by rw [cnt_s1 k0], j1, by rw [cnt_s1 k0]; exact j2, by rw [cnt_s1 k0]; exact j3, fun z => absurd z k1⟩)⟩))
      · rw [nI_p1]
        refine hL2 _ _ q2 ⟨hY.1, hY.2.1, hY.2.2.1, hY.2.2.2.1, fun b' hb => ?_⟩
        by_cases z : b' = n
        · rw [z]; exact hY.2.2.2.2
        · exact j4 b' (by omega)
      · have ck : cnt (A 6) n < nd := by rw [hw.1]; exact cnt_lt q2 kd
        have rk := hp _ ck
        rw [nC (show cnt (A 6) n < 2147483648 by omega), hr _ ck]
        refine ⟨vp_in_nI (by omega) (by omega), nm_i (nm_i (nm_i ?_))⟩
        rw [nC (show r (cnt (A 6) n) < 2147483648 by omega), nI_p1]
        refine lp1_c 6 (by omega) (fun m => ∀ x, x < m → Ed bi x (r (cnt (A 6) n)) → ∃ j, j < cnt (A 6) n ∧ r j = x) (fun L3 m hm hI3 hL3 => ?_) 0 (by omega) (fun x h => absurd h (Nat.not_lt_zero _))
        refine br_n (n := 6) (by omega) (by omega) (fun q3 => ⟨vp_in_nI (by omega) (by omega), nm_i (hJ _ _ ⟨by rw [cnt_s0 kd], fun q hq2 => by rw [va_n _ _ hq2]; exact j1 q hq2, fun i hi => ?_, fun k hk2 x ed => ?_, fun z => absurd (kd.symm.trans z) (by decide)⟩)⟩) (fun q3 => ?_)
        · rw [va_s, nar1, cnt_s0 kd]
          by_cases z : i = r (cnt (A 6) n)
          · rw [z, pk_us]
            exact ⟨fun _ => ⟨_, Nat.lt_succ_self _, rfl⟩, fun _ => by decide⟩
          · rw [pk_un z, j2 i hi]
            constructor
            · rintro ⟨k, z1, z2⟩; exact ⟨k, by omega, z2⟩
            · rintro ⟨k, z1, z2⟩
              refine ⟨k, ?_, z2⟩
              rcases Nat.lt_or_ge k (cnt (A 6) n) with u | u
              · exact u
              · exact absurd (by rw [← z2, show k = cnt (A 6) n by omega]) z
        · rw [cnt_s0 kd] at hk2
          by_cases z : k = cnt (A 6) n
          · rw [z] at ed ⊢; exact hI3 x (by have := ed.1; omega) ed
          · exact j3 k (by omega) x ed
        · rw [xi6, nC (show 6 * m + r (cnt (A 6) n) < 2147483648 by omega), nC (show m < 2147483648 by omega)]
          refine ⟨vp_in_nI (by omega) (by omega), jn0_o (Ed bi m (r (cnt (A 6) n)) → ∃ j, j < cnt (A 6) n ∧ r j = m) (fun z => nm_i ?_) (fun J2 hJ2 => br_i Iff.rfl (fun e0 => hJ2 (fun ed => absurd e0 ed.2.2)) (fun e0 => ⟨vp_in_nI (by omega) (by omega), br_i Iff.rfl (fun e1 => ?_) (fun e1 => hJ2 (fun _ => (j2 m q3).mp e1))⟩))⟩
          · rw [nI_p1]
            refine hL3 q3 (fun x hx ed => ?_)
            by_cases y : x = m
            · rw [y] at ed ⊢; exact z ed
            · exact hI3 x (by omega) ed
          · refine hno (fun ok => ?_) b2 j1
            obtain ⟨j, z1, z2⟩ := ok.1 _ ck m ⟨q3, rk, e0⟩
            exact (j2 m q3).mpr ⟨j, z1, z2⟩ e1
      · rcases kind with ⟨k', _⟩ | ⟨_, kp, _⟩ | ⟨k', _⟩ | ⟨k', _⟩
        · exact absurd (k'.symm.trans kd) (by decide)
        · obtain ⟨w, w1, w2, w3⟩ := isP_of kp
          rw [w3, nC w2]
          refine ⟨vp_in_nI (by omega) (by omega), br_i Iff.rfl (fun e1 => hno (fun ok => ?_) b2 j1) (fun e1 => hJ _ _ ⟨by rw [cnt_s1 k0], j1, by rw [cnt_s1 k0]; exact j2, by rw [cnt_s1 k0]; exact j3, fun _ => ?_⟩)⟩
          · obtain ⟨k, z1, z2⟩ := ok.2 n q2 kd
            have := cnt_mono (kd := A 6) (show n ≤ na by omega)
            rw [w3] at z2
            have rk := hp k (by rw [hw.1]; omega)
            exact (j2 w (by omega)).mpr ⟨k, z1, nI_inj (by omega) (by omega) z2⟩ e1
          · obtain ⟨k, z1, z2⟩ := (j2 w (by omega)).mp e1
            exact ⟨k, z1, by rw [z2, w3]⟩
        · exact absurd (k'.symm.trans kd) (by decide)
        · exact absurd (k'.symm.trans kd) (by decide)
  · rw [nC (by omega), nar0]
    refine ⟨vp_in_nI (by omega) (by omega), nm_i (nm_i ?_)⟩
    rw [nI_p1]
    refine hL _ q ⟨fun r hr2 => by rw [va_n _ _ hr2]; exact i1 r hr2, fun i hi => ?_⟩
    rw [va_s]
    by_cases z : i = m
    · rw [z, pk_us]
    · rw [pk_un z]; exact i2 i (by omega)
theorem Mo_greatest_s {K : Int64 → (Nat → Nat → Int32) → (Nat → Nat → Int64) → Prop} (hN : RlN p nc ns na nd nr no fi A al gi bi bl) (hK : Km gi bi bl gi' bi' bl') (h8 : gi' 8 = nI nd) (hr : ∀ k, k < nd → bi' 20 k = nI (r k)) (hp : ∀ k, k < nd → r k < p) (un : ∀ j k, j < nd → k < nd → r j = r k → j = k)
    (hy : ∀ bi2 bl2, (∀ q, q ≠ 22 → q ≠ 24 → bi2 q = bi' q) → (∀ q, q ≠ 21 → q ≠ 23 → q ≠ 25 → bl2 q = bl' q) → K (gxA A (fun k => nI (r k)) nc (edA fi A ns) na nd) bi2 bl2) : Mo_greatest_w gi' gl bi' bl' K := by
  obtain ⟨hn, hC, hg, hk, hd, ha, hw, hf, he, ho, hr0, hq⟩ := id hN
  obtain ⟨n1, n2, n3, n4, n5, n6, n7, n8⟩ := id hn
  have un' : ∀ j k, j < nd → k < nd → nI (r j) = nI (r k) → j = k := fun j k h1 h2 e => un j k h1 h2 (nI_inj (by have := hp j h1; omega) (by have := hp k h2; omega) e)
  unfold Mo_greatest_w
  refine Mo_pass_s (row := fun k => nI (r k)) hN hK hr (fun k hk2 => isP_nI (hp k hk2) (by have := hp k hk2; omega)) un' (fun bi2 bl2 hM => nm_i (nm_i ?_))
  have hQ := hM.mq hK
  rw [h8]
  refine lp2_d nd (by omega) (fun k v => v = gxA A (fun k => nI (r k)) nc (edA fi A ns) na k) (fun L k v hk2 hI hL => ?_) 0 0 (by omega) rfl
  refine br_n (by omega) (by omega) (fun q => ?_) (fun q => ⟨vp_in_nI (by omega) (by omega), ?_⟩)
  · obtain rfl : k = nd := by omega
    rw [hI]; exact hy bi2 bl2 hM.1 hM.2.1
  · rw [nC (by omega), hM.1 20 (by omega) (by omega), hr k q]
    refine Mo_camber_s hN hQ un' (hp k q) q rfl ?_
    have e := gxA_s (A := A) (row := fun k => nI (r k)) (nc := nc) (D := edA fi A ns) (na := na) (k := k)
    rw [show ((fun k => nI (r k)) k).toNatClampNeg = r k from nC (by have := hp k q; omega)] at e
    generalize rsA A (fun k => nI (r k)) nc (edA fi A ns) (A 11 k) (r k) na = R at e ⊢
    refine jn1_o (fun y => y = szA R) (fun y hY => ?_) (fun J hJ => br_i Iff.rfl (fun z => hJ _ ?_) (fun z => hJ _ ?_))
    · refine jn1_o (fun y => y = gxA A (fun k => nI (r k)) nc (edA fi A ns) na (k + 1)) (fun y2 hY2 => nm_i ?_) (fun J hJ => br_i Iff.rfl (fun z => hJ _ ?_) (fun z => hJ _ ?_))
      · rw [nI_p1]; exact hL _ q hY2
      · rw [e, mx_m, ← hI, ← hY, if_pos z]
      · rw [e, mx_m, ← hI, ← hY, if_neg z]
    · rw [sz_m, if_pos z]
    · rw [sz_m, if_neg z, Int64.neg_neg]
end MR
