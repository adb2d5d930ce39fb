/-! PURE: the reference's rises and levels; level, of, carries -/
/-- the reference behind a pass -/
def Mq (A : Nat → Nat → Int32) (row : Nat → Int32) (p na : Nat) (gi : Nat → Int32) (bi : Nat → Nat → Int32) (bl : Nat → Nat → Int64) (gi' : Nat → Int32) (bi' : Nat → Nat → Int32) (bl' : Nat → Nat → Int64) : Prop :=
  Km gi bi bl gi' bi' bl' ∧ (∀ a i, a < na → i < p → bl' 21 (6 * a + i) = gnA A row i a) ∧ (∀ a k, a < na → k < 3 → bl' 23 (3 * a + k) = carA A row k (a + 1)) ∧ Ab A row na (bi' 22)
theorem Mi.mq {A : Nat → Nat → Int32} {row : Nat → Int32} {p na : Nat} {gi gi1 : Nat → Int32} {bi bi1 bi' : Nat → Nat → Int32} {bl bl1 bl' : Nat → Nat → Int64} (h : Mi A row p na na bi1 bl1 bi' bl') (k : Km gi bi bl gi1 bi1 bl1) : Mq A row p na gi bi bl gi1 bi' bl' :=
  ⟨k.tr ⟨fun _ _ => rfl, fun q hq => h.1 q (by omega) (by omega), h.2.1 14 (by omega) (by omega) (by omega)⟩, h.2.2.2.2.1, h.2.2.2.2.2.1, h.2.2.2.2.2.2⟩
theorem Sp.ex {A : Nat → Nat → Int32} {na : Nat} {l : Int32} : ∃ n, Sp A na l n := by
  have : ∀ m, m ≤ na → (∀ b, b < m → ¬ l < A 9 b) ∨ ∃ n, Sp A na l n := by
    intro m
    induction m with
    | zero => intro _; exact Or.inl (fun b h => absurd h (Nat.not_lt_zero _))
    | succ m ih =>
      intro h
      rcases ih (by omega) with q | q
      · by_cases z : l < A 9 m
        · exact Or.inr ⟨m, by omega, q, Or.inr z⟩
        · refine Or.inl (fun b hb => ?_)
          by_cases y : b = m
          · rw [y]; exact z
          · exact q b (by omega)
      · exact Or.inr q
  rcases this na (Nat.le_refl _) with q | q
  · exact ⟨na, Nat.le_refl _, q, Or.inl rfl⟩
  · exact q
section ML
variable {gi gi' fi : Nat → Int32} {gl : Nat → Int64} {bi A bi' : Nat → Nat → Int32} {bl al bl' : Nat → Nat → Int64} {p nc ns na nd nr no : Nat} {D l : Int32} {row : Nat → Int32}
theorem RlN.nsP (hN : RlN p nc ns na nd nr no fi A al gi bi bl) {k : Nat} (hk : k < nd) : 0 < ns := by
  obtain ⟨a, a1, a2, a3, a4, a5⟩ := hN.row11 hk
  unfold isP at a5; omega
theorem Mo_dayOf_s {K : Int32 → Prop} {a : Nat} (hN : RlN p nc ns na nd nr no fi A al gi bi bl) (hK : Km gi bi bl gi' bi' bl') (ha' : a < na) (h : K (A 5 (A 9 a).toNatClampNeg)) : Mo_dayOf_w gi' gl bi' bl' (nI a) K := by
  obtain ⟨hn, hC, hg, hk, hd, ha, hw, hf, he, ho, hr, hq⟩ := id hN
  obtain ⟨n1, n2, n3, n4, n5, n6, n7, n8⟩ := id hn
  unfold Mo_dayOf_w
  obtain ⟨x1, x2, x3, x4, x5, kind⟩ := ha.1 a ha'
  obtain ⟨s, s1, s2, s3⟩ := isP_of x5
  rw [nC (by omega), hK.2.1 13 (by omega), x4, s3, nC s2, hK.2.1 9 (by omega), (hd.1 s s1).1]
  rw [s3, nC s2] at h
  exact ⟨vp_in_nI (by omega) (by omega), vp_in_nI (by omega) (by omega), h⟩
theorem Mo_rise_s {K : Int64 → Prop} {i k : Nat} (hN : RlN p nc ns na nd nr no fi A al gi bi bl) (hM : Mq A row p na gi bi bl gi' bi' bl') (un : ∀ j k, j < nd → k < nd → row j = row k → j = k) (hi : i < p) (hk' : k < nd) (e : row k = nI i)
    (hy : ∀ n, Sp A na l n → K (rsA A row nc D (A 11 k) i n)) : Mo_rise_w gi' gl bi' bl' (nI i) D l K := by
  obtain ⟨hn, hC, hg, hk, hd, ha, hw, hf, he, ho, hr, hq⟩ := id hN
  obtain ⟨n1, n2, n3, n4, n5, n6, n7, n8⟩ := id hn
  obtain ⟨c7, g0, c1, g1, c2, g2, c3, g3, c4, c6, g6, c11, g7, c5, c0, c0r⟩ := id hC
  obtain ⟨m0, m1, m2, m3⟩ := id hM
  obtain ⟨a, a1, a2, a3, a4, a5⟩ := hN.row11 hk'
  have cr : ∀ {K : Int32 → Prop} {d : Int32}, K (crA A d nc) → Mo_creepAt_w gi' gl bi' bl' d K := fun {K d} h => Mo_creepAt_s ((m0.1 1 (by omega)).trans g1) n3 (fun k hk2 => ⟨by rw [m0.2.1 6 (by omega)]; exact (hk.1 k hk2).1, by rw [m0.2.1 7 (by omega)]; exact (hk.1 k hk2).2.1⟩) h
  unfold Mo_rise_w
  rw [nC (by omega), m3.1 i a (by omega) a1 a2 (by rw [a3]; exact e), m0.1 3 (by omega), g3]
  refine ⟨vp_in_nI (by omega) (by omega), lp2_d na (by omega) (fun n v => v = rsA A row nc D (A 11 k) i n ∧ ∀ b, b < n → ¬ l < A 9 b) (fun L n v hn2 hI hL => ?_) 0 0 (by omega) ⟨rfl, fun b h => absurd h (Nat.not_lt_zero _)⟩⟩
  obtain ⟨rfl, i2⟩ := hI
  refine br_n (by omega) (by omega) (fun q => hy n ⟨by omega, i2, Or.inl (by omega)⟩) (fun q => ⟨vp_in_nI (by omega) (by omega), ?_⟩)
  rw [nC (show n < 2147483648 by omega), m0.2.1 13 (by omega), (ha.1 n q).2.2.2.1]
  refine br_i Iff.rfl (fun z => hy n ⟨by omega, i2, Or.inr z⟩) (fun z => Mo_dayOf_s hN m0 q ?_)
  have st3 : ∀ b, b < n + 1 → ¬ l < A 9 b := fun b hb => by
    by_cases y : b = n
    · rw [y]; exact z
    · exact i2 b (by omega)
  have th : a ≤ n ↔ hasR row (nI i) (cnt (A 6) (n + 1)) = true := by
    rw [hasR_i]
    constructor
    · intro h
      exact ⟨k, by rw [← a3]; exact cnt_lt (by omega) a2, e⟩
    · rintro ⟨j, j1, j2⟩
      rcases Nat.lt_or_ge n a with y | y
      · have := cnt_mono (kd := A 6) (show n + 1 ≤ a by omega)
        have := cnt_mono (kd := A 6) (show a ≤ na by omega)
        have := un j k (by rw [hw.1]; omega) hk' (j2.trans e.symm)
        omega
      · exact y
  unfold zw_nm
  refine jn1_o (fun y => y = faA A row nc D (A 11 k) i n) (fun y hY => ?_) (fun J hJ => br_i (le_nI rfl (by omega) (by omega)) (fun y => cr (hJ _ ?_)) (fun y => cr (Mo_dayOf_s hN m0 a1 (Mo_dayOf_s hN m0 q (cr (hJ _ ?_))))))
  · rw [xi6, nC (by omega), nI_p1, m1 n i q hi]
    refine ⟨vp_in_nI (by omega) (by omega), hL _ q ⟨?_, st3⟩⟩
    rw [rsA_s, hY]
  · unfold faA
    rw [if_pos (th.mp y), add64 (crA_rng hk nc (Nat.le_refl _))]
  · unfold faA
    rw [if_neg (fun u => y (th.mpr u)), a4]
theorem Mo_camber_s {K : Int64 → Prop} {i k : Nat} (hN : RlN p nc ns na nd nr no fi A al gi bi bl) (hM : Mq A row p na gi bi bl gi' bi' bl') (un : ∀ j k, j < nd → k < nd → row j = row k → j = k) (hi : i < p) (hk' : k < nd) (e : row k = nI i)
    (h : K (-(rsA A row nc (edA fi A ns) (A 11 k) i na))) : Mo_camber_w gi' gl bi' bl' (nI i) K := by
  obtain ⟨hn, hC, hg, hk, hd, ha, hw, hf, he, ho, hr, hq⟩ := id hN
  obtain ⟨n1, n2, n3, n4, n5, n6, n7, n8⟩ := id hn
  obtain ⟨c7, g0, c1, g1, c2, g2, c3, g3, c4, c6, g6, c11, g7, c5, c0, c0r⟩ := id hC
  obtain ⟨m0, m1, m2, m3⟩ := id hM
  have ns0 := hN.nsP hk'
  unfold Mo_camber_w
  refine Mo_endDay_s ((m0.1 2 (by omega)).trans g2) n4 ns0 ?_ ?_
  · rw [m0.1 4 (by omega), ← c5]
    rcases he with z | z
    · exact Or.inl z
    · have := (hd.1 (ns - 1) (by omega)).2.1
      exact Or.inr (by omega)
  · rw [m0.1 4 (by omega), ← c5, m0.2.1 9 (by omega), (hd.1 (ns - 1) (by omega)).1]
    refine Mo_rise_s hN hM un hi hk' e (fun n hn2 => ?_)
    obtain ⟨y1, y2, y3⟩ := hn2
    have en : n = na := by
      rcases y3 with y3 | y3
      · exact y3
      · rcases Nat.lt_or_ge n na with q | q
        · have st := (ha.1 n q).2.2.2.2.1
          rw [i_lt, show (11 : Int32).toInt = 11 from rfl] at y3
          unfold isP at st
          omega
        · omega
    rw [en]
    exact h
theorem Mo_cast_s {K : Int64 → Prop} {i k : Nat} (hN : RlN p nc ns na nd nr no fi A al gi bi bl) (hM : Mq A row p na gi bi bl gi' bi' bl') (un : ∀ j k, j < nd → k < nd → row j = row k → j = k) (hi : i < p) (hk' : k < nd) (e : row k = nI i)
    (h : K ((A 21 i).toInt64 * 1000000000 - rsA A row nc (edA fi A ns) (A 11 k) i na + al 17 i)) : Mo_cast_w gi' gl bi' bl' (nI i) K := by
  obtain ⟨hn, hC, hg, hk, hd, ha, hw, hf, he, ho, hr, hq⟩ := id hN
  obtain ⟨n1, n2, n3, n4, n5, n6, n7, n8⟩ := id hn
  unfold Mo_cast_w
  refine ⟨vp_in_nI (by omega) (by omega), Mo_camber_s hN hM un hi hk' e ⟨vp_in_nI (by omega) (by omega), ?_⟩⟩
  rw [nC (by omega), hM.1.2.1 2 (by omega), hM.1.2.2, hg.2.1 i (by omega), ho i (by omega), Int64.mul_comm, ← Int64.sub_eq_add_neg]
  exact h
theorem Mo_levelAt_s {K : Int64 → Prop} {i k s n : Nat} (hN : RlN p nc ns na nd nr no fi A al gi bi bl) (hM : Mq A row p na gi bi bl gi' bi' bl') (un : ∀ j k, j < nd → k < nd → row j = row k → j = k) (hi : i < p) (hk' : k < nd) (e : row k = nI i) (hs : s < ns) (hn' : Sp A na (nI s) n)
    (h : K ((A 21 i).toInt64 * 1000000000 - rsA A row nc (edA fi A ns) (A 11 k) i na + al 17 i + rsA A row nc (A 5 s) (A 11 k) i n)) : Mo_levelAt_w gi' gl bi' bl' (nI i) (nI s) K := by
  obtain ⟨hn, hC, hg, hk, hd, ha, hw, hf, he, ho, hr, hq⟩ := id hN
  obtain ⟨n1, n2, n3, n4, n5, n6, n7, n8⟩ := id hn
  unfold Mo_levelAt_w
  refine Mo_cast_s hN hM un hi hk' e ⟨vp_in_nI (by omega) (by omega), ?_⟩
  rw [nC (by omega), hM.1.2.1 9 (by omega), (hd.1 s hs).1]
  refine Mo_rise_s hN hM un hi hk' e (fun m hm => ?_)
  rw [hm.uniq hn']; exact h
theorem Mo_isThere_s {K : Int32 → Prop} {x y : Int32} (hN : RlN p nc ns na nd nr no fi A al gi bi bl) (hM : Mq A (A 10) p na gi bi bl gi' bi' bl') (hy : thA A p ns nd x y → K 1) (hno : ¬ thA A p ns nd x y → K 0) : Mo_isThere_w gi' gl bi' bl' x y K := by
  obtain ⟨hn, hC, hg, hk, hd, ha, hw, hf, he, ho, hr, hq⟩ := id hN
  obtain ⟨n1, n2, n3, n4, n5, n6, n7, n8⟩ := id hn
  obtain ⟨c7, g0, c1, g1, c2, g2, c3, g3, c4, c6, g6, c11, g7, c5, c0, c0r⟩ := id hC
  obtain ⟨m0, m1, m2, m3⟩ := id hM
  unfold Mo_isThere_w
  refine Mo_isPart_s ((m0.1 0 (by omega)).trans g0) n2 (br_b (fun e1 => ?_) (fun e1 => hno (fun ⟨i, k, q1, q2, q3, _⟩ => e1 (by rw [q3]; exact isP_nI q1 (by omega)))))
  obtain ⟨i, hi, hi2, rfl⟩ := isP_of e1
  refine Mo_isStage_s ((m0.1 2 (by omega)).trans g2) n4 (br_b (fun e2 => ⟨vp_in_nI (by omega) (by omega), ?_⟩) (fun e2 => hno (fun ⟨i, k, q1, q2, q3, q4, q5, _⟩ => e2 q5)))
  rw [nC hi2]
  by_cases q : ∃ k, k < nd ∧ A 10 k = nI i
  · obtain ⟨k, k1, k2⟩ := q
    obtain ⟨a, a1, a2, a3, a4, a5⟩ := hN.row11 k1
    rw [m3.1 i a (by omega) a1 a2 (by rw [a3]; exact k2), nC (show a < 2147483648 by omega), m0.2.1 13 (by omega), (ha.1 a a1).2.2.2.1, if_neg (show ¬ nI a < 0 by rw [i_lt, nT (by omega), show (0 : Int32).toInt = 0 from rfl]; omega)]
    refine ⟨vp_in_nI (by omega) (by omega), vp_in_nI (by omega) (by omega), br_i i_lt (fun e4 => hno (fun ⟨i', k', q1, q2, q3, q4, q5, q6⟩ => ?_)) (fun e4 => hy ⟨i, k, hi, k1, rfl, k2, e2, by rw [a4]; omega⟩)⟩
    obtain rfl : i = i' := nI_inj (by omega) (by omega) q3
    obtain rfl : k' = k := hw.2.2.1 k' k q2 k1 (q4.trans k2.symm)
    rw [a4] at q6
    omega
  · rw [m3.2 i (by omega) (fun a h1 h2 h3 => q ⟨cnt (A 6) a, by rw [hw.1]; exact cnt_lt h1 h2, h3⟩), if_pos (show (-1 : Int32) < 0 by decide)]
    refine hno (fun ⟨i', k', q1, q2, q3, q4, q5, q6⟩ => ?_)
    obtain rfl : i = i' := nI_inj (by omega) (by omega) q3
    exact q ⟨k', q2, q4⟩
theorem Mo_carriedAt_s {K : Int64 → Prop} {k n : Nat} (hN : RlN p nc ns na nd nr no fi A al gi bi bl) (hM : Mq A row p na gi bi bl gi' bi' bl') (hk3 : k < 3) (hn' : Sp A na l n) (h : K (carA A row k n)) : Mo_carriedAt_w gi' gl bi' bl' (nI k) l K := by
  obtain ⟨hn, hC, hg, hk, hd, ha, hw, hf, he, ho, hr, hq⟩ := id hN
  obtain ⟨n1, n2, n3, n4, n5, n6, n7, n8⟩ := id hn
  obtain ⟨c7, g0, c1, g1, c2, g2, c3, g3, c4, c6, g6, c11, g7, c5, c0, c0r⟩ := id hC
  obtain ⟨m0, m1, m2, m3⟩ := id hM
  obtain ⟨y1, y2, y3⟩ := hn'
  unfold Mo_carriedAt_w
  rw [m0.1 3 (by omega), g3]
  refine lp2_d na (by omega) (fun m v => (m ≤ n → v = carA A row k m) ∧ (n ≤ m → v = carA A row k n)) (fun L m v hm hI hL => ?_) 0 0 (by omega) ⟨fun _ => rfl, fun z => by rw [show n = 0 by omega]; rfl⟩
  obtain ⟨i1, i2⟩ := hI
  refine br_n (by omega) (by omega) (fun q => by rw [i2 (by omega)]; exact h) (fun q => ⟨vp_in_nI (by omega) (by omega), ?_⟩)
  rw [nC (by omega), m0.2.1 13 (by omega), (ha.1 m q).2.2.2.1]
  refine jn1_o (fun v => (m + 1 ≤ n → v = carA A row k (m + 1)) ∧ (n ≤ m + 1 → v = carA A row k n)) (fun v hY => ?_) (fun J hJ => br_i Iff.rfl (fun z => hJ _ ?_) (fun z => ?_))
  · unfold zw_nm; rw [nI_p1]; exact hL v q hY
  · have lt : n ≤ m := by
      rcases Nat.lt_or_ge m n with u | u
      · exact absurd z (y2 m u)
      · exact u
    exact ⟨fun u => by omega, fun _ => i2 lt⟩
  · have lt : m < n := by
      rcases Nat.lt_or_ge m n with u | u
      · exact u
      · rcases y3 with w | w
        · omega
        · have := ha.mono u q
          rw [i_lt] at w z
          omega
    rw [xi3, nC (by omega)]
    refine ⟨vp_in_nI (by omega) (by omega), hJ _ ⟨fun _ => m2 m k q hk3, fun u => ?_⟩⟩
    rw [m2 m k q hk3, show n = m + 1 by omega]
theorem Mo_passPlan_s {K : (Nat → Int32) → (Nat → Nat → Int32) → (Nat → Nat → Int64) → Prop} (hN : RlN p nc ns na nd nr no fi A al gi bi bl) (hy : ∀ gi' bi' bl', Mq A (A 10) p na gi bi bl gi' bi' bl' → K gi' bi' bl') : Mo_passPlan_w gi gl bi bl K := by
  obtain ⟨hn, hC, hg, hk, hd, ha, hw, hf, he, ho, hr, hq⟩ := id hN
  unfold Mo_passPlan_w
  refine hN.take (fun tk htk => ?_)
  refine Mo_pass_s (row := A 10) hN Km.take (fun k hk2 => by rw [va_s]; exact htk k hk2) (fun k hk2 => hN.rowP k hk2) hw.2.2.1 (fun bi' bl' hM => hy _ _ _ (hM.mq Km.take))
end ML
theorem s_level : st_level Rl := by
  intro fi fl ai al gi gl bi bl v1 v2 hR
  obtain ⟨p, nc, ns, na, nd, nr, no, hN⟩ := Rl.e hR
  obtain ⟨hn, hC, hg, hk, hd, ha, hw, hf, he, ho, hr, hq⟩ := id hN
  obtain ⟨n1, n2, n3, n4, n5, n6, n7, n8⟩ := id hn
  unfold SS_level_w
  refine SS_isThere_s hN Kw.rf (fun th => if1 ?_) (fun th => if0 ?_)
  · unfold SS_levelThen_w
    obtain ⟨i, k, t1, t2, t3, t4, t5, t6⟩ := id th
    obtain ⟨s, s1, s2, s3⟩ := isP_of t5
    subst t3 s3
    refine SS_castAll_s hN (fun fi1 ai1 al1 k1 e1 => SS_walkTo_s hN k1 s1 (fun fi2 ai2 al2 n k2 e18 sp e42 e41 => SS_heightNow_s (by omega) ?_))
    unfold Mo_level_w
    refine Mo_passPlan_s hN (fun gi' bi' bl' hM => Mo_isThere_s hN hM (fun _ => if1 ?_) (fun z => absurd th z))
    refine Mo_levelAt_s hN hM hw.2.2.1 t1 t2 t4 s1 sp ⟨?_, Rl.i p nc ns na nd nr no (hN.keep (k1.tr k2).kc hM.1)⟩
    rw [e18, (e1 i k t1 t2 t4).2, e41 i k t1 t2 t4]
  · unfold Mo_level_w
    refine Mo_passPlan_s hN (fun gi' bi' bl' hM => Mo_isThere_s hN hM (fun z => absurd z th) (fun _ => if0 ?_))
    exact ⟨rfl, Rl.i p nc ns na nd nr no (hN.keep Kc.rf hM.1)⟩
theorem s_carries : st_carries Rl := by
  intro fi fl ai al gi gl bi bl v1 v2 hR
  obtain ⟨p, nc, ns, na, nd, nr, no, hN⟩ := Rl.e hR
  obtain ⟨hn, hC, hg, hk, hd, ha, hw, hf, he, ho, hr, hq⟩ := id hN
  obtain ⟨n1, n2, n3, n4, n5, n6, n7, n8⟩ := id hn
  obtain ⟨c7, g0, c1, g1, c2, g2, c3, g3, c4, c6, g6, c11, g7, c5, c0, c0r⟩ := id hC
  unfold SS_carries_w
  have mo : ∀ {K : Int64 → (Nat → Int32) → (Nat → Nat → Int32) → (Nat → Nat → Int64) → Prop}, ¬ (isP 3 v1 ∧ isP ns v2) → (∀ gi' bi' bl', Km gi bi bl gi' bi' bl' → K (-1000000000000000000) gi' bi' bl') → Mo_carries_w gi gl bi bl v1 v2 K := fun {K} h hK => by
    unfold Mo_carries_w
    refine Mo_passPlan_s hN (fun gi' bi' bl' hM => Mo_in_r (a := 0) (b := 2) rfl rfl (br_b (fun e1 => ?_) (fun e1 => hK _ _ _ hM.1)))
    refine Mo_isStage_s ((hM.1.1 2 (by omega)).trans g2) n4 (br_b (fun e2 => absurd ⟨isR3.mp e1, e2⟩ h) (fun e2 => hK _ _ _ hM.1))
  refine SS_isSupport_s (br_b (fun e1 => ?_) (fun e1 => mo (fun q => e1 q.1) (fun gi' bi' bl' hM => ⟨rfl, Rl.i p nc ns na nd nr no (hN.keep Kc.rf hM)⟩)))
  refine Pl_hasStage_s c2 n4 (br_b (fun e2 => ?_) (fun e2 => mo (fun q => e2 q.2) (fun gi' bi' bl' hM => ⟨rfl, Rl.i p nc ns na nd nr no (hN.keep Kc.rf hM)⟩)))
  obtain ⟨k, k1, k2, rfl⟩ := isP_of e1
  obtain ⟨s, s1, s2, rfl⟩ := isP_of e2
  refine SS_walkTo_s hN Kw.rf s1 (fun fi2 ai2 al2 n kw e18 sp e42 e41 => ⟨vp_in_nI (by omega) (by omega), ?_⟩)
  unfold Mo_carries_w
  refine Mo_passPlan_s hN (fun gi' bi' bl' hM => Mo_in_r (a := 0) (b := 2) rfl rfl (br_b (fun e1' => ?_) (fun e1' => absurd (isR3.mpr e1) e1')))
  refine Mo_isStage_s ((hM.1.1 2 (by omega)).trans g2) n4 (br_b (fun e2' => ?_) (fun e2' => absurd e2 e2'))
  refine Mo_carriedAt_s hN hM k1 sp ⟨?_, Rl.i p nc ns na nd nr no (hN.keep kw.kc hM.1)⟩
  rw [nC k2]; exact e42 k k1
