/-! PURE: the two fresh states are alike -/
theorem parts_s (p0 : Int32) : ∃ p : Nat, 2 ≤ p ∧ p ≤ 6 ∧ SS_fi0 p0 7 = nI p ∧ Mo_fi0 p0 0 = nI p := by
  have e1 : SS_fi0 p0 7 = (if (2 : Int32) < (if p0 < (6 : Int32) then p0 else (6 : Int32)) then (if p0 < (6 : Int32) then p0 else (6 : Int32)) else (2 : Int32)) := rfl
  have e2 : Mo_fi0 p0 0 = (if p0 < (2 : Int32) then (2 : Int32) else if (6 : Int32) < p0 then (6 : Int32) else p0) := rfl
  rw [e1, e2]
  by_cases a : p0 < (6 : Int32)
  · rw [if_pos a]
    by_cases b : (2 : Int32) < p0
    · have a' := a
      have b' := b
      rw [i_lt, show (6 : Int32).toInt = 6 from rfl] at a'
      rw [i_lt, show (2 : Int32).toInt = 2 from rfl] at b'
      obtain ⟨w, w1, w2, w3⟩ := isP_of (p := 6) (x := p0) ⟨by omega, by omega⟩
      have := nT w2
      rw [← w3] at this
      refine ⟨w, by omega, by omega, ?_, ?_⟩
      · rw [if_pos b]; exact w3
      · rw [if_neg (show ¬ p0 < 2 by rw [i_lt, show (2 : Int32).toInt = 2 from rfl]; omega), if_neg (show ¬ (6 : Int32) < p0 by rw [i_lt, show (6 : Int32).toInt = 6 from rfl]; omega)]; exact w3
    · have a' := a
      have b' := b
      rw [i_lt, show (6 : Int32).toInt = 6 from rfl] at a'
      rw [i_lt, show (2 : Int32).toInt = 2 from rfl] at b'
      refine ⟨2, by omega, by omega, ?_, ?_⟩
      · rw [if_neg b]; rfl
      · by_cases c : p0 < (2 : Int32)
        · rw [if_pos c]; rfl
        · rw [if_neg c, if_neg (show ¬ (6 : Int32) < p0 by rw [i_lt, show (6 : Int32).toInt = 6 from rfl]; omega)]
          rw [i_lt, show (2 : Int32).toInt = 2 from rfl] at c
          exact Int32.toInt_inj.mp (by rw [nT (by omega)]; omega)
  · rw [if_neg a, if_pos (show (2 : Int32) < 6 by decide)]
    have a' := a
    rw [i_lt, show (6 : Int32).toInt = 6 from rfl] at a'
    refine ⟨6, by omega, by omega, rfl, ?_⟩
    rw [if_neg (show ¬ p0 < 2 by rw [i_lt, show (2 : Int32).toInt = 2 from rfl]; omega)]
    by_cases c : (6 : Int32) < p0
    · rw [if_pos c]; rfl
    · rw [if_neg c]
      rw [i_lt, show (6 : Int32).toInt = 6 from rfl] at c
      exact Int32.toInt_inj.mp (by rw [nT (by omega)]; omega)
theorem noEd {x y : Nat} : ¬ Ed (fun _ _ => (0 : Int32)) x y := fun h => h.2.2 rfl
theorem noRh {x y : Nat} : ¬ Rh (fun _ _ => (0 : Int32)) x y := fun h => by
  unfold Rh at h
  cases h with
  | single e => exact noEd e
  | tail _ e => exact noEd e
theorem s_start (p0 : Int32) : Rl (SS_fi0 p0, fun _ => 0, fun _ _ => 0, fun _ _ => 0) (Mo_fi0 p0, fun _ => 0, fun _ _ => 0, fun _ _ => 0) := by
  obtain ⟨p, p2, p6, e1, e2⟩ := parts_s p0
  have r0 : isR 0 1000 (0 : Int32) := by decide
  refine Rl.i p 0 0 0 0 0 0 ⟨⟨p2, p6, by omega, by omega, by omega, by omega, by omega, by omega⟩, ⟨e1, e2, rfl, rfl, rfl, rfl, rfl, rfl, rfl, rfl, rfl, rfl, rfl, rfl, rfl, ?_⟩, ⟨fun i _ => ⟨rfl, r0⟩, fun i _ => rfl, fun s i j _ _ _ => rfl, fun k j _ _ => ⟨rfl, ?_⟩, fun k j _ _ => rfl⟩, ⟨fun k h => absurd h (Nat.not_lt_zero _), fun k h => absurd h (Nat.not_lt_zero _)⟩, ⟨fun k h => absurd h (Nat.not_lt_zero _), fun k h => absurd h (Nat.not_lt_zero _)⟩, ⟨fun k h => absurd h (Nat.not_lt_zero _), fun k h => absurd h (Nat.not_lt_zero _)⟩, ⟨rfl, fun k h => absurd h (Nat.not_lt_zero _), fun k _ h => absurd h (Nat.not_lt_zero _), fun k h => absurd h (Nat.not_lt_zero _)⟩, ⟨fun k _ => Or.inl rfl, fun x y h => absurd h noEd, fun x y _ _ => ⟨fun h => ?_, fun h => absurd h noRh⟩, fun y i _ _ => b_0 i, fun x => noRh, fun x y h => absurd h noEd⟩, Or.inl rfl, fun i _ => rfl, fun k h => absurd h (Nat.not_lt_zero _), fun k h => absurd h (Nat.not_lt_zero _)⟩
  · show isR 0 1000 (5 : Int32)
    decide
  · show isR (-1000) 1000 (0 : Int32)
    decide
  · have h : bt (0 : Int32) x = true := h
    rw [b_0] at h; cases h
